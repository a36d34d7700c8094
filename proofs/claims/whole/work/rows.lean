section
-- ===== PART A: goes FIRST, ahead of the names: the tables' words, and 'selects' of the private methods out of them =====
/-- a private method of a class that the tables say can be made, by its rows of tables_1 -/
def lw_okq (q : MethodName × Nat) : Prop := (q.1.cls ≠ "java/lang/invoke/MethodHandle" ∧ q.1.cls ≠ "java/lang/invoke/VarHandle") ∧ Cond.instantiable q.1.cls q.2 ∈ tables_1 ∧ Cond.privateMethod q.1 ∈ tables_1 ∧ Cond.instanceMethod q.1 ∈ tables_1
theorem lw_p0 : lw_okq (⟨"SevenPedals", "finding", "(I)I"⟩, 7) := ⟨⟨by decide +kernel, by decide +kernel⟩, List.mem_of_getElem? (i := 13) (by decide +kernel), List.mem_of_getElem? (i := 254) (by decide +kernel), List.mem_of_getElem? (i := 255) (by decide +kernel)⟩
theorem lw_p1 : lw_okq (⟨"SevenPedals$Way", "forgetAnswers", "()V"⟩, 18) := ⟨⟨by decide +kernel, by decide +kernel⟩, List.mem_of_getElem? (i := 139) (by decide +kernel), List.mem_of_getElem? (i := 276) (by decide +kernel), List.mem_of_getElem? (i := 277) (by decide +kernel)⟩
theorem lw_p2 : lw_okq (⟨"SevenPedals", "isNote", "(II)Z"⟩, 7) := ⟨⟨by decide +kernel, by decide +kernel⟩, List.mem_of_getElem? (i := 13) (by decide +kernel), List.mem_of_getElem? (i := 315) (by decide +kernel), List.mem_of_getElem? (i := 316) (by decide +kernel)⟩
theorem lw_p3 : lw_okq (⟨"SevenPedals$Chord", "findStrings", "(II)V"⟩, 11) := ⟨⟨by decide +kernel, by decide +kernel⟩, List.mem_of_getElem? (i := 99) (by decide +kernel), List.mem_of_getElem? (i := 400) (by decide +kernel), List.mem_of_getElem? (i := 401) (by decide +kernel)⟩
theorem lw_p4 : lw_okq (⟨"SevenPedals$Way", "fillOnward", "(I[I)V"⟩, 18) := ⟨⟨by decide +kernel, by decide +kernel⟩, List.mem_of_getElem? (i := 139) (by decide +kernel), List.mem_of_getElem? (i := 435) (by decide +kernel), List.mem_of_getElem? (i := 436) (by decide +kernel)⟩
theorem lw_p5 : lw_okq (⟨"SevenPedals$Way", "fillLockedOnward", "([I[I)V"⟩, 18) := ⟨⟨by decide +kernel, by decide +kernel⟩, List.mem_of_getElem? (i := 139) (by decide +kernel), List.mem_of_getElem? (i := 460) (by decide +kernel), List.mem_of_getElem? (i := 461) (by decide +kernel)⟩
theorem lw_p6 : lw_okq (⟨"SevenPedals$Way", "bestByFoot", "([III)I"⟩, 18) := ⟨⟨by decide +kernel, by decide +kernel⟩, List.mem_of_getElem? (i := 139) (by decide +kernel), List.mem_of_getElem? (i := 465) (by decide +kernel), List.mem_of_getElem? (i := 466) (by decide +kernel)⟩
theorem lw_p7 : lw_okq (⟨"SevenPedals$Way", "reach", "(II[I)I"⟩, 18) := ⟨⟨by decide +kernel, by decide +kernel⟩, List.mem_of_getElem? (i := 139) (by decide +kernel), List.mem_of_getElem? (i := 469) (by decide +kernel), List.mem_of_getElem? (i := 470) (by decide +kernel)⟩
theorem lw_p8 : lw_okq (⟨"SevenPedals$Way", "bestByBoth", "([III)I"⟩, 18) := ⟨⟨by decide +kernel, by decide +kernel⟩, List.mem_of_getElem? (i := 139) (by decide +kernel), List.mem_of_getElem? (i := 477) (by decide +kernel), List.mem_of_getElem? (i := 478) (by decide +kernel)⟩
theorem lw_p9 : lw_okq (⟨"SevenPedals$Way", "dropUnfit", "([I)V"⟩, 18) := ⟨⟨by decide +kernel, by decide +kernel⟩, List.mem_of_getElem? (i := 139) (by decide +kernel), List.mem_of_getElem? (i := 481) (by decide +kernel), List.mem_of_getElem? (i := 482) (by decide +kernel)⟩
theorem lw_p10 : lw_okq (⟨"SevenPedals$Way", "makeArrival", "(I)V"⟩, 18) := ⟨⟨by decide +kernel, by decide +kernel⟩, List.mem_of_getElem? (i := 139) (by decide +kernel), List.mem_of_getElem? (i := 488) (by decide +kernel), List.mem_of_getElem? (i := 489) (by decide +kernel)⟩
theorem lw_p11 : lw_okq (⟨"SevenPedals$Way", "fillFirstArrival", "()V"⟩, 18) := ⟨⟨by decide +kernel, by decide +kernel⟩, List.mem_of_getElem? (i := 139) (by decide +kernel), List.mem_of_getElem? (i := 492) (by decide +kernel), List.mem_of_getElem? (i := 493) (by decide +kernel)⟩
theorem lw_p12 : lw_okq (⟨"SevenPedals$Way", "unlikeStart", "(I)I"⟩, 18) := ⟨⟨by decide +kernel, by decide +kernel⟩, List.mem_of_getElem? (i := 139) (by decide +kernel), List.mem_of_getElem? (i := 496) (by decide +kernel), List.mem_of_getElem? (i := 497) (by decide +kernel)⟩
theorem lw_p13 : lw_okq (⟨"SevenPedals$Way", "fillLockedArrival", "([I[I)V"⟩, 18) := ⟨⟨by decide +kernel, by decide +kernel⟩, List.mem_of_getElem? (i := 139) (by decide +kernel), List.mem_of_getElem? (i := 502) (by decide +kernel), List.mem_of_getElem? (i := 503) (by decide +kernel)⟩
theorem lw_p14 : lw_okq (⟨"SevenPedals$Way", "bringByFoot", "(III[I)V"⟩, 18) := ⟨⟨by decide +kernel, by decide +kernel⟩, List.mem_of_getElem? (i := 139) (by decide +kernel), List.mem_of_getElem? (i := 506) (by decide +kernel), List.mem_of_getElem? (i := 507) (by decide +kernel)⟩
theorem lw_p15 : lw_okq (⟨"SevenPedals$Way", "bringByBoth", "(III[I)V"⟩, 18) := ⟨⟨by decide +kernel, by decide +kernel⟩, List.mem_of_getElem? (i := 139) (by decide +kernel), List.mem_of_getElem? (i := 510) (by decide +kernel), List.mem_of_getElem? (i := 511) (by decide +kernel)⟩
def lw_privs_1 : List (MethodName × Nat) := [(⟨"SevenPedals", "finding", "(I)I"⟩, 7), (⟨"SevenPedals$Way", "forgetAnswers", "()V"⟩, 18), (⟨"SevenPedals", "isNote", "(II)Z"⟩, 7), (⟨"SevenPedals$Chord", "findStrings", "(II)V"⟩, 11), (⟨"SevenPedals$Way", "fillOnward", "(I[I)V"⟩, 18), (⟨"SevenPedals$Way", "fillLockedOnward", "([I[I)V"⟩, 18), (⟨"SevenPedals$Way", "bestByFoot", "([III)I"⟩, 18), (⟨"SevenPedals$Way", "reach", "(II[I)I"⟩, 18), (⟨"SevenPedals$Way", "bestByBoth", "([III)I"⟩, 18), (⟨"SevenPedals$Way", "dropUnfit", "([I)V"⟩, 18), (⟨"SevenPedals$Way", "makeArrival", "(I)V"⟩, 18), (⟨"SevenPedals$Way", "fillFirstArrival", "()V"⟩, 18), (⟨"SevenPedals$Way", "unlikeStart", "(I)I"⟩, 18), (⟨"SevenPedals$Way", "fillLockedArrival", "([I[I)V"⟩, 18), (⟨"SevenPedals$Way", "bringByFoot", "(III[I)V"⟩, 18), (⟨"SevenPedals$Way", "bringByBoth", "(III[I)V"⟩, 18)]
theorem lw_r1 : ∀ q ∈ lw_privs_1, lw_okq q := List.forall_mem_cons.mpr ⟨lw_p0, List.forall_mem_cons.mpr ⟨lw_p1, List.forall_mem_cons.mpr ⟨lw_p2, List.forall_mem_cons.mpr ⟨lw_p3, List.forall_mem_cons.mpr ⟨lw_p4, List.forall_mem_cons.mpr ⟨lw_p5, List.forall_mem_cons.mpr ⟨lw_p6, List.forall_mem_cons.mpr ⟨lw_p7, List.forall_mem_cons.mpr ⟨lw_p8, List.forall_mem_cons.mpr ⟨lw_p9, List.forall_mem_cons.mpr ⟨lw_p10, List.forall_mem_cons.mpr ⟨lw_p11, List.forall_mem_cons.mpr ⟨lw_p12, List.forall_mem_cons.mpr ⟨lw_p13, List.forall_mem_cons.mpr ⟨lw_p14, List.forall_mem_cons.mpr ⟨lw_p15, fun _ h => absurd h List.not_mem_nil⟩⟩⟩⟩⟩⟩⟩⟩⟩⟩⟩⟩⟩⟩⟩⟩
theorem lw_p16 : lw_okq (⟨"SevenPedals$Way", "trace", "()V"⟩, 18) := ⟨⟨by decide +kernel, by decide +kernel⟩, List.mem_of_getElem? (i := 139) (by decide +kernel), List.mem_of_getElem? (i := 520) (by decide +kernel), List.mem_of_getElem? (i := 521) (by decide +kernel)⟩
theorem lw_p17 : lw_okq (⟨"SevenPedals$Way", "leastNext", "(II)I"⟩, 18) := ⟨⟨by decide +kernel, by decide +kernel⟩, List.mem_of_getElem? (i := 139) (by decide +kernel), List.mem_of_getElem? (i := 528) (by decide +kernel), List.mem_of_getElem? (i := 529) (by decide +kernel)⟩
theorem lw_p18 : lw_okq (⟨"SevenPedals", "isPlayed", "(I)Z"⟩, 7) := ⟨⟨by decide +kernel, by decide +kernel⟩, List.mem_of_getElem? (i := 13) (by decide +kernel), List.mem_of_getElem? (i := 537) (by decide +kernel), List.mem_of_getElem? (i := 538) (by decide +kernel)⟩
theorem lw_p19 : lw_okq (⟨"SevenPedals$Way", "canStandAt", "(I)Z"⟩, 18) := ⟨⟨by decide +kernel, by decide +kernel⟩, List.mem_of_getElem? (i := 139) (by decide +kernel), List.mem_of_getElem? (i := 570) (by decide +kernel), List.mem_of_getElem? (i := 571) (by decide +kernel)⟩
theorem lw_p20 : lw_okq (⟨"SevenPedals$Chord", "sortStrings", "(I)V"⟩, 11) := ⟨⟨by decide +kernel, by decide +kernel⟩, List.mem_of_getElem? (i := 99) (by decide +kernel), List.mem_of_getElem? (i := 594) (by decide +kernel), List.mem_of_getElem? (i := 595) (by decide +kernel)⟩
theorem lw_p21 : lw_okq (⟨"SevenPedals$Chord", "handCan", "(II)Z"⟩, 11) := ⟨⟨by decide +kernel, by decide +kernel⟩, List.mem_of_getElem? (i := 99) (by decide +kernel), List.mem_of_getElem? (i := 598) (by decide +kernel), List.mem_of_getElem? (i := 599) (by decide +kernel)⟩
theorem lw_p22 : lw_okq (⟨"SevenPedalsModel", "finding", "(I)I"⟩, 18) := ⟨⟨by decide +kernel, by decide +kernel⟩, List.mem_of_getElem? (i := 696) (by decide +kernel), List.mem_of_getElem? (i := 762) (by decide +kernel), List.mem_of_getElem? (i := 763) (by decide +kernel)⟩
theorem lw_p23 : lw_okq (⟨"SevenPedalsModel", "becomes", "(II)I"⟩, 18) := ⟨⟨by decide +kernel, by decide +kernel⟩, List.mem_of_getElem? (i := 696) (by decide +kernel), List.mem_of_getElem? (i := 773) (by decide +kernel), List.mem_of_getElem? (i := 774) (by decide +kernel)⟩
theorem lw_p24 : lw_okq (⟨"SevenPedalsModel", "keep", "()V"⟩, 18) := ⟨⟨by decide +kernel, by decide +kernel⟩, List.mem_of_getElem? (i := 696) (by decide +kernel), List.mem_of_getElem? (i := 777) (by decide +kernel), List.mem_of_getElem? (i := 778) (by decide +kernel)⟩
theorem lw_p25 : lw_okq (⟨"SevenPedalsModel", "lay", "(IIIIZ)V"⟩, 18) := ⟨⟨by decide +kernel, by decide +kernel⟩, List.mem_of_getElem? (i := 696) (by decide +kernel), List.mem_of_getElem? (i := 790) (by decide +kernel), List.mem_of_getElem? (i := 791) (by decide +kernel)⟩
theorem lw_p26 : lw_okq (⟨"SevenPedalsModel", "isNote", "(II)Z"⟩, 18) := ⟨⟨by decide +kernel, by decide +kernel⟩, List.mem_of_getElem? (i := 696) (by decide +kernel), List.mem_of_getElem? (i := 802) (by decide +kernel), List.mem_of_getElem? (i := 803) (by decide +kernel)⟩
theorem lw_p27 : lw_okq (⟨"SevenPedalsModel", "note", "(III)I"⟩, 18) := ⟨⟨by decide +kernel, by decide +kernel⟩, List.mem_of_getElem? (i := 696) (by decide +kernel), List.mem_of_getElem? (i := 806) (by decide +kernel), List.mem_of_getElem? (i := 807) (by decide +kernel)⟩
theorem lw_p28 : lw_okq (⟨"SevenPedalsModel", "notes", "()I"⟩, 18) := ⟨⟨by decide +kernel, by decide +kernel⟩, List.mem_of_getElem? (i := 696) (by decide +kernel), List.mem_of_getElem? (i := 820) (by decide +kernel), List.mem_of_getElem? (i := 821) (by decide +kernel)⟩
theorem lw_p29 : lw_okq (⟨"SevenPedalsModel", "stringOf", "(III)I"⟩, 18) := ⟨⟨by decide +kernel, by decide +kernel⟩, List.mem_of_getElem? (i := 696) (by decide +kernel), List.mem_of_getElem? (i := 856) (by decide +kernel), List.mem_of_getElem? (i := 857) (by decide +kernel)⟩
theorem lw_p30 : lw_okq (⟨"SevenPedalsModel", "doesFor", "(II)Z"⟩, 18) := ⟨⟨by decide +kernel, by decide +kernel⟩, List.mem_of_getElem? (i := 696) (by decide +kernel), List.mem_of_getElem? (i := 864) (by decide +kernel), List.mem_of_getElem? (i := 865) (by decide +kernel)⟩
theorem lw_p31 : lw_okq (⟨"SevenPedalsModel", "tell", "()I"⟩, 18) := ⟨⟨by decide +kernel, by decide +kernel⟩, List.mem_of_getElem? (i := 696) (by decide +kernel), List.mem_of_getElem? (i := 876) (by decide +kernel), List.mem_of_getElem? (i := 877) (by decide +kernel)⟩
def lw_privs_2 : List (MethodName × Nat) := [(⟨"SevenPedals$Way", "trace", "()V"⟩, 18), (⟨"SevenPedals$Way", "leastNext", "(II)I"⟩, 18), (⟨"SevenPedals", "isPlayed", "(I)Z"⟩, 7), (⟨"SevenPedals$Way", "canStandAt", "(I)Z"⟩, 18), (⟨"SevenPedals$Chord", "sortStrings", "(I)V"⟩, 11), (⟨"SevenPedals$Chord", "handCan", "(II)Z"⟩, 11), (⟨"SevenPedalsModel", "finding", "(I)I"⟩, 18), (⟨"SevenPedalsModel", "becomes", "(II)I"⟩, 18), (⟨"SevenPedalsModel", "keep", "()V"⟩, 18), (⟨"SevenPedalsModel", "lay", "(IIIIZ)V"⟩, 18), (⟨"SevenPedalsModel", "isNote", "(II)Z"⟩, 18), (⟨"SevenPedalsModel", "note", "(III)I"⟩, 18), (⟨"SevenPedalsModel", "notes", "()I"⟩, 18), (⟨"SevenPedalsModel", "stringOf", "(III)I"⟩, 18), (⟨"SevenPedalsModel", "doesFor", "(II)Z"⟩, 18), (⟨"SevenPedalsModel", "tell", "()I"⟩, 18)]
theorem lw_r2 : ∀ q ∈ lw_privs_2, lw_okq q := List.forall_mem_cons.mpr ⟨lw_p16, List.forall_mem_cons.mpr ⟨lw_p17, List.forall_mem_cons.mpr ⟨lw_p18, List.forall_mem_cons.mpr ⟨lw_p19, List.forall_mem_cons.mpr ⟨lw_p20, List.forall_mem_cons.mpr ⟨lw_p21, List.forall_mem_cons.mpr ⟨lw_p22, List.forall_mem_cons.mpr ⟨lw_p23, List.forall_mem_cons.mpr ⟨lw_p24, List.forall_mem_cons.mpr ⟨lw_p25, List.forall_mem_cons.mpr ⟨lw_p26, List.forall_mem_cons.mpr ⟨lw_p27, List.forall_mem_cons.mpr ⟨lw_p28, List.forall_mem_cons.mpr ⟨lw_p29, List.forall_mem_cons.mpr ⟨lw_p30, List.forall_mem_cons.mpr ⟨lw_p31, fun _ h => absurd h List.not_mem_nil⟩⟩⟩⟩⟩⟩⟩⟩⟩⟩⟩⟩⟩⟩⟩⟩
theorem lw_p32 : lw_okq (⟨"SevenPedalsModel", "tellNext", "(II)V"⟩, 18) := ⟨⟨by decide +kernel, by decide +kernel⟩, List.mem_of_getElem? (i := 696) (by decide +kernel), List.mem_of_getElem? (i := 882) (by decide +kernel), List.mem_of_getElem? (i := 883) (by decide +kernel)⟩
theorem lw_p33 : lw_okq (⟨"SevenPedalsModel", "ringing", "(II)I"⟩, 18) := ⟨⟨by decide +kernel, by decide +kernel⟩, List.mem_of_getElem? (i := 696) (by decide +kernel), List.mem_of_getElem? (i := 886) (by decide +kernel), List.mem_of_getElem? (i := 887) (by decide +kernel)⟩
theorem lw_p34 : lw_okq (⟨"SevenPedalsModel", "ahead", "(I)I"⟩, 18) := ⟨⟨by decide +kernel, by decide +kernel⟩, List.mem_of_getElem? (i := 696) (by decide +kernel), List.mem_of_getElem? (i := 896) (by decide +kernel), List.mem_of_getElem? (i := 897) (by decide +kernel)⟩
theorem lw_p35 : lw_okq (⟨"SevenPedalsModel", "isPlayed", "(I)Z"⟩, 18) := ⟨⟨by decide +kernel, by decide +kernel⟩, List.mem_of_getElem? (i := 696) (by decide +kernel), List.mem_of_getElem? (i := 904) (by decide +kernel), List.mem_of_getElem? (i := 905) (by decide +kernel)⟩
theorem lw_p36 : lw_okq (⟨"SevenPedalsModel", "tellWay", "()I"⟩, 18) := ⟨⟨by decide +kernel, by decide +kernel⟩, List.mem_of_getElem? (i := 696) (by decide +kernel), List.mem_of_getElem? (i := 908) (by decide +kernel), List.mem_of_getElem? (i := 909) (by decide +kernel)⟩
theorem lw_p37 : lw_okq (⟨"SevenPedalsModel", "splitOf", "(II)I"⟩, 18) := ⟨⟨by decide +kernel, by decide +kernel⟩, List.mem_of_getElem? (i := 696) (by decide +kernel), List.mem_of_getElem? (i := 936) (by decide +kernel), List.mem_of_getElem? (i := 937) (by decide +kernel)⟩
theorem lw_p38 : lw_okq (⟨"SevenPedalsModel", "canHand", "(II)Z"⟩, 18) := ⟨⟨by decide +kernel, by decide +kernel⟩, List.mem_of_getElem? (i := 696) (by decide +kernel), List.mem_of_getElem? (i := 940) (by decide +kernel), List.mem_of_getElem? (i := 941) (by decide +kernel)⟩
theorem lw_p39 : lw_okq (⟨"SevenPedalsModel", "hasPart", "(III)Z"⟩, 18) := ⟨⟨by decide +kernel, by decide +kernel⟩, List.mem_of_getElem? (i := 696) (by decide +kernel), List.mem_of_getElem? (i := 975) (by decide +kernel), List.mem_of_getElem? (i := 976) (by decide +kernel)⟩
def lw_privs_3 : List (MethodName × Nat) := [(⟨"SevenPedalsModel", "tellNext", "(II)V"⟩, 18), (⟨"SevenPedalsModel", "ringing", "(II)I"⟩, 18), (⟨"SevenPedalsModel", "ahead", "(I)I"⟩, 18), (⟨"SevenPedalsModel", "isPlayed", "(I)Z"⟩, 18), (⟨"SevenPedalsModel", "tellWay", "()I"⟩, 18), (⟨"SevenPedalsModel", "splitOf", "(II)I"⟩, 18), (⟨"SevenPedalsModel", "canHand", "(II)Z"⟩, 18), (⟨"SevenPedalsModel", "hasPart", "(III)Z"⟩, 18)]
theorem lw_r3 : ∀ q ∈ lw_privs_3, lw_okq q := List.forall_mem_cons.mpr ⟨lw_p32, List.forall_mem_cons.mpr ⟨lw_p33, List.forall_mem_cons.mpr ⟨lw_p34, List.forall_mem_cons.mpr ⟨lw_p35, List.forall_mem_cons.mpr ⟨lw_p36, List.forall_mem_cons.mpr ⟨lw_p37, List.forall_mem_cons.mpr ⟨lw_p38, List.forall_mem_cons.mpr ⟨lw_p39, fun _ h => absurd h List.not_mem_nil⟩⟩⟩⟩⟩⟩⟩⟩
def lw_privs : List (MethodName × Nat) := lw_privs_1 ++ (lw_privs_2 ++ (lw_privs_3))
def lw_tbl : List Cond := k2_sels lw_privs ++ tables_1
theorem lw_privs_ok : ∀ q ∈ lw_privs, lw_okq q := by
  show ∀ q ∈ lw_privs_1 ++ (lw_privs_2 ++ (lw_privs_3)), lw_okq q
  exact List.forall_mem_append.mpr ⟨lw_r1, List.forall_mem_append.mpr ⟨lw_r2, lw_r3⟩⟩
end
section
def RX0 : String := "SevenPedals$Chord"
def TX0 : u_T := fun k => match k with
  | 0 => ("SevenPedals$Chord", "size", "I", false)
  | 1 => ("SevenPedals$Chord", "fingers", "[I", true)
  | 2 => ("SevenPedals$Chord", "rings", "[I", true)
  | 3 => ("SevenPedals$Chord", "lowString", "[I", true)
  | 4 => ("SevenPedals$Chord", "lowStand", "[I", true)
  | 5 => ("SevenPedals$Chord", "highString", "[I", true)
  | 6 => ("SevenPedals$Chord", "highStand", "[I", true)
  | 7 => ("SevenPedals$Chord", "markedBits", "I", false)
  | 8 => ("SevenPedals$Chord", "markedStands", "I", false)
  | 9 => ("SevenPedals$Chord", "handStrings", "[I", true)
  | _ => ("SevenPedals$Chord", "handFingers", "[I", true)
def tyX0 : Nat → FieldType := fun k => match k with
  | 0 => .int
  | 1 => .array .int
  | 2 => .array .int
  | 3 => .array .int
  | 4 => .array .int
  | 5 => .array .int
  | 6 => .array .int
  | 7 => .int
  | 8 => .int
  | 9 => .array .int
  | _ => .array .int
abbrev wsX00 : List Cond := u_ws RX0 TX0 11
theorem nmX0 : ∀ a, a < 11 → ∀ b, b < 11 → a ≠ b → (TX0 a).2.1 ≠ (TX0 b).2.1 := by decide +kernel
theorem tyX0_ok : ∀ k, k < 11 → parseFieldDescriptor (TX0 k).2.2.1 = some (tyX0 k) := by decide +kernel
abbrev cX0_init : ByteArray := prog_2_method_1_code
def yX0_init : MethodName := ⟨RX0, "<init>", "()V"⟩
abbrev cX0_read : ByteArray := prog_2_method_2_code
def yX0_read : MethodName := ⟨RX0, "read", "(LSevenPedals$Part;I)V"⟩
abbrev cX0_findStrings : ByteArray := prog_2_method_3_code
def yX0_findStrings : MethodName := ⟨RX0, "findStrings", "(II)V"⟩
abbrev cX0_forgetMark : ByteArray := prog_2_method_4_code
def yX0_forgetMark : MethodName := ⟨RX0, "forgetMark", "(I)V"⟩
abbrev cX0_isSilent : ByteArray := prog_2_method_5_code
def yX0_isSilent : MethodName := ⟨RX0, "isSilent", "()Z"⟩
abbrev cX0_stringOf : ByteArray := prog_2_method_6_code
def yX0_stringOf : MethodName := ⟨RX0, "stringOf", "(II)I"⟩
abbrev cX0_locksBy : ByteArray := prog_2_method_7_code
def yX0_locksBy : MethodName := ⟨RX0, "locksBy", "(I)I"⟩
abbrev cX0_leastForLeft : ByteArray := prog_2_method_8_code
def yX0_leastForLeft : MethodName := ⟨RX0, "leastForLeft", "(I)I"⟩
abbrev cX0_sortStrings : ByteArray := prog_2_method_9_code
def yX0_sortStrings : MethodName := ⟨RX0, "sortStrings", "(I)V"⟩
abbrev cX0_handCan : ByteArray := prog_2_method_10_code
def yX0_handCan : MethodName := ⟨RX0, "handCan", "(II)Z"⟩
def RX1 : String := "SevenPedals$Harp"
def TX1 : u_T := fun k => match k with
  | _ => ("SevenPedals$Harp", "stands", "[I", true)
def tyX1 : Nat → FieldType := fun k => match k with
  | _ => .array .int
abbrev wsX10 : List Cond := u_ws RX1 TX1 1
theorem nmX1 : ∀ a, a < 1 → ∀ b, b < 1 → a ≠ b → (TX1 a).2.1 ≠ (TX1 b).2.1 := by decide +kernel
theorem tyX1_ok : ∀ k, k < 1 → parseFieldDescriptor (TX1 k).2.2.1 = some (tyX1 k) := by decide +kernel
abbrev cX1_init : ByteArray := prog_3_method_1_code
def yX1_init : MethodName := ⟨RX1, "<init>", "()V"⟩
abbrev cX1_standIn : ByteArray := prog_3_method_2_code
def yX1_standIn : MethodName := ⟨RX1, "standIn", "(II)I"⟩
abbrev cX1_bitsOf : ByteArray := prog_3_method_3_code
def yX1_bitsOf : MethodName := ⟨RX1, "bitsOf", "(I)I"⟩
abbrev cX1_natural : ByteArray := prog_3_method_4_code
def yX1_natural : MethodName := ⟨RX1, "natural", "(I)I"⟩
abbrev cX1_pitchOf : ByteArray := prog_3_method_5_code
def yX1_pitchOf : MethodName := ⟨RX1, "pitchOf", "(II)I"⟩
abbrev cX1_differentPitches : ByteArray := prog_3_method_6_code
def yX1_differentPitches : MethodName := ⟨RX1, "differentPitches", "(III)I"⟩
def RX2 : String := "SevenPedals$History"
def TX2 : u_T := fun k => match k with
  | 0 => ("SevenPedals$History", "ring", "[LSevenPedals$Part;", true)
  | 1 => ("SevenPedals$History", "next", "I", false)
  | _ => ("SevenPedals$History", "kept", "I", false)
def tyX2 : Nat → FieldType := fun k => match k with
  | 0 => .array (.object "SevenPedals$Part")
  | 1 => .int
  | _ => .int
abbrev wsX20 : List Cond := u_ws RX2 TX2 3
theorem nmX2 : ∀ a, a < 3 → ∀ b, b < 3 → a ≠ b → (TX2 a).2.1 ≠ (TX2 b).2.1 := by decide +kernel
theorem tyX2_ok : ∀ k, k < 3 → parseFieldDescriptor (TX2 k).2.2.1 = some (tyX2 k) := by decide +kernel
abbrev cX2_init : ByteArray := prog_4_method_1_code
def yX2_init : MethodName := ⟨RX2, "<init>", "()V"⟩
abbrev cX2_keep : ByteArray := prog_4_method_2_code
def yX2_keep : MethodName := ⟨RX2, "keep", "(LSevenPedals$Part;)V"⟩
abbrev cX2_giveBack : ByteArray := prog_4_method_3_code
def yX2_giveBack : MethodName := ⟨RX2, "giveBack", "(LSevenPedals$Part;)V"⟩
def RX3 : String := "SevenPedals$Part"
def TX3 : u_T := fun k => match k with
  | 0 => ("SevenPedals$Part", "played", "I", false)
  | 1 => ("SevenPedals$Part", "sizes", "[I", true)
  | 2 => ("SevenPedals$Part", "kinds", "[I", true)
  | 3 => ("SevenPedals$Part", "pitches", "[I", true)
  | 4 => ("SevenPedals$Part", "rings", "[I", true)
  | 5 => ("SevenPedals$Part", "marks", "[I", true)
  | _ => ("SevenPedals$Part", "starts", "[I", true)
def tyX3 : Nat → FieldType := fun k => match k with
  | 0 => .int
  | 1 => .array .int
  | 2 => .array .int
  | 3 => .array .int
  | 4 => .array .int
  | 5 => .array .int
  | _ => .array .int
abbrev wsX30 : List Cond := u_ws RX3 TX3 7
theorem nmX3 : ∀ a, a < 7 → ∀ b, b < 7 → a ≠ b → (TX3 a).2.1 ≠ (TX3 b).2.1 := by decide +kernel
theorem tyX3_ok : ∀ k, k < 7 → parseFieldDescriptor (TX3 k).2.2.1 = some (tyX3 k) := by decide +kernel
abbrev cX3_init : ByteArray := prog_5_method_1_code
def yX3_init : MethodName := ⟨RX3, "<init>", "()V"⟩
abbrev cX3_place : ByteArray := prog_5_method_2_code
def yX3_place : MethodName := ⟨RX3, "place", "(II)I"⟩
abbrev cX3_add : ByteArray := prog_5_method_3_code
def yX3_add : MethodName := ⟨RX3, "add", "(IIIZ)I"⟩
abbrev cX3_canRise : ByteArray := prog_5_method_4_code
def yX3_canRise : MethodName := ⟨RX3, "canRise", "(I)Z"⟩
abbrev cX3_rise : ByteArray := prog_5_method_5_code
def yX3_rise : MethodName := ⟨RX3, "rise", "(I)V"⟩
abbrev cX3_takeTune : ByteArray := prog_5_method_6_code
def yX3_takeTune : MethodName := ⟨RX3, "takeTune", "([II)I"⟩
abbrev cX3_countNotes : ByteArray := prog_5_method_7_code
def yX3_countNotes : MethodName := ⟨RX3, "countNotes", "()I"⟩
abbrev cX3_countMarks : ByteArray := prog_5_method_8_code
def yX3_countMarks : MethodName := ⟨RX3, "countMarks", "()I"⟩
abbrev cX3_become : ByteArray := prog_5_method_9_code
def yX3_become : MethodName := ⟨RX3, "become", "(LSevenPedals$Part;)V"⟩
def RX4 : String := "SevenPedals$Sheets"
def TX4 : u_T := fun k => match k with
  | 0 => ("SevenPedals$Sheets", "bits", "[I", true)
  | 1 => ("SevenPedals$Sheets", "sizes", "[I", true)
  | _ => ("SevenPedals$Sheets", "rows", "[[I", true)
def tyX4 : Nat → FieldType := fun k => match k with
  | 0 => .array .int
  | 1 => .array .int
  | _ => .array (.array .int)
abbrev wsX40 : List Cond := u_ws RX4 TX4 3
theorem nmX4 : ∀ a, a < 3 → ∀ b, b < 3 → a ≠ b → (TX4 a).2.1 ≠ (TX4 b).2.1 := by decide +kernel
theorem tyX4_ok : ∀ k, k < 3 → parseFieldDescriptor (TX4 k).2.2.1 = some (tyX4 k) := by decide +kernel
abbrev cX4_init : ByteArray := prog_6_method_1_code
def yX4_init : MethodName := ⟨RX4, "<init>", "()V"⟩
abbrev cX4_isSheet : ByteArray := prog_6_method_2_code
def yX4_isSheet : MethodName := ⟨RX4, "isSheet", "(I)Z"⟩
abbrev cX4_isBits : ByteArray := prog_6_method_3_code
def yX4_isBits : MethodName := ⟨RX4, "isBits", "(I)Z"⟩
abbrev cX4_isMissing : ByteArray := prog_6_method_4_code
def yX4_isMissing : MethodName := ⟨RX4, "isMissing", "(I)Z"⟩
abbrev cX4_renew : ByteArray := prog_6_method_5_code
def yX4_renew : MethodName := ⟨RX4, "renew", "(III)I"⟩
abbrev cX4_write : ByteArray := prog_6_method_6_code
def yX4_write : MethodName := ⟨RX4, "write", "(III)V"⟩
abbrev cX4_has : ByteArray := prog_6_method_7_code
def yX4_has : MethodName := ⟨RX4, "has", "(III)Z"⟩
abbrev cX4_hasAbove : ByteArray := prog_6_method_8_code
def yX4_hasAbove : MethodName := ⟨RX4, "hasAbove", "(II)Z"⟩
def RX5 : String := "SevenPedals$Way"
def TX5 : u_T := fun k => match k with
  | 0 => ("SevenPedals$Way", "harp", "LSevenPedals$Harp;", true)
  | 1 => ("SevenPedals$Way", "part", "LSevenPedals$Part;", true)
  | 2 => ("SevenPedals$Way", "chord", "LSevenPedals$Chord;", true)
  | 3 => ("SevenPedals$Way", "onward", "[[I", true)
  | 4 => ("SevenPedals$Way", "even", "[Z", true)
  | 5 => ("SevenPedals$Way", "arrival", "[[I", true)
  | 6 => ("SevenPedals$Way", "spare", "[I", true)
  | 7 => ("SevenPedals$Way", "leftDone", "[I", true)
  | 8 => ("SevenPedals$Way", "rightDone", "[I", true)
  | 9 => ("SevenPedals$Way", "byLeft", "[I", true)
  | 10 => ("SevenPedals$Way", "byRight", "[I", true)
  | 11 => ("SevenPedals$Way", "path", "[I", true)
  | 12 => ("SevenPedals$Way", "onwardFrom", "I", false)
  | 13 => ("SevenPedals$Way", "arrivalTo", "I", false)
  | 14 => ("SevenPedals$Way", "solved", "Z", false)
  | 15 => ("SevenPedals$Way", "best", "I", false)
  | 16 => ("SevenPedals$Way", "stuckKnown", "Z", false)
  | _ => ("SevenPedals$Way", "stuckAt", "I", false)
def tyX5 : Nat → FieldType := fun k => match k with
  | 0 => .object "SevenPedals$Harp"
  | 1 => .object "SevenPedals$Part"
  | 2 => .object "SevenPedals$Chord"
  | 3 => .array (.array .int)
  | 4 => .array .boolean
  | 5 => .array (.array .int)
  | 6 => .array .int
  | 7 => .array .int
  | 8 => .array .int
  | 9 => .array .int
  | 10 => .array .int
  | 11 => .array .int
  | 12 => .int
  | 13 => .int
  | 14 => .boolean
  | 15 => .int
  | 16 => .boolean
  | _ => .int
abbrev wsX50 : List Cond := u_ws RX5 TX5 18
theorem nmX5 : ∀ a, a < 18 → ∀ b, b < 18 → a ≠ b → (TX5 a).2.1 ≠ (TX5 b).2.1 := by decide +kernel
theorem tyX5_ok : ∀ k, k < 18 → parseFieldDescriptor (TX5 k).2.2.1 = some (tyX5 k) := by decide +kernel
abbrev cX5_init : ByteArray := prog_7_method_1_code
def yX5_init : MethodName := ⟨RX5, "<init>", "(LSevenPedals$Harp;LSevenPedals$Part;)V"⟩
abbrev cX5_forgetAll : ByteArray := prog_7_method_2_code
def yX5_forgetAll : MethodName := ⟨RX5, "forgetAll", "()V"⟩
abbrev cX5_forgetLength : ByteArray := prog_7_method_3_code
def yX5_forgetLength : MethodName := ⟨RX5, "forgetLength", "()V"⟩
abbrev cX5_forgetStart : ByteArray := prog_7_method_4_code
def yX5_forgetStart : MethodName := ⟨RX5, "forgetStart", "()V"⟩
abbrev cX5_forgetBeats : ByteArray := prog_7_method_5_code
def yX5_forgetBeats : MethodName := ⟨RX5, "forgetBeats", "(II)V"⟩
abbrev cX5_forgetAnswers : ByteArray := prog_7_method_6_code
def yX5_forgetAnswers : MethodName := ⟨RX5, "forgetAnswers", "()V"⟩
abbrev cX5_exists : ByteArray := prog_7_method_7_code
def yX5_exists : MethodName := ⟨RX5, "exists", "()Z"⟩
abbrev cX5_cost : ByteArray := prog_7_method_8_code
def yX5_cost : MethodName := ⟨RX5, "cost", "()I"⟩
abbrev cX5_count : ByteArray := prog_7_method_9_code
def yX5_count : MethodName := ⟨RX5, "count", "()I"⟩
abbrev cX5_movedTo : ByteArray := prog_7_method_10_code
def yX5_movedTo : MethodName := ⟨RX5, "movedTo", "(II)I"⟩
abbrev cX5_stuckBeat : ByteArray := prog_7_method_11_code
def yX5_stuckBeat : MethodName := ⟨RX5, "stuckBeat", "()I"⟩
abbrev cX5_canStandAt : ByteArray := prog_7_method_12_code
def yX5_canStandAt : MethodName := ⟨RX5, "canStandAt", "(I)Z"⟩
abbrev cX5_sparedWithout : ByteArray := prog_7_method_13_code
def yX5_sparedWithout : MethodName := ⟨RX5, "sparedWithout", "(II)I"⟩
abbrev cX5_bestOf : ByteArray := prog_7_method_14_code
def yX5_bestOf : MethodName := ⟨RX5, "bestOf", "([I[I)I"⟩
abbrev cX5_better : ByteArray := prog_7_method_15_code
def yX5_better : MethodName := ⟨RX5, "better", "(II)I"⟩
abbrev cX5_isEven : ByteArray := prog_7_method_16_code
def yX5_isEven : MethodName := ⟨RX5, "isEven", "([I)Z"⟩
abbrev cX5_fillOnward : ByteArray := prog_7_method_17_code
def yX5_fillOnward : MethodName := ⟨RX5, "fillOnward", "(I[I)V"⟩
abbrev cX5_dropUnfit : ByteArray := prog_7_method_18_code
def yX5_dropUnfit : MethodName := ⟨RX5, "dropUnfit", "([I)V"⟩
abbrev cX5_spread : ByteArray := prog_7_method_19_code
def yX5_spread : MethodName := ⟨RX5, "spread", "([II[I)V"⟩
abbrev cX5_spreadPedal : ByteArray := prog_7_method_20_code
def yX5_spreadPedal : MethodName := ⟨RX5, "spreadPedal", "([II[I)V"⟩
abbrev cX5_fillLockedOnward : ByteArray := prog_7_method_21_code
def yX5_fillLockedOnward : MethodName := ⟨RX5, "fillLockedOnward", "([I[I)V"⟩
abbrev cX5_bestByBoth : ByteArray := prog_7_method_22_code
def yX5_bestByBoth : MethodName := ⟨RX5, "bestByBoth", "([III)I"⟩
abbrev cX5_bestByFoot : ByteArray := prog_7_method_23_code
def yX5_bestByFoot : MethodName := ⟨RX5, "bestByFoot", "([III)I"⟩
abbrev cX5_reach : ByteArray := prog_7_method_24_code
def yX5_reach : MethodName := ⟨RX5, "reach", "(II[I)I"⟩
abbrev cX5_trace : ByteArray := prog_7_method_25_code
def yX5_trace : MethodName := ⟨RX5, "trace", "()V"⟩
abbrev cX5_leastNext : ByteArray := prog_7_method_26_code
def yX5_leastNext : MethodName := ⟨RX5, "leastNext", "(II)I"⟩
abbrev cX5_makeArrival : ByteArray := prog_7_method_27_code
def yX5_makeArrival : MethodName := ⟨RX5, "makeArrival", "(I)V"⟩
abbrev cX5_fillFirstArrival : ByteArray := prog_7_method_28_code
def yX5_fillFirstArrival : MethodName := ⟨RX5, "fillFirstArrival", "()V"⟩
abbrev cX5_unlikeStart : ByteArray := prog_7_method_29_code
def yX5_unlikeStart : MethodName := ⟨RX5, "unlikeStart", "(I)I"⟩
abbrev cX5_fillLockedArrival : ByteArray := prog_7_method_30_code
def yX5_fillLockedArrival : MethodName := ⟨RX5, "fillLockedArrival", "([I[I)V"⟩
abbrev cX5_bringByBoth : ByteArray := prog_7_method_31_code
def yX5_bringByBoth : MethodName := ⟨RX5, "bringByBoth", "(III[I)V"⟩
abbrev cX5_bringByFoot : ByteArray := prog_7_method_32_code
def yX5_bringByFoot : MethodName := ⟨RX5, "bringByFoot", "(III[I)V"⟩
abbrev cX5_lessen : ByteArray := prog_7_method_33_code
def yX5_lessen : MethodName := ⟨RX5, "lessen", "([I[I)V"⟩
def RX6 : String := "SevenPedals"
def TX6 : u_T := fun k => match k with
  | 0 => ("SevenPedals", "harp", "LSevenPedals$Harp;", true)
  | 1 => ("SevenPedals", "part", "LSevenPedals$Part;", true)
  | 2 => ("SevenPedals", "history", "LSevenPedals$History;", true)
  | 3 => ("SevenPedals", "chord", "LSevenPedals$Chord;", true)
  | 4 => ("SevenPedals", "way", "LSevenPedals$Way;", true)
  | 5 => ("SevenPedals", "sheets", "LSevenPedals$Sheets;", true)
  | _ => ("SevenPedals", "findings", "I", false)
def tyX6 : Nat → FieldType := fun k => match k with
  | 0 => .object "SevenPedals$Harp"
  | 1 => .object "SevenPedals$Part"
  | 2 => .object "SevenPedals$History"
  | 3 => .object "SevenPedals$Chord"
  | 4 => .object "SevenPedals$Way"
  | 5 => .object "SevenPedals$Sheets"
  | _ => .int
abbrev wsX60 : List Cond := u_ws RX6 TX6 7
theorem nmX6 : ∀ a, a < 7 → ∀ b, b < 7 → a ≠ b → (TX6 a).2.1 ≠ (TX6 b).2.1 := by decide +kernel
theorem tyX6_ok : ∀ k, k < 7 → parseFieldDescriptor (TX6 k).2.2.1 = some (tyX6 k) := by decide +kernel
abbrev cX6_init : ByteArray := prog_1_method_1_code
def yX6_init : MethodName := ⟨RX6, "<init>", "()V"⟩
abbrev cX6_beats : ByteArray := prog_1_method_2_code
def yX6_beats : MethodName := ⟨RX6, "beats", "(I)I"⟩
abbrev cX6_note : ByteArray := prog_1_method_3_code
def yX6_note : MethodName := ⟨RX6, "note", "(IIIZ)I"⟩
abbrev cX6_drop : ByteArray := prog_1_method_4_code
def yX6_drop : MethodName := ⟨RX6, "drop", "(I)I"⟩
abbrev cX6_as : ByteArray := prog_1_method_5_code
def yX6_as : MethodName := ⟨RX6, "as", "(III)I"⟩
abbrev cX6_of : ByteArray := prog_1_method_6_code
def yX6_of : MethodName := ⟨RX6, "of", "(III)I"⟩
abbrev cX6_shift : ByteArray := prog_1_method_7_code
def yX6_shift : MethodName := ⟨RX6, "shift", "(I)I"⟩
abbrev cX6_mark : ByteArray := prog_1_method_8_code
def yX6_mark : MethodName := ⟨RX6, "mark", "(III)I"⟩
abbrev cX6_start : ByteArray := prog_1_method_9_code
def yX6_start : MethodName := ⟨RX6, "start", "(II)I"⟩
abbrev cX6_pitch : ByteArray := prog_1_method_10_code
def yX6_pitch : MethodName := ⟨RX6, "pitch", "(II)I"⟩
abbrev cX6_string : ByteArray := prog_1_method_11_code
def yX6_string : MethodName := ⟨RX6, "string", "(III)I"⟩
abbrev cX6_does : ByteArray := prog_1_method_12_code
def yX6_does : MethodName := ⟨RX6, "does", "(II)I"⟩
abbrev cX6_many : ByteArray := prog_1_method_13_code
def yX6_many : MethodName := ⟨RX6, "many", "(I)I"⟩
abbrev cX6_moves : ByteArray := prog_1_method_14_code
def yX6_moves : MethodName := ⟨RX6, "moves", "()I"⟩
abbrev cX6_diagram : ByteArray := prog_1_method_15_code
def yX6_diagram : MethodName := ⟨RX6, "diagram", "(I)I"⟩
abbrev cX6_stand : ByteArray := prog_1_method_16_code
def yX6_stand : MethodName := ⟨RX6, "stand", "(II)I"⟩
abbrev cX6_foot : ByteArray := prog_1_method_17_code
def yX6_foot : MethodName := ⟨RX6, "foot", "(IZ)I"⟩
abbrev cX6_ways : ByteArray := prog_1_method_18_code
def yX6_ways : MethodName := ⟨RX6, "ways", "()I"⟩
abbrev cX6_stuck : ByteArray := prog_1_method_19_code
def yX6_stuck : MethodName := ⟨RX6, "stuck", "()I"⟩
abbrev cX6_without : ByteArray := prog_1_method_20_code
def yX6_without : MethodName := ⟨RX6, "without", "(II)I"⟩
abbrev cX6_split : ByteArray := prog_1_method_21_code
def yX6_split : MethodName := ⟨RX6, "split", "(II)I"⟩
abbrev cX6_hard : ByteArray := prog_1_method_22_code
def yX6_hard : MethodName := ⟨RX6, "hard", "()I"⟩
abbrev cX6_run : ByteArray := prog_1_method_23_code
def yX6_run : MethodName := ⟨RX6, "run", "(IIII)I"⟩
abbrev cX6_plain : ByteArray := prog_1_method_24_code
def yX6_plain : MethodName := ⟨RX6, "plain", "(III)I"⟩
abbrev cX6_sheet : ByteArray := prog_1_method_25_code
def yX6_sheet : MethodName := ⟨RX6, "sheet", "(III)I"⟩
abbrev cX6_put : ByteArray := prog_1_method_26_code
def yX6_put : MethodName := ⟨RX6, "put", "(III)I"⟩
abbrev cX6_copy : ByteArray := prog_1_method_27_code
def yX6_copy : MethodName := ⟨RX6, "copy", "(IIIII)I"⟩
abbrev cX6_tune : ByteArray := prog_1_method_28_code
def yX6_tune : MethodName := ⟨RX6, "tune", "(I)I"⟩
abbrev cX6_undo : ByteArray := prog_1_method_29_code
def yX6_undo : MethodName := ⟨RX6, "undo", "()I"⟩
abbrev cX6_all : ByteArray := prog_1_method_30_code
def yX6_all : MethodName := ⟨RX6, "all", "(I)I"⟩
abbrev cX6_finding : ByteArray := prog_1_method_31_code
def yX6_finding : MethodName := ⟨RX6, "finding", "(I)I"⟩
abbrev cX6_isBeat : ByteArray := prog_1_method_32_code
def yX6_isBeat : MethodName := ⟨RX6, "isBeat", "(I)Z"⟩
abbrev cX6_isPlayed : ByteArray := prog_1_method_33_code
def yX6_isPlayed : MethodName := ⟨RX6, "isPlayed", "(I)Z"⟩
abbrev cX6_isNote : ByteArray := prog_1_method_34_code
def yX6_isNote : MethodName := ⟨RX6, "isNote", "(II)Z"⟩
abbrev cX6_isKind : ByteArray := prog_1_method_35_code
def yX6_isKind : MethodName := ⟨RX6, "isKind", "(I)Z"⟩
abbrev cX6_isUnder : ByteArray := prog_1_method_36_code
def yX6_isUnder : MethodName := ⟨RX6, "isUnder", "(II)Z"⟩
abbrev cX6_isPedal : ByteArray := prog_1_method_37_code
def yX6_isPedal : MethodName := ⟨RX6, "isPedal", "(I)Z"⟩
abbrev cX6_isStandOrNone : ByteArray := prog_1_method_38_code
def yX6_isStandOrNone : MethodName := ⟨RX6, "isStandOrNone", "(I)Z"⟩
abbrev cX6_isString : ByteArray := prog_1_method_39_code
def yX6_isString : MethodName := ⟨RX6, "isString", "(I)Z"⟩
abbrev cX6_isDiagram : ByteArray := prog_1_method_40_code
def yX6_isDiagram : MethodName := ⟨RX6, "isDiagram", "(I)Z"⟩
def RX7 : String := "SevenPedalsModel"
def TX7 : u_T := fun k => match k with
  | 0 => ("SevenPedalsModel", "now", "[I", true)
  | 1 => ("SevenPedalsModel", "kept", "[I", true)
  | 2 => ("SevenPedalsModel", "keptMany", "I", false)
  | 3 => ("SevenPedalsModel", "sheetBits", "[I", true)
  | 4 => ("SevenPedalsModel", "sheetSize", "[I", true)
  | 5 => ("SevenPedalsModel", "sheet", "[I", true)
  | 6 => ("SevenPedalsModel", "found", "I", false)
  | 7 => ("SevenPedalsModel", "left", "[I", true)
  | 8 => ("SevenPedalsModel", "wayMany", "[I", true)
  | 9 => ("SevenPedalsModel", "next", "[I", true)
  | 10 => ("SevenPedalsModel", "cost", "[I", true)
  | 11 => ("SevenPedalsModel", "nexts", "I", false)
  | 12 => ("SevenPedalsModel", "way", "[I", true)
  | 13 => ("SevenPedalsModel", "comes", "[Z", true)
  | 14 => ("SevenPedalsModel", "goes", "[Z", true)
  | 15 => ("SevenPedalsModel", "strings", "[I", true)
  | 16 => ("SevenPedalsModel", "fingers", "[I", true)
  | _ => ("SevenPedalsModel", "carried", "[I", true)
def tyX7 : Nat → FieldType := fun k => match k with
  | 0 => .array .int
  | 1 => .array .int
  | 2 => .int
  | 3 => .array .int
  | 4 => .array .int
  | 5 => .array .int
  | 6 => .int
  | 7 => .array .int
  | 8 => .array .int
  | 9 => .array .int
  | 10 => .array .int
  | 11 => .int
  | 12 => .array .int
  | 13 => .array .boolean
  | 14 => .array .boolean
  | 15 => .array .int
  | 16 => .array .int
  | _ => .array .int
abbrev wsX70 : List Cond := u_ws RX7 TX7 18
theorem nmX7 : ∀ a, a < 18 → ∀ b, b < 18 → a ≠ b → (TX7 a).2.1 ≠ (TX7 b).2.1 := by decide +kernel
theorem tyX7_ok : ∀ k, k < 18 → parseFieldDescriptor (TX7 k).2.2.1 = some (tyX7 k) := by decide +kernel
abbrev cX7_init : ByteArray := prog_9_method_1_code
def yX7_init : MethodName := ⟨RX7, "<init>", "()V"⟩
abbrev cX7_finding : ByteArray := prog_9_method_2_code
def yX7_finding : MethodName := ⟨RX7, "finding", "(I)I"⟩
abbrev cX7_isIn : ByteArray := prog_9_method_3_code
def yX7_isIn : MethodName := ⟨RX7, "isIn", "(III)Z"⟩
abbrev cX7_isBeat : ByteArray := prog_9_method_4_code
def yX7_isBeat : MethodName := ⟨RX7, "isBeat", "(I)Z"⟩
abbrev cX7_isPlayed : ByteArray := prog_9_method_5_code
def yX7_isPlayed : MethodName := ⟨RX7, "isPlayed", "(I)Z"⟩
abbrev cX7_isPedal : ByteArray := prog_9_method_6_code
def yX7_isPedal : MethodName := ⟨RX7, "isPedal", "(I)Z"⟩
abbrev cX7_isDiagram : ByteArray := prog_9_method_7_code
def yX7_isDiagram : MethodName := ⟨RX7, "isDiagram", "(I)Z"⟩
abbrev cX7_isNote : ByteArray := prog_9_method_8_code
def yX7_isNote : MethodName := ⟨RX7, "isNote", "(II)Z"⟩
abbrev cX7_note : ByteArray := prog_9_method_9_code
def yX7_note : MethodName := ⟨RX7, "note", "(III)I"⟩
abbrev cX7_keep : ByteArray := prog_9_method_10_code
def yX7_keep : MethodName := ⟨RX7, "keep", "()V"⟩
abbrev cX7_undo : ByteArray := prog_9_method_11_code
def yX7_undo : MethodName := ⟨RX7, "undo", "()I"⟩
abbrev cX7_becomes : ByteArray := prog_9_method_12_code
def yX7_becomes : MethodName := ⟨RX7, "becomes", "(II)I"⟩
abbrev cX7_beats : ByteArray := prog_9_method_13_code
def yX7_beats : MethodName := ⟨RX7, "beats", "(I)I"⟩
abbrev cX7_lay : ByteArray := prog_9_method_14_code
def yX7_lay : MethodName := ⟨RX7, "lay", "(IIIIZ)V"⟩
abbrev cX7_note_ : ByteArray := prog_9_method_15_code
def yX7_note_ : MethodName := ⟨RX7, "note", "(IIIZ)I"⟩
abbrev cX7_drop : ByteArray := prog_9_method_16_code
def yX7_drop : MethodName := ⟨RX7, "drop", "(I)I"⟩
abbrev cX7_as : ByteArray := prog_9_method_17_code
def yX7_as : MethodName := ⟨RX7, "as", "(III)I"⟩
abbrev cX7_of : ByteArray := prog_9_method_18_code
def yX7_of : MethodName := ⟨RX7, "of", "(III)I"⟩
abbrev cX7_notes : ByteArray := prog_9_method_19_code
def yX7_notes : MethodName := ⟨RX7, "notes", "()I"⟩
abbrev cX7_shift : ByteArray := prog_9_method_20_code
def yX7_shift : MethodName := ⟨RX7, "shift", "(I)I"⟩
abbrev cX7_mark : ByteArray := prog_9_method_21_code
def yX7_mark : MethodName := ⟨RX7, "mark", "(III)I"⟩
abbrev cX7_start : ByteArray := prog_9_method_22_code
def yX7_start : MethodName := ⟨RX7, "start", "(II)I"⟩
abbrev cX7_standOf : ByteArray := prog_9_method_23_code
def yX7_standOf : MethodName := ⟨RX7, "standOf", "(II)I"⟩
abbrev cX7_pitchOf : ByteArray := prog_9_method_24_code
def yX7_pitchOf : MethodName := ⟨RX7, "pitchOf", "(II)I"⟩
abbrev cX7_pitch : ByteArray := prog_9_method_25_code
def yX7_pitch : MethodName := ⟨RX7, "pitch", "(II)I"⟩
abbrev cX7_stringOf : ByteArray := prog_9_method_26_code
def yX7_stringOf : MethodName := ⟨RX7, "stringOf", "(III)I"⟩
abbrev cX7_string : ByteArray := prog_9_method_27_code
def yX7_string : MethodName := ⟨RX7, "string", "(III)I"⟩
abbrev cX7_doesFor : ByteArray := prog_9_method_28_code
def yX7_doesFor : MethodName := ⟨RX7, "doesFor", "(II)Z"⟩
abbrev cX7_does : ByteArray := prog_9_method_29_code
def yX7_does : MethodName := ⟨RX7, "does", "(II)I"⟩
abbrev cX7_many : ByteArray := prog_9_method_30_code
def yX7_many : MethodName := ⟨RX7, "many", "(I)I"⟩
abbrev cX7_ringing : ByteArray := prog_9_method_31_code
def yX7_ringing : MethodName := ⟨RX7, "ringing", "(II)I"⟩
abbrev cX7_tellNext : ByteArray := prog_9_method_32_code
def yX7_tellNext : MethodName := ⟨RX7, "tellNext", "(II)V"⟩
abbrev cX7_moved : ByteArray := prog_9_method_33_code
def yX7_moved : MethodName := ⟨RX7, "moved", "(IIII)I"⟩
abbrev cX7_ahead : ByteArray := prog_9_method_34_code
def yX7_ahead : MethodName := ⟨RX7, "ahead", "(I)I"⟩
abbrev cX7_tell : ByteArray := prog_9_method_35_code
def yX7_tell : MethodName := ⟨RX7, "tell", "()I"⟩
abbrev cX7_tellWay : ByteArray := prog_9_method_36_code
def yX7_tellWay : MethodName := ⟨RX7, "tellWay", "()I"⟩
abbrev cX7_moves : ByteArray := prog_9_method_37_code
def yX7_moves : MethodName := ⟨RX7, "moves", "()I"⟩
abbrev cX7_diagram : ByteArray := prog_9_method_38_code
def yX7_diagram : MethodName := ⟨RX7, "diagram", "(I)I"⟩
abbrev cX7_stand : ByteArray := prog_9_method_39_code
def yX7_stand : MethodName := ⟨RX7, "stand", "(II)I"⟩
abbrev cX7_foot : ByteArray := prog_9_method_40_code
def yX7_foot : MethodName := ⟨RX7, "foot", "(IZ)I"⟩
abbrev cX7_ways : ByteArray := prog_9_method_41_code
def yX7_ways : MethodName := ⟨RX7, "ways", "()I"⟩
abbrev cX7_stuck : ByteArray := prog_9_method_42_code
def yX7_stuck : MethodName := ⟨RX7, "stuck", "()I"⟩
abbrev cX7_without : ByteArray := prog_9_method_43_code
def yX7_without : MethodName := ⟨RX7, "without", "(II)I"⟩
abbrev cX7_canHand : ByteArray := prog_9_method_44_code
def yX7_canHand : MethodName := ⟨RX7, "canHand", "(II)Z"⟩
abbrev cX7_splitOf : ByteArray := prog_9_method_45_code
def yX7_splitOf : MethodName := ⟨RX7, "splitOf", "(II)I"⟩
abbrev cX7_split : ByteArray := prog_9_method_46_code
def yX7_split : MethodName := ⟨RX7, "split", "(II)I"⟩
abbrev cX7_hard : ByteArray := prog_9_method_47_code
def yX7_hard : MethodName := ⟨RX7, "hard", "()I"⟩
abbrev cX7_isRun : ByteArray := prog_9_method_48_code
def yX7_isRun : MethodName := ⟨RX7, "isRun", "(III)Z"⟩
abbrev cX7_run : ByteArray := prog_9_method_49_code
def yX7_run : MethodName := ⟨RX7, "run", "(IIII)I"⟩
abbrev cX7_plain : ByteArray := prog_9_method_50_code
def yX7_plain : MethodName := ⟨RX7, "plain", "(III)I"⟩
abbrev cX7_isSheet : ByteArray := prog_9_method_51_code
def yX7_isSheet : MethodName := ⟨RX7, "isSheet", "(I)Z"⟩
abbrev cX7_sheet : ByteArray := prog_9_method_52_code
def yX7_sheet : MethodName := ⟨RX7, "sheet", "(III)I"⟩
abbrev cX7_put : ByteArray := prog_9_method_53_code
def yX7_put : MethodName := ⟨RX7, "put", "(III)I"⟩
abbrev cX7_hasPart : ByteArray := prog_9_method_54_code
def yX7_hasPart : MethodName := ⟨RX7, "hasPart", "(III)Z"⟩
abbrev cX7_copy : ByteArray := prog_9_method_55_code
def yX7_copy : MethodName := ⟨RX7, "copy", "(IIIII)I"⟩
abbrev cX7_tune : ByteArray := prog_9_method_56_code
def yX7_tune : MethodName := ⟨RX7, "tune", "(I)I"⟩
abbrev cX7_all : ByteArray := prog_9_method_57_code
def yX7_all : MethodName := ⟨RX7, "all", "(I)I"⟩
def RJ9 : String := "java/lang/Math"
def TJ9 : u_T := fun k => match k with
  | _ => ("", "", "", false)
def tyJ9 : Nat → FieldType := fun k => match k with
  | _ => .int
abbrev wsJ90 : List Cond := u_ws RJ9 TJ9 0
theorem nmJ9 : ∀ a, a < 0 → ∀ b, b < 0 → a ≠ b → (TJ9 a).2.1 ≠ (TJ9 b).2.1 := by decide +kernel
theorem tyJ9_ok : ∀ k, k < 0 → parseFieldDescriptor (TJ9 k).2.2.1 = some (tyJ9 k) := by decide +kernel
abbrev cJ9_abs_0f7a4 : ByteArray := prog_10_method_59_code
def yJ9_abs_0f7a4 : MethodName := ⟨RJ9, "abs", "(I)I"⟩
abbrev cJ9_max_7cf53 : ByteArray := prog_10_method_65_code
def yJ9_max_7cf53 : MethodName := ⟨RJ9, "max", "(II)I"⟩
abbrev cJ9_min_7cf53 : ByteArray := prog_10_method_69_code
def yJ9_min_7cf53 : MethodName := ⟨RJ9, "min", "(II)I"⟩
def RJ10 : String := "java/lang/System"
def TJ10 : u_T := fun k => match k with
  | _ => ("", "", "", false)
def tyJ10 : Nat → FieldType := fun k => match k with
  | _ => .int
abbrev wsJ100 : List Cond := u_ws RJ10 TJ10 0
theorem nmJ10 : ∀ a, a < 0 → ∀ b, b < 0 → a ≠ b → (TJ10 a).2.1 ≠ (TJ10 b).2.1 := by decide +kernel
theorem tyJ10_ok : ∀ k, k < 0 → parseFieldDescriptor (TJ10 k).2.2.1 = some (tyJ10 k) := by decide +kernel
def RJ7 : String := "java/util/Arrays"
def TJ7 : u_T := fun k => match k with
  | _ => ("", "", "", false)
def tyJ7 : Nat → FieldType := fun k => match k with
  | _ => .int
abbrev wsJ70 : List Cond := u_ws RJ7 TJ7 0
theorem nmJ7 : ∀ a, a < 0 → ∀ b, b < 0 → a ≠ b → (TJ7 a).2.1 ≠ (TJ7 b).2.1 := by decide +kernel
theorem tyJ7_ok : ∀ k, k < 0 → parseFieldDescriptor (TJ7 k).2.2.1 = some (tyJ7 k) := by decide +kernel
abbrev cJ7_fill_53178 : ByteArray := prog_12_method_103_code
def yJ7_fill_53178 : MethodName := ⟨RJ7, "fill", "([II)V"⟩
def RL : String := "SevenPedalsLaw"
abbrev cL_law : ByteArray := code
def yL_law : MethodName := ⟨RL, "law", "([I)Z"⟩
abbrev vwCl : List vw_C := [(RX0, TX0, 11), (RX1, TX1, 1), (RX2, TX2, 3), (RX3, TX3, 7), (RX4, TX4, 3), (RX5, TX5, 18), (RX6, TX6, 7), (RX7, TX7, 18)]
theorem inX0 : ∀ w ∈ wsX00, w ∈ lw_tbl := by decide +kernel
theorem inX1 : ∀ w ∈ wsX10, w ∈ lw_tbl := by decide +kernel
theorem inX2 : ∀ w ∈ wsX20, w ∈ lw_tbl := by decide +kernel
theorem inX3 : ∀ w ∈ wsX30, w ∈ lw_tbl := by decide +kernel
theorem inX4 : ∀ w ∈ wsX40, w ∈ lw_tbl := by decide +kernel
theorem inX5 : ∀ w ∈ wsX50, w ∈ lw_tbl := by decide +kernel
theorem inX6 : ∀ w ∈ wsX60, w ∈ lw_tbl := by decide +kernel
theorem inX7 : ∀ w ∈ wsX70, w ∈ lw_tbl := by decide +kernel
end
section
theorem dJ7_fill_53178_0 : decode cJ7_fill_53178 0 = .ok (.iconst 0, 1) := by decide +kernel
theorem dJ7_fill_53178_1 : decode cJ7_fill_53178 1 = .ok (.istore_n 2, 1) := by decide +kernel
theorem dJ7_fill_53178_2 : decode cJ7_fill_53178 2 = .ok (.aload_n 0, 1) := by decide +kernel
theorem dJ7_fill_53178_3 : decode cJ7_fill_53178 3 = .ok (.arraylength, 1) := by decide +kernel
theorem dJ7_fill_53178_4 : decode cJ7_fill_53178 4 = .ok (.istore_n 3, 1) := by decide +kernel
theorem dJ7_fill_53178_5 : decode cJ7_fill_53178 5 = .ok (.iload_n 2, 1) := by decide +kernel
theorem dJ7_fill_53178_6 : decode cJ7_fill_53178 6 = .ok (.iload_n 3, 1) := by decide +kernel
theorem dJ7_fill_53178_7 : decode cJ7_fill_53178 7 = .ok (.if_icmp .ge 13, 3) := by decide +kernel
theorem dJ7_fill_53178_10 : decode cJ7_fill_53178 10 = .ok (.aload_n 0, 1) := by decide +kernel
theorem dJ7_fill_53178_11 : decode cJ7_fill_53178 11 = .ok (.iload_n 2, 1) := by decide +kernel
theorem dJ7_fill_53178_12 : decode cJ7_fill_53178 12 = .ok (.iload_n 1, 1) := by decide +kernel
theorem dJ7_fill_53178_13 : decode cJ7_fill_53178 13 = .ok (.iastore, 1) := by decide +kernel
theorem dJ7_fill_53178_14 : decode cJ7_fill_53178 14 = .ok (.iinc 2 1, 3) := by decide +kernel
theorem dJ7_fill_53178_17 : decode cJ7_fill_53178 17 = .ok (.goto (-12), 3) := by decide +kernel
theorem dJ7_fill_53178_20 : decode cJ7_fill_53178 20 = .ok (.return_, 1) := by decide +kernel
end
section
theorem dJ9_abs_0f7a4_0 : decode cJ9_abs_0f7a4 0 = .ok (.iload_n 0, 1) := by decide +kernel
theorem dJ9_abs_0f7a4_1 : decode cJ9_abs_0f7a4 1 = .ok (.ifCond .ge 8, 3) := by decide +kernel
theorem dJ9_abs_0f7a4_4 : decode cJ9_abs_0f7a4 4 = .ok (.iload_n 0, 1) := by decide +kernel
theorem dJ9_abs_0f7a4_5 : decode cJ9_abs_0f7a4 5 = .ok (.ineg, 1) := by decide +kernel
theorem dJ9_abs_0f7a4_6 : decode cJ9_abs_0f7a4 6 = .ok (.goto 4, 3) := by decide +kernel
theorem dJ9_abs_0f7a4_9 : decode cJ9_abs_0f7a4 9 = .ok (.iload_n 0, 1) := by decide +kernel
theorem dJ9_abs_0f7a4_10 : decode cJ9_abs_0f7a4 10 = .ok (.ireturn, 1) := by decide +kernel
theorem dJ9_max_7cf53_0 : decode cJ9_max_7cf53 0 = .ok (.iload_n 0, 1) := by decide +kernel
theorem dJ9_max_7cf53_1 : decode cJ9_max_7cf53 1 = .ok (.iload_n 1, 1) := by decide +kernel
theorem dJ9_max_7cf53_2 : decode cJ9_max_7cf53 2 = .ok (.if_icmp .lt 7, 3) := by decide +kernel
theorem dJ9_max_7cf53_5 : decode cJ9_max_7cf53 5 = .ok (.iload_n 0, 1) := by decide +kernel
theorem dJ9_max_7cf53_6 : decode cJ9_max_7cf53 6 = .ok (.goto 4, 3) := by decide +kernel
theorem dJ9_max_7cf53_9 : decode cJ9_max_7cf53 9 = .ok (.iload_n 1, 1) := by decide +kernel
theorem dJ9_max_7cf53_10 : decode cJ9_max_7cf53 10 = .ok (.ireturn, 1) := by decide +kernel
theorem dJ9_min_7cf53_0 : decode cJ9_min_7cf53 0 = .ok (.iload_n 0, 1) := by decide +kernel
theorem dJ9_min_7cf53_1 : decode cJ9_min_7cf53 1 = .ok (.iload_n 1, 1) := by decide +kernel
theorem dJ9_min_7cf53_2 : decode cJ9_min_7cf53 2 = .ok (.if_icmp .gt 7, 3) := by decide +kernel
theorem dJ9_min_7cf53_5 : decode cJ9_min_7cf53 5 = .ok (.iload_n 0, 1) := by decide +kernel
theorem dJ9_min_7cf53_6 : decode cJ9_min_7cf53 6 = .ok (.goto 4, 3) := by decide +kernel
theorem dJ9_min_7cf53_9 : decode cJ9_min_7cf53 9 = .ok (.iload_n 1, 1) := by decide +kernel
theorem dJ9_min_7cf53_10 : decode cJ9_min_7cf53 10 = .ok (.ireturn, 1) := by decide +kernel
end
section
theorem dL_law_0 : decode cL_law 0 = .ok (.new 7, 3) := by decide +kernel
theorem dL_law_3 : decode cL_law 3 = .ok (.dup, 1) := by decide +kernel
theorem dL_law_4 : decode cL_law 4 = .ok (.invokespecial 9, 3) := by decide +kernel
theorem dL_law_7 : decode cL_law 7 = .ok (.astore_n 1, 1) := by decide +kernel
theorem dL_law_8 : decode cL_law 8 = .ok (.new 10, 3) := by decide +kernel
theorem dL_law_11 : decode cL_law 11 = .ok (.dup, 1) := by decide +kernel
theorem dL_law_12 : decode cL_law 12 = .ok (.invokespecial 12, 3) := by decide +kernel
theorem dL_law_15 : decode cL_law 15 = .ok (.astore_n 2, 1) := by decide +kernel
theorem dL_law_16 : decode cL_law 16 = .ok (.iconst 0, 1) := by decide +kernel
theorem dL_law_17 : decode cL_law 17 = .ok (.istore_n 3, 1) := by decide +kernel
theorem dL_law_18 : decode cL_law 18 = .ok (.iload_n 3, 1) := by decide +kernel
theorem dL_law_19 : decode cL_law 19 = .ok (.aload_n 0, 1) := by decide +kernel
theorem dL_law_20 : decode cL_law 20 = .ok (.arraylength, 1) := by decide +kernel
theorem dL_law_21 : decode cL_law 21 = .ok (.bipush 6, 2) := by decide +kernel
theorem dL_law_23 : decode cL_law 23 = .ok (.isub, 1) := by decide +kernel
theorem dL_law_24 : decode cL_law 24 = .ok (.if_icmp .gt 1105, 3) := by decide +kernel
theorem dL_law_27 : decode cL_law 27 = .ok (.aload_n 0, 1) := by decide +kernel
theorem dL_law_28 : decode cL_law 28 = .ok (.iload_n 3, 1) := by decide +kernel
theorem dL_law_29 : decode cL_law 29 = .ok (.iaload, 1) := by decide +kernel
theorem dL_law_30 : decode cL_law 30 = .ok (.bipush 31, 2) := by decide +kernel
theorem dL_law_32 : decode cL_law 32 = .ok (.iand, 1) := by decide +kernel
theorem dL_law_33 : decode cL_law 33 = .ok (.tableswitch 1090 0 28 #[131, 154, 223, 246, 289, 332, 355, 398, 431, 464, 507, 540, 563, 576, 599, 632, 681, 694, 707, 740, 773, 786, 839, 882, 925, 968, 1031, 1054, 1067], 131) := by decide +kernel
theorem dL_law_164 : decode cL_law 164 = .ok (.aload_n 1, 1) := by decide +kernel
theorem dL_law_165 : decode cL_law 165 = .ok (.aload_n 0, 1) := by decide +kernel
theorem dL_law_166 : decode cL_law 166 = .ok (.iload_n 3, 1) := by decide +kernel
theorem dL_law_167 : decode cL_law 167 = .ok (.iconst 1, 1) := by decide +kernel
theorem dL_law_168 : decode cL_law 168 = .ok (.iadd, 1) := by decide +kernel
theorem dL_law_169 : decode cL_law 169 = .ok (.iaload, 1) := by decide +kernel
theorem dL_law_170 : decode cL_law 170 = .ok (.invokevirtual 13, 3) := by decide +kernel
theorem dL_law_173 : decode cL_law 173 = .ok (.aload_n 2, 1) := by decide +kernel
theorem dL_law_174 : decode cL_law 174 = .ok (.aload_n 0, 1) := by decide +kernel
theorem dL_law_175 : decode cL_law 175 = .ok (.iload_n 3, 1) := by decide +kernel
theorem dL_law_176 : decode cL_law 176 = .ok (.iconst 1, 1) := by decide +kernel
theorem dL_law_177 : decode cL_law 177 = .ok (.iadd, 1) := by decide +kernel
theorem dL_law_178 : decode cL_law 178 = .ok (.iaload, 1) := by decide +kernel
theorem dL_law_179 : decode cL_law 179 = .ok (.invokevirtual 17, 3) := by decide +kernel
theorem dL_law_182 : decode cL_law 182 = .ok (.if_icmp .eq 941, 3) := by decide +kernel
theorem dL_law_185 : decode cL_law 185 = .ok (.iconst 0, 1) := by decide +kernel
theorem dL_law_186 : decode cL_law 186 = .ok (.ireturn, 1) := by decide +kernel
theorem dL_law_187 : decode cL_law 187 = .ok (.aload_n 1, 1) := by decide +kernel
theorem dL_law_188 : decode cL_law 188 = .ok (.aload_n 0, 1) := by decide +kernel
theorem dL_law_189 : decode cL_law 189 = .ok (.iload_n 3, 1) := by decide +kernel
theorem dL_law_190 : decode cL_law 190 = .ok (.iconst 1, 1) := by decide +kernel
theorem dL_law_191 : decode cL_law 191 = .ok (.iadd, 1) := by decide +kernel
theorem dL_law_192 : decode cL_law 192 = .ok (.iaload, 1) := by decide +kernel
theorem dL_law_193 : decode cL_law 193 = .ok (.aload_n 0, 1) := by decide +kernel
theorem dL_law_194 : decode cL_law 194 = .ok (.iload_n 3, 1) := by decide +kernel
theorem dL_law_195 : decode cL_law 195 = .ok (.iconst 2, 1) := by decide +kernel
theorem dL_law_196 : decode cL_law 196 = .ok (.iadd, 1) := by decide +kernel
theorem dL_law_197 : decode cL_law 197 = .ok (.iaload, 1) := by decide +kernel
theorem dL_law_198 : decode cL_law 198 = .ok (.aload_n 0, 1) := by decide +kernel
theorem dL_law_199 : decode cL_law 199 = .ok (.iload_n 3, 1) := by decide +kernel
theorem dL_law_200 : decode cL_law 200 = .ok (.iconst 3, 1) := by decide +kernel
theorem dL_law_201 : decode cL_law 201 = .ok (.iadd, 1) := by decide +kernel
theorem dL_law_202 : decode cL_law 202 = .ok (.iaload, 1) := by decide +kernel
theorem dL_law_203 : decode cL_law 203 = .ok (.aload_n 0, 1) := by decide +kernel
theorem dL_law_204 : decode cL_law 204 = .ok (.iload_n 3, 1) := by decide +kernel
theorem dL_law_205 : decode cL_law 205 = .ok (.iconst 4, 1) := by decide +kernel
theorem dL_law_206 : decode cL_law 206 = .ok (.iadd, 1) := by decide +kernel
theorem dL_law_207 : decode cL_law 207 = .ok (.iaload, 1) := by decide +kernel
theorem dL_law_208 : decode cL_law 208 = .ok (.ifCond .eq 7, 3) := by decide +kernel
theorem dL_law_211 : decode cL_law 211 = .ok (.iconst 1, 1) := by decide +kernel
theorem dL_law_212 : decode cL_law 212 = .ok (.goto 4, 3) := by decide +kernel
theorem dL_law_215 : decode cL_law 215 = .ok (.iconst 0, 1) := by decide +kernel
theorem dL_law_216 : decode cL_law 216 = .ok (.invokevirtual 18, 3) := by decide +kernel
theorem dL_law_219 : decode cL_law 219 = .ok (.aload_n 2, 1) := by decide +kernel
theorem dL_law_220 : decode cL_law 220 = .ok (.aload_n 0, 1) := by decide +kernel
theorem dL_law_221 : decode cL_law 221 = .ok (.iload_n 3, 1) := by decide +kernel
theorem dL_law_222 : decode cL_law 222 = .ok (.iconst 1, 1) := by decide +kernel
theorem dL_law_223 : decode cL_law 223 = .ok (.iadd, 1) := by decide +kernel
theorem dL_law_224 : decode cL_law 224 = .ok (.iaload, 1) := by decide +kernel
theorem dL_law_225 : decode cL_law 225 = .ok (.aload_n 0, 1) := by decide +kernel
theorem dL_law_226 : decode cL_law 226 = .ok (.iload_n 3, 1) := by decide +kernel
theorem dL_law_227 : decode cL_law 227 = .ok (.iconst 2, 1) := by decide +kernel
theorem dL_law_228 : decode cL_law 228 = .ok (.iadd, 1) := by decide +kernel
theorem dL_law_229 : decode cL_law 229 = .ok (.iaload, 1) := by decide +kernel
theorem dL_law_230 : decode cL_law 230 = .ok (.aload_n 0, 1) := by decide +kernel
theorem dL_law_231 : decode cL_law 231 = .ok (.iload_n 3, 1) := by decide +kernel
theorem dL_law_232 : decode cL_law 232 = .ok (.iconst 3, 1) := by decide +kernel
theorem dL_law_233 : decode cL_law 233 = .ok (.iadd, 1) := by decide +kernel
theorem dL_law_234 : decode cL_law 234 = .ok (.iaload, 1) := by decide +kernel
theorem dL_law_235 : decode cL_law 235 = .ok (.aload_n 0, 1) := by decide +kernel
theorem dL_law_236 : decode cL_law 236 = .ok (.iload_n 3, 1) := by decide +kernel
theorem dL_law_237 : decode cL_law 237 = .ok (.iconst 4, 1) := by decide +kernel
theorem dL_law_238 : decode cL_law 238 = .ok (.iadd, 1) := by decide +kernel
theorem dL_law_239 : decode cL_law 239 = .ok (.iaload, 1) := by decide +kernel
theorem dL_law_240 : decode cL_law 240 = .ok (.ifCond .eq 7, 3) := by decide +kernel
theorem dL_law_243 : decode cL_law 243 = .ok (.iconst 1, 1) := by decide +kernel
theorem dL_law_244 : decode cL_law 244 = .ok (.goto 4, 3) := by decide +kernel
theorem dL_law_247 : decode cL_law 247 = .ok (.iconst 0, 1) := by decide +kernel
theorem dL_law_248 : decode cL_law 248 = .ok (.invokevirtual 22, 3) := by decide +kernel
theorem dL_law_251 : decode cL_law 251 = .ok (.if_icmp .eq 872, 3) := by decide +kernel
theorem dL_law_254 : decode cL_law 254 = .ok (.iconst 0, 1) := by decide +kernel
theorem dL_law_255 : decode cL_law 255 = .ok (.ireturn, 1) := by decide +kernel
theorem dL_law_256 : decode cL_law 256 = .ok (.aload_n 1, 1) := by decide +kernel
theorem dL_law_257 : decode cL_law 257 = .ok (.aload_n 0, 1) := by decide +kernel
theorem dL_law_258 : decode cL_law 258 = .ok (.iload_n 3, 1) := by decide +kernel
theorem dL_law_259 : decode cL_law 259 = .ok (.iconst 1, 1) := by decide +kernel
theorem dL_law_260 : decode cL_law 260 = .ok (.iadd, 1) := by decide +kernel
theorem dL_law_261 : decode cL_law 261 = .ok (.iaload, 1) := by decide +kernel
theorem dL_law_262 : decode cL_law 262 = .ok (.invokevirtual 23, 3) := by decide +kernel
theorem dL_law_265 : decode cL_law 265 = .ok (.aload_n 2, 1) := by decide +kernel
theorem dL_law_266 : decode cL_law 266 = .ok (.aload_n 0, 1) := by decide +kernel
theorem dL_law_267 : decode cL_law 267 = .ok (.iload_n 3, 1) := by decide +kernel
theorem dL_law_268 : decode cL_law 268 = .ok (.iconst 1, 1) := by decide +kernel
theorem dL_law_269 : decode cL_law 269 = .ok (.iadd, 1) := by decide +kernel
theorem dL_law_270 : decode cL_law 270 = .ok (.iaload, 1) := by decide +kernel
theorem dL_law_271 : decode cL_law 271 = .ok (.invokevirtual 26, 3) := by decide +kernel
theorem dL_law_274 : decode cL_law 274 = .ok (.if_icmp .eq 849, 3) := by decide +kernel
theorem dL_law_277 : decode cL_law 277 = .ok (.iconst 0, 1) := by decide +kernel
theorem dL_law_278 : decode cL_law 278 = .ok (.ireturn, 1) := by decide +kernel
theorem dL_law_279 : decode cL_law 279 = .ok (.aload_n 1, 1) := by decide +kernel
theorem dL_law_280 : decode cL_law 280 = .ok (.aload_n 0, 1) := by decide +kernel
theorem dL_law_281 : decode cL_law 281 = .ok (.iload_n 3, 1) := by decide +kernel
theorem dL_law_282 : decode cL_law 282 = .ok (.iconst 1, 1) := by decide +kernel
theorem dL_law_283 : decode cL_law 283 = .ok (.iadd, 1) := by decide +kernel
theorem dL_law_284 : decode cL_law 284 = .ok (.iaload, 1) := by decide +kernel
theorem dL_law_285 : decode cL_law 285 = .ok (.aload_n 0, 1) := by decide +kernel
theorem dL_law_286 : decode cL_law 286 = .ok (.iload_n 3, 1) := by decide +kernel
theorem dL_law_287 : decode cL_law 287 = .ok (.iconst 2, 1) := by decide +kernel
theorem dL_law_288 : decode cL_law 288 = .ok (.iadd, 1) := by decide +kernel
theorem dL_law_289 : decode cL_law 289 = .ok (.iaload, 1) := by decide +kernel
theorem dL_law_290 : decode cL_law 290 = .ok (.aload_n 0, 1) := by decide +kernel
theorem dL_law_291 : decode cL_law 291 = .ok (.iload_n 3, 1) := by decide +kernel
theorem dL_law_292 : decode cL_law 292 = .ok (.iconst 3, 1) := by decide +kernel
theorem dL_law_293 : decode cL_law 293 = .ok (.iadd, 1) := by decide +kernel
theorem dL_law_294 : decode cL_law 294 = .ok (.iaload, 1) := by decide +kernel
theorem dL_law_295 : decode cL_law 295 = .ok (.invokevirtual 27, 3) := by decide +kernel
theorem dL_law_298 : decode cL_law 298 = .ok (.aload_n 2, 1) := by decide +kernel
theorem dL_law_299 : decode cL_law 299 = .ok (.aload_n 0, 1) := by decide +kernel
theorem dL_law_300 : decode cL_law 300 = .ok (.iload_n 3, 1) := by decide +kernel
theorem dL_law_301 : decode cL_law 301 = .ok (.iconst 1, 1) := by decide +kernel
theorem dL_law_302 : decode cL_law 302 = .ok (.iadd, 1) := by decide +kernel
theorem dL_law_303 : decode cL_law 303 = .ok (.iaload, 1) := by decide +kernel
theorem dL_law_304 : decode cL_law 304 = .ok (.aload_n 0, 1) := by decide +kernel
theorem dL_law_305 : decode cL_law 305 = .ok (.iload_n 3, 1) := by decide +kernel
theorem dL_law_306 : decode cL_law 306 = .ok (.iconst 2, 1) := by decide +kernel
theorem dL_law_307 : decode cL_law 307 = .ok (.iadd, 1) := by decide +kernel
theorem dL_law_308 : decode cL_law 308 = .ok (.iaload, 1) := by decide +kernel
theorem dL_law_309 : decode cL_law 309 = .ok (.aload_n 0, 1) := by decide +kernel
theorem dL_law_310 : decode cL_law 310 = .ok (.iload_n 3, 1) := by decide +kernel
theorem dL_law_311 : decode cL_law 311 = .ok (.iconst 3, 1) := by decide +kernel
theorem dL_law_312 : decode cL_law 312 = .ok (.iadd, 1) := by decide +kernel
theorem dL_law_313 : decode cL_law 313 = .ok (.iaload, 1) := by decide +kernel
theorem dL_law_314 : decode cL_law 314 = .ok (.invokevirtual 31, 3) := by decide +kernel
theorem dL_law_317 : decode cL_law 317 = .ok (.if_icmp .eq 806, 3) := by decide +kernel
theorem dL_law_320 : decode cL_law 320 = .ok (.iconst 0, 1) := by decide +kernel
theorem dL_law_321 : decode cL_law 321 = .ok (.ireturn, 1) := by decide +kernel
theorem dL_law_322 : decode cL_law 322 = .ok (.aload_n 1, 1) := by decide +kernel
theorem dL_law_323 : decode cL_law 323 = .ok (.aload_n 0, 1) := by decide +kernel
theorem dL_law_324 : decode cL_law 324 = .ok (.iload_n 3, 1) := by decide +kernel
theorem dL_law_325 : decode cL_law 325 = .ok (.iconst 1, 1) := by decide +kernel
theorem dL_law_326 : decode cL_law 326 = .ok (.iadd, 1) := by decide +kernel
theorem dL_law_327 : decode cL_law 327 = .ok (.iaload, 1) := by decide +kernel
theorem dL_law_328 : decode cL_law 328 = .ok (.aload_n 0, 1) := by decide +kernel
theorem dL_law_329 : decode cL_law 329 = .ok (.iload_n 3, 1) := by decide +kernel
theorem dL_law_330 : decode cL_law 330 = .ok (.iconst 2, 1) := by decide +kernel
theorem dL_law_331 : decode cL_law 331 = .ok (.iadd, 1) := by decide +kernel
theorem dL_law_332 : decode cL_law 332 = .ok (.iaload, 1) := by decide +kernel
theorem dL_law_333 : decode cL_law 333 = .ok (.aload_n 0, 1) := by decide +kernel
theorem dL_law_334 : decode cL_law 334 = .ok (.iload_n 3, 1) := by decide +kernel
theorem dL_law_335 : decode cL_law 335 = .ok (.iconst 3, 1) := by decide +kernel
theorem dL_law_336 : decode cL_law 336 = .ok (.iadd, 1) := by decide +kernel
theorem dL_law_337 : decode cL_law 337 = .ok (.iaload, 1) := by decide +kernel
theorem dL_law_338 : decode cL_law 338 = .ok (.invokevirtual 32, 3) := by decide +kernel
theorem dL_law_341 : decode cL_law 341 = .ok (.aload_n 2, 1) := by decide +kernel
theorem dL_law_342 : decode cL_law 342 = .ok (.aload_n 0, 1) := by decide +kernel
theorem dL_law_343 : decode cL_law 343 = .ok (.iload_n 3, 1) := by decide +kernel
theorem dL_law_344 : decode cL_law 344 = .ok (.iconst 1, 1) := by decide +kernel
theorem dL_law_345 : decode cL_law 345 = .ok (.iadd, 1) := by decide +kernel
theorem dL_law_346 : decode cL_law 346 = .ok (.iaload, 1) := by decide +kernel
theorem dL_law_347 : decode cL_law 347 = .ok (.aload_n 0, 1) := by decide +kernel
theorem dL_law_348 : decode cL_law 348 = .ok (.iload_n 3, 1) := by decide +kernel
theorem dL_law_349 : decode cL_law 349 = .ok (.iconst 2, 1) := by decide +kernel
theorem dL_law_350 : decode cL_law 350 = .ok (.iadd, 1) := by decide +kernel
theorem dL_law_351 : decode cL_law 351 = .ok (.iaload, 1) := by decide +kernel
theorem dL_law_352 : decode cL_law 352 = .ok (.aload_n 0, 1) := by decide +kernel
theorem dL_law_353 : decode cL_law 353 = .ok (.iload_n 3, 1) := by decide +kernel
theorem dL_law_354 : decode cL_law 354 = .ok (.iconst 3, 1) := by decide +kernel
theorem dL_law_355 : decode cL_law 355 = .ok (.iadd, 1) := by decide +kernel
theorem dL_law_356 : decode cL_law 356 = .ok (.iaload, 1) := by decide +kernel
theorem dL_law_357 : decode cL_law 357 = .ok (.invokevirtual 35, 3) := by decide +kernel
theorem dL_law_360 : decode cL_law 360 = .ok (.if_icmp .eq 763, 3) := by decide +kernel
theorem dL_law_363 : decode cL_law 363 = .ok (.iconst 0, 1) := by decide +kernel
theorem dL_law_364 : decode cL_law 364 = .ok (.ireturn, 1) := by decide +kernel
theorem dL_law_365 : decode cL_law 365 = .ok (.aload_n 1, 1) := by decide +kernel
theorem dL_law_366 : decode cL_law 366 = .ok (.aload_n 0, 1) := by decide +kernel
theorem dL_law_367 : decode cL_law 367 = .ok (.iload_n 3, 1) := by decide +kernel
theorem dL_law_368 : decode cL_law 368 = .ok (.iconst 1, 1) := by decide +kernel
theorem dL_law_369 : decode cL_law 369 = .ok (.iadd, 1) := by decide +kernel
theorem dL_law_370 : decode cL_law 370 = .ok (.iaload, 1) := by decide +kernel
theorem dL_law_371 : decode cL_law 371 = .ok (.invokevirtual 36, 3) := by decide +kernel
theorem dL_law_374 : decode cL_law 374 = .ok (.aload_n 2, 1) := by decide +kernel
theorem dL_law_375 : decode cL_law 375 = .ok (.aload_n 0, 1) := by decide +kernel
theorem dL_law_376 : decode cL_law 376 = .ok (.iload_n 3, 1) := by decide +kernel
theorem dL_law_377 : decode cL_law 377 = .ok (.iconst 1, 1) := by decide +kernel
theorem dL_law_378 : decode cL_law 378 = .ok (.iadd, 1) := by decide +kernel
theorem dL_law_379 : decode cL_law 379 = .ok (.iaload, 1) := by decide +kernel
theorem dL_law_380 : decode cL_law 380 = .ok (.invokevirtual 39, 3) := by decide +kernel
theorem dL_law_383 : decode cL_law 383 = .ok (.if_icmp .eq 740, 3) := by decide +kernel
theorem dL_law_386 : decode cL_law 386 = .ok (.iconst 0, 1) := by decide +kernel
theorem dL_law_387 : decode cL_law 387 = .ok (.ireturn, 1) := by decide +kernel
theorem dL_law_388 : decode cL_law 388 = .ok (.aload_n 1, 1) := by decide +kernel
theorem dL_law_389 : decode cL_law 389 = .ok (.aload_n 0, 1) := by decide +kernel
theorem dL_law_390 : decode cL_law 390 = .ok (.iload_n 3, 1) := by decide +kernel
theorem dL_law_391 : decode cL_law 391 = .ok (.iconst 1, 1) := by decide +kernel
theorem dL_law_392 : decode cL_law 392 = .ok (.iadd, 1) := by decide +kernel
theorem dL_law_393 : decode cL_law 393 = .ok (.iaload, 1) := by decide +kernel
theorem dL_law_394 : decode cL_law 394 = .ok (.aload_n 0, 1) := by decide +kernel
theorem dL_law_395 : decode cL_law 395 = .ok (.iload_n 3, 1) := by decide +kernel
theorem dL_law_396 : decode cL_law 396 = .ok (.iconst 2, 1) := by decide +kernel
theorem dL_law_397 : decode cL_law 397 = .ok (.iadd, 1) := by decide +kernel
theorem dL_law_398 : decode cL_law 398 = .ok (.iaload, 1) := by decide +kernel
theorem dL_law_399 : decode cL_law 399 = .ok (.aload_n 0, 1) := by decide +kernel
theorem dL_law_400 : decode cL_law 400 = .ok (.iload_n 3, 1) := by decide +kernel
theorem dL_law_401 : decode cL_law 401 = .ok (.iconst 3, 1) := by decide +kernel
theorem dL_law_402 : decode cL_law 402 = .ok (.iadd, 1) := by decide +kernel
theorem dL_law_403 : decode cL_law 403 = .ok (.iaload, 1) := by decide +kernel
theorem dL_law_404 : decode cL_law 404 = .ok (.invokevirtual 40, 3) := by decide +kernel
theorem dL_law_407 : decode cL_law 407 = .ok (.aload_n 2, 1) := by decide +kernel
theorem dL_law_408 : decode cL_law 408 = .ok (.aload_n 0, 1) := by decide +kernel
theorem dL_law_409 : decode cL_law 409 = .ok (.iload_n 3, 1) := by decide +kernel
theorem dL_law_410 : decode cL_law 410 = .ok (.iconst 1, 1) := by decide +kernel
theorem dL_law_411 : decode cL_law 411 = .ok (.iadd, 1) := by decide +kernel
theorem dL_law_412 : decode cL_law 412 = .ok (.iaload, 1) := by decide +kernel
theorem dL_law_413 : decode cL_law 413 = .ok (.aload_n 0, 1) := by decide +kernel
theorem dL_law_414 : decode cL_law 414 = .ok (.iload_n 3, 1) := by decide +kernel
theorem dL_law_415 : decode cL_law 415 = .ok (.iconst 2, 1) := by decide +kernel
theorem dL_law_416 : decode cL_law 416 = .ok (.iadd, 1) := by decide +kernel
theorem dL_law_417 : decode cL_law 417 = .ok (.iaload, 1) := by decide +kernel
theorem dL_law_418 : decode cL_law 418 = .ok (.aload_n 0, 1) := by decide +kernel
theorem dL_law_419 : decode cL_law 419 = .ok (.iload_n 3, 1) := by decide +kernel
theorem dL_law_420 : decode cL_law 420 = .ok (.iconst 3, 1) := by decide +kernel
theorem dL_law_421 : decode cL_law 421 = .ok (.iadd, 1) := by decide +kernel
theorem dL_law_422 : decode cL_law 422 = .ok (.iaload, 1) := by decide +kernel
theorem dL_law_423 : decode cL_law 423 = .ok (.invokevirtual 43, 3) := by decide +kernel
theorem dL_law_426 : decode cL_law 426 = .ok (.if_icmp .eq 697, 3) := by decide +kernel
theorem dL_law_429 : decode cL_law 429 = .ok (.iconst 0, 1) := by decide +kernel
theorem dL_law_430 : decode cL_law 430 = .ok (.ireturn, 1) := by decide +kernel
theorem dL_law_431 : decode cL_law 431 = .ok (.aload_n 1, 1) := by decide +kernel
theorem dL_law_432 : decode cL_law 432 = .ok (.aload_n 0, 1) := by decide +kernel
theorem dL_law_433 : decode cL_law 433 = .ok (.iload_n 3, 1) := by decide +kernel
theorem dL_law_434 : decode cL_law 434 = .ok (.iconst 1, 1) := by decide +kernel
theorem dL_law_435 : decode cL_law 435 = .ok (.iadd, 1) := by decide +kernel
theorem dL_law_436 : decode cL_law 436 = .ok (.iaload, 1) := by decide +kernel
theorem dL_law_437 : decode cL_law 437 = .ok (.aload_n 0, 1) := by decide +kernel
theorem dL_law_438 : decode cL_law 438 = .ok (.iload_n 3, 1) := by decide +kernel
theorem dL_law_439 : decode cL_law 439 = .ok (.iconst 2, 1) := by decide +kernel
theorem dL_law_440 : decode cL_law 440 = .ok (.iadd, 1) := by decide +kernel
theorem dL_law_441 : decode cL_law 441 = .ok (.iaload, 1) := by decide +kernel
theorem dL_law_442 : decode cL_law 442 = .ok (.invokevirtual 44, 3) := by decide +kernel
theorem dL_law_445 : decode cL_law 445 = .ok (.aload_n 2, 1) := by decide +kernel
theorem dL_law_446 : decode cL_law 446 = .ok (.aload_n 0, 1) := by decide +kernel
theorem dL_law_447 : decode cL_law 447 = .ok (.iload_n 3, 1) := by decide +kernel
theorem dL_law_448 : decode cL_law 448 = .ok (.iconst 1, 1) := by decide +kernel
theorem dL_law_449 : decode cL_law 449 = .ok (.iadd, 1) := by decide +kernel
theorem dL_law_450 : decode cL_law 450 = .ok (.iaload, 1) := by decide +kernel
theorem dL_law_451 : decode cL_law 451 = .ok (.aload_n 0, 1) := by decide +kernel
theorem dL_law_452 : decode cL_law 452 = .ok (.iload_n 3, 1) := by decide +kernel
theorem dL_law_453 : decode cL_law 453 = .ok (.iconst 2, 1) := by decide +kernel
theorem dL_law_454 : decode cL_law 454 = .ok (.iadd, 1) := by decide +kernel
theorem dL_law_455 : decode cL_law 455 = .ok (.iaload, 1) := by decide +kernel
theorem dL_law_456 : decode cL_law 456 = .ok (.invokevirtual 48, 3) := by decide +kernel
theorem dL_law_459 : decode cL_law 459 = .ok (.if_icmp .eq 664, 3) := by decide +kernel
theorem dL_law_462 : decode cL_law 462 = .ok (.iconst 0, 1) := by decide +kernel
theorem dL_law_463 : decode cL_law 463 = .ok (.ireturn, 1) := by decide +kernel
theorem dL_law_464 : decode cL_law 464 = .ok (.aload_n 1, 1) := by decide +kernel
theorem dL_law_465 : decode cL_law 465 = .ok (.aload_n 0, 1) := by decide +kernel
theorem dL_law_466 : decode cL_law 466 = .ok (.iload_n 3, 1) := by decide +kernel
theorem dL_law_467 : decode cL_law 467 = .ok (.iconst 1, 1) := by decide +kernel
theorem dL_law_468 : decode cL_law 468 = .ok (.iadd, 1) := by decide +kernel
theorem dL_law_469 : decode cL_law 469 = .ok (.iaload, 1) := by decide +kernel
theorem dL_law_470 : decode cL_law 470 = .ok (.aload_n 0, 1) := by decide +kernel
theorem dL_law_471 : decode cL_law 471 = .ok (.iload_n 3, 1) := by decide +kernel
theorem dL_law_472 : decode cL_law 472 = .ok (.iconst 2, 1) := by decide +kernel
theorem dL_law_473 : decode cL_law 473 = .ok (.iadd, 1) := by decide +kernel
theorem dL_law_474 : decode cL_law 474 = .ok (.iaload, 1) := by decide +kernel
theorem dL_law_475 : decode cL_law 475 = .ok (.invokevirtual 49, 3) := by decide +kernel
theorem dL_law_478 : decode cL_law 478 = .ok (.aload_n 2, 1) := by decide +kernel
theorem dL_law_479 : decode cL_law 479 = .ok (.aload_n 0, 1) := by decide +kernel
theorem dL_law_480 : decode cL_law 480 = .ok (.iload_n 3, 1) := by decide +kernel
theorem dL_law_481 : decode cL_law 481 = .ok (.iconst 1, 1) := by decide +kernel
theorem dL_law_482 : decode cL_law 482 = .ok (.iadd, 1) := by decide +kernel
theorem dL_law_483 : decode cL_law 483 = .ok (.iaload, 1) := by decide +kernel
theorem dL_law_484 : decode cL_law 484 = .ok (.aload_n 0, 1) := by decide +kernel
theorem dL_law_485 : decode cL_law 485 = .ok (.iload_n 3, 1) := by decide +kernel
theorem dL_law_486 : decode cL_law 486 = .ok (.iconst 2, 1) := by decide +kernel
theorem dL_law_487 : decode cL_law 487 = .ok (.iadd, 1) := by decide +kernel
theorem dL_law_488 : decode cL_law 488 = .ok (.iaload, 1) := by decide +kernel
theorem dL_law_489 : decode cL_law 489 = .ok (.invokevirtual 52, 3) := by decide +kernel
theorem dL_law_492 : decode cL_law 492 = .ok (.if_icmp .eq 631, 3) := by decide +kernel
theorem dL_law_495 : decode cL_law 495 = .ok (.iconst 0, 1) := by decide +kernel
theorem dL_law_496 : decode cL_law 496 = .ok (.ireturn, 1) := by decide +kernel
theorem dL_law_497 : decode cL_law 497 = .ok (.aload_n 1, 1) := by decide +kernel
theorem dL_law_498 : decode cL_law 498 = .ok (.aload_n 0, 1) := by decide +kernel
theorem dL_law_499 : decode cL_law 499 = .ok (.iload_n 3, 1) := by decide +kernel
theorem dL_law_500 : decode cL_law 500 = .ok (.iconst 1, 1) := by decide +kernel
theorem dL_law_501 : decode cL_law 501 = .ok (.iadd, 1) := by decide +kernel
theorem dL_law_502 : decode cL_law 502 = .ok (.iaload, 1) := by decide +kernel
theorem dL_law_503 : decode cL_law 503 = .ok (.aload_n 0, 1) := by decide +kernel
theorem dL_law_504 : decode cL_law 504 = .ok (.iload_n 3, 1) := by decide +kernel
theorem dL_law_505 : decode cL_law 505 = .ok (.iconst 2, 1) := by decide +kernel
theorem dL_law_506 : decode cL_law 506 = .ok (.iadd, 1) := by decide +kernel
theorem dL_law_507 : decode cL_law 507 = .ok (.iaload, 1) := by decide +kernel
theorem dL_law_508 : decode cL_law 508 = .ok (.aload_n 0, 1) := by decide +kernel
theorem dL_law_509 : decode cL_law 509 = .ok (.iload_n 3, 1) := by decide +kernel
theorem dL_law_510 : decode cL_law 510 = .ok (.iconst 3, 1) := by decide +kernel
theorem dL_law_511 : decode cL_law 511 = .ok (.iadd, 1) := by decide +kernel
theorem dL_law_512 : decode cL_law 512 = .ok (.iaload, 1) := by decide +kernel
theorem dL_law_513 : decode cL_law 513 = .ok (.invokevirtual 53, 3) := by decide +kernel
theorem dL_law_516 : decode cL_law 516 = .ok (.aload_n 2, 1) := by decide +kernel
theorem dL_law_517 : decode cL_law 517 = .ok (.aload_n 0, 1) := by decide +kernel
theorem dL_law_518 : decode cL_law 518 = .ok (.iload_n 3, 1) := by decide +kernel
theorem dL_law_519 : decode cL_law 519 = .ok (.iconst 1, 1) := by decide +kernel
theorem dL_law_520 : decode cL_law 520 = .ok (.iadd, 1) := by decide +kernel
theorem dL_law_521 : decode cL_law 521 = .ok (.iaload, 1) := by decide +kernel
theorem dL_law_522 : decode cL_law 522 = .ok (.aload_n 0, 1) := by decide +kernel
theorem dL_law_523 : decode cL_law 523 = .ok (.iload_n 3, 1) := by decide +kernel
theorem dL_law_524 : decode cL_law 524 = .ok (.iconst 2, 1) := by decide +kernel
theorem dL_law_525 : decode cL_law 525 = .ok (.iadd, 1) := by decide +kernel
theorem dL_law_526 : decode cL_law 526 = .ok (.iaload, 1) := by decide +kernel
theorem dL_law_527 : decode cL_law 527 = .ok (.aload_n 0, 1) := by decide +kernel
theorem dL_law_528 : decode cL_law 528 = .ok (.iload_n 3, 1) := by decide +kernel
theorem dL_law_529 : decode cL_law 529 = .ok (.iconst 3, 1) := by decide +kernel
theorem dL_law_530 : decode cL_law 530 = .ok (.iadd, 1) := by decide +kernel
theorem dL_law_531 : decode cL_law 531 = .ok (.iaload, 1) := by decide +kernel
theorem dL_law_532 : decode cL_law 532 = .ok (.invokevirtual 56, 3) := by decide +kernel
theorem dL_law_535 : decode cL_law 535 = .ok (.if_icmp .eq 588, 3) := by decide +kernel
theorem dL_law_538 : decode cL_law 538 = .ok (.iconst 0, 1) := by decide +kernel
theorem dL_law_539 : decode cL_law 539 = .ok (.ireturn, 1) := by decide +kernel
theorem dL_law_540 : decode cL_law 540 = .ok (.aload_n 1, 1) := by decide +kernel
theorem dL_law_541 : decode cL_law 541 = .ok (.aload_n 0, 1) := by decide +kernel
theorem dL_law_542 : decode cL_law 542 = .ok (.iload_n 3, 1) := by decide +kernel
theorem dL_law_543 : decode cL_law 543 = .ok (.iconst 1, 1) := by decide +kernel
theorem dL_law_544 : decode cL_law 544 = .ok (.iadd, 1) := by decide +kernel
theorem dL_law_545 : decode cL_law 545 = .ok (.iaload, 1) := by decide +kernel
theorem dL_law_546 : decode cL_law 546 = .ok (.aload_n 0, 1) := by decide +kernel
theorem dL_law_547 : decode cL_law 547 = .ok (.iload_n 3, 1) := by decide +kernel
theorem dL_law_548 : decode cL_law 548 = .ok (.iconst 2, 1) := by decide +kernel
theorem dL_law_549 : decode cL_law 549 = .ok (.iadd, 1) := by decide +kernel
theorem dL_law_550 : decode cL_law 550 = .ok (.iaload, 1) := by decide +kernel
theorem dL_law_551 : decode cL_law 551 = .ok (.invokevirtual 57, 3) := by decide +kernel
theorem dL_law_554 : decode cL_law 554 = .ok (.aload_n 2, 1) := by decide +kernel
theorem dL_law_555 : decode cL_law 555 = .ok (.aload_n 0, 1) := by decide +kernel
theorem dL_law_556 : decode cL_law 556 = .ok (.iload_n 3, 1) := by decide +kernel
theorem dL_law_557 : decode cL_law 557 = .ok (.iconst 1, 1) := by decide +kernel
theorem dL_law_558 : decode cL_law 558 = .ok (.iadd, 1) := by decide +kernel
theorem dL_law_559 : decode cL_law 559 = .ok (.iaload, 1) := by decide +kernel
theorem dL_law_560 : decode cL_law 560 = .ok (.aload_n 0, 1) := by decide +kernel
theorem dL_law_561 : decode cL_law 561 = .ok (.iload_n 3, 1) := by decide +kernel
theorem dL_law_562 : decode cL_law 562 = .ok (.iconst 2, 1) := by decide +kernel
theorem dL_law_563 : decode cL_law 563 = .ok (.iadd, 1) := by decide +kernel
theorem dL_law_564 : decode cL_law 564 = .ok (.iaload, 1) := by decide +kernel
theorem dL_law_565 : decode cL_law 565 = .ok (.invokevirtual 60, 3) := by decide +kernel
theorem dL_law_568 : decode cL_law 568 = .ok (.if_icmp .eq 555, 3) := by decide +kernel
theorem dL_law_571 : decode cL_law 571 = .ok (.iconst 0, 1) := by decide +kernel
theorem dL_law_572 : decode cL_law 572 = .ok (.ireturn, 1) := by decide +kernel
theorem dL_law_573 : decode cL_law 573 = .ok (.aload_n 1, 1) := by decide +kernel
theorem dL_law_574 : decode cL_law 574 = .ok (.aload_n 0, 1) := by decide +kernel
theorem dL_law_575 : decode cL_law 575 = .ok (.iload_n 3, 1) := by decide +kernel
theorem dL_law_576 : decode cL_law 576 = .ok (.iconst 1, 1) := by decide +kernel
theorem dL_law_577 : decode cL_law 577 = .ok (.iadd, 1) := by decide +kernel
theorem dL_law_578 : decode cL_law 578 = .ok (.iaload, 1) := by decide +kernel
theorem dL_law_579 : decode cL_law 579 = .ok (.invokevirtual 61, 3) := by decide +kernel
theorem dL_law_582 : decode cL_law 582 = .ok (.aload_n 2, 1) := by decide +kernel
theorem dL_law_583 : decode cL_law 583 = .ok (.aload_n 0, 1) := by decide +kernel
theorem dL_law_584 : decode cL_law 584 = .ok (.iload_n 3, 1) := by decide +kernel
theorem dL_law_585 : decode cL_law 585 = .ok (.iconst 1, 1) := by decide +kernel
theorem dL_law_586 : decode cL_law 586 = .ok (.iadd, 1) := by decide +kernel
theorem dL_law_587 : decode cL_law 587 = .ok (.iaload, 1) := by decide +kernel
theorem dL_law_588 : decode cL_law 588 = .ok (.invokevirtual 64, 3) := by decide +kernel
theorem dL_law_591 : decode cL_law 591 = .ok (.if_icmp .eq 532, 3) := by decide +kernel
theorem dL_law_594 : decode cL_law 594 = .ok (.iconst 0, 1) := by decide +kernel
theorem dL_law_595 : decode cL_law 595 = .ok (.ireturn, 1) := by decide +kernel
theorem dL_law_596 : decode cL_law 596 = .ok (.aload_n 1, 1) := by decide +kernel
theorem dL_law_597 : decode cL_law 597 = .ok (.invokevirtual 65, 3) := by decide +kernel
theorem dL_law_600 : decode cL_law 600 = .ok (.aload_n 2, 1) := by decide +kernel
theorem dL_law_601 : decode cL_law 601 = .ok (.invokevirtual 69, 3) := by decide +kernel
theorem dL_law_604 : decode cL_law 604 = .ok (.if_icmp .eq 519, 3) := by decide +kernel
theorem dL_law_607 : decode cL_law 607 = .ok (.iconst 0, 1) := by decide +kernel
theorem dL_law_608 : decode cL_law 608 = .ok (.ireturn, 1) := by decide +kernel
theorem dL_law_609 : decode cL_law 609 = .ok (.aload_n 1, 1) := by decide +kernel
theorem dL_law_610 : decode cL_law 610 = .ok (.aload_n 0, 1) := by decide +kernel
theorem dL_law_611 : decode cL_law 611 = .ok (.iload_n 3, 1) := by decide +kernel
theorem dL_law_612 : decode cL_law 612 = .ok (.iconst 1, 1) := by decide +kernel
theorem dL_law_613 : decode cL_law 613 = .ok (.iadd, 1) := by decide +kernel
theorem dL_law_614 : decode cL_law 614 = .ok (.iaload, 1) := by decide +kernel
theorem dL_law_615 : decode cL_law 615 = .ok (.invokevirtual 70, 3) := by decide +kernel
theorem dL_law_618 : decode cL_law 618 = .ok (.aload_n 2, 1) := by decide +kernel
theorem dL_law_619 : decode cL_law 619 = .ok (.aload_n 0, 1) := by decide +kernel
theorem dL_law_620 : decode cL_law 620 = .ok (.iload_n 3, 1) := by decide +kernel
theorem dL_law_621 : decode cL_law 621 = .ok (.iconst 1, 1) := by decide +kernel
theorem dL_law_622 : decode cL_law 622 = .ok (.iadd, 1) := by decide +kernel
theorem dL_law_623 : decode cL_law 623 = .ok (.iaload, 1) := by decide +kernel
theorem dL_law_624 : decode cL_law 624 = .ok (.invokevirtual 73, 3) := by decide +kernel
theorem dL_law_627 : decode cL_law 627 = .ok (.if_icmp .eq 496, 3) := by decide +kernel
theorem dL_law_630 : decode cL_law 630 = .ok (.iconst 0, 1) := by decide +kernel
theorem dL_law_631 : decode cL_law 631 = .ok (.ireturn, 1) := by decide +kernel
theorem dL_law_632 : decode cL_law 632 = .ok (.aload_n 1, 1) := by decide +kernel
theorem dL_law_633 : decode cL_law 633 = .ok (.aload_n 0, 1) := by decide +kernel
theorem dL_law_634 : decode cL_law 634 = .ok (.iload_n 3, 1) := by decide +kernel
theorem dL_law_635 : decode cL_law 635 = .ok (.iconst 1, 1) := by decide +kernel
theorem dL_law_636 : decode cL_law 636 = .ok (.iadd, 1) := by decide +kernel
theorem dL_law_637 : decode cL_law 637 = .ok (.iaload, 1) := by decide +kernel
theorem dL_law_638 : decode cL_law 638 = .ok (.aload_n 0, 1) := by decide +kernel
theorem dL_law_639 : decode cL_law 639 = .ok (.iload_n 3, 1) := by decide +kernel
theorem dL_law_640 : decode cL_law 640 = .ok (.iconst 2, 1) := by decide +kernel
theorem dL_law_641 : decode cL_law 641 = .ok (.iadd, 1) := by decide +kernel
theorem dL_law_642 : decode cL_law 642 = .ok (.iaload, 1) := by decide +kernel
theorem dL_law_643 : decode cL_law 643 = .ok (.invokevirtual 74, 3) := by decide +kernel
theorem dL_law_646 : decode cL_law 646 = .ok (.aload_n 2, 1) := by decide +kernel
theorem dL_law_647 : decode cL_law 647 = .ok (.aload_n 0, 1) := by decide +kernel
theorem dL_law_648 : decode cL_law 648 = .ok (.iload_n 3, 1) := by decide +kernel
theorem dL_law_649 : decode cL_law 649 = .ok (.iconst 1, 1) := by decide +kernel
theorem dL_law_650 : decode cL_law 650 = .ok (.iadd, 1) := by decide +kernel
theorem dL_law_651 : decode cL_law 651 = .ok (.iaload, 1) := by decide +kernel
theorem dL_law_652 : decode cL_law 652 = .ok (.aload_n 0, 1) := by decide +kernel
theorem dL_law_653 : decode cL_law 653 = .ok (.iload_n 3, 1) := by decide +kernel
theorem dL_law_654 : decode cL_law 654 = .ok (.iconst 2, 1) := by decide +kernel
theorem dL_law_655 : decode cL_law 655 = .ok (.iadd, 1) := by decide +kernel
theorem dL_law_656 : decode cL_law 656 = .ok (.iaload, 1) := by decide +kernel
theorem dL_law_657 : decode cL_law 657 = .ok (.invokevirtual 77, 3) := by decide +kernel
theorem dL_law_660 : decode cL_law 660 = .ok (.if_icmp .eq 463, 3) := by decide +kernel
theorem dL_law_663 : decode cL_law 663 = .ok (.iconst 0, 1) := by decide +kernel
theorem dL_law_664 : decode cL_law 664 = .ok (.ireturn, 1) := by decide +kernel
theorem dL_law_665 : decode cL_law 665 = .ok (.aload_n 1, 1) := by decide +kernel
theorem dL_law_666 : decode cL_law 666 = .ok (.aload_n 0, 1) := by decide +kernel
theorem dL_law_667 : decode cL_law 667 = .ok (.iload_n 3, 1) := by decide +kernel
theorem dL_law_668 : decode cL_law 668 = .ok (.iconst 1, 1) := by decide +kernel
theorem dL_law_669 : decode cL_law 669 = .ok (.iadd, 1) := by decide +kernel
theorem dL_law_670 : decode cL_law 670 = .ok (.iaload, 1) := by decide +kernel
theorem dL_law_671 : decode cL_law 671 = .ok (.aload_n 0, 1) := by decide +kernel
theorem dL_law_672 : decode cL_law 672 = .ok (.iload_n 3, 1) := by decide +kernel
theorem dL_law_673 : decode cL_law 673 = .ok (.iconst 2, 1) := by decide +kernel
theorem dL_law_674 : decode cL_law 674 = .ok (.iadd, 1) := by decide +kernel
theorem dL_law_675 : decode cL_law 675 = .ok (.iaload, 1) := by decide +kernel
theorem dL_law_676 : decode cL_law 676 = .ok (.ifCond .eq 7, 3) := by decide +kernel
theorem dL_law_679 : decode cL_law 679 = .ok (.iconst 1, 1) := by decide +kernel
theorem dL_law_680 : decode cL_law 680 = .ok (.goto 4, 3) := by decide +kernel
theorem dL_law_683 : decode cL_law 683 = .ok (.iconst 0, 1) := by decide +kernel
theorem dL_law_684 : decode cL_law 684 = .ok (.invokevirtual 78, 3) := by decide +kernel
theorem dL_law_687 : decode cL_law 687 = .ok (.aload_n 2, 1) := by decide +kernel
theorem dL_law_688 : decode cL_law 688 = .ok (.aload_n 0, 1) := by decide +kernel
theorem dL_law_689 : decode cL_law 689 = .ok (.iload_n 3, 1) := by decide +kernel
theorem dL_law_690 : decode cL_law 690 = .ok (.iconst 1, 1) := by decide +kernel
theorem dL_law_691 : decode cL_law 691 = .ok (.iadd, 1) := by decide +kernel
theorem dL_law_692 : decode cL_law 692 = .ok (.iaload, 1) := by decide +kernel
theorem dL_law_693 : decode cL_law 693 = .ok (.aload_n 0, 1) := by decide +kernel
theorem dL_law_694 : decode cL_law 694 = .ok (.iload_n 3, 1) := by decide +kernel
theorem dL_law_695 : decode cL_law 695 = .ok (.iconst 2, 1) := by decide +kernel
theorem dL_law_696 : decode cL_law 696 = .ok (.iadd, 1) := by decide +kernel
theorem dL_law_697 : decode cL_law 697 = .ok (.iaload, 1) := by decide +kernel
theorem dL_law_698 : decode cL_law 698 = .ok (.ifCond .eq 7, 3) := by decide +kernel
theorem dL_law_701 : decode cL_law 701 = .ok (.iconst 1, 1) := by decide +kernel
theorem dL_law_702 : decode cL_law 702 = .ok (.goto 4, 3) := by decide +kernel
theorem dL_law_705 : decode cL_law 705 = .ok (.iconst 0, 1) := by decide +kernel
theorem dL_law_706 : decode cL_law 706 = .ok (.invokevirtual 82, 3) := by decide +kernel
theorem dL_law_709 : decode cL_law 709 = .ok (.if_icmp .eq 414, 3) := by decide +kernel
theorem dL_law_712 : decode cL_law 712 = .ok (.iconst 0, 1) := by decide +kernel
theorem dL_law_713 : decode cL_law 713 = .ok (.ireturn, 1) := by decide +kernel
theorem dL_law_714 : decode cL_law 714 = .ok (.aload_n 1, 1) := by decide +kernel
theorem dL_law_715 : decode cL_law 715 = .ok (.invokevirtual 83, 3) := by decide +kernel
theorem dL_law_718 : decode cL_law 718 = .ok (.aload_n 2, 1) := by decide +kernel
theorem dL_law_719 : decode cL_law 719 = .ok (.invokevirtual 86, 3) := by decide +kernel
theorem dL_law_722 : decode cL_law 722 = .ok (.if_icmp .eq 401, 3) := by decide +kernel
theorem dL_law_725 : decode cL_law 725 = .ok (.iconst 0, 1) := by decide +kernel
theorem dL_law_726 : decode cL_law 726 = .ok (.ireturn, 1) := by decide +kernel
theorem dL_law_727 : decode cL_law 727 = .ok (.aload_n 1, 1) := by decide +kernel
theorem dL_law_728 : decode cL_law 728 = .ok (.invokevirtual 87, 3) := by decide +kernel
theorem dL_law_731 : decode cL_law 731 = .ok (.aload_n 2, 1) := by decide +kernel
theorem dL_law_732 : decode cL_law 732 = .ok (.invokevirtual 90, 3) := by decide +kernel
theorem dL_law_735 : decode cL_law 735 = .ok (.if_icmp .eq 388, 3) := by decide +kernel
theorem dL_law_738 : decode cL_law 738 = .ok (.iconst 0, 1) := by decide +kernel
theorem dL_law_739 : decode cL_law 739 = .ok (.ireturn, 1) := by decide +kernel
theorem dL_law_740 : decode cL_law 740 = .ok (.aload_n 1, 1) := by decide +kernel
theorem dL_law_741 : decode cL_law 741 = .ok (.aload_n 0, 1) := by decide +kernel
theorem dL_law_742 : decode cL_law 742 = .ok (.iload_n 3, 1) := by decide +kernel
theorem dL_law_743 : decode cL_law 743 = .ok (.iconst 1, 1) := by decide +kernel
theorem dL_law_744 : decode cL_law 744 = .ok (.iadd, 1) := by decide +kernel
theorem dL_law_745 : decode cL_law 745 = .ok (.iaload, 1) := by decide +kernel
theorem dL_law_746 : decode cL_law 746 = .ok (.aload_n 0, 1) := by decide +kernel
theorem dL_law_747 : decode cL_law 747 = .ok (.iload_n 3, 1) := by decide +kernel
theorem dL_law_748 : decode cL_law 748 = .ok (.iconst 2, 1) := by decide +kernel
theorem dL_law_749 : decode cL_law 749 = .ok (.iadd, 1) := by decide +kernel
theorem dL_law_750 : decode cL_law 750 = .ok (.iaload, 1) := by decide +kernel
theorem dL_law_751 : decode cL_law 751 = .ok (.invokevirtual 91, 3) := by decide +kernel
theorem dL_law_754 : decode cL_law 754 = .ok (.aload_n 2, 1) := by decide +kernel
theorem dL_law_755 : decode cL_law 755 = .ok (.aload_n 0, 1) := by decide +kernel
theorem dL_law_756 : decode cL_law 756 = .ok (.iload_n 3, 1) := by decide +kernel
theorem dL_law_757 : decode cL_law 757 = .ok (.iconst 1, 1) := by decide +kernel
theorem dL_law_758 : decode cL_law 758 = .ok (.iadd, 1) := by decide +kernel
theorem dL_law_759 : decode cL_law 759 = .ok (.iaload, 1) := by decide +kernel
theorem dL_law_760 : decode cL_law 760 = .ok (.aload_n 0, 1) := by decide +kernel
theorem dL_law_761 : decode cL_law 761 = .ok (.iload_n 3, 1) := by decide +kernel
theorem dL_law_762 : decode cL_law 762 = .ok (.iconst 2, 1) := by decide +kernel
theorem dL_law_763 : decode cL_law 763 = .ok (.iadd, 1) := by decide +kernel
theorem dL_law_764 : decode cL_law 764 = .ok (.iaload, 1) := by decide +kernel
theorem dL_law_765 : decode cL_law 765 = .ok (.invokevirtual 94, 3) := by decide +kernel
theorem dL_law_768 : decode cL_law 768 = .ok (.if_icmp .eq 355, 3) := by decide +kernel
theorem dL_law_771 : decode cL_law 771 = .ok (.iconst 0, 1) := by decide +kernel
theorem dL_law_772 : decode cL_law 772 = .ok (.ireturn, 1) := by decide +kernel
theorem dL_law_773 : decode cL_law 773 = .ok (.aload_n 1, 1) := by decide +kernel
theorem dL_law_774 : decode cL_law 774 = .ok (.aload_n 0, 1) := by decide +kernel
theorem dL_law_775 : decode cL_law 775 = .ok (.iload_n 3, 1) := by decide +kernel
theorem dL_law_776 : decode cL_law 776 = .ok (.iconst 1, 1) := by decide +kernel
theorem dL_law_777 : decode cL_law 777 = .ok (.iadd, 1) := by decide +kernel
theorem dL_law_778 : decode cL_law 778 = .ok (.iaload, 1) := by decide +kernel
theorem dL_law_779 : decode cL_law 779 = .ok (.aload_n 0, 1) := by decide +kernel
theorem dL_law_780 : decode cL_law 780 = .ok (.iload_n 3, 1) := by decide +kernel
theorem dL_law_781 : decode cL_law 781 = .ok (.iconst 2, 1) := by decide +kernel
theorem dL_law_782 : decode cL_law 782 = .ok (.iadd, 1) := by decide +kernel
theorem dL_law_783 : decode cL_law 783 = .ok (.iaload, 1) := by decide +kernel
theorem dL_law_784 : decode cL_law 784 = .ok (.invokevirtual 95, 3) := by decide +kernel
theorem dL_law_787 : decode cL_law 787 = .ok (.aload_n 2, 1) := by decide +kernel
theorem dL_law_788 : decode cL_law 788 = .ok (.aload_n 0, 1) := by decide +kernel
theorem dL_law_789 : decode cL_law 789 = .ok (.iload_n 3, 1) := by decide +kernel
theorem dL_law_790 : decode cL_law 790 = .ok (.iconst 1, 1) := by decide +kernel
theorem dL_law_791 : decode cL_law 791 = .ok (.iadd, 1) := by decide +kernel
theorem dL_law_792 : decode cL_law 792 = .ok (.iaload, 1) := by decide +kernel
theorem dL_law_793 : decode cL_law 793 = .ok (.aload_n 0, 1) := by decide +kernel
theorem dL_law_794 : decode cL_law 794 = .ok (.iload_n 3, 1) := by decide +kernel
theorem dL_law_795 : decode cL_law 795 = .ok (.iconst 2, 1) := by decide +kernel
theorem dL_law_796 : decode cL_law 796 = .ok (.iadd, 1) := by decide +kernel
theorem dL_law_797 : decode cL_law 797 = .ok (.iaload, 1) := by decide +kernel
theorem dL_law_798 : decode cL_law 798 = .ok (.invokevirtual 98, 3) := by decide +kernel
theorem dL_law_801 : decode cL_law 801 = .ok (.if_icmp .eq 322, 3) := by decide +kernel
theorem dL_law_804 : decode cL_law 804 = .ok (.iconst 0, 1) := by decide +kernel
theorem dL_law_805 : decode cL_law 805 = .ok (.ireturn, 1) := by decide +kernel
theorem dL_law_806 : decode cL_law 806 = .ok (.aload_n 1, 1) := by decide +kernel
theorem dL_law_807 : decode cL_law 807 = .ok (.invokevirtual 99, 3) := by decide +kernel
theorem dL_law_810 : decode cL_law 810 = .ok (.aload_n 2, 1) := by decide +kernel
theorem dL_law_811 : decode cL_law 811 = .ok (.invokevirtual 102, 3) := by decide +kernel
theorem dL_law_814 : decode cL_law 814 = .ok (.if_icmp .eq 309, 3) := by decide +kernel
theorem dL_law_817 : decode cL_law 817 = .ok (.iconst 0, 1) := by decide +kernel
theorem dL_law_818 : decode cL_law 818 = .ok (.ireturn, 1) := by decide +kernel
theorem dL_law_819 : decode cL_law 819 = .ok (.aload_n 1, 1) := by decide +kernel
theorem dL_law_820 : decode cL_law 820 = .ok (.aload_n 0, 1) := by decide +kernel
theorem dL_law_821 : decode cL_law 821 = .ok (.iload_n 3, 1) := by decide +kernel
theorem dL_law_822 : decode cL_law 822 = .ok (.iconst 1, 1) := by decide +kernel
theorem dL_law_823 : decode cL_law 823 = .ok (.iadd, 1) := by decide +kernel
theorem dL_law_824 : decode cL_law 824 = .ok (.iaload, 1) := by decide +kernel
theorem dL_law_825 : decode cL_law 825 = .ok (.aload_n 0, 1) := by decide +kernel
theorem dL_law_826 : decode cL_law 826 = .ok (.iload_n 3, 1) := by decide +kernel
theorem dL_law_827 : decode cL_law 827 = .ok (.iconst 2, 1) := by decide +kernel
theorem dL_law_828 : decode cL_law 828 = .ok (.iadd, 1) := by decide +kernel
theorem dL_law_829 : decode cL_law 829 = .ok (.iaload, 1) := by decide +kernel
theorem dL_law_830 : decode cL_law 830 = .ok (.aload_n 0, 1) := by decide +kernel
theorem dL_law_831 : decode cL_law 831 = .ok (.iload_n 3, 1) := by decide +kernel
theorem dL_law_832 : decode cL_law 832 = .ok (.iconst 3, 1) := by decide +kernel
theorem dL_law_833 : decode cL_law 833 = .ok (.iadd, 1) := by decide +kernel
theorem dL_law_834 : decode cL_law 834 = .ok (.iaload, 1) := by decide +kernel
theorem dL_law_835 : decode cL_law 835 = .ok (.aload_n 0, 1) := by decide +kernel
theorem dL_law_836 : decode cL_law 836 = .ok (.iload_n 3, 1) := by decide +kernel
theorem dL_law_837 : decode cL_law 837 = .ok (.iconst 4, 1) := by decide +kernel
theorem dL_law_838 : decode cL_law 838 = .ok (.iadd, 1) := by decide +kernel
theorem dL_law_839 : decode cL_law 839 = .ok (.iaload, 1) := by decide +kernel
theorem dL_law_840 : decode cL_law 840 = .ok (.invokevirtual 103, 3) := by decide +kernel
theorem dL_law_843 : decode cL_law 843 = .ok (.aload_n 2, 1) := by decide +kernel
theorem dL_law_844 : decode cL_law 844 = .ok (.aload_n 0, 1) := by decide +kernel
theorem dL_law_845 : decode cL_law 845 = .ok (.iload_n 3, 1) := by decide +kernel
theorem dL_law_846 : decode cL_law 846 = .ok (.iconst 1, 1) := by decide +kernel
theorem dL_law_847 : decode cL_law 847 = .ok (.iadd, 1) := by decide +kernel
theorem dL_law_848 : decode cL_law 848 = .ok (.iaload, 1) := by decide +kernel
theorem dL_law_849 : decode cL_law 849 = .ok (.aload_n 0, 1) := by decide +kernel
theorem dL_law_850 : decode cL_law 850 = .ok (.iload_n 3, 1) := by decide +kernel
theorem dL_law_851 : decode cL_law 851 = .ok (.iconst 2, 1) := by decide +kernel
theorem dL_law_852 : decode cL_law 852 = .ok (.iadd, 1) := by decide +kernel
theorem dL_law_853 : decode cL_law 853 = .ok (.iaload, 1) := by decide +kernel
theorem dL_law_854 : decode cL_law 854 = .ok (.aload_n 0, 1) := by decide +kernel
theorem dL_law_855 : decode cL_law 855 = .ok (.iload_n 3, 1) := by decide +kernel
theorem dL_law_856 : decode cL_law 856 = .ok (.iconst 3, 1) := by decide +kernel
theorem dL_law_857 : decode cL_law 857 = .ok (.iadd, 1) := by decide +kernel
theorem dL_law_858 : decode cL_law 858 = .ok (.iaload, 1) := by decide +kernel
theorem dL_law_859 : decode cL_law 859 = .ok (.aload_n 0, 1) := by decide +kernel
theorem dL_law_860 : decode cL_law 860 = .ok (.iload_n 3, 1) := by decide +kernel
theorem dL_law_861 : decode cL_law 861 = .ok (.iconst 4, 1) := by decide +kernel
theorem dL_law_862 : decode cL_law 862 = .ok (.iadd, 1) := by decide +kernel
theorem dL_law_863 : decode cL_law 863 = .ok (.iaload, 1) := by decide +kernel
theorem dL_law_864 : decode cL_law 864 = .ok (.invokevirtual 107, 3) := by decide +kernel
theorem dL_law_867 : decode cL_law 867 = .ok (.if_icmp .eq 256, 3) := by decide +kernel
theorem dL_law_870 : decode cL_law 870 = .ok (.iconst 0, 1) := by decide +kernel
theorem dL_law_871 : decode cL_law 871 = .ok (.ireturn, 1) := by decide +kernel
theorem dL_law_872 : decode cL_law 872 = .ok (.aload_n 1, 1) := by decide +kernel
theorem dL_law_873 : decode cL_law 873 = .ok (.aload_n 0, 1) := by decide +kernel
theorem dL_law_874 : decode cL_law 874 = .ok (.iload_n 3, 1) := by decide +kernel
theorem dL_law_875 : decode cL_law 875 = .ok (.iconst 1, 1) := by decide +kernel
theorem dL_law_876 : decode cL_law 876 = .ok (.iadd, 1) := by decide +kernel
theorem dL_law_877 : decode cL_law 877 = .ok (.iaload, 1) := by decide +kernel
theorem dL_law_878 : decode cL_law 878 = .ok (.aload_n 0, 1) := by decide +kernel
theorem dL_law_879 : decode cL_law 879 = .ok (.iload_n 3, 1) := by decide +kernel
theorem dL_law_880 : decode cL_law 880 = .ok (.iconst 2, 1) := by decide +kernel
theorem dL_law_881 : decode cL_law 881 = .ok (.iadd, 1) := by decide +kernel
theorem dL_law_882 : decode cL_law 882 = .ok (.iaload, 1) := by decide +kernel
theorem dL_law_883 : decode cL_law 883 = .ok (.aload_n 0, 1) := by decide +kernel
theorem dL_law_884 : decode cL_law 884 = .ok (.iload_n 3, 1) := by decide +kernel
theorem dL_law_885 : decode cL_law 885 = .ok (.iconst 3, 1) := by decide +kernel
theorem dL_law_886 : decode cL_law 886 = .ok (.iadd, 1) := by decide +kernel
theorem dL_law_887 : decode cL_law 887 = .ok (.iaload, 1) := by decide +kernel
theorem dL_law_888 : decode cL_law 888 = .ok (.invokevirtual 108, 3) := by decide +kernel
theorem dL_law_891 : decode cL_law 891 = .ok (.aload_n 2, 1) := by decide +kernel
theorem dL_law_892 : decode cL_law 892 = .ok (.aload_n 0, 1) := by decide +kernel
theorem dL_law_893 : decode cL_law 893 = .ok (.iload_n 3, 1) := by decide +kernel
theorem dL_law_894 : decode cL_law 894 = .ok (.iconst 1, 1) := by decide +kernel
theorem dL_law_895 : decode cL_law 895 = .ok (.iadd, 1) := by decide +kernel
theorem dL_law_896 : decode cL_law 896 = .ok (.iaload, 1) := by decide +kernel
theorem dL_law_897 : decode cL_law 897 = .ok (.aload_n 0, 1) := by decide +kernel
theorem dL_law_898 : decode cL_law 898 = .ok (.iload_n 3, 1) := by decide +kernel
theorem dL_law_899 : decode cL_law 899 = .ok (.iconst 2, 1) := by decide +kernel
theorem dL_law_900 : decode cL_law 900 = .ok (.iadd, 1) := by decide +kernel
theorem dL_law_901 : decode cL_law 901 = .ok (.iaload, 1) := by decide +kernel
theorem dL_law_902 : decode cL_law 902 = .ok (.aload_n 0, 1) := by decide +kernel
theorem dL_law_903 : decode cL_law 903 = .ok (.iload_n 3, 1) := by decide +kernel
theorem dL_law_904 : decode cL_law 904 = .ok (.iconst 3, 1) := by decide +kernel
theorem dL_law_905 : decode cL_law 905 = .ok (.iadd, 1) := by decide +kernel
theorem dL_law_906 : decode cL_law 906 = .ok (.iaload, 1) := by decide +kernel
theorem dL_law_907 : decode cL_law 907 = .ok (.invokevirtual 111, 3) := by decide +kernel
theorem dL_law_910 : decode cL_law 910 = .ok (.if_icmp .eq 213, 3) := by decide +kernel
theorem dL_law_913 : decode cL_law 913 = .ok (.iconst 0, 1) := by decide +kernel
theorem dL_law_914 : decode cL_law 914 = .ok (.ireturn, 1) := by decide +kernel
theorem dL_law_915 : decode cL_law 915 = .ok (.aload_n 1, 1) := by decide +kernel
theorem dL_law_916 : decode cL_law 916 = .ok (.aload_n 0, 1) := by decide +kernel
theorem dL_law_917 : decode cL_law 917 = .ok (.iload_n 3, 1) := by decide +kernel
theorem dL_law_918 : decode cL_law 918 = .ok (.iconst 1, 1) := by decide +kernel
theorem dL_law_919 : decode cL_law 919 = .ok (.iadd, 1) := by decide +kernel
theorem dL_law_920 : decode cL_law 920 = .ok (.iaload, 1) := by decide +kernel
theorem dL_law_921 : decode cL_law 921 = .ok (.aload_n 0, 1) := by decide +kernel
theorem dL_law_922 : decode cL_law 922 = .ok (.iload_n 3, 1) := by decide +kernel
theorem dL_law_923 : decode cL_law 923 = .ok (.iconst 2, 1) := by decide +kernel
theorem dL_law_924 : decode cL_law 924 = .ok (.iadd, 1) := by decide +kernel
theorem dL_law_925 : decode cL_law 925 = .ok (.iaload, 1) := by decide +kernel
theorem dL_law_926 : decode cL_law 926 = .ok (.aload_n 0, 1) := by decide +kernel
theorem dL_law_927 : decode cL_law 927 = .ok (.iload_n 3, 1) := by decide +kernel
theorem dL_law_928 : decode cL_law 928 = .ok (.iconst 3, 1) := by decide +kernel
theorem dL_law_929 : decode cL_law 929 = .ok (.iadd, 1) := by decide +kernel
theorem dL_law_930 : decode cL_law 930 = .ok (.iaload, 1) := by decide +kernel
theorem dL_law_931 : decode cL_law 931 = .ok (.invokevirtual 112, 3) := by decide +kernel
theorem dL_law_934 : decode cL_law 934 = .ok (.aload_n 2, 1) := by decide +kernel
theorem dL_law_935 : decode cL_law 935 = .ok (.aload_n 0, 1) := by decide +kernel
theorem dL_law_936 : decode cL_law 936 = .ok (.iload_n 3, 1) := by decide +kernel
theorem dL_law_937 : decode cL_law 937 = .ok (.iconst 1, 1) := by decide +kernel
theorem dL_law_938 : decode cL_law 938 = .ok (.iadd, 1) := by decide +kernel
theorem dL_law_939 : decode cL_law 939 = .ok (.iaload, 1) := by decide +kernel
theorem dL_law_940 : decode cL_law 940 = .ok (.aload_n 0, 1) := by decide +kernel
theorem dL_law_941 : decode cL_law 941 = .ok (.iload_n 3, 1) := by decide +kernel
theorem dL_law_942 : decode cL_law 942 = .ok (.iconst 2, 1) := by decide +kernel
theorem dL_law_943 : decode cL_law 943 = .ok (.iadd, 1) := by decide +kernel
theorem dL_law_944 : decode cL_law 944 = .ok (.iaload, 1) := by decide +kernel
theorem dL_law_945 : decode cL_law 945 = .ok (.aload_n 0, 1) := by decide +kernel
theorem dL_law_946 : decode cL_law 946 = .ok (.iload_n 3, 1) := by decide +kernel
theorem dL_law_947 : decode cL_law 947 = .ok (.iconst 3, 1) := by decide +kernel
theorem dL_law_948 : decode cL_law 948 = .ok (.iadd, 1) := by decide +kernel
theorem dL_law_949 : decode cL_law 949 = .ok (.iaload, 1) := by decide +kernel
theorem dL_law_950 : decode cL_law 950 = .ok (.invokevirtual 115, 3) := by decide +kernel
theorem dL_law_953 : decode cL_law 953 = .ok (.if_icmp .eq 170, 3) := by decide +kernel
theorem dL_law_956 : decode cL_law 956 = .ok (.iconst 0, 1) := by decide +kernel
theorem dL_law_957 : decode cL_law 957 = .ok (.ireturn, 1) := by decide +kernel
theorem dL_law_958 : decode cL_law 958 = .ok (.aload_n 1, 1) := by decide +kernel
theorem dL_law_959 : decode cL_law 959 = .ok (.aload_n 0, 1) := by decide +kernel
theorem dL_law_960 : decode cL_law 960 = .ok (.iload_n 3, 1) := by decide +kernel
theorem dL_law_961 : decode cL_law 961 = .ok (.iconst 1, 1) := by decide +kernel
theorem dL_law_962 : decode cL_law 962 = .ok (.iadd, 1) := by decide +kernel
theorem dL_law_963 : decode cL_law 963 = .ok (.iaload, 1) := by decide +kernel
theorem dL_law_964 : decode cL_law 964 = .ok (.aload_n 0, 1) := by decide +kernel
theorem dL_law_965 : decode cL_law 965 = .ok (.iload_n 3, 1) := by decide +kernel
theorem dL_law_966 : decode cL_law 966 = .ok (.iconst 2, 1) := by decide +kernel
theorem dL_law_967 : decode cL_law 967 = .ok (.iadd, 1) := by decide +kernel
theorem dL_law_968 : decode cL_law 968 = .ok (.iaload, 1) := by decide +kernel
theorem dL_law_969 : decode cL_law 969 = .ok (.aload_n 0, 1) := by decide +kernel
theorem dL_law_970 : decode cL_law 970 = .ok (.iload_n 3, 1) := by decide +kernel
theorem dL_law_971 : decode cL_law 971 = .ok (.iconst 3, 1) := by decide +kernel
theorem dL_law_972 : decode cL_law 972 = .ok (.iadd, 1) := by decide +kernel
theorem dL_law_973 : decode cL_law 973 = .ok (.iaload, 1) := by decide +kernel
theorem dL_law_974 : decode cL_law 974 = .ok (.invokevirtual 116, 3) := by decide +kernel
theorem dL_law_977 : decode cL_law 977 = .ok (.aload_n 2, 1) := by decide +kernel
theorem dL_law_978 : decode cL_law 978 = .ok (.aload_n 0, 1) := by decide +kernel
theorem dL_law_979 : decode cL_law 979 = .ok (.iload_n 3, 1) := by decide +kernel
theorem dL_law_980 : decode cL_law 980 = .ok (.iconst 1, 1) := by decide +kernel
theorem dL_law_981 : decode cL_law 981 = .ok (.iadd, 1) := by decide +kernel
theorem dL_law_982 : decode cL_law 982 = .ok (.iaload, 1) := by decide +kernel
theorem dL_law_983 : decode cL_law 983 = .ok (.aload_n 0, 1) := by decide +kernel
theorem dL_law_984 : decode cL_law 984 = .ok (.iload_n 3, 1) := by decide +kernel
theorem dL_law_985 : decode cL_law 985 = .ok (.iconst 2, 1) := by decide +kernel
theorem dL_law_986 : decode cL_law 986 = .ok (.iadd, 1) := by decide +kernel
theorem dL_law_987 : decode cL_law 987 = .ok (.iaload, 1) := by decide +kernel
theorem dL_law_988 : decode cL_law 988 = .ok (.aload_n 0, 1) := by decide +kernel
theorem dL_law_989 : decode cL_law 989 = .ok (.iload_n 3, 1) := by decide +kernel
theorem dL_law_990 : decode cL_law 990 = .ok (.iconst 3, 1) := by decide +kernel
theorem dL_law_991 : decode cL_law 991 = .ok (.iadd, 1) := by decide +kernel
theorem dL_law_992 : decode cL_law 992 = .ok (.iaload, 1) := by decide +kernel
theorem dL_law_993 : decode cL_law 993 = .ok (.invokevirtual 119, 3) := by decide +kernel
theorem dL_law_996 : decode cL_law 996 = .ok (.if_icmp .eq 127, 3) := by decide +kernel
theorem dL_law_999 : decode cL_law 999 = .ok (.iconst 0, 1) := by decide +kernel
theorem dL_law_1000 : decode cL_law 1000 = .ok (.ireturn, 1) := by decide +kernel
theorem dL_law_1001 : decode cL_law 1001 = .ok (.aload_n 1, 1) := by decide +kernel
theorem dL_law_1002 : decode cL_law 1002 = .ok (.aload_n 0, 1) := by decide +kernel
theorem dL_law_1003 : decode cL_law 1003 = .ok (.iload_n 3, 1) := by decide +kernel
theorem dL_law_1004 : decode cL_law 1004 = .ok (.iconst 1, 1) := by decide +kernel
theorem dL_law_1005 : decode cL_law 1005 = .ok (.iadd, 1) := by decide +kernel
theorem dL_law_1006 : decode cL_law 1006 = .ok (.iaload, 1) := by decide +kernel
theorem dL_law_1007 : decode cL_law 1007 = .ok (.aload_n 0, 1) := by decide +kernel
theorem dL_law_1008 : decode cL_law 1008 = .ok (.iload_n 3, 1) := by decide +kernel
theorem dL_law_1009 : decode cL_law 1009 = .ok (.iconst 2, 1) := by decide +kernel
theorem dL_law_1010 : decode cL_law 1010 = .ok (.iadd, 1) := by decide +kernel
theorem dL_law_1011 : decode cL_law 1011 = .ok (.iaload, 1) := by decide +kernel
theorem dL_law_1012 : decode cL_law 1012 = .ok (.aload_n 0, 1) := by decide +kernel
theorem dL_law_1013 : decode cL_law 1013 = .ok (.iload_n 3, 1) := by decide +kernel
theorem dL_law_1014 : decode cL_law 1014 = .ok (.iconst 3, 1) := by decide +kernel
theorem dL_law_1015 : decode cL_law 1015 = .ok (.iadd, 1) := by decide +kernel
theorem dL_law_1016 : decode cL_law 1016 = .ok (.iaload, 1) := by decide +kernel
theorem dL_law_1017 : decode cL_law 1017 = .ok (.aload_n 0, 1) := by decide +kernel
theorem dL_law_1018 : decode cL_law 1018 = .ok (.iload_n 3, 1) := by decide +kernel
theorem dL_law_1019 : decode cL_law 1019 = .ok (.iconst 4, 1) := by decide +kernel
theorem dL_law_1020 : decode cL_law 1020 = .ok (.iadd, 1) := by decide +kernel
theorem dL_law_1021 : decode cL_law 1021 = .ok (.iaload, 1) := by decide +kernel
theorem dL_law_1022 : decode cL_law 1022 = .ok (.aload_n 0, 1) := by decide +kernel
theorem dL_law_1023 : decode cL_law 1023 = .ok (.iload_n 3, 1) := by decide +kernel
theorem dL_law_1024 : decode cL_law 1024 = .ok (.iconst 5, 1) := by decide +kernel
theorem dL_law_1025 : decode cL_law 1025 = .ok (.iadd, 1) := by decide +kernel
theorem dL_law_1026 : decode cL_law 1026 = .ok (.iaload, 1) := by decide +kernel
theorem dL_law_1027 : decode cL_law 1027 = .ok (.invokevirtual 120, 3) := by decide +kernel
theorem dL_law_1030 : decode cL_law 1030 = .ok (.aload_n 2, 1) := by decide +kernel
theorem dL_law_1031 : decode cL_law 1031 = .ok (.aload_n 0, 1) := by decide +kernel
theorem dL_law_1032 : decode cL_law 1032 = .ok (.iload_n 3, 1) := by decide +kernel
theorem dL_law_1033 : decode cL_law 1033 = .ok (.iconst 1, 1) := by decide +kernel
theorem dL_law_1034 : decode cL_law 1034 = .ok (.iadd, 1) := by decide +kernel
theorem dL_law_1035 : decode cL_law 1035 = .ok (.iaload, 1) := by decide +kernel
theorem dL_law_1036 : decode cL_law 1036 = .ok (.aload_n 0, 1) := by decide +kernel
theorem dL_law_1037 : decode cL_law 1037 = .ok (.iload_n 3, 1) := by decide +kernel
theorem dL_law_1038 : decode cL_law 1038 = .ok (.iconst 2, 1) := by decide +kernel
theorem dL_law_1039 : decode cL_law 1039 = .ok (.iadd, 1) := by decide +kernel
theorem dL_law_1040 : decode cL_law 1040 = .ok (.iaload, 1) := by decide +kernel
theorem dL_law_1041 : decode cL_law 1041 = .ok (.aload_n 0, 1) := by decide +kernel
theorem dL_law_1042 : decode cL_law 1042 = .ok (.iload_n 3, 1) := by decide +kernel
theorem dL_law_1043 : decode cL_law 1043 = .ok (.iconst 3, 1) := by decide +kernel
theorem dL_law_1044 : decode cL_law 1044 = .ok (.iadd, 1) := by decide +kernel
theorem dL_law_1045 : decode cL_law 1045 = .ok (.iaload, 1) := by decide +kernel
theorem dL_law_1046 : decode cL_law 1046 = .ok (.aload_n 0, 1) := by decide +kernel
theorem dL_law_1047 : decode cL_law 1047 = .ok (.iload_n 3, 1) := by decide +kernel
theorem dL_law_1048 : decode cL_law 1048 = .ok (.iconst 4, 1) := by decide +kernel
theorem dL_law_1049 : decode cL_law 1049 = .ok (.iadd, 1) := by decide +kernel
theorem dL_law_1050 : decode cL_law 1050 = .ok (.iaload, 1) := by decide +kernel
theorem dL_law_1051 : decode cL_law 1051 = .ok (.aload_n 0, 1) := by decide +kernel
theorem dL_law_1052 : decode cL_law 1052 = .ok (.iload_n 3, 1) := by decide +kernel
theorem dL_law_1053 : decode cL_law 1053 = .ok (.iconst 5, 1) := by decide +kernel
theorem dL_law_1054 : decode cL_law 1054 = .ok (.iadd, 1) := by decide +kernel
theorem dL_law_1055 : decode cL_law 1055 = .ok (.iaload, 1) := by decide +kernel
theorem dL_law_1056 : decode cL_law 1056 = .ok (.invokevirtual 124, 3) := by decide +kernel
theorem dL_law_1059 : decode cL_law 1059 = .ok (.if_icmp .eq 64, 3) := by decide +kernel
theorem dL_law_1062 : decode cL_law 1062 = .ok (.iconst 0, 1) := by decide +kernel
theorem dL_law_1063 : decode cL_law 1063 = .ok (.ireturn, 1) := by decide +kernel
theorem dL_law_1064 : decode cL_law 1064 = .ok (.aload_n 1, 1) := by decide +kernel
theorem dL_law_1065 : decode cL_law 1065 = .ok (.aload_n 0, 1) := by decide +kernel
theorem dL_law_1066 : decode cL_law 1066 = .ok (.iload_n 3, 1) := by decide +kernel
theorem dL_law_1067 : decode cL_law 1067 = .ok (.iconst 1, 1) := by decide +kernel
theorem dL_law_1068 : decode cL_law 1068 = .ok (.iadd, 1) := by decide +kernel
theorem dL_law_1069 : decode cL_law 1069 = .ok (.iaload, 1) := by decide +kernel
theorem dL_law_1070 : decode cL_law 1070 = .ok (.invokevirtual 125, 3) := by decide +kernel
theorem dL_law_1073 : decode cL_law 1073 = .ok (.aload_n 2, 1) := by decide +kernel
theorem dL_law_1074 : decode cL_law 1074 = .ok (.aload_n 0, 1) := by decide +kernel
theorem dL_law_1075 : decode cL_law 1075 = .ok (.iload_n 3, 1) := by decide +kernel
theorem dL_law_1076 : decode cL_law 1076 = .ok (.iconst 1, 1) := by decide +kernel
theorem dL_law_1077 : decode cL_law 1077 = .ok (.iadd, 1) := by decide +kernel
theorem dL_law_1078 : decode cL_law 1078 = .ok (.iaload, 1) := by decide +kernel
theorem dL_law_1079 : decode cL_law 1079 = .ok (.invokevirtual 128, 3) := by decide +kernel
theorem dL_law_1082 : decode cL_law 1082 = .ok (.if_icmp .eq 41, 3) := by decide +kernel
theorem dL_law_1085 : decode cL_law 1085 = .ok (.iconst 0, 1) := by decide +kernel
theorem dL_law_1086 : decode cL_law 1086 = .ok (.ireturn, 1) := by decide +kernel
theorem dL_law_1087 : decode cL_law 1087 = .ok (.aload_n 1, 1) := by decide +kernel
theorem dL_law_1088 : decode cL_law 1088 = .ok (.invokevirtual 129, 3) := by decide +kernel
theorem dL_law_1091 : decode cL_law 1091 = .ok (.aload_n 2, 1) := by decide +kernel
theorem dL_law_1092 : decode cL_law 1092 = .ok (.invokevirtual 132, 3) := by decide +kernel
theorem dL_law_1095 : decode cL_law 1095 = .ok (.if_icmp .eq 28, 3) := by decide +kernel
theorem dL_law_1098 : decode cL_law 1098 = .ok (.iconst 0, 1) := by decide +kernel
theorem dL_law_1099 : decode cL_law 1099 = .ok (.ireturn, 1) := by decide +kernel
theorem dL_law_1100 : decode cL_law 1100 = .ok (.aload_n 1, 1) := by decide +kernel
theorem dL_law_1101 : decode cL_law 1101 = .ok (.aload_n 0, 1) := by decide +kernel
theorem dL_law_1102 : decode cL_law 1102 = .ok (.iload_n 3, 1) := by decide +kernel
theorem dL_law_1103 : decode cL_law 1103 = .ok (.iconst 1, 1) := by decide +kernel
theorem dL_law_1104 : decode cL_law 1104 = .ok (.iadd, 1) := by decide +kernel
theorem dL_law_1105 : decode cL_law 1105 = .ok (.iaload, 1) := by decide +kernel
theorem dL_law_1106 : decode cL_law 1106 = .ok (.invokevirtual 133, 3) := by decide +kernel
theorem dL_law_1109 : decode cL_law 1109 = .ok (.aload_n 2, 1) := by decide +kernel
theorem dL_law_1110 : decode cL_law 1110 = .ok (.aload_n 0, 1) := by decide +kernel
theorem dL_law_1111 : decode cL_law 1111 = .ok (.iload_n 3, 1) := by decide +kernel
theorem dL_law_1112 : decode cL_law 1112 = .ok (.iconst 1, 1) := by decide +kernel
theorem dL_law_1113 : decode cL_law 1113 = .ok (.iadd, 1) := by decide +kernel
theorem dL_law_1114 : decode cL_law 1114 = .ok (.iaload, 1) := by decide +kernel
theorem dL_law_1115 : decode cL_law 1115 = .ok (.invokevirtual 136, 3) := by decide +kernel
theorem dL_law_1118 : decode cL_law 1118 = .ok (.if_icmp .eq 5, 3) := by decide +kernel
theorem dL_law_1121 : decode cL_law 1121 = .ok (.iconst 0, 1) := by decide +kernel
theorem dL_law_1122 : decode cL_law 1122 = .ok (.ireturn, 1) := by decide +kernel
theorem dL_law_1123 : decode cL_law 1123 = .ok (.iinc 3 6, 3) := by decide +kernel
theorem dL_law_1126 : decode cL_law 1126 = .ok (.goto (-1108), 3) := by decide +kernel
theorem dL_law_1129 : decode cL_law 1129 = .ok (.iconst 1, 1) := by decide +kernel
theorem dL_law_1130 : decode cL_law 1130 = .ok (.ireturn, 1) := by decide +kernel
end
section
theorem dX0_init_0 : decode cX0_init 0 = .ok (.aload_n 0, 1) := by decide +kernel
theorem dX0_init_1 : decode cX0_init 1 = .ok (.invokespecial 3, 3) := by decide +kernel
theorem dX0_init_4 : decode cX0_init 4 = .ok (.aload_n 0, 1) := by decide +kernel
theorem dX0_init_5 : decode cX0_init 5 = .ok (.iconst 0, 1) := by decide +kernel
theorem dX0_init_6 : decode cX0_init 6 = .ok (.putfield 9, 3) := by decide +kernel
theorem dX0_init_9 : decode cX0_init 9 = .ok (.aload_n 0, 1) := by decide +kernel
theorem dX0_init_10 : decode cX0_init 10 = .ok (.bipush 6, 2) := by decide +kernel
theorem dX0_init_12 : decode cX0_init 12 = .ok (.newarray .int, 2) := by decide +kernel
theorem dX0_init_14 : decode cX0_init 14 = .ok (.putfield 15, 3) := by decide +kernel
theorem dX0_init_17 : decode cX0_init 17 = .ok (.aload_n 0, 1) := by decide +kernel
theorem dX0_init_18 : decode cX0_init 18 = .ok (.bipush 6, 2) := by decide +kernel
theorem dX0_init_20 : decode cX0_init 20 = .ok (.newarray .int, 2) := by decide +kernel
theorem dX0_init_22 : decode cX0_init 22 = .ok (.putfield 19, 3) := by decide +kernel
theorem dX0_init_25 : decode cX0_init 25 = .ok (.aload_n 0, 1) := by decide +kernel
theorem dX0_init_26 : decode cX0_init 26 = .ok (.bipush 6, 2) := by decide +kernel
theorem dX0_init_28 : decode cX0_init 28 = .ok (.newarray .int, 2) := by decide +kernel
theorem dX0_init_30 : decode cX0_init 30 = .ok (.putfield 22, 3) := by decide +kernel
theorem dX0_init_33 : decode cX0_init 33 = .ok (.aload_n 0, 1) := by decide +kernel
theorem dX0_init_34 : decode cX0_init 34 = .ok (.bipush 6, 2) := by decide +kernel
theorem dX0_init_36 : decode cX0_init 36 = .ok (.newarray .int, 2) := by decide +kernel
theorem dX0_init_38 : decode cX0_init 38 = .ok (.putfield 25, 3) := by decide +kernel
theorem dX0_init_41 : decode cX0_init 41 = .ok (.aload_n 0, 1) := by decide +kernel
theorem dX0_init_42 : decode cX0_init 42 = .ok (.bipush 6, 2) := by decide +kernel
theorem dX0_init_44 : decode cX0_init 44 = .ok (.newarray .int, 2) := by decide +kernel
theorem dX0_init_46 : decode cX0_init 46 = .ok (.putfield 28, 3) := by decide +kernel
theorem dX0_init_49 : decode cX0_init 49 = .ok (.aload_n 0, 1) := by decide +kernel
theorem dX0_init_50 : decode cX0_init 50 = .ok (.bipush 6, 2) := by decide +kernel
theorem dX0_init_52 : decode cX0_init 52 = .ok (.newarray .int, 2) := by decide +kernel
theorem dX0_init_54 : decode cX0_init 54 = .ok (.putfield 31, 3) := by decide +kernel
theorem dX0_init_57 : decode cX0_init 57 = .ok (.aload_n 0, 1) := by decide +kernel
theorem dX0_init_58 : decode cX0_init 58 = .ok (.iconst 0, 1) := by decide +kernel
theorem dX0_init_59 : decode cX0_init 59 = .ok (.putfield 34, 3) := by decide +kernel
theorem dX0_init_62 : decode cX0_init 62 = .ok (.aload_n 0, 1) := by decide +kernel
theorem dX0_init_63 : decode cX0_init 63 = .ok (.iconst 0, 1) := by decide +kernel
theorem dX0_init_64 : decode cX0_init 64 = .ok (.putfield 37, 3) := by decide +kernel
theorem dX0_init_67 : decode cX0_init 67 = .ok (.aload_n 0, 1) := by decide +kernel
theorem dX0_init_68 : decode cX0_init 68 = .ok (.bipush 6, 2) := by decide +kernel
theorem dX0_init_70 : decode cX0_init 70 = .ok (.newarray .int, 2) := by decide +kernel
theorem dX0_init_72 : decode cX0_init 72 = .ok (.putfield 40, 3) := by decide +kernel
theorem dX0_init_75 : decode cX0_init 75 = .ok (.aload_n 0, 1) := by decide +kernel
theorem dX0_init_76 : decode cX0_init 76 = .ok (.bipush 6, 2) := by decide +kernel
theorem dX0_init_78 : decode cX0_init 78 = .ok (.newarray .int, 2) := by decide +kernel
theorem dX0_init_80 : decode cX0_init 80 = .ok (.putfield 43, 3) := by decide +kernel
theorem dX0_init_83 : decode cX0_init 83 = .ok (.return_, 1) := by decide +kernel
theorem dX0_read_0 : decode cX0_read 0 = .ok (.aload_n 0, 1) := by decide +kernel
theorem dX0_read_1 : decode cX0_read 1 = .ok (.aload_n 1, 1) := by decide +kernel
theorem dX0_read_2 : decode cX0_read 2 = .ok (.getfield 46, 3) := by decide +kernel
theorem dX0_read_5 : decode cX0_read 5 = .ok (.iload_n 2, 1) := by decide +kernel
theorem dX0_read_6 : decode cX0_read 6 = .ok (.iaload, 1) := by decide +kernel
theorem dX0_read_7 : decode cX0_read 7 = .ok (.putfield 9, 3) := by decide +kernel
theorem dX0_read_10 : decode cX0_read 10 = .ok (.iconst 0, 1) := by decide +kernel
theorem dX0_read_11 : decode cX0_read 11 = .ok (.istore_n 3, 1) := by decide +kernel
theorem dX0_read_12 : decode cX0_read 12 = .ok (.iload_n 3, 1) := by decide +kernel
theorem dX0_read_13 : decode cX0_read 13 = .ok (.aload_n 0, 1) := by decide +kernel
theorem dX0_read_14 : decode cX0_read 14 = .ok (.getfield 9, 3) := by decide +kernel
theorem dX0_read_17 : decode cX0_read 17 = .ok (.if_icmp .ge 69, 3) := by decide +kernel
theorem dX0_read_20 : decode cX0_read 20 = .ok (.iload_n 2, 1) := by decide +kernel
theorem dX0_read_21 : decode cX0_read 21 = .ok (.iload_n 3, 1) := by decide +kernel
theorem dX0_read_22 : decode cX0_read 22 = .ok (.invokestatic 51, 3) := by decide +kernel
theorem dX0_read_25 : decode cX0_read 25 = .ok (.istore 4, 2) := by decide +kernel
theorem dX0_read_27 : decode cX0_read 27 = .ok (.aload_n 1, 1) := by decide +kernel
theorem dX0_read_28 : decode cX0_read 28 = .ok (.getfield 55, 3) := by decide +kernel
theorem dX0_read_31 : decode cX0_read 31 = .ok (.iload 4, 2) := by decide +kernel
theorem dX0_read_33 : decode cX0_read 33 = .ok (.iaload, 1) := by decide +kernel
theorem dX0_read_34 : decode cX0_read 34 = .ok (.istore 5, 2) := by decide +kernel
theorem dX0_read_36 : decode cX0_read 36 = .ok (.aload_n 0, 1) := by decide +kernel
theorem dX0_read_37 : decode cX0_read 37 = .ok (.getfield 15, 3) := by decide +kernel
theorem dX0_read_40 : decode cX0_read 40 = .ok (.iload_n 3, 1) := by decide +kernel
theorem dX0_read_41 : decode cX0_read 41 = .ok (.getstatic 58, 3) := by decide +kernel
theorem dX0_read_44 : decode cX0_read 44 = .ok (.iload 5, 2) := by decide +kernel
theorem dX0_read_46 : decode cX0_read 46 = .ok (.iaload, 1) := by decide +kernel
theorem dX0_read_47 : decode cX0_read 47 = .ok (.iastore, 1) := by decide +kernel
theorem dX0_read_48 : decode cX0_read 48 = .ok (.aload_n 0, 1) := by decide +kernel
theorem dX0_read_49 : decode cX0_read 49 = .ok (.getfield 19, 3) := by decide +kernel
theorem dX0_read_52 : decode cX0_read 52 = .ok (.iload_n 3, 1) := by decide +kernel
theorem dX0_read_53 : decode cX0_read 53 = .ok (.aload_n 1, 1) := by decide +kernel
theorem dX0_read_54 : decode cX0_read 54 = .ok (.getfield 61, 3) := by decide +kernel
theorem dX0_read_57 : decode cX0_read 57 = .ok (.iload 4, 2) := by decide +kernel
theorem dX0_read_59 : decode cX0_read 59 = .ok (.iaload, 1) := by decide +kernel
theorem dX0_read_60 : decode cX0_read 60 = .ok (.iastore, 1) := by decide +kernel
theorem dX0_read_61 : decode cX0_read 61 = .ok (.aload_n 0, 1) := by decide +kernel
theorem dX0_read_62 : decode cX0_read 62 = .ok (.iload_n 3, 1) := by decide +kernel
theorem dX0_read_63 : decode cX0_read 63 = .ok (.aload_n 1, 1) := by decide +kernel
theorem dX0_read_64 : decode cX0_read 64 = .ok (.getfield 62, 3) := by decide +kernel
theorem dX0_read_67 : decode cX0_read 67 = .ok (.iload 4, 2) := by decide +kernel
theorem dX0_read_69 : decode cX0_read 69 = .ok (.iaload, 1) := by decide +kernel
theorem dX0_read_70 : decode cX0_read 70 = .ok (.getstatic 65, 3) := by decide +kernel
theorem dX0_read_73 : decode cX0_read 73 = .ok (.iload 5, 2) := by decide +kernel
theorem dX0_read_75 : decode cX0_read 75 = .ok (.iaload, 1) := by decide +kernel
theorem dX0_read_76 : decode cX0_read 76 = .ok (.isub, 1) := by decide +kernel
theorem dX0_read_77 : decode cX0_read 77 = .ok (.invokevirtual 68, 3) := by decide +kernel
theorem dX0_read_80 : decode cX0_read 80 = .ok (.iinc 3 1, 3) := by decide +kernel
theorem dX0_read_83 : decode cX0_read 83 = .ok (.goto (-71), 3) := by decide +kernel
theorem dX0_read_86 : decode cX0_read 86 = .ok (.aload_n 0, 1) := by decide +kernel
theorem dX0_read_87 : decode cX0_read 87 = .ok (.iconst 0, 1) := by decide +kernel
theorem dX0_read_88 : decode cX0_read 88 = .ok (.putfield 34, 3) := by decide +kernel
theorem dX0_read_91 : decode cX0_read 91 = .ok (.aload_n 0, 1) := by decide +kernel
theorem dX0_read_92 : decode cX0_read 92 = .ok (.iconst 0, 1) := by decide +kernel
theorem dX0_read_93 : decode cX0_read 93 = .ok (.putfield 37, 3) := by decide +kernel
theorem dX0_read_96 : decode cX0_read 96 = .ok (.iconst 0, 1) := by decide +kernel
theorem dX0_read_97 : decode cX0_read 97 = .ok (.istore_n 3, 1) := by decide +kernel
theorem dX0_read_98 : decode cX0_read 98 = .ok (.iload_n 3, 1) := by decide +kernel
theorem dX0_read_99 : decode cX0_read 99 = .ok (.bipush 7, 2) := by decide +kernel
theorem dX0_read_101 : decode cX0_read 101 = .ok (.if_icmp .ge 55, 3) := by decide +kernel
theorem dX0_read_104 : decode cX0_read 104 = .ok (.aload_n 1, 1) := by decide +kernel
theorem dX0_read_105 : decode cX0_read 105 = .ok (.getfield 72, 3) := by decide +kernel
theorem dX0_read_108 : decode cX0_read 108 = .ok (.iload_n 2, 1) := by decide +kernel
theorem dX0_read_109 : decode cX0_read 109 = .ok (.bipush 7, 2) := by decide +kernel
theorem dX0_read_111 : decode cX0_read 111 = .ok (.imul, 1) := by decide +kernel
theorem dX0_read_112 : decode cX0_read 112 = .ok (.iload_n 3, 1) := by decide +kernel
theorem dX0_read_113 : decode cX0_read 113 = .ok (.iadd, 1) := by decide +kernel
theorem dX0_read_114 : decode cX0_read 114 = .ok (.iaload, 1) := by decide +kernel
theorem dX0_read_115 : decode cX0_read 115 = .ok (.istore 4, 2) := by decide +kernel
theorem dX0_read_117 : decode cX0_read 117 = .ok (.iload 4, 2) := by decide +kernel
theorem dX0_read_119 : decode cX0_read 119 = .ok (.ifCond .lt 31, 3) := by decide +kernel
theorem dX0_read_122 : decode cX0_read 122 = .ok (.aload_n 0, 1) := by decide +kernel
theorem dX0_read_123 : decode cX0_read 123 = .ok (.dup, 1) := by decide +kernel
theorem dX0_read_124 : decode cX0_read 124 = .ok (.getfield 34, 3) := by decide +kernel
theorem dX0_read_127 : decode cX0_read 127 = .ok (.iload_n 3, 1) := by decide +kernel
theorem dX0_read_128 : decode cX0_read 128 = .ok (.invokestatic 75, 3) := by decide +kernel
theorem dX0_read_131 : decode cX0_read 131 = .ok (.ior, 1) := by decide +kernel
theorem dX0_read_132 : decode cX0_read 132 = .ok (.putfield 34, 3) := by decide +kernel
theorem dX0_read_135 : decode cX0_read 135 = .ok (.aload_n 0, 1) := by decide +kernel
theorem dX0_read_136 : decode cX0_read 136 = .ok (.dup, 1) := by decide +kernel
theorem dX0_read_137 : decode cX0_read 137 = .ok (.getfield 37, 3) := by decide +kernel
theorem dX0_read_140 : decode cX0_read 140 = .ok (.iload 4, 2) := by decide +kernel
theorem dX0_read_142 : decode cX0_read 142 = .ok (.iconst 2, 1) := by decide +kernel
theorem dX0_read_143 : decode cX0_read 143 = .ok (.iload_n 3, 1) := by decide +kernel
theorem dX0_read_144 : decode cX0_read 144 = .ok (.imul, 1) := by decide +kernel
theorem dX0_read_145 : decode cX0_read 145 = .ok (.ishl, 1) := by decide +kernel
theorem dX0_read_146 : decode cX0_read 146 = .ok (.ior, 1) := by decide +kernel
theorem dX0_read_147 : decode cX0_read 147 = .ok (.putfield 37, 3) := by decide +kernel
theorem dX0_read_150 : decode cX0_read 150 = .ok (.iinc 3 1, 3) := by decide +kernel
theorem dX0_read_153 : decode cX0_read 153 = .ok (.goto (-55), 3) := by decide +kernel
theorem dX0_read_156 : decode cX0_read 156 = .ok (.return_, 1) := by decide +kernel
theorem dX0_findStrings_0 : decode cX0_findStrings 0 = .ok (.aload_n 0, 1) := by decide +kernel
theorem dX0_findStrings_1 : decode cX0_findStrings 1 = .ok (.getfield 22, 3) := by decide +kernel
theorem dX0_findStrings_4 : decode cX0_findStrings 4 = .ok (.iload_n 1, 1) := by decide +kernel
theorem dX0_findStrings_5 : decode cX0_findStrings 5 = .ok (.iconst (-1), 1) := by decide +kernel
theorem dX0_findStrings_6 : decode cX0_findStrings 6 = .ok (.iastore, 1) := by decide +kernel
theorem dX0_findStrings_7 : decode cX0_findStrings 7 = .ok (.aload_n 0, 1) := by decide +kernel
theorem dX0_findStrings_8 : decode cX0_findStrings 8 = .ok (.getfield 28, 3) := by decide +kernel
theorem dX0_findStrings_11 : decode cX0_findStrings 11 = .ok (.iload_n 1, 1) := by decide +kernel
theorem dX0_findStrings_12 : decode cX0_findStrings 12 = .ok (.iconst (-1), 1) := by decide +kernel
theorem dX0_findStrings_13 : decode cX0_findStrings 13 = .ok (.iastore, 1) := by decide +kernel
theorem dX0_findStrings_14 : decode cX0_findStrings 14 = .ok (.iconst 0, 1) := by decide +kernel
theorem dX0_findStrings_15 : decode cX0_findStrings 15 = .ok (.istore_n 3, 1) := by decide +kernel
theorem dX0_findStrings_16 : decode cX0_findStrings 16 = .ok (.iload_n 3, 1) := by decide +kernel
theorem dX0_findStrings_17 : decode cX0_findStrings 17 = .ok (.bipush 42, 2) := by decide +kernel
theorem dX0_findStrings_19 : decode cX0_findStrings 19 = .ok (.if_icmp .ge 75, 3) := by decide +kernel
theorem dX0_findStrings_22 : decode cX0_findStrings 22 = .ok (.iload_n 2, 1) := by decide +kernel
theorem dX0_findStrings_23 : decode cX0_findStrings 23 = .ok (.iload_n 3, 1) := by decide +kernel
theorem dX0_findStrings_24 : decode cX0_findStrings 24 = .ok (.invokestatic 81, 3) := by decide +kernel
theorem dX0_findStrings_27 : decode cX0_findStrings 27 = .ok (.isub, 1) := by decide +kernel
theorem dX0_findStrings_28 : decode cX0_findStrings 28 = .ok (.iconst 1, 1) := by decide +kernel
theorem dX0_findStrings_29 : decode cX0_findStrings 29 = .ok (.iadd, 1) := by decide +kernel
theorem dX0_findStrings_30 : decode cX0_findStrings 30 = .ok (.istore 4, 2) := by decide +kernel
theorem dX0_findStrings_32 : decode cX0_findStrings 32 = .ok (.iload 4, 2) := by decide +kernel
theorem dX0_findStrings_34 : decode cX0_findStrings 34 = .ok (.ifCond .lt 54, 3) := by decide +kernel
theorem dX0_findStrings_37 : decode cX0_findStrings 37 = .ok (.iload 4, 2) := by decide +kernel
theorem dX0_findStrings_39 : decode cX0_findStrings 39 = .ok (.iconst 3, 1) := by decide +kernel
theorem dX0_findStrings_40 : decode cX0_findStrings 40 = .ok (.if_icmp .lt 6, 3) := by decide +kernel
theorem dX0_findStrings_43 : decode cX0_findStrings 43 = .ok (.goto 45, 3) := by decide +kernel
theorem dX0_findStrings_46 : decode cX0_findStrings 46 = .ok (.aload_n 0, 1) := by decide +kernel
theorem dX0_findStrings_47 : decode cX0_findStrings 47 = .ok (.getfield 22, 3) := by decide +kernel
theorem dX0_findStrings_50 : decode cX0_findStrings 50 = .ok (.iload_n 1, 1) := by decide +kernel
theorem dX0_findStrings_51 : decode cX0_findStrings 51 = .ok (.iaload, 1) := by decide +kernel
theorem dX0_findStrings_52 : decode cX0_findStrings 52 = .ok (.ifCond .ge 21, 3) := by decide +kernel
theorem dX0_findStrings_55 : decode cX0_findStrings 55 = .ok (.aload_n 0, 1) := by decide +kernel
theorem dX0_findStrings_56 : decode cX0_findStrings 56 = .ok (.getfield 22, 3) := by decide +kernel
theorem dX0_findStrings_59 : decode cX0_findStrings 59 = .ok (.iload_n 1, 1) := by decide +kernel
theorem dX0_findStrings_60 : decode cX0_findStrings 60 = .ok (.iload_n 3, 1) := by decide +kernel
theorem dX0_findStrings_61 : decode cX0_findStrings 61 = .ok (.iastore, 1) := by decide +kernel
theorem dX0_findStrings_62 : decode cX0_findStrings 62 = .ok (.aload_n 0, 1) := by decide +kernel
theorem dX0_findStrings_63 : decode cX0_findStrings 63 = .ok (.getfield 25, 3) := by decide +kernel
theorem dX0_findStrings_66 : decode cX0_findStrings 66 = .ok (.iload_n 1, 1) := by decide +kernel
theorem dX0_findStrings_67 : decode cX0_findStrings 67 = .ok (.iload 4, 2) := by decide +kernel
theorem dX0_findStrings_69 : decode cX0_findStrings 69 = .ok (.iastore, 1) := by decide +kernel
theorem dX0_findStrings_70 : decode cX0_findStrings 70 = .ok (.goto 18, 3) := by decide +kernel
theorem dX0_findStrings_73 : decode cX0_findStrings 73 = .ok (.aload_n 0, 1) := by decide +kernel
theorem dX0_findStrings_74 : decode cX0_findStrings 74 = .ok (.getfield 28, 3) := by decide +kernel
theorem dX0_findStrings_77 : decode cX0_findStrings 77 = .ok (.iload_n 1, 1) := by decide +kernel
theorem dX0_findStrings_78 : decode cX0_findStrings 78 = .ok (.iload_n 3, 1) := by decide +kernel
theorem dX0_findStrings_79 : decode cX0_findStrings 79 = .ok (.iastore, 1) := by decide +kernel
theorem dX0_findStrings_80 : decode cX0_findStrings 80 = .ok (.aload_n 0, 1) := by decide +kernel
theorem dX0_findStrings_81 : decode cX0_findStrings 81 = .ok (.getfield 31, 3) := by decide +kernel
theorem dX0_findStrings_84 : decode cX0_findStrings 84 = .ok (.iload_n 1, 1) := by decide +kernel
theorem dX0_findStrings_85 : decode cX0_findStrings 85 = .ok (.iload 4, 2) := by decide +kernel
theorem dX0_findStrings_87 : decode cX0_findStrings 87 = .ok (.iastore, 1) := by decide +kernel
theorem dX0_findStrings_88 : decode cX0_findStrings 88 = .ok (.iinc 3 1, 3) := by decide +kernel
theorem dX0_findStrings_91 : decode cX0_findStrings 91 = .ok (.goto (-75), 3) := by decide +kernel
theorem dX0_findStrings_94 : decode cX0_findStrings 94 = .ok (.return_, 1) := by decide +kernel
theorem dX0_forgetMark_0 : decode cX0_forgetMark 0 = .ok (.aload_n 0, 1) := by decide +kernel
theorem dX0_forgetMark_1 : decode cX0_forgetMark 1 = .ok (.dup, 1) := by decide +kernel
theorem dX0_forgetMark_2 : decode cX0_forgetMark 2 = .ok (.getfield 34, 3) := by decide +kernel
theorem dX0_forgetMark_5 : decode cX0_forgetMark 5 = .ok (.iload_n 1, 1) := by decide +kernel
theorem dX0_forgetMark_6 : decode cX0_forgetMark 6 = .ok (.invokestatic 75, 3) := by decide +kernel
theorem dX0_forgetMark_9 : decode cX0_forgetMark 9 = .ok (.iconst (-1), 1) := by decide +kernel
theorem dX0_forgetMark_10 : decode cX0_forgetMark 10 = .ok (.ixor, 1) := by decide +kernel
theorem dX0_forgetMark_11 : decode cX0_forgetMark 11 = .ok (.iand, 1) := by decide +kernel
theorem dX0_forgetMark_12 : decode cX0_forgetMark 12 = .ok (.putfield 34, 3) := by decide +kernel
theorem dX0_forgetMark_15 : decode cX0_forgetMark 15 = .ok (.aload_n 0, 1) := by decide +kernel
theorem dX0_forgetMark_16 : decode cX0_forgetMark 16 = .ok (.dup, 1) := by decide +kernel
theorem dX0_forgetMark_17 : decode cX0_forgetMark 17 = .ok (.getfield 37, 3) := by decide +kernel
theorem dX0_forgetMark_20 : decode cX0_forgetMark 20 = .ok (.iload_n 1, 1) := by decide +kernel
theorem dX0_forgetMark_21 : decode cX0_forgetMark 21 = .ok (.invokestatic 75, 3) := by decide +kernel
theorem dX0_forgetMark_24 : decode cX0_forgetMark 24 = .ok (.iconst (-1), 1) := by decide +kernel
theorem dX0_forgetMark_25 : decode cX0_forgetMark 25 = .ok (.ixor, 1) := by decide +kernel
theorem dX0_forgetMark_26 : decode cX0_forgetMark 26 = .ok (.iand, 1) := by decide +kernel
theorem dX0_forgetMark_27 : decode cX0_forgetMark 27 = .ok (.putfield 37, 3) := by decide +kernel
theorem dX0_forgetMark_30 : decode cX0_forgetMark 30 = .ok (.return_, 1) := by decide +kernel
theorem dX0_isSilent_0 : decode cX0_isSilent 0 = .ok (.iconst 0, 1) := by decide +kernel
theorem dX0_isSilent_1 : decode cX0_isSilent 1 = .ok (.istore_n 1, 1) := by decide +kernel
theorem dX0_isSilent_2 : decode cX0_isSilent 2 = .ok (.iload_n 1, 1) := by decide +kernel
theorem dX0_isSilent_3 : decode cX0_isSilent 3 = .ok (.aload_n 0, 1) := by decide +kernel
theorem dX0_isSilent_4 : decode cX0_isSilent 4 = .ok (.getfield 9, 3) := by decide +kernel
theorem dX0_isSilent_7 : decode cX0_isSilent 7 = .ok (.if_icmp .ge 20, 3) := by decide +kernel
theorem dX0_isSilent_10 : decode cX0_isSilent 10 = .ok (.aload_n 0, 1) := by decide +kernel
theorem dX0_isSilent_11 : decode cX0_isSilent 11 = .ok (.getfield 19, 3) := by decide +kernel
theorem dX0_isSilent_14 : decode cX0_isSilent 14 = .ok (.iload_n 1, 1) := by decide +kernel
theorem dX0_isSilent_15 : decode cX0_isSilent 15 = .ok (.iaload, 1) := by decide +kernel
theorem dX0_isSilent_16 : decode cX0_isSilent 16 = .ok (.ifCond .eq 5, 3) := by decide +kernel
theorem dX0_isSilent_19 : decode cX0_isSilent 19 = .ok (.iconst 0, 1) := by decide +kernel
theorem dX0_isSilent_20 : decode cX0_isSilent 20 = .ok (.ireturn, 1) := by decide +kernel
theorem dX0_isSilent_21 : decode cX0_isSilent 21 = .ok (.iinc 1 1, 3) := by decide +kernel
theorem dX0_isSilent_24 : decode cX0_isSilent 24 = .ok (.goto (-22), 3) := by decide +kernel
theorem dX0_isSilent_27 : decode cX0_isSilent 27 = .ok (.iconst 1, 1) := by decide +kernel
theorem dX0_isSilent_28 : decode cX0_isSilent 28 = .ok (.ireturn, 1) := by decide +kernel
theorem dX0_stringOf_0 : decode cX0_stringOf 0 = .ok (.aload_n 0, 1) := by decide +kernel
theorem dX0_stringOf_1 : decode cX0_stringOf 1 = .ok (.getfield 22, 3) := by decide +kernel
theorem dX0_stringOf_4 : decode cX0_stringOf 4 = .ok (.iload_n 1, 1) := by decide +kernel
theorem dX0_stringOf_5 : decode cX0_stringOf 5 = .ok (.iaload, 1) := by decide +kernel
theorem dX0_stringOf_6 : decode cX0_stringOf 6 = .ok (.istore_n 3, 1) := by decide +kernel
theorem dX0_stringOf_7 : decode cX0_stringOf 7 = .ok (.iload_n 3, 1) := by decide +kernel
theorem dX0_stringOf_8 : decode cX0_stringOf 8 = .ok (.ifCond .lt 22, 3) := by decide +kernel
theorem dX0_stringOf_11 : decode cX0_stringOf 11 = .ok (.iload_n 2, 1) := by decide +kernel
theorem dX0_stringOf_12 : decode cX0_stringOf 12 = .ok (.iload_n 3, 1) := by decide +kernel
theorem dX0_stringOf_13 : decode cX0_stringOf 13 = .ok (.bipush 7, 2) := by decide +kernel
theorem dX0_stringOf_15 : decode cX0_stringOf 15 = .ok (.irem, 1) := by decide +kernel
theorem dX0_stringOf_16 : decode cX0_stringOf 16 = .ok (.invokestatic 84, 3) := by decide +kernel
theorem dX0_stringOf_19 : decode cX0_stringOf 19 = .ok (.aload_n 0, 1) := by decide +kernel
theorem dX0_stringOf_20 : decode cX0_stringOf 20 = .ok (.getfield 25, 3) := by decide +kernel
theorem dX0_stringOf_23 : decode cX0_stringOf 23 = .ok (.iload_n 1, 1) := by decide +kernel
theorem dX0_stringOf_24 : decode cX0_stringOf 24 = .ok (.iaload, 1) := by decide +kernel
theorem dX0_stringOf_25 : decode cX0_stringOf 25 = .ok (.if_icmp .ne 5, 3) := by decide +kernel
theorem dX0_stringOf_28 : decode cX0_stringOf 28 = .ok (.iload_n 3, 1) := by decide +kernel
theorem dX0_stringOf_29 : decode cX0_stringOf 29 = .ok (.ireturn, 1) := by decide +kernel
theorem dX0_stringOf_30 : decode cX0_stringOf 30 = .ok (.aload_n 0, 1) := by decide +kernel
theorem dX0_stringOf_31 : decode cX0_stringOf 31 = .ok (.getfield 28, 3) := by decide +kernel
theorem dX0_stringOf_34 : decode cX0_stringOf 34 = .ok (.iload_n 1, 1) := by decide +kernel
theorem dX0_stringOf_35 : decode cX0_stringOf 35 = .ok (.iaload, 1) := by decide +kernel
theorem dX0_stringOf_36 : decode cX0_stringOf 36 = .ok (.istore 4, 2) := by decide +kernel
theorem dX0_stringOf_38 : decode cX0_stringOf 38 = .ok (.iload 4, 2) := by decide +kernel
theorem dX0_stringOf_40 : decode cX0_stringOf 40 = .ok (.ifCond .lt 24, 3) := by decide +kernel
theorem dX0_stringOf_43 : decode cX0_stringOf 43 = .ok (.iload_n 2, 1) := by decide +kernel
theorem dX0_stringOf_44 : decode cX0_stringOf 44 = .ok (.iload 4, 2) := by decide +kernel
theorem dX0_stringOf_46 : decode cX0_stringOf 46 = .ok (.bipush 7, 2) := by decide +kernel
theorem dX0_stringOf_48 : decode cX0_stringOf 48 = .ok (.irem, 1) := by decide +kernel
theorem dX0_stringOf_49 : decode cX0_stringOf 49 = .ok (.invokestatic 84, 3) := by decide +kernel
theorem dX0_stringOf_52 : decode cX0_stringOf 52 = .ok (.aload_n 0, 1) := by decide +kernel
theorem dX0_stringOf_53 : decode cX0_stringOf 53 = .ok (.getfield 31, 3) := by decide +kernel
theorem dX0_stringOf_56 : decode cX0_stringOf 56 = .ok (.iload_n 1, 1) := by decide +kernel
theorem dX0_stringOf_57 : decode cX0_stringOf 57 = .ok (.iaload, 1) := by decide +kernel
theorem dX0_stringOf_58 : decode cX0_stringOf 58 = .ok (.if_icmp .ne 6, 3) := by decide +kernel
theorem dX0_stringOf_61 : decode cX0_stringOf 61 = .ok (.iload 4, 2) := by decide +kernel
theorem dX0_stringOf_63 : decode cX0_stringOf 63 = .ok (.ireturn, 1) := by decide +kernel
theorem dX0_stringOf_64 : decode cX0_stringOf 64 = .ok (.iconst (-1), 1) := by decide +kernel
theorem dX0_stringOf_65 : decode cX0_stringOf 65 = .ok (.ireturn, 1) := by decide +kernel
theorem dX0_locksBy_0 : decode cX0_locksBy 0 = .ok (.iload_n 1, 1) := by decide +kernel
theorem dX0_locksBy_1 : decode cX0_locksBy 1 = .ok (.aload_n 0, 1) := by decide +kernel
theorem dX0_locksBy_2 : decode cX0_locksBy 2 = .ok (.getfield 34, 3) := by decide +kernel
theorem dX0_locksBy_5 : decode cX0_locksBy 5 = .ok (.iand, 1) := by decide +kernel
theorem dX0_locksBy_6 : decode cX0_locksBy 6 = .ok (.aload_n 0, 1) := by decide +kernel
theorem dX0_locksBy_7 : decode cX0_locksBy 7 = .ok (.getfield 37, 3) := by decide +kernel
theorem dX0_locksBy_10 : decode cX0_locksBy 10 = .ok (.if_icmp .eq 5, 3) := by decide +kernel
theorem dX0_locksBy_13 : decode cX0_locksBy 13 = .ok (.iconst (-1), 1) := by decide +kernel
theorem dX0_locksBy_14 : decode cX0_locksBy 14 = .ok (.ireturn, 1) := by decide +kernel
theorem dX0_locksBy_15 : decode cX0_locksBy 15 = .ok (.lconst 0, 1) := by decide +kernel
theorem dX0_locksBy_16 : decode cX0_locksBy 16 = .ok (.lstore_n 2, 1) := by decide +kernel
theorem dX0_locksBy_17 : decode cX0_locksBy 17 = .ok (.iconst 0, 1) := by decide +kernel
theorem dX0_locksBy_18 : decode cX0_locksBy 18 = .ok (.istore 4, 2) := by decide +kernel
theorem dX0_locksBy_20 : decode cX0_locksBy 20 = .ok (.iconst 0, 1) := by decide +kernel
theorem dX0_locksBy_21 : decode cX0_locksBy 21 = .ok (.istore 5, 2) := by decide +kernel
theorem dX0_locksBy_23 : decode cX0_locksBy 23 = .ok (.iload 5, 2) := by decide +kernel
theorem dX0_locksBy_25 : decode cX0_locksBy 25 = .ok (.aload_n 0, 1) := by decide +kernel
theorem dX0_locksBy_26 : decode cX0_locksBy 26 = .ok (.getfield 9, 3) := by decide +kernel
theorem dX0_locksBy_29 : decode cX0_locksBy 29 = .ok (.if_icmp .ge 61, 3) := by decide +kernel
theorem dX0_locksBy_32 : decode cX0_locksBy 32 = .ok (.aload_n 0, 1) := by decide +kernel
theorem dX0_locksBy_33 : decode cX0_locksBy 33 = .ok (.iload 5, 2) := by decide +kernel
theorem dX0_locksBy_35 : decode cX0_locksBy 35 = .ok (.iload_n 1, 1) := by decide +kernel
theorem dX0_locksBy_36 : decode cX0_locksBy 36 = .ok (.invokevirtual 87, 3) := by decide +kernel
theorem dX0_locksBy_39 : decode cX0_locksBy 39 = .ok (.istore 6, 2) := by decide +kernel
theorem dX0_locksBy_41 : decode cX0_locksBy 41 = .ok (.iload 6, 2) := by decide +kernel
theorem dX0_locksBy_43 : decode cX0_locksBy 43 = .ok (.ifCond .lt 14, 3) := by decide +kernel
theorem dX0_locksBy_46 : decode cX0_locksBy 46 = .ok (.lload_n 2, 1) := by decide +kernel
theorem dX0_locksBy_47 : decode cX0_locksBy 47 = .ok (.iload 6, 2) := by decide +kernel
theorem dX0_locksBy_49 : decode cX0_locksBy 49 = .ok (.lshr, 1) := by decide +kernel
theorem dX0_locksBy_50 : decode cX0_locksBy 50 = .ok (.lconst 1, 1) := by decide +kernel
theorem dX0_locksBy_51 : decode cX0_locksBy 51 = .ok (.land, 1) := by decide +kernel
theorem dX0_locksBy_52 : decode cX0_locksBy 52 = .ok (.lconst 0, 1) := by decide +kernel
theorem dX0_locksBy_53 : decode cX0_locksBy 53 = .ok (.lcmp, 1) := by decide +kernel
theorem dX0_locksBy_54 : decode cX0_locksBy 54 = .ok (.ifCond .eq 5, 3) := by decide +kernel
theorem dX0_locksBy_57 : decode cX0_locksBy 57 = .ok (.iconst (-1), 1) := by decide +kernel
theorem dX0_locksBy_58 : decode cX0_locksBy 58 = .ok (.ireturn, 1) := by decide +kernel
theorem dX0_locksBy_59 : decode cX0_locksBy 59 = .ok (.lload_n 2, 1) := by decide +kernel
theorem dX0_locksBy_60 : decode cX0_locksBy 60 = .ok (.lconst 1, 1) := by decide +kernel
theorem dX0_locksBy_61 : decode cX0_locksBy 61 = .ok (.iload 6, 2) := by decide +kernel
theorem dX0_locksBy_63 : decode cX0_locksBy 63 = .ok (.lshl, 1) := by decide +kernel
theorem dX0_locksBy_64 : decode cX0_locksBy 64 = .ok (.lor, 1) := by decide +kernel
theorem dX0_locksBy_65 : decode cX0_locksBy 65 = .ok (.lstore_n 2, 1) := by decide +kernel
theorem dX0_locksBy_66 : decode cX0_locksBy 66 = .ok (.iload 4, 2) := by decide +kernel
theorem dX0_locksBy_68 : decode cX0_locksBy 68 = .ok (.aload_n 0, 1) := by decide +kernel
theorem dX0_locksBy_69 : decode cX0_locksBy 69 = .ok (.getfield 19, 3) := by decide +kernel
theorem dX0_locksBy_72 : decode cX0_locksBy 72 = .ok (.iload 5, 2) := by decide +kernel
theorem dX0_locksBy_74 : decode cX0_locksBy 74 = .ok (.iaload, 1) := by decide +kernel
theorem dX0_locksBy_75 : decode cX0_locksBy 75 = .ok (.iload 6, 2) := by decide +kernel
theorem dX0_locksBy_77 : decode cX0_locksBy 77 = .ok (.bipush 7, 2) := by decide +kernel
theorem dX0_locksBy_79 : decode cX0_locksBy 79 = .ok (.irem, 1) := by decide +kernel
theorem dX0_locksBy_80 : decode cX0_locksBy 80 = .ok (.ishl, 1) := by decide +kernel
theorem dX0_locksBy_81 : decode cX0_locksBy 81 = .ok (.ior, 1) := by decide +kernel
theorem dX0_locksBy_82 : decode cX0_locksBy 82 = .ok (.istore 4, 2) := by decide +kernel
theorem dX0_locksBy_84 : decode cX0_locksBy 84 = .ok (.iinc 5 1, 3) := by decide +kernel
theorem dX0_locksBy_87 : decode cX0_locksBy 87 = .ok (.goto (-64), 3) := by decide +kernel
theorem dX0_locksBy_90 : decode cX0_locksBy 90 = .ok (.iload 4, 2) := by decide +kernel
theorem dX0_locksBy_92 : decode cX0_locksBy 92 = .ok (.ireturn, 1) := by decide +kernel
theorem dX0_leastForLeft_0 : decode cX0_leastForLeft 0 = .ok (.aload_n 0, 1) := by decide +kernel
theorem dX0_leastForLeft_1 : decode cX0_leastForLeft 1 = .ok (.iload_n 1, 1) := by decide +kernel
theorem dX0_leastForLeft_2 : decode cX0_leastForLeft 2 = .ok (.invokevirtual 90, 3) := by decide +kernel
theorem dX0_leastForLeft_5 : decode cX0_leastForLeft 5 = .ok (.iconst 0, 1) := by decide +kernel
theorem dX0_leastForLeft_6 : decode cX0_leastForLeft 6 = .ok (.istore_n 2, 1) := by decide +kernel
theorem dX0_leastForLeft_7 : decode cX0_leastForLeft 7 = .ok (.iload_n 2, 1) := by decide +kernel
theorem dX0_leastForLeft_8 : decode cX0_leastForLeft 8 = .ok (.aload_n 0, 1) := by decide +kernel
theorem dX0_leastForLeft_9 : decode cX0_leastForLeft 9 = .ok (.getfield 9, 3) := by decide +kernel
theorem dX0_leastForLeft_12 : decode cX0_leastForLeft 12 = .ok (.if_icmp .gt 32, 3) := by decide +kernel
theorem dX0_leastForLeft_15 : decode cX0_leastForLeft 15 = .ok (.aload_n 0, 1) := by decide +kernel
theorem dX0_leastForLeft_16 : decode cX0_leastForLeft 16 = .ok (.iconst 0, 1) := by decide +kernel
theorem dX0_leastForLeft_17 : decode cX0_leastForLeft 17 = .ok (.iload_n 2, 1) := by decide +kernel
theorem dX0_leastForLeft_18 : decode cX0_leastForLeft 18 = .ok (.invokevirtual 94, 3) := by decide +kernel
theorem dX0_leastForLeft_21 : decode cX0_leastForLeft 21 = .ok (.ifCond .eq 17, 3) := by decide +kernel
theorem dX0_leastForLeft_24 : decode cX0_leastForLeft 24 = .ok (.aload_n 0, 1) := by decide +kernel
theorem dX0_leastForLeft_25 : decode cX0_leastForLeft 25 = .ok (.iload_n 2, 1) := by decide +kernel
theorem dX0_leastForLeft_26 : decode cX0_leastForLeft 26 = .ok (.aload_n 0, 1) := by decide +kernel
theorem dX0_leastForLeft_27 : decode cX0_leastForLeft 27 = .ok (.getfield 9, 3) := by decide +kernel
theorem dX0_leastForLeft_30 : decode cX0_leastForLeft 30 = .ok (.invokevirtual 94, 3) := by decide +kernel
theorem dX0_leastForLeft_33 : decode cX0_leastForLeft 33 = .ok (.ifCond .eq 5, 3) := by decide +kernel
theorem dX0_leastForLeft_36 : decode cX0_leastForLeft 36 = .ok (.iload_n 2, 1) := by decide +kernel
theorem dX0_leastForLeft_37 : decode cX0_leastForLeft 37 = .ok (.ireturn, 1) := by decide +kernel
theorem dX0_leastForLeft_38 : decode cX0_leastForLeft 38 = .ok (.iinc 2 1, 3) := by decide +kernel
theorem dX0_leastForLeft_41 : decode cX0_leastForLeft 41 = .ok (.goto (-34), 3) := by decide +kernel
theorem dX0_leastForLeft_44 : decode cX0_leastForLeft 44 = .ok (.iconst (-1), 1) := by decide +kernel
theorem dX0_leastForLeft_45 : decode cX0_leastForLeft 45 = .ok (.ireturn, 1) := by decide +kernel
theorem dX0_sortStrings_0 : decode cX0_sortStrings 0 = .ok (.iconst 0, 1) := by decide +kernel
theorem dX0_sortStrings_1 : decode cX0_sortStrings 1 = .ok (.istore_n 2, 1) := by decide +kernel
theorem dX0_sortStrings_2 : decode cX0_sortStrings 2 = .ok (.iload_n 2, 1) := by decide +kernel
theorem dX0_sortStrings_3 : decode cX0_sortStrings 3 = .ok (.aload_n 0, 1) := by decide +kernel
theorem dX0_sortStrings_4 : decode cX0_sortStrings 4 = .ok (.getfield 9, 3) := by decide +kernel
theorem dX0_sortStrings_7 : decode cX0_sortStrings 7 = .ok (.if_icmp .ge 96, 3) := by decide +kernel
theorem dX0_sortStrings_10 : decode cX0_sortStrings 10 = .ok (.aload_n 0, 1) := by decide +kernel
theorem dX0_sortStrings_11 : decode cX0_sortStrings 11 = .ok (.iload_n 2, 1) := by decide +kernel
theorem dX0_sortStrings_12 : decode cX0_sortStrings 12 = .ok (.iload_n 1, 1) := by decide +kernel
theorem dX0_sortStrings_13 : decode cX0_sortStrings 13 = .ok (.invokevirtual 87, 3) := by decide +kernel
theorem dX0_sortStrings_16 : decode cX0_sortStrings 16 = .ok (.istore_n 3, 1) := by decide +kernel
theorem dX0_sortStrings_17 : decode cX0_sortStrings 17 = .ok (.iload_n 2, 1) := by decide +kernel
theorem dX0_sortStrings_18 : decode cX0_sortStrings 18 = .ok (.istore 4, 2) := by decide +kernel
theorem dX0_sortStrings_20 : decode cX0_sortStrings 20 = .ok (.iload 4, 2) := by decide +kernel
theorem dX0_sortStrings_22 : decode cX0_sortStrings 22 = .ok (.ifCond .le 54, 3) := by decide +kernel
theorem dX0_sortStrings_25 : decode cX0_sortStrings 25 = .ok (.aload_n 0, 1) := by decide +kernel
theorem dX0_sortStrings_26 : decode cX0_sortStrings 26 = .ok (.getfield 40, 3) := by decide +kernel
theorem dX0_sortStrings_29 : decode cX0_sortStrings 29 = .ok (.iload 4, 2) := by decide +kernel
theorem dX0_sortStrings_31 : decode cX0_sortStrings 31 = .ok (.iconst 1, 1) := by decide +kernel
theorem dX0_sortStrings_32 : decode cX0_sortStrings 32 = .ok (.isub, 1) := by decide +kernel
theorem dX0_sortStrings_33 : decode cX0_sortStrings 33 = .ok (.iaload, 1) := by decide +kernel
theorem dX0_sortStrings_34 : decode cX0_sortStrings 34 = .ok (.iload_n 3, 1) := by decide +kernel
theorem dX0_sortStrings_35 : decode cX0_sortStrings 35 = .ok (.if_icmp .le 41, 3) := by decide +kernel
theorem dX0_sortStrings_38 : decode cX0_sortStrings 38 = .ok (.aload_n 0, 1) := by decide +kernel
theorem dX0_sortStrings_39 : decode cX0_sortStrings 39 = .ok (.getfield 40, 3) := by decide +kernel
theorem dX0_sortStrings_42 : decode cX0_sortStrings 42 = .ok (.iload 4, 2) := by decide +kernel
theorem dX0_sortStrings_44 : decode cX0_sortStrings 44 = .ok (.aload_n 0, 1) := by decide +kernel
theorem dX0_sortStrings_45 : decode cX0_sortStrings 45 = .ok (.getfield 40, 3) := by decide +kernel
theorem dX0_sortStrings_48 : decode cX0_sortStrings 48 = .ok (.iload 4, 2) := by decide +kernel
theorem dX0_sortStrings_50 : decode cX0_sortStrings 50 = .ok (.iconst 1, 1) := by decide +kernel
theorem dX0_sortStrings_51 : decode cX0_sortStrings 51 = .ok (.isub, 1) := by decide +kernel
theorem dX0_sortStrings_52 : decode cX0_sortStrings 52 = .ok (.iaload, 1) := by decide +kernel
theorem dX0_sortStrings_53 : decode cX0_sortStrings 53 = .ok (.iastore, 1) := by decide +kernel
theorem dX0_sortStrings_54 : decode cX0_sortStrings 54 = .ok (.aload_n 0, 1) := by decide +kernel
theorem dX0_sortStrings_55 : decode cX0_sortStrings 55 = .ok (.getfield 43, 3) := by decide +kernel
theorem dX0_sortStrings_58 : decode cX0_sortStrings 58 = .ok (.iload 4, 2) := by decide +kernel
theorem dX0_sortStrings_60 : decode cX0_sortStrings 60 = .ok (.aload_n 0, 1) := by decide +kernel
theorem dX0_sortStrings_61 : decode cX0_sortStrings 61 = .ok (.getfield 43, 3) := by decide +kernel
theorem dX0_sortStrings_64 : decode cX0_sortStrings 64 = .ok (.iload 4, 2) := by decide +kernel
theorem dX0_sortStrings_66 : decode cX0_sortStrings 66 = .ok (.iconst 1, 1) := by decide +kernel
theorem dX0_sortStrings_67 : decode cX0_sortStrings 67 = .ok (.isub, 1) := by decide +kernel
theorem dX0_sortStrings_68 : decode cX0_sortStrings 68 = .ok (.iaload, 1) := by decide +kernel
theorem dX0_sortStrings_69 : decode cX0_sortStrings 69 = .ok (.iastore, 1) := by decide +kernel
theorem dX0_sortStrings_70 : decode cX0_sortStrings 70 = .ok (.iinc 4 (-1), 3) := by decide +kernel
theorem dX0_sortStrings_73 : decode cX0_sortStrings 73 = .ok (.goto (-53), 3) := by decide +kernel
theorem dX0_sortStrings_76 : decode cX0_sortStrings 76 = .ok (.aload_n 0, 1) := by decide +kernel
theorem dX0_sortStrings_77 : decode cX0_sortStrings 77 = .ok (.getfield 40, 3) := by decide +kernel
theorem dX0_sortStrings_80 : decode cX0_sortStrings 80 = .ok (.iload 4, 2) := by decide +kernel
theorem dX0_sortStrings_82 : decode cX0_sortStrings 82 = .ok (.iload_n 3, 1) := by decide +kernel
theorem dX0_sortStrings_83 : decode cX0_sortStrings 83 = .ok (.iastore, 1) := by decide +kernel
theorem dX0_sortStrings_84 : decode cX0_sortStrings 84 = .ok (.aload_n 0, 1) := by decide +kernel
theorem dX0_sortStrings_85 : decode cX0_sortStrings 85 = .ok (.getfield 43, 3) := by decide +kernel
theorem dX0_sortStrings_88 : decode cX0_sortStrings 88 = .ok (.iload 4, 2) := by decide +kernel
theorem dX0_sortStrings_90 : decode cX0_sortStrings 90 = .ok (.aload_n 0, 1) := by decide +kernel
theorem dX0_sortStrings_91 : decode cX0_sortStrings 91 = .ok (.getfield 15, 3) := by decide +kernel
theorem dX0_sortStrings_94 : decode cX0_sortStrings 94 = .ok (.iload_n 2, 1) := by decide +kernel
theorem dX0_sortStrings_95 : decode cX0_sortStrings 95 = .ok (.iaload, 1) := by decide +kernel
theorem dX0_sortStrings_96 : decode cX0_sortStrings 96 = .ok (.iastore, 1) := by decide +kernel
theorem dX0_sortStrings_97 : decode cX0_sortStrings 97 = .ok (.iinc 2 1, 3) := by decide +kernel
theorem dX0_sortStrings_100 : decode cX0_sortStrings 100 = .ok (.goto (-98), 3) := by decide +kernel
theorem dX0_sortStrings_103 : decode cX0_sortStrings 103 = .ok (.return_, 1) := by decide +kernel
theorem dX0_handCan_0 : decode cX0_handCan 0 = .ok (.iload_n 1, 1) := by decide +kernel
theorem dX0_handCan_1 : decode cX0_handCan 1 = .ok (.iload_n 2, 1) := by decide +kernel
theorem dX0_handCan_2 : decode cX0_handCan 2 = .ok (.if_icmp .lt 5, 3) := by decide +kernel
theorem dX0_handCan_5 : decode cX0_handCan 5 = .ok (.iconst 1, 1) := by decide +kernel
theorem dX0_handCan_6 : decode cX0_handCan 6 = .ok (.ireturn, 1) := by decide +kernel
theorem dX0_handCan_7 : decode cX0_handCan 7 = .ok (.iconst 0, 1) := by decide +kernel
theorem dX0_handCan_8 : decode cX0_handCan 8 = .ok (.istore_n 3, 1) := by decide +kernel
theorem dX0_handCan_9 : decode cX0_handCan 9 = .ok (.iload_n 1, 1) := by decide +kernel
theorem dX0_handCan_10 : decode cX0_handCan 10 = .ok (.istore 4, 2) := by decide +kernel
theorem dX0_handCan_12 : decode cX0_handCan 12 = .ok (.iload 4, 2) := by decide +kernel
theorem dX0_handCan_14 : decode cX0_handCan 14 = .ok (.iload_n 2, 1) := by decide +kernel
theorem dX0_handCan_15 : decode cX0_handCan 15 = .ok (.if_icmp .ge 19, 3) := by decide +kernel
theorem dX0_handCan_18 : decode cX0_handCan 18 = .ok (.iload_n 3, 1) := by decide +kernel
theorem dX0_handCan_19 : decode cX0_handCan 19 = .ok (.aload_n 0, 1) := by decide +kernel
theorem dX0_handCan_20 : decode cX0_handCan 20 = .ok (.getfield 43, 3) := by decide +kernel
theorem dX0_handCan_23 : decode cX0_handCan 23 = .ok (.iload 4, 2) := by decide +kernel
theorem dX0_handCan_25 : decode cX0_handCan 25 = .ok (.iaload, 1) := by decide +kernel
theorem dX0_handCan_26 : decode cX0_handCan 26 = .ok (.iadd, 1) := by decide +kernel
theorem dX0_handCan_27 : decode cX0_handCan 27 = .ok (.istore_n 3, 1) := by decide +kernel
theorem dX0_handCan_28 : decode cX0_handCan 28 = .ok (.iinc 4 1, 3) := by decide +kernel
theorem dX0_handCan_31 : decode cX0_handCan 31 = .ok (.goto (-19), 3) := by decide +kernel
theorem dX0_handCan_34 : decode cX0_handCan 34 = .ok (.iload_n 3, 1) := by decide +kernel
theorem dX0_handCan_35 : decode cX0_handCan 35 = .ok (.iconst 4, 1) := by decide +kernel
theorem dX0_handCan_36 : decode cX0_handCan 36 = .ok (.if_icmp .gt 27, 3) := by decide +kernel
theorem dX0_handCan_39 : decode cX0_handCan 39 = .ok (.aload_n 0, 1) := by decide +kernel
theorem dX0_handCan_40 : decode cX0_handCan 40 = .ok (.getfield 40, 3) := by decide +kernel
theorem dX0_handCan_43 : decode cX0_handCan 43 = .ok (.iload_n 2, 1) := by decide +kernel
theorem dX0_handCan_44 : decode cX0_handCan 44 = .ok (.iconst 1, 1) := by decide +kernel
theorem dX0_handCan_45 : decode cX0_handCan 45 = .ok (.isub, 1) := by decide +kernel
theorem dX0_handCan_46 : decode cX0_handCan 46 = .ok (.iaload, 1) := by decide +kernel
theorem dX0_handCan_47 : decode cX0_handCan 47 = .ok (.aload_n 0, 1) := by decide +kernel
theorem dX0_handCan_48 : decode cX0_handCan 48 = .ok (.getfield 40, 3) := by decide +kernel
theorem dX0_handCan_51 : decode cX0_handCan 51 = .ok (.iload_n 1, 1) := by decide +kernel
theorem dX0_handCan_52 : decode cX0_handCan 52 = .ok (.iaload, 1) := by decide +kernel
theorem dX0_handCan_53 : decode cX0_handCan 53 = .ok (.isub, 1) := by decide +kernel
theorem dX0_handCan_54 : decode cX0_handCan 54 = .ok (.bipush 9, 2) := by decide +kernel
theorem dX0_handCan_56 : decode cX0_handCan 56 = .ok (.if_icmp .gt 7, 3) := by decide +kernel
theorem dX0_handCan_59 : decode cX0_handCan 59 = .ok (.iconst 1, 1) := by decide +kernel
theorem dX0_handCan_60 : decode cX0_handCan 60 = .ok (.goto 4, 3) := by decide +kernel
theorem dX0_handCan_63 : decode cX0_handCan 63 = .ok (.iconst 0, 1) := by decide +kernel
theorem dX0_handCan_64 : decode cX0_handCan 64 = .ok (.ireturn, 1) := by decide +kernel
end
section
theorem dX1_init_0 : decode cX1_init 0 = .ok (.aload_n 0, 1) := by decide +kernel
theorem dX1_init_1 : decode cX1_init 1 = .ok (.invokespecial 3, 3) := by decide +kernel
theorem dX1_init_4 : decode cX1_init 4 = .ok (.aload_n 0, 1) := by decide +kernel
theorem dX1_init_5 : decode cX1_init 5 = .ok (.sipush 2187, 3) := by decide +kernel
theorem dX1_init_8 : decode cX1_init 8 = .ok (.newarray .int, 2) := by decide +kernel
theorem dX1_init_10 : decode cX1_init 10 = .ok (.putfield 9, 3) := by decide +kernel
theorem dX1_init_13 : decode cX1_init 13 = .ok (.iconst 0, 1) := by decide +kernel
theorem dX1_init_14 : decode cX1_init 14 = .ok (.istore_n 1, 1) := by decide +kernel
theorem dX1_init_15 : decode cX1_init 15 = .ok (.iload_n 1, 1) := by decide +kernel
theorem dX1_init_16 : decode cX1_init 16 = .ok (.sipush 2187, 3) := by decide +kernel
theorem dX1_init_19 : decode cX1_init 19 = .ok (.if_icmp .ge 29, 3) := by decide +kernel
theorem dX1_init_22 : decode cX1_init 22 = .ok (.aload_n 0, 1) := by decide +kernel
theorem dX1_init_23 : decode cX1_init 23 = .ok (.getfield 9, 3) := by decide +kernel
theorem dX1_init_26 : decode cX1_init 26 = .ok (.iload_n 1, 1) := by decide +kernel
theorem dX1_init_27 : decode cX1_init 27 = .ok (.aload_n 0, 1) := by decide +kernel
theorem dX1_init_28 : decode cX1_init 28 = .ok (.getfield 9, 3) := by decide +kernel
theorem dX1_init_31 : decode cX1_init 31 = .ok (.iload_n 1, 1) := by decide +kernel
theorem dX1_init_32 : decode cX1_init 32 = .ok (.iconst 3, 1) := by decide +kernel
theorem dX1_init_33 : decode cX1_init 33 = .ok (.idiv, 1) := by decide +kernel
theorem dX1_init_34 : decode cX1_init 34 = .ok (.iaload, 1) := by decide +kernel
theorem dX1_init_35 : decode cX1_init 35 = .ok (.iconst 2, 1) := by decide +kernel
theorem dX1_init_36 : decode cX1_init 36 = .ok (.ishl, 1) := by decide +kernel
theorem dX1_init_37 : decode cX1_init 37 = .ok (.iload_n 1, 1) := by decide +kernel
theorem dX1_init_38 : decode cX1_init 38 = .ok (.iconst 3, 1) := by decide +kernel
theorem dX1_init_39 : decode cX1_init 39 = .ok (.irem, 1) := by decide +kernel
theorem dX1_init_40 : decode cX1_init 40 = .ok (.ior, 1) := by decide +kernel
theorem dX1_init_41 : decode cX1_init 41 = .ok (.iastore, 1) := by decide +kernel
theorem dX1_init_42 : decode cX1_init 42 = .ok (.iinc 1 1, 3) := by decide +kernel
theorem dX1_init_45 : decode cX1_init 45 = .ok (.goto (-30), 3) := by decide +kernel
theorem dX1_init_48 : decode cX1_init 48 = .ok (.return_, 1) := by decide +kernel
theorem dX1_standIn_0 : decode cX1_standIn 0 = .ok (.iload_n 0, 1) := by decide +kernel
theorem dX1_standIn_1 : decode cX1_standIn 1 = .ok (.iconst 2, 1) := by decide +kernel
theorem dX1_standIn_2 : decode cX1_standIn 2 = .ok (.iload_n 1, 1) := by decide +kernel
theorem dX1_standIn_3 : decode cX1_standIn 3 = .ok (.imul, 1) := by decide +kernel
theorem dX1_standIn_4 : decode cX1_standIn 4 = .ok (.ishr, 1) := by decide +kernel
theorem dX1_standIn_5 : decode cX1_standIn 5 = .ok (.iconst 3, 1) := by decide +kernel
theorem dX1_standIn_6 : decode cX1_standIn 6 = .ok (.iand, 1) := by decide +kernel
theorem dX1_standIn_7 : decode cX1_standIn 7 = .ok (.ireturn, 1) := by decide +kernel
theorem dX1_bitsOf_0 : decode cX1_bitsOf 0 = .ok (.iconst 3, 1) := by decide +kernel
theorem dX1_bitsOf_1 : decode cX1_bitsOf 1 = .ok (.iconst 2, 1) := by decide +kernel
theorem dX1_bitsOf_2 : decode cX1_bitsOf 2 = .ok (.iload_n 0, 1) := by decide +kernel
theorem dX1_bitsOf_3 : decode cX1_bitsOf 3 = .ok (.imul, 1) := by decide +kernel
theorem dX1_bitsOf_4 : decode cX1_bitsOf 4 = .ok (.ishl, 1) := by decide +kernel
theorem dX1_bitsOf_5 : decode cX1_bitsOf 5 = .ok (.ireturn, 1) := by decide +kernel
theorem dX1_natural_0 : decode cX1_natural 0 = .ok (.bipush 12, 2) := by decide +kernel
theorem dX1_natural_2 : decode cX1_natural 2 = .ok (.iload_n 0, 1) := by decide +kernel
theorem dX1_natural_3 : decode cX1_natural 3 = .ok (.bipush 7, 2) := by decide +kernel
theorem dX1_natural_5 : decode cX1_natural 5 = .ok (.idiv, 1) := by decide +kernel
theorem dX1_natural_6 : decode cX1_natural 6 = .ok (.imul, 1) := by decide +kernel
theorem dX1_natural_7 : decode cX1_natural 7 = .ok (.getstatic 15, 3) := by decide +kernel
theorem dX1_natural_10 : decode cX1_natural 10 = .ok (.iload_n 0, 1) := by decide +kernel
theorem dX1_natural_11 : decode cX1_natural 11 = .ok (.bipush 7, 2) := by decide +kernel
theorem dX1_natural_13 : decode cX1_natural 13 = .ok (.irem, 1) := by decide +kernel
theorem dX1_natural_14 : decode cX1_natural 14 = .ok (.iaload, 1) := by decide +kernel
theorem dX1_natural_15 : decode cX1_natural 15 = .ok (.iadd, 1) := by decide +kernel
theorem dX1_natural_16 : decode cX1_natural 16 = .ok (.ireturn, 1) := by decide +kernel
theorem dX1_pitchOf_0 : decode cX1_pitchOf 0 = .ok (.iload_n 1, 1) := by decide +kernel
theorem dX1_pitchOf_1 : decode cX1_pitchOf 1 = .ok (.invokestatic 18, 3) := by decide +kernel
theorem dX1_pitchOf_4 : decode cX1_pitchOf 4 = .ok (.aload_n 0, 1) := by decide +kernel
theorem dX1_pitchOf_5 : decode cX1_pitchOf 5 = .ok (.getfield 9, 3) := by decide +kernel
theorem dX1_pitchOf_8 : decode cX1_pitchOf 8 = .ok (.iload_n 2, 1) := by decide +kernel
theorem dX1_pitchOf_9 : decode cX1_pitchOf 9 = .ok (.iaload, 1) := by decide +kernel
theorem dX1_pitchOf_10 : decode cX1_pitchOf 10 = .ok (.iload_n 1, 1) := by decide +kernel
theorem dX1_pitchOf_11 : decode cX1_pitchOf 11 = .ok (.bipush 7, 2) := by decide +kernel
theorem dX1_pitchOf_13 : decode cX1_pitchOf 13 = .ok (.irem, 1) := by decide +kernel
theorem dX1_pitchOf_14 : decode cX1_pitchOf 14 = .ok (.invokestatic 22, 3) := by decide +kernel
theorem dX1_pitchOf_17 : decode cX1_pitchOf 17 = .ok (.iadd, 1) := by decide +kernel
theorem dX1_pitchOf_18 : decode cX1_pitchOf 18 = .ok (.iconst 1, 1) := by decide +kernel
theorem dX1_pitchOf_19 : decode cX1_pitchOf 19 = .ok (.isub, 1) := by decide +kernel
theorem dX1_pitchOf_20 : decode cX1_pitchOf 20 = .ok (.ireturn, 1) := by decide +kernel
theorem dX1_differentPitches_0 : decode cX1_differentPitches 0 = .ok (.iconst 0, 1) := by decide +kernel
theorem dX1_differentPitches_1 : decode cX1_differentPitches 1 = .ok (.istore 4, 2) := by decide +kernel
theorem dX1_differentPitches_3 : decode cX1_differentPitches 3 = .ok (.iload_n 1, 1) := by decide +kernel
theorem dX1_differentPitches_4 : decode cX1_differentPitches 4 = .ok (.istore 5, 2) := by decide +kernel
theorem dX1_differentPitches_6 : decode cX1_differentPitches 6 = .ok (.iload 5, 2) := by decide +kernel
theorem dX1_differentPitches_8 : decode cX1_differentPitches 8 = .ok (.iload_n 2, 1) := by decide +kernel
theorem dX1_differentPitches_9 : decode cX1_differentPitches 9 = .ok (.if_icmp .gt 65, 3) := by decide +kernel
theorem dX1_differentPitches_12 : decode cX1_differentPitches 12 = .ok (.iconst 0, 1) := by decide +kernel
theorem dX1_differentPitches_13 : decode cX1_differentPitches 13 = .ok (.istore 6, 2) := by decide +kernel
theorem dX1_differentPitches_15 : decode cX1_differentPitches 15 = .ok (.iload_n 1, 1) := by decide +kernel
theorem dX1_differentPitches_16 : decode cX1_differentPitches 16 = .ok (.istore 7, 2) := by decide +kernel
theorem dX1_differentPitches_18 : decode cX1_differentPitches 18 = .ok (.iload 7, 2) := by decide +kernel
theorem dX1_differentPitches_20 : decode cX1_differentPitches 20 = .ok (.iload 5, 2) := by decide +kernel
theorem dX1_differentPitches_22 : decode cX1_differentPitches 22 = .ok (.if_icmp .ge 38, 3) := by decide +kernel
theorem dX1_differentPitches_25 : decode cX1_differentPitches 25 = .ok (.iload 6, 2) := by decide +kernel
theorem dX1_differentPitches_27 : decode cX1_differentPitches 27 = .ok (.ifCond .ne 20, 3) := by decide +kernel
theorem dX1_differentPitches_30 : decode cX1_differentPitches 30 = .ok (.aload_n 0, 1) := by decide +kernel
theorem dX1_differentPitches_31 : decode cX1_differentPitches 31 = .ok (.iload 7, 2) := by decide +kernel
theorem dX1_differentPitches_33 : decode cX1_differentPitches 33 = .ok (.iload_n 3, 1) := by decide +kernel
theorem dX1_differentPitches_34 : decode cX1_differentPitches 34 = .ok (.invokevirtual 26, 3) := by decide +kernel
theorem dX1_differentPitches_37 : decode cX1_differentPitches 37 = .ok (.aload_n 0, 1) := by decide +kernel
theorem dX1_differentPitches_38 : decode cX1_differentPitches 38 = .ok (.iload 5, 2) := by decide +kernel
theorem dX1_differentPitches_40 : decode cX1_differentPitches 40 = .ok (.iload_n 3, 1) := by decide +kernel
theorem dX1_differentPitches_41 : decode cX1_differentPitches 41 = .ok (.invokevirtual 26, 3) := by decide +kernel
theorem dX1_differentPitches_44 : decode cX1_differentPitches 44 = .ok (.if_icmp .ne 7, 3) := by decide +kernel
theorem dX1_differentPitches_47 : decode cX1_differentPitches 47 = .ok (.iconst 1, 1) := by decide +kernel
theorem dX1_differentPitches_48 : decode cX1_differentPitches 48 = .ok (.goto 4, 3) := by decide +kernel
theorem dX1_differentPitches_51 : decode cX1_differentPitches 51 = .ok (.iconst 0, 1) := by decide +kernel
theorem dX1_differentPitches_52 : decode cX1_differentPitches 52 = .ok (.istore 6, 2) := by decide +kernel
theorem dX1_differentPitches_54 : decode cX1_differentPitches 54 = .ok (.iinc 7 1, 3) := by decide +kernel
theorem dX1_differentPitches_57 : decode cX1_differentPitches 57 = .ok (.goto (-39), 3) := by decide +kernel
theorem dX1_differentPitches_60 : decode cX1_differentPitches 60 = .ok (.iload 6, 2) := by decide +kernel
theorem dX1_differentPitches_62 : decode cX1_differentPitches 62 = .ok (.ifCond .ne 6, 3) := by decide +kernel
theorem dX1_differentPitches_65 : decode cX1_differentPitches 65 = .ok (.iinc 4 1, 3) := by decide +kernel
theorem dX1_differentPitches_68 : decode cX1_differentPitches 68 = .ok (.iinc 5 1, 3) := by decide +kernel
theorem dX1_differentPitches_71 : decode cX1_differentPitches 71 = .ok (.goto (-65), 3) := by decide +kernel
theorem dX1_differentPitches_74 : decode cX1_differentPitches 74 = .ok (.iload 4, 2) := by decide +kernel
theorem dX1_differentPitches_76 : decode cX1_differentPitches 76 = .ok (.ireturn, 1) := by decide +kernel
end
section
theorem dX2_init_0 : decode cX2_init 0 = .ok (.aload_n 0, 1) := by decide +kernel
theorem dX2_init_1 : decode cX2_init 1 = .ok (.invokespecial 1, 3) := by decide +kernel
theorem dX2_init_4 : decode cX2_init 4 = .ok (.aload_n 0, 1) := by decide +kernel
theorem dX2_init_5 : decode cX2_init 5 = .ok (.bipush 20, 2) := by decide +kernel
theorem dX2_init_7 : decode cX2_init 7 = .ok (.anewarray 9, 3) := by decide +kernel
theorem dX2_init_10 : decode cX2_init 10 = .ok (.putfield 11, 3) := by decide +kernel
theorem dX2_init_13 : decode cX2_init 13 = .ok (.iconst 0, 1) := by decide +kernel
theorem dX2_init_14 : decode cX2_init 14 = .ok (.istore_n 1, 1) := by decide +kernel
theorem dX2_init_15 : decode cX2_init 15 = .ok (.iload_n 1, 1) := by decide +kernel
theorem dX2_init_16 : decode cX2_init 16 = .ok (.bipush 20, 2) := by decide +kernel
theorem dX2_init_18 : decode cX2_init 18 = .ok (.if_icmp .ge 22, 3) := by decide +kernel
theorem dX2_init_21 : decode cX2_init 21 = .ok (.aload_n 0, 1) := by decide +kernel
theorem dX2_init_22 : decode cX2_init 22 = .ok (.getfield 11, 3) := by decide +kernel
theorem dX2_init_25 : decode cX2_init 25 = .ok (.iload_n 1, 1) := by decide +kernel
theorem dX2_init_26 : decode cX2_init 26 = .ok (.new 9, 3) := by decide +kernel
theorem dX2_init_29 : decode cX2_init 29 = .ok (.dup, 1) := by decide +kernel
theorem dX2_init_30 : decode cX2_init 30 = .ok (.invokespecial 15, 3) := by decide +kernel
theorem dX2_init_33 : decode cX2_init 33 = .ok (.aastore, 1) := by decide +kernel
theorem dX2_init_34 : decode cX2_init 34 = .ok (.iinc 1 1, 3) := by decide +kernel
theorem dX2_init_37 : decode cX2_init 37 = .ok (.goto (-22), 3) := by decide +kernel
theorem dX2_init_40 : decode cX2_init 40 = .ok (.aload_n 0, 1) := by decide +kernel
theorem dX2_init_41 : decode cX2_init 41 = .ok (.iconst 0, 1) := by decide +kernel
theorem dX2_init_42 : decode cX2_init 42 = .ok (.putfield 16, 3) := by decide +kernel
theorem dX2_init_45 : decode cX2_init 45 = .ok (.aload_n 0, 1) := by decide +kernel
theorem dX2_init_46 : decode cX2_init 46 = .ok (.iconst 0, 1) := by decide +kernel
theorem dX2_init_47 : decode cX2_init 47 = .ok (.putfield 20, 3) := by decide +kernel
theorem dX2_init_50 : decode cX2_init 50 = .ok (.return_, 1) := by decide +kernel
theorem dX2_keep_0 : decode cX2_keep 0 = .ok (.aload_n 0, 1) := by decide +kernel
theorem dX2_keep_1 : decode cX2_keep 1 = .ok (.getfield 11, 3) := by decide +kernel
theorem dX2_keep_4 : decode cX2_keep 4 = .ok (.aload_n 0, 1) := by decide +kernel
theorem dX2_keep_5 : decode cX2_keep 5 = .ok (.getfield 16, 3) := by decide +kernel
theorem dX2_keep_8 : decode cX2_keep 8 = .ok (.aaload, 1) := by decide +kernel
theorem dX2_keep_9 : decode cX2_keep 9 = .ok (.aload_n 1, 1) := by decide +kernel
theorem dX2_keep_10 : decode cX2_keep 10 = .ok (.invokevirtual 23, 3) := by decide +kernel
theorem dX2_keep_13 : decode cX2_keep 13 = .ok (.aload_n 0, 1) := by decide +kernel
theorem dX2_keep_14 : decode cX2_keep 14 = .ok (.aload_n 0, 1) := by decide +kernel
theorem dX2_keep_15 : decode cX2_keep 15 = .ok (.getfield 16, 3) := by decide +kernel
theorem dX2_keep_18 : decode cX2_keep 18 = .ok (.iconst 1, 1) := by decide +kernel
theorem dX2_keep_19 : decode cX2_keep 19 = .ok (.iadd, 1) := by decide +kernel
theorem dX2_keep_20 : decode cX2_keep 20 = .ok (.bipush 20, 2) := by decide +kernel
theorem dX2_keep_22 : decode cX2_keep 22 = .ok (.irem, 1) := by decide +kernel
theorem dX2_keep_23 : decode cX2_keep 23 = .ok (.putfield 16, 3) := by decide +kernel
theorem dX2_keep_26 : decode cX2_keep 26 = .ok (.aload_n 0, 1) := by decide +kernel
theorem dX2_keep_27 : decode cX2_keep 27 = .ok (.aload_n 0, 1) := by decide +kernel
theorem dX2_keep_28 : decode cX2_keep 28 = .ok (.getfield 20, 3) := by decide +kernel
theorem dX2_keep_31 : decode cX2_keep 31 = .ok (.iconst 1, 1) := by decide +kernel
theorem dX2_keep_32 : decode cX2_keep 32 = .ok (.iadd, 1) := by decide +kernel
theorem dX2_keep_33 : decode cX2_keep 33 = .ok (.bipush 20, 2) := by decide +kernel
theorem dX2_keep_35 : decode cX2_keep 35 = .ok (.invokestatic 27, 3) := by decide +kernel
theorem dX2_keep_38 : decode cX2_keep 38 = .ok (.putfield 20, 3) := by decide +kernel
theorem dX2_keep_41 : decode cX2_keep 41 = .ok (.return_, 1) := by decide +kernel
theorem dX2_giveBack_0 : decode cX2_giveBack 0 = .ok (.aload_n 0, 1) := by decide +kernel
theorem dX2_giveBack_1 : decode cX2_giveBack 1 = .ok (.aload_n 0, 1) := by decide +kernel
theorem dX2_giveBack_2 : decode cX2_giveBack 2 = .ok (.getfield 16, 3) := by decide +kernel
theorem dX2_giveBack_5 : decode cX2_giveBack 5 = .ok (.bipush 20, 2) := by decide +kernel
theorem dX2_giveBack_7 : decode cX2_giveBack 7 = .ok (.iadd, 1) := by decide +kernel
theorem dX2_giveBack_8 : decode cX2_giveBack 8 = .ok (.iconst 1, 1) := by decide +kernel
theorem dX2_giveBack_9 : decode cX2_giveBack 9 = .ok (.isub, 1) := by decide +kernel
theorem dX2_giveBack_10 : decode cX2_giveBack 10 = .ok (.bipush 20, 2) := by decide +kernel
theorem dX2_giveBack_12 : decode cX2_giveBack 12 = .ok (.irem, 1) := by decide +kernel
theorem dX2_giveBack_13 : decode cX2_giveBack 13 = .ok (.putfield 16, 3) := by decide +kernel
theorem dX2_giveBack_16 : decode cX2_giveBack 16 = .ok (.aload_n 1, 1) := by decide +kernel
theorem dX2_giveBack_17 : decode cX2_giveBack 17 = .ok (.aload_n 0, 1) := by decide +kernel
theorem dX2_giveBack_18 : decode cX2_giveBack 18 = .ok (.getfield 11, 3) := by decide +kernel
theorem dX2_giveBack_21 : decode cX2_giveBack 21 = .ok (.aload_n 0, 1) := by decide +kernel
theorem dX2_giveBack_22 : decode cX2_giveBack 22 = .ok (.getfield 16, 3) := by decide +kernel
theorem dX2_giveBack_25 : decode cX2_giveBack 25 = .ok (.aaload, 1) := by decide +kernel
theorem dX2_giveBack_26 : decode cX2_giveBack 26 = .ok (.invokevirtual 23, 3) := by decide +kernel
theorem dX2_giveBack_29 : decode cX2_giveBack 29 = .ok (.aload_n 0, 1) := by decide +kernel
theorem dX2_giveBack_30 : decode cX2_giveBack 30 = .ok (.dup, 1) := by decide +kernel
theorem dX2_giveBack_31 : decode cX2_giveBack 31 = .ok (.getfield 20, 3) := by decide +kernel
theorem dX2_giveBack_34 : decode cX2_giveBack 34 = .ok (.iconst 1, 1) := by decide +kernel
theorem dX2_giveBack_35 : decode cX2_giveBack 35 = .ok (.isub, 1) := by decide +kernel
theorem dX2_giveBack_36 : decode cX2_giveBack 36 = .ok (.putfield 20, 3) := by decide +kernel
theorem dX2_giveBack_39 : decode cX2_giveBack 39 = .ok (.return_, 1) := by decide +kernel
end
section
theorem dX3_init_0 : decode cX3_init 0 = .ok (.aload_n 0, 1) := by decide +kernel
theorem dX3_init_1 : decode cX3_init 1 = .ok (.invokespecial 3, 3) := by decide +kernel
theorem dX3_init_4 : decode cX3_init 4 = .ok (.aload_n 0, 1) := by decide +kernel
theorem dX3_init_5 : decode cX3_init 5 = .ok (.bipush 8, 2) := by decide +kernel
theorem dX3_init_7 : decode cX3_init 7 = .ok (.putfield 11, 3) := by decide +kernel
theorem dX3_init_10 : decode cX3_init 10 = .ok (.aload_n 0, 1) := by decide +kernel
theorem dX3_init_11 : decode cX3_init 11 = .ok (.bipush 12, 2) := by decide +kernel
theorem dX3_init_13 : decode cX3_init 13 = .ok (.newarray .int, 2) := by decide +kernel
theorem dX3_init_15 : decode cX3_init 15 = .ok (.putfield 15, 3) := by decide +kernel
theorem dX3_init_18 : decode cX3_init 18 = .ok (.aload_n 0, 1) := by decide +kernel
theorem dX3_init_19 : decode cX3_init 19 = .ok (.bipush 72, 2) := by decide +kernel
theorem dX3_init_21 : decode cX3_init 21 = .ok (.newarray .int, 2) := by decide +kernel
theorem dX3_init_23 : decode cX3_init 23 = .ok (.putfield 19, 3) := by decide +kernel
theorem dX3_init_26 : decode cX3_init 26 = .ok (.aload_n 0, 1) := by decide +kernel
theorem dX3_init_27 : decode cX3_init 27 = .ok (.bipush 72, 2) := by decide +kernel
theorem dX3_init_29 : decode cX3_init 29 = .ok (.newarray .int, 2) := by decide +kernel
theorem dX3_init_31 : decode cX3_init 31 = .ok (.putfield 22, 3) := by decide +kernel
theorem dX3_init_34 : decode cX3_init 34 = .ok (.aload_n 0, 1) := by decide +kernel
theorem dX3_init_35 : decode cX3_init 35 = .ok (.bipush 72, 2) := by decide +kernel
theorem dX3_init_37 : decode cX3_init 37 = .ok (.newarray .int, 2) := by decide +kernel
theorem dX3_init_39 : decode cX3_init 39 = .ok (.putfield 25, 3) := by decide +kernel
theorem dX3_init_42 : decode cX3_init 42 = .ok (.aload_n 0, 1) := by decide +kernel
theorem dX3_init_43 : decode cX3_init 43 = .ok (.bipush 84, 2) := by decide +kernel
theorem dX3_init_45 : decode cX3_init 45 = .ok (.newarray .int, 2) := by decide +kernel
theorem dX3_init_47 : decode cX3_init 47 = .ok (.putfield 28, 3) := by decide +kernel
theorem dX3_init_50 : decode cX3_init 50 = .ok (.aload_n 0, 1) := by decide +kernel
theorem dX3_init_51 : decode cX3_init 51 = .ok (.bipush 7, 2) := by decide +kernel
theorem dX3_init_53 : decode cX3_init 53 = .ok (.newarray .int, 2) := by decide +kernel
theorem dX3_init_55 : decode cX3_init 55 = .ok (.putfield 31, 3) := by decide +kernel
theorem dX3_init_58 : decode cX3_init 58 = .ok (.aload_n 0, 1) := by decide +kernel
theorem dX3_init_59 : decode cX3_init 59 = .ok (.getfield 28, 3) := by decide +kernel
theorem dX3_init_62 : decode cX3_init 62 = .ok (.iconst (-1), 1) := by decide +kernel
theorem dX3_init_63 : decode cX3_init 63 = .ok (.invokestatic 34, 3) := by decide +kernel
theorem dX3_init_66 : decode cX3_init 66 = .ok (.aload_n 0, 1) := by decide +kernel
theorem dX3_init_67 : decode cX3_init 67 = .ok (.getfield 31, 3) := by decide +kernel
theorem dX3_init_70 : decode cX3_init 70 = .ok (.iconst (-1), 1) := by decide +kernel
theorem dX3_init_71 : decode cX3_init 71 = .ok (.invokestatic 34, 3) := by decide +kernel
theorem dX3_init_74 : decode cX3_init 74 = .ok (.return_, 1) := by decide +kernel
theorem dX3_place_0 : decode cX3_place 0 = .ok (.iload_n 0, 1) := by decide +kernel
theorem dX3_place_1 : decode cX3_place 1 = .ok (.bipush 6, 2) := by decide +kernel
theorem dX3_place_3 : decode cX3_place 3 = .ok (.imul, 1) := by decide +kernel
theorem dX3_place_4 : decode cX3_place 4 = .ok (.iload_n 1, 1) := by decide +kernel
theorem dX3_place_5 : decode cX3_place 5 = .ok (.iadd, 1) := by decide +kernel
theorem dX3_place_6 : decode cX3_place 6 = .ok (.ireturn, 1) := by decide +kernel
theorem dX3_add_0 : decode cX3_add 0 = .ok (.aload_n 0, 1) := by decide +kernel
theorem dX3_add_1 : decode cX3_add 1 = .ok (.getfield 15, 3) := by decide +kernel
theorem dX3_add_4 : decode cX3_add 4 = .ok (.iload_n 1, 1) := by decide +kernel
theorem dX3_add_5 : decode cX3_add 5 = .ok (.iaload, 1) := by decide +kernel
theorem dX3_add_6 : decode cX3_add 6 = .ok (.istore 5, 2) := by decide +kernel
theorem dX3_add_8 : decode cX3_add 8 = .ok (.iload_n 1, 1) := by decide +kernel
theorem dX3_add_9 : decode cX3_add 9 = .ok (.iload 5, 2) := by decide +kernel
theorem dX3_add_11 : decode cX3_add 11 = .ok (.invokestatic 40, 3) := by decide +kernel
theorem dX3_add_14 : decode cX3_add 14 = .ok (.istore 6, 2) := by decide +kernel
theorem dX3_add_16 : decode cX3_add 16 = .ok (.aload_n 0, 1) := by decide +kernel
theorem dX3_add_17 : decode cX3_add 17 = .ok (.getfield 19, 3) := by decide +kernel
theorem dX3_add_20 : decode cX3_add 20 = .ok (.iload 6, 2) := by decide +kernel
theorem dX3_add_22 : decode cX3_add 22 = .ok (.iload_n 2, 1) := by decide +kernel
theorem dX3_add_23 : decode cX3_add 23 = .ok (.iastore, 1) := by decide +kernel
theorem dX3_add_24 : decode cX3_add 24 = .ok (.aload_n 0, 1) := by decide +kernel
theorem dX3_add_25 : decode cX3_add 25 = .ok (.getfield 22, 3) := by decide +kernel
theorem dX3_add_28 : decode cX3_add 28 = .ok (.iload 6, 2) := by decide +kernel
theorem dX3_add_30 : decode cX3_add 30 = .ok (.iload_n 3, 1) := by decide +kernel
theorem dX3_add_31 : decode cX3_add 31 = .ok (.iastore, 1) := by decide +kernel
theorem dX3_add_32 : decode cX3_add 32 = .ok (.aload_n 0, 1) := by decide +kernel
theorem dX3_add_33 : decode cX3_add 33 = .ok (.getfield 25, 3) := by decide +kernel
theorem dX3_add_36 : decode cX3_add 36 = .ok (.iload 6, 2) := by decide +kernel
theorem dX3_add_38 : decode cX3_add 38 = .ok (.iload 4, 2) := by decide +kernel
theorem dX3_add_40 : decode cX3_add 40 = .ok (.ifCond .eq 12, 3) := by decide +kernel
theorem dX3_add_43 : decode cX3_add 43 = .ok (.iload_n 2, 1) := by decide +kernel
theorem dX3_add_44 : decode cX3_add 44 = .ok (.iconst 2, 1) := by decide +kernel
theorem dX3_add_45 : decode cX3_add 45 = .ok (.if_icmp .eq 7, 3) := by decide +kernel
theorem dX3_add_48 : decode cX3_add 48 = .ok (.iconst 1, 1) := by decide +kernel
theorem dX3_add_49 : decode cX3_add 49 = .ok (.goto 4, 3) := by decide +kernel
theorem dX3_add_52 : decode cX3_add 52 = .ok (.iconst 0, 1) := by decide +kernel
theorem dX3_add_53 : decode cX3_add 53 = .ok (.iastore, 1) := by decide +kernel
theorem dX3_add_54 : decode cX3_add 54 = .ok (.aload_n 0, 1) := by decide +kernel
theorem dX3_add_55 : decode cX3_add 55 = .ok (.getfield 15, 3) := by decide +kernel
theorem dX3_add_58 : decode cX3_add 58 = .ok (.iload_n 1, 1) := by decide +kernel
theorem dX3_add_59 : decode cX3_add 59 = .ok (.iload 5, 2) := by decide +kernel
theorem dX3_add_61 : decode cX3_add 61 = .ok (.iconst 1, 1) := by decide +kernel
theorem dX3_add_62 : decode cX3_add 62 = .ok (.iadd, 1) := by decide +kernel
theorem dX3_add_63 : decode cX3_add 63 = .ok (.iastore, 1) := by decide +kernel
theorem dX3_add_64 : decode cX3_add 64 = .ok (.iload 5, 2) := by decide +kernel
theorem dX3_add_66 : decode cX3_add 66 = .ok (.ireturn, 1) := by decide +kernel
theorem dX3_canRise_0 : decode cX3_canRise 0 = .ok (.iconst 0, 1) := by decide +kernel
theorem dX3_canRise_1 : decode cX3_canRise 1 = .ok (.istore_n 2, 1) := by decide +kernel
theorem dX3_canRise_2 : decode cX3_canRise 2 = .ok (.iload_n 2, 1) := by decide +kernel
theorem dX3_canRise_3 : decode cX3_canRise 3 = .ok (.bipush 12, 2) := by decide +kernel
theorem dX3_canRise_5 : decode cX3_canRise 5 = .ok (.if_icmp .ge 56, 3) := by decide +kernel
theorem dX3_canRise_8 : decode cX3_canRise 8 = .ok (.iconst 0, 1) := by decide +kernel
theorem dX3_canRise_9 : decode cX3_canRise 9 = .ok (.istore_n 3, 1) := by decide +kernel
theorem dX3_canRise_10 : decode cX3_canRise 10 = .ok (.iload_n 3, 1) := by decide +kernel
theorem dX3_canRise_11 : decode cX3_canRise 11 = .ok (.aload_n 0, 1) := by decide +kernel
theorem dX3_canRise_12 : decode cX3_canRise 12 = .ok (.getfield 15, 3) := by decide +kernel
theorem dX3_canRise_15 : decode cX3_canRise 15 = .ok (.iload_n 2, 1) := by decide +kernel
theorem dX3_canRise_16 : decode cX3_canRise 16 = .ok (.iaload, 1) := by decide +kernel
theorem dX3_canRise_17 : decode cX3_canRise 17 = .ok (.if_icmp .ge 38, 3) := by decide +kernel
theorem dX3_canRise_20 : decode cX3_canRise 20 = .ok (.aload_n 0, 1) := by decide +kernel
theorem dX3_canRise_21 : decode cX3_canRise 21 = .ok (.getfield 22, 3) := by decide +kernel
theorem dX3_canRise_24 : decode cX3_canRise 24 = .ok (.iload_n 2, 1) := by decide +kernel
theorem dX3_canRise_25 : decode cX3_canRise 25 = .ok (.iload_n 3, 1) := by decide +kernel
theorem dX3_canRise_26 : decode cX3_canRise 26 = .ok (.invokestatic 40, 3) := by decide +kernel
theorem dX3_canRise_29 : decode cX3_canRise 29 = .ok (.iaload, 1) := by decide +kernel
theorem dX3_canRise_30 : decode cX3_canRise 30 = .ok (.iload_n 1, 1) := by decide +kernel
theorem dX3_canRise_31 : decode cX3_canRise 31 = .ok (.iadd, 1) := by decide +kernel
theorem dX3_canRise_32 : decode cX3_canRise 32 = .ok (.istore 4, 2) := by decide +kernel
theorem dX3_canRise_34 : decode cX3_canRise 34 = .ok (.iload 4, 2) := by decide +kernel
theorem dX3_canRise_36 : decode cX3_canRise 36 = .ok (.iconst (-1), 1) := by decide +kernel
theorem dX3_canRise_37 : decode cX3_canRise 37 = .ok (.if_icmp .lt 10, 3) := by decide +kernel
theorem dX3_canRise_40 : decode cX3_canRise 40 = .ok (.iload 4, 2) := by decide +kernel
theorem dX3_canRise_42 : decode cX3_canRise 42 = .ok (.bipush 100, 2) := by decide +kernel
theorem dX3_canRise_44 : decode cX3_canRise 44 = .ok (.if_icmp .le 5, 3) := by decide +kernel
theorem dX3_canRise_47 : decode cX3_canRise 47 = .ok (.iconst 0, 1) := by decide +kernel
theorem dX3_canRise_48 : decode cX3_canRise 48 = .ok (.ireturn, 1) := by decide +kernel
theorem dX3_canRise_49 : decode cX3_canRise 49 = .ok (.iinc 3 1, 3) := by decide +kernel
theorem dX3_canRise_52 : decode cX3_canRise 52 = .ok (.goto (-42), 3) := by decide +kernel
theorem dX3_canRise_55 : decode cX3_canRise 55 = .ok (.iinc 2 1, 3) := by decide +kernel
theorem dX3_canRise_58 : decode cX3_canRise 58 = .ok (.goto (-56), 3) := by decide +kernel
theorem dX3_canRise_61 : decode cX3_canRise 61 = .ok (.iconst 1, 1) := by decide +kernel
theorem dX3_canRise_62 : decode cX3_canRise 62 = .ok (.ireturn, 1) := by decide +kernel
theorem dX3_rise_0 : decode cX3_rise 0 = .ok (.iconst 0, 1) := by decide +kernel
theorem dX3_rise_1 : decode cX3_rise 1 = .ok (.istore_n 2, 1) := by decide +kernel
theorem dX3_rise_2 : decode cX3_rise 2 = .ok (.iload_n 2, 1) := by decide +kernel
theorem dX3_rise_3 : decode cX3_rise 3 = .ok (.bipush 12, 2) := by decide +kernel
theorem dX3_rise_5 : decode cX3_rise 5 = .ok (.if_icmp .ge 41, 3) := by decide +kernel
theorem dX3_rise_8 : decode cX3_rise 8 = .ok (.iconst 0, 1) := by decide +kernel
theorem dX3_rise_9 : decode cX3_rise 9 = .ok (.istore_n 3, 1) := by decide +kernel
theorem dX3_rise_10 : decode cX3_rise 10 = .ok (.iload_n 3, 1) := by decide +kernel
theorem dX3_rise_11 : decode cX3_rise 11 = .ok (.aload_n 0, 1) := by decide +kernel
theorem dX3_rise_12 : decode cX3_rise 12 = .ok (.getfield 15, 3) := by decide +kernel
theorem dX3_rise_15 : decode cX3_rise 15 = .ok (.iload_n 2, 1) := by decide +kernel
theorem dX3_rise_16 : decode cX3_rise 16 = .ok (.iaload, 1) := by decide +kernel
theorem dX3_rise_17 : decode cX3_rise 17 = .ok (.if_icmp .ge 23, 3) := by decide +kernel
theorem dX3_rise_20 : decode cX3_rise 20 = .ok (.aload_n 0, 1) := by decide +kernel
theorem dX3_rise_21 : decode cX3_rise 21 = .ok (.getfield 22, 3) := by decide +kernel
theorem dX3_rise_24 : decode cX3_rise 24 = .ok (.iload_n 2, 1) := by decide +kernel
theorem dX3_rise_25 : decode cX3_rise 25 = .ok (.iload_n 3, 1) := by decide +kernel
theorem dX3_rise_26 : decode cX3_rise 26 = .ok (.invokestatic 40, 3) := by decide +kernel
theorem dX3_rise_29 : decode cX3_rise 29 = .ok (.dup2, 1) := by decide +kernel
theorem dX3_rise_30 : decode cX3_rise 30 = .ok (.iaload, 1) := by decide +kernel
theorem dX3_rise_31 : decode cX3_rise 31 = .ok (.iload_n 1, 1) := by decide +kernel
theorem dX3_rise_32 : decode cX3_rise 32 = .ok (.iadd, 1) := by decide +kernel
theorem dX3_rise_33 : decode cX3_rise 33 = .ok (.iastore, 1) := by decide +kernel
theorem dX3_rise_34 : decode cX3_rise 34 = .ok (.iinc 3 1, 3) := by decide +kernel
theorem dX3_rise_37 : decode cX3_rise 37 = .ok (.goto (-27), 3) := by decide +kernel
theorem dX3_rise_40 : decode cX3_rise 40 = .ok (.iinc 2 1, 3) := by decide +kernel
theorem dX3_rise_43 : decode cX3_rise 43 = .ok (.goto (-41), 3) := by decide +kernel
theorem dX3_rise_46 : decode cX3_rise 46 = .ok (.return_, 1) := by decide +kernel
theorem dX3_takeTune_0 : decode cX3_takeTune 0 = .ok (.iconst 0, 1) := by decide +kernel
theorem dX3_takeTune_1 : decode cX3_takeTune 1 = .ok (.istore_n 3, 1) := by decide +kernel
theorem dX3_takeTune_2 : decode cX3_takeTune 2 = .ok (.iconst 0, 1) := by decide +kernel
theorem dX3_takeTune_3 : decode cX3_takeTune 3 = .ok (.istore 4, 2) := by decide +kernel
theorem dX3_takeTune_5 : decode cX3_takeTune 5 = .ok (.iload 4, 2) := by decide +kernel
theorem dX3_takeTune_7 : decode cX3_takeTune 7 = .ok (.iload_n 2, 1) := by decide +kernel
theorem dX3_takeTune_8 : decode cX3_takeTune 8 = .ok (.if_icmp .ge 41, 3) := by decide +kernel
theorem dX3_takeTune_11 : decode cX3_takeTune 11 = .ok (.aload_n 0, 1) := by decide +kernel
theorem dX3_takeTune_12 : decode cX3_takeTune 12 = .ok (.getfield 15, 3) := by decide +kernel
theorem dX3_takeTune_15 : decode cX3_takeTune 15 = .ok (.iload 4, 2) := by decide +kernel
theorem dX3_takeTune_17 : decode cX3_takeTune 17 = .ok (.iconst 0, 1) := by decide +kernel
theorem dX3_takeTune_18 : decode cX3_takeTune 18 = .ok (.iastore, 1) := by decide +kernel
theorem dX3_takeTune_19 : decode cX3_takeTune 19 = .ok (.aload_n 1, 1) := by decide +kernel
theorem dX3_takeTune_20 : decode cX3_takeTune 20 = .ok (.iload 4, 2) := by decide +kernel
theorem dX3_takeTune_22 : decode cX3_takeTune 22 = .ok (.iaload, 1) := by decide +kernel
theorem dX3_takeTune_23 : decode cX3_takeTune 23 = .ok (.iconst (-1), 1) := by decide +kernel
theorem dX3_takeTune_24 : decode cX3_takeTune 24 = .ok (.if_icmp .lt 19, 3) := by decide +kernel
theorem dX3_takeTune_27 : decode cX3_takeTune 27 = .ok (.aload_n 0, 1) := by decide +kernel
theorem dX3_takeTune_28 : decode cX3_takeTune 28 = .ok (.iload 4, 2) := by decide +kernel
theorem dX3_takeTune_30 : decode cX3_takeTune 30 = .ok (.iconst 0, 1) := by decide +kernel
theorem dX3_takeTune_31 : decode cX3_takeTune 31 = .ok (.aload_n 1, 1) := by decide +kernel
theorem dX3_takeTune_32 : decode cX3_takeTune 32 = .ok (.iload 4, 2) := by decide +kernel
theorem dX3_takeTune_34 : decode cX3_takeTune 34 = .ok (.iaload, 1) := by decide +kernel
theorem dX3_takeTune_35 : decode cX3_takeTune 35 = .ok (.iconst 0, 1) := by decide +kernel
theorem dX3_takeTune_36 : decode cX3_takeTune 36 = .ok (.invokevirtual 44, 3) := by decide +kernel
theorem dX3_takeTune_39 : decode cX3_takeTune 39 = .ok (.pop, 1) := by decide +kernel
theorem dX3_takeTune_40 : decode cX3_takeTune 40 = .ok (.iinc 3 1, 3) := by decide +kernel
theorem dX3_takeTune_43 : decode cX3_takeTune 43 = .ok (.iinc 4 1, 3) := by decide +kernel
theorem dX3_takeTune_46 : decode cX3_takeTune 46 = .ok (.goto (-41), 3) := by decide +kernel
theorem dX3_takeTune_49 : decode cX3_takeTune 49 = .ok (.iload_n 3, 1) := by decide +kernel
theorem dX3_takeTune_50 : decode cX3_takeTune 50 = .ok (.ireturn, 1) := by decide +kernel
theorem dX3_countNotes_0 : decode cX3_countNotes 0 = .ok (.iconst 0, 1) := by decide +kernel
theorem dX3_countNotes_1 : decode cX3_countNotes 1 = .ok (.istore_n 1, 1) := by decide +kernel
theorem dX3_countNotes_2 : decode cX3_countNotes 2 = .ok (.iconst 0, 1) := by decide +kernel
theorem dX3_countNotes_3 : decode cX3_countNotes 3 = .ok (.istore_n 2, 1) := by decide +kernel
theorem dX3_countNotes_4 : decode cX3_countNotes 4 = .ok (.iload_n 2, 1) := by decide +kernel
theorem dX3_countNotes_5 : decode cX3_countNotes 5 = .ok (.bipush 12, 2) := by decide +kernel
theorem dX3_countNotes_7 : decode cX3_countNotes 7 = .ok (.if_icmp .ge 18, 3) := by decide +kernel
theorem dX3_countNotes_10 : decode cX3_countNotes 10 = .ok (.iload_n 1, 1) := by decide +kernel
theorem dX3_countNotes_11 : decode cX3_countNotes 11 = .ok (.aload_n 0, 1) := by decide +kernel
theorem dX3_countNotes_12 : decode cX3_countNotes 12 = .ok (.getfield 15, 3) := by decide +kernel
theorem dX3_countNotes_15 : decode cX3_countNotes 15 = .ok (.iload_n 2, 1) := by decide +kernel
theorem dX3_countNotes_16 : decode cX3_countNotes 16 = .ok (.iaload, 1) := by decide +kernel
theorem dX3_countNotes_17 : decode cX3_countNotes 17 = .ok (.iadd, 1) := by decide +kernel
theorem dX3_countNotes_18 : decode cX3_countNotes 18 = .ok (.istore_n 1, 1) := by decide +kernel
theorem dX3_countNotes_19 : decode cX3_countNotes 19 = .ok (.iinc 2 1, 3) := by decide +kernel
theorem dX3_countNotes_22 : decode cX3_countNotes 22 = .ok (.goto (-18), 3) := by decide +kernel
theorem dX3_countNotes_25 : decode cX3_countNotes 25 = .ok (.iload_n 1, 1) := by decide +kernel
theorem dX3_countNotes_26 : decode cX3_countNotes 26 = .ok (.ireturn, 1) := by decide +kernel
theorem dX3_countMarks_0 : decode cX3_countMarks 0 = .ok (.iconst 0, 1) := by decide +kernel
theorem dX3_countMarks_1 : decode cX3_countMarks 1 = .ok (.istore_n 1, 1) := by decide +kernel
theorem dX3_countMarks_2 : decode cX3_countMarks 2 = .ok (.iconst 0, 1) := by decide +kernel
theorem dX3_countMarks_3 : decode cX3_countMarks 3 = .ok (.istore_n 2, 1) := by decide +kernel
theorem dX3_countMarks_4 : decode cX3_countMarks 4 = .ok (.iload_n 2, 1) := by decide +kernel
theorem dX3_countMarks_5 : decode cX3_countMarks 5 = .ok (.bipush 84, 2) := by decide +kernel
theorem dX3_countMarks_7 : decode cX3_countMarks 7 = .ok (.if_icmp .ge 21, 3) := by decide +kernel
theorem dX3_countMarks_10 : decode cX3_countMarks 10 = .ok (.aload_n 0, 1) := by decide +kernel
theorem dX3_countMarks_11 : decode cX3_countMarks 11 = .ok (.getfield 28, 3) := by decide +kernel
theorem dX3_countMarks_14 : decode cX3_countMarks 14 = .ok (.iload_n 2, 1) := by decide +kernel
theorem dX3_countMarks_15 : decode cX3_countMarks 15 = .ok (.iaload, 1) := by decide +kernel
theorem dX3_countMarks_16 : decode cX3_countMarks 16 = .ok (.ifCond .lt 6, 3) := by decide +kernel
theorem dX3_countMarks_19 : decode cX3_countMarks 19 = .ok (.iinc 1 1, 3) := by decide +kernel
theorem dX3_countMarks_22 : decode cX3_countMarks 22 = .ok (.iinc 2 1, 3) := by decide +kernel
theorem dX3_countMarks_25 : decode cX3_countMarks 25 = .ok (.goto (-21), 3) := by decide +kernel
theorem dX3_countMarks_28 : decode cX3_countMarks 28 = .ok (.iload_n 1, 1) := by decide +kernel
theorem dX3_countMarks_29 : decode cX3_countMarks 29 = .ok (.ireturn, 1) := by decide +kernel
theorem dX3_become_0 : decode cX3_become 0 = .ok (.aload_n 0, 1) := by decide +kernel
theorem dX3_become_1 : decode cX3_become 1 = .ok (.aload_n 1, 1) := by decide +kernel
theorem dX3_become_2 : decode cX3_become 2 = .ok (.getfield 11, 3) := by decide +kernel
theorem dX3_become_5 : decode cX3_become 5 = .ok (.putfield 11, 3) := by decide +kernel
theorem dX3_become_8 : decode cX3_become 8 = .ok (.aload_n 1, 1) := by decide +kernel
theorem dX3_become_9 : decode cX3_become 9 = .ok (.getfield 15, 3) := by decide +kernel
theorem dX3_become_12 : decode cX3_become 12 = .ok (.iconst 0, 1) := by decide +kernel
theorem dX3_become_13 : decode cX3_become 13 = .ok (.aload_n 0, 1) := by decide +kernel
theorem dX3_become_14 : decode cX3_become 14 = .ok (.getfield 15, 3) := by decide +kernel
theorem dX3_become_17 : decode cX3_become 17 = .ok (.iconst 0, 1) := by decide +kernel
theorem dX3_become_18 : decode cX3_become 18 = .ok (.bipush 12, 2) := by decide +kernel
theorem dX3_become_20 : decode cX3_become 20 = .ok (.invokestatic 48, 3) := by decide +kernel
theorem dX3_become_23 : decode cX3_become 23 = .ok (.aload_n 1, 1) := by decide +kernel
theorem dX3_become_24 : decode cX3_become 24 = .ok (.getfield 19, 3) := by decide +kernel
theorem dX3_become_27 : decode cX3_become 27 = .ok (.iconst 0, 1) := by decide +kernel
theorem dX3_become_28 : decode cX3_become 28 = .ok (.aload_n 0, 1) := by decide +kernel
theorem dX3_become_29 : decode cX3_become 29 = .ok (.getfield 19, 3) := by decide +kernel
theorem dX3_become_32 : decode cX3_become 32 = .ok (.iconst 0, 1) := by decide +kernel
theorem dX3_become_33 : decode cX3_become 33 = .ok (.bipush 72, 2) := by decide +kernel
theorem dX3_become_35 : decode cX3_become 35 = .ok (.invokestatic 48, 3) := by decide +kernel
theorem dX3_become_38 : decode cX3_become 38 = .ok (.aload_n 1, 1) := by decide +kernel
theorem dX3_become_39 : decode cX3_become 39 = .ok (.getfield 22, 3) := by decide +kernel
theorem dX3_become_42 : decode cX3_become 42 = .ok (.iconst 0, 1) := by decide +kernel
theorem dX3_become_43 : decode cX3_become 43 = .ok (.aload_n 0, 1) := by decide +kernel
theorem dX3_become_44 : decode cX3_become 44 = .ok (.getfield 22, 3) := by decide +kernel
theorem dX3_become_47 : decode cX3_become 47 = .ok (.iconst 0, 1) := by decide +kernel
theorem dX3_become_48 : decode cX3_become 48 = .ok (.bipush 72, 2) := by decide +kernel
theorem dX3_become_50 : decode cX3_become 50 = .ok (.invokestatic 48, 3) := by decide +kernel
theorem dX3_become_53 : decode cX3_become 53 = .ok (.aload_n 1, 1) := by decide +kernel
theorem dX3_become_54 : decode cX3_become 54 = .ok (.getfield 25, 3) := by decide +kernel
theorem dX3_become_57 : decode cX3_become 57 = .ok (.iconst 0, 1) := by decide +kernel
theorem dX3_become_58 : decode cX3_become 58 = .ok (.aload_n 0, 1) := by decide +kernel
theorem dX3_become_59 : decode cX3_become 59 = .ok (.getfield 25, 3) := by decide +kernel
theorem dX3_become_62 : decode cX3_become 62 = .ok (.iconst 0, 1) := by decide +kernel
theorem dX3_become_63 : decode cX3_become 63 = .ok (.bipush 72, 2) := by decide +kernel
theorem dX3_become_65 : decode cX3_become 65 = .ok (.invokestatic 48, 3) := by decide +kernel
theorem dX3_become_68 : decode cX3_become 68 = .ok (.aload_n 1, 1) := by decide +kernel
theorem dX3_become_69 : decode cX3_become 69 = .ok (.getfield 28, 3) := by decide +kernel
theorem dX3_become_72 : decode cX3_become 72 = .ok (.iconst 0, 1) := by decide +kernel
theorem dX3_become_73 : decode cX3_become 73 = .ok (.aload_n 0, 1) := by decide +kernel
theorem dX3_become_74 : decode cX3_become 74 = .ok (.getfield 28, 3) := by decide +kernel
theorem dX3_become_77 : decode cX3_become 77 = .ok (.iconst 0, 1) := by decide +kernel
theorem dX3_become_78 : decode cX3_become 78 = .ok (.bipush 84, 2) := by decide +kernel
theorem dX3_become_80 : decode cX3_become 80 = .ok (.invokestatic 48, 3) := by decide +kernel
theorem dX3_become_83 : decode cX3_become 83 = .ok (.aload_n 1, 1) := by decide +kernel
theorem dX3_become_84 : decode cX3_become 84 = .ok (.getfield 31, 3) := by decide +kernel
theorem dX3_become_87 : decode cX3_become 87 = .ok (.iconst 0, 1) := by decide +kernel
theorem dX3_become_88 : decode cX3_become 88 = .ok (.aload_n 0, 1) := by decide +kernel
theorem dX3_become_89 : decode cX3_become 89 = .ok (.getfield 31, 3) := by decide +kernel
theorem dX3_become_92 : decode cX3_become 92 = .ok (.iconst 0, 1) := by decide +kernel
theorem dX3_become_93 : decode cX3_become 93 = .ok (.bipush 7, 2) := by decide +kernel
theorem dX3_become_95 : decode cX3_become 95 = .ok (.invokestatic 48, 3) := by decide +kernel
theorem dX3_become_98 : decode cX3_become 98 = .ok (.return_, 1) := by decide +kernel
end
section
theorem dX4_init_0 : decode cX4_init 0 = .ok (.aload_n 0, 1) := by decide +kernel
theorem dX4_init_1 : decode cX4_init 1 = .ok (.invokespecial 1, 3) := by decide +kernel
theorem dX4_init_4 : decode cX4_init 4 = .ok (.aload_n 0, 1) := by decide +kernel
theorem dX4_init_5 : decode cX4_init 5 = .ok (.iconst 4, 1) := by decide +kernel
theorem dX4_init_6 : decode cX4_init 6 = .ok (.newarray .int, 2) := by decide +kernel
theorem dX4_init_8 : decode cX4_init 8 = .ok (.putfield 9, 3) := by decide +kernel
theorem dX4_init_11 : decode cX4_init 11 = .ok (.aload_n 0, 1) := by decide +kernel
theorem dX4_init_12 : decode cX4_init 12 = .ok (.iconst 4, 1) := by decide +kernel
theorem dX4_init_13 : decode cX4_init 13 = .ok (.newarray .int, 2) := by decide +kernel
theorem dX4_init_15 : decode cX4_init 15 = .ok (.putfield 13, 3) := by decide +kernel
theorem dX4_init_18 : decode cX4_init 18 = .ok (.aload_n 0, 1) := by decide +kernel
theorem dX4_init_19 : decode cX4_init 19 = .ok (.iconst 4, 1) := by decide +kernel
theorem dX4_init_20 : decode cX4_init 20 = .ok (.bipush 30, 2) := by decide +kernel
theorem dX4_init_22 : decode cX4_init 22 = .ok (.multianewarray 16 2, 4) := by decide +kernel
theorem dX4_init_26 : decode cX4_init 26 = .ok (.putfield 18, 3) := by decide +kernel
theorem dX4_init_29 : decode cX4_init 29 = .ok (.return_, 1) := by decide +kernel
theorem dX4_isSheet_0 : decode cX4_isSheet 0 = .ok (.iload_n 0, 1) := by decide +kernel
theorem dX4_isSheet_1 : decode cX4_isSheet 1 = .ok (.ifCond .lt 12, 3) := by decide +kernel
theorem dX4_isSheet_4 : decode cX4_isSheet 4 = .ok (.iload_n 0, 1) := by decide +kernel
theorem dX4_isSheet_5 : decode cX4_isSheet 5 = .ok (.iconst 4, 1) := by decide +kernel
theorem dX4_isSheet_6 : decode cX4_isSheet 6 = .ok (.if_icmp .ge 7, 3) := by decide +kernel
theorem dX4_isSheet_9 : decode cX4_isSheet 9 = .ok (.iconst 1, 1) := by decide +kernel
theorem dX4_isSheet_10 : decode cX4_isSheet 10 = .ok (.goto 4, 3) := by decide +kernel
theorem dX4_isSheet_13 : decode cX4_isSheet 13 = .ok (.iconst 0, 1) := by decide +kernel
theorem dX4_isSheet_14 : decode cX4_isSheet 14 = .ok (.ireturn, 1) := by decide +kernel
theorem dX4_isBits_0 : decode cX4_isBits 0 = .ok (.iload_n 0, 1) := by decide +kernel
theorem dX4_isBits_1 : decode cX4_isBits 1 = .ok (.ifCond .eq 21, 3) := by decide +kernel
theorem dX4_isBits_4 : decode cX4_isBits 4 = .ok (.iload_n 0, 1) := by decide +kernel
theorem dX4_isBits_5 : decode cX4_isBits 5 = .ok (.bipush 8, 2) := by decide +kernel
theorem dX4_isBits_7 : decode cX4_isBits 7 = .ok (.if_icmp .eq 15, 3) := by decide +kernel
theorem dX4_isBits_10 : decode cX4_isBits 10 = .ok (.iload_n 0, 1) := by decide +kernel
theorem dX4_isBits_11 : decode cX4_isBits 11 = .ok (.bipush 16, 2) := by decide +kernel
theorem dX4_isBits_13 : decode cX4_isBits 13 = .ok (.if_icmp .eq 9, 3) := by decide +kernel
theorem dX4_isBits_16 : decode cX4_isBits 16 = .ok (.iload_n 0, 1) := by decide +kernel
theorem dX4_isBits_17 : decode cX4_isBits 17 = .ok (.bipush 32, 2) := by decide +kernel
theorem dX4_isBits_19 : decode cX4_isBits 19 = .ok (.if_icmp .ne 7, 3) := by decide +kernel
theorem dX4_isBits_22 : decode cX4_isBits 22 = .ok (.iconst 1, 1) := by decide +kernel
theorem dX4_isBits_23 : decode cX4_isBits 23 = .ok (.goto 4, 3) := by decide +kernel
theorem dX4_isBits_26 : decode cX4_isBits 26 = .ok (.iconst 0, 1) := by decide +kernel
theorem dX4_isBits_27 : decode cX4_isBits 27 = .ok (.ireturn, 1) := by decide +kernel
theorem dX4_isMissing_0 : decode cX4_isMissing 0 = .ok (.aload_n 0, 1) := by decide +kernel
theorem dX4_isMissing_1 : decode cX4_isMissing 1 = .ok (.getfield 9, 3) := by decide +kernel
theorem dX4_isMissing_4 : decode cX4_isMissing 4 = .ok (.iload_n 1, 1) := by decide +kernel
theorem dX4_isMissing_5 : decode cX4_isMissing 5 = .ok (.iaload, 1) := by decide +kernel
theorem dX4_isMissing_6 : decode cX4_isMissing 6 = .ok (.ifCond .ne 7, 3) := by decide +kernel
theorem dX4_isMissing_9 : decode cX4_isMissing 9 = .ok (.iconst 1, 1) := by decide +kernel
theorem dX4_isMissing_10 : decode cX4_isMissing 10 = .ok (.goto 4, 3) := by decide +kernel
theorem dX4_isMissing_13 : decode cX4_isMissing 13 = .ok (.iconst 0, 1) := by decide +kernel
theorem dX4_isMissing_14 : decode cX4_isMissing 14 = .ok (.ireturn, 1) := by decide +kernel
theorem dX4_renew_0 : decode cX4_renew 0 = .ok (.aload_n 0, 1) := by decide +kernel
theorem dX4_renew_1 : decode cX4_renew 1 = .ok (.getfield 9, 3) := by decide +kernel
theorem dX4_renew_4 : decode cX4_renew 4 = .ok (.iload_n 1, 1) := by decide +kernel
theorem dX4_renew_5 : decode cX4_renew 5 = .ok (.iload_n 2, 1) := by decide +kernel
theorem dX4_renew_6 : decode cX4_renew 6 = .ok (.iastore, 1) := by decide +kernel
theorem dX4_renew_7 : decode cX4_renew 7 = .ok (.aload_n 0, 1) := by decide +kernel
theorem dX4_renew_8 : decode cX4_renew 8 = .ok (.getfield 13, 3) := by decide +kernel
theorem dX4_renew_11 : decode cX4_renew 11 = .ok (.iload_n 1, 1) := by decide +kernel
theorem dX4_renew_12 : decode cX4_renew 12 = .ok (.iload_n 2, 1) := by decide +kernel
theorem dX4_renew_13 : decode cX4_renew 13 = .ok (.ifCond .ne 7, 3) := by decide +kernel
theorem dX4_renew_16 : decode cX4_renew 16 = .ok (.iconst 0, 1) := by decide +kernel
theorem dX4_renew_17 : decode cX4_renew 17 = .ok (.goto 4, 3) := by decide +kernel
theorem dX4_renew_20 : decode cX4_renew 20 = .ok (.iload_n 3, 1) := by decide +kernel
theorem dX4_renew_21 : decode cX4_renew 21 = .ok (.iastore, 1) := by decide +kernel
theorem dX4_renew_22 : decode cX4_renew 22 = .ok (.aload_n 0, 1) := by decide +kernel
theorem dX4_renew_23 : decode cX4_renew 23 = .ok (.getfield 18, 3) := by decide +kernel
theorem dX4_renew_26 : decode cX4_renew 26 = .ok (.iload_n 1, 1) := by decide +kernel
theorem dX4_renew_27 : decode cX4_renew 27 = .ok (.aaload, 1) := by decide +kernel
theorem dX4_renew_28 : decode cX4_renew 28 = .ok (.iconst 0, 1) := by decide +kernel
theorem dX4_renew_29 : decode cX4_renew 29 = .ok (.invokestatic 21, 3) := by decide +kernel
theorem dX4_renew_32 : decode cX4_renew 32 = .ok (.aload_n 0, 1) := by decide +kernel
theorem dX4_renew_33 : decode cX4_renew 33 = .ok (.getfield 13, 3) := by decide +kernel
theorem dX4_renew_36 : decode cX4_renew 36 = .ok (.iload_n 1, 1) := by decide +kernel
theorem dX4_renew_37 : decode cX4_renew 37 = .ok (.iaload, 1) := by decide +kernel
theorem dX4_renew_38 : decode cX4_renew 38 = .ok (.ireturn, 1) := by decide +kernel
theorem dX4_write_0 : decode cX4_write 0 = .ok (.aload_n 0, 1) := by decide +kernel
theorem dX4_write_1 : decode cX4_write 1 = .ok (.getfield 9, 3) := by decide +kernel
theorem dX4_write_4 : decode cX4_write 4 = .ok (.iload_n 1, 1) := by decide +kernel
theorem dX4_write_5 : decode cX4_write 5 = .ok (.iaload, 1) := by decide +kernel
theorem dX4_write_6 : decode cX4_write 6 = .ok (.lookupswitch 52 #[(8, 26), (16, 39)], 26) := by decide +kernel
theorem dX4_write_32 : decode cX4_write 32 = .ok (.aload_n 0, 1) := by decide +kernel
theorem dX4_write_33 : decode cX4_write 33 = .ok (.getfield 18, 3) := by decide +kernel
theorem dX4_write_36 : decode cX4_write 36 = .ok (.iload_n 1, 1) := by decide +kernel
theorem dX4_write_37 : decode cX4_write 37 = .ok (.aaload, 1) := by decide +kernel
theorem dX4_write_38 : decode cX4_write 38 = .ok (.iload_n 2, 1) := by decide +kernel
theorem dX4_write_39 : decode cX4_write 39 = .ok (.iload_n 3, 1) := by decide +kernel
theorem dX4_write_40 : decode cX4_write 40 = .ok (.i2b, 1) := by decide +kernel
theorem dX4_write_41 : decode cX4_write 41 = .ok (.iastore, 1) := by decide +kernel
theorem dX4_write_42 : decode cX4_write 42 = .ok (.goto 25, 3) := by decide +kernel
theorem dX4_write_45 : decode cX4_write 45 = .ok (.aload_n 0, 1) := by decide +kernel
theorem dX4_write_46 : decode cX4_write 46 = .ok (.getfield 18, 3) := by decide +kernel
theorem dX4_write_49 : decode cX4_write 49 = .ok (.iload_n 1, 1) := by decide +kernel
theorem dX4_write_50 : decode cX4_write 50 = .ok (.aaload, 1) := by decide +kernel
theorem dX4_write_51 : decode cX4_write 51 = .ok (.iload_n 2, 1) := by decide +kernel
theorem dX4_write_52 : decode cX4_write 52 = .ok (.iload_n 3, 1) := by decide +kernel
theorem dX4_write_53 : decode cX4_write 53 = .ok (.i2s, 1) := by decide +kernel
theorem dX4_write_54 : decode cX4_write 54 = .ok (.iastore, 1) := by decide +kernel
theorem dX4_write_55 : decode cX4_write 55 = .ok (.goto 12, 3) := by decide +kernel
theorem dX4_write_58 : decode cX4_write 58 = .ok (.aload_n 0, 1) := by decide +kernel
theorem dX4_write_59 : decode cX4_write 59 = .ok (.getfield 18, 3) := by decide +kernel
theorem dX4_write_62 : decode cX4_write 62 = .ok (.iload_n 1, 1) := by decide +kernel
theorem dX4_write_63 : decode cX4_write 63 = .ok (.aaload, 1) := by decide +kernel
theorem dX4_write_64 : decode cX4_write 64 = .ok (.iload_n 2, 1) := by decide +kernel
theorem dX4_write_65 : decode cX4_write 65 = .ok (.iload_n 3, 1) := by decide +kernel
theorem dX4_write_66 : decode cX4_write 66 = .ok (.iastore, 1) := by decide +kernel
theorem dX4_write_67 : decode cX4_write 67 = .ok (.return_, 1) := by decide +kernel
theorem dX4_has_0 : decode cX4_has 0 = .ok (.iload_n 2, 1) := by decide +kernel
theorem dX4_has_1 : decode cX4_has 1 = .ok (.ifCond .lt 33, 3) := by decide +kernel
theorem dX4_has_4 : decode cX4_has 4 = .ok (.iload_n 3, 1) := by decide +kernel
theorem dX4_has_5 : decode cX4_has 5 = .ok (.ifCond .lt 29, 3) := by decide +kernel
theorem dX4_has_8 : decode cX4_has 8 = .ok (.iload_n 2, 1) := by decide +kernel
theorem dX4_has_9 : decode cX4_has 9 = .ok (.aload_n 0, 1) := by decide +kernel
theorem dX4_has_10 : decode cX4_has 10 = .ok (.getfield 13, 3) := by decide +kernel
theorem dX4_has_13 : decode cX4_has 13 = .ok (.iload_n 1, 1) := by decide +kernel
theorem dX4_has_14 : decode cX4_has 14 = .ok (.iaload, 1) := by decide +kernel
theorem dX4_has_15 : decode cX4_has 15 = .ok (.if_icmp .gt 19, 3) := by decide +kernel
theorem dX4_has_18 : decode cX4_has 18 = .ok (.iload_n 3, 1) := by decide +kernel
theorem dX4_has_19 : decode cX4_has 19 = .ok (.aload_n 0, 1) := by decide +kernel
theorem dX4_has_20 : decode cX4_has 20 = .ok (.getfield 13, 3) := by decide +kernel
theorem dX4_has_23 : decode cX4_has 23 = .ok (.iload_n 1, 1) := by decide +kernel
theorem dX4_has_24 : decode cX4_has 24 = .ok (.iaload, 1) := by decide +kernel
theorem dX4_has_25 : decode cX4_has 25 = .ok (.iload_n 2, 1) := by decide +kernel
theorem dX4_has_26 : decode cX4_has 26 = .ok (.isub, 1) := by decide +kernel
theorem dX4_has_27 : decode cX4_has 27 = .ok (.if_icmp .gt 7, 3) := by decide +kernel
theorem dX4_has_30 : decode cX4_has 30 = .ok (.iconst 1, 1) := by decide +kernel
theorem dX4_has_31 : decode cX4_has 31 = .ok (.goto 4, 3) := by decide +kernel
theorem dX4_has_34 : decode cX4_has 34 = .ok (.iconst 0, 1) := by decide +kernel
theorem dX4_has_35 : decode cX4_has 35 = .ok (.ireturn, 1) := by decide +kernel
theorem dX4_hasAbove_0 : decode cX4_hasAbove 0 = .ok (.iconst 0, 1) := by decide +kernel
theorem dX4_hasAbove_1 : decode cX4_hasAbove 1 = .ok (.istore_n 3, 1) := by decide +kernel
theorem dX4_hasAbove_2 : decode cX4_hasAbove 2 = .ok (.iload_n 3, 1) := by decide +kernel
theorem dX4_hasAbove_3 : decode cX4_hasAbove 3 = .ok (.aload_n 0, 1) := by decide +kernel
theorem dX4_hasAbove_4 : decode cX4_hasAbove 4 = .ok (.getfield 13, 3) := by decide +kernel
theorem dX4_hasAbove_7 : decode cX4_hasAbove 7 = .ok (.iload_n 1, 1) := by decide +kernel
theorem dX4_hasAbove_8 : decode cX4_hasAbove 8 = .ok (.iaload, 1) := by decide +kernel
theorem dX4_hasAbove_9 : decode cX4_hasAbove 9 = .ok (.if_icmp .ge 23, 3) := by decide +kernel
theorem dX4_hasAbove_12 : decode cX4_hasAbove 12 = .ok (.aload_n 0, 1) := by decide +kernel
theorem dX4_hasAbove_13 : decode cX4_hasAbove 13 = .ok (.getfield 18, 3) := by decide +kernel
theorem dX4_hasAbove_16 : decode cX4_hasAbove 16 = .ok (.iload_n 1, 1) := by decide +kernel
theorem dX4_hasAbove_17 : decode cX4_hasAbove 17 = .ok (.aaload, 1) := by decide +kernel
theorem dX4_hasAbove_18 : decode cX4_hasAbove 18 = .ok (.iload_n 3, 1) := by decide +kernel
theorem dX4_hasAbove_19 : decode cX4_hasAbove 19 = .ok (.iaload, 1) := by decide +kernel
theorem dX4_hasAbove_20 : decode cX4_hasAbove 20 = .ok (.iload_n 2, 1) := by decide +kernel
theorem dX4_hasAbove_21 : decode cX4_hasAbove 21 = .ok (.if_icmp .le 5, 3) := by decide +kernel
theorem dX4_hasAbove_24 : decode cX4_hasAbove 24 = .ok (.iconst 1, 1) := by decide +kernel
theorem dX4_hasAbove_25 : decode cX4_hasAbove 25 = .ok (.ireturn, 1) := by decide +kernel
theorem dX4_hasAbove_26 : decode cX4_hasAbove 26 = .ok (.iinc 3 1, 3) := by decide +kernel
theorem dX4_hasAbove_29 : decode cX4_hasAbove 29 = .ok (.goto (-27), 3) := by decide +kernel
theorem dX4_hasAbove_32 : decode cX4_hasAbove 32 = .ok (.iconst 0, 1) := by decide +kernel
theorem dX4_hasAbove_33 : decode cX4_hasAbove 33 = .ok (.ireturn, 1) := by decide +kernel
end
section
theorem dX5_init_0 : decode cX5_init 0 = .ok (.aload_n 0, 1) := by decide +kernel
theorem dX5_init_1 : decode cX5_init 1 = .ok (.invokespecial 5, 3) := by decide +kernel
theorem dX5_init_4 : decode cX5_init 4 = .ok (.aload_n 0, 1) := by decide +kernel
theorem dX5_init_5 : decode cX5_init 5 = .ok (.aload_n 1, 1) := by decide +kernel
theorem dX5_init_6 : decode cX5_init 6 = .ok (.putfield 11, 3) := by decide +kernel
theorem dX5_init_9 : decode cX5_init 9 = .ok (.aload_n 0, 1) := by decide +kernel
theorem dX5_init_10 : decode cX5_init 10 = .ok (.aload_n 2, 1) := by decide +kernel
theorem dX5_init_11 : decode cX5_init 11 = .ok (.putfield 15, 3) := by decide +kernel
theorem dX5_init_14 : decode cX5_init 14 = .ok (.aload_n 0, 1) := by decide +kernel
theorem dX5_init_15 : decode cX5_init 15 = .ok (.new 19, 3) := by decide +kernel
theorem dX5_init_18 : decode cX5_init 18 = .ok (.dup, 1) := by decide +kernel
theorem dX5_init_19 : decode cX5_init 19 = .ok (.invokespecial 21, 3) := by decide +kernel
theorem dX5_init_22 : decode cX5_init 22 = .ok (.putfield 22, 3) := by decide +kernel
theorem dX5_init_25 : decode cX5_init 25 = .ok (.aload_n 0, 1) := by decide +kernel
theorem dX5_init_26 : decode cX5_init 26 = .ok (.bipush 12, 2) := by decide +kernel
theorem dX5_init_28 : decode cX5_init 28 = .ok (.sipush 2187, 3) := by decide +kernel
theorem dX5_init_31 : decode cX5_init 31 = .ok (.multianewarray 26 2, 4) := by decide +kernel
theorem dX5_init_35 : decode cX5_init 35 = .ok (.putfield 28, 3) := by decide +kernel
theorem dX5_init_38 : decode cX5_init 38 = .ok (.aload_n 0, 1) := by decide +kernel
theorem dX5_init_39 : decode cX5_init 39 = .ok (.bipush 12, 2) := by decide +kernel
theorem dX5_init_41 : decode cX5_init 41 = .ok (.newarray .boolean, 2) := by decide +kernel
theorem dX5_init_43 : decode cX5_init 43 = .ok (.putfield 31, 3) := by decide +kernel
theorem dX5_init_46 : decode cX5_init 46 = .ok (.aload_n 0, 1) := by decide +kernel
theorem dX5_init_47 : decode cX5_init 47 = .ok (.bipush 12, 2) := by decide +kernel
theorem dX5_init_49 : decode cX5_init 49 = .ok (.sipush 2187, 3) := by decide +kernel
theorem dX5_init_52 : decode cX5_init 52 = .ok (.multianewarray 26 2, 4) := by decide +kernel
theorem dX5_init_56 : decode cX5_init 56 = .ok (.putfield 35, 3) := by decide +kernel
theorem dX5_init_59 : decode cX5_init 59 = .ok (.aload_n 0, 1) := by decide +kernel
theorem dX5_init_60 : decode cX5_init 60 = .ok (.sipush 2187, 3) := by decide +kernel
theorem dX5_init_63 : decode cX5_init 63 = .ok (.newarray .int, 2) := by decide +kernel
theorem dX5_init_65 : decode cX5_init 65 = .ok (.putfield 38, 3) := by decide +kernel
theorem dX5_init_68 : decode cX5_init 68 = .ok (.aload_n 0, 1) := by decide +kernel
theorem dX5_init_69 : decode cX5_init 69 = .ok (.sipush 2187, 3) := by decide +kernel
theorem dX5_init_72 : decode cX5_init 72 = .ok (.newarray .int, 2) := by decide +kernel
theorem dX5_init_74 : decode cX5_init 74 = .ok (.putfield 42, 3) := by decide +kernel
theorem dX5_init_77 : decode cX5_init 77 = .ok (.aload_n 0, 1) := by decide +kernel
theorem dX5_init_78 : decode cX5_init 78 = .ok (.sipush 2187, 3) := by decide +kernel
theorem dX5_init_81 : decode cX5_init 81 = .ok (.newarray .int, 2) := by decide +kernel
theorem dX5_init_83 : decode cX5_init 83 = .ok (.putfield 45, 3) := by decide +kernel
theorem dX5_init_86 : decode cX5_init 86 = .ok (.aload_n 0, 1) := by decide +kernel
theorem dX5_init_87 : decode cX5_init 87 = .ok (.bipush 21, 2) := by decide +kernel
theorem dX5_init_89 : decode cX5_init 89 = .ok (.newarray .int, 2) := by decide +kernel
theorem dX5_init_91 : decode cX5_init 91 = .ok (.putfield 48, 3) := by decide +kernel
theorem dX5_init_94 : decode cX5_init 94 = .ok (.aload_n 0, 1) := by decide +kernel
theorem dX5_init_95 : decode cX5_init 95 = .ok (.bipush 21, 2) := by decide +kernel
theorem dX5_init_97 : decode cX5_init 97 = .ok (.newarray .int, 2) := by decide +kernel
theorem dX5_init_99 : decode cX5_init 99 = .ok (.putfield 51, 3) := by decide +kernel
theorem dX5_init_102 : decode cX5_init 102 = .ok (.aload_n 0, 1) := by decide +kernel
theorem dX5_init_103 : decode cX5_init 103 = .ok (.bipush 12, 2) := by decide +kernel
theorem dX5_init_105 : decode cX5_init 105 = .ok (.newarray .int, 2) := by decide +kernel
theorem dX5_init_107 : decode cX5_init 107 = .ok (.putfield 54, 3) := by decide +kernel
theorem dX5_init_110 : decode cX5_init 110 = .ok (.aload_n 0, 1) := by decide +kernel
theorem dX5_init_111 : decode cX5_init 111 = .ok (.bipush 12, 2) := by decide +kernel
theorem dX5_init_113 : decode cX5_init 113 = .ok (.putfield 57, 3) := by decide +kernel
theorem dX5_init_116 : decode cX5_init 116 = .ok (.aload_n 0, 1) := by decide +kernel
theorem dX5_init_117 : decode cX5_init 117 = .ok (.iconst (-1), 1) := by decide +kernel
theorem dX5_init_118 : decode cX5_init 118 = .ok (.putfield 61, 3) := by decide +kernel
theorem dX5_init_121 : decode cX5_init 121 = .ok (.aload_n 0, 1) := by decide +kernel
theorem dX5_init_122 : decode cX5_init 122 = .ok (.iconst 0, 1) := by decide +kernel
theorem dX5_init_123 : decode cX5_init 123 = .ok (.putfield 64, 3) := by decide +kernel
theorem dX5_init_126 : decode cX5_init 126 = .ok (.aload_n 0, 1) := by decide +kernel
theorem dX5_init_127 : decode cX5_init 127 = .ok (.ldc 68, 2) := by decide +kernel
theorem dX5_init_129 : decode cX5_init 129 = .ok (.putfield 69, 3) := by decide +kernel
theorem dX5_init_132 : decode cX5_init 132 = .ok (.aload_n 0, 1) := by decide +kernel
theorem dX5_init_133 : decode cX5_init 133 = .ok (.iconst 0, 1) := by decide +kernel
theorem dX5_init_134 : decode cX5_init 134 = .ok (.putfield 72, 3) := by decide +kernel
theorem dX5_init_137 : decode cX5_init 137 = .ok (.aload_n 0, 1) := by decide +kernel
theorem dX5_init_138 : decode cX5_init 138 = .ok (.iconst (-1), 1) := by decide +kernel
theorem dX5_init_139 : decode cX5_init 139 = .ok (.putfield 75, 3) := by decide +kernel
theorem dX5_init_142 : decode cX5_init 142 = .ok (.return_, 1) := by decide +kernel
theorem dX5_forgetAll_0 : decode cX5_forgetAll 0 = .ok (.aload_n 0, 1) := by decide +kernel
theorem dX5_forgetAll_1 : decode cX5_forgetAll 1 = .ok (.invokevirtual 78, 3) := by decide +kernel
theorem dX5_forgetAll_4 : decode cX5_forgetAll 4 = .ok (.aload_n 0, 1) := by decide +kernel
theorem dX5_forgetAll_5 : decode cX5_forgetAll 5 = .ok (.invokevirtual 81, 3) := by decide +kernel
theorem dX5_forgetAll_8 : decode cX5_forgetAll 8 = .ok (.return_, 1) := by decide +kernel
theorem dX5_forgetLength_0 : decode cX5_forgetLength 0 = .ok (.aload_n 0, 1) := by decide +kernel
theorem dX5_forgetLength_1 : decode cX5_forgetLength 1 = .ok (.bipush 12, 2) := by decide +kernel
theorem dX5_forgetLength_3 : decode cX5_forgetLength 3 = .ok (.putfield 57, 3) := by decide +kernel
theorem dX5_forgetLength_6 : decode cX5_forgetLength 6 = .ok (.aload_n 0, 1) := by decide +kernel
theorem dX5_forgetLength_7 : decode cX5_forgetLength 7 = .ok (.invokevirtual 84, 3) := by decide +kernel
theorem dX5_forgetLength_10 : decode cX5_forgetLength 10 = .ok (.return_, 1) := by decide +kernel
theorem dX5_forgetStart_0 : decode cX5_forgetStart 0 = .ok (.aload_n 0, 1) := by decide +kernel
theorem dX5_forgetStart_1 : decode cX5_forgetStart 1 = .ok (.iconst (-1), 1) := by decide +kernel
theorem dX5_forgetStart_2 : decode cX5_forgetStart 2 = .ok (.putfield 61, 3) := by decide +kernel
theorem dX5_forgetStart_5 : decode cX5_forgetStart 5 = .ok (.aload_n 0, 1) := by decide +kernel
theorem dX5_forgetStart_6 : decode cX5_forgetStart 6 = .ok (.invokevirtual 84, 3) := by decide +kernel
theorem dX5_forgetStart_9 : decode cX5_forgetStart 9 = .ok (.return_, 1) := by decide +kernel
theorem dX5_forgetBeats_0 : decode cX5_forgetBeats 0 = .ok (.aload_n 0, 1) := by decide +kernel
theorem dX5_forgetBeats_1 : decode cX5_forgetBeats 1 = .ok (.aload_n 0, 1) := by decide +kernel
theorem dX5_forgetBeats_2 : decode cX5_forgetBeats 2 = .ok (.getfield 61, 3) := by decide +kernel
theorem dX5_forgetBeats_5 : decode cX5_forgetBeats 5 = .ok (.iload_n 1, 1) := by decide +kernel
theorem dX5_forgetBeats_6 : decode cX5_forgetBeats 6 = .ok (.invokestatic 87, 3) := by decide +kernel
theorem dX5_forgetBeats_9 : decode cX5_forgetBeats 9 = .ok (.putfield 61, 3) := by decide +kernel
theorem dX5_forgetBeats_12 : decode cX5_forgetBeats 12 = .ok (.iload_n 1, 1) := by decide +kernel
theorem dX5_forgetBeats_13 : decode cX5_forgetBeats 13 = .ok (.aload_n 0, 1) := by decide +kernel
theorem dX5_forgetBeats_14 : decode cX5_forgetBeats 14 = .ok (.getfield 15, 3) := by decide +kernel
theorem dX5_forgetBeats_17 : decode cX5_forgetBeats 17 = .ok (.getfield 93, 3) := by decide +kernel
theorem dX5_forgetBeats_20 : decode cX5_forgetBeats 20 = .ok (.if_icmp .ge 17, 3) := by decide +kernel
theorem dX5_forgetBeats_23 : decode cX5_forgetBeats 23 = .ok (.aload_n 0, 1) := by decide +kernel
theorem dX5_forgetBeats_24 : decode cX5_forgetBeats 24 = .ok (.aload_n 0, 1) := by decide +kernel
theorem dX5_forgetBeats_25 : decode cX5_forgetBeats 25 = .ok (.getfield 57, 3) := by decide +kernel
theorem dX5_forgetBeats_28 : decode cX5_forgetBeats 28 = .ok (.iload_n 2, 1) := by decide +kernel
theorem dX5_forgetBeats_29 : decode cX5_forgetBeats 29 = .ok (.iconst 1, 1) := by decide +kernel
theorem dX5_forgetBeats_30 : decode cX5_forgetBeats 30 = .ok (.iadd, 1) := by decide +kernel
theorem dX5_forgetBeats_31 : decode cX5_forgetBeats 31 = .ok (.invokestatic 98, 3) := by decide +kernel
theorem dX5_forgetBeats_34 : decode cX5_forgetBeats 34 = .ok (.putfield 57, 3) := by decide +kernel
theorem dX5_forgetBeats_37 : decode cX5_forgetBeats 37 = .ok (.aload_n 0, 1) := by decide +kernel
theorem dX5_forgetBeats_38 : decode cX5_forgetBeats 38 = .ok (.invokevirtual 84, 3) := by decide +kernel
theorem dX5_forgetBeats_41 : decode cX5_forgetBeats 41 = .ok (.return_, 1) := by decide +kernel
theorem dX5_forgetAnswers_0 : decode cX5_forgetAnswers 0 = .ok (.aload_n 0, 1) := by decide +kernel
theorem dX5_forgetAnswers_1 : decode cX5_forgetAnswers 1 = .ok (.iconst 0, 1) := by decide +kernel
theorem dX5_forgetAnswers_2 : decode cX5_forgetAnswers 2 = .ok (.putfield 64, 3) := by decide +kernel
theorem dX5_forgetAnswers_5 : decode cX5_forgetAnswers 5 = .ok (.aload_n 0, 1) := by decide +kernel
theorem dX5_forgetAnswers_6 : decode cX5_forgetAnswers 6 = .ok (.iconst 0, 1) := by decide +kernel
theorem dX5_forgetAnswers_7 : decode cX5_forgetAnswers 7 = .ok (.putfield 72, 3) := by decide +kernel
theorem dX5_forgetAnswers_10 : decode cX5_forgetAnswers 10 = .ok (.return_, 1) := by decide +kernel
theorem dX5_exists_0 : decode cX5_exists 0 = .ok (.aload_n 0, 1) := by decide +kernel
theorem dX5_exists_1 : decode cX5_exists 1 = .ok (.getfield 64, 3) := by decide +kernel
theorem dX5_exists_4 : decode cX5_exists 4 = .ok (.ifCond .ne 115, 3) := by decide +kernel
theorem dX5_exists_7 : decode cX5_exists 7 = .ok (.aload_n 0, 1) := by decide +kernel
theorem dX5_exists_8 : decode cX5_exists 8 = .ok (.getfield 57, 3) := by decide +kernel
theorem dX5_exists_11 : decode cX5_exists 11 = .ok (.aload_n 0, 1) := by decide +kernel
theorem dX5_exists_12 : decode cX5_exists 12 = .ok (.getfield 15, 3) := by decide +kernel
theorem dX5_exists_15 : decode cX5_exists 15 = .ok (.getfield 93, 3) := by decide +kernel
theorem dX5_exists_18 : decode cX5_exists 18 = .ok (.invokestatic 87, 3) := by decide +kernel
theorem dX5_exists_21 : decode cX5_exists 21 = .ok (.iconst 1, 1) := by decide +kernel
theorem dX5_exists_22 : decode cX5_exists 22 = .ok (.isub, 1) := by decide +kernel
theorem dX5_exists_23 : decode cX5_exists 23 = .ok (.istore_n 1, 1) := by decide +kernel
theorem dX5_exists_24 : decode cX5_exists 24 = .ok (.iload_n 1, 1) := by decide +kernel
theorem dX5_exists_25 : decode cX5_exists 25 = .ok (.ifCond .lt 47, 3) := by decide +kernel
theorem dX5_exists_28 : decode cX5_exists 28 = .ok (.aload_n 0, 1) := by decide +kernel
theorem dX5_exists_29 : decode cX5_exists 29 = .ok (.getfield 22, 3) := by decide +kernel
theorem dX5_exists_32 : decode cX5_exists 32 = .ok (.aload_n 0, 1) := by decide +kernel
theorem dX5_exists_33 : decode cX5_exists 33 = .ok (.getfield 15, 3) := by decide +kernel
theorem dX5_exists_36 : decode cX5_exists 36 = .ok (.iload_n 1, 1) := by decide +kernel
theorem dX5_exists_37 : decode cX5_exists 37 = .ok (.invokevirtual 101, 3) := by decide +kernel
theorem dX5_exists_40 : decode cX5_exists 40 = .ok (.aload_n 0, 1) := by decide +kernel
theorem dX5_exists_41 : decode cX5_exists 41 = .ok (.iload_n 1, 1) := by decide +kernel
theorem dX5_exists_42 : decode cX5_exists 42 = .ok (.aload_n 0, 1) := by decide +kernel
theorem dX5_exists_43 : decode cX5_exists 43 = .ok (.getfield 28, 3) := by decide +kernel
theorem dX5_exists_46 : decode cX5_exists 46 = .ok (.iload_n 1, 1) := by decide +kernel
theorem dX5_exists_47 : decode cX5_exists 47 = .ok (.aaload, 1) := by decide +kernel
theorem dX5_exists_48 : decode cX5_exists 48 = .ok (.invokevirtual 105, 3) := by decide +kernel
theorem dX5_exists_51 : decode cX5_exists 51 = .ok (.aload_n 0, 1) := by decide +kernel
theorem dX5_exists_52 : decode cX5_exists 52 = .ok (.getfield 31, 3) := by decide +kernel
theorem dX5_exists_55 : decode cX5_exists 55 = .ok (.iload_n 1, 1) := by decide +kernel
theorem dX5_exists_56 : decode cX5_exists 56 = .ok (.aload_n 0, 1) := by decide +kernel
theorem dX5_exists_57 : decode cX5_exists 57 = .ok (.getfield 28, 3) := by decide +kernel
theorem dX5_exists_60 : decode cX5_exists 60 = .ok (.iload_n 1, 1) := by decide +kernel
theorem dX5_exists_61 : decode cX5_exists 61 = .ok (.aaload, 1) := by decide +kernel
theorem dX5_exists_62 : decode cX5_exists 62 = .ok (.invokestatic 109, 3) := by decide +kernel
theorem dX5_exists_65 : decode cX5_exists 65 = .ok (.bastore, 1) := by decide +kernel
theorem dX5_exists_66 : decode cX5_exists 66 = .ok (.iinc 1 (-1), 3) := by decide +kernel
theorem dX5_exists_69 : decode cX5_exists 69 = .ok (.goto (-45), 3) := by decide +kernel
theorem dX5_exists_72 : decode cX5_exists 72 = .ok (.aload_n 0, 1) := by decide +kernel
theorem dX5_exists_73 : decode cX5_exists 73 = .ok (.iconst 0, 1) := by decide +kernel
theorem dX5_exists_74 : decode cX5_exists 74 = .ok (.putfield 57, 3) := by decide +kernel
theorem dX5_exists_77 : decode cX5_exists 77 = .ok (.aload_n 0, 1) := by decide +kernel
theorem dX5_exists_78 : decode cX5_exists 78 = .ok (.iconst 0, 1) := by decide +kernel
theorem dX5_exists_79 : decode cX5_exists 79 = .ok (.invokevirtual 113, 3) := by decide +kernel
theorem dX5_exists_82 : decode cX5_exists 82 = .ok (.aload_n 0, 1) := by decide +kernel
theorem dX5_exists_83 : decode cX5_exists 83 = .ok (.aload_n 0, 1) := by decide +kernel
theorem dX5_exists_84 : decode cX5_exists 84 = .ok (.getfield 35, 3) := by decide +kernel
theorem dX5_exists_87 : decode cX5_exists 87 = .ok (.iconst 0, 1) := by decide +kernel
theorem dX5_exists_88 : decode cX5_exists 88 = .ok (.aaload, 1) := by decide +kernel
theorem dX5_exists_89 : decode cX5_exists 89 = .ok (.aload_n 0, 1) := by decide +kernel
theorem dX5_exists_90 : decode cX5_exists 90 = .ok (.getfield 28, 3) := by decide +kernel
theorem dX5_exists_93 : decode cX5_exists 93 = .ok (.iconst 0, 1) := by decide +kernel
theorem dX5_exists_94 : decode cX5_exists 94 = .ok (.aaload, 1) := by decide +kernel
theorem dX5_exists_95 : decode cX5_exists 95 = .ok (.invokestatic 117, 3) := by decide +kernel
theorem dX5_exists_98 : decode cX5_exists 98 = .ok (.putfield 69, 3) := by decide +kernel
theorem dX5_exists_101 : decode cX5_exists 101 = .ok (.aload_n 0, 1) := by decide +kernel
theorem dX5_exists_102 : decode cX5_exists 102 = .ok (.getfield 69, 3) := by decide +kernel
theorem dX5_exists_105 : decode cX5_exists 105 = .ok (.ldc 68, 2) := by decide +kernel
theorem dX5_exists_107 : decode cX5_exists 107 = .ok (.if_icmp .ge 7, 3) := by decide +kernel
theorem dX5_exists_110 : decode cX5_exists 110 = .ok (.aload_n 0, 1) := by decide +kernel
theorem dX5_exists_111 : decode cX5_exists 111 = .ok (.invokevirtual 121, 3) := by decide +kernel
theorem dX5_exists_114 : decode cX5_exists 114 = .ok (.aload_n 0, 1) := by decide +kernel
theorem dX5_exists_115 : decode cX5_exists 115 = .ok (.iconst 1, 1) := by decide +kernel
theorem dX5_exists_116 : decode cX5_exists 116 = .ok (.putfield 64, 3) := by decide +kernel
theorem dX5_exists_119 : decode cX5_exists 119 = .ok (.aload_n 0, 1) := by decide +kernel
theorem dX5_exists_120 : decode cX5_exists 120 = .ok (.getfield 69, 3) := by decide +kernel
theorem dX5_exists_123 : decode cX5_exists 123 = .ok (.ldc 68, 2) := by decide +kernel
theorem dX5_exists_125 : decode cX5_exists 125 = .ok (.if_icmp .ge 7, 3) := by decide +kernel
theorem dX5_exists_128 : decode cX5_exists 128 = .ok (.iconst 1, 1) := by decide +kernel
theorem dX5_exists_129 : decode cX5_exists 129 = .ok (.goto 4, 3) := by decide +kernel
theorem dX5_exists_132 : decode cX5_exists 132 = .ok (.iconst 0, 1) := by decide +kernel
theorem dX5_exists_133 : decode cX5_exists 133 = .ok (.ireturn, 1) := by decide +kernel
theorem dX5_cost_0 : decode cX5_cost 0 = .ok (.aload_n 0, 1) := by decide +kernel
theorem dX5_cost_1 : decode cX5_cost 1 = .ok (.getfield 69, 3) := by decide +kernel
theorem dX5_cost_4 : decode cX5_cost 4 = .ok (.bipush 20, 2) := by decide +kernel
theorem dX5_cost_6 : decode cX5_cost 6 = .ok (.ishr, 1) := by decide +kernel
theorem dX5_cost_7 : decode cX5_cost 7 = .ok (.ireturn, 1) := by decide +kernel
theorem dX5_count_0 : decode cX5_count 0 = .ok (.aload_n 0, 1) := by decide +kernel
theorem dX5_count_1 : decode cX5_count 1 = .ok (.getfield 69, 3) := by decide +kernel
theorem dX5_count_4 : decode cX5_count 4 = .ok (.ldc 124, 2) := by decide +kernel
theorem dX5_count_6 : decode cX5_count 6 = .ok (.iand, 1) := by decide +kernel
theorem dX5_count_7 : decode cX5_count 7 = .ok (.ireturn, 1) := by decide +kernel
theorem dX5_movedTo_0 : decode cX5_movedTo 0 = .ok (.aload_n 0, 1) := by decide +kernel
theorem dX5_movedTo_1 : decode cX5_movedTo 1 = .ok (.getfield 11, 3) := by decide +kernel
theorem dX5_movedTo_4 : decode cX5_movedTo 4 = .ok (.getfield 125, 3) := by decide +kernel
theorem dX5_movedTo_7 : decode cX5_movedTo 7 = .ok (.aload_n 0, 1) := by decide +kernel
theorem dX5_movedTo_8 : decode cX5_movedTo 8 = .ok (.getfield 54, 3) := by decide +kernel
theorem dX5_movedTo_11 : decode cX5_movedTo 11 = .ok (.iload_n 1, 1) := by decide +kernel
theorem dX5_movedTo_12 : decode cX5_movedTo 12 = .ok (.iaload, 1) := by decide +kernel
theorem dX5_movedTo_13 : decode cX5_movedTo 13 = .ok (.iaload, 1) := by decide +kernel
theorem dX5_movedTo_14 : decode cX5_movedTo 14 = .ok (.istore_n 3, 1) := by decide +kernel
theorem dX5_movedTo_15 : decode cX5_movedTo 15 = .ok (.iload_n 1, 1) := by decide +kernel
theorem dX5_movedTo_16 : decode cX5_movedTo 16 = .ok (.ifCond .le 24, 3) := by decide +kernel
theorem dX5_movedTo_19 : decode cX5_movedTo 19 = .ok (.iload_n 3, 1) := by decide +kernel
theorem dX5_movedTo_20 : decode cX5_movedTo 20 = .ok (.aload_n 0, 1) := by decide +kernel
theorem dX5_movedTo_21 : decode cX5_movedTo 21 = .ok (.getfield 11, 3) := by decide +kernel
theorem dX5_movedTo_24 : decode cX5_movedTo 24 = .ok (.getfield 125, 3) := by decide +kernel
theorem dX5_movedTo_27 : decode cX5_movedTo 27 = .ok (.aload_n 0, 1) := by decide +kernel
theorem dX5_movedTo_28 : decode cX5_movedTo 28 = .ok (.getfield 54, 3) := by decide +kernel
theorem dX5_movedTo_31 : decode cX5_movedTo 31 = .ok (.iload_n 1, 1) := by decide +kernel
theorem dX5_movedTo_32 : decode cX5_movedTo 32 = .ok (.iconst 1, 1) := by decide +kernel
theorem dX5_movedTo_33 : decode cX5_movedTo 33 = .ok (.isub, 1) := by decide +kernel
theorem dX5_movedTo_34 : decode cX5_movedTo 34 = .ok (.iaload, 1) := by decide +kernel
theorem dX5_movedTo_35 : decode cX5_movedTo 35 = .ok (.iaload, 1) := by decide +kernel
theorem dX5_movedTo_36 : decode cX5_movedTo 36 = .ok (.ixor, 1) := by decide +kernel
theorem dX5_movedTo_37 : decode cX5_movedTo 37 = .ok (.goto 8, 3) := by decide +kernel
theorem dX5_movedTo_40 : decode cX5_movedTo 40 = .ok (.aload_n 0, 1) := by decide +kernel
theorem dX5_movedTo_41 : decode cX5_movedTo 41 = .ok (.iload_n 3, 1) := by decide +kernel
theorem dX5_movedTo_42 : decode cX5_movedTo 42 = .ok (.invokevirtual 130, 3) := by decide +kernel
theorem dX5_movedTo_45 : decode cX5_movedTo 45 = .ok (.istore 4, 2) := by decide +kernel
theorem dX5_movedTo_47 : decode cX5_movedTo 47 = .ok (.iconst 0, 1) := by decide +kernel
theorem dX5_movedTo_48 : decode cX5_movedTo 48 = .ok (.istore 5, 2) := by decide +kernel
theorem dX5_movedTo_50 : decode cX5_movedTo 50 = .ok (.iload 5, 2) := by decide +kernel
theorem dX5_movedTo_52 : decode cX5_movedTo 52 = .ok (.bipush 7, 2) := by decide +kernel
theorem dX5_movedTo_54 : decode cX5_movedTo 54 = .ok (.if_icmp .ge 31, 3) := by decide +kernel
theorem dX5_movedTo_57 : decode cX5_movedTo 57 = .ok (.iload_n 2, 1) := by decide +kernel
theorem dX5_movedTo_58 : decode cX5_movedTo 58 = .ok (.iload 5, 2) := by decide +kernel
theorem dX5_movedTo_60 : decode cX5_movedTo 60 = .ok (.ishr, 1) := by decide +kernel
theorem dX5_movedTo_61 : decode cX5_movedTo 61 = .ok (.iconst 1, 1) := by decide +kernel
theorem dX5_movedTo_62 : decode cX5_movedTo 62 = .ok (.iand, 1) := by decide +kernel
theorem dX5_movedTo_63 : decode cX5_movedTo 63 = .ok (.ifCond .eq 16, 3) := by decide +kernel
theorem dX5_movedTo_66 : decode cX5_movedTo 66 = .ok (.iload 4, 2) := by decide +kernel
theorem dX5_movedTo_68 : decode cX5_movedTo 68 = .ok (.iload 5, 2) := by decide +kernel
theorem dX5_movedTo_70 : decode cX5_movedTo 70 = .ok (.invokestatic 134, 3) := by decide +kernel
theorem dX5_movedTo_73 : decode cX5_movedTo 73 = .ok (.ifCond .eq 6, 3) := by decide +kernel
theorem dX5_movedTo_76 : decode cX5_movedTo 76 = .ok (.iload 5, 2) := by decide +kernel
theorem dX5_movedTo_78 : decode cX5_movedTo 78 = .ok (.ireturn, 1) := by decide +kernel
theorem dX5_movedTo_79 : decode cX5_movedTo 79 = .ok (.iinc 5 1, 3) := by decide +kernel
theorem dX5_movedTo_82 : decode cX5_movedTo 82 = .ok (.goto (-32), 3) := by decide +kernel
theorem dX5_movedTo_85 : decode cX5_movedTo 85 = .ok (.iconst (-1), 1) := by decide +kernel
theorem dX5_movedTo_86 : decode cX5_movedTo 86 = .ok (.ireturn, 1) := by decide +kernel
theorem dX5_stuckBeat_0 : decode cX5_stuckBeat 0 = .ok (.aload_n 0, 1) := by decide +kernel
theorem dX5_stuckBeat_1 : decode cX5_stuckBeat 1 = .ok (.getfield 72, 3) := by decide +kernel
theorem dX5_stuckBeat_4 : decode cX5_stuckBeat 4 = .ok (.ifCond .ne 66, 3) := by decide +kernel
theorem dX5_stuckBeat_7 : decode cX5_stuckBeat 7 = .ok (.aload_n 0, 1) := by decide +kernel
theorem dX5_stuckBeat_8 : decode cX5_stuckBeat 8 = .ok (.iconst 0, 1) := by decide +kernel
theorem dX5_stuckBeat_9 : decode cX5_stuckBeat 9 = .ok (.putfield 75, 3) := by decide +kernel
theorem dX5_stuckBeat_12 : decode cX5_stuckBeat 12 = .ok (.aload_n 0, 1) := by decide +kernel
theorem dX5_stuckBeat_13 : decode cX5_stuckBeat 13 = .ok (.iconst 0, 1) := by decide +kernel
theorem dX5_stuckBeat_14 : decode cX5_stuckBeat 14 = .ok (.invokevirtual 113, 3) := by decide +kernel
theorem dX5_stuckBeat_17 : decode cX5_stuckBeat 17 = .ok (.aload_n 0, 1) := by decide +kernel
theorem dX5_stuckBeat_18 : decode cX5_stuckBeat 18 = .ok (.getfield 75, 3) := by decide +kernel
theorem dX5_stuckBeat_21 : decode cX5_stuckBeat 21 = .ok (.aload_n 0, 1) := by decide +kernel
theorem dX5_stuckBeat_22 : decode cX5_stuckBeat 22 = .ok (.getfield 15, 3) := by decide +kernel
theorem dX5_stuckBeat_25 : decode cX5_stuckBeat 25 = .ok (.getfield 93, 3) := by decide +kernel
theorem dX5_stuckBeat_28 : decode cX5_stuckBeat 28 = .ok (.iconst 1, 1) := by decide +kernel
theorem dX5_stuckBeat_29 : decode cX5_stuckBeat 29 = .ok (.isub, 1) := by decide +kernel
theorem dX5_stuckBeat_30 : decode cX5_stuckBeat 30 = .ok (.if_icmp .ge 35, 3) := by decide +kernel
theorem dX5_stuckBeat_33 : decode cX5_stuckBeat 33 = .ok (.aload_n 0, 1) := by decide +kernel
theorem dX5_stuckBeat_34 : decode cX5_stuckBeat 34 = .ok (.aload_n 0, 1) := by decide +kernel
theorem dX5_stuckBeat_35 : decode cX5_stuckBeat 35 = .ok (.getfield 75, 3) := by decide +kernel
theorem dX5_stuckBeat_38 : decode cX5_stuckBeat 38 = .ok (.invokevirtual 137, 3) := by decide +kernel
theorem dX5_stuckBeat_41 : decode cX5_stuckBeat 41 = .ok (.ifCond .eq 24, 3) := by decide +kernel
theorem dX5_stuckBeat_44 : decode cX5_stuckBeat 44 = .ok (.aload_n 0, 1) := by decide +kernel
theorem dX5_stuckBeat_45 : decode cX5_stuckBeat 45 = .ok (.dup, 1) := by decide +kernel
theorem dX5_stuckBeat_46 : decode cX5_stuckBeat 46 = .ok (.getfield 75, 3) := by decide +kernel
theorem dX5_stuckBeat_49 : decode cX5_stuckBeat 49 = .ok (.iconst 1, 1) := by decide +kernel
theorem dX5_stuckBeat_50 : decode cX5_stuckBeat 50 = .ok (.iadd, 1) := by decide +kernel
theorem dX5_stuckBeat_51 : decode cX5_stuckBeat 51 = .ok (.putfield 75, 3) := by decide +kernel
theorem dX5_stuckBeat_54 : decode cX5_stuckBeat 54 = .ok (.aload_n 0, 1) := by decide +kernel
theorem dX5_stuckBeat_55 : decode cX5_stuckBeat 55 = .ok (.aload_n 0, 1) := by decide +kernel
theorem dX5_stuckBeat_56 : decode cX5_stuckBeat 56 = .ok (.getfield 75, 3) := by decide +kernel
theorem dX5_stuckBeat_59 : decode cX5_stuckBeat 59 = .ok (.invokevirtual 113, 3) := by decide +kernel
theorem dX5_stuckBeat_62 : decode cX5_stuckBeat 62 = .ok (.goto (-45), 3) := by decide +kernel
theorem dX5_stuckBeat_65 : decode cX5_stuckBeat 65 = .ok (.aload_n 0, 1) := by decide +kernel
theorem dX5_stuckBeat_66 : decode cX5_stuckBeat 66 = .ok (.iconst 1, 1) := by decide +kernel
theorem dX5_stuckBeat_67 : decode cX5_stuckBeat 67 = .ok (.putfield 72, 3) := by decide +kernel
theorem dX5_stuckBeat_70 : decode cX5_stuckBeat 70 = .ok (.aload_n 0, 1) := by decide +kernel
theorem dX5_stuckBeat_71 : decode cX5_stuckBeat 71 = .ok (.getfield 75, 3) := by decide +kernel
theorem dX5_stuckBeat_74 : decode cX5_stuckBeat 74 = .ok (.ireturn, 1) := by decide +kernel
theorem dX5_canStandAt_0 : decode cX5_canStandAt 0 = .ok (.aload_n 0, 1) := by decide +kernel
theorem dX5_canStandAt_1 : decode cX5_canStandAt 1 = .ok (.getfield 22, 3) := by decide +kernel
theorem dX5_canStandAt_4 : decode cX5_canStandAt 4 = .ok (.aload_n 0, 1) := by decide +kernel
theorem dX5_canStandAt_5 : decode cX5_canStandAt 5 = .ok (.getfield 15, 3) := by decide +kernel
theorem dX5_canStandAt_8 : decode cX5_canStandAt 8 = .ok (.iload_n 1, 1) := by decide +kernel
theorem dX5_canStandAt_9 : decode cX5_canStandAt 9 = .ok (.invokevirtual 101, 3) := by decide +kernel
theorem dX5_canStandAt_12 : decode cX5_canStandAt 12 = .ok (.iconst 0, 1) := by decide +kernel
theorem dX5_canStandAt_13 : decode cX5_canStandAt 13 = .ok (.istore_n 2, 1) := by decide +kernel
theorem dX5_canStandAt_14 : decode cX5_canStandAt 14 = .ok (.iload_n 2, 1) := by decide +kernel
theorem dX5_canStandAt_15 : decode cX5_canStandAt 15 = .ok (.sipush 2187, 3) := by decide +kernel
theorem dX5_canStandAt_18 : decode cX5_canStandAt 18 = .ok (.if_icmp .ge 43, 3) := by decide +kernel
theorem dX5_canStandAt_21 : decode cX5_canStandAt 21 = .ok (.aload_n 0, 1) := by decide +kernel
theorem dX5_canStandAt_22 : decode cX5_canStandAt 22 = .ok (.getfield 35, 3) := by decide +kernel
theorem dX5_canStandAt_25 : decode cX5_canStandAt 25 = .ok (.iload_n 1, 1) := by decide +kernel
theorem dX5_canStandAt_26 : decode cX5_canStandAt 26 = .ok (.aaload, 1) := by decide +kernel
theorem dX5_canStandAt_27 : decode cX5_canStandAt 27 = .ok (.iload_n 2, 1) := by decide +kernel
theorem dX5_canStandAt_28 : decode cX5_canStandAt 28 = .ok (.iaload, 1) := by decide +kernel
theorem dX5_canStandAt_29 : decode cX5_canStandAt 29 = .ok (.ldc 68, 2) := by decide +kernel
theorem dX5_canStandAt_31 : decode cX5_canStandAt 31 = .ok (.if_icmp .ge 24, 3) := by decide +kernel
theorem dX5_canStandAt_34 : decode cX5_canStandAt 34 = .ok (.aload_n 0, 1) := by decide +kernel
theorem dX5_canStandAt_35 : decode cX5_canStandAt 35 = .ok (.getfield 22, 3) := by decide +kernel
theorem dX5_canStandAt_38 : decode cX5_canStandAt 38 = .ok (.aload_n 0, 1) := by decide +kernel
theorem dX5_canStandAt_39 : decode cX5_canStandAt 39 = .ok (.getfield 11, 3) := by decide +kernel
theorem dX5_canStandAt_42 : decode cX5_canStandAt 42 = .ok (.getfield 125, 3) := by decide +kernel
theorem dX5_canStandAt_45 : decode cX5_canStandAt 45 = .ok (.iload_n 2, 1) := by decide +kernel
theorem dX5_canStandAt_46 : decode cX5_canStandAt 46 = .ok (.iaload, 1) := by decide +kernel
theorem dX5_canStandAt_47 : decode cX5_canStandAt 47 = .ok (.invokevirtual 141, 3) := by decide +kernel
theorem dX5_canStandAt_50 : decode cX5_canStandAt 50 = .ok (.ifCond .lt 5, 3) := by decide +kernel
theorem dX5_canStandAt_53 : decode cX5_canStandAt 53 = .ok (.iconst 1, 1) := by decide +kernel
theorem dX5_canStandAt_54 : decode cX5_canStandAt 54 = .ok (.ireturn, 1) := by decide +kernel
theorem dX5_canStandAt_55 : decode cX5_canStandAt 55 = .ok (.iinc 2 1, 3) := by decide +kernel
theorem dX5_canStandAt_58 : decode cX5_canStandAt 58 = .ok (.goto (-44), 3) := by decide +kernel
theorem dX5_canStandAt_61 : decode cX5_canStandAt 61 = .ok (.iconst 0, 1) := by decide +kernel
theorem dX5_canStandAt_62 : decode cX5_canStandAt 62 = .ok (.ireturn, 1) := by decide +kernel
theorem dX5_sparedWithout_0 : decode cX5_sparedWithout 0 = .ok (.iload_n 1, 1) := by decide +kernel
theorem dX5_sparedWithout_1 : decode cX5_sparedWithout 1 = .ok (.aload_n 0, 1) := by decide +kernel
theorem dX5_sparedWithout_2 : decode cX5_sparedWithout 2 = .ok (.getfield 15, 3) := by decide +kernel
theorem dX5_sparedWithout_5 : decode cX5_sparedWithout 5 = .ok (.getfield 93, 3) := by decide +kernel
theorem dX5_sparedWithout_8 : decode cX5_sparedWithout 8 = .ok (.if_icmp .lt 5, 3) := by decide +kernel
theorem dX5_sparedWithout_11 : decode cX5_sparedWithout 11 = .ok (.iconst 0, 1) := by decide +kernel
theorem dX5_sparedWithout_12 : decode cX5_sparedWithout 12 = .ok (.ireturn, 1) := by decide +kernel
theorem dX5_sparedWithout_13 : decode cX5_sparedWithout 13 = .ok (.aload_n 0, 1) := by decide +kernel
theorem dX5_sparedWithout_14 : decode cX5_sparedWithout 14 = .ok (.iload_n 1, 1) := by decide +kernel
theorem dX5_sparedWithout_15 : decode cX5_sparedWithout 15 = .ok (.invokevirtual 113, 3) := by decide +kernel
theorem dX5_sparedWithout_18 : decode cX5_sparedWithout 18 = .ok (.aload_n 0, 1) := by decide +kernel
theorem dX5_sparedWithout_19 : decode cX5_sparedWithout 19 = .ok (.getfield 22, 3) := by decide +kernel
theorem dX5_sparedWithout_22 : decode cX5_sparedWithout 22 = .ok (.aload_n 0, 1) := by decide +kernel
theorem dX5_sparedWithout_23 : decode cX5_sparedWithout 23 = .ok (.getfield 15, 3) := by decide +kernel
theorem dX5_sparedWithout_26 : decode cX5_sparedWithout 26 = .ok (.iload_n 1, 1) := by decide +kernel
theorem dX5_sparedWithout_27 : decode cX5_sparedWithout 27 = .ok (.invokevirtual 101, 3) := by decide +kernel
theorem dX5_sparedWithout_30 : decode cX5_sparedWithout 30 = .ok (.aload_n 0, 1) := by decide +kernel
theorem dX5_sparedWithout_31 : decode cX5_sparedWithout 31 = .ok (.getfield 22, 3) := by decide +kernel
theorem dX5_sparedWithout_34 : decode cX5_sparedWithout 34 = .ok (.iload_n 2, 1) := by decide +kernel
theorem dX5_sparedWithout_35 : decode cX5_sparedWithout 35 = .ok (.invokevirtual 144, 3) := by decide +kernel
theorem dX5_sparedWithout_38 : decode cX5_sparedWithout 38 = .ok (.aload_n 0, 1) := by decide +kernel
theorem dX5_sparedWithout_39 : decode cX5_sparedWithout 39 = .ok (.iload_n 1, 1) := by decide +kernel
theorem dX5_sparedWithout_40 : decode cX5_sparedWithout 40 = .ok (.aload_n 0, 1) := by decide +kernel
theorem dX5_sparedWithout_41 : decode cX5_sparedWithout 41 = .ok (.getfield 38, 3) := by decide +kernel
theorem dX5_sparedWithout_44 : decode cX5_sparedWithout 44 = .ok (.invokevirtual 105, 3) := by decide +kernel
theorem dX5_sparedWithout_47 : decode cX5_sparedWithout 47 = .ok (.aload_n 0, 1) := by decide +kernel
theorem dX5_sparedWithout_48 : decode cX5_sparedWithout 48 = .ok (.invokevirtual 147, 3) := by decide +kernel
theorem dX5_sparedWithout_51 : decode cX5_sparedWithout 51 = .ok (.aload_n 0, 1) := by decide +kernel
theorem dX5_sparedWithout_52 : decode cX5_sparedWithout 52 = .ok (.getfield 35, 3) := by decide +kernel
theorem dX5_sparedWithout_55 : decode cX5_sparedWithout 55 = .ok (.iload_n 1, 1) := by decide +kernel
theorem dX5_sparedWithout_56 : decode cX5_sparedWithout 56 = .ok (.aaload, 1) := by decide +kernel
theorem dX5_sparedWithout_57 : decode cX5_sparedWithout 57 = .ok (.aload_n 0, 1) := by decide +kernel
theorem dX5_sparedWithout_58 : decode cX5_sparedWithout 58 = .ok (.getfield 38, 3) := by decide +kernel
theorem dX5_sparedWithout_61 : decode cX5_sparedWithout 61 = .ok (.invokestatic 117, 3) := by decide +kernel
theorem dX5_sparedWithout_64 : decode cX5_sparedWithout 64 = .ok (.bipush 20, 2) := by decide +kernel
theorem dX5_sparedWithout_66 : decode cX5_sparedWithout 66 = .ok (.ishr, 1) := by decide +kernel
theorem dX5_sparedWithout_67 : decode cX5_sparedWithout 67 = .ok (.isub, 1) := by decide +kernel
theorem dX5_sparedWithout_68 : decode cX5_sparedWithout 68 = .ok (.ireturn, 1) := by decide +kernel
theorem dX5_bestOf_0 : decode cX5_bestOf 0 = .ok (.ldc 68, 2) := by decide +kernel
theorem dX5_bestOf_2 : decode cX5_bestOf 2 = .ok (.istore_n 2, 1) := by decide +kernel
theorem dX5_bestOf_3 : decode cX5_bestOf 3 = .ok (.iconst 0, 1) := by decide +kernel
theorem dX5_bestOf_4 : decode cX5_bestOf 4 = .ok (.istore_n 3, 1) := by decide +kernel
theorem dX5_bestOf_5 : decode cX5_bestOf 5 = .ok (.iload_n 3, 1) := by decide +kernel
theorem dX5_bestOf_6 : decode cX5_bestOf 6 = .ok (.sipush 2187, 3) := by decide +kernel
theorem dX5_bestOf_9 : decode cX5_bestOf 9 = .ok (.if_icmp .ge 21, 3) := by decide +kernel
theorem dX5_bestOf_12 : decode cX5_bestOf 12 = .ok (.iload_n 2, 1) := by decide +kernel
theorem dX5_bestOf_13 : decode cX5_bestOf 13 = .ok (.aload_n 0, 1) := by decide +kernel
theorem dX5_bestOf_14 : decode cX5_bestOf 14 = .ok (.iload_n 3, 1) := by decide +kernel
theorem dX5_bestOf_15 : decode cX5_bestOf 15 = .ok (.iaload, 1) := by decide +kernel
theorem dX5_bestOf_16 : decode cX5_bestOf 16 = .ok (.aload_n 1, 1) := by decide +kernel
theorem dX5_bestOf_17 : decode cX5_bestOf 17 = .ok (.iload_n 3, 1) := by decide +kernel
theorem dX5_bestOf_18 : decode cX5_bestOf 18 = .ok (.iaload, 1) := by decide +kernel
theorem dX5_bestOf_19 : decode cX5_bestOf 19 = .ok (.iadd, 1) := by decide +kernel
theorem dX5_bestOf_20 : decode cX5_bestOf 20 = .ok (.invokestatic 151, 3) := by decide +kernel
theorem dX5_bestOf_23 : decode cX5_bestOf 23 = .ok (.istore_n 2, 1) := by decide +kernel
theorem dX5_bestOf_24 : decode cX5_bestOf 24 = .ok (.iinc 3 1, 3) := by decide +kernel
theorem dX5_bestOf_27 : decode cX5_bestOf 27 = .ok (.goto (-22), 3) := by decide +kernel
theorem dX5_bestOf_30 : decode cX5_bestOf 30 = .ok (.iload_n 2, 1) := by decide +kernel
theorem dX5_bestOf_31 : decode cX5_bestOf 31 = .ok (.ireturn, 1) := by decide +kernel
theorem dX5_better_0 : decode cX5_better 0 = .ok (.iload_n 0, 1) := by decide +kernel
theorem dX5_better_1 : decode cX5_better 1 = .ok (.iload_n 1, 1) := by decide +kernel
theorem dX5_better_2 : decode cX5_better 2 = .ok (.ixor, 1) := by decide +kernel
theorem dX5_better_3 : decode cX5_better 3 = .ok (.ldc 154, 2) := by decide +kernel
theorem dX5_better_5 : decode cX5_better 5 = .ok (.if_icmp .ge 7, 3) := by decide +kernel
theorem dX5_better_8 : decode cX5_better 8 = .ok (.iconst 1, 1) := by decide +kernel
theorem dX5_better_9 : decode cX5_better 9 = .ok (.goto 4, 3) := by decide +kernel
theorem dX5_better_12 : decode cX5_better 12 = .ok (.iconst 0, 1) := by decide +kernel
theorem dX5_better_13 : decode cX5_better 13 = .ok (.istore_n 2, 1) := by decide +kernel
theorem dX5_better_14 : decode cX5_better 14 = .ok (.iload_n 2, 1) := by decide +kernel
theorem dX5_better_15 : decode cX5_better 15 = .ok (.ifCond .ne 14, 3) := by decide +kernel
theorem dX5_better_18 : decode cX5_better 18 = .ok (.iload_n 0, 1) := by decide +kernel
theorem dX5_better_19 : decode cX5_better 19 = .ok (.iload_n 1, 1) := by decide +kernel
theorem dX5_better_20 : decode cX5_better 20 = .ok (.if_icmp .ge 7, 3) := by decide +kernel
theorem dX5_better_23 : decode cX5_better 23 = .ok (.iload_n 0, 1) := by decide +kernel
theorem dX5_better_24 : decode cX5_better 24 = .ok (.goto 4, 3) := by decide +kernel
theorem dX5_better_27 : decode cX5_better 27 = .ok (.iload_n 1, 1) := by decide +kernel
theorem dX5_better_28 : decode cX5_better 28 = .ok (.ireturn, 1) := by decide +kernel
theorem dX5_better_29 : decode cX5_better 29 = .ok (.iload_n 0, 1) := by decide +kernel
theorem dX5_better_30 : decode cX5_better 30 = .ok (.ldc 124, 2) := by decide +kernel
theorem dX5_better_32 : decode cX5_better 32 = .ok (.iand, 1) := by decide +kernel
theorem dX5_better_33 : decode cX5_better 33 = .ok (.iload_n 1, 1) := by decide +kernel
theorem dX5_better_34 : decode cX5_better 34 = .ok (.ldc 124, 2) := by decide +kernel
theorem dX5_better_36 : decode cX5_better 36 = .ok (.iand, 1) := by decide +kernel
theorem dX5_better_37 : decode cX5_better 37 = .ok (.iadd, 1) := by decide +kernel
theorem dX5_better_38 : decode cX5_better 38 = .ok (.istore_n 3, 1) := by decide +kernel
theorem dX5_better_39 : decode cX5_better 39 = .ok (.iload_n 0, 1) := by decide +kernel
theorem dX5_better_40 : decode cX5_better 40 = .ok (.ldc 155, 2) := by decide +kernel
theorem dX5_better_42 : decode cX5_better 42 = .ok (.iand, 1) := by decide +kernel
theorem dX5_better_43 : decode cX5_better 43 = .ok (.iload_n 3, 1) := by decide +kernel
theorem dX5_better_44 : decode cX5_better 44 = .ok (.ldc 156, 2) := by decide +kernel
theorem dX5_better_46 : decode cX5_better 46 = .ok (.if_icmp .ge 7, 3) := by decide +kernel
theorem dX5_better_49 : decode cX5_better 49 = .ok (.iload_n 3, 1) := by decide +kernel
theorem dX5_better_50 : decode cX5_better 50 = .ok (.goto 5, 3) := by decide +kernel
theorem dX5_better_53 : decode cX5_better 53 = .ok (.ldc 156, 2) := by decide +kernel
theorem dX5_better_55 : decode cX5_better 55 = .ok (.iadd, 1) := by decide +kernel
theorem dX5_better_56 : decode cX5_better 56 = .ok (.ireturn, 1) := by decide +kernel
theorem dX5_isEven_0 : decode cX5_isEven 0 = .ok (.iconst 1, 1) := by decide +kernel
theorem dX5_isEven_1 : decode cX5_isEven 1 = .ok (.istore_n 1, 1) := by decide +kernel
theorem dX5_isEven_2 : decode cX5_isEven 2 = .ok (.iload_n 1, 1) := by decide +kernel
theorem dX5_isEven_3 : decode cX5_isEven 3 = .ok (.sipush 2187, 3) := by decide +kernel
theorem dX5_isEven_6 : decode cX5_isEven 6 = .ok (.if_icmp .ge 26, 3) := by decide +kernel
theorem dX5_isEven_9 : decode cX5_isEven 9 = .ok (.aload_n 0, 1) := by decide +kernel
theorem dX5_isEven_10 : decode cX5_isEven 10 = .ok (.iload_n 1, 1) := by decide +kernel
theorem dX5_isEven_11 : decode cX5_isEven 11 = .ok (.iaload, 1) := by decide +kernel
theorem dX5_isEven_12 : decode cX5_isEven 12 = .ok (.bipush 20, 2) := by decide +kernel
theorem dX5_isEven_14 : decode cX5_isEven 14 = .ok (.ishr, 1) := by decide +kernel
theorem dX5_isEven_15 : decode cX5_isEven 15 = .ok (.aload_n 0, 1) := by decide +kernel
theorem dX5_isEven_16 : decode cX5_isEven 16 = .ok (.iconst 0, 1) := by decide +kernel
theorem dX5_isEven_17 : decode cX5_isEven 17 = .ok (.iaload, 1) := by decide +kernel
theorem dX5_isEven_18 : decode cX5_isEven 18 = .ok (.bipush 20, 2) := by decide +kernel
theorem dX5_isEven_20 : decode cX5_isEven 20 = .ok (.ishr, 1) := by decide +kernel
theorem dX5_isEven_21 : decode cX5_isEven 21 = .ok (.if_icmp .eq 5, 3) := by decide +kernel
theorem dX5_isEven_24 : decode cX5_isEven 24 = .ok (.iconst 0, 1) := by decide +kernel
theorem dX5_isEven_25 : decode cX5_isEven 25 = .ok (.ireturn, 1) := by decide +kernel
theorem dX5_isEven_26 : decode cX5_isEven 26 = .ok (.iinc 1 1, 3) := by decide +kernel
theorem dX5_isEven_29 : decode cX5_isEven 29 = .ok (.goto (-27), 3) := by decide +kernel
theorem dX5_isEven_32 : decode cX5_isEven 32 = .ok (.iconst 1, 1) := by decide +kernel
theorem dX5_isEven_33 : decode cX5_isEven 33 = .ok (.ireturn, 1) := by decide +kernel
theorem dX5_fillOnward_0 : decode cX5_fillOnward 0 = .ok (.iload_n 1, 1) := by decide +kernel
theorem dX5_fillOnward_1 : decode cX5_fillOnward 1 = .ok (.aload_n 0, 1) := by decide +kernel
theorem dX5_fillOnward_2 : decode cX5_fillOnward 2 = .ok (.getfield 15, 3) := by decide +kernel
theorem dX5_fillOnward_5 : decode cX5_fillOnward 5 = .ok (.getfield 93, 3) := by decide +kernel
theorem dX5_fillOnward_8 : decode cX5_fillOnward 8 = .ok (.iconst 1, 1) := by decide +kernel
theorem dX5_fillOnward_9 : decode cX5_fillOnward 9 = .ok (.isub, 1) := by decide +kernel
theorem dX5_fillOnward_10 : decode cX5_fillOnward 10 = .ok (.if_icmp .lt 11, 3) := by decide +kernel
theorem dX5_fillOnward_13 : decode cX5_fillOnward 13 = .ok (.aload_n 2, 1) := by decide +kernel
theorem dX5_fillOnward_14 : decode cX5_fillOnward 14 = .ok (.iconst 1, 1) := by decide +kernel
theorem dX5_fillOnward_15 : decode cX5_fillOnward 15 = .ok (.invokestatic 157, 3) := by decide +kernel
theorem dX5_fillOnward_18 : decode cX5_fillOnward 18 = .ok (.goto 87, 3) := by decide +kernel
theorem dX5_fillOnward_21 : decode cX5_fillOnward 21 = .ok (.aload_n 0, 1) := by decide +kernel
theorem dX5_fillOnward_22 : decode cX5_fillOnward 22 = .ok (.getfield 31, 3) := by decide +kernel
theorem dX5_fillOnward_25 : decode cX5_fillOnward 25 = .ok (.iload_n 1, 1) := by decide +kernel
theorem dX5_fillOnward_26 : decode cX5_fillOnward 26 = .ok (.iconst 1, 1) := by decide +kernel
theorem dX5_fillOnward_27 : decode cX5_fillOnward 27 = .ok (.iadd, 1) := by decide +kernel
theorem dX5_fillOnward_28 : decode cX5_fillOnward 28 = .ok (.baload, 1) := by decide +kernel
theorem dX5_fillOnward_29 : decode cX5_fillOnward 29 = .ok (.ifCond .eq 23, 3) := by decide +kernel
theorem dX5_fillOnward_32 : decode cX5_fillOnward 32 = .ok (.aload_n 0, 1) := by decide +kernel
theorem dX5_fillOnward_33 : decode cX5_fillOnward 33 = .ok (.getfield 28, 3) := by decide +kernel
theorem dX5_fillOnward_36 : decode cX5_fillOnward 36 = .ok (.iload_n 1, 1) := by decide +kernel
theorem dX5_fillOnward_37 : decode cX5_fillOnward 37 = .ok (.iconst 1, 1) := by decide +kernel
theorem dX5_fillOnward_38 : decode cX5_fillOnward 38 = .ok (.iadd, 1) := by decide +kernel
theorem dX5_fillOnward_39 : decode cX5_fillOnward 39 = .ok (.aaload, 1) := by decide +kernel
theorem dX5_fillOnward_40 : decode cX5_fillOnward 40 = .ok (.iconst 0, 1) := by decide +kernel
theorem dX5_fillOnward_41 : decode cX5_fillOnward 41 = .ok (.aload_n 2, 1) := by decide +kernel
theorem dX5_fillOnward_42 : decode cX5_fillOnward 42 = .ok (.iconst 0, 1) := by decide +kernel
theorem dX5_fillOnward_43 : decode cX5_fillOnward 43 = .ok (.sipush 2187, 3) := by decide +kernel
theorem dX5_fillOnward_46 : decode cX5_fillOnward 46 = .ok (.invokestatic 163, 3) := by decide +kernel
theorem dX5_fillOnward_49 : decode cX5_fillOnward 49 = .ok (.goto 56, 3) := by decide +kernel
theorem dX5_fillOnward_52 : decode cX5_fillOnward 52 = .ok (.aload_n 0, 1) := by decide +kernel
theorem dX5_fillOnward_53 : decode cX5_fillOnward 53 = .ok (.getfield 22, 3) := by decide +kernel
theorem dX5_fillOnward_56 : decode cX5_fillOnward 56 = .ok (.invokevirtual 169, 3) := by decide +kernel
theorem dX5_fillOnward_59 : decode cX5_fillOnward 59 = .ok (.ifCond .eq 33, 3) := by decide +kernel
theorem dX5_fillOnward_62 : decode cX5_fillOnward 62 = .ok (.aload_n 0, 1) := by decide +kernel
theorem dX5_fillOnward_63 : decode cX5_fillOnward 63 = .ok (.getfield 28, 3) := by decide +kernel
theorem dX5_fillOnward_66 : decode cX5_fillOnward 66 = .ok (.iload_n 1, 1) := by decide +kernel
theorem dX5_fillOnward_67 : decode cX5_fillOnward 67 = .ok (.iconst 1, 1) := by decide +kernel
theorem dX5_fillOnward_68 : decode cX5_fillOnward 68 = .ok (.iadd, 1) := by decide +kernel
theorem dX5_fillOnward_69 : decode cX5_fillOnward 69 = .ok (.aaload, 1) := by decide +kernel
theorem dX5_fillOnward_70 : decode cX5_fillOnward 70 = .ok (.bipush 60, 2) := by decide +kernel
theorem dX5_fillOnward_72 : decode cX5_fillOnward 72 = .ok (.aload_n 0, 1) := by decide +kernel
theorem dX5_fillOnward_73 : decode cX5_fillOnward 73 = .ok (.getfield 45, 3) := by decide +kernel
theorem dX5_fillOnward_76 : decode cX5_fillOnward 76 = .ok (.invokestatic 173, 3) := by decide +kernel
theorem dX5_fillOnward_79 : decode cX5_fillOnward 79 = .ok (.aload_n 0, 1) := by decide +kernel
theorem dX5_fillOnward_80 : decode cX5_fillOnward 80 = .ok (.getfield 45, 3) := by decide +kernel
theorem dX5_fillOnward_83 : decode cX5_fillOnward 83 = .ok (.bipush 67, 2) := by decide +kernel
theorem dX5_fillOnward_85 : decode cX5_fillOnward 85 = .ok (.aload_n 2, 1) := by decide +kernel
theorem dX5_fillOnward_86 : decode cX5_fillOnward 86 = .ok (.invokestatic 173, 3) := by decide +kernel
theorem dX5_fillOnward_89 : decode cX5_fillOnward 89 = .ok (.goto 16, 3) := by decide +kernel
theorem dX5_fillOnward_92 : decode cX5_fillOnward 92 = .ok (.aload_n 0, 1) := by decide +kernel
theorem dX5_fillOnward_93 : decode cX5_fillOnward 93 = .ok (.aload_n 0, 1) := by decide +kernel
theorem dX5_fillOnward_94 : decode cX5_fillOnward 94 = .ok (.getfield 28, 3) := by decide +kernel
theorem dX5_fillOnward_97 : decode cX5_fillOnward 97 = .ok (.iload_n 1, 1) := by decide +kernel
theorem dX5_fillOnward_98 : decode cX5_fillOnward 98 = .ok (.iconst 1, 1) := by decide +kernel
theorem dX5_fillOnward_99 : decode cX5_fillOnward 99 = .ok (.iadd, 1) := by decide +kernel
theorem dX5_fillOnward_100 : decode cX5_fillOnward 100 = .ok (.aaload, 1) := by decide +kernel
theorem dX5_fillOnward_101 : decode cX5_fillOnward 101 = .ok (.aload_n 2, 1) := by decide +kernel
theorem dX5_fillOnward_102 : decode cX5_fillOnward 102 = .ok (.invokevirtual 177, 3) := by decide +kernel
theorem dX5_fillOnward_105 : decode cX5_fillOnward 105 = .ok (.aload_n 0, 1) := by decide +kernel
theorem dX5_fillOnward_106 : decode cX5_fillOnward 106 = .ok (.aload_n 2, 1) := by decide +kernel
theorem dX5_fillOnward_107 : decode cX5_fillOnward 107 = .ok (.invokevirtual 181, 3) := by decide +kernel
theorem dX5_fillOnward_110 : decode cX5_fillOnward 110 = .ok (.return_, 1) := by decide +kernel
theorem dX5_dropUnfit_0 : decode cX5_dropUnfit 0 = .ok (.iconst 0, 1) := by decide +kernel
theorem dX5_dropUnfit_1 : decode cX5_dropUnfit 1 = .ok (.istore_n 2, 1) := by decide +kernel
theorem dX5_dropUnfit_2 : decode cX5_dropUnfit 2 = .ok (.iload_n 2, 1) := by decide +kernel
theorem dX5_dropUnfit_3 : decode cX5_dropUnfit 3 = .ok (.sipush 2187, 3) := by decide +kernel
theorem dX5_dropUnfit_6 : decode cX5_dropUnfit 6 = .ok (.if_icmp .ge 41, 3) := by decide +kernel
theorem dX5_dropUnfit_9 : decode cX5_dropUnfit 9 = .ok (.aload_n 1, 1) := by decide +kernel
theorem dX5_dropUnfit_10 : decode cX5_dropUnfit 10 = .ok (.iload_n 2, 1) := by decide +kernel
theorem dX5_dropUnfit_11 : decode cX5_dropUnfit 11 = .ok (.iaload, 1) := by decide +kernel
theorem dX5_dropUnfit_12 : decode cX5_dropUnfit 12 = .ok (.ldc 68, 2) := by decide +kernel
theorem dX5_dropUnfit_14 : decode cX5_dropUnfit 14 = .ok (.if_icmp .ge 27, 3) := by decide +kernel
theorem dX5_dropUnfit_17 : decode cX5_dropUnfit 17 = .ok (.aload_n 0, 1) := by decide +kernel
theorem dX5_dropUnfit_18 : decode cX5_dropUnfit 18 = .ok (.getfield 22, 3) := by decide +kernel
theorem dX5_dropUnfit_21 : decode cX5_dropUnfit 21 = .ok (.aload_n 0, 1) := by decide +kernel
theorem dX5_dropUnfit_22 : decode cX5_dropUnfit 22 = .ok (.getfield 11, 3) := by decide +kernel
theorem dX5_dropUnfit_25 : decode cX5_dropUnfit 25 = .ok (.getfield 125, 3) := by decide +kernel
theorem dX5_dropUnfit_28 : decode cX5_dropUnfit 28 = .ok (.iload_n 2, 1) := by decide +kernel
theorem dX5_dropUnfit_29 : decode cX5_dropUnfit 29 = .ok (.iaload, 1) := by decide +kernel
theorem dX5_dropUnfit_30 : decode cX5_dropUnfit 30 = .ok (.invokevirtual 141, 3) := by decide +kernel
theorem dX5_dropUnfit_33 : decode cX5_dropUnfit 33 = .ok (.ifCond .ge 8, 3) := by decide +kernel
theorem dX5_dropUnfit_36 : decode cX5_dropUnfit 36 = .ok (.aload_n 1, 1) := by decide +kernel
theorem dX5_dropUnfit_37 : decode cX5_dropUnfit 37 = .ok (.iload_n 2, 1) := by decide +kernel
theorem dX5_dropUnfit_38 : decode cX5_dropUnfit 38 = .ok (.ldc 68, 2) := by decide +kernel
theorem dX5_dropUnfit_40 : decode cX5_dropUnfit 40 = .ok (.iastore, 1) := by decide +kernel
theorem dX5_dropUnfit_41 : decode cX5_dropUnfit 41 = .ok (.iinc 2 1, 3) := by decide +kernel
theorem dX5_dropUnfit_44 : decode cX5_dropUnfit 44 = .ok (.goto (-42), 3) := by decide +kernel
theorem dX5_dropUnfit_47 : decode cX5_dropUnfit 47 = .ok (.return_, 1) := by decide +kernel
theorem dX5_spread_0 : decode cX5_spread 0 = .ok (.aload_n 0, 1) := by decide +kernel
theorem dX5_spread_1 : decode cX5_spread 1 = .ok (.iconst 0, 1) := by decide +kernel
theorem dX5_spread_2 : decode cX5_spread 2 = .ok (.aload_n 2, 1) := by decide +kernel
theorem dX5_spread_3 : decode cX5_spread 3 = .ok (.iconst 0, 1) := by decide +kernel
theorem dX5_spread_4 : decode cX5_spread 4 = .ok (.sipush 2187, 3) := by decide +kernel
theorem dX5_spread_7 : decode cX5_spread 7 = .ok (.invokestatic 163, 3) := by decide +kernel
theorem dX5_spread_10 : decode cX5_spread 10 = .ok (.iconst 0, 1) := by decide +kernel
theorem dX5_spread_11 : decode cX5_spread 11 = .ok (.istore_n 3, 1) := by decide +kernel
theorem dX5_spread_12 : decode cX5_spread 12 = .ok (.iload_n 3, 1) := by decide +kernel
theorem dX5_spread_13 : decode cX5_spread 13 = .ok (.bipush 7, 2) := by decide +kernel
theorem dX5_spread_15 : decode cX5_spread 15 = .ok (.if_icmp .ge 27, 3) := by decide +kernel
theorem dX5_spread_18 : decode cX5_spread 18 = .ok (.iload_n 1, 1) := by decide +kernel
theorem dX5_spread_19 : decode cX5_spread 19 = .ok (.iload_n 3, 1) := by decide +kernel
theorem dX5_spread_20 : decode cX5_spread 20 = .ok (.ishr, 1) := by decide +kernel
theorem dX5_spread_21 : decode cX5_spread 21 = .ok (.iconst 1, 1) := by decide +kernel
theorem dX5_spread_22 : decode cX5_spread 22 = .ok (.iand, 1) := by decide +kernel
theorem dX5_spread_23 : decode cX5_spread 23 = .ok (.ifCond .eq 13, 3) := by decide +kernel
theorem dX5_spread_26 : decode cX5_spread 26 = .ok (.aload_n 0, 1) := by decide +kernel
theorem dX5_spread_27 : decode cX5_spread 27 = .ok (.getstatic 185, 3) := by decide +kernel
theorem dX5_spread_30 : decode cX5_spread 30 = .ok (.iload_n 3, 1) := by decide +kernel
theorem dX5_spread_31 : decode cX5_spread 31 = .ok (.iaload, 1) := by decide +kernel
theorem dX5_spread_32 : decode cX5_spread 32 = .ok (.aload_n 2, 1) := by decide +kernel
theorem dX5_spread_33 : decode cX5_spread 33 = .ok (.invokestatic 188, 3) := by decide +kernel
theorem dX5_spread_36 : decode cX5_spread 36 = .ok (.iinc 3 1, 3) := by decide +kernel
theorem dX5_spread_39 : decode cX5_spread 39 = .ok (.goto (-27), 3) := by decide +kernel
theorem dX5_spread_42 : decode cX5_spread 42 = .ok (.return_, 1) := by decide +kernel
theorem dX5_spreadPedal_0 : decode cX5_spreadPedal 0 = .ok (.iconst 0, 1) := by decide +kernel
theorem dX5_spreadPedal_1 : decode cX5_spreadPedal 1 = .ok (.istore_n 3, 1) := by decide +kernel
theorem dX5_spreadPedal_2 : decode cX5_spreadPedal 2 = .ok (.iload_n 3, 1) := by decide +kernel
theorem dX5_spreadPedal_3 : decode cX5_spreadPedal 3 = .ok (.sipush 2187, 3) := by decide +kernel
theorem dX5_spreadPedal_6 : decode cX5_spreadPedal 6 = .ok (.if_icmp .ge 110, 3) := by decide +kernel
theorem dX5_spreadPedal_9 : decode cX5_spreadPedal 9 = .ok (.iload_n 3, 1) := by decide +kernel
theorem dX5_spreadPedal_10 : decode cX5_spreadPedal 10 = .ok (.istore 4, 2) := by decide +kernel
theorem dX5_spreadPedal_12 : decode cX5_spreadPedal 12 = .ok (.iload 4, 2) := by decide +kernel
theorem dX5_spreadPedal_14 : decode cX5_spreadPedal 14 = .ok (.iload_n 3, 1) := by decide +kernel
theorem dX5_spreadPedal_15 : decode cX5_spreadPedal 15 = .ok (.iload_n 1, 1) := by decide +kernel
theorem dX5_spreadPedal_16 : decode cX5_spreadPedal 16 = .ok (.iadd, 1) := by decide +kernel
theorem dX5_spreadPedal_17 : decode cX5_spreadPedal 17 = .ok (.if_icmp .ge 90, 3) := by decide +kernel
theorem dX5_spreadPedal_20 : decode cX5_spreadPedal 20 = .ok (.iload 4, 2) := by decide +kernel
theorem dX5_spreadPedal_22 : decode cX5_spreadPedal 22 = .ok (.iload_n 1, 1) := by decide +kernel
theorem dX5_spreadPedal_23 : decode cX5_spreadPedal 23 = .ok (.iadd, 1) := by decide +kernel
theorem dX5_spreadPedal_24 : decode cX5_spreadPedal 24 = .ok (.istore 5, 2) := by decide +kernel
theorem dX5_spreadPedal_26 : decode cX5_spreadPedal 26 = .ok (.iload 5, 2) := by decide +kernel
theorem dX5_spreadPedal_28 : decode cX5_spreadPedal 28 = .ok (.iload_n 1, 1) := by decide +kernel
theorem dX5_spreadPedal_29 : decode cX5_spreadPedal 29 = .ok (.iadd, 1) := by decide +kernel
theorem dX5_spreadPedal_30 : decode cX5_spreadPedal 30 = .ok (.istore 6, 2) := by decide +kernel
theorem dX5_spreadPedal_32 : decode cX5_spreadPedal 32 = .ok (.aload_n 0, 1) := by decide +kernel
theorem dX5_spreadPedal_33 : decode cX5_spreadPedal 33 = .ok (.iload 4, 2) := by decide +kernel
theorem dX5_spreadPedal_35 : decode cX5_spreadPedal 35 = .ok (.iaload, 1) := by decide +kernel
theorem dX5_spreadPedal_36 : decode cX5_spreadPedal 36 = .ok (.aload_n 0, 1) := by decide +kernel
theorem dX5_spreadPedal_37 : decode cX5_spreadPedal 37 = .ok (.iload 5, 2) := by decide +kernel
theorem dX5_spreadPedal_39 : decode cX5_spreadPedal 39 = .ok (.iaload, 1) := by decide +kernel
theorem dX5_spreadPedal_40 : decode cX5_spreadPedal 40 = .ok (.invokestatic 151, 3) := by decide +kernel
theorem dX5_spreadPedal_43 : decode cX5_spreadPedal 43 = .ok (.aload_n 0, 1) := by decide +kernel
theorem dX5_spreadPedal_44 : decode cX5_spreadPedal 44 = .ok (.iload 6, 2) := by decide +kernel
theorem dX5_spreadPedal_46 : decode cX5_spreadPedal 46 = .ok (.iaload, 1) := by decide +kernel
theorem dX5_spreadPedal_47 : decode cX5_spreadPedal 47 = .ok (.invokestatic 151, 3) := by decide +kernel
theorem dX5_spreadPedal_50 : decode cX5_spreadPedal 50 = .ok (.ldc 154, 2) := by decide +kernel
theorem dX5_spreadPedal_52 : decode cX5_spreadPedal 52 = .ok (.iadd, 1) := by decide +kernel
theorem dX5_spreadPedal_53 : decode cX5_spreadPedal 53 = .ok (.istore 7, 2) := by decide +kernel
theorem dX5_spreadPedal_55 : decode cX5_spreadPedal 55 = .ok (.iload 7, 2) := by decide +kernel
theorem dX5_spreadPedal_57 : decode cX5_spreadPedal 57 = .ok (.ldc 68, 2) := by decide +kernel
theorem dX5_spreadPedal_59 : decode cX5_spreadPedal 59 = .ok (.if_icmp .ge 42, 3) := by decide +kernel
theorem dX5_spreadPedal_62 : decode cX5_spreadPedal 62 = .ok (.aload_n 2, 1) := by decide +kernel
theorem dX5_spreadPedal_63 : decode cX5_spreadPedal 63 = .ok (.iload 4, 2) := by decide +kernel
theorem dX5_spreadPedal_65 : decode cX5_spreadPedal 65 = .ok (.aload_n 2, 1) := by decide +kernel
theorem dX5_spreadPedal_66 : decode cX5_spreadPedal 66 = .ok (.iload 4, 2) := by decide +kernel
theorem dX5_spreadPedal_68 : decode cX5_spreadPedal 68 = .ok (.iaload, 1) := by decide +kernel
theorem dX5_spreadPedal_69 : decode cX5_spreadPedal 69 = .ok (.iload 7, 2) := by decide +kernel
theorem dX5_spreadPedal_71 : decode cX5_spreadPedal 71 = .ok (.invokestatic 151, 3) := by decide +kernel
theorem dX5_spreadPedal_74 : decode cX5_spreadPedal 74 = .ok (.iastore, 1) := by decide +kernel
theorem dX5_spreadPedal_75 : decode cX5_spreadPedal 75 = .ok (.aload_n 2, 1) := by decide +kernel
theorem dX5_spreadPedal_76 : decode cX5_spreadPedal 76 = .ok (.iload 5, 2) := by decide +kernel
theorem dX5_spreadPedal_78 : decode cX5_spreadPedal 78 = .ok (.aload_n 2, 1) := by decide +kernel
theorem dX5_spreadPedal_79 : decode cX5_spreadPedal 79 = .ok (.iload 5, 2) := by decide +kernel
theorem dX5_spreadPedal_81 : decode cX5_spreadPedal 81 = .ok (.iaload, 1) := by decide +kernel
theorem dX5_spreadPedal_82 : decode cX5_spreadPedal 82 = .ok (.iload 7, 2) := by decide +kernel
theorem dX5_spreadPedal_84 : decode cX5_spreadPedal 84 = .ok (.invokestatic 151, 3) := by decide +kernel
theorem dX5_spreadPedal_87 : decode cX5_spreadPedal 87 = .ok (.iastore, 1) := by decide +kernel
theorem dX5_spreadPedal_88 : decode cX5_spreadPedal 88 = .ok (.aload_n 2, 1) := by decide +kernel
theorem dX5_spreadPedal_89 : decode cX5_spreadPedal 89 = .ok (.iload 6, 2) := by decide +kernel
theorem dX5_spreadPedal_91 : decode cX5_spreadPedal 91 = .ok (.aload_n 2, 1) := by decide +kernel
theorem dX5_spreadPedal_92 : decode cX5_spreadPedal 92 = .ok (.iload 6, 2) := by decide +kernel
theorem dX5_spreadPedal_94 : decode cX5_spreadPedal 94 = .ok (.iaload, 1) := by decide +kernel
theorem dX5_spreadPedal_95 : decode cX5_spreadPedal 95 = .ok (.iload 7, 2) := by decide +kernel
theorem dX5_spreadPedal_97 : decode cX5_spreadPedal 97 = .ok (.invokestatic 151, 3) := by decide +kernel
theorem dX5_spreadPedal_100 : decode cX5_spreadPedal 100 = .ok (.iastore, 1) := by decide +kernel
theorem dX5_spreadPedal_101 : decode cX5_spreadPedal 101 = .ok (.iinc 4 1, 3) := by decide +kernel
theorem dX5_spreadPedal_104 : decode cX5_spreadPedal 104 = .ok (.goto (-92), 3) := by decide +kernel
theorem dX5_spreadPedal_107 : decode cX5_spreadPedal 107 = .ok (.iload_n 3, 1) := by decide +kernel
theorem dX5_spreadPedal_108 : decode cX5_spreadPedal 108 = .ok (.iconst 3, 1) := by decide +kernel
theorem dX5_spreadPedal_109 : decode cX5_spreadPedal 109 = .ok (.iload_n 1, 1) := by decide +kernel
theorem dX5_spreadPedal_110 : decode cX5_spreadPedal 110 = .ok (.imul, 1) := by decide +kernel
theorem dX5_spreadPedal_111 : decode cX5_spreadPedal 111 = .ok (.iadd, 1) := by decide +kernel
theorem dX5_spreadPedal_112 : decode cX5_spreadPedal 112 = .ok (.istore_n 3, 1) := by decide +kernel
theorem dX5_spreadPedal_113 : decode cX5_spreadPedal 113 = .ok (.goto (-111), 3) := by decide +kernel
theorem dX5_spreadPedal_116 : decode cX5_spreadPedal 116 = .ok (.return_, 1) := by decide +kernel
theorem dX5_fillLockedOnward_0 : decode cX5_fillLockedOnward 0 = .ok (.aload_n 1, 1) := by decide +kernel
theorem dX5_fillLockedOnward_1 : decode cX5_fillLockedOnward 1 = .ok (.bipush 67, 2) := by decide +kernel
theorem dX5_fillLockedOnward_3 : decode cX5_fillLockedOnward 3 = .ok (.aload_n 0, 1) := by decide +kernel
theorem dX5_fillLockedOnward_4 : decode cX5_fillLockedOnward 4 = .ok (.getfield 42, 3) := by decide +kernel
theorem dX5_fillLockedOnward_7 : decode cX5_fillLockedOnward 7 = .ok (.invokestatic 173, 3) := by decide +kernel
theorem dX5_fillLockedOnward_10 : decode cX5_fillLockedOnward 10 = .ok (.aload_n 1, 1) := by decide +kernel
theorem dX5_fillLockedOnward_11 : decode cX5_fillLockedOnward 11 = .ok (.bipush 60, 2) := by decide +kernel
theorem dX5_fillLockedOnward_13 : decode cX5_fillLockedOnward 13 = .ok (.aload_n 0, 1) := by decide +kernel
theorem dX5_fillLockedOnward_14 : decode cX5_fillLockedOnward 14 = .ok (.getfield 45, 3) := by decide +kernel
theorem dX5_fillLockedOnward_17 : decode cX5_fillLockedOnward 17 = .ok (.invokestatic 173, 3) := by decide +kernel
theorem dX5_fillLockedOnward_20 : decode cX5_fillLockedOnward 20 = .ok (.iconst 0, 1) := by decide +kernel
theorem dX5_fillLockedOnward_21 : decode cX5_fillLockedOnward 21 = .ok (.istore_n 3, 1) := by decide +kernel
theorem dX5_fillLockedOnward_22 : decode cX5_fillLockedOnward 22 = .ok (.iload_n 3, 1) := by decide +kernel
theorem dX5_fillLockedOnward_23 : decode cX5_fillLockedOnward 23 = .ok (.sipush 2187, 3) := by decide +kernel
theorem dX5_fillLockedOnward_26 : decode cX5_fillLockedOnward 26 = .ok (.if_icmp .ge 111, 3) := by decide +kernel
theorem dX5_fillLockedOnward_29 : decode cX5_fillLockedOnward 29 = .ok (.aload_n 0, 1) := by decide +kernel
theorem dX5_fillLockedOnward_30 : decode cX5_fillLockedOnward 30 = .ok (.getfield 22, 3) := by decide +kernel
theorem dX5_fillLockedOnward_33 : decode cX5_fillLockedOnward 33 = .ok (.aload_n 0, 1) := by decide +kernel
theorem dX5_fillLockedOnward_34 : decode cX5_fillLockedOnward 34 = .ok (.getfield 11, 3) := by decide +kernel
theorem dX5_fillLockedOnward_37 : decode cX5_fillLockedOnward 37 = .ok (.getfield 125, 3) := by decide +kernel
theorem dX5_fillLockedOnward_40 : decode cX5_fillLockedOnward 40 = .ok (.iload_n 3, 1) := by decide +kernel
theorem dX5_fillLockedOnward_41 : decode cX5_fillLockedOnward 41 = .ok (.iaload, 1) := by decide +kernel
theorem dX5_fillLockedOnward_42 : decode cX5_fillLockedOnward 42 = .ok (.invokevirtual 141, 3) := by decide +kernel
theorem dX5_fillLockedOnward_45 : decode cX5_fillLockedOnward 45 = .ok (.istore 4, 2) := by decide +kernel
theorem dX5_fillLockedOnward_47 : decode cX5_fillLockedOnward 47 = .ok (.iload 4, 2) := by decide +kernel
theorem dX5_fillLockedOnward_49 : decode cX5_fillLockedOnward 49 = .ok (.ifCond .ge 11, 3) := by decide +kernel
theorem dX5_fillLockedOnward_52 : decode cX5_fillLockedOnward 52 = .ok (.aload_n 2, 1) := by decide +kernel
theorem dX5_fillLockedOnward_53 : decode cX5_fillLockedOnward 53 = .ok (.iload_n 3, 1) := by decide +kernel
theorem dX5_fillLockedOnward_54 : decode cX5_fillLockedOnward 54 = .ok (.ldc 68, 2) := by decide +kernel
theorem dX5_fillLockedOnward_56 : decode cX5_fillLockedOnward 56 = .ok (.iastore, 1) := by decide +kernel
theorem dX5_fillLockedOnward_57 : decode cX5_fillLockedOnward 57 = .ok (.goto 74, 3) := by decide +kernel
theorem dX5_fillLockedOnward_60 : decode cX5_fillLockedOnward 60 = .ok (.iload 4, 2) := by decide +kernel
theorem dX5_fillLockedOnward_62 : decode cX5_fillLockedOnward 62 = .ok (.bipush 60, 2) := by decide +kernel
theorem dX5_fillLockedOnward_64 : decode cX5_fillLockedOnward 64 = .ok (.iand, 1) := by decide +kernel
theorem dX5_fillLockedOnward_65 : decode cX5_fillLockedOnward 65 = .ok (.ifCond .ne 25, 3) := by decide +kernel
theorem dX5_fillLockedOnward_68 : decode cX5_fillLockedOnward 68 = .ok (.aload_n 2, 1) := by decide +kernel
theorem dX5_fillLockedOnward_69 : decode cX5_fillLockedOnward 69 = .ok (.iload_n 3, 1) := by decide +kernel
theorem dX5_fillLockedOnward_70 : decode cX5_fillLockedOnward 70 = .ok (.aload_n 0, 1) := by decide +kernel
theorem dX5_fillLockedOnward_71 : decode cX5_fillLockedOnward 71 = .ok (.aload_n 0, 1) := by decide +kernel
theorem dX5_fillLockedOnward_72 : decode cX5_fillLockedOnward 72 = .ok (.getfield 45, 3) := by decide +kernel
theorem dX5_fillLockedOnward_75 : decode cX5_fillLockedOnward 75 = .ok (.iload_n 3, 1) := by decide +kernel
theorem dX5_fillLockedOnward_76 : decode cX5_fillLockedOnward 76 = .ok (.bipush 67, 2) := by decide +kernel
theorem dX5_fillLockedOnward_78 : decode cX5_fillLockedOnward 78 = .ok (.iload 4, 2) := by decide +kernel
theorem dX5_fillLockedOnward_80 : decode cX5_fillLockedOnward 80 = .ok (.iconst (-1), 1) := by decide +kernel
theorem dX5_fillLockedOnward_81 : decode cX5_fillLockedOnward 81 = .ok (.ixor, 1) := by decide +kernel
theorem dX5_fillLockedOnward_82 : decode cX5_fillLockedOnward 82 = .ok (.iand, 1) := by decide +kernel
theorem dX5_fillLockedOnward_83 : decode cX5_fillLockedOnward 83 = .ok (.invokevirtual 191, 3) := by decide +kernel
theorem dX5_fillLockedOnward_86 : decode cX5_fillLockedOnward 86 = .ok (.iastore, 1) := by decide +kernel
theorem dX5_fillLockedOnward_87 : decode cX5_fillLockedOnward 87 = .ok (.goto 44, 3) := by decide +kernel
theorem dX5_fillLockedOnward_90 : decode cX5_fillLockedOnward 90 = .ok (.iload 4, 2) := by decide +kernel
theorem dX5_fillLockedOnward_92 : decode cX5_fillLockedOnward 92 = .ok (.bipush 67, 2) := by decide +kernel
theorem dX5_fillLockedOnward_94 : decode cX5_fillLockedOnward 94 = .ok (.iand, 1) := by decide +kernel
theorem dX5_fillLockedOnward_95 : decode cX5_fillLockedOnward 95 = .ok (.ifCond .ne 25, 3) := by decide +kernel
theorem dX5_fillLockedOnward_98 : decode cX5_fillLockedOnward 98 = .ok (.aload_n 2, 1) := by decide +kernel
theorem dX5_fillLockedOnward_99 : decode cX5_fillLockedOnward 99 = .ok (.iload_n 3, 1) := by decide +kernel
theorem dX5_fillLockedOnward_100 : decode cX5_fillLockedOnward 100 = .ok (.aload_n 0, 1) := by decide +kernel
theorem dX5_fillLockedOnward_101 : decode cX5_fillLockedOnward 101 = .ok (.aload_n 0, 1) := by decide +kernel
theorem dX5_fillLockedOnward_102 : decode cX5_fillLockedOnward 102 = .ok (.getfield 42, 3) := by decide +kernel
theorem dX5_fillLockedOnward_105 : decode cX5_fillLockedOnward 105 = .ok (.iload_n 3, 1) := by decide +kernel
theorem dX5_fillLockedOnward_106 : decode cX5_fillLockedOnward 106 = .ok (.bipush 60, 2) := by decide +kernel
theorem dX5_fillLockedOnward_108 : decode cX5_fillLockedOnward 108 = .ok (.iload 4, 2) := by decide +kernel
theorem dX5_fillLockedOnward_110 : decode cX5_fillLockedOnward 110 = .ok (.iconst (-1), 1) := by decide +kernel
theorem dX5_fillLockedOnward_111 : decode cX5_fillLockedOnward 111 = .ok (.ixor, 1) := by decide +kernel
theorem dX5_fillLockedOnward_112 : decode cX5_fillLockedOnward 112 = .ok (.iand, 1) := by decide +kernel
theorem dX5_fillLockedOnward_113 : decode cX5_fillLockedOnward 113 = .ok (.invokevirtual 191, 3) := by decide +kernel
theorem dX5_fillLockedOnward_116 : decode cX5_fillLockedOnward 116 = .ok (.iastore, 1) := by decide +kernel
theorem dX5_fillLockedOnward_117 : decode cX5_fillLockedOnward 117 = .ok (.goto 14, 3) := by decide +kernel
theorem dX5_fillLockedOnward_120 : decode cX5_fillLockedOnward 120 = .ok (.aload_n 2, 1) := by decide +kernel
theorem dX5_fillLockedOnward_121 : decode cX5_fillLockedOnward 121 = .ok (.iload_n 3, 1) := by decide +kernel
theorem dX5_fillLockedOnward_122 : decode cX5_fillLockedOnward 122 = .ok (.aload_n 0, 1) := by decide +kernel
theorem dX5_fillLockedOnward_123 : decode cX5_fillLockedOnward 123 = .ok (.aload_n 1, 1) := by decide +kernel
theorem dX5_fillLockedOnward_124 : decode cX5_fillLockedOnward 124 = .ok (.iload_n 3, 1) := by decide +kernel
theorem dX5_fillLockedOnward_125 : decode cX5_fillLockedOnward 125 = .ok (.iload 4, 2) := by decide +kernel
theorem dX5_fillLockedOnward_127 : decode cX5_fillLockedOnward 127 = .ok (.invokevirtual 195, 3) := by decide +kernel
theorem dX5_fillLockedOnward_130 : decode cX5_fillLockedOnward 130 = .ok (.iastore, 1) := by decide +kernel
theorem dX5_fillLockedOnward_131 : decode cX5_fillLockedOnward 131 = .ok (.iinc 3 1, 3) := by decide +kernel
theorem dX5_fillLockedOnward_134 : decode cX5_fillLockedOnward 134 = .ok (.goto (-112), 3) := by decide +kernel
theorem dX5_fillLockedOnward_137 : decode cX5_fillLockedOnward 137 = .ok (.return_, 1) := by decide +kernel
theorem dX5_bestByBoth_0 : decode cX5_bestByBoth 0 = .ok (.aload_n 0, 1) := by decide +kernel
theorem dX5_bestByBoth_1 : decode cX5_bestByBoth 1 = .ok (.iload_n 2, 1) := by decide +kernel
theorem dX5_bestByBoth_2 : decode cX5_bestByBoth 2 = .ok (.bipush 67, 2) := by decide +kernel
theorem dX5_bestByBoth_4 : decode cX5_bestByBoth 4 = .ok (.iload_n 3, 1) := by decide +kernel
theorem dX5_bestByBoth_5 : decode cX5_bestByBoth 5 = .ok (.iconst (-1), 1) := by decide +kernel
theorem dX5_bestByBoth_6 : decode cX5_bestByBoth 6 = .ok (.ixor, 1) := by decide +kernel
theorem dX5_bestByBoth_7 : decode cX5_bestByBoth 7 = .ok (.iand, 1) := by decide +kernel
theorem dX5_bestByBoth_8 : decode cX5_bestByBoth 8 = .ok (.aload_n 0, 1) := by decide +kernel
theorem dX5_bestByBoth_9 : decode cX5_bestByBoth 9 = .ok (.getfield 48, 3) := by decide +kernel
theorem dX5_bestByBoth_12 : decode cX5_bestByBoth 12 = .ok (.invokevirtual 198, 3) := by decide +kernel
theorem dX5_bestByBoth_15 : decode cX5_bestByBoth 15 = .ok (.istore 4, 2) := by decide +kernel
theorem dX5_bestByBoth_17 : decode cX5_bestByBoth 17 = .ok (.aload_n 0, 1) := by decide +kernel
theorem dX5_bestByBoth_18 : decode cX5_bestByBoth 18 = .ok (.aload_n 1, 1) := by decide +kernel
theorem dX5_bestByBoth_19 : decode cX5_bestByBoth 19 = .ok (.iload_n 2, 1) := by decide +kernel
theorem dX5_bestByBoth_20 : decode cX5_bestByBoth 20 = .ok (.bipush 60, 2) := by decide +kernel
theorem dX5_bestByBoth_22 : decode cX5_bestByBoth 22 = .ok (.iload_n 3, 1) := by decide +kernel
theorem dX5_bestByBoth_23 : decode cX5_bestByBoth 23 = .ok (.iconst (-1), 1) := by decide +kernel
theorem dX5_bestByBoth_24 : decode cX5_bestByBoth 24 = .ok (.ixor, 1) := by decide +kernel
theorem dX5_bestByBoth_25 : decode cX5_bestByBoth 25 = .ok (.iand, 1) := by decide +kernel
theorem dX5_bestByBoth_26 : decode cX5_bestByBoth 26 = .ok (.invokevirtual 191, 3) := by decide +kernel
theorem dX5_bestByBoth_29 : decode cX5_bestByBoth 29 = .ok (.istore 5, 2) := by decide +kernel
theorem dX5_bestByBoth_31 : decode cX5_bestByBoth 31 = .ok (.iconst 1, 1) := by decide +kernel
theorem dX5_bestByBoth_32 : decode cX5_bestByBoth 32 = .ok (.istore 6, 2) := by decide +kernel
theorem dX5_bestByBoth_34 : decode cX5_bestByBoth 34 = .ok (.iload 6, 2) := by decide +kernel
theorem dX5_bestByBoth_36 : decode cX5_bestByBoth 36 = .ok (.iload 4, 2) := by decide +kernel
theorem dX5_bestByBoth_38 : decode cX5_bestByBoth 38 = .ok (.if_icmp .ge 37, 3) := by decide +kernel
theorem dX5_bestByBoth_41 : decode cX5_bestByBoth 41 = .ok (.iload 5, 2) := by decide +kernel
theorem dX5_bestByBoth_43 : decode cX5_bestByBoth 43 = .ok (.aload_n 0, 1) := by decide +kernel
theorem dX5_bestByBoth_44 : decode cX5_bestByBoth 44 = .ok (.aload_n 1, 1) := by decide +kernel
theorem dX5_bestByBoth_45 : decode cX5_bestByBoth 45 = .ok (.aload_n 0, 1) := by decide +kernel
theorem dX5_bestByBoth_46 : decode cX5_bestByBoth 46 = .ok (.getfield 48, 3) := by decide +kernel
theorem dX5_bestByBoth_49 : decode cX5_bestByBoth 49 = .ok (.iload 6, 2) := by decide +kernel
theorem dX5_bestByBoth_51 : decode cX5_bestByBoth 51 = .ok (.iaload, 1) := by decide +kernel
theorem dX5_bestByBoth_52 : decode cX5_bestByBoth 52 = .ok (.bipush 60, 2) := by decide +kernel
theorem dX5_bestByBoth_54 : decode cX5_bestByBoth 54 = .ok (.iload_n 3, 1) := by decide +kernel
theorem dX5_bestByBoth_55 : decode cX5_bestByBoth 55 = .ok (.iconst (-1), 1) := by decide +kernel
theorem dX5_bestByBoth_56 : decode cX5_bestByBoth 56 = .ok (.ixor, 1) := by decide +kernel
theorem dX5_bestByBoth_57 : decode cX5_bestByBoth 57 = .ok (.iand, 1) := by decide +kernel
theorem dX5_bestByBoth_58 : decode cX5_bestByBoth 58 = .ok (.invokevirtual 191, 3) := by decide +kernel
theorem dX5_bestByBoth_61 : decode cX5_bestByBoth 61 = .ok (.ldc 154, 2) := by decide +kernel
theorem dX5_bestByBoth_63 : decode cX5_bestByBoth 63 = .ok (.iadd, 1) := by decide +kernel
theorem dX5_bestByBoth_64 : decode cX5_bestByBoth 64 = .ok (.invokestatic 151, 3) := by decide +kernel
theorem dX5_bestByBoth_67 : decode cX5_bestByBoth 67 = .ok (.istore 5, 2) := by decide +kernel
theorem dX5_bestByBoth_69 : decode cX5_bestByBoth 69 = .ok (.iinc 6 1, 3) := by decide +kernel
theorem dX5_bestByBoth_72 : decode cX5_bestByBoth 72 = .ok (.goto (-38), 3) := by decide +kernel
theorem dX5_bestByBoth_75 : decode cX5_bestByBoth 75 = .ok (.iload 5, 2) := by decide +kernel
theorem dX5_bestByBoth_77 : decode cX5_bestByBoth 77 = .ok (.ireturn, 1) := by decide +kernel
theorem dX5_bestByFoot_0 : decode cX5_bestByFoot 0 = .ok (.aload_n 0, 1) := by decide +kernel
theorem dX5_bestByFoot_1 : decode cX5_bestByFoot 1 = .ok (.iload_n 2, 1) := by decide +kernel
theorem dX5_bestByFoot_2 : decode cX5_bestByFoot 2 = .ok (.iload_n 3, 1) := by decide +kernel
theorem dX5_bestByFoot_3 : decode cX5_bestByFoot 3 = .ok (.aload_n 0, 1) := by decide +kernel
theorem dX5_bestByFoot_4 : decode cX5_bestByFoot 4 = .ok (.getfield 51, 3) := by decide +kernel
theorem dX5_bestByFoot_7 : decode cX5_bestByFoot 7 = .ok (.invokevirtual 198, 3) := by decide +kernel
theorem dX5_bestByFoot_10 : decode cX5_bestByFoot 10 = .ok (.istore 4, 2) := by decide +kernel
theorem dX5_bestByFoot_12 : decode cX5_bestByFoot 12 = .ok (.aload_n 1, 1) := by decide +kernel
theorem dX5_bestByFoot_13 : decode cX5_bestByFoot 13 = .ok (.iload_n 2, 1) := by decide +kernel
theorem dX5_bestByFoot_14 : decode cX5_bestByFoot 14 = .ok (.iaload, 1) := by decide +kernel
theorem dX5_bestByFoot_15 : decode cX5_bestByFoot 15 = .ok (.istore 5, 2) := by decide +kernel
theorem dX5_bestByFoot_17 : decode cX5_bestByFoot 17 = .ok (.iconst 1, 1) := by decide +kernel
theorem dX5_bestByFoot_18 : decode cX5_bestByFoot 18 = .ok (.istore 6, 2) := by decide +kernel
theorem dX5_bestByFoot_20 : decode cX5_bestByFoot 20 = .ok (.iload 6, 2) := by decide +kernel
theorem dX5_bestByFoot_22 : decode cX5_bestByFoot 22 = .ok (.iload 4, 2) := by decide +kernel
theorem dX5_bestByFoot_24 : decode cX5_bestByFoot 24 = .ok (.if_icmp .ge 28, 3) := by decide +kernel
theorem dX5_bestByFoot_27 : decode cX5_bestByFoot 27 = .ok (.iload 5, 2) := by decide +kernel
theorem dX5_bestByFoot_29 : decode cX5_bestByFoot 29 = .ok (.aload_n 1, 1) := by decide +kernel
theorem dX5_bestByFoot_30 : decode cX5_bestByFoot 30 = .ok (.aload_n 0, 1) := by decide +kernel
theorem dX5_bestByFoot_31 : decode cX5_bestByFoot 31 = .ok (.getfield 51, 3) := by decide +kernel
theorem dX5_bestByFoot_34 : decode cX5_bestByFoot 34 = .ok (.iload 6, 2) := by decide +kernel
theorem dX5_bestByFoot_36 : decode cX5_bestByFoot 36 = .ok (.iaload, 1) := by decide +kernel
theorem dX5_bestByFoot_37 : decode cX5_bestByFoot 37 = .ok (.iaload, 1) := by decide +kernel
theorem dX5_bestByFoot_38 : decode cX5_bestByFoot 38 = .ok (.ldc 154, 2) := by decide +kernel
theorem dX5_bestByFoot_40 : decode cX5_bestByFoot 40 = .ok (.iadd, 1) := by decide +kernel
theorem dX5_bestByFoot_41 : decode cX5_bestByFoot 41 = .ok (.invokestatic 151, 3) := by decide +kernel
theorem dX5_bestByFoot_44 : decode cX5_bestByFoot 44 = .ok (.istore 5, 2) := by decide +kernel
theorem dX5_bestByFoot_46 : decode cX5_bestByFoot 46 = .ok (.iinc 6 1, 3) := by decide +kernel
theorem dX5_bestByFoot_49 : decode cX5_bestByFoot 49 = .ok (.goto (-29), 3) := by decide +kernel
theorem dX5_bestByFoot_52 : decode cX5_bestByFoot 52 = .ok (.iload 5, 2) := by decide +kernel
theorem dX5_bestByFoot_54 : decode cX5_bestByFoot 54 = .ok (.ireturn, 1) := by decide +kernel
theorem dX5_reach_0 : decode cX5_reach 0 = .ok (.aload_n 0, 1) := by decide +kernel
theorem dX5_reach_1 : decode cX5_reach 1 = .ok (.getfield 11, 3) := by decide +kernel
theorem dX5_reach_4 : decode cX5_reach 4 = .ok (.getfield 125, 3) := by decide +kernel
theorem dX5_reach_7 : decode cX5_reach 7 = .ok (.iload_n 1, 1) := by decide +kernel
theorem dX5_reach_8 : decode cX5_reach 8 = .ok (.iaload, 1) := by decide +kernel
theorem dX5_reach_9 : decode cX5_reach 9 = .ok (.istore 4, 2) := by decide +kernel
theorem dX5_reach_11 : decode cX5_reach 11 = .ok (.aload_n 3, 1) := by decide +kernel
theorem dX5_reach_12 : decode cX5_reach 12 = .ok (.iconst 0, 1) := by decide +kernel
theorem dX5_reach_13 : decode cX5_reach 13 = .ok (.iload_n 1, 1) := by decide +kernel
theorem dX5_reach_14 : decode cX5_reach 14 = .ok (.iastore, 1) := by decide +kernel
theorem dX5_reach_15 : decode cX5_reach 15 = .ok (.iconst 1, 1) := by decide +kernel
theorem dX5_reach_16 : decode cX5_reach 16 = .ok (.istore 5, 2) := by decide +kernel
theorem dX5_reach_18 : decode cX5_reach 18 = .ok (.iconst 0, 1) := by decide +kernel
theorem dX5_reach_19 : decode cX5_reach 19 = .ok (.istore 6, 2) := by decide +kernel
theorem dX5_reach_21 : decode cX5_reach 21 = .ok (.iload 6, 2) := by decide +kernel
theorem dX5_reach_23 : decode cX5_reach 23 = .ok (.bipush 7, 2) := by decide +kernel
theorem dX5_reach_25 : decode cX5_reach 25 = .ok (.if_icmp .ge 72, 3) := by decide +kernel
theorem dX5_reach_28 : decode cX5_reach 28 = .ok (.iload_n 2, 1) := by decide +kernel
theorem dX5_reach_29 : decode cX5_reach 29 = .ok (.iload 6, 2) := by decide +kernel
theorem dX5_reach_31 : decode cX5_reach 31 = .ok (.ishr, 1) := by decide +kernel
theorem dX5_reach_32 : decode cX5_reach 32 = .ok (.iconst 1, 1) := by decide +kernel
theorem dX5_reach_33 : decode cX5_reach 33 = .ok (.iand, 1) := by decide +kernel
theorem dX5_reach_34 : decode cX5_reach 34 = .ok (.ifCond .eq 57, 3) := by decide +kernel
theorem dX5_reach_37 : decode cX5_reach 37 = .ok (.iload 4, 2) := by decide +kernel
theorem dX5_reach_39 : decode cX5_reach 39 = .ok (.iconst 2, 1) := by decide +kernel
theorem dX5_reach_40 : decode cX5_reach 40 = .ok (.iload 6, 2) := by decide +kernel
theorem dX5_reach_42 : decode cX5_reach 42 = .ok (.imul, 1) := by decide +kernel
theorem dX5_reach_43 : decode cX5_reach 43 = .ok (.ishr, 1) := by decide +kernel
theorem dX5_reach_44 : decode cX5_reach 44 = .ok (.iconst 3, 1) := by decide +kernel
theorem dX5_reach_45 : decode cX5_reach 45 = .ok (.iand, 1) := by decide +kernel
theorem dX5_reach_46 : decode cX5_reach 46 = .ok (.istore 7, 2) := by decide +kernel
theorem dX5_reach_48 : decode cX5_reach 48 = .ok (.aload_n 3, 1) := by decide +kernel
theorem dX5_reach_49 : decode cX5_reach 49 = .ok (.iload 5, 2) := by decide +kernel
theorem dX5_reach_51 : decode cX5_reach 51 = .ok (.iload_n 1, 1) := by decide +kernel
theorem dX5_reach_52 : decode cX5_reach 52 = .ok (.getstatic 202, 3) := by decide +kernel
theorem dX5_reach_55 : decode cX5_reach 55 = .ok (.iload 7, 2) := by decide +kernel
theorem dX5_reach_57 : decode cX5_reach 57 = .ok (.iaload, 1) := by decide +kernel
theorem dX5_reach_58 : decode cX5_reach 58 = .ok (.getstatic 185, 3) := by decide +kernel
theorem dX5_reach_61 : decode cX5_reach 61 = .ok (.iload 6, 2) := by decide +kernel
theorem dX5_reach_63 : decode cX5_reach 63 = .ok (.iaload, 1) := by decide +kernel
theorem dX5_reach_64 : decode cX5_reach 64 = .ok (.imul, 1) := by decide +kernel
theorem dX5_reach_65 : decode cX5_reach 65 = .ok (.iadd, 1) := by decide +kernel
theorem dX5_reach_66 : decode cX5_reach 66 = .ok (.iastore, 1) := by decide +kernel
theorem dX5_reach_67 : decode cX5_reach 67 = .ok (.aload_n 3, 1) := by decide +kernel
theorem dX5_reach_68 : decode cX5_reach 68 = .ok (.iload 5, 2) := by decide +kernel
theorem dX5_reach_70 : decode cX5_reach 70 = .ok (.iconst 1, 1) := by decide +kernel
theorem dX5_reach_71 : decode cX5_reach 71 = .ok (.iadd, 1) := by decide +kernel
theorem dX5_reach_72 : decode cX5_reach 72 = .ok (.iload_n 1, 1) := by decide +kernel
theorem dX5_reach_73 : decode cX5_reach 73 = .ok (.getstatic 205, 3) := by decide +kernel
theorem dX5_reach_76 : decode cX5_reach 76 = .ok (.iload 7, 2) := by decide +kernel
theorem dX5_reach_78 : decode cX5_reach 78 = .ok (.iaload, 1) := by decide +kernel
theorem dX5_reach_79 : decode cX5_reach 79 = .ok (.getstatic 185, 3) := by decide +kernel
theorem dX5_reach_82 : decode cX5_reach 82 = .ok (.iload 6, 2) := by decide +kernel
theorem dX5_reach_84 : decode cX5_reach 84 = .ok (.iaload, 1) := by decide +kernel
theorem dX5_reach_85 : decode cX5_reach 85 = .ok (.imul, 1) := by decide +kernel
theorem dX5_reach_86 : decode cX5_reach 86 = .ok (.iadd, 1) := by decide +kernel
theorem dX5_reach_87 : decode cX5_reach 87 = .ok (.iastore, 1) := by decide +kernel
theorem dX5_reach_88 : decode cX5_reach 88 = .ok (.iinc 5 2, 3) := by decide +kernel
theorem dX5_reach_91 : decode cX5_reach 91 = .ok (.iinc 6 1, 3) := by decide +kernel
theorem dX5_reach_94 : decode cX5_reach 94 = .ok (.goto (-73), 3) := by decide +kernel
theorem dX5_reach_97 : decode cX5_reach 97 = .ok (.iload 5, 2) := by decide +kernel
theorem dX5_reach_99 : decode cX5_reach 99 = .ok (.ireturn, 1) := by decide +kernel
theorem dX5_trace_0 : decode cX5_trace 0 = .ok (.iconst 0, 1) := by decide +kernel
theorem dX5_trace_1 : decode cX5_trace 1 = .ok (.istore_n 1, 1) := by decide +kernel
theorem dX5_trace_2 : decode cX5_trace 2 = .ok (.iload_n 1, 1) := by decide +kernel
theorem dX5_trace_3 : decode cX5_trace 3 = .ok (.sipush 2186, 3) := by decide +kernel
theorem dX5_trace_6 : decode cX5_trace 6 = .ok (.if_icmp .ge 36, 3) := by decide +kernel
theorem dX5_trace_9 : decode cX5_trace 9 = .ok (.aload_n 0, 1) := by decide +kernel
theorem dX5_trace_10 : decode cX5_trace 10 = .ok (.getfield 35, 3) := by decide +kernel
theorem dX5_trace_13 : decode cX5_trace 13 = .ok (.iconst 0, 1) := by decide +kernel
theorem dX5_trace_14 : decode cX5_trace 14 = .ok (.aaload, 1) := by decide +kernel
theorem dX5_trace_15 : decode cX5_trace 15 = .ok (.iload_n 1, 1) := by decide +kernel
theorem dX5_trace_16 : decode cX5_trace 16 = .ok (.iaload, 1) := by decide +kernel
theorem dX5_trace_17 : decode cX5_trace 17 = .ok (.aload_n 0, 1) := by decide +kernel
theorem dX5_trace_18 : decode cX5_trace 18 = .ok (.getfield 28, 3) := by decide +kernel
theorem dX5_trace_21 : decode cX5_trace 21 = .ok (.iconst 0, 1) := by decide +kernel
theorem dX5_trace_22 : decode cX5_trace 22 = .ok (.aaload, 1) := by decide +kernel
theorem dX5_trace_23 : decode cX5_trace 23 = .ok (.iload_n 1, 1) := by decide +kernel
theorem dX5_trace_24 : decode cX5_trace 24 = .ok (.iaload, 1) := by decide +kernel
theorem dX5_trace_25 : decode cX5_trace 25 = .ok (.iadd, 1) := by decide +kernel
theorem dX5_trace_26 : decode cX5_trace 26 = .ok (.bipush 20, 2) := by decide +kernel
theorem dX5_trace_28 : decode cX5_trace 28 = .ok (.ishr, 1) := by decide +kernel
theorem dX5_trace_29 : decode cX5_trace 29 = .ok (.aload_n 0, 1) := by decide +kernel
theorem dX5_trace_30 : decode cX5_trace 30 = .ok (.invokevirtual 147, 3) := by decide +kernel
theorem dX5_trace_33 : decode cX5_trace 33 = .ok (.if_icmp .eq 9, 3) := by decide +kernel
theorem dX5_trace_36 : decode cX5_trace 36 = .ok (.iinc 1 1, 3) := by decide +kernel
theorem dX5_trace_39 : decode cX5_trace 39 = .ok (.goto (-37), 3) := by decide +kernel
theorem dX5_trace_42 : decode cX5_trace 42 = .ok (.aload_n 0, 1) := by decide +kernel
theorem dX5_trace_43 : decode cX5_trace 43 = .ok (.getfield 54, 3) := by decide +kernel
theorem dX5_trace_46 : decode cX5_trace 46 = .ok (.iconst 0, 1) := by decide +kernel
theorem dX5_trace_47 : decode cX5_trace 47 = .ok (.iload_n 1, 1) := by decide +kernel
theorem dX5_trace_48 : decode cX5_trace 48 = .ok (.iastore, 1) := by decide +kernel
theorem dX5_trace_49 : decode cX5_trace 49 = .ok (.iconst 1, 1) := by decide +kernel
theorem dX5_trace_50 : decode cX5_trace 50 = .ok (.istore_n 2, 1) := by decide +kernel
theorem dX5_trace_51 : decode cX5_trace 51 = .ok (.iload_n 2, 1) := by decide +kernel
theorem dX5_trace_52 : decode cX5_trace 52 = .ok (.aload_n 0, 1) := by decide +kernel
theorem dX5_trace_53 : decode cX5_trace 53 = .ok (.getfield 15, 3) := by decide +kernel
theorem dX5_trace_56 : decode cX5_trace 56 = .ok (.getfield 93, 3) := by decide +kernel
theorem dX5_trace_59 : decode cX5_trace 59 = .ok (.if_icmp .ge 30, 3) := by decide +kernel
theorem dX5_trace_62 : decode cX5_trace 62 = .ok (.aload_n 0, 1) := by decide +kernel
theorem dX5_trace_63 : decode cX5_trace 63 = .ok (.getfield 54, 3) := by decide +kernel
theorem dX5_trace_66 : decode cX5_trace 66 = .ok (.iload_n 2, 1) := by decide +kernel
theorem dX5_trace_67 : decode cX5_trace 67 = .ok (.aload_n 0, 1) := by decide +kernel
theorem dX5_trace_68 : decode cX5_trace 68 = .ok (.iload_n 2, 1) := by decide +kernel
theorem dX5_trace_69 : decode cX5_trace 69 = .ok (.iconst 1, 1) := by decide +kernel
theorem dX5_trace_70 : decode cX5_trace 70 = .ok (.isub, 1) := by decide +kernel
theorem dX5_trace_71 : decode cX5_trace 71 = .ok (.aload_n 0, 1) := by decide +kernel
theorem dX5_trace_72 : decode cX5_trace 72 = .ok (.getfield 54, 3) := by decide +kernel
theorem dX5_trace_75 : decode cX5_trace 75 = .ok (.iload_n 2, 1) := by decide +kernel
theorem dX5_trace_76 : decode cX5_trace 76 = .ok (.iconst 1, 1) := by decide +kernel
theorem dX5_trace_77 : decode cX5_trace 77 = .ok (.isub, 1) := by decide +kernel
theorem dX5_trace_78 : decode cX5_trace 78 = .ok (.iaload, 1) := by decide +kernel
theorem dX5_trace_79 : decode cX5_trace 79 = .ok (.invokevirtual 208, 3) := by decide +kernel
theorem dX5_trace_82 : decode cX5_trace 82 = .ok (.iastore, 1) := by decide +kernel
theorem dX5_trace_83 : decode cX5_trace 83 = .ok (.iinc 2 1, 3) := by decide +kernel
theorem dX5_trace_86 : decode cX5_trace 86 = .ok (.goto (-35), 3) := by decide +kernel
theorem dX5_trace_89 : decode cX5_trace 89 = .ok (.return_, 1) := by decide +kernel
theorem dX5_leastNext_0 : decode cX5_leastNext 0 = .ok (.aload_n 0, 1) := by decide +kernel
theorem dX5_leastNext_1 : decode cX5_leastNext 1 = .ok (.getfield 22, 3) := by decide +kernel
theorem dX5_leastNext_4 : decode cX5_leastNext 4 = .ok (.aload_n 0, 1) := by decide +kernel
end
section
theorem dX5_leastNext_5 : decode cX5_leastNext 5 = .ok (.getfield 15, 3) := by decide +kernel
theorem dX5_leastNext_8 : decode cX5_leastNext 8 = .ok (.iload_n 1, 1) := by decide +kernel
theorem dX5_leastNext_9 : decode cX5_leastNext 9 = .ok (.invokevirtual 101, 3) := by decide +kernel
theorem dX5_leastNext_12 : decode cX5_leastNext 12 = .ok (.aload_n 0, 1) := by decide +kernel
theorem dX5_leastNext_13 : decode cX5_leastNext 13 = .ok (.getfield 22, 3) := by decide +kernel
theorem dX5_leastNext_16 : decode cX5_leastNext 16 = .ok (.aload_n 0, 1) := by decide +kernel
theorem dX5_leastNext_17 : decode cX5_leastNext 17 = .ok (.getfield 11, 3) := by decide +kernel
theorem dX5_leastNext_20 : decode cX5_leastNext 20 = .ok (.getfield 125, 3) := by decide +kernel
theorem dX5_leastNext_23 : decode cX5_leastNext 23 = .ok (.iload_n 2, 1) := by decide +kernel
theorem dX5_leastNext_24 : decode cX5_leastNext 24 = .ok (.iaload, 1) := by decide +kernel
theorem dX5_leastNext_25 : decode cX5_leastNext 25 = .ok (.invokevirtual 141, 3) := by decide +kernel
theorem dX5_leastNext_28 : decode cX5_leastNext 28 = .ok (.iconst 0, 1) := by decide +kernel
theorem dX5_leastNext_29 : decode cX5_leastNext 29 = .ok (.invokestatic 98, 3) := by decide +kernel
theorem dX5_leastNext_32 : decode cX5_leastNext 32 = .ok (.istore_n 3, 1) := by decide +kernel
theorem dX5_leastNext_33 : decode cX5_leastNext 33 = .ok (.aload_n 0, 1) := by decide +kernel
theorem dX5_leastNext_34 : decode cX5_leastNext 34 = .ok (.getfield 28, 3) := by decide +kernel
theorem dX5_leastNext_37 : decode cX5_leastNext 37 = .ok (.iload_n 1, 1) := by decide +kernel
theorem dX5_leastNext_38 : decode cX5_leastNext 38 = .ok (.aaload, 1) := by decide +kernel
theorem dX5_leastNext_39 : decode cX5_leastNext 39 = .ok (.iload_n 2, 1) := by decide +kernel
theorem dX5_leastNext_40 : decode cX5_leastNext 40 = .ok (.iaload, 1) := by decide +kernel
theorem dX5_leastNext_41 : decode cX5_leastNext 41 = .ok (.bipush 20, 2) := by decide +kernel
theorem dX5_leastNext_43 : decode cX5_leastNext 43 = .ok (.ishr, 1) := by decide +kernel
theorem dX5_leastNext_44 : decode cX5_leastNext 44 = .ok (.istore 4, 2) := by decide +kernel
theorem dX5_leastNext_46 : decode cX5_leastNext 46 = .ok (.sipush 2187, 3) := by decide +kernel
theorem dX5_leastNext_49 : decode cX5_leastNext 49 = .ok (.istore 5, 2) := by decide +kernel
theorem dX5_leastNext_51 : decode cX5_leastNext 51 = .ok (.aload_n 0, 1) := by decide +kernel
theorem dX5_leastNext_52 : decode cX5_leastNext 52 = .ok (.iload_n 2, 1) := by decide +kernel
theorem dX5_leastNext_53 : decode cX5_leastNext 53 = .ok (.bipush 67, 2) := by decide +kernel
theorem dX5_leastNext_55 : decode cX5_leastNext 55 = .ok (.iload_n 3, 1) := by decide +kernel
theorem dX5_leastNext_56 : decode cX5_leastNext 56 = .ok (.iconst (-1), 1) := by decide +kernel
theorem dX5_leastNext_57 : decode cX5_leastNext 57 = .ok (.ixor, 1) := by decide +kernel
theorem dX5_leastNext_58 : decode cX5_leastNext 58 = .ok (.iand, 1) := by decide +kernel
theorem dX5_leastNext_59 : decode cX5_leastNext 59 = .ok (.aload_n 0, 1) := by decide +kernel
theorem dX5_leastNext_60 : decode cX5_leastNext 60 = .ok (.getfield 48, 3) := by decide +kernel
theorem dX5_leastNext_63 : decode cX5_leastNext 63 = .ok (.invokevirtual 198, 3) := by decide +kernel
theorem dX5_leastNext_66 : decode cX5_leastNext 66 = .ok (.istore 6, 2) := by decide +kernel
theorem dX5_leastNext_68 : decode cX5_leastNext 68 = .ok (.iconst 0, 1) := by decide +kernel
theorem dX5_leastNext_69 : decode cX5_leastNext 69 = .ok (.istore 7, 2) := by decide +kernel
theorem dX5_leastNext_71 : decode cX5_leastNext 71 = .ok (.iload 7, 2) := by decide +kernel
theorem dX5_leastNext_73 : decode cX5_leastNext 73 = .ok (.iload 6, 2) := by decide +kernel
theorem dX5_leastNext_75 : decode cX5_leastNext 75 = .ok (.if_icmp .ge 113, 3) := by decide +kernel
theorem dX5_leastNext_78 : decode cX5_leastNext 78 = .ok (.aload_n 0, 1) := by decide +kernel
theorem dX5_leastNext_79 : decode cX5_leastNext 79 = .ok (.aload_n 0, 1) := by decide +kernel
theorem dX5_leastNext_80 : decode cX5_leastNext 80 = .ok (.getfield 48, 3) := by decide +kernel
theorem dX5_leastNext_83 : decode cX5_leastNext 83 = .ok (.iload 7, 2) := by decide +kernel
theorem dX5_leastNext_85 : decode cX5_leastNext 85 = .ok (.iaload, 1) := by decide +kernel
theorem dX5_leastNext_86 : decode cX5_leastNext 86 = .ok (.bipush 60, 2) := by decide +kernel
theorem dX5_leastNext_88 : decode cX5_leastNext 88 = .ok (.iload_n 3, 1) := by decide +kernel
theorem dX5_leastNext_89 : decode cX5_leastNext 89 = .ok (.iconst (-1), 1) := by decide +kernel
theorem dX5_leastNext_90 : decode cX5_leastNext 90 = .ok (.ixor, 1) := by decide +kernel
theorem dX5_leastNext_91 : decode cX5_leastNext 91 = .ok (.iand, 1) := by decide +kernel
theorem dX5_leastNext_92 : decode cX5_leastNext 92 = .ok (.aload_n 0, 1) := by decide +kernel
theorem dX5_leastNext_93 : decode cX5_leastNext 93 = .ok (.getfield 51, 3) := by decide +kernel
theorem dX5_leastNext_96 : decode cX5_leastNext 96 = .ok (.invokevirtual 198, 3) := by decide +kernel
theorem dX5_leastNext_99 : decode cX5_leastNext 99 = .ok (.istore 8, 2) := by decide +kernel
theorem dX5_leastNext_101 : decode cX5_leastNext 101 = .ok (.iconst 0, 1) := by decide +kernel
theorem dX5_leastNext_102 : decode cX5_leastNext 102 = .ok (.istore 9, 2) := by decide +kernel
theorem dX5_leastNext_104 : decode cX5_leastNext 104 = .ok (.iload 9, 2) := by decide +kernel
theorem dX5_leastNext_106 : decode cX5_leastNext 106 = .ok (.iload 8, 2) := by decide +kernel
theorem dX5_leastNext_108 : decode cX5_leastNext 108 = .ok (.if_icmp .ge 74, 3) := by decide +kernel
theorem dX5_leastNext_111 : decode cX5_leastNext 111 = .ok (.aload_n 0, 1) := by decide +kernel
theorem dX5_leastNext_112 : decode cX5_leastNext 112 = .ok (.getfield 51, 3) := by decide +kernel
theorem dX5_leastNext_115 : decode cX5_leastNext 115 = .ok (.iload 9, 2) := by decide +kernel
theorem dX5_leastNext_117 : decode cX5_leastNext 117 = .ok (.iaload, 1) := by decide +kernel
theorem dX5_leastNext_118 : decode cX5_leastNext 118 = .ok (.istore 10, 2) := by decide +kernel
theorem dX5_leastNext_120 : decode cX5_leastNext 120 = .ok (.iload 7, 2) := by decide +kernel
theorem dX5_leastNext_122 : decode cX5_leastNext 122 = .ok (.ifCond .le 7, 3) := by decide +kernel
theorem dX5_leastNext_125 : decode cX5_leastNext 125 = .ok (.iconst 1, 1) := by decide +kernel
theorem dX5_leastNext_126 : decode cX5_leastNext 126 = .ok (.goto 4, 3) := by decide +kernel
theorem dX5_leastNext_129 : decode cX5_leastNext 129 = .ok (.iconst 0, 1) := by decide +kernel
theorem dX5_leastNext_130 : decode cX5_leastNext 130 = .ok (.iload 9, 2) := by decide +kernel
theorem dX5_leastNext_132 : decode cX5_leastNext 132 = .ok (.ifCond .le 7, 3) := by decide +kernel
theorem dX5_leastNext_135 : decode cX5_leastNext 135 = .ok (.iconst 1, 1) := by decide +kernel
theorem dX5_leastNext_136 : decode cX5_leastNext 136 = .ok (.goto 4, 3) := by decide +kernel
theorem dX5_leastNext_139 : decode cX5_leastNext 139 = .ok (.iconst 0, 1) := by decide +kernel
theorem dX5_leastNext_140 : decode cX5_leastNext 140 = .ok (.iadd, 1) := by decide +kernel
theorem dX5_leastNext_141 : decode cX5_leastNext 141 = .ok (.istore 11, 2) := by decide +kernel
theorem dX5_leastNext_143 : decode cX5_leastNext 143 = .ok (.iload 10, 2) := by decide +kernel
theorem dX5_leastNext_145 : decode cX5_leastNext 145 = .ok (.iload 5, 2) := by decide +kernel
theorem dX5_leastNext_147 : decode cX5_leastNext 147 = .ok (.if_icmp .ge 29, 3) := by decide +kernel
theorem dX5_leastNext_150 : decode cX5_leastNext 150 = .ok (.iload 11, 2) := by decide +kernel
theorem dX5_leastNext_152 : decode cX5_leastNext 152 = .ok (.aload_n 0, 1) := by decide +kernel
theorem dX5_leastNext_153 : decode cX5_leastNext 153 = .ok (.getfield 28, 3) := by decide +kernel
theorem dX5_leastNext_156 : decode cX5_leastNext 156 = .ok (.iload_n 1, 1) := by decide +kernel
theorem dX5_leastNext_157 : decode cX5_leastNext 157 = .ok (.iconst 1, 1) := by decide +kernel
theorem dX5_leastNext_158 : decode cX5_leastNext 158 = .ok (.iadd, 1) := by decide +kernel
theorem dX5_leastNext_159 : decode cX5_leastNext 159 = .ok (.aaload, 1) := by decide +kernel
theorem dX5_leastNext_160 : decode cX5_leastNext 160 = .ok (.iload 10, 2) := by decide +kernel
theorem dX5_leastNext_162 : decode cX5_leastNext 162 = .ok (.iaload, 1) := by decide +kernel
theorem dX5_leastNext_163 : decode cX5_leastNext 163 = .ok (.bipush 20, 2) := by decide +kernel
theorem dX5_leastNext_165 : decode cX5_leastNext 165 = .ok (.ishr, 1) := by decide +kernel
theorem dX5_leastNext_166 : decode cX5_leastNext 166 = .ok (.iadd, 1) := by decide +kernel
theorem dX5_leastNext_167 : decode cX5_leastNext 167 = .ok (.iload 4, 2) := by decide +kernel
theorem dX5_leastNext_169 : decode cX5_leastNext 169 = .ok (.if_icmp .ne 7, 3) := by decide +kernel
theorem dX5_leastNext_172 : decode cX5_leastNext 172 = .ok (.iload 10, 2) := by decide +kernel
theorem dX5_leastNext_174 : decode cX5_leastNext 174 = .ok (.istore 5, 2) := by decide +kernel
theorem dX5_leastNext_176 : decode cX5_leastNext 176 = .ok (.iinc 9 1, 3) := by decide +kernel
theorem dX5_leastNext_179 : decode cX5_leastNext 179 = .ok (.goto (-75), 3) := by decide +kernel
theorem dX5_leastNext_182 : decode cX5_leastNext 182 = .ok (.iinc 7 1, 3) := by decide +kernel
theorem dX5_leastNext_185 : decode cX5_leastNext 185 = .ok (.goto (-114), 3) := by decide +kernel
theorem dX5_leastNext_188 : decode cX5_leastNext 188 = .ok (.iload 5, 2) := by decide +kernel
theorem dX5_leastNext_190 : decode cX5_leastNext 190 = .ok (.sipush 2187, 3) := by decide +kernel
theorem dX5_leastNext_193 : decode cX5_leastNext 193 = .ok (.if_icmp .ge 8, 3) := by decide +kernel
theorem dX5_leastNext_196 : decode cX5_leastNext 196 = .ok (.iload 5, 2) := by decide +kernel
theorem dX5_leastNext_198 : decode cX5_leastNext 198 = .ok (.goto 4, 3) := by decide +kernel
theorem dX5_leastNext_201 : decode cX5_leastNext 201 = .ok (.iload_n 2, 1) := by decide +kernel
theorem dX5_leastNext_202 : decode cX5_leastNext 202 = .ok (.ireturn, 1) := by decide +kernel
theorem dX5_makeArrival_0 : decode cX5_makeArrival 0 = .ok (.aload_n 0, 1) := by decide +kernel
theorem dX5_makeArrival_1 : decode cX5_makeArrival 1 = .ok (.getfield 61, 3) := by decide +kernel
theorem dX5_makeArrival_4 : decode cX5_makeArrival 4 = .ok (.iconst 1, 1) := by decide +kernel
theorem dX5_makeArrival_5 : decode cX5_makeArrival 5 = .ok (.iadd, 1) := by decide +kernel
theorem dX5_makeArrival_6 : decode cX5_makeArrival 6 = .ok (.istore_n 2, 1) := by decide +kernel
theorem dX5_makeArrival_7 : decode cX5_makeArrival 7 = .ok (.iload_n 2, 1) := by decide +kernel
theorem dX5_makeArrival_8 : decode cX5_makeArrival 8 = .ok (.iload_n 1, 1) := by decide +kernel
theorem dX5_makeArrival_9 : decode cX5_makeArrival 9 = .ok (.if_icmp .gt 117, 3) := by decide +kernel
theorem dX5_makeArrival_12 : decode cX5_makeArrival 12 = .ok (.iload_n 2, 1) := by decide +kernel
theorem dX5_makeArrival_13 : decode cX5_makeArrival 13 = .ok (.ifCond .ne 10, 3) := by decide +kernel
theorem dX5_makeArrival_16 : decode cX5_makeArrival 16 = .ok (.aload_n 0, 1) := by decide +kernel
theorem dX5_makeArrival_17 : decode cX5_makeArrival 17 = .ok (.invokevirtual 211, 3) := by decide +kernel
theorem dX5_makeArrival_20 : decode cX5_makeArrival 20 = .ok (.goto 100, 3) := by decide +kernel
theorem dX5_makeArrival_23 : decode cX5_makeArrival 23 = .ok (.aload_n 0, 1) := by decide +kernel
theorem dX5_makeArrival_24 : decode cX5_makeArrival 24 = .ok (.getfield 22, 3) := by decide +kernel
theorem dX5_makeArrival_27 : decode cX5_makeArrival 27 = .ok (.aload_n 0, 1) := by decide +kernel
theorem dX5_makeArrival_28 : decode cX5_makeArrival 28 = .ok (.getfield 15, 3) := by decide +kernel
theorem dX5_makeArrival_31 : decode cX5_makeArrival 31 = .ok (.iload_n 2, 1) := by decide +kernel
theorem dX5_makeArrival_32 : decode cX5_makeArrival 32 = .ok (.iconst 1, 1) := by decide +kernel
theorem dX5_makeArrival_33 : decode cX5_makeArrival 33 = .ok (.isub, 1) := by decide +kernel
theorem dX5_makeArrival_34 : decode cX5_makeArrival 34 = .ok (.invokevirtual 101, 3) := by decide +kernel
theorem dX5_makeArrival_37 : decode cX5_makeArrival 37 = .ok (.aload_n 0, 1) := by decide +kernel
theorem dX5_makeArrival_38 : decode cX5_makeArrival 38 = .ok (.getfield 35, 3) := by decide +kernel
theorem dX5_makeArrival_41 : decode cX5_makeArrival 41 = .ok (.iload_n 2, 1) := by decide +kernel
theorem dX5_makeArrival_42 : decode cX5_makeArrival 42 = .ok (.iconst 1, 1) := by decide +kernel
theorem dX5_makeArrival_43 : decode cX5_makeArrival 43 = .ok (.isub, 1) := by decide +kernel
theorem dX5_makeArrival_44 : decode cX5_makeArrival 44 = .ok (.aaload, 1) := by decide +kernel
theorem dX5_makeArrival_45 : decode cX5_makeArrival 45 = .ok (.iconst 0, 1) := by decide +kernel
theorem dX5_makeArrival_46 : decode cX5_makeArrival 46 = .ok (.aload_n 0, 1) := by decide +kernel
theorem dX5_makeArrival_47 : decode cX5_makeArrival 47 = .ok (.getfield 38, 3) := by decide +kernel
theorem dX5_makeArrival_50 : decode cX5_makeArrival 50 = .ok (.iconst 0, 1) := by decide +kernel
theorem dX5_makeArrival_51 : decode cX5_makeArrival 51 = .ok (.sipush 2187, 3) := by decide +kernel
theorem dX5_makeArrival_54 : decode cX5_makeArrival 54 = .ok (.invokestatic 163, 3) := by decide +kernel
theorem dX5_makeArrival_57 : decode cX5_makeArrival 57 = .ok (.aload_n 0, 1) := by decide +kernel
theorem dX5_makeArrival_58 : decode cX5_makeArrival 58 = .ok (.aload_n 0, 1) := by decide +kernel
theorem dX5_makeArrival_59 : decode cX5_makeArrival 59 = .ok (.getfield 38, 3) := by decide +kernel
theorem dX5_makeArrival_62 : decode cX5_makeArrival 62 = .ok (.invokevirtual 181, 3) := by decide +kernel
theorem dX5_makeArrival_65 : decode cX5_makeArrival 65 = .ok (.aload_n 0, 1) := by decide +kernel
theorem dX5_makeArrival_66 : decode cX5_makeArrival 66 = .ok (.getfield 22, 3) := by decide +kernel
theorem dX5_makeArrival_69 : decode cX5_makeArrival 69 = .ok (.invokevirtual 169, 3) := by decide +kernel
theorem dX5_makeArrival_72 : decode cX5_makeArrival 72 = .ok (.ifCond .eq 34, 3) := by decide +kernel
theorem dX5_makeArrival_75 : decode cX5_makeArrival 75 = .ok (.aload_n 0, 1) := by decide +kernel
theorem dX5_makeArrival_76 : decode cX5_makeArrival 76 = .ok (.getfield 38, 3) := by decide +kernel
theorem dX5_makeArrival_79 : decode cX5_makeArrival 79 = .ok (.bipush 60, 2) := by decide +kernel
theorem dX5_makeArrival_81 : decode cX5_makeArrival 81 = .ok (.aload_n 0, 1) := by decide +kernel
theorem dX5_makeArrival_82 : decode cX5_makeArrival 82 = .ok (.getfield 45, 3) := by decide +kernel
theorem dX5_makeArrival_85 : decode cX5_makeArrival 85 = .ok (.invokestatic 173, 3) := by decide +kernel
theorem dX5_makeArrival_88 : decode cX5_makeArrival 88 = .ok (.aload_n 0, 1) := by decide +kernel
theorem dX5_makeArrival_89 : decode cX5_makeArrival 89 = .ok (.getfield 45, 3) := by decide +kernel
theorem dX5_makeArrival_92 : decode cX5_makeArrival 92 = .ok (.bipush 67, 2) := by decide +kernel
theorem dX5_makeArrival_94 : decode cX5_makeArrival 94 = .ok (.aload_n 0, 1) := by decide +kernel
theorem dX5_makeArrival_95 : decode cX5_makeArrival 95 = .ok (.getfield 35, 3) := by decide +kernel
theorem dX5_makeArrival_98 : decode cX5_makeArrival 98 = .ok (.iload_n 2, 1) := by decide +kernel
theorem dX5_makeArrival_99 : decode cX5_makeArrival 99 = .ok (.aaload, 1) := by decide +kernel
theorem dX5_makeArrival_100 : decode cX5_makeArrival 100 = .ok (.invokestatic 173, 3) := by decide +kernel
theorem dX5_makeArrival_103 : decode cX5_makeArrival 103 = .ok (.goto 17, 3) := by decide +kernel
theorem dX5_makeArrival_106 : decode cX5_makeArrival 106 = .ok (.aload_n 0, 1) := by decide +kernel
theorem dX5_makeArrival_107 : decode cX5_makeArrival 107 = .ok (.aload_n 0, 1) := by decide +kernel
theorem dX5_makeArrival_108 : decode cX5_makeArrival 108 = .ok (.getfield 38, 3) := by decide +kernel
theorem dX5_makeArrival_111 : decode cX5_makeArrival 111 = .ok (.aload_n 0, 1) := by decide +kernel
theorem dX5_makeArrival_112 : decode cX5_makeArrival 112 = .ok (.getfield 35, 3) := by decide +kernel
theorem dX5_makeArrival_115 : decode cX5_makeArrival 115 = .ok (.iload_n 2, 1) := by decide +kernel
theorem dX5_makeArrival_116 : decode cX5_makeArrival 116 = .ok (.aaload, 1) := by decide +kernel
theorem dX5_makeArrival_117 : decode cX5_makeArrival 117 = .ok (.invokevirtual 214, 3) := by decide +kernel
theorem dX5_makeArrival_120 : decode cX5_makeArrival 120 = .ok (.iinc 2 1, 3) := by decide +kernel
theorem dX5_makeArrival_123 : decode cX5_makeArrival 123 = .ok (.goto (-116), 3) := by decide +kernel
theorem dX5_makeArrival_126 : decode cX5_makeArrival 126 = .ok (.aload_n 0, 1) := by decide +kernel
theorem dX5_makeArrival_127 : decode cX5_makeArrival 127 = .ok (.aload_n 0, 1) := by decide +kernel
theorem dX5_makeArrival_128 : decode cX5_makeArrival 128 = .ok (.getfield 61, 3) := by decide +kernel
theorem dX5_makeArrival_131 : decode cX5_makeArrival 131 = .ok (.iload_n 1, 1) := by decide +kernel
theorem dX5_makeArrival_132 : decode cX5_makeArrival 132 = .ok (.invokestatic 98, 3) := by decide +kernel
theorem dX5_makeArrival_135 : decode cX5_makeArrival 135 = .ok (.putfield 61, 3) := by decide +kernel
theorem dX5_makeArrival_138 : decode cX5_makeArrival 138 = .ok (.return_, 1) := by decide +kernel
theorem dX5_fillFirstArrival_0 : decode cX5_fillFirstArrival 0 = .ok (.iconst 0, 1) := by decide +kernel
theorem dX5_fillFirstArrival_1 : decode cX5_fillFirstArrival 1 = .ok (.istore_n 1, 1) := by decide +kernel
theorem dX5_fillFirstArrival_2 : decode cX5_fillFirstArrival 2 = .ok (.iload_n 1, 1) := by decide +kernel
theorem dX5_fillFirstArrival_3 : decode cX5_fillFirstArrival 3 = .ok (.sipush 2187, 3) := by decide +kernel
theorem dX5_fillFirstArrival_6 : decode cX5_fillFirstArrival 6 = .ok (.if_icmp .ge 110, 3) := by decide +kernel
theorem dX5_fillFirstArrival_9 : decode cX5_fillFirstArrival 9 = .ok (.aload_n 0, 1) := by decide +kernel
theorem dX5_fillFirstArrival_10 : decode cX5_fillFirstArrival 10 = .ok (.aload_n 0, 1) := by decide +kernel
theorem dX5_fillFirstArrival_11 : decode cX5_fillFirstArrival 11 = .ok (.getfield 11, 3) := by decide +kernel
theorem dX5_fillFirstArrival_14 : decode cX5_fillFirstArrival 14 = .ok (.getfield 125, 3) := by decide +kernel
theorem dX5_fillFirstArrival_17 : decode cX5_fillFirstArrival 17 = .ok (.iload_n 1, 1) := by decide +kernel
theorem dX5_fillFirstArrival_18 : decode cX5_fillFirstArrival 18 = .ok (.iaload, 1) := by decide +kernel
theorem dX5_fillFirstArrival_19 : decode cX5_fillFirstArrival 19 = .ok (.invokevirtual 130, 3) := by decide +kernel
theorem dX5_fillFirstArrival_22 : decode cX5_fillFirstArrival 22 = .ok (.istore_n 2, 1) := by decide +kernel
theorem dX5_fillFirstArrival_23 : decode cX5_fillFirstArrival 23 = .ok (.iconst 0, 1) := by decide +kernel
theorem dX5_fillFirstArrival_24 : decode cX5_fillFirstArrival 24 = .ok (.istore_n 3, 1) := by decide +kernel
theorem dX5_fillFirstArrival_25 : decode cX5_fillFirstArrival 25 = .ok (.iconst 0, 1) := by decide +kernel
theorem dX5_fillFirstArrival_26 : decode cX5_fillFirstArrival 26 = .ok (.istore 4, 2) := by decide +kernel
theorem dX5_fillFirstArrival_28 : decode cX5_fillFirstArrival 28 = .ok (.iconst 0, 1) := by decide +kernel
theorem dX5_fillFirstArrival_29 : decode cX5_fillFirstArrival 29 = .ok (.istore 5, 2) := by decide +kernel
theorem dX5_fillFirstArrival_31 : decode cX5_fillFirstArrival 31 = .ok (.iload 5, 2) := by decide +kernel
theorem dX5_fillFirstArrival_33 : decode cX5_fillFirstArrival 33 = .ok (.bipush 7, 2) := by decide +kernel
theorem dX5_fillFirstArrival_35 : decode cX5_fillFirstArrival 35 = .ok (.if_icmp .ge 44, 3) := by decide +kernel
theorem dX5_fillFirstArrival_38 : decode cX5_fillFirstArrival 38 = .ok (.iload_n 2, 1) := by decide +kernel
theorem dX5_fillFirstArrival_39 : decode cX5_fillFirstArrival 39 = .ok (.ifCond .eq 40, 3) := by decide +kernel
theorem dX5_fillFirstArrival_42 : decode cX5_fillFirstArrival 42 = .ok (.iload_n 2, 1) := by decide +kernel
theorem dX5_fillFirstArrival_43 : decode cX5_fillFirstArrival 43 = .ok (.iload 5, 2) := by decide +kernel
theorem dX5_fillFirstArrival_45 : decode cX5_fillFirstArrival 45 = .ok (.invokestatic 134, 3) := by decide +kernel
theorem dX5_fillFirstArrival_48 : decode cX5_fillFirstArrival 48 = .ok (.ifCond .eq 25, 3) := by decide +kernel
theorem dX5_fillFirstArrival_51 : decode cX5_fillFirstArrival 51 = .ok (.iload_n 3, 1) := by decide +kernel
theorem dX5_fillFirstArrival_52 : decode cX5_fillFirstArrival 52 = .ok (.bipush 67, 2) := by decide +kernel
theorem dX5_fillFirstArrival_54 : decode cX5_fillFirstArrival 54 = .ok (.iload 5, 2) := by decide +kernel
theorem dX5_fillFirstArrival_56 : decode cX5_fillFirstArrival 56 = .ok (.ishr, 1) := by decide +kernel
theorem dX5_fillFirstArrival_57 : decode cX5_fillFirstArrival 57 = .ok (.iconst 1, 1) := by decide +kernel
theorem dX5_fillFirstArrival_58 : decode cX5_fillFirstArrival 58 = .ok (.iand, 1) := by decide +kernel
theorem dX5_fillFirstArrival_59 : decode cX5_fillFirstArrival 59 = .ok (.iadd, 1) := by decide +kernel
theorem dX5_fillFirstArrival_60 : decode cX5_fillFirstArrival 60 = .ok (.istore_n 3, 1) := by decide +kernel
theorem dX5_fillFirstArrival_61 : decode cX5_fillFirstArrival 61 = .ok (.iload 4, 2) := by decide +kernel
theorem dX5_fillFirstArrival_63 : decode cX5_fillFirstArrival 63 = .ok (.bipush 60, 2) := by decide +kernel
theorem dX5_fillFirstArrival_65 : decode cX5_fillFirstArrival 65 = .ok (.iload 5, 2) := by decide +kernel
theorem dX5_fillFirstArrival_67 : decode cX5_fillFirstArrival 67 = .ok (.ishr, 1) := by decide +kernel
theorem dX5_fillFirstArrival_68 : decode cX5_fillFirstArrival 68 = .ok (.iconst 1, 1) := by decide +kernel
theorem dX5_fillFirstArrival_69 : decode cX5_fillFirstArrival 69 = .ok (.iand, 1) := by decide +kernel
theorem dX5_fillFirstArrival_70 : decode cX5_fillFirstArrival 70 = .ok (.iadd, 1) := by decide +kernel
theorem dX5_fillFirstArrival_71 : decode cX5_fillFirstArrival 71 = .ok (.istore 4, 2) := by decide +kernel
theorem dX5_fillFirstArrival_73 : decode cX5_fillFirstArrival 73 = .ok (.iinc 5 1, 3) := by decide +kernel
theorem dX5_fillFirstArrival_76 : decode cX5_fillFirstArrival 76 = .ok (.goto (-45), 3) := by decide +kernel
theorem dX5_fillFirstArrival_79 : decode cX5_fillFirstArrival 79 = .ok (.aload_n 0, 1) := by decide +kernel
theorem dX5_fillFirstArrival_80 : decode cX5_fillFirstArrival 80 = .ok (.getfield 35, 3) := by decide +kernel
theorem dX5_fillFirstArrival_83 : decode cX5_fillFirstArrival 83 = .ok (.iconst 0, 1) := by decide +kernel
theorem dX5_fillFirstArrival_84 : decode cX5_fillFirstArrival 84 = .ok (.aaload, 1) := by decide +kernel
theorem dX5_fillFirstArrival_85 : decode cX5_fillFirstArrival 85 = .ok (.iload_n 1, 1) := by decide +kernel
theorem dX5_fillFirstArrival_86 : decode cX5_fillFirstArrival 86 = .ok (.iload_n 3, 1) := by decide +kernel
theorem dX5_fillFirstArrival_87 : decode cX5_fillFirstArrival 87 = .ok (.iconst 1, 1) := by decide +kernel
theorem dX5_fillFirstArrival_88 : decode cX5_fillFirstArrival 88 = .ok (.if_icmp .gt 9, 3) := by decide +kernel
theorem dX5_fillFirstArrival_91 : decode cX5_fillFirstArrival 91 = .ok (.iload 4, 2) := by decide +kernel
theorem dX5_fillFirstArrival_93 : decode cX5_fillFirstArrival 93 = .ok (.iconst 1, 1) := by decide +kernel
theorem dX5_fillFirstArrival_94 : decode cX5_fillFirstArrival 94 = .ok (.if_icmp .le 8, 3) := by decide +kernel
theorem dX5_fillFirstArrival_97 : decode cX5_fillFirstArrival 97 = .ok (.ldc 68, 2) := by decide +kernel
theorem dX5_fillFirstArrival_99 : decode cX5_fillFirstArrival 99 = .ok (.goto 10, 3) := by decide +kernel
theorem dX5_fillFirstArrival_102 : decode cX5_fillFirstArrival 102 = .ok (.iload_n 3, 1) := by decide +kernel
theorem dX5_fillFirstArrival_103 : decode cX5_fillFirstArrival 103 = .ok (.iload 4, 2) := by decide +kernel
theorem dX5_fillFirstArrival_105 : decode cX5_fillFirstArrival 105 = .ok (.iadd, 1) := by decide +kernel
theorem dX5_fillFirstArrival_106 : decode cX5_fillFirstArrival 106 = .ok (.ldc 154, 2) := by decide +kernel
theorem dX5_fillFirstArrival_108 : decode cX5_fillFirstArrival 108 = .ok (.imul, 1) := by decide +kernel
theorem dX5_fillFirstArrival_109 : decode cX5_fillFirstArrival 109 = .ok (.iastore, 1) := by decide +kernel
theorem dX5_fillFirstArrival_110 : decode cX5_fillFirstArrival 110 = .ok (.iinc 1 1, 3) := by decide +kernel
theorem dX5_fillFirstArrival_113 : decode cX5_fillFirstArrival 113 = .ok (.goto (-111), 3) := by decide +kernel
theorem dX5_fillFirstArrival_116 : decode cX5_fillFirstArrival 116 = .ok (.return_, 1) := by decide +kernel
theorem dX5_unlikeStart_0 : decode cX5_unlikeStart 0 = .ok (.iconst 0, 1) := by decide +kernel
theorem dX5_unlikeStart_1 : decode cX5_unlikeStart 1 = .ok (.istore_n 2, 1) := by decide +kernel
theorem dX5_unlikeStart_2 : decode cX5_unlikeStart 2 = .ok (.iconst 0, 1) := by decide +kernel
theorem dX5_unlikeStart_3 : decode cX5_unlikeStart 3 = .ok (.istore_n 3, 1) := by decide +kernel
theorem dX5_unlikeStart_4 : decode cX5_unlikeStart 4 = .ok (.iload_n 3, 1) := by decide +kernel
theorem dX5_unlikeStart_5 : decode cX5_unlikeStart 5 = .ok (.bipush 7, 2) := by decide +kernel
theorem dX5_unlikeStart_7 : decode cX5_unlikeStart 7 = .ok (.if_icmp .ge 41, 3) := by decide +kernel
theorem dX5_unlikeStart_10 : decode cX5_unlikeStart 10 = .ok (.aload_n 0, 1) := by decide +kernel
theorem dX5_unlikeStart_11 : decode cX5_unlikeStart 11 = .ok (.getfield 15, 3) := by decide +kernel
theorem dX5_unlikeStart_14 : decode cX5_unlikeStart 14 = .ok (.getfield 217, 3) := by decide +kernel
theorem dX5_unlikeStart_17 : decode cX5_unlikeStart 17 = .ok (.iload_n 3, 1) := by decide +kernel
theorem dX5_unlikeStart_18 : decode cX5_unlikeStart 18 = .ok (.iaload, 1) := by decide +kernel
theorem dX5_unlikeStart_19 : decode cX5_unlikeStart 19 = .ok (.istore 4, 2) := by decide +kernel
theorem dX5_unlikeStart_21 : decode cX5_unlikeStart 21 = .ok (.iload 4, 2) := by decide +kernel
theorem dX5_unlikeStart_23 : decode cX5_unlikeStart 23 = .ok (.ifCond .lt 19, 3) := by decide +kernel
theorem dX5_unlikeStart_26 : decode cX5_unlikeStart 26 = .ok (.iload_n 2, 1) := by decide +kernel
theorem dX5_unlikeStart_27 : decode cX5_unlikeStart 27 = .ok (.iload_n 1, 1) := by decide +kernel
theorem dX5_unlikeStart_28 : decode cX5_unlikeStart 28 = .ok (.iload 4, 2) := by decide +kernel
theorem dX5_unlikeStart_30 : decode cX5_unlikeStart 30 = .ok (.iconst 2, 1) := by decide +kernel
theorem dX5_unlikeStart_31 : decode cX5_unlikeStart 31 = .ok (.iload_n 3, 1) := by decide +kernel
theorem dX5_unlikeStart_32 : decode cX5_unlikeStart 32 = .ok (.imul, 1) := by decide +kernel
theorem dX5_unlikeStart_33 : decode cX5_unlikeStart 33 = .ok (.ishl, 1) := by decide +kernel
theorem dX5_unlikeStart_34 : decode cX5_unlikeStart 34 = .ok (.ixor, 1) := by decide +kernel
theorem dX5_unlikeStart_35 : decode cX5_unlikeStart 35 = .ok (.iload_n 3, 1) := by decide +kernel
theorem dX5_unlikeStart_36 : decode cX5_unlikeStart 36 = .ok (.invokestatic 220, 3) := by decide +kernel
theorem dX5_unlikeStart_39 : decode cX5_unlikeStart 39 = .ok (.iand, 1) := by decide +kernel
theorem dX5_unlikeStart_40 : decode cX5_unlikeStart 40 = .ok (.ior, 1) := by decide +kernel
theorem dX5_unlikeStart_41 : decode cX5_unlikeStart 41 = .ok (.istore_n 2, 1) := by decide +kernel
theorem dX5_unlikeStart_42 : decode cX5_unlikeStart 42 = .ok (.iinc 3 1, 3) := by decide +kernel
theorem dX5_unlikeStart_45 : decode cX5_unlikeStart 45 = .ok (.goto (-41), 3) := by decide +kernel
theorem dX5_unlikeStart_48 : decode cX5_unlikeStart 48 = .ok (.iload_n 2, 1) := by decide +kernel
theorem dX5_unlikeStart_49 : decode cX5_unlikeStart 49 = .ok (.ireturn, 1) := by decide +kernel
theorem dX5_fillLockedArrival_0 : decode cX5_fillLockedArrival 0 = .ok (.aload_n 2, 1) := by decide +kernel
theorem dX5_fillLockedArrival_1 : decode cX5_fillLockedArrival 1 = .ok (.ldc 68, 2) := by decide +kernel
theorem dX5_fillLockedArrival_3 : decode cX5_fillLockedArrival 3 = .ok (.invokestatic 157, 3) := by decide +kernel
theorem dX5_fillLockedArrival_6 : decode cX5_fillLockedArrival 6 = .ok (.aload_n 0, 1) := by decide +kernel
theorem dX5_fillLockedArrival_7 : decode cX5_fillLockedArrival 7 = .ok (.getfield 42, 3) := by decide +kernel
theorem dX5_fillLockedArrival_10 : decode cX5_fillLockedArrival 10 = .ok (.ldc 68, 2) := by decide +kernel
theorem dX5_fillLockedArrival_12 : decode cX5_fillLockedArrival 12 = .ok (.invokestatic 157, 3) := by decide +kernel
theorem dX5_fillLockedArrival_15 : decode cX5_fillLockedArrival 15 = .ok (.aload_n 0, 1) := by decide +kernel
theorem dX5_fillLockedArrival_16 : decode cX5_fillLockedArrival 16 = .ok (.getfield 45, 3) := by decide +kernel
theorem dX5_fillLockedArrival_19 : decode cX5_fillLockedArrival 19 = .ok (.ldc 68, 2) := by decide +kernel
theorem dX5_fillLockedArrival_21 : decode cX5_fillLockedArrival 21 = .ok (.invokestatic 157, 3) := by decide +kernel
theorem dX5_fillLockedArrival_24 : decode cX5_fillLockedArrival 24 = .ok (.iconst 0, 1) := by decide +kernel
theorem dX5_fillLockedArrival_25 : decode cX5_fillLockedArrival 25 = .ok (.istore_n 3, 1) := by decide +kernel
theorem dX5_fillLockedArrival_26 : decode cX5_fillLockedArrival 26 = .ok (.iload_n 3, 1) := by decide +kernel
theorem dX5_fillLockedArrival_27 : decode cX5_fillLockedArrival 27 = .ok (.sipush 2187, 3) := by decide +kernel
theorem dX5_fillLockedArrival_30 : decode cX5_fillLockedArrival 30 = .ok (.if_icmp .ge 109, 3) := by decide +kernel
theorem dX5_fillLockedArrival_33 : decode cX5_fillLockedArrival 33 = .ok (.aload_n 1, 1) := by decide +kernel
theorem dX5_fillLockedArrival_34 : decode cX5_fillLockedArrival 34 = .ok (.iload_n 3, 1) := by decide +kernel
theorem dX5_fillLockedArrival_35 : decode cX5_fillLockedArrival 35 = .ok (.iaload, 1) := by decide +kernel
theorem dX5_fillLockedArrival_36 : decode cX5_fillLockedArrival 36 = .ok (.ldc 68, 2) := by decide +kernel
theorem dX5_fillLockedArrival_38 : decode cX5_fillLockedArrival 38 = .ok (.if_icmp .lt 6, 3) := by decide +kernel
theorem dX5_fillLockedArrival_41 : decode cX5_fillLockedArrival 41 = .ok (.goto 92, 3) := by decide +kernel
theorem dX5_fillLockedArrival_44 : decode cX5_fillLockedArrival 44 = .ok (.aload_n 0, 1) := by decide +kernel
theorem dX5_fillLockedArrival_45 : decode cX5_fillLockedArrival 45 = .ok (.getfield 22, 3) := by decide +kernel
theorem dX5_fillLockedArrival_48 : decode cX5_fillLockedArrival 48 = .ok (.aload_n 0, 1) := by decide +kernel
theorem dX5_fillLockedArrival_49 : decode cX5_fillLockedArrival 49 = .ok (.getfield 11, 3) := by decide +kernel
theorem dX5_fillLockedArrival_52 : decode cX5_fillLockedArrival 52 = .ok (.getfield 125, 3) := by decide +kernel
theorem dX5_fillLockedArrival_55 : decode cX5_fillLockedArrival 55 = .ok (.iload_n 3, 1) := by decide +kernel
theorem dX5_fillLockedArrival_56 : decode cX5_fillLockedArrival 56 = .ok (.iaload, 1) := by decide +kernel
theorem dX5_fillLockedArrival_57 : decode cX5_fillLockedArrival 57 = .ok (.invokevirtual 141, 3) := by decide +kernel
theorem dX5_fillLockedArrival_60 : decode cX5_fillLockedArrival 60 = .ok (.istore 4, 2) := by decide +kernel
theorem dX5_fillLockedArrival_62 : decode cX5_fillLockedArrival 62 = .ok (.iload 4, 2) := by decide +kernel
theorem dX5_fillLockedArrival_64 : decode cX5_fillLockedArrival 64 = .ok (.bipush 60, 2) := by decide +kernel
theorem dX5_fillLockedArrival_66 : decode cX5_fillLockedArrival 66 = .ok (.iand, 1) := by decide +kernel
theorem dX5_fillLockedArrival_67 : decode cX5_fillLockedArrival 67 = .ok (.ifCond .ne 25, 3) := by decide +kernel
theorem dX5_fillLockedArrival_70 : decode cX5_fillLockedArrival 70 = .ok (.aload_n 0, 1) := by decide +kernel
theorem dX5_fillLockedArrival_71 : decode cX5_fillLockedArrival 71 = .ok (.aload_n 1, 1) := by decide +kernel
theorem dX5_fillLockedArrival_72 : decode cX5_fillLockedArrival 72 = .ok (.iload_n 3, 1) := by decide +kernel
theorem dX5_fillLockedArrival_73 : decode cX5_fillLockedArrival 73 = .ok (.iaload, 1) := by decide +kernel
theorem dX5_fillLockedArrival_74 : decode cX5_fillLockedArrival 74 = .ok (.iload_n 3, 1) := by decide +kernel
theorem dX5_fillLockedArrival_75 : decode cX5_fillLockedArrival 75 = .ok (.bipush 67, 2) := by decide +kernel
theorem dX5_fillLockedArrival_77 : decode cX5_fillLockedArrival 77 = .ok (.iload 4, 2) := by decide +kernel
theorem dX5_fillLockedArrival_79 : decode cX5_fillLockedArrival 79 = .ok (.iconst (-1), 1) := by decide +kernel
theorem dX5_fillLockedArrival_80 : decode cX5_fillLockedArrival 80 = .ok (.ixor, 1) := by decide +kernel
theorem dX5_fillLockedArrival_81 : decode cX5_fillLockedArrival 81 = .ok (.iand, 1) := by decide +kernel
theorem dX5_fillLockedArrival_82 : decode cX5_fillLockedArrival 82 = .ok (.aload_n 0, 1) := by decide +kernel
theorem dX5_fillLockedArrival_83 : decode cX5_fillLockedArrival 83 = .ok (.getfield 42, 3) := by decide +kernel
theorem dX5_fillLockedArrival_86 : decode cX5_fillLockedArrival 86 = .ok (.invokevirtual 223, 3) := by decide +kernel
theorem dX5_fillLockedArrival_89 : decode cX5_fillLockedArrival 89 = .ok (.goto 44, 3) := by decide +kernel
theorem dX5_fillLockedArrival_92 : decode cX5_fillLockedArrival 92 = .ok (.iload 4, 2) := by decide +kernel
theorem dX5_fillLockedArrival_94 : decode cX5_fillLockedArrival 94 = .ok (.bipush 67, 2) := by decide +kernel
theorem dX5_fillLockedArrival_96 : decode cX5_fillLockedArrival 96 = .ok (.iand, 1) := by decide +kernel
theorem dX5_fillLockedArrival_97 : decode cX5_fillLockedArrival 97 = .ok (.ifCond .ne 25, 3) := by decide +kernel
theorem dX5_fillLockedArrival_100 : decode cX5_fillLockedArrival 100 = .ok (.aload_n 0, 1) := by decide +kernel
theorem dX5_fillLockedArrival_101 : decode cX5_fillLockedArrival 101 = .ok (.aload_n 1, 1) := by decide +kernel
theorem dX5_fillLockedArrival_102 : decode cX5_fillLockedArrival 102 = .ok (.iload_n 3, 1) := by decide +kernel
theorem dX5_fillLockedArrival_103 : decode cX5_fillLockedArrival 103 = .ok (.iaload, 1) := by decide +kernel
theorem dX5_fillLockedArrival_104 : decode cX5_fillLockedArrival 104 = .ok (.iload_n 3, 1) := by decide +kernel
theorem dX5_fillLockedArrival_105 : decode cX5_fillLockedArrival 105 = .ok (.bipush 60, 2) := by decide +kernel
theorem dX5_fillLockedArrival_107 : decode cX5_fillLockedArrival 107 = .ok (.iload 4, 2) := by decide +kernel
theorem dX5_fillLockedArrival_109 : decode cX5_fillLockedArrival 109 = .ok (.iconst (-1), 1) := by decide +kernel
theorem dX5_fillLockedArrival_110 : decode cX5_fillLockedArrival 110 = .ok (.ixor, 1) := by decide +kernel
theorem dX5_fillLockedArrival_111 : decode cX5_fillLockedArrival 111 = .ok (.iand, 1) := by decide +kernel
theorem dX5_fillLockedArrival_112 : decode cX5_fillLockedArrival 112 = .ok (.aload_n 0, 1) := by decide +kernel
theorem dX5_fillLockedArrival_113 : decode cX5_fillLockedArrival 113 = .ok (.getfield 45, 3) := by decide +kernel
theorem dX5_fillLockedArrival_116 : decode cX5_fillLockedArrival 116 = .ok (.invokevirtual 223, 3) := by decide +kernel
theorem dX5_fillLockedArrival_119 : decode cX5_fillLockedArrival 119 = .ok (.goto 14, 3) := by decide +kernel
theorem dX5_fillLockedArrival_122 : decode cX5_fillLockedArrival 122 = .ok (.aload_n 0, 1) := by decide +kernel
theorem dX5_fillLockedArrival_123 : decode cX5_fillLockedArrival 123 = .ok (.aload_n 1, 1) := by decide +kernel
theorem dX5_fillLockedArrival_124 : decode cX5_fillLockedArrival 124 = .ok (.iload_n 3, 1) := by decide +kernel
theorem dX5_fillLockedArrival_125 : decode cX5_fillLockedArrival 125 = .ok (.iaload, 1) := by decide +kernel
theorem dX5_fillLockedArrival_126 : decode cX5_fillLockedArrival 126 = .ok (.iload_n 3, 1) := by decide +kernel
theorem dX5_fillLockedArrival_127 : decode cX5_fillLockedArrival 127 = .ok (.iload 4, 2) := by decide +kernel
theorem dX5_fillLockedArrival_129 : decode cX5_fillLockedArrival 129 = .ok (.aload_n 2, 1) := by decide +kernel
theorem dX5_fillLockedArrival_130 : decode cX5_fillLockedArrival 130 = .ok (.invokevirtual 227, 3) := by decide +kernel
theorem dX5_fillLockedArrival_133 : decode cX5_fillLockedArrival 133 = .ok (.iinc 3 1, 3) := by decide +kernel
theorem dX5_fillLockedArrival_136 : decode cX5_fillLockedArrival 136 = .ok (.goto (-110), 3) := by decide +kernel
theorem dX5_fillLockedArrival_139 : decode cX5_fillLockedArrival 139 = .ok (.aload_n 0, 1) := by decide +kernel
theorem dX5_fillLockedArrival_140 : decode cX5_fillLockedArrival 140 = .ok (.getfield 42, 3) := by decide +kernel
theorem dX5_fillLockedArrival_143 : decode cX5_fillLockedArrival 143 = .ok (.bipush 60, 2) := by decide +kernel
theorem dX5_fillLockedArrival_145 : decode cX5_fillLockedArrival 145 = .ok (.aload_n 0, 1) := by decide +kernel
theorem dX5_fillLockedArrival_146 : decode cX5_fillLockedArrival 146 = .ok (.getfield 38, 3) := by decide +kernel
theorem dX5_fillLockedArrival_149 : decode cX5_fillLockedArrival 149 = .ok (.invokestatic 173, 3) := by decide +kernel
theorem dX5_fillLockedArrival_152 : decode cX5_fillLockedArrival 152 = .ok (.aload_n 2, 1) := by decide +kernel
theorem dX5_fillLockedArrival_153 : decode cX5_fillLockedArrival 153 = .ok (.aload_n 0, 1) := by decide +kernel
theorem dX5_fillLockedArrival_154 : decode cX5_fillLockedArrival 154 = .ok (.getfield 38, 3) := by decide +kernel
theorem dX5_fillLockedArrival_157 : decode cX5_fillLockedArrival 157 = .ok (.invokestatic 230, 3) := by decide +kernel
theorem dX5_fillLockedArrival_160 : decode cX5_fillLockedArrival 160 = .ok (.aload_n 0, 1) := by decide +kernel
theorem dX5_fillLockedArrival_161 : decode cX5_fillLockedArrival 161 = .ok (.getfield 45, 3) := by decide +kernel
theorem dX5_fillLockedArrival_164 : decode cX5_fillLockedArrival 164 = .ok (.bipush 67, 2) := by decide +kernel
theorem dX5_fillLockedArrival_166 : decode cX5_fillLockedArrival 166 = .ok (.aload_n 0, 1) := by decide +kernel
theorem dX5_fillLockedArrival_167 : decode cX5_fillLockedArrival 167 = .ok (.getfield 38, 3) := by decide +kernel
theorem dX5_fillLockedArrival_170 : decode cX5_fillLockedArrival 170 = .ok (.invokestatic 173, 3) := by decide +kernel
theorem dX5_fillLockedArrival_173 : decode cX5_fillLockedArrival 173 = .ok (.aload_n 2, 1) := by decide +kernel
theorem dX5_fillLockedArrival_174 : decode cX5_fillLockedArrival 174 = .ok (.aload_n 0, 1) := by decide +kernel
theorem dX5_fillLockedArrival_175 : decode cX5_fillLockedArrival 175 = .ok (.getfield 38, 3) := by decide +kernel
theorem dX5_fillLockedArrival_178 : decode cX5_fillLockedArrival 178 = .ok (.invokestatic 230, 3) := by decide +kernel
theorem dX5_fillLockedArrival_181 : decode cX5_fillLockedArrival 181 = .ok (.return_, 1) := by decide +kernel
theorem dX5_bringByBoth_0 : decode cX5_bringByBoth 0 = .ok (.aload_n 0, 1) := by decide +kernel
theorem dX5_bringByBoth_1 : decode cX5_bringByBoth 1 = .ok (.iload_n 2, 1) := by decide +kernel
theorem dX5_bringByBoth_2 : decode cX5_bringByBoth 2 = .ok (.bipush 67, 2) := by decide +kernel
theorem dX5_bringByBoth_4 : decode cX5_bringByBoth 4 = .ok (.iload_n 3, 1) := by decide +kernel
theorem dX5_bringByBoth_5 : decode cX5_bringByBoth 5 = .ok (.iconst (-1), 1) := by decide +kernel
theorem dX5_bringByBoth_6 : decode cX5_bringByBoth 6 = .ok (.ixor, 1) := by decide +kernel
theorem dX5_bringByBoth_7 : decode cX5_bringByBoth 7 = .ok (.iand, 1) := by decide +kernel
theorem dX5_bringByBoth_8 : decode cX5_bringByBoth 8 = .ok (.aload_n 0, 1) := by decide +kernel
theorem dX5_bringByBoth_9 : decode cX5_bringByBoth 9 = .ok (.getfield 48, 3) := by decide +kernel
theorem dX5_bringByBoth_12 : decode cX5_bringByBoth 12 = .ok (.invokevirtual 198, 3) := by decide +kernel
theorem dX5_bringByBoth_15 : decode cX5_bringByBoth 15 = .ok (.istore 5, 2) := by decide +kernel
theorem dX5_bringByBoth_17 : decode cX5_bringByBoth 17 = .ok (.aload_n 0, 1) := by decide +kernel
theorem dX5_bringByBoth_18 : decode cX5_bringByBoth 18 = .ok (.iload_n 1, 1) := by decide +kernel
theorem dX5_bringByBoth_19 : decode cX5_bringByBoth 19 = .ok (.iload_n 2, 1) := by decide +kernel
theorem dX5_bringByBoth_20 : decode cX5_bringByBoth 20 = .ok (.bipush 60, 2) := by decide +kernel
theorem dX5_bringByBoth_22 : decode cX5_bringByBoth 22 = .ok (.iload_n 3, 1) := by decide +kernel
theorem dX5_bringByBoth_23 : decode cX5_bringByBoth 23 = .ok (.iconst (-1), 1) := by decide +kernel
theorem dX5_bringByBoth_24 : decode cX5_bringByBoth 24 = .ok (.ixor, 1) := by decide +kernel
theorem dX5_bringByBoth_25 : decode cX5_bringByBoth 25 = .ok (.iand, 1) := by decide +kernel
theorem dX5_bringByBoth_26 : decode cX5_bringByBoth 26 = .ok (.aload 4, 2) := by decide +kernel
theorem dX5_bringByBoth_28 : decode cX5_bringByBoth 28 = .ok (.invokevirtual 223, 3) := by decide +kernel
theorem dX5_bringByBoth_31 : decode cX5_bringByBoth 31 = .ok (.iconst 1, 1) := by decide +kernel
theorem dX5_bringByBoth_32 : decode cX5_bringByBoth 32 = .ok (.istore 6, 2) := by decide +kernel
theorem dX5_bringByBoth_34 : decode cX5_bringByBoth 34 = .ok (.iload 6, 2) := by decide +kernel
theorem dX5_bringByBoth_36 : decode cX5_bringByBoth 36 = .ok (.iload 5, 2) := by decide +kernel
theorem dX5_bringByBoth_38 : decode cX5_bringByBoth 38 = .ok (.if_icmp .ge 32, 3) := by decide +kernel
theorem dX5_bringByBoth_41 : decode cX5_bringByBoth 41 = .ok (.aload_n 0, 1) := by decide +kernel
theorem dX5_bringByBoth_42 : decode cX5_bringByBoth 42 = .ok (.iload_n 1, 1) := by decide +kernel
theorem dX5_bringByBoth_43 : decode cX5_bringByBoth 43 = .ok (.ldc 154, 2) := by decide +kernel
theorem dX5_bringByBoth_45 : decode cX5_bringByBoth 45 = .ok (.iadd, 1) := by decide +kernel
theorem dX5_bringByBoth_46 : decode cX5_bringByBoth 46 = .ok (.aload_n 0, 1) := by decide +kernel
theorem dX5_bringByBoth_47 : decode cX5_bringByBoth 47 = .ok (.getfield 48, 3) := by decide +kernel
theorem dX5_bringByBoth_50 : decode cX5_bringByBoth 50 = .ok (.iload 6, 2) := by decide +kernel
theorem dX5_bringByBoth_52 : decode cX5_bringByBoth 52 = .ok (.iaload, 1) := by decide +kernel
theorem dX5_bringByBoth_53 : decode cX5_bringByBoth 53 = .ok (.bipush 60, 2) := by decide +kernel
theorem dX5_bringByBoth_55 : decode cX5_bringByBoth 55 = .ok (.iload_n 3, 1) := by decide +kernel
theorem dX5_bringByBoth_56 : decode cX5_bringByBoth 56 = .ok (.iconst (-1), 1) := by decide +kernel
theorem dX5_bringByBoth_57 : decode cX5_bringByBoth 57 = .ok (.ixor, 1) := by decide +kernel
theorem dX5_bringByBoth_58 : decode cX5_bringByBoth 58 = .ok (.iand, 1) := by decide +kernel
theorem dX5_bringByBoth_59 : decode cX5_bringByBoth 59 = .ok (.aload 4, 2) := by decide +kernel
theorem dX5_bringByBoth_61 : decode cX5_bringByBoth 61 = .ok (.invokevirtual 223, 3) := by decide +kernel
theorem dX5_bringByBoth_64 : decode cX5_bringByBoth 64 = .ok (.iinc 6 1, 3) := by decide +kernel
theorem dX5_bringByBoth_67 : decode cX5_bringByBoth 67 = .ok (.goto (-33), 3) := by decide +kernel
theorem dX5_bringByBoth_70 : decode cX5_bringByBoth 70 = .ok (.return_, 1) := by decide +kernel
theorem dX5_bringByFoot_0 : decode cX5_bringByFoot 0 = .ok (.aload_n 0, 1) := by decide +kernel
theorem dX5_bringByFoot_1 : decode cX5_bringByFoot 1 = .ok (.iload_n 2, 1) := by decide +kernel
theorem dX5_bringByFoot_2 : decode cX5_bringByFoot 2 = .ok (.iload_n 3, 1) := by decide +kernel
theorem dX5_bringByFoot_3 : decode cX5_bringByFoot 3 = .ok (.aload_n 0, 1) := by decide +kernel
theorem dX5_bringByFoot_4 : decode cX5_bringByFoot 4 = .ok (.getfield 51, 3) := by decide +kernel
theorem dX5_bringByFoot_7 : decode cX5_bringByFoot 7 = .ok (.invokevirtual 198, 3) := by decide +kernel
theorem dX5_bringByFoot_10 : decode cX5_bringByFoot 10 = .ok (.istore 5, 2) := by decide +kernel
theorem dX5_bringByFoot_12 : decode cX5_bringByFoot 12 = .ok (.aload 4, 2) := by decide +kernel
theorem dX5_bringByFoot_14 : decode cX5_bringByFoot 14 = .ok (.iload_n 2, 1) := by decide +kernel
theorem dX5_bringByFoot_15 : decode cX5_bringByFoot 15 = .ok (.aload 4, 2) := by decide +kernel
theorem dX5_bringByFoot_17 : decode cX5_bringByFoot 17 = .ok (.iload_n 2, 1) := by decide +kernel
theorem dX5_bringByFoot_18 : decode cX5_bringByFoot 18 = .ok (.iaload, 1) := by decide +kernel
theorem dX5_bringByFoot_19 : decode cX5_bringByFoot 19 = .ok (.iload_n 1, 1) := by decide +kernel
theorem dX5_bringByFoot_20 : decode cX5_bringByFoot 20 = .ok (.invokestatic 87, 3) := by decide +kernel
theorem dX5_bringByFoot_23 : decode cX5_bringByFoot 23 = .ok (.iastore, 1) := by decide +kernel
theorem dX5_bringByFoot_24 : decode cX5_bringByFoot 24 = .ok (.iconst 1, 1) := by decide +kernel
theorem dX5_bringByFoot_25 : decode cX5_bringByFoot 25 = .ok (.istore 6, 2) := by decide +kernel
theorem dX5_bringByFoot_27 : decode cX5_bringByFoot 27 = .ok (.iload 6, 2) := by decide +kernel
theorem dX5_bringByFoot_29 : decode cX5_bringByFoot 29 = .ok (.iload 5, 2) := by decide +kernel
theorem dX5_bringByFoot_31 : decode cX5_bringByFoot 31 = .ok (.if_icmp .ge 36, 3) := by decide +kernel
theorem dX5_bringByFoot_34 : decode cX5_bringByFoot 34 = .ok (.aload 4, 2) := by decide +kernel
theorem dX5_bringByFoot_36 : decode cX5_bringByFoot 36 = .ok (.aload_n 0, 1) := by decide +kernel
theorem dX5_bringByFoot_37 : decode cX5_bringByFoot 37 = .ok (.getfield 51, 3) := by decide +kernel
theorem dX5_bringByFoot_40 : decode cX5_bringByFoot 40 = .ok (.iload 6, 2) := by decide +kernel
theorem dX5_bringByFoot_42 : decode cX5_bringByFoot 42 = .ok (.iaload, 1) := by decide +kernel
theorem dX5_bringByFoot_43 : decode cX5_bringByFoot 43 = .ok (.aload 4, 2) := by decide +kernel
theorem dX5_bringByFoot_45 : decode cX5_bringByFoot 45 = .ok (.aload_n 0, 1) := by decide +kernel
theorem dX5_bringByFoot_46 : decode cX5_bringByFoot 46 = .ok (.getfield 51, 3) := by decide +kernel
theorem dX5_bringByFoot_49 : decode cX5_bringByFoot 49 = .ok (.iload 6, 2) := by decide +kernel
theorem dX5_bringByFoot_51 : decode cX5_bringByFoot 51 = .ok (.iaload, 1) := by decide +kernel
theorem dX5_bringByFoot_52 : decode cX5_bringByFoot 52 = .ok (.iaload, 1) := by decide +kernel
theorem dX5_bringByFoot_53 : decode cX5_bringByFoot 53 = .ok (.iload_n 1, 1) := by decide +kernel
theorem dX5_bringByFoot_54 : decode cX5_bringByFoot 54 = .ok (.ldc 154, 2) := by decide +kernel
theorem dX5_bringByFoot_56 : decode cX5_bringByFoot 56 = .ok (.iadd, 1) := by decide +kernel
theorem dX5_bringByFoot_57 : decode cX5_bringByFoot 57 = .ok (.invokestatic 87, 3) := by decide +kernel
theorem dX5_bringByFoot_60 : decode cX5_bringByFoot 60 = .ok (.iastore, 1) := by decide +kernel
theorem dX5_bringByFoot_61 : decode cX5_bringByFoot 61 = .ok (.iinc 6 1, 3) := by decide +kernel
theorem dX5_bringByFoot_64 : decode cX5_bringByFoot 64 = .ok (.goto (-37), 3) := by decide +kernel
theorem dX5_bringByFoot_67 : decode cX5_bringByFoot 67 = .ok (.return_, 1) := by decide +kernel
theorem dX5_lessen_0 : decode cX5_lessen 0 = .ok (.iconst 0, 1) := by decide +kernel
theorem dX5_lessen_1 : decode cX5_lessen 1 = .ok (.istore_n 2, 1) := by decide +kernel
theorem dX5_lessen_2 : decode cX5_lessen 2 = .ok (.iload_n 2, 1) := by decide +kernel
theorem dX5_lessen_3 : decode cX5_lessen 3 = .ok (.sipush 2187, 3) := by decide +kernel
theorem dX5_lessen_6 : decode cX5_lessen 6 = .ok (.if_icmp .ge 21, 3) := by decide +kernel
theorem dX5_lessen_9 : decode cX5_lessen 9 = .ok (.aload_n 0, 1) := by decide +kernel
theorem dX5_lessen_10 : decode cX5_lessen 10 = .ok (.iload_n 2, 1) := by decide +kernel
theorem dX5_lessen_11 : decode cX5_lessen 11 = .ok (.aload_n 0, 1) := by decide +kernel
theorem dX5_lessen_12 : decode cX5_lessen 12 = .ok (.iload_n 2, 1) := by decide +kernel
theorem dX5_lessen_13 : decode cX5_lessen 13 = .ok (.iaload, 1) := by decide +kernel
theorem dX5_lessen_14 : decode cX5_lessen 14 = .ok (.aload_n 1, 1) := by decide +kernel
theorem dX5_lessen_15 : decode cX5_lessen 15 = .ok (.iload_n 2, 1) := by decide +kernel
theorem dX5_lessen_16 : decode cX5_lessen 16 = .ok (.iaload, 1) := by decide +kernel
theorem dX5_lessen_17 : decode cX5_lessen 17 = .ok (.invokestatic 87, 3) := by decide +kernel
theorem dX5_lessen_20 : decode cX5_lessen 20 = .ok (.iastore, 1) := by decide +kernel
theorem dX5_lessen_21 : decode cX5_lessen 21 = .ok (.iinc 2 1, 3) := by decide +kernel
theorem dX5_lessen_24 : decode cX5_lessen 24 = .ok (.goto (-22), 3) := by decide +kernel
theorem dX5_lessen_27 : decode cX5_lessen 27 = .ok (.return_, 1) := by decide +kernel
end
section
theorem dX6_init_0 : decode cX6_init 0 = .ok (.aload_n 0, 1) := by decide +kernel
theorem dX6_init_1 : decode cX6_init 1 = .ok (.invokespecial 1, 3) := by decide +kernel
theorem dX6_init_4 : decode cX6_init 4 = .ok (.aload_n 0, 1) := by decide +kernel
theorem dX6_init_5 : decode cX6_init 5 = .ok (.new 7, 3) := by decide +kernel
theorem dX6_init_8 : decode cX6_init 8 = .ok (.dup, 1) := by decide +kernel
theorem dX6_init_9 : decode cX6_init 9 = .ok (.invokespecial 9, 3) := by decide +kernel
theorem dX6_init_12 : decode cX6_init 12 = .ok (.putfield 10, 3) := by decide +kernel
theorem dX6_init_15 : decode cX6_init 15 = .ok (.aload_n 0, 1) := by decide +kernel
theorem dX6_init_16 : decode cX6_init 16 = .ok (.new 16, 3) := by decide +kernel
theorem dX6_init_19 : decode cX6_init 19 = .ok (.dup, 1) := by decide +kernel
theorem dX6_init_20 : decode cX6_init 20 = .ok (.invokespecial 18, 3) := by decide +kernel
theorem dX6_init_23 : decode cX6_init 23 = .ok (.putfield 19, 3) := by decide +kernel
theorem dX6_init_26 : decode cX6_init 26 = .ok (.aload_n 0, 1) := by decide +kernel
theorem dX6_init_27 : decode cX6_init 27 = .ok (.new 23, 3) := by decide +kernel
theorem dX6_init_30 : decode cX6_init 30 = .ok (.dup, 1) := by decide +kernel
theorem dX6_init_31 : decode cX6_init 31 = .ok (.invokespecial 25, 3) := by decide +kernel
theorem dX6_init_34 : decode cX6_init 34 = .ok (.putfield 26, 3) := by decide +kernel
theorem dX6_init_37 : decode cX6_init 37 = .ok (.aload_n 0, 1) := by decide +kernel
theorem dX6_init_38 : decode cX6_init 38 = .ok (.new 30, 3) := by decide +kernel
theorem dX6_init_41 : decode cX6_init 41 = .ok (.dup, 1) := by decide +kernel
theorem dX6_init_42 : decode cX6_init 42 = .ok (.invokespecial 32, 3) := by decide +kernel
theorem dX6_init_45 : decode cX6_init 45 = .ok (.putfield 33, 3) := by decide +kernel
theorem dX6_init_48 : decode cX6_init 48 = .ok (.aload_n 0, 1) := by decide +kernel
theorem dX6_init_49 : decode cX6_init 49 = .ok (.new 37, 3) := by decide +kernel
theorem dX6_init_52 : decode cX6_init 52 = .ok (.dup, 1) := by decide +kernel
theorem dX6_init_53 : decode cX6_init 53 = .ok (.aload_n 0, 1) := by decide +kernel
theorem dX6_init_54 : decode cX6_init 54 = .ok (.getfield 10, 3) := by decide +kernel
theorem dX6_init_57 : decode cX6_init 57 = .ok (.aload_n 0, 1) := by decide +kernel
theorem dX6_init_58 : decode cX6_init 58 = .ok (.getfield 19, 3) := by decide +kernel
theorem dX6_init_61 : decode cX6_init 61 = .ok (.invokespecial 39, 3) := by decide +kernel
theorem dX6_init_64 : decode cX6_init 64 = .ok (.putfield 42, 3) := by decide +kernel
theorem dX6_init_67 : decode cX6_init 67 = .ok (.aload_n 0, 1) := by decide +kernel
theorem dX6_init_68 : decode cX6_init 68 = .ok (.new 46, 3) := by decide +kernel
theorem dX6_init_71 : decode cX6_init 71 = .ok (.dup, 1) := by decide +kernel
theorem dX6_init_72 : decode cX6_init 72 = .ok (.invokespecial 48, 3) := by decide +kernel
theorem dX6_init_75 : decode cX6_init 75 = .ok (.putfield 49, 3) := by decide +kernel
theorem dX6_init_78 : decode cX6_init 78 = .ok (.aload_n 0, 1) := by decide +kernel
theorem dX6_init_79 : decode cX6_init 79 = .ok (.iconst 0, 1) := by decide +kernel
theorem dX6_init_80 : decode cX6_init 80 = .ok (.putfield 53, 3) := by decide +kernel
theorem dX6_init_83 : decode cX6_init 83 = .ok (.return_, 1) := by decide +kernel
theorem dX6_beats_0 : decode cX6_beats 0 = .ok (.iload_n 1, 1) := by decide +kernel
theorem dX6_beats_1 : decode cX6_beats 1 = .ok (.iconst 1, 1) := by decide +kernel
theorem dX6_beats_2 : decode cX6_beats 2 = .ok (.if_icmp .lt 9, 3) := by decide +kernel
theorem dX6_beats_5 : decode cX6_beats 5 = .ok (.iload_n 1, 1) := by decide +kernel
theorem dX6_beats_6 : decode cX6_beats 6 = .ok (.bipush 12, 2) := by decide +kernel
theorem dX6_beats_8 : decode cX6_beats 8 = .ok (.if_icmp .le 10, 3) := by decide +kernel
theorem dX6_beats_11 : decode cX6_beats 11 = .ok (.aload_n 0, 1) := by decide +kernel
theorem dX6_beats_12 : decode cX6_beats 12 = .ok (.ldc 57, 2) := by decide +kernel
theorem dX6_beats_14 : decode cX6_beats 14 = .ok (.invokevirtual 58, 3) := by decide +kernel
theorem dX6_beats_17 : decode cX6_beats 17 = .ok (.ireturn, 1) := by decide +kernel
theorem dX6_beats_18 : decode cX6_beats 18 = .ok (.aload_n 0, 1) := by decide +kernel
theorem dX6_beats_19 : decode cX6_beats 19 = .ok (.getfield 26, 3) := by decide +kernel
theorem dX6_beats_22 : decode cX6_beats 22 = .ok (.aload_n 0, 1) := by decide +kernel
theorem dX6_beats_23 : decode cX6_beats 23 = .ok (.getfield 19, 3) := by decide +kernel
theorem dX6_beats_26 : decode cX6_beats 26 = .ok (.invokevirtual 62, 3) := by decide +kernel
theorem dX6_beats_29 : decode cX6_beats 29 = .ok (.aload_n 0, 1) := by decide +kernel
theorem dX6_beats_30 : decode cX6_beats 30 = .ok (.getfield 19, 3) := by decide +kernel
theorem dX6_beats_33 : decode cX6_beats 33 = .ok (.getfield 66, 3) := by decide +kernel
theorem dX6_beats_36 : decode cX6_beats 36 = .ok (.istore_n 2, 1) := by decide +kernel
theorem dX6_beats_37 : decode cX6_beats 37 = .ok (.aload_n 0, 1) := by decide +kernel
theorem dX6_beats_38 : decode cX6_beats 38 = .ok (.getfield 19, 3) := by decide +kernel
theorem dX6_beats_41 : decode cX6_beats 41 = .ok (.iload_n 1, 1) := by decide +kernel
theorem dX6_beats_42 : decode cX6_beats 42 = .ok (.putfield 66, 3) := by decide +kernel
theorem dX6_beats_45 : decode cX6_beats 45 = .ok (.aload_n 0, 1) := by decide +kernel
theorem dX6_beats_46 : decode cX6_beats 46 = .ok (.getfield 42, 3) := by decide +kernel
theorem dX6_beats_49 : decode cX6_beats 49 = .ok (.invokevirtual 69, 3) := by decide +kernel
theorem dX6_beats_52 : decode cX6_beats 52 = .ok (.iload_n 2, 1) := by decide +kernel
theorem dX6_beats_53 : decode cX6_beats 53 = .ok (.ireturn, 1) := by decide +kernel
theorem dX6_note_0 : decode cX6_note 0 = .ok (.iload_n 1, 1) := by decide +kernel
theorem dX6_note_1 : decode cX6_note 1 = .ok (.invokestatic 72, 3) := by decide +kernel
theorem dX6_note_4 : decode cX6_note 4 = .ok (.ifCond .eq 21, 3) := by decide +kernel
theorem dX6_note_7 : decode cX6_note 7 = .ok (.iload_n 2, 1) := by decide +kernel
theorem dX6_note_8 : decode cX6_note 8 = .ok (.invokestatic 76, 3) := by decide +kernel
theorem dX6_note_11 : decode cX6_note 11 = .ok (.ifCond .eq 14, 3) := by decide +kernel
theorem dX6_note_14 : decode cX6_note 14 = .ok (.iload_n 3, 1) := by decide +kernel
theorem dX6_note_15 : decode cX6_note 15 = .ok (.iconst (-1), 1) := by decide +kernel
theorem dX6_note_16 : decode cX6_note 16 = .ok (.if_icmp .lt 9, 3) := by decide +kernel
theorem dX6_note_19 : decode cX6_note 19 = .ok (.iload_n 3, 1) := by decide +kernel
theorem dX6_note_20 : decode cX6_note 20 = .ok (.bipush 100, 2) := by decide +kernel
theorem dX6_note_22 : decode cX6_note 22 = .ok (.if_icmp .le 10, 3) := by decide +kernel
theorem dX6_note_25 : decode cX6_note 25 = .ok (.aload_n 0, 1) := by decide +kernel
theorem dX6_note_26 : decode cX6_note 26 = .ok (.ldc 57, 2) := by decide +kernel
theorem dX6_note_28 : decode cX6_note 28 = .ok (.invokevirtual 58, 3) := by decide +kernel
theorem dX6_note_31 : decode cX6_note 31 = .ok (.ireturn, 1) := by decide +kernel
theorem dX6_note_32 : decode cX6_note 32 = .ok (.aload_n 0, 1) := by decide +kernel
theorem dX6_note_33 : decode cX6_note 33 = .ok (.getfield 19, 3) := by decide +kernel
theorem dX6_note_36 : decode cX6_note 36 = .ok (.getfield 79, 3) := by decide +kernel
theorem dX6_note_39 : decode cX6_note 39 = .ok (.iload_n 1, 1) := by decide +kernel
theorem dX6_note_40 : decode cX6_note 40 = .ok (.iaload, 1) := by decide +kernel
theorem dX6_note_41 : decode cX6_note 41 = .ok (.bipush 6, 2) := by decide +kernel
theorem dX6_note_43 : decode cX6_note 43 = .ok (.if_icmp .lt 10, 3) := by decide +kernel
theorem dX6_note_46 : decode cX6_note 46 = .ok (.aload_n 0, 1) := by decide +kernel
theorem dX6_note_47 : decode cX6_note 47 = .ok (.ldc 83, 2) := by decide +kernel
theorem dX6_note_49 : decode cX6_note 49 = .ok (.invokevirtual 58, 3) := by decide +kernel
theorem dX6_note_52 : decode cX6_note 52 = .ok (.ireturn, 1) := by decide +kernel
theorem dX6_note_53 : decode cX6_note 53 = .ok (.aload_n 0, 1) := by decide +kernel
theorem dX6_note_54 : decode cX6_note 54 = .ok (.getfield 26, 3) := by decide +kernel
theorem dX6_note_57 : decode cX6_note 57 = .ok (.aload_n 0, 1) := by decide +kernel
theorem dX6_note_58 : decode cX6_note 58 = .ok (.getfield 19, 3) := by decide +kernel
theorem dX6_note_61 : decode cX6_note 61 = .ok (.invokevirtual 62, 3) := by decide +kernel
theorem dX6_note_64 : decode cX6_note 64 = .ok (.aload_n 0, 1) := by decide +kernel
theorem dX6_note_65 : decode cX6_note 65 = .ok (.getfield 19, 3) := by decide +kernel
theorem dX6_note_68 : decode cX6_note 68 = .ok (.iload_n 1, 1) := by decide +kernel
theorem dX6_note_69 : decode cX6_note 69 = .ok (.iload_n 2, 1) := by decide +kernel
theorem dX6_note_70 : decode cX6_note 70 = .ok (.iload_n 3, 1) := by decide +kernel
theorem dX6_note_71 : decode cX6_note 71 = .ok (.iload 4, 2) := by decide +kernel
theorem dX6_note_73 : decode cX6_note 73 = .ok (.invokevirtual 84, 3) := by decide +kernel
theorem dX6_note_76 : decode cX6_note 76 = .ok (.istore 5, 2) := by decide +kernel
theorem dX6_note_78 : decode cX6_note 78 = .ok (.aload_n 0, 1) := by decide +kernel
theorem dX6_note_79 : decode cX6_note 79 = .ok (.getfield 42, 3) := by decide +kernel
theorem dX6_note_82 : decode cX6_note 82 = .ok (.iload_n 1, 1) := by decide +kernel
theorem dX6_note_83 : decode cX6_note 83 = .ok (.iload_n 1, 1) := by decide +kernel
theorem dX6_note_84 : decode cX6_note 84 = .ok (.invokevirtual 88, 3) := by decide +kernel
theorem dX6_note_87 : decode cX6_note 87 = .ok (.iload 5, 2) := by decide +kernel
theorem dX6_note_89 : decode cX6_note 89 = .ok (.ireturn, 1) := by decide +kernel
theorem dX6_drop_0 : decode cX6_drop 0 = .ok (.iload_n 1, 1) := by decide +kernel
theorem dX6_drop_1 : decode cX6_drop 1 = .ok (.invokestatic 72, 3) := by decide +kernel
theorem dX6_drop_4 : decode cX6_drop 4 = .ok (.ifCond .ne 10, 3) := by decide +kernel
theorem dX6_drop_7 : decode cX6_drop 7 = .ok (.aload_n 0, 1) := by decide +kernel
theorem dX6_drop_8 : decode cX6_drop 8 = .ok (.ldc 57, 2) := by decide +kernel
theorem dX6_drop_10 : decode cX6_drop 10 = .ok (.invokevirtual 58, 3) := by decide +kernel
theorem dX6_drop_13 : decode cX6_drop 13 = .ok (.ireturn, 1) := by decide +kernel
theorem dX6_drop_14 : decode cX6_drop 14 = .ok (.aload_n 0, 1) := by decide +kernel
theorem dX6_drop_15 : decode cX6_drop 15 = .ok (.getfield 19, 3) := by decide +kernel
theorem dX6_drop_18 : decode cX6_drop 18 = .ok (.getfield 79, 3) := by decide +kernel
theorem dX6_drop_21 : decode cX6_drop 21 = .ok (.iload_n 1, 1) := by decide +kernel
theorem dX6_drop_22 : decode cX6_drop 22 = .ok (.iaload, 1) := by decide +kernel
theorem dX6_drop_23 : decode cX6_drop 23 = .ok (.ifCond .ne 10, 3) := by decide +kernel
theorem dX6_drop_26 : decode cX6_drop 26 = .ok (.aload_n 0, 1) := by decide +kernel
theorem dX6_drop_27 : decode cX6_drop 27 = .ok (.ldc 92, 2) := by decide +kernel
theorem dX6_drop_29 : decode cX6_drop 29 = .ok (.invokevirtual 58, 3) := by decide +kernel
theorem dX6_drop_32 : decode cX6_drop 32 = .ok (.ireturn, 1) := by decide +kernel
theorem dX6_drop_33 : decode cX6_drop 33 = .ok (.aload_n 0, 1) := by decide +kernel
theorem dX6_drop_34 : decode cX6_drop 34 = .ok (.getfield 26, 3) := by decide +kernel
theorem dX6_drop_37 : decode cX6_drop 37 = .ok (.aload_n 0, 1) := by decide +kernel
theorem dX6_drop_38 : decode cX6_drop 38 = .ok (.getfield 19, 3) := by decide +kernel
theorem dX6_drop_41 : decode cX6_drop 41 = .ok (.invokevirtual 62, 3) := by decide +kernel
theorem dX6_drop_44 : decode cX6_drop 44 = .ok (.aload_n 0, 1) := by decide +kernel
theorem dX6_drop_45 : decode cX6_drop 45 = .ok (.getfield 19, 3) := by decide +kernel
theorem dX6_drop_48 : decode cX6_drop 48 = .ok (.getfield 79, 3) := by decide +kernel
theorem dX6_drop_51 : decode cX6_drop 51 = .ok (.iload_n 1, 1) := by decide +kernel
theorem dX6_drop_52 : decode cX6_drop 52 = .ok (.dup2, 1) := by decide +kernel
theorem dX6_drop_53 : decode cX6_drop 53 = .ok (.iaload, 1) := by decide +kernel
theorem dX6_drop_54 : decode cX6_drop 54 = .ok (.iconst 1, 1) := by decide +kernel
theorem dX6_drop_55 : decode cX6_drop 55 = .ok (.isub, 1) := by decide +kernel
theorem dX6_drop_56 : decode cX6_drop 56 = .ok (.iastore, 1) := by decide +kernel
theorem dX6_drop_57 : decode cX6_drop 57 = .ok (.aload_n 0, 1) := by decide +kernel
theorem dX6_drop_58 : decode cX6_drop 58 = .ok (.getfield 42, 3) := by decide +kernel
theorem dX6_drop_61 : decode cX6_drop 61 = .ok (.iload_n 1, 1) := by decide +kernel
theorem dX6_drop_62 : decode cX6_drop 62 = .ok (.iload_n 1, 1) := by decide +kernel
theorem dX6_drop_63 : decode cX6_drop 63 = .ok (.invokevirtual 88, 3) := by decide +kernel
theorem dX6_drop_66 : decode cX6_drop 66 = .ok (.aload_n 0, 1) := by decide +kernel
theorem dX6_drop_67 : decode cX6_drop 67 = .ok (.getfield 19, 3) := by decide +kernel
theorem dX6_drop_70 : decode cX6_drop 70 = .ok (.getfield 79, 3) := by decide +kernel
theorem dX6_drop_73 : decode cX6_drop 73 = .ok (.iload_n 1, 1) := by decide +kernel
theorem dX6_drop_74 : decode cX6_drop 74 = .ok (.iaload, 1) := by decide +kernel
theorem dX6_drop_75 : decode cX6_drop 75 = .ok (.ireturn, 1) := by decide +kernel
theorem dX6_as_0 : decode cX6_as 0 = .ok (.aload_n 0, 1) := by decide +kernel
theorem dX6_as_1 : decode cX6_as 1 = .ok (.iload_n 1, 1) := by decide +kernel
theorem dX6_as_2 : decode cX6_as 2 = .ok (.iload_n 2, 1) := by decide +kernel
theorem dX6_as_3 : decode cX6_as 3 = .ok (.invokevirtual 93, 3) := by decide +kernel
theorem dX6_as_6 : decode cX6_as 6 = .ok (.ifCond .eq 10, 3) := by decide +kernel
theorem dX6_as_9 : decode cX6_as 9 = .ok (.iload_n 3, 1) := by decide +kernel
theorem dX6_as_10 : decode cX6_as 10 = .ok (.invokestatic 76, 3) := by decide +kernel
theorem dX6_as_13 : decode cX6_as 13 = .ok (.ifCond .ne 10, 3) := by decide +kernel
theorem dX6_as_16 : decode cX6_as 16 = .ok (.aload_n 0, 1) := by decide +kernel
theorem dX6_as_17 : decode cX6_as 17 = .ok (.ldc 57, 2) := by decide +kernel
theorem dX6_as_19 : decode cX6_as 19 = .ok (.invokevirtual 58, 3) := by decide +kernel
theorem dX6_as_22 : decode cX6_as 22 = .ok (.ireturn, 1) := by decide +kernel
theorem dX6_as_23 : decode cX6_as 23 = .ok (.iload_n 1, 1) := by decide +kernel
theorem dX6_as_24 : decode cX6_as 24 = .ok (.iload_n 2, 1) := by decide +kernel
theorem dX6_as_25 : decode cX6_as 25 = .ok (.invokestatic 97, 3) := by decide +kernel
theorem dX6_as_28 : decode cX6_as 28 = .ok (.istore 4, 2) := by decide +kernel
theorem dX6_as_30 : decode cX6_as 30 = .ok (.aload_n 0, 1) := by decide +kernel
theorem dX6_as_31 : decode cX6_as 31 = .ok (.getfield 19, 3) := by decide +kernel
theorem dX6_as_34 : decode cX6_as 34 = .ok (.getfield 101, 3) := by decide +kernel
theorem dX6_as_37 : decode cX6_as 37 = .ok (.iload 4, 2) := by decide +kernel
theorem dX6_as_39 : decode cX6_as 39 = .ok (.iaload, 1) := by decide +kernel
theorem dX6_as_40 : decode cX6_as 40 = .ok (.iload_n 3, 1) := by decide +kernel
theorem dX6_as_41 : decode cX6_as 41 = .ok (.invokestatic 104, 3) := by decide +kernel
theorem dX6_as_44 : decode cX6_as 44 = .ok (.ifCond .ne 10, 3) := by decide +kernel
theorem dX6_as_47 : decode cX6_as 47 = .ok (.aload_n 0, 1) := by decide +kernel
theorem dX6_as_48 : decode cX6_as 48 = .ok (.ldc 107, 2) := by decide +kernel
theorem dX6_as_50 : decode cX6_as 50 = .ok (.invokevirtual 58, 3) := by decide +kernel
theorem dX6_as_53 : decode cX6_as 53 = .ok (.ireturn, 1) := by decide +kernel
theorem dX6_as_54 : decode cX6_as 54 = .ok (.aload_n 0, 1) := by decide +kernel
theorem dX6_as_55 : decode cX6_as 55 = .ok (.getfield 19, 3) := by decide +kernel
theorem dX6_as_58 : decode cX6_as 58 = .ok (.getfield 108, 3) := by decide +kernel
theorem dX6_as_61 : decode cX6_as 61 = .ok (.iload 4, 2) := by decide +kernel
theorem dX6_as_63 : decode cX6_as 63 = .ok (.iaload, 1) := by decide +kernel
theorem dX6_as_64 : decode cX6_as 64 = .ok (.ireturn, 1) := by decide +kernel
theorem dX6_of_0 : decode cX6_of 0 = .ok (.aload_n 0, 1) := by decide +kernel
theorem dX6_of_1 : decode cX6_of 1 = .ok (.iload_n 1, 1) := by decide +kernel
theorem dX6_of_2 : decode cX6_of 2 = .ok (.iload_n 2, 1) := by decide +kernel
theorem dX6_of_3 : decode cX6_of 3 = .ok (.invokevirtual 93, 3) := by decide +kernel
theorem dX6_of_6 : decode cX6_of 6 = .ok (.ifCond .ne 10, 3) := by decide +kernel
theorem dX6_of_9 : decode cX6_of 9 = .ok (.aload_n 0, 1) := by decide +kernel
theorem dX6_of_10 : decode cX6_of 10 = .ok (.ldc 57, 2) := by decide +kernel
theorem dX6_of_12 : decode cX6_of 12 = .ok (.invokevirtual 58, 3) := by decide +kernel
theorem dX6_of_15 : decode cX6_of 15 = .ok (.ireturn, 1) := by decide +kernel
theorem dX6_of_16 : decode cX6_of 16 = .ok (.iload_n 1, 1) := by decide +kernel
theorem dX6_of_17 : decode cX6_of 17 = .ok (.iload_n 2, 1) := by decide +kernel
theorem dX6_of_18 : decode cX6_of 18 = .ok (.invokestatic 97, 3) := by decide +kernel
theorem dX6_of_21 : decode cX6_of 21 = .ok (.istore 4, 2) := by decide +kernel
theorem dX6_of_23 : decode cX6_of 23 = .ok (.iload_n 3, 1) := by decide +kernel
theorem dX6_of_24 : decode cX6_of 24 = .ok (.tableswitch 61 0 2 #[28, 39, 50], 28) := by decide +kernel
theorem dX6_of_52 : decode cX6_of 52 = .ok (.aload_n 0, 1) := by decide +kernel
theorem dX6_of_53 : decode cX6_of 53 = .ok (.getfield 19, 3) := by decide +kernel
theorem dX6_of_56 : decode cX6_of 56 = .ok (.getfield 101, 3) := by decide +kernel
theorem dX6_of_59 : decode cX6_of 59 = .ok (.iload 4, 2) := by decide +kernel
theorem dX6_of_61 : decode cX6_of 61 = .ok (.iaload, 1) := by decide +kernel
theorem dX6_of_62 : decode cX6_of 62 = .ok (.ireturn, 1) := by decide +kernel
theorem dX6_of_63 : decode cX6_of 63 = .ok (.aload_n 0, 1) := by decide +kernel
theorem dX6_of_64 : decode cX6_of 64 = .ok (.getfield 19, 3) := by decide +kernel
theorem dX6_of_67 : decode cX6_of 67 = .ok (.getfield 108, 3) := by decide +kernel
theorem dX6_of_70 : decode cX6_of 70 = .ok (.iload 4, 2) := by decide +kernel
theorem dX6_of_72 : decode cX6_of 72 = .ok (.iaload, 1) := by decide +kernel
theorem dX6_of_73 : decode cX6_of 73 = .ok (.ireturn, 1) := by decide +kernel
theorem dX6_of_74 : decode cX6_of 74 = .ok (.aload_n 0, 1) := by decide +kernel
theorem dX6_of_75 : decode cX6_of 75 = .ok (.getfield 19, 3) := by decide +kernel
theorem dX6_of_78 : decode cX6_of 78 = .ok (.getfield 111, 3) := by decide +kernel
theorem dX6_of_81 : decode cX6_of 81 = .ok (.iload 4, 2) := by decide +kernel
theorem dX6_of_83 : decode cX6_of 83 = .ok (.iaload, 1) := by decide +kernel
theorem dX6_of_84 : decode cX6_of 84 = .ok (.ireturn, 1) := by decide +kernel
theorem dX6_of_85 : decode cX6_of 85 = .ok (.aload_n 0, 1) := by decide +kernel
theorem dX6_of_86 : decode cX6_of 86 = .ok (.ldc 57, 2) := by decide +kernel
theorem dX6_of_88 : decode cX6_of 88 = .ok (.invokevirtual 58, 3) := by decide +kernel
theorem dX6_of_91 : decode cX6_of 91 = .ok (.ireturn, 1) := by decide +kernel
theorem dX6_shift_0 : decode cX6_shift 0 = .ok (.iload_n 1, 1) := by decide +kernel
theorem dX6_shift_1 : decode cX6_shift 1 = .ok (.bipush (-12), 2) := by decide +kernel
theorem dX6_shift_3 : decode cX6_shift 3 = .ok (.if_icmp .lt 9, 3) := by decide +kernel
theorem dX6_shift_6 : decode cX6_shift 6 = .ok (.iload_n 1, 1) := by decide +kernel
theorem dX6_shift_7 : decode cX6_shift 7 = .ok (.bipush 12, 2) := by decide +kernel
theorem dX6_shift_9 : decode cX6_shift 9 = .ok (.if_icmp .le 10, 3) := by decide +kernel
theorem dX6_shift_12 : decode cX6_shift 12 = .ok (.aload_n 0, 1) := by decide +kernel
theorem dX6_shift_13 : decode cX6_shift 13 = .ok (.ldc 57, 2) := by decide +kernel
theorem dX6_shift_15 : decode cX6_shift 15 = .ok (.invokevirtual 58, 3) := by decide +kernel
theorem dX6_shift_18 : decode cX6_shift 18 = .ok (.ireturn, 1) := by decide +kernel
theorem dX6_shift_19 : decode cX6_shift 19 = .ok (.aload_n 0, 1) := by decide +kernel
theorem dX6_shift_20 : decode cX6_shift 20 = .ok (.getfield 19, 3) := by decide +kernel
theorem dX6_shift_23 : decode cX6_shift 23 = .ok (.iload_n 1, 1) := by decide +kernel
theorem dX6_shift_24 : decode cX6_shift 24 = .ok (.invokevirtual 114, 3) := by decide +kernel
theorem dX6_shift_27 : decode cX6_shift 27 = .ok (.ifCond .ne 10, 3) := by decide +kernel
theorem dX6_shift_30 : decode cX6_shift 30 = .ok (.aload_n 0, 1) := by decide +kernel
theorem dX6_shift_31 : decode cX6_shift 31 = .ok (.ldc 117, 2) := by decide +kernel
theorem dX6_shift_33 : decode cX6_shift 33 = .ok (.invokevirtual 58, 3) := by decide +kernel
theorem dX6_shift_36 : decode cX6_shift 36 = .ok (.ireturn, 1) := by decide +kernel
theorem dX6_shift_37 : decode cX6_shift 37 = .ok (.aload_n 0, 1) := by decide +kernel
theorem dX6_shift_38 : decode cX6_shift 38 = .ok (.getfield 26, 3) := by decide +kernel
theorem dX6_shift_41 : decode cX6_shift 41 = .ok (.aload_n 0, 1) := by decide +kernel
theorem dX6_shift_42 : decode cX6_shift 42 = .ok (.getfield 19, 3) := by decide +kernel
theorem dX6_shift_45 : decode cX6_shift 45 = .ok (.invokevirtual 62, 3) := by decide +kernel
theorem dX6_shift_48 : decode cX6_shift 48 = .ok (.aload_n 0, 1) := by decide +kernel
theorem dX6_shift_49 : decode cX6_shift 49 = .ok (.getfield 19, 3) := by decide +kernel
theorem dX6_shift_52 : decode cX6_shift 52 = .ok (.iload_n 1, 1) := by decide +kernel
theorem dX6_shift_53 : decode cX6_shift 53 = .ok (.invokevirtual 118, 3) := by decide +kernel
theorem dX6_shift_56 : decode cX6_shift 56 = .ok (.aload_n 0, 1) := by decide +kernel
theorem dX6_shift_57 : decode cX6_shift 57 = .ok (.getfield 42, 3) := by decide +kernel
theorem dX6_shift_60 : decode cX6_shift 60 = .ok (.iconst 0, 1) := by decide +kernel
theorem dX6_shift_61 : decode cX6_shift 61 = .ok (.bipush 11, 2) := by decide +kernel
theorem dX6_shift_63 : decode cX6_shift 63 = .ok (.invokevirtual 88, 3) := by decide +kernel
theorem dX6_shift_66 : decode cX6_shift 66 = .ok (.aload_n 0, 1) := by decide +kernel
theorem dX6_shift_67 : decode cX6_shift 67 = .ok (.getfield 19, 3) := by decide +kernel
theorem dX6_shift_70 : decode cX6_shift 70 = .ok (.invokevirtual 122, 3) := by decide +kernel
theorem dX6_shift_73 : decode cX6_shift 73 = .ok (.ireturn, 1) := by decide +kernel
theorem dX6_mark_0 : decode cX6_mark 0 = .ok (.iload_n 1, 1) := by decide +kernel
theorem dX6_mark_1 : decode cX6_mark 1 = .ok (.invokestatic 72, 3) := by decide +kernel
theorem dX6_mark_4 : decode cX6_mark 4 = .ok (.ifCond .eq 17, 3) := by decide +kernel
theorem dX6_mark_7 : decode cX6_mark 7 = .ok (.iload_n 2, 1) := by decide +kernel
theorem dX6_mark_8 : decode cX6_mark 8 = .ok (.invokestatic 126, 3) := by decide +kernel
theorem dX6_mark_11 : decode cX6_mark 11 = .ok (.ifCond .eq 10, 3) := by decide +kernel
theorem dX6_mark_14 : decode cX6_mark 14 = .ok (.iload_n 3, 1) := by decide +kernel
theorem dX6_mark_15 : decode cX6_mark 15 = .ok (.invokestatic 129, 3) := by decide +kernel
theorem dX6_mark_18 : decode cX6_mark 18 = .ok (.ifCond .ne 10, 3) := by decide +kernel
theorem dX6_mark_21 : decode cX6_mark 21 = .ok (.aload_n 0, 1) := by decide +kernel
theorem dX6_mark_22 : decode cX6_mark 22 = .ok (.ldc 57, 2) := by decide +kernel
theorem dX6_mark_24 : decode cX6_mark 24 = .ok (.invokevirtual 58, 3) := by decide +kernel
theorem dX6_mark_27 : decode cX6_mark 27 = .ok (.ireturn, 1) := by decide +kernel
theorem dX6_mark_28 : decode cX6_mark 28 = .ok (.aload_n 0, 1) := by decide +kernel
theorem dX6_mark_29 : decode cX6_mark 29 = .ok (.getfield 26, 3) := by decide +kernel
theorem dX6_mark_32 : decode cX6_mark 32 = .ok (.aload_n 0, 1) := by decide +kernel
theorem dX6_mark_33 : decode cX6_mark 33 = .ok (.getfield 19, 3) := by decide +kernel
theorem dX6_mark_36 : decode cX6_mark 36 = .ok (.invokevirtual 62, 3) := by decide +kernel
theorem dX6_mark_39 : decode cX6_mark 39 = .ok (.iload_n 1, 1) := by decide +kernel
theorem dX6_mark_40 : decode cX6_mark 40 = .ok (.bipush 7, 2) := by decide +kernel
theorem dX6_mark_42 : decode cX6_mark 42 = .ok (.imul, 1) := by decide +kernel
theorem dX6_mark_43 : decode cX6_mark 43 = .ok (.iload_n 2, 1) := by decide +kernel
theorem dX6_mark_44 : decode cX6_mark 44 = .ok (.iadd, 1) := by decide +kernel
theorem dX6_mark_45 : decode cX6_mark 45 = .ok (.istore 4, 2) := by decide +kernel
theorem dX6_mark_47 : decode cX6_mark 47 = .ok (.aload_n 0, 1) := by decide +kernel
theorem dX6_mark_48 : decode cX6_mark 48 = .ok (.getfield 19, 3) := by decide +kernel
theorem dX6_mark_51 : decode cX6_mark 51 = .ok (.getfield 132, 3) := by decide +kernel
theorem dX6_mark_54 : decode cX6_mark 54 = .ok (.iload 4, 2) := by decide +kernel
theorem dX6_mark_56 : decode cX6_mark 56 = .ok (.iaload, 1) := by decide +kernel
theorem dX6_mark_57 : decode cX6_mark 57 = .ok (.istore 5, 2) := by decide +kernel
theorem dX6_mark_59 : decode cX6_mark 59 = .ok (.aload_n 0, 1) := by decide +kernel
theorem dX6_mark_60 : decode cX6_mark 60 = .ok (.getfield 19, 3) := by decide +kernel
theorem dX6_mark_63 : decode cX6_mark 63 = .ok (.getfield 132, 3) := by decide +kernel
theorem dX6_mark_66 : decode cX6_mark 66 = .ok (.iload 4, 2) := by decide +kernel
theorem dX6_mark_68 : decode cX6_mark 68 = .ok (.iload_n 3, 1) := by decide +kernel
theorem dX6_mark_69 : decode cX6_mark 69 = .ok (.iastore, 1) := by decide +kernel
theorem dX6_mark_70 : decode cX6_mark 70 = .ok (.aload_n 0, 1) := by decide +kernel
theorem dX6_mark_71 : decode cX6_mark 71 = .ok (.getfield 42, 3) := by decide +kernel
theorem dX6_mark_74 : decode cX6_mark 74 = .ok (.iload_n 1, 1) := by decide +kernel
theorem dX6_mark_75 : decode cX6_mark 75 = .ok (.iload_n 1, 1) := by decide +kernel
theorem dX6_mark_76 : decode cX6_mark 76 = .ok (.invokevirtual 88, 3) := by decide +kernel
theorem dX6_mark_79 : decode cX6_mark 79 = .ok (.iload 5, 2) := by decide +kernel
theorem dX6_mark_81 : decode cX6_mark 81 = .ok (.ireturn, 1) := by decide +kernel
theorem dX6_start_0 : decode cX6_start 0 = .ok (.iload_n 1, 1) := by decide +kernel
theorem dX6_start_1 : decode cX6_start 1 = .ok (.invokestatic 126, 3) := by decide +kernel
theorem dX6_start_4 : decode cX6_start 4 = .ok (.ifCond .eq 10, 3) := by decide +kernel
theorem dX6_start_7 : decode cX6_start 7 = .ok (.iload_n 2, 1) := by decide +kernel
theorem dX6_start_8 : decode cX6_start 8 = .ok (.invokestatic 129, 3) := by decide +kernel
theorem dX6_start_11 : decode cX6_start 11 = .ok (.ifCond .ne 10, 3) := by decide +kernel
theorem dX6_start_14 : decode cX6_start 14 = .ok (.aload_n 0, 1) := by decide +kernel
theorem dX6_start_15 : decode cX6_start 15 = .ok (.ldc 57, 2) := by decide +kernel
theorem dX6_start_17 : decode cX6_start 17 = .ok (.invokevirtual 58, 3) := by decide +kernel
theorem dX6_start_20 : decode cX6_start 20 = .ok (.ireturn, 1) := by decide +kernel
theorem dX6_start_21 : decode cX6_start 21 = .ok (.aload_n 0, 1) := by decide +kernel
theorem dX6_start_22 : decode cX6_start 22 = .ok (.getfield 26, 3) := by decide +kernel
theorem dX6_start_25 : decode cX6_start 25 = .ok (.aload_n 0, 1) := by decide +kernel
theorem dX6_start_26 : decode cX6_start 26 = .ok (.getfield 19, 3) := by decide +kernel
theorem dX6_start_29 : decode cX6_start 29 = .ok (.invokevirtual 62, 3) := by decide +kernel
theorem dX6_start_32 : decode cX6_start 32 = .ok (.aload_n 0, 1) := by decide +kernel
theorem dX6_start_33 : decode cX6_start 33 = .ok (.getfield 19, 3) := by decide +kernel
theorem dX6_start_36 : decode cX6_start 36 = .ok (.getfield 135, 3) := by decide +kernel
theorem dX6_start_39 : decode cX6_start 39 = .ok (.iload_n 1, 1) := by decide +kernel
theorem dX6_start_40 : decode cX6_start 40 = .ok (.iaload, 1) := by decide +kernel
theorem dX6_start_41 : decode cX6_start 41 = .ok (.istore_n 3, 1) := by decide +kernel
theorem dX6_start_42 : decode cX6_start 42 = .ok (.aload_n 0, 1) := by decide +kernel
theorem dX6_start_43 : decode cX6_start 43 = .ok (.getfield 19, 3) := by decide +kernel
theorem dX6_start_46 : decode cX6_start 46 = .ok (.getfield 135, 3) := by decide +kernel
theorem dX6_start_49 : decode cX6_start 49 = .ok (.iload_n 1, 1) := by decide +kernel
theorem dX6_start_50 : decode cX6_start 50 = .ok (.iload_n 2, 1) := by decide +kernel
theorem dX6_start_51 : decode cX6_start 51 = .ok (.iastore, 1) := by decide +kernel
theorem dX6_start_52 : decode cX6_start 52 = .ok (.aload_n 0, 1) := by decide +kernel
theorem dX6_start_53 : decode cX6_start 53 = .ok (.getfield 42, 3) := by decide +kernel
theorem dX6_start_56 : decode cX6_start 56 = .ok (.invokevirtual 138, 3) := by decide +kernel
theorem dX6_start_59 : decode cX6_start 59 = .ok (.iload_n 3, 1) := by decide +kernel
theorem dX6_start_60 : decode cX6_start 60 = .ok (.ireturn, 1) := by decide +kernel
theorem dX6_pitch_0 : decode cX6_pitch 0 = .ok (.iload_n 1, 1) := by decide +kernel
theorem dX6_pitch_1 : decode cX6_pitch 1 = .ok (.invokestatic 141, 3) := by decide +kernel
theorem dX6_pitch_4 : decode cX6_pitch 4 = .ok (.ifCond .eq 10, 3) := by decide +kernel
theorem dX6_pitch_7 : decode cX6_pitch 7 = .ok (.iload_n 2, 1) := by decide +kernel
theorem dX6_pitch_8 : decode cX6_pitch 8 = .ok (.invokestatic 144, 3) := by decide +kernel
theorem dX6_pitch_11 : decode cX6_pitch 11 = .ok (.ifCond .ne 10, 3) := by decide +kernel
theorem dX6_pitch_14 : decode cX6_pitch 14 = .ok (.aload_n 0, 1) := by decide +kernel
theorem dX6_pitch_15 : decode cX6_pitch 15 = .ok (.ldc 57, 2) := by decide +kernel
theorem dX6_pitch_17 : decode cX6_pitch 17 = .ok (.invokevirtual 58, 3) := by decide +kernel
theorem dX6_pitch_20 : decode cX6_pitch 20 = .ok (.ireturn, 1) := by decide +kernel
theorem dX6_pitch_21 : decode cX6_pitch 21 = .ok (.aload_n 0, 1) := by decide +kernel
theorem dX6_pitch_22 : decode cX6_pitch 22 = .ok (.getfield 10, 3) := by decide +kernel
theorem dX6_pitch_25 : decode cX6_pitch 25 = .ok (.iload_n 1, 1) := by decide +kernel
theorem dX6_pitch_26 : decode cX6_pitch 26 = .ok (.iload_n 2, 1) := by decide +kernel
theorem dX6_pitch_27 : decode cX6_pitch 27 = .ok (.invokevirtual 147, 3) := by decide +kernel
theorem dX6_pitch_30 : decode cX6_pitch 30 = .ok (.ireturn, 1) := by decide +kernel
theorem dX6_string_0 : decode cX6_string 0 = .ok (.aload_n 0, 1) := by decide +kernel
theorem dX6_string_1 : decode cX6_string 1 = .ok (.iload_n 1, 1) := by decide +kernel
theorem dX6_string_2 : decode cX6_string 2 = .ok (.iload_n 2, 1) := by decide +kernel
theorem dX6_string_3 : decode cX6_string 3 = .ok (.invokevirtual 93, 3) := by decide +kernel
theorem dX6_string_6 : decode cX6_string 6 = .ok (.ifCond .eq 10, 3) := by decide +kernel
theorem dX6_string_9 : decode cX6_string 9 = .ok (.iload_n 3, 1) := by decide +kernel
theorem dX6_string_10 : decode cX6_string 10 = .ok (.invokestatic 144, 3) := by decide +kernel
theorem dX6_string_13 : decode cX6_string 13 = .ok (.ifCond .ne 10, 3) := by decide +kernel
theorem dX6_string_16 : decode cX6_string 16 = .ok (.aload_n 0, 1) := by decide +kernel
theorem dX6_string_17 : decode cX6_string 17 = .ok (.ldc 57, 2) := by decide +kernel
theorem dX6_string_19 : decode cX6_string 19 = .ok (.invokevirtual 58, 3) := by decide +kernel
theorem dX6_string_22 : decode cX6_string 22 = .ok (.ireturn, 1) := by decide +kernel
theorem dX6_string_23 : decode cX6_string 23 = .ok (.aload_n 0, 1) := by decide +kernel
theorem dX6_string_24 : decode cX6_string 24 = .ok (.getfield 33, 3) := by decide +kernel
theorem dX6_string_27 : decode cX6_string 27 = .ok (.aload_n 0, 1) := by decide +kernel
theorem dX6_string_28 : decode cX6_string 28 = .ok (.getfield 19, 3) := by decide +kernel
theorem dX6_string_31 : decode cX6_string 31 = .ok (.iload_n 1, 1) := by decide +kernel
theorem dX6_string_32 : decode cX6_string 32 = .ok (.invokevirtual 150, 3) := by decide +kernel
theorem dX6_string_35 : decode cX6_string 35 = .ok (.aload_n 0, 1) := by decide +kernel
theorem dX6_string_36 : decode cX6_string 36 = .ok (.getfield 33, 3) := by decide +kernel
theorem dX6_string_39 : decode cX6_string 39 = .ok (.iload_n 2, 1) := by decide +kernel
theorem dX6_string_40 : decode cX6_string 40 = .ok (.aload_n 0, 1) := by decide +kernel
theorem dX6_string_41 : decode cX6_string 41 = .ok (.getfield 10, 3) := by decide +kernel
theorem dX6_string_44 : decode cX6_string 44 = .ok (.getfield 154, 3) := by decide +kernel
theorem dX6_string_47 : decode cX6_string 47 = .ok (.iload_n 3, 1) := by decide +kernel
theorem dX6_string_48 : decode cX6_string 48 = .ok (.iaload, 1) := by decide +kernel
theorem dX6_string_49 : decode cX6_string 49 = .ok (.invokevirtual 157, 3) := by decide +kernel
theorem dX6_string_52 : decode cX6_string 52 = .ok (.istore 4, 2) := by decide +kernel
theorem dX6_string_54 : decode cX6_string 54 = .ok (.iload 4, 2) := by decide +kernel
theorem dX6_string_56 : decode cX6_string 56 = .ok (.ifCond .ge 12, 3) := by decide +kernel
theorem dX6_string_59 : decode cX6_string 59 = .ok (.aload_n 0, 1) := by decide +kernel
theorem dX6_string_60 : decode cX6_string 60 = .ok (.ldc 92, 2) := by decide +kernel
theorem dX6_string_62 : decode cX6_string 62 = .ok (.invokevirtual 58, 3) := by decide +kernel
theorem dX6_string_65 : decode cX6_string 65 = .ok (.goto 5, 3) := by decide +kernel
theorem dX6_string_68 : decode cX6_string 68 = .ok (.iload 4, 2) := by decide +kernel
theorem dX6_string_70 : decode cX6_string 70 = .ok (.ireturn, 1) := by decide +kernel
theorem dX6_does_0 : decode cX6_does 0 = .ok (.iload_n 1, 1) := by decide +kernel
theorem dX6_does_1 : decode cX6_does 1 = .ok (.invokestatic 72, 3) := by decide +kernel
theorem dX6_does_4 : decode cX6_does 4 = .ok (.ifCond .eq 10, 3) := by decide +kernel
theorem dX6_does_7 : decode cX6_does 7 = .ok (.iload_n 2, 1) := by decide +kernel
theorem dX6_does_8 : decode cX6_does 8 = .ok (.invokestatic 144, 3) := by decide +kernel
theorem dX6_does_11 : decode cX6_does 11 = .ok (.ifCond .ne 10, 3) := by decide +kernel
theorem dX6_does_14 : decode cX6_does 14 = .ok (.aload_n 0, 1) := by decide +kernel
theorem dX6_does_15 : decode cX6_does 15 = .ok (.ldc 57, 2) := by decide +kernel
theorem dX6_does_17 : decode cX6_does 17 = .ok (.invokevirtual 58, 3) := by decide +kernel
theorem dX6_does_20 : decode cX6_does 20 = .ok (.ireturn, 1) := by decide +kernel
theorem dX6_does_21 : decode cX6_does 21 = .ok (.aload_n 0, 1) := by decide +kernel
theorem dX6_does_22 : decode cX6_does 22 = .ok (.getfield 33, 3) := by decide +kernel
theorem dX6_does_25 : decode cX6_does 25 = .ok (.aload_n 0, 1) := by decide +kernel
theorem dX6_does_26 : decode cX6_does 26 = .ok (.getfield 19, 3) := by decide +kernel
theorem dX6_does_29 : decode cX6_does 29 = .ok (.iload_n 1, 1) := by decide +kernel
theorem dX6_does_30 : decode cX6_does 30 = .ok (.invokevirtual 150, 3) := by decide +kernel
theorem dX6_does_33 : decode cX6_does 33 = .ok (.aload_n 0, 1) := by decide +kernel
theorem dX6_does_34 : decode cX6_does 34 = .ok (.getfield 33, 3) := by decide +kernel
theorem dX6_does_37 : decode cX6_does 37 = .ok (.aload_n 0, 1) := by decide +kernel
theorem dX6_does_38 : decode cX6_does 38 = .ok (.getfield 10, 3) := by decide +kernel
theorem dX6_does_41 : decode cX6_does 41 = .ok (.getfield 154, 3) := by decide +kernel
theorem dX6_does_44 : decode cX6_does 44 = .ok (.iload_n 2, 1) := by decide +kernel
theorem dX6_does_45 : decode cX6_does 45 = .ok (.iaload, 1) := by decide +kernel
theorem dX6_does_46 : decode cX6_does 46 = .ok (.invokevirtual 160, 3) := by decide +kernel
theorem dX6_does_49 : decode cX6_does 49 = .ok (.ifCond .ge 7, 3) := by decide +kernel
theorem dX6_does_52 : decode cX6_does 52 = .ok (.iconst 0, 1) := by decide +kernel
theorem dX6_does_53 : decode cX6_does 53 = .ok (.goto 4, 3) := by decide +kernel
theorem dX6_does_56 : decode cX6_does 56 = .ok (.iconst 1, 1) := by decide +kernel
theorem dX6_does_57 : decode cX6_does 57 = .ok (.ireturn, 1) := by decide +kernel
theorem dX6_many_0 : decode cX6_many 0 = .ok (.iload_n 1, 1) := by decide +kernel
theorem dX6_many_1 : decode cX6_many 1 = .ok (.invokestatic 72, 3) := by decide +kernel
theorem dX6_many_4 : decode cX6_many 4 = .ok (.ifCond .ne 10, 3) := by decide +kernel
theorem dX6_many_7 : decode cX6_many 7 = .ok (.aload_n 0, 1) := by decide +kernel
theorem dX6_many_8 : decode cX6_many 8 = .ok (.ldc 57, 2) := by decide +kernel
theorem dX6_many_10 : decode cX6_many 10 = .ok (.invokevirtual 58, 3) := by decide +kernel
theorem dX6_many_13 : decode cX6_many 13 = .ok (.ireturn, 1) := by decide +kernel
theorem dX6_many_14 : decode cX6_many 14 = .ok (.aload_n 0, 1) := by decide +kernel
theorem dX6_many_15 : decode cX6_many 15 = .ok (.getfield 33, 3) := by decide +kernel
theorem dX6_many_18 : decode cX6_many 18 = .ok (.aload_n 0, 1) := by decide +kernel
theorem dX6_many_19 : decode cX6_many 19 = .ok (.getfield 19, 3) := by decide +kernel
theorem dX6_many_22 : decode cX6_many 22 = .ok (.iload_n 1, 1) := by decide +kernel
theorem dX6_many_23 : decode cX6_many 23 = .ok (.invokevirtual 150, 3) := by decide +kernel
theorem dX6_many_26 : decode cX6_many 26 = .ok (.iconst 0, 1) := by decide +kernel
theorem dX6_many_27 : decode cX6_many 27 = .ok (.istore_n 2, 1) := by decide +kernel
theorem dX6_many_28 : decode cX6_many 28 = .ok (.iconst 0, 1) := by decide +kernel
theorem dX6_many_29 : decode cX6_many 29 = .ok (.istore_n 3, 1) := by decide +kernel
theorem dX6_many_30 : decode cX6_many 30 = .ok (.iload_n 3, 1) := by decide +kernel
theorem dX6_many_31 : decode cX6_many 31 = .ok (.sipush 2187, 3) := by decide +kernel
theorem dX6_many_34 : decode cX6_many 34 = .ok (.if_icmp .ge 31, 3) := by decide +kernel
theorem dX6_many_37 : decode cX6_many 37 = .ok (.aload_n 0, 1) := by decide +kernel
theorem dX6_many_38 : decode cX6_many 38 = .ok (.getfield 33, 3) := by decide +kernel
theorem dX6_many_41 : decode cX6_many 41 = .ok (.aload_n 0, 1) := by decide +kernel
theorem dX6_many_42 : decode cX6_many 42 = .ok (.getfield 10, 3) := by decide +kernel
theorem dX6_many_45 : decode cX6_many 45 = .ok (.getfield 154, 3) := by decide +kernel
theorem dX6_many_48 : decode cX6_many 48 = .ok (.iload_n 3, 1) := by decide +kernel
theorem dX6_many_49 : decode cX6_many 49 = .ok (.iaload, 1) := by decide +kernel
theorem dX6_many_50 : decode cX6_many 50 = .ok (.invokevirtual 160, 3) := by decide +kernel
theorem dX6_many_53 : decode cX6_many 53 = .ok (.ifCond .lt 6, 3) := by decide +kernel
theorem dX6_many_56 : decode cX6_many 56 = .ok (.iinc 2 1, 3) := by decide +kernel
theorem dX6_many_59 : decode cX6_many 59 = .ok (.iinc 3 1, 3) := by decide +kernel
theorem dX6_many_62 : decode cX6_many 62 = .ok (.goto (-32), 3) := by decide +kernel
theorem dX6_many_65 : decode cX6_many 65 = .ok (.iload_n 2, 1) := by decide +kernel
theorem dX6_many_66 : decode cX6_many 66 = .ok (.ireturn, 1) := by decide +kernel
theorem dX6_moves_0 : decode cX6_moves 0 = .ok (.aload_n 0, 1) := by decide +kernel
theorem dX6_moves_1 : decode cX6_moves 1 = .ok (.getfield 42, 3) := by decide +kernel
theorem dX6_moves_4 : decode cX6_moves 4 = .ok (.invokevirtual 163, 3) := by decide +kernel
theorem dX6_moves_7 : decode cX6_moves 7 = .ok (.ifCond .eq 13, 3) := by decide +kernel
theorem dX6_moves_10 : decode cX6_moves 10 = .ok (.aload_n 0, 1) := by decide +kernel
theorem dX6_moves_11 : decode cX6_moves 11 = .ok (.getfield 42, 3) := by decide +kernel
theorem dX6_moves_14 : decode cX6_moves 14 = .ok (.invokevirtual 167, 3) := by decide +kernel
theorem dX6_moves_17 : decode cX6_moves 17 = .ok (.goto 9, 3) := by decide +kernel
theorem dX6_moves_20 : decode cX6_moves 20 = .ok (.aload_n 0, 1) := by decide +kernel
theorem dX6_moves_21 : decode cX6_moves 21 = .ok (.ldc 92, 2) := by decide +kernel
theorem dX6_moves_23 : decode cX6_moves 23 = .ok (.invokevirtual 58, 3) := by decide +kernel
theorem dX6_moves_26 : decode cX6_moves 26 = .ok (.ireturn, 1) := by decide +kernel
theorem dX6_diagram_0 : decode cX6_diagram 0 = .ok (.aload_n 0, 1) := by decide +kernel
theorem dX6_diagram_1 : decode cX6_diagram 1 = .ok (.iload_n 1, 1) := by decide +kernel
theorem dX6_diagram_2 : decode cX6_diagram 2 = .ok (.invokevirtual 170, 3) := by decide +kernel
theorem dX6_diagram_5 : decode cX6_diagram 5 = .ok (.ifCond .ne 10, 3) := by decide +kernel
theorem dX6_diagram_8 : decode cX6_diagram 8 = .ok (.aload_n 0, 1) := by decide +kernel
theorem dX6_diagram_9 : decode cX6_diagram 9 = .ok (.ldc 57, 2) := by decide +kernel
theorem dX6_diagram_11 : decode cX6_diagram 11 = .ok (.invokevirtual 58, 3) := by decide +kernel
theorem dX6_diagram_14 : decode cX6_diagram 14 = .ok (.ireturn, 1) := by decide +kernel
theorem dX6_diagram_15 : decode cX6_diagram 15 = .ok (.aload_n 0, 1) := by decide +kernel
theorem dX6_diagram_16 : decode cX6_diagram 16 = .ok (.getfield 42, 3) := by decide +kernel
theorem dX6_diagram_19 : decode cX6_diagram 19 = .ok (.invokevirtual 163, 3) := by decide +kernel
theorem dX6_diagram_22 : decode cX6_diagram 22 = .ok (.ifCond .eq 15, 3) := by decide +kernel
theorem dX6_diagram_25 : decode cX6_diagram 25 = .ok (.aload_n 0, 1) := by decide +kernel
theorem dX6_diagram_26 : decode cX6_diagram 26 = .ok (.getfield 42, 3) := by decide +kernel
theorem dX6_diagram_29 : decode cX6_diagram 29 = .ok (.getfield 173, 3) := by decide +kernel
theorem dX6_diagram_32 : decode cX6_diagram 32 = .ok (.iload_n 1, 1) := by decide +kernel
theorem dX6_diagram_33 : decode cX6_diagram 33 = .ok (.iaload, 1) := by decide +kernel
theorem dX6_diagram_34 : decode cX6_diagram 34 = .ok (.goto 9, 3) := by decide +kernel
theorem dX6_diagram_37 : decode cX6_diagram 37 = .ok (.aload_n 0, 1) := by decide +kernel
theorem dX6_diagram_38 : decode cX6_diagram 38 = .ok (.ldc 92, 2) := by decide +kernel
theorem dX6_diagram_40 : decode cX6_diagram 40 = .ok (.invokevirtual 58, 3) := by decide +kernel
theorem dX6_diagram_43 : decode cX6_diagram 43 = .ok (.ireturn, 1) := by decide +kernel
theorem dX6_stand_0 : decode cX6_stand 0 = .ok (.aload_n 0, 1) := by decide +kernel
theorem dX6_stand_1 : decode cX6_stand 1 = .ok (.iload_n 1, 1) := by decide +kernel
theorem dX6_stand_2 : decode cX6_stand 2 = .ok (.invokevirtual 170, 3) := by decide +kernel
theorem dX6_stand_5 : decode cX6_stand 5 = .ok (.ifCond .eq 10, 3) := by decide +kernel
theorem dX6_stand_8 : decode cX6_stand 8 = .ok (.iload_n 2, 1) := by decide +kernel
theorem dX6_stand_9 : decode cX6_stand 9 = .ok (.invokestatic 126, 3) := by decide +kernel
theorem dX6_stand_12 : decode cX6_stand 12 = .ok (.ifCond .ne 10, 3) := by decide +kernel
theorem dX6_stand_15 : decode cX6_stand 15 = .ok (.aload_n 0, 1) := by decide +kernel
theorem dX6_stand_16 : decode cX6_stand 16 = .ok (.ldc 57, 2) := by decide +kernel
theorem dX6_stand_18 : decode cX6_stand 18 = .ok (.invokevirtual 58, 3) := by decide +kernel
theorem dX6_stand_21 : decode cX6_stand 21 = .ok (.ireturn, 1) := by decide +kernel
theorem dX6_stand_22 : decode cX6_stand 22 = .ok (.aload_n 0, 1) := by decide +kernel
theorem dX6_stand_23 : decode cX6_stand 23 = .ok (.getfield 42, 3) := by decide +kernel
theorem dX6_stand_26 : decode cX6_stand 26 = .ok (.invokevirtual 163, 3) := by decide +kernel
theorem dX6_stand_29 : decode cX6_stand 29 = .ok (.ifCond .ne 10, 3) := by decide +kernel
theorem dX6_stand_32 : decode cX6_stand 32 = .ok (.aload_n 0, 1) := by decide +kernel
theorem dX6_stand_33 : decode cX6_stand 33 = .ok (.ldc 92, 2) := by decide +kernel
theorem dX6_stand_35 : decode cX6_stand 35 = .ok (.invokevirtual 58, 3) := by decide +kernel
theorem dX6_stand_38 : decode cX6_stand 38 = .ok (.ireturn, 1) := by decide +kernel
theorem dX6_stand_39 : decode cX6_stand 39 = .ok (.aload_n 0, 1) := by decide +kernel
theorem dX6_stand_40 : decode cX6_stand 40 = .ok (.getfield 10, 3) := by decide +kernel
theorem dX6_stand_43 : decode cX6_stand 43 = .ok (.getfield 154, 3) := by decide +kernel
theorem dX6_stand_46 : decode cX6_stand 46 = .ok (.aload_n 0, 1) := by decide +kernel
theorem dX6_stand_47 : decode cX6_stand 47 = .ok (.getfield 42, 3) := by decide +kernel
theorem dX6_stand_50 : decode cX6_stand 50 = .ok (.getfield 173, 3) := by decide +kernel
theorem dX6_stand_53 : decode cX6_stand 53 = .ok (.iload_n 1, 1) := by decide +kernel
theorem dX6_stand_54 : decode cX6_stand 54 = .ok (.iaload, 1) := by decide +kernel
theorem dX6_stand_55 : decode cX6_stand 55 = .ok (.iaload, 1) := by decide +kernel
theorem dX6_stand_56 : decode cX6_stand 56 = .ok (.iload_n 2, 1) := by decide +kernel
theorem dX6_stand_57 : decode cX6_stand 57 = .ok (.invokestatic 176, 3) := by decide +kernel
theorem dX6_stand_60 : decode cX6_stand 60 = .ok (.ireturn, 1) := by decide +kernel
theorem dX6_foot_0 : decode cX6_foot 0 = .ok (.aload_n 0, 1) := by decide +kernel
theorem dX6_foot_1 : decode cX6_foot 1 = .ok (.iload_n 1, 1) := by decide +kernel
theorem dX6_foot_2 : decode cX6_foot 2 = .ok (.invokevirtual 170, 3) := by decide +kernel
theorem dX6_foot_5 : decode cX6_foot 5 = .ok (.ifCond .ne 10, 3) := by decide +kernel
theorem dX6_foot_8 : decode cX6_foot 8 = .ok (.aload_n 0, 1) := by decide +kernel
theorem dX6_foot_9 : decode cX6_foot 9 = .ok (.ldc 57, 2) := by decide +kernel
theorem dX6_foot_11 : decode cX6_foot 11 = .ok (.invokevirtual 58, 3) := by decide +kernel
theorem dX6_foot_14 : decode cX6_foot 14 = .ok (.ireturn, 1) := by decide +kernel
theorem dX6_foot_15 : decode cX6_foot 15 = .ok (.aload_n 0, 1) := by decide +kernel
theorem dX6_foot_16 : decode cX6_foot 16 = .ok (.getfield 42, 3) := by decide +kernel
theorem dX6_foot_19 : decode cX6_foot 19 = .ok (.invokevirtual 163, 3) := by decide +kernel
theorem dX6_foot_22 : decode cX6_foot 22 = .ok (.ifCond .ne 10, 3) := by decide +kernel
theorem dX6_foot_25 : decode cX6_foot 25 = .ok (.aload_n 0, 1) := by decide +kernel
theorem dX6_foot_26 : decode cX6_foot 26 = .ok (.ldc 92, 2) := by decide +kernel
theorem dX6_foot_28 : decode cX6_foot 28 = .ok (.invokevirtual 58, 3) := by decide +kernel
theorem dX6_foot_31 : decode cX6_foot 31 = .ok (.ireturn, 1) := by decide +kernel
theorem dX6_foot_32 : decode cX6_foot 32 = .ok (.aload_n 0, 1) := by decide +kernel
theorem dX6_foot_33 : decode cX6_foot 33 = .ok (.getfield 42, 3) := by decide +kernel
theorem dX6_foot_36 : decode cX6_foot 36 = .ok (.iload_n 1, 1) := by decide +kernel
theorem dX6_foot_37 : decode cX6_foot 37 = .ok (.iload_n 2, 1) := by decide +kernel
theorem dX6_foot_38 : decode cX6_foot 38 = .ok (.ifCond .eq 8, 3) := by decide +kernel
theorem dX6_foot_41 : decode cX6_foot 41 = .ok (.bipush 60, 2) := by decide +kernel
theorem dX6_foot_43 : decode cX6_foot 43 = .ok (.goto 5, 3) := by decide +kernel
theorem dX6_foot_46 : decode cX6_foot 46 = .ok (.bipush 67, 2) := by decide +kernel
theorem dX6_foot_48 : decode cX6_foot 48 = .ok (.invokevirtual 179, 3) := by decide +kernel
theorem dX6_foot_51 : decode cX6_foot 51 = .ok (.ireturn, 1) := by decide +kernel
theorem dX6_ways_0 : decode cX6_ways 0 = .ok (.aload_n 0, 1) := by decide +kernel
theorem dX6_ways_1 : decode cX6_ways 1 = .ok (.getfield 42, 3) := by decide +kernel
theorem dX6_ways_4 : decode cX6_ways 4 = .ok (.invokevirtual 163, 3) := by decide +kernel
theorem dX6_ways_7 : decode cX6_ways 7 = .ok (.ifCond .eq 13, 3) := by decide +kernel
theorem dX6_ways_10 : decode cX6_ways 10 = .ok (.aload_n 0, 1) := by decide +kernel
theorem dX6_ways_11 : decode cX6_ways 11 = .ok (.getfield 42, 3) := by decide +kernel
theorem dX6_ways_14 : decode cX6_ways 14 = .ok (.invokevirtual 182, 3) := by decide +kernel
theorem dX6_ways_17 : decode cX6_ways 17 = .ok (.goto 9, 3) := by decide +kernel
theorem dX6_ways_20 : decode cX6_ways 20 = .ok (.aload_n 0, 1) := by decide +kernel
theorem dX6_ways_21 : decode cX6_ways 21 = .ok (.ldc 92, 2) := by decide +kernel
theorem dX6_ways_23 : decode cX6_ways 23 = .ok (.invokevirtual 58, 3) := by decide +kernel
theorem dX6_ways_26 : decode cX6_ways 26 = .ok (.ireturn, 1) := by decide +kernel
theorem dX6_stuck_0 : decode cX6_stuck 0 = .ok (.aload_n 0, 1) := by decide +kernel
theorem dX6_stuck_1 : decode cX6_stuck 1 = .ok (.getfield 42, 3) := by decide +kernel
theorem dX6_stuck_4 : decode cX6_stuck 4 = .ok (.invokevirtual 163, 3) := by decide +kernel
theorem dX6_stuck_7 : decode cX6_stuck 7 = .ok (.ifCond .eq 7, 3) := by decide +kernel
theorem dX6_stuck_10 : decode cX6_stuck 10 = .ok (.iconst (-1), 1) := by decide +kernel
theorem dX6_stuck_11 : decode cX6_stuck 11 = .ok (.goto 10, 3) := by decide +kernel
theorem dX6_stuck_14 : decode cX6_stuck 14 = .ok (.aload_n 0, 1) := by decide +kernel
theorem dX6_stuck_15 : decode cX6_stuck 15 = .ok (.getfield 42, 3) := by decide +kernel
theorem dX6_stuck_18 : decode cX6_stuck 18 = .ok (.invokevirtual 185, 3) := by decide +kernel
theorem dX6_stuck_21 : decode cX6_stuck 21 = .ok (.ireturn, 1) := by decide +kernel
theorem dX6_without_0 : decode cX6_without 0 = .ok (.iload_n 1, 1) := by decide +kernel
theorem dX6_without_1 : decode cX6_without 1 = .ok (.invokestatic 72, 3) := by decide +kernel
theorem dX6_without_4 : decode cX6_without 4 = .ok (.ifCond .eq 10, 3) := by decide +kernel
theorem dX6_without_7 : decode cX6_without 7 = .ok (.iload_n 2, 1) := by decide +kernel
theorem dX6_without_8 : decode cX6_without 8 = .ok (.invokestatic 126, 3) := by decide +kernel
theorem dX6_without_11 : decode cX6_without 11 = .ok (.ifCond .ne 10, 3) := by decide +kernel
theorem dX6_without_14 : decode cX6_without 14 = .ok (.aload_n 0, 1) := by decide +kernel
theorem dX6_without_15 : decode cX6_without 15 = .ok (.ldc 57, 2) := by decide +kernel
theorem dX6_without_17 : decode cX6_without 17 = .ok (.invokevirtual 58, 3) := by decide +kernel
theorem dX6_without_20 : decode cX6_without 20 = .ok (.ireturn, 1) := by decide +kernel
theorem dX6_without_21 : decode cX6_without 21 = .ok (.aload_n 0, 1) := by decide +kernel
theorem dX6_without_22 : decode cX6_without 22 = .ok (.getfield 19, 3) := by decide +kernel
theorem dX6_without_25 : decode cX6_without 25 = .ok (.getfield 132, 3) := by decide +kernel
theorem dX6_without_28 : decode cX6_without 28 = .ok (.iload_n 1, 1) := by decide +kernel
theorem dX6_without_29 : decode cX6_without 29 = .ok (.bipush 7, 2) := by decide +kernel
theorem dX6_without_31 : decode cX6_without 31 = .ok (.imul, 1) := by decide +kernel
theorem dX6_without_32 : decode cX6_without 32 = .ok (.iload_n 2, 1) := by decide +kernel
theorem dX6_without_33 : decode cX6_without 33 = .ok (.iadd, 1) := by decide +kernel
theorem dX6_without_34 : decode cX6_without 34 = .ok (.iaload, 1) := by decide +kernel
theorem dX6_without_35 : decode cX6_without 35 = .ok (.ifCond .ge 10, 3) := by decide +kernel
theorem dX6_without_38 : decode cX6_without 38 = .ok (.aload_n 0, 1) := by decide +kernel
theorem dX6_without_39 : decode cX6_without 39 = .ok (.ldc 107, 2) := by decide +kernel
theorem dX6_without_41 : decode cX6_without 41 = .ok (.invokevirtual 58, 3) := by decide +kernel
theorem dX6_without_44 : decode cX6_without 44 = .ok (.ireturn, 1) := by decide +kernel
theorem dX6_without_45 : decode cX6_without 45 = .ok (.aload_n 0, 1) := by decide +kernel
theorem dX6_without_46 : decode cX6_without 46 = .ok (.getfield 42, 3) := by decide +kernel
theorem dX6_without_49 : decode cX6_without 49 = .ok (.invokevirtual 163, 3) := by decide +kernel
theorem dX6_without_52 : decode cX6_without 52 = .ok (.ifCond .eq 15, 3) := by decide +kernel
theorem dX6_without_55 : decode cX6_without 55 = .ok (.aload_n 0, 1) := by decide +kernel
theorem dX6_without_56 : decode cX6_without 56 = .ok (.getfield 42, 3) := by decide +kernel
theorem dX6_without_59 : decode cX6_without 59 = .ok (.iload_n 1, 1) := by decide +kernel
theorem dX6_without_60 : decode cX6_without 60 = .ok (.iload_n 2, 1) := by decide +kernel
theorem dX6_without_61 : decode cX6_without 61 = .ok (.invokevirtual 188, 3) := by decide +kernel
theorem dX6_without_64 : decode cX6_without 64 = .ok (.goto 9, 3) := by decide +kernel
theorem dX6_without_67 : decode cX6_without 67 = .ok (.aload_n 0, 1) := by decide +kernel
theorem dX6_without_68 : decode cX6_without 68 = .ok (.ldc 92, 2) := by decide +kernel
theorem dX6_without_70 : decode cX6_without 70 = .ok (.invokevirtual 58, 3) := by decide +kernel
theorem dX6_without_73 : decode cX6_without 73 = .ok (.ireturn, 1) := by decide +kernel
theorem dX6_split_0 : decode cX6_split 0 = .ok (.iload_n 1, 1) := by decide +kernel
theorem dX6_split_1 : decode cX6_split 1 = .ok (.invokestatic 72, 3) := by decide +kernel
theorem dX6_split_4 : decode cX6_split 4 = .ok (.ifCond .eq 10, 3) := by decide +kernel
theorem dX6_split_7 : decode cX6_split 7 = .ok (.iload_n 2, 1) := by decide +kernel
theorem dX6_split_8 : decode cX6_split 8 = .ok (.invokestatic 144, 3) := by decide +kernel
theorem dX6_split_11 : decode cX6_split 11 = .ok (.ifCond .ne 10, 3) := by decide +kernel
theorem dX6_split_14 : decode cX6_split 14 = .ok (.aload_n 0, 1) := by decide +kernel
theorem dX6_split_15 : decode cX6_split 15 = .ok (.ldc 57, 2) := by decide +kernel
theorem dX6_split_17 : decode cX6_split 17 = .ok (.invokevirtual 58, 3) := by decide +kernel
theorem dX6_split_20 : decode cX6_split 20 = .ok (.ireturn, 1) := by decide +kernel
theorem dX6_split_21 : decode cX6_split 21 = .ok (.aload_n 0, 1) := by decide +kernel
theorem dX6_split_22 : decode cX6_split 22 = .ok (.getfield 33, 3) := by decide +kernel
theorem dX6_split_25 : decode cX6_split 25 = .ok (.aload_n 0, 1) := by decide +kernel
theorem dX6_split_26 : decode cX6_split 26 = .ok (.getfield 19, 3) := by decide +kernel
theorem dX6_split_29 : decode cX6_split 29 = .ok (.iload_n 1, 1) := by decide +kernel
theorem dX6_split_30 : decode cX6_split 30 = .ok (.invokevirtual 150, 3) := by decide +kernel
theorem dX6_split_33 : decode cX6_split 33 = .ok (.aload_n 0, 1) := by decide +kernel
theorem dX6_split_34 : decode cX6_split 34 = .ok (.getfield 10, 3) := by decide +kernel
theorem dX6_split_37 : decode cX6_split 37 = .ok (.getfield 154, 3) := by decide +kernel
theorem dX6_split_40 : decode cX6_split 40 = .ok (.iload_n 2, 1) := by decide +kernel
theorem dX6_split_41 : decode cX6_split 41 = .ok (.iaload, 1) := by decide +kernel
theorem dX6_split_42 : decode cX6_split 42 = .ok (.istore_n 3, 1) := by decide +kernel
theorem dX6_split_43 : decode cX6_split 43 = .ok (.aload_n 0, 1) := by decide +kernel
theorem dX6_split_44 : decode cX6_split 44 = .ok (.getfield 33, 3) := by decide +kernel
theorem dX6_split_47 : decode cX6_split 47 = .ok (.iload_n 3, 1) := by decide +kernel
theorem dX6_split_48 : decode cX6_split 48 = .ok (.invokevirtual 160, 3) := by decide +kernel
theorem dX6_split_51 : decode cX6_split 51 = .ok (.ifCond .ge 10, 3) := by decide +kernel
theorem dX6_split_54 : decode cX6_split 54 = .ok (.aload_n 0, 1) := by decide +kernel
theorem dX6_split_55 : decode cX6_split 55 = .ok (.ldc 107, 2) := by decide +kernel
theorem dX6_split_57 : decode cX6_split 57 = .ok (.invokevirtual 58, 3) := by decide +kernel
theorem dX6_split_60 : decode cX6_split 60 = .ok (.ireturn, 1) := by decide +kernel
theorem dX6_split_61 : decode cX6_split 61 = .ok (.aload_n 0, 1) := by decide +kernel
theorem dX6_split_62 : decode cX6_split 62 = .ok (.getfield 33, 3) := by decide +kernel
theorem dX6_split_65 : decode cX6_split 65 = .ok (.iload_n 3, 1) := by decide +kernel
theorem dX6_split_66 : decode cX6_split 66 = .ok (.invokevirtual 191, 3) := by decide +kernel
theorem dX6_split_69 : decode cX6_split 69 = .ok (.istore 4, 2) := by decide +kernel
theorem dX6_split_71 : decode cX6_split 71 = .ok (.iload 4, 2) := by decide +kernel
theorem dX6_split_73 : decode cX6_split 73 = .ok (.ifCond .ge 12, 3) := by decide +kernel
theorem dX6_split_76 : decode cX6_split 76 = .ok (.aload_n 0, 1) := by decide +kernel
theorem dX6_split_77 : decode cX6_split 77 = .ok (.ldc 92, 2) := by decide +kernel
theorem dX6_split_79 : decode cX6_split 79 = .ok (.invokevirtual 58, 3) := by decide +kernel
theorem dX6_split_82 : decode cX6_split 82 = .ok (.goto 5, 3) := by decide +kernel
theorem dX6_split_85 : decode cX6_split 85 = .ok (.iload 4, 2) := by decide +kernel
theorem dX6_split_87 : decode cX6_split 87 = .ok (.ireturn, 1) := by decide +kernel
theorem dX6_hard_0 : decode cX6_hard 0 = .ok (.aload_n 0, 1) := by decide +kernel
theorem dX6_hard_1 : decode cX6_hard 1 = .ok (.getfield 42, 3) := by decide +kernel
theorem dX6_hard_4 : decode cX6_hard 4 = .ok (.invokevirtual 163, 3) := by decide +kernel
theorem dX6_hard_7 : decode cX6_hard 7 = .ok (.ifCond .ne 10, 3) := by decide +kernel
theorem dX6_hard_10 : decode cX6_hard 10 = .ok (.aload_n 0, 1) := by decide +kernel
theorem dX6_hard_11 : decode cX6_hard 11 = .ok (.ldc 92, 2) := by decide +kernel
theorem dX6_hard_13 : decode cX6_hard 13 = .ok (.invokevirtual 58, 3) := by decide +kernel
theorem dX6_hard_16 : decode cX6_hard 16 = .ok (.ireturn, 1) := by decide +kernel
theorem dX6_hard_17 : decode cX6_hard 17 = .ok (.iconst 0, 1) := by decide +kernel
theorem dX6_hard_18 : decode cX6_hard 18 = .ok (.istore_n 1, 1) := by decide +kernel
theorem dX6_hard_19 : decode cX6_hard 19 = .ok (.iload_n 1, 1) := by decide +kernel
theorem dX6_hard_20 : decode cX6_hard 20 = .ok (.aload_n 0, 1) := by decide +kernel
theorem dX6_hard_21 : decode cX6_hard 21 = .ok (.getfield 19, 3) := by decide +kernel
theorem dX6_hard_24 : decode cX6_hard 24 = .ok (.getfield 66, 3) := by decide +kernel
theorem dX6_hard_27 : decode cX6_hard 27 = .ok (.if_icmp .ge 50, 3) := by decide +kernel
theorem dX6_hard_30 : decode cX6_hard 30 = .ok (.aload_n 0, 1) := by decide +kernel
theorem dX6_hard_31 : decode cX6_hard 31 = .ok (.getfield 33, 3) := by decide +kernel
theorem dX6_hard_34 : decode cX6_hard 34 = .ok (.aload_n 0, 1) := by decide +kernel
theorem dX6_hard_35 : decode cX6_hard 35 = .ok (.getfield 19, 3) := by decide +kernel
theorem dX6_hard_38 : decode cX6_hard 38 = .ok (.iload_n 1, 1) := by decide +kernel
theorem dX6_hard_39 : decode cX6_hard 39 = .ok (.invokevirtual 150, 3) := by decide +kernel
theorem dX6_hard_42 : decode cX6_hard 42 = .ok (.aload_n 0, 1) := by decide +kernel
theorem dX6_hard_43 : decode cX6_hard 43 = .ok (.getfield 33, 3) := by decide +kernel
theorem dX6_hard_46 : decode cX6_hard 46 = .ok (.aload_n 0, 1) := by decide +kernel
theorem dX6_hard_47 : decode cX6_hard 47 = .ok (.getfield 10, 3) := by decide +kernel
theorem dX6_hard_50 : decode cX6_hard 50 = .ok (.getfield 154, 3) := by decide +kernel
theorem dX6_hard_53 : decode cX6_hard 53 = .ok (.aload_n 0, 1) := by decide +kernel
theorem dX6_hard_54 : decode cX6_hard 54 = .ok (.getfield 42, 3) := by decide +kernel
theorem dX6_hard_57 : decode cX6_hard 57 = .ok (.getfield 173, 3) := by decide +kernel
theorem dX6_hard_60 : decode cX6_hard 60 = .ok (.iload_n 1, 1) := by decide +kernel
theorem dX6_hard_61 : decode cX6_hard 61 = .ok (.iaload, 1) := by decide +kernel
theorem dX6_hard_62 : decode cX6_hard 62 = .ok (.iaload, 1) := by decide +kernel
theorem dX6_hard_63 : decode cX6_hard 63 = .ok (.invokevirtual 191, 3) := by decide +kernel
theorem dX6_hard_66 : decode cX6_hard 66 = .ok (.ifCond .ge 5, 3) := by decide +kernel
theorem dX6_hard_69 : decode cX6_hard 69 = .ok (.iload_n 1, 1) := by decide +kernel
theorem dX6_hard_70 : decode cX6_hard 70 = .ok (.ireturn, 1) := by decide +kernel
theorem dX6_hard_71 : decode cX6_hard 71 = .ok (.iinc 1 1, 3) := by decide +kernel
theorem dX6_hard_74 : decode cX6_hard 74 = .ok (.goto (-55), 3) := by decide +kernel
theorem dX6_hard_77 : decode cX6_hard 77 = .ok (.iconst (-1), 1) := by decide +kernel
theorem dX6_hard_78 : decode cX6_hard 78 = .ok (.ireturn, 1) := by decide +kernel
theorem dX6_run_0 : decode cX6_run 0 = .ok (.iload_n 1, 1) := by decide +kernel
theorem dX6_run_1 : decode cX6_run 1 = .ok (.invokestatic 141, 3) := by decide +kernel
theorem dX6_run_4 : decode cX6_run 4 = .ok (.ifCond .eq 17, 3) := by decide +kernel
theorem dX6_run_7 : decode cX6_run 7 = .ok (.iload_n 2, 1) := by decide +kernel
theorem dX6_run_8 : decode cX6_run 8 = .ok (.invokestatic 141, 3) := by decide +kernel
theorem dX6_run_11 : decode cX6_run 11 = .ok (.ifCond .eq 10, 3) := by decide +kernel
theorem dX6_run_14 : decode cX6_run 14 = .ok (.iload_n 3, 1) := by decide +kernel
theorem dX6_run_15 : decode cX6_run 15 = .ok (.invokestatic 144, 3) := by decide +kernel
theorem dX6_run_18 : decode cX6_run 18 = .ok (.ifCond .ne 10, 3) := by decide +kernel
theorem dX6_run_21 : decode cX6_run 21 = .ok (.aload_n 0, 1) := by decide +kernel
theorem dX6_run_22 : decode cX6_run 22 = .ok (.ldc 57, 2) := by decide +kernel
theorem dX6_run_24 : decode cX6_run 24 = .ok (.invokevirtual 58, 3) := by decide +kernel
theorem dX6_run_27 : decode cX6_run 27 = .ok (.ireturn, 1) := by decide +kernel
theorem dX6_run_28 : decode cX6_run 28 = .ok (.iload 4, 2) := by decide +kernel
theorem dX6_run_30 : decode cX6_run 30 = .ok (.ifCond .lt 14, 3) := by decide +kernel
theorem dX6_run_33 : decode cX6_run 33 = .ok (.iload 4, 2) := by decide +kernel
theorem dX6_run_35 : decode cX6_run 35 = .ok (.iload_n 2, 1) := by decide +kernel
theorem dX6_run_36 : decode cX6_run 36 = .ok (.iload_n 1, 1) := by decide +kernel
theorem dX6_run_37 : decode cX6_run 37 = .ok (.isub, 1) := by decide +kernel
theorem dX6_run_38 : decode cX6_run 38 = .ok (.invokestatic 194, 3) := by decide +kernel
theorem dX6_run_41 : decode cX6_run 41 = .ok (.if_icmp .le 10, 3) := by decide +kernel
theorem dX6_run_44 : decode cX6_run 44 = .ok (.aload_n 0, 1) := by decide +kernel
theorem dX6_run_45 : decode cX6_run 45 = .ok (.ldc 57, 2) := by decide +kernel
theorem dX6_run_47 : decode cX6_run 47 = .ok (.invokevirtual 58, 3) := by decide +kernel
theorem dX6_run_50 : decode cX6_run 50 = .ok (.ireturn, 1) := by decide +kernel
theorem dX6_run_51 : decode cX6_run 51 = .ok (.aload_n 0, 1) := by decide +kernel
theorem dX6_run_52 : decode cX6_run 52 = .ok (.getfield 10, 3) := by decide +kernel
theorem dX6_run_55 : decode cX6_run 55 = .ok (.iload_n 1, 1) := by decide +kernel
theorem dX6_run_56 : decode cX6_run 56 = .ok (.iload_n 2, 1) := by decide +kernel
theorem dX6_run_57 : decode cX6_run 57 = .ok (.if_icmp .gt 10, 3) := by decide +kernel
theorem dX6_run_60 : decode cX6_run 60 = .ok (.iload_n 1, 1) := by decide +kernel
theorem dX6_run_61 : decode cX6_run 61 = .ok (.iload 4, 2) := by decide +kernel
theorem dX6_run_63 : decode cX6_run 63 = .ok (.iadd, 1) := by decide +kernel
theorem dX6_run_64 : decode cX6_run 64 = .ok (.goto 7, 3) := by decide +kernel
theorem dX6_run_67 : decode cX6_run 67 = .ok (.iload_n 1, 1) := by decide +kernel
theorem dX6_run_68 : decode cX6_run 68 = .ok (.iload 4, 2) := by decide +kernel
theorem dX6_run_70 : decode cX6_run 70 = .ok (.isub, 1) := by decide +kernel
theorem dX6_run_71 : decode cX6_run 71 = .ok (.iload_n 3, 1) := by decide +kernel
theorem dX6_run_72 : decode cX6_run 72 = .ok (.invokevirtual 147, 3) := by decide +kernel
theorem dX6_run_75 : decode cX6_run 75 = .ok (.ireturn, 1) := by decide +kernel
theorem dX6_plain_0 : decode cX6_plain 0 = .ok (.iload_n 1, 1) := by decide +kernel
theorem dX6_plain_1 : decode cX6_plain 1 = .ok (.invokestatic 141, 3) := by decide +kernel
theorem dX6_plain_4 : decode cX6_plain 4 = .ok (.ifCond .eq 17, 3) := by decide +kernel
theorem dX6_plain_7 : decode cX6_plain 7 = .ok (.iload_n 2, 1) := by decide +kernel
theorem dX6_plain_8 : decode cX6_plain 8 = .ok (.invokestatic 141, 3) := by decide +kernel
theorem dX6_plain_11 : decode cX6_plain 11 = .ok (.ifCond .eq 10, 3) := by decide +kernel
theorem dX6_plain_14 : decode cX6_plain 14 = .ok (.iload_n 3, 1) := by decide +kernel
theorem dX6_plain_15 : decode cX6_plain 15 = .ok (.invokestatic 144, 3) := by decide +kernel
theorem dX6_plain_18 : decode cX6_plain 18 = .ok (.ifCond .ne 10, 3) := by decide +kernel
theorem dX6_plain_21 : decode cX6_plain 21 = .ok (.aload_n 0, 1) := by decide +kernel
theorem dX6_plain_22 : decode cX6_plain 22 = .ok (.ldc 57, 2) := by decide +kernel
theorem dX6_plain_24 : decode cX6_plain 24 = .ok (.invokevirtual 58, 3) := by decide +kernel
theorem dX6_plain_27 : decode cX6_plain 27 = .ok (.ireturn, 1) := by decide +kernel
theorem dX6_plain_28 : decode cX6_plain 28 = .ok (.aload_n 0, 1) := by decide +kernel
theorem dX6_plain_29 : decode cX6_plain 29 = .ok (.getfield 10, 3) := by decide +kernel
theorem dX6_plain_32 : decode cX6_plain 32 = .ok (.iload_n 1, 1) := by decide +kernel
theorem dX6_plain_33 : decode cX6_plain 33 = .ok (.iload_n 2, 1) := by decide +kernel
theorem dX6_plain_34 : decode cX6_plain 34 = .ok (.invokestatic 199, 3) := by decide +kernel
theorem dX6_plain_37 : decode cX6_plain 37 = .ok (.iload_n 1, 1) := by decide +kernel
theorem dX6_plain_38 : decode cX6_plain 38 = .ok (.iload_n 2, 1) := by decide +kernel
theorem dX6_plain_39 : decode cX6_plain 39 = .ok (.invokestatic 202, 3) := by decide +kernel
theorem dX6_plain_42 : decode cX6_plain 42 = .ok (.iload_n 3, 1) := by decide +kernel
theorem dX6_plain_43 : decode cX6_plain 43 = .ok (.invokevirtual 205, 3) := by decide +kernel
theorem dX6_plain_46 : decode cX6_plain 46 = .ok (.ireturn, 1) := by decide +kernel
theorem dX6_sheet_0 : decode cX6_sheet 0 = .ok (.iload_n 1, 1) := by decide +kernel
theorem dX6_sheet_1 : decode cX6_sheet 1 = .ok (.invokestatic 209, 3) := by decide +kernel
theorem dX6_sheet_4 : decode cX6_sheet 4 = .ok (.ifCond .eq 10, 3) := by decide +kernel
theorem dX6_sheet_7 : decode cX6_sheet 7 = .ok (.iload_n 2, 1) := by decide +kernel
theorem dX6_sheet_8 : decode cX6_sheet 8 = .ok (.invokestatic 212, 3) := by decide +kernel
theorem dX6_sheet_11 : decode cX6_sheet 11 = .ok (.ifCond .ne 10, 3) := by decide +kernel
theorem dX6_sheet_14 : decode cX6_sheet 14 = .ok (.aload_n 0, 1) := by decide +kernel
theorem dX6_sheet_15 : decode cX6_sheet 15 = .ok (.ldc 57, 2) := by decide +kernel
theorem dX6_sheet_17 : decode cX6_sheet 17 = .ok (.invokevirtual 58, 3) := by decide +kernel
theorem dX6_sheet_20 : decode cX6_sheet 20 = .ok (.ireturn, 1) := by decide +kernel
theorem dX6_sheet_21 : decode cX6_sheet 21 = .ok (.iload_n 3, 1) := by decide +kernel
theorem dX6_sheet_22 : decode cX6_sheet 22 = .ok (.ifCond .ge 10, 3) := by decide +kernel
theorem dX6_sheet_25 : decode cX6_sheet 25 = .ok (.aload_n 0, 1) := by decide +kernel
theorem dX6_sheet_26 : decode cX6_sheet 26 = .ok (.ldc 117, 2) := by decide +kernel
theorem dX6_sheet_28 : decode cX6_sheet 28 = .ok (.invokevirtual 58, 3) := by decide +kernel
theorem dX6_sheet_31 : decode cX6_sheet 31 = .ok (.ireturn, 1) := by decide +kernel
theorem dX6_sheet_32 : decode cX6_sheet 32 = .ok (.iload_n 3, 1) := by decide +kernel
theorem dX6_sheet_33 : decode cX6_sheet 33 = .ok (.bipush 30, 2) := by decide +kernel
theorem dX6_sheet_35 : decode cX6_sheet 35 = .ok (.if_icmp .le 10, 3) := by decide +kernel
theorem dX6_sheet_38 : decode cX6_sheet 38 = .ok (.aload_n 0, 1) := by decide +kernel
theorem dX6_sheet_39 : decode cX6_sheet 39 = .ok (.ldc 57, 2) := by decide +kernel
theorem dX6_sheet_41 : decode cX6_sheet 41 = .ok (.invokevirtual 58, 3) := by decide +kernel
theorem dX6_sheet_44 : decode cX6_sheet 44 = .ok (.ireturn, 1) := by decide +kernel
theorem dX6_sheet_45 : decode cX6_sheet 45 = .ok (.aload_n 0, 1) := by decide +kernel
theorem dX6_sheet_46 : decode cX6_sheet 46 = .ok (.getfield 49, 3) := by decide +kernel
theorem dX6_sheet_49 : decode cX6_sheet 49 = .ok (.iload_n 1, 1) := by decide +kernel
theorem dX6_sheet_50 : decode cX6_sheet 50 = .ok (.iload_n 2, 1) := by decide +kernel
theorem dX6_sheet_51 : decode cX6_sheet 51 = .ok (.iload_n 3, 1) := by decide +kernel
theorem dX6_sheet_52 : decode cX6_sheet 52 = .ok (.invokevirtual 215, 3) := by decide +kernel
theorem dX6_sheet_55 : decode cX6_sheet 55 = .ok (.ireturn, 1) := by decide +kernel
theorem dX6_put_0 : decode cX6_put 0 = .ok (.iload_n 1, 1) := by decide +kernel
theorem dX6_put_1 : decode cX6_put 1 = .ok (.invokestatic 209, 3) := by decide +kernel
theorem dX6_put_4 : decode cX6_put 4 = .ok (.ifCond .ne 10, 3) := by decide +kernel
theorem dX6_put_7 : decode cX6_put 7 = .ok (.aload_n 0, 1) := by decide +kernel
theorem dX6_put_8 : decode cX6_put 8 = .ok (.ldc 57, 2) := by decide +kernel
theorem dX6_put_10 : decode cX6_put 10 = .ok (.invokevirtual 58, 3) := by decide +kernel
theorem dX6_put_13 : decode cX6_put 13 = .ok (.ireturn, 1) := by decide +kernel
theorem dX6_put_14 : decode cX6_put 14 = .ok (.aload_n 0, 1) := by decide +kernel
theorem dX6_put_15 : decode cX6_put 15 = .ok (.getfield 49, 3) := by decide +kernel
theorem dX6_put_18 : decode cX6_put 18 = .ok (.iload_n 1, 1) := by decide +kernel
theorem dX6_put_19 : decode cX6_put 19 = .ok (.invokevirtual 218, 3) := by decide +kernel
theorem dX6_put_22 : decode cX6_put 22 = .ok (.ifCond .eq 10, 3) := by decide +kernel
theorem dX6_put_25 : decode cX6_put 25 = .ok (.aload_n 0, 1) := by decide +kernel
theorem dX6_put_26 : decode cX6_put 26 = .ok (.ldc 221, 2) := by decide +kernel
theorem dX6_put_28 : decode cX6_put 28 = .ok (.invokevirtual 58, 3) := by decide +kernel
theorem dX6_put_31 : decode cX6_put 31 = .ok (.ireturn, 1) := by decide +kernel
theorem dX6_put_32 : decode cX6_put 32 = .ok (.iload_n 2, 1) := by decide +kernel
theorem dX6_put_33 : decode cX6_put 33 = .ok (.ifCond .lt 16, 3) := by decide +kernel
theorem dX6_put_36 : decode cX6_put 36 = .ok (.iload_n 2, 1) := by decide +kernel
theorem dX6_put_37 : decode cX6_put 37 = .ok (.aload_n 0, 1) := by decide +kernel
theorem dX6_put_38 : decode cX6_put 38 = .ok (.getfield 49, 3) := by decide +kernel
theorem dX6_put_41 : decode cX6_put 41 = .ok (.getfield 222, 3) := by decide +kernel
theorem dX6_put_44 : decode cX6_put 44 = .ok (.iload_n 1, 1) := by decide +kernel
theorem dX6_put_45 : decode cX6_put 45 = .ok (.iaload, 1) := by decide +kernel
theorem dX6_put_46 : decode cX6_put 46 = .ok (.if_icmp .lt 10, 3) := by decide +kernel
theorem dX6_put_49 : decode cX6_put 49 = .ok (.aload_n 0, 1) := by decide +kernel
theorem dX6_put_50 : decode cX6_put 50 = .ok (.ldc 57, 2) := by decide +kernel
theorem dX6_put_52 : decode cX6_put 52 = .ok (.invokevirtual 58, 3) := by decide +kernel
theorem dX6_put_55 : decode cX6_put 55 = .ok (.ireturn, 1) := by decide +kernel
theorem dX6_put_56 : decode cX6_put 56 = .ok (.aload_n 0, 1) := by decide +kernel
theorem dX6_put_57 : decode cX6_put 57 = .ok (.getfield 49, 3) := by decide +kernel
theorem dX6_put_60 : decode cX6_put 60 = .ok (.iload_n 1, 1) := by decide +kernel
theorem dX6_put_61 : decode cX6_put 61 = .ok (.iload_n 2, 1) := by decide +kernel
theorem dX6_put_62 : decode cX6_put 62 = .ok (.iload_n 3, 1) := by decide +kernel
theorem dX6_put_63 : decode cX6_put 63 = .ok (.invokevirtual 223, 3) := by decide +kernel
theorem dX6_put_66 : decode cX6_put 66 = .ok (.iconst 0, 1) := by decide +kernel
theorem dX6_put_67 : decode cX6_put 67 = .ok (.ireturn, 1) := by decide +kernel
theorem dX6_copy_0 : decode cX6_copy 0 = .ok (.iload_n 1, 1) := by decide +kernel
theorem dX6_copy_1 : decode cX6_copy 1 = .ok (.invokestatic 209, 3) := by decide +kernel
theorem dX6_copy_4 : decode cX6_copy 4 = .ok (.ifCond .eq 10, 3) := by decide +kernel
theorem dX6_copy_7 : decode cX6_copy 7 = .ok (.iload_n 3, 1) := by decide +kernel
theorem dX6_copy_8 : decode cX6_copy 8 = .ok (.invokestatic 209, 3) := by decide +kernel
theorem dX6_copy_11 : decode cX6_copy 11 = .ok (.ifCond .ne 10, 3) := by decide +kernel
theorem dX6_copy_14 : decode cX6_copy 14 = .ok (.aload_n 0, 1) := by decide +kernel
theorem dX6_copy_15 : decode cX6_copy 15 = .ok (.ldc 57, 2) := by decide +kernel
theorem dX6_copy_17 : decode cX6_copy 17 = .ok (.invokevirtual 58, 3) := by decide +kernel
theorem dX6_copy_20 : decode cX6_copy 20 = .ok (.ireturn, 1) := by decide +kernel
theorem dX6_copy_21 : decode cX6_copy 21 = .ok (.aload_n 0, 1) := by decide +kernel
theorem dX6_copy_22 : decode cX6_copy 22 = .ok (.getfield 49, 3) := by decide +kernel
theorem dX6_copy_25 : decode cX6_copy 25 = .ok (.iload_n 1, 1) := by decide +kernel
theorem dX6_copy_26 : decode cX6_copy 26 = .ok (.invokevirtual 218, 3) := by decide +kernel
theorem dX6_copy_29 : decode cX6_copy 29 = .ok (.ifCond .ne 14, 3) := by decide +kernel
theorem dX6_copy_32 : decode cX6_copy 32 = .ok (.aload_n 0, 1) := by decide +kernel
theorem dX6_copy_33 : decode cX6_copy 33 = .ok (.getfield 49, 3) := by decide +kernel
theorem dX6_copy_36 : decode cX6_copy 36 = .ok (.iload_n 3, 1) := by decide +kernel
theorem dX6_copy_37 : decode cX6_copy 37 = .ok (.invokevirtual 218, 3) := by decide +kernel
theorem dX6_copy_40 : decode cX6_copy 40 = .ok (.ifCond .eq 10, 3) := by decide +kernel
theorem dX6_copy_43 : decode cX6_copy 43 = .ok (.aload_n 0, 1) := by decide +kernel
theorem dX6_copy_44 : decode cX6_copy 44 = .ok (.ldc 221, 2) := by decide +kernel
theorem dX6_copy_46 : decode cX6_copy 46 = .ok (.invokevirtual 58, 3) := by decide +kernel
theorem dX6_copy_49 : decode cX6_copy 49 = .ok (.ireturn, 1) := by decide +kernel
theorem dX6_copy_50 : decode cX6_copy 50 = .ok (.aload_n 0, 1) := by decide +kernel
theorem dX6_copy_51 : decode cX6_copy 51 = .ok (.getfield 49, 3) := by decide +kernel
theorem dX6_copy_54 : decode cX6_copy 54 = .ok (.getfield 227, 3) := by decide +kernel
theorem dX6_copy_57 : decode cX6_copy 57 = .ok (.iload_n 1, 1) := by decide +kernel
theorem dX6_copy_58 : decode cX6_copy 58 = .ok (.iaload, 1) := by decide +kernel
theorem dX6_copy_59 : decode cX6_copy 59 = .ok (.aload_n 0, 1) := by decide +kernel
theorem dX6_copy_60 : decode cX6_copy 60 = .ok (.getfield 49, 3) := by decide +kernel
theorem dX6_copy_63 : decode cX6_copy 63 = .ok (.getfield 227, 3) := by decide +kernel
theorem dX6_copy_66 : decode cX6_copy 66 = .ok (.iload_n 3, 1) := by decide +kernel
theorem dX6_copy_67 : decode cX6_copy 67 = .ok (.iaload, 1) := by decide +kernel
theorem dX6_copy_68 : decode cX6_copy 68 = .ok (.if_icmp .eq 10, 3) := by decide +kernel
theorem dX6_copy_71 : decode cX6_copy 71 = .ok (.aload_n 0, 1) := by decide +kernel
theorem dX6_copy_72 : decode cX6_copy 72 = .ok (.ldc 107, 2) := by decide +kernel
theorem dX6_copy_74 : decode cX6_copy 74 = .ok (.invokevirtual 58, 3) := by decide +kernel
theorem dX6_copy_77 : decode cX6_copy 77 = .ok (.ireturn, 1) := by decide +kernel
theorem dX6_copy_78 : decode cX6_copy 78 = .ok (.aload_n 0, 1) := by decide +kernel
theorem dX6_copy_79 : decode cX6_copy 79 = .ok (.getfield 49, 3) := by decide +kernel
theorem dX6_copy_82 : decode cX6_copy 82 = .ok (.iload_n 1, 1) := by decide +kernel
theorem dX6_copy_83 : decode cX6_copy 83 = .ok (.iload_n 2, 1) := by decide +kernel
theorem dX6_copy_84 : decode cX6_copy 84 = .ok (.iload 5, 2) := by decide +kernel
theorem dX6_copy_86 : decode cX6_copy 86 = .ok (.invokevirtual 230, 3) := by decide +kernel
theorem dX6_copy_89 : decode cX6_copy 89 = .ok (.ifCond .eq 18, 3) := by decide +kernel
theorem dX6_copy_92 : decode cX6_copy 92 = .ok (.aload_n 0, 1) := by decide +kernel
theorem dX6_copy_93 : decode cX6_copy 93 = .ok (.getfield 49, 3) := by decide +kernel
theorem dX6_copy_96 : decode cX6_copy 96 = .ok (.iload_n 3, 1) := by decide +kernel
theorem dX6_copy_97 : decode cX6_copy 97 = .ok (.iload 4, 2) := by decide +kernel
theorem dX6_copy_99 : decode cX6_copy 99 = .ok (.iload 5, 2) := by decide +kernel
theorem dX6_copy_101 : decode cX6_copy 101 = .ok (.invokevirtual 230, 3) := by decide +kernel
theorem dX6_copy_104 : decode cX6_copy 104 = .ok (.ifCond .ne 10, 3) := by decide +kernel
theorem dX6_copy_107 : decode cX6_copy 107 = .ok (.aload_n 0, 1) := by decide +kernel
theorem dX6_copy_108 : decode cX6_copy 108 = .ok (.ldc 57, 2) := by decide +kernel
theorem dX6_copy_110 : decode cX6_copy 110 = .ok (.invokevirtual 58, 3) := by decide +kernel
theorem dX6_copy_113 : decode cX6_copy 113 = .ok (.ireturn, 1) := by decide +kernel
theorem dX6_copy_114 : decode cX6_copy 114 = .ok (.aload_n 0, 1) := by decide +kernel
theorem dX6_copy_115 : decode cX6_copy 115 = .ok (.getfield 49, 3) := by decide +kernel
theorem dX6_copy_118 : decode cX6_copy 118 = .ok (.getfield 234, 3) := by decide +kernel
theorem dX6_copy_121 : decode cX6_copy 121 = .ok (.iload_n 1, 1) := by decide +kernel
theorem dX6_copy_122 : decode cX6_copy 122 = .ok (.aaload, 1) := by decide +kernel
theorem dX6_copy_123 : decode cX6_copy 123 = .ok (.iload_n 2, 1) := by decide +kernel
theorem dX6_copy_124 : decode cX6_copy 124 = .ok (.aload_n 0, 1) := by decide +kernel
theorem dX6_copy_125 : decode cX6_copy 125 = .ok (.getfield 49, 3) := by decide +kernel
theorem dX6_copy_128 : decode cX6_copy 128 = .ok (.getfield 234, 3) := by decide +kernel
theorem dX6_copy_131 : decode cX6_copy 131 = .ok (.iload_n 3, 1) := by decide +kernel
theorem dX6_copy_132 : decode cX6_copy 132 = .ok (.aaload, 1) := by decide +kernel
theorem dX6_copy_133 : decode cX6_copy 133 = .ok (.iload 4, 2) := by decide +kernel
theorem dX6_copy_135 : decode cX6_copy 135 = .ok (.iload 5, 2) := by decide +kernel
theorem dX6_copy_137 : decode cX6_copy 137 = .ok (.invokestatic 238, 3) := by decide +kernel
theorem dX6_copy_140 : decode cX6_copy 140 = .ok (.iload 5, 2) := by decide +kernel
theorem dX6_copy_142 : decode cX6_copy 142 = .ok (.ireturn, 1) := by decide +kernel
theorem dX6_tune_0 : decode cX6_tune 0 = .ok (.iload_n 1, 1) := by decide +kernel
theorem dX6_tune_1 : decode cX6_tune 1 = .ok (.invokestatic 209, 3) := by decide +kernel
theorem dX6_tune_4 : decode cX6_tune 4 = .ok (.ifCond .ne 10, 3) := by decide +kernel
theorem dX6_tune_7 : decode cX6_tune 7 = .ok (.aload_n 0, 1) := by decide +kernel
theorem dX6_tune_8 : decode cX6_tune 8 = .ok (.ldc 57, 2) := by decide +kernel
theorem dX6_tune_10 : decode cX6_tune 10 = .ok (.invokevirtual 58, 3) := by decide +kernel
end
section
theorem dX6_tune_13 : decode cX6_tune 13 = .ok (.ireturn, 1) := by decide +kernel
theorem dX6_tune_14 : decode cX6_tune 14 = .ok (.aload_n 0, 1) := by decide +kernel
theorem dX6_tune_15 : decode cX6_tune 15 = .ok (.getfield 49, 3) := by decide +kernel
theorem dX6_tune_18 : decode cX6_tune 18 = .ok (.iload_n 1, 1) := by decide +kernel
theorem dX6_tune_19 : decode cX6_tune 19 = .ok (.invokevirtual 218, 3) := by decide +kernel
theorem dX6_tune_22 : decode cX6_tune 22 = .ok (.ifCond .eq 10, 3) := by decide +kernel
theorem dX6_tune_25 : decode cX6_tune 25 = .ok (.aload_n 0, 1) := by decide +kernel
theorem dX6_tune_26 : decode cX6_tune 26 = .ok (.ldc 221, 2) := by decide +kernel
theorem dX6_tune_28 : decode cX6_tune 28 = .ok (.invokevirtual 58, 3) := by decide +kernel
theorem dX6_tune_31 : decode cX6_tune 31 = .ok (.ireturn, 1) := by decide +kernel
theorem dX6_tune_32 : decode cX6_tune 32 = .ok (.aload_n 0, 1) := by decide +kernel
theorem dX6_tune_33 : decode cX6_tune 33 = .ok (.getfield 49, 3) := by decide +kernel
theorem dX6_tune_36 : decode cX6_tune 36 = .ok (.getfield 222, 3) := by decide +kernel
theorem dX6_tune_39 : decode cX6_tune 39 = .ok (.iload_n 1, 1) := by decide +kernel
theorem dX6_tune_40 : decode cX6_tune 40 = .ok (.iaload, 1) := by decide +kernel
theorem dX6_tune_41 : decode cX6_tune 41 = .ok (.istore_n 2, 1) := by decide +kernel
theorem dX6_tune_42 : decode cX6_tune 42 = .ok (.iload_n 2, 1) := by decide +kernel
theorem dX6_tune_43 : decode cX6_tune 43 = .ok (.bipush 12, 2) := by decide +kernel
theorem dX6_tune_45 : decode cX6_tune 45 = .ok (.if_icmp .le 10, 3) := by decide +kernel
theorem dX6_tune_48 : decode cX6_tune 48 = .ok (.aload_n 0, 1) := by decide +kernel
theorem dX6_tune_49 : decode cX6_tune 49 = .ok (.ldc 117, 2) := by decide +kernel
theorem dX6_tune_51 : decode cX6_tune 51 = .ok (.invokevirtual 58, 3) := by decide +kernel
theorem dX6_tune_54 : decode cX6_tune 54 = .ok (.ireturn, 1) := by decide +kernel
theorem dX6_tune_55 : decode cX6_tune 55 = .ok (.aload_n 0, 1) := by decide +kernel
theorem dX6_tune_56 : decode cX6_tune 56 = .ok (.getfield 49, 3) := by decide +kernel
theorem dX6_tune_59 : decode cX6_tune 59 = .ok (.iload_n 1, 1) := by decide +kernel
theorem dX6_tune_60 : decode cX6_tune 60 = .ok (.bipush 100, 2) := by decide +kernel
theorem dX6_tune_62 : decode cX6_tune 62 = .ok (.invokevirtual 244, 3) := by decide +kernel
theorem dX6_tune_65 : decode cX6_tune 65 = .ok (.ifCond .eq 10, 3) := by decide +kernel
theorem dX6_tune_68 : decode cX6_tune 68 = .ok (.aload_n 0, 1) := by decide +kernel
theorem dX6_tune_69 : decode cX6_tune 69 = .ok (.ldc 57, 2) := by decide +kernel
theorem dX6_tune_71 : decode cX6_tune 71 = .ok (.invokevirtual 58, 3) := by decide +kernel
theorem dX6_tune_74 : decode cX6_tune 74 = .ok (.ireturn, 1) := by decide +kernel
theorem dX6_tune_75 : decode cX6_tune 75 = .ok (.aload_n 0, 1) := by decide +kernel
theorem dX6_tune_76 : decode cX6_tune 76 = .ok (.getfield 26, 3) := by decide +kernel
theorem dX6_tune_79 : decode cX6_tune 79 = .ok (.aload_n 0, 1) := by decide +kernel
theorem dX6_tune_80 : decode cX6_tune 80 = .ok (.getfield 19, 3) := by decide +kernel
theorem dX6_tune_83 : decode cX6_tune 83 = .ok (.invokevirtual 62, 3) := by decide +kernel
theorem dX6_tune_86 : decode cX6_tune 86 = .ok (.aload_n 0, 1) := by decide +kernel
theorem dX6_tune_87 : decode cX6_tune 87 = .ok (.getfield 19, 3) := by decide +kernel
theorem dX6_tune_90 : decode cX6_tune 90 = .ok (.aload_n 0, 1) := by decide +kernel
theorem dX6_tune_91 : decode cX6_tune 91 = .ok (.getfield 49, 3) := by decide +kernel
theorem dX6_tune_94 : decode cX6_tune 94 = .ok (.getfield 234, 3) := by decide +kernel
theorem dX6_tune_97 : decode cX6_tune 97 = .ok (.iload_n 1, 1) := by decide +kernel
theorem dX6_tune_98 : decode cX6_tune 98 = .ok (.aaload, 1) := by decide +kernel
theorem dX6_tune_99 : decode cX6_tune 99 = .ok (.iload_n 2, 1) := by decide +kernel
theorem dX6_tune_100 : decode cX6_tune 100 = .ok (.invokevirtual 247, 3) := by decide +kernel
theorem dX6_tune_103 : decode cX6_tune 103 = .ok (.istore_n 3, 1) := by decide +kernel
theorem dX6_tune_104 : decode cX6_tune 104 = .ok (.aload_n 0, 1) := by decide +kernel
theorem dX6_tune_105 : decode cX6_tune 105 = .ok (.getfield 42, 3) := by decide +kernel
theorem dX6_tune_108 : decode cX6_tune 108 = .ok (.iconst 0, 1) := by decide +kernel
theorem dX6_tune_109 : decode cX6_tune 109 = .ok (.iload_n 2, 1) := by decide +kernel
theorem dX6_tune_110 : decode cX6_tune 110 = .ok (.iconst 1, 1) := by decide +kernel
theorem dX6_tune_111 : decode cX6_tune 111 = .ok (.isub, 1) := by decide +kernel
theorem dX6_tune_112 : decode cX6_tune 112 = .ok (.invokevirtual 88, 3) := by decide +kernel
theorem dX6_tune_115 : decode cX6_tune 115 = .ok (.iload_n 3, 1) := by decide +kernel
theorem dX6_tune_116 : decode cX6_tune 116 = .ok (.ireturn, 1) := by decide +kernel
theorem dX6_undo_0 : decode cX6_undo 0 = .ok (.aload_n 0, 1) := by decide +kernel
theorem dX6_undo_1 : decode cX6_undo 1 = .ok (.getfield 26, 3) := by decide +kernel
theorem dX6_undo_4 : decode cX6_undo 4 = .ok (.getfield 251, 3) := by decide +kernel
theorem dX6_undo_7 : decode cX6_undo 7 = .ok (.ifCond .ne 10, 3) := by decide +kernel
theorem dX6_undo_10 : decode cX6_undo 10 = .ok (.aload_n 0, 1) := by decide +kernel
theorem dX6_undo_11 : decode cX6_undo 11 = .ok (.ldc 92, 2) := by decide +kernel
theorem dX6_undo_13 : decode cX6_undo 13 = .ok (.invokevirtual 58, 3) := by decide +kernel
theorem dX6_undo_16 : decode cX6_undo 16 = .ok (.ireturn, 1) := by decide +kernel
theorem dX6_undo_17 : decode cX6_undo 17 = .ok (.aload_n 0, 1) := by decide +kernel
theorem dX6_undo_18 : decode cX6_undo 18 = .ok (.getfield 26, 3) := by decide +kernel
theorem dX6_undo_21 : decode cX6_undo 21 = .ok (.aload_n 0, 1) := by decide +kernel
theorem dX6_undo_22 : decode cX6_undo 22 = .ok (.getfield 19, 3) := by decide +kernel
theorem dX6_undo_25 : decode cX6_undo 25 = .ok (.invokevirtual 254, 3) := by decide +kernel
theorem dX6_undo_28 : decode cX6_undo 28 = .ok (.aload_n 0, 1) := by decide +kernel
theorem dX6_undo_29 : decode cX6_undo 29 = .ok (.getfield 42, 3) := by decide +kernel
theorem dX6_undo_32 : decode cX6_undo 32 = .ok (.invokevirtual 257, 3) := by decide +kernel
theorem dX6_undo_35 : decode cX6_undo 35 = .ok (.aload_n 0, 1) := by decide +kernel
theorem dX6_undo_36 : decode cX6_undo 36 = .ok (.getfield 26, 3) := by decide +kernel
theorem dX6_undo_39 : decode cX6_undo 39 = .ok (.getfield 251, 3) := by decide +kernel
theorem dX6_undo_42 : decode cX6_undo 42 = .ok (.ireturn, 1) := by decide +kernel
theorem dX6_all_0 : decode cX6_all 0 = .ok (.iload_n 1, 1) := by decide +kernel
theorem dX6_all_1 : decode cX6_all 1 = .ok (.tableswitch 60 0 3 #[31, 39, 47, 55], 31) := by decide +kernel
theorem dX6_all_32 : decode cX6_all 32 = .ok (.aload_n 0, 1) := by decide +kernel
theorem dX6_all_33 : decode cX6_all 33 = .ok (.getfield 19, 3) := by decide +kernel
theorem dX6_all_36 : decode cX6_all 36 = .ok (.getfield 66, 3) := by decide +kernel
theorem dX6_all_39 : decode cX6_all 39 = .ok (.ireturn, 1) := by decide +kernel
theorem dX6_all_40 : decode cX6_all 40 = .ok (.aload_n 0, 1) := by decide +kernel
theorem dX6_all_41 : decode cX6_all 41 = .ok (.getfield 19, 3) := by decide +kernel
theorem dX6_all_44 : decode cX6_all 44 = .ok (.invokevirtual 122, 3) := by decide +kernel
theorem dX6_all_47 : decode cX6_all 47 = .ok (.ireturn, 1) := by decide +kernel
theorem dX6_all_48 : decode cX6_all 48 = .ok (.aload_n 0, 1) := by decide +kernel
theorem dX6_all_49 : decode cX6_all 49 = .ok (.getfield 19, 3) := by decide +kernel
theorem dX6_all_52 : decode cX6_all 52 = .ok (.invokevirtual 260, 3) := by decide +kernel
theorem dX6_all_55 : decode cX6_all 55 = .ok (.ireturn, 1) := by decide +kernel
theorem dX6_all_56 : decode cX6_all 56 = .ok (.aload_n 0, 1) := by decide +kernel
theorem dX6_all_57 : decode cX6_all 57 = .ok (.getfield 53, 3) := by decide +kernel
theorem dX6_all_60 : decode cX6_all 60 = .ok (.ireturn, 1) := by decide +kernel
theorem dX6_all_61 : decode cX6_all 61 = .ok (.aload_n 0, 1) := by decide +kernel
theorem dX6_all_62 : decode cX6_all 62 = .ok (.ldc 57, 2) := by decide +kernel
theorem dX6_all_64 : decode cX6_all 64 = .ok (.invokevirtual 58, 3) := by decide +kernel
theorem dX6_all_67 : decode cX6_all 67 = .ok (.ireturn, 1) := by decide +kernel
theorem dX6_finding_0 : decode cX6_finding 0 = .ok (.aload_n 0, 1) := by decide +kernel
theorem dX6_finding_1 : decode cX6_finding 1 = .ok (.dup, 1) := by decide +kernel
theorem dX6_finding_2 : decode cX6_finding 2 = .ok (.getfield 53, 3) := by decide +kernel
theorem dX6_finding_5 : decode cX6_finding 5 = .ok (.iconst 1, 1) := by decide +kernel
theorem dX6_finding_6 : decode cX6_finding 6 = .ok (.iadd, 1) := by decide +kernel
theorem dX6_finding_7 : decode cX6_finding 7 = .ok (.putfield 53, 3) := by decide +kernel
theorem dX6_finding_10 : decode cX6_finding 10 = .ok (.iload_n 1, 1) := by decide +kernel
theorem dX6_finding_11 : decode cX6_finding 11 = .ok (.ireturn, 1) := by decide +kernel
theorem dX6_isBeat_0 : decode cX6_isBeat 0 = .ok (.iload_n 0, 1) := by decide +kernel
theorem dX6_isBeat_1 : decode cX6_isBeat 1 = .ok (.ifCond .lt 13, 3) := by decide +kernel
theorem dX6_isBeat_4 : decode cX6_isBeat 4 = .ok (.iload_n 0, 1) := by decide +kernel
theorem dX6_isBeat_5 : decode cX6_isBeat 5 = .ok (.bipush 12, 2) := by decide +kernel
theorem dX6_isBeat_7 : decode cX6_isBeat 7 = .ok (.if_icmp .ge 7, 3) := by decide +kernel
theorem dX6_isBeat_10 : decode cX6_isBeat 10 = .ok (.iconst 1, 1) := by decide +kernel
theorem dX6_isBeat_11 : decode cX6_isBeat 11 = .ok (.goto 4, 3) := by decide +kernel
theorem dX6_isBeat_14 : decode cX6_isBeat 14 = .ok (.iconst 0, 1) := by decide +kernel
theorem dX6_isBeat_15 : decode cX6_isBeat 15 = .ok (.ireturn, 1) := by decide +kernel
theorem dX6_isPlayed_0 : decode cX6_isPlayed 0 = .ok (.iload_n 1, 1) := by decide +kernel
theorem dX6_isPlayed_1 : decode cX6_isPlayed 1 = .ok (.ifCond .lt 18, 3) := by decide +kernel
theorem dX6_isPlayed_4 : decode cX6_isPlayed 4 = .ok (.iload_n 1, 1) := by decide +kernel
theorem dX6_isPlayed_5 : decode cX6_isPlayed 5 = .ok (.aload_n 0, 1) := by decide +kernel
theorem dX6_isPlayed_6 : decode cX6_isPlayed 6 = .ok (.getfield 19, 3) := by decide +kernel
theorem dX6_isPlayed_9 : decode cX6_isPlayed 9 = .ok (.getfield 66, 3) := by decide +kernel
theorem dX6_isPlayed_12 : decode cX6_isPlayed 12 = .ok (.if_icmp .ge 7, 3) := by decide +kernel
theorem dX6_isPlayed_15 : decode cX6_isPlayed 15 = .ok (.iconst 1, 1) := by decide +kernel
theorem dX6_isPlayed_16 : decode cX6_isPlayed 16 = .ok (.goto 4, 3) := by decide +kernel
theorem dX6_isPlayed_19 : decode cX6_isPlayed 19 = .ok (.iconst 0, 1) := by decide +kernel
theorem dX6_isPlayed_20 : decode cX6_isPlayed 20 = .ok (.ireturn, 1) := by decide +kernel
theorem dX6_isNote_0 : decode cX6_isNote 0 = .ok (.iload_n 1, 1) := by decide +kernel
theorem dX6_isNote_1 : decode cX6_isNote 1 = .ok (.invokestatic 72, 3) := by decide +kernel
theorem dX6_isNote_4 : decode cX6_isNote 4 = .ok (.ifCond .eq 24, 3) := by decide +kernel
theorem dX6_isNote_7 : decode cX6_isNote 7 = .ok (.iload_n 2, 1) := by decide +kernel
theorem dX6_isNote_8 : decode cX6_isNote 8 = .ok (.ifCond .lt 20, 3) := by decide +kernel
theorem dX6_isNote_11 : decode cX6_isNote 11 = .ok (.iload_n 2, 1) := by decide +kernel
theorem dX6_isNote_12 : decode cX6_isNote 12 = .ok (.aload_n 0, 1) := by decide +kernel
theorem dX6_isNote_13 : decode cX6_isNote 13 = .ok (.getfield 19, 3) := by decide +kernel
theorem dX6_isNote_16 : decode cX6_isNote 16 = .ok (.getfield 79, 3) := by decide +kernel
theorem dX6_isNote_19 : decode cX6_isNote 19 = .ok (.iload_n 1, 1) := by decide +kernel
theorem dX6_isNote_20 : decode cX6_isNote 20 = .ok (.iaload, 1) := by decide +kernel
theorem dX6_isNote_21 : decode cX6_isNote 21 = .ok (.if_icmp .ge 7, 3) := by decide +kernel
theorem dX6_isNote_24 : decode cX6_isNote 24 = .ok (.iconst 1, 1) := by decide +kernel
theorem dX6_isNote_25 : decode cX6_isNote 25 = .ok (.goto 4, 3) := by decide +kernel
theorem dX6_isNote_28 : decode cX6_isNote 28 = .ok (.iconst 0, 1) := by decide +kernel
theorem dX6_isNote_29 : decode cX6_isNote 29 = .ok (.ireturn, 1) := by decide +kernel
theorem dX6_isKind_0 : decode cX6_isKind 0 = .ok (.iload_n 0, 1) := by decide +kernel
theorem dX6_isKind_1 : decode cX6_isKind 1 = .ok (.ifCond .lt 12, 3) := by decide +kernel
theorem dX6_isKind_4 : decode cX6_isKind 4 = .ok (.iload_n 0, 1) := by decide +kernel
theorem dX6_isKind_5 : decode cX6_isKind 5 = .ok (.iconst 4, 1) := by decide +kernel
theorem dX6_isKind_6 : decode cX6_isKind 6 = .ok (.if_icmp .ge 7, 3) := by decide +kernel
theorem dX6_isKind_9 : decode cX6_isKind 9 = .ok (.iconst 1, 1) := by decide +kernel
theorem dX6_isKind_10 : decode cX6_isKind 10 = .ok (.goto 4, 3) := by decide +kernel
theorem dX6_isKind_13 : decode cX6_isKind 13 = .ok (.iconst 0, 1) := by decide +kernel
theorem dX6_isKind_14 : decode cX6_isKind 14 = .ok (.ireturn, 1) := by decide +kernel
theorem dX6_isUnder_0 : decode cX6_isUnder 0 = .ok (.iload_n 0, 1) := by decide +kernel
theorem dX6_isUnder_1 : decode cX6_isUnder 1 = .ok (.istore_n 2, 1) := by decide +kernel
theorem dX6_isUnder_2 : decode cX6_isUnder 2 = .ok (.iconst 0, 1) := by decide +kernel
theorem dX6_isUnder_3 : decode cX6_isUnder 3 = .ok (.istore_n 3, 1) := by decide +kernel
theorem dX6_isUnder_4 : decode cX6_isUnder 4 = .ok (.iload_n 3, 1) := by decide +kernel
theorem dX6_isUnder_5 : decode cX6_isUnder 5 = .ok (.iconst 4, 1) := by decide +kernel
theorem dX6_isUnder_6 : decode cX6_isUnder 6 = .ok (.if_icmp .ge 29, 3) := by decide +kernel
theorem dX6_isUnder_9 : decode cX6_isUnder 9 = .ok (.iload_n 2, 1) := by decide +kernel
theorem dX6_isUnder_10 : decode cX6_isUnder 10 = .ok (.invokestatic 76, 3) := by decide +kernel
theorem dX6_isUnder_13 : decode cX6_isUnder 13 = .ok (.ifCond .eq 22, 3) := by decide +kernel
theorem dX6_isUnder_16 : decode cX6_isUnder 16 = .ok (.iload_n 2, 1) := by decide +kernel
theorem dX6_isUnder_17 : decode cX6_isUnder 17 = .ok (.iload_n 1, 1) := by decide +kernel
theorem dX6_isUnder_18 : decode cX6_isUnder 18 = .ok (.if_icmp .ne 5, 3) := by decide +kernel
theorem dX6_isUnder_21 : decode cX6_isUnder 21 = .ok (.iconst 1, 1) := by decide +kernel
theorem dX6_isUnder_22 : decode cX6_isUnder 22 = .ok (.ireturn, 1) := by decide +kernel
theorem dX6_isUnder_23 : decode cX6_isUnder 23 = .ok (.getstatic 263, 3) := by decide +kernel
theorem dX6_isUnder_26 : decode cX6_isUnder 26 = .ok (.iload_n 2, 1) := by decide +kernel
theorem dX6_isUnder_27 : decode cX6_isUnder 27 = .ok (.iaload, 1) := by decide +kernel
theorem dX6_isUnder_28 : decode cX6_isUnder 28 = .ok (.istore_n 2, 1) := by decide +kernel
theorem dX6_isUnder_29 : decode cX6_isUnder 29 = .ok (.iinc 3 1, 3) := by decide +kernel
theorem dX6_isUnder_32 : decode cX6_isUnder 32 = .ok (.goto (-28), 3) := by decide +kernel
theorem dX6_isUnder_35 : decode cX6_isUnder 35 = .ok (.iconst 0, 1) := by decide +kernel
theorem dX6_isUnder_36 : decode cX6_isUnder 36 = .ok (.ireturn, 1) := by decide +kernel
theorem dX6_isPedal_0 : decode cX6_isPedal 0 = .ok (.iload_n 0, 1) := by decide +kernel
theorem dX6_isPedal_1 : decode cX6_isPedal 1 = .ok (.ifCond .lt 13, 3) := by decide +kernel
theorem dX6_isPedal_4 : decode cX6_isPedal 4 = .ok (.iload_n 0, 1) := by decide +kernel
theorem dX6_isPedal_5 : decode cX6_isPedal 5 = .ok (.bipush 7, 2) := by decide +kernel
theorem dX6_isPedal_7 : decode cX6_isPedal 7 = .ok (.if_icmp .ge 7, 3) := by decide +kernel
theorem dX6_isPedal_10 : decode cX6_isPedal 10 = .ok (.iconst 1, 1) := by decide +kernel
theorem dX6_isPedal_11 : decode cX6_isPedal 11 = .ok (.goto 4, 3) := by decide +kernel
theorem dX6_isPedal_14 : decode cX6_isPedal 14 = .ok (.iconst 0, 1) := by decide +kernel
theorem dX6_isPedal_15 : decode cX6_isPedal 15 = .ok (.ireturn, 1) := by decide +kernel
theorem dX6_isStandOrNone_0 : decode cX6_isStandOrNone 0 = .ok (.iload_n 0, 1) := by decide +kernel
theorem dX6_isStandOrNone_1 : decode cX6_isStandOrNone 1 = .ok (.iconst (-1), 1) := by decide +kernel
theorem dX6_isStandOrNone_2 : decode cX6_isStandOrNone 2 = .ok (.if_icmp .lt 12, 3) := by decide +kernel
theorem dX6_isStandOrNone_5 : decode cX6_isStandOrNone 5 = .ok (.iload_n 0, 1) := by decide +kernel
theorem dX6_isStandOrNone_6 : decode cX6_isStandOrNone 6 = .ok (.iconst 3, 1) := by decide +kernel
theorem dX6_isStandOrNone_7 : decode cX6_isStandOrNone 7 = .ok (.if_icmp .ge 7, 3) := by decide +kernel
theorem dX6_isStandOrNone_10 : decode cX6_isStandOrNone 10 = .ok (.iconst 1, 1) := by decide +kernel
theorem dX6_isStandOrNone_11 : decode cX6_isStandOrNone 11 = .ok (.goto 4, 3) := by decide +kernel
theorem dX6_isStandOrNone_14 : decode cX6_isStandOrNone 14 = .ok (.iconst 0, 1) := by decide +kernel
theorem dX6_isStandOrNone_15 : decode cX6_isStandOrNone 15 = .ok (.ireturn, 1) := by decide +kernel
theorem dX6_isString_0 : decode cX6_isString 0 = .ok (.iload_n 0, 1) := by decide +kernel
theorem dX6_isString_1 : decode cX6_isString 1 = .ok (.ifCond .lt 13, 3) := by decide +kernel
theorem dX6_isString_4 : decode cX6_isString 4 = .ok (.iload_n 0, 1) := by decide +kernel
theorem dX6_isString_5 : decode cX6_isString 5 = .ok (.bipush 42, 2) := by decide +kernel
theorem dX6_isString_7 : decode cX6_isString 7 = .ok (.if_icmp .ge 7, 3) := by decide +kernel
theorem dX6_isString_10 : decode cX6_isString 10 = .ok (.iconst 1, 1) := by decide +kernel
theorem dX6_isString_11 : decode cX6_isString 11 = .ok (.goto 4, 3) := by decide +kernel
theorem dX6_isString_14 : decode cX6_isString 14 = .ok (.iconst 0, 1) := by decide +kernel
theorem dX6_isString_15 : decode cX6_isString 15 = .ok (.ireturn, 1) := by decide +kernel
theorem dX6_isDiagram_0 : decode cX6_isDiagram 0 = .ok (.iload_n 0, 1) := by decide +kernel
theorem dX6_isDiagram_1 : decode cX6_isDiagram 1 = .ok (.ifCond .lt 14, 3) := by decide +kernel
theorem dX6_isDiagram_4 : decode cX6_isDiagram 4 = .ok (.iload_n 0, 1) := by decide +kernel
theorem dX6_isDiagram_5 : decode cX6_isDiagram 5 = .ok (.sipush 2187, 3) := by decide +kernel
theorem dX6_isDiagram_8 : decode cX6_isDiagram 8 = .ok (.if_icmp .ge 7, 3) := by decide +kernel
theorem dX6_isDiagram_11 : decode cX6_isDiagram 11 = .ok (.iconst 1, 1) := by decide +kernel
theorem dX6_isDiagram_12 : decode cX6_isDiagram 12 = .ok (.goto 4, 3) := by decide +kernel
theorem dX6_isDiagram_15 : decode cX6_isDiagram 15 = .ok (.iconst 0, 1) := by decide +kernel
theorem dX6_isDiagram_16 : decode cX6_isDiagram 16 = .ok (.ireturn, 1) := by decide +kernel
end
section
theorem dX7_init_0 : decode cX7_init 0 = .ok (.aload_n 0, 1) := by decide +kernel
theorem dX7_init_1 : decode cX7_init 1 = .ok (.invokespecial 1, 3) := by decide +kernel
theorem dX7_init_4 : decode cX7_init 4 = .ok (.aload_n 0, 1) := by decide +kernel
theorem dX7_init_5 : decode cX7_init 5 = .ok (.sipush 320, 3) := by decide +kernel
theorem dX7_init_8 : decode cX7_init 8 = .ok (.newarray .int, 2) := by decide +kernel
theorem dX7_init_10 : decode cX7_init 10 = .ok (.putfield 7, 3) := by decide +kernel
theorem dX7_init_13 : decode cX7_init 13 = .ok (.aload_n 0, 1) := by decide +kernel
theorem dX7_init_14 : decode cX7_init 14 = .ok (.sipush 6400, 3) := by decide +kernel
theorem dX7_init_17 : decode cX7_init 17 = .ok (.newarray .int, 2) := by decide +kernel
theorem dX7_init_19 : decode cX7_init 19 = .ok (.putfield 13, 3) := by decide +kernel
theorem dX7_init_22 : decode cX7_init 22 = .ok (.aload_n 0, 1) := by decide +kernel
theorem dX7_init_23 : decode cX7_init 23 = .ok (.iconst 4, 1) := by decide +kernel
theorem dX7_init_24 : decode cX7_init 24 = .ok (.newarray .int, 2) := by decide +kernel
theorem dX7_init_26 : decode cX7_init 26 = .ok (.putfield 16, 3) := by decide +kernel
theorem dX7_init_29 : decode cX7_init 29 = .ok (.aload_n 0, 1) := by decide +kernel
theorem dX7_init_30 : decode cX7_init 30 = .ok (.iconst 4, 1) := by decide +kernel
theorem dX7_init_31 : decode cX7_init 31 = .ok (.newarray .int, 2) := by decide +kernel
theorem dX7_init_33 : decode cX7_init 33 = .ok (.putfield 19, 3) := by decide +kernel
theorem dX7_init_36 : decode cX7_init 36 = .ok (.aload_n 0, 1) := by decide +kernel
theorem dX7_init_37 : decode cX7_init 37 = .ok (.bipush 120, 2) := by decide +kernel
theorem dX7_init_39 : decode cX7_init 39 = .ok (.newarray .int, 2) := by decide +kernel
theorem dX7_init_41 : decode cX7_init 41 = .ok (.putfield 22, 3) := by decide +kernel
theorem dX7_init_44 : decode cX7_init 44 = .ok (.aload_n 0, 1) := by decide +kernel
theorem dX7_init_45 : decode cX7_init 45 = .ok (.sipush 26244, 3) := by decide +kernel
theorem dX7_init_48 : decode cX7_init 48 = .ok (.newarray .int, 2) := by decide +kernel
theorem dX7_init_50 : decode cX7_init 50 = .ok (.putfield 25, 3) := by decide +kernel
theorem dX7_init_53 : decode cX7_init 53 = .ok (.aload_n 0, 1) := by decide +kernel
theorem dX7_init_54 : decode cX7_init 54 = .ok (.sipush 26244, 3) := by decide +kernel
theorem dX7_init_57 : decode cX7_init 57 = .ok (.newarray .int, 2) := by decide +kernel
theorem dX7_init_59 : decode cX7_init 59 = .ok (.putfield 28, 3) := by decide +kernel
theorem dX7_init_62 : decode cX7_init 62 = .ok (.aload_n 0, 1) := by decide +kernel
theorem dX7_init_63 : decode cX7_init 63 = .ok (.bipush 63, 2) := by decide +kernel
theorem dX7_init_65 : decode cX7_init 65 = .ok (.newarray .int, 2) := by decide +kernel
theorem dX7_init_67 : decode cX7_init 67 = .ok (.putfield 31, 3) := by decide +kernel
theorem dX7_init_70 : decode cX7_init 70 = .ok (.aload_n 0, 1) := by decide +kernel
theorem dX7_init_71 : decode cX7_init 71 = .ok (.bipush 63, 2) := by decide +kernel
theorem dX7_init_73 : decode cX7_init 73 = .ok (.newarray .int, 2) := by decide +kernel
theorem dX7_init_75 : decode cX7_init 75 = .ok (.putfield 34, 3) := by decide +kernel
theorem dX7_init_78 : decode cX7_init 78 = .ok (.aload_n 0, 1) := by decide +kernel
theorem dX7_init_79 : decode cX7_init 79 = .ok (.bipush 12, 2) := by decide +kernel
theorem dX7_init_81 : decode cX7_init 81 = .ok (.newarray .int, 2) := by decide +kernel
theorem dX7_init_83 : decode cX7_init 83 = .ok (.putfield 37, 3) := by decide +kernel
theorem dX7_init_86 : decode cX7_init 86 = .ok (.aload_n 0, 1) := by decide +kernel
theorem dX7_init_87 : decode cX7_init 87 = .ok (.sipush 2187, 3) := by decide +kernel
theorem dX7_init_90 : decode cX7_init 90 = .ok (.newarray .boolean, 2) := by decide +kernel
theorem dX7_init_92 : decode cX7_init 92 = .ok (.putfield 40, 3) := by decide +kernel
theorem dX7_init_95 : decode cX7_init 95 = .ok (.aload_n 0, 1) := by decide +kernel
theorem dX7_init_96 : decode cX7_init 96 = .ok (.sipush 2187, 3) := by decide +kernel
theorem dX7_init_99 : decode cX7_init 99 = .ok (.newarray .boolean, 2) := by decide +kernel
theorem dX7_init_101 : decode cX7_init 101 = .ok (.putfield 44, 3) := by decide +kernel
theorem dX7_init_104 : decode cX7_init 104 = .ok (.aload_n 0, 1) := by decide +kernel
theorem dX7_init_105 : decode cX7_init 105 = .ok (.bipush 6, 2) := by decide +kernel
theorem dX7_init_107 : decode cX7_init 107 = .ok (.newarray .int, 2) := by decide +kernel
theorem dX7_init_109 : decode cX7_init 109 = .ok (.putfield 47, 3) := by decide +kernel
theorem dX7_init_112 : decode cX7_init 112 = .ok (.aload_n 0, 1) := by decide +kernel
theorem dX7_init_113 : decode cX7_init 113 = .ok (.bipush 6, 2) := by decide +kernel
theorem dX7_init_115 : decode cX7_init 115 = .ok (.newarray .int, 2) := by decide +kernel
theorem dX7_init_117 : decode cX7_init 117 = .ok (.putfield 50, 3) := by decide +kernel
theorem dX7_init_120 : decode cX7_init 120 = .ok (.aload_n 0, 1) := by decide +kernel
theorem dX7_init_121 : decode cX7_init 121 = .ok (.bipush 30, 2) := by decide +kernel
theorem dX7_init_123 : decode cX7_init 123 = .ok (.newarray .int, 2) := by decide +kernel
theorem dX7_init_125 : decode cX7_init 125 = .ok (.putfield 53, 3) := by decide +kernel
theorem dX7_init_128 : decode cX7_init 128 = .ok (.aload_n 0, 1) := by decide +kernel
theorem dX7_init_129 : decode cX7_init 129 = .ok (.getfield 7, 3) := by decide +kernel
theorem dX7_init_132 : decode cX7_init 132 = .ok (.iconst 0, 1) := by decide +kernel
theorem dX7_init_133 : decode cX7_init 133 = .ok (.bipush 8, 2) := by decide +kernel
theorem dX7_init_135 : decode cX7_init 135 = .ok (.iastore, 1) := by decide +kernel
theorem dX7_init_136 : decode cX7_init 136 = .ok (.sipush 229, 3) := by decide +kernel
theorem dX7_init_139 : decode cX7_init 139 = .ok (.istore_n 1, 1) := by decide +kernel
theorem dX7_init_140 : decode cX7_init 140 = .ok (.iload_n 1, 1) := by decide +kernel
theorem dX7_init_141 : decode cX7_init 141 = .ok (.sipush 320, 3) := by decide +kernel
theorem dX7_init_144 : decode cX7_init 144 = .ok (.if_icmp .ge 16, 3) := by decide +kernel
theorem dX7_init_147 : decode cX7_init 147 = .ok (.aload_n 0, 1) := by decide +kernel
theorem dX7_init_148 : decode cX7_init 148 = .ok (.getfield 7, 3) := by decide +kernel
theorem dX7_init_151 : decode cX7_init 151 = .ok (.iload_n 1, 1) := by decide +kernel
theorem dX7_init_152 : decode cX7_init 152 = .ok (.iconst (-1), 1) := by decide +kernel
theorem dX7_init_153 : decode cX7_init 153 = .ok (.iastore, 1) := by decide +kernel
theorem dX7_init_154 : decode cX7_init 154 = .ok (.iinc 1 1, 3) := by decide +kernel
theorem dX7_init_157 : decode cX7_init 157 = .ok (.goto (-17), 3) := by decide +kernel
theorem dX7_init_160 : decode cX7_init 160 = .ok (.return_, 1) := by decide +kernel
theorem dX7_finding_0 : decode cX7_finding 0 = .ok (.aload_n 0, 1) := by decide +kernel
theorem dX7_finding_1 : decode cX7_finding 1 = .ok (.dup, 1) := by decide +kernel
theorem dX7_finding_2 : decode cX7_finding 2 = .ok (.getfield 56, 3) := by decide +kernel
theorem dX7_finding_5 : decode cX7_finding 5 = .ok (.iconst 1, 1) := by decide +kernel
theorem dX7_finding_6 : decode cX7_finding 6 = .ok (.iadd, 1) := by decide +kernel
theorem dX7_finding_7 : decode cX7_finding 7 = .ok (.putfield 56, 3) := by decide +kernel
theorem dX7_finding_10 : decode cX7_finding 10 = .ok (.iload_n 1, 1) := by decide +kernel
theorem dX7_finding_11 : decode cX7_finding 11 = .ok (.ireturn, 1) := by decide +kernel
theorem dX7_isIn_0 : decode cX7_isIn 0 = .ok (.iload_n 0, 1) := by decide +kernel
theorem dX7_isIn_1 : decode cX7_isIn 1 = .ok (.iload_n 1, 1) := by decide +kernel
theorem dX7_isIn_2 : decode cX7_isIn 2 = .ok (.if_icmp .lt 12, 3) := by decide +kernel
theorem dX7_isIn_5 : decode cX7_isIn 5 = .ok (.iload_n 0, 1) := by decide +kernel
theorem dX7_isIn_6 : decode cX7_isIn 6 = .ok (.iload_n 2, 1) := by decide +kernel
theorem dX7_isIn_7 : decode cX7_isIn 7 = .ok (.if_icmp .gt 7, 3) := by decide +kernel
theorem dX7_isIn_10 : decode cX7_isIn 10 = .ok (.iconst 1, 1) := by decide +kernel
theorem dX7_isIn_11 : decode cX7_isIn 11 = .ok (.goto 4, 3) := by decide +kernel
theorem dX7_isIn_14 : decode cX7_isIn 14 = .ok (.iconst 0, 1) := by decide +kernel
theorem dX7_isIn_15 : decode cX7_isIn 15 = .ok (.ireturn, 1) := by decide +kernel
theorem dX7_isBeat_0 : decode cX7_isBeat 0 = .ok (.iload_n 0, 1) := by decide +kernel
theorem dX7_isBeat_1 : decode cX7_isBeat 1 = .ok (.iconst 0, 1) := by decide +kernel
theorem dX7_isBeat_2 : decode cX7_isBeat 2 = .ok (.bipush 11, 2) := by decide +kernel
theorem dX7_isBeat_4 : decode cX7_isBeat 4 = .ok (.invokestatic 60, 3) := by decide +kernel
theorem dX7_isBeat_7 : decode cX7_isBeat 7 = .ok (.ireturn, 1) := by decide +kernel
theorem dX7_isPlayed_0 : decode cX7_isPlayed 0 = .ok (.iload_n 1, 1) := by decide +kernel
theorem dX7_isPlayed_1 : decode cX7_isPlayed 1 = .ok (.iconst 0, 1) := by decide +kernel
theorem dX7_isPlayed_2 : decode cX7_isPlayed 2 = .ok (.aload_n 0, 1) := by decide +kernel
theorem dX7_isPlayed_3 : decode cX7_isPlayed 3 = .ok (.getfield 7, 3) := by decide +kernel
theorem dX7_isPlayed_6 : decode cX7_isPlayed 6 = .ok (.iconst 0, 1) := by decide +kernel
theorem dX7_isPlayed_7 : decode cX7_isPlayed 7 = .ok (.iaload, 1) := by decide +kernel
theorem dX7_isPlayed_8 : decode cX7_isPlayed 8 = .ok (.iconst 1, 1) := by decide +kernel
theorem dX7_isPlayed_9 : decode cX7_isPlayed 9 = .ok (.isub, 1) := by decide +kernel
theorem dX7_isPlayed_10 : decode cX7_isPlayed 10 = .ok (.invokestatic 60, 3) := by decide +kernel
theorem dX7_isPlayed_13 : decode cX7_isPlayed 13 = .ok (.ireturn, 1) := by decide +kernel
theorem dX7_isPedal_0 : decode cX7_isPedal 0 = .ok (.iload_n 0, 1) := by decide +kernel
theorem dX7_isPedal_1 : decode cX7_isPedal 1 = .ok (.iconst 0, 1) := by decide +kernel
theorem dX7_isPedal_2 : decode cX7_isPedal 2 = .ok (.bipush 6, 2) := by decide +kernel
theorem dX7_isPedal_4 : decode cX7_isPedal 4 = .ok (.invokestatic 60, 3) := by decide +kernel
theorem dX7_isPedal_7 : decode cX7_isPedal 7 = .ok (.ireturn, 1) := by decide +kernel
theorem dX7_isDiagram_0 : decode cX7_isDiagram 0 = .ok (.iload_n 0, 1) := by decide +kernel
theorem dX7_isDiagram_1 : decode cX7_isDiagram 1 = .ok (.iconst 0, 1) := by decide +kernel
theorem dX7_isDiagram_2 : decode cX7_isDiagram 2 = .ok (.sipush 2186, 3) := by decide +kernel
theorem dX7_isDiagram_5 : decode cX7_isDiagram 5 = .ok (.invokestatic 60, 3) := by decide +kernel
theorem dX7_isDiagram_8 : decode cX7_isDiagram 8 = .ok (.ireturn, 1) := by decide +kernel
theorem dX7_isNote_0 : decode cX7_isNote 0 = .ok (.iload_n 1, 1) := by decide +kernel
theorem dX7_isNote_1 : decode cX7_isNote 1 = .ok (.invokestatic 64, 3) := by decide +kernel
theorem dX7_isNote_4 : decode cX7_isNote 4 = .ok (.ifCond .eq 23, 3) := by decide +kernel
theorem dX7_isNote_7 : decode cX7_isNote 7 = .ok (.iload_n 2, 1) := by decide +kernel
theorem dX7_isNote_8 : decode cX7_isNote 8 = .ok (.ifCond .lt 19, 3) := by decide +kernel
theorem dX7_isNote_11 : decode cX7_isNote 11 = .ok (.iload_n 2, 1) := by decide +kernel
theorem dX7_isNote_12 : decode cX7_isNote 12 = .ok (.aload_n 0, 1) := by decide +kernel
theorem dX7_isNote_13 : decode cX7_isNote 13 = .ok (.getfield 7, 3) := by decide +kernel
theorem dX7_isNote_16 : decode cX7_isNote 16 = .ok (.iconst 1, 1) := by decide +kernel
theorem dX7_isNote_17 : decode cX7_isNote 17 = .ok (.iload_n 1, 1) := by decide +kernel
theorem dX7_isNote_18 : decode cX7_isNote 18 = .ok (.iadd, 1) := by decide +kernel
theorem dX7_isNote_19 : decode cX7_isNote 19 = .ok (.iaload, 1) := by decide +kernel
theorem dX7_isNote_20 : decode cX7_isNote 20 = .ok (.if_icmp .ge 7, 3) := by decide +kernel
theorem dX7_isNote_23 : decode cX7_isNote 23 = .ok (.iconst 1, 1) := by decide +kernel
theorem dX7_isNote_24 : decode cX7_isNote 24 = .ok (.goto 4, 3) := by decide +kernel
theorem dX7_isNote_27 : decode cX7_isNote 27 = .ok (.iconst 0, 1) := by decide +kernel
theorem dX7_isNote_28 : decode cX7_isNote 28 = .ok (.ireturn, 1) := by decide +kernel
theorem dX7_note_0 : decode cX7_note 0 = .ok (.aload_n 0, 1) := by decide +kernel
theorem dX7_note_1 : decode cX7_note 1 = .ok (.getfield 7, 3) := by decide +kernel
theorem dX7_note_4 : decode cX7_note 4 = .ok (.bipush 13, 2) := by decide +kernel
theorem dX7_note_6 : decode cX7_note 6 = .ok (.iconst 3, 1) := by decide +kernel
theorem dX7_note_7 : decode cX7_note 7 = .ok (.bipush 6, 2) := by decide +kernel
theorem dX7_note_9 : decode cX7_note 9 = .ok (.iload_n 1, 1) := by decide +kernel
theorem dX7_note_10 : decode cX7_note 10 = .ok (.imul, 1) := by decide +kernel
theorem dX7_note_11 : decode cX7_note 11 = .ok (.iload_n 2, 1) := by decide +kernel
theorem dX7_note_12 : decode cX7_note 12 = .ok (.iadd, 1) := by decide +kernel
theorem dX7_note_13 : decode cX7_note 13 = .ok (.imul, 1) := by decide +kernel
theorem dX7_note_14 : decode cX7_note 14 = .ok (.iadd, 1) := by decide +kernel
theorem dX7_note_15 : decode cX7_note 15 = .ok (.iload_n 3, 1) := by decide +kernel
theorem dX7_note_16 : decode cX7_note 16 = .ok (.iadd, 1) := by decide +kernel
theorem dX7_note_17 : decode cX7_note 17 = .ok (.iaload, 1) := by decide +kernel
theorem dX7_note_18 : decode cX7_note 18 = .ok (.ireturn, 1) := by decide +kernel
theorem dX7_keep_0 : decode cX7_keep 0 = .ok (.aload_n 0, 1) := by decide +kernel
theorem dX7_keep_1 : decode cX7_keep 1 = .ok (.getfield 68, 3) := by decide +kernel
theorem dX7_keep_4 : decode cX7_keep 4 = .ok (.bipush 20, 2) := by decide +kernel
theorem dX7_keep_6 : decode cX7_keep 6 = .ok (.if_icmp .ne 44, 3) := by decide +kernel
theorem dX7_keep_9 : decode cX7_keep 9 = .ok (.iconst 0, 1) := by decide +kernel
theorem dX7_keep_10 : decode cX7_keep 10 = .ok (.istore_n 1, 1) := by decide +kernel
theorem dX7_keep_11 : decode cX7_keep 11 = .ok (.iload_n 1, 1) := by decide +kernel
theorem dX7_keep_12 : decode cX7_keep 12 = .ok (.sipush 6080, 3) := by decide +kernel
theorem dX7_keep_15 : decode cX7_keep 15 = .ok (.if_icmp .ge 25, 3) := by decide +kernel
theorem dX7_keep_18 : decode cX7_keep 18 = .ok (.aload_n 0, 1) := by decide +kernel
theorem dX7_keep_19 : decode cX7_keep 19 = .ok (.getfield 13, 3) := by decide +kernel
theorem dX7_keep_22 : decode cX7_keep 22 = .ok (.iload_n 1, 1) := by decide +kernel
theorem dX7_keep_23 : decode cX7_keep 23 = .ok (.aload_n 0, 1) := by decide +kernel
theorem dX7_keep_24 : decode cX7_keep 24 = .ok (.getfield 13, 3) := by decide +kernel
theorem dX7_keep_27 : decode cX7_keep 27 = .ok (.iload_n 1, 1) := by decide +kernel
theorem dX7_keep_28 : decode cX7_keep 28 = .ok (.sipush 320, 3) := by decide +kernel
theorem dX7_keep_31 : decode cX7_keep 31 = .ok (.iadd, 1) := by decide +kernel
theorem dX7_keep_32 : decode cX7_keep 32 = .ok (.iaload, 1) := by decide +kernel
theorem dX7_keep_33 : decode cX7_keep 33 = .ok (.iastore, 1) := by decide +kernel
theorem dX7_keep_34 : decode cX7_keep 34 = .ok (.iinc 1 1, 3) := by decide +kernel
theorem dX7_keep_37 : decode cX7_keep 37 = .ok (.goto (-26), 3) := by decide +kernel
theorem dX7_keep_40 : decode cX7_keep 40 = .ok (.aload_n 0, 1) := by decide +kernel
theorem dX7_keep_41 : decode cX7_keep 41 = .ok (.dup, 1) := by decide +kernel
theorem dX7_keep_42 : decode cX7_keep 42 = .ok (.getfield 68, 3) := by decide +kernel
theorem dX7_keep_45 : decode cX7_keep 45 = .ok (.iconst 1, 1) := by decide +kernel
theorem dX7_keep_46 : decode cX7_keep 46 = .ok (.isub, 1) := by decide +kernel
theorem dX7_keep_47 : decode cX7_keep 47 = .ok (.putfield 68, 3) := by decide +kernel
theorem dX7_keep_50 : decode cX7_keep 50 = .ok (.iconst 0, 1) := by decide +kernel
theorem dX7_keep_51 : decode cX7_keep 51 = .ok (.istore_n 1, 1) := by decide +kernel
theorem dX7_keep_52 : decode cX7_keep 52 = .ok (.iload_n 1, 1) := by decide +kernel
theorem dX7_keep_53 : decode cX7_keep 53 = .ok (.sipush 320, 3) := by decide +kernel
theorem dX7_keep_56 : decode cX7_keep 56 = .ok (.if_icmp .ge 30, 3) := by decide +kernel
theorem dX7_keep_59 : decode cX7_keep 59 = .ok (.aload_n 0, 1) := by decide +kernel
theorem dX7_keep_60 : decode cX7_keep 60 = .ok (.getfield 13, 3) := by decide +kernel
theorem dX7_keep_63 : decode cX7_keep 63 = .ok (.sipush 320, 3) := by decide +kernel
theorem dX7_keep_66 : decode cX7_keep 66 = .ok (.aload_n 0, 1) := by decide +kernel
theorem dX7_keep_67 : decode cX7_keep 67 = .ok (.getfield 68, 3) := by decide +kernel
theorem dX7_keep_70 : decode cX7_keep 70 = .ok (.imul, 1) := by decide +kernel
theorem dX7_keep_71 : decode cX7_keep 71 = .ok (.iload_n 1, 1) := by decide +kernel
theorem dX7_keep_72 : decode cX7_keep 72 = .ok (.iadd, 1) := by decide +kernel
theorem dX7_keep_73 : decode cX7_keep 73 = .ok (.aload_n 0, 1) := by decide +kernel
theorem dX7_keep_74 : decode cX7_keep 74 = .ok (.getfield 7, 3) := by decide +kernel
theorem dX7_keep_77 : decode cX7_keep 77 = .ok (.iload_n 1, 1) := by decide +kernel
theorem dX7_keep_78 : decode cX7_keep 78 = .ok (.iaload, 1) := by decide +kernel
theorem dX7_keep_79 : decode cX7_keep 79 = .ok (.iastore, 1) := by decide +kernel
theorem dX7_keep_80 : decode cX7_keep 80 = .ok (.iinc 1 1, 3) := by decide +kernel
theorem dX7_keep_83 : decode cX7_keep 83 = .ok (.goto (-31), 3) := by decide +kernel
theorem dX7_keep_86 : decode cX7_keep 86 = .ok (.aload_n 0, 1) := by decide +kernel
theorem dX7_keep_87 : decode cX7_keep 87 = .ok (.dup, 1) := by decide +kernel
theorem dX7_keep_88 : decode cX7_keep 88 = .ok (.getfield 68, 3) := by decide +kernel
theorem dX7_keep_91 : decode cX7_keep 91 = .ok (.iconst 1, 1) := by decide +kernel
theorem dX7_keep_92 : decode cX7_keep 92 = .ok (.iadd, 1) := by decide +kernel
theorem dX7_keep_93 : decode cX7_keep 93 = .ok (.putfield 68, 3) := by decide +kernel
theorem dX7_keep_96 : decode cX7_keep 96 = .ok (.return_, 1) := by decide +kernel
theorem dX7_undo_0 : decode cX7_undo 0 = .ok (.aload_n 0, 1) := by decide +kernel
theorem dX7_undo_1 : decode cX7_undo 1 = .ok (.getfield 68, 3) := by decide +kernel
theorem dX7_undo_4 : decode cX7_undo 4 = .ok (.ifCond .ne 10, 3) := by decide +kernel
theorem dX7_undo_7 : decode cX7_undo 7 = .ok (.aload_n 0, 1) := by decide +kernel
theorem dX7_undo_8 : decode cX7_undo 8 = .ok (.ldc 71, 2) := by decide +kernel
theorem dX7_undo_10 : decode cX7_undo 10 = .ok (.invokevirtual 72, 3) := by decide +kernel
theorem dX7_undo_13 : decode cX7_undo 13 = .ok (.ireturn, 1) := by decide +kernel
theorem dX7_undo_14 : decode cX7_undo 14 = .ok (.aload_n 0, 1) := by decide +kernel
theorem dX7_undo_15 : decode cX7_undo 15 = .ok (.dup, 1) := by decide +kernel
theorem dX7_undo_16 : decode cX7_undo 16 = .ok (.getfield 68, 3) := by decide +kernel
theorem dX7_undo_19 : decode cX7_undo 19 = .ok (.iconst 1, 1) := by decide +kernel
theorem dX7_undo_20 : decode cX7_undo 20 = .ok (.isub, 1) := by decide +kernel
theorem dX7_undo_21 : decode cX7_undo 21 = .ok (.putfield 68, 3) := by decide +kernel
theorem dX7_undo_24 : decode cX7_undo 24 = .ok (.iconst 0, 1) := by decide +kernel
theorem dX7_undo_25 : decode cX7_undo 25 = .ok (.istore_n 1, 1) := by decide +kernel
theorem dX7_undo_26 : decode cX7_undo 26 = .ok (.iload_n 1, 1) := by decide +kernel
theorem dX7_undo_27 : decode cX7_undo 27 = .ok (.sipush 320, 3) := by decide +kernel
theorem dX7_undo_30 : decode cX7_undo 30 = .ok (.if_icmp .ge 30, 3) := by decide +kernel
theorem dX7_undo_33 : decode cX7_undo 33 = .ok (.aload_n 0, 1) := by decide +kernel
theorem dX7_undo_34 : decode cX7_undo 34 = .ok (.getfield 7, 3) := by decide +kernel
theorem dX7_undo_37 : decode cX7_undo 37 = .ok (.iload_n 1, 1) := by decide +kernel
theorem dX7_undo_38 : decode cX7_undo 38 = .ok (.aload_n 0, 1) := by decide +kernel
theorem dX7_undo_39 : decode cX7_undo 39 = .ok (.getfield 13, 3) := by decide +kernel
theorem dX7_undo_42 : decode cX7_undo 42 = .ok (.sipush 320, 3) := by decide +kernel
theorem dX7_undo_45 : decode cX7_undo 45 = .ok (.aload_n 0, 1) := by decide +kernel
theorem dX7_undo_46 : decode cX7_undo 46 = .ok (.getfield 68, 3) := by decide +kernel
theorem dX7_undo_49 : decode cX7_undo 49 = .ok (.imul, 1) := by decide +kernel
theorem dX7_undo_50 : decode cX7_undo 50 = .ok (.iload_n 1, 1) := by decide +kernel
theorem dX7_undo_51 : decode cX7_undo 51 = .ok (.iadd, 1) := by decide +kernel
theorem dX7_undo_52 : decode cX7_undo 52 = .ok (.iaload, 1) := by decide +kernel
theorem dX7_undo_53 : decode cX7_undo 53 = .ok (.iastore, 1) := by decide +kernel
theorem dX7_undo_54 : decode cX7_undo 54 = .ok (.iinc 1 1, 3) := by decide +kernel
theorem dX7_undo_57 : decode cX7_undo 57 = .ok (.goto (-31), 3) := by decide +kernel
theorem dX7_undo_60 : decode cX7_undo 60 = .ok (.aload_n 0, 1) := by decide +kernel
theorem dX7_undo_61 : decode cX7_undo 61 = .ok (.getfield 68, 3) := by decide +kernel
theorem dX7_undo_64 : decode cX7_undo 64 = .ok (.ireturn, 1) := by decide +kernel
theorem dX7_becomes_0 : decode cX7_becomes 0 = .ok (.aload_n 0, 1) := by decide +kernel
theorem dX7_becomes_1 : decode cX7_becomes 1 = .ok (.invokevirtual 76, 3) := by decide +kernel
theorem dX7_becomes_4 : decode cX7_becomes 4 = .ok (.aload_n 0, 1) := by decide +kernel
theorem dX7_becomes_5 : decode cX7_becomes 5 = .ok (.getfield 7, 3) := by decide +kernel
theorem dX7_becomes_8 : decode cX7_becomes 8 = .ok (.iload_n 1, 1) := by decide +kernel
theorem dX7_becomes_9 : decode cX7_becomes 9 = .ok (.iaload, 1) := by decide +kernel
theorem dX7_becomes_10 : decode cX7_becomes 10 = .ok (.istore_n 3, 1) := by decide +kernel
theorem dX7_becomes_11 : decode cX7_becomes 11 = .ok (.aload_n 0, 1) := by decide +kernel
theorem dX7_becomes_12 : decode cX7_becomes 12 = .ok (.getfield 7, 3) := by decide +kernel
theorem dX7_becomes_15 : decode cX7_becomes 15 = .ok (.iload_n 1, 1) := by decide +kernel
theorem dX7_becomes_16 : decode cX7_becomes 16 = .ok (.iload_n 2, 1) := by decide +kernel
theorem dX7_becomes_17 : decode cX7_becomes 17 = .ok (.iastore, 1) := by decide +kernel
theorem dX7_becomes_18 : decode cX7_becomes 18 = .ok (.iload_n 3, 1) := by decide +kernel
theorem dX7_becomes_19 : decode cX7_becomes 19 = .ok (.ireturn, 1) := by decide +kernel
theorem dX7_beats_0 : decode cX7_beats 0 = .ok (.iload_n 1, 1) := by decide +kernel
theorem dX7_beats_1 : decode cX7_beats 1 = .ok (.iconst 1, 1) := by decide +kernel
theorem dX7_beats_2 : decode cX7_beats 2 = .ok (.bipush 12, 2) := by decide +kernel
theorem dX7_beats_4 : decode cX7_beats 4 = .ok (.invokestatic 60, 3) := by decide +kernel
theorem dX7_beats_7 : decode cX7_beats 7 = .ok (.ifCond .eq 12, 3) := by decide +kernel
theorem dX7_beats_10 : decode cX7_beats 10 = .ok (.aload_n 0, 1) := by decide +kernel
theorem dX7_beats_11 : decode cX7_beats 11 = .ok (.iconst 0, 1) := by decide +kernel
theorem dX7_beats_12 : decode cX7_beats 12 = .ok (.iload_n 1, 1) := by decide +kernel
theorem dX7_beats_13 : decode cX7_beats 13 = .ok (.invokevirtual 79, 3) := by decide +kernel
theorem dX7_beats_16 : decode cX7_beats 16 = .ok (.goto 9, 3) := by decide +kernel
theorem dX7_beats_19 : decode cX7_beats 19 = .ok (.aload_n 0, 1) := by decide +kernel
theorem dX7_beats_20 : decode cX7_beats 20 = .ok (.ldc 83, 2) := by decide +kernel
theorem dX7_beats_22 : decode cX7_beats 22 = .ok (.invokevirtual 72, 3) := by decide +kernel
theorem dX7_beats_25 : decode cX7_beats 25 = .ok (.ireturn, 1) := by decide +kernel
theorem dX7_lay_0 : decode cX7_lay 0 = .ok (.bipush 13, 2) := by decide +kernel
theorem dX7_lay_2 : decode cX7_lay 2 = .ok (.iconst 3, 1) := by decide +kernel
theorem dX7_lay_3 : decode cX7_lay 3 = .ok (.bipush 6, 2) := by decide +kernel
theorem dX7_lay_5 : decode cX7_lay 5 = .ok (.iload_n 1, 1) := by decide +kernel
theorem dX7_lay_6 : decode cX7_lay 6 = .ok (.imul, 1) := by decide +kernel
theorem dX7_lay_7 : decode cX7_lay 7 = .ok (.iload_n 2, 1) := by decide +kernel
theorem dX7_lay_8 : decode cX7_lay 8 = .ok (.iadd, 1) := by decide +kernel
theorem dX7_lay_9 : decode cX7_lay 9 = .ok (.imul, 1) := by decide +kernel
theorem dX7_lay_10 : decode cX7_lay 10 = .ok (.iadd, 1) := by decide +kernel
theorem dX7_lay_11 : decode cX7_lay 11 = .ok (.istore 6, 2) := by decide +kernel
theorem dX7_lay_13 : decode cX7_lay 13 = .ok (.aload_n 0, 1) := by decide +kernel
theorem dX7_lay_14 : decode cX7_lay 14 = .ok (.getfield 7, 3) := by decide +kernel
theorem dX7_lay_17 : decode cX7_lay 17 = .ok (.iload 6, 2) := by decide +kernel
theorem dX7_lay_19 : decode cX7_lay 19 = .ok (.iload_n 3, 1) := by decide +kernel
theorem dX7_lay_20 : decode cX7_lay 20 = .ok (.iastore, 1) := by decide +kernel
theorem dX7_lay_21 : decode cX7_lay 21 = .ok (.aload_n 0, 1) := by decide +kernel
theorem dX7_lay_22 : decode cX7_lay 22 = .ok (.getfield 7, 3) := by decide +kernel
theorem dX7_lay_25 : decode cX7_lay 25 = .ok (.iload 6, 2) := by decide +kernel
theorem dX7_lay_27 : decode cX7_lay 27 = .ok (.iconst 1, 1) := by decide +kernel
theorem dX7_lay_28 : decode cX7_lay 28 = .ok (.iadd, 1) := by decide +kernel
theorem dX7_lay_29 : decode cX7_lay 29 = .ok (.iload 4, 2) := by decide +kernel
theorem dX7_lay_31 : decode cX7_lay 31 = .ok (.iastore, 1) := by decide +kernel
theorem dX7_lay_32 : decode cX7_lay 32 = .ok (.aload_n 0, 1) := by decide +kernel
theorem dX7_lay_33 : decode cX7_lay 33 = .ok (.getfield 7, 3) := by decide +kernel
theorem dX7_lay_36 : decode cX7_lay 36 = .ok (.iload 6, 2) := by decide +kernel
theorem dX7_lay_38 : decode cX7_lay 38 = .ok (.iconst 2, 1) := by decide +kernel
theorem dX7_lay_39 : decode cX7_lay 39 = .ok (.iadd, 1) := by decide +kernel
theorem dX7_lay_40 : decode cX7_lay 40 = .ok (.iload 5, 2) := by decide +kernel
theorem dX7_lay_42 : decode cX7_lay 42 = .ok (.ifCond .eq 12, 3) := by decide +kernel
theorem dX7_lay_45 : decode cX7_lay 45 = .ok (.iload_n 3, 1) := by decide +kernel
theorem dX7_lay_46 : decode cX7_lay 46 = .ok (.iconst 2, 1) := by decide +kernel
theorem dX7_lay_47 : decode cX7_lay 47 = .ok (.if_icmp .eq 7, 3) := by decide +kernel
theorem dX7_lay_50 : decode cX7_lay 50 = .ok (.iconst 1, 1) := by decide +kernel
theorem dX7_lay_51 : decode cX7_lay 51 = .ok (.goto 4, 3) := by decide +kernel
theorem dX7_lay_54 : decode cX7_lay 54 = .ok (.iconst 0, 1) := by decide +kernel
theorem dX7_lay_55 : decode cX7_lay 55 = .ok (.iastore, 1) := by decide +kernel
theorem dX7_lay_56 : decode cX7_lay 56 = .ok (.return_, 1) := by decide +kernel
theorem dX7_note__0 : decode cX7_note_ 0 = .ok (.iload_n 1, 1) := by decide +kernel
theorem dX7_note__1 : decode cX7_note_ 1 = .ok (.invokestatic 64, 3) := by decide +kernel
theorem dX7_note__4 : decode cX7_note_ 4 = .ok (.ifCond .eq 22, 3) := by decide +kernel
theorem dX7_note__7 : decode cX7_note_ 7 = .ok (.iload_n 2, 1) := by decide +kernel
theorem dX7_note__8 : decode cX7_note_ 8 = .ok (.iconst 0, 1) := by decide +kernel
theorem dX7_note__9 : decode cX7_note_ 9 = .ok (.iconst 3, 1) := by decide +kernel
theorem dX7_note__10 : decode cX7_note_ 10 = .ok (.invokestatic 60, 3) := by decide +kernel
theorem dX7_note__13 : decode cX7_note_ 13 = .ok (.ifCond .eq 13, 3) := by decide +kernel
theorem dX7_note__16 : decode cX7_note_ 16 = .ok (.iload_n 3, 1) := by decide +kernel
theorem dX7_note__17 : decode cX7_note_ 17 = .ok (.iconst (-1), 1) := by decide +kernel
theorem dX7_note__18 : decode cX7_note_ 18 = .ok (.bipush 100, 2) := by decide +kernel
theorem dX7_note__20 : decode cX7_note_ 20 = .ok (.invokestatic 60, 3) := by decide +kernel
theorem dX7_note__23 : decode cX7_note_ 23 = .ok (.ifCond .ne 10, 3) := by decide +kernel
theorem dX7_note__26 : decode cX7_note_ 26 = .ok (.aload_n 0, 1) := by decide +kernel
theorem dX7_note__27 : decode cX7_note_ 27 = .ok (.ldc 83, 2) := by decide +kernel
theorem dX7_note__29 : decode cX7_note_ 29 = .ok (.invokevirtual 72, 3) := by decide +kernel
theorem dX7_note__32 : decode cX7_note_ 32 = .ok (.ireturn, 1) := by decide +kernel
theorem dX7_note__33 : decode cX7_note_ 33 = .ok (.aload_n 0, 1) := by decide +kernel
theorem dX7_note__34 : decode cX7_note_ 34 = .ok (.getfield 7, 3) := by decide +kernel
theorem dX7_note__37 : decode cX7_note_ 37 = .ok (.iconst 1, 1) := by decide +kernel
theorem dX7_note__38 : decode cX7_note_ 38 = .ok (.iload_n 1, 1) := by decide +kernel
theorem dX7_note__39 : decode cX7_note_ 39 = .ok (.iadd, 1) := by decide +kernel
theorem dX7_note__40 : decode cX7_note_ 40 = .ok (.iaload, 1) := by decide +kernel
theorem dX7_note__41 : decode cX7_note_ 41 = .ok (.bipush 6, 2) := by decide +kernel
theorem dX7_note__43 : decode cX7_note_ 43 = .ok (.if_icmp .ne 10, 3) := by decide +kernel
theorem dX7_note__46 : decode cX7_note_ 46 = .ok (.aload_n 0, 1) := by decide +kernel
theorem dX7_note__47 : decode cX7_note_ 47 = .ok (.ldc 84, 2) := by decide +kernel
theorem dX7_note__49 : decode cX7_note_ 49 = .ok (.invokevirtual 72, 3) := by decide +kernel
theorem dX7_note__52 : decode cX7_note_ 52 = .ok (.ireturn, 1) := by decide +kernel
theorem dX7_note__53 : decode cX7_note_ 53 = .ok (.aload_n 0, 1) := by decide +kernel
theorem dX7_note__54 : decode cX7_note_ 54 = .ok (.iconst 1, 1) := by decide +kernel
theorem dX7_note__55 : decode cX7_note_ 55 = .ok (.iload_n 1, 1) := by decide +kernel
theorem dX7_note__56 : decode cX7_note_ 56 = .ok (.iadd, 1) := by decide +kernel
theorem dX7_note__57 : decode cX7_note_ 57 = .ok (.aload_n 0, 1) := by decide +kernel
theorem dX7_note__58 : decode cX7_note_ 58 = .ok (.getfield 7, 3) := by decide +kernel
theorem dX7_note__61 : decode cX7_note_ 61 = .ok (.iconst 1, 1) := by decide +kernel
theorem dX7_note__62 : decode cX7_note_ 62 = .ok (.iload_n 1, 1) := by decide +kernel
theorem dX7_note__63 : decode cX7_note_ 63 = .ok (.iadd, 1) := by decide +kernel
theorem dX7_note__64 : decode cX7_note_ 64 = .ok (.iaload, 1) := by decide +kernel
theorem dX7_note__65 : decode cX7_note_ 65 = .ok (.iconst 1, 1) := by decide +kernel
theorem dX7_note__66 : decode cX7_note_ 66 = .ok (.iadd, 1) := by decide +kernel
theorem dX7_note__67 : decode cX7_note_ 67 = .ok (.invokevirtual 79, 3) := by decide +kernel
theorem dX7_note__70 : decode cX7_note_ 70 = .ok (.istore 5, 2) := by decide +kernel
theorem dX7_note__72 : decode cX7_note_ 72 = .ok (.aload_n 0, 1) := by decide +kernel
theorem dX7_note__73 : decode cX7_note_ 73 = .ok (.iload_n 1, 1) := by decide +kernel
theorem dX7_note__74 : decode cX7_note_ 74 = .ok (.iload 5, 2) := by decide +kernel
theorem dX7_note__76 : decode cX7_note_ 76 = .ok (.iload_n 2, 1) := by decide +kernel
theorem dX7_note__77 : decode cX7_note_ 77 = .ok (.iload_n 3, 1) := by decide +kernel
theorem dX7_note__78 : decode cX7_note_ 78 = .ok (.iload 4, 2) := by decide +kernel
theorem dX7_note__80 : decode cX7_note_ 80 = .ok (.invokevirtual 85, 3) := by decide +kernel
theorem dX7_note__83 : decode cX7_note_ 83 = .ok (.iload 5, 2) := by decide +kernel
theorem dX7_note__85 : decode cX7_note_ 85 = .ok (.ireturn, 1) := by decide +kernel
theorem dX7_drop_0 : decode cX7_drop 0 = .ok (.iload_n 1, 1) := by decide +kernel
theorem dX7_drop_1 : decode cX7_drop 1 = .ok (.invokestatic 64, 3) := by decide +kernel
theorem dX7_drop_4 : decode cX7_drop 4 = .ok (.ifCond .ne 10, 3) := by decide +kernel
theorem dX7_drop_7 : decode cX7_drop 7 = .ok (.aload_n 0, 1) := by decide +kernel
theorem dX7_drop_8 : decode cX7_drop 8 = .ok (.ldc 83, 2) := by decide +kernel
theorem dX7_drop_10 : decode cX7_drop 10 = .ok (.invokevirtual 72, 3) := by decide +kernel
theorem dX7_drop_13 : decode cX7_drop 13 = .ok (.ireturn, 1) := by decide +kernel
theorem dX7_drop_14 : decode cX7_drop 14 = .ok (.aload_n 0, 1) := by decide +kernel
theorem dX7_drop_15 : decode cX7_drop 15 = .ok (.getfield 7, 3) := by decide +kernel
theorem dX7_drop_18 : decode cX7_drop 18 = .ok (.iconst 1, 1) := by decide +kernel
theorem dX7_drop_19 : decode cX7_drop 19 = .ok (.iload_n 1, 1) := by decide +kernel
theorem dX7_drop_20 : decode cX7_drop 20 = .ok (.iadd, 1) := by decide +kernel
theorem dX7_drop_21 : decode cX7_drop 21 = .ok (.iaload, 1) := by decide +kernel
theorem dX7_drop_22 : decode cX7_drop 22 = .ok (.ifCond .ne 10, 3) := by decide +kernel
theorem dX7_drop_25 : decode cX7_drop 25 = .ok (.aload_n 0, 1) := by decide +kernel
theorem dX7_drop_26 : decode cX7_drop 26 = .ok (.ldc 71, 2) := by decide +kernel
theorem dX7_drop_28 : decode cX7_drop 28 = .ok (.invokevirtual 72, 3) := by decide +kernel
theorem dX7_drop_31 : decode cX7_drop 31 = .ok (.ireturn, 1) := by decide +kernel
theorem dX7_drop_32 : decode cX7_drop 32 = .ok (.aload_n 0, 1) := by decide +kernel
theorem dX7_drop_33 : decode cX7_drop 33 = .ok (.iconst 1, 1) := by decide +kernel
theorem dX7_drop_34 : decode cX7_drop 34 = .ok (.iload_n 1, 1) := by decide +kernel
theorem dX7_drop_35 : decode cX7_drop 35 = .ok (.iadd, 1) := by decide +kernel
theorem dX7_drop_36 : decode cX7_drop 36 = .ok (.aload_n 0, 1) := by decide +kernel
theorem dX7_drop_37 : decode cX7_drop 37 = .ok (.getfield 7, 3) := by decide +kernel
theorem dX7_drop_40 : decode cX7_drop 40 = .ok (.iconst 1, 1) := by decide +kernel
theorem dX7_drop_41 : decode cX7_drop 41 = .ok (.iload_n 1, 1) := by decide +kernel
theorem dX7_drop_42 : decode cX7_drop 42 = .ok (.iadd, 1) := by decide +kernel
theorem dX7_drop_43 : decode cX7_drop 43 = .ok (.iaload, 1) := by decide +kernel
theorem dX7_drop_44 : decode cX7_drop 44 = .ok (.iconst 1, 1) := by decide +kernel
theorem dX7_drop_45 : decode cX7_drop 45 = .ok (.isub, 1) := by decide +kernel
theorem dX7_drop_46 : decode cX7_drop 46 = .ok (.invokevirtual 79, 3) := by decide +kernel
theorem dX7_drop_49 : decode cX7_drop 49 = .ok (.iconst 1, 1) := by decide +kernel
theorem dX7_drop_50 : decode cX7_drop 50 = .ok (.isub, 1) := by decide +kernel
theorem dX7_drop_51 : decode cX7_drop 51 = .ok (.ireturn, 1) := by decide +kernel
theorem dX7_as_0 : decode cX7_as 0 = .ok (.aload_n 0, 1) := by decide +kernel
theorem dX7_as_1 : decode cX7_as 1 = .ok (.iload_n 1, 1) := by decide +kernel
theorem dX7_as_2 : decode cX7_as 2 = .ok (.iload_n 2, 1) := by decide +kernel
theorem dX7_as_3 : decode cX7_as 3 = .ok (.invokevirtual 89, 3) := by decide +kernel
theorem dX7_as_6 : decode cX7_as 6 = .ok (.ifCond .eq 12, 3) := by decide +kernel
theorem dX7_as_9 : decode cX7_as 9 = .ok (.iload_n 3, 1) := by decide +kernel
theorem dX7_as_10 : decode cX7_as 10 = .ok (.iconst 0, 1) := by decide +kernel
theorem dX7_as_11 : decode cX7_as 11 = .ok (.iconst 3, 1) := by decide +kernel
theorem dX7_as_12 : decode cX7_as 12 = .ok (.invokestatic 60, 3) := by decide +kernel
theorem dX7_as_15 : decode cX7_as 15 = .ok (.ifCond .ne 10, 3) := by decide +kernel
theorem dX7_as_18 : decode cX7_as 18 = .ok (.aload_n 0, 1) := by decide +kernel
theorem dX7_as_19 : decode cX7_as 19 = .ok (.ldc 83, 2) := by decide +kernel
theorem dX7_as_21 : decode cX7_as 21 = .ok (.invokevirtual 72, 3) := by decide +kernel
theorem dX7_as_24 : decode cX7_as 24 = .ok (.ireturn, 1) := by decide +kernel
theorem dX7_as_25 : decode cX7_as 25 = .ok (.aload_n 0, 1) := by decide +kernel
theorem dX7_as_26 : decode cX7_as 26 = .ok (.iload_n 1, 1) := by decide +kernel
theorem dX7_as_27 : decode cX7_as 27 = .ok (.iload_n 2, 1) := by decide +kernel
theorem dX7_as_28 : decode cX7_as 28 = .ok (.iconst 0, 1) := by decide +kernel
theorem dX7_as_29 : decode cX7_as 29 = .ok (.invokevirtual 93, 3) := by decide +kernel
theorem dX7_as_32 : decode cX7_as 32 = .ok (.istore 4, 2) := by decide +kernel
theorem dX7_as_34 : decode cX7_as 34 = .ok (.iload_n 3, 1) := by decide +kernel
theorem dX7_as_35 : decode cX7_as 35 = .ok (.ifCond .eq 20, 3) := by decide +kernel
theorem dX7_as_38 : decode cX7_as 38 = .ok (.iload_n 3, 1) := by decide +kernel
theorem dX7_as_39 : decode cX7_as 39 = .ok (.iload 4, 2) := by decide +kernel
theorem dX7_as_41 : decode cX7_as 41 = .ok (.if_icmp .eq 14, 3) := by decide +kernel
theorem dX7_as_44 : decode cX7_as 44 = .ok (.iload_n 3, 1) := by decide +kernel
theorem dX7_as_45 : decode cX7_as 45 = .ok (.iconst 1, 1) := by decide +kernel
theorem dX7_as_46 : decode cX7_as 46 = .ok (.if_icmp .ne 19, 3) := by decide +kernel
theorem dX7_as_49 : decode cX7_as 49 = .ok (.iload 4, 2) := by decide +kernel
theorem dX7_as_51 : decode cX7_as 51 = .ok (.iconst 3, 1) := by decide +kernel
theorem dX7_as_52 : decode cX7_as 52 = .ok (.if_icmp .ne 13, 3) := by decide +kernel
theorem dX7_as_55 : decode cX7_as 55 = .ok (.aload_n 0, 1) := by decide +kernel
theorem dX7_as_56 : decode cX7_as 56 = .ok (.iload_n 1, 1) := by decide +kernel
theorem dX7_as_57 : decode cX7_as 57 = .ok (.iload_n 2, 1) := by decide +kernel
theorem dX7_as_58 : decode cX7_as 58 = .ok (.iconst 1, 1) := by decide +kernel
theorem dX7_as_59 : decode cX7_as 59 = .ok (.invokevirtual 93, 3) := by decide +kernel
theorem dX7_as_62 : decode cX7_as 62 = .ok (.goto 9, 3) := by decide +kernel
theorem dX7_as_65 : decode cX7_as 65 = .ok (.aload_n 0, 1) := by decide +kernel
theorem dX7_as_66 : decode cX7_as 66 = .ok (.ldc 97, 2) := by decide +kernel
theorem dX7_as_68 : decode cX7_as 68 = .ok (.invokevirtual 72, 3) := by decide +kernel
theorem dX7_as_71 : decode cX7_as 71 = .ok (.ireturn, 1) := by decide +kernel
theorem dX7_of_0 : decode cX7_of 0 = .ok (.aload_n 0, 1) := by decide +kernel
theorem dX7_of_1 : decode cX7_of 1 = .ok (.iload_n 1, 1) := by decide +kernel
theorem dX7_of_2 : decode cX7_of 2 = .ok (.iload_n 2, 1) := by decide +kernel
theorem dX7_of_3 : decode cX7_of 3 = .ok (.invokevirtual 89, 3) := by decide +kernel
theorem dX7_of_6 : decode cX7_of 6 = .ok (.ifCond .eq 22, 3) := by decide +kernel
theorem dX7_of_9 : decode cX7_of 9 = .ok (.iload_n 3, 1) := by decide +kernel
theorem dX7_of_10 : decode cX7_of 10 = .ok (.iconst 0, 1) := by decide +kernel
theorem dX7_of_11 : decode cX7_of 11 = .ok (.iconst 2, 1) := by decide +kernel
theorem dX7_of_12 : decode cX7_of 12 = .ok (.invokestatic 60, 3) := by decide +kernel
theorem dX7_of_15 : decode cX7_of 15 = .ok (.ifCond .eq 13, 3) := by decide +kernel
theorem dX7_of_18 : decode cX7_of 18 = .ok (.aload_n 0, 1) := by decide +kernel
theorem dX7_of_19 : decode cX7_of 19 = .ok (.iload_n 1, 1) := by decide +kernel
theorem dX7_of_20 : decode cX7_of 20 = .ok (.iload_n 2, 1) := by decide +kernel
theorem dX7_of_21 : decode cX7_of 21 = .ok (.iload_n 3, 1) := by decide +kernel
theorem dX7_of_22 : decode cX7_of 22 = .ok (.invokevirtual 93, 3) := by decide +kernel
theorem dX7_of_25 : decode cX7_of 25 = .ok (.goto 9, 3) := by decide +kernel
theorem dX7_of_28 : decode cX7_of 28 = .ok (.aload_n 0, 1) := by decide +kernel
theorem dX7_of_29 : decode cX7_of 29 = .ok (.ldc 83, 2) := by decide +kernel
theorem dX7_of_31 : decode cX7_of 31 = .ok (.invokevirtual 72, 3) := by decide +kernel
theorem dX7_of_34 : decode cX7_of 34 = .ok (.ireturn, 1) := by decide +kernel
theorem dX7_notes_0 : decode cX7_notes 0 = .ok (.iconst 0, 1) := by decide +kernel
theorem dX7_notes_1 : decode cX7_notes 1 = .ok (.istore_n 1, 1) := by decide +kernel
theorem dX7_notes_2 : decode cX7_notes 2 = .ok (.iconst 0, 1) := by decide +kernel
theorem dX7_notes_3 : decode cX7_notes 3 = .ok (.istore_n 2, 1) := by decide +kernel
theorem dX7_notes_4 : decode cX7_notes 4 = .ok (.iload_n 2, 1) := by decide +kernel
theorem dX7_notes_5 : decode cX7_notes 5 = .ok (.bipush 12, 2) := by decide +kernel
theorem dX7_notes_7 : decode cX7_notes 7 = .ok (.if_icmp .ge 20, 3) := by decide +kernel
theorem dX7_notes_10 : decode cX7_notes 10 = .ok (.iload_n 1, 1) := by decide +kernel
theorem dX7_notes_11 : decode cX7_notes 11 = .ok (.aload_n 0, 1) := by decide +kernel
theorem dX7_notes_12 : decode cX7_notes 12 = .ok (.getfield 7, 3) := by decide +kernel
theorem dX7_notes_15 : decode cX7_notes 15 = .ok (.iconst 1, 1) := by decide +kernel
theorem dX7_notes_16 : decode cX7_notes 16 = .ok (.iload_n 2, 1) := by decide +kernel
theorem dX7_notes_17 : decode cX7_notes 17 = .ok (.iadd, 1) := by decide +kernel
theorem dX7_notes_18 : decode cX7_notes 18 = .ok (.iaload, 1) := by decide +kernel
theorem dX7_notes_19 : decode cX7_notes 19 = .ok (.iadd, 1) := by decide +kernel
theorem dX7_notes_20 : decode cX7_notes 20 = .ok (.istore_n 1, 1) := by decide +kernel
theorem dX7_notes_21 : decode cX7_notes 21 = .ok (.iinc 2 1, 3) := by decide +kernel
theorem dX7_notes_24 : decode cX7_notes 24 = .ok (.goto (-20), 3) := by decide +kernel
theorem dX7_notes_27 : decode cX7_notes 27 = .ok (.iload_n 1, 1) := by decide +kernel
theorem dX7_notes_28 : decode cX7_notes 28 = .ok (.ireturn, 1) := by decide +kernel
theorem dX7_shift_0 : decode cX7_shift 0 = .ok (.iload_n 1, 1) := by decide +kernel
theorem dX7_shift_1 : decode cX7_shift 1 = .ok (.bipush (-12), 2) := by decide +kernel
theorem dX7_shift_3 : decode cX7_shift 3 = .ok (.bipush 12, 2) := by decide +kernel
theorem dX7_shift_5 : decode cX7_shift 5 = .ok (.invokestatic 60, 3) := by decide +kernel
theorem dX7_shift_8 : decode cX7_shift 8 = .ok (.ifCond .ne 10, 3) := by decide +kernel
theorem dX7_shift_11 : decode cX7_shift 11 = .ok (.aload_n 0, 1) := by decide +kernel
theorem dX7_shift_12 : decode cX7_shift 12 = .ok (.ldc 83, 2) := by decide +kernel
theorem dX7_shift_14 : decode cX7_shift 14 = .ok (.invokevirtual 72, 3) := by decide +kernel
theorem dX7_shift_17 : decode cX7_shift 17 = .ok (.ireturn, 1) := by decide +kernel
theorem dX7_shift_18 : decode cX7_shift 18 = .ok (.iconst 0, 1) := by decide +kernel
theorem dX7_shift_19 : decode cX7_shift 19 = .ok (.istore_n 2, 1) := by decide +kernel
theorem dX7_shift_20 : decode cX7_shift 20 = .ok (.iload_n 2, 1) := by decide +kernel
theorem dX7_shift_21 : decode cX7_shift 21 = .ok (.bipush 12, 2) := by decide +kernel
theorem dX7_shift_23 : decode cX7_shift 23 = .ok (.if_icmp .ge 54, 3) := by decide +kernel
theorem dX7_shift_26 : decode cX7_shift 26 = .ok (.iconst 0, 1) := by decide +kernel
theorem dX7_shift_27 : decode cX7_shift 27 = .ok (.istore_n 3, 1) := by decide +kernel
theorem dX7_shift_28 : decode cX7_shift 28 = .ok (.iload_n 3, 1) := by decide +kernel
theorem dX7_shift_29 : decode cX7_shift 29 = .ok (.aload_n 0, 1) := by decide +kernel
theorem dX7_shift_30 : decode cX7_shift 30 = .ok (.getfield 7, 3) := by decide +kernel
theorem dX7_shift_33 : decode cX7_shift 33 = .ok (.iconst 1, 1) := by decide +kernel
theorem dX7_shift_34 : decode cX7_shift 34 = .ok (.iload_n 2, 1) := by decide +kernel
theorem dX7_shift_35 : decode cX7_shift 35 = .ok (.iadd, 1) := by decide +kernel
theorem dX7_shift_36 : decode cX7_shift 36 = .ok (.iaload, 1) := by decide +kernel
theorem dX7_shift_37 : decode cX7_shift 37 = .ok (.if_icmp .ge 34, 3) := by decide +kernel
theorem dX7_shift_40 : decode cX7_shift 40 = .ok (.aload_n 0, 1) := by decide +kernel
theorem dX7_shift_41 : decode cX7_shift 41 = .ok (.iload_n 2, 1) := by decide +kernel
theorem dX7_shift_42 : decode cX7_shift 42 = .ok (.iload_n 3, 1) := by decide +kernel
theorem dX7_shift_43 : decode cX7_shift 43 = .ok (.iconst 1, 1) := by decide +kernel
theorem dX7_shift_44 : decode cX7_shift 44 = .ok (.invokevirtual 93, 3) := by decide +kernel
theorem dX7_shift_47 : decode cX7_shift 47 = .ok (.iload_n 1, 1) := by decide +kernel
theorem dX7_shift_48 : decode cX7_shift 48 = .ok (.iadd, 1) := by decide +kernel
theorem dX7_shift_49 : decode cX7_shift 49 = .ok (.iconst (-1), 1) := by decide +kernel
theorem dX7_shift_50 : decode cX7_shift 50 = .ok (.bipush 100, 2) := by decide +kernel
theorem dX7_shift_52 : decode cX7_shift 52 = .ok (.invokestatic 60, 3) := by decide +kernel
theorem dX7_shift_55 : decode cX7_shift 55 = .ok (.ifCond .ne 10, 3) := by decide +kernel
theorem dX7_shift_58 : decode cX7_shift 58 = .ok (.aload_n 0, 1) := by decide +kernel
theorem dX7_shift_59 : decode cX7_shift 59 = .ok (.ldc 98, 2) := by decide +kernel
theorem dX7_shift_61 : decode cX7_shift 61 = .ok (.invokevirtual 72, 3) := by decide +kernel
theorem dX7_shift_64 : decode cX7_shift 64 = .ok (.ireturn, 1) := by decide +kernel
theorem dX7_shift_65 : decode cX7_shift 65 = .ok (.iinc 3 1, 3) := by decide +kernel
theorem dX7_shift_68 : decode cX7_shift 68 = .ok (.goto (-40), 3) := by decide +kernel
theorem dX7_shift_71 : decode cX7_shift 71 = .ok (.iinc 2 1, 3) := by decide +kernel
theorem dX7_shift_74 : decode cX7_shift 74 = .ok (.goto (-54), 3) := by decide +kernel
theorem dX7_shift_77 : decode cX7_shift 77 = .ok (.aload_n 0, 1) := by decide +kernel
theorem dX7_shift_78 : decode cX7_shift 78 = .ok (.invokevirtual 76, 3) := by decide +kernel
theorem dX7_shift_81 : decode cX7_shift 81 = .ok (.iconst 0, 1) := by decide +kernel
theorem dX7_shift_82 : decode cX7_shift 82 = .ok (.istore_n 2, 1) := by decide +kernel
theorem dX7_shift_83 : decode cX7_shift 83 = .ok (.iload_n 2, 1) := by decide +kernel
theorem dX7_shift_84 : decode cX7_shift 84 = .ok (.bipush 12, 2) := by decide +kernel
theorem dX7_shift_86 : decode cX7_shift 86 = .ok (.if_icmp .ge 51, 3) := by decide +kernel
theorem dX7_shift_89 : decode cX7_shift 89 = .ok (.iconst 0, 1) := by decide +kernel
theorem dX7_shift_90 : decode cX7_shift 90 = .ok (.istore_n 3, 1) := by decide +kernel
theorem dX7_shift_91 : decode cX7_shift 91 = .ok (.iload_n 3, 1) := by decide +kernel
theorem dX7_shift_92 : decode cX7_shift 92 = .ok (.aload_n 0, 1) := by decide +kernel
theorem dX7_shift_93 : decode cX7_shift 93 = .ok (.getfield 7, 3) := by decide +kernel
theorem dX7_shift_96 : decode cX7_shift 96 = .ok (.iconst 1, 1) := by decide +kernel
theorem dX7_shift_97 : decode cX7_shift 97 = .ok (.iload_n 2, 1) := by decide +kernel
theorem dX7_shift_98 : decode cX7_shift 98 = .ok (.iadd, 1) := by decide +kernel
theorem dX7_shift_99 : decode cX7_shift 99 = .ok (.iaload, 1) := by decide +kernel
theorem dX7_shift_100 : decode cX7_shift 100 = .ok (.if_icmp .ge 31, 3) := by decide +kernel
theorem dX7_shift_103 : decode cX7_shift 103 = .ok (.aload_n 0, 1) := by decide +kernel
theorem dX7_shift_104 : decode cX7_shift 104 = .ok (.getfield 7, 3) := by decide +kernel
theorem dX7_shift_107 : decode cX7_shift 107 = .ok (.bipush 13, 2) := by decide +kernel
theorem dX7_shift_109 : decode cX7_shift 109 = .ok (.iconst 3, 1) := by decide +kernel
theorem dX7_shift_110 : decode cX7_shift 110 = .ok (.bipush 6, 2) := by decide +kernel
theorem dX7_shift_112 : decode cX7_shift 112 = .ok (.iload_n 2, 1) := by decide +kernel
theorem dX7_shift_113 : decode cX7_shift 113 = .ok (.imul, 1) := by decide +kernel
theorem dX7_shift_114 : decode cX7_shift 114 = .ok (.iload_n 3, 1) := by decide +kernel
theorem dX7_shift_115 : decode cX7_shift 115 = .ok (.iadd, 1) := by decide +kernel
theorem dX7_shift_116 : decode cX7_shift 116 = .ok (.imul, 1) := by decide +kernel
theorem dX7_shift_117 : decode cX7_shift 117 = .ok (.iadd, 1) := by decide +kernel
theorem dX7_shift_118 : decode cX7_shift 118 = .ok (.iconst 1, 1) := by decide +kernel
theorem dX7_shift_119 : decode cX7_shift 119 = .ok (.iadd, 1) := by decide +kernel
theorem dX7_shift_120 : decode cX7_shift 120 = .ok (.dup2, 1) := by decide +kernel
theorem dX7_shift_121 : decode cX7_shift 121 = .ok (.iaload, 1) := by decide +kernel
theorem dX7_shift_122 : decode cX7_shift 122 = .ok (.iload_n 1, 1) := by decide +kernel
theorem dX7_shift_123 : decode cX7_shift 123 = .ok (.iadd, 1) := by decide +kernel
theorem dX7_shift_124 : decode cX7_shift 124 = .ok (.iastore, 1) := by decide +kernel
theorem dX7_shift_125 : decode cX7_shift 125 = .ok (.iinc 3 1, 3) := by decide +kernel
theorem dX7_shift_128 : decode cX7_shift 128 = .ok (.goto (-37), 3) := by decide +kernel
theorem dX7_shift_131 : decode cX7_shift 131 = .ok (.iinc 2 1, 3) := by decide +kernel
theorem dX7_shift_134 : decode cX7_shift 134 = .ok (.goto (-51), 3) := by decide +kernel
theorem dX7_shift_137 : decode cX7_shift 137 = .ok (.aload_n 0, 1) := by decide +kernel
theorem dX7_shift_138 : decode cX7_shift 138 = .ok (.invokevirtual 99, 3) := by decide +kernel
theorem dX7_shift_141 : decode cX7_shift 141 = .ok (.ireturn, 1) := by decide +kernel
theorem dX7_mark_0 : decode cX7_mark 0 = .ok (.iload_n 1, 1) := by decide +kernel
theorem dX7_mark_1 : decode cX7_mark 1 = .ok (.invokestatic 64, 3) := by decide +kernel
theorem dX7_mark_4 : decode cX7_mark 4 = .ok (.ifCond .eq 37, 3) := by decide +kernel
theorem dX7_mark_7 : decode cX7_mark 7 = .ok (.iload_n 2, 1) := by decide +kernel
theorem dX7_mark_8 : decode cX7_mark 8 = .ok (.invokestatic 103, 3) := by decide +kernel
theorem dX7_mark_11 : decode cX7_mark 11 = .ok (.ifCond .eq 30, 3) := by decide +kernel
theorem dX7_mark_14 : decode cX7_mark 14 = .ok (.iload_n 3, 1) := by decide +kernel
theorem dX7_mark_15 : decode cX7_mark 15 = .ok (.iconst (-1), 1) := by decide +kernel
theorem dX7_mark_16 : decode cX7_mark 16 = .ok (.iconst 2, 1) := by decide +kernel
theorem dX7_mark_17 : decode cX7_mark 17 = .ok (.invokestatic 60, 3) := by decide +kernel
theorem dX7_mark_20 : decode cX7_mark 20 = .ok (.ifCond .eq 21, 3) := by decide +kernel
theorem dX7_mark_23 : decode cX7_mark 23 = .ok (.aload_n 0, 1) := by decide +kernel
theorem dX7_mark_24 : decode cX7_mark 24 = .ok (.sipush 229, 3) := by decide +kernel
theorem dX7_mark_27 : decode cX7_mark 27 = .ok (.bipush 7, 2) := by decide +kernel
theorem dX7_mark_29 : decode cX7_mark 29 = .ok (.iload_n 1, 1) := by decide +kernel
theorem dX7_mark_30 : decode cX7_mark 30 = .ok (.imul, 1) := by decide +kernel
theorem dX7_mark_31 : decode cX7_mark 31 = .ok (.iadd, 1) := by decide +kernel
theorem dX7_mark_32 : decode cX7_mark 32 = .ok (.iload_n 2, 1) := by decide +kernel
theorem dX7_mark_33 : decode cX7_mark 33 = .ok (.iadd, 1) := by decide +kernel
theorem dX7_mark_34 : decode cX7_mark 34 = .ok (.iload_n 3, 1) := by decide +kernel
theorem dX7_mark_35 : decode cX7_mark 35 = .ok (.invokevirtual 79, 3) := by decide +kernel
theorem dX7_mark_38 : decode cX7_mark 38 = .ok (.goto 9, 3) := by decide +kernel
theorem dX7_mark_41 : decode cX7_mark 41 = .ok (.aload_n 0, 1) := by decide +kernel
theorem dX7_mark_42 : decode cX7_mark 42 = .ok (.ldc 83, 2) := by decide +kernel
theorem dX7_mark_44 : decode cX7_mark 44 = .ok (.invokevirtual 72, 3) := by decide +kernel
theorem dX7_mark_47 : decode cX7_mark 47 = .ok (.ireturn, 1) := by decide +kernel
theorem dX7_start_0 : decode cX7_start 0 = .ok (.iload_n 1, 1) := by decide +kernel
theorem dX7_start_1 : decode cX7_start 1 = .ok (.invokestatic 103, 3) := by decide +kernel
theorem dX7_start_4 : decode cX7_start 4 = .ok (.ifCond .eq 25, 3) := by decide +kernel
theorem dX7_start_7 : decode cX7_start 7 = .ok (.iload_n 2, 1) := by decide +kernel
theorem dX7_start_8 : decode cX7_start 8 = .ok (.iconst (-1), 1) := by decide +kernel
theorem dX7_start_9 : decode cX7_start 9 = .ok (.iconst 2, 1) := by decide +kernel
theorem dX7_start_10 : decode cX7_start 10 = .ok (.invokestatic 60, 3) := by decide +kernel
theorem dX7_start_13 : decode cX7_start 13 = .ok (.ifCond .eq 16, 3) := by decide +kernel
theorem dX7_start_16 : decode cX7_start 16 = .ok (.aload_n 0, 1) := by decide +kernel
theorem dX7_start_17 : decode cX7_start 17 = .ok (.sipush 313, 3) := by decide +kernel
theorem dX7_start_20 : decode cX7_start 20 = .ok (.iload_n 1, 1) := by decide +kernel
theorem dX7_start_21 : decode cX7_start 21 = .ok (.iadd, 1) := by decide +kernel
theorem dX7_start_22 : decode cX7_start 22 = .ok (.iload_n 2, 1) := by decide +kernel
theorem dX7_start_23 : decode cX7_start 23 = .ok (.invokevirtual 79, 3) := by decide +kernel
theorem dX7_start_26 : decode cX7_start 26 = .ok (.goto 9, 3) := by decide +kernel
theorem dX7_start_29 : decode cX7_start 29 = .ok (.aload_n 0, 1) := by decide +kernel
theorem dX7_start_30 : decode cX7_start 30 = .ok (.ldc 83, 2) := by decide +kernel
theorem dX7_start_32 : decode cX7_start 32 = .ok (.invokevirtual 72, 3) := by decide +kernel
theorem dX7_start_35 : decode cX7_start 35 = .ok (.ireturn, 1) := by decide +kernel
theorem dX7_standOf_0 : decode cX7_standOf 0 = .ok (.iload_n 0, 1) := by decide +kernel
theorem dX7_standOf_1 : decode cX7_standOf 1 = .ok (.getstatic 106, 3) := by decide +kernel
theorem dX7_standOf_4 : decode cX7_standOf 4 = .ok (.iload_n 1, 1) := by decide +kernel
theorem dX7_standOf_5 : decode cX7_standOf 5 = .ok (.iaload, 1) := by decide +kernel
theorem dX7_standOf_6 : decode cX7_standOf 6 = .ok (.idiv, 1) := by decide +kernel
theorem dX7_standOf_7 : decode cX7_standOf 7 = .ok (.iconst 3, 1) := by decide +kernel
theorem dX7_standOf_8 : decode cX7_standOf 8 = .ok (.irem, 1) := by decide +kernel
theorem dX7_standOf_9 : decode cX7_standOf 9 = .ok (.ireturn, 1) := by decide +kernel
theorem dX7_pitchOf_0 : decode cX7_pitchOf 0 = .ok (.bipush 12, 2) := by decide +kernel
theorem dX7_pitchOf_2 : decode cX7_pitchOf 2 = .ok (.iload_n 0, 1) := by decide +kernel
theorem dX7_pitchOf_3 : decode cX7_pitchOf 3 = .ok (.bipush 7, 2) := by decide +kernel
theorem dX7_pitchOf_5 : decode cX7_pitchOf 5 = .ok (.idiv, 1) := by decide +kernel
theorem dX7_pitchOf_6 : decode cX7_pitchOf 6 = .ok (.imul, 1) := by decide +kernel
theorem dX7_pitchOf_7 : decode cX7_pitchOf 7 = .ok (.getstatic 109, 3) := by decide +kernel
theorem dX7_pitchOf_10 : decode cX7_pitchOf 10 = .ok (.iload_n 0, 1) := by decide +kernel
theorem dX7_pitchOf_11 : decode cX7_pitchOf 11 = .ok (.bipush 7, 2) := by decide +kernel
theorem dX7_pitchOf_13 : decode cX7_pitchOf 13 = .ok (.irem, 1) := by decide +kernel
theorem dX7_pitchOf_14 : decode cX7_pitchOf 14 = .ok (.iaload, 1) := by decide +kernel
theorem dX7_pitchOf_15 : decode cX7_pitchOf 15 = .ok (.iadd, 1) := by decide +kernel
theorem dX7_pitchOf_16 : decode cX7_pitchOf 16 = .ok (.iload_n 1, 1) := by decide +kernel
theorem dX7_pitchOf_17 : decode cX7_pitchOf 17 = .ok (.iload_n 0, 1) := by decide +kernel
theorem dX7_pitchOf_18 : decode cX7_pitchOf 18 = .ok (.bipush 7, 2) := by decide +kernel
theorem dX7_pitchOf_20 : decode cX7_pitchOf 20 = .ok (.irem, 1) := by decide +kernel
theorem dX7_pitchOf_21 : decode cX7_pitchOf 21 = .ok (.invokestatic 112, 3) := by decide +kernel
theorem dX7_pitchOf_24 : decode cX7_pitchOf 24 = .ok (.iadd, 1) := by decide +kernel
theorem dX7_pitchOf_25 : decode cX7_pitchOf 25 = .ok (.iconst 1, 1) := by decide +kernel
theorem dX7_pitchOf_26 : decode cX7_pitchOf 26 = .ok (.isub, 1) := by decide +kernel
theorem dX7_pitchOf_27 : decode cX7_pitchOf 27 = .ok (.ireturn, 1) := by decide +kernel
theorem dX7_pitch_0 : decode cX7_pitch 0 = .ok (.iload_n 1, 1) := by decide +kernel
theorem dX7_pitch_1 : decode cX7_pitch 1 = .ok (.iconst 0, 1) := by decide +kernel
theorem dX7_pitch_2 : decode cX7_pitch 2 = .ok (.bipush 41, 2) := by decide +kernel
theorem dX7_pitch_4 : decode cX7_pitch 4 = .ok (.invokestatic 60, 3) := by decide +kernel
theorem dX7_pitch_7 : decode cX7_pitch 7 = .ok (.ifCond .eq 18, 3) := by decide +kernel
theorem dX7_pitch_10 : decode cX7_pitch 10 = .ok (.iload_n 2, 1) := by decide +kernel
theorem dX7_pitch_11 : decode cX7_pitch 11 = .ok (.invokestatic 115, 3) := by decide +kernel
theorem dX7_pitch_14 : decode cX7_pitch 14 = .ok (.ifCond .eq 11, 3) := by decide +kernel
theorem dX7_pitch_17 : decode cX7_pitch 17 = .ok (.iload_n 1, 1) := by decide +kernel
theorem dX7_pitch_18 : decode cX7_pitch 18 = .ok (.iload_n 2, 1) := by decide +kernel
theorem dX7_pitch_19 : decode cX7_pitch 19 = .ok (.invokestatic 118, 3) := by decide +kernel
theorem dX7_pitch_22 : decode cX7_pitch 22 = .ok (.goto 9, 3) := by decide +kernel
theorem dX7_pitch_25 : decode cX7_pitch 25 = .ok (.aload_n 0, 1) := by decide +kernel
theorem dX7_pitch_26 : decode cX7_pitch 26 = .ok (.ldc 83, 2) := by decide +kernel
theorem dX7_pitch_28 : decode cX7_pitch 28 = .ok (.invokevirtual 72, 3) := by decide +kernel
theorem dX7_pitch_31 : decode cX7_pitch 31 = .ok (.ireturn, 1) := by decide +kernel
theorem dX7_stringOf_0 : decode cX7_stringOf 0 = .ok (.aload_n 0, 1) := by decide +kernel
theorem dX7_stringOf_1 : decode cX7_stringOf 1 = .ok (.iload_n 1, 1) := by decide +kernel
theorem dX7_stringOf_2 : decode cX7_stringOf 2 = .ok (.iload_n 2, 1) := by decide +kernel
theorem dX7_stringOf_3 : decode cX7_stringOf 3 = .ok (.iconst 0, 1) := by decide +kernel
theorem dX7_stringOf_4 : decode cX7_stringOf 4 = .ok (.invokevirtual 93, 3) := by decide +kernel
theorem dX7_stringOf_7 : decode cX7_stringOf 7 = .ok (.istore 4, 2) := by decide +kernel
theorem dX7_stringOf_9 : decode cX7_stringOf 9 = .ok (.aload_n 0, 1) := by decide +kernel
theorem dX7_stringOf_10 : decode cX7_stringOf 10 = .ok (.iload_n 1, 1) := by decide +kernel
theorem dX7_stringOf_11 : decode cX7_stringOf 11 = .ok (.iload_n 2, 1) := by decide +kernel
theorem dX7_stringOf_12 : decode cX7_stringOf 12 = .ok (.iconst 1, 1) := by decide +kernel
theorem dX7_stringOf_13 : decode cX7_stringOf 13 = .ok (.invokevirtual 93, 3) := by decide +kernel
theorem dX7_stringOf_16 : decode cX7_stringOf 16 = .ok (.iload 4, 2) := by decide +kernel
theorem dX7_stringOf_18 : decode cX7_stringOf 18 = .ok (.iconst 1, 1) := by decide +kernel
theorem dX7_stringOf_19 : decode cX7_stringOf 19 = .ok (.if_icmp .ne 8, 3) := by decide +kernel
theorem dX7_stringOf_22 : decode cX7_stringOf 22 = .ok (.bipush 12, 2) := by decide +kernel
theorem dX7_stringOf_24 : decode cX7_stringOf 24 = .ok (.goto 15, 3) := by decide +kernel
theorem dX7_stringOf_27 : decode cX7_stringOf 27 = .ok (.iload 4, 2) := by decide +kernel
theorem dX7_stringOf_29 : decode cX7_stringOf 29 = .ok (.iconst 3, 1) := by decide +kernel
theorem dX7_stringOf_30 : decode cX7_stringOf 30 = .ok (.if_icmp .ne 8, 3) := by decide +kernel
theorem dX7_stringOf_33 : decode cX7_stringOf 33 = .ok (.bipush 19, 2) := by decide +kernel
theorem dX7_stringOf_35 : decode cX7_stringOf 35 = .ok (.goto 4, 3) := by decide +kernel
theorem dX7_stringOf_38 : decode cX7_stringOf 38 = .ok (.iconst 0, 1) := by decide +kernel
theorem dX7_stringOf_39 : decode cX7_stringOf 39 = .ok (.isub, 1) := by decide +kernel
theorem dX7_stringOf_40 : decode cX7_stringOf 40 = .ok (.istore 5, 2) := by decide +kernel
theorem dX7_stringOf_42 : decode cX7_stringOf 42 = .ok (.iconst (-1), 1) := by decide +kernel
theorem dX7_stringOf_43 : decode cX7_stringOf 43 = .ok (.istore 6, 2) := by decide +kernel
theorem dX7_stringOf_45 : decode cX7_stringOf 45 = .ok (.iconst 0, 1) := by decide +kernel
theorem dX7_stringOf_46 : decode cX7_stringOf 46 = .ok (.istore 7, 2) := by decide +kernel
theorem dX7_stringOf_48 : decode cX7_stringOf 48 = .ok (.iload 7, 2) := by decide +kernel
theorem dX7_stringOf_50 : decode cX7_stringOf 50 = .ok (.bipush 7, 2) := by decide +kernel
theorem dX7_stringOf_52 : decode cX7_stringOf 52 = .ok (.if_icmp .ge 77, 3) := by decide +kernel
theorem dX7_stringOf_55 : decode cX7_stringOf 55 = .ok (.iload 5, 2) := by decide +kernel
theorem dX7_stringOf_57 : decode cX7_stringOf 57 = .ok (.iload 7, 2) := by decide +kernel
theorem dX7_stringOf_59 : decode cX7_stringOf 59 = .ok (.iload_n 3, 1) := by decide +kernel
theorem dX7_stringOf_60 : decode cX7_stringOf 60 = .ok (.invokestatic 118, 3) := by decide +kernel
theorem dX7_stringOf_63 : decode cX7_stringOf 63 = .ok (.isub, 1) := by decide +kernel
theorem dX7_stringOf_64 : decode cX7_stringOf 64 = .ok (.istore 8, 2) := by decide +kernel
theorem dX7_stringOf_66 : decode cX7_stringOf 66 = .ok (.iload 8, 2) := by decide +kernel
theorem dX7_stringOf_68 : decode cX7_stringOf 68 = .ok (.ifCond .lt 55, 3) := by decide +kernel
theorem dX7_stringOf_71 : decode cX7_stringOf 71 = .ok (.iload 8, 2) := by decide +kernel
theorem dX7_stringOf_73 : decode cX7_stringOf 73 = .ok (.bipush 12, 2) := by decide +kernel
theorem dX7_stringOf_75 : decode cX7_stringOf 75 = .ok (.irem, 1) := by decide +kernel
theorem dX7_stringOf_76 : decode cX7_stringOf 76 = .ok (.ifCond .ne 47, 3) := by decide +kernel
theorem dX7_stringOf_79 : decode cX7_stringOf 79 = .ok (.iload 8, 2) := by decide +kernel
theorem dX7_stringOf_81 : decode cX7_stringOf 81 = .ok (.bipush 12, 2) := by decide +kernel
theorem dX7_stringOf_83 : decode cX7_stringOf 83 = .ok (.idiv, 1) := by decide +kernel
theorem dX7_stringOf_84 : decode cX7_stringOf 84 = .ok (.bipush 6, 2) := by decide +kernel
theorem dX7_stringOf_86 : decode cX7_stringOf 86 = .ok (.if_icmp .ge 37, 3) := by decide +kernel
theorem dX7_stringOf_89 : decode cX7_stringOf 89 = .ok (.bipush 7, 2) := by decide +kernel
theorem dX7_stringOf_91 : decode cX7_stringOf 91 = .ok (.iload 8, 2) := by decide +kernel
theorem dX7_stringOf_93 : decode cX7_stringOf 93 = .ok (.bipush 12, 2) := by decide +kernel
theorem dX7_stringOf_95 : decode cX7_stringOf 95 = .ok (.idiv, 1) := by decide +kernel
theorem dX7_stringOf_96 : decode cX7_stringOf 96 = .ok (.imul, 1) := by decide +kernel
theorem dX7_stringOf_97 : decode cX7_stringOf 97 = .ok (.iload 7, 2) := by decide +kernel
theorem dX7_stringOf_99 : decode cX7_stringOf 99 = .ok (.iadd, 1) := by decide +kernel
theorem dX7_stringOf_100 : decode cX7_stringOf 100 = .ok (.istore 9, 2) := by decide +kernel
theorem dX7_stringOf_102 : decode cX7_stringOf 102 = .ok (.iload 6, 2) := by decide +kernel
theorem dX7_stringOf_104 : decode cX7_stringOf 104 = .ok (.ifCond .lt 10, 3) := by decide +kernel
theorem dX7_stringOf_107 : decode cX7_stringOf 107 = .ok (.iload 9, 2) := by decide +kernel
theorem dX7_stringOf_109 : decode cX7_stringOf 109 = .ok (.iload 6, 2) := by decide +kernel
theorem dX7_stringOf_111 : decode cX7_stringOf 111 = .ok (.if_icmp .ge 8, 3) := by decide +kernel
theorem dX7_stringOf_114 : decode cX7_stringOf 114 = .ok (.iload 9, 2) := by decide +kernel
theorem dX7_stringOf_116 : decode cX7_stringOf 116 = .ok (.goto 5, 3) := by decide +kernel
theorem dX7_stringOf_119 : decode cX7_stringOf 119 = .ok (.iload 6, 2) := by decide +kernel
theorem dX7_stringOf_121 : decode cX7_stringOf 121 = .ok (.istore 6, 2) := by decide +kernel
theorem dX7_stringOf_123 : decode cX7_stringOf 123 = .ok (.iinc 7 1, 3) := by decide +kernel
theorem dX7_stringOf_126 : decode cX7_stringOf 126 = .ok (.goto (-78), 3) := by decide +kernel
theorem dX7_stringOf_129 : decode cX7_stringOf 129 = .ok (.iload 6, 2) := by decide +kernel
theorem dX7_stringOf_131 : decode cX7_stringOf 131 = .ok (.ireturn, 1) := by decide +kernel
theorem dX7_string_0 : decode cX7_string 0 = .ok (.aload_n 0, 1) := by decide +kernel
theorem dX7_string_1 : decode cX7_string 1 = .ok (.iload_n 1, 1) := by decide +kernel
theorem dX7_string_2 : decode cX7_string 2 = .ok (.iload_n 2, 1) := by decide +kernel
theorem dX7_string_3 : decode cX7_string 3 = .ok (.invokevirtual 89, 3) := by decide +kernel
theorem dX7_string_6 : decode cX7_string 6 = .ok (.ifCond .eq 10, 3) := by decide +kernel
theorem dX7_string_9 : decode cX7_string 9 = .ok (.iload_n 3, 1) := by decide +kernel
theorem dX7_string_10 : decode cX7_string 10 = .ok (.invokestatic 115, 3) := by decide +kernel
theorem dX7_string_13 : decode cX7_string 13 = .ok (.ifCond .ne 10, 3) := by decide +kernel
theorem dX7_string_16 : decode cX7_string 16 = .ok (.aload_n 0, 1) := by decide +kernel
theorem dX7_string_17 : decode cX7_string 17 = .ok (.ldc 83, 2) := by decide +kernel
theorem dX7_string_19 : decode cX7_string 19 = .ok (.invokevirtual 72, 3) := by decide +kernel
theorem dX7_string_22 : decode cX7_string 22 = .ok (.ireturn, 1) := by decide +kernel
theorem dX7_string_23 : decode cX7_string 23 = .ok (.aload_n 0, 1) := by decide +kernel
theorem dX7_string_24 : decode cX7_string 24 = .ok (.iload_n 1, 1) := by decide +kernel
theorem dX7_string_25 : decode cX7_string 25 = .ok (.iload_n 2, 1) := by decide +kernel
theorem dX7_string_26 : decode cX7_string 26 = .ok (.iload_n 3, 1) := by decide +kernel
theorem dX7_string_27 : decode cX7_string 27 = .ok (.invokevirtual 121, 3) := by decide +kernel
theorem dX7_string_30 : decode cX7_string 30 = .ok (.istore 4, 2) := by decide +kernel
theorem dX7_string_32 : decode cX7_string 32 = .ok (.iload 4, 2) := by decide +kernel
theorem dX7_string_34 : decode cX7_string 34 = .ok (.ifCond .ge 12, 3) := by decide +kernel
theorem dX7_string_37 : decode cX7_string 37 = .ok (.aload_n 0, 1) := by decide +kernel
theorem dX7_string_38 : decode cX7_string 38 = .ok (.ldc 71, 2) := by decide +kernel
theorem dX7_string_40 : decode cX7_string 40 = .ok (.invokevirtual 72, 3) := by decide +kernel
theorem dX7_string_43 : decode cX7_string 43 = .ok (.goto 5, 3) := by decide +kernel
theorem dX7_string_46 : decode cX7_string 46 = .ok (.iload 4, 2) := by decide +kernel
theorem dX7_string_48 : decode cX7_string 48 = .ok (.ireturn, 1) := by decide +kernel
theorem dX7_doesFor_0 : decode cX7_doesFor 0 = .ok (.iconst 0, 1) := by decide +kernel
theorem dX7_doesFor_1 : decode cX7_doesFor 1 = .ok (.istore_n 3, 1) := by decide +kernel
theorem dX7_doesFor_2 : decode cX7_doesFor 2 = .ok (.iload_n 3, 1) := by decide +kernel
theorem dX7_doesFor_3 : decode cX7_doesFor 3 = .ok (.bipush 7, 2) := by decide +kernel
theorem dX7_doesFor_5 : decode cX7_doesFor 5 = .ok (.if_icmp .ge 43, 3) := by decide +kernel
theorem dX7_doesFor_8 : decode cX7_doesFor 8 = .ok (.aload_n 0, 1) := by decide +kernel
theorem dX7_doesFor_9 : decode cX7_doesFor 9 = .ok (.getfield 7, 3) := by decide +kernel
theorem dX7_doesFor_12 : decode cX7_doesFor 12 = .ok (.sipush 229, 3) := by decide +kernel
theorem dX7_doesFor_15 : decode cX7_doesFor 15 = .ok (.bipush 7, 2) := by decide +kernel
theorem dX7_doesFor_17 : decode cX7_doesFor 17 = .ok (.iload_n 1, 1) := by decide +kernel
theorem dX7_doesFor_18 : decode cX7_doesFor 18 = .ok (.imul, 1) := by decide +kernel
theorem dX7_doesFor_19 : decode cX7_doesFor 19 = .ok (.iadd, 1) := by decide +kernel
theorem dX7_doesFor_20 : decode cX7_doesFor 20 = .ok (.iload_n 3, 1) := by decide +kernel
theorem dX7_doesFor_21 : decode cX7_doesFor 21 = .ok (.iadd, 1) := by decide +kernel
theorem dX7_doesFor_22 : decode cX7_doesFor 22 = .ok (.iaload, 1) := by decide +kernel
theorem dX7_doesFor_23 : decode cX7_doesFor 23 = .ok (.istore 4, 2) := by decide +kernel
theorem dX7_doesFor_25 : decode cX7_doesFor 25 = .ok (.iload 4, 2) := by decide +kernel
theorem dX7_doesFor_27 : decode cX7_doesFor 27 = .ok (.ifCond .lt 15, 3) := by decide +kernel
theorem dX7_doesFor_30 : decode cX7_doesFor 30 = .ok (.iload 4, 2) := by decide +kernel
theorem dX7_doesFor_32 : decode cX7_doesFor 32 = .ok (.iload_n 2, 1) := by decide +kernel
theorem dX7_doesFor_33 : decode cX7_doesFor 33 = .ok (.iload_n 3, 1) := by decide +kernel
theorem dX7_doesFor_34 : decode cX7_doesFor 34 = .ok (.invokestatic 112, 3) := by decide +kernel
theorem dX7_doesFor_37 : decode cX7_doesFor 37 = .ok (.if_icmp .eq 5, 3) := by decide +kernel
theorem dX7_doesFor_40 : decode cX7_doesFor 40 = .ok (.iconst 0, 1) := by decide +kernel
theorem dX7_doesFor_41 : decode cX7_doesFor 41 = .ok (.ireturn, 1) := by decide +kernel
theorem dX7_doesFor_42 : decode cX7_doesFor 42 = .ok (.iinc 3 1, 3) := by decide +kernel
theorem dX7_doesFor_45 : decode cX7_doesFor 45 = .ok (.goto (-43), 3) := by decide +kernel
theorem dX7_doesFor_48 : decode cX7_doesFor 48 = .ok (.lconst 0, 1) := by decide +kernel
theorem dX7_doesFor_49 : decode cX7_doesFor 49 = .ok (.lstore_n 3, 1) := by decide +kernel
theorem dX7_doesFor_50 : decode cX7_doesFor 50 = .ok (.iconst 0, 1) := by decide +kernel
theorem dX7_doesFor_51 : decode cX7_doesFor 51 = .ok (.istore 5, 2) := by decide +kernel
theorem dX7_doesFor_53 : decode cX7_doesFor 53 = .ok (.iload 5, 2) := by decide +kernel
theorem dX7_doesFor_55 : decode cX7_doesFor 55 = .ok (.aload_n 0, 1) := by decide +kernel
theorem dX7_doesFor_56 : decode cX7_doesFor 56 = .ok (.getfield 7, 3) := by decide +kernel
theorem dX7_doesFor_59 : decode cX7_doesFor 59 = .ok (.iconst 1, 1) := by decide +kernel
theorem dX7_doesFor_60 : decode cX7_doesFor 60 = .ok (.iload_n 1, 1) := by decide +kernel
theorem dX7_doesFor_61 : decode cX7_doesFor 61 = .ok (.iadd, 1) := by decide +kernel
theorem dX7_doesFor_62 : decode cX7_doesFor 62 = .ok (.iaload, 1) := by decide +kernel
theorem dX7_doesFor_63 : decode cX7_doesFor 63 = .ok (.if_icmp .ge 44, 3) := by decide +kernel
theorem dX7_doesFor_66 : decode cX7_doesFor 66 = .ok (.aload_n 0, 1) := by decide +kernel
theorem dX7_doesFor_67 : decode cX7_doesFor 67 = .ok (.iload_n 1, 1) := by decide +kernel
theorem dX7_doesFor_68 : decode cX7_doesFor 68 = .ok (.iload 5, 2) := by decide +kernel
theorem dX7_doesFor_70 : decode cX7_doesFor 70 = .ok (.iload_n 2, 1) := by decide +kernel
theorem dX7_doesFor_71 : decode cX7_doesFor 71 = .ok (.invokevirtual 121, 3) := by decide +kernel
theorem dX7_doesFor_74 : decode cX7_doesFor 74 = .ok (.istore 6, 2) := by decide +kernel
theorem dX7_doesFor_76 : decode cX7_doesFor 76 = .ok (.iload 6, 2) := by decide +kernel
theorem dX7_doesFor_78 : decode cX7_doesFor 78 = .ok (.ifCond .lt 14, 3) := by decide +kernel
theorem dX7_doesFor_81 : decode cX7_doesFor 81 = .ok (.lload_n 3, 1) := by decide +kernel
theorem dX7_doesFor_82 : decode cX7_doesFor 82 = .ok (.iload 6, 2) := by decide +kernel
theorem dX7_doesFor_84 : decode cX7_doesFor 84 = .ok (.lshr, 1) := by decide +kernel
theorem dX7_doesFor_85 : decode cX7_doesFor 85 = .ok (.lconst 1, 1) := by decide +kernel
theorem dX7_doesFor_86 : decode cX7_doesFor 86 = .ok (.land, 1) := by decide +kernel
theorem dX7_doesFor_87 : decode cX7_doesFor 87 = .ok (.lconst 1, 1) := by decide +kernel
theorem dX7_doesFor_88 : decode cX7_doesFor 88 = .ok (.lcmp, 1) := by decide +kernel
theorem dX7_doesFor_89 : decode cX7_doesFor 89 = .ok (.ifCond .ne 5, 3) := by decide +kernel
theorem dX7_doesFor_92 : decode cX7_doesFor 92 = .ok (.iconst 0, 1) := by decide +kernel
theorem dX7_doesFor_93 : decode cX7_doesFor 93 = .ok (.ireturn, 1) := by decide +kernel
theorem dX7_doesFor_94 : decode cX7_doesFor 94 = .ok (.lload_n 3, 1) := by decide +kernel
theorem dX7_doesFor_95 : decode cX7_doesFor 95 = .ok (.lconst 1, 1) := by decide +kernel
theorem dX7_doesFor_96 : decode cX7_doesFor 96 = .ok (.iload 6, 2) := by decide +kernel
theorem dX7_doesFor_98 : decode cX7_doesFor 98 = .ok (.lshl, 1) := by decide +kernel
theorem dX7_doesFor_99 : decode cX7_doesFor 99 = .ok (.lor, 1) := by decide +kernel
theorem dX7_doesFor_100 : decode cX7_doesFor 100 = .ok (.lstore_n 3, 1) := by decide +kernel
theorem dX7_doesFor_101 : decode cX7_doesFor 101 = .ok (.iinc 5 1, 3) := by decide +kernel
theorem dX7_doesFor_104 : decode cX7_doesFor 104 = .ok (.goto (-51), 3) := by decide +kernel
theorem dX7_doesFor_107 : decode cX7_doesFor 107 = .ok (.iconst 1, 1) := by decide +kernel
theorem dX7_doesFor_108 : decode cX7_doesFor 108 = .ok (.ireturn, 1) := by decide +kernel
theorem dX7_does_0 : decode cX7_does 0 = .ok (.iload_n 1, 1) := by decide +kernel
theorem dX7_does_1 : decode cX7_does 1 = .ok (.invokestatic 64, 3) := by decide +kernel
theorem dX7_does_4 : decode cX7_does 4 = .ok (.ifCond .eq 27, 3) := by decide +kernel
theorem dX7_does_7 : decode cX7_does 7 = .ok (.iload_n 2, 1) := by decide +kernel
theorem dX7_does_8 : decode cX7_does 8 = .ok (.invokestatic 115, 3) := by decide +kernel
theorem dX7_does_11 : decode cX7_does 11 = .ok (.ifCond .eq 20, 3) := by decide +kernel
theorem dX7_does_14 : decode cX7_does 14 = .ok (.aload_n 0, 1) := by decide +kernel
theorem dX7_does_15 : decode cX7_does 15 = .ok (.iload_n 1, 1) := by decide +kernel
theorem dX7_does_16 : decode cX7_does 16 = .ok (.iload_n 2, 1) := by decide +kernel
theorem dX7_does_17 : decode cX7_does 17 = .ok (.invokevirtual 124, 3) := by decide +kernel
theorem dX7_does_20 : decode cX7_does 20 = .ok (.ifCond .eq 7, 3) := by decide +kernel
theorem dX7_does_23 : decode cX7_does 23 = .ok (.iconst 1, 1) := by decide +kernel
theorem dX7_does_24 : decode cX7_does 24 = .ok (.goto 13, 3) := by decide +kernel
theorem dX7_does_27 : decode cX7_does 27 = .ok (.iconst 0, 1) := by decide +kernel
theorem dX7_does_28 : decode cX7_does 28 = .ok (.goto 9, 3) := by decide +kernel
theorem dX7_does_31 : decode cX7_does 31 = .ok (.aload_n 0, 1) := by decide +kernel
theorem dX7_does_32 : decode cX7_does 32 = .ok (.ldc 83, 2) := by decide +kernel
theorem dX7_does_34 : decode cX7_does 34 = .ok (.invokevirtual 72, 3) := by decide +kernel
theorem dX7_does_37 : decode cX7_does 37 = .ok (.ireturn, 1) := by decide +kernel
theorem dX7_many_0 : decode cX7_many 0 = .ok (.iload_n 1, 1) := by decide +kernel
theorem dX7_many_1 : decode cX7_many 1 = .ok (.invokestatic 64, 3) := by decide +kernel
theorem dX7_many_4 : decode cX7_many 4 = .ok (.ifCond .ne 10, 3) := by decide +kernel
theorem dX7_many_7 : decode cX7_many 7 = .ok (.aload_n 0, 1) := by decide +kernel
theorem dX7_many_8 : decode cX7_many 8 = .ok (.ldc 83, 2) := by decide +kernel
theorem dX7_many_10 : decode cX7_many 10 = .ok (.invokevirtual 72, 3) := by decide +kernel
theorem dX7_many_13 : decode cX7_many 13 = .ok (.ireturn, 1) := by decide +kernel
theorem dX7_many_14 : decode cX7_many 14 = .ok (.iconst 0, 1) := by decide +kernel
theorem dX7_many_15 : decode cX7_many 15 = .ok (.istore_n 2, 1) := by decide +kernel
theorem dX7_many_16 : decode cX7_many 16 = .ok (.iconst 0, 1) := by decide +kernel
theorem dX7_many_17 : decode cX7_many 17 = .ok (.istore_n 3, 1) := by decide +kernel
theorem dX7_many_18 : decode cX7_many 18 = .ok (.iload_n 3, 1) := by decide +kernel
theorem dX7_many_19 : decode cX7_many 19 = .ok (.sipush 2187, 3) := by decide +kernel
theorem dX7_many_22 : decode cX7_many 22 = .ok (.if_icmp .ge 26, 3) := by decide +kernel
theorem dX7_many_25 : decode cX7_many 25 = .ok (.iload_n 2, 1) := by decide +kernel
theorem dX7_many_26 : decode cX7_many 26 = .ok (.aload_n 0, 1) := by decide +kernel
theorem dX7_many_27 : decode cX7_many 27 = .ok (.iload_n 1, 1) := by decide +kernel
theorem dX7_many_28 : decode cX7_many 28 = .ok (.iload_n 3, 1) := by decide +kernel
theorem dX7_many_29 : decode cX7_many 29 = .ok (.invokevirtual 124, 3) := by decide +kernel
theorem dX7_many_32 : decode cX7_many 32 = .ok (.ifCond .eq 7, 3) := by decide +kernel
theorem dX7_many_35 : decode cX7_many 35 = .ok (.iconst 1, 1) := by decide +kernel
theorem dX7_many_36 : decode cX7_many 36 = .ok (.goto 4, 3) := by decide +kernel
theorem dX7_many_39 : decode cX7_many 39 = .ok (.iconst 0, 1) := by decide +kernel
theorem dX7_many_40 : decode cX7_many 40 = .ok (.iadd, 1) := by decide +kernel
theorem dX7_many_41 : decode cX7_many 41 = .ok (.istore_n 2, 1) := by decide +kernel
theorem dX7_many_42 : decode cX7_many 42 = .ok (.iinc 3 1, 3) := by decide +kernel
theorem dX7_many_45 : decode cX7_many 45 = .ok (.goto (-27), 3) := by decide +kernel
theorem dX7_many_48 : decode cX7_many 48 = .ok (.iload_n 2, 1) := by decide +kernel
theorem dX7_many_49 : decode cX7_many 49 = .ok (.ireturn, 1) := by decide +kernel
theorem dX7_ringing_0 : decode cX7_ringing 0 = .ok (.iconst 0, 1) := by decide +kernel
theorem dX7_ringing_1 : decode cX7_ringing 1 = .ok (.istore_n 3, 1) := by decide +kernel
theorem dX7_ringing_2 : decode cX7_ringing 2 = .ok (.iconst 0, 1) := by decide +kernel
theorem dX7_ringing_3 : decode cX7_ringing 3 = .ok (.istore 4, 2) := by decide +kernel
theorem dX7_ringing_5 : decode cX7_ringing 5 = .ok (.iload 4, 2) := by decide +kernel
theorem dX7_ringing_7 : decode cX7_ringing 7 = .ok (.aload_n 0, 1) := by decide +kernel
theorem dX7_ringing_8 : decode cX7_ringing 8 = .ok (.getfield 7, 3) := by decide +kernel
theorem dX7_ringing_11 : decode cX7_ringing 11 = .ok (.iconst 1, 1) := by decide +kernel
theorem dX7_ringing_12 : decode cX7_ringing 12 = .ok (.iload_n 1, 1) := by decide +kernel
theorem dX7_ringing_13 : decode cX7_ringing 13 = .ok (.iadd, 1) := by decide +kernel
theorem dX7_ringing_14 : decode cX7_ringing 14 = .ok (.iaload, 1) := by decide +kernel
theorem dX7_ringing_15 : decode cX7_ringing 15 = .ok (.if_icmp .ge 41, 3) := by decide +kernel
theorem dX7_ringing_18 : decode cX7_ringing 18 = .ok (.iload_n 3, 1) := by decide +kernel
theorem dX7_ringing_19 : decode cX7_ringing 19 = .ok (.aload_n 0, 1) := by decide +kernel
theorem dX7_ringing_20 : decode cX7_ringing 20 = .ok (.iload_n 1, 1) := by decide +kernel
theorem dX7_ringing_21 : decode cX7_ringing 21 = .ok (.iload 4, 2) := by decide +kernel
theorem dX7_ringing_23 : decode cX7_ringing 23 = .ok (.iconst 2, 1) := by decide +kernel
theorem dX7_ringing_24 : decode cX7_ringing 24 = .ok (.invokevirtual 93, 3) := by decide +kernel
theorem dX7_ringing_27 : decode cX7_ringing 27 = .ok (.iconst 1, 1) := by decide +kernel
theorem dX7_ringing_28 : decode cX7_ringing 28 = .ok (.if_icmp .ne 19, 3) := by decide +kernel
theorem dX7_ringing_31 : decode cX7_ringing 31 = .ok (.iconst 1, 1) := by decide +kernel
theorem dX7_ringing_32 : decode cX7_ringing 32 = .ok (.aload_n 0, 1) := by decide +kernel
theorem dX7_ringing_33 : decode cX7_ringing 33 = .ok (.iload_n 1, 1) := by decide +kernel
theorem dX7_ringing_34 : decode cX7_ringing 34 = .ok (.iload 4, 2) := by decide +kernel
theorem dX7_ringing_36 : decode cX7_ringing 36 = .ok (.iload_n 2, 1) := by decide +kernel
theorem dX7_ringing_37 : decode cX7_ringing 37 = .ok (.invokevirtual 121, 3) := by decide +kernel
theorem dX7_ringing_40 : decode cX7_ringing 40 = .ok (.bipush 7, 2) := by decide +kernel
theorem dX7_ringing_42 : decode cX7_ringing 42 = .ok (.irem, 1) := by decide +kernel
theorem dX7_ringing_43 : decode cX7_ringing 43 = .ok (.ishl, 1) := by decide +kernel
theorem dX7_ringing_44 : decode cX7_ringing 44 = .ok (.goto 4, 3) := by decide +kernel
theorem dX7_ringing_47 : decode cX7_ringing 47 = .ok (.iconst 0, 1) := by decide +kernel
theorem dX7_ringing_48 : decode cX7_ringing 48 = .ok (.ior, 1) := by decide +kernel
theorem dX7_ringing_49 : decode cX7_ringing 49 = .ok (.istore_n 3, 1) := by decide +kernel
theorem dX7_ringing_50 : decode cX7_ringing 50 = .ok (.iinc 4 1, 3) := by decide +kernel
theorem dX7_ringing_53 : decode cX7_ringing 53 = .ok (.goto (-48), 3) := by decide +kernel
theorem dX7_ringing_56 : decode cX7_ringing 56 = .ok (.iload_n 3, 1) := by decide +kernel
theorem dX7_ringing_57 : decode cX7_ringing 57 = .ok (.ireturn, 1) := by decide +kernel
theorem dX7_tellNext_0 : decode cX7_tellNext 0 = .ok (.aload_n 0, 1) := by decide +kernel
theorem dX7_tellNext_1 : decode cX7_tellNext 1 = .ok (.iload_n 1, 1) := by decide +kernel
end
section
theorem dX7_tellNext_2 : decode cX7_tellNext 2 = .ok (.iload_n 2, 1) := by decide +kernel
theorem dX7_tellNext_3 : decode cX7_tellNext 3 = .ok (.invokevirtual 127, 3) := by decide +kernel
theorem dX7_tellNext_6 : decode cX7_tellNext 6 = .ok (.istore_n 3, 1) := by decide +kernel
theorem dX7_tellNext_7 : decode cX7_tellNext 7 = .ok (.aload_n 0, 1) := by decide +kernel
theorem dX7_tellNext_8 : decode cX7_tellNext 8 = .ok (.iconst 0, 1) := by decide +kernel
theorem dX7_tellNext_9 : decode cX7_tellNext 9 = .ok (.putfield 130, 3) := by decide +kernel
theorem dX7_tellNext_12 : decode cX7_tellNext 12 = .ok (.iconst 0, 1) := by decide +kernel
theorem dX7_tellNext_13 : decode cX7_tellNext 13 = .ok (.istore 4, 2) := by decide +kernel
theorem dX7_tellNext_15 : decode cX7_tellNext 15 = .ok (.iload 4, 2) := by decide +kernel
theorem dX7_tellNext_17 : decode cX7_tellNext 17 = .ok (.bipush 7, 2) := by decide +kernel
theorem dX7_tellNext_19 : decode cX7_tellNext 19 = .ok (.if_icmp .ge 158, 3) := by decide +kernel
theorem dX7_tellNext_22 : decode cX7_tellNext 22 = .ok (.iload 4, 2) := by decide +kernel
theorem dX7_tellNext_24 : decode cX7_tellNext 24 = .ok (.ifCond .ne 7, 3) := by decide +kernel
theorem dX7_tellNext_27 : decode cX7_tellNext 27 = .ok (.iload_n 2, 1) := by decide +kernel
theorem dX7_tellNext_28 : decode cX7_tellNext 28 = .ok (.goto 26, 3) := by decide +kernel
theorem dX7_tellNext_31 : decode cX7_tellNext 31 = .ok (.iload_n 2, 1) := by decide +kernel
theorem dX7_tellNext_32 : decode cX7_tellNext 32 = .ok (.getstatic 133, 3) := by decide +kernel
theorem dX7_tellNext_35 : decode cX7_tellNext 35 = .ok (.iload 4, 2) := by decide +kernel
theorem dX7_tellNext_37 : decode cX7_tellNext 37 = .ok (.iconst 1, 1) := by decide +kernel
theorem dX7_tellNext_38 : decode cX7_tellNext 38 = .ok (.isub, 1) := by decide +kernel
theorem dX7_tellNext_39 : decode cX7_tellNext 39 = .ok (.iconst 2, 1) := by decide +kernel
theorem dX7_tellNext_40 : decode cX7_tellNext 40 = .ok (.idiv, 1) := by decide +kernel
theorem dX7_tellNext_41 : decode cX7_tellNext 41 = .ok (.iaload, 1) := by decide +kernel
theorem dX7_tellNext_42 : decode cX7_tellNext 42 = .ok (.iconst 1, 1) := by decide +kernel
theorem dX7_tellNext_43 : decode cX7_tellNext 43 = .ok (.iload 4, 2) := by decide +kernel
theorem dX7_tellNext_45 : decode cX7_tellNext 45 = .ok (.iconst 1, 1) := by decide +kernel
theorem dX7_tellNext_46 : decode cX7_tellNext 46 = .ok (.isub, 1) := by decide +kernel
theorem dX7_tellNext_47 : decode cX7_tellNext 47 = .ok (.iconst 2, 1) := by decide +kernel
theorem dX7_tellNext_48 : decode cX7_tellNext 48 = .ok (.irem, 1) := by decide +kernel
theorem dX7_tellNext_49 : decode cX7_tellNext 49 = .ok (.iadd, 1) := by decide +kernel
theorem dX7_tellNext_50 : decode cX7_tellNext 50 = .ok (.iload_n 3, 1) := by decide +kernel
theorem dX7_tellNext_51 : decode cX7_tellNext 51 = .ok (.invokestatic 136, 3) := by decide +kernel
theorem dX7_tellNext_54 : decode cX7_tellNext 54 = .ok (.istore 5, 2) := by decide +kernel
theorem dX7_tellNext_56 : decode cX7_tellNext 56 = .ok (.iconst 0, 1) := by decide +kernel
theorem dX7_tellNext_57 : decode cX7_tellNext 57 = .ok (.istore 6, 2) := by decide +kernel
theorem dX7_tellNext_59 : decode cX7_tellNext 59 = .ok (.iload 6, 2) := by decide +kernel
theorem dX7_tellNext_61 : decode cX7_tellNext 61 = .ok (.bipush 9, 2) := by decide +kernel
theorem dX7_tellNext_63 : decode cX7_tellNext 63 = .ok (.if_icmp .ge 108, 3) := by decide +kernel
theorem dX7_tellNext_66 : decode cX7_tellNext 66 = .ok (.iload 5, 2) := by decide +kernel
theorem dX7_tellNext_68 : decode cX7_tellNext 68 = .ok (.ifCond .lt 103, 3) := by decide +kernel
theorem dX7_tellNext_71 : decode cX7_tellNext 71 = .ok (.iload 6, 2) := by decide +kernel
theorem dX7_tellNext_73 : decode cX7_tellNext 73 = .ok (.ifCond .ne 8, 3) := by decide +kernel
theorem dX7_tellNext_76 : decode cX7_tellNext 76 = .ok (.iload 5, 2) := by decide +kernel
theorem dX7_tellNext_78 : decode cX7_tellNext 78 = .ok (.goto 29, 3) := by decide +kernel
theorem dX7_tellNext_81 : decode cX7_tellNext 81 = .ok (.iload 5, 2) := by decide +kernel
theorem dX7_tellNext_83 : decode cX7_tellNext 83 = .ok (.getstatic 133, 3) := by decide +kernel
theorem dX7_tellNext_86 : decode cX7_tellNext 86 = .ok (.iconst 3, 1) := by decide +kernel
theorem dX7_tellNext_87 : decode cX7_tellNext 87 = .ok (.iload 6, 2) := by decide +kernel
theorem dX7_tellNext_89 : decode cX7_tellNext 89 = .ok (.iconst 1, 1) := by decide +kernel
theorem dX7_tellNext_90 : decode cX7_tellNext 90 = .ok (.isub, 1) := by decide +kernel
theorem dX7_tellNext_91 : decode cX7_tellNext 91 = .ok (.iconst 2, 1) := by decide +kernel
theorem dX7_tellNext_92 : decode cX7_tellNext 92 = .ok (.idiv, 1) := by decide +kernel
theorem dX7_tellNext_93 : decode cX7_tellNext 93 = .ok (.iadd, 1) := by decide +kernel
theorem dX7_tellNext_94 : decode cX7_tellNext 94 = .ok (.iaload, 1) := by decide +kernel
theorem dX7_tellNext_95 : decode cX7_tellNext 95 = .ok (.iconst 1, 1) := by decide +kernel
theorem dX7_tellNext_96 : decode cX7_tellNext 96 = .ok (.iload 6, 2) := by decide +kernel
theorem dX7_tellNext_98 : decode cX7_tellNext 98 = .ok (.iconst 1, 1) := by decide +kernel
theorem dX7_tellNext_99 : decode cX7_tellNext 99 = .ok (.isub, 1) := by decide +kernel
theorem dX7_tellNext_100 : decode cX7_tellNext 100 = .ok (.iconst 2, 1) := by decide +kernel
theorem dX7_tellNext_101 : decode cX7_tellNext 101 = .ok (.irem, 1) := by decide +kernel
theorem dX7_tellNext_102 : decode cX7_tellNext 102 = .ok (.iadd, 1) := by decide +kernel
theorem dX7_tellNext_103 : decode cX7_tellNext 103 = .ok (.iload_n 3, 1) := by decide +kernel
theorem dX7_tellNext_104 : decode cX7_tellNext 104 = .ok (.invokestatic 136, 3) := by decide +kernel
theorem dX7_tellNext_107 : decode cX7_tellNext 107 = .ok (.istore 7, 2) := by decide +kernel
theorem dX7_tellNext_109 : decode cX7_tellNext 109 = .ok (.iload 7, 2) := by decide +kernel
theorem dX7_tellNext_111 : decode cX7_tellNext 111 = .ok (.ifCond .lt 54, 3) := by decide +kernel
theorem dX7_tellNext_114 : decode cX7_tellNext 114 = .ok (.aload_n 0, 1) := by decide +kernel
theorem dX7_tellNext_115 : decode cX7_tellNext 115 = .ok (.getfield 31, 3) := by decide +kernel
theorem dX7_tellNext_118 : decode cX7_tellNext 118 = .ok (.aload_n 0, 1) := by decide +kernel
theorem dX7_tellNext_119 : decode cX7_tellNext 119 = .ok (.getfield 130, 3) := by decide +kernel
theorem dX7_tellNext_122 : decode cX7_tellNext 122 = .ok (.iload 7, 2) := by decide +kernel
theorem dX7_tellNext_124 : decode cX7_tellNext 124 = .ok (.iastore, 1) := by decide +kernel
theorem dX7_tellNext_125 : decode cX7_tellNext 125 = .ok (.aload_n 0, 1) := by decide +kernel
theorem dX7_tellNext_126 : decode cX7_tellNext 126 = .ok (.getfield 34, 3) := by decide +kernel
theorem dX7_tellNext_129 : decode cX7_tellNext 129 = .ok (.aload_n 0, 1) := by decide +kernel
theorem dX7_tellNext_130 : decode cX7_tellNext 130 = .ok (.getfield 130, 3) := by decide +kernel
theorem dX7_tellNext_133 : decode cX7_tellNext 133 = .ok (.iload 4, 2) := by decide +kernel
theorem dX7_tellNext_135 : decode cX7_tellNext 135 = .ok (.ifCond .ne 7, 3) := by decide +kernel
theorem dX7_tellNext_138 : decode cX7_tellNext 138 = .ok (.iconst 0, 1) := by decide +kernel
theorem dX7_tellNext_139 : decode cX7_tellNext 139 = .ok (.goto 4, 3) := by decide +kernel
theorem dX7_tellNext_142 : decode cX7_tellNext 142 = .ok (.iconst 1, 1) := by decide +kernel
theorem dX7_tellNext_143 : decode cX7_tellNext 143 = .ok (.iload 6, 2) := by decide +kernel
theorem dX7_tellNext_145 : decode cX7_tellNext 145 = .ok (.ifCond .ne 7, 3) := by decide +kernel
theorem dX7_tellNext_148 : decode cX7_tellNext 148 = .ok (.iconst 0, 1) := by decide +kernel
theorem dX7_tellNext_149 : decode cX7_tellNext 149 = .ok (.goto 4, 3) := by decide +kernel
theorem dX7_tellNext_152 : decode cX7_tellNext 152 = .ok (.iconst 1, 1) := by decide +kernel
theorem dX7_tellNext_153 : decode cX7_tellNext 153 = .ok (.iadd, 1) := by decide +kernel
theorem dX7_tellNext_154 : decode cX7_tellNext 154 = .ok (.iastore, 1) := by decide +kernel
theorem dX7_tellNext_155 : decode cX7_tellNext 155 = .ok (.aload_n 0, 1) := by decide +kernel
theorem dX7_tellNext_156 : decode cX7_tellNext 156 = .ok (.dup, 1) := by decide +kernel
theorem dX7_tellNext_157 : decode cX7_tellNext 157 = .ok (.getfield 130, 3) := by decide +kernel
theorem dX7_tellNext_160 : decode cX7_tellNext 160 = .ok (.iconst 1, 1) := by decide +kernel
theorem dX7_tellNext_161 : decode cX7_tellNext 161 = .ok (.iadd, 1) := by decide +kernel
theorem dX7_tellNext_162 : decode cX7_tellNext 162 = .ok (.putfield 130, 3) := by decide +kernel
theorem dX7_tellNext_165 : decode cX7_tellNext 165 = .ok (.iinc 6 1, 3) := by decide +kernel
theorem dX7_tellNext_168 : decode cX7_tellNext 168 = .ok (.goto (-109), 3) := by decide +kernel
theorem dX7_tellNext_171 : decode cX7_tellNext 171 = .ok (.iinc 4 1, 3) := by decide +kernel
theorem dX7_tellNext_174 : decode cX7_tellNext 174 = .ok (.goto (-159), 3) := by decide +kernel
theorem dX7_tellNext_177 : decode cX7_tellNext 177 = .ok (.return_, 1) := by decide +kernel
theorem dX7_moved_0 : decode cX7_moved 0 = .ok (.iload_n 3, 1) := by decide +kernel
theorem dX7_moved_1 : decode cX7_moved 1 = .ok (.iload_n 1, 1) := by decide +kernel
theorem dX7_moved_2 : decode cX7_moved 2 = .ok (.ishr, 1) := by decide +kernel
theorem dX7_moved_3 : decode cX7_moved 3 = .ok (.iconst 1, 1) := by decide +kernel
theorem dX7_moved_4 : decode cX7_moved 4 = .ok (.iand, 1) := by decide +kernel
theorem dX7_moved_5 : decode cX7_moved 5 = .ok (.iconst 1, 1) := by decide +kernel
theorem dX7_moved_6 : decode cX7_moved 6 = .ok (.if_icmp .ne 5, 3) := by decide +kernel
theorem dX7_moved_9 : decode cX7_moved 9 = .ok (.iconst (-1), 1) := by decide +kernel
theorem dX7_moved_10 : decode cX7_moved 10 = .ok (.ireturn, 1) := by decide +kernel
theorem dX7_moved_11 : decode cX7_moved 11 = .ok (.iload_n 0, 1) := by decide +kernel
theorem dX7_moved_12 : decode cX7_moved 12 = .ok (.iload_n 1, 1) := by decide +kernel
theorem dX7_moved_13 : decode cX7_moved 13 = .ok (.invokestatic 112, 3) := by decide +kernel
theorem dX7_moved_16 : decode cX7_moved 16 = .ok (.istore 4, 2) := by decide +kernel
theorem dX7_moved_18 : decode cX7_moved 18 = .ok (.iload_n 0, 1) := by decide +kernel
theorem dX7_moved_19 : decode cX7_moved 19 = .ok (.getstatic 106, 3) := by decide +kernel
theorem dX7_moved_22 : decode cX7_moved 22 = .ok (.iload_n 1, 1) := by decide +kernel
theorem dX7_moved_23 : decode cX7_moved 23 = .ok (.iaload, 1) := by decide +kernel
theorem dX7_moved_24 : decode cX7_moved 24 = .ok (.iload 4, 2) := by decide +kernel
theorem dX7_moved_26 : decode cX7_moved 26 = .ok (.iload_n 2, 1) := by decide +kernel
theorem dX7_moved_27 : decode cX7_moved 27 = .ok (.iadd, 1) := by decide +kernel
theorem dX7_moved_28 : decode cX7_moved 28 = .ok (.iconst 3, 1) := by decide +kernel
theorem dX7_moved_29 : decode cX7_moved 29 = .ok (.irem, 1) := by decide +kernel
theorem dX7_moved_30 : decode cX7_moved 30 = .ok (.iload 4, 2) := by decide +kernel
theorem dX7_moved_32 : decode cX7_moved 32 = .ok (.isub, 1) := by decide +kernel
theorem dX7_moved_33 : decode cX7_moved 33 = .ok (.imul, 1) := by decide +kernel
theorem dX7_moved_34 : decode cX7_moved 34 = .ok (.iadd, 1) := by decide +kernel
theorem dX7_moved_35 : decode cX7_moved 35 = .ok (.ireturn, 1) := by decide +kernel
theorem dX7_ahead_0 : decode cX7_ahead 0 = .ok (.iconst 0, 1) := by decide +kernel
theorem dX7_ahead_1 : decode cX7_ahead 1 = .ok (.istore_n 2, 1) := by decide +kernel
theorem dX7_ahead_2 : decode cX7_ahead 2 = .ok (.iconst 0, 1) := by decide +kernel
theorem dX7_ahead_3 : decode cX7_ahead 3 = .ok (.istore_n 3, 1) := by decide +kernel
theorem dX7_ahead_4 : decode cX7_ahead 4 = .ok (.iconst 0, 1) := by decide +kernel
theorem dX7_ahead_5 : decode cX7_ahead 5 = .ok (.istore 4, 2) := by decide +kernel
theorem dX7_ahead_7 : decode cX7_ahead 7 = .ok (.iload 4, 2) := by decide +kernel
theorem dX7_ahead_9 : decode cX7_ahead 9 = .ok (.bipush 7, 2) := by decide +kernel
theorem dX7_ahead_11 : decode cX7_ahead 11 = .ok (.if_icmp .ge 94, 3) := by decide +kernel
theorem dX7_ahead_14 : decode cX7_ahead 14 = .ok (.aload_n 0, 1) := by decide +kernel
theorem dX7_ahead_15 : decode cX7_ahead 15 = .ok (.getfield 7, 3) := by decide +kernel
theorem dX7_ahead_18 : decode cX7_ahead 18 = .ok (.sipush 313, 3) := by decide +kernel
theorem dX7_ahead_21 : decode cX7_ahead 21 = .ok (.iload 4, 2) := by decide +kernel
theorem dX7_ahead_23 : decode cX7_ahead 23 = .ok (.iadd, 1) := by decide +kernel
theorem dX7_ahead_24 : decode cX7_ahead 24 = .ok (.iaload, 1) := by decide +kernel
theorem dX7_ahead_25 : decode cX7_ahead 25 = .ok (.ifCond .lt 27, 3) := by decide +kernel
theorem dX7_ahead_28 : decode cX7_ahead 28 = .ok (.aload_n 0, 1) := by decide +kernel
theorem dX7_ahead_29 : decode cX7_ahead 29 = .ok (.getfield 7, 3) := by decide +kernel
theorem dX7_ahead_32 : decode cX7_ahead 32 = .ok (.sipush 313, 3) := by decide +kernel
theorem dX7_ahead_35 : decode cX7_ahead 35 = .ok (.iload 4, 2) := by decide +kernel
theorem dX7_ahead_37 : decode cX7_ahead 37 = .ok (.iadd, 1) := by decide +kernel
theorem dX7_ahead_38 : decode cX7_ahead 38 = .ok (.iaload, 1) := by decide +kernel
theorem dX7_ahead_39 : decode cX7_ahead 39 = .ok (.iload_n 1, 1) := by decide +kernel
theorem dX7_ahead_40 : decode cX7_ahead 40 = .ok (.iload 4, 2) := by decide +kernel
theorem dX7_ahead_42 : decode cX7_ahead 42 = .ok (.invokestatic 112, 3) := by decide +kernel
theorem dX7_ahead_45 : decode cX7_ahead 45 = .ok (.if_icmp .eq 7, 3) := by decide +kernel
theorem dX7_ahead_48 : decode cX7_ahead 48 = .ok (.iconst 1, 1) := by decide +kernel
theorem dX7_ahead_49 : decode cX7_ahead 49 = .ok (.goto 4, 3) := by decide +kernel
theorem dX7_ahead_52 : decode cX7_ahead 52 = .ok (.iconst 0, 1) := by decide +kernel
theorem dX7_ahead_53 : decode cX7_ahead 53 = .ok (.istore 5, 2) := by decide +kernel
theorem dX7_ahead_55 : decode cX7_ahead 55 = .ok (.iload_n 2, 1) := by decide +kernel
theorem dX7_ahead_56 : decode cX7_ahead 56 = .ok (.iload 4, 2) := by decide +kernel
theorem dX7_ahead_58 : decode cX7_ahead 58 = .ok (.bipush 6, 2) := by decide +kernel
theorem dX7_ahead_60 : decode cX7_ahead 60 = .ok (.if_icmp .eq 9, 3) := by decide +kernel
theorem dX7_ahead_63 : decode cX7_ahead 63 = .ok (.iload 4, 2) := by decide +kernel
theorem dX7_ahead_65 : decode cX7_ahead 65 = .ok (.iconst 2, 1) := by decide +kernel
theorem dX7_ahead_66 : decode cX7_ahead 66 = .ok (.if_icmp .ge 8, 3) := by decide +kernel
theorem dX7_ahead_69 : decode cX7_ahead 69 = .ok (.iload 5, 2) := by decide +kernel
theorem dX7_ahead_71 : decode cX7_ahead 71 = .ok (.goto 4, 3) := by decide +kernel
theorem dX7_ahead_74 : decode cX7_ahead 74 = .ok (.iconst 0, 1) := by decide +kernel
theorem dX7_ahead_75 : decode cX7_ahead 75 = .ok (.iadd, 1) := by decide +kernel
theorem dX7_ahead_76 : decode cX7_ahead 76 = .ok (.istore_n 2, 1) := by decide +kernel
theorem dX7_ahead_77 : decode cX7_ahead 77 = .ok (.iload_n 3, 1) := by decide +kernel
theorem dX7_ahead_78 : decode cX7_ahead 78 = .ok (.iload 4, 2) := by decide +kernel
theorem dX7_ahead_80 : decode cX7_ahead 80 = .ok (.bipush 6, 2) := by decide +kernel
theorem dX7_ahead_82 : decode cX7_ahead 82 = .ok (.if_icmp .ge 14, 3) := by decide +kernel
theorem dX7_ahead_85 : decode cX7_ahead 85 = .ok (.iload 4, 2) := by decide +kernel
theorem dX7_ahead_87 : decode cX7_ahead 87 = .ok (.iconst 1, 1) := by decide +kernel
theorem dX7_ahead_88 : decode cX7_ahead 88 = .ok (.if_icmp .le 8, 3) := by decide +kernel
theorem dX7_ahead_91 : decode cX7_ahead 91 = .ok (.iload 5, 2) := by decide +kernel
theorem dX7_ahead_93 : decode cX7_ahead 93 = .ok (.goto 4, 3) := by decide +kernel
theorem dX7_ahead_96 : decode cX7_ahead 96 = .ok (.iconst 0, 1) := by decide +kernel
theorem dX7_ahead_97 : decode cX7_ahead 97 = .ok (.iadd, 1) := by decide +kernel
theorem dX7_ahead_98 : decode cX7_ahead 98 = .ok (.istore_n 3, 1) := by decide +kernel
theorem dX7_ahead_99 : decode cX7_ahead 99 = .ok (.iinc 4 1, 3) := by decide +kernel
theorem dX7_ahead_102 : decode cX7_ahead 102 = .ok (.goto (-95), 3) := by decide +kernel
theorem dX7_ahead_105 : decode cX7_ahead 105 = .ok (.iload_n 2, 1) := by decide +kernel
theorem dX7_ahead_106 : decode cX7_ahead 106 = .ok (.iconst 1, 1) := by decide +kernel
theorem dX7_ahead_107 : decode cX7_ahead 107 = .ok (.if_icmp .gt 8, 3) := by decide +kernel
theorem dX7_ahead_110 : decode cX7_ahead 110 = .ok (.iload_n 3, 1) := by decide +kernel
theorem dX7_ahead_111 : decode cX7_ahead 111 = .ok (.iconst 1, 1) := by decide +kernel
theorem dX7_ahead_112 : decode cX7_ahead 112 = .ok (.if_icmp .le 8, 3) := by decide +kernel
theorem dX7_ahead_115 : decode cX7_ahead 115 = .ok (.ldc 140, 2) := by decide +kernel
theorem dX7_ahead_117 : decode cX7_ahead 117 = .ok (.goto 6, 3) := by decide +kernel
theorem dX7_ahead_120 : decode cX7_ahead 120 = .ok (.iload_n 2, 1) := by decide +kernel
theorem dX7_ahead_121 : decode cX7_ahead 121 = .ok (.iload_n 3, 1) := by decide +kernel
theorem dX7_ahead_122 : decode cX7_ahead 122 = .ok (.iadd, 1) := by decide +kernel
theorem dX7_ahead_123 : decode cX7_ahead 123 = .ok (.ireturn, 1) := by decide +kernel
theorem dX7_tell_0 : decode cX7_tell 0 = .ok (.aload_n 0, 1) := by decide +kernel
theorem dX7_tell_1 : decode cX7_tell 1 = .ok (.getfield 7, 3) := by decide +kernel
theorem dX7_tell_4 : decode cX7_tell 4 = .ok (.iconst 0, 1) := by decide +kernel
theorem dX7_tell_5 : decode cX7_tell 5 = .ok (.iaload, 1) := by decide +kernel
theorem dX7_tell_6 : decode cX7_tell 6 = .ok (.iconst 1, 1) := by decide +kernel
theorem dX7_tell_7 : decode cX7_tell 7 = .ok (.isub, 1) := by decide +kernel
theorem dX7_tell_8 : decode cX7_tell 8 = .ok (.istore_n 1, 1) := by decide +kernel
theorem dX7_tell_9 : decode cX7_tell 9 = .ok (.iload_n 1, 1) := by decide +kernel
theorem dX7_tell_10 : decode cX7_tell 10 = .ok (.istore_n 2, 1) := by decide +kernel
theorem dX7_tell_11 : decode cX7_tell 11 = .ok (.iload_n 2, 1) := by decide +kernel
theorem dX7_tell_12 : decode cX7_tell 12 = .ok (.ifCond .lt 228, 3) := by decide +kernel
theorem dX7_tell_15 : decode cX7_tell 15 = .ok (.iconst 0, 1) := by decide +kernel
theorem dX7_tell_16 : decode cX7_tell 16 = .ok (.istore_n 3, 1) := by decide +kernel
theorem dX7_tell_17 : decode cX7_tell 17 = .ok (.iload_n 3, 1) := by decide +kernel
theorem dX7_tell_18 : decode cX7_tell 18 = .ok (.sipush 2187, 3) := by decide +kernel
theorem dX7_tell_21 : decode cX7_tell 21 = .ok (.if_icmp .ge 213, 3) := by decide +kernel
theorem dX7_tell_24 : decode cX7_tell 24 = .ok (.aload_n 0, 1) := by decide +kernel
theorem dX7_tell_25 : decode cX7_tell 25 = .ok (.iload_n 2, 1) := by decide +kernel
theorem dX7_tell_26 : decode cX7_tell 26 = .ok (.iload_n 3, 1) := by decide +kernel
theorem dX7_tell_27 : decode cX7_tell 27 = .ok (.invokevirtual 124, 3) := by decide +kernel
theorem dX7_tell_30 : decode cX7_tell 30 = .ok (.ifCond .eq 17, 3) := by decide +kernel
theorem dX7_tell_33 : decode cX7_tell 33 = .ok (.iload_n 2, 1) := by decide +kernel
theorem dX7_tell_34 : decode cX7_tell 34 = .ok (.iload_n 1, 1) := by decide +kernel
theorem dX7_tell_35 : decode cX7_tell 35 = .ok (.if_icmp .ne 7, 3) := by decide +kernel
theorem dX7_tell_38 : decode cX7_tell 38 = .ok (.iconst 0, 1) := by decide +kernel
theorem dX7_tell_39 : decode cX7_tell 39 = .ok (.goto 10, 3) := by decide +kernel
theorem dX7_tell_42 : decode cX7_tell 42 = .ok (.ldc 140, 2) := by decide +kernel
theorem dX7_tell_44 : decode cX7_tell 44 = .ok (.goto 5, 3) := by decide +kernel
theorem dX7_tell_47 : decode cX7_tell 47 = .ok (.ldc 141, 2) := by decide +kernel
theorem dX7_tell_49 : decode cX7_tell 49 = .ok (.istore 4, 2) := by decide +kernel
theorem dX7_tell_51 : decode cX7_tell 51 = .ok (.iload 4, 2) := by decide +kernel
theorem dX7_tell_53 : decode cX7_tell 53 = .ok (.ifCond .ne 7, 3) := by decide +kernel
theorem dX7_tell_56 : decode cX7_tell 56 = .ok (.iconst 1, 1) := by decide +kernel
theorem dX7_tell_57 : decode cX7_tell 57 = .ok (.goto 4, 3) := by decide +kernel
theorem dX7_tell_60 : decode cX7_tell 60 = .ok (.iconst 0, 1) := by decide +kernel
theorem dX7_tell_61 : decode cX7_tell 61 = .ok (.istore 5, 2) := by decide +kernel
theorem dX7_tell_63 : decode cX7_tell 63 = .ok (.iload 4, 2) := by decide +kernel
theorem dX7_tell_65 : decode cX7_tell 65 = .ok (.ldc 140, 2) := by decide +kernel
theorem dX7_tell_67 : decode cX7_tell 67 = .ok (.if_icmp .ne 121, 3) := by decide +kernel
theorem dX7_tell_70 : decode cX7_tell 70 = .ok (.aload_n 0, 1) := by decide +kernel
theorem dX7_tell_71 : decode cX7_tell 71 = .ok (.iload_n 2, 1) := by decide +kernel
theorem dX7_tell_72 : decode cX7_tell 72 = .ok (.iload_n 3, 1) := by decide +kernel
theorem dX7_tell_73 : decode cX7_tell 73 = .ok (.invokevirtual 142, 3) := by decide +kernel
theorem dX7_tell_76 : decode cX7_tell 76 = .ok (.iconst 0, 1) := by decide +kernel
theorem dX7_tell_77 : decode cX7_tell 77 = .ok (.istore 6, 2) := by decide +kernel
theorem dX7_tell_79 : decode cX7_tell 79 = .ok (.iload 6, 2) := by decide +kernel
theorem dX7_tell_81 : decode cX7_tell 81 = .ok (.aload_n 0, 1) := by decide +kernel
theorem dX7_tell_82 : decode cX7_tell 82 = .ok (.getfield 130, 3) := by decide +kernel
theorem dX7_tell_85 : decode cX7_tell 85 = .ok (.if_icmp .ge 103, 3) := by decide +kernel
theorem dX7_tell_88 : decode cX7_tell 88 = .ok (.sipush 2187, 3) := by decide +kernel
theorem dX7_tell_91 : decode cX7_tell 91 = .ok (.iload_n 2, 1) := by decide +kernel
theorem dX7_tell_92 : decode cX7_tell 92 = .ok (.iconst 1, 1) := by decide +kernel
theorem dX7_tell_93 : decode cX7_tell 93 = .ok (.iadd, 1) := by decide +kernel
theorem dX7_tell_94 : decode cX7_tell 94 = .ok (.imul, 1) := by decide +kernel
theorem dX7_tell_95 : decode cX7_tell 95 = .ok (.aload_n 0, 1) := by decide +kernel
theorem dX7_tell_96 : decode cX7_tell 96 = .ok (.getfield 31, 3) := by decide +kernel
theorem dX7_tell_99 : decode cX7_tell 99 = .ok (.iload 6, 2) := by decide +kernel
theorem dX7_tell_101 : decode cX7_tell 101 = .ok (.iaload, 1) := by decide +kernel
theorem dX7_tell_102 : decode cX7_tell 102 = .ok (.iadd, 1) := by decide +kernel
theorem dX7_tell_103 : decode cX7_tell 103 = .ok (.istore 7, 2) := by decide +kernel
theorem dX7_tell_105 : decode cX7_tell 105 = .ok (.aload_n 0, 1) := by decide +kernel
theorem dX7_tell_106 : decode cX7_tell 106 = .ok (.getfield 34, 3) := by decide +kernel
theorem dX7_tell_109 : decode cX7_tell 109 = .ok (.iload 6, 2) := by decide +kernel
theorem dX7_tell_111 : decode cX7_tell 111 = .ok (.iaload, 1) := by decide +kernel
theorem dX7_tell_112 : decode cX7_tell 112 = .ok (.aload_n 0, 1) := by decide +kernel
theorem dX7_tell_113 : decode cX7_tell 113 = .ok (.getfield 25, 3) := by decide +kernel
theorem dX7_tell_116 : decode cX7_tell 116 = .ok (.iload 7, 2) := by decide +kernel
theorem dX7_tell_118 : decode cX7_tell 118 = .ok (.iaload, 1) := by decide +kernel
theorem dX7_tell_119 : decode cX7_tell 119 = .ok (.iadd, 1) := by decide +kernel
theorem dX7_tell_120 : decode cX7_tell 120 = .ok (.istore 8, 2) := by decide +kernel
theorem dX7_tell_122 : decode cX7_tell 122 = .ok (.iload 8, 2) := by decide +kernel
theorem dX7_tell_124 : decode cX7_tell 124 = .ok (.iload 4, 2) := by decide +kernel
theorem dX7_tell_126 : decode cX7_tell 126 = .ok (.if_icmp .ge 10, 3) := by decide +kernel
theorem dX7_tell_129 : decode cX7_tell 129 = .ok (.iload 8, 2) := by decide +kernel
theorem dX7_tell_131 : decode cX7_tell 131 = .ok (.istore 4, 2) := by decide +kernel
theorem dX7_tell_133 : decode cX7_tell 133 = .ok (.iconst 0, 1) := by decide +kernel
theorem dX7_tell_134 : decode cX7_tell 134 = .ok (.istore 5, 2) := by decide +kernel
theorem dX7_tell_136 : decode cX7_tell 136 = .ok (.iload 5, 2) := by decide +kernel
theorem dX7_tell_138 : decode cX7_tell 138 = .ok (.iload 8, 2) := by decide +kernel
theorem dX7_tell_140 : decode cX7_tell 140 = .ok (.iload 4, 2) := by decide +kernel
theorem dX7_tell_142 : decode cX7_tell 142 = .ok (.if_icmp .ne 20, 3) := by decide +kernel
theorem dX7_tell_145 : decode cX7_tell 145 = .ok (.iload 8, 2) := by decide +kernel
theorem dX7_tell_147 : decode cX7_tell 147 = .ok (.ldc 140, 2) := by decide +kernel
theorem dX7_tell_149 : decode cX7_tell 149 = .ok (.if_icmp .ge 13, 3) := by decide +kernel
theorem dX7_tell_152 : decode cX7_tell 152 = .ok (.aload_n 0, 1) := by decide +kernel
theorem dX7_tell_153 : decode cX7_tell 153 = .ok (.getfield 28, 3) := by decide +kernel
theorem dX7_tell_156 : decode cX7_tell 156 = .ok (.iload 7, 2) := by decide +kernel
theorem dX7_tell_158 : decode cX7_tell 158 = .ok (.iaload, 1) := by decide +kernel
theorem dX7_tell_159 : decode cX7_tell 159 = .ok (.goto 4, 3) := by decide +kernel
theorem dX7_tell_162 : decode cX7_tell 162 = .ok (.iconst 0, 1) := by decide +kernel
theorem dX7_tell_163 : decode cX7_tell 163 = .ok (.iadd, 1) := by decide +kernel
theorem dX7_tell_164 : decode cX7_tell 164 = .ok (.istore 5, 2) := by decide +kernel
theorem dX7_tell_166 : decode cX7_tell 166 = .ok (.iload 5, 2) := by decide +kernel
theorem dX7_tell_168 : decode cX7_tell 168 = .ok (.ldc 146, 2) := by decide +kernel
theorem dX7_tell_170 : decode cX7_tell 170 = .ok (.if_icmp .le 8, 3) := by decide +kernel
theorem dX7_tell_173 : decode cX7_tell 173 = .ok (.ldc 146, 2) := by decide +kernel
theorem dX7_tell_175 : decode cX7_tell 175 = .ok (.goto 5, 3) := by decide +kernel
theorem dX7_tell_178 : decode cX7_tell 178 = .ok (.iload 5, 2) := by decide +kernel
theorem dX7_tell_180 : decode cX7_tell 180 = .ok (.istore 5, 2) := by decide +kernel
theorem dX7_tell_182 : decode cX7_tell 182 = .ok (.iinc 6 1, 3) := by decide +kernel
theorem dX7_tell_185 : decode cX7_tell 185 = .ok (.goto (-106), 3) := by decide +kernel
theorem dX7_tell_188 : decode cX7_tell 188 = .ok (.aload_n 0, 1) := by decide +kernel
theorem dX7_tell_189 : decode cX7_tell 189 = .ok (.getfield 25, 3) := by decide +kernel
theorem dX7_tell_192 : decode cX7_tell 192 = .ok (.sipush 2187, 3) := by decide +kernel
theorem dX7_tell_195 : decode cX7_tell 195 = .ok (.iload_n 2, 1) := by decide +kernel
theorem dX7_tell_196 : decode cX7_tell 196 = .ok (.imul, 1) := by decide +kernel
theorem dX7_tell_197 : decode cX7_tell 197 = .ok (.iload_n 3, 1) := by decide +kernel
theorem dX7_tell_198 : decode cX7_tell 198 = .ok (.iadd, 1) := by decide +kernel
theorem dX7_tell_199 : decode cX7_tell 199 = .ok (.iload 4, 2) := by decide +kernel
theorem dX7_tell_201 : decode cX7_tell 201 = .ok (.ldc 140, 2) := by decide +kernel
theorem dX7_tell_203 : decode cX7_tell 203 = .ok (.if_icmp .le 8, 3) := by decide +kernel
theorem dX7_tell_206 : decode cX7_tell 206 = .ok (.ldc 140, 2) := by decide +kernel
theorem dX7_tell_208 : decode cX7_tell 208 = .ok (.goto 5, 3) := by decide +kernel
theorem dX7_tell_211 : decode cX7_tell 211 = .ok (.iload 4, 2) := by decide +kernel
theorem dX7_tell_213 : decode cX7_tell 213 = .ok (.iastore, 1) := by decide +kernel
theorem dX7_tell_214 : decode cX7_tell 214 = .ok (.aload_n 0, 1) := by decide +kernel
theorem dX7_tell_215 : decode cX7_tell 215 = .ok (.getfield 28, 3) := by decide +kernel
theorem dX7_tell_218 : decode cX7_tell 218 = .ok (.sipush 2187, 3) := by decide +kernel
theorem dX7_tell_221 : decode cX7_tell 221 = .ok (.iload_n 2, 1) := by decide +kernel
theorem dX7_tell_222 : decode cX7_tell 222 = .ok (.imul, 1) := by decide +kernel
theorem dX7_tell_223 : decode cX7_tell 223 = .ok (.iload_n 3, 1) := by decide +kernel
theorem dX7_tell_224 : decode cX7_tell 224 = .ok (.iadd, 1) := by decide +kernel
theorem dX7_tell_225 : decode cX7_tell 225 = .ok (.iload 5, 2) := by decide +kernel
theorem dX7_tell_227 : decode cX7_tell 227 = .ok (.iastore, 1) := by decide +kernel
theorem dX7_tell_228 : decode cX7_tell 228 = .ok (.iinc 3 1, 3) := by decide +kernel
theorem dX7_tell_231 : decode cX7_tell 231 = .ok (.goto (-214), 3) := by decide +kernel
theorem dX7_tell_234 : decode cX7_tell 234 = .ok (.iinc 2 (-1), 3) := by decide +kernel
theorem dX7_tell_237 : decode cX7_tell 237 = .ok (.goto (-226), 3) := by decide +kernel
theorem dX7_tell_240 : decode cX7_tell 240 = .ok (.ldc 140, 2) := by decide +kernel
theorem dX7_tell_242 : decode cX7_tell 242 = .ok (.istore_n 2, 1) := by decide +kernel
theorem dX7_tell_243 : decode cX7_tell 243 = .ok (.iconst 0, 1) := by decide +kernel
theorem dX7_tell_244 : decode cX7_tell 244 = .ok (.istore_n 3, 1) := by decide +kernel
theorem dX7_tell_245 : decode cX7_tell 245 = .ok (.iload_n 3, 1) := by decide +kernel
theorem dX7_tell_246 : decode cX7_tell 246 = .ok (.sipush 2187, 3) := by decide +kernel
theorem dX7_tell_249 : decode cX7_tell 249 = .ok (.if_icmp .ge 36, 3) := by decide +kernel
theorem dX7_tell_252 : decode cX7_tell 252 = .ok (.aload_n 0, 1) := by decide +kernel
theorem dX7_tell_253 : decode cX7_tell 253 = .ok (.iload_n 3, 1) := by decide +kernel
theorem dX7_tell_254 : decode cX7_tell 254 = .ok (.invokevirtual 147, 3) := by decide +kernel
theorem dX7_tell_257 : decode cX7_tell 257 = .ok (.aload_n 0, 1) := by decide +kernel
theorem dX7_tell_258 : decode cX7_tell 258 = .ok (.getfield 25, 3) := by decide +kernel
theorem dX7_tell_261 : decode cX7_tell 261 = .ok (.iload_n 3, 1) := by decide +kernel
theorem dX7_tell_262 : decode cX7_tell 262 = .ok (.iaload, 1) := by decide +kernel
theorem dX7_tell_263 : decode cX7_tell 263 = .ok (.iadd, 1) := by decide +kernel
theorem dX7_tell_264 : decode cX7_tell 264 = .ok (.istore 4, 2) := by decide +kernel
theorem dX7_tell_266 : decode cX7_tell 266 = .ok (.iload 4, 2) := by decide +kernel
theorem dX7_tell_268 : decode cX7_tell 268 = .ok (.iload_n 2, 1) := by decide +kernel
theorem dX7_tell_269 : decode cX7_tell 269 = .ok (.if_icmp .ge 8, 3) := by decide +kernel
theorem dX7_tell_272 : decode cX7_tell 272 = .ok (.iload 4, 2) := by decide +kernel
theorem dX7_tell_274 : decode cX7_tell 274 = .ok (.goto 4, 3) := by decide +kernel
theorem dX7_tell_277 : decode cX7_tell 277 = .ok (.iload_n 2, 1) := by decide +kernel
theorem dX7_tell_278 : decode cX7_tell 278 = .ok (.istore_n 2, 1) := by decide +kernel
theorem dX7_tell_279 : decode cX7_tell 279 = .ok (.iinc 3 1, 3) := by decide +kernel
theorem dX7_tell_282 : decode cX7_tell 282 = .ok (.goto (-37), 3) := by decide +kernel
theorem dX7_tell_285 : decode cX7_tell 285 = .ok (.iload_n 2, 1) := by decide +kernel
theorem dX7_tell_286 : decode cX7_tell 286 = .ok (.ireturn, 1) := by decide +kernel
theorem dX7_tellWay_0 : decode cX7_tellWay 0 = .ok (.aload_n 0, 1) := by decide +kernel
theorem dX7_tellWay_1 : decode cX7_tellWay 1 = .ok (.invokevirtual 150, 3) := by decide +kernel
theorem dX7_tellWay_4 : decode cX7_tellWay 4 = .ok (.istore_n 1, 1) := by decide +kernel
theorem dX7_tellWay_5 : decode cX7_tellWay 5 = .ok (.iload_n 1, 1) := by decide +kernel
theorem dX7_tellWay_6 : decode cX7_tellWay 6 = .ok (.ldc 140, 2) := by decide +kernel
theorem dX7_tellWay_8 : decode cX7_tellWay 8 = .ok (.if_icmp .ne 5, 3) := by decide +kernel
theorem dX7_tellWay_11 : decode cX7_tellWay 11 = .ok (.iload_n 1, 1) := by decide +kernel
theorem dX7_tellWay_12 : decode cX7_tellWay 12 = .ok (.ireturn, 1) := by decide +kernel
theorem dX7_tellWay_13 : decode cX7_tellWay 13 = .ok (.iconst 0, 1) := by decide +kernel
theorem dX7_tellWay_14 : decode cX7_tellWay 14 = .ok (.istore_n 2, 1) := by decide +kernel
theorem dX7_tellWay_15 : decode cX7_tellWay 15 = .ok (.aload_n 0, 1) := by decide +kernel
theorem dX7_tellWay_16 : decode cX7_tellWay 16 = .ok (.iload_n 2, 1) := by decide +kernel
theorem dX7_tellWay_17 : decode cX7_tellWay 17 = .ok (.invokevirtual 147, 3) := by decide +kernel
theorem dX7_tellWay_20 : decode cX7_tellWay 20 = .ok (.aload_n 0, 1) := by decide +kernel
theorem dX7_tellWay_21 : decode cX7_tellWay 21 = .ok (.getfield 25, 3) := by decide +kernel
theorem dX7_tellWay_24 : decode cX7_tellWay 24 = .ok (.iload_n 2, 1) := by decide +kernel
theorem dX7_tellWay_25 : decode cX7_tellWay 25 = .ok (.iaload, 1) := by decide +kernel
theorem dX7_tellWay_26 : decode cX7_tellWay 26 = .ok (.iadd, 1) := by decide +kernel
theorem dX7_tellWay_27 : decode cX7_tellWay 27 = .ok (.iload_n 1, 1) := by decide +kernel
theorem dX7_tellWay_28 : decode cX7_tellWay 28 = .ok (.if_icmp .eq 9, 3) := by decide +kernel
theorem dX7_tellWay_31 : decode cX7_tellWay 31 = .ok (.iinc 2 1, 3) := by decide +kernel
theorem dX7_tellWay_34 : decode cX7_tellWay 34 = .ok (.goto (-19), 3) := by decide +kernel
theorem dX7_tellWay_37 : decode cX7_tellWay 37 = .ok (.aload_n 0, 1) := by decide +kernel
theorem dX7_tellWay_38 : decode cX7_tellWay 38 = .ok (.getfield 37, 3) := by decide +kernel
theorem dX7_tellWay_41 : decode cX7_tellWay 41 = .ok (.iconst 0, 1) := by decide +kernel
theorem dX7_tellWay_42 : decode cX7_tellWay 42 = .ok (.iload_n 2, 1) := by decide +kernel
theorem dX7_tellWay_43 : decode cX7_tellWay 43 = .ok (.iastore, 1) := by decide +kernel
theorem dX7_tellWay_44 : decode cX7_tellWay 44 = .ok (.iconst 1, 1) := by decide +kernel
theorem dX7_tellWay_45 : decode cX7_tellWay 45 = .ok (.istore_n 3, 1) := by decide +kernel
theorem dX7_tellWay_46 : decode cX7_tellWay 46 = .ok (.iload_n 3, 1) := by decide +kernel
theorem dX7_tellWay_47 : decode cX7_tellWay 47 = .ok (.aload_n 0, 1) := by decide +kernel
theorem dX7_tellWay_48 : decode cX7_tellWay 48 = .ok (.getfield 7, 3) := by decide +kernel
theorem dX7_tellWay_51 : decode cX7_tellWay 51 = .ok (.iconst 0, 1) := by decide +kernel
theorem dX7_tellWay_52 : decode cX7_tellWay 52 = .ok (.iaload, 1) := by decide +kernel
theorem dX7_tellWay_53 : decode cX7_tellWay 53 = .ok (.if_icmp .ge 143, 3) := by decide +kernel
theorem dX7_tellWay_56 : decode cX7_tellWay 56 = .ok (.aload_n 0, 1) := by decide +kernel
theorem dX7_tellWay_57 : decode cX7_tellWay 57 = .ok (.iload_n 3, 1) := by decide +kernel
theorem dX7_tellWay_58 : decode cX7_tellWay 58 = .ok (.iconst 1, 1) := by decide +kernel
theorem dX7_tellWay_59 : decode cX7_tellWay 59 = .ok (.isub, 1) := by decide +kernel
theorem dX7_tellWay_60 : decode cX7_tellWay 60 = .ok (.aload_n 0, 1) := by decide +kernel
theorem dX7_tellWay_61 : decode cX7_tellWay 61 = .ok (.getfield 37, 3) := by decide +kernel
theorem dX7_tellWay_64 : decode cX7_tellWay 64 = .ok (.iload_n 3, 1) := by decide +kernel
theorem dX7_tellWay_65 : decode cX7_tellWay 65 = .ok (.iconst 1, 1) := by decide +kernel
theorem dX7_tellWay_66 : decode cX7_tellWay 66 = .ok (.isub, 1) := by decide +kernel
theorem dX7_tellWay_67 : decode cX7_tellWay 67 = .ok (.iaload, 1) := by decide +kernel
theorem dX7_tellWay_68 : decode cX7_tellWay 68 = .ok (.invokevirtual 142, 3) := by decide +kernel
theorem dX7_tellWay_71 : decode cX7_tellWay 71 = .ok (.sipush 2187, 3) := by decide +kernel
theorem dX7_tellWay_74 : decode cX7_tellWay 74 = .ok (.istore 4, 2) := by decide +kernel
theorem dX7_tellWay_76 : decode cX7_tellWay 76 = .ok (.iconst 0, 1) := by decide +kernel
theorem dX7_tellWay_77 : decode cX7_tellWay 77 = .ok (.istore 5, 2) := by decide +kernel
theorem dX7_tellWay_79 : decode cX7_tellWay 79 = .ok (.iload 5, 2) := by decide +kernel
theorem dX7_tellWay_81 : decode cX7_tellWay 81 = .ok (.aload_n 0, 1) := by decide +kernel
theorem dX7_tellWay_82 : decode cX7_tellWay 82 = .ok (.getfield 130, 3) := by decide +kernel
theorem dX7_tellWay_85 : decode cX7_tellWay 85 = .ok (.if_icmp .ge 97, 3) := by decide +kernel
theorem dX7_tellWay_88 : decode cX7_tellWay 88 = .ok (.aload_n 0, 1) := by decide +kernel
theorem dX7_tellWay_89 : decode cX7_tellWay 89 = .ok (.getfield 34, 3) := by decide +kernel
theorem dX7_tellWay_92 : decode cX7_tellWay 92 = .ok (.iload 5, 2) := by decide +kernel
theorem dX7_tellWay_94 : decode cX7_tellWay 94 = .ok (.iaload, 1) := by decide +kernel
theorem dX7_tellWay_95 : decode cX7_tellWay 95 = .ok (.aload_n 0, 1) := by decide +kernel
theorem dX7_tellWay_96 : decode cX7_tellWay 96 = .ok (.getfield 25, 3) := by decide +kernel
theorem dX7_tellWay_99 : decode cX7_tellWay 99 = .ok (.sipush 2187, 3) := by decide +kernel
theorem dX7_tellWay_102 : decode cX7_tellWay 102 = .ok (.iload_n 3, 1) := by decide +kernel
theorem dX7_tellWay_103 : decode cX7_tellWay 103 = .ok (.imul, 1) := by decide +kernel
theorem dX7_tellWay_104 : decode cX7_tellWay 104 = .ok (.aload_n 0, 1) := by decide +kernel
theorem dX7_tellWay_105 : decode cX7_tellWay 105 = .ok (.getfield 31, 3) := by decide +kernel
theorem dX7_tellWay_108 : decode cX7_tellWay 108 = .ok (.iload 5, 2) := by decide +kernel
theorem dX7_tellWay_110 : decode cX7_tellWay 110 = .ok (.iaload, 1) := by decide +kernel
theorem dX7_tellWay_111 : decode cX7_tellWay 111 = .ok (.iadd, 1) := by decide +kernel
theorem dX7_tellWay_112 : decode cX7_tellWay 112 = .ok (.iaload, 1) := by decide +kernel
theorem dX7_tellWay_113 : decode cX7_tellWay 113 = .ok (.iadd, 1) := by decide +kernel
theorem dX7_tellWay_114 : decode cX7_tellWay 114 = .ok (.aload_n 0, 1) := by decide +kernel
theorem dX7_tellWay_115 : decode cX7_tellWay 115 = .ok (.getfield 25, 3) := by decide +kernel
theorem dX7_tellWay_118 : decode cX7_tellWay 118 = .ok (.sipush 2187, 3) := by decide +kernel
theorem dX7_tellWay_121 : decode cX7_tellWay 121 = .ok (.iload_n 3, 1) := by decide +kernel
theorem dX7_tellWay_122 : decode cX7_tellWay 122 = .ok (.iconst 1, 1) := by decide +kernel
theorem dX7_tellWay_123 : decode cX7_tellWay 123 = .ok (.isub, 1) := by decide +kernel
theorem dX7_tellWay_124 : decode cX7_tellWay 124 = .ok (.imul, 1) := by decide +kernel
theorem dX7_tellWay_125 : decode cX7_tellWay 125 = .ok (.aload_n 0, 1) := by decide +kernel
theorem dX7_tellWay_126 : decode cX7_tellWay 126 = .ok (.getfield 37, 3) := by decide +kernel
theorem dX7_tellWay_129 : decode cX7_tellWay 129 = .ok (.iload_n 3, 1) := by decide +kernel
theorem dX7_tellWay_130 : decode cX7_tellWay 130 = .ok (.iconst 1, 1) := by decide +kernel
theorem dX7_tellWay_131 : decode cX7_tellWay 131 = .ok (.isub, 1) := by decide +kernel
theorem dX7_tellWay_132 : decode cX7_tellWay 132 = .ok (.iaload, 1) := by decide +kernel
theorem dX7_tellWay_133 : decode cX7_tellWay 133 = .ok (.iadd, 1) := by decide +kernel
theorem dX7_tellWay_134 : decode cX7_tellWay 134 = .ok (.iaload, 1) := by decide +kernel
theorem dX7_tellWay_135 : decode cX7_tellWay 135 = .ok (.if_icmp .ne 7, 3) := by decide +kernel
theorem dX7_tellWay_138 : decode cX7_tellWay 138 = .ok (.iconst 1, 1) := by decide +kernel
theorem dX7_tellWay_139 : decode cX7_tellWay 139 = .ok (.goto 4, 3) := by decide +kernel
theorem dX7_tellWay_142 : decode cX7_tellWay 142 = .ok (.iconst 0, 1) := by decide +kernel
theorem dX7_tellWay_143 : decode cX7_tellWay 143 = .ok (.istore 6, 2) := by decide +kernel
theorem dX7_tellWay_145 : decode cX7_tellWay 145 = .ok (.iload 6, 2) := by decide +kernel
theorem dX7_tellWay_147 : decode cX7_tellWay 147 = .ok (.ifCond .eq 25, 3) := by decide +kernel
theorem dX7_tellWay_150 : decode cX7_tellWay 150 = .ok (.aload_n 0, 1) := by decide +kernel
theorem dX7_tellWay_151 : decode cX7_tellWay 151 = .ok (.getfield 31, 3) := by decide +kernel
theorem dX7_tellWay_154 : decode cX7_tellWay 154 = .ok (.iload 5, 2) := by decide +kernel
theorem dX7_tellWay_156 : decode cX7_tellWay 156 = .ok (.iaload, 1) := by decide +kernel
theorem dX7_tellWay_157 : decode cX7_tellWay 157 = .ok (.iload 4, 2) := by decide +kernel
theorem dX7_tellWay_159 : decode cX7_tellWay 159 = .ok (.if_icmp .ge 13, 3) := by decide +kernel
theorem dX7_tellWay_162 : decode cX7_tellWay 162 = .ok (.aload_n 0, 1) := by decide +kernel
theorem dX7_tellWay_163 : decode cX7_tellWay 163 = .ok (.getfield 31, 3) := by decide +kernel
theorem dX7_tellWay_166 : decode cX7_tellWay 166 = .ok (.iload 5, 2) := by decide +kernel
theorem dX7_tellWay_168 : decode cX7_tellWay 168 = .ok (.iaload, 1) := by decide +kernel
theorem dX7_tellWay_169 : decode cX7_tellWay 169 = .ok (.goto 5, 3) := by decide +kernel
theorem dX7_tellWay_172 : decode cX7_tellWay 172 = .ok (.iload 4, 2) := by decide +kernel
theorem dX7_tellWay_174 : decode cX7_tellWay 174 = .ok (.istore 4, 2) := by decide +kernel
theorem dX7_tellWay_176 : decode cX7_tellWay 176 = .ok (.iinc 5 1, 3) := by decide +kernel
theorem dX7_tellWay_179 : decode cX7_tellWay 179 = .ok (.goto (-100), 3) := by decide +kernel
theorem dX7_tellWay_182 : decode cX7_tellWay 182 = .ok (.aload_n 0, 1) := by decide +kernel
theorem dX7_tellWay_183 : decode cX7_tellWay 183 = .ok (.getfield 37, 3) := by decide +kernel
theorem dX7_tellWay_186 : decode cX7_tellWay 186 = .ok (.iload_n 3, 1) := by decide +kernel
theorem dX7_tellWay_187 : decode cX7_tellWay 187 = .ok (.iload 4, 2) := by decide +kernel
theorem dX7_tellWay_189 : decode cX7_tellWay 189 = .ok (.iastore, 1) := by decide +kernel
theorem dX7_tellWay_190 : decode cX7_tellWay 190 = .ok (.iinc 3 1, 3) := by decide +kernel
theorem dX7_tellWay_193 : decode cX7_tellWay 193 = .ok (.goto (-147), 3) := by decide +kernel
theorem dX7_tellWay_196 : decode cX7_tellWay 196 = .ok (.iload_n 1, 1) := by decide +kernel
theorem dX7_tellWay_197 : decode cX7_tellWay 197 = .ok (.ireturn, 1) := by decide +kernel
theorem dX7_moves_0 : decode cX7_moves 0 = .ok (.aload_n 0, 1) := by decide +kernel
theorem dX7_moves_1 : decode cX7_moves 1 = .ok (.invokevirtual 150, 3) := by decide +kernel
theorem dX7_moves_4 : decode cX7_moves 4 = .ok (.istore_n 1, 1) := by decide +kernel
theorem dX7_moves_5 : decode cX7_moves 5 = .ok (.iload_n 1, 1) := by decide +kernel
theorem dX7_moves_6 : decode cX7_moves 6 = .ok (.ldc 140, 2) := by decide +kernel
theorem dX7_moves_8 : decode cX7_moves 8 = .ok (.if_icmp .ne 12, 3) := by decide +kernel
theorem dX7_moves_11 : decode cX7_moves 11 = .ok (.aload_n 0, 1) := by decide +kernel
theorem dX7_moves_12 : decode cX7_moves 12 = .ok (.ldc 71, 2) := by decide +kernel
theorem dX7_moves_14 : decode cX7_moves 14 = .ok (.invokevirtual 72, 3) := by decide +kernel
theorem dX7_moves_17 : decode cX7_moves 17 = .ok (.goto 4, 3) := by decide +kernel
theorem dX7_moves_20 : decode cX7_moves 20 = .ok (.iload_n 1, 1) := by decide +kernel
theorem dX7_moves_21 : decode cX7_moves 21 = .ok (.ireturn, 1) := by decide +kernel
theorem dX7_diagram_0 : decode cX7_diagram 0 = .ok (.aload_n 0, 1) := by decide +kernel
theorem dX7_diagram_1 : decode cX7_diagram 1 = .ok (.iload_n 1, 1) := by decide +kernel
theorem dX7_diagram_2 : decode cX7_diagram 2 = .ok (.invokevirtual 153, 3) := by decide +kernel
theorem dX7_diagram_5 : decode cX7_diagram 5 = .ok (.ifCond .ne 10, 3) := by decide +kernel
theorem dX7_diagram_8 : decode cX7_diagram 8 = .ok (.aload_n 0, 1) := by decide +kernel
theorem dX7_diagram_9 : decode cX7_diagram 9 = .ok (.ldc 83, 2) := by decide +kernel
theorem dX7_diagram_11 : decode cX7_diagram 11 = .ok (.invokevirtual 72, 3) := by decide +kernel
theorem dX7_diagram_14 : decode cX7_diagram 14 = .ok (.ireturn, 1) := by decide +kernel
theorem dX7_diagram_15 : decode cX7_diagram 15 = .ok (.aload_n 0, 1) := by decide +kernel
theorem dX7_diagram_16 : decode cX7_diagram 16 = .ok (.invokevirtual 156, 3) := by decide +kernel
theorem dX7_diagram_19 : decode cX7_diagram 19 = .ok (.ldc 140, 2) := by decide +kernel
theorem dX7_diagram_21 : decode cX7_diagram 21 = .ok (.if_icmp .ne 12, 3) := by decide +kernel
theorem dX7_diagram_24 : decode cX7_diagram 24 = .ok (.aload_n 0, 1) := by decide +kernel
theorem dX7_diagram_25 : decode cX7_diagram 25 = .ok (.ldc 71, 2) := by decide +kernel
theorem dX7_diagram_27 : decode cX7_diagram 27 = .ok (.invokevirtual 72, 3) := by decide +kernel
theorem dX7_diagram_30 : decode cX7_diagram 30 = .ok (.goto 9, 3) := by decide +kernel
theorem dX7_diagram_33 : decode cX7_diagram 33 = .ok (.aload_n 0, 1) := by decide +kernel
theorem dX7_diagram_34 : decode cX7_diagram 34 = .ok (.getfield 37, 3) := by decide +kernel
theorem dX7_diagram_37 : decode cX7_diagram 37 = .ok (.iload_n 1, 1) := by decide +kernel
theorem dX7_diagram_38 : decode cX7_diagram 38 = .ok (.iaload, 1) := by decide +kernel
theorem dX7_diagram_39 : decode cX7_diagram 39 = .ok (.ireturn, 1) := by decide +kernel
theorem dX7_stand_0 : decode cX7_stand 0 = .ok (.aload_n 0, 1) := by decide +kernel
theorem dX7_stand_1 : decode cX7_stand 1 = .ok (.iload_n 1, 1) := by decide +kernel
theorem dX7_stand_2 : decode cX7_stand 2 = .ok (.invokevirtual 153, 3) := by decide +kernel
theorem dX7_stand_5 : decode cX7_stand 5 = .ok (.ifCond .eq 10, 3) := by decide +kernel
theorem dX7_stand_8 : decode cX7_stand 8 = .ok (.iload_n 2, 1) := by decide +kernel
theorem dX7_stand_9 : decode cX7_stand 9 = .ok (.invokestatic 103, 3) := by decide +kernel
theorem dX7_stand_12 : decode cX7_stand 12 = .ok (.ifCond .ne 10, 3) := by decide +kernel
theorem dX7_stand_15 : decode cX7_stand 15 = .ok (.aload_n 0, 1) := by decide +kernel
theorem dX7_stand_16 : decode cX7_stand 16 = .ok (.ldc 83, 2) := by decide +kernel
theorem dX7_stand_18 : decode cX7_stand 18 = .ok (.invokevirtual 72, 3) := by decide +kernel
theorem dX7_stand_21 : decode cX7_stand 21 = .ok (.ireturn, 1) := by decide +kernel
theorem dX7_stand_22 : decode cX7_stand 22 = .ok (.aload_n 0, 1) := by decide +kernel
theorem dX7_stand_23 : decode cX7_stand 23 = .ok (.invokevirtual 156, 3) := by decide +kernel
theorem dX7_stand_26 : decode cX7_stand 26 = .ok (.ldc 140, 2) := by decide +kernel
theorem dX7_stand_28 : decode cX7_stand 28 = .ok (.if_icmp .ne 12, 3) := by decide +kernel
theorem dX7_stand_31 : decode cX7_stand 31 = .ok (.aload_n 0, 1) := by decide +kernel
theorem dX7_stand_32 : decode cX7_stand 32 = .ok (.ldc 71, 2) := by decide +kernel
theorem dX7_stand_34 : decode cX7_stand 34 = .ok (.invokevirtual 72, 3) := by decide +kernel
theorem dX7_stand_37 : decode cX7_stand 37 = .ok (.goto 13, 3) := by decide +kernel
theorem dX7_stand_40 : decode cX7_stand 40 = .ok (.aload_n 0, 1) := by decide +kernel
theorem dX7_stand_41 : decode cX7_stand 41 = .ok (.getfield 37, 3) := by decide +kernel
theorem dX7_stand_44 : decode cX7_stand 44 = .ok (.iload_n 1, 1) := by decide +kernel
theorem dX7_stand_45 : decode cX7_stand 45 = .ok (.iaload, 1) := by decide +kernel
theorem dX7_stand_46 : decode cX7_stand 46 = .ok (.iload_n 2, 1) := by decide +kernel
theorem dX7_stand_47 : decode cX7_stand 47 = .ok (.invokestatic 112, 3) := by decide +kernel
theorem dX7_stand_50 : decode cX7_stand 50 = .ok (.ireturn, 1) := by decide +kernel
theorem dX7_foot_0 : decode cX7_foot 0 = .ok (.aload_n 0, 1) := by decide +kernel
theorem dX7_foot_1 : decode cX7_foot 1 = .ok (.iload_n 1, 1) := by decide +kernel
theorem dX7_foot_2 : decode cX7_foot 2 = .ok (.invokevirtual 153, 3) := by decide +kernel
theorem dX7_foot_5 : decode cX7_foot 5 = .ok (.ifCond .ne 10, 3) := by decide +kernel
theorem dX7_foot_8 : decode cX7_foot 8 = .ok (.aload_n 0, 1) := by decide +kernel
theorem dX7_foot_9 : decode cX7_foot 9 = .ok (.ldc 83, 2) := by decide +kernel
theorem dX7_foot_11 : decode cX7_foot 11 = .ok (.invokevirtual 72, 3) := by decide +kernel
theorem dX7_foot_14 : decode cX7_foot 14 = .ok (.ireturn, 1) := by decide +kernel
theorem dX7_foot_15 : decode cX7_foot 15 = .ok (.aload_n 0, 1) := by decide +kernel
theorem dX7_foot_16 : decode cX7_foot 16 = .ok (.invokevirtual 156, 3) := by decide +kernel
theorem dX7_foot_19 : decode cX7_foot 19 = .ok (.ldc 140, 2) := by decide +kernel
theorem dX7_foot_21 : decode cX7_foot 21 = .ok (.if_icmp .ne 10, 3) := by decide +kernel
theorem dX7_foot_24 : decode cX7_foot 24 = .ok (.aload_n 0, 1) := by decide +kernel
theorem dX7_foot_25 : decode cX7_foot 25 = .ok (.ldc 71, 2) := by decide +kernel
theorem dX7_foot_27 : decode cX7_foot 27 = .ok (.invokevirtual 72, 3) := by decide +kernel
theorem dX7_foot_30 : decode cX7_foot 30 = .ok (.ireturn, 1) := by decide +kernel
theorem dX7_foot_31 : decode cX7_foot 31 = .ok (.iload_n 2, 1) := by decide +kernel
theorem dX7_foot_32 : decode cX7_foot 32 = .ok (.ifCond .eq 7, 3) := by decide +kernel
theorem dX7_foot_35 : decode cX7_foot 35 = .ok (.iconst 3, 1) := by decide +kernel
theorem dX7_foot_36 : decode cX7_foot 36 = .ok (.goto 4, 3) := by decide +kernel
theorem dX7_foot_39 : decode cX7_foot 39 = .ok (.iconst 0, 1) := by decide +kernel
theorem dX7_foot_40 : decode cX7_foot 40 = .ok (.istore_n 3, 1) := by decide +kernel
theorem dX7_foot_41 : decode cX7_foot 41 = .ok (.iload_n 3, 1) := by decide +kernel
theorem dX7_foot_42 : decode cX7_foot 42 = .ok (.iload_n 2, 1) := by decide +kernel
theorem dX7_foot_43 : decode cX7_foot 43 = .ok (.ifCond .eq 8, 3) := by decide +kernel
theorem dX7_foot_46 : decode cX7_foot 46 = .ok (.bipush 7, 2) := by decide +kernel
theorem dX7_foot_48 : decode cX7_foot 48 = .ok (.goto 4, 3) := by decide +kernel
theorem dX7_foot_51 : decode cX7_foot 51 = .ok (.iconst 3, 1) := by decide +kernel
theorem dX7_foot_52 : decode cX7_foot 52 = .ok (.if_icmp .ge 73, 3) := by decide +kernel
theorem dX7_foot_55 : decode cX7_foot 55 = .ok (.getstatic 133, 3) := by decide +kernel
theorem dX7_foot_58 : decode cX7_foot 58 = .ok (.iload_n 3, 1) := by decide +kernel
theorem dX7_foot_59 : decode cX7_foot 59 = .ok (.iaload, 1) := by decide +kernel
theorem dX7_foot_60 : decode cX7_foot 60 = .ok (.istore 4, 2) := by decide +kernel
theorem dX7_foot_62 : decode cX7_foot 62 = .ok (.iload_n 1, 1) := by decide +kernel
theorem dX7_foot_63 : decode cX7_foot 63 = .ok (.ifCond .ne 17, 3) := by decide +kernel
theorem dX7_foot_66 : decode cX7_foot 66 = .ok (.aload_n 0, 1) := by decide +kernel
theorem dX7_foot_67 : decode cX7_foot 67 = .ok (.getfield 7, 3) := by decide +kernel
theorem dX7_foot_70 : decode cX7_foot 70 = .ok (.sipush 313, 3) := by decide +kernel
theorem dX7_foot_73 : decode cX7_foot 73 = .ok (.iload 4, 2) := by decide +kernel
theorem dX7_foot_75 : decode cX7_foot 75 = .ok (.iadd, 1) := by decide +kernel
theorem dX7_foot_76 : decode cX7_foot 76 = .ok (.iaload, 1) := by decide +kernel
theorem dX7_foot_77 : decode cX7_foot 77 = .ok (.goto 16, 3) := by decide +kernel
theorem dX7_foot_80 : decode cX7_foot 80 = .ok (.aload_n 0, 1) := by decide +kernel
theorem dX7_foot_81 : decode cX7_foot 81 = .ok (.getfield 37, 3) := by decide +kernel
theorem dX7_foot_84 : decode cX7_foot 84 = .ok (.iload_n 1, 1) := by decide +kernel
theorem dX7_foot_85 : decode cX7_foot 85 = .ok (.iconst 1, 1) := by decide +kernel
theorem dX7_foot_86 : decode cX7_foot 86 = .ok (.isub, 1) := by decide +kernel
theorem dX7_foot_87 : decode cX7_foot 87 = .ok (.iaload, 1) := by decide +kernel
theorem dX7_foot_88 : decode cX7_foot 88 = .ok (.iload 4, 2) := by decide +kernel
theorem dX7_foot_90 : decode cX7_foot 90 = .ok (.invokestatic 112, 3) := by decide +kernel
theorem dX7_foot_93 : decode cX7_foot 93 = .ok (.istore 5, 2) := by decide +kernel
theorem dX7_foot_95 : decode cX7_foot 95 = .ok (.iload 5, 2) := by decide +kernel
theorem dX7_foot_97 : decode cX7_foot 97 = .ok (.ifCond .lt 22, 3) := by decide +kernel
theorem dX7_foot_100 : decode cX7_foot 100 = .ok (.iload 5, 2) := by decide +kernel
theorem dX7_foot_102 : decode cX7_foot 102 = .ok (.aload_n 0, 1) := by decide +kernel
theorem dX7_foot_103 : decode cX7_foot 103 = .ok (.getfield 37, 3) := by decide +kernel
theorem dX7_foot_106 : decode cX7_foot 106 = .ok (.iload_n 1, 1) := by decide +kernel
theorem dX7_foot_107 : decode cX7_foot 107 = .ok (.iaload, 1) := by decide +kernel
theorem dX7_foot_108 : decode cX7_foot 108 = .ok (.iload 4, 2) := by decide +kernel
theorem dX7_foot_110 : decode cX7_foot 110 = .ok (.invokestatic 112, 3) := by decide +kernel
theorem dX7_foot_113 : decode cX7_foot 113 = .ok (.if_icmp .eq 6, 3) := by decide +kernel
theorem dX7_foot_116 : decode cX7_foot 116 = .ok (.iload 4, 2) := by decide +kernel
theorem dX7_foot_118 : decode cX7_foot 118 = .ok (.ireturn, 1) := by decide +kernel
theorem dX7_foot_119 : decode cX7_foot 119 = .ok (.iinc 3 1, 3) := by decide +kernel
theorem dX7_foot_122 : decode cX7_foot 122 = .ok (.goto (-81), 3) := by decide +kernel
theorem dX7_foot_125 : decode cX7_foot 125 = .ok (.iconst (-1), 1) := by decide +kernel
theorem dX7_foot_126 : decode cX7_foot 126 = .ok (.ireturn, 1) := by decide +kernel
theorem dX7_ways_0 : decode cX7_ways 0 = .ok (.aload_n 0, 1) := by decide +kernel
theorem dX7_ways_1 : decode cX7_ways 1 = .ok (.invokevirtual 150, 3) := by decide +kernel
theorem dX7_ways_4 : decode cX7_ways 4 = .ok (.istore_n 1, 1) := by decide +kernel
theorem dX7_ways_5 : decode cX7_ways 5 = .ok (.iload_n 1, 1) := by decide +kernel
theorem dX7_ways_6 : decode cX7_ways 6 = .ok (.ldc 140, 2) := by decide +kernel
theorem dX7_ways_8 : decode cX7_ways 8 = .ok (.if_icmp .ne 10, 3) := by decide +kernel
theorem dX7_ways_11 : decode cX7_ways 11 = .ok (.aload_n 0, 1) := by decide +kernel
theorem dX7_ways_12 : decode cX7_ways 12 = .ok (.ldc 71, 2) := by decide +kernel
theorem dX7_ways_14 : decode cX7_ways 14 = .ok (.invokevirtual 72, 3) := by decide +kernel
theorem dX7_ways_17 : decode cX7_ways 17 = .ok (.ireturn, 1) := by decide +kernel
theorem dX7_ways_18 : decode cX7_ways 18 = .ok (.iconst 0, 1) := by decide +kernel
theorem dX7_ways_19 : decode cX7_ways 19 = .ok (.istore_n 2, 1) := by decide +kernel
theorem dX7_ways_20 : decode cX7_ways 20 = .ok (.iconst 0, 1) := by decide +kernel
theorem dX7_ways_21 : decode cX7_ways 21 = .ok (.istore_n 3, 1) := by decide +kernel
theorem dX7_ways_22 : decode cX7_ways 22 = .ok (.iload_n 3, 1) := by decide +kernel
theorem dX7_ways_23 : decode cX7_ways 23 = .ok (.sipush 2187, 3) := by decide +kernel
theorem dX7_ways_26 : decode cX7_ways 26 = .ok (.if_icmp .ge 51, 3) := by decide +kernel
theorem dX7_ways_29 : decode cX7_ways 29 = .ok (.iload_n 2, 1) := by decide +kernel
theorem dX7_ways_30 : decode cX7_ways 30 = .ok (.aload_n 0, 1) := by decide +kernel
theorem dX7_ways_31 : decode cX7_ways 31 = .ok (.iload_n 3, 1) := by decide +kernel
theorem dX7_ways_32 : decode cX7_ways 32 = .ok (.invokevirtual 147, 3) := by decide +kernel
theorem dX7_ways_35 : decode cX7_ways 35 = .ok (.aload_n 0, 1) := by decide +kernel
theorem dX7_ways_36 : decode cX7_ways 36 = .ok (.getfield 25, 3) := by decide +kernel
theorem dX7_ways_39 : decode cX7_ways 39 = .ok (.iload_n 3, 1) := by decide +kernel
theorem dX7_ways_40 : decode cX7_ways 40 = .ok (.iaload, 1) := by decide +kernel
theorem dX7_ways_41 : decode cX7_ways 41 = .ok (.iadd, 1) := by decide +kernel
theorem dX7_ways_42 : decode cX7_ways 42 = .ok (.iload_n 1, 1) := by decide +kernel
theorem dX7_ways_43 : decode cX7_ways 43 = .ok (.if_icmp .ne 12, 3) := by decide +kernel
theorem dX7_ways_46 : decode cX7_ways 46 = .ok (.aload_n 0, 1) := by decide +kernel
theorem dX7_ways_47 : decode cX7_ways 47 = .ok (.getfield 28, 3) := by decide +kernel
theorem dX7_ways_50 : decode cX7_ways 50 = .ok (.iload_n 3, 1) := by decide +kernel
theorem dX7_ways_51 : decode cX7_ways 51 = .ok (.iaload, 1) := by decide +kernel
theorem dX7_ways_52 : decode cX7_ways 52 = .ok (.goto 4, 3) := by decide +kernel
theorem dX7_ways_55 : decode cX7_ways 55 = .ok (.iconst 0, 1) := by decide +kernel
theorem dX7_ways_56 : decode cX7_ways 56 = .ok (.iadd, 1) := by decide +kernel
theorem dX7_ways_57 : decode cX7_ways 57 = .ok (.istore_n 2, 1) := by decide +kernel
theorem dX7_ways_58 : decode cX7_ways 58 = .ok (.iload_n 2, 1) := by decide +kernel
theorem dX7_ways_59 : decode cX7_ways 59 = .ok (.ldc 146, 2) := by decide +kernel
theorem dX7_ways_61 : decode cX7_ways 61 = .ok (.if_icmp .le 8, 3) := by decide +kernel
theorem dX7_ways_64 : decode cX7_ways 64 = .ok (.ldc 146, 2) := by decide +kernel
theorem dX7_ways_66 : decode cX7_ways 66 = .ok (.goto 4, 3) := by decide +kernel
theorem dX7_ways_69 : decode cX7_ways 69 = .ok (.iload_n 2, 1) := by decide +kernel
theorem dX7_ways_70 : decode cX7_ways 70 = .ok (.istore_n 2, 1) := by decide +kernel
theorem dX7_ways_71 : decode cX7_ways 71 = .ok (.iinc 3 1, 3) := by decide +kernel
theorem dX7_ways_74 : decode cX7_ways 74 = .ok (.goto (-52), 3) := by decide +kernel
theorem dX7_ways_77 : decode cX7_ways 77 = .ok (.iload_n 2, 1) := by decide +kernel
theorem dX7_ways_78 : decode cX7_ways 78 = .ok (.ireturn, 1) := by decide +kernel
theorem dX7_stuck_0 : decode cX7_stuck 0 = .ok (.iconst 0, 1) := by decide +kernel
theorem dX7_stuck_1 : decode cX7_stuck 1 = .ok (.istore_n 1, 1) := by decide +kernel
theorem dX7_stuck_2 : decode cX7_stuck 2 = .ok (.iload_n 1, 1) := by decide +kernel
theorem dX7_stuck_3 : decode cX7_stuck 3 = .ok (.sipush 2187, 3) := by decide +kernel
theorem dX7_stuck_6 : decode cX7_stuck 6 = .ok (.if_icmp .ge 30, 3) := by decide +kernel
theorem dX7_stuck_9 : decode cX7_stuck 9 = .ok (.aload_n 0, 1) := by decide +kernel
theorem dX7_stuck_10 : decode cX7_stuck 10 = .ok (.getfield 44, 3) := by decide +kernel
theorem dX7_stuck_13 : decode cX7_stuck 13 = .ok (.iload_n 1, 1) := by decide +kernel
theorem dX7_stuck_14 : decode cX7_stuck 14 = .ok (.aload_n 0, 1) := by decide +kernel
theorem dX7_stuck_15 : decode cX7_stuck 15 = .ok (.iload_n 1, 1) := by decide +kernel
theorem dX7_stuck_16 : decode cX7_stuck 16 = .ok (.invokevirtual 147, 3) := by decide +kernel
theorem dX7_stuck_19 : decode cX7_stuck 19 = .ok (.ldc 140, 2) := by decide +kernel
theorem dX7_stuck_21 : decode cX7_stuck 21 = .ok (.if_icmp .ge 7, 3) := by decide +kernel
theorem dX7_stuck_24 : decode cX7_stuck 24 = .ok (.iconst 1, 1) := by decide +kernel
theorem dX7_stuck_25 : decode cX7_stuck 25 = .ok (.goto 4, 3) := by decide +kernel
theorem dX7_stuck_28 : decode cX7_stuck 28 = .ok (.iconst 0, 1) := by decide +kernel
theorem dX7_stuck_29 : decode cX7_stuck 29 = .ok (.bastore, 1) := by decide +kernel
theorem dX7_stuck_30 : decode cX7_stuck 30 = .ok (.iinc 1 1, 3) := by decide +kernel
theorem dX7_stuck_33 : decode cX7_stuck 33 = .ok (.goto (-31), 3) := by decide +kernel
theorem dX7_stuck_36 : decode cX7_stuck 36 = .ok (.iconst 0, 1) := by decide +kernel
theorem dX7_stuck_37 : decode cX7_stuck 37 = .ok (.istore_n 1, 1) := by decide +kernel
theorem dX7_stuck_38 : decode cX7_stuck 38 = .ok (.iload_n 1, 1) := by decide +kernel
theorem dX7_stuck_39 : decode cX7_stuck 39 = .ok (.aload_n 0, 1) := by decide +kernel
theorem dX7_stuck_40 : decode cX7_stuck 40 = .ok (.getfield 7, 3) := by decide +kernel
theorem dX7_stuck_43 : decode cX7_stuck 43 = .ok (.iconst 0, 1) := by decide +kernel
theorem dX7_stuck_44 : decode cX7_stuck 44 = .ok (.iaload, 1) := by decide +kernel
theorem dX7_stuck_45 : decode cX7_stuck 45 = .ok (.if_icmp .ge 138, 3) := by decide +kernel
theorem dX7_stuck_48 : decode cX7_stuck 48 = .ok (.iconst 0, 1) := by decide +kernel
theorem dX7_stuck_49 : decode cX7_stuck 49 = .ok (.istore_n 2, 1) := by decide +kernel
theorem dX7_stuck_50 : decode cX7_stuck 50 = .ok (.iconst 0, 1) := by decide +kernel
theorem dX7_stuck_51 : decode cX7_stuck 51 = .ok (.istore_n 3, 1) := by decide +kernel
theorem dX7_stuck_52 : decode cX7_stuck 52 = .ok (.iload_n 3, 1) := by decide +kernel
theorem dX7_stuck_53 : decode cX7_stuck 53 = .ok (.sipush 2187, 3) := by decide +kernel
theorem dX7_stuck_56 : decode cX7_stuck 56 = .ok (.if_icmp .ge 54, 3) := by decide +kernel
theorem dX7_stuck_59 : decode cX7_stuck 59 = .ok (.aload_n 0, 1) := by decide +kernel
theorem dX7_stuck_60 : decode cX7_stuck 60 = .ok (.getfield 40, 3) := by decide +kernel
theorem dX7_stuck_63 : decode cX7_stuck 63 = .ok (.iload_n 3, 1) := by decide +kernel
theorem dX7_stuck_64 : decode cX7_stuck 64 = .ok (.aload_n 0, 1) := by decide +kernel
theorem dX7_stuck_65 : decode cX7_stuck 65 = .ok (.getfield 44, 3) := by decide +kernel
theorem dX7_stuck_68 : decode cX7_stuck 68 = .ok (.iload_n 3, 1) := by decide +kernel
theorem dX7_stuck_69 : decode cX7_stuck 69 = .ok (.baload, 1) := by decide +kernel
theorem dX7_stuck_70 : decode cX7_stuck 70 = .ok (.ifCond .eq 16, 3) := by decide +kernel
theorem dX7_stuck_73 : decode cX7_stuck 73 = .ok (.aload_n 0, 1) := by decide +kernel
theorem dX7_stuck_74 : decode cX7_stuck 74 = .ok (.iload_n 1, 1) := by decide +kernel
theorem dX7_stuck_75 : decode cX7_stuck 75 = .ok (.iload_n 3, 1) := by decide +kernel
theorem dX7_stuck_76 : decode cX7_stuck 76 = .ok (.invokevirtual 124, 3) := by decide +kernel
theorem dX7_stuck_79 : decode cX7_stuck 79 = .ok (.ifCond .eq 7, 3) := by decide +kernel
theorem dX7_stuck_82 : decode cX7_stuck 82 = .ok (.iconst 1, 1) := by decide +kernel
theorem dX7_stuck_83 : decode cX7_stuck 83 = .ok (.goto 4, 3) := by decide +kernel
theorem dX7_stuck_86 : decode cX7_stuck 86 = .ok (.iconst 0, 1) := by decide +kernel
theorem dX7_stuck_87 : decode cX7_stuck 87 = .ok (.bastore, 1) := by decide +kernel
theorem dX7_stuck_88 : decode cX7_stuck 88 = .ok (.iload_n 2, 1) := by decide +kernel
theorem dX7_stuck_89 : decode cX7_stuck 89 = .ok (.aload_n 0, 1) := by decide +kernel
theorem dX7_stuck_90 : decode cX7_stuck 90 = .ok (.getfield 40, 3) := by decide +kernel
theorem dX7_stuck_93 : decode cX7_stuck 93 = .ok (.iload_n 3, 1) := by decide +kernel
theorem dX7_stuck_94 : decode cX7_stuck 94 = .ok (.baload, 1) := by decide +kernel
theorem dX7_stuck_95 : decode cX7_stuck 95 = .ok (.ior, 1) := by decide +kernel
theorem dX7_stuck_96 : decode cX7_stuck 96 = .ok (.istore_n 2, 1) := by decide +kernel
theorem dX7_stuck_97 : decode cX7_stuck 97 = .ok (.aload_n 0, 1) := by decide +kernel
theorem dX7_stuck_98 : decode cX7_stuck 98 = .ok (.getfield 44, 3) := by decide +kernel
theorem dX7_stuck_101 : decode cX7_stuck 101 = .ok (.iload_n 3, 1) := by decide +kernel
theorem dX7_stuck_102 : decode cX7_stuck 102 = .ok (.iconst 0, 1) := by decide +kernel
theorem dX7_stuck_103 : decode cX7_stuck 103 = .ok (.bastore, 1) := by decide +kernel
theorem dX7_stuck_104 : decode cX7_stuck 104 = .ok (.iinc 3 1, 3) := by decide +kernel
theorem dX7_stuck_107 : decode cX7_stuck 107 = .ok (.goto (-55), 3) := by decide +kernel
theorem dX7_stuck_110 : decode cX7_stuck 110 = .ok (.iload_n 2, 1) := by decide +kernel
theorem dX7_stuck_111 : decode cX7_stuck 111 = .ok (.ifCond .ne 5, 3) := by decide +kernel
theorem dX7_stuck_114 : decode cX7_stuck 114 = .ok (.iload_n 1, 1) := by decide +kernel
theorem dX7_stuck_115 : decode cX7_stuck 115 = .ok (.ireturn, 1) := by decide +kernel
theorem dX7_stuck_116 : decode cX7_stuck 116 = .ok (.iconst 0, 1) := by decide +kernel
theorem dX7_stuck_117 : decode cX7_stuck 117 = .ok (.istore_n 3, 1) := by decide +kernel
theorem dX7_stuck_118 : decode cX7_stuck 118 = .ok (.iload_n 3, 1) := by decide +kernel
theorem dX7_stuck_119 : decode cX7_stuck 119 = .ok (.sipush 2187, 3) := by decide +kernel
theorem dX7_stuck_122 : decode cX7_stuck 122 = .ok (.if_icmp .ge 55, 3) := by decide +kernel
theorem dX7_stuck_125 : decode cX7_stuck 125 = .ok (.aload_n 0, 1) := by decide +kernel
theorem dX7_stuck_126 : decode cX7_stuck 126 = .ok (.getfield 40, 3) := by decide +kernel
theorem dX7_stuck_129 : decode cX7_stuck 129 = .ok (.iload_n 3, 1) := by decide +kernel
theorem dX7_stuck_130 : decode cX7_stuck 130 = .ok (.baload, 1) := by decide +kernel
theorem dX7_stuck_131 : decode cX7_stuck 131 = .ok (.ifCond .eq 40, 3) := by decide +kernel
theorem dX7_stuck_134 : decode cX7_stuck 134 = .ok (.aload_n 0, 1) := by decide +kernel
theorem dX7_stuck_135 : decode cX7_stuck 135 = .ok (.iload_n 1, 1) := by decide +kernel
theorem dX7_stuck_136 : decode cX7_stuck 136 = .ok (.iload_n 3, 1) := by decide +kernel
theorem dX7_stuck_137 : decode cX7_stuck 137 = .ok (.invokevirtual 142, 3) := by decide +kernel
theorem dX7_stuck_140 : decode cX7_stuck 140 = .ok (.iconst 0, 1) := by decide +kernel
theorem dX7_stuck_141 : decode cX7_stuck 141 = .ok (.istore 4, 2) := by decide +kernel
theorem dX7_stuck_143 : decode cX7_stuck 143 = .ok (.iload 4, 2) := by decide +kernel
theorem dX7_stuck_145 : decode cX7_stuck 145 = .ok (.aload_n 0, 1) := by decide +kernel
theorem dX7_stuck_146 : decode cX7_stuck 146 = .ok (.getfield 130, 3) := by decide +kernel
theorem dX7_stuck_149 : decode cX7_stuck 149 = .ok (.if_icmp .ge 22, 3) := by decide +kernel
theorem dX7_stuck_152 : decode cX7_stuck 152 = .ok (.aload_n 0, 1) := by decide +kernel
theorem dX7_stuck_153 : decode cX7_stuck 153 = .ok (.getfield 44, 3) := by decide +kernel
theorem dX7_stuck_156 : decode cX7_stuck 156 = .ok (.aload_n 0, 1) := by decide +kernel
theorem dX7_stuck_157 : decode cX7_stuck 157 = .ok (.getfield 31, 3) := by decide +kernel
theorem dX7_stuck_160 : decode cX7_stuck 160 = .ok (.iload 4, 2) := by decide +kernel
theorem dX7_stuck_162 : decode cX7_stuck 162 = .ok (.iaload, 1) := by decide +kernel
theorem dX7_stuck_163 : decode cX7_stuck 163 = .ok (.iconst 1, 1) := by decide +kernel
theorem dX7_stuck_164 : decode cX7_stuck 164 = .ok (.bastore, 1) := by decide +kernel
theorem dX7_stuck_165 : decode cX7_stuck 165 = .ok (.iinc 4 1, 3) := by decide +kernel
theorem dX7_stuck_168 : decode cX7_stuck 168 = .ok (.goto (-25), 3) := by decide +kernel
theorem dX7_stuck_171 : decode cX7_stuck 171 = .ok (.iinc 3 1, 3) := by decide +kernel
theorem dX7_stuck_174 : decode cX7_stuck 174 = .ok (.goto (-56), 3) := by decide +kernel
theorem dX7_stuck_177 : decode cX7_stuck 177 = .ok (.iinc 1 1, 3) := by decide +kernel
theorem dX7_stuck_180 : decode cX7_stuck 180 = .ok (.goto (-142), 3) := by decide +kernel
theorem dX7_stuck_183 : decode cX7_stuck 183 = .ok (.iconst (-1), 1) := by decide +kernel
theorem dX7_stuck_184 : decode cX7_stuck 184 = .ok (.ireturn, 1) := by decide +kernel
theorem dX7_without_0 : decode cX7_without 0 = .ok (.iload_n 1, 1) := by decide +kernel
theorem dX7_without_1 : decode cX7_without 1 = .ok (.invokestatic 64, 3) := by decide +kernel
theorem dX7_without_4 : decode cX7_without 4 = .ok (.ifCond .eq 10, 3) := by decide +kernel
theorem dX7_without_7 : decode cX7_without 7 = .ok (.iload_n 2, 1) := by decide +kernel
theorem dX7_without_8 : decode cX7_without 8 = .ok (.invokestatic 103, 3) := by decide +kernel
theorem dX7_without_11 : decode cX7_without 11 = .ok (.ifCond .ne 10, 3) := by decide +kernel
theorem dX7_without_14 : decode cX7_without 14 = .ok (.aload_n 0, 1) := by decide +kernel
theorem dX7_without_15 : decode cX7_without 15 = .ok (.ldc 83, 2) := by decide +kernel
theorem dX7_without_17 : decode cX7_without 17 = .ok (.invokevirtual 72, 3) := by decide +kernel
theorem dX7_without_20 : decode cX7_without 20 = .ok (.ireturn, 1) := by decide +kernel
theorem dX7_without_21 : decode cX7_without 21 = .ok (.sipush 229, 3) := by decide +kernel
theorem dX7_without_24 : decode cX7_without 24 = .ok (.bipush 7, 2) := by decide +kernel
theorem dX7_without_26 : decode cX7_without 26 = .ok (.iload_n 1, 1) := by decide +kernel
theorem dX7_without_27 : decode cX7_without 27 = .ok (.imul, 1) := by decide +kernel
theorem dX7_without_28 : decode cX7_without 28 = .ok (.iadd, 1) := by decide +kernel
theorem dX7_without_29 : decode cX7_without 29 = .ok (.iload_n 2, 1) := by decide +kernel
theorem dX7_without_30 : decode cX7_without 30 = .ok (.iadd, 1) := by decide +kernel
theorem dX7_without_31 : decode cX7_without 31 = .ok (.istore_n 3, 1) := by decide +kernel
theorem dX7_without_32 : decode cX7_without 32 = .ok (.aload_n 0, 1) := by decide +kernel
theorem dX7_without_33 : decode cX7_without 33 = .ok (.getfield 7, 3) := by decide +kernel
theorem dX7_without_36 : decode cX7_without 36 = .ok (.iload_n 3, 1) := by decide +kernel
theorem dX7_without_37 : decode cX7_without 37 = .ok (.iaload, 1) := by decide +kernel
theorem dX7_without_38 : decode cX7_without 38 = .ok (.istore 4, 2) := by decide +kernel
theorem dX7_without_40 : decode cX7_without 40 = .ok (.iload 4, 2) := by decide +kernel
theorem dX7_without_42 : decode cX7_without 42 = .ok (.ifCond .ge 10, 3) := by decide +kernel
theorem dX7_without_45 : decode cX7_without 45 = .ok (.aload_n 0, 1) := by decide +kernel
theorem dX7_without_46 : decode cX7_without 46 = .ok (.ldc 97, 2) := by decide +kernel
theorem dX7_without_48 : decode cX7_without 48 = .ok (.invokevirtual 72, 3) := by decide +kernel
theorem dX7_without_51 : decode cX7_without 51 = .ok (.ireturn, 1) := by decide +kernel
theorem dX7_without_52 : decode cX7_without 52 = .ok (.aload_n 0, 1) := by decide +kernel
theorem dX7_without_53 : decode cX7_without 53 = .ok (.invokevirtual 150, 3) := by decide +kernel
theorem dX7_without_56 : decode cX7_without 56 = .ok (.istore 5, 2) := by decide +kernel
theorem dX7_without_58 : decode cX7_without 58 = .ok (.iload 5, 2) := by decide +kernel
theorem dX7_without_60 : decode cX7_without 60 = .ok (.ldc 140, 2) := by decide +kernel
theorem dX7_without_62 : decode cX7_without 62 = .ok (.if_icmp .ne 10, 3) := by decide +kernel
theorem dX7_without_65 : decode cX7_without 65 = .ok (.aload_n 0, 1) := by decide +kernel
theorem dX7_without_66 : decode cX7_without 66 = .ok (.ldc 71, 2) := by decide +kernel
theorem dX7_without_68 : decode cX7_without 68 = .ok (.invokevirtual 72, 3) := by decide +kernel
theorem dX7_without_71 : decode cX7_without 71 = .ok (.ireturn, 1) := by decide +kernel
theorem dX7_without_72 : decode cX7_without 72 = .ok (.aload_n 0, 1) := by decide +kernel
theorem dX7_without_73 : decode cX7_without 73 = .ok (.getfield 7, 3) := by decide +kernel
theorem dX7_without_76 : decode cX7_without 76 = .ok (.iload_n 3, 1) := by decide +kernel
theorem dX7_without_77 : decode cX7_without 77 = .ok (.iconst (-1), 1) := by decide +kernel
theorem dX7_without_78 : decode cX7_without 78 = .ok (.iastore, 1) := by decide +kernel
theorem dX7_without_79 : decode cX7_without 79 = .ok (.iload 5, 2) := by decide +kernel
theorem dX7_without_81 : decode cX7_without 81 = .ok (.aload_n 0, 1) := by decide +kernel
theorem dX7_without_82 : decode cX7_without 82 = .ok (.invokevirtual 150, 3) := by decide +kernel
theorem dX7_without_85 : decode cX7_without 85 = .ok (.isub, 1) := by decide +kernel
theorem dX7_without_86 : decode cX7_without 86 = .ok (.istore 6, 2) := by decide +kernel
theorem dX7_without_88 : decode cX7_without 88 = .ok (.aload_n 0, 1) := by decide +kernel
theorem dX7_without_89 : decode cX7_without 89 = .ok (.getfield 7, 3) := by decide +kernel
theorem dX7_without_92 : decode cX7_without 92 = .ok (.iload_n 3, 1) := by decide +kernel
theorem dX7_without_93 : decode cX7_without 93 = .ok (.iload 4, 2) := by decide +kernel
theorem dX7_without_95 : decode cX7_without 95 = .ok (.iastore, 1) := by decide +kernel
theorem dX7_without_96 : decode cX7_without 96 = .ok (.iload 6, 2) := by decide +kernel
theorem dX7_without_98 : decode cX7_without 98 = .ok (.ireturn, 1) := by decide +kernel
theorem dX7_canHand_0 : decode cX7_canHand 0 = .ok (.iconst 0, 1) := by decide +kernel
theorem dX7_canHand_1 : decode cX7_canHand 1 = .ok (.istore_n 3, 1) := by decide +kernel
theorem dX7_canHand_2 : decode cX7_canHand 2 = .ok (.iload_n 1, 1) := by decide +kernel
theorem dX7_canHand_3 : decode cX7_canHand 3 = .ok (.istore 4, 2) := by decide +kernel
theorem dX7_canHand_5 : decode cX7_canHand 5 = .ok (.iload 4, 2) := by decide +kernel
theorem dX7_canHand_7 : decode cX7_canHand 7 = .ok (.iload_n 2, 1) := by decide +kernel
theorem dX7_canHand_8 : decode cX7_canHand 8 = .ok (.if_icmp .ge 19, 3) := by decide +kernel
theorem dX7_canHand_11 : decode cX7_canHand 11 = .ok (.iload_n 3, 1) := by decide +kernel
theorem dX7_canHand_12 : decode cX7_canHand 12 = .ok (.aload_n 0, 1) := by decide +kernel
theorem dX7_canHand_13 : decode cX7_canHand 13 = .ok (.getfield 50, 3) := by decide +kernel
theorem dX7_canHand_16 : decode cX7_canHand 16 = .ok (.iload 4, 2) := by decide +kernel
theorem dX7_canHand_18 : decode cX7_canHand 18 = .ok (.iaload, 1) := by decide +kernel
theorem dX7_canHand_19 : decode cX7_canHand 19 = .ok (.iadd, 1) := by decide +kernel
theorem dX7_canHand_20 : decode cX7_canHand 20 = .ok (.istore_n 3, 1) := by decide +kernel
theorem dX7_canHand_21 : decode cX7_canHand 21 = .ok (.iinc 4 1, 3) := by decide +kernel
theorem dX7_canHand_24 : decode cX7_canHand 24 = .ok (.goto (-19), 3) := by decide +kernel
theorem dX7_canHand_27 : decode cX7_canHand 27 = .ok (.iload_n 1, 1) := by decide +kernel
theorem dX7_canHand_28 : decode cX7_canHand 28 = .ok (.iload_n 2, 1) := by decide +kernel
theorem dX7_canHand_29 : decode cX7_canHand 29 = .ok (.if_icmp .eq 28, 3) := by decide +kernel
theorem dX7_canHand_32 : decode cX7_canHand 32 = .ok (.iload_n 3, 1) := by decide +kernel
theorem dX7_canHand_33 : decode cX7_canHand 33 = .ok (.iconst 4, 1) := by decide +kernel
theorem dX7_canHand_34 : decode cX7_canHand 34 = .ok (.if_icmp .gt 27, 3) := by decide +kernel
theorem dX7_canHand_37 : decode cX7_canHand 37 = .ok (.aload_n 0, 1) := by decide +kernel
theorem dX7_canHand_38 : decode cX7_canHand 38 = .ok (.getfield 47, 3) := by decide +kernel
theorem dX7_canHand_41 : decode cX7_canHand 41 = .ok (.iload_n 2, 1) := by decide +kernel
theorem dX7_canHand_42 : decode cX7_canHand 42 = .ok (.iconst 1, 1) := by decide +kernel
theorem dX7_canHand_43 : decode cX7_canHand 43 = .ok (.isub, 1) := by decide +kernel
theorem dX7_canHand_44 : decode cX7_canHand 44 = .ok (.iaload, 1) := by decide +kernel
theorem dX7_canHand_45 : decode cX7_canHand 45 = .ok (.aload_n 0, 1) := by decide +kernel
theorem dX7_canHand_46 : decode cX7_canHand 46 = .ok (.getfield 47, 3) := by decide +kernel
theorem dX7_canHand_49 : decode cX7_canHand 49 = .ok (.iload_n 1, 1) := by decide +kernel
theorem dX7_canHand_50 : decode cX7_canHand 50 = .ok (.iaload, 1) := by decide +kernel
theorem dX7_canHand_51 : decode cX7_canHand 51 = .ok (.isub, 1) := by decide +kernel
theorem dX7_canHand_52 : decode cX7_canHand 52 = .ok (.bipush 9, 2) := by decide +kernel
theorem dX7_canHand_54 : decode cX7_canHand 54 = .ok (.if_icmp .gt 7, 3) := by decide +kernel
theorem dX7_canHand_57 : decode cX7_canHand 57 = .ok (.iconst 1, 1) := by decide +kernel
theorem dX7_canHand_58 : decode cX7_canHand 58 = .ok (.goto 4, 3) := by decide +kernel
theorem dX7_canHand_61 : decode cX7_canHand 61 = .ok (.iconst 0, 1) := by decide +kernel
theorem dX7_canHand_62 : decode cX7_canHand 62 = .ok (.ireturn, 1) := by decide +kernel
theorem dX7_splitOf_0 : decode cX7_splitOf 0 = .ok (.aload_n 0, 1) := by decide +kernel
theorem dX7_splitOf_1 : decode cX7_splitOf 1 = .ok (.getfield 7, 3) := by decide +kernel
theorem dX7_splitOf_4 : decode cX7_splitOf 4 = .ok (.iconst 1, 1) := by decide +kernel
theorem dX7_splitOf_5 : decode cX7_splitOf 5 = .ok (.iload_n 1, 1) := by decide +kernel
theorem dX7_splitOf_6 : decode cX7_splitOf 6 = .ok (.iadd, 1) := by decide +kernel
theorem dX7_splitOf_7 : decode cX7_splitOf 7 = .ok (.iaload, 1) := by decide +kernel
theorem dX7_splitOf_8 : decode cX7_splitOf 8 = .ok (.istore_n 3, 1) := by decide +kernel
theorem dX7_splitOf_9 : decode cX7_splitOf 9 = .ok (.iconst 0, 1) := by decide +kernel
theorem dX7_splitOf_10 : decode cX7_splitOf 10 = .ok (.istore 4, 2) := by decide +kernel
theorem dX7_splitOf_12 : decode cX7_splitOf 12 = .ok (.iload 4, 2) := by decide +kernel
theorem dX7_splitOf_14 : decode cX7_splitOf 14 = .ok (.iload_n 3, 1) := by decide +kernel
theorem dX7_splitOf_15 : decode cX7_splitOf 15 = .ok (.if_icmp .ge 129, 3) := by decide +kernel
theorem dX7_splitOf_18 : decode cX7_splitOf 18 = .ok (.aload_n 0, 1) := by decide +kernel
theorem dX7_splitOf_19 : decode cX7_splitOf 19 = .ok (.iload_n 1, 1) := by decide +kernel
theorem dX7_splitOf_20 : decode cX7_splitOf 20 = .ok (.iload 4, 2) := by decide +kernel
theorem dX7_splitOf_22 : decode cX7_splitOf 22 = .ok (.iload_n 2, 1) := by decide +kernel
theorem dX7_splitOf_23 : decode cX7_splitOf 23 = .ok (.invokevirtual 121, 3) := by decide +kernel
theorem dX7_splitOf_26 : decode cX7_splitOf 26 = .ok (.istore 5, 2) := by decide +kernel
theorem dX7_splitOf_28 : decode cX7_splitOf 28 = .ok (.aload_n 0, 1) := by decide +kernel
theorem dX7_splitOf_29 : decode cX7_splitOf 29 = .ok (.iload_n 1, 1) := by decide +kernel
theorem dX7_splitOf_30 : decode cX7_splitOf 30 = .ok (.iload 4, 2) := by decide +kernel
theorem dX7_splitOf_32 : decode cX7_splitOf 32 = .ok (.iconst 0, 1) := by decide +kernel
theorem dX7_splitOf_33 : decode cX7_splitOf 33 = .ok (.invokevirtual 93, 3) := by decide +kernel
theorem dX7_splitOf_36 : decode cX7_splitOf 36 = .ok (.iconst 1, 1) := by decide +kernel
theorem dX7_splitOf_37 : decode cX7_splitOf 37 = .ok (.if_icmp .eq 15, 3) := by decide +kernel
theorem dX7_splitOf_40 : decode cX7_splitOf 40 = .ok (.aload_n 0, 1) := by decide +kernel
theorem dX7_splitOf_41 : decode cX7_splitOf 41 = .ok (.iload_n 1, 1) := by decide +kernel
theorem dX7_splitOf_42 : decode cX7_splitOf 42 = .ok (.iload 4, 2) := by decide +kernel
theorem dX7_splitOf_44 : decode cX7_splitOf 44 = .ok (.iconst 0, 1) := by decide +kernel
theorem dX7_splitOf_45 : decode cX7_splitOf 45 = .ok (.invokevirtual 93, 3) := by decide +kernel
theorem dX7_splitOf_48 : decode cX7_splitOf 48 = .ok (.iconst 3, 1) := by decide +kernel
theorem dX7_splitOf_49 : decode cX7_splitOf 49 = .ok (.if_icmp .ne 7, 3) := by decide +kernel
theorem dX7_splitOf_52 : decode cX7_splitOf 52 = .ok (.iconst 2, 1) := by decide +kernel
theorem dX7_splitOf_53 : decode cX7_splitOf 53 = .ok (.goto 4, 3) := by decide +kernel
theorem dX7_splitOf_56 : decode cX7_splitOf 56 = .ok (.iconst 1, 1) := by decide +kernel
theorem dX7_splitOf_57 : decode cX7_splitOf 57 = .ok (.istore 6, 2) := by decide +kernel
theorem dX7_splitOf_59 : decode cX7_splitOf 59 = .ok (.iload 4, 2) := by decide +kernel
theorem dX7_splitOf_61 : decode cX7_splitOf 61 = .ok (.istore 7, 2) := by decide +kernel
theorem dX7_splitOf_63 : decode cX7_splitOf 63 = .ok (.iload 7, 2) := by decide +kernel
theorem dX7_splitOf_65 : decode cX7_splitOf 65 = .ok (.ifCond .le 55, 3) := by decide +kernel
theorem dX7_splitOf_68 : decode cX7_splitOf 68 = .ok (.aload_n 0, 1) := by decide +kernel
theorem dX7_splitOf_69 : decode cX7_splitOf 69 = .ok (.getfield 47, 3) := by decide +kernel
theorem dX7_splitOf_72 : decode cX7_splitOf 72 = .ok (.iload 7, 2) := by decide +kernel
theorem dX7_splitOf_74 : decode cX7_splitOf 74 = .ok (.iconst 1, 1) := by decide +kernel
theorem dX7_splitOf_75 : decode cX7_splitOf 75 = .ok (.isub, 1) := by decide +kernel
theorem dX7_splitOf_76 : decode cX7_splitOf 76 = .ok (.iaload, 1) := by decide +kernel
theorem dX7_splitOf_77 : decode cX7_splitOf 77 = .ok (.iload 5, 2) := by decide +kernel
theorem dX7_splitOf_79 : decode cX7_splitOf 79 = .ok (.if_icmp .le 41, 3) := by decide +kernel
theorem dX7_splitOf_82 : decode cX7_splitOf 82 = .ok (.aload_n 0, 1) := by decide +kernel
theorem dX7_splitOf_83 : decode cX7_splitOf 83 = .ok (.getfield 47, 3) := by decide +kernel
theorem dX7_splitOf_86 : decode cX7_splitOf 86 = .ok (.iload 7, 2) := by decide +kernel
theorem dX7_splitOf_88 : decode cX7_splitOf 88 = .ok (.aload_n 0, 1) := by decide +kernel
theorem dX7_splitOf_89 : decode cX7_splitOf 89 = .ok (.getfield 47, 3) := by decide +kernel
theorem dX7_splitOf_92 : decode cX7_splitOf 92 = .ok (.iload 7, 2) := by decide +kernel
theorem dX7_splitOf_94 : decode cX7_splitOf 94 = .ok (.iconst 1, 1) := by decide +kernel
theorem dX7_splitOf_95 : decode cX7_splitOf 95 = .ok (.isub, 1) := by decide +kernel
theorem dX7_splitOf_96 : decode cX7_splitOf 96 = .ok (.iaload, 1) := by decide +kernel
theorem dX7_splitOf_97 : decode cX7_splitOf 97 = .ok (.iastore, 1) := by decide +kernel
theorem dX7_splitOf_98 : decode cX7_splitOf 98 = .ok (.aload_n 0, 1) := by decide +kernel
theorem dX7_splitOf_99 : decode cX7_splitOf 99 = .ok (.getfield 50, 3) := by decide +kernel
theorem dX7_splitOf_102 : decode cX7_splitOf 102 = .ok (.iload 7, 2) := by decide +kernel
theorem dX7_splitOf_104 : decode cX7_splitOf 104 = .ok (.aload_n 0, 1) := by decide +kernel
end
section
theorem dX7_splitOf_105 : decode cX7_splitOf 105 = .ok (.getfield 50, 3) := by decide +kernel
theorem dX7_splitOf_108 : decode cX7_splitOf 108 = .ok (.iload 7, 2) := by decide +kernel
theorem dX7_splitOf_110 : decode cX7_splitOf 110 = .ok (.iconst 1, 1) := by decide +kernel
theorem dX7_splitOf_111 : decode cX7_splitOf 111 = .ok (.isub, 1) := by decide +kernel
theorem dX7_splitOf_112 : decode cX7_splitOf 112 = .ok (.iaload, 1) := by decide +kernel
theorem dX7_splitOf_113 : decode cX7_splitOf 113 = .ok (.iastore, 1) := by decide +kernel
theorem dX7_splitOf_114 : decode cX7_splitOf 114 = .ok (.iinc 7 (-1), 3) := by decide +kernel
theorem dX7_splitOf_117 : decode cX7_splitOf 117 = .ok (.goto (-54), 3) := by decide +kernel
theorem dX7_splitOf_120 : decode cX7_splitOf 120 = .ok (.aload_n 0, 1) := by decide +kernel
theorem dX7_splitOf_121 : decode cX7_splitOf 121 = .ok (.getfield 47, 3) := by decide +kernel
theorem dX7_splitOf_124 : decode cX7_splitOf 124 = .ok (.iload 7, 2) := by decide +kernel
theorem dX7_splitOf_126 : decode cX7_splitOf 126 = .ok (.iload 5, 2) := by decide +kernel
theorem dX7_splitOf_128 : decode cX7_splitOf 128 = .ok (.iastore, 1) := by decide +kernel
theorem dX7_splitOf_129 : decode cX7_splitOf 129 = .ok (.aload_n 0, 1) := by decide +kernel
theorem dX7_splitOf_130 : decode cX7_splitOf 130 = .ok (.getfield 50, 3) := by decide +kernel
theorem dX7_splitOf_133 : decode cX7_splitOf 133 = .ok (.iload 7, 2) := by decide +kernel
theorem dX7_splitOf_135 : decode cX7_splitOf 135 = .ok (.iload 6, 2) := by decide +kernel
theorem dX7_splitOf_137 : decode cX7_splitOf 137 = .ok (.iastore, 1) := by decide +kernel
theorem dX7_splitOf_138 : decode cX7_splitOf 138 = .ok (.iinc 4 1, 3) := by decide +kernel
theorem dX7_splitOf_141 : decode cX7_splitOf 141 = .ok (.goto (-129), 3) := by decide +kernel
theorem dX7_splitOf_144 : decode cX7_splitOf 144 = .ok (.iconst 0, 1) := by decide +kernel
theorem dX7_splitOf_145 : decode cX7_splitOf 145 = .ok (.istore 4, 2) := by decide +kernel
theorem dX7_splitOf_147 : decode cX7_splitOf 147 = .ok (.iload 4, 2) := by decide +kernel
theorem dX7_splitOf_149 : decode cX7_splitOf 149 = .ok (.iload_n 3, 1) := by decide +kernel
theorem dX7_splitOf_150 : decode cX7_splitOf 150 = .ok (.if_icmp .gt 32, 3) := by decide +kernel
theorem dX7_splitOf_153 : decode cX7_splitOf 153 = .ok (.aload_n 0, 1) := by decide +kernel
theorem dX7_splitOf_154 : decode cX7_splitOf 154 = .ok (.iconst 0, 1) := by decide +kernel
theorem dX7_splitOf_155 : decode cX7_splitOf 155 = .ok (.iload 4, 2) := by decide +kernel
theorem dX7_splitOf_157 : decode cX7_splitOf 157 = .ok (.invokevirtual 159, 3) := by decide +kernel
theorem dX7_splitOf_160 : decode cX7_splitOf 160 = .ok (.ifCond .eq 16, 3) := by decide +kernel
theorem dX7_splitOf_163 : decode cX7_splitOf 163 = .ok (.aload_n 0, 1) := by decide +kernel
theorem dX7_splitOf_164 : decode cX7_splitOf 164 = .ok (.iload 4, 2) := by decide +kernel
theorem dX7_splitOf_166 : decode cX7_splitOf 166 = .ok (.iload_n 3, 1) := by decide +kernel
theorem dX7_splitOf_167 : decode cX7_splitOf 167 = .ok (.invokevirtual 159, 3) := by decide +kernel
theorem dX7_splitOf_170 : decode cX7_splitOf 170 = .ok (.ifCond .eq 6, 3) := by decide +kernel
theorem dX7_splitOf_173 : decode cX7_splitOf 173 = .ok (.iload 4, 2) := by decide +kernel
theorem dX7_splitOf_175 : decode cX7_splitOf 175 = .ok (.ireturn, 1) := by decide +kernel
theorem dX7_splitOf_176 : decode cX7_splitOf 176 = .ok (.iinc 4 1, 3) := by decide +kernel
theorem dX7_splitOf_179 : decode cX7_splitOf 179 = .ok (.goto (-32), 3) := by decide +kernel
theorem dX7_splitOf_182 : decode cX7_splitOf 182 = .ok (.iconst (-1), 1) := by decide +kernel
theorem dX7_splitOf_183 : decode cX7_splitOf 183 = .ok (.ireturn, 1) := by decide +kernel
theorem dX7_split_0 : decode cX7_split 0 = .ok (.iload_n 1, 1) := by decide +kernel
theorem dX7_split_1 : decode cX7_split 1 = .ok (.invokestatic 64, 3) := by decide +kernel
theorem dX7_split_4 : decode cX7_split 4 = .ok (.ifCond .eq 10, 3) := by decide +kernel
theorem dX7_split_7 : decode cX7_split 7 = .ok (.iload_n 2, 1) := by decide +kernel
theorem dX7_split_8 : decode cX7_split 8 = .ok (.invokestatic 115, 3) := by decide +kernel
theorem dX7_split_11 : decode cX7_split 11 = .ok (.ifCond .ne 10, 3) := by decide +kernel
theorem dX7_split_14 : decode cX7_split 14 = .ok (.aload_n 0, 1) := by decide +kernel
theorem dX7_split_15 : decode cX7_split 15 = .ok (.ldc 83, 2) := by decide +kernel
theorem dX7_split_17 : decode cX7_split 17 = .ok (.invokevirtual 72, 3) := by decide +kernel
theorem dX7_split_20 : decode cX7_split 20 = .ok (.ireturn, 1) := by decide +kernel
theorem dX7_split_21 : decode cX7_split 21 = .ok (.aload_n 0, 1) := by decide +kernel
theorem dX7_split_22 : decode cX7_split 22 = .ok (.iload_n 1, 1) := by decide +kernel
theorem dX7_split_23 : decode cX7_split 23 = .ok (.iload_n 2, 1) := by decide +kernel
theorem dX7_split_24 : decode cX7_split 24 = .ok (.invokevirtual 124, 3) := by decide +kernel
theorem dX7_split_27 : decode cX7_split 27 = .ok (.ifCond .ne 10, 3) := by decide +kernel
theorem dX7_split_30 : decode cX7_split 30 = .ok (.aload_n 0, 1) := by decide +kernel
theorem dX7_split_31 : decode cX7_split 31 = .ok (.ldc 97, 2) := by decide +kernel
theorem dX7_split_33 : decode cX7_split 33 = .ok (.invokevirtual 72, 3) := by decide +kernel
theorem dX7_split_36 : decode cX7_split 36 = .ok (.ireturn, 1) := by decide +kernel
theorem dX7_split_37 : decode cX7_split 37 = .ok (.aload_n 0, 1) := by decide +kernel
theorem dX7_split_38 : decode cX7_split 38 = .ok (.iload_n 1, 1) := by decide +kernel
theorem dX7_split_39 : decode cX7_split 39 = .ok (.iload_n 2, 1) := by decide +kernel
theorem dX7_split_40 : decode cX7_split 40 = .ok (.invokevirtual 162, 3) := by decide +kernel
theorem dX7_split_43 : decode cX7_split 43 = .ok (.istore_n 3, 1) := by decide +kernel
theorem dX7_split_44 : decode cX7_split 44 = .ok (.iload_n 3, 1) := by decide +kernel
theorem dX7_split_45 : decode cX7_split 45 = .ok (.ifCond .ge 12, 3) := by decide +kernel
theorem dX7_split_48 : decode cX7_split 48 = .ok (.aload_n 0, 1) := by decide +kernel
theorem dX7_split_49 : decode cX7_split 49 = .ok (.ldc 71, 2) := by decide +kernel
theorem dX7_split_51 : decode cX7_split 51 = .ok (.invokevirtual 72, 3) := by decide +kernel
theorem dX7_split_54 : decode cX7_split 54 = .ok (.goto 4, 3) := by decide +kernel
theorem dX7_split_57 : decode cX7_split 57 = .ok (.iload_n 3, 1) := by decide +kernel
theorem dX7_split_58 : decode cX7_split 58 = .ok (.ireturn, 1) := by decide +kernel
theorem dX7_hard_0 : decode cX7_hard 0 = .ok (.aload_n 0, 1) := by decide +kernel
theorem dX7_hard_1 : decode cX7_hard 1 = .ok (.invokevirtual 156, 3) := by decide +kernel
theorem dX7_hard_4 : decode cX7_hard 4 = .ok (.ldc 140, 2) := by decide +kernel
theorem dX7_hard_6 : decode cX7_hard 6 = .ok (.if_icmp .ne 10, 3) := by decide +kernel
theorem dX7_hard_9 : decode cX7_hard 9 = .ok (.aload_n 0, 1) := by decide +kernel
theorem dX7_hard_10 : decode cX7_hard 10 = .ok (.ldc 71, 2) := by decide +kernel
theorem dX7_hard_12 : decode cX7_hard 12 = .ok (.invokevirtual 72, 3) := by decide +kernel
theorem dX7_hard_15 : decode cX7_hard 15 = .ok (.ireturn, 1) := by decide +kernel
theorem dX7_hard_16 : decode cX7_hard 16 = .ok (.iconst 0, 1) := by decide +kernel
theorem dX7_hard_17 : decode cX7_hard 17 = .ok (.istore_n 1, 1) := by decide +kernel
theorem dX7_hard_18 : decode cX7_hard 18 = .ok (.iload_n 1, 1) := by decide +kernel
theorem dX7_hard_19 : decode cX7_hard 19 = .ok (.aload_n 0, 1) := by decide +kernel
theorem dX7_hard_20 : decode cX7_hard 20 = .ok (.getfield 7, 3) := by decide +kernel
theorem dX7_hard_23 : decode cX7_hard 23 = .ok (.iconst 0, 1) := by decide +kernel
theorem dX7_hard_24 : decode cX7_hard 24 = .ok (.iaload, 1) := by decide +kernel
theorem dX7_hard_25 : decode cX7_hard 25 = .ok (.if_icmp .ge 25, 3) := by decide +kernel
theorem dX7_hard_28 : decode cX7_hard 28 = .ok (.aload_n 0, 1) := by decide +kernel
theorem dX7_hard_29 : decode cX7_hard 29 = .ok (.iload_n 1, 1) := by decide +kernel
theorem dX7_hard_30 : decode cX7_hard 30 = .ok (.aload_n 0, 1) := by decide +kernel
theorem dX7_hard_31 : decode cX7_hard 31 = .ok (.getfield 37, 3) := by decide +kernel
theorem dX7_hard_34 : decode cX7_hard 34 = .ok (.iload_n 1, 1) := by decide +kernel
theorem dX7_hard_35 : decode cX7_hard 35 = .ok (.iaload, 1) := by decide +kernel
theorem dX7_hard_36 : decode cX7_hard 36 = .ok (.invokevirtual 162, 3) := by decide +kernel
theorem dX7_hard_39 : decode cX7_hard 39 = .ok (.ifCond .ge 5, 3) := by decide +kernel
theorem dX7_hard_42 : decode cX7_hard 42 = .ok (.iload_n 1, 1) := by decide +kernel
theorem dX7_hard_43 : decode cX7_hard 43 = .ok (.ireturn, 1) := by decide +kernel
theorem dX7_hard_44 : decode cX7_hard 44 = .ok (.iinc 1 1, 3) := by decide +kernel
theorem dX7_hard_47 : decode cX7_hard 47 = .ok (.goto (-29), 3) := by decide +kernel
theorem dX7_hard_50 : decode cX7_hard 50 = .ok (.iconst (-1), 1) := by decide +kernel
theorem dX7_hard_51 : decode cX7_hard 51 = .ok (.ireturn, 1) := by decide +kernel
theorem dX7_isRun_0 : decode cX7_isRun 0 = .ok (.iload_n 0, 1) := by decide +kernel
theorem dX7_isRun_1 : decode cX7_isRun 1 = .ok (.iconst 0, 1) := by decide +kernel
theorem dX7_isRun_2 : decode cX7_isRun 2 = .ok (.bipush 41, 2) := by decide +kernel
theorem dX7_isRun_4 : decode cX7_isRun 4 = .ok (.invokestatic 60, 3) := by decide +kernel
theorem dX7_isRun_7 : decode cX7_isRun 7 = .ok (.ifCond .eq 24, 3) := by decide +kernel
theorem dX7_isRun_10 : decode cX7_isRun 10 = .ok (.iload_n 1, 1) := by decide +kernel
theorem dX7_isRun_11 : decode cX7_isRun 11 = .ok (.iconst 0, 1) := by decide +kernel
theorem dX7_isRun_12 : decode cX7_isRun 12 = .ok (.bipush 41, 2) := by decide +kernel
theorem dX7_isRun_14 : decode cX7_isRun 14 = .ok (.invokestatic 60, 3) := by decide +kernel
theorem dX7_isRun_17 : decode cX7_isRun 17 = .ok (.ifCond .eq 14, 3) := by decide +kernel
theorem dX7_isRun_20 : decode cX7_isRun 20 = .ok (.iload_n 2, 1) := by decide +kernel
theorem dX7_isRun_21 : decode cX7_isRun 21 = .ok (.invokestatic 115, 3) := by decide +kernel
theorem dX7_isRun_24 : decode cX7_isRun 24 = .ok (.ifCond .eq 7, 3) := by decide +kernel
theorem dX7_isRun_27 : decode cX7_isRun 27 = .ok (.iconst 1, 1) := by decide +kernel
theorem dX7_isRun_28 : decode cX7_isRun 28 = .ok (.goto 4, 3) := by decide +kernel
theorem dX7_isRun_31 : decode cX7_isRun 31 = .ok (.iconst 0, 1) := by decide +kernel
theorem dX7_isRun_32 : decode cX7_isRun 32 = .ok (.ireturn, 1) := by decide +kernel
theorem dX7_run_0 : decode cX7_run 0 = .ok (.iload_n 1, 1) := by decide +kernel
theorem dX7_run_1 : decode cX7_run 1 = .ok (.iload_n 2, 1) := by decide +kernel
theorem dX7_run_2 : decode cX7_run 2 = .ok (.iload_n 3, 1) := by decide +kernel
theorem dX7_run_3 : decode cX7_run 3 = .ok (.invokestatic 165, 3) := by decide +kernel
theorem dX7_run_6 : decode cX7_run 6 = .ok (.ifCond .eq 26, 3) := by decide +kernel
theorem dX7_run_9 : decode cX7_run 9 = .ok (.iload 4, 2) := by decide +kernel
theorem dX7_run_11 : decode cX7_run 11 = .ok (.iconst 0, 1) := by decide +kernel
theorem dX7_run_12 : decode cX7_run 12 = .ok (.iload_n 1, 1) := by decide +kernel
theorem dX7_run_13 : decode cX7_run 13 = .ok (.iload_n 2, 1) := by decide +kernel
theorem dX7_run_14 : decode cX7_run 14 = .ok (.if_icmp .ge 9, 3) := by decide +kernel
theorem dX7_run_17 : decode cX7_run 17 = .ok (.iload_n 2, 1) := by decide +kernel
theorem dX7_run_18 : decode cX7_run 18 = .ok (.iload_n 1, 1) := by decide +kernel
theorem dX7_run_19 : decode cX7_run 19 = .ok (.isub, 1) := by decide +kernel
theorem dX7_run_20 : decode cX7_run 20 = .ok (.goto 6, 3) := by decide +kernel
theorem dX7_run_23 : decode cX7_run 23 = .ok (.iload_n 1, 1) := by decide +kernel
theorem dX7_run_24 : decode cX7_run 24 = .ok (.iload_n 2, 1) := by decide +kernel
theorem dX7_run_25 : decode cX7_run 25 = .ok (.isub, 1) := by decide +kernel
theorem dX7_run_26 : decode cX7_run 26 = .ok (.invokestatic 60, 3) := by decide +kernel
theorem dX7_run_29 : decode cX7_run 29 = .ok (.ifCond .ne 10, 3) := by decide +kernel
theorem dX7_run_32 : decode cX7_run 32 = .ok (.aload_n 0, 1) := by decide +kernel
theorem dX7_run_33 : decode cX7_run 33 = .ok (.ldc 83, 2) := by decide +kernel
theorem dX7_run_35 : decode cX7_run 35 = .ok (.invokevirtual 72, 3) := by decide +kernel
theorem dX7_run_38 : decode cX7_run 38 = .ok (.ireturn, 1) := by decide +kernel
theorem dX7_run_39 : decode cX7_run 39 = .ok (.iload_n 1, 1) := by decide +kernel
theorem dX7_run_40 : decode cX7_run 40 = .ok (.iload_n 2, 1) := by decide +kernel
theorem dX7_run_41 : decode cX7_run 41 = .ok (.if_icmp .ge 10, 3) := by decide +kernel
theorem dX7_run_44 : decode cX7_run 44 = .ok (.iload_n 1, 1) := by decide +kernel
theorem dX7_run_45 : decode cX7_run 45 = .ok (.iload 4, 2) := by decide +kernel
theorem dX7_run_47 : decode cX7_run 47 = .ok (.iadd, 1) := by decide +kernel
theorem dX7_run_48 : decode cX7_run 48 = .ok (.goto 7, 3) := by decide +kernel
theorem dX7_run_51 : decode cX7_run 51 = .ok (.iload_n 1, 1) := by decide +kernel
theorem dX7_run_52 : decode cX7_run 52 = .ok (.iload 4, 2) := by decide +kernel
theorem dX7_run_54 : decode cX7_run 54 = .ok (.isub, 1) := by decide +kernel
theorem dX7_run_55 : decode cX7_run 55 = .ok (.iload_n 3, 1) := by decide +kernel
theorem dX7_run_56 : decode cX7_run 56 = .ok (.invokestatic 118, 3) := by decide +kernel
theorem dX7_run_59 : decode cX7_run 59 = .ok (.ireturn, 1) := by decide +kernel
theorem dX7_plain_0 : decode cX7_plain 0 = .ok (.iload_n 1, 1) := by decide +kernel
theorem dX7_plain_1 : decode cX7_plain 1 = .ok (.iload_n 2, 1) := by decide +kernel
theorem dX7_plain_2 : decode cX7_plain 2 = .ok (.iload_n 3, 1) := by decide +kernel
theorem dX7_plain_3 : decode cX7_plain 3 = .ok (.invokestatic 165, 3) := by decide +kernel
theorem dX7_plain_6 : decode cX7_plain 6 = .ok (.ifCond .ne 10, 3) := by decide +kernel
theorem dX7_plain_9 : decode cX7_plain 9 = .ok (.aload_n 0, 1) := by decide +kernel
theorem dX7_plain_10 : decode cX7_plain 10 = .ok (.ldc 83, 2) := by decide +kernel
theorem dX7_plain_12 : decode cX7_plain 12 = .ok (.invokevirtual 72, 3) := by decide +kernel
theorem dX7_plain_15 : decode cX7_plain 15 = .ok (.ireturn, 1) := by decide +kernel
theorem dX7_plain_16 : decode cX7_plain 16 = .ok (.iload_n 1, 1) := by decide +kernel
theorem dX7_plain_17 : decode cX7_plain 17 = .ok (.iload_n 2, 1) := by decide +kernel
theorem dX7_plain_18 : decode cX7_plain 18 = .ok (.if_icmp .ge 7, 3) := by decide +kernel
theorem dX7_plain_21 : decode cX7_plain 21 = .ok (.iload_n 1, 1) := by decide +kernel
theorem dX7_plain_22 : decode cX7_plain 22 = .ok (.goto 4, 3) := by decide +kernel
theorem dX7_plain_25 : decode cX7_plain 25 = .ok (.iload_n 2, 1) := by decide +kernel
theorem dX7_plain_26 : decode cX7_plain 26 = .ok (.istore 4, 2) := by decide +kernel
theorem dX7_plain_28 : decode cX7_plain 28 = .ok (.iload_n 1, 1) := by decide +kernel
theorem dX7_plain_29 : decode cX7_plain 29 = .ok (.iload_n 2, 1) := by decide +kernel
theorem dX7_plain_30 : decode cX7_plain 30 = .ok (.if_icmp .ge 7, 3) := by decide +kernel
theorem dX7_plain_33 : decode cX7_plain 33 = .ok (.iload_n 2, 1) := by decide +kernel
theorem dX7_plain_34 : decode cX7_plain 34 = .ok (.goto 4, 3) := by decide +kernel
theorem dX7_plain_37 : decode cX7_plain 37 = .ok (.iload_n 1, 1) := by decide +kernel
theorem dX7_plain_38 : decode cX7_plain 38 = .ok (.istore 5, 2) := by decide +kernel
theorem dX7_plain_40 : decode cX7_plain 40 = .ok (.iconst 0, 1) := by decide +kernel
theorem dX7_plain_41 : decode cX7_plain 41 = .ok (.istore 6, 2) := by decide +kernel
theorem dX7_plain_43 : decode cX7_plain 43 = .ok (.iload 4, 2) := by decide +kernel
theorem dX7_plain_45 : decode cX7_plain 45 = .ok (.istore 7, 2) := by decide +kernel
theorem dX7_plain_47 : decode cX7_plain 47 = .ok (.iload 7, 2) := by decide +kernel
theorem dX7_plain_49 : decode cX7_plain 49 = .ok (.iload 5, 2) := by decide +kernel
theorem dX7_plain_51 : decode cX7_plain 51 = .ok (.if_icmp .gt 69, 3) := by decide +kernel
theorem dX7_plain_54 : decode cX7_plain 54 = .ok (.iconst 1, 1) := by decide +kernel
theorem dX7_plain_55 : decode cX7_plain 55 = .ok (.istore 8, 2) := by decide +kernel
theorem dX7_plain_57 : decode cX7_plain 57 = .ok (.iload 4, 2) := by decide +kernel
theorem dX7_plain_59 : decode cX7_plain 59 = .ok (.istore 9, 2) := by decide +kernel
theorem dX7_plain_61 : decode cX7_plain 61 = .ok (.iload 9, 2) := by decide +kernel
theorem dX7_plain_63 : decode cX7_plain 63 = .ok (.iload 7, 2) := by decide +kernel
theorem dX7_plain_65 : decode cX7_plain 65 = .ok (.if_icmp .ge 34, 3) := by decide +kernel
theorem dX7_plain_68 : decode cX7_plain 68 = .ok (.iload 8, 2) := by decide +kernel
theorem dX7_plain_70 : decode cX7_plain 70 = .ok (.iload 9, 2) := by decide +kernel
theorem dX7_plain_72 : decode cX7_plain 72 = .ok (.iload_n 3, 1) := by decide +kernel
theorem dX7_plain_73 : decode cX7_plain 73 = .ok (.invokestatic 118, 3) := by decide +kernel
theorem dX7_plain_76 : decode cX7_plain 76 = .ok (.iload 7, 2) := by decide +kernel
theorem dX7_plain_78 : decode cX7_plain 78 = .ok (.iload_n 3, 1) := by decide +kernel
theorem dX7_plain_79 : decode cX7_plain 79 = .ok (.invokestatic 118, 3) := by decide +kernel
theorem dX7_plain_82 : decode cX7_plain 82 = .ok (.if_icmp .eq 7, 3) := by decide +kernel
theorem dX7_plain_85 : decode cX7_plain 85 = .ok (.iconst 1, 1) := by decide +kernel
theorem dX7_plain_86 : decode cX7_plain 86 = .ok (.goto 4, 3) := by decide +kernel
theorem dX7_plain_89 : decode cX7_plain 89 = .ok (.iconst 0, 1) := by decide +kernel
theorem dX7_plain_90 : decode cX7_plain 90 = .ok (.iand, 1) := by decide +kernel
theorem dX7_plain_91 : decode cX7_plain 91 = .ok (.istore 8, 2) := by decide +kernel
theorem dX7_plain_93 : decode cX7_plain 93 = .ok (.iinc 9 1, 3) := by decide +kernel
theorem dX7_plain_96 : decode cX7_plain 96 = .ok (.goto (-35), 3) := by decide +kernel
theorem dX7_plain_99 : decode cX7_plain 99 = .ok (.iload 6, 2) := by decide +kernel
theorem dX7_plain_101 : decode cX7_plain 101 = .ok (.iload 8, 2) := by decide +kernel
theorem dX7_plain_103 : decode cX7_plain 103 = .ok (.ifCond .eq 7, 3) := by decide +kernel
theorem dX7_plain_106 : decode cX7_plain 106 = .ok (.iconst 1, 1) := by decide +kernel
theorem dX7_plain_107 : decode cX7_plain 107 = .ok (.goto 4, 3) := by decide +kernel
theorem dX7_plain_110 : decode cX7_plain 110 = .ok (.iconst 0, 1) := by decide +kernel
theorem dX7_plain_111 : decode cX7_plain 111 = .ok (.iadd, 1) := by decide +kernel
theorem dX7_plain_112 : decode cX7_plain 112 = .ok (.istore 6, 2) := by decide +kernel
theorem dX7_plain_114 : decode cX7_plain 114 = .ok (.iinc 7 1, 3) := by decide +kernel
theorem dX7_plain_117 : decode cX7_plain 117 = .ok (.goto (-70), 3) := by decide +kernel
theorem dX7_plain_120 : decode cX7_plain 120 = .ok (.iload 6, 2) := by decide +kernel
theorem dX7_plain_122 : decode cX7_plain 122 = .ok (.ireturn, 1) := by decide +kernel
theorem dX7_isSheet_0 : decode cX7_isSheet 0 = .ok (.iload_n 0, 1) := by decide +kernel
theorem dX7_isSheet_1 : decode cX7_isSheet 1 = .ok (.iconst 0, 1) := by decide +kernel
theorem dX7_isSheet_2 : decode cX7_isSheet 2 = .ok (.iconst 3, 1) := by decide +kernel
theorem dX7_isSheet_3 : decode cX7_isSheet 3 = .ok (.invokestatic 60, 3) := by decide +kernel
theorem dX7_isSheet_6 : decode cX7_isSheet 6 = .ok (.ireturn, 1) := by decide +kernel
theorem dX7_sheet_0 : decode cX7_sheet 0 = .ok (.iload_n 1, 1) := by decide +kernel
theorem dX7_sheet_1 : decode cX7_sheet 1 = .ok (.invokestatic 168, 3) := by decide +kernel
theorem dX7_sheet_4 : decode cX7_sheet 4 = .ok (.ifCond .eq 25, 3) := by decide +kernel
theorem dX7_sheet_7 : decode cX7_sheet 7 = .ok (.iload_n 2, 1) := by decide +kernel
theorem dX7_sheet_8 : decode cX7_sheet 8 = .ok (.ifCond .eq 28, 3) := by decide +kernel
theorem dX7_sheet_11 : decode cX7_sheet 11 = .ok (.iload_n 2, 1) := by decide +kernel
theorem dX7_sheet_12 : decode cX7_sheet 12 = .ok (.bipush 8, 2) := by decide +kernel
theorem dX7_sheet_14 : decode cX7_sheet 14 = .ok (.if_icmp .eq 22, 3) := by decide +kernel
theorem dX7_sheet_17 : decode cX7_sheet 17 = .ok (.iload_n 2, 1) := by decide +kernel
theorem dX7_sheet_18 : decode cX7_sheet 18 = .ok (.bipush 16, 2) := by decide +kernel
theorem dX7_sheet_20 : decode cX7_sheet 20 = .ok (.if_icmp .eq 16, 3) := by decide +kernel
theorem dX7_sheet_23 : decode cX7_sheet 23 = .ok (.iload_n 2, 1) := by decide +kernel
theorem dX7_sheet_24 : decode cX7_sheet 24 = .ok (.bipush 32, 2) := by decide +kernel
theorem dX7_sheet_26 : decode cX7_sheet 26 = .ok (.if_icmp .eq 10, 3) := by decide +kernel
theorem dX7_sheet_29 : decode cX7_sheet 29 = .ok (.aload_n 0, 1) := by decide +kernel
theorem dX7_sheet_30 : decode cX7_sheet 30 = .ok (.ldc 83, 2) := by decide +kernel
theorem dX7_sheet_32 : decode cX7_sheet 32 = .ok (.invokevirtual 72, 3) := by decide +kernel
theorem dX7_sheet_35 : decode cX7_sheet 35 = .ok (.ireturn, 1) := by decide +kernel
theorem dX7_sheet_36 : decode cX7_sheet 36 = .ok (.iload_n 3, 1) := by decide +kernel
theorem dX7_sheet_37 : decode cX7_sheet 37 = .ok (.ifCond .ge 10, 3) := by decide +kernel
theorem dX7_sheet_40 : decode cX7_sheet 40 = .ok (.aload_n 0, 1) := by decide +kernel
theorem dX7_sheet_41 : decode cX7_sheet 41 = .ok (.ldc 98, 2) := by decide +kernel
theorem dX7_sheet_43 : decode cX7_sheet 43 = .ok (.invokevirtual 72, 3) := by decide +kernel
theorem dX7_sheet_46 : decode cX7_sheet 46 = .ok (.ireturn, 1) := by decide +kernel
theorem dX7_sheet_47 : decode cX7_sheet 47 = .ok (.iload_n 3, 1) := by decide +kernel
theorem dX7_sheet_48 : decode cX7_sheet 48 = .ok (.bipush 30, 2) := by decide +kernel
theorem dX7_sheet_50 : decode cX7_sheet 50 = .ok (.if_icmp .le 10, 3) := by decide +kernel
theorem dX7_sheet_53 : decode cX7_sheet 53 = .ok (.aload_n 0, 1) := by decide +kernel
theorem dX7_sheet_54 : decode cX7_sheet 54 = .ok (.ldc 83, 2) := by decide +kernel
theorem dX7_sheet_56 : decode cX7_sheet 56 = .ok (.invokevirtual 72, 3) := by decide +kernel
theorem dX7_sheet_59 : decode cX7_sheet 59 = .ok (.ireturn, 1) := by decide +kernel
theorem dX7_sheet_60 : decode cX7_sheet 60 = .ok (.aload_n 0, 1) := by decide +kernel
theorem dX7_sheet_61 : decode cX7_sheet 61 = .ok (.getfield 16, 3) := by decide +kernel
theorem dX7_sheet_64 : decode cX7_sheet 64 = .ok (.iload_n 1, 1) := by decide +kernel
theorem dX7_sheet_65 : decode cX7_sheet 65 = .ok (.iload_n 2, 1) := by decide +kernel
theorem dX7_sheet_66 : decode cX7_sheet 66 = .ok (.iastore, 1) := by decide +kernel
theorem dX7_sheet_67 : decode cX7_sheet 67 = .ok (.aload_n 0, 1) := by decide +kernel
theorem dX7_sheet_68 : decode cX7_sheet 68 = .ok (.getfield 19, 3) := by decide +kernel
theorem dX7_sheet_71 : decode cX7_sheet 71 = .ok (.iload_n 1, 1) := by decide +kernel
theorem dX7_sheet_72 : decode cX7_sheet 72 = .ok (.iload_n 2, 1) := by decide +kernel
theorem dX7_sheet_73 : decode cX7_sheet 73 = .ok (.ifCond .ne 7, 3) := by decide +kernel
theorem dX7_sheet_76 : decode cX7_sheet 76 = .ok (.iconst 0, 1) := by decide +kernel
theorem dX7_sheet_77 : decode cX7_sheet 77 = .ok (.goto 4, 3) := by decide +kernel
theorem dX7_sheet_80 : decode cX7_sheet 80 = .ok (.iload_n 3, 1) := by decide +kernel
theorem dX7_sheet_81 : decode cX7_sheet 81 = .ok (.iastore, 1) := by decide +kernel
theorem dX7_sheet_82 : decode cX7_sheet 82 = .ok (.iconst 0, 1) := by decide +kernel
theorem dX7_sheet_83 : decode cX7_sheet 83 = .ok (.istore 4, 2) := by decide +kernel
theorem dX7_sheet_85 : decode cX7_sheet 85 = .ok (.iload 4, 2) := by decide +kernel
theorem dX7_sheet_87 : decode cX7_sheet 87 = .ok (.bipush 30, 2) := by decide +kernel
theorem dX7_sheet_89 : decode cX7_sheet 89 = .ok (.if_icmp .ge 22, 3) := by decide +kernel
theorem dX7_sheet_92 : decode cX7_sheet 92 = .ok (.aload_n 0, 1) := by decide +kernel
theorem dX7_sheet_93 : decode cX7_sheet 93 = .ok (.getfield 22, 3) := by decide +kernel
theorem dX7_sheet_96 : decode cX7_sheet 96 = .ok (.bipush 30, 2) := by decide +kernel
theorem dX7_sheet_98 : decode cX7_sheet 98 = .ok (.iload_n 1, 1) := by decide +kernel
theorem dX7_sheet_99 : decode cX7_sheet 99 = .ok (.imul, 1) := by decide +kernel
theorem dX7_sheet_100 : decode cX7_sheet 100 = .ok (.iload 4, 2) := by decide +kernel
theorem dX7_sheet_102 : decode cX7_sheet 102 = .ok (.iadd, 1) := by decide +kernel
theorem dX7_sheet_103 : decode cX7_sheet 103 = .ok (.iconst 0, 1) := by decide +kernel
theorem dX7_sheet_104 : decode cX7_sheet 104 = .ok (.iastore, 1) := by decide +kernel
theorem dX7_sheet_105 : decode cX7_sheet 105 = .ok (.iinc 4 1, 3) := by decide +kernel
theorem dX7_sheet_108 : decode cX7_sheet 108 = .ok (.goto (-23), 3) := by decide +kernel
theorem dX7_sheet_111 : decode cX7_sheet 111 = .ok (.aload_n 0, 1) := by decide +kernel
theorem dX7_sheet_112 : decode cX7_sheet 112 = .ok (.getfield 19, 3) := by decide +kernel
theorem dX7_sheet_115 : decode cX7_sheet 115 = .ok (.iload_n 1, 1) := by decide +kernel
theorem dX7_sheet_116 : decode cX7_sheet 116 = .ok (.iaload, 1) := by decide +kernel
theorem dX7_sheet_117 : decode cX7_sheet 117 = .ok (.ireturn, 1) := by decide +kernel
theorem dX7_put_0 : decode cX7_put 0 = .ok (.iload_n 1, 1) := by decide +kernel
theorem dX7_put_1 : decode cX7_put 1 = .ok (.invokestatic 168, 3) := by decide +kernel
theorem dX7_put_4 : decode cX7_put 4 = .ok (.ifCond .ne 10, 3) := by decide +kernel
theorem dX7_put_7 : decode cX7_put 7 = .ok (.aload_n 0, 1) := by decide +kernel
theorem dX7_put_8 : decode cX7_put 8 = .ok (.ldc 83, 2) := by decide +kernel
theorem dX7_put_10 : decode cX7_put 10 = .ok (.invokevirtual 72, 3) := by decide +kernel
theorem dX7_put_13 : decode cX7_put 13 = .ok (.ireturn, 1) := by decide +kernel
theorem dX7_put_14 : decode cX7_put 14 = .ok (.aload_n 0, 1) := by decide +kernel
theorem dX7_put_15 : decode cX7_put 15 = .ok (.getfield 16, 3) := by decide +kernel
theorem dX7_put_18 : decode cX7_put 18 = .ok (.iload_n 1, 1) := by decide +kernel
theorem dX7_put_19 : decode cX7_put 19 = .ok (.iaload, 1) := by decide +kernel
theorem dX7_put_20 : decode cX7_put 20 = .ok (.ifCond .ne 10, 3) := by decide +kernel
theorem dX7_put_23 : decode cX7_put 23 = .ok (.aload_n 0, 1) := by decide +kernel
theorem dX7_put_24 : decode cX7_put 24 = .ok (.ldc 171, 2) := by decide +kernel
theorem dX7_put_26 : decode cX7_put 26 = .ok (.invokevirtual 72, 3) := by decide +kernel
theorem dX7_put_29 : decode cX7_put 29 = .ok (.ireturn, 1) := by decide +kernel
theorem dX7_put_30 : decode cX7_put 30 = .ok (.iload_n 2, 1) := by decide +kernel
theorem dX7_put_31 : decode cX7_put 31 = .ok (.ifCond .lt 13, 3) := by decide +kernel
theorem dX7_put_34 : decode cX7_put 34 = .ok (.iload_n 2, 1) := by decide +kernel
theorem dX7_put_35 : decode cX7_put 35 = .ok (.aload_n 0, 1) := by decide +kernel
theorem dX7_put_36 : decode cX7_put 36 = .ok (.getfield 19, 3) := by decide +kernel
theorem dX7_put_39 : decode cX7_put 39 = .ok (.iload_n 1, 1) := by decide +kernel
theorem dX7_put_40 : decode cX7_put 40 = .ok (.iaload, 1) := by decide +kernel
theorem dX7_put_41 : decode cX7_put 41 = .ok (.if_icmp .lt 10, 3) := by decide +kernel
theorem dX7_put_44 : decode cX7_put 44 = .ok (.aload_n 0, 1) := by decide +kernel
theorem dX7_put_45 : decode cX7_put 45 = .ok (.ldc 83, 2) := by decide +kernel
theorem dX7_put_47 : decode cX7_put 47 = .ok (.invokevirtual 72, 3) := by decide +kernel
theorem dX7_put_50 : decode cX7_put 50 = .ok (.ireturn, 1) := by decide +kernel
theorem dX7_put_51 : decode cX7_put 51 = .ok (.aload_n 0, 1) := by decide +kernel
theorem dX7_put_52 : decode cX7_put 52 = .ok (.getfield 22, 3) := by decide +kernel
theorem dX7_put_55 : decode cX7_put 55 = .ok (.bipush 30, 2) := by decide +kernel
theorem dX7_put_57 : decode cX7_put 57 = .ok (.iload_n 1, 1) := by decide +kernel
theorem dX7_put_58 : decode cX7_put 58 = .ok (.imul, 1) := by decide +kernel
theorem dX7_put_59 : decode cX7_put 59 = .ok (.iload_n 2, 1) := by decide +kernel
theorem dX7_put_60 : decode cX7_put 60 = .ok (.iadd, 1) := by decide +kernel
theorem dX7_put_61 : decode cX7_put 61 = .ok (.aload_n 0, 1) := by decide +kernel
theorem dX7_put_62 : decode cX7_put 62 = .ok (.getfield 16, 3) := by decide +kernel
theorem dX7_put_65 : decode cX7_put 65 = .ok (.iload_n 1, 1) := by decide +kernel
theorem dX7_put_66 : decode cX7_put 66 = .ok (.iaload, 1) := by decide +kernel
theorem dX7_put_67 : decode cX7_put 67 = .ok (.bipush 8, 2) := by decide +kernel
theorem dX7_put_69 : decode cX7_put 69 = .ok (.if_icmp .ne 8, 3) := by decide +kernel
theorem dX7_put_72 : decode cX7_put 72 = .ok (.iload_n 3, 1) := by decide +kernel
theorem dX7_put_73 : decode cX7_put 73 = .ok (.i2b, 1) := by decide +kernel
theorem dX7_put_74 : decode cX7_put 74 = .ok (.goto 20, 3) := by decide +kernel
theorem dX7_put_77 : decode cX7_put 77 = .ok (.aload_n 0, 1) := by decide +kernel
theorem dX7_put_78 : decode cX7_put 78 = .ok (.getfield 16, 3) := by decide +kernel
theorem dX7_put_81 : decode cX7_put 81 = .ok (.iload_n 1, 1) := by decide +kernel
theorem dX7_put_82 : decode cX7_put 82 = .ok (.iaload, 1) := by decide +kernel
theorem dX7_put_83 : decode cX7_put 83 = .ok (.bipush 16, 2) := by decide +kernel
theorem dX7_put_85 : decode cX7_put 85 = .ok (.if_icmp .ne 8, 3) := by decide +kernel
theorem dX7_put_88 : decode cX7_put 88 = .ok (.iload_n 3, 1) := by decide +kernel
theorem dX7_put_89 : decode cX7_put 89 = .ok (.i2s, 1) := by decide +kernel
theorem dX7_put_90 : decode cX7_put 90 = .ok (.goto 4, 3) := by decide +kernel
theorem dX7_put_93 : decode cX7_put 93 = .ok (.iload_n 3, 1) := by decide +kernel
theorem dX7_put_94 : decode cX7_put 94 = .ok (.iastore, 1) := by decide +kernel
theorem dX7_put_95 : decode cX7_put 95 = .ok (.iconst 0, 1) := by decide +kernel
theorem dX7_put_96 : decode cX7_put 96 = .ok (.ireturn, 1) := by decide +kernel
theorem dX7_hasPart_0 : decode cX7_hasPart 0 = .ok (.iload_n 2, 1) := by decide +kernel
theorem dX7_hasPart_1 : decode cX7_hasPart 1 = .ok (.ifCond .lt 33, 3) := by decide +kernel
theorem dX7_hasPart_4 : decode cX7_hasPart 4 = .ok (.iload_n 3, 1) := by decide +kernel
theorem dX7_hasPart_5 : decode cX7_hasPart 5 = .ok (.ifCond .lt 29, 3) := by decide +kernel
theorem dX7_hasPart_8 : decode cX7_hasPart 8 = .ok (.iload_n 3, 1) := by decide +kernel
theorem dX7_hasPart_9 : decode cX7_hasPart 9 = .ok (.aload_n 0, 1) := by decide +kernel
theorem dX7_hasPart_10 : decode cX7_hasPart 10 = .ok (.getfield 19, 3) := by decide +kernel
theorem dX7_hasPart_13 : decode cX7_hasPart 13 = .ok (.iload_n 1, 1) := by decide +kernel
theorem dX7_hasPart_14 : decode cX7_hasPart 14 = .ok (.iaload, 1) := by decide +kernel
theorem dX7_hasPart_15 : decode cX7_hasPart 15 = .ok (.if_icmp .gt 19, 3) := by decide +kernel
theorem dX7_hasPart_18 : decode cX7_hasPart 18 = .ok (.iload_n 2, 1) := by decide +kernel
theorem dX7_hasPart_19 : decode cX7_hasPart 19 = .ok (.aload_n 0, 1) := by decide +kernel
theorem dX7_hasPart_20 : decode cX7_hasPart 20 = .ok (.getfield 19, 3) := by decide +kernel
theorem dX7_hasPart_23 : decode cX7_hasPart 23 = .ok (.iload_n 1, 1) := by decide +kernel
theorem dX7_hasPart_24 : decode cX7_hasPart 24 = .ok (.iaload, 1) := by decide +kernel
theorem dX7_hasPart_25 : decode cX7_hasPart 25 = .ok (.iload_n 3, 1) := by decide +kernel
theorem dX7_hasPart_26 : decode cX7_hasPart 26 = .ok (.isub, 1) := by decide +kernel
theorem dX7_hasPart_27 : decode cX7_hasPart 27 = .ok (.if_icmp .gt 7, 3) := by decide +kernel
theorem dX7_hasPart_30 : decode cX7_hasPart 30 = .ok (.iconst 1, 1) := by decide +kernel
theorem dX7_hasPart_31 : decode cX7_hasPart 31 = .ok (.goto 4, 3) := by decide +kernel
theorem dX7_hasPart_34 : decode cX7_hasPart 34 = .ok (.iconst 0, 1) := by decide +kernel
theorem dX7_hasPart_35 : decode cX7_hasPart 35 = .ok (.ireturn, 1) := by decide +kernel
theorem dX7_copy_0 : decode cX7_copy 0 = .ok (.iload_n 1, 1) := by decide +kernel
theorem dX7_copy_1 : decode cX7_copy 1 = .ok (.invokestatic 168, 3) := by decide +kernel
theorem dX7_copy_4 : decode cX7_copy 4 = .ok (.ifCond .eq 10, 3) := by decide +kernel
theorem dX7_copy_7 : decode cX7_copy 7 = .ok (.iload_n 3, 1) := by decide +kernel
theorem dX7_copy_8 : decode cX7_copy 8 = .ok (.invokestatic 168, 3) := by decide +kernel
theorem dX7_copy_11 : decode cX7_copy 11 = .ok (.ifCond .ne 10, 3) := by decide +kernel
theorem dX7_copy_14 : decode cX7_copy 14 = .ok (.aload_n 0, 1) := by decide +kernel
theorem dX7_copy_15 : decode cX7_copy 15 = .ok (.ldc 83, 2) := by decide +kernel
theorem dX7_copy_17 : decode cX7_copy 17 = .ok (.invokevirtual 72, 3) := by decide +kernel
theorem dX7_copy_20 : decode cX7_copy 20 = .ok (.ireturn, 1) := by decide +kernel
theorem dX7_copy_21 : decode cX7_copy 21 = .ok (.aload_n 0, 1) := by decide +kernel
theorem dX7_copy_22 : decode cX7_copy 22 = .ok (.getfield 16, 3) := by decide +kernel
theorem dX7_copy_25 : decode cX7_copy 25 = .ok (.iload_n 1, 1) := by decide +kernel
theorem dX7_copy_26 : decode cX7_copy 26 = .ok (.iaload, 1) := by decide +kernel
theorem dX7_copy_27 : decode cX7_copy 27 = .ok (.ifCond .eq 12, 3) := by decide +kernel
theorem dX7_copy_30 : decode cX7_copy 30 = .ok (.aload_n 0, 1) := by decide +kernel
theorem dX7_copy_31 : decode cX7_copy 31 = .ok (.getfield 16, 3) := by decide +kernel
theorem dX7_copy_34 : decode cX7_copy 34 = .ok (.iload_n 3, 1) := by decide +kernel
theorem dX7_copy_35 : decode cX7_copy 35 = .ok (.iaload, 1) := by decide +kernel
theorem dX7_copy_36 : decode cX7_copy 36 = .ok (.ifCond .ne 10, 3) := by decide +kernel
theorem dX7_copy_39 : decode cX7_copy 39 = .ok (.aload_n 0, 1) := by decide +kernel
theorem dX7_copy_40 : decode cX7_copy 40 = .ok (.ldc 171, 2) := by decide +kernel
theorem dX7_copy_42 : decode cX7_copy 42 = .ok (.invokevirtual 72, 3) := by decide +kernel
theorem dX7_copy_45 : decode cX7_copy 45 = .ok (.ireturn, 1) := by decide +kernel
theorem dX7_copy_46 : decode cX7_copy 46 = .ok (.aload_n 0, 1) := by decide +kernel
theorem dX7_copy_47 : decode cX7_copy 47 = .ok (.getfield 16, 3) := by decide +kernel
theorem dX7_copy_50 : decode cX7_copy 50 = .ok (.iload_n 1, 1) := by decide +kernel
theorem dX7_copy_51 : decode cX7_copy 51 = .ok (.iaload, 1) := by decide +kernel
theorem dX7_copy_52 : decode cX7_copy 52 = .ok (.aload_n 0, 1) := by decide +kernel
theorem dX7_copy_53 : decode cX7_copy 53 = .ok (.getfield 16, 3) := by decide +kernel
theorem dX7_copy_56 : decode cX7_copy 56 = .ok (.iload_n 3, 1) := by decide +kernel
theorem dX7_copy_57 : decode cX7_copy 57 = .ok (.iaload, 1) := by decide +kernel
theorem dX7_copy_58 : decode cX7_copy 58 = .ok (.if_icmp .eq 10, 3) := by decide +kernel
theorem dX7_copy_61 : decode cX7_copy 61 = .ok (.aload_n 0, 1) := by decide +kernel
theorem dX7_copy_62 : decode cX7_copy 62 = .ok (.ldc 97, 2) := by decide +kernel
theorem dX7_copy_64 : decode cX7_copy 64 = .ok (.invokevirtual 72, 3) := by decide +kernel
theorem dX7_copy_67 : decode cX7_copy 67 = .ok (.ireturn, 1) := by decide +kernel
theorem dX7_copy_68 : decode cX7_copy 68 = .ok (.aload_n 0, 1) := by decide +kernel
theorem dX7_copy_69 : decode cX7_copy 69 = .ok (.iload_n 1, 1) := by decide +kernel
theorem dX7_copy_70 : decode cX7_copy 70 = .ok (.iload_n 2, 1) := by decide +kernel
theorem dX7_copy_71 : decode cX7_copy 71 = .ok (.iload 5, 2) := by decide +kernel
theorem dX7_copy_73 : decode cX7_copy 73 = .ok (.invokevirtual 172, 3) := by decide +kernel
theorem dX7_copy_76 : decode cX7_copy 76 = .ok (.ifCond .eq 15, 3) := by decide +kernel
theorem dX7_copy_79 : decode cX7_copy 79 = .ok (.aload_n 0, 1) := by decide +kernel
theorem dX7_copy_80 : decode cX7_copy 80 = .ok (.iload_n 3, 1) := by decide +kernel
theorem dX7_copy_81 : decode cX7_copy 81 = .ok (.iload 4, 2) := by decide +kernel
theorem dX7_copy_83 : decode cX7_copy 83 = .ok (.iload 5, 2) := by decide +kernel
theorem dX7_copy_85 : decode cX7_copy 85 = .ok (.invokevirtual 172, 3) := by decide +kernel
theorem dX7_copy_88 : decode cX7_copy 88 = .ok (.ifCond .ne 10, 3) := by decide +kernel
theorem dX7_copy_91 : decode cX7_copy 91 = .ok (.aload_n 0, 1) := by decide +kernel
theorem dX7_copy_92 : decode cX7_copy 92 = .ok (.ldc 83, 2) := by decide +kernel
theorem dX7_copy_94 : decode cX7_copy 94 = .ok (.invokevirtual 72, 3) := by decide +kernel
theorem dX7_copy_97 : decode cX7_copy 97 = .ok (.ireturn, 1) := by decide +kernel
theorem dX7_copy_98 : decode cX7_copy 98 = .ok (.iconst 0, 1) := by decide +kernel
theorem dX7_copy_99 : decode cX7_copy 99 = .ok (.istore 6, 2) := by decide +kernel
theorem dX7_copy_101 : decode cX7_copy 101 = .ok (.iload 6, 2) := by decide +kernel
theorem dX7_copy_103 : decode cX7_copy 103 = .ok (.iload 5, 2) := by decide +kernel
theorem dX7_copy_105 : decode cX7_copy 105 = .ok (.if_icmp .ge 30, 3) := by decide +kernel
theorem dX7_copy_108 : decode cX7_copy 108 = .ok (.aload_n 0, 1) := by decide +kernel
theorem dX7_copy_109 : decode cX7_copy 109 = .ok (.getfield 53, 3) := by decide +kernel
theorem dX7_copy_112 : decode cX7_copy 112 = .ok (.iload 6, 2) := by decide +kernel
theorem dX7_copy_114 : decode cX7_copy 114 = .ok (.aload_n 0, 1) := by decide +kernel
theorem dX7_copy_115 : decode cX7_copy 115 = .ok (.getfield 22, 3) := by decide +kernel
theorem dX7_copy_118 : decode cX7_copy 118 = .ok (.bipush 30, 2) := by decide +kernel
theorem dX7_copy_120 : decode cX7_copy 120 = .ok (.iload_n 1, 1) := by decide +kernel
theorem dX7_copy_121 : decode cX7_copy 121 = .ok (.imul, 1) := by decide +kernel
theorem dX7_copy_122 : decode cX7_copy 122 = .ok (.iload_n 2, 1) := by decide +kernel
theorem dX7_copy_123 : decode cX7_copy 123 = .ok (.iadd, 1) := by decide +kernel
theorem dX7_copy_124 : decode cX7_copy 124 = .ok (.iload 6, 2) := by decide +kernel
theorem dX7_copy_126 : decode cX7_copy 126 = .ok (.iadd, 1) := by decide +kernel
theorem dX7_copy_127 : decode cX7_copy 127 = .ok (.iaload, 1) := by decide +kernel
theorem dX7_copy_128 : decode cX7_copy 128 = .ok (.iastore, 1) := by decide +kernel
theorem dX7_copy_129 : decode cX7_copy 129 = .ok (.iinc 6 1, 3) := by decide +kernel
theorem dX7_copy_132 : decode cX7_copy 132 = .ok (.goto (-31), 3) := by decide +kernel
theorem dX7_copy_135 : decode cX7_copy 135 = .ok (.iconst 0, 1) := by decide +kernel
theorem dX7_copy_136 : decode cX7_copy 136 = .ok (.istore 6, 2) := by decide +kernel
theorem dX7_copy_138 : decode cX7_copy 138 = .ok (.iload 6, 2) := by decide +kernel
theorem dX7_copy_140 : decode cX7_copy 140 = .ok (.iload 5, 2) := by decide +kernel
theorem dX7_copy_142 : decode cX7_copy 142 = .ok (.if_icmp .ge 31, 3) := by decide +kernel
theorem dX7_copy_145 : decode cX7_copy 145 = .ok (.aload_n 0, 1) := by decide +kernel
theorem dX7_copy_146 : decode cX7_copy 146 = .ok (.getfield 22, 3) := by decide +kernel
theorem dX7_copy_149 : decode cX7_copy 149 = .ok (.bipush 30, 2) := by decide +kernel
theorem dX7_copy_151 : decode cX7_copy 151 = .ok (.iload_n 3, 1) := by decide +kernel
theorem dX7_copy_152 : decode cX7_copy 152 = .ok (.imul, 1) := by decide +kernel
theorem dX7_copy_153 : decode cX7_copy 153 = .ok (.iload 4, 2) := by decide +kernel
theorem dX7_copy_155 : decode cX7_copy 155 = .ok (.iadd, 1) := by decide +kernel
theorem dX7_copy_156 : decode cX7_copy 156 = .ok (.iload 6, 2) := by decide +kernel
theorem dX7_copy_158 : decode cX7_copy 158 = .ok (.iadd, 1) := by decide +kernel
theorem dX7_copy_159 : decode cX7_copy 159 = .ok (.aload_n 0, 1) := by decide +kernel
theorem dX7_copy_160 : decode cX7_copy 160 = .ok (.getfield 53, 3) := by decide +kernel
theorem dX7_copy_163 : decode cX7_copy 163 = .ok (.iload 6, 2) := by decide +kernel
theorem dX7_copy_165 : decode cX7_copy 165 = .ok (.iaload, 1) := by decide +kernel
theorem dX7_copy_166 : decode cX7_copy 166 = .ok (.iastore, 1) := by decide +kernel
theorem dX7_copy_167 : decode cX7_copy 167 = .ok (.iinc 6 1, 3) := by decide +kernel
theorem dX7_copy_170 : decode cX7_copy 170 = .ok (.goto (-32), 3) := by decide +kernel
theorem dX7_copy_173 : decode cX7_copy 173 = .ok (.iload 5, 2) := by decide +kernel
theorem dX7_copy_175 : decode cX7_copy 175 = .ok (.ireturn, 1) := by decide +kernel
theorem dX7_tune_0 : decode cX7_tune 0 = .ok (.iload_n 1, 1) := by decide +kernel
theorem dX7_tune_1 : decode cX7_tune 1 = .ok (.invokestatic 168, 3) := by decide +kernel
theorem dX7_tune_4 : decode cX7_tune 4 = .ok (.ifCond .ne 10, 3) := by decide +kernel
theorem dX7_tune_7 : decode cX7_tune 7 = .ok (.aload_n 0, 1) := by decide +kernel
theorem dX7_tune_8 : decode cX7_tune 8 = .ok (.ldc 83, 2) := by decide +kernel
theorem dX7_tune_10 : decode cX7_tune 10 = .ok (.invokevirtual 72, 3) := by decide +kernel
theorem dX7_tune_13 : decode cX7_tune 13 = .ok (.ireturn, 1) := by decide +kernel
theorem dX7_tune_14 : decode cX7_tune 14 = .ok (.aload_n 0, 1) := by decide +kernel
theorem dX7_tune_15 : decode cX7_tune 15 = .ok (.getfield 16, 3) := by decide +kernel
theorem dX7_tune_18 : decode cX7_tune 18 = .ok (.iload_n 1, 1) := by decide +kernel
theorem dX7_tune_19 : decode cX7_tune 19 = .ok (.iaload, 1) := by decide +kernel
theorem dX7_tune_20 : decode cX7_tune 20 = .ok (.ifCond .ne 10, 3) := by decide +kernel
theorem dX7_tune_23 : decode cX7_tune 23 = .ok (.aload_n 0, 1) := by decide +kernel
theorem dX7_tune_24 : decode cX7_tune 24 = .ok (.ldc 171, 2) := by decide +kernel
theorem dX7_tune_26 : decode cX7_tune 26 = .ok (.invokevirtual 72, 3) := by decide +kernel
theorem dX7_tune_29 : decode cX7_tune 29 = .ok (.ireturn, 1) := by decide +kernel
theorem dX7_tune_30 : decode cX7_tune 30 = .ok (.aload_n 0, 1) := by decide +kernel
theorem dX7_tune_31 : decode cX7_tune 31 = .ok (.getfield 19, 3) := by decide +kernel
theorem dX7_tune_34 : decode cX7_tune 34 = .ok (.iload_n 1, 1) := by decide +kernel
theorem dX7_tune_35 : decode cX7_tune 35 = .ok (.iaload, 1) := by decide +kernel
theorem dX7_tune_36 : decode cX7_tune 36 = .ok (.bipush 12, 2) := by decide +kernel
theorem dX7_tune_38 : decode cX7_tune 38 = .ok (.if_icmp .le 10, 3) := by decide +kernel
theorem dX7_tune_41 : decode cX7_tune 41 = .ok (.aload_n 0, 1) := by decide +kernel
theorem dX7_tune_42 : decode cX7_tune 42 = .ok (.ldc 98, 2) := by decide +kernel
theorem dX7_tune_44 : decode cX7_tune 44 = .ok (.invokevirtual 72, 3) := by decide +kernel
theorem dX7_tune_47 : decode cX7_tune 47 = .ok (.ireturn, 1) := by decide +kernel
theorem dX7_tune_48 : decode cX7_tune 48 = .ok (.iconst 0, 1) := by decide +kernel
theorem dX7_tune_49 : decode cX7_tune 49 = .ok (.istore_n 2, 1) := by decide +kernel
theorem dX7_tune_50 : decode cX7_tune 50 = .ok (.iload_n 2, 1) := by decide +kernel
theorem dX7_tune_51 : decode cX7_tune 51 = .ok (.aload_n 0, 1) := by decide +kernel
theorem dX7_tune_52 : decode cX7_tune 52 = .ok (.getfield 19, 3) := by decide +kernel
theorem dX7_tune_55 : decode cX7_tune 55 = .ok (.iload_n 1, 1) := by decide +kernel
theorem dX7_tune_56 : decode cX7_tune 56 = .ok (.iaload, 1) := by decide +kernel
theorem dX7_tune_57 : decode cX7_tune 57 = .ok (.if_icmp .ge 32, 3) := by decide +kernel
theorem dX7_tune_60 : decode cX7_tune 60 = .ok (.aload_n 0, 1) := by decide +kernel
theorem dX7_tune_61 : decode cX7_tune 61 = .ok (.getfield 22, 3) := by decide +kernel
theorem dX7_tune_64 : decode cX7_tune 64 = .ok (.bipush 30, 2) := by decide +kernel
theorem dX7_tune_66 : decode cX7_tune 66 = .ok (.iload_n 1, 1) := by decide +kernel
theorem dX7_tune_67 : decode cX7_tune 67 = .ok (.imul, 1) := by decide +kernel
theorem dX7_tune_68 : decode cX7_tune 68 = .ok (.iload_n 2, 1) := by decide +kernel
theorem dX7_tune_69 : decode cX7_tune 69 = .ok (.iadd, 1) := by decide +kernel
theorem dX7_tune_70 : decode cX7_tune 70 = .ok (.iaload, 1) := by decide +kernel
theorem dX7_tune_71 : decode cX7_tune 71 = .ok (.bipush 100, 2) := by decide +kernel
theorem dX7_tune_73 : decode cX7_tune 73 = .ok (.if_icmp .le 10, 3) := by decide +kernel
theorem dX7_tune_76 : decode cX7_tune 76 = .ok (.aload_n 0, 1) := by decide +kernel
theorem dX7_tune_77 : decode cX7_tune 77 = .ok (.ldc 83, 2) := by decide +kernel
theorem dX7_tune_79 : decode cX7_tune 79 = .ok (.invokevirtual 72, 3) := by decide +kernel
theorem dX7_tune_82 : decode cX7_tune 82 = .ok (.ireturn, 1) := by decide +kernel
theorem dX7_tune_83 : decode cX7_tune 83 = .ok (.iinc 2 1, 3) := by decide +kernel
theorem dX7_tune_86 : decode cX7_tune 86 = .ok (.goto (-36), 3) := by decide +kernel
theorem dX7_tune_89 : decode cX7_tune 89 = .ok (.aload_n 0, 1) := by decide +kernel
theorem dX7_tune_90 : decode cX7_tune 90 = .ok (.invokevirtual 76, 3) := by decide +kernel
theorem dX7_tune_93 : decode cX7_tune 93 = .ok (.iconst 0, 1) := by decide +kernel
theorem dX7_tune_94 : decode cX7_tune 94 = .ok (.istore_n 2, 1) := by decide +kernel
theorem dX7_tune_95 : decode cX7_tune 95 = .ok (.iconst 0, 1) := by decide +kernel
theorem dX7_tune_96 : decode cX7_tune 96 = .ok (.istore_n 3, 1) := by decide +kernel
theorem dX7_tune_97 : decode cX7_tune 97 = .ok (.iload_n 3, 1) := by decide +kernel
theorem dX7_tune_98 : decode cX7_tune 98 = .ok (.aload_n 0, 1) := by decide +kernel
theorem dX7_tune_99 : decode cX7_tune 99 = .ok (.getfield 19, 3) := by decide +kernel
theorem dX7_tune_102 : decode cX7_tune 102 = .ok (.iload_n 1, 1) := by decide +kernel
theorem dX7_tune_103 : decode cX7_tune 103 = .ok (.iaload, 1) := by decide +kernel
theorem dX7_tune_104 : decode cX7_tune 104 = .ok (.if_icmp .ge 62, 3) := by decide +kernel
theorem dX7_tune_107 : decode cX7_tune 107 = .ok (.aload_n 0, 1) := by decide +kernel
theorem dX7_tune_108 : decode cX7_tune 108 = .ok (.getfield 22, 3) := by decide +kernel
theorem dX7_tune_111 : decode cX7_tune 111 = .ok (.bipush 30, 2) := by decide +kernel
theorem dX7_tune_113 : decode cX7_tune 113 = .ok (.iload_n 1, 1) := by decide +kernel
theorem dX7_tune_114 : decode cX7_tune 114 = .ok (.imul, 1) := by decide +kernel
theorem dX7_tune_115 : decode cX7_tune 115 = .ok (.iload_n 3, 1) := by decide +kernel
theorem dX7_tune_116 : decode cX7_tune 116 = .ok (.iadd, 1) := by decide +kernel
theorem dX7_tune_117 : decode cX7_tune 117 = .ok (.iaload, 1) := by decide +kernel
theorem dX7_tune_118 : decode cX7_tune 118 = .ok (.istore 4, 2) := by decide +kernel
theorem dX7_tune_120 : decode cX7_tune 120 = .ok (.aload_n 0, 1) := by decide +kernel
theorem dX7_tune_121 : decode cX7_tune 121 = .ok (.getfield 7, 3) := by decide +kernel
theorem dX7_tune_124 : decode cX7_tune 124 = .ok (.iconst 1, 1) := by decide +kernel
theorem dX7_tune_125 : decode cX7_tune 125 = .ok (.iload_n 3, 1) := by decide +kernel
theorem dX7_tune_126 : decode cX7_tune 126 = .ok (.iadd, 1) := by decide +kernel
theorem dX7_tune_127 : decode cX7_tune 127 = .ok (.iload 4, 2) := by decide +kernel
theorem dX7_tune_129 : decode cX7_tune 129 = .ok (.iconst (-1), 1) := by decide +kernel
theorem dX7_tune_130 : decode cX7_tune 130 = .ok (.if_icmp .ge 7, 3) := by decide +kernel
theorem dX7_tune_133 : decode cX7_tune 133 = .ok (.iconst 0, 1) := by decide +kernel
theorem dX7_tune_134 : decode cX7_tune 134 = .ok (.goto 4, 3) := by decide +kernel
theorem dX7_tune_137 : decode cX7_tune 137 = .ok (.iconst 1, 1) := by decide +kernel
theorem dX7_tune_138 : decode cX7_tune 138 = .ok (.iastore, 1) := by decide +kernel
theorem dX7_tune_139 : decode cX7_tune 139 = .ok (.aload_n 0, 1) := by decide +kernel
theorem dX7_tune_140 : decode cX7_tune 140 = .ok (.iload_n 3, 1) := by decide +kernel
theorem dX7_tune_141 : decode cX7_tune 141 = .ok (.iconst 0, 1) := by decide +kernel
theorem dX7_tune_142 : decode cX7_tune 142 = .ok (.iconst 0, 1) := by decide +kernel
theorem dX7_tune_143 : decode cX7_tune 143 = .ok (.iload 4, 2) := by decide +kernel
theorem dX7_tune_145 : decode cX7_tune 145 = .ok (.iconst 0, 1) := by decide +kernel
theorem dX7_tune_146 : decode cX7_tune 146 = .ok (.invokevirtual 85, 3) := by decide +kernel
theorem dX7_tune_149 : decode cX7_tune 149 = .ok (.iload_n 2, 1) := by decide +kernel
theorem dX7_tune_150 : decode cX7_tune 150 = .ok (.aload_n 0, 1) := by decide +kernel
theorem dX7_tune_151 : decode cX7_tune 151 = .ok (.getfield 7, 3) := by decide +kernel
theorem dX7_tune_154 : decode cX7_tune 154 = .ok (.iconst 1, 1) := by decide +kernel
theorem dX7_tune_155 : decode cX7_tune 155 = .ok (.iload_n 3, 1) := by decide +kernel
theorem dX7_tune_156 : decode cX7_tune 156 = .ok (.iadd, 1) := by decide +kernel
theorem dX7_tune_157 : decode cX7_tune 157 = .ok (.iaload, 1) := by decide +kernel
theorem dX7_tune_158 : decode cX7_tune 158 = .ok (.iadd, 1) := by decide +kernel
theorem dX7_tune_159 : decode cX7_tune 159 = .ok (.istore_n 2, 1) := by decide +kernel
theorem dX7_tune_160 : decode cX7_tune 160 = .ok (.iinc 3 1, 3) := by decide +kernel
theorem dX7_tune_163 : decode cX7_tune 163 = .ok (.goto (-66), 3) := by decide +kernel
theorem dX7_tune_166 : decode cX7_tune 166 = .ok (.iload_n 2, 1) := by decide +kernel
theorem dX7_tune_167 : decode cX7_tune 167 = .ok (.ireturn, 1) := by decide +kernel
theorem dX7_all_0 : decode cX7_all 0 = .ok (.iconst 0, 1) := by decide +kernel
theorem dX7_all_1 : decode cX7_all 1 = .ok (.istore_n 2, 1) := by decide +kernel
theorem dX7_all_2 : decode cX7_all 2 = .ok (.iload_n 1, 1) := by decide +kernel
theorem dX7_all_3 : decode cX7_all 3 = .ok (.tableswitch 82 0 3 #[29, 36, 41, 77], 29) := by decide +kernel
theorem dX7_all_32 : decode cX7_all 32 = .ok (.aload_n 0, 1) := by decide +kernel
theorem dX7_all_33 : decode cX7_all 33 = .ok (.getfield 7, 3) := by decide +kernel
theorem dX7_all_36 : decode cX7_all 36 = .ok (.iconst 0, 1) := by decide +kernel
theorem dX7_all_37 : decode cX7_all 37 = .ok (.iaload, 1) := by decide +kernel
theorem dX7_all_38 : decode cX7_all 38 = .ok (.ireturn, 1) := by decide +kernel
theorem dX7_all_39 : decode cX7_all 39 = .ok (.aload_n 0, 1) := by decide +kernel
theorem dX7_all_40 : decode cX7_all 40 = .ok (.invokevirtual 99, 3) := by decide +kernel
theorem dX7_all_43 : decode cX7_all 43 = .ok (.ireturn, 1) := by decide +kernel
theorem dX7_all_44 : decode cX7_all 44 = .ok (.sipush 229, 3) := by decide +kernel
theorem dX7_all_47 : decode cX7_all 47 = .ok (.istore_n 3, 1) := by decide +kernel
theorem dX7_all_48 : decode cX7_all 48 = .ok (.iload_n 3, 1) := by decide +kernel
theorem dX7_all_49 : decode cX7_all 49 = .ok (.sipush 313, 3) := by decide +kernel
theorem dX7_all_52 : decode cX7_all 52 = .ok (.if_icmp .ge 26, 3) := by decide +kernel
theorem dX7_all_55 : decode cX7_all 55 = .ok (.iload_n 2, 1) := by decide +kernel
theorem dX7_all_56 : decode cX7_all 56 = .ok (.aload_n 0, 1) := by decide +kernel
theorem dX7_all_57 : decode cX7_all 57 = .ok (.getfield 7, 3) := by decide +kernel
theorem dX7_all_60 : decode cX7_all 60 = .ok (.iload_n 3, 1) := by decide +kernel
theorem dX7_all_61 : decode cX7_all 61 = .ok (.iaload, 1) := by decide +kernel
theorem dX7_all_62 : decode cX7_all 62 = .ok (.ifCond .lt 7, 3) := by decide +kernel
theorem dX7_all_65 : decode cX7_all 65 = .ok (.iconst 1, 1) := by decide +kernel
theorem dX7_all_66 : decode cX7_all 66 = .ok (.goto 4, 3) := by decide +kernel
theorem dX7_all_69 : decode cX7_all 69 = .ok (.iconst 0, 1) := by decide +kernel
theorem dX7_all_70 : decode cX7_all 70 = .ok (.iadd, 1) := by decide +kernel
theorem dX7_all_71 : decode cX7_all 71 = .ok (.istore_n 2, 1) := by decide +kernel
theorem dX7_all_72 : decode cX7_all 72 = .ok (.iinc 3 1, 3) := by decide +kernel
theorem dX7_all_75 : decode cX7_all 75 = .ok (.goto (-27), 3) := by decide +kernel
theorem dX7_all_78 : decode cX7_all 78 = .ok (.iload_n 2, 1) := by decide +kernel
theorem dX7_all_79 : decode cX7_all 79 = .ok (.ireturn, 1) := by decide +kernel
theorem dX7_all_80 : decode cX7_all 80 = .ok (.aload_n 0, 1) := by decide +kernel
theorem dX7_all_81 : decode cX7_all 81 = .ok (.getfield 56, 3) := by decide +kernel
theorem dX7_all_84 : decode cX7_all 84 = .ok (.ireturn, 1) := by decide +kernel
theorem dX7_all_85 : decode cX7_all 85 = .ok (.aload_n 0, 1) := by decide +kernel
theorem dX7_all_86 : decode cX7_all 86 = .ok (.ldc 83, 2) := by decide +kernel
theorem dX7_all_88 : decode cX7_all 88 = .ok (.invokevirtual 72, 3) := by decide +kernel
theorem dX7_all_91 : decode cX7_all 91 = .ok (.ireturn, 1) := by decide +kernel
end
section
/-! THE LAYOUT: the cells of both objects in the order in which they are made; printed by wip/gen/mem.py -/
abbrev yL : Type := Nat × Nat × List (Option Nat)
def ly_0 : List yL := [(10, 7, [.some 1, .some 3, .some 10, .some 152, .some 161, .some 204, none]), (5, 1, [.some 2]), (0, 2187, []), (7, 7, [none, .some 4, .some 5, .some 6, .some 7, .some 8, .some 9]), (0, 12, []), (0, 72, []), (0, 72, []), (0, 72, []), (0, 84, []), (0, 7, []), (6, 3, [.some 11, none, none]), (3, 20, [.some 12, .some 19, .some 26, .some 33, .some 40, .some 47, .some 54, .some 61, .some 68, .some 75, .some 82, .some 89, .some 96, .some 103, .some 110, .some 117, .some 124, .some 131, .some 138, .some 145]), (7, 7, [none, .some 13, .some 14, .some 15, .some 16, .some 17, .some 18]), (0, 12, []), (0, 72, []), (0, 72, []), (0, 72, []), (0, 84, []), (0, 7, []), (7, 7, [none, .some 20, .some 21, .some 22, .some 23, .some 24, .some 25])]
def ly_1 : List yL := [(0, 12, []), (0, 72, []), (0, 72, []), (0, 72, []), (0, 84, []), (0, 7, []), (7, 7, [none, .some 27, .some 28, .some 29, .some 30, .some 31, .some 32]), (0, 12, []), (0, 72, []), (0, 72, []), (0, 72, []), (0, 84, []), (0, 7, []), (7, 7, [none, .some 34, .some 35, .some 36, .some 37, .some 38, .some 39]), (0, 12, []), (0, 72, []), (0, 72, []), (0, 72, []), (0, 84, []), (0, 7, [])]
def ly_2 : List yL := [(7, 7, [none, .some 41, .some 42, .some 43, .some 44, .some 45, .some 46]), (0, 12, []), (0, 72, []), (0, 72, []), (0, 72, []), (0, 84, []), (0, 7, []), (7, 7, [none, .some 48, .some 49, .some 50, .some 51, .some 52, .some 53]), (0, 12, []), (0, 72, []), (0, 72, []), (0, 72, []), (0, 84, []), (0, 7, []), (7, 7, [none, .some 55, .some 56, .some 57, .some 58, .some 59, .some 60]), (0, 12, []), (0, 72, []), (0, 72, []), (0, 72, []), (0, 84, [])]
def ly_3 : List yL := [(0, 7, []), (7, 7, [none, .some 62, .some 63, .some 64, .some 65, .some 66, .some 67]), (0, 12, []), (0, 72, []), (0, 72, []), (0, 72, []), (0, 84, []), (0, 7, []), (7, 7, [none, .some 69, .some 70, .some 71, .some 72, .some 73, .some 74]), (0, 12, []), (0, 72, []), (0, 72, []), (0, 72, []), (0, 84, []), (0, 7, []), (7, 7, [none, .some 76, .some 77, .some 78, .some 79, .some 80, .some 81]), (0, 12, []), (0, 72, []), (0, 72, []), (0, 72, [])]
def ly_4 : List yL := [(0, 84, []), (0, 7, []), (7, 7, [none, .some 83, .some 84, .some 85, .some 86, .some 87, .some 88]), (0, 12, []), (0, 72, []), (0, 72, []), (0, 72, []), (0, 84, []), (0, 7, []), (7, 7, [none, .some 90, .some 91, .some 92, .some 93, .some 94, .some 95]), (0, 12, []), (0, 72, []), (0, 72, []), (0, 72, []), (0, 84, []), (0, 7, []), (7, 7, [none, .some 97, .some 98, .some 99, .some 100, .some 101, .some 102]), (0, 12, []), (0, 72, []), (0, 72, [])]
def ly_5 : List yL := [(0, 72, []), (0, 84, []), (0, 7, []), (7, 7, [none, .some 104, .some 105, .some 106, .some 107, .some 108, .some 109]), (0, 12, []), (0, 72, []), (0, 72, []), (0, 72, []), (0, 84, []), (0, 7, []), (7, 7, [none, .some 111, .some 112, .some 113, .some 114, .some 115, .some 116]), (0, 12, []), (0, 72, []), (0, 72, []), (0, 72, []), (0, 84, []), (0, 7, []), (7, 7, [none, .some 118, .some 119, .some 120, .some 121, .some 122, .some 123]), (0, 12, []), (0, 72, [])]
def ly_6 : List yL := [(0, 72, []), (0, 72, []), (0, 84, []), (0, 7, []), (7, 7, [none, .some 125, .some 126, .some 127, .some 128, .some 129, .some 130]), (0, 12, []), (0, 72, []), (0, 72, []), (0, 72, []), (0, 84, []), (0, 7, []), (7, 7, [none, .some 132, .some 133, .some 134, .some 135, .some 136, .some 137]), (0, 12, []), (0, 72, []), (0, 72, []), (0, 72, []), (0, 84, []), (0, 7, []), (7, 7, [none, .some 139, .some 140, .some 141, .some 142, .some 143, .some 144]), (0, 12, [])]
def ly_7 : List yL := [(0, 72, []), (0, 72, []), (0, 72, []), (0, 84, []), (0, 7, []), (7, 7, [none, .some 146, .some 147, .some 148, .some 149, .some 150, .some 151]), (0, 12, []), (0, 72, []), (0, 72, []), (0, 72, []), (0, 84, []), (0, 7, []), (4, 11, [none, .some 153, .some 154, .some 155, .some 156, .some 157, .some 158, none, none, .some 159, .some 160]), (0, 6, []), (0, 6, []), (0, 6, []), (0, 6, []), (0, 6, []), (0, 6, []), (0, 6, [])]
def ly_8 : List yL := [(0, 6, []), (9, 18, [.some 1, .some 3, .some 162, .some 171, .some 184, .some 185, .some 198, .some 199, .some 200, .some 201, .some 202, .some 203, none, none, none, none, none, none]), (4, 11, [none, .some 163, .some 164, .some 165, .some 166, .some 167, .some 168, none, none, .some 169, .some 170]), (0, 6, []), (0, 6, []), (0, 6, []), (0, 6, []), (0, 6, []), (0, 6, []), (0, 6, []), (0, 6, []), (2, 12, [.some 172, .some 173, .some 174, .some 175, .some 176, .some 177, .some 178, .some 179, .some 180, .some 181, .some 182, .some 183]), (0, 2187, []), (0, 2187, []), (0, 2187, []), (0, 2187, []), (0, 2187, []), (0, 2187, []), (0, 2187, []), (0, 2187, [])]
def ly_9 : List yL := [(0, 2187, []), (0, 2187, []), (0, 2187, []), (0, 2187, []), (1, 12, []), (2, 12, [.some 186, .some 187, .some 188, .some 189, .some 190, .some 191, .some 192, .some 193, .some 194, .some 195, .some 196, .some 197]), (0, 2187, []), (0, 2187, []), (0, 2187, []), (0, 2187, []), (0, 2187, []), (0, 2187, []), (0, 2187, []), (0, 2187, []), (0, 2187, []), (0, 2187, []), (0, 2187, []), (0, 2187, []), (0, 2187, []), (0, 2187, [])]
def ly_10 : List yL := [(0, 2187, []), (0, 21, []), (0, 21, []), (0, 12, []), (8, 3, [.some 205, .some 206, .some 207]), (0, 4, []), (0, 4, []), (2, 4, [.some 208, .some 209, .some 210, .some 211]), (0, 30, []), (0, 30, []), (0, 30, []), (0, 30, []), (11, 18, [.some 213, .some 214, none, .some 215, .some 216, .some 217, none, .some 218, .some 219, .some 220, .some 221, none, .some 222, .some 223, .some 224, .some 225, .some 226, .some 227]), (0, 320, []), (0, 6400, []), (0, 4, []), (0, 4, []), (0, 120, []), (0, 26244, []), (0, 26244, [])]
def ly_11 : List yL := [(0, 63, []), (0, 63, []), (0, 12, []), (1, 2187, []), (1, 2187, []), (0, 6, []), (0, 6, []), (0, 30, [])]
def ly_all : List yL := ly_0 ++ ly_1 ++ ly_2 ++ ly_3 ++ ly_4 ++ ly_5 ++ ly_6 ++ ly_7 ++ ly_8 ++ ly_9 ++ ly_10 ++ ly_11
def ly (k : Nat) : yL := ly_all.getD k (0, 0, [])
abbrev isA (a n : Nat) : Prop := a < 228 ∧ ly a = (0, n, [])
abbrev isB (a n : Nat) : Prop := a < 228 ∧ ly a = (1, n, [])
/-- a is an object of class ci whose fields are t (none: an int) -/
abbrev isO (a ci n : Nat) (t : List (Option Nat)) : Prop := a < 228 ∧ ly a = (ci + 4, n, t)
abbrev isJ (a n : Nat) (t : List (Option Nat)) : Prop := a < 228 ∧ ly a = (2, n, t)
abbrev isP (a n : Nat) (t : List (Option Nat)) : Prop := a < 228 ∧ ly a = (3, n, t)
theorem yO_0 : isO 0 6 7 [some 1, some 3, some 10, some 152, some 161, some 204, none] := by decide +kernel
theorem yO_1 : isO 1 1 1 [some 2] := by decide +kernel
theorem yA_2 : isA 2 2187 := by decide +kernel
theorem yO_3 : isO 3 3 7 [none, some 4, some 5, some 6, some 7, some 8, some 9] := by decide +kernel
theorem yA_4 : isA 4 12 := by decide +kernel
theorem yA_5 : isA 5 72 := by decide +kernel
theorem yA_6 : isA 6 72 := by decide +kernel
theorem yA_7 : isA 7 72 := by decide +kernel
theorem yA_8 : isA 8 84 := by decide +kernel
theorem yA_9 : isA 9 7 := by decide +kernel
theorem yO_10 : isO 10 2 3 [some 11, none, none] := by decide +kernel
theorem yP_11 : isP 11 20 [some 12, some 19, some 26, some 33, some 40, some 47, some 54, some 61, some 68, some 75, some 82, some 89, some 96, some 103, some 110, some 117, some 124, some 131, some 138, some 145] := by decide +kernel
theorem yO_12 : isO 12 3 7 [none, some 13, some 14, some 15, some 16, some 17, some 18] := by decide +kernel
theorem yA_13 : isA 13 12 := by decide +kernel
theorem yA_14 : isA 14 72 := by decide +kernel
theorem yA_15 : isA 15 72 := by decide +kernel
theorem yA_16 : isA 16 72 := by decide +kernel
theorem yA_17 : isA 17 84 := by decide +kernel
theorem yA_18 : isA 18 7 := by decide +kernel
theorem yO_19 : isO 19 3 7 [none, some 20, some 21, some 22, some 23, some 24, some 25] := by decide +kernel
theorem yA_20 : isA 20 12 := by decide +kernel
theorem yA_21 : isA 21 72 := by decide +kernel
theorem yA_22 : isA 22 72 := by decide +kernel
theorem yA_23 : isA 23 72 := by decide +kernel
theorem yA_24 : isA 24 84 := by decide +kernel
theorem yA_25 : isA 25 7 := by decide +kernel
theorem yO_26 : isO 26 3 7 [none, some 27, some 28, some 29, some 30, some 31, some 32] := by decide +kernel
theorem yA_27 : isA 27 12 := by decide +kernel
theorem yA_28 : isA 28 72 := by decide +kernel
theorem yA_29 : isA 29 72 := by decide +kernel
theorem yA_30 : isA 30 72 := by decide +kernel
theorem yA_31 : isA 31 84 := by decide +kernel
theorem yA_32 : isA 32 7 := by decide +kernel
theorem yO_33 : isO 33 3 7 [none, some 34, some 35, some 36, some 37, some 38, some 39] := by decide +kernel
theorem yA_34 : isA 34 12 := by decide +kernel
theorem yA_35 : isA 35 72 := by decide +kernel
theorem yA_36 : isA 36 72 := by decide +kernel
theorem yA_37 : isA 37 72 := by decide +kernel
theorem yA_38 : isA 38 84 := by decide +kernel
theorem yA_39 : isA 39 7 := by decide +kernel
theorem yO_40 : isO 40 3 7 [none, some 41, some 42, some 43, some 44, some 45, some 46] := by decide +kernel
theorem yA_41 : isA 41 12 := by decide +kernel
theorem yA_42 : isA 42 72 := by decide +kernel
theorem yA_43 : isA 43 72 := by decide +kernel
theorem yA_44 : isA 44 72 := by decide +kernel
theorem yA_45 : isA 45 84 := by decide +kernel
theorem yA_46 : isA 46 7 := by decide +kernel
theorem yO_47 : isO 47 3 7 [none, some 48, some 49, some 50, some 51, some 52, some 53] := by decide +kernel
theorem yA_48 : isA 48 12 := by decide +kernel
theorem yA_49 : isA 49 72 := by decide +kernel
theorem yA_50 : isA 50 72 := by decide +kernel
theorem yA_51 : isA 51 72 := by decide +kernel
theorem yA_52 : isA 52 84 := by decide +kernel
theorem yA_53 : isA 53 7 := by decide +kernel
theorem yO_54 : isO 54 3 7 [none, some 55, some 56, some 57, some 58, some 59, some 60] := by decide +kernel
theorem yA_55 : isA 55 12 := by decide +kernel
theorem yA_56 : isA 56 72 := by decide +kernel
theorem yA_57 : isA 57 72 := by decide +kernel
theorem yA_58 : isA 58 72 := by decide +kernel
theorem yA_59 : isA 59 84 := by decide +kernel
theorem yA_60 : isA 60 7 := by decide +kernel
theorem yO_61 : isO 61 3 7 [none, some 62, some 63, some 64, some 65, some 66, some 67] := by decide +kernel
theorem yA_62 : isA 62 12 := by decide +kernel
theorem yA_63 : isA 63 72 := by decide +kernel
theorem yA_64 : isA 64 72 := by decide +kernel
theorem yA_65 : isA 65 72 := by decide +kernel
theorem yA_66 : isA 66 84 := by decide +kernel
theorem yA_67 : isA 67 7 := by decide +kernel
theorem yO_68 : isO 68 3 7 [none, some 69, some 70, some 71, some 72, some 73, some 74] := by decide +kernel
theorem yA_69 : isA 69 12 := by decide +kernel
theorem yA_70 : isA 70 72 := by decide +kernel
theorem yA_71 : isA 71 72 := by decide +kernel
theorem yA_72 : isA 72 72 := by decide +kernel
theorem yA_73 : isA 73 84 := by decide +kernel
theorem yA_74 : isA 74 7 := by decide +kernel
theorem yO_75 : isO 75 3 7 [none, some 76, some 77, some 78, some 79, some 80, some 81] := by decide +kernel
theorem yA_76 : isA 76 12 := by decide +kernel
theorem yA_77 : isA 77 72 := by decide +kernel
theorem yA_78 : isA 78 72 := by decide +kernel
theorem yA_79 : isA 79 72 := by decide +kernel
theorem yA_80 : isA 80 84 := by decide +kernel
theorem yA_81 : isA 81 7 := by decide +kernel
theorem yO_82 : isO 82 3 7 [none, some 83, some 84, some 85, some 86, some 87, some 88] := by decide +kernel
theorem yA_83 : isA 83 12 := by decide +kernel
theorem yA_84 : isA 84 72 := by decide +kernel
theorem yA_85 : isA 85 72 := by decide +kernel
theorem yA_86 : isA 86 72 := by decide +kernel
theorem yA_87 : isA 87 84 := by decide +kernel
theorem yA_88 : isA 88 7 := by decide +kernel
theorem yO_89 : isO 89 3 7 [none, some 90, some 91, some 92, some 93, some 94, some 95] := by decide +kernel
theorem yA_90 : isA 90 12 := by decide +kernel
theorem yA_91 : isA 91 72 := by decide +kernel
theorem yA_92 : isA 92 72 := by decide +kernel
theorem yA_93 : isA 93 72 := by decide +kernel
theorem yA_94 : isA 94 84 := by decide +kernel
theorem yA_95 : isA 95 7 := by decide +kernel
theorem yO_96 : isO 96 3 7 [none, some 97, some 98, some 99, some 100, some 101, some 102] := by decide +kernel
theorem yA_97 : isA 97 12 := by decide +kernel
theorem yA_98 : isA 98 72 := by decide +kernel
theorem yA_99 : isA 99 72 := by decide +kernel
theorem yA_100 : isA 100 72 := by decide +kernel
theorem yA_101 : isA 101 84 := by decide +kernel
theorem yA_102 : isA 102 7 := by decide +kernel
theorem yO_103 : isO 103 3 7 [none, some 104, some 105, some 106, some 107, some 108, some 109] := by decide +kernel
theorem yA_104 : isA 104 12 := by decide +kernel
theorem yA_105 : isA 105 72 := by decide +kernel
theorem yA_106 : isA 106 72 := by decide +kernel
theorem yA_107 : isA 107 72 := by decide +kernel
theorem yA_108 : isA 108 84 := by decide +kernel
theorem yA_109 : isA 109 7 := by decide +kernel
theorem yO_110 : isO 110 3 7 [none, some 111, some 112, some 113, some 114, some 115, some 116] := by decide +kernel
theorem yA_111 : isA 111 12 := by decide +kernel
theorem yA_112 : isA 112 72 := by decide +kernel
theorem yA_113 : isA 113 72 := by decide +kernel
theorem yA_114 : isA 114 72 := by decide +kernel
theorem yA_115 : isA 115 84 := by decide +kernel
theorem yA_116 : isA 116 7 := by decide +kernel
theorem yO_117 : isO 117 3 7 [none, some 118, some 119, some 120, some 121, some 122, some 123] := by decide +kernel
theorem yA_118 : isA 118 12 := by decide +kernel
theorem yA_119 : isA 119 72 := by decide +kernel
theorem yA_120 : isA 120 72 := by decide +kernel
theorem yA_121 : isA 121 72 := by decide +kernel
theorem yA_122 : isA 122 84 := by decide +kernel
theorem yA_123 : isA 123 7 := by decide +kernel
theorem yO_124 : isO 124 3 7 [none, some 125, some 126, some 127, some 128, some 129, some 130] := by decide +kernel
theorem yA_125 : isA 125 12 := by decide +kernel
theorem yA_126 : isA 126 72 := by decide +kernel
theorem yA_127 : isA 127 72 := by decide +kernel
theorem yA_128 : isA 128 72 := by decide +kernel
theorem yA_129 : isA 129 84 := by decide +kernel
theorem yA_130 : isA 130 7 := by decide +kernel
theorem yO_131 : isO 131 3 7 [none, some 132, some 133, some 134, some 135, some 136, some 137] := by decide +kernel
theorem yA_132 : isA 132 12 := by decide +kernel
theorem yA_133 : isA 133 72 := by decide +kernel
theorem yA_134 : isA 134 72 := by decide +kernel
theorem yA_135 : isA 135 72 := by decide +kernel
theorem yA_136 : isA 136 84 := by decide +kernel
theorem yA_137 : isA 137 7 := by decide +kernel
theorem yO_138 : isO 138 3 7 [none, some 139, some 140, some 141, some 142, some 143, some 144] := by decide +kernel
theorem yA_139 : isA 139 12 := by decide +kernel
theorem yA_140 : isA 140 72 := by decide +kernel
theorem yA_141 : isA 141 72 := by decide +kernel
theorem yA_142 : isA 142 72 := by decide +kernel
theorem yA_143 : isA 143 84 := by decide +kernel
theorem yA_144 : isA 144 7 := by decide +kernel
theorem yO_145 : isO 145 3 7 [none, some 146, some 147, some 148, some 149, some 150, some 151] := by decide +kernel
theorem yA_146 : isA 146 12 := by decide +kernel
theorem yA_147 : isA 147 72 := by decide +kernel
theorem yA_148 : isA 148 72 := by decide +kernel
theorem yA_149 : isA 149 72 := by decide +kernel
theorem yA_150 : isA 150 84 := by decide +kernel
theorem yA_151 : isA 151 7 := by decide +kernel
theorem yO_152 : isO 152 0 11 [none, some 153, some 154, some 155, some 156, some 157, some 158, none, none, some 159, some 160] := by decide +kernel
theorem yA_153 : isA 153 6 := by decide +kernel
theorem yA_154 : isA 154 6 := by decide +kernel
theorem yA_155 : isA 155 6 := by decide +kernel
theorem yA_156 : isA 156 6 := by decide +kernel
theorem yA_157 : isA 157 6 := by decide +kernel
theorem yA_158 : isA 158 6 := by decide +kernel
theorem yA_159 : isA 159 6 := by decide +kernel
theorem yA_160 : isA 160 6 := by decide +kernel
theorem yO_161 : isO 161 5 18 [some 1, some 3, some 162, some 171, some 184, some 185, some 198, some 199, some 200, some 201, some 202, some 203, none, none, none, none, none, none] := by decide +kernel
theorem yO_162 : isO 162 0 11 [none, some 163, some 164, some 165, some 166, some 167, some 168, none, none, some 169, some 170] := by decide +kernel
theorem yA_163 : isA 163 6 := by decide +kernel
theorem yA_164 : isA 164 6 := by decide +kernel
theorem yA_165 : isA 165 6 := by decide +kernel
theorem yA_166 : isA 166 6 := by decide +kernel
theorem yA_167 : isA 167 6 := by decide +kernel
theorem yA_168 : isA 168 6 := by decide +kernel
theorem yA_169 : isA 169 6 := by decide +kernel
theorem yA_170 : isA 170 6 := by decide +kernel
theorem yJ_171 : isJ 171 12 [some 172, some 173, some 174, some 175, some 176, some 177, some 178, some 179, some 180, some 181, some 182, some 183] := by decide +kernel
theorem yA_172 : isA 172 2187 := by decide +kernel
theorem yA_173 : isA 173 2187 := by decide +kernel
theorem yA_174 : isA 174 2187 := by decide +kernel
theorem yA_175 : isA 175 2187 := by decide +kernel
theorem yA_176 : isA 176 2187 := by decide +kernel
theorem yA_177 : isA 177 2187 := by decide +kernel
theorem yA_178 : isA 178 2187 := by decide +kernel
theorem yA_179 : isA 179 2187 := by decide +kernel
theorem yA_180 : isA 180 2187 := by decide +kernel
theorem yA_181 : isA 181 2187 := by decide +kernel
theorem yA_182 : isA 182 2187 := by decide +kernel
theorem yA_183 : isA 183 2187 := by decide +kernel
theorem yB_184 : isB 184 12 := by decide +kernel
theorem yJ_185 : isJ 185 12 [some 186, some 187, some 188, some 189, some 190, some 191, some 192, some 193, some 194, some 195, some 196, some 197] := by decide +kernel
theorem yA_186 : isA 186 2187 := by decide +kernel
theorem yA_187 : isA 187 2187 := by decide +kernel
theorem yA_188 : isA 188 2187 := by decide +kernel
theorem yA_189 : isA 189 2187 := by decide +kernel
theorem yA_190 : isA 190 2187 := by decide +kernel
theorem yA_191 : isA 191 2187 := by decide +kernel
theorem yA_192 : isA 192 2187 := by decide +kernel
theorem yA_193 : isA 193 2187 := by decide +kernel
theorem yA_194 : isA 194 2187 := by decide +kernel
theorem yA_195 : isA 195 2187 := by decide +kernel
theorem yA_196 : isA 196 2187 := by decide +kernel
theorem yA_197 : isA 197 2187 := by decide +kernel
theorem yA_198 : isA 198 2187 := by decide +kernel
theorem yA_199 : isA 199 2187 := by decide +kernel
theorem yA_200 : isA 200 2187 := by decide +kernel
theorem yA_201 : isA 201 21 := by decide +kernel
theorem yA_202 : isA 202 21 := by decide +kernel
theorem yA_203 : isA 203 12 := by decide +kernel
theorem yO_204 : isO 204 4 3 [some 205, some 206, some 207] := by decide +kernel
theorem yA_205 : isA 205 4 := by decide +kernel
theorem yA_206 : isA 206 4 := by decide +kernel
theorem yJ_207 : isJ 207 4 [some 208, some 209, some 210, some 211] := by decide +kernel
theorem yA_208 : isA 208 30 := by decide +kernel
theorem yA_209 : isA 209 30 := by decide +kernel
theorem yA_210 : isA 210 30 := by decide +kernel
theorem yA_211 : isA 211 30 := by decide +kernel
theorem yO_212 : isO 212 7 18 [some 213, some 214, none, some 215, some 216, some 217, none, some 218, some 219, some 220, some 221, none, some 222, some 223, some 224, some 225, some 226, some 227] := by decide +kernel
theorem yA_213 : isA 213 320 := by decide +kernel
theorem yA_214 : isA 214 6400 := by decide +kernel
theorem yA_215 : isA 215 4 := by decide +kernel
theorem yA_216 : isA 216 4 := by decide +kernel
theorem yA_217 : isA 217 120 := by decide +kernel
theorem yA_218 : isA 218 26244 := by decide +kernel
theorem yA_219 : isA 219 26244 := by decide +kernel
theorem yA_220 : isA 220 63 := by decide +kernel
theorem yA_221 : isA 221 63 := by decide +kernel
theorem yA_222 : isA 222 12 := by decide +kernel
theorem yB_223 : isB 223 2187 := by decide +kernel
theorem yB_224 : isB 224 2187 := by decide +kernel
theorem yA_225 : isA 225 6 := by decide +kernel
theorem yA_226 : isA 226 6 := by decide +kernel
theorem yA_227 : isA 227 30 := by decide +kernel
/-- the parts: the desk's own, and the twenty of the history -/
def kP (a : Nat) : Prop := a = 3 ∨ ∃ i : Nat, i < 20 ∧ a = 12 + 7 * i
/-- the chords: the desk's own, and the way's -/
def kC (a : Nat) : Prop := a = 152 ∨ a = 162
theorem kP_do : ∀ i : Nat, i < 20 → isO (12 + 7 * i) 3 7 [none, some (12 + 7 * i + 1), some (12 + 7 * i + 2), some (12 + 7 * i + 3), some (12 + 7 * i + 4), some (12 + 7 * i + 5), some (12 + 7 * i + 6)] := by decide +kernel
theorem kP_d1 : ∀ i : Nat, i < 20 → isA (12 + 7 * i + 1) 12 := by decide +kernel
theorem kP_d2 : ∀ i : Nat, i < 20 → isA (12 + 7 * i + 2) 72 := by decide +kernel
theorem kP_d3 : ∀ i : Nat, i < 20 → isA (12 + 7 * i + 3) 72 := by decide +kernel
theorem kP_d4 : ∀ i : Nat, i < 20 → isA (12 + 7 * i + 4) 72 := by decide +kernel
theorem kP_d5 : ∀ i : Nat, i < 20 → isA (12 + 7 * i + 5) 84 := by decide +kernel
theorem kP_d6 : ∀ i : Nat, i < 20 → isA (12 + 7 * i + 6) 7 := by decide +kernel
theorem kP_all {a : Nat} (h : kP a) : isO a 3 7 [none, some (a + 1), some (a + 2), some (a + 3), some (a + 4), some (a + 5), some (a + 6)] ∧ isA (a + 1) 12 ∧ isA (a + 2) 72 ∧ isA (a + 3) 72 ∧ isA (a + 4) 72 ∧ isA (a + 5) 84 ∧ isA (a + 6) 7 := by
  rcases h with rfl | ⟨i, hi, rfl⟩
  · exact ⟨yO_3, yA_4, yA_5, yA_6, yA_7, yA_8, yA_9⟩
  · exact ⟨kP_do i hi, kP_d1 i hi, kP_d2 i hi, kP_d3 i hi, kP_d4 i hi, kP_d5 i hi, kP_d6 i hi⟩
theorem kP_o {a : Nat} (h : kP a) : isO a 3 7 [none, some (a + 1), some (a + 2), some (a + 3), some (a + 4), some (a + 5), some (a + 6)] := (kP_all h).1
theorem kP_1 {a : Nat} (h : kP a) : isA (a + 1) 12 := (kP_all h).2.1
theorem kP_2 {a : Nat} (h : kP a) : isA (a + 2) 72 := (kP_all h).2.2.1
theorem kP_3 {a : Nat} (h : kP a) : isA (a + 3) 72 := (kP_all h).2.2.2.1
theorem kP_4 {a : Nat} (h : kP a) : isA (a + 4) 72 := (kP_all h).2.2.2.2.1
theorem kP_5 {a : Nat} (h : kP a) : isA (a + 5) 84 := (kP_all h).2.2.2.2.2.1
theorem kP_6 {a : Nat} (h : kP a) : isA (a + 6) 7 := (kP_all h).2.2.2.2.2.2
theorem kC_o {a : Nat} (h : kC a) : isO a 0 11 [none, some (a + 1), some (a + 2), some (a + 3), some (a + 4), some (a + 5), some (a + 6), none, none, some (a + 7), some (a + 8)] := by
  rcases h with rfl | rfl <;> decide +kernel
theorem kC_a {a : Nat} (h : kC a) (j : Nat) (h1 : 1 ≤ j) (h2 : j ≤ 8) : isA (a + j) 6 := by
  have e : j = 1 ∨ j = 2 ∨ j = 3 ∨ j = 4 ∨ j = 5 ∨ j = 6 ∨ j = 7 ∨ j = 8 := by omega
  rcases h with rfl | rfl <;> rcases e with rfl | rfl | rfl | rfl | rfl | rfl | rfl | rfl <;> decide +kernel
theorem kC_1 {a : Nat} (h : kC a) : isA (a + 1) 6 := kC_a h 1 (by decide) (by decide)
theorem kC_2 {a : Nat} (h : kC a) : isA (a + 2) 6 := kC_a h 2 (by decide) (by decide)
theorem kC_3 {a : Nat} (h : kC a) : isA (a + 3) 6 := kC_a h 3 (by decide) (by decide)
theorem kC_4 {a : Nat} (h : kC a) : isA (a + 4) 6 := kC_a h 4 (by decide) (by decide)
theorem kC_5 {a : Nat} (h : kC a) : isA (a + 5) 6 := kC_a h 5 (by decide) (by decide)
theorem kC_6 {a : Nat} (h : kC a) : isA (a + 6) 6 := kC_a h 6 (by decide) (by decide)
theorem kC_7 {a : Nat} (h : kC a) : isA (a + 7) 6 := kC_a h 7 (by decide) (by decide)
theorem kC_8 {a : Nat} (h : kC a) : isA (a + 8) 6 := kC_a h 8 (by decide) (by decide)
theorem kP_3lit : kP 3 := Or.inl rfl
theorem kC_152 : kC 152 := Or.inl rfl
theorem kC_162 : kC 162 := Or.inr rfl
theorem kP_ring {j : Nat} (h : j < 20) : kP (12 + 7 * j) := Or.inr ⟨j, h, rfl⟩
theorem jOn_d : ∀ j : Nat, j < 12 → isA (172 + j) 2187 := by decide +kernel
theorem jAr_d : ∀ j : Nat, j < 12 → isA (186 + j) 2187 := by decide +kernel
theorem jSh_d : ∀ j : Nat, j < 4 → isA (208 + j) 30 := by decide +kernel
theorem tOn_d : ∀ j : Nat, j < 12 → (ly 171).2.2.getD j none = some (172 + j) := by decide +kernel
theorem tAr_d : ∀ j : Nat, j < 12 → (ly 185).2.2.getD j none = some (186 + j) := by decide +kernel
theorem tSh_d : ∀ j : Nat, j < 4 → (ly 207).2.2.getD j none = some (208 + j) := by decide +kernel
theorem tRi_d : ∀ j : Nat, j < 20 → (ly 11).2.2.getD j none = some (12 + 7 * j) := by decide +kernel
end
section
/-- the tables' words that a caller may hand on -/
def tb : List Cond := lw_tbl.filter goodWord
theorem tb_at {w : Cond} (i : Nat) (h : lw_tbl[i]? = some w) (hg : goodWord w = true) : w ∈ tb := List.mem_filter.mpr ⟨List.mem_of_getElem? h, hg⟩
theorem tb_in {w : Cond} (h : w ∈ tb) : w ∈ lw_tbl := (List.mem_filter.mp h).1
theorem tbX0 : ∀ w ∈ wsX00, w ∈ tb := by decide +kernel
theorem tbX1 : ∀ w ∈ wsX10, w ∈ tb := by decide +kernel
theorem tbX2 : ∀ w ∈ wsX20, w ∈ tb := by decide +kernel
theorem tbX3 : ∀ w ∈ wsX30, w ∈ tb := by decide +kernel
theorem tbX4 : ∀ w ∈ wsX40, w ∈ tb := by decide +kernel
theorem tbX5 : ∀ w ∈ wsX50, w ∈ tb := by decide +kernel
theorem tbX6 : ∀ w ∈ wsX60, w ∈ tb := by decide +kernel
theorem tbX7 : ∀ w ∈ wsX70, w ∈ tb := by decide +kernel
/-! MEMORY: what the cells hold, as ints; the machine's heap stands for it; rows that walk the machine over it -/
abbrev Mm : Type := Nat → Nat → Int32
/-- where the cells lie, where the static arrays lie, the classes, the array classes (int[], boolean[], int[][], Part[]), the first address that may be written -/
abbrev Gm : Type := (Nat → Nat) × (Nat → Nat) × va_G × (ClassId × ClassId × ClassId × ClassId) × Nat
def gR (G : Gm) (k : Nat) : Nat := G.1 k
def gZ (G : Gm) (f : Nat) : Nat := G.2.1 f
def gA (G : Gm) : Nat → Prop := fun q => G.2.2.2.2 ≤ q
def gT (G : Gm) : List (ClassId × FieldType) := [(G.2.2.2.1.1, .int), (G.2.2.2.1.2.1, .boolean), (G.2.2.2.1.2.2.1, .array .int), (G.2.2.2.1.2.2.2, .object RX3)]
/-- the static arrays: class, name, contents -/
def sT : Nat → String × String × List Int32 := fun f => match f with
  | 0 => (RX6, "KIND_ABOVE", [-1, 0, 0, 1])
  | 1 => (RX1, "LETTER_PITCHES", [0, 2, 4, 5, 7, 9, 11])
  | 2 => (RX0, "RISES", [0, 12, 0, 19])
  | 3 => (RX0, "FINGERS", [1, 2, 1, 2])
  | 4 => (RX5, "WEIGHTS", [1, 3, 9, 27, 81, 243, 729])
  | 5 => (RX5, "TO_ONE_OTHER", [1, 1, -1])
  | 6 => (RX5, "TO_THE_OTHER", [2, -1, -2])
  | 7 => (RX7, "HIGHER", [0, 2, 4, 5, 7, 9, 11])
  | 8 => (RX7, "POWER", [1, 3, 9, 27, 81, 243, 729])
  | _ => (RX7, "FEET", [6, 0, 1, 2, 3, 4, 5])
def st_ (f j : Nat) : Int32 := (sT f).2.2.getD j 0
def en (G : Gm) (M : Mm) (k : Nat) : va_E := match ly k with
  | (0, n, _) => .inl (G.2.2.2.1.1, n, .inl (M k))
  | (1, n, _) => .inl (G.2.2.2.1.2.1, n, .inl (M k))
  | (2, n, t) => .inl (G.2.2.2.1.2.2.1, n, .inr (.inr (.inr (.inr (fun j => (t.getD j none).map (gR G))))))
  | (3, n, t) => .inl (G.2.2.2.1.2.2.2, n, .inr (.inr (.inr (.inr (fun j => (t.getD j none).map (gR G))))))
  | (i + 4, n, t) => .inr (i, (List.range n).map (fun j => match t.getD j none with
    | none => Value.int (M k j)
    | some q => Value.ref (gR G q)))
theorem en_congr {G : Gm} {M N : Mm} {k : Nat} (h : M k = N k) : en G M k = en G N k := by
  unfold en
  rw [h]
theorem en_I {G : Gm} {M : Mm} {k n : Nat} (h : isA k n) : en G M k = .inl (G.2.2.2.1.1, n, .inl (M k)) := by
  unfold en
  rw [h.2]
theorem en_Z {G : Gm} {M : Mm} {k n : Nat} (h : isB k n) : en G M k = .inl (G.2.2.2.1.2.1, n, .inl (M k)) := by
  unfold en
  rw [h.2]
theorem en_J {G : Gm} {M : Mm} {k n : Nat} {t : List (Option Nat)} (h : isJ k n t) : en G M k = .inl (G.2.2.2.1.2.2.1, n, .inr (.inr (.inr (.inr (fun j => (t.getD j none).map (gR G)))))) := by
  unfold en
  rw [h.2]
theorem en_P {G : Gm} {M : Mm} {k n : Nat} {t : List (Option Nat)} (h : isP k n t) : en G M k = .inl (G.2.2.2.1.2.2.2, n, .inr (.inr (.inr (.inr (fun j => (t.getD j none).map (gR G)))))) := by
  unfold en
  rw [h.2]
def fl_ (G : Gm) (M : Mm) (k : Nat) (t : List (Option Nat)) (j : Nat) : Value := match t.getD j none with
  | none => Value.int (M k j)
  | some q => Value.ref (gR G q)
theorem en_O {G : Gm} {M : Mm} {k n i : Nat} {t : List (Option Nat)} (h : isO k i n t) : en G M k = .inr (i, (List.range n).map (fl_ G M k t)) := by
  unfold en
  rw [h.2]
  rfl
def gW (G : Gm) (M : Mm) : va_W := (List.range 228).map (fun k => (gR G k, en G M k))
theorem gW_at {G : Gm} {M : Mm} {k : Nat} (h : k < 228) : (gW G M)[k]? = some (gR G k, en G M k) := by
  unfold gW
  rw [List.getElem?_map, List.getElem?_range h]
  rfl
theorem gW_inv {G : Gm} {M : Mm} {k : Nat} {q : Nat × va_E} (h : (gW G M)[k]? = some q) : k < 228 ∧ q = (gR G k, en G M k) := by
  have hk : k < 228 := by
    have := (List.getElem?_eq_some_iff.mp h).1
    simpa [gW] using this
  rw [gW_at hk] at h
  exact ⟨hk, (Option.some.inj h).symm⟩
def Rep (G : Gm) (M : Mm) (H : Heap) : Prop := va_P G.2.2.1 vwCl (gW G M) H
def gOK (G : Gm) (U : State) (H : Heap) : Prop :=
  va_K G.2.2.1 vwCl (gT G) U ∧
  (∀ f, f < 10 → va_Z (sT f).1 (sT f).2.1 "[I" (.ref (gZ G f)) (gA G) U H ∧ va_T .int (gZ G f) (sT f).2.2.length (fun j => .int (st_ f j)) (gA G) U H) ∧
  (∀ k, k < 228 → gA G (gR G k)) ∧ ∀ j k, j < 228 → k < 228 → gR G j = gR G k → j = k
theorem gOK.moved {G : Gm} {u U : State} {H : Heap} (hvm : u.vm.Alike U.vm) (h : gOK G u H) : gOK G U H :=
  ⟨h.1.moved hvm, fun f hf => ⟨(h.2.1 f hf).1.moved hvm, (h.2.1 f hf).2.moved hvm⟩, h.2.2⟩
theorem gOK.kept {G : Gm} {U : State} {H H1 : Heap} (h : gOK G U H) (hq : ∀ a : Nat, a < H.size → ¬ gA G a → H1[a]? = H[a]?) : gOK G U H1 :=
  ⟨h.1, fun f hf => ⟨(h.2.1 f hf).1.kept hq, (h.2.1 f hf).2.kept hq⟩, h.2.2⟩
theorem gD_ok {G : Gm} {U : State} {H : Heap} {M : Mm} (h : gOK G U H) : va_D (gA G) (gW G M) := by
  refine ⟨fun i j p q hi hj hpq => ?_, fun k q hk => ?_⟩
  · obtain ⟨h1, rfl⟩ := gW_inv hi
    obtain ⟨h2, rfl⟩ := gW_inv hj
    exact h.2.2.2 i j h1 h2 hpq
  · obtain ⟨h1, rfl⟩ := gW_inv hk
    exact h.2.2.1 k h1
/-- cell k holds g -/
def mu (M : Mm) (k : Nat) (g : Nat → Int32) : Mm := fun a => if a = k then g else M a
theorem mu_s {M : Mm} {k : Nat} {g : Nat → Int32} : mu M k g k = g := if_pos rfl
theorem mu_n {M : Mm} {k j : Nat} {g : Nat → Int32} (h : j ≠ k) : mu M k g j = M j := if_neg h
/-- slot j of cell k is v -/
def mw (M : Mm) (k j : Nat) (v : Int32) : Mm := mu M k (upd (M k) j v)
theorem gW_set {G : Gm} {M : Mm} {k : Nat} {g : Nat → Int32} {e : va_E} (he : en G (mu M k g) k = e) : (gW G M).set k (gR G k, e) = gW G (mu M k g) := by
  subst he
  apply List.ext_getElem?
  intro j
  by_cases hj : j < 228
  · by_cases hk : j = k
    · subst hk
      rw [List.getElem?_set_self (by simpa [gW] using hj), gW_at hj]
    · rw [List.getElem?_set_ne (Ne.symm hk), gW_at hj, gW_at hj, en_congr (mu_n hk)]
  · rw [List.getElem?_eq_none (by simp [gW]; omega), List.getElem?_eq_none (by simp [gW]; omega)]
/-! locals by their numbers -/
def lh (ls : Array Slot) (nL : Nat) (lv : List (Option Value)) : Prop := ls.size = nL ∧ lv_wf ls ∧ ∀ (i : Nat) (v : Value), lv[i]? = some (some v) → ls[i]? = some (.val v)
def la (lv : List (Option Value)) : List (Nat × Value) := (List.range lv.length).filterMap (fun i => (lv.getD i none).map (fun v => (i, v)))
theorem la_mem {lv : List (Option Value)} {i : Nat} {v : Value} : (i, v) ∈ la lv ↔ lv[i]? = some (some v) := by
  unfold la
  rw [List.mem_filterMap]
  constructor
  · rintro ⟨j, hj, h⟩
    rw [List.getD_eq_getElem?_getD] at h
    cases h1 : lv[j]? with
    | none => rw [h1] at h; simp at h
    | some o =>
      rw [h1] at h
      cases o with
      | none => simp at h
      | some w =>
        simp only [Option.getD_some, Option.map_some, Option.some.injEq, Prod.mk.injEq] at h
        obtain ⟨rfl, rfl⟩ := h
        exact h1
  · intro h
    refine ⟨i, List.mem_range.mpr (List.getElem?_eq_some_iff.mp h).1, ?_⟩
    rw [List.getD_eq_getElem?_getD, h]
    rfl
theorem lh_has {ls : Array Slot} {nL : Nat} {lv : List (Option Value)} : lh ls nL lv ↔ lv_has ls nL (la lv) := by
  constructor
  · intro h
    exact ⟨h.1, h.2.1, fun q hq => h.2.2 q.1 q.2 (la_mem.mp hq)⟩
  · intro h
    exact ⟨h.1, h.2.1, fun i v hv => h.2.2 (i, v) (la_mem.mpr hv)⟩
/-- no long stands just ahead of local i -/
def l_ok (lv : List (Option Value)) (i : Nat) : Bool := match i with
  | 0 => true
  | j + 1 => match lv.getD j none with
    | some v => !(v.category == 2)
    | none => true
theorem lh_1 {ls' : Array Slot} {nL i : Nat} {lv : List (Option Value)} {v : Value} (hk : l_ok lv i = true)
    (h : lv_has ls' nL ((i, v) :: (la lv).filter (fun q => !(q.1 == i) && !(q.1 + 1 == i && q.2.category == 2)))) : lh ls' nL (lv.set i (some v)) := by
  refine ⟨h.1, h.2.1, fun j w hj => ?_⟩
  by_cases e : i = j
  · subst e
    have hl : i < lv.length := by
      have := (List.getElem?_eq_some_iff.mp hj).1
      simpa using this
    rw [List.getElem?_set_self hl] at hj
    cases hj
    exact h.2.2 (i, v) List.mem_cons_self
  · rw [List.getElem?_set_ne e] at hj
    refine h.2.2 (j, w) (List.mem_cons_of_mem _ (List.mem_filter.mpr ⟨la_mem.mpr hj, ?_⟩))
    have e1 : (j == i) = false := by simpa using (fun q : j = i => e q.symm)
    by_cases e2 : j + 1 = i
    · subst e2
      simp only [l_ok, List.getD_eq_getElem?_getD, hj, Option.getD_some] at hk
      simp only [e1]
      simpa using hk
    · simp [e1, e2]
/-- a long in i, i + 1 -/
theorem lh_2 {ls' : Array Slot} {nL i : Nat} {lv lv' : List (Option Value)} {v : Value} {L : List (Nat × Value)} (h : lv_has ls' nL L) (hs : ∀ j w, lv'[j]? = some (some w) → (j, w) ∈ L) : lh ls' nL lv' :=
  ⟨h.1, h.2.1, fun j w hj => h.2.2 (j, w) (hs j w hj)⟩
/-! THE WALK over the memory -/
/-- launch, program, environment, room, the state at the method's entry, method, arguments, frames below, method, code, cells and slots made so far -/
abbrev Xm : Type := Launch × Program × Env × Room × State × MethodId × Array Value × List Frame × Method × Code × Nat × Nat
abbrev xl (X : Xm) : Launch := X.1
abbrev xs (X : Xm) : State := X.2.2.2.2.1
abbrev xg (X : Xm) : Array Value := X.2.2.2.2.2.2.1
abbrev xb (X : Xm) : List Frame := X.2.2.2.2.2.2.2.1
abbrev xh (X : Xm) : Method := X.2.2.2.2.2.2.2.2.1
def xW (X : Xm) (H : Heap) (locs : List Loc) (Q : State → Prop) (pc : Nat) (ls : Array Slot) (st : List Value) : Prop :=
  W X.2.1 X.1 X.2.2.1 X.2.2.2.1 X.2.2.2.2.1 X.2.2.2.2.2.1 X.2.2.2.2.2.2.1 X.2.2.2.2.2.2.2.1 X.2.2.2.2.2.2.2.2.1 X.2.2.2.2.2.2.2.2.2.1 H locs X.2.2.2.2.2.2.2.2.2.2.1 X.2.2.2.2.2.2.2.2.2.2.2 Q (F0 X.2.2.2.2.2.1 pc ls st)
/-- what holds in a method all along -/
def xc (G : Gm) (X : Xm) (cc : ByteArray) (nL : Nat) (own : String) (d : Nat) : Prop :=
  X.2.1.tables.exec = Jvm.exec ∧ X.2.2.2.2.2.2.2.2.2.1.code = cc ∧ X.2.2.2.2.2.2.2.2.2.1.maxLocals = nL ∧ X.2.2.2.2.1.vm.findClass own = some X.2.2.2.2.2.1.cls ∧ (∀ w ∈ tb, w.before X.2.2.2.2.2.2.1 X.2.2.2.2.1 = true) ∧ X.2.2.2.2.2.2.2.2.1.locks = false ∧ gOK G X.2.2.2.2.1 X.2.2.2.2.1.heap ∧
  d ≤ X.2.2.2.1.frames ∧ 40 * d ≤ X.2.2.2.1.locals ∧ X.2.2.2.2.2.2.2.2.2.2.1 ≤ X.2.2.2.1.cells ∧ X.2.2.2.2.2.2.2.2.2.2.2 ≤ X.2.2.2.1.slots
/-- the machine, at pc with locals lv and stack st over a heap that holds M, comes to Q -/
def WM (G : Gm) (X : Xm) (Q : State → Prop) (M : Mm) (pc : Nat) (lv : List (Option Value)) (st : List Value) : Prop :=
  ∀ (H : Heap) (locs : List Loc) (ls : Array Slot), Rep G M H → va_S (gA G) X.2.2.2.2.1.heap H locs → lh ls lv.length lv → xW X H locs Q pc ls st
/-- a method's end: it answers r, the heap holds M -/
def qc (G : Gm) (r : Option Value) (M : Mm) : Array Value → State → Outcome → State → Prop := fun _ st oc t => oc = .returned r ∧ Rep G M t.heap ∧ va_F (gA G) st t
def qQ (G : Gm) (X : Xm) (r : Option Value) (M : Mm) : State → Prop := MQ (xb X) (qc G r M) (xg X) (xs X) X.2.2.2.2.2.2.2.2.2.2.1 X.2.2.2.2.2.2.2.2.2.2.2 (gA G)
/-- the contract of a method: with these arguments, over M, it answers r and leaves N -/
def Cm (G : Gm) (l : Launch) (d : Nat) (y : MethodName) (cc : ByteArray) (nL : Nat) (ret : Option FieldType) (av : List Value) (M : Mm) (r : Option Value) (N : Mm) : Prop :=
  Met l y (Cond.code y cc nL ret :: tb) ({ frames := d, cells := 0, slots := 0, locals := 40 * d } : Room) (va_Pc av (fun U => gOK G U U.heap ∧ Rep G M U.heap)) (qc G r N) 0 0 (gA G)
section MR
variable {G : Gm} {X : Xm} {Q : State → Prop} {M : Mm} {pc nL d : Nat} {lv : List (Option Value)} {st : List Value} {cc : ByteArray} {own : String}
theorem lh_at {ls : Array Slot} {n : Nat} (h : lh ls n lv) {i : Nat} {v : Value} (hv : lv[i]? = some (some v)) : ls[i]? = some (.val v) := h.2.2 i v hv

theorem m_iconst (hc : xc G X cc nL own d) {n : Int} {v : Int32} (hd : decode cc pc = .ok (.iconst n, 1)) (hv : Int32.ofInt n = v) (kk : WM G X Q M (pc + 1) lv (.int v :: st)) : WM G X Q M pc lv (st) := by
  intro H locs ls hR hS hl
  exact lv_iconst hc.1 hc.2.1 hd hv (kk H locs ls hR hS hl)
theorem m_bipush (hc : xc G X cc nL own d) {n : Int} {v : Int32} (hd : decode cc pc = .ok (.bipush n, 2)) (hv : (Int8.ofInt n).toInt32 = v) (kk : WM G X Q M (pc + 2) lv (.int v :: st)) : WM G X Q M pc lv (st) := by
  intro H locs ls hR hS hl
  exact lv_bipush hc.1 hc.2.1 hd hv (kk H locs ls hR hS hl)
theorem m_sipush (hc : xc G X cc nL own d) {n : Int} {v : Int32} (hd : decode cc pc = .ok (.sipush n, 3)) (hv : (Int16.ofInt n).toInt32 = v) (kk : WM G X Q M (pc + 3) lv (.int v :: st)) : WM G X Q M pc lv (st) := by
  intro H locs ls hR hS hl
  exact lv_sipush hc.1 hc.2.1 hd hv (kk H locs ls hR hS hl)
theorem m_lconst (hc : xc G X cc nL own d) {n : Fin 2} {v : Int64} (hd : decode cc pc = .ok (.lconst n, 1)) (hv : Int64.ofNat (n : Nat) = v) (kk : WM G X Q M (pc + 1) lv (.long v :: st)) : WM G X Q M pc lv (st) := by
  intro H locs ls hR hS hl
  exact lv_lconst hc.1 hc.2.1 hd hv (kk H locs ls hR hS hl)
theorem m_ldc (hc : xc G X cc nL own d) {ix : Nat} {v : Int32} (hd : decode cc pc = .ok (.ldc ix, 2)) (hw : Cond.constant own ix v ∈ tb) (kk : WM G X Q M (pc + 2) lv (.int v :: st)) : WM G X Q M pc lv (st) := by
  intro H locs ls hR hS hl
  exact lv_ldc hc.1 hc.2.1 hc.2.2.2.1 (hc.2.2.2.2.1 _ hw) hd (kk H locs ls hR hS hl)
theorem m_iload_n (hc : xc G X cc nL own d) {k : Fin 4} {x : Int32} (hd : decode cc pc = .ok (.iload_n k, 1)) (hv : lv[(k : Nat)]? = some (some (.int x))) (kk : WM G X Q M (pc + 1) lv (.int x :: st)) : WM G X Q M pc lv (st) := by
  intro H locs ls hR hS hl
  exact lv_iload_n hc.1 hc.2.1 hd rfl (lh_at hl hv) (kk H locs ls hR hS hl)
theorem m_iload (hc : xc G X cc nL own d) {i : Nat} {x : Int32} (hd : decode cc pc = .ok (.iload i, 2)) (hv : lv[i]? = some (some (.int x))) (kk : WM G X Q M (pc + 2) lv (.int x :: st)) : WM G X Q M pc lv (st) := by
  intro H locs ls hR hS hl
  exact lv_iload hc.1 hc.2.1 hd (lh_at hl hv) (kk H locs ls hR hS hl)
theorem m_aload_n (hc : xc G X cc nL own d) {k : Fin 4} {x : Nat} (hd : decode cc pc = .ok (.aload_n k, 1)) (hv : lv[(k : Nat)]? = some (some (.ref x))) (kk : WM G X Q M (pc + 1) lv (.ref x :: st)) : WM G X Q M pc lv (st) := by
  intro H locs ls hR hS hl
  exact lv_aload_n hc.1 hc.2.1 hd rfl (lh_at hl hv) (kk H locs ls hR hS hl)
theorem m_aload (hc : xc G X cc nL own d) {i : Nat} {x : Nat} (hd : decode cc pc = .ok (.aload i, 2)) (hv : lv[i]? = some (some (.ref x))) (kk : WM G X Q M (pc + 2) lv (.ref x :: st)) : WM G X Q M pc lv (st) := by
  intro H locs ls hR hS hl
  exact lv_aload hc.1 hc.2.1 hd (lh_at hl hv) (kk H locs ls hR hS hl)
theorem m_lload_n (hc : xc G X cc nL own d) {k : Fin 4} {x : Int64} (hd : decode cc pc = .ok (.lload_n k, 1)) (hv : lv[(k : Nat)]? = some (some (.long x))) (kk : WM G X Q M (pc + 1) lv (.long x :: st)) : WM G X Q M pc lv (st) := by
  intro H locs ls hR hS hl
  exact lv_lload_n hc.1 hc.2.1 hd rfl (lh_at hl hv) (kk H locs ls hR hS hl)
theorem m_lload (hc : xc G X cc nL own d) {i : Nat} {x : Int64} (hd : decode cc pc = .ok (.lload i, 2)) (hv : lv[i]? = some (some (.long x))) (kk : WM G X Q M (pc + 2) lv (.long x :: st)) : WM G X Q M pc lv (st) := by
  intro H locs ls hR hS hl
  exact lv_lload hc.1 hc.2.1 hd (lh_at hl hv) (kk H locs ls hR hS hl)
theorem m_istore_n (hc : xc G X cc nL own d) {k : Fin 4} {x : Int32} {lv' : List (Option Value)} (hd : decode cc pc = .ok (.istore_n k, 1)) (hi : (k : Nat) < lv.length) (hk : l_ok lv (k : Nat) = true) (hs : lv.set (k : Nat) (some (.int x)) = lv') (kk : WM G X Q M (pc + 1) lv' (st)) : WM G X Q M pc lv (.int x :: st) := by
  intro H locs ls hR hS hl
  refine lv_istore_n hc.1 hc.2.1 hd rfl (lh_has.mp hl) hi rfl fun ls' hl' => ?_
  have h2 := lh_1 hk hl'
  have e : lv'.length = lv.length := by rw [← hs]; simp
  rw [hs] at h2
  exact kk H locs ls' hR hS (e ▸ h2)
theorem m_istore (hc : xc G X cc nL own d) {i : Nat} {x : Int32} {lv' : List (Option Value)} (hd : decode cc pc = .ok (.istore i, 2)) (hi : i < lv.length) (hk : l_ok lv i = true) (hs : lv.set i (some (.int x)) = lv') (kk : WM G X Q M (pc + 2) lv' (st)) : WM G X Q M pc lv (.int x :: st) := by
  intro H locs ls hR hS hl
  refine lv_istore hc.1 hc.2.1 hd (lh_has.mp hl) hi rfl fun ls' hl' => ?_
  have h2 := lh_1 hk hl'
  have e : lv'.length = lv.length := by rw [← hs]; simp
  rw [hs] at h2
  exact kk H locs ls' hR hS (e ▸ h2)
theorem m_astore_n (hc : xc G X cc nL own d) {k : Fin 4} {x : Nat} {lv' : List (Option Value)} (hd : decode cc pc = .ok (.astore_n k, 1)) (hi : (k : Nat) < lv.length) (hk : l_ok lv (k : Nat) = true) (hs : lv.set (k : Nat) (some (.ref x)) = lv') (kk : WM G X Q M (pc + 1) lv' (st)) : WM G X Q M pc lv (.ref x :: st) := by
  intro H locs ls hR hS hl
  refine lv_astore_n hc.1 hc.2.1 hd rfl (lh_has.mp hl) hi rfl fun ls' hl' => ?_
  have h2 := lh_1 hk hl'
  have e : lv'.length = lv.length := by rw [← hs]; simp
  rw [hs] at h2
  exact kk H locs ls' hR hS (e ▸ h2)
theorem m_astore (hc : xc G X cc nL own d) {i : Nat} {x : Nat} {lv' : List (Option Value)} (hd : decode cc pc = .ok (.astore i, 2)) (hi : i < lv.length) (hk : l_ok lv i = true) (hs : lv.set i (some (.ref x)) = lv') (kk : WM G X Q M (pc + 2) lv' (st)) : WM G X Q M pc lv (.ref x :: st) := by
  intro H locs ls hR hS hl
  refine lv_astore hc.1 hc.2.1 hd (lh_has.mp hl) hi rfl fun ls' hl' => ?_
  have h2 := lh_1 hk hl'
  have e : lv'.length = lv.length := by rw [← hs]; simp
  rw [hs] at h2
  exact kk H locs ls' hR hS (e ▸ h2)
theorem m_iinc (hc : xc G X cc nL own d) {i : Nat} {n : Int} {x v : Int32} {lv' : List (Option Value)} (hd : decode cc pc = .ok (.iinc i n, 3)) (hx : lv[i]? = some (some (.int x))) (hv : x + Int32.ofInt n = v) (hk : l_ok lv i = true) (hs : lv.set i (some (.int v)) = lv') (kk : WM G X Q M (pc + 3) lv' st) : WM G X Q M pc lv st := by
  intro H locs ls hR hS hl
  obtain ⟨k, hk1⟩ := List.getElem?_of_mem (la_mem.mpr hx)
  refine lv_iinc hc.1 hc.2.1 hd (lh_has.mp hl) hk1 hv (List.getElem?_eq_some_iff.mp hx).1 rfl fun ls' hl' => ?_
  have h2 := lh_1 hk hl'
  have e : lv'.length = lv.length := by rw [← hs]; simp
  rw [hs] at h2
  exact kk H locs ls' hR hS (e ▸ h2)
theorem l2_get {i j : Nat} {v w : Value} (h : ((lv.set i (some v)).set (i + 1) none)[j]? = some (some w)) : (j = i ∧ w = v) ∨ (j ≠ i ∧ j ≠ i + 1 ∧ lv[j]? = some (some w)) := by
  by_cases e2 : i + 1 = j
  · subst e2
    have hl : i + 1 < (lv.set i (some v)).length := by
      have := (List.getElem?_eq_some_iff.mp h).1
      simpa using this
    rw [List.getElem?_set_self hl] at h
    cases h
  · rw [List.getElem?_set_ne e2] at h
    by_cases e1 : i = j
    · subst e1
      have hl : i < lv.length := by
        have := (List.getElem?_eq_some_iff.mp h).1
        simpa using this
      rw [List.getElem?_set_self hl] at h
      cases h
      exact Or.inl ⟨rfl, rfl⟩
    · rw [List.getElem?_set_ne e1] at h
      exact Or.inr ⟨fun q => e1 q.symm, fun q => e2 q.symm, h⟩
theorem m_lstore_n (hc : xc G X cc nL own d) {k : Fin 4} {x : Int64} {lv' : List (Option Value)} (hd : decode cc pc = .ok (.lstore_n k, 1)) (hi : (k : Nat) + 1 < lv.length) (hk : l_ok lv (k : Nat) = true) (hs : (lv.set (k : Nat) (some (.long x))).set ((k : Nat) + 1) none = lv') (kk : WM G X Q M (pc + 1) lv' st) : WM G X Q M pc lv (.long x :: st) := by
  intro H locs ls hR hS hl
  refine lv_lstore_n hc.1 hc.2.1 hd rfl (lh_has.mp hl) hi rfl fun ls' hl' => ?_
  have e : lv'.length = lv.length := by rw [← hs]; simp
  refine kk H locs ls' hR hS (e ▸ ⟨hl'.1, hl'.2.1, fun j w hj => ?_⟩)
  rw [← hs] at hj
  rcases l2_get hj with ⟨rfl, rfl⟩ | ⟨h1, h2, h3⟩
  · exact hl'.2.2 (_, _) List.mem_cons_self
  · refine hl'.2.2 (j, w) (List.mem_cons_of_mem _ (List.mem_filter.mpr ⟨la_mem.mpr h3, ?_⟩))
    by_cases e2 : j + 1 = (k : Nat)
    · rw [← e2] at hk
      simp only [l_ok, List.getD_eq_getElem?_getD, h3, Option.getD_some] at hk
      have hk' : ¬ w.category = 2 := by simpa using hk
      simp [h1, h2, hk']
    · simp [h1, h2, e2]
theorem m_lstore (hc : xc G X cc nL own d) {i : Nat} {x : Int64} {lv' : List (Option Value)} (hd : decode cc pc = .ok (.lstore i, 2)) (hi : i + 1 < lv.length) (hk : l_ok lv i = true) (hs : (lv.set i (some (.long x))).set (i + 1) none = lv') (kk : WM G X Q M (pc + 2) lv' st) : WM G X Q M pc lv (.long x :: st) := by
  intro H locs ls hR hS hl
  refine lv_lstore hc.1 hc.2.1 hd (lh_has.mp hl) hi rfl fun ls' hl' => ?_
  have e : lv'.length = lv.length := by rw [← hs]; simp
  refine kk H locs ls' hR hS (e ▸ ⟨hl'.1, hl'.2.1, fun j w hj => ?_⟩)
  rw [← hs] at hj
  rcases l2_get hj with ⟨rfl, rfl⟩ | ⟨h1, h2, h3⟩
  · exact hl'.2.2 (_, _) List.mem_cons_self
  · refine hl'.2.2 (j, w) (List.mem_cons_of_mem _ (List.mem_filter.mpr ⟨la_mem.mpr h3, ?_⟩))
    by_cases e2 : j + 1 = i
    · rw [← e2] at hk
      simp only [l_ok, List.getD_eq_getElem?_getD, h3, Option.getD_some] at hk
      have hk' : ¬ w.category = 2 := by simpa using hk
      simp [h1, h2, hk']
    · simp [h1, h2, e2]
theorem m_iadd (hc : xc G X cc nL own d) {x y : Int32} (hd : decode cc pc = .ok (.iadd, 1)) (kk : WM G X Q M (pc + 1) lv (.int (x + y) :: st)) : WM G X Q M pc lv (.int y :: .int x :: st) := by
  intro H locs ls hR hS hl
  exact lv_iadd hc.1 hc.2.1 hd (kk H locs ls hR hS hl)
theorem m_isub (hc : xc G X cc nL own d) {x y : Int32} (hd : decode cc pc = .ok (.isub, 1)) (kk : WM G X Q M (pc + 1) lv (.int (x - y) :: st)) : WM G X Q M pc lv (.int y :: .int x :: st) := by
  intro H locs ls hR hS hl
  exact lv_isub hc.1 hc.2.1 hd (kk H locs ls hR hS hl)
theorem m_imul (hc : xc G X cc nL own d) {x y : Int32} (hd : decode cc pc = .ok (.imul, 1)) (kk : WM G X Q M (pc + 1) lv (.int (x * y) :: st)) : WM G X Q M pc lv (.int y :: .int x :: st) := by
  intro H locs ls hR hS hl
  exact lv_imul hc.1 hc.2.1 hd (kk H locs ls hR hS hl)
theorem m_iand (hc : xc G X cc nL own d) {x y : Int32} (hd : decode cc pc = .ok (.iand, 1)) (kk : WM G X Q M (pc + 1) lv (.int (x &&& y) :: st)) : WM G X Q M pc lv (.int y :: .int x :: st) := by
  intro H locs ls hR hS hl
  exact lv_iand hc.1 hc.2.1 hd (kk H locs ls hR hS hl)
theorem m_ior (hc : xc G X cc nL own d) {x y : Int32} (hd : decode cc pc = .ok (.ior, 1)) (kk : WM G X Q M (pc + 1) lv (.int (x ||| y) :: st)) : WM G X Q M pc lv (.int y :: .int x :: st) := by
  intro H locs ls hR hS hl
  exact lv_ior hc.1 hc.2.1 hd (kk H locs ls hR hS hl)
theorem m_ixor (hc : xc G X cc nL own d) {x y : Int32} (hd : decode cc pc = .ok (.ixor, 1)) (kk : WM G X Q M (pc + 1) lv (.int (x ^^^ y) :: st)) : WM G X Q M pc lv (.int y :: .int x :: st) := by
  intro H locs ls hR hS hl
  exact lv_ixor hc.1 hc.2.1 hd (kk H locs ls hR hS hl)
theorem m_ishl (hc : xc G X cc nL own d) {x y : Int32} (hd : decode cc pc = .ok (.ishl, 1)) (kk : WM G X Q M (pc + 1) lv (.int (x <<< (y &&& 31)) :: st)) : WM G X Q M pc lv (.int y :: .int x :: st) := by
  intro H locs ls hR hS hl
  exact lv_ishl hc.1 hc.2.1 hd (kk H locs ls hR hS hl)
theorem m_ishr (hc : xc G X cc nL own d) {x y : Int32} (hd : decode cc pc = .ok (.ishr, 1)) (kk : WM G X Q M (pc + 1) lv (.int (x >>> (y &&& 31)) :: st)) : WM G X Q M pc lv (.int y :: .int x :: st) := by
  intro H locs ls hR hS hl
  exact lv_ishr hc.1 hc.2.1 hd (kk H locs ls hR hS hl)
theorem m_ineg (hc : xc G X cc nL own d) {x : Int32} (hd : decode cc pc = .ok (.ineg, 1)) (kk : WM G X Q M (pc + 1) lv (.int (-x) :: st)) : WM G X Q M pc lv (.int x :: st) := by
  intro H locs ls hR hS hl
  exact lv_ineg hc.1 hc.2.1 hd (kk H locs ls hR hS hl)
/-- the rest of a division, as the machine tells it -/
theorem m_idiv (hc : xc G X cc nL own d) {x y : Int32} (hd : decode cc pc = .ok (.idiv, 1)) (hne : ¬ y = 0) (kk : WM G X Q M (pc + 1) lv (.int (x / y) :: st)) : WM G X Q M pc lv (.int y :: .int x :: st) := by
  intro H locs ls hR hS hl
  exact lv_idiv hc.1 hc.2.1 hd hne (kk H locs ls hR hS hl)
theorem m_irem (hc : xc G X cc nL own d) {x y : Int32} (hd : decode cc pc = .ok (.irem, 1)) (hne : ¬ y = 0) (kk : WM G X Q M (pc + 1) lv (.int (x - x / y * y) :: st)) : WM G X Q M pc lv (.int y :: .int x :: st) := by
  intro H locs ls hR hS hl
  exact lv_irem hc.1 hc.2.1 hd hne (kk H locs ls hR hS hl)
theorem m_land (hc : xc G X cc nL own d) {x y : Int64} (hd : decode cc pc = .ok (.land, 1)) (kk : WM G X Q M (pc + 1) lv (.long (x &&& y) :: st)) : WM G X Q M pc lv (.long y :: .long x :: st) := by
  intro H locs ls hR hS hl
  exact lv_land hc.1 hc.2.1 hd (kk H locs ls hR hS hl)
theorem m_lor (hc : xc G X cc nL own d) {x y : Int64} (hd : decode cc pc = .ok (.lor, 1)) (kk : WM G X Q M (pc + 1) lv (.long (x ||| y) :: st)) : WM G X Q M pc lv (.long y :: .long x :: st) := by
  intro H locs ls hR hS hl
  exact lv_lor hc.1 hc.2.1 hd (kk H locs ls hR hS hl)
theorem m_lshl (hc : xc G X cc nL own d) {x : Int64} {y : Int32} (hd : decode cc pc = .ok (.lshl, 1)) (kk : WM G X Q M (pc + 1) lv (.long (x <<< (y.toInt64 &&& 63)) :: st)) : WM G X Q M pc lv (.int y :: .long x :: st) := by
  intro H locs ls hR hS hl
  exact lv_lshl hc.1 hc.2.1 hd rfl (kk H locs ls hR hS hl)
theorem m_lshr (hc : xc G X cc nL own d) {x : Int64} {y : Int32} (hd : decode cc pc = .ok (.lshr, 1)) (kk : WM G X Q M (pc + 1) lv (.long (x >>> (y.toInt64 &&& 63)) :: st)) : WM G X Q M pc lv (.int y :: .long x :: st) := by
  intro H locs ls hR hS hl
  exact lv_lshr hc.1 hc.2.1 hd rfl (kk H locs ls hR hS hl)
theorem m_lcmp (hc : xc G X cc nL own d) {x y : Int64} (hd : decode cc pc = .ok (.lcmp, 1)) (kk : WM G X Q M (pc + 1) lv (.int (lg_cmp x y) :: st)) : WM G X Q M pc lv (.long y :: .long x :: st) := by
  intro H locs ls hR hS hl
  exact W.lcmp hc.1 hc.2.1 hd (kk H locs ls hR hS hl)
theorem m_i2b (hc : xc G X cc nL own d) {x : Int32} (hd : decode cc pc = .ok (.i2b, 1)) (kk : WM G X Q M (pc + 1) lv (.int (x.toInt8.toInt32) :: st)) : WM G X Q M pc lv (.int x :: st) := by
  intro H locs ls hR hS hl
  exact lv_i2b hc.1 hc.2.1 hd rfl (kk H locs ls hR hS hl)
theorem m_i2s (hc : xc G X cc nL own d) {x : Int32} (hd : decode cc pc = .ok (.i2s, 1)) (kk : WM G X Q M (pc + 1) lv (.int (x.toInt16.toInt32) :: st)) : WM G X Q M pc lv (.int x :: st) := by
  intro H locs ls hR hS hl
  exact lv_i2s hc.1 hc.2.1 hd rfl (kk H locs ls hR hS hl)
theorem m_dup (hc : xc G X cc nL own d) {v : Value} (hd : decode cc pc = .ok (.dup, 1)) (hv : v.category = 1) (kk : WM G X Q M (pc + 1) lv (v :: v :: st)) : WM G X Q M pc lv (v :: st) := by
  intro H locs ls hR hS hl
  exact lv_dup hc.1 hc.2.1 hd hv (kk H locs ls hR hS hl)
theorem m_pop (hc : xc G X cc nL own d) {v : Value} (hd : decode cc pc = .ok (.pop, 1)) (hv : v.category = 1) (kk : WM G X Q M (pc + 1) lv (st)) : WM G X Q M pc lv (v :: st) := by
  intro H locs ls hR hS hl
  exact lv_pop hc.1 hc.2.1 hd hv (kk H locs ls hR hS hl)
theorem m_dup2 (hc : xc G X cc nL own d) {v w : Value} (hd : decode cc pc = .ok (.dup2, 1)) (hv : v.category = 1) (hw : w.category = 1) (kk : WM G X Q M (pc + 1) lv (v :: w :: v :: w :: st)) : WM G X Q M pc lv (v :: w :: st) := by
  intro H locs ls hR hS hl
  exact lv_dup2_11 hc.1 hc.2.1 hd hv hw (kk H locs ls hR hS hl)
theorem m_goto (hc : xc G X cc nL own d) {off : Int} {tgt : Nat} (hd : decode cc pc = .ok (.goto off, 3)) (ht : (pc : Int) + off = (tgt : Int)) (kk : WM G X Q M (tgt) lv (st)) : WM G X Q M pc lv (st) := by
  intro H locs ls hR hS hl
  exact lv_goto hc.1 hc.2.1 hd ht (kk H locs ls hR hS hl)
theorem m_ifeq (hc : xc G X cc nL own d) {x : Int32} {off : Int} {tgt : Nat} (hd : decode cc pc = .ok (.ifCond .eq off, 3)) (ht : (pc : Int) + off = (tgt : Int)) (kt : x = 0 → WM G X Q M tgt lv st) (kf : ¬ x = 0 → WM G X Q M (pc + 3) lv st) : WM G X Q M pc lv (.int x :: st) := by
  intro H locs ls hR hS hl
  exact lv_if_eq hc.1 hc.2.1 hd ht (fun q => kt q H locs ls hR hS hl) (fun q => kf q H locs ls hR hS hl)
theorem m_iceq (hc : xc G X cc nL own d) {x y : Int32} {off : Int} {tgt : Nat} (hd : decode cc pc = .ok (.if_icmp .eq off, 3)) (ht : (pc : Int) + off = (tgt : Int)) (kt : x = y → WM G X Q M tgt lv st) (kf : ¬ x = y → WM G X Q M (pc + 3) lv st) : WM G X Q M pc lv (.int y :: .int x :: st) := by
  intro H locs ls hR hS hl
  exact lv_icmp_eq hc.1 hc.2.1 hd ht (fun q => kt q H locs ls hR hS hl) (fun q => kf q H locs ls hR hS hl)
theorem m_ifne (hc : xc G X cc nL own d) {x : Int32} {off : Int} {tgt : Nat} (hd : decode cc pc = .ok (.ifCond .ne off, 3)) (ht : (pc : Int) + off = (tgt : Int)) (kt : ¬ x = 0 → WM G X Q M tgt lv st) (kf : x = 0 → WM G X Q M (pc + 3) lv st) : WM G X Q M pc lv (.int x :: st) := by
  intro H locs ls hR hS hl
  exact lv_if_ne hc.1 hc.2.1 hd ht (fun q => kt q H locs ls hR hS hl) (fun q => kf q H locs ls hR hS hl)
theorem m_icne (hc : xc G X cc nL own d) {x y : Int32} {off : Int} {tgt : Nat} (hd : decode cc pc = .ok (.if_icmp .ne off, 3)) (ht : (pc : Int) + off = (tgt : Int)) (kt : ¬ x = y → WM G X Q M tgt lv st) (kf : x = y → WM G X Q M (pc + 3) lv st) : WM G X Q M pc lv (.int y :: .int x :: st) := by
  intro H locs ls hR hS hl
  exact lv_icmp_ne hc.1 hc.2.1 hd ht (fun q => kt q H locs ls hR hS hl) (fun q => kf q H locs ls hR hS hl)
theorem m_iflt (hc : xc G X cc nL own d) {x : Int32} {off : Int} {tgt : Nat} (hd : decode cc pc = .ok (.ifCond .lt off, 3)) (ht : (pc : Int) + off = (tgt : Int)) (kt : x < 0 → WM G X Q M tgt lv st) (kf : ¬ x < 0 → WM G X Q M (pc + 3) lv st) : WM G X Q M pc lv (.int x :: st) := by
  intro H locs ls hR hS hl
  exact lv_if_lt hc.1 hc.2.1 hd ht (fun q => kt q H locs ls hR hS hl) (fun q => kf q H locs ls hR hS hl)
theorem m_iclt (hc : xc G X cc nL own d) {x y : Int32} {off : Int} {tgt : Nat} (hd : decode cc pc = .ok (.if_icmp .lt off, 3)) (ht : (pc : Int) + off = (tgt : Int)) (kt : x < y → WM G X Q M tgt lv st) (kf : ¬ x < y → WM G X Q M (pc + 3) lv st) : WM G X Q M pc lv (.int y :: .int x :: st) := by
  intro H locs ls hR hS hl
  exact lv_icmp_lt hc.1 hc.2.1 hd ht (fun q => kt q H locs ls hR hS hl) (fun q => kf q H locs ls hR hS hl)
theorem m_ifge (hc : xc G X cc nL own d) {x : Int32} {off : Int} {tgt : Nat} (hd : decode cc pc = .ok (.ifCond .ge off, 3)) (ht : (pc : Int) + off = (tgt : Int)) (kt : 0 ≤ x → WM G X Q M tgt lv st) (kf : ¬ 0 ≤ x → WM G X Q M (pc + 3) lv st) : WM G X Q M pc lv (.int x :: st) := by
  intro H locs ls hR hS hl
  exact lv_if_ge hc.1 hc.2.1 hd ht (fun q => kt q H locs ls hR hS hl) (fun q => kf q H locs ls hR hS hl)
theorem m_icge (hc : xc G X cc nL own d) {x y : Int32} {off : Int} {tgt : Nat} (hd : decode cc pc = .ok (.if_icmp .ge off, 3)) (ht : (pc : Int) + off = (tgt : Int)) (kt : y ≤ x → WM G X Q M tgt lv st) (kf : ¬ y ≤ x → WM G X Q M (pc + 3) lv st) : WM G X Q M pc lv (.int y :: .int x :: st) := by
  intro H locs ls hR hS hl
  exact lv_icmp_ge hc.1 hc.2.1 hd ht (fun q => kt q H locs ls hR hS hl) (fun q => kf q H locs ls hR hS hl)
theorem m_ifgt (hc : xc G X cc nL own d) {x : Int32} {off : Int} {tgt : Nat} (hd : decode cc pc = .ok (.ifCond .gt off, 3)) (ht : (pc : Int) + off = (tgt : Int)) (kt : 0 < x → WM G X Q M tgt lv st) (kf : ¬ 0 < x → WM G X Q M (pc + 3) lv st) : WM G X Q M pc lv (.int x :: st) := by
  intro H locs ls hR hS hl
  exact lv_if_gt hc.1 hc.2.1 hd ht (fun q => kt q H locs ls hR hS hl) (fun q => kf q H locs ls hR hS hl)
theorem m_icgt (hc : xc G X cc nL own d) {x y : Int32} {off : Int} {tgt : Nat} (hd : decode cc pc = .ok (.if_icmp .gt off, 3)) (ht : (pc : Int) + off = (tgt : Int)) (kt : y < x → WM G X Q M tgt lv st) (kf : ¬ y < x → WM G X Q M (pc + 3) lv st) : WM G X Q M pc lv (.int y :: .int x :: st) := by
  intro H locs ls hR hS hl
  exact lv_icmp_gt hc.1 hc.2.1 hd ht (fun q => kt q H locs ls hR hS hl) (fun q => kf q H locs ls hR hS hl)
theorem m_ifle (hc : xc G X cc nL own d) {x : Int32} {off : Int} {tgt : Nat} (hd : decode cc pc = .ok (.ifCond .le off, 3)) (ht : (pc : Int) + off = (tgt : Int)) (kt : x ≤ 0 → WM G X Q M tgt lv st) (kf : ¬ x ≤ 0 → WM G X Q M (pc + 3) lv st) : WM G X Q M pc lv (.int x :: st) := by
  intro H locs ls hR hS hl
  exact lv_if_le hc.1 hc.2.1 hd ht (fun q => kt q H locs ls hR hS hl) (fun q => kf q H locs ls hR hS hl)
theorem m_icle (hc : xc G X cc nL own d) {x y : Int32} {off : Int} {tgt : Nat} (hd : decode cc pc = .ok (.if_icmp .le off, 3)) (ht : (pc : Int) + off = (tgt : Int)) (kt : x ≤ y → WM G X Q M tgt lv st) (kf : ¬ x ≤ y → WM G X Q M (pc + 3) lv st) : WM G X Q M pc lv (.int y :: .int x :: st) := by
  intro H locs ls hR hS hl
  exact lv_icmp_le hc.1 hc.2.1 hd ht (fun q => kt q H locs ls hR hS hl) (fun q => kf q H locs ls hR hS hl)
theorem m_tsOut (hc : xc G X cc nL own d) {dflt lo hi : Int} {offs : Array Int} {len : Nat} {x : Int32} {tgt : Nat} (hd : decode cc pc = .ok (.tableswitch dflt lo hi offs, len)) (h : x.toInt < lo ∨ hi < x.toInt) (ht : (pc : Int) + dflt = (tgt : Int)) (kk : WM G X Q M tgt lv st) : WM G X Q M pc lv (.int x :: st) := by
  intro H locs ls hR hS hl
  exact lv_tableOut hc.1 hc.2.1 hd h ht (kk H locs ls hR hS hl)
theorem m_tsIn (hc : xc G X cc nL own d) {dflt lo hi : Int} {offs : Array Int} {len : Nat} {x : Int32} {off : Int} {tgt : Nat} (hd : decode cc pc = .ok (.tableswitch dflt lo hi offs, len)) (h1 : ¬ x.toInt < lo) (h2 : ¬ hi < x.toInt) (ho : offs[(x.toInt - lo).toNat]? = some off) (ht : (pc : Int) + off = (tgt : Int)) (kk : WM G X Q M tgt lv st) : WM G X Q M pc lv (.int x :: st) := by
  intro H locs ls hR hS hl
  exact lv_tableIn hc.1 hc.2.1 hd h1 h2 ho ht (kk H locs ls hR hS hl)
/-- naming, and forgetting -/
theorem m_lv {lv' : List (Option Value)} (hl' : lv'.length = lv.length) (h : ∀ (i : Nat) (v : Value), lv'[i]? = some (some v) → lv[i]? = some (some v)) (kk : WM G X Q M pc lv' st) : WM G X Q M pc lv st := by
  intro H locs ls hR hS hl
  exact kk H locs ls hR hS ⟨by rw [hl']; exact hl.1, hl.2.1, fun i v q => hl.2.2 i v (h i v q)⟩
/-! fields -/
theorem fl_I {k : Nat} {t : List (Option Nat)} {j : Nat} (h : t.getD j none = none) : fl_ G M k t j = .int (M k j) := by
  unfold fl_
  rw [h]
theorem fl_R {k q : Nat} {t : List (Option Nat)} {j : Nat} (h : t.getD j none = some q) : fl_ G M k t j = .ref (gR G q) := by
  unfold fl_
  rw [h]
theorem m_get (hc : xc G X cc nL own d) {a ci n : Nat} {t : List (Option Nat)} (ho : isO a ci n t) {C : String} {T : u_T} (hC : vwCl[ci]? = some (C, T, n)) (hin : ∀ w ∈ u_ws C T n, w ∈ tb) {ix : Nat} (j : Nat) (hj : j < n) (hw : Cond.fieldLink own ix (T j).1 (T j).2.1 (T j).2.2.1 ∈ tb) {v : Value} (hv : fl_ G M a t j = v) (hd : decode cc pc = .ok (.getfield ix, 3)) (kk : WM G X Q M (pc + 3) lv (v :: st)) : WM G X Q M pc lv (.ref (gR G a) :: st) := by
  intro H locs ls hR hS hl
  obtain ⟨hx, hb, hml, hown, hts, hlk, hg, -⟩ := hc
  have he := gW_at (G := G) (M := M) ho.1
  rw [en_O ho] at he
  exact va_get hx hb hts hin hown hg.1 hR a he hC j hj (hts _ hw) (fun _ h => h) (by rw [List.getElem?_map, List.getElem?_range hj, ← hv]; rfl) hd (kk H locs ls hR hS hl)
/-- an int field, a reference's -/
theorem m_getI (hc : xc G X cc nL own d) {a ci n : Nat} {t : List (Option Nat)} (ho : isO a ci n t) {C : String} {T : u_T} (hC : vwCl[ci]? = some (C, T, n)) (hin : ∀ w ∈ u_ws C T n, w ∈ tb) {ix : Nat} (j : Nat) (hj : j < n) (hw : Cond.fieldLink own ix (T j).1 (T j).2.1 (T j).2.2.1 ∈ tb) (ht : t.getD j none = none) (hd : decode cc pc = .ok (.getfield ix, 3)) (kk : WM G X Q M (pc + 3) lv (.int (M a j) :: st)) : WM G X Q M pc lv (.ref (gR G a) :: st) :=
  m_get hc ho hC hin j hj hw (fl_I ht) hd kk
theorem m_getR (hc : xc G X cc nL own d) {a ci n q : Nat} {t : List (Option Nat)} (ho : isO a ci n t) {C : String} {T : u_T} (hC : vwCl[ci]? = some (C, T, n)) (hin : ∀ w ∈ u_ws C T n, w ∈ tb) {ix : Nat} (j : Nat) (hj : j < n) (hw : Cond.fieldLink own ix (T j).1 (T j).2.1 (T j).2.2.1 ∈ tb) (ht : t.getD j none = some q) (hd : decode cc pc = .ok (.getfield ix, 3)) (kk : WM G X Q M (pc + 3) lv (.ref (gR G q) :: st)) : WM G X Q M pc lv (.ref (gR G a) :: st) :=
  m_get hc ho hC hin j hj hw (fl_R ht) hd kk
theorem fl_set {a n : Nat} {t : List (Option Nat)} {j : Nat} {x : Int32} (hj : j < n) (ht : t.getD j none = none) : ((List.range n).map (fl_ G M a t)).set j (.int x) = (List.range n).map (fl_ G (mw M a j x) a t) := by
  apply List.ext_getElem?
  intro i
  by_cases hi : i < n
  · by_cases e : i = j
    · subst e
      rw [List.getElem?_set_self (by simpa using hi), List.getElem?_map, List.getElem?_range hi, Option.map_some, fl_I ht]
      simp [mw, mu_s, upd]
    · rw [List.getElem?_set_ne (Ne.symm e), List.getElem?_map, List.getElem?_map, List.getElem?_range hi]
      simp [fl_, mw, mu_s, upd, e]
  · rw [List.getElem?_eq_none (by simp; omega), List.getElem?_eq_none (by simp; omega)]
theorem m_putI (hc : xc G X cc nL own d) {a ci n : Nat} {t : List (Option Nat)} (ho : isO a ci n t) {C : String} {T : u_T} (hC : vwCl[ci]? = some (C, T, n)) (hin : ∀ w ∈ u_ws C T n, w ∈ tb) (ty0 : Nat → FieldType) (hty : ∀ k, k < n → parseFieldDescriptor (T k).2.2.1 = some (ty0 k)) (hnm : ∀ a, a < n → ∀ b, b < n → a ≠ b → (T a).2.1 ≠ (T b).2.1) {ix : Nat} (j : Nat) (hj : j < n) (hw : Cond.fieldLink own ix (T j).1 (T j).2.1 (T j).2.2.1 ∈ tb) (hfin : (T j).2.2.2 = false) (ht : t.getD j none = none) {x : Int32} (hn : narrow (ty0 j) (.int x) = .int x) (hf : fits (ty0 j) (.int x) = true) (hd : decode cc pc = .ok (.putfield ix, 3)) (kk : WM G X Q (mw M a j x) (pc + 3) lv st) : WM G X Q M pc lv (.int x :: .ref (gR G a) :: st) := by
  intro H locs ls hR hS hl
  obtain ⟨hx, hb, hml, hown, hts, hlk, hg, -⟩ := hc
  have he := gW_at (G := G) (M := M) ho.1
  rw [en_O ho] at he
  refine va_put hx hb hts hin ty0 hty hnm hown hg.1 hR (gD_ok hg) hS a he hC j hj (hts _ hw) (fun _ h => h) hfin (hty j hj) hn hf (by simpa using hj) hd (fun H1 locs1 hP1 hD1 hS1 => ?_)
  rw [fl_set hj ht, ← en_O ho, gW_set (G := G) (M := M) (k := a) (g := upd (M a) j x) (e := en G (mw M a j x) a) rfl] at hP1
  exact kk H1 locs1 ls hP1 hS1 hl
/-! arrays -/
/-- an index within -/
abbrev ib (i : Int32) (n : Nat) : Prop := 0 ≤ i.toInt ∧ i.toInt < n
theorem ib_vp {i : Int32} {n : Nat} (h : ib i n) : vp_in i n := vp_in_iff.mpr h
theorem ib_lt {i : Int32} {n : Nat} (h : ib i n) : i.toNatClampNeg < n := Nat.not_le.mp fun q => ib_vp h (Or.inr q)
theorem m_iald (hc : xc G X cc nL own d) {a n : Nat} (ha : isA a n) {i : Int32} (hi : ib i n) (hd : decode cc pc = .ok (.iaload, 1)) (kk : WM G X Q M (pc + 1) lv (.int (M a i.toNatClampNeg) :: st)) : WM G X Q M pc lv (.int i :: .ref (gR G a) :: st) := by
  intro H locs ls hR hS hl
  have he := gW_at (G := G) (M := M) ha.1
  rw [en_I ha] at he
  exact va_iald hc.1 hc.2.1 hc.2.2.2.2.2.2.1.1 hR a 0 he rfl (ib_vp hi) hd (kk H locs ls hR hS hl)
theorem m_zald (hc : xc G X cc nL own d) {a n : Nat} (ha : isB a n) {i : Int32} (hi : ib i n) (hd : decode cc pc = .ok (.baload, 1)) (kk : WM G X Q M (pc + 1) lv (.int (M a i.toNatClampNeg) :: st)) : WM G X Q M pc lv (.int i :: .ref (gR G a) :: st) := by
  intro H locs ls hR hS hl
  have he := gW_at (G := G) (M := M) ha.1
  rw [en_Z ha] at he
  exact va_zald hc.1 hc.2.1 hc.2.2.2.2.2.2.1.1 hR a 1 he rfl (ib_vp hi) hd (kk H locs ls hR hS hl)
theorem m_iast (hc : xc G X cc nL own d) {a n : Nat} (ha : isA a n) {i x : Int32} (hi : ib i n) (hd : decode cc pc = .ok (.iastore, 1)) (kk : WM G X Q (mw M a i.toNatClampNeg x) (pc + 1) lv st) : WM G X Q M pc lv (.int x :: .int i :: .ref (gR G a) :: st) := by
  intro H locs ls hR hS hl
  have he := gW_at (G := G) (M := M) ha.1
  rw [en_I ha] at he
  refine va_iast hc.1 hc.2.1 hc.2.2.2.2.2.2.1.1 hR (gD_ok hc.2.2.2.2.2.2.1) hS a 0 he rfl (ib_vp hi) hd (fun H1 locs1 hP1 hD1 hS1 => ?_)
  rw [gW_set (g := upd (M a) i.toNatClampNeg x) (by rw [en_I ha, mu_s])] at hP1
  exact kk H1 locs1 ls hP1 hS1 hl
theorem m_zast (hc : xc G X cc nL own d) {a n : Nat} (ha : isB a n) {i x : Int32} (hi : ib i n) (hd : decode cc pc = .ok (.bastore, 1)) (kk : WM G X Q (mw M a i.toNatClampNeg (vp_nar .boolean x)) (pc + 1) lv st) : WM G X Q M pc lv (.int x :: .int i :: .ref (gR G a) :: st) := by
  intro H locs ls hR hS hl
  have he := gW_at (G := G) (M := M) ha.1
  rw [en_Z ha] at he
  refine va_zast hc.1 hc.2.1 hc.2.2.2.2.2.2.1.1 hR (gD_ok hc.2.2.2.2.2.2.1) hS a 1 he rfl (ib_vp hi) hd (fun H1 locs1 hP1 hD1 hS1 => ?_)
  rw [gW_set (g := upd (M a) i.toNatClampNeg (vp_nar .boolean x)) (by rw [en_Z ha, mu_s])] at hP1
  exact kk H1 locs1 ls hP1 hS1 hl
theorem m_alen (hc : xc G X cc nL own d) {a n : Nat} (ha : isA a n) (hd : decode cc pc = .ok (.arraylength, 1)) (kk : WM G X Q M (pc + 1) lv (.int (nI n) :: st)) : WM G X Q M pc lv (.ref (gR G a) :: st) := by
  intro H locs ls hR hS hl
  have he := gW_at (G := G) (M := M) ha.1
  rw [en_I ha] at he
  exact va_alen hc.1 hc.2.1 hc.2.2.2.2.2.2.1.1 hR a 0 he rfl rfl hd (kk H locs ls hR hS hl)
/-- an array of arrays -/
theorem m_jald (hc : xc G X cc nL own d) {a n : Nat} {t : List (Option Nat)} (ha : isJ a n t) {i : Int32} (hi : ib i n) {q : Nat} (hq : t.getD i.toNatClampNeg none = some q) (hd : decode cc pc = .ok (.aaload, 1)) (kk : WM G X Q M (pc + 1) lv (.ref (gR G q) :: st)) : WM G X Q M pc lv (.int i :: .ref (gR G a) :: st) := by
  intro H locs ls hR hS hl
  have he := gW_at (G := G) (M := M) ha.1
  rw [en_J ha] at he
  have hT : (gT G)[2]? = some (G.2.2.2.1.2.2.1, .array .int) := rfl
  have hlt := ib_lt hi
  exact W.aald (v := .ref (gR G q)) (ty := .array .int) hc.1 hc.2.1 (hR a _ he) ((hc.2.2.2.2.2.2.1.1.2 2 _ hT).1 n (fun j => va_rf ((t.getD j none).map (gR G)))) rfl (fun q => by cases q) (by show ¬ (i < 0 ∨ (arrV _ _ _).slots.size ≤ _); rw [arrV_size]; exact ib_vp hi) (by show (arrV _ _ _).slots[_]? = _; rw [arrV_read _ _ hlt]; show some (va_rf ((t.getD i.toNatClampNeg none).map (gR G))) = _; rw [hq]; rfl) rfl rfl hd (kk H locs ls hR hS hl)
/-- the array of parts -/
theorem m_pald (hc : xc G X cc nL own d) {a n : Nat} {t : List (Option Nat)} (ha : isP a n t) {i : Int32} (hi : ib i n) {q : Nat} (hq : t.getD i.toNatClampNeg none = some q) (hd : decode cc pc = .ok (.aaload, 1)) (kk : WM G X Q M (pc + 1) lv (.ref (gR G q) :: st)) : WM G X Q M pc lv (.int i :: .ref (gR G a) :: st) := by
  intro H locs ls hR hS hl
  have he := gW_at (G := G) (M := M) ha.1
  rw [en_P ha] at he
  have hT : (gT G)[3]? = some (G.2.2.2.1.2.2.2, .object RX3) := rfl
  have hlt := ib_lt hi
  exact W.aald (v := .ref (gR G q)) (ty := .object RX3) hc.1 hc.2.1 (hR a _ he) ((hc.2.2.2.2.2.2.1.1.2 3 _ hT).1 n (fun j => va_rf ((t.getD j none).map (gR G)))) rfl (fun q => by cases q) (by show ¬ (i < 0 ∨ (arrV _ _ _).slots.size ≤ _); rw [arrV_size]; exact ib_vp hi) (by show (arrV _ _ _).slots[_]? = _; rw [arrV_read _ _ hlt]; show some (va_rf ((t.getD i.toNatClampNeg none).map (gR G))) = _; rw [hq]; rfl) rfl rfl hd (kk H locs ls hR hS hl)
/-! static arrays -/
theorem m_sget (hc : xc G X cc nL own d) (f : Nat) (hf : f < 10) {ix : Nat} (hw : Cond.fieldLink own ix (sT f).1 (sT f).2.1 "[I" ∈ tb) (hd : decode cc pc = .ok (.getstatic ix, 3)) (kk : WM G X Q M (pc + 3) lv (.ref (gZ G f) :: st)) : WM G X Q M pc lv st := by
  intro H locs ls hR hS hl
  obtain ⟨hx, hb, hml, hown, hts, hlk, hg, -⟩ := hc
  exact va_gets hx hb (hg.2.1 f hf).1 hS hown (hts _ hw) (fun _ h => h) hd (kk H locs ls hR hS hl)
theorem m_sald (hc : xc G X cc nL own d) (f : Nat) (hf : f < 10) {n : Nat} (hn : (sT f).2.2.length = n) {i : Int32} (hi : ib i n) (hd : decode cc pc = .ok (.iaload, 1)) (kk : WM G X Q M (pc + 1) lv (.int (st_ f i.toNatClampNeg) :: st)) : WM G X Q M pc lv (.int i :: .ref (gZ G f) :: st) := by
  intro H locs ls hR hS hl
  subst hn
  exact va_ti hc.1 hc.2.1 (hc.2.2.2.2.2.2.1.2.1 f hf).2 hS (ib_vp hi) rfl hd (kk H locs ls hR hS hl)

/-! copying -/
def cpy (f g : Nat → Int32) (sp dp n : Int32) : Nat → Int32 := va_cpy f g sp.toNatClampNeg dp.toNatClampNeg n.toNatClampNeg
theorem m_acpy (hc : xc G X cc nL own d) (hd1 : 1 ≤ d) {a b na nb : Nat} (ha : isA a na) (hb : isA b nb) {ix : Nat} (hw : Cond.methodLink own ix arraycopyName ∈ tb) (hw1 : Cond.native arraycopyName ∈ tb) (hw2 : Cond.static arraycopyName ∈ tb) (hw3 : Cond.initialized "java/lang/System" ∈ tb) {sp dp n : Int32} (h1 : 0 ≤ sp.toInt) (h2 : 0 ≤ dp.toInt) (h3 : 0 ≤ n.toInt) (h4 : sp.toInt + n.toInt ≤ na) (h5 : dp.toInt + n.toInt ≤ nb) (hlen : lv.length = nL) (hst : (st.map fun v => v.category).sum ≤ 8) (hd : decode cc pc = .ok (.invokestatic ix, 3)) (kk : WM G X Q (mu M b (cpy (M a) (M b) sp dp n)) (pc + 3) lv st) : WM G X Q M pc lv (.int n :: .int dp :: .ref (gR G b) :: .int sp :: .ref (gR G a) :: st) := by
  intro H locs ls hR hS hl
  obtain ⟨hx, hbb, hml, hown, hts, hlk, hg, hr1, hr2, -⟩ := hc
  have he := gW_at (G := G) (M := M) ha.1
  rw [en_I ha] at he
  have he2 := gW_at (G := G) (M := M) hb.1
  rw [en_I hb] at he2
  have nn : ∀ z : Int32, 0 ≤ z.toInt → (z.toNatClampNeg : Int) = z.toInt := fun z hz => by show ((z.toInt.toNat : Nat) : Int) = _; omega
  have nl : ∀ z : Int32, 0 ≤ z.toInt → ¬ z < 0 := fun z hz h => by
    have := Int32.lt_iff_toInt_lt.mp h
    simp at this
    omega
  have e1 := nn sp h1
  have e2 := nn dp h2
  have e3 := nn n h3
  refine va_copyi hx hbb (by rw [hml, ← hlen]; exact hl.1.symm) hown (hts _ hw) (hts _ hw1) (hts _ hw2) (hts _ hw3) hg.1 hR (gD_ok hg) hS a b 0 0 he he2 rfl rfl rfl (nl sp h1) (nl dp h2) (nl n h3) (by omega) (by omega) (fun _ _ => rfl) (Nat.le_trans hd1 hr1) ?_ hd (fun H1 locs1 hP1 hD1 hS1 => ?_)
  · have : nativeFrameWords "java/lang/System" "arraycopy" 5 ≤ 15 := by decide +kernel
    omega
  · rw [gW_set (g := cpy (M a) (M b) sp dp n) (by rw [en_I hb, mu_s]; rfl)] at hP1
    exact kk H1 locs1 ls hP1 hS1 hl
/-! calls -/
theorem gOK_blind {av : List Value} : FrameBlind (va_Pc av (fun U => gOK G U U.heap ∧ Rep G M U.heap)) := fun a U g mk q => by
  obtain ⟨q0, q1, q2⟩ := q
  exact ⟨q0, gOK.moved (u := U) (U := U.calling g mk a) (Vm.Alike.refl U.vm) q1, q2⟩
theorem lw_good : tb.all goodWord = true := List.all_eq_true.mpr (fun _ h => (List.mem_filter.mp h).2)
theorem m_runQ {H : Heap} {locs : List Loc} {ls : Array Slot} {st0 : List Value} {r : Option Value} {N : Mm} {av : Array Value} {l : Launch} {p : Program} {e : Env} {R : Room} {s : State} {m : MethodId} {args : Array Value} {below : List Frame} {meth : Method} {c : Code} {cells slots : Nat}
    (hr : va_Run p l e R s m args below meth c H locs cells slots 0 0 (F0 m pc ls st0) st (qc G r N av) (gA G)) (hS : va_S (gA G) s.heap H locs) (hl : lh ls lv.length lv) (kk : WM G (l, p, e, R, s, m, args, below, meth, c, cells, slots) Q N (pc + 3) lv (r.toList ++ st)) : W p l e R s m args below meth c H locs cells slots Q (F0 m pc ls st0) := by
  intro T hT X
  obtain ⟨v, st₀, t, T', L, h0, X', hL, e1, e2, ⟨hv, hR1, hz, hk⟩, stp⟩ := hr T hT X
  cases hv
  rw [h0] at hz hk
  obtain ⟨t2, a1, b1⟩ := kk T'.heap (locs ++ L) ls (by rw [e1]; exact hR1) ⟨Nat.le_trans hS.1 (by rw [e1]; exact hz), fun q h1 h2 => by rw [e1, hk q (Nat.lt_of_lt_of_le h1 hS.1) h2]; exact hS.2.1 q h1 h2, fun q hq => by
      rcases List.mem_append.mp hq with h | h
      · exact hS.2.2 q h
      · exact hL q h⟩ hl T' rfl X'
  exact ⟨t2, stp t2 a1, b1⟩
theorem m_callS (hc : xc G X cc nL own d) {y : MethodName} {bytes : ByteArray} {maxL n d' : Nat} {ret : Option FieldType} {As : List Value} {r : Option Value} {N : Mm} (hM : Cm G X.1 d' y bytes maxL ret As M r N) {ix : Nat} (hdd : d' + 1 ≤ d) (hmx : maxL ≤ 21) (hw : Cond.methodLink own ix y ∈ tb) (hw1 : Cond.static y ∈ tb) (hw2 : Cond.initialized y.cls ∈ tb) (hw3 : Cond.code y bytes maxL ret ∈ tb) (hy : y.cls ≠ "java/lang/invoke/MethodHandle" ∧ y.cls ≠ "java/lang/invoke/VarHandle" ∧ (parseMethodDescriptor y.desc).map (fun d => d.parameters.length) = some n) (hn : As.length = n) {st0 : List Value} (hst : st0 = As.reverse ++ st) (hlen : lv.length = nL) (hsum : (st.map fun v => v.category).sum ≤ 8) (hd : decode cc pc = .ok (.invokestatic ix, 3)) (kk : WM G X Q N (pc + 3) lv (r.toList ++ st)) : WM G X Q M pc lv st0 := by
  obtain ⟨l, p, e, R, s, m, args, below, meth, c, cells, slots⟩ := X
  intro H locs ls hR hS hl
  obtain ⟨hx, hb, hml, hown, hts, hlk, hg, hr1, hr2, hr3, hr4⟩ := hc
  have hG : GoodIn tb (va_wsS own ix y (Cond.code y bytes maxL ret :: tb)) := fun w hw9 => by
    have hm : w ∈ tb := by
      simp only [va_wsS, List.cons_append, List.nil_append, List.mem_cons] at hw9
      rcases hw9 with rfl | rfl | rfl | rfl | h
      · exact hw
      · exact hw1
      · exact hw2
      · exact hw3
      · exact h
    exact ⟨hm, good_of_word (List.all_eq_true.mp lw_good w hm)⟩
  dsimp only at hr1 hr2 hr3 hr4 hx hb hml hown hts hlk hg hS
  refine m_runQ (va_runS (rest := st) ⟨hx, hb, hml, hown, hts⟩ hM (va_cwS n hts hG rfl rfl rfl hy ⟨by show d' + 1 ≤ R.frames; omega, by show 8 + (maxL + 11) + 40 * d' ≤ R.locals; omega⟩) ⟨gOK_blind, fun U hU hW => ⟨rfl, by rw [hU]; exact (gOK.moved hW.alike hg).kept (fun a h1 h2 => hS.2.1 a h1 h2), by rw [hU]; exact hR⟩⟩ rfl hn (hl.1.trans hlen) hst (lv_room hsum) hd ⟨hr3, hr4⟩) hS hl kk
theorem rep_recv {a ci n : Nat} {t : List (Option Nat)} {C : String} {T : u_T} {H : Heap} {s : State} (hg : gOK G s s.heap) (hR : Rep G M H) (ho : isO a ci n t) (hC : vwCl[ci]? = some (C, T, n)) : ∃ cell : Cell, H[gR G a]? = some cell ∧ cell.vm.isStatics = false ∧ s.vm.findClass C = some cell.cls := by
  have he := gW_at (G := G) (M := M) ho.1
  rw [en_O ho] at he
  exact va_recv hg.1 hR hC he
theorem m_callV (hc : xc G X cc nL own d) {y : MethodName} {bytes : ByteArray} {maxL n d' : Nat} {ret : Option FieldType} {a ci nf : Nat} {t : List (Option Nat)} {T : u_T} (ho : isO a ci nf t) {C : String} (hC : vwCl[ci]? = some (C, T, nf)) {As : List Value} {r : Option Value} {N : Mm} (hM : Cm G X.1 d' y bytes maxL ret (.ref (gR G a) :: As) M r N) {ix : Nat} (hdd : d' + 1 ≤ d) (hmx : maxL ≤ 21) (hw : Cond.methodLink own ix y ∈ tb) (hw1 : Cond.instanceMethod y ∈ tb) (hw2 : Cond.selects C y y ∈ tb) (hw3 : Cond.initialized C ∈ tb) (hw4 : Cond.code y bytes maxL ret ∈ tb) (hy : y.cls = C ∧ y.cls ≠ "java/lang/invoke/MethodHandle" ∧ y.cls ≠ "java/lang/invoke/VarHandle" ∧ (parseMethodDescriptor y.desc).map (fun d => d.parameters.length) = some n) (hn : As.length = n) {st0 : List Value} (hst : st0 = As.reverse ++ .ref (gR G a) :: st) (hlen : lv.length = nL) (hsum : (st.map fun v => v.category).sum ≤ 8) (hd : decode cc pc = .ok (.invokevirtual ix, 3)) (kk : WM G X Q N (pc + 3) lv (r.toList ++ st)) : WM G X Q M pc lv st0 := by
  obtain ⟨l, p, e, R, s, m, args, below, meth, c, cells, slots⟩ := X
  intro H locs ls hR hS hl
  obtain ⟨hx, hb, hml, hown, hts, hlk, hg, hr1, hr2, hr3, hr4⟩ := hc
  have hG : GoodIn tb (wsV own ix C y (Cond.code y bytes maxL ret :: tb)) := fun w hw9 => by
    have hm : w ∈ tb := by
      simp only [wsV, List.cons_append, List.nil_append, List.mem_cons] at hw9
      rcases hw9 with rfl | rfl | rfl | rfl | rfl | h
      · exact hw
      · exact hw1
      · exact hw2
      · exact hw3
      · exact hw4
      · exact h
    exact ⟨hm, good_of_word (List.all_eq_true.mp lw_good w hm)⟩
  dsimp only at hr1 hr2 hr3 hr4 hx hb hml hown hts hlk hg hS
  refine m_runQ (va_runV (As := As) (rest := st) ⟨hx, hb, hml, hown, hts⟩ hM (cwV n hts hG rfl rfl rfl hy ⟨by show d' + 1 ≤ R.frames; omega, by show 8 + (maxL + 11) + 40 * d' ≤ R.locals; omega⟩) ⟨gOK_blind, rep_recv hg hR ho hC, fun U hU hW => ⟨rfl, by rw [hU]; exact (gOK.moved hW.alike hg).kept (fun a h1 h2 => hS.2.1 a h1 h2), by rw [hU]; exact hR⟩⟩ rfl hn (hl.1.trans hlen) hst (lv_room hsum) hd ⟨hr3, hr4⟩) hS hl kk
/-! a method's beginning and end -/
theorem m_iret (hc : xc G X cc nL own d) (hr : (xh X).sig.returnType = some .int) {v : Int32} (hd : decode cc pc = .ok (.ireturn, 1)) : WM G X (qQ G X (some (.int v)) M) M pc lv [.int v] := by
  intro H locs ls hR hS hl
  exact W.iret hc.1 hc.2.1 hr (fun t ht hW => ⟨rfl, by rw [ht]; exact hR, hS.F ht⟩) hS.2.2 hd hc.2.2.2.2.2.1
theorem m_zret (hc : xc G X cc nL own d) (hr : (xh X).sig.returnType = some .boolean) {v : Int32} (hn : narrow .boolean (.int v) = .int v) (hd : decode cc pc = .ok (.ireturn, 1)) : WM G X (qQ G X (some (.int v)) M) M pc lv [.int v] := by
  intro H locs ls hR hS hl
  exact W.zret hc.1 hc.2.1 hr hn (fun t ht hW => ⟨rfl, by rw [ht]; exact hR, hS.F ht⟩) hS.2.2 hd hc.2.2.2.2.2.1
theorem m_vret (hc : xc G X cc nL own d) (hr : (xh X).sig.returnType = none) (hd : decode cc pc = .ok (.return_, 1)) : WM G X (qQ G X none M) M pc lv [] := by
  intro H locs ls hR hS hl
  exact W.vret hc.1 hc.2.1 hr (fun t ht hW => ⟨rfl, by rw [ht]; exact hR, hS.F ht⟩) hS.2.2 hd hc.2.2.2.2.2.1
/-- arguments of one slot each -/
def cat1 (av : List Value) : Bool := av.all (fun v => v.category == 1)
theorem cat1_sl : ∀ (av : List Value), cat1 av = true → lg_sl av = av.map Slot.val
  | [], _ => rfl
  | v :: av, h => by
    have h0 : v.category = 1 ∧ cat1 av = true := by simpa [cat1] using h
    have ih := cat1_sl av h0.2
    show (if v.category = 2 then [Slot.val v, .second] else [Slot.val v]) ++ lg_sl av = _
    rw [if_neg (by omega), ih]
    rfl
theorem cat1_args : ∀ (av : List Value) (k : Nat), cat1 av = true → ∀ (i : Nat) (v : Value), av[i]? = some v → (k + i, v) ∈ lv_args k av
  | [], _, _, i, v, hv => by simp at hv
  | w :: av, k, h, i, v, hv => by
    have h0 : w.category = 1 ∧ cat1 av = true := by simpa [cat1] using h
    have e : lv_args k (w :: av) = (k, w) :: lv_args (k + 1) av := by
      first | (simp [lv_args, h0.1]; done) | (unfold lv_args; simp [h0.1])
    rw [e]
    cases i with
    | zero =>
      rw [List.getElem?_cons_zero] at hv
      cases hv
      exact List.mem_cons_self
    | succ i =>
      rw [List.getElem?_cons_succ] at hv
      have := cat1_args av (k + 1) h0.2 i v hv
      rw [show k + (i + 1) = k + 1 + i by omega]
      exact List.mem_cons_of_mem _ this
theorem m_met {l : Launch} {y : MethodName} {maxL : Nat} {ret : Option FieldType} {av : List Value} {r : Option Value} {N : Mm} (hy : plainName y.cls = true) (ho : y.cls = own) (hav : cat1 av = true) (hal : av.length ≤ maxL) (hlv : av.map some ++ List.replicate (maxL - av.length) none = lv)
    (body : ∀ X : Xm, X.1 = l → xc G X cc maxL own d → (xh X).sig.returnType = ret → WM G X (qQ G X r N) M 0 lv []) : Cm G l d y cc maxL ret av M r N := by
  refine Met.ofW (cc := cc) (maxL := maxL) (ret := ret) hy rfl ?_
  intro p e s m args below meth c s₁ B hml hv
  obtain ⟨rfl, hg, hR⟩ := hv
  have hts := atoms_spec (ws := Cond.code y cc maxL ret :: tb) B.pre
  have hown : s.vm.findClass own = some m.cls := ho ▸ findClass_of_methodNamed B.named
  have hl := lv_entry av (n := maxL) (by rw [cat1_sl av hav]; simpa using hal)
  rw [lg_entry_eq]
  have hlen : lv.length = maxL := by rw [← hlv]; simp; omega
  refine body (l, p, e, (headSpec (Cond.code y cc maxL ret :: tb) ({ frames := d, cells := 0, slots := 0, locals := 40 * d } : Room)).room, s, m, av.toArray, below, meth, c, 0, 0) rfl ⟨B.exec, B.bytes, hml, hown, fun w hw => hts w (List.mem_cons_of_mem _ hw), B.notSynchronized, hg, Nat.le_refl _, Nat.le_refl _, Nat.zero_le _, Nat.zero_le _⟩ B.returns s.heap [] _ hR va_S.rf ⟨?_, hl.2.1, fun i v hv => ?_⟩
  · rw [hlen]; exact hl.1
  · rw [← hlv] at hv
    have hi : av[i]? = some v := by
      by_cases hi : i < av.length
      · rw [List.getElem?_append_left (by simpa using hi), List.getElem?_map] at hv
        cases h1 : av[i]? with
        | none => rw [h1] at hv; simp at hv
        | some w => rw [h1] at hv; simpa using hv
      · rw [List.getElem?_append_right (by simpa using hi)] at hv
        rw [List.getElem?_replicate] at hv
        split at hv <;> simp at hv
    have := cat1_args av 0 hav i v hi
    rw [Nat.zero_add] at this
    exact hl.2.2 (i, v) this
/-! the words of the written-out functions -/
def ck {α : Type} (c : Prop) [Decidable c] (x : Option α) : Option α := if c then x else none
theorem ck_o {α : Type} {c : Prop} [Decidable c] {x : Option α} {r : α} (h : ck c x = some r) : c ∧ x = some r := by
  unfold ck at h
  split at h
  · exact ⟨by assumption, h⟩
  · cases h
def nm {α β : Type} (v : α) (f : α → β) : β := f v
theorem nm_o {α β : Type} {v : α} {f : α → β} {r : β} (h : nm v f = r) : ∃ x, v = x ∧ f x = r := ⟨v, rfl, h⟩
theorem nm_x {α β : Type} {v x : α} {f : α → β} {r : β} (e : x = v) (h : nm v f = r) : f x = r := by subst e; exact h
theorem bd_o {α β : Type} {x : Option α} {f : α → Option β} {r : β} (h : Option.bind x f = some r) : ∃ y, x = some y ∧ f y = some r := by
  cases x with
  | none => cases h
  | some y => exact ⟨y, rfl, h⟩
/-- more turns than any loop has -/
def FU : Nat := 10000
abbrev cpo (sp dp n : Int32) (na nb : Nat) : Prop := 0 ≤ sp.toInt ∧ 0 ≤ dp.toInt ∧ 0 ≤ n.toInt ∧ sp.toInt + n.toInt ≤ na ∧ dp.toInt + n.toInt ≤ nb
theorem m_topI {x : Int32} (k : ∀ y : Int32, y = x → WM G X Q M pc lv (.int y :: st)) : WM G X Q M pc lv (.int x :: st) := k x rfl
theorem m_topL {x : Int64} (k : ∀ y : Int64, y = x → WM G X Q M pc lv (.long y :: st)) : WM G X Q M pc lv (.long x :: st) := k x rfl
theorem m_topM (k : ∀ N : Mm, N = M → WM G X Q N pc lv st) : WM G X Q M pc lv st := k M rfl
def fgl (lv : List (Option Value)) (is : List Nat) : List (Option Value) := is.foldl (fun l i => l.set i none) lv
theorem fgl_len (is : List Nat) : ∀ lv : List (Option Value), (fgl lv is).length = lv.length := by
  induction is with
  | nil => intro lv; rfl
  | cons i is ih => intro lv; show (fgl (lv.set i none) is).length = _; rw [ih]; simp
theorem fgl_get (is : List Nat) : ∀ (lv : List (Option Value)) (j : Nat) (v : Value), (fgl lv is)[j]? = some (some v) → lv[j]? = some (some v) := by
  induction is with
  | nil => intro lv j v h; exact h
  | cons i is ih =>
    intro lv j v h
    have h1 := ih (lv.set i none) j v h
    by_cases e : i = j
    · subst e
      rw [List.getElem?_set_self (by have := (List.getElem?_eq_some_iff.mp h1).1; simpa using this)] at h1
      cases h1
    · rw [List.getElem?_set_ne e] at h1
      exact h1
theorem m_fg (is : List Nat) {lv' : List (Option Value)} (hs : fgl lv is = lv') (kk : WM G X Q M pc lv' st) : WM G X Q M pc lv st := by
  subst hs
  exact m_lv (fgl_len is lv) (fgl_get is lv) kk
theorem m_callSi (hc : xc G X cc nL own d) {y : MethodName} {bytes : ByteArray} {maxL n d' : Nat} {ret : Option FieldType} {As : List Value} {v : Int32} {N : Mm} (hM : Cm G X.1 d' y bytes maxL ret As M (some (.int v)) N) {ix : Nat} (hdd : d' + 1 ≤ d) (hmx : maxL ≤ 21) (hw : Cond.methodLink own ix y ∈ tb) (hw1 : Cond.static y ∈ tb) (hw2 : Cond.initialized y.cls ∈ tb) (hw3 : Cond.code y bytes maxL ret ∈ tb) (hy : y.cls ≠ "java/lang/invoke/MethodHandle" ∧ y.cls ≠ "java/lang/invoke/VarHandle" ∧ (parseMethodDescriptor y.desc).map (fun d => d.parameters.length) = some n) (hn : As.length = n) {st0 : List Value} (hst : st0 = As.reverse ++ st) (hlen : lv.length = nL) (hsum : (st.map fun v => v.category).sum ≤ 8) (hd : decode cc pc = .ok (.invokestatic ix, 3)) (kk : WM G X Q N (pc + 3) lv (.int v :: st)) : WM G X Q M pc lv st0 :=
  m_callS hc hM hdd hmx hw hw1 hw2 hw3 hy hn hst hlen hsum hd kk
theorem m_callSv (hc : xc G X cc nL own d) {y : MethodName} {bytes : ByteArray} {maxL n d' : Nat} {ret : Option FieldType} {As : List Value} {N : Mm} (hM : Cm G X.1 d' y bytes maxL ret As M none N) {ix : Nat} (hdd : d' + 1 ≤ d) (hmx : maxL ≤ 21) (hw : Cond.methodLink own ix y ∈ tb) (hw1 : Cond.static y ∈ tb) (hw2 : Cond.initialized y.cls ∈ tb) (hw3 : Cond.code y bytes maxL ret ∈ tb) (hy : y.cls ≠ "java/lang/invoke/MethodHandle" ∧ y.cls ≠ "java/lang/invoke/VarHandle" ∧ (parseMethodDescriptor y.desc).map (fun d => d.parameters.length) = some n) (hn : As.length = n) {st0 : List Value} (hst : st0 = As.reverse ++ st) (hlen : lv.length = nL) (hsum : (st.map fun v => v.category).sum ≤ 8) (hd : decode cc pc = .ok (.invokestatic ix, 3)) (kk : WM G X Q N (pc + 3) lv st) : WM G X Q M pc lv st0 :=
  m_callS hc hM hdd hmx hw hw1 hw2 hw3 hy hn hst hlen hsum hd kk
theorem m_callVi (hc : xc G X cc nL own d) {y : MethodName} {bytes : ByteArray} {maxL n d' : Nat} {ret : Option FieldType} {a ci nf : Nat} {t : List (Option Nat)} {T : u_T} (ho : isO a ci nf t) {C : String} (hC : vwCl[ci]? = some (C, T, nf)) {As : List Value} {v : Int32} {N : Mm} (hM : Cm G X.1 d' y bytes maxL ret (.ref (gR G a) :: As) M (some (.int v)) N) {ix : Nat} (hdd : d' + 1 ≤ d) (hmx : maxL ≤ 21) (hw : Cond.methodLink own ix y ∈ tb) (hw1 : Cond.instanceMethod y ∈ tb) (hw2 : Cond.selects C y y ∈ tb) (hw3 : Cond.initialized C ∈ tb) (hw4 : Cond.code y bytes maxL ret ∈ tb) (hy : y.cls = C ∧ y.cls ≠ "java/lang/invoke/MethodHandle" ∧ y.cls ≠ "java/lang/invoke/VarHandle" ∧ (parseMethodDescriptor y.desc).map (fun d => d.parameters.length) = some n) (hn : As.length = n) {st0 : List Value} (hst : st0 = As.reverse ++ .ref (gR G a) :: st) (hlen : lv.length = nL) (hsum : (st.map fun v => v.category).sum ≤ 8) (hd : decode cc pc = .ok (.invokevirtual ix, 3)) (kk : WM G X Q N (pc + 3) lv (.int v :: st)) : WM G X Q M pc lv st0 :=
  m_callV hc ho hC hM hdd hmx hw hw1 hw2 hw3 hw4 hy hn hst hlen hsum hd kk
theorem m_callVv (hc : xc G X cc nL own d) {y : MethodName} {bytes : ByteArray} {maxL n d' : Nat} {ret : Option FieldType} {a ci nf : Nat} {t : List (Option Nat)} {T : u_T} (ho : isO a ci nf t) {C : String} (hC : vwCl[ci]? = some (C, T, nf)) {As : List Value} {N : Mm} (hM : Cm G X.1 d' y bytes maxL ret (.ref (gR G a) :: As) M none N) {ix : Nat} (hdd : d' + 1 ≤ d) (hmx : maxL ≤ 21) (hw : Cond.methodLink own ix y ∈ tb) (hw1 : Cond.instanceMethod y ∈ tb) (hw2 : Cond.selects C y y ∈ tb) (hw3 : Cond.initialized C ∈ tb) (hw4 : Cond.code y bytes maxL ret ∈ tb) (hy : y.cls = C ∧ y.cls ≠ "java/lang/invoke/MethodHandle" ∧ y.cls ≠ "java/lang/invoke/VarHandle" ∧ (parseMethodDescriptor y.desc).map (fun d => d.parameters.length) = some n) (hn : As.length = n) {st0 : List Value} (hst : st0 = As.reverse ++ .ref (gR G a) :: st) (hlen : lv.length = nL) (hsum : (st.map fun v => v.category).sum ≤ 8) (hd : decode cc pc = .ok (.invokevirtual ix, 3)) (kk : WM G X Q N (pc + 3) lv st) : WM G X Q M pc lv st0 :=
  m_callV hc ho hC hM hdd hmx hw hw1 hw2 hw3 hw4 hy hn hst hlen hsum hd kk
theorem m_tsK (hc : xc G X cc nL own d) {dflt lo hi : Int} {offs : Array Int} {len : Nat} {x k : Int32} {off : Int} {tgt : Nat} (hx : x = k) (hd : decode cc pc = .ok (.tableswitch dflt lo hi offs, len)) (h1 : ¬ k.toInt < lo) (h2 : ¬ hi < k.toInt) (ho : offs[(k.toInt - lo).toNat]? = some off) (ht : (pc : Int) + off = (tgt : Int)) (kk : WM G X Q M tgt lv st) : WM G X Q M pc lv (.int x :: st) := by
  subst hx
  exact m_tsIn hc hd h1 h2 ho ht kk
theorem m_lsw (hc : xc G X cc nL own d) {dflt : Int} {ps : Array (Int × Int)} {len : Nat} {x : Int32} {off : Int} {tgt : Nat} (hd : decode cc pc = .ok (.lookupswitch dflt ps, len)) (hp : (ps.toList.zip (ps.toList.drop 1)).all (fun (a, next) => a.1 < next.1) = true) (ho : Op.lookupswitch.offset ps.toList dflt x.toInt = off) (ht : (pc : Int) + off = (tgt : Int)) (kk : WM G X Q M tgt lv st) : WM G X Q M pc lv (.int x :: st) := by
  intro H locs ls hR hS hl
  exact lv_lookup hc.1 hc.2.1 hd hp ho ht (kk H locs ls hR hS hl)
def jmin (x y : Int32) : Int32 := if y < x then y else x
def jmax (x y : Int32) : Int32 := if x < y then y else x
def jabs (x : Int32) : Int32 := if 0 ≤ x then x else 0 - x
theorem m_mmin (hc : xc G X cc nL own d) (hd1 : 1 ≤ d) {ix : Nat} (hw : Cond.methodLink own ix Lib.Math.min.name ∈ tb) (hw1 : Cond.static Lib.Math.min.name ∈ tb) (hw2 : Cond.initialized "java/lang/Math" ∈ tb) (hw3 : Cond.code Lib.Math.min.name Lib.Math.min.code 2 (some .int) ∈ tb) {x y : Int32} (hlen : lv.length = nL) (hsum : (st.map fun v => v.category).sum ≤ 8) (hd : decode cc pc = .ok (.invokestatic ix, 3)) (kk : WM G X Q M (pc + 3) lv (.int (jmin x y) :: st)) : WM G X Q M pc lv (.int y :: .int x :: st) := by
  intro H locs ls hR hS hl
  obtain ⟨hx, hb, hml, hown, hts, hlk, hg, hr1, hr2, hr3, hr4⟩ := hc
  exact va_mmin hx hb (by rw [hml, ← hlen]; exact hl.1.symm) hown (hts _ hw) (hts _ hw1) (hts _ hw2) (hts _ hw3) (Nat.le_trans hd1 hr1) (by omega) hr3 hr4 hd (kk H locs ls hR hS hl)
theorem m_mmax (hc : xc G X cc nL own d) (hd1 : 1 ≤ d) {ix : Nat} (hw : Cond.methodLink own ix Lib.Math.max.name ∈ tb) (hw1 : Cond.static Lib.Math.max.name ∈ tb) (hw2 : Cond.initialized "java/lang/Math" ∈ tb) (hw3 : Cond.code Lib.Math.max.name Lib.Math.max.code 2 (some .int) ∈ tb) {x y : Int32} (hlen : lv.length = nL) (hsum : (st.map fun v => v.category).sum ≤ 8) (hd : decode cc pc = .ok (.invokestatic ix, 3)) (kk : WM G X Q M (pc + 3) lv (.int (jmax x y) :: st)) : WM G X Q M pc lv (.int y :: .int x :: st) := by
  intro H locs ls hR hS hl
  obtain ⟨hx, hb, hml, hown, hts, hlk, hg, hr1, hr2, hr3, hr4⟩ := hc
  exact va_mmax hx hb (by rw [hml, ← hlen]; exact hl.1.symm) hown (hts _ hw) (hts _ hw1) (hts _ hw2) (hts _ hw3) (Nat.le_trans hd1 hr1) (by omega) hr3 hr4 hd (kk H locs ls hR hS hl)
theorem m_mabs (hc : xc G X cc nL own d) (hd1 : 1 ≤ d) {ix : Nat} (hw : Cond.methodLink own ix Lib.Math.abs.name ∈ tb) (hw1 : Cond.static Lib.Math.abs.name ∈ tb) (hw2 : Cond.initialized "java/lang/Math" ∈ tb) (hw3 : Cond.code Lib.Math.abs.name Lib.Math.abs.code 1 (some .int) ∈ tb) {x : Int32} (hlen : lv.length = nL) (hsum : (st.map fun v => v.category).sum ≤ 8) (hd : decode cc pc = .ok (.invokestatic ix, 3)) (kk : WM G X Q M (pc + 3) lv (.int (jabs x) :: st)) : WM G X Q M pc lv (.int x :: st) := by
  intro H locs ls hR hS hl
  obtain ⟨hx, hb, hml, hown, hts, hlk, hg, hr1, hr2, hr3, hr4⟩ := hc
  exact va_mabs hx hb (by rw [hml, ← hlen]; exact hl.1.symm) hown (hts _ hw) (hts _ hw1) (hts _ hw2) (hts _ hw3) (Nat.le_trans hd1 hr1) (by omega) hr3 hr4 hd (kk H locs ls hR hS hl)
theorem sw_ne {x k : Int32} {a : Int} (h : ¬ x = k) (hk : k.toInt = a) : ¬ x.toInt = a := lv_neT h hk

end MR
end
section
theorem wf_X6_53 : Cond.fieldLink RX6 53 (TX6 6).1 (TX6 6).2.1 (TX6 6).2.2.1 ∈ tb := tb_at 272 (by decide +kernel) (by decide +kernel)
theorem wf_X3_11 : Cond.fieldLink RX3 11 (TX3 0).1 (TX3 0).2.1 (TX3 0).2.2.1 ∈ tb := tb_at 82 (by decide +kernel) (by decide +kernel)
theorem wf_X3_15 : Cond.fieldLink RX3 15 (TX3 1).1 (TX3 1).2.1 (TX3 1).2.2.1 ∈ tb := tb_at 85 (by decide +kernel) (by decide +kernel)
theorem wm_X3_48 : Cond.methodLink RX3 48 arraycopyName ∈ tb := tb_at 305 (by decide +kernel) (by decide +kernel)
theorem wa_nat : Cond.native arraycopyName ∈ tb := tb_at 307 (by decide +kernel) (by decide +kernel)
theorem wa_sta : Cond.static arraycopyName ∈ tb := tb_at 306 (by decide +kernel) (by decide +kernel)
theorem wa_ini : Cond.initialized "java/lang/System" ∈ tb := tb_at 50 (by decide +kernel) (by decide +kernel)
theorem wf_X3_19 : Cond.fieldLink RX3 19 (TX3 2).1 (TX3 2).2.1 (TX3 2).2.2.1 ∈ tb := tb_at 88 (by decide +kernel) (by decide +kernel)
theorem wf_X3_22 : Cond.fieldLink RX3 22 (TX3 3).1 (TX3 3).2.1 (TX3 3).2.2.1 ∈ tb := tb_at 91 (by decide +kernel) (by decide +kernel)
theorem wf_X3_25 : Cond.fieldLink RX3 25 (TX3 4).1 (TX3 4).2.1 (TX3 4).2.2.1 ∈ tb := tb_at 94 (by decide +kernel) (by decide +kernel)
theorem wf_X3_28 : Cond.fieldLink RX3 28 (TX3 5).1 (TX3 5).2.1 (TX3 5).2.2.1 ∈ tb := tb_at 97 (by decide +kernel) (by decide +kernel)
theorem wf_X3_31 : Cond.fieldLink RX3 31 (TX3 6).1 (TX3 6).2.1 (TX3 6).2.2.1 ∈ tb := tb_at 100 (by decide +kernel) (by decide +kernel)
theorem wf_X2_11 : Cond.fieldLink RX2 11 (TX2 0).1 (TX2 0).2.1 (TX2 0).2.2.1 ∈ tb := tb_at 127 (by decide +kernel) (by decide +kernel)
theorem wf_X2_16 : Cond.fieldLink RX2 16 (TX2 1).1 (TX2 1).2.1 (TX2 1).2.2.1 ∈ tb := tb_at 128 (by decide +kernel) (by decide +kernel)
theorem wm_X2_23 : Cond.methodLink RX2 23 yX3_become ∈ tb := tb_at 301 (by decide +kernel) (by decide +kernel)
theorem wc_X3_become : Cond.code yX3_become cX3_become 2 none ∈ tb := tb_at 304 (by decide +kernel) (by decide +kernel)
theorem wn_X3 : Cond.initialized RX3 ∈ tb := tb_at 43 (by decide +kernel) (by decide +kernel)
theorem wi_X3_become : Cond.instanceMethod yX3_become ∈ tb := tb_at 302 (by decide +kernel) (by decide +kernel)
theorem we_X3_become : Cond.selects RX3 yX3_become yX3_become ∈ tb := tb_at 303 (by decide +kernel) (by decide +kernel)
theorem wy_X3_become : yX3_become.cls = RX3 ∧ yX3_become.cls ≠ "java/lang/invoke/MethodHandle" ∧ yX3_become.cls ≠ "java/lang/invoke/VarHandle" ∧ (parseMethodDescriptor yX3_become.desc).map (fun d => d.parameters.length) = some 1 := by decide +kernel
theorem wf_X2_20 : Cond.fieldLink RX2 20 (TX2 2).1 (TX2 2).2.1 (TX2 2).2.2.1 ∈ tb := tb_at 129 (by decide +kernel) (by decide +kernel)
theorem wm_X2_27 : Cond.methodLink RX2 27 Lib.Math.min.name ∈ tb := tb_at 308 (by decide +kernel) (by decide +kernel)
theorem wt_Math_min : Cond.static Lib.Math.min.name ∈ tb := tb_at 309 (by decide +kernel) (by decide +kernel)
theorem wn_Math : Cond.initialized "java/lang/Math" ∈ tb := tb_at 51 (by decide +kernel) (by decide +kernel)
theorem wc_Math_min : Cond.code Lib.Math.min.name Lib.Math.min.code 2 (some .int) ∈ tb := tb_at 310 (by decide +kernel) (by decide +kernel)
theorem wf_X5_64 : Cond.fieldLink RX5 64 (TX5 14).1 (TX5 14).2.1 (TX5 14).2.2.1 ∈ tb := tb_at 204 (by decide +kernel) (by decide +kernel)
theorem wf_X5_72 : Cond.fieldLink RX5 72 (TX5 16).1 (TX5 16).2.1 (TX5 16).2.2.1 ∈ tb := tb_at 206 (by decide +kernel) (by decide +kernel)
theorem wf_X5_57 : Cond.fieldLink RX5 57 (TX5 12).1 (TX5 12).2.1 (TX5 12).2.2.1 ∈ tb := tb_at 202 (by decide +kernel) (by decide +kernel)
theorem wm_X5_84 : Cond.methodLink RX5 84 yX5_forgetAnswers ∈ tb := tb_at 315 (by decide +kernel) (by decide +kernel)
theorem wc_X5_forgetAnswers : Cond.code yX5_forgetAnswers cX5_forgetAnswers 1 none ∈ tb := tb_at 318 (by decide +kernel) (by decide +kernel)
theorem wn_X5 : Cond.initialized RX5 ∈ tb := tb_at 47 (by decide +kernel) (by decide +kernel)
theorem wi_X5_forgetAnswers : Cond.instanceMethod yX5_forgetAnswers ∈ tb := tb_at 317 (by decide +kernel) (by decide +kernel)
theorem we_X5_forgetAnswers : Cond.selects RX5 yX5_forgetAnswers yX5_forgetAnswers ∈ tb := tb_at 1 (by decide +kernel) (by decide +kernel)
theorem wy_X5_forgetAnswers : yX5_forgetAnswers.cls = RX5 ∧ yX5_forgetAnswers.cls ≠ "java/lang/invoke/MethodHandle" ∧ yX5_forgetAnswers.cls ≠ "java/lang/invoke/VarHandle" ∧ (parseMethodDescriptor yX5_forgetAnswers.desc).map (fun d => d.parameters.length) = some 0 := by decide +kernel
theorem wk_X6_57 : Cond.constant RX6 57 (-100001 : Int32) ∈ tb := tb_at 292 (by decide +kernel) (by decide +kernel)
theorem wm_X6_58 : Cond.methodLink RX6 58 yX6_finding ∈ tb := tb_at 293 (by decide +kernel) (by decide +kernel)
theorem wc_X6_finding : Cond.code yX6_finding cX6_finding 2 (some .int) ∈ tb := tb_at 296 (by decide +kernel) (by decide +kernel)
theorem wn_X6 : Cond.initialized RX6 ∈ tb := tb_at 41 (by decide +kernel) (by decide +kernel)
theorem wi_X6_finding : Cond.instanceMethod yX6_finding ∈ tb := tb_at 295 (by decide +kernel) (by decide +kernel)
theorem we_X6_finding : Cond.selects RX6 yX6_finding yX6_finding ∈ tb := tb_at 0 (by decide +kernel) (by decide +kernel)
theorem wy_X6_finding : yX6_finding.cls = RX6 ∧ yX6_finding.cls ≠ "java/lang/invoke/MethodHandle" ∧ yX6_finding.cls ≠ "java/lang/invoke/VarHandle" ∧ (parseMethodDescriptor yX6_finding.desc).map (fun d => d.parameters.length) = some 1 := by decide +kernel
theorem wf_X6_26 : Cond.fieldLink RX6 26 (TX6 2).1 (TX6 2).2.1 (TX6 2).2.2.1 ∈ tb := tb_at 268 (by decide +kernel) (by decide +kernel)
theorem wf_X6_19 : Cond.fieldLink RX6 19 (TX6 1).1 (TX6 1).2.1 (TX6 1).2.2.1 ∈ tb := tb_at 267 (by decide +kernel) (by decide +kernel)
theorem wm_X6_62 : Cond.methodLink RX6 62 yX2_keep ∈ tb := tb_at 297 (by decide +kernel) (by decide +kernel)
theorem wc_X2_keep : Cond.code yX2_keep cX2_keep 2 none ∈ tb := tb_at 300 (by decide +kernel) (by decide +kernel)
theorem wn_X2 : Cond.initialized RX2 ∈ tb := tb_at 45 (by decide +kernel) (by decide +kernel)
theorem wi_X2_keep : Cond.instanceMethod yX2_keep ∈ tb := tb_at 298 (by decide +kernel) (by decide +kernel)
theorem we_X2_keep : Cond.selects RX2 yX2_keep yX2_keep ∈ tb := tb_at 299 (by decide +kernel) (by decide +kernel)
theorem wy_X2_keep : yX2_keep.cls = RX2 ∧ yX2_keep.cls ≠ "java/lang/invoke/MethodHandle" ∧ yX2_keep.cls ≠ "java/lang/invoke/VarHandle" ∧ (parseMethodDescriptor yX2_keep.desc).map (fun d => d.parameters.length) = some 1 := by decide +kernel
theorem wf_X6_66 : Cond.fieldLink RX6 66 (TX3 0).1 (TX3 0).2.1 (TX3 0).2.2.1 ∈ tb := tb_at 83 (by decide +kernel) (by decide +kernel)
theorem wf_X6_42 : Cond.fieldLink RX6 42 (TX6 4).1 (TX6 4).2.1 (TX6 4).2.2.1 ∈ tb := tb_at 270 (by decide +kernel) (by decide +kernel)
theorem wm_X6_69 : Cond.methodLink RX6 69 yX5_forgetLength ∈ tb := tb_at 311 (by decide +kernel) (by decide +kernel)
theorem wc_X5_forgetLength : Cond.code yX5_forgetLength cX5_forgetLength 1 none ∈ tb := tb_at 314 (by decide +kernel) (by decide +kernel)
theorem wi_X5_forgetLength : Cond.instanceMethod yX5_forgetLength ∈ tb := tb_at 312 (by decide +kernel) (by decide +kernel)
theorem we_X5_forgetLength : Cond.selects RX5 yX5_forgetLength yX5_forgetLength ∈ tb := tb_at 313 (by decide +kernel) (by decide +kernel)
theorem wy_X5_forgetLength : yX5_forgetLength.cls = RX5 ∧ yX5_forgetLength.cls ≠ "java/lang/invoke/MethodHandle" ∧ yX5_forgetLength.cls ≠ "java/lang/invoke/VarHandle" ∧ (parseMethodDescriptor yX5_forgetLength.desc).map (fun d => d.parameters.length) = some 0 := by decide +kernel
theorem wm_X3_40 : Cond.methodLink RX3 40 yX3_place ∈ tb := tb_at 334 (by decide +kernel) (by decide +kernel)
theorem wc_X3_place : Cond.code yX3_place cX3_place 2 (some .int) ∈ tb := tb_at 336 (by decide +kernel) (by decide +kernel)
theorem wt_X3_place : Cond.static yX3_place ∈ tb := tb_at 335 (by decide +kernel) (by decide +kernel)
theorem wv_X3_place : Cond.initialized yX3_place.cls ∈ tb := tb_at 43 (by decide +kernel) (by decide +kernel)
theorem wz_X3_place : yX3_place.cls ≠ "java/lang/invoke/MethodHandle" ∧ yX3_place.cls ≠ "java/lang/invoke/VarHandle" ∧ (parseMethodDescriptor yX3_place.desc).map (fun d => d.parameters.length) = some 2 := by decide +kernel
theorem wf_X5_61 : Cond.fieldLink RX5 61 (TX5 13).1 (TX5 13).2.1 (TX5 13).2.2.1 ∈ tb := tb_at 203 (by decide +kernel) (by decide +kernel)
theorem wm_X5_87 : Cond.methodLink RX5 87 Lib.Math.min.name ∈ tb := tb_at 341 (by decide +kernel) (by decide +kernel)
theorem wf_X5_15 : Cond.fieldLink RX5 15 (TX5 1).1 (TX5 1).2.1 (TX5 1).2.2.1 ∈ tb := tb_at 190 (by decide +kernel) (by decide +kernel)
theorem wf_X5_93 : Cond.fieldLink RX5 93 (TX3 0).1 (TX3 0).2.1 (TX3 0).2.2.1 ∈ tb := tb_at 84 (by decide +kernel) (by decide +kernel)
theorem wm_X5_98 : Cond.methodLink RX5 98 Lib.Math.max.name ∈ tb := tb_at 342 (by decide +kernel) (by decide +kernel)
theorem wt_Math_max : Cond.static Lib.Math.max.name ∈ tb := tb_at 343 (by decide +kernel) (by decide +kernel)
theorem wc_Math_max : Cond.code Lib.Math.max.name Lib.Math.max.code 2 (some .int) ∈ tb := tb_at 344 (by decide +kernel) (by decide +kernel)
theorem wm_X6_72 : Cond.methodLink RX6 72 yX6_isBeat ∈ tb := tb_at 323 (by decide +kernel) (by decide +kernel)
theorem wc_X6_isBeat : Cond.code yX6_isBeat cX6_isBeat 1 (some .boolean) ∈ tb := tb_at 325 (by decide +kernel) (by decide +kernel)
theorem wt_X6_isBeat : Cond.static yX6_isBeat ∈ tb := tb_at 324 (by decide +kernel) (by decide +kernel)
theorem wv_X6_isBeat : Cond.initialized yX6_isBeat.cls ∈ tb := tb_at 41 (by decide +kernel) (by decide +kernel)
theorem wz_X6_isBeat : yX6_isBeat.cls ≠ "java/lang/invoke/MethodHandle" ∧ yX6_isBeat.cls ≠ "java/lang/invoke/VarHandle" ∧ (parseMethodDescriptor yX6_isBeat.desc).map (fun d => d.parameters.length) = some 1 := by decide +kernel
theorem wm_X6_76 : Cond.methodLink RX6 76 yX6_isKind ∈ tb := tb_at 326 (by decide +kernel) (by decide +kernel)
theorem wc_X6_isKind : Cond.code yX6_isKind cX6_isKind 1 (some .boolean) ∈ tb := tb_at 328 (by decide +kernel) (by decide +kernel)
theorem wt_X6_isKind : Cond.static yX6_isKind ∈ tb := tb_at 327 (by decide +kernel) (by decide +kernel)
theorem wv_X6_isKind : Cond.initialized yX6_isKind.cls ∈ tb := tb_at 41 (by decide +kernel) (by decide +kernel)
theorem wz_X6_isKind : yX6_isKind.cls ≠ "java/lang/invoke/MethodHandle" ∧ yX6_isKind.cls ≠ "java/lang/invoke/VarHandle" ∧ (parseMethodDescriptor yX6_isKind.desc).map (fun d => d.parameters.length) = some 1 := by decide +kernel
theorem wf_X6_79 : Cond.fieldLink RX6 79 (TX3 1).1 (TX3 1).2.1 (TX3 1).2.2.1 ∈ tb := tb_at 87 (by decide +kernel) (by decide +kernel)
theorem wm_X6_84 : Cond.methodLink RX6 84 yX3_add ∈ tb := tb_at 330 (by decide +kernel) (by decide +kernel)
theorem wc_X3_add : Cond.code yX3_add cX3_add 7 (some .int) ∈ tb := tb_at 333 (by decide +kernel) (by decide +kernel)
theorem wi_X3_add : Cond.instanceMethod yX3_add ∈ tb := tb_at 331 (by decide +kernel) (by decide +kernel)
theorem we_X3_add : Cond.selects RX3 yX3_add yX3_add ∈ tb := tb_at 332 (by decide +kernel) (by decide +kernel)
theorem wy_X3_add : yX3_add.cls = RX3 ∧ yX3_add.cls ≠ "java/lang/invoke/MethodHandle" ∧ yX3_add.cls ≠ "java/lang/invoke/VarHandle" ∧ (parseMethodDescriptor yX3_add.desc).map (fun d => d.parameters.length) = some 4 := by decide +kernel
theorem wm_X6_88 : Cond.methodLink RX6 88 yX5_forgetBeats ∈ tb := tb_at 337 (by decide +kernel) (by decide +kernel)
theorem wc_X5_forgetBeats : Cond.code yX5_forgetBeats cX5_forgetBeats 3 none ∈ tb := tb_at 340 (by decide +kernel) (by decide +kernel)
theorem wi_X5_forgetBeats : Cond.instanceMethod yX5_forgetBeats ∈ tb := tb_at 338 (by decide +kernel) (by decide +kernel)
theorem we_X5_forgetBeats : Cond.selects RX5 yX5_forgetBeats yX5_forgetBeats ∈ tb := tb_at 339 (by decide +kernel) (by decide +kernel)
theorem wy_X5_forgetBeats : yX5_forgetBeats.cls = RX5 ∧ yX5_forgetBeats.cls ≠ "java/lang/invoke/MethodHandle" ∧ yX5_forgetBeats.cls ≠ "java/lang/invoke/VarHandle" ∧ (parseMethodDescriptor yX5_forgetBeats.desc).map (fun d => d.parameters.length) = some 2 := by decide +kernel
theorem wk_X6_83 : Cond.constant RX6 83 (-100005 : Int32) ∈ tb := tb_at 329 (by decide +kernel) (by decide +kernel)
theorem wk_X6_92 : Cond.constant RX6 92 (-100006 : Int32) ∈ tb := tb_at 349 (by decide +kernel) (by decide +kernel)
theorem ws_X6_263 : Cond.fieldLink RX6 263 (sT 0).1 (sT 0).2.1 "[I" ∈ tb := tb_at 362 (by decide +kernel) (by decide +kernel)
theorem wm_X6_93 : Cond.methodLink RX6 93 yX6_isNote ∈ tb := tb_at 354 (by decide +kernel) (by decide +kernel)
theorem wc_X6_isNote : Cond.code yX6_isNote cX6_isNote 3 (some .boolean) ∈ tb := tb_at 357 (by decide +kernel) (by decide +kernel)
theorem wi_X6_isNote : Cond.instanceMethod yX6_isNote ∈ tb := tb_at 356 (by decide +kernel) (by decide +kernel)
theorem we_X6_isNote : Cond.selects RX6 yX6_isNote yX6_isNote ∈ tb := tb_at 2 (by decide +kernel) (by decide +kernel)
theorem wy_X6_isNote : yX6_isNote.cls = RX6 ∧ yX6_isNote.cls ≠ "java/lang/invoke/MethodHandle" ∧ yX6_isNote.cls ≠ "java/lang/invoke/VarHandle" ∧ (parseMethodDescriptor yX6_isNote.desc).map (fun d => d.parameters.length) = some 2 := by decide +kernel
theorem wm_X6_97 : Cond.methodLink RX6 97 yX3_place ∈ tb := tb_at 358 (by decide +kernel) (by decide +kernel)
theorem wf_X6_101 : Cond.fieldLink RX6 101 (TX3 2).1 (TX3 2).2.1 (TX3 2).2.2.1 ∈ tb := tb_at 90 (by decide +kernel) (by decide +kernel)
theorem wm_X6_104 : Cond.methodLink RX6 104 yX6_isUnder ∈ tb := tb_at 359 (by decide +kernel) (by decide +kernel)
theorem wc_X6_isUnder : Cond.code yX6_isUnder cX6_isUnder 4 (some .boolean) ∈ tb := tb_at 361 (by decide +kernel) (by decide +kernel)
theorem wt_X6_isUnder : Cond.static yX6_isUnder ∈ tb := tb_at 360 (by decide +kernel) (by decide +kernel)
theorem wv_X6_isUnder : Cond.initialized yX6_isUnder.cls ∈ tb := tb_at 41 (by decide +kernel) (by decide +kernel)
theorem wz_X6_isUnder : yX6_isUnder.cls ≠ "java/lang/invoke/MethodHandle" ∧ yX6_isUnder.cls ≠ "java/lang/invoke/VarHandle" ∧ (parseMethodDescriptor yX6_isUnder.desc).map (fun d => d.parameters.length) = some 2 := by decide +kernel
theorem wf_X6_108 : Cond.fieldLink RX6 108 (TX3 3).1 (TX3 3).2.1 (TX3 3).2.2.1 ∈ tb := tb_at 93 (by decide +kernel) (by decide +kernel)
theorem wk_X6_107 : Cond.constant RX6 107 (-100004 : Int32) ∈ tb := tb_at 364 (by decide +kernel) (by decide +kernel)
theorem wf_X6_111 : Cond.fieldLink RX6 111 (TX3 4).1 (TX3 4).2.1 (TX3 4).2.2.1 ∈ tb := tb_at 96 (by decide +kernel) (by decide +kernel)
theorem wm_X6_114 : Cond.methodLink RX6 114 yX3_canRise ∈ tb := tb_at 373 (by decide +kernel) (by decide +kernel)
theorem wc_X3_canRise : Cond.code yX3_canRise cX3_canRise 5 (some .boolean) ∈ tb := tb_at 376 (by decide +kernel) (by decide +kernel)
theorem wi_X3_canRise : Cond.instanceMethod yX3_canRise ∈ tb := tb_at 374 (by decide +kernel) (by decide +kernel)
theorem we_X3_canRise : Cond.selects RX3 yX3_canRise yX3_canRise ∈ tb := tb_at 375 (by decide +kernel) (by decide +kernel)
theorem wy_X3_canRise : yX3_canRise.cls = RX3 ∧ yX3_canRise.cls ≠ "java/lang/invoke/MethodHandle" ∧ yX3_canRise.cls ≠ "java/lang/invoke/VarHandle" ∧ (parseMethodDescriptor yX3_canRise.desc).map (fun d => d.parameters.length) = some 1 := by decide +kernel
theorem wm_X6_118 : Cond.methodLink RX6 118 yX3_rise ∈ tb := tb_at 378 (by decide +kernel) (by decide +kernel)
theorem wc_X3_rise : Cond.code yX3_rise cX3_rise 4 none ∈ tb := tb_at 381 (by decide +kernel) (by decide +kernel)
theorem wi_X3_rise : Cond.instanceMethod yX3_rise ∈ tb := tb_at 379 (by decide +kernel) (by decide +kernel)
theorem we_X3_rise : Cond.selects RX3 yX3_rise yX3_rise ∈ tb := tb_at 380 (by decide +kernel) (by decide +kernel)
theorem wy_X3_rise : yX3_rise.cls = RX3 ∧ yX3_rise.cls ≠ "java/lang/invoke/MethodHandle" ∧ yX3_rise.cls ≠ "java/lang/invoke/VarHandle" ∧ (parseMethodDescriptor yX3_rise.desc).map (fun d => d.parameters.length) = some 1 := by decide +kernel
theorem wm_X6_122 : Cond.methodLink RX6 122 yX3_countNotes ∈ tb := tb_at 382 (by decide +kernel) (by decide +kernel)
theorem wc_X3_countNotes : Cond.code yX3_countNotes cX3_countNotes 3 (some .int) ∈ tb := tb_at 385 (by decide +kernel) (by decide +kernel)
theorem wi_X3_countNotes : Cond.instanceMethod yX3_countNotes ∈ tb := tb_at 383 (by decide +kernel) (by decide +kernel)
theorem we_X3_countNotes : Cond.selects RX3 yX3_countNotes yX3_countNotes ∈ tb := tb_at 384 (by decide +kernel) (by decide +kernel)
theorem wy_X3_countNotes : yX3_countNotes.cls = RX3 ∧ yX3_countNotes.cls ≠ "java/lang/invoke/MethodHandle" ∧ yX3_countNotes.cls ≠ "java/lang/invoke/VarHandle" ∧ (parseMethodDescriptor yX3_countNotes.desc).map (fun d => d.parameters.length) = some 0 := by decide +kernel
theorem wk_X6_117 : Cond.constant RX6 117 (-100003 : Int32) ∈ tb := tb_at 377 (by decide +kernel) (by decide +kernel)
theorem wm_X6_126 : Cond.methodLink RX6 126 yX6_isPedal ∈ tb := tb_at 390 (by decide +kernel) (by decide +kernel)
theorem wc_X6_isPedal : Cond.code yX6_isPedal cX6_isPedal 1 (some .boolean) ∈ tb := tb_at 392 (by decide +kernel) (by decide +kernel)
theorem wt_X6_isPedal : Cond.static yX6_isPedal ∈ tb := tb_at 391 (by decide +kernel) (by decide +kernel)
theorem wv_X6_isPedal : Cond.initialized yX6_isPedal.cls ∈ tb := tb_at 41 (by decide +kernel) (by decide +kernel)
theorem wz_X6_isPedal : yX6_isPedal.cls ≠ "java/lang/invoke/MethodHandle" ∧ yX6_isPedal.cls ≠ "java/lang/invoke/VarHandle" ∧ (parseMethodDescriptor yX6_isPedal.desc).map (fun d => d.parameters.length) = some 1 := by decide +kernel
theorem wm_X6_129 : Cond.methodLink RX6 129 yX6_isStandOrNone ∈ tb := tb_at 393 (by decide +kernel) (by decide +kernel)
theorem wc_X6_isStandOrNone : Cond.code yX6_isStandOrNone cX6_isStandOrNone 1 (some .boolean) ∈ tb := tb_at 395 (by decide +kernel) (by decide +kernel)
theorem wt_X6_isStandOrNone : Cond.static yX6_isStandOrNone ∈ tb := tb_at 394 (by decide +kernel) (by decide +kernel)
theorem wv_X6_isStandOrNone : Cond.initialized yX6_isStandOrNone.cls ∈ tb := tb_at 41 (by decide +kernel) (by decide +kernel)
theorem wz_X6_isStandOrNone : yX6_isStandOrNone.cls ≠ "java/lang/invoke/MethodHandle" ∧ yX6_isStandOrNone.cls ≠ "java/lang/invoke/VarHandle" ∧ (parseMethodDescriptor yX6_isStandOrNone.desc).map (fun d => d.parameters.length) = some 1 := by decide +kernel
theorem wf_X6_132 : Cond.fieldLink RX6 132 (TX3 5).1 (TX3 5).2.1 (TX3 5).2.2.1 ∈ tb := tb_at 99 (by decide +kernel) (by decide +kernel)
theorem wf_X6_135 : Cond.fieldLink RX6 135 (TX3 6).1 (TX3 6).2.1 (TX3 6).2.2.1 ∈ tb := tb_at 101 (by decide +kernel) (by decide +kernel)
theorem wm_X6_138 : Cond.methodLink RX6 138 yX5_forgetStart ∈ tb := tb_at 400 (by decide +kernel) (by decide +kernel)
theorem wc_X5_forgetStart : Cond.code yX5_forgetStart cX5_forgetStart 1 none ∈ tb := tb_at 403 (by decide +kernel) (by decide +kernel)
theorem wi_X5_forgetStart : Cond.instanceMethod yX5_forgetStart ∈ tb := tb_at 401 (by decide +kernel) (by decide +kernel)
theorem we_X5_forgetStart : Cond.selects RX5 yX5_forgetStart yX5_forgetStart ∈ tb := tb_at 402 (by decide +kernel) (by decide +kernel)
theorem wy_X5_forgetStart : yX5_forgetStart.cls = RX5 ∧ yX5_forgetStart.cls ≠ "java/lang/invoke/MethodHandle" ∧ yX5_forgetStart.cls ≠ "java/lang/invoke/VarHandle" ∧ (parseMethodDescriptor yX5_forgetStart.desc).map (fun d => d.parameters.length) = some 0 := by decide +kernel
theorem ws_X1_15 : Cond.fieldLink RX1 15 (sT 1).1 (sT 1).2.1 "[I" ∈ tb := tb_at 421 (by decide +kernel) (by decide +kernel)
theorem wm_X1_18 : Cond.methodLink RX1 18 yX1_natural ∈ tb := tb_at 418 (by decide +kernel) (by decide +kernel)
theorem wc_X1_natural : Cond.code yX1_natural cX1_natural 1 (some .int) ∈ tb := tb_at 420 (by decide +kernel) (by decide +kernel)
theorem wn_X1 : Cond.initialized RX1 ∈ tb := tb_at 42 (by decide +kernel) (by decide +kernel)
theorem wt_X1_natural : Cond.static yX1_natural ∈ tb := tb_at 419 (by decide +kernel) (by decide +kernel)
theorem wv_X1_natural : Cond.initialized yX1_natural.cls ∈ tb := tb_at 42 (by decide +kernel) (by decide +kernel)
theorem wz_X1_natural : yX1_natural.cls ≠ "java/lang/invoke/MethodHandle" ∧ yX1_natural.cls ≠ "java/lang/invoke/VarHandle" ∧ (parseMethodDescriptor yX1_natural.desc).map (fun d => d.parameters.length) = some 1 := by decide +kernel
theorem wf_X1_9 : Cond.fieldLink RX1 9 (TX1 0).1 (TX1 0).2.1 (TX1 0).2.2.1 ∈ tb := tb_at 66 (by decide +kernel) (by decide +kernel)
theorem wm_X1_22 : Cond.methodLink RX1 22 yX1_standIn ∈ tb := tb_at 423 (by decide +kernel) (by decide +kernel)
theorem wc_X1_standIn : Cond.code yX1_standIn cX1_standIn 2 (some .int) ∈ tb := tb_at 425 (by decide +kernel) (by decide +kernel)
theorem wt_X1_standIn : Cond.static yX1_standIn ∈ tb := tb_at 424 (by decide +kernel) (by decide +kernel)
theorem wv_X1_standIn : Cond.initialized yX1_standIn.cls ∈ tb := tb_at 42 (by decide +kernel) (by decide +kernel)
theorem wz_X1_standIn : yX1_standIn.cls ≠ "java/lang/invoke/MethodHandle" ∧ yX1_standIn.cls ≠ "java/lang/invoke/VarHandle" ∧ (parseMethodDescriptor yX1_standIn.desc).map (fun d => d.parameters.length) = some 2 := by decide +kernel
theorem wm_X6_141 : Cond.methodLink RX6 141 yX6_isString ∈ tb := tb_at 408 (by decide +kernel) (by decide +kernel)
theorem wc_X6_isString : Cond.code yX6_isString cX6_isString 1 (some .boolean) ∈ tb := tb_at 410 (by decide +kernel) (by decide +kernel)
theorem wt_X6_isString : Cond.static yX6_isString ∈ tb := tb_at 409 (by decide +kernel) (by decide +kernel)
theorem wv_X6_isString : Cond.initialized yX6_isString.cls ∈ tb := tb_at 41 (by decide +kernel) (by decide +kernel)
theorem wz_X6_isString : yX6_isString.cls ≠ "java/lang/invoke/MethodHandle" ∧ yX6_isString.cls ≠ "java/lang/invoke/VarHandle" ∧ (parseMethodDescriptor yX6_isString.desc).map (fun d => d.parameters.length) = some 1 := by decide +kernel
theorem wm_X6_144 : Cond.methodLink RX6 144 yX6_isDiagram ∈ tb := tb_at 411 (by decide +kernel) (by decide +kernel)
theorem wc_X6_isDiagram : Cond.code yX6_isDiagram cX6_isDiagram 1 (some .boolean) ∈ tb := tb_at 413 (by decide +kernel) (by decide +kernel)
theorem wt_X6_isDiagram : Cond.static yX6_isDiagram ∈ tb := tb_at 412 (by decide +kernel) (by decide +kernel)
theorem wv_X6_isDiagram : Cond.initialized yX6_isDiagram.cls ∈ tb := tb_at 41 (by decide +kernel) (by decide +kernel)
theorem wz_X6_isDiagram : yX6_isDiagram.cls ≠ "java/lang/invoke/MethodHandle" ∧ yX6_isDiagram.cls ≠ "java/lang/invoke/VarHandle" ∧ (parseMethodDescriptor yX6_isDiagram.desc).map (fun d => d.parameters.length) = some 1 := by decide +kernel
theorem wf_X6_10 : Cond.fieldLink RX6 10 (TX6 0).1 (TX6 0).2.1 (TX6 0).2.2.1 ∈ tb := tb_at 266 (by decide +kernel) (by decide +kernel)
theorem wm_X6_147 : Cond.methodLink RX6 147 yX1_pitchOf ∈ tb := tb_at 414 (by decide +kernel) (by decide +kernel)
theorem wc_X1_pitchOf : Cond.code yX1_pitchOf cX1_pitchOf 3 (some .int) ∈ tb := tb_at 417 (by decide +kernel) (by decide +kernel)
theorem wi_X1_pitchOf : Cond.instanceMethod yX1_pitchOf ∈ tb := tb_at 415 (by decide +kernel) (by decide +kernel)
theorem we_X1_pitchOf : Cond.selects RX1 yX1_pitchOf yX1_pitchOf ∈ tb := tb_at 416 (by decide +kernel) (by decide +kernel)
theorem wy_X1_pitchOf : yX1_pitchOf.cls = RX1 ∧ yX1_pitchOf.cls ≠ "java/lang/invoke/MethodHandle" ∧ yX1_pitchOf.cls ≠ "java/lang/invoke/VarHandle" ∧ (parseMethodDescriptor yX1_pitchOf.desc).map (fun d => d.parameters.length) = some 2 := by decide +kernel
theorem wf_X0_22 : Cond.fieldLink RX0 22 (TX0 3).1 (TX0 3).2.1 (TX0 3).2.2.1 ∈ tb := tb_at 147 (by decide +kernel) (by decide +kernel)
theorem wf_X0_28 : Cond.fieldLink RX0 28 (TX0 5).1 (TX0 5).2.1 (TX0 5).2.2.1 ∈ tb := tb_at 149 (by decide +kernel) (by decide +kernel)
theorem wm_X0_81 : Cond.methodLink RX0 81 yX1_natural ∈ tb := tb_at 443 (by decide +kernel) (by decide +kernel)
theorem wf_X0_31 : Cond.fieldLink RX0 31 (TX0 6).1 (TX0 6).2.1 (TX0 6).2.2.1 ∈ tb := tb_at 150 (by decide +kernel) (by decide +kernel)
theorem wf_X0_25 : Cond.fieldLink RX0 25 (TX0 4).1 (TX0 4).2.1 (TX0 4).2.2.1 ∈ tb := tb_at 148 (by decide +kernel) (by decide +kernel)
theorem wf_X0_46 : Cond.fieldLink RX0 46 (TX3 1).1 (TX3 1).2.1 (TX3 1).2.2.1 ∈ tb := tb_at 86 (by decide +kernel) (by decide +kernel)
theorem wf_X0_9 : Cond.fieldLink RX0 9 (TX0 0).1 (TX0 0).2.1 (TX0 0).2.2.1 ∈ tb := tb_at 144 (by decide +kernel) (by decide +kernel)
theorem wm_X0_51 : Cond.methodLink RX0 51 yX3_place ∈ tb := tb_at 434 (by decide +kernel) (by decide +kernel)
theorem wf_X0_55 : Cond.fieldLink RX0 55 (TX3 2).1 (TX3 2).2.1 (TX3 2).2.2.1 ∈ tb := tb_at 89 (by decide +kernel) (by decide +kernel)
theorem wf_X0_15 : Cond.fieldLink RX0 15 (TX0 1).1 (TX0 1).2.1 (TX0 1).2.2.1 ∈ tb := tb_at 145 (by decide +kernel) (by decide +kernel)
theorem ws_X0_58 : Cond.fieldLink RX0 58 (sT 3).1 (sT 3).2.1 "[I" ∈ tb := tb_at 435 (by decide +kernel) (by decide +kernel)
theorem wf_X0_19 : Cond.fieldLink RX0 19 (TX0 2).1 (TX0 2).2.1 (TX0 2).2.2.1 ∈ tb := tb_at 146 (by decide +kernel) (by decide +kernel)
theorem wf_X0_61 : Cond.fieldLink RX0 61 (TX3 4).1 (TX3 4).2.1 (TX3 4).2.2.1 ∈ tb := tb_at 95 (by decide +kernel) (by decide +kernel)
theorem wf_X0_62 : Cond.fieldLink RX0 62 (TX3 3).1 (TX3 3).2.1 (TX3 3).2.2.1 ∈ tb := tb_at 92 (by decide +kernel) (by decide +kernel)
theorem ws_X0_65 : Cond.fieldLink RX0 65 (sT 2).1 (sT 2).2.1 "[I" ∈ tb := tb_at 437 (by decide +kernel) (by decide +kernel)
theorem wm_X0_68 : Cond.methodLink RX0 68 yX0_findStrings ∈ tb := tb_at 439 (by decide +kernel) (by decide +kernel)
theorem wc_X0_findStrings : Cond.code yX0_findStrings cX0_findStrings 5 none ∈ tb := tb_at 442 (by decide +kernel) (by decide +kernel)
theorem wn_X0 : Cond.initialized RX0 ∈ tb := tb_at 46 (by decide +kernel) (by decide +kernel)
theorem wi_X0_findStrings : Cond.instanceMethod yX0_findStrings ∈ tb := tb_at 441 (by decide +kernel) (by decide +kernel)
theorem we_X0_findStrings : Cond.selects RX0 yX0_findStrings yX0_findStrings ∈ tb := tb_at 3 (by decide +kernel) (by decide +kernel)
theorem wy_X0_findStrings : yX0_findStrings.cls = RX0 ∧ yX0_findStrings.cls ≠ "java/lang/invoke/MethodHandle" ∧ yX0_findStrings.cls ≠ "java/lang/invoke/VarHandle" ∧ (parseMethodDescriptor yX0_findStrings.desc).map (fun d => d.parameters.length) = some 2 := by decide +kernel
theorem wf_X0_34 : Cond.fieldLink RX0 34 (TX0 7).1 (TX0 7).2.1 (TX0 7).2.2.1 ∈ tb := tb_at 151 (by decide +kernel) (by decide +kernel)
theorem wf_X0_37 : Cond.fieldLink RX0 37 (TX0 8).1 (TX0 8).2.1 (TX0 8).2.2.1 ∈ tb := tb_at 152 (by decide +kernel) (by decide +kernel)
theorem wf_X0_72 : Cond.fieldLink RX0 72 (TX3 5).1 (TX3 5).2.1 (TX3 5).2.2.1 ∈ tb := tb_at 98 (by decide +kernel) (by decide +kernel)
theorem wm_X0_75 : Cond.methodLink RX0 75 yX1_bitsOf ∈ tb := tb_at 444 (by decide +kernel) (by decide +kernel)
theorem wc_X1_bitsOf : Cond.code yX1_bitsOf cX1_bitsOf 1 (some .int) ∈ tb := tb_at 446 (by decide +kernel) (by decide +kernel)
theorem wt_X1_bitsOf : Cond.static yX1_bitsOf ∈ tb := tb_at 445 (by decide +kernel) (by decide +kernel)
theorem wv_X1_bitsOf : Cond.initialized yX1_bitsOf.cls ∈ tb := tb_at 42 (by decide +kernel) (by decide +kernel)
theorem wz_X1_bitsOf : yX1_bitsOf.cls ≠ "java/lang/invoke/MethodHandle" ∧ yX1_bitsOf.cls ≠ "java/lang/invoke/VarHandle" ∧ (parseMethodDescriptor yX1_bitsOf.desc).map (fun d => d.parameters.length) = some 1 := by decide +kernel
theorem wm_X0_84 : Cond.methodLink RX0 84 yX1_standIn ∈ tb := tb_at 451 (by decide +kernel) (by decide +kernel)
theorem wf_X6_33 : Cond.fieldLink RX6 33 (TX6 3).1 (TX6 3).2.1 (TX6 3).2.2.1 ∈ tb := tb_at 269 (by decide +kernel) (by decide +kernel)
theorem wm_X6_150 : Cond.methodLink RX6 150 yX0_read ∈ tb := tb_at 430 (by decide +kernel) (by decide +kernel)
theorem wc_X0_read : Cond.code yX0_read cX0_read 6 none ∈ tb := tb_at 433 (by decide +kernel) (by decide +kernel)
theorem wi_X0_read : Cond.instanceMethod yX0_read ∈ tb := tb_at 431 (by decide +kernel) (by decide +kernel)
theorem we_X0_read : Cond.selects RX0 yX0_read yX0_read ∈ tb := tb_at 432 (by decide +kernel) (by decide +kernel)
theorem wy_X0_read : yX0_read.cls = RX0 ∧ yX0_read.cls ≠ "java/lang/invoke/MethodHandle" ∧ yX0_read.cls ≠ "java/lang/invoke/VarHandle" ∧ (parseMethodDescriptor yX0_read.desc).map (fun d => d.parameters.length) = some 2 := by decide +kernel
theorem wf_X6_154 : Cond.fieldLink RX6 154 (TX1 0).1 (TX1 0).2.1 (TX1 0).2.2.1 ∈ tb := tb_at 68 (by decide +kernel) (by decide +kernel)
theorem wm_X6_157 : Cond.methodLink RX6 157 yX0_stringOf ∈ tb := tb_at 447 (by decide +kernel) (by decide +kernel)
theorem wc_X0_stringOf : Cond.code yX0_stringOf cX0_stringOf 5 (some .int) ∈ tb := tb_at 450 (by decide +kernel) (by decide +kernel)
theorem wi_X0_stringOf : Cond.instanceMethod yX0_stringOf ∈ tb := tb_at 448 (by decide +kernel) (by decide +kernel)
theorem we_X0_stringOf : Cond.selects RX0 yX0_stringOf yX0_stringOf ∈ tb := tb_at 449 (by decide +kernel) (by decide +kernel)
theorem wy_X0_stringOf : yX0_stringOf.cls = RX0 ∧ yX0_stringOf.cls ≠ "java/lang/invoke/MethodHandle" ∧ yX0_stringOf.cls ≠ "java/lang/invoke/VarHandle" ∧ (parseMethodDescriptor yX0_stringOf.desc).map (fun d => d.parameters.length) = some 2 := by decide +kernel
theorem wm_X0_87 : Cond.methodLink RX0 87 yX0_stringOf ∈ tb := tb_at 460 (by decide +kernel) (by decide +kernel)
theorem wm_X6_160 : Cond.methodLink RX6 160 yX0_locksBy ∈ tb := tb_at 456 (by decide +kernel) (by decide +kernel)
theorem wc_X0_locksBy : Cond.code yX0_locksBy cX0_locksBy 7 (some .int) ∈ tb := tb_at 459 (by decide +kernel) (by decide +kernel)
theorem wi_X0_locksBy : Cond.instanceMethod yX0_locksBy ∈ tb := tb_at 457 (by decide +kernel) (by decide +kernel)
theorem we_X0_locksBy : Cond.selects RX0 yX0_locksBy yX0_locksBy ∈ tb := tb_at 458 (by decide +kernel) (by decide +kernel)
theorem wy_X0_locksBy : yX0_locksBy.cls = RX0 ∧ yX0_locksBy.cls ≠ "java/lang/invoke/MethodHandle" ∧ yX0_locksBy.cls ≠ "java/lang/invoke/VarHandle" ∧ (parseMethodDescriptor yX0_locksBy.desc).map (fun d => d.parameters.length) = some 1 := by decide +kernel
theorem wk_X5_154 : Cond.constant RX5 154 (1048576 : Int32) ∈ tb := tb_at 495 (by decide +kernel) (by decide +kernel)
theorem wk_X5_124 : Cond.constant RX5 124 (1048575 : Int32) ∈ tb := tb_at 496 (by decide +kernel) (by decide +kernel)
theorem wk_X5_155 : Cond.constant RX5 155 (-1048576 : Int32) ∈ tb := tb_at 497 (by decide +kernel) (by decide +kernel)
theorem wk_X5_156 : Cond.constant RX5 156 (1000000 : Int32) ∈ tb := tb_at 498 (by decide +kernel) (by decide +kernel)
theorem wm_X5_151 : Cond.methodLink RX5 151 yX5_better ∈ tb := tb_at 492 (by decide +kernel) (by decide +kernel)
theorem wc_X5_better : Cond.code yX5_better cX5_better 4 (some .int) ∈ tb := tb_at 494 (by decide +kernel) (by decide +kernel)
theorem wt_X5_better : Cond.static yX5_better ∈ tb := tb_at 493 (by decide +kernel) (by decide +kernel)
theorem wv_X5_better : Cond.initialized yX5_better.cls ∈ tb := tb_at 47 (by decide +kernel) (by decide +kernel)
theorem wz_X5_better : yX5_better.cls ≠ "java/lang/invoke/MethodHandle" ∧ yX5_better.cls ≠ "java/lang/invoke/VarHandle" ∧ (parseMethodDescriptor yX5_better.desc).map (fun d => d.parameters.length) = some 2 := by decide +kernel
theorem wk_X5_68 : Cond.constant RX5 68 (66060288 : Int32) ∈ tb := tb_at 188 (by decide +kernel) (by decide +kernel)
theorem wm_X5_163 : Cond.methodLink RX5 163 arraycopyName ∈ tb := tb_at 479 (by decide +kernel) (by decide +kernel)
theorem ws_X5_185 : Cond.fieldLink RX5 185 (sT 4).1 (sT 4).2.1 "[I" ∈ tb := tb_at 487 (by decide +kernel) (by decide +kernel)
theorem wm_X5_188 : Cond.methodLink RX5 188 yX5_spreadPedal ∈ tb := tb_at 489 (by decide +kernel) (by decide +kernel)
theorem wc_X5_spreadPedal : Cond.code yX5_spreadPedal cX5_spreadPedal 8 none ∈ tb := tb_at 491 (by decide +kernel) (by decide +kernel)
theorem wt_X5_spreadPedal : Cond.static yX5_spreadPedal ∈ tb := tb_at 490 (by decide +kernel) (by decide +kernel)
theorem wv_X5_spreadPedal : Cond.initialized yX5_spreadPedal.cls ∈ tb := tb_at 47 (by decide +kernel) (by decide +kernel)
theorem wz_X5_spreadPedal : yX5_spreadPedal.cls ≠ "java/lang/invoke/MethodHandle" ∧ yX5_spreadPedal.cls ≠ "java/lang/invoke/VarHandle" ∧ (parseMethodDescriptor yX5_spreadPedal.desc).map (fun d => d.parameters.length) = some 3 := by decide +kernel
theorem wf_X5_11 : Cond.fieldLink RX5 11 (TX5 0).1 (TX5 0).2.1 (TX5 0).2.2.1 ∈ tb := tb_at 189 (by decide +kernel) (by decide +kernel)
theorem wf_X5_125 : Cond.fieldLink RX5 125 (TX1 0).1 (TX1 0).2.1 (TX1 0).2.2.1 ∈ tb := tb_at 67 (by decide +kernel) (by decide +kernel)
theorem ws_X5_202 : Cond.fieldLink RX5 202 (sT 5).1 (sT 5).2.1 "[I" ∈ tb := tb_at 512 (by decide +kernel) (by decide +kernel)
theorem ws_X5_205 : Cond.fieldLink RX5 205 (sT 6).1 (sT 6).2.1 "[I" ∈ tb := tb_at 514 (by decide +kernel) (by decide +kernel)
theorem wf_X5_51 : Cond.fieldLink RX5 51 (TX5 10).1 (TX5 10).2.1 (TX5 10).2.2.1 ∈ tb := tb_at 199 (by decide +kernel) (by decide +kernel)
theorem wm_X5_198 : Cond.methodLink RX5 198 yX5_reach ∈ tb := tb_at 508 (by decide +kernel) (by decide +kernel)
theorem wc_X5_reach : Cond.code yX5_reach cX5_reach 8 (some .int) ∈ tb := tb_at 511 (by decide +kernel) (by decide +kernel)
theorem wi_X5_reach : Cond.instanceMethod yX5_reach ∈ tb := tb_at 510 (by decide +kernel) (by decide +kernel)
theorem we_X5_reach : Cond.selects RX5 yX5_reach yX5_reach ∈ tb := tb_at 7 (by decide +kernel) (by decide +kernel)
theorem wy_X5_reach : yX5_reach.cls = RX5 ∧ yX5_reach.cls ≠ "java/lang/invoke/MethodHandle" ∧ yX5_reach.cls ≠ "java/lang/invoke/VarHandle" ∧ (parseMethodDescriptor yX5_reach.desc).map (fun d => d.parameters.length) = some 3 := by decide +kernel
theorem wf_X5_48 : Cond.fieldLink RX5 48 (TX5 9).1 (TX5 9).2.1 (TX5 9).2.2.1 ∈ tb := tb_at 198 (by decide +kernel) (by decide +kernel)
theorem wm_X5_191 : Cond.methodLink RX5 191 yX5_bestByFoot ∈ tb := tb_at 504 (by decide +kernel) (by decide +kernel)
theorem wc_X5_bestByFoot : Cond.code yX5_bestByFoot cX5_bestByFoot 7 (some .int) ∈ tb := tb_at 507 (by decide +kernel) (by decide +kernel)
theorem wi_X5_bestByFoot : Cond.instanceMethod yX5_bestByFoot ∈ tb := tb_at 506 (by decide +kernel) (by decide +kernel)
theorem we_X5_bestByFoot : Cond.selects RX5 yX5_bestByFoot yX5_bestByFoot ∈ tb := tb_at 6 (by decide +kernel) (by decide +kernel)
theorem wy_X5_bestByFoot : yX5_bestByFoot.cls = RX5 ∧ yX5_bestByFoot.cls ≠ "java/lang/invoke/MethodHandle" ∧ yX5_bestByFoot.cls ≠ "java/lang/invoke/VarHandle" ∧ (parseMethodDescriptor yX5_bestByFoot.desc).map (fun d => d.parameters.length) = some 3 := by decide +kernel
theorem wf_X5_42 : Cond.fieldLink RX5 42 (TX5 7).1 (TX5 7).2.1 (TX5 7).2.2.1 ∈ tb := tb_at 196 (by decide +kernel) (by decide +kernel)
theorem wm_X5_173 : Cond.methodLink RX5 173 yX5_spread ∈ tb := tb_at 484 (by decide +kernel) (by decide +kernel)
theorem wc_X5_spread : Cond.code yX5_spread cX5_spread 4 none ∈ tb := tb_at 486 (by decide +kernel) (by decide +kernel)
theorem wt_X5_spread : Cond.static yX5_spread ∈ tb := tb_at 485 (by decide +kernel) (by decide +kernel)
theorem wv_X5_spread : Cond.initialized yX5_spread.cls ∈ tb := tb_at 47 (by decide +kernel) (by decide +kernel)
theorem wz_X5_spread : yX5_spread.cls ≠ "java/lang/invoke/MethodHandle" ∧ yX5_spread.cls ≠ "java/lang/invoke/VarHandle" ∧ (parseMethodDescriptor yX5_spread.desc).map (fun d => d.parameters.length) = some 3 := by decide +kernel
theorem wf_X5_45 : Cond.fieldLink RX5 45 (TX5 8).1 (TX5 8).2.1 (TX5 8).2.2.1 ∈ tb := tb_at 197 (by decide +kernel) (by decide +kernel)
theorem wf_X5_22 : Cond.fieldLink RX5 22 (TX5 2).1 (TX5 2).2.1 (TX5 2).2.2.1 ∈ tb := tb_at 191 (by decide +kernel) (by decide +kernel)
theorem wm_X5_141 : Cond.methodLink RX5 141 yX0_locksBy ∈ tb := tb_at 503 (by decide +kernel) (by decide +kernel)
theorem wm_X5_195 : Cond.methodLink RX5 195 yX5_bestByBoth ∈ tb := tb_at 516 (by decide +kernel) (by decide +kernel)
theorem wc_X5_bestByBoth : Cond.code yX5_bestByBoth cX5_bestByBoth 7 (some .int) ∈ tb := tb_at 519 (by decide +kernel) (by decide +kernel)
theorem wi_X5_bestByBoth : Cond.instanceMethod yX5_bestByBoth ∈ tb := tb_at 518 (by decide +kernel) (by decide +kernel)
theorem we_X5_bestByBoth : Cond.selects RX5 yX5_bestByBoth yX5_bestByBoth ∈ tb := tb_at 8 (by decide +kernel) (by decide +kernel)
theorem wy_X5_bestByBoth : yX5_bestByBoth.cls = RX5 ∧ yX5_bestByBoth.cls ≠ "java/lang/invoke/MethodHandle" ∧ yX5_bestByBoth.cls ≠ "java/lang/invoke/VarHandle" ∧ (parseMethodDescriptor yX5_bestByBoth.desc).map (fun d => d.parameters.length) = some 3 := by decide +kernel
theorem wf_X5_31 : Cond.fieldLink RX5 31 (TX5 4).1 (TX5 4).2.1 (TX5 4).2.2.1 ∈ tb := tb_at 193 (by decide +kernel) (by decide +kernel)
theorem wm_X5_169 : Cond.methodLink RX5 169 yX0_isSilent ∈ tb := tb_at 480 (by decide +kernel) (by decide +kernel)
theorem wc_X0_isSilent : Cond.code yX0_isSilent cX0_isSilent 2 (some .boolean) ∈ tb := tb_at 483 (by decide +kernel) (by decide +kernel)
theorem wi_X0_isSilent : Cond.instanceMethod yX0_isSilent ∈ tb := tb_at 481 (by decide +kernel) (by decide +kernel)
theorem we_X0_isSilent : Cond.selects RX0 yX0_isSilent yX0_isSilent ∈ tb := tb_at 482 (by decide +kernel) (by decide +kernel)
theorem wy_X0_isSilent : yX0_isSilent.cls = RX0 ∧ yX0_isSilent.cls ≠ "java/lang/invoke/MethodHandle" ∧ yX0_isSilent.cls ≠ "java/lang/invoke/VarHandle" ∧ (parseMethodDescriptor yX0_isSilent.desc).map (fun d => d.parameters.length) = some 0 := by decide +kernel
theorem wf_X5_28 : Cond.fieldLink RX5 28 (TX5 3).1 (TX5 3).2.1 (TX5 3).2.2.1 ∈ tb := tb_at 192 (by decide +kernel) (by decide +kernel)
theorem wm_X5_177 : Cond.methodLink RX5 177 yX5_fillLockedOnward ∈ tb := tb_at 499 (by decide +kernel) (by decide +kernel)
theorem wc_X5_fillLockedOnward : Cond.code yX5_fillLockedOnward cX5_fillLockedOnward 5 none ∈ tb := tb_at 502 (by decide +kernel) (by decide +kernel)
theorem wi_X5_fillLockedOnward : Cond.instanceMethod yX5_fillLockedOnward ∈ tb := tb_at 501 (by decide +kernel) (by decide +kernel)
theorem we_X5_fillLockedOnward : Cond.selects RX5 yX5_fillLockedOnward yX5_fillLockedOnward ∈ tb := tb_at 5 (by decide +kernel) (by decide +kernel)
theorem wy_X5_fillLockedOnward : yX5_fillLockedOnward.cls = RX5 ∧ yX5_fillLockedOnward.cls ≠ "java/lang/invoke/MethodHandle" ∧ yX5_fillLockedOnward.cls ≠ "java/lang/invoke/VarHandle" ∧ (parseMethodDescriptor yX5_fillLockedOnward.desc).map (fun d => d.parameters.length) = some 2 := by decide +kernel
theorem wm_X5_157 : Cond.methodLink RX5 157 yJ7_fill_53178 ∈ tb := tb_at 478 (by decide +kernel) (by decide +kernel)
theorem wc_J7_fill_53178 : Cond.code yJ7_fill_53178 cJ7_fill_53178 4 none ∈ tb := tb_at 81 (by decide +kernel) (by decide +kernel)
theorem wn_J7 : Cond.initialized RJ7 ∈ tb := tb_at 44 (by decide +kernel) (by decide +kernel)
theorem wt_J7_fill_53178 : Cond.static yJ7_fill_53178 ∈ tb := tb_at 80 (by decide +kernel) (by decide +kernel)
theorem wv_J7_fill_53178 : Cond.initialized yJ7_fill_53178.cls ∈ tb := tb_at 44 (by decide +kernel) (by decide +kernel)
theorem wz_J7_fill_53178 : yJ7_fill_53178.cls ≠ "java/lang/invoke/MethodHandle" ∧ yJ7_fill_53178.cls ≠ "java/lang/invoke/VarHandle" ∧ (parseMethodDescriptor yJ7_fill_53178.desc).map (fun d => d.parameters.length) = some 2 := by decide +kernel
theorem wm_X5_181 : Cond.methodLink RX5 181 yX5_dropUnfit ∈ tb := tb_at 520 (by decide +kernel) (by decide +kernel)
theorem wc_X5_dropUnfit : Cond.code yX5_dropUnfit cX5_dropUnfit 3 none ∈ tb := tb_at 523 (by decide +kernel) (by decide +kernel)
theorem wi_X5_dropUnfit : Cond.instanceMethod yX5_dropUnfit ∈ tb := tb_at 522 (by decide +kernel) (by decide +kernel)
theorem we_X5_dropUnfit : Cond.selects RX5 yX5_dropUnfit yX5_dropUnfit ∈ tb := tb_at 9 (by decide +kernel) (by decide +kernel)
theorem wy_X5_dropUnfit : yX5_dropUnfit.cls = RX5 ∧ yX5_dropUnfit.cls ≠ "java/lang/invoke/MethodHandle" ∧ yX5_dropUnfit.cls ≠ "java/lang/invoke/VarHandle" ∧ (parseMethodDescriptor yX5_dropUnfit.desc).map (fun d => d.parameters.length) = some 1 := by decide +kernel
theorem wf_X5_217 : Cond.fieldLink RX5 217 (TX3 6).1 (TX3 6).2.1 (TX3 6).2.2.1 ∈ tb := tb_at 102 (by decide +kernel) (by decide +kernel)
theorem wm_X5_220 : Cond.methodLink RX5 220 yX1_bitsOf ∈ tb := tb_at 539 (by decide +kernel) (by decide +kernel)
theorem wm_X5_130 : Cond.methodLink RX5 130 yX5_unlikeStart ∈ tb := tb_at 535 (by decide +kernel) (by decide +kernel)
theorem wc_X5_unlikeStart : Cond.code yX5_unlikeStart cX5_unlikeStart 5 (some .int) ∈ tb := tb_at 538 (by decide +kernel) (by decide +kernel)
theorem wi_X5_unlikeStart : Cond.instanceMethod yX5_unlikeStart ∈ tb := tb_at 537 (by decide +kernel) (by decide +kernel)
theorem we_X5_unlikeStart : Cond.selects RX5 yX5_unlikeStart yX5_unlikeStart ∈ tb := tb_at 12 (by decide +kernel) (by decide +kernel)
theorem wy_X5_unlikeStart : yX5_unlikeStart.cls = RX5 ∧ yX5_unlikeStart.cls ≠ "java/lang/invoke/MethodHandle" ∧ yX5_unlikeStart.cls ≠ "java/lang/invoke/VarHandle" ∧ (parseMethodDescriptor yX5_unlikeStart.desc).map (fun d => d.parameters.length) = some 1 := by decide +kernel
theorem wm_X5_134 : Cond.methodLink RX5 134 yX1_standIn ∈ tb := tb_at 540 (by decide +kernel) (by decide +kernel)
theorem wf_X5_35 : Cond.fieldLink RX5 35 (TX5 5).1 (TX5 5).2.1 (TX5 5).2.2.1 ∈ tb := tb_at 194 (by decide +kernel) (by decide +kernel)
theorem wm_X5_223 : Cond.methodLink RX5 223 yX5_bringByFoot ∈ tb := tb_at 545 (by decide +kernel) (by decide +kernel)
theorem wc_X5_bringByFoot : Cond.code yX5_bringByFoot cX5_bringByFoot 7 none ∈ tb := tb_at 548 (by decide +kernel) (by decide +kernel)
theorem wi_X5_bringByFoot : Cond.instanceMethod yX5_bringByFoot ∈ tb := tb_at 547 (by decide +kernel) (by decide +kernel)
theorem we_X5_bringByFoot : Cond.selects RX5 yX5_bringByFoot yX5_bringByFoot ∈ tb := tb_at 14 (by decide +kernel) (by decide +kernel)
theorem wy_X5_bringByFoot : yX5_bringByFoot.cls = RX5 ∧ yX5_bringByFoot.cls ≠ "java/lang/invoke/MethodHandle" ∧ yX5_bringByFoot.cls ≠ "java/lang/invoke/VarHandle" ∧ (parseMethodDescriptor yX5_bringByFoot.desc).map (fun d => d.parameters.length) = some 4 := by decide +kernel
theorem wm_X5_227 : Cond.methodLink RX5 227 yX5_bringByBoth ∈ tb := tb_at 549 (by decide +kernel) (by decide +kernel)
theorem wc_X5_bringByBoth : Cond.code yX5_bringByBoth cX5_bringByBoth 7 none ∈ tb := tb_at 552 (by decide +kernel) (by decide +kernel)
theorem wi_X5_bringByBoth : Cond.instanceMethod yX5_bringByBoth ∈ tb := tb_at 551 (by decide +kernel) (by decide +kernel)
theorem we_X5_bringByBoth : Cond.selects RX5 yX5_bringByBoth yX5_bringByBoth ∈ tb := tb_at 15 (by decide +kernel) (by decide +kernel)
theorem wy_X5_bringByBoth : yX5_bringByBoth.cls = RX5 ∧ yX5_bringByBoth.cls ≠ "java/lang/invoke/MethodHandle" ∧ yX5_bringByBoth.cls ≠ "java/lang/invoke/VarHandle" ∧ (parseMethodDescriptor yX5_bringByBoth.desc).map (fun d => d.parameters.length) = some 4 := by decide +kernel
theorem wf_X5_38 : Cond.fieldLink RX5 38 (TX5 6).1 (TX5 6).2.1 (TX5 6).2.2.1 ∈ tb := tb_at 195 (by decide +kernel) (by decide +kernel)
theorem wm_X5_230 : Cond.methodLink RX5 230 yX5_lessen ∈ tb := tb_at 553 (by decide +kernel) (by decide +kernel)
theorem wc_X5_lessen : Cond.code yX5_lessen cX5_lessen 3 none ∈ tb := tb_at 555 (by decide +kernel) (by decide +kernel)
theorem wt_X5_lessen : Cond.static yX5_lessen ∈ tb := tb_at 554 (by decide +kernel) (by decide +kernel)
theorem wv_X5_lessen : Cond.initialized yX5_lessen.cls ∈ tb := tb_at 47 (by decide +kernel) (by decide +kernel)
theorem wz_X5_lessen : yX5_lessen.cls ≠ "java/lang/invoke/MethodHandle" ∧ yX5_lessen.cls ≠ "java/lang/invoke/VarHandle" ∧ (parseMethodDescriptor yX5_lessen.desc).map (fun d => d.parameters.length) = some 2 := by decide +kernel
theorem wm_X5_101 : Cond.methodLink RX5 101 yX0_read ∈ tb := tb_at 473 (by decide +kernel) (by decide +kernel)
theorem wm_X5_214 : Cond.methodLink RX5 214 yX5_fillLockedArrival ∈ tb := tb_at 541 (by decide +kernel) (by decide +kernel)
theorem wc_X5_fillLockedArrival : Cond.code yX5_fillLockedArrival cX5_fillLockedArrival 5 none ∈ tb := tb_at 544 (by decide +kernel) (by decide +kernel)
theorem wi_X5_fillLockedArrival : Cond.instanceMethod yX5_fillLockedArrival ∈ tb := tb_at 543 (by decide +kernel) (by decide +kernel)
theorem we_X5_fillLockedArrival : Cond.selects RX5 yX5_fillLockedArrival yX5_fillLockedArrival ∈ tb := tb_at 13 (by decide +kernel) (by decide +kernel)
theorem wy_X5_fillLockedArrival : yX5_fillLockedArrival.cls = RX5 ∧ yX5_fillLockedArrival.cls ≠ "java/lang/invoke/MethodHandle" ∧ yX5_fillLockedArrival.cls ≠ "java/lang/invoke/VarHandle" ∧ (parseMethodDescriptor yX5_fillLockedArrival.desc).map (fun d => d.parameters.length) = some 2 := by decide +kernel
theorem wm_X5_211 : Cond.methodLink RX5 211 yX5_fillFirstArrival ∈ tb := tb_at 531 (by decide +kernel) (by decide +kernel)
theorem wc_X5_fillFirstArrival : Cond.code yX5_fillFirstArrival cX5_fillFirstArrival 6 none ∈ tb := tb_at 534 (by decide +kernel) (by decide +kernel)
theorem wi_X5_fillFirstArrival : Cond.instanceMethod yX5_fillFirstArrival ∈ tb := tb_at 533 (by decide +kernel) (by decide +kernel)
theorem we_X5_fillFirstArrival : Cond.selects RX5 yX5_fillFirstArrival yX5_fillFirstArrival ∈ tb := tb_at 11 (by decide +kernel) (by decide +kernel)
theorem wy_X5_fillFirstArrival : yX5_fillFirstArrival.cls = RX5 ∧ yX5_fillFirstArrival.cls ≠ "java/lang/invoke/MethodHandle" ∧ yX5_fillFirstArrival.cls ≠ "java/lang/invoke/VarHandle" ∧ (parseMethodDescriptor yX5_fillFirstArrival.desc).map (fun d => d.parameters.length) = some 0 := by decide +kernel
theorem wf_X5_69 : Cond.fieldLink RX5 69 (TX5 15).1 (TX5 15).2.1 (TX5 15).2.2.1 ∈ tb := tb_at 205 (by decide +kernel) (by decide +kernel)
theorem wm_X5_147 : Cond.methodLink RX5 147 yX5_cost ∈ tb := tb_at 563 (by decide +kernel) (by decide +kernel)
theorem wc_X5_cost : Cond.code yX5_cost cX5_cost 1 (some .int) ∈ tb := tb_at 566 (by decide +kernel) (by decide +kernel)
theorem wi_X5_cost : Cond.instanceMethod yX5_cost ∈ tb := tb_at 564 (by decide +kernel) (by decide +kernel)
theorem we_X5_cost : Cond.selects RX5 yX5_cost yX5_cost ∈ tb := tb_at 565 (by decide +kernel) (by decide +kernel)
theorem wy_X5_cost : yX5_cost.cls = RX5 ∧ yX5_cost.cls ≠ "java/lang/invoke/MethodHandle" ∧ yX5_cost.cls ≠ "java/lang/invoke/VarHandle" ∧ (parseMethodDescriptor yX5_cost.desc).map (fun d => d.parameters.length) = some 0 := by decide +kernel
theorem wf_X5_54 : Cond.fieldLink RX5 54 (TX5 11).1 (TX5 11).2.1 (TX5 11).2.2.1 ∈ tb := tb_at 200 (by decide +kernel) (by decide +kernel)
theorem wm_X5_208 : Cond.methodLink RX5 208 yX5_leastNext ∈ tb := tb_at 567 (by decide +kernel) (by decide +kernel)
theorem wc_X5_leastNext : Cond.code yX5_leastNext cX5_leastNext 12 (some .int) ∈ tb := tb_at 570 (by decide +kernel) (by decide +kernel)
theorem wi_X5_leastNext : Cond.instanceMethod yX5_leastNext ∈ tb := tb_at 569 (by decide +kernel) (by decide +kernel)
theorem we_X5_leastNext : Cond.selects RX5 yX5_leastNext yX5_leastNext ∈ tb := tb_at 17 (by decide +kernel) (by decide +kernel)
theorem wy_X5_leastNext : yX5_leastNext.cls = RX5 ∧ yX5_leastNext.cls ≠ "java/lang/invoke/MethodHandle" ∧ yX5_leastNext.cls ≠ "java/lang/invoke/VarHandle" ∧ (parseMethodDescriptor yX5_leastNext.desc).map (fun d => d.parameters.length) = some 2 := by decide +kernel
theorem wm_X5_105 : Cond.methodLink RX5 105 yX5_fillOnward ∈ tb := tb_at 474 (by decide +kernel) (by decide +kernel)
theorem wc_X5_fillOnward : Cond.code yX5_fillOnward cX5_fillOnward 3 none ∈ tb := tb_at 477 (by decide +kernel) (by decide +kernel)
theorem wi_X5_fillOnward : Cond.instanceMethod yX5_fillOnward ∈ tb := tb_at 476 (by decide +kernel) (by decide +kernel)
theorem we_X5_fillOnward : Cond.selects RX5 yX5_fillOnward yX5_fillOnward ∈ tb := tb_at 4 (by decide +kernel) (by decide +kernel)
theorem wy_X5_fillOnward : yX5_fillOnward.cls = RX5 ∧ yX5_fillOnward.cls ≠ "java/lang/invoke/MethodHandle" ∧ yX5_fillOnward.cls ≠ "java/lang/invoke/VarHandle" ∧ (parseMethodDescriptor yX5_fillOnward.desc).map (fun d => d.parameters.length) = some 2 := by decide +kernel
theorem wm_X5_109 : Cond.methodLink RX5 109 yX5_isEven ∈ tb := tb_at 524 (by decide +kernel) (by decide +kernel)
theorem wc_X5_isEven : Cond.code yX5_isEven cX5_isEven 2 (some .boolean) ∈ tb := tb_at 526 (by decide +kernel) (by decide +kernel)
theorem wt_X5_isEven : Cond.static yX5_isEven ∈ tb := tb_at 525 (by decide +kernel) (by decide +kernel)
theorem wv_X5_isEven : Cond.initialized yX5_isEven.cls ∈ tb := tb_at 47 (by decide +kernel) (by decide +kernel)
theorem wz_X5_isEven : yX5_isEven.cls ≠ "java/lang/invoke/MethodHandle" ∧ yX5_isEven.cls ≠ "java/lang/invoke/VarHandle" ∧ (parseMethodDescriptor yX5_isEven.desc).map (fun d => d.parameters.length) = some 1 := by decide +kernel
theorem wm_X5_113 : Cond.methodLink RX5 113 yX5_makeArrival ∈ tb := tb_at 527 (by decide +kernel) (by decide +kernel)
theorem wc_X5_makeArrival : Cond.code yX5_makeArrival cX5_makeArrival 3 none ∈ tb := tb_at 530 (by decide +kernel) (by decide +kernel)
theorem wi_X5_makeArrival : Cond.instanceMethod yX5_makeArrival ∈ tb := tb_at 529 (by decide +kernel) (by decide +kernel)
theorem we_X5_makeArrival : Cond.selects RX5 yX5_makeArrival yX5_makeArrival ∈ tb := tb_at 10 (by decide +kernel) (by decide +kernel)
theorem wy_X5_makeArrival : yX5_makeArrival.cls = RX5 ∧ yX5_makeArrival.cls ≠ "java/lang/invoke/MethodHandle" ∧ yX5_makeArrival.cls ≠ "java/lang/invoke/VarHandle" ∧ (parseMethodDescriptor yX5_makeArrival.desc).map (fun d => d.parameters.length) = some 1 := by decide +kernel
theorem wm_X5_117 : Cond.methodLink RX5 117 yX5_bestOf ∈ tb := tb_at 556 (by decide +kernel) (by decide +kernel)
theorem wc_X5_bestOf : Cond.code yX5_bestOf cX5_bestOf 4 (some .int) ∈ tb := tb_at 558 (by decide +kernel) (by decide +kernel)
theorem wt_X5_bestOf : Cond.static yX5_bestOf ∈ tb := tb_at 557 (by decide +kernel) (by decide +kernel)
theorem wv_X5_bestOf : Cond.initialized yX5_bestOf.cls ∈ tb := tb_at 47 (by decide +kernel) (by decide +kernel)
theorem wz_X5_bestOf : yX5_bestOf.cls ≠ "java/lang/invoke/MethodHandle" ∧ yX5_bestOf.cls ≠ "java/lang/invoke/VarHandle" ∧ (parseMethodDescriptor yX5_bestOf.desc).map (fun d => d.parameters.length) = some 2 := by decide +kernel
theorem wm_X5_121 : Cond.methodLink RX5 121 yX5_trace ∈ tb := tb_at 559 (by decide +kernel) (by decide +kernel)
theorem wc_X5_trace : Cond.code yX5_trace cX5_trace 3 none ∈ tb := tb_at 562 (by decide +kernel) (by decide +kernel)
theorem wi_X5_trace : Cond.instanceMethod yX5_trace ∈ tb := tb_at 561 (by decide +kernel) (by decide +kernel)
theorem we_X5_trace : Cond.selects RX5 yX5_trace yX5_trace ∈ tb := tb_at 16 (by decide +kernel) (by decide +kernel)
theorem wy_X5_trace : yX5_trace.cls = RX5 ∧ yX5_trace.cls ≠ "java/lang/invoke/MethodHandle" ∧ yX5_trace.cls ≠ "java/lang/invoke/VarHandle" ∧ (parseMethodDescriptor yX5_trace.desc).map (fun d => d.parameters.length) = some 0 := by decide +kernel
theorem wm_X6_163 : Cond.methodLink RX6 163 yX5_exists ∈ tb := tb_at 469 (by decide +kernel) (by decide +kernel)
theorem wc_X5_exists : Cond.code yX5_exists cX5_exists 2 (some .boolean) ∈ tb := tb_at 472 (by decide +kernel) (by decide +kernel)
theorem wi_X5_exists : Cond.instanceMethod yX5_exists ∈ tb := tb_at 470 (by decide +kernel) (by decide +kernel)
theorem we_X5_exists : Cond.selects RX5 yX5_exists yX5_exists ∈ tb := tb_at 471 (by decide +kernel) (by decide +kernel)
theorem wy_X5_exists : yX5_exists.cls = RX5 ∧ yX5_exists.cls ≠ "java/lang/invoke/MethodHandle" ∧ yX5_exists.cls ≠ "java/lang/invoke/VarHandle" ∧ (parseMethodDescriptor yX5_exists.desc).map (fun d => d.parameters.length) = some 0 := by decide +kernel
theorem wm_X6_167 : Cond.methodLink RX6 167 yX5_cost ∈ tb := tb_at 571 (by decide +kernel) (by decide +kernel)
theorem wm_X6_170 : Cond.methodLink RX6 170 yX6_isPlayed ∈ tb := tb_at 576 (by decide +kernel) (by decide +kernel)
theorem wc_X6_isPlayed : Cond.code yX6_isPlayed cX6_isPlayed 2 (some .boolean) ∈ tb := tb_at 579 (by decide +kernel) (by decide +kernel)
theorem wi_X6_isPlayed : Cond.instanceMethod yX6_isPlayed ∈ tb := tb_at 578 (by decide +kernel) (by decide +kernel)
theorem we_X6_isPlayed : Cond.selects RX6 yX6_isPlayed yX6_isPlayed ∈ tb := tb_at 18 (by decide +kernel) (by decide +kernel)
theorem wy_X6_isPlayed : yX6_isPlayed.cls = RX6 ∧ yX6_isPlayed.cls ≠ "java/lang/invoke/MethodHandle" ∧ yX6_isPlayed.cls ≠ "java/lang/invoke/VarHandle" ∧ (parseMethodDescriptor yX6_isPlayed.desc).map (fun d => d.parameters.length) = some 1 := by decide +kernel
theorem wf_X6_173 : Cond.fieldLink RX6 173 (TX5 11).1 (TX5 11).2.1 (TX5 11).2.2.1 ∈ tb := tb_at 201 (by decide +kernel) (by decide +kernel)
theorem wm_X6_176 : Cond.methodLink RX6 176 yX1_standIn ∈ tb := tb_at 584 (by decide +kernel) (by decide +kernel)
theorem wm_X6_179 : Cond.methodLink RX6 179 yX5_movedTo ∈ tb := tb_at 589 (by decide +kernel) (by decide +kernel)
theorem wc_X5_movedTo : Cond.code yX5_movedTo cX5_movedTo 6 (some .int) ∈ tb := tb_at 592 (by decide +kernel) (by decide +kernel)
theorem wi_X5_movedTo : Cond.instanceMethod yX5_movedTo ∈ tb := tb_at 590 (by decide +kernel) (by decide +kernel)
theorem we_X5_movedTo : Cond.selects RX5 yX5_movedTo yX5_movedTo ∈ tb := tb_at 591 (by decide +kernel) (by decide +kernel)
theorem wy_X5_movedTo : yX5_movedTo.cls = RX5 ∧ yX5_movedTo.cls ≠ "java/lang/invoke/MethodHandle" ∧ yX5_movedTo.cls ≠ "java/lang/invoke/VarHandle" ∧ (parseMethodDescriptor yX5_movedTo.desc).map (fun d => d.parameters.length) = some 2 := by decide +kernel
theorem wm_X6_182 : Cond.methodLink RX6 182 yX5_count ∈ tb := tb_at 597 (by decide +kernel) (by decide +kernel)
theorem wc_X5_count : Cond.code yX5_count cX5_count 1 (some .int) ∈ tb := tb_at 600 (by decide +kernel) (by decide +kernel)
theorem wi_X5_count : Cond.instanceMethod yX5_count ∈ tb := tb_at 598 (by decide +kernel) (by decide +kernel)
theorem we_X5_count : Cond.selects RX5 yX5_count yX5_count ∈ tb := tb_at 599 (by decide +kernel) (by decide +kernel)
theorem wy_X5_count : yX5_count.cls = RX5 ∧ yX5_count.cls ≠ "java/lang/invoke/MethodHandle" ∧ yX5_count.cls ≠ "java/lang/invoke/VarHandle" ∧ (parseMethodDescriptor yX5_count.desc).map (fun d => d.parameters.length) = some 0 := by decide +kernel
theorem wf_X5_75 : Cond.fieldLink RX5 75 (TX5 17).1 (TX5 17).2.1 (TX5 17).2.2.1 ∈ tb := tb_at 207 (by decide +kernel) (by decide +kernel)
theorem wm_X5_137 : Cond.methodLink RX5 137 yX5_canStandAt ∈ tb := tb_at 609 (by decide +kernel) (by decide +kernel)
theorem wc_X5_canStandAt : Cond.code yX5_canStandAt cX5_canStandAt 3 (some .boolean) ∈ tb := tb_at 612 (by decide +kernel) (by decide +kernel)
theorem wi_X5_canStandAt : Cond.instanceMethod yX5_canStandAt ∈ tb := tb_at 611 (by decide +kernel) (by decide +kernel)
theorem we_X5_canStandAt : Cond.selects RX5 yX5_canStandAt yX5_canStandAt ∈ tb := tb_at 19 (by decide +kernel) (by decide +kernel)
theorem wy_X5_canStandAt : yX5_canStandAt.cls = RX5 ∧ yX5_canStandAt.cls ≠ "java/lang/invoke/MethodHandle" ∧ yX5_canStandAt.cls ≠ "java/lang/invoke/VarHandle" ∧ (parseMethodDescriptor yX5_canStandAt.desc).map (fun d => d.parameters.length) = some 1 := by decide +kernel
theorem wm_X6_185 : Cond.methodLink RX6 185 yX5_stuckBeat ∈ tb := tb_at 605 (by decide +kernel) (by decide +kernel)
theorem wc_X5_stuckBeat : Cond.code yX5_stuckBeat cX5_stuckBeat 1 (some .int) ∈ tb := tb_at 608 (by decide +kernel) (by decide +kernel)
theorem wi_X5_stuckBeat : Cond.instanceMethod yX5_stuckBeat ∈ tb := tb_at 606 (by decide +kernel) (by decide +kernel)
theorem we_X5_stuckBeat : Cond.selects RX5 yX5_stuckBeat yX5_stuckBeat ∈ tb := tb_at 607 (by decide +kernel) (by decide +kernel)
theorem wy_X5_stuckBeat : yX5_stuckBeat.cls = RX5 ∧ yX5_stuckBeat.cls ≠ "java/lang/invoke/MethodHandle" ∧ yX5_stuckBeat.cls ≠ "java/lang/invoke/VarHandle" ∧ (parseMethodDescriptor yX5_stuckBeat.desc).map (fun d => d.parameters.length) = some 0 := by decide +kernel
theorem wm_X5_144 : Cond.methodLink RX5 144 yX0_forgetMark ∈ tb := tb_at 621 (by decide +kernel) (by decide +kernel)
theorem wc_X0_forgetMark : Cond.code yX0_forgetMark cX0_forgetMark 2 none ∈ tb := tb_at 624 (by decide +kernel) (by decide +kernel)
theorem wi_X0_forgetMark : Cond.instanceMethod yX0_forgetMark ∈ tb := tb_at 622 (by decide +kernel) (by decide +kernel)
theorem we_X0_forgetMark : Cond.selects RX0 yX0_forgetMark yX0_forgetMark ∈ tb := tb_at 623 (by decide +kernel) (by decide +kernel)
theorem wy_X0_forgetMark : yX0_forgetMark.cls = RX0 ∧ yX0_forgetMark.cls ≠ "java/lang/invoke/MethodHandle" ∧ yX0_forgetMark.cls ≠ "java/lang/invoke/VarHandle" ∧ (parseMethodDescriptor yX0_forgetMark.desc).map (fun d => d.parameters.length) = some 1 := by decide +kernel
theorem wm_X6_188 : Cond.methodLink RX6 188 yX5_sparedWithout ∈ tb := tb_at 617 (by decide +kernel) (by decide +kernel)
theorem wc_X5_sparedWithout : Cond.code yX5_sparedWithout cX5_sparedWithout 3 (some .int) ∈ tb := tb_at 620 (by decide +kernel) (by decide +kernel)
theorem wi_X5_sparedWithout : Cond.instanceMethod yX5_sparedWithout ∈ tb := tb_at 618 (by decide +kernel) (by decide +kernel)
theorem we_X5_sparedWithout : Cond.selects RX5 yX5_sparedWithout yX5_sparedWithout ∈ tb := tb_at 619 (by decide +kernel) (by decide +kernel)
theorem wy_X5_sparedWithout : yX5_sparedWithout.cls = RX5 ∧ yX5_sparedWithout.cls ≠ "java/lang/invoke/MethodHandle" ∧ yX5_sparedWithout.cls ≠ "java/lang/invoke/VarHandle" ∧ (parseMethodDescriptor yX5_sparedWithout.desc).map (fun d => d.parameters.length) = some 2 := by decide +kernel
theorem wf_X0_40 : Cond.fieldLink RX0 40 (TX0 9).1 (TX0 9).2.1 (TX0 9).2.2.1 ∈ tb := tb_at 153 (by decide +kernel) (by decide +kernel)
theorem wf_X0_43 : Cond.fieldLink RX0 43 (TX0 10).1 (TX0 10).2.1 (TX0 10).2.2.1 ∈ tb := tb_at 154 (by decide +kernel) (by decide +kernel)
theorem wm_X0_90 : Cond.methodLink RX0 90 yX0_sortStrings ∈ tb := tb_at 633 (by decide +kernel) (by decide +kernel)
theorem wc_X0_sortStrings : Cond.code yX0_sortStrings cX0_sortStrings 5 none ∈ tb := tb_at 636 (by decide +kernel) (by decide +kernel)
theorem wi_X0_sortStrings : Cond.instanceMethod yX0_sortStrings ∈ tb := tb_at 635 (by decide +kernel) (by decide +kernel)
theorem we_X0_sortStrings : Cond.selects RX0 yX0_sortStrings yX0_sortStrings ∈ tb := tb_at 20 (by decide +kernel) (by decide +kernel)
theorem wy_X0_sortStrings : yX0_sortStrings.cls = RX0 ∧ yX0_sortStrings.cls ≠ "java/lang/invoke/MethodHandle" ∧ yX0_sortStrings.cls ≠ "java/lang/invoke/VarHandle" ∧ (parseMethodDescriptor yX0_sortStrings.desc).map (fun d => d.parameters.length) = some 1 := by decide +kernel
theorem wm_X0_94 : Cond.methodLink RX0 94 yX0_handCan ∈ tb := tb_at 637 (by decide +kernel) (by decide +kernel)
theorem wc_X0_handCan : Cond.code yX0_handCan cX0_handCan 5 (some .boolean) ∈ tb := tb_at 640 (by decide +kernel) (by decide +kernel)
theorem wi_X0_handCan : Cond.instanceMethod yX0_handCan ∈ tb := tb_at 639 (by decide +kernel) (by decide +kernel)
theorem we_X0_handCan : Cond.selects RX0 yX0_handCan yX0_handCan ∈ tb := tb_at 21 (by decide +kernel) (by decide +kernel)
theorem wy_X0_handCan : yX0_handCan.cls = RX0 ∧ yX0_handCan.cls ≠ "java/lang/invoke/MethodHandle" ∧ yX0_handCan.cls ≠ "java/lang/invoke/VarHandle" ∧ (parseMethodDescriptor yX0_handCan.desc).map (fun d => d.parameters.length) = some 2 := by decide +kernel
theorem wm_X6_191 : Cond.methodLink RX6 191 yX0_leastForLeft ∈ tb := tb_at 629 (by decide +kernel) (by decide +kernel)
theorem wc_X0_leastForLeft : Cond.code yX0_leastForLeft cX0_leastForLeft 3 (some .int) ∈ tb := tb_at 632 (by decide +kernel) (by decide +kernel)
theorem wi_X0_leastForLeft : Cond.instanceMethod yX0_leastForLeft ∈ tb := tb_at 630 (by decide +kernel) (by decide +kernel)
theorem we_X0_leastForLeft : Cond.selects RX0 yX0_leastForLeft yX0_leastForLeft ∈ tb := tb_at 631 (by decide +kernel) (by decide +kernel)
theorem wy_X0_leastForLeft : yX0_leastForLeft.cls = RX0 ∧ yX0_leastForLeft.cls ≠ "java/lang/invoke/MethodHandle" ∧ yX0_leastForLeft.cls ≠ "java/lang/invoke/VarHandle" ∧ (parseMethodDescriptor yX0_leastForLeft.desc).map (fun d => d.parameters.length) = some 1 := by decide +kernel
theorem wm_X6_194 : Cond.methodLink RX6 194 Lib.Math.abs.name ∈ tb := tb_at 649 (by decide +kernel) (by decide +kernel)
theorem wt_Math_abs : Cond.static Lib.Math.abs.name ∈ tb := tb_at 650 (by decide +kernel) (by decide +kernel)
theorem wc_Math_abs : Cond.code Lib.Math.abs.name Lib.Math.abs.code 1 (some .int) ∈ tb := tb_at 651 (by decide +kernel) (by decide +kernel)
theorem wm_X1_26 : Cond.methodLink RX1 26 yX1_pitchOf ∈ tb := tb_at 662 (by decide +kernel) (by decide +kernel)
theorem wm_X6_199 : Cond.methodLink RX6 199 Lib.Math.min.name ∈ tb := tb_at 656 (by decide +kernel) (by decide +kernel)
theorem wm_X6_202 : Cond.methodLink RX6 202 Lib.Math.max.name ∈ tb := tb_at 657 (by decide +kernel) (by decide +kernel)
theorem wm_X6_205 : Cond.methodLink RX6 205 yX1_differentPitches ∈ tb := tb_at 658 (by decide +kernel) (by decide +kernel)
theorem wc_X1_differentPitches : Cond.code yX1_differentPitches cX1_differentPitches 8 (some .int) ∈ tb := tb_at 661 (by decide +kernel) (by decide +kernel)
theorem wi_X1_differentPitches : Cond.instanceMethod yX1_differentPitches ∈ tb := tb_at 659 (by decide +kernel) (by decide +kernel)
theorem we_X1_differentPitches : Cond.selects RX1 yX1_differentPitches yX1_differentPitches ∈ tb := tb_at 660 (by decide +kernel) (by decide +kernel)
theorem wy_X1_differentPitches : yX1_differentPitches.cls = RX1 ∧ yX1_differentPitches.cls ≠ "java/lang/invoke/MethodHandle" ∧ yX1_differentPitches.cls ≠ "java/lang/invoke/VarHandle" ∧ (parseMethodDescriptor yX1_differentPitches.desc).map (fun d => d.parameters.length) = some 3 := by decide +kernel
theorem wf_X4_9 : Cond.fieldLink RX4 9 (TX4 0).1 (TX4 0).2.1 (TX4 0).2.2.1 ∈ tb := tb_at 253 (by decide +kernel) (by decide +kernel)
theorem wf_X4_13 : Cond.fieldLink RX4 13 (TX4 1).1 (TX4 1).2.1 (TX4 1).2.2.1 ∈ tb := tb_at 255 (by decide +kernel) (by decide +kernel)
theorem wf_X4_18 : Cond.fieldLink RX4 18 (TX4 2).1 (TX4 2).2.1 (TX4 2).2.2.1 ∈ tb := tb_at 257 (by decide +kernel) (by decide +kernel)
theorem wm_X4_21 : Cond.methodLink RX4 21 yJ7_fill_53178 ∈ tb := tb_at 677 (by decide +kernel) (by decide +kernel)
theorem wm_X6_209 : Cond.methodLink RX6 209 yX4_isSheet ∈ tb := tb_at 667 (by decide +kernel) (by decide +kernel)
theorem wc_X4_isSheet : Cond.code yX4_isSheet cX4_isSheet 1 (some .boolean) ∈ tb := tb_at 669 (by decide +kernel) (by decide +kernel)
theorem wn_X4 : Cond.initialized RX4 ∈ tb := tb_at 48 (by decide +kernel) (by decide +kernel)
theorem wt_X4_isSheet : Cond.static yX4_isSheet ∈ tb := tb_at 668 (by decide +kernel) (by decide +kernel)
theorem wv_X4_isSheet : Cond.initialized yX4_isSheet.cls ∈ tb := tb_at 48 (by decide +kernel) (by decide +kernel)
theorem wz_X4_isSheet : yX4_isSheet.cls ≠ "java/lang/invoke/MethodHandle" ∧ yX4_isSheet.cls ≠ "java/lang/invoke/VarHandle" ∧ (parseMethodDescriptor yX4_isSheet.desc).map (fun d => d.parameters.length) = some 1 := by decide +kernel
theorem wm_X6_212 : Cond.methodLink RX6 212 yX4_isBits ∈ tb := tb_at 670 (by decide +kernel) (by decide +kernel)
theorem wc_X4_isBits : Cond.code yX4_isBits cX4_isBits 1 (some .boolean) ∈ tb := tb_at 672 (by decide +kernel) (by decide +kernel)
theorem wt_X4_isBits : Cond.static yX4_isBits ∈ tb := tb_at 671 (by decide +kernel) (by decide +kernel)
theorem wv_X4_isBits : Cond.initialized yX4_isBits.cls ∈ tb := tb_at 48 (by decide +kernel) (by decide +kernel)
theorem wz_X4_isBits : yX4_isBits.cls ≠ "java/lang/invoke/MethodHandle" ∧ yX4_isBits.cls ≠ "java/lang/invoke/VarHandle" ∧ (parseMethodDescriptor yX4_isBits.desc).map (fun d => d.parameters.length) = some 1 := by decide +kernel
theorem wf_X6_49 : Cond.fieldLink RX6 49 (TX6 5).1 (TX6 5).2.1 (TX6 5).2.2.1 ∈ tb := tb_at 271 (by decide +kernel) (by decide +kernel)
theorem wm_X6_215 : Cond.methodLink RX6 215 yX4_renew ∈ tb := tb_at 673 (by decide +kernel) (by decide +kernel)
theorem wc_X4_renew : Cond.code yX4_renew cX4_renew 4 (some .int) ∈ tb := tb_at 676 (by decide +kernel) (by decide +kernel)
theorem wi_X4_renew : Cond.instanceMethod yX4_renew ∈ tb := tb_at 674 (by decide +kernel) (by decide +kernel)
theorem we_X4_renew : Cond.selects RX4 yX4_renew yX4_renew ∈ tb := tb_at 675 (by decide +kernel) (by decide +kernel)
theorem wy_X4_renew : yX4_renew.cls = RX4 ∧ yX4_renew.cls ≠ "java/lang/invoke/MethodHandle" ∧ yX4_renew.cls ≠ "java/lang/invoke/VarHandle" ∧ (parseMethodDescriptor yX4_renew.desc).map (fun d => d.parameters.length) = some 3 := by decide +kernel
theorem wm_X6_218 : Cond.methodLink RX6 218 yX4_isMissing ∈ tb := tb_at 682 (by decide +kernel) (by decide +kernel)
theorem wc_X4_isMissing : Cond.code yX4_isMissing cX4_isMissing 2 (some .boolean) ∈ tb := tb_at 685 (by decide +kernel) (by decide +kernel)
theorem wi_X4_isMissing : Cond.instanceMethod yX4_isMissing ∈ tb := tb_at 683 (by decide +kernel) (by decide +kernel)
theorem we_X4_isMissing : Cond.selects RX4 yX4_isMissing yX4_isMissing ∈ tb := tb_at 684 (by decide +kernel) (by decide +kernel)
theorem wy_X4_isMissing : yX4_isMissing.cls = RX4 ∧ yX4_isMissing.cls ≠ "java/lang/invoke/MethodHandle" ∧ yX4_isMissing.cls ≠ "java/lang/invoke/VarHandle" ∧ (parseMethodDescriptor yX4_isMissing.desc).map (fun d => d.parameters.length) = some 1 := by decide +kernel
theorem wf_X6_222 : Cond.fieldLink RX6 222 (TX4 1).1 (TX4 1).2.1 (TX4 1).2.2.1 ∈ tb := tb_at 256 (by decide +kernel) (by decide +kernel)
theorem wm_X6_223 : Cond.methodLink RX6 223 yX4_write ∈ tb := tb_at 687 (by decide +kernel) (by decide +kernel)
theorem wc_X4_write : Cond.code yX4_write cX4_write 4 none ∈ tb := tb_at 690 (by decide +kernel) (by decide +kernel)
theorem wi_X4_write : Cond.instanceMethod yX4_write ∈ tb := tb_at 688 (by decide +kernel) (by decide +kernel)
theorem we_X4_write : Cond.selects RX4 yX4_write yX4_write ∈ tb := tb_at 689 (by decide +kernel) (by decide +kernel)
theorem wy_X4_write : yX4_write.cls = RX4 ∧ yX4_write.cls ≠ "java/lang/invoke/MethodHandle" ∧ yX4_write.cls ≠ "java/lang/invoke/VarHandle" ∧ (parseMethodDescriptor yX4_write.desc).map (fun d => d.parameters.length) = some 3 := by decide +kernel
theorem wk_X6_221 : Cond.constant RX6 221 (-100002 : Int32) ∈ tb := tb_at 686 (by decide +kernel) (by decide +kernel)
theorem wf_X6_227 : Cond.fieldLink RX6 227 (TX4 0).1 (TX4 0).2.1 (TX4 0).2.2.1 ∈ tb := tb_at 254 (by decide +kernel) (by decide +kernel)
theorem wm_X6_230 : Cond.methodLink RX6 230 yX4_has ∈ tb := tb_at 695 (by decide +kernel) (by decide +kernel)
theorem wc_X4_has : Cond.code yX4_has cX4_has 4 (some .boolean) ∈ tb := tb_at 698 (by decide +kernel) (by decide +kernel)
theorem wi_X4_has : Cond.instanceMethod yX4_has ∈ tb := tb_at 696 (by decide +kernel) (by decide +kernel)
theorem we_X4_has : Cond.selects RX4 yX4_has yX4_has ∈ tb := tb_at 697 (by decide +kernel) (by decide +kernel)
theorem wy_X4_has : yX4_has.cls = RX4 ∧ yX4_has.cls ≠ "java/lang/invoke/MethodHandle" ∧ yX4_has.cls ≠ "java/lang/invoke/VarHandle" ∧ (parseMethodDescriptor yX4_has.desc).map (fun d => d.parameters.length) = some 3 := by decide +kernel
theorem wf_X6_234 : Cond.fieldLink RX6 234 (TX4 2).1 (TX4 2).2.1 (TX4 2).2.2.1 ∈ tb := tb_at 258 (by decide +kernel) (by decide +kernel)
theorem wm_X6_238 : Cond.methodLink RX6 238 arraycopyName ∈ tb := tb_at 699 (by decide +kernel) (by decide +kernel)
theorem wm_X3_44 : Cond.methodLink RX3 44 yX3_add ∈ tb := tb_at 712 (by decide +kernel) (by decide +kernel)
theorem wm_X6_244 : Cond.methodLink RX6 244 yX4_hasAbove ∈ tb := tb_at 704 (by decide +kernel) (by decide +kernel)
theorem wc_X4_hasAbove : Cond.code yX4_hasAbove cX4_hasAbove 4 (some .boolean) ∈ tb := tb_at 707 (by decide +kernel) (by decide +kernel)
theorem wi_X4_hasAbove : Cond.instanceMethod yX4_hasAbove ∈ tb := tb_at 705 (by decide +kernel) (by decide +kernel)
theorem we_X4_hasAbove : Cond.selects RX4 yX4_hasAbove yX4_hasAbove ∈ tb := tb_at 706 (by decide +kernel) (by decide +kernel)
theorem wy_X4_hasAbove : yX4_hasAbove.cls = RX4 ∧ yX4_hasAbove.cls ≠ "java/lang/invoke/MethodHandle" ∧ yX4_hasAbove.cls ≠ "java/lang/invoke/VarHandle" ∧ (parseMethodDescriptor yX4_hasAbove.desc).map (fun d => d.parameters.length) = some 2 := by decide +kernel
theorem wm_X6_247 : Cond.methodLink RX6 247 yX3_takeTune ∈ tb := tb_at 708 (by decide +kernel) (by decide +kernel)
theorem wc_X3_takeTune : Cond.code yX3_takeTune cX3_takeTune 5 (some .int) ∈ tb := tb_at 711 (by decide +kernel) (by decide +kernel)
theorem wi_X3_takeTune : Cond.instanceMethod yX3_takeTune ∈ tb := tb_at 709 (by decide +kernel) (by decide +kernel)
theorem we_X3_takeTune : Cond.selects RX3 yX3_takeTune yX3_takeTune ∈ tb := tb_at 710 (by decide +kernel) (by decide +kernel)
theorem wy_X3_takeTune : yX3_takeTune.cls = RX3 ∧ yX3_takeTune.cls ≠ "java/lang/invoke/MethodHandle" ∧ yX3_takeTune.cls ≠ "java/lang/invoke/VarHandle" ∧ (parseMethodDescriptor yX3_takeTune.desc).map (fun d => d.parameters.length) = some 2 := by decide +kernel
theorem wm_X5_78 : Cond.methodLink RX5 78 yX5_forgetLength ∈ tb := tb_at 725 (by decide +kernel) (by decide +kernel)
theorem wm_X5_81 : Cond.methodLink RX5 81 yX5_forgetStart ∈ tb := tb_at 726 (by decide +kernel) (by decide +kernel)
theorem wf_X6_251 : Cond.fieldLink RX6 251 (TX2 2).1 (TX2 2).2.1 (TX2 2).2.2.1 ∈ tb := tb_at 130 (by decide +kernel) (by decide +kernel)
theorem wm_X6_254 : Cond.methodLink RX6 254 yX2_giveBack ∈ tb := tb_at 717 (by decide +kernel) (by decide +kernel)
theorem wc_X2_giveBack : Cond.code yX2_giveBack cX2_giveBack 2 none ∈ tb := tb_at 720 (by decide +kernel) (by decide +kernel)
theorem wi_X2_giveBack : Cond.instanceMethod yX2_giveBack ∈ tb := tb_at 718 (by decide +kernel) (by decide +kernel)
theorem we_X2_giveBack : Cond.selects RX2 yX2_giveBack yX2_giveBack ∈ tb := tb_at 719 (by decide +kernel) (by decide +kernel)
theorem wy_X2_giveBack : yX2_giveBack.cls = RX2 ∧ yX2_giveBack.cls ≠ "java/lang/invoke/MethodHandle" ∧ yX2_giveBack.cls ≠ "java/lang/invoke/VarHandle" ∧ (parseMethodDescriptor yX2_giveBack.desc).map (fun d => d.parameters.length) = some 1 := by decide +kernel
theorem wm_X6_257 : Cond.methodLink RX6 257 yX5_forgetAll ∈ tb := tb_at 721 (by decide +kernel) (by decide +kernel)
theorem wc_X5_forgetAll : Cond.code yX5_forgetAll cX5_forgetAll 1 none ∈ tb := tb_at 724 (by decide +kernel) (by decide +kernel)
theorem wi_X5_forgetAll : Cond.instanceMethod yX5_forgetAll ∈ tb := tb_at 722 (by decide +kernel) (by decide +kernel)
theorem we_X5_forgetAll : Cond.selects RX5 yX5_forgetAll yX5_forgetAll ∈ tb := tb_at 723 (by decide +kernel) (by decide +kernel)
theorem wy_X5_forgetAll : yX5_forgetAll.cls = RX5 ∧ yX5_forgetAll.cls ≠ "java/lang/invoke/MethodHandle" ∧ yX5_forgetAll.cls ≠ "java/lang/invoke/VarHandle" ∧ (parseMethodDescriptor yX5_forgetAll.desc).map (fun d => d.parameters.length) = some 0 := by decide +kernel
theorem wm_X6_260 : Cond.methodLink RX6 260 yX3_countMarks ∈ tb := tb_at 731 (by decide +kernel) (by decide +kernel)
theorem wc_X3_countMarks : Cond.code yX3_countMarks cX3_countMarks 3 (some .int) ∈ tb := tb_at 734 (by decide +kernel) (by decide +kernel)
theorem wi_X3_countMarks : Cond.instanceMethod yX3_countMarks ∈ tb := tb_at 732 (by decide +kernel) (by decide +kernel)
theorem we_X3_countMarks : Cond.selects RX3 yX3_countMarks yX3_countMarks ∈ tb := tb_at 733 (by decide +kernel) (by decide +kernel)
theorem wy_X3_countMarks : yX3_countMarks.cls = RX3 ∧ yX3_countMarks.cls ≠ "java/lang/invoke/MethodHandle" ∧ yX3_countMarks.cls ≠ "java/lang/invoke/VarHandle" ∧ (parseMethodDescriptor yX3_countMarks.desc).map (fun d => d.parameters.length) = some 0 := by decide +kernel
theorem wf_X7_56 : Cond.fieldLink RX7 56 (TX7 6).1 (TX7 6).2.1 (TX7 6).2.2.1 ∈ tb := tb_at 747 (by decide +kernel) (by decide +kernel)
theorem wm_X7_60 : Cond.methodLink RX7 60 yX7_isIn ∈ tb := tb_at 809 (by decide +kernel) (by decide +kernel)
theorem wc_X7_isIn : Cond.code yX7_isIn cX7_isIn 3 (some .boolean) ∈ tb := tb_at 811 (by decide +kernel) (by decide +kernel)
theorem wn_X7 : Cond.initialized RX7 ∈ tb := tb_at 49 (by decide +kernel) (by decide +kernel)
theorem wt_X7_isIn : Cond.static yX7_isIn ∈ tb := tb_at 810 (by decide +kernel) (by decide +kernel)
theorem wv_X7_isIn : Cond.initialized yX7_isIn.cls ∈ tb := tb_at 49 (by decide +kernel) (by decide +kernel)
theorem wz_X7_isIn : yX7_isIn.cls ≠ "java/lang/invoke/MethodHandle" ∧ yX7_isIn.cls ≠ "java/lang/invoke/VarHandle" ∧ (parseMethodDescriptor yX7_isIn.desc).map (fun d => d.parameters.length) = some 3 := by decide +kernel
theorem wf_X7_7 : Cond.fieldLink RX7 7 (TX7 0).1 (TX7 0).2.1 (TX7 0).2.2.1 ∈ tb := tb_at 741 (by decide +kernel) (by decide +kernel)
theorem wm_X7_64 : Cond.methodLink RX7 64 yX7_isBeat ∈ tb := tb_at 825 (by decide +kernel) (by decide +kernel)
theorem wc_X7_isBeat : Cond.code yX7_isBeat cX7_isBeat 1 (some .boolean) ∈ tb := tb_at 827 (by decide +kernel) (by decide +kernel)
theorem wt_X7_isBeat : Cond.static yX7_isBeat ∈ tb := tb_at 826 (by decide +kernel) (by decide +kernel)
theorem wv_X7_isBeat : Cond.initialized yX7_isBeat.cls ∈ tb := tb_at 49 (by decide +kernel) (by decide +kernel)
theorem wz_X7_isBeat : yX7_isBeat.cls ≠ "java/lang/invoke/MethodHandle" ∧ yX7_isBeat.cls ≠ "java/lang/invoke/VarHandle" ∧ (parseMethodDescriptor yX7_isBeat.desc).map (fun d => d.parameters.length) = some 1 := by decide +kernel
theorem wf_X7_68 : Cond.fieldLink RX7 68 (TX7 2).1 (TX7 2).2.1 (TX7 2).2.2.1 ∈ tb := tb_at 743 (by decide +kernel) (by decide +kernel)
theorem wf_X7_13 : Cond.fieldLink RX7 13 (TX7 1).1 (TX7 1).2.1 (TX7 1).2.2.1 ∈ tb := tb_at 742 (by decide +kernel) (by decide +kernel)
theorem wk_X7_71 : Cond.constant RX7 71 (-100006 : Int32) ∈ tb := tb_at 800 (by decide +kernel) (by decide +kernel)
theorem wm_X7_72 : Cond.methodLink RX7 72 yX7_finding ∈ tb := tb_at 801 (by decide +kernel) (by decide +kernel)
theorem wc_X7_finding : Cond.code yX7_finding cX7_finding 2 (some .int) ∈ tb := tb_at 804 (by decide +kernel) (by decide +kernel)
theorem wi_X7_finding : Cond.instanceMethod yX7_finding ∈ tb := tb_at 803 (by decide +kernel) (by decide +kernel)
theorem we_X7_finding : Cond.selects RX7 yX7_finding yX7_finding ∈ tb := tb_at 22 (by decide +kernel) (by decide +kernel)
theorem wy_X7_finding : yX7_finding.cls = RX7 ∧ yX7_finding.cls ≠ "java/lang/invoke/MethodHandle" ∧ yX7_finding.cls ≠ "java/lang/invoke/VarHandle" ∧ (parseMethodDescriptor yX7_finding.desc).map (fun d => d.parameters.length) = some 1 := by decide +kernel
theorem wm_X7_76 : Cond.methodLink RX7 76 yX7_keep ∈ tb := tb_at 816 (by decide +kernel) (by decide +kernel)
theorem wc_X7_keep : Cond.code yX7_keep cX7_keep 2 none ∈ tb := tb_at 819 (by decide +kernel) (by decide +kernel)
theorem wi_X7_keep : Cond.instanceMethod yX7_keep ∈ tb := tb_at 818 (by decide +kernel) (by decide +kernel)
theorem we_X7_keep : Cond.selects RX7 yX7_keep yX7_keep ∈ tb := tb_at 24 (by decide +kernel) (by decide +kernel)
theorem wy_X7_keep : yX7_keep.cls = RX7 ∧ yX7_keep.cls ≠ "java/lang/invoke/MethodHandle" ∧ yX7_keep.cls ≠ "java/lang/invoke/VarHandle" ∧ (parseMethodDescriptor yX7_keep.desc).map (fun d => d.parameters.length) = some 0 := by decide +kernel
theorem wk_X7_83 : Cond.constant RX7 83 (-100001 : Int32) ∈ tb := tb_at 820 (by decide +kernel) (by decide +kernel)
theorem wm_X7_79 : Cond.methodLink RX7 79 yX7_becomes ∈ tb := tb_at 812 (by decide +kernel) (by decide +kernel)
theorem wc_X7_becomes : Cond.code yX7_becomes cX7_becomes 4 (some .int) ∈ tb := tb_at 815 (by decide +kernel) (by decide +kernel)
theorem wi_X7_becomes : Cond.instanceMethod yX7_becomes ∈ tb := tb_at 814 (by decide +kernel) (by decide +kernel)
theorem we_X7_becomes : Cond.selects RX7 yX7_becomes yX7_becomes ∈ tb := tb_at 23 (by decide +kernel) (by decide +kernel)
theorem wy_X7_becomes : yX7_becomes.cls = RX7 ∧ yX7_becomes.cls ≠ "java/lang/invoke/MethodHandle" ∧ yX7_becomes.cls ≠ "java/lang/invoke/VarHandle" ∧ (parseMethodDescriptor yX7_becomes.desc).map (fun d => d.parameters.length) = some 2 := by decide +kernel
theorem wm_X7_85 : Cond.methodLink RX7 85 yX7_lay ∈ tb := tb_at 829 (by decide +kernel) (by decide +kernel)
theorem wc_X7_lay : Cond.code yX7_lay cX7_lay 7 none ∈ tb := tb_at 832 (by decide +kernel) (by decide +kernel)
theorem wi_X7_lay : Cond.instanceMethod yX7_lay ∈ tb := tb_at 831 (by decide +kernel) (by decide +kernel)
theorem we_X7_lay : Cond.selects RX7 yX7_lay yX7_lay ∈ tb := tb_at 25 (by decide +kernel) (by decide +kernel)
theorem wy_X7_lay : yX7_lay.cls = RX7 ∧ yX7_lay.cls ≠ "java/lang/invoke/MethodHandle" ∧ yX7_lay.cls ≠ "java/lang/invoke/VarHandle" ∧ (parseMethodDescriptor yX7_lay.desc).map (fun d => d.parameters.length) = some 5 := by decide +kernel
theorem wk_X7_84 : Cond.constant RX7 84 (-100005 : Int32) ∈ tb := tb_at 828 (by decide +kernel) (by decide +kernel)
theorem wm_X7_89 : Cond.methodLink RX7 89 yX7_isNote ∈ tb := tb_at 841 (by decide +kernel) (by decide +kernel)
theorem wc_X7_isNote : Cond.code yX7_isNote cX7_isNote 3 (some .boolean) ∈ tb := tb_at 844 (by decide +kernel) (by decide +kernel)
theorem wi_X7_isNote : Cond.instanceMethod yX7_isNote ∈ tb := tb_at 843 (by decide +kernel) (by decide +kernel)
theorem we_X7_isNote : Cond.selects RX7 yX7_isNote yX7_isNote ∈ tb := tb_at 26 (by decide +kernel) (by decide +kernel)
theorem wy_X7_isNote : yX7_isNote.cls = RX7 ∧ yX7_isNote.cls ≠ "java/lang/invoke/MethodHandle" ∧ yX7_isNote.cls ≠ "java/lang/invoke/VarHandle" ∧ (parseMethodDescriptor yX7_isNote.desc).map (fun d => d.parameters.length) = some 2 := by decide +kernel
theorem wm_X7_93 : Cond.methodLink RX7 93 yX7_note ∈ tb := tb_at 845 (by decide +kernel) (by decide +kernel)
theorem wc_X7_note : Cond.code yX7_note cX7_note 4 (some .int) ∈ tb := tb_at 848 (by decide +kernel) (by decide +kernel)
theorem wi_X7_note : Cond.instanceMethod yX7_note ∈ tb := tb_at 847 (by decide +kernel) (by decide +kernel)
theorem we_X7_note : Cond.selects RX7 yX7_note yX7_note ∈ tb := tb_at 27 (by decide +kernel) (by decide +kernel)
theorem wy_X7_note : yX7_note.cls = RX7 ∧ yX7_note.cls ≠ "java/lang/invoke/MethodHandle" ∧ yX7_note.cls ≠ "java/lang/invoke/VarHandle" ∧ (parseMethodDescriptor yX7_note.desc).map (fun d => d.parameters.length) = some 3 := by decide +kernel
theorem wk_X7_97 : Cond.constant RX7 97 (-100004 : Int32) ∈ tb := tb_at 849 (by decide +kernel) (by decide +kernel)
theorem wk_X7_98 : Cond.constant RX7 98 (-100003 : Int32) ∈ tb := tb_at 858 (by decide +kernel) (by decide +kernel)
theorem wm_X7_99 : Cond.methodLink RX7 99 yX7_notes ∈ tb := tb_at 859 (by decide +kernel) (by decide +kernel)
theorem wc_X7_notes : Cond.code yX7_notes cX7_notes 3 (some .int) ∈ tb := tb_at 862 (by decide +kernel) (by decide +kernel)
theorem wi_X7_notes : Cond.instanceMethod yX7_notes ∈ tb := tb_at 861 (by decide +kernel) (by decide +kernel)
theorem we_X7_notes : Cond.selects RX7 yX7_notes yX7_notes ∈ tb := tb_at 28 (by decide +kernel) (by decide +kernel)
theorem wy_X7_notes : yX7_notes.cls = RX7 ∧ yX7_notes.cls ≠ "java/lang/invoke/MethodHandle" ∧ yX7_notes.cls ≠ "java/lang/invoke/VarHandle" ∧ (parseMethodDescriptor yX7_notes.desc).map (fun d => d.parameters.length) = some 0 := by decide +kernel
theorem wm_X7_103 : Cond.methodLink RX7 103 yX7_isPedal ∈ tb := tb_at 867 (by decide +kernel) (by decide +kernel)
theorem wc_X7_isPedal : Cond.code yX7_isPedal cX7_isPedal 1 (some .boolean) ∈ tb := tb_at 869 (by decide +kernel) (by decide +kernel)
theorem wt_X7_isPedal : Cond.static yX7_isPedal ∈ tb := tb_at 868 (by decide +kernel) (by decide +kernel)
theorem wv_X7_isPedal : Cond.initialized yX7_isPedal.cls ∈ tb := tb_at 49 (by decide +kernel) (by decide +kernel)
theorem wz_X7_isPedal : yX7_isPedal.cls ≠ "java/lang/invoke/MethodHandle" ∧ yX7_isPedal.cls ≠ "java/lang/invoke/VarHandle" ∧ (parseMethodDescriptor yX7_isPedal.desc).map (fun d => d.parameters.length) = some 1 := by decide +kernel
theorem ws_X7_106 : Cond.fieldLink RX7 106 (sT 8).1 (sT 8).2.1 "[I" ∈ tb := tb_at 889 (by decide +kernel) (by decide +kernel)
theorem ws_X7_109 : Cond.fieldLink RX7 109 (sT 7).1 (sT 7).2.1 "[I" ∈ tb := tb_at 884 (by decide +kernel) (by decide +kernel)
theorem wm_X7_112 : Cond.methodLink RX7 112 yX7_standOf ∈ tb := tb_at 886 (by decide +kernel) (by decide +kernel)
theorem wc_X7_standOf : Cond.code yX7_standOf cX7_standOf 2 (some .int) ∈ tb := tb_at 888 (by decide +kernel) (by decide +kernel)
theorem wt_X7_standOf : Cond.static yX7_standOf ∈ tb := tb_at 887 (by decide +kernel) (by decide +kernel)
theorem wv_X7_standOf : Cond.initialized yX7_standOf.cls ∈ tb := tb_at 49 (by decide +kernel) (by decide +kernel)
theorem wz_X7_standOf : yX7_standOf.cls ≠ "java/lang/invoke/MethodHandle" ∧ yX7_standOf.cls ≠ "java/lang/invoke/VarHandle" ∧ (parseMethodDescriptor yX7_standOf.desc).map (fun d => d.parameters.length) = some 2 := by decide +kernel
theorem wm_X7_115 : Cond.methodLink RX7 115 yX7_isDiagram ∈ tb := tb_at 878 (by decide +kernel) (by decide +kernel)
theorem wc_X7_isDiagram : Cond.code yX7_isDiagram cX7_isDiagram 1 (some .boolean) ∈ tb := tb_at 880 (by decide +kernel) (by decide +kernel)
theorem wt_X7_isDiagram : Cond.static yX7_isDiagram ∈ tb := tb_at 879 (by decide +kernel) (by decide +kernel)
theorem wv_X7_isDiagram : Cond.initialized yX7_isDiagram.cls ∈ tb := tb_at 49 (by decide +kernel) (by decide +kernel)
theorem wz_X7_isDiagram : yX7_isDiagram.cls ≠ "java/lang/invoke/MethodHandle" ∧ yX7_isDiagram.cls ≠ "java/lang/invoke/VarHandle" ∧ (parseMethodDescriptor yX7_isDiagram.desc).map (fun d => d.parameters.length) = some 1 := by decide +kernel
theorem wm_X7_118 : Cond.methodLink RX7 118 yX7_pitchOf ∈ tb := tb_at 881 (by decide +kernel) (by decide +kernel)
theorem wc_X7_pitchOf : Cond.code yX7_pitchOf cX7_pitchOf 2 (some .int) ∈ tb := tb_at 883 (by decide +kernel) (by decide +kernel)
theorem wt_X7_pitchOf : Cond.static yX7_pitchOf ∈ tb := tb_at 882 (by decide +kernel) (by decide +kernel)
theorem wv_X7_pitchOf : Cond.initialized yX7_pitchOf.cls ∈ tb := tb_at 49 (by decide +kernel) (by decide +kernel)
theorem wz_X7_pitchOf : yX7_pitchOf.cls ≠ "java/lang/invoke/MethodHandle" ∧ yX7_pitchOf.cls ≠ "java/lang/invoke/VarHandle" ∧ (parseMethodDescriptor yX7_pitchOf.desc).map (fun d => d.parameters.length) = some 2 := by decide +kernel
theorem wm_X7_121 : Cond.methodLink RX7 121 yX7_stringOf ∈ tb := tb_at 895 (by decide +kernel) (by decide +kernel)
theorem wc_X7_stringOf : Cond.code yX7_stringOf cX7_stringOf 10 (some .int) ∈ tb := tb_at 898 (by decide +kernel) (by decide +kernel)
theorem wi_X7_stringOf : Cond.instanceMethod yX7_stringOf ∈ tb := tb_at 897 (by decide +kernel) (by decide +kernel)
theorem we_X7_stringOf : Cond.selects RX7 yX7_stringOf yX7_stringOf ∈ tb := tb_at 29 (by decide +kernel) (by decide +kernel)
theorem wy_X7_stringOf : yX7_stringOf.cls = RX7 ∧ yX7_stringOf.cls ≠ "java/lang/invoke/MethodHandle" ∧ yX7_stringOf.cls ≠ "java/lang/invoke/VarHandle" ∧ (parseMethodDescriptor yX7_stringOf.desc).map (fun d => d.parameters.length) = some 3 := by decide +kernel
theorem wm_X7_124 : Cond.methodLink RX7 124 yX7_doesFor ∈ tb := tb_at 903 (by decide +kernel) (by decide +kernel)
theorem wc_X7_doesFor : Cond.code yX7_doesFor cX7_doesFor 7 (some .boolean) ∈ tb := tb_at 906 (by decide +kernel) (by decide +kernel)
theorem wi_X7_doesFor : Cond.instanceMethod yX7_doesFor ∈ tb := tb_at 905 (by decide +kernel) (by decide +kernel)
theorem we_X7_doesFor : Cond.selects RX7 yX7_doesFor yX7_doesFor ∈ tb := tb_at 30 (by decide +kernel) (by decide +kernel)
theorem wy_X7_doesFor : yX7_doesFor.cls = RX7 ∧ yX7_doesFor.cls ≠ "java/lang/invoke/MethodHandle" ∧ yX7_doesFor.cls ≠ "java/lang/invoke/VarHandle" ∧ (parseMethodDescriptor yX7_doesFor.desc).map (fun d => d.parameters.length) = some 2 := by decide +kernel
theorem wm_X7_127 : Cond.methodLink RX7 127 yX7_ringing ∈ tb := tb_at 925 (by decide +kernel) (by decide +kernel)
theorem wc_X7_ringing : Cond.code yX7_ringing cX7_ringing 5 (some .int) ∈ tb := tb_at 928 (by decide +kernel) (by decide +kernel)
theorem wi_X7_ringing : Cond.instanceMethod yX7_ringing ∈ tb := tb_at 927 (by decide +kernel) (by decide +kernel)
theorem we_X7_ringing : Cond.selects RX7 yX7_ringing yX7_ringing ∈ tb := tb_at 33 (by decide +kernel) (by decide +kernel)
theorem wy_X7_ringing : yX7_ringing.cls = RX7 ∧ yX7_ringing.cls ≠ "java/lang/invoke/MethodHandle" ∧ yX7_ringing.cls ≠ "java/lang/invoke/VarHandle" ∧ (parseMethodDescriptor yX7_ringing.desc).map (fun d => d.parameters.length) = some 2 := by decide +kernel
theorem wf_X7_130 : Cond.fieldLink RX7 130 (TX7 11).1 (TX7 11).2.1 (TX7 11).2.2.1 ∈ tb := tb_at 752 (by decide +kernel) (by decide +kernel)
theorem ws_X7_133 : Cond.fieldLink RX7 133 (sT 9).1 (sT 9).2.1 "[I" ∈ tb := tb_at 929 (by decide +kernel) (by decide +kernel)
theorem wm_X7_136 : Cond.methodLink RX7 136 yX7_moved ∈ tb := tb_at 931 (by decide +kernel) (by decide +kernel)
theorem wc_X7_moved : Cond.code yX7_moved cX7_moved 5 (some .int) ∈ tb := tb_at 933 (by decide +kernel) (by decide +kernel)
theorem wt_X7_moved : Cond.static yX7_moved ∈ tb := tb_at 932 (by decide +kernel) (by decide +kernel)
theorem wv_X7_moved : Cond.initialized yX7_moved.cls ∈ tb := tb_at 49 (by decide +kernel) (by decide +kernel)
theorem wz_X7_moved : yX7_moved.cls ≠ "java/lang/invoke/MethodHandle" ∧ yX7_moved.cls ≠ "java/lang/invoke/VarHandle" ∧ (parseMethodDescriptor yX7_moved.desc).map (fun d => d.parameters.length) = some 4 := by decide +kernel
theorem wf_X7_31 : Cond.fieldLink RX7 31 (TX7 9).1 (TX7 9).2.1 (TX7 9).2.2.1 ∈ tb := tb_at 750 (by decide +kernel) (by decide +kernel)
theorem wf_X7_34 : Cond.fieldLink RX7 34 (TX7 10).1 (TX7 10).2.1 (TX7 10).2.2.1 ∈ tb := tb_at 751 (by decide +kernel) (by decide +kernel)
theorem wk_X7_140 : Cond.constant RX7 140 (100000 : Int32) ∈ tb := tb_at 919 (by decide +kernel) (by decide +kernel)
theorem wk_X7_141 : Cond.constant RX7 141 (100001 : Int32) ∈ tb := tb_at 920 (by decide +kernel) (by decide +kernel)
theorem wm_X7_142 : Cond.methodLink RX7 142 yX7_tellNext ∈ tb := tb_at 921 (by decide +kernel) (by decide +kernel)
theorem wc_X7_tellNext : Cond.code yX7_tellNext cX7_tellNext 8 none ∈ tb := tb_at 924 (by decide +kernel) (by decide +kernel)
theorem wi_X7_tellNext : Cond.instanceMethod yX7_tellNext ∈ tb := tb_at 923 (by decide +kernel) (by decide +kernel)
theorem we_X7_tellNext : Cond.selects RX7 yX7_tellNext yX7_tellNext ∈ tb := tb_at 32 (by decide +kernel) (by decide +kernel)
theorem wy_X7_tellNext : yX7_tellNext.cls = RX7 ∧ yX7_tellNext.cls ≠ "java/lang/invoke/MethodHandle" ∧ yX7_tellNext.cls ≠ "java/lang/invoke/VarHandle" ∧ (parseMethodDescriptor yX7_tellNext.desc).map (fun d => d.parameters.length) = some 2 := by decide +kernel
theorem wf_X7_25 : Cond.fieldLink RX7 25 (TX7 7).1 (TX7 7).2.1 (TX7 7).2.2.1 ∈ tb := tb_at 748 (by decide +kernel) (by decide +kernel)
theorem wf_X7_28 : Cond.fieldLink RX7 28 (TX7 8).1 (TX7 8).2.1 (TX7 8).2.2.1 ∈ tb := tb_at 749 (by decide +kernel) (by decide +kernel)
theorem wk_X7_146 : Cond.constant RX7 146 (1000000 : Int32) ∈ tb := tb_at 934 (by decide +kernel) (by decide +kernel)
theorem wm_X7_147 : Cond.methodLink RX7 147 yX7_ahead ∈ tb := tb_at 935 (by decide +kernel) (by decide +kernel)
theorem wc_X7_ahead : Cond.code yX7_ahead cX7_ahead 6 (some .int) ∈ tb := tb_at 938 (by decide +kernel) (by decide +kernel)
theorem wi_X7_ahead : Cond.instanceMethod yX7_ahead ∈ tb := tb_at 937 (by decide +kernel) (by decide +kernel)
theorem we_X7_ahead : Cond.selects RX7 yX7_ahead yX7_ahead ∈ tb := tb_at 34 (by decide +kernel) (by decide +kernel)
theorem wy_X7_ahead : yX7_ahead.cls = RX7 ∧ yX7_ahead.cls ≠ "java/lang/invoke/MethodHandle" ∧ yX7_ahead.cls ≠ "java/lang/invoke/VarHandle" ∧ (parseMethodDescriptor yX7_ahead.desc).map (fun d => d.parameters.length) = some 1 := by decide +kernel
theorem wm_X7_150 : Cond.methodLink RX7 150 yX7_tell ∈ tb := tb_at 915 (by decide +kernel) (by decide +kernel)
theorem wc_X7_tell : Cond.code yX7_tell cX7_tell 9 (some .int) ∈ tb := tb_at 918 (by decide +kernel) (by decide +kernel)
theorem wi_X7_tell : Cond.instanceMethod yX7_tell ∈ tb := tb_at 917 (by decide +kernel) (by decide +kernel)
theorem we_X7_tell : Cond.selects RX7 yX7_tell yX7_tell ∈ tb := tb_at 31 (by decide +kernel) (by decide +kernel)
theorem wy_X7_tell : yX7_tell.cls = RX7 ∧ yX7_tell.cls ≠ "java/lang/invoke/MethodHandle" ∧ yX7_tell.cls ≠ "java/lang/invoke/VarHandle" ∧ (parseMethodDescriptor yX7_tell.desc).map (fun d => d.parameters.length) = some 0 := by decide +kernel
theorem wf_X7_37 : Cond.fieldLink RX7 37 (TX7 12).1 (TX7 12).2.1 (TX7 12).2.2.1 ∈ tb := tb_at 753 (by decide +kernel) (by decide +kernel)
theorem wm_X7_153 : Cond.methodLink RX7 153 yX7_isPlayed ∈ tb := tb_at 943 (by decide +kernel) (by decide +kernel)
theorem wc_X7_isPlayed : Cond.code yX7_isPlayed cX7_isPlayed 2 (some .boolean) ∈ tb := tb_at 946 (by decide +kernel) (by decide +kernel)
theorem wi_X7_isPlayed : Cond.instanceMethod yX7_isPlayed ∈ tb := tb_at 945 (by decide +kernel) (by decide +kernel)
theorem we_X7_isPlayed : Cond.selects RX7 yX7_isPlayed yX7_isPlayed ∈ tb := tb_at 35 (by decide +kernel) (by decide +kernel)
theorem wy_X7_isPlayed : yX7_isPlayed.cls = RX7 ∧ yX7_isPlayed.cls ≠ "java/lang/invoke/MethodHandle" ∧ yX7_isPlayed.cls ≠ "java/lang/invoke/VarHandle" ∧ (parseMethodDescriptor yX7_isPlayed.desc).map (fun d => d.parameters.length) = some 1 := by decide +kernel
theorem wm_X7_156 : Cond.methodLink RX7 156 yX7_tellWay ∈ tb := tb_at 947 (by decide +kernel) (by decide +kernel)
theorem wc_X7_tellWay : Cond.code yX7_tellWay cX7_tellWay 7 (some .int) ∈ tb := tb_at 950 (by decide +kernel) (by decide +kernel)
theorem wi_X7_tellWay : Cond.instanceMethod yX7_tellWay ∈ tb := tb_at 949 (by decide +kernel) (by decide +kernel)
theorem we_X7_tellWay : Cond.selects RX7 yX7_tellWay yX7_tellWay ∈ tb := tb_at 36 (by decide +kernel) (by decide +kernel)
theorem wy_X7_tellWay : yX7_tellWay.cls = RX7 ∧ yX7_tellWay.cls ≠ "java/lang/invoke/MethodHandle" ∧ yX7_tellWay.cls ≠ "java/lang/invoke/VarHandle" ∧ (parseMethodDescriptor yX7_tellWay.desc).map (fun d => d.parameters.length) = some 0 := by decide +kernel
theorem wf_X7_44 : Cond.fieldLink RX7 44 (TX7 14).1 (TX7 14).2.1 (TX7 14).2.2.1 ∈ tb := tb_at 755 (by decide +kernel) (by decide +kernel)
theorem wf_X7_40 : Cond.fieldLink RX7 40 (TX7 13).1 (TX7 13).2.1 (TX7 13).2.2.1 ∈ tb := tb_at 754 (by decide +kernel) (by decide +kernel)
theorem wf_X7_50 : Cond.fieldLink RX7 50 (TX7 16).1 (TX7 16).2.1 (TX7 16).2.2.1 ∈ tb := tb_at 757 (by decide +kernel) (by decide +kernel)
theorem wf_X7_47 : Cond.fieldLink RX7 47 (TX7 15).1 (TX7 15).2.1 (TX7 15).2.2.1 ∈ tb := tb_at 756 (by decide +kernel) (by decide +kernel)
theorem wm_X7_159 : Cond.methodLink RX7 159 yX7_canHand ∈ tb := tb_at 979 (by decide +kernel) (by decide +kernel)
theorem wc_X7_canHand : Cond.code yX7_canHand cX7_canHand 5 (some .boolean) ∈ tb := tb_at 982 (by decide +kernel) (by decide +kernel)
theorem wi_X7_canHand : Cond.instanceMethod yX7_canHand ∈ tb := tb_at 981 (by decide +kernel) (by decide +kernel)
theorem we_X7_canHand : Cond.selects RX7 yX7_canHand yX7_canHand ∈ tb := tb_at 38 (by decide +kernel) (by decide +kernel)
theorem wy_X7_canHand : yX7_canHand.cls = RX7 ∧ yX7_canHand.cls ≠ "java/lang/invoke/MethodHandle" ∧ yX7_canHand.cls ≠ "java/lang/invoke/VarHandle" ∧ (parseMethodDescriptor yX7_canHand.desc).map (fun d => d.parameters.length) = some 2 := by decide +kernel
theorem wm_X7_162 : Cond.methodLink RX7 162 yX7_splitOf ∈ tb := tb_at 975 (by decide +kernel) (by decide +kernel)
theorem wc_X7_splitOf : Cond.code yX7_splitOf cX7_splitOf 8 (some .int) ∈ tb := tb_at 978 (by decide +kernel) (by decide +kernel)
theorem wi_X7_splitOf : Cond.instanceMethod yX7_splitOf ∈ tb := tb_at 977 (by decide +kernel) (by decide +kernel)
theorem we_X7_splitOf : Cond.selects RX7 yX7_splitOf yX7_splitOf ∈ tb := tb_at 37 (by decide +kernel) (by decide +kernel)
theorem wy_X7_splitOf : yX7_splitOf.cls = RX7 ∧ yX7_splitOf.cls ≠ "java/lang/invoke/MethodHandle" ∧ yX7_splitOf.cls ≠ "java/lang/invoke/VarHandle" ∧ (parseMethodDescriptor yX7_splitOf.desc).map (fun d => d.parameters.length) = some 2 := by decide +kernel
theorem wm_X7_165 : Cond.methodLink RX7 165 yX7_isRun ∈ tb := tb_at 991 (by decide +kernel) (by decide +kernel)
theorem wc_X7_isRun : Cond.code yX7_isRun cX7_isRun 3 (some .boolean) ∈ tb := tb_at 993 (by decide +kernel) (by decide +kernel)
theorem wt_X7_isRun : Cond.static yX7_isRun ∈ tb := tb_at 992 (by decide +kernel) (by decide +kernel)
theorem wv_X7_isRun : Cond.initialized yX7_isRun.cls ∈ tb := tb_at 49 (by decide +kernel) (by decide +kernel)
theorem wz_X7_isRun : yX7_isRun.cls ≠ "java/lang/invoke/MethodHandle" ∧ yX7_isRun.cls ≠ "java/lang/invoke/VarHandle" ∧ (parseMethodDescriptor yX7_isRun.desc).map (fun d => d.parameters.length) = some 3 := by decide +kernel
theorem wm_X7_168 : Cond.methodLink RX7 168 yX7_isSheet ∈ tb := tb_at 1002 (by decide +kernel) (by decide +kernel)
theorem wc_X7_isSheet : Cond.code yX7_isSheet cX7_isSheet 1 (some .boolean) ∈ tb := tb_at 1004 (by decide +kernel) (by decide +kernel)
theorem wt_X7_isSheet : Cond.static yX7_isSheet ∈ tb := tb_at 1003 (by decide +kernel) (by decide +kernel)
theorem wv_X7_isSheet : Cond.initialized yX7_isSheet.cls ∈ tb := tb_at 49 (by decide +kernel) (by decide +kernel)
theorem wz_X7_isSheet : yX7_isSheet.cls ≠ "java/lang/invoke/MethodHandle" ∧ yX7_isSheet.cls ≠ "java/lang/invoke/VarHandle" ∧ (parseMethodDescriptor yX7_isSheet.desc).map (fun d => d.parameters.length) = some 1 := by decide +kernel
theorem wf_X7_16 : Cond.fieldLink RX7 16 (TX7 3).1 (TX7 3).2.1 (TX7 3).2.2.1 ∈ tb := tb_at 744 (by decide +kernel) (by decide +kernel)
theorem wf_X7_19 : Cond.fieldLink RX7 19 (TX7 4).1 (TX7 4).2.1 (TX7 4).2.2.1 ∈ tb := tb_at 745 (by decide +kernel) (by decide +kernel)
theorem wf_X7_22 : Cond.fieldLink RX7 22 (TX7 5).1 (TX7 5).2.1 (TX7 5).2.2.1 ∈ tb := tb_at 746 (by decide +kernel) (by decide +kernel)
theorem wk_X7_171 : Cond.constant RX7 171 (-100002 : Int32) ∈ tb := tb_at 1009 (by decide +kernel) (by decide +kernel)
theorem wm_X7_172 : Cond.methodLink RX7 172 yX7_hasPart ∈ tb := tb_at 1014 (by decide +kernel) (by decide +kernel)
theorem wc_X7_hasPart : Cond.code yX7_hasPart cX7_hasPart 4 (some .boolean) ∈ tb := tb_at 1017 (by decide +kernel) (by decide +kernel)
theorem wi_X7_hasPart : Cond.instanceMethod yX7_hasPart ∈ tb := tb_at 1016 (by decide +kernel) (by decide +kernel)
theorem we_X7_hasPart : Cond.selects RX7 yX7_hasPart yX7_hasPart ∈ tb := tb_at 39 (by decide +kernel) (by decide +kernel)
theorem wy_X7_hasPart : yX7_hasPart.cls = RX7 ∧ yX7_hasPart.cls ≠ "java/lang/invoke/MethodHandle" ∧ yX7_hasPart.cls ≠ "java/lang/invoke/VarHandle" ∧ (parseMethodDescriptor yX7_hasPart.desc).map (fun d => d.parameters.length) = some 3 := by decide +kernel
theorem wf_X7_53 : Cond.fieldLink RX7 53 (TX7 17).1 (TX7 17).2.1 (TX7 17).2.2.1 ∈ tb := tb_at 758 (by decide +kernel) (by decide +kernel)
end
