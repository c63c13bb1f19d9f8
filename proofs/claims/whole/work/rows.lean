section
-- ===== PART A: goes FIRST, ahead of the names: the tables' words, and 'selects' of the private methods out of them =====
/-- a private method of a class that the tables say can be made, by its rows of tables_1 -/
def lw_okq (q : MethodName × Nat) : Prop := (q.1.cls ≠ "java/lang/invoke/MethodHandle" ∧ q.1.cls ≠ "java/lang/invoke/VarHandle") ∧ Cond.instantiable q.1.cls q.2 ∈ tables_1 ∧ Cond.privateMethod q.1 ∈ tables_1 ∧ Cond.instanceMethod q.1 ∈ tables_1
theorem lw_p0 : lw_okq (⟨"TornCard", "powerDown", "()V"⟩, 5) := ⟨⟨by decide +kernel, by decide +kernel⟩, List.mem_of_getElem? (i := 12) (by decide +kernel), List.mem_of_getElem? (i := 264) (by decide +kernel), List.mem_of_getElem? (i := 265) (by decide +kernel)⟩
theorem lw_p1 : lw_okq (⟨"TornCard$Link", "isTooLong", "()Z"⟩, 9) := ⟨⟨by decide +kernel, by decide +kernel⟩, List.mem_of_getElem? (i := 20) (by decide +kernel), List.mem_of_getElem? (i := 327) (by decide +kernel), List.mem_of_getElem? (i := 328) (by decide +kernel)⟩
theorem lw_p2 : lw_okq (⟨"TornCard", "answerBlock", "()V"⟩, 5) := ⟨⟨by decide +kernel, by decide +kernel⟩, List.mem_of_getElem? (i := 12) (by decide +kernel), List.mem_of_getElem? (i := 335) (by decide +kernel), List.mem_of_getElem? (i := 336) (by decide +kernel)⟩
theorem lw_p3 : lw_okq (⟨"TornCard", "takeInformation", "(IZ)I"⟩, 5) := ⟨⟨by decide +kernel, by decide +kernel⟩, List.mem_of_getElem? (i := 12) (by decide +kernel), List.mem_of_getElem? (i := 354) (by decide +kernel), List.mem_of_getElem? (i := 355) (by decide +kernel)⟩
theorem lw_p4 : lw_okq (⟨"TornCard$Link", "begin", "(I)V"⟩, 9) := ⟨⟨by decide +kernel, by decide +kernel⟩, List.mem_of_getElem? (i := 20) (by decide +kernel), List.mem_of_getElem? (i := 372) (by decide +kernel), List.mem_of_getElem? (i := 373) (by decide +kernel)⟩
theorem lw_p5 : lw_okq (⟨"TornCard$Link", "finish", "()V"⟩, 9) := ⟨⟨by decide +kernel, by decide +kernel⟩, List.mem_of_getElem? (i := 20) (by decide +kernel), List.mem_of_getElem? (i := 376) (by decide +kernel), List.mem_of_getElem? (i := 377) (by decide +kernel)⟩
theorem lw_p6 : lw_okq (⟨"TornCard$Worker", "find", "()I"⟩, 6) := ⟨⟨by decide +kernel, by decide +kernel⟩, List.mem_of_getElem? (i := 62) (by decide +kernel), List.mem_of_getElem? (i := 396) (by decide +kernel), List.mem_of_getElem? (i := 397) (by decide +kernel)⟩
theorem lw_p7 : lw_okq (⟨"TornCard$Worker", "parentOfDirectory", "()I"⟩, 6) := ⟨⟨by decide +kernel, by decide +kernel⟩, List.mem_of_getElem? (i := 62) (by decide +kernel), List.mem_of_getElem? (i := 420) (by decide +kernel), List.mem_of_getElem? (i := 421) (by decide +kernel)⟩
theorem lw_p8 : lw_okq (⟨"TornCard$Worker", "read", "()I"⟩, 6) := ⟨⟨by decide +kernel, by decide +kernel⟩, List.mem_of_getElem? (i := 62) (by decide +kernel), List.mem_of_getElem? (i := 427) (by decide +kernel), List.mem_of_getElem? (i := 428) (by decide +kernel)⟩
theorem lw_p9 : lw_okq (⟨"TornCard$Worker", "testPlace", "(IZ)I"⟩, 6) := ⟨⟨by decide +kernel, by decide +kernel⟩, List.mem_of_getElem? (i := 62) (by decide +kernel), List.mem_of_getElem? (i := 444) (by decide +kernel), List.mem_of_getElem? (i := 445) (by decide +kernel)⟩
theorem lw_p10 : lw_okq (⟨"TornCard$Worker", "change", "()I"⟩, 6) := ⟨⟨by decide +kernel, by decide +kernel⟩, List.mem_of_getElem? (i := 62) (by decide +kernel), List.mem_of_getElem? (i := 464) (by decide +kernel), List.mem_of_getElem? (i := 465) (by decide +kernel)⟩
theorem lw_p11 : lw_okq (⟨"TornCard$Worker", "tell", "()I"⟩, 6) := ⟨⟨by decide +kernel, by decide +kernel⟩, List.mem_of_getElem? (i := 62) (by decide +kernel), List.mem_of_getElem? (i := 479) (by decide +kernel), List.mem_of_getElem? (i := 480) (by decide +kernel)⟩
theorem lw_p12 : lw_okq (⟨"TornCard$Worker", "compareSecret", "(I)I"⟩, 6) := ⟨⟨by decide +kernel, by decide +kernel⟩, List.mem_of_getElem? (i := 62) (by decide +kernel), List.mem_of_getElem? (i := 487) (by decide +kernel), List.mem_of_getElem? (i := 488) (by decide +kernel)⟩
theorem lw_p13 : lw_okq (⟨"TornCard$Worker", "renew", "()I"⟩, 6) := ⟨⟨by decide +kernel, by decide +kernel⟩, List.mem_of_getElem? (i := 62) (by decide +kernel), List.mem_of_getElem? (i := 492) (by decide +kernel), List.mem_of_getElem? (i := 493) (by decide +kernel)⟩
theorem lw_p14 : lw_okq (⟨"TornCard$Link", "append", "(I)V"⟩, 9) := ⟨⟨by decide +kernel, by decide +kernel⟩, List.mem_of_getElem? (i := 20) (by decide +kernel), List.mem_of_getElem? (i := 513) (by decide +kernel), List.mem_of_getElem? (i := 514) (by decide +kernel)⟩
theorem lw_p15 : lw_okq (⟨"TornCard", "takeReady", "(I)I"⟩, 5) := ⟨⟨by decide +kernel, by decide +kernel⟩, List.mem_of_getElem? (i := 12) (by decide +kernel), List.mem_of_getElem? (i := 520) (by decide +kernel), List.mem_of_getElem? (i := 521) (by decide +kernel)⟩
def lw_privs_1 : List (MethodName × Nat) := [(⟨"TornCard", "powerDown", "()V"⟩, 5), (⟨"TornCard$Link", "isTooLong", "()Z"⟩, 9), (⟨"TornCard", "answerBlock", "()V"⟩, 5), (⟨"TornCard", "takeInformation", "(IZ)I"⟩, 5), (⟨"TornCard$Link", "begin", "(I)V"⟩, 9), (⟨"TornCard$Link", "finish", "()V"⟩, 9), (⟨"TornCard$Worker", "find", "()I"⟩, 6), (⟨"TornCard$Worker", "parentOfDirectory", "()I"⟩, 6), (⟨"TornCard$Worker", "read", "()I"⟩, 6), (⟨"TornCard$Worker", "testPlace", "(IZ)I"⟩, 6), (⟨"TornCard$Worker", "change", "()I"⟩, 6), (⟨"TornCard$Worker", "tell", "()I"⟩, 6), (⟨"TornCard$Worker", "compareSecret", "(I)I"⟩, 6), (⟨"TornCard$Worker", "renew", "()I"⟩, 6), (⟨"TornCard$Link", "append", "(I)V"⟩, 9), (⟨"TornCard", "takeReady", "(I)I"⟩, 5)]
theorem lw_r1 : ∀ q ∈ lw_privs_1, lw_okq q := List.forall_mem_cons.mpr ⟨lw_p0, List.forall_mem_cons.mpr ⟨lw_p1, List.forall_mem_cons.mpr ⟨lw_p2, List.forall_mem_cons.mpr ⟨lw_p3, List.forall_mem_cons.mpr ⟨lw_p4, List.forall_mem_cons.mpr ⟨lw_p5, List.forall_mem_cons.mpr ⟨lw_p6, List.forall_mem_cons.mpr ⟨lw_p7, List.forall_mem_cons.mpr ⟨lw_p8, List.forall_mem_cons.mpr ⟨lw_p9, List.forall_mem_cons.mpr ⟨lw_p10, List.forall_mem_cons.mpr ⟨lw_p11, List.forall_mem_cons.mpr ⟨lw_p12, List.forall_mem_cons.mpr ⟨lw_p13, List.forall_mem_cons.mpr ⟨lw_p14, List.forall_mem_cons.mpr ⟨lw_p15, fun _ h => absurd h List.not_mem_nil⟩⟩⟩⟩⟩⟩⟩⟩⟩⟩⟩⟩⟩⟩⟩⟩
theorem lw_p16 : lw_okq (⟨"TornCard", "takeSupervision", "(I)I"⟩, 5) := ⟨⟨by decide +kernel, by decide +kernel⟩, List.mem_of_getElem? (i := 12) (by decide +kernel), List.mem_of_getElem? (i := 529) (by decide +kernel), List.mem_of_getElem? (i := 530) (by decide +kernel)⟩
theorem lw_p17 : lw_okq (⟨"TornCard", "takeSize", "(I)I"⟩, 5) := ⟨⟨by decide +kernel, by decide +kernel⟩, List.mem_of_getElem? (i := 12) (by decide +kernel), List.mem_of_getElem? (i := 533) (by decide +kernel), List.mem_of_getElem? (i := 534) (by decide +kernel)⟩
theorem lw_p18 : lw_okq (⟨"TornCard", "stateWhileOn", "(I)I"⟩, 5) := ⟨⟨by decide +kernel, by decide +kernel⟩, List.mem_of_getElem? (i := 12) (by decide +kernel), List.mem_of_getElem? (i := 566) (by decide +kernel), List.mem_of_getElem? (i := 567) (by decide +kernel)⟩
theorem lw_p19 : lw_okq (⟨"TornCardModel", "settle", "()Z"⟩, 37) := ⟨⟨by decide +kernel, by decide +kernel⟩, List.mem_of_getElem? (i := 575) (by decide +kernel), List.mem_of_getElem? (i := 709) (by decide +kernel), List.mem_of_getElem? (i := 710) (by decide +kernel)⟩
theorem lw_p20 : lw_okq (⟨"TornCardModel", "writes", "()Z"⟩, 37) := ⟨⟨by decide +kernel, by decide +kernel⟩, List.mem_of_getElem? (i := 575) (by decide +kernel), List.mem_of_getElem? (i := 713) (by decide +kernel), List.mem_of_getElem? (i := 714) (by decide +kernel)⟩
theorem lw_p21 : lw_okq (⟨"TornCardModel", "begin", "()V"⟩, 37) := ⟨⟨by decide +kernel, by decide +kernel⟩, List.mem_of_getElem? (i := 575) (by decide +kernel), List.mem_of_getElem? (i := 717) (by decide +kernel), List.mem_of_getElem? (i := 718) (by decide +kernel)⟩
theorem lw_p22 : lw_okq (⟨"TornCardModel", "forget", "()V"⟩, 37) := ⟨⟨by decide +kernel, by decide +kernel⟩, List.mem_of_getElem? (i := 575) (by decide +kernel), List.mem_of_getElem? (i := 721) (by decide +kernel), List.mem_of_getElem? (i := 722) (by decide +kernel)⟩
theorem lw_p23 : lw_okq (⟨"TornCardModel", "take", "(I)V"⟩, 37) := ⟨⟨by decide +kernel, by decide +kernel⟩, List.mem_of_getElem? (i := 575) (by decide +kernel), List.mem_of_getElem? (i := 734) (by decide +kernel), List.mem_of_getElem? (i := 735) (by decide +kernel)⟩
theorem lw_p24 : lw_okq (⟨"TornCardModel", "answerR", "(I)V"⟩, 37) := ⟨⟨by decide +kernel, by decide +kernel⟩, List.mem_of_getElem? (i := 575) (by decide +kernel), List.mem_of_getElem? (i := 738) (by decide +kernel), List.mem_of_getElem? (i := 739) (by decide +kernel)⟩
theorem lw_p25 : lw_okq (⟨"TornCardModel", "say", "(II)V"⟩, 37) := ⟨⟨by decide +kernel, by decide +kernel⟩, List.mem_of_getElem? (i := 575) (by decide +kernel), List.mem_of_getElem? (i := 742) (by decide +kernel), List.mem_of_getElem? (i := 743) (by decide +kernel)⟩
theorem lw_p26 : lw_okq (⟨"TornCardModel", "work", "(II)V"⟩, 37) := ⟨⟨by decide +kernel, by decide +kernel⟩, List.mem_of_getElem? (i := 575) (by decide +kernel), List.mem_of_getElem? (i := 746) (by decide +kernel), List.mem_of_getElem? (i := 747) (by decide +kernel)⟩
theorem lw_p27 : lw_okq (⟨"TornCardModel", "comes", "(IZ)V"⟩, 37) := ⟨⟨by decide +kernel, by decide +kernel⟩, List.mem_of_getElem? (i := 575) (by decide +kernel), List.mem_of_getElem? (i := 750) (by decide +kernel), List.mem_of_getElem? (i := 751) (by decide +kernel)⟩
theorem lw_p28 : lw_okq (⟨"TornCardModel", "execute", "()I"⟩, 37) := ⟨⟨by decide +kernel, by decide +kernel⟩, List.mem_of_getElem? (i := 575) (by decide +kernel), List.mem_of_getElem? (i := 754) (by decide +kernel), List.mem_of_getElem? (i := 755) (by decide +kernel)⟩
theorem lw_p29 : lw_okq (⟨"TornCardModel", "find", "(III)I"⟩, 37) := ⟨⟨by decide +kernel, by decide +kernel⟩, List.mem_of_getElem? (i := 575) (by decide +kernel), List.mem_of_getElem? (i := 758) (by decide +kernel), List.mem_of_getElem? (i := 759) (by decide +kernel)⟩
theorem lw_p30 : lw_okq (⟨"TornCardModel", "reads", "(III)I"⟩, 37) := ⟨⟨by decide +kernel, by decide +kernel⟩, List.mem_of_getElem? (i := 575) (by decide +kernel), List.mem_of_getElem? (i := 763) (by decide +kernel), List.mem_of_getElem? (i := 764) (by decide +kernel)⟩
theorem lw_p31 : lw_okq (⟨"TornCardModel", "wrong", "(II)I"⟩, 37) := ⟨⟨by decide +kernel, by decide +kernel⟩, List.mem_of_getElem? (i := 575) (by decide +kernel), List.mem_of_getElem? (i := 767) (by decide +kernel), List.mem_of_getElem? (i := 768) (by decide +kernel)⟩
def lw_privs_2 : List (MethodName × Nat) := [(⟨"TornCard", "takeSupervision", "(I)I"⟩, 5), (⟨"TornCard", "takeSize", "(I)I"⟩, 5), (⟨"TornCard", "stateWhileOn", "(I)I"⟩, 5), (⟨"TornCardModel", "settle", "()Z"⟩, 37), (⟨"TornCardModel", "writes", "()Z"⟩, 37), (⟨"TornCardModel", "begin", "()V"⟩, 37), (⟨"TornCardModel", "forget", "()V"⟩, 37), (⟨"TornCardModel", "take", "(I)V"⟩, 37), (⟨"TornCardModel", "answerR", "(I)V"⟩, 37), (⟨"TornCardModel", "say", "(II)V"⟩, 37), (⟨"TornCardModel", "work", "(II)V"⟩, 37), (⟨"TornCardModel", "comes", "(IZ)V"⟩, 37), (⟨"TornCardModel", "execute", "()I"⟩, 37), (⟨"TornCardModel", "find", "(III)I"⟩, 37), (⟨"TornCardModel", "reads", "(III)I"⟩, 37), (⟨"TornCardModel", "wrong", "(II)I"⟩, 37)]
theorem lw_r2 : ∀ q ∈ lw_privs_2, lw_okq q := List.forall_mem_cons.mpr ⟨lw_p16, List.forall_mem_cons.mpr ⟨lw_p17, List.forall_mem_cons.mpr ⟨lw_p18, List.forall_mem_cons.mpr ⟨lw_p19, List.forall_mem_cons.mpr ⟨lw_p20, List.forall_mem_cons.mpr ⟨lw_p21, List.forall_mem_cons.mpr ⟨lw_p22, List.forall_mem_cons.mpr ⟨lw_p23, List.forall_mem_cons.mpr ⟨lw_p24, List.forall_mem_cons.mpr ⟨lw_p25, List.forall_mem_cons.mpr ⟨lw_p26, List.forall_mem_cons.mpr ⟨lw_p27, List.forall_mem_cons.mpr ⟨lw_p28, List.forall_mem_cons.mpr ⟨lw_p29, List.forall_mem_cons.mpr ⟨lw_p30, List.forall_mem_cons.mpr ⟨lw_p31, fun _ h => absurd h List.not_mem_nil⟩⟩⟩⟩⟩⟩⟩⟩⟩⟩⟩⟩⟩⟩⟩⟩
theorem lw_p32 : lw_okq (⟨"TornCardModel", "put", "(I)V"⟩, 37) := ⟨⟨by decide +kernel, by decide +kernel⟩, List.mem_of_getElem? (i := 575) (by decide +kernel), List.mem_of_getElem? (i := 771) (by decide +kernel), List.mem_of_getElem? (i := 772) (by decide +kernel)⟩
theorem lw_p33 : lw_okq (⟨"TornCardModel", "changes", "(III)I"⟩, 37) := ⟨⟨by decide +kernel, by decide +kernel⟩, List.mem_of_getElem? (i := 575) (by decide +kernel), List.mem_of_getElem? (i := 775) (by decide +kernel), List.mem_of_getElem? (i := 776) (by decide +kernel)⟩
theorem lw_p34 : lw_okq (⟨"TornCardModel", "tell", "(IIII)I"⟩, 37) := ⟨⟨by decide +kernel, by decide +kernel⟩, List.mem_of_getElem? (i := 575) (by decide +kernel), List.mem_of_getElem? (i := 779) (by decide +kernel), List.mem_of_getElem? (i := 780) (by decide +kernel)⟩
theorem lw_p35 : lw_okq (⟨"TornCardModel", "told", "()I"⟩, 37) := ⟨⟨by decide +kernel, by decide +kernel⟩, List.mem_of_getElem? (i := 575) (by decide +kernel), List.mem_of_getElem? (i := 783) (by decide +kernel), List.mem_of_getElem? (i := 784) (by decide +kernel)⟩
theorem lw_p36 : lw_okq (⟨"TornCardModel", "renew", "(IIII)I"⟩, 37) := ⟨⟨by decide +kernel, by decide +kernel⟩, List.mem_of_getElem? (i := 575) (by decide +kernel), List.mem_of_getElem? (i := 787) (by decide +kernel), List.mem_of_getElem? (i := 788) (by decide +kernel)⟩
theorem lw_p37 : lw_okq (⟨"TornCardModel", "next", "()V"⟩, 37) := ⟨⟨by decide +kernel, by decide +kernel⟩, List.mem_of_getElem? (i := 575) (by decide +kernel), List.mem_of_getElem? (i := 791) (by decide +kernel), List.mem_of_getElem? (i := 792) (by decide +kernel)⟩
theorem lw_p38 : lw_okq (⟨"TornCardModel", "asks", "(I)V"⟩, 37) := ⟨⟨by decide +kernel, by decide +kernel⟩, List.mem_of_getElem? (i := 575) (by decide +kernel), List.mem_of_getElem? (i := 795) (by decide +kernel), List.mem_of_getElem? (i := 796) (by decide +kernel)⟩
def lw_privs_3 : List (MethodName × Nat) := [(⟨"TornCardModel", "put", "(I)V"⟩, 37), (⟨"TornCardModel", "changes", "(III)I"⟩, 37), (⟨"TornCardModel", "tell", "(IIII)I"⟩, 37), (⟨"TornCardModel", "told", "()I"⟩, 37), (⟨"TornCardModel", "renew", "(IIII)I"⟩, 37), (⟨"TornCardModel", "next", "()V"⟩, 37), (⟨"TornCardModel", "asks", "(I)V"⟩, 37)]
theorem lw_r3 : ∀ q ∈ lw_privs_3, lw_okq q := List.forall_mem_cons.mpr ⟨lw_p32, List.forall_mem_cons.mpr ⟨lw_p33, List.forall_mem_cons.mpr ⟨lw_p34, List.forall_mem_cons.mpr ⟨lw_p35, List.forall_mem_cons.mpr ⟨lw_p36, List.forall_mem_cons.mpr ⟨lw_p37, List.forall_mem_cons.mpr ⟨lw_p38, fun _ h => absurd h List.not_mem_nil⟩⟩⟩⟩⟩⟩⟩
def lw_privs : List (MethodName × Nat) := lw_privs_1 ++ (lw_privs_2 ++ (lw_privs_3))
def lw_tbl : List Cond := k2_sels lw_privs ++ tables_1
theorem lw_privs_ok : ∀ q ∈ lw_privs, lw_okq q := by
  show ∀ q ∈ lw_privs_1 ++ (lw_privs_2 ++ (lw_privs_3)), lw_okq q
  exact List.forall_mem_append.mpr ⟨lw_r1, List.forall_mem_append.mpr ⟨lw_r2, lw_r3⟩⟩
end
section
/-! the words of private fields of nest mates (by program) -/
def rz_nwq : List (String × Nat × String × String × String × String) := [("TornCard", 86, "TornCard$Link", "arrived", "I", "TornCard"), ("TornCard", 96, "TornCard$Link", "replied", "[I", "TornCard"), ("TornCard", 93, "TornCard$Link", "replyLength", "I", "TornCard"), ("TornCard", 225, "TornCard$Link", "repeatLength", "I", "TornCard"), ("TornCard", 154, "TornCard$Link", "in", "I", "TornCard"), ("TornCard", 157, "TornCard$Link", "out", "I", "TornCard"), ("TornCard", 160, "TornCard$Link", "size", "I", "TornCard"), ("TornCard", 130, "TornCard$Files", "names", "[I", "TornCard"), ("TornCard$Worker", 112, "TornCard$Files", "parents", "[I", "TornCard"), ("TornCard", 133, "TornCard$Files", "parents", "[I", "TornCard"), ("TornCard$Worker", 134, "TornCard$Files", "sizes", "[I", "TornCard"), ("TornCard", 136, "TornCard$Files", "sizes", "[I", "TornCard"), ("TornCard", 139, "TornCard$Files", "readRights", "[I", "TornCard"), ("TornCard", 142, "TornCard$Files", "changeRights", "[I", "TornCard"), ("TornCard", 108, "TornCard$Files", "count", "I", "TornCard"), ("TornCard", 28, "TornCard$Memory", "files", "LTornCard$Files;", "TornCard"), ("TornCard$Worker", 89, "TornCard$Memory", "files", "LTornCard$Files;", "TornCard"), ("TornCard", 59, "TornCard$Memory", "noted", "Z", "TornCard"), ("TornCard", 111, "TornCard$Memory", "secret", "I", "TornCard"), ("TornCard$Worker", 168, "TornCard$Memory", "secret", "I", "TornCard"), ("TornCard", 66, "TornCard$Memory", "tries", "I", "TornCard"), ("TornCard$Worker", 155, "TornCard$Memory", "tries", "I", "TornCard"), ("TornCard", 114, "TornCard$Memory", "writings", "I", "TornCard"), ("TornCard", 117, "TornCard$Memory", "tears", "I", "TornCard"), ("TornCard", 52, "TornCard$Memory", "leftBeforeTear", "I", "TornCard"), ("TornCard", 167, "TornCard$Command", "length", "I", "TornCard"), ("TornCard$Memory", 35, "TornCard$Command", "dataLength", "I", "TornCard"), ("TornCard$Worker", 86, "TornCard$Command", "dataLength", "I", "TornCard"), ("TornCard$Worker", 120, "TornCard$Command", "expected", "I", "TornCard"), ("TornCard", 23, "TornCard$Worker", "memory", "LTornCard$Memory;", "TornCard"), ("TornCard", 163, "TornCard$Worker", "command", "LTornCard$Command;", "TornCard"), ("TornCard", 172, "TornCard$Worker", "answer", "LTornCard$Answer;", "TornCard"), ("TornCard", 145, "TornCard$Worker", "opened", "Z", "TornCard"), ("TornCard", 148, "TornCard$Worker", "directory", "I", "TornCard"), ("TornCard", 151, "TornCard$Worker", "currentFile", "I", "TornCard")]
def rz_nw : List Cond := rz_nwq.map (fun q => .fieldLinkNest q.1 q.2.1 q.2.2.1 q.2.2.2.1 q.2.2.2.2.1 q.2.2.2.2.2)
theorem rz_nw_tab (w : Cond) (h : w ∈ rz_nw) : w.onTables = true := by
  obtain ⟨q, -, rfl⟩ := List.mem_map.mp h
  rfl
theorem rz_nw_warm (w : Cond) (h : w ∈ rz_nw) {s U : State} (hW : s.WarmedH U.vm) (hZ : va_Nw w s) : va_Nw w U := by
  obtain ⟨q, -, rfl⟩ := List.mem_map.mp h
  exact va_Nw.warmF hW hZ
theorem wn_0 : Cond.fieldLinkNest "TornCard" 86 "TornCard$Link" "arrived" "I" "TornCard" ∈ rz_nw := List.mem_map.mpr ⟨("TornCard", 86, "TornCard$Link", "arrived", "I", "TornCard"), List.mem_of_getElem? (i := 0) rfl, rfl⟩
theorem wn_1 : Cond.fieldLinkNest "TornCard" 96 "TornCard$Link" "replied" "[I" "TornCard" ∈ rz_nw := List.mem_map.mpr ⟨("TornCard", 96, "TornCard$Link", "replied", "[I", "TornCard"), List.mem_of_getElem? (i := 1) rfl, rfl⟩
theorem wn_2 : Cond.fieldLinkNest "TornCard" 93 "TornCard$Link" "replyLength" "I" "TornCard" ∈ rz_nw := List.mem_map.mpr ⟨("TornCard", 93, "TornCard$Link", "replyLength", "I", "TornCard"), List.mem_of_getElem? (i := 2) rfl, rfl⟩
theorem wn_3 : Cond.fieldLinkNest "TornCard" 225 "TornCard$Link" "repeatLength" "I" "TornCard" ∈ rz_nw := List.mem_map.mpr ⟨("TornCard", 225, "TornCard$Link", "repeatLength", "I", "TornCard"), List.mem_of_getElem? (i := 3) rfl, rfl⟩
theorem wn_4 : Cond.fieldLinkNest "TornCard" 154 "TornCard$Link" "in" "I" "TornCard" ∈ rz_nw := List.mem_map.mpr ⟨("TornCard", 154, "TornCard$Link", "in", "I", "TornCard"), List.mem_of_getElem? (i := 4) rfl, rfl⟩
theorem wn_5 : Cond.fieldLinkNest "TornCard" 157 "TornCard$Link" "out" "I" "TornCard" ∈ rz_nw := List.mem_map.mpr ⟨("TornCard", 157, "TornCard$Link", "out", "I", "TornCard"), List.mem_of_getElem? (i := 5) rfl, rfl⟩
theorem wn_6 : Cond.fieldLinkNest "TornCard" 160 "TornCard$Link" "size" "I" "TornCard" ∈ rz_nw := List.mem_map.mpr ⟨("TornCard", 160, "TornCard$Link", "size", "I", "TornCard"), List.mem_of_getElem? (i := 6) rfl, rfl⟩
theorem wn_7 : Cond.fieldLinkNest "TornCard" 130 "TornCard$Files" "names" "[I" "TornCard" ∈ rz_nw := List.mem_map.mpr ⟨("TornCard", 130, "TornCard$Files", "names", "[I", "TornCard"), List.mem_of_getElem? (i := 7) rfl, rfl⟩
theorem wn_8 : Cond.fieldLinkNest "TornCard$Worker" 112 "TornCard$Files" "parents" "[I" "TornCard" ∈ rz_nw := List.mem_map.mpr ⟨("TornCard$Worker", 112, "TornCard$Files", "parents", "[I", "TornCard"), List.mem_of_getElem? (i := 8) rfl, rfl⟩
theorem wn_9 : Cond.fieldLinkNest "TornCard" 133 "TornCard$Files" "parents" "[I" "TornCard" ∈ rz_nw := List.mem_map.mpr ⟨("TornCard", 133, "TornCard$Files", "parents", "[I", "TornCard"), List.mem_of_getElem? (i := 9) rfl, rfl⟩
theorem wn_10 : Cond.fieldLinkNest "TornCard$Worker" 134 "TornCard$Files" "sizes" "[I" "TornCard" ∈ rz_nw := List.mem_map.mpr ⟨("TornCard$Worker", 134, "TornCard$Files", "sizes", "[I", "TornCard"), List.mem_of_getElem? (i := 10) rfl, rfl⟩
theorem wn_11 : Cond.fieldLinkNest "TornCard" 136 "TornCard$Files" "sizes" "[I" "TornCard" ∈ rz_nw := List.mem_map.mpr ⟨("TornCard", 136, "TornCard$Files", "sizes", "[I", "TornCard"), List.mem_of_getElem? (i := 11) rfl, rfl⟩
theorem wn_12 : Cond.fieldLinkNest "TornCard" 139 "TornCard$Files" "readRights" "[I" "TornCard" ∈ rz_nw := List.mem_map.mpr ⟨("TornCard", 139, "TornCard$Files", "readRights", "[I", "TornCard"), List.mem_of_getElem? (i := 12) rfl, rfl⟩
theorem wn_13 : Cond.fieldLinkNest "TornCard" 142 "TornCard$Files" "changeRights" "[I" "TornCard" ∈ rz_nw := List.mem_map.mpr ⟨("TornCard", 142, "TornCard$Files", "changeRights", "[I", "TornCard"), List.mem_of_getElem? (i := 13) rfl, rfl⟩
theorem wn_14 : Cond.fieldLinkNest "TornCard" 108 "TornCard$Files" "count" "I" "TornCard" ∈ rz_nw := List.mem_map.mpr ⟨("TornCard", 108, "TornCard$Files", "count", "I", "TornCard"), List.mem_of_getElem? (i := 14) rfl, rfl⟩
theorem wn_15 : Cond.fieldLinkNest "TornCard" 28 "TornCard$Memory" "files" "LTornCard$Files;" "TornCard" ∈ rz_nw := List.mem_map.mpr ⟨("TornCard", 28, "TornCard$Memory", "files", "LTornCard$Files;", "TornCard"), List.mem_of_getElem? (i := 15) rfl, rfl⟩
theorem wn_16 : Cond.fieldLinkNest "TornCard$Worker" 89 "TornCard$Memory" "files" "LTornCard$Files;" "TornCard" ∈ rz_nw := List.mem_map.mpr ⟨("TornCard$Worker", 89, "TornCard$Memory", "files", "LTornCard$Files;", "TornCard"), List.mem_of_getElem? (i := 16) rfl, rfl⟩
theorem wn_17 : Cond.fieldLinkNest "TornCard" 59 "TornCard$Memory" "noted" "Z" "TornCard" ∈ rz_nw := List.mem_map.mpr ⟨("TornCard", 59, "TornCard$Memory", "noted", "Z", "TornCard"), List.mem_of_getElem? (i := 17) rfl, rfl⟩
theorem wn_18 : Cond.fieldLinkNest "TornCard" 111 "TornCard$Memory" "secret" "I" "TornCard" ∈ rz_nw := List.mem_map.mpr ⟨("TornCard", 111, "TornCard$Memory", "secret", "I", "TornCard"), List.mem_of_getElem? (i := 18) rfl, rfl⟩
theorem wn_19 : Cond.fieldLinkNest "TornCard$Worker" 168 "TornCard$Memory" "secret" "I" "TornCard" ∈ rz_nw := List.mem_map.mpr ⟨("TornCard$Worker", 168, "TornCard$Memory", "secret", "I", "TornCard"), List.mem_of_getElem? (i := 19) rfl, rfl⟩
theorem wn_20 : Cond.fieldLinkNest "TornCard" 66 "TornCard$Memory" "tries" "I" "TornCard" ∈ rz_nw := List.mem_map.mpr ⟨("TornCard", 66, "TornCard$Memory", "tries", "I", "TornCard"), List.mem_of_getElem? (i := 20) rfl, rfl⟩
theorem wn_21 : Cond.fieldLinkNest "TornCard$Worker" 155 "TornCard$Memory" "tries" "I" "TornCard" ∈ rz_nw := List.mem_map.mpr ⟨("TornCard$Worker", 155, "TornCard$Memory", "tries", "I", "TornCard"), List.mem_of_getElem? (i := 21) rfl, rfl⟩
theorem wn_22 : Cond.fieldLinkNest "TornCard" 114 "TornCard$Memory" "writings" "I" "TornCard" ∈ rz_nw := List.mem_map.mpr ⟨("TornCard", 114, "TornCard$Memory", "writings", "I", "TornCard"), List.mem_of_getElem? (i := 22) rfl, rfl⟩
theorem wn_23 : Cond.fieldLinkNest "TornCard" 117 "TornCard$Memory" "tears" "I" "TornCard" ∈ rz_nw := List.mem_map.mpr ⟨("TornCard", 117, "TornCard$Memory", "tears", "I", "TornCard"), List.mem_of_getElem? (i := 23) rfl, rfl⟩
theorem wn_24 : Cond.fieldLinkNest "TornCard" 52 "TornCard$Memory" "leftBeforeTear" "I" "TornCard" ∈ rz_nw := List.mem_map.mpr ⟨("TornCard", 52, "TornCard$Memory", "leftBeforeTear", "I", "TornCard"), List.mem_of_getElem? (i := 24) rfl, rfl⟩
theorem wn_25 : Cond.fieldLinkNest "TornCard" 167 "TornCard$Command" "length" "I" "TornCard" ∈ rz_nw := List.mem_map.mpr ⟨("TornCard", 167, "TornCard$Command", "length", "I", "TornCard"), List.mem_of_getElem? (i := 25) rfl, rfl⟩
theorem wn_26 : Cond.fieldLinkNest "TornCard$Memory" 35 "TornCard$Command" "dataLength" "I" "TornCard" ∈ rz_nw := List.mem_map.mpr ⟨("TornCard$Memory", 35, "TornCard$Command", "dataLength", "I", "TornCard"), List.mem_of_getElem? (i := 26) rfl, rfl⟩
theorem wn_27 : Cond.fieldLinkNest "TornCard$Worker" 86 "TornCard$Command" "dataLength" "I" "TornCard" ∈ rz_nw := List.mem_map.mpr ⟨("TornCard$Worker", 86, "TornCard$Command", "dataLength", "I", "TornCard"), List.mem_of_getElem? (i := 27) rfl, rfl⟩
theorem wn_28 : Cond.fieldLinkNest "TornCard$Worker" 120 "TornCard$Command" "expected" "I" "TornCard" ∈ rz_nw := List.mem_map.mpr ⟨("TornCard$Worker", 120, "TornCard$Command", "expected", "I", "TornCard"), List.mem_of_getElem? (i := 28) rfl, rfl⟩
theorem wn_29 : Cond.fieldLinkNest "TornCard" 23 "TornCard$Worker" "memory" "LTornCard$Memory;" "TornCard" ∈ rz_nw := List.mem_map.mpr ⟨("TornCard", 23, "TornCard$Worker", "memory", "LTornCard$Memory;", "TornCard"), List.mem_of_getElem? (i := 29) rfl, rfl⟩
theorem wn_30 : Cond.fieldLinkNest "TornCard" 163 "TornCard$Worker" "command" "LTornCard$Command;" "TornCard" ∈ rz_nw := List.mem_map.mpr ⟨("TornCard", 163, "TornCard$Worker", "command", "LTornCard$Command;", "TornCard"), List.mem_of_getElem? (i := 30) rfl, rfl⟩
theorem wn_31 : Cond.fieldLinkNest "TornCard" 172 "TornCard$Worker" "answer" "LTornCard$Answer;" "TornCard" ∈ rz_nw := List.mem_map.mpr ⟨("TornCard", 172, "TornCard$Worker", "answer", "LTornCard$Answer;", "TornCard"), List.mem_of_getElem? (i := 31) rfl, rfl⟩
theorem wn_32 : Cond.fieldLinkNest "TornCard" 145 "TornCard$Worker" "opened" "Z" "TornCard" ∈ rz_nw := List.mem_map.mpr ⟨("TornCard", 145, "TornCard$Worker", "opened", "Z", "TornCard"), List.mem_of_getElem? (i := 32) rfl, rfl⟩
theorem wn_33 : Cond.fieldLinkNest "TornCard" 148 "TornCard$Worker" "directory" "I" "TornCard" ∈ rz_nw := List.mem_map.mpr ⟨("TornCard", 148, "TornCard$Worker", "directory", "I", "TornCard"), List.mem_of_getElem? (i := 33) rfl, rfl⟩
theorem wn_34 : Cond.fieldLinkNest "TornCard" 151 "TornCard$Worker" "currentFile" "I" "TornCard" ∈ rz_nw := List.mem_map.mpr ⟨("TornCard", 151, "TornCard$Worker", "currentFile", "I", "TornCard"), List.mem_of_getElem? (i := 34) rfl, rfl⟩
theorem rz_nw_in : ∀ w ∈ rz_nw, w ∈ lw_tbl := by
  intro w hw
  have h1 : rz_nw.map some = [66, 68, 70, 73, 75, 77, 79, 119, 121, 122, 124, 125, 127, 129, 132, 149, 150, 156, 157, 158, 160, 161, 163, 165, 167, 199, 201, 203, 205, 234, 236, 238, 240, 242, 244].map (fun i => lw_tbl[i]?) := by decide +kernel
  have h2 : some w ∈ rz_nw.map some := List.mem_map.mpr ⟨w, hw, rfl⟩
  rw [h1] at h2
  obtain ⟨i, -, hi⟩ := List.mem_map.mp h2
  exact List.mem_of_getElem? hi
end
section
/-! THE EMBEDDING: an instruction is a transformer of predicates over (locals, operand stack, memory); each is sound over the machine.
Memory: cell k, place j holds an int (a field of an object, an element of an int array); fields that hold objects are fixed by the shape. A reference k means cell k of the shape; 'ad k' is its address. -/
abbrev rz_M : Type := Nat → Nat → Int32
abbrev rz_L : Type := List (Option Value)
abbrev rz_K : Type := rz_L → List Value → rz_M → Prop
abbrev rz_P : Type := Option Value → rz_M → Prop
abbrev rz_T : Type := rz_P → (Nat → rz_K) → rz_K → rz_K
abbrev rz_C : Type := List Value → rz_M → rz_P → Prop
abbrev rz_Sh : Type := Nat ⊕ (Nat × List (Option Nat))
/-- what stays the same over all methods: launch, class numbers, addresses, the class of int arrays, where the world begins -/
abbrev rz_E : Type := Launch × va_G × (Nat → Nat) × ClassId × Nat
abbrev rz_X : Type := rz_E × Program × Env × Room × State × MethodId × Array Value × List Frame × Method × Code × (State → Prop) × Nat × Nat × Nat
def rz_v (ad : Nat → Nat) (v : Value) : Value := match v with
  | .ref k => .ref (ad k)
  | w => w
def rz_nth {α : Type} : List α → Nat → Option α
  | [], _ => none
  | a :: _, 0 => some a
  | _ :: t, n + 1 => rz_nth t n
theorem rz_nth_eq {α : Type} : ∀ (l : List α) (n : Nat), rz_nth l n = l[n]?
  | [], n => by simp [rz_nth]
  | a :: t, 0 => by simp [rz_nth]
  | a :: t, n + 1 => by rw [rz_nth, rz_nth_eq t n]; simp
def rz_lg : rz_L → Nat → Option Value
  | [], _ => none
  | v :: _, 0 => v
  | _ :: t, n + 1 => rz_lg t n
def rz_ls : rz_L → Nat → Value → rz_L
  | [], _, _ => []
  | _ :: t, 0, v => some v :: t
  | h :: t, n + 1, v => h :: rz_ls t n v
def rz_ps (ad : Nat → Nat) : Nat → rz_L → List (Nat × Value)
  | _, [] => []
  | k, none :: t => rz_ps ad (k + 1) t
  | k, some v :: t => (k, rz_v ad v) :: rz_ps ad (k + 1) t
theorem rz_ps_mem (ad : Nat → Nat) : ∀ (ls : rz_L) (k : Nat) (q : Nat × Value), q ∈ rz_ps ad k ls ↔ ∃ (j : Nat) (v : Value), q = (k + j, rz_v ad v) ∧ rz_lg ls j = some v
  | [], k, q => by
    constructor
    · intro h; simp [rz_ps] at h
    · rintro ⟨j, v, -, h⟩; simp [rz_lg] at h
  | none :: t, k, q => by
    rw [rz_ps, rz_ps_mem ad t (k + 1) q]
    constructor
    · rintro ⟨j, v, h1, h2⟩
      exact ⟨j + 1, v, h1.trans (by rw [Nat.add_assoc, Nat.add_comm 1 j]), h2⟩
    · rintro ⟨j, v, h1, h2⟩
      cases j with
      | zero => simp [rz_lg] at h2
      | succ j => exact ⟨j, v, h1.trans (by rw [Nat.add_assoc, Nat.add_comm 1 j]), h2⟩
  | some w :: t, k, q => by
    rw [rz_ps, List.mem_cons, rz_ps_mem ad t (k + 1) q]
    constructor
    · rintro (h | ⟨j, v, h1, h2⟩)
      · exact ⟨0, w, h, rfl⟩
      · exact ⟨j + 1, v, h1.trans (by rw [Nat.add_assoc, Nat.add_comm 1 j]), h2⟩
    · rintro ⟨j, v, h1, h2⟩
      cases j with
      | zero =>
        left
        have : w = v := Option.some.inj h2
        rw [h1, this]; rfl
      | succ j => exact Or.inr ⟨j, v, h1.trans (by rw [Nat.add_assoc, Nat.add_comm 1 j]), h2⟩
theorem rz_lg_at {ad : Nat → Nat} {la : Array Slot} {n : Nat} {ls : rz_L} (h : lv_has la n (rz_ps ad 0 ls)) {i : Nat} {v : Value} (hi : rz_lg ls i = some v) : la[i]? = some (.val (rz_v ad v)) := by
  have := h.2.2 (i, rz_v ad v) ((rz_ps_mem ad ls 0 _).mpr ⟨i, v, by rw [Nat.zero_add], hi⟩)
  exact this
theorem rz_lg_ls : ∀ (ls : rz_L) (i j : Nat) (v w : Value), rz_lg (rz_ls ls i v) j = some w → (j = i ∧ w = v) ∨ (j ≠ i ∧ rz_lg ls j = some w)
  | [], i, j, v, w, h => by simp [rz_ls, rz_lg] at h
  | a :: t, 0, 0, v, w, h => Or.inl ⟨rfl, (Option.some.inj h).symm⟩
  | a :: t, 0, j + 1, v, w, h => Or.inr ⟨by omega, h⟩
  | a :: t, i + 1, 0, v, w, h => Or.inr ⟨by omega, h⟩
  | a :: t, i + 1, j + 1, v, w, h => by
    rcases rz_lg_ls t i j v w h with ⟨h1, h2⟩ | ⟨h1, h2⟩
    · exact Or.inl ⟨by omega, h2⟩
    · exact Or.inr ⟨by omega, h2⟩
/-- no long stands just ahead of place i -/
def rz_free (ls : rz_L) (i : Nat) : Bool := match i with
  | 0 => true
  | j + 1 => match rz_lg ls j with
    | some (.long _) => false
    | some (.double _) => false
    | _ => true
theorem rz_v_cat (ad : Nat → Nat) (v : Value) : (rz_v ad v).category = v.category := by cases v <;> rfl
theorem rz_stored {ad : Nat → Nat} {la : Array Slot} {n i : Nat} {ls : rz_L} {v : Value} (hf : rz_free ls i = true)
    (h : lv_has la n ((i, rz_v ad v) :: (rz_ps ad 0 ls).filter (fun q => !(q.1 == i) && !(q.1 + 1 == i && q.2.category == 2)))) : lv_has la n (rz_ps ad 0 (rz_ls ls i v)) := by
  refine ⟨h.1, h.2.1, fun q hq => h.2.2 q ?_⟩
  obtain ⟨j, w, e, hj⟩ := (rz_ps_mem ad _ 0 q).mp hq
  rw [Nat.zero_add] at e
  rcases rz_lg_ls ls i j v w hj with ⟨h1, h2⟩ | ⟨h1, h2⟩
  · rw [e, h1, h2]; exact List.mem_cons_self
  · refine List.mem_cons_of_mem _ (List.mem_filter.mpr ⟨(rz_ps_mem ad ls 0 q).mpr ⟨j, w, by rw [e, Nat.zero_add], h2⟩, ?_⟩)
    rw [e]
    have a1 : (j == i) = false := by simpa using h1
    show (!(j == i) && !(j + 1 == i && (rz_v ad w).category == 2)) = true
    rw [a1, rz_v_cat]
    by_cases hji : j + 1 = i
    · subst hji
      simp only [rz_free, h2] at hf
      cases w <;> simp_all [Value.category]
    · have : (j + 1 == i) = false := by simpa using hji
      simp [this]
-- the cells of the world
def rz_fv (ad : Nat → Nat) (f : Nat → Int32) (j : Nat) (o : Option Nat) : Value := match o with
  | some k => .ref (ad k)
  | none => .int (f j)
def rz_e (ad : Nat → Nat) (cA : ClassId) (μ : rz_M) (k : Nat) (x : rz_Sh) : Nat × va_E := (ad k, match x with
  | .inl n => .inl (cA, n, .inl (μ k))
  | .inr o => .inr (o.1, o.2.mapIdx (rz_fv ad (μ k))))
def rz_ws (ad : Nat → Nat) (cA : ClassId) (sh : List rz_Sh) (μ : rz_M) : va_W := sh.mapIdx (rz_e ad cA μ)
theorem rz_ws_at {ad : Nat → Nat} {cA : ClassId} {sh : List rz_Sh} {μ : rz_M} {k : Nat} {x : rz_Sh} (h : sh[k]? = some x) : (rz_ws ad cA sh μ)[k]? = some (rz_e ad cA μ k x) := by
  rw [rz_ws, List.getElem?_mapIdx, h]; rfl
def rz_uf (μ : rz_M) (k : Nat) (f : Nat → Int32) : rz_M := fun k' => if k' = k then f else μ k'
def rz_up (μ : rz_M) (k j : Nat) (x : Int32) : rz_M := rz_uf μ k (upd (μ k) j x)
theorem rz_uf_ne {μ : rz_M} {k i : Nat} {f : Nat → Int32} (h : i ≠ k) : rz_uf μ k f i = μ i := if_neg h
theorem rz_uf_eq {μ : rz_M} {k : Nat} {f : Nat → Int32} : rz_uf μ k f k = f := if_pos rfl
theorem rz_e_ne {ad : Nat → Nat} {cA : ClassId} {μ : rz_M} {k i : Nat} {f : Nat → Int32} (h : i ≠ k) (x : rz_Sh) : rz_e ad cA (rz_uf μ k f) i x = rz_e ad cA μ i x := by
  cases x <;> simp [rz_e, rz_uf_ne h]
theorem rz_ws_set {ad : Nat → Nat} {cA : ClassId} {sh : List rz_Sh} {μ : rz_M} {k : Nat} {x : rz_Sh} {f : Nat → Int32} (h : sh[k]? = some x) : (rz_ws ad cA sh μ).set k (rz_e ad cA (rz_uf μ k f) k x) = rz_ws ad cA sh (rz_uf μ k f) := by
  apply List.ext_getElem?
  intro i
  by_cases hi : k = i
  · subst hi
    have hk : k < sh.length := (List.getElem?_eq_some_iff.mp h).1
    rw [List.getElem?_set_self (by simpa [rz_ws] using hk), rz_ws_at h]
  · rw [List.getElem?_set_ne hi, rz_ws, rz_ws, List.getElem?_mapIdx, List.getElem?_mapIdx]
    cases sh[i]? with
    | none => rfl
    | some y => exact congrArg some (rz_e_ne (Ne.symm hi) y).symm
theorem rz_fv_set {ad : Nat → Nat} {fs : List (Option Nat)} {f : Nat → Int32} {j : Nat} {x : Int32} (h : fs[j]? = some none) : (fs.mapIdx (rz_fv ad f)).set j (.int x) = fs.mapIdx (rz_fv ad (upd f j x)) := by
  apply List.ext_getElem?
  intro i
  by_cases hi : j = i
  · subst hi
    have hk : j < fs.length := (List.getElem?_eq_some_iff.mp h).1
    rw [List.getElem?_set_self (by simpa using hk), List.getElem?_mapIdx, h]
    simp [rz_fv, upd]
  · rw [List.getElem?_set_ne hi, List.getElem?_mapIdx, List.getElem?_mapIdx]
    cases fs[i]? with
    | none => rfl
    | some y =>
      have hne : ¬ i = j := fun q => hi q.symm
      cases y <;> simp [rz_fv, upd, hne]
def rz_A (N0 : Nat) : Nat → Prop := fun q => N0 ≤ q
/-- from pc, with these locals, stack and memory, the machine comes to Q -/
def rz_W (sh : List rz_Sh) (cl : List vw_C) (X : rz_X) (pc : Nat) : rz_K := fun ls st μ => match X with
  | ((l, D, ad, cA, N0), p, e, R, s, m, args, below, meth, c, Q, cells, slots, nL) =>
    ∀ (la : Array Slot) (H : Heap) (locs : List Loc), lv_has la nL (rz_ps ad 0 ls) → va_P D cl (rz_ws ad cA sh μ) H → va_D (rz_A N0) (rz_ws ad cA sh μ) → va_S (rz_A N0) s.heap H locs →
      W p l e R s m args below meth c H locs cells slots Q (F0 m pc la (st.map (rz_v ad)))
def rz_Cx (cl : List vw_C) (X : rz_X) (cc : ByteArray) (n : Nat) (Ts : List Cond) (own : String) (rm : Room) : Prop := match X with
  | ((_, D, _, cA, N0), p, _, R, s, m, args, _, _, c, _, cells, slots, nL) =>
    CallFix p m c cc nL s args Ts own ∧ va_K D cl [(cA, .int)] s ∧ N0 ≤ s.heap.size ∧ cells ≤ R.cells ∧ slots ≤ R.slots ∧ R = rm ∧ nL = n ∧ ∀ w ∈ rz_nw, va_Nw w s
def rz_Snd (sh : List rz_Sh) (cl : List vw_C) (X : rz_X) (bp : Nat → Nat) (RT : rz_P → Prop) (t : rz_T) (pc npc : Nat) : Prop :=
  ∀ (P : rz_P) (J : Nat → rz_K) (K : rz_K), RT P → (∀ b ls st μ, J b ls st μ → rz_W sh cl X (bp b) ls st μ) → (∀ ls st μ, K ls st μ → rz_W sh cl X npc ls st μ) →
    ∀ ls st μ, t P J K ls st μ → rz_W sh cl X pc ls st μ
def rz_ex (P : rz_P) (J : Nat → rz_K) : List rz_T → rz_K
  | [] => fun _ _ _ => False
  | t :: ts => t P J (rz_ex P J ts)
def rz_SB (sh : List rz_Sh) (cl : List vw_C) (X : rz_X) (bp : Nat → Nat) (RT : rz_P → Prop) (ts : List rz_T) (pc : Nat) : Prop :=
  ∀ (P : rz_P) (J : Nat → rz_K), RT P → (∀ b ls st μ, J b ls st μ → rz_W sh cl X (bp b) ls st μ) → ∀ ls st μ, rz_ex P J ts ls st μ → rz_W sh cl X pc ls st μ
section RZ
variable {sh : List rz_Sh} {cl : List vw_C} {X : rz_X} {bp : Nat → Nat} {RT : rz_P → Prop} {pc : Nat} {cc : ByteArray} {n : Nat} {Ts : List Cond} {own : String} {rm : Room}
theorem rz_nil : rz_SB sh cl X bp RT [] pc := fun _ _ _ _ _ _ _ h => h.elim
theorem rz_cons {t : rz_T} {ts : List rz_T} {npc : Nat} (h : rz_Snd sh cl X bp RT t pc npc) (hs : rz_SB sh cl X bp RT ts npc) : rz_SB sh cl X bp RT (t :: ts) pc :=
  fun P J hR hJ ls st μ he => h P J (rz_ex P J ts) hR hJ (fun ls st μ q => hs P J hR hJ ls st μ q) ls st μ he
/-- the block goes over into the next one -/
def tz_fall (b : Nat) : rz_T := fun _ J _ ls st μ => J b ls st μ
theorem rz_fall {b : Nat} (h : bp b = pc) : rz_SB sh cl X bp RT [tz_fall b] pc := fun _ _ _ hJ ls st μ he => h ▸ hJ b ls st μ he

def tz_iconst (v : Int32) : rz_T := fun _ _ K ls st μ => K ls (.int v :: st) μ
theorem rz_iconst {k : Int} {v : Int32} (G : rz_Cx cl X cc n Ts own rm) (hd : decode cc pc = .ok (.iconst k, 1)) (hv : Int32.ofInt k = v) : rz_Snd sh cl X bp RT (tz_iconst v) pc (pc + 1) := by
  obtain ⟨⟨l, D, ad, cA, N0⟩, p, e, R, s, m, args, below, meth, c, Q, cells, slots, nL⟩ := X
  obtain ⟨⟨hx, hb, hml, hown, hts⟩, hK, hN, hce, hsl, hRm, hnL, hNw⟩ := G
  intro P J K hR hJ hk ls st μ h la H locs hl hP hD hS
  exact lv_iconst hx hb hd hv (hk _ _ _ h la H locs hl hP hD hS)
def tz_bipush (v : Int32) : rz_T := fun _ _ K ls st μ => K ls (.int v :: st) μ
theorem rz_bipush {k : Int} {v : Int32} (G : rz_Cx cl X cc n Ts own rm) (hd : decode cc pc = .ok (.bipush k, 2)) (hv : (Int8.ofInt k).toInt32 = v) : rz_Snd sh cl X bp RT (tz_bipush v) pc (pc + 2) := by
  obtain ⟨⟨l, D, ad, cA, N0⟩, p, e, R, s, m, args, below, meth, c, Q, cells, slots, nL⟩ := X
  obtain ⟨⟨hx, hb, hml, hown, hts⟩, hK, hN, hce, hsl, hRm, hnL, hNw⟩ := G
  intro P J K hR hJ hk ls st μ h la H locs hl hP hD hS
  exact lv_bipush hx hb hd hv (hk _ _ _ h la H locs hl hP hD hS)
def tz_sipush (v : Int32) : rz_T := fun _ _ K ls st μ => K ls (.int v :: st) μ
theorem rz_sipush {k : Int} {v : Int32} (G : rz_Cx cl X cc n Ts own rm) (hd : decode cc pc = .ok (.sipush k, 3)) (hv : (Int16.ofInt k).toInt32 = v) : rz_Snd sh cl X bp RT (tz_sipush v) pc (pc + 3) := by
  obtain ⟨⟨l, D, ad, cA, N0⟩, p, e, R, s, m, args, below, meth, c, Q, cells, slots, nL⟩ := X
  obtain ⟨⟨hx, hb, hml, hown, hts⟩, hK, hN, hce, hsl, hRm, hnL, hNw⟩ := G
  intro P J K hR hJ hk ls st μ h la H locs hl hP hD hS
  exact lv_sipush hx hb hd hv (hk _ _ _ h la H locs hl hP hD hS)
def tz_ldc (v : Int32) : rz_T := fun _ _ K ls st μ => K ls (.int v :: st) μ
theorem rz_ldc {k : Nat} {v : Int32} (G : rz_Cx cl X cc n Ts own rm) (hc : Cond.constant own k v ∈ Ts) (hd : decode cc pc = .ok (.ldc k, 2)) : rz_Snd sh cl X bp RT (tz_ldc v) pc (pc + 2) := by
  obtain ⟨⟨l, D, ad, cA, N0⟩, p, e, R, s, m, args, below, meth, c, Q, cells, slots, nL⟩ := X
  obtain ⟨⟨hx, hb, hml, hown, hts⟩, hK, hN, hce, hsl, hRm, hnL, hNw⟩ := G
  intro P J K hR hJ hk ls st μ h la H locs hl hP hD hS
  exact lv_ldc hx hb hown (hts _ hc) hd (hk _ _ _ h la H locs hl hP hD hS)
def tz_iload (i : Nat) : rz_T := fun _ _ K ls st μ => match rz_lg ls i with
  | some (.int x) => K ls (.int x :: st) μ
  | _ => False
theorem rz_iload_n {k : Fin 4} {i : Nat} (G : rz_Cx cl X cc n Ts own rm) (hd : decode cc pc = .ok (.iload_n k, 1)) (hi : (k : Nat) = i) : rz_Snd sh cl X bp RT (tz_iload i) pc (pc + 1) := by
  obtain ⟨⟨l, D, ad, cA, N0⟩, p, e, R, s, m, args, below, meth, c, Q, cells, slots, nL⟩ := X
  obtain ⟨⟨hx, hb, hml, hown, hts⟩, hK, hN, hce, hsl, hRm, hnL, hNw⟩ := G
  intro P J K hR hJ hk ls st μ h
  unfold tz_iload at h
  split at h
  · next hq => intro la H locs hl hP hD hS; exact lv_iload_n hx hb hd hi (rz_lg_at hl hq) (hk _ _ _ h la H locs hl hP hD hS)
  · exact h.elim
theorem rz_iload {i : Nat} (G : rz_Cx cl X cc n Ts own rm) (hd : decode cc pc = .ok (.iload i, 2)) : rz_Snd sh cl X bp RT (tz_iload i) pc (pc + 2) := by
  obtain ⟨⟨l, D, ad, cA, N0⟩, p, e, R, s, m, args, below, meth, c, Q, cells, slots, nL⟩ := X
  obtain ⟨⟨hx, hb, hml, hown, hts⟩, hK, hN, hce, hsl, hRm, hnL, hNw⟩ := G
  intro P J K hR hJ hk ls st μ h
  unfold tz_iload at h
  split at h
  · next hq => intro la H locs hl hP hD hS; exact lv_iload hx hb hd (rz_lg_at hl hq) (hk _ _ _ h la H locs hl hP hD hS)
  · exact h.elim
def tz_lload (i : Nat) : rz_T := fun _ _ K ls st μ => match rz_lg ls i with
  | some (.long x) => K ls (.long x :: st) μ
  | _ => False
theorem rz_lload_n {k : Fin 4} {i : Nat} (G : rz_Cx cl X cc n Ts own rm) (hd : decode cc pc = .ok (.lload_n k, 1)) (hi : (k : Nat) = i) : rz_Snd sh cl X bp RT (tz_lload i) pc (pc + 1) := by
  obtain ⟨⟨l, D, ad, cA, N0⟩, p, e, R, s, m, args, below, meth, c, Q, cells, slots, nL⟩ := X
  obtain ⟨⟨hx, hb, hml, hown, hts⟩, hK, hN, hce, hsl, hRm, hnL, hNw⟩ := G
  intro P J K hR hJ hk ls st μ h
  unfold tz_lload at h
  split at h
  · next hq => intro la H locs hl hP hD hS; exact lv_lload_n hx hb hd hi (rz_lg_at hl hq) (hk _ _ _ h la H locs hl hP hD hS)
  · exact h.elim
theorem rz_lload {i : Nat} (G : rz_Cx cl X cc n Ts own rm) (hd : decode cc pc = .ok (.lload i, 2)) : rz_Snd sh cl X bp RT (tz_lload i) pc (pc + 2) := by
  obtain ⟨⟨l, D, ad, cA, N0⟩, p, e, R, s, m, args, below, meth, c, Q, cells, slots, nL⟩ := X
  obtain ⟨⟨hx, hb, hml, hown, hts⟩, hK, hN, hce, hsl, hRm, hnL, hNw⟩ := G
  intro P J K hR hJ hk ls st μ h
  unfold tz_lload at h
  split at h
  · next hq => intro la H locs hl hP hD hS; exact lv_lload hx hb hd (rz_lg_at hl hq) (hk _ _ _ h la H locs hl hP hD hS)
  · exact h.elim
def tz_aload (i : Nat) : rz_T := fun _ _ K ls st μ => match rz_lg ls i with
  | some (.ref x) => K ls (.ref x :: st) μ
  | _ => False
theorem rz_aload_n {k : Fin 4} {i : Nat} (G : rz_Cx cl X cc n Ts own rm) (hd : decode cc pc = .ok (.aload_n k, 1)) (hi : (k : Nat) = i) : rz_Snd sh cl X bp RT (tz_aload i) pc (pc + 1) := by
  obtain ⟨⟨l, D, ad, cA, N0⟩, p, e, R, s, m, args, below, meth, c, Q, cells, slots, nL⟩ := X
  obtain ⟨⟨hx, hb, hml, hown, hts⟩, hK, hN, hce, hsl, hRm, hnL, hNw⟩ := G
  intro P J K hR hJ hk ls st μ h
  unfold tz_aload at h
  split at h
  · next hq => intro la H locs hl hP hD hS; exact lv_aload_n hx hb hd hi (rz_lg_at hl hq) (hk _ _ _ h la H locs hl hP hD hS)
  · exact h.elim
theorem rz_aload {i : Nat} (G : rz_Cx cl X cc n Ts own rm) (hd : decode cc pc = .ok (.aload i, 2)) : rz_Snd sh cl X bp RT (tz_aload i) pc (pc + 2) := by
  obtain ⟨⟨l, D, ad, cA, N0⟩, p, e, R, s, m, args, below, meth, c, Q, cells, slots, nL⟩ := X
  obtain ⟨⟨hx, hb, hml, hown, hts⟩, hK, hN, hce, hsl, hRm, hnL, hNw⟩ := G
  intro P J K hR hJ hk ls st μ h
  unfold tz_aload at h
  split at h
  · next hq => intro la H locs hl hP hD hS; exact lv_aload hx hb hd (rz_lg_at hl hq) (hk _ _ _ h la H locs hl hP hD hS)
  · exact h.elim
def tz_istore (i : Nat) : rz_T := fun _ _ K ls st μ => match st, rz_free ls i with
  | .int x :: r, true => K (rz_ls ls i (.int x)) r μ
  | _, _ => False
theorem rz_istore_n {k : Fin 4} {i : Nat} (G : rz_Cx cl X cc n Ts own rm) (hd : decode cc pc = .ok (.istore_n k, 1)) (hi : (k : Nat) = i) (hn : i < n) : rz_Snd sh cl X bp RT (tz_istore i) pc (pc + 1) := by
  obtain ⟨⟨l, D, ad, cA, N0⟩, p, e, R, s, m, args, below, meth, c, Q, cells, slots, nL⟩ := X
  obtain ⟨⟨hx, hb, hml, hown, hts⟩, hK, hN, hce, hsl, hRm, hnL, hNw⟩ := G
  intro P J K hR hJ hk ls st μ h
  unfold tz_istore at h
  split at h
  · next hq => intro la H locs hl hP hD hS; exact lv_istore_n hx hb hd hi hl (by rw [hnL]; exact hn) rfl (fun la' hl' => hk _ _ _ h la' H locs (rz_stored hq hl') hP hD hS)
  · exact h.elim
theorem rz_istore {i : Nat} (G : rz_Cx cl X cc n Ts own rm) (hd : decode cc pc = .ok (.istore i, 2)) (hn : i < n) : rz_Snd sh cl X bp RT (tz_istore i) pc (pc + 2) := by
  obtain ⟨⟨l, D, ad, cA, N0⟩, p, e, R, s, m, args, below, meth, c, Q, cells, slots, nL⟩ := X
  obtain ⟨⟨hx, hb, hml, hown, hts⟩, hK, hN, hce, hsl, hRm, hnL, hNw⟩ := G
  intro P J K hR hJ hk ls st μ h
  unfold tz_istore at h
  split at h
  · next hq => intro la H locs hl hP hD hS; exact lv_istore hx hb hd hl (by rw [hnL]; exact hn) rfl (fun la' hl' => hk _ _ _ h la' H locs (rz_stored hq hl') hP hD hS)
  · exact h.elim
def tz_astore (i : Nat) : rz_T := fun _ _ K ls st μ => match st, rz_free ls i with
  | .ref x :: r, true => K (rz_ls ls i (.ref x)) r μ
  | _, _ => False
theorem rz_astore_n {k : Fin 4} {i : Nat} (G : rz_Cx cl X cc n Ts own rm) (hd : decode cc pc = .ok (.astore_n k, 1)) (hi : (k : Nat) = i) (hn : i < n) : rz_Snd sh cl X bp RT (tz_astore i) pc (pc + 1) := by
  obtain ⟨⟨l, D, ad, cA, N0⟩, p, e, R, s, m, args, below, meth, c, Q, cells, slots, nL⟩ := X
  obtain ⟨⟨hx, hb, hml, hown, hts⟩, hK, hN, hce, hsl, hRm, hnL, hNw⟩ := G
  intro P J K hR hJ hk ls st μ h
  unfold tz_astore at h
  split at h
  · next hq => intro la H locs hl hP hD hS; exact lv_astore_n hx hb hd hi hl (by rw [hnL]; exact hn) rfl (fun la' hl' => hk _ _ _ h la' H locs (rz_stored hq hl') hP hD hS)
  · exact h.elim
theorem rz_astore {i : Nat} (G : rz_Cx cl X cc n Ts own rm) (hd : decode cc pc = .ok (.astore i, 2)) (hn : i < n) : rz_Snd sh cl X bp RT (tz_astore i) pc (pc + 2) := by
  obtain ⟨⟨l, D, ad, cA, N0⟩, p, e, R, s, m, args, below, meth, c, Q, cells, slots, nL⟩ := X
  obtain ⟨⟨hx, hb, hml, hown, hts⟩, hK, hN, hce, hsl, hRm, hnL, hNw⟩ := G
  intro P J K hR hJ hk ls st μ h
  unfold tz_astore at h
  split at h
  · next hq => intro la H locs hl hP hD hS; exact lv_astore hx hb hd hl (by rw [hnL]; exact hn) rfl (fun la' hl' => hk _ _ _ h la' H locs (rz_stored hq hl') hP hD hS)
  · exact h.elim
def tz_iinc (i : Nat) (d : Int32) : rz_T := fun _ _ K ls st μ => match rz_lg ls i, rz_free ls i with
  | some (.int x), true => K (rz_ls ls i (.int (x + d))) st μ
  | _, _ => False
theorem rz_iinc {i : Nat} {k : Int} {d : Int32} (G : rz_Cx cl X cc n Ts own rm) (hd : decode cc pc = .ok (.iinc i k, 3)) (hv : Int32.ofInt k = d) (hn : i < n) : rz_Snd sh cl X bp RT (tz_iinc i d) pc (pc + 3) := by
  obtain ⟨⟨l, D, ad, cA, N0⟩, p, e, R, s, m, args, below, meth, c, Q, cells, slots, nL⟩ := X
  obtain ⟨⟨hx, hb, hml, hown, hts⟩, hK, hN, hce, hsl, hRm, hnL, hNw⟩ := G
  intro P J K hR hJ hk ls st μ h
  unfold tz_iinc at h
  split at h
  · next x hq hf =>
    intro la H locs hl hP hD hS
    obtain ⟨j, hj⟩ := List.getElem?_of_mem ((rz_ps_mem ad ls 0 (i, .int x)).mpr ⟨i, .int x, by rw [Nat.zero_add]; rfl, hq⟩)
    exact lv_iinc (v := x + d) hx hb hd hl hj (by rw [hv]) (by rw [hnL]; exact hn) rfl (fun la' hl' => hk _ _ _ h la' H locs (rz_stored (v := .int (x + d)) hf hl') hP hD hS)
  · exact h.elim
def tz_iadd : rz_T := fun P J K ls st μ => match st with
  | .int y :: .int x :: r => K ls (.int (x + y) :: r) μ
  | _ => False
theorem rz_iadd (G : rz_Cx cl X cc n Ts own rm) (hd : decode cc pc = .ok (.iadd, 1)) : rz_Snd sh cl X bp RT (tz_iadd) pc (pc + 1) := by
  obtain ⟨⟨l, D, ad, cA, N0⟩, p, e, R, s, m, args, below, meth, c, Q, cells, slots, nL⟩ := X
  obtain ⟨⟨hx, hb, hml, hown, hts⟩, hK, hN, hce, hsl, hRm, hnL, hNw⟩ := G
  intro P J K hR hJ hk ls st μ h
  unfold tz_iadd at h
  split at h
  · intro la H locs hl hP hD hS; exact lv_iadd hx hb hd (hk _ _ _ h la H locs hl hP hD hS)
  · exact h.elim
def tz_isub : rz_T := fun P J K ls st μ => match st with
  | .int y :: .int x :: r => K ls (.int (x - y) :: r) μ
  | _ => False
theorem rz_isub (G : rz_Cx cl X cc n Ts own rm) (hd : decode cc pc = .ok (.isub, 1)) : rz_Snd sh cl X bp RT (tz_isub) pc (pc + 1) := by
  obtain ⟨⟨l, D, ad, cA, N0⟩, p, e, R, s, m, args, below, meth, c, Q, cells, slots, nL⟩ := X
  obtain ⟨⟨hx, hb, hml, hown, hts⟩, hK, hN, hce, hsl, hRm, hnL, hNw⟩ := G
  intro P J K hR hJ hk ls st μ h
  unfold tz_isub at h
  split at h
  · intro la H locs hl hP hD hS; exact lv_isub hx hb hd (hk _ _ _ h la H locs hl hP hD hS)
  · exact h.elim
def tz_imul : rz_T := fun P J K ls st μ => match st with
  | .int y :: .int x :: r => K ls (.int (x * y) :: r) μ
  | _ => False
theorem rz_imul (G : rz_Cx cl X cc n Ts own rm) (hd : decode cc pc = .ok (.imul, 1)) : rz_Snd sh cl X bp RT (tz_imul) pc (pc + 1) := by
  obtain ⟨⟨l, D, ad, cA, N0⟩, p, e, R, s, m, args, below, meth, c, Q, cells, slots, nL⟩ := X
  obtain ⟨⟨hx, hb, hml, hown, hts⟩, hK, hN, hce, hsl, hRm, hnL, hNw⟩ := G
  intro P J K hR hJ hk ls st μ h
  unfold tz_imul at h
  split at h
  · intro la H locs hl hP hD hS; exact lv_imul hx hb hd (hk _ _ _ h la H locs hl hP hD hS)
  · exact h.elim
def tz_iand : rz_T := fun P J K ls st μ => match st with
  | .int y :: .int x :: r => K ls (.int (x &&& y) :: r) μ
  | _ => False
theorem rz_iand (G : rz_Cx cl X cc n Ts own rm) (hd : decode cc pc = .ok (.iand, 1)) : rz_Snd sh cl X bp RT (tz_iand) pc (pc + 1) := by
  obtain ⟨⟨l, D, ad, cA, N0⟩, p, e, R, s, m, args, below, meth, c, Q, cells, slots, nL⟩ := X
  obtain ⟨⟨hx, hb, hml, hown, hts⟩, hK, hN, hce, hsl, hRm, hnL, hNw⟩ := G
  intro P J K hR hJ hk ls st μ h
  unfold tz_iand at h
  split at h
  · intro la H locs hl hP hD hS; exact lv_iand hx hb hd (hk _ _ _ h la H locs hl hP hD hS)
  · exact h.elim
def tz_ior : rz_T := fun P J K ls st μ => match st with
  | .int y :: .int x :: r => K ls (.int (x ||| y) :: r) μ
  | _ => False
theorem rz_ior (G : rz_Cx cl X cc n Ts own rm) (hd : decode cc pc = .ok (.ior, 1)) : rz_Snd sh cl X bp RT (tz_ior) pc (pc + 1) := by
  obtain ⟨⟨l, D, ad, cA, N0⟩, p, e, R, s, m, args, below, meth, c, Q, cells, slots, nL⟩ := X
  obtain ⟨⟨hx, hb, hml, hown, hts⟩, hK, hN, hce, hsl, hRm, hnL, hNw⟩ := G
  intro P J K hR hJ hk ls st μ h
  unfold tz_ior at h
  split at h
  · intro la H locs hl hP hD hS; exact lv_ior hx hb hd (hk _ _ _ h la H locs hl hP hD hS)
  · exact h.elim
def tz_ixor : rz_T := fun P J K ls st μ => match st with
  | .int y :: .int x :: r => K ls (.int (x ^^^ y) :: r) μ
  | _ => False
theorem rz_ixor (G : rz_Cx cl X cc n Ts own rm) (hd : decode cc pc = .ok (.ixor, 1)) : rz_Snd sh cl X bp RT (tz_ixor) pc (pc + 1) := by
  obtain ⟨⟨l, D, ad, cA, N0⟩, p, e, R, s, m, args, below, meth, c, Q, cells, slots, nL⟩ := X
  obtain ⟨⟨hx, hb, hml, hown, hts⟩, hK, hN, hce, hsl, hRm, hnL, hNw⟩ := G
  intro P J K hR hJ hk ls st μ h
  unfold tz_ixor at h
  split at h
  · intro la H locs hl hP hD hS; exact lv_ixor hx hb hd (hk _ _ _ h la H locs hl hP hD hS)
  · exact h.elim
def tz_ishl : rz_T := fun P J K ls st μ => match st with
  | .int y :: .int x :: r => K ls (.int (x <<< (y &&& 31)) :: r) μ
  | _ => False
theorem rz_ishl (G : rz_Cx cl X cc n Ts own rm) (hd : decode cc pc = .ok (.ishl, 1)) : rz_Snd sh cl X bp RT (tz_ishl) pc (pc + 1) := by
  obtain ⟨⟨l, D, ad, cA, N0⟩, p, e, R, s, m, args, below, meth, c, Q, cells, slots, nL⟩ := X
  obtain ⟨⟨hx, hb, hml, hown, hts⟩, hK, hN, hce, hsl, hRm, hnL, hNw⟩ := G
  intro P J K hR hJ hk ls st μ h
  unfold tz_ishl at h
  split at h
  · intro la H locs hl hP hD hS; exact lv_ishl hx hb hd (hk _ _ _ h la H locs hl hP hD hS)
  · exact h.elim
def tz_ishr : rz_T := fun P J K ls st μ => match st with
  | .int y :: .int x :: r => K ls (.int (x >>> (y &&& 31)) :: r) μ
  | _ => False
theorem rz_ishr (G : rz_Cx cl X cc n Ts own rm) (hd : decode cc pc = .ok (.ishr, 1)) : rz_Snd sh cl X bp RT (tz_ishr) pc (pc + 1) := by
  obtain ⟨⟨l, D, ad, cA, N0⟩, p, e, R, s, m, args, below, meth, c, Q, cells, slots, nL⟩ := X
  obtain ⟨⟨hx, hb, hml, hown, hts⟩, hK, hN, hce, hsl, hRm, hnL, hNw⟩ := G
  intro P J K hR hJ hk ls st μ h
  unfold tz_ishr at h
  split at h
  · intro la H locs hl hP hD hS; exact lv_ishr hx hb hd (hk _ _ _ h la H locs hl hP hD hS)
  · exact h.elim
def tz_iushr : rz_T := fun P J K ls st μ => match st with
  | .int y :: .int x :: r => K ls (.int ((x.toUInt32 >>> (y.toUInt32 &&& Int32.toUInt32 31)).toInt32) :: r) μ
  | _ => False
theorem rz_iushr (G : rz_Cx cl X cc n Ts own rm) (hd : decode cc pc = .ok (.iushr, 1)) : rz_Snd sh cl X bp RT (tz_iushr) pc (pc + 1) := by
  obtain ⟨⟨l, D, ad, cA, N0⟩, p, e, R, s, m, args, below, meth, c, Q, cells, slots, nL⟩ := X
  obtain ⟨⟨hx, hb, hml, hown, hts⟩, hK, hN, hce, hsl, hRm, hnL, hNw⟩ := G
  intro P J K hR hJ hk ls st μ h
  unfold tz_iushr at h
  split at h
  · intro la H locs hl hP hD hS; exact lv_iushr hx hb hd rfl (hk _ _ _ h la H locs hl hP hD hS)
  · exact h.elim
def tz_lushr : rz_T := fun P J K ls st μ => match st with
  | .int y :: .long x :: r => K ls (.long ((x.toUInt64 >>> (y.toInt64.toUInt64 &&& Int64.toUInt64 63)).toInt64) :: r) μ
  | _ => False
theorem rz_lushr (G : rz_Cx cl X cc n Ts own rm) (hd : decode cc pc = .ok (.lushr, 1)) : rz_Snd sh cl X bp RT (tz_lushr) pc (pc + 1) := by
  obtain ⟨⟨l, D, ad, cA, N0⟩, p, e, R, s, m, args, below, meth, c, Q, cells, slots, nL⟩ := X
  obtain ⟨⟨hx, hb, hml, hown, hts⟩, hK, hN, hce, hsl, hRm, hnL, hNw⟩ := G
  intro P J K hR hJ hk ls st μ h
  unfold tz_lushr at h
  split at h
  · intro la H locs hl hP hD hS; exact lv_lushr hx hb hd rfl (hk _ _ _ h la H locs hl hP hD hS)
  · exact h.elim
def tz_lshl : rz_T := fun P J K ls st μ => match st with
  | .int y :: .long x :: r => K ls (.long (x <<< (y.toInt64 &&& 63)) :: r) μ
  | _ => False
theorem rz_lshl (G : rz_Cx cl X cc n Ts own rm) (hd : decode cc pc = .ok (.lshl, 1)) : rz_Snd sh cl X bp RT (tz_lshl) pc (pc + 1) := by
  obtain ⟨⟨l, D, ad, cA, N0⟩, p, e, R, s, m, args, below, meth, c, Q, cells, slots, nL⟩ := X
  obtain ⟨⟨hx, hb, hml, hown, hts⟩, hK, hN, hce, hsl, hRm, hnL, hNw⟩ := G
  intro P J K hR hJ hk ls st μ h
  unfold tz_lshl at h
  split at h
  · intro la H locs hl hP hD hS; exact lv_lshl hx hb hd rfl (hk _ _ _ h la H locs hl hP hD hS)
  · exact h.elim
def tz_lshr : rz_T := fun P J K ls st μ => match st with
  | .int y :: .long x :: r => K ls (.long (x >>> (y.toInt64 &&& 63)) :: r) μ
  | _ => False
theorem rz_lshr (G : rz_Cx cl X cc n Ts own rm) (hd : decode cc pc = .ok (.lshr, 1)) : rz_Snd sh cl X bp RT (tz_lshr) pc (pc + 1) := by
  obtain ⟨⟨l, D, ad, cA, N0⟩, p, e, R, s, m, args, below, meth, c, Q, cells, slots, nL⟩ := X
  obtain ⟨⟨hx, hb, hml, hown, hts⟩, hK, hN, hce, hsl, hRm, hnL, hNw⟩ := G
  intro P J K hR hJ hk ls st μ h
  unfold tz_lshr at h
  split at h
  · intro la H locs hl hP hD hS; exact lv_lshr hx hb hd rfl (hk _ _ _ h la H locs hl hP hD hS)
  · exact h.elim
def tz_land : rz_T := fun P J K ls st μ => match st with
  | .long y :: .long x :: r => K ls (.long (x &&& y) :: r) μ
  | _ => False
theorem rz_land (G : rz_Cx cl X cc n Ts own rm) (hd : decode cc pc = .ok (.land, 1)) : rz_Snd sh cl X bp RT (tz_land) pc (pc + 1) := by
  obtain ⟨⟨l, D, ad, cA, N0⟩, p, e, R, s, m, args, below, meth, c, Q, cells, slots, nL⟩ := X
  obtain ⟨⟨hx, hb, hml, hown, hts⟩, hK, hN, hce, hsl, hRm, hnL, hNw⟩ := G
  intro P J K hR hJ hk ls st μ h
  unfold tz_land at h
  split at h
  · intro la H locs hl hP hD hS; exact lv_land hx hb hd (hk _ _ _ h la H locs hl hP hD hS)
  · exact h.elim
def tz_lor : rz_T := fun P J K ls st μ => match st with
  | .long y :: .long x :: r => K ls (.long (x ||| y) :: r) μ
  | _ => False
theorem rz_lor (G : rz_Cx cl X cc n Ts own rm) (hd : decode cc pc = .ok (.lor, 1)) : rz_Snd sh cl X bp RT (tz_lor) pc (pc + 1) := by
  obtain ⟨⟨l, D, ad, cA, N0⟩, p, e, R, s, m, args, below, meth, c, Q, cells, slots, nL⟩ := X
  obtain ⟨⟨hx, hb, hml, hown, hts⟩, hK, hN, hce, hsl, hRm, hnL, hNw⟩ := G
  intro P J K hR hJ hk ls st μ h
  unfold tz_lor at h
  split at h
  · intro la H locs hl hP hD hS; exact lv_lor hx hb hd (hk _ _ _ h la H locs hl hP hD hS)
  · exact h.elim
def tz_lxor : rz_T := fun P J K ls st μ => match st with
  | .long y :: .long x :: r => K ls (.long (x ^^^ y) :: r) μ
  | _ => False
theorem rz_lxor (G : rz_Cx cl X cc n Ts own rm) (hd : decode cc pc = .ok (.lxor, 1)) : rz_Snd sh cl X bp RT (tz_lxor) pc (pc + 1) := by
  obtain ⟨⟨l, D, ad, cA, N0⟩, p, e, R, s, m, args, below, meth, c, Q, cells, slots, nL⟩ := X
  obtain ⟨⟨hx, hb, hml, hown, hts⟩, hK, hN, hce, hsl, hRm, hnL, hNw⟩ := G
  intro P J K hR hJ hk ls st μ h
  unfold tz_lxor at h
  split at h
  · intro la H locs hl hP hD hS; exact lv_lxor hx hb hd (hk _ _ _ h la H locs hl hP hD hS)
  · exact h.elim
def tz_ladd : rz_T := fun P J K ls st μ => match st with
  | .long y :: .long x :: r => K ls (.long (x + y) :: r) μ
  | _ => False
theorem rz_ladd (G : rz_Cx cl X cc n Ts own rm) (hd : decode cc pc = .ok (.ladd, 1)) : rz_Snd sh cl X bp RT (tz_ladd) pc (pc + 1) := by
  obtain ⟨⟨l, D, ad, cA, N0⟩, p, e, R, s, m, args, below, meth, c, Q, cells, slots, nL⟩ := X
  obtain ⟨⟨hx, hb, hml, hown, hts⟩, hK, hN, hce, hsl, hRm, hnL, hNw⟩ := G
  intro P J K hR hJ hk ls st μ h
  unfold tz_ladd at h
  split at h
  · intro la H locs hl hP hD hS; exact lv_ladd hx hb hd (hk _ _ _ h la H locs hl hP hD hS)
  · exact h.elim
def tz_l2i : rz_T := fun P J K ls st μ => match st with
  | .long x :: r => K ls (.int x.toInt32 :: r) μ
  | _ => False
theorem rz_l2i (G : rz_Cx cl X cc n Ts own rm) (hd : decode cc pc = .ok (.l2i, 1)) : rz_Snd sh cl X bp RT (tz_l2i) pc (pc + 1) := by
  obtain ⟨⟨l, D, ad, cA, N0⟩, p, e, R, s, m, args, below, meth, c, Q, cells, slots, nL⟩ := X
  obtain ⟨⟨hx, hb, hml, hown, hts⟩, hK, hN, hce, hsl, hRm, hnL, hNw⟩ := G
  intro P J K hR hJ hk ls st μ h
  unfold tz_l2i at h
  split at h
  · intro la H locs hl hP hD hS; exact lv_l2i hx hb hd rfl (hk _ _ _ h la H locs hl hP hD hS)
  · exact h.elim
def tz_i2l : rz_T := fun P J K ls st μ => match st with
  | .int x :: r => K ls (.long x.toInt64 :: r) μ
  | _ => False
theorem rz_i2l (G : rz_Cx cl X cc n Ts own rm) (hd : decode cc pc = .ok (.i2l, 1)) : rz_Snd sh cl X bp RT (tz_i2l) pc (pc + 1) := by
  obtain ⟨⟨l, D, ad, cA, N0⟩, p, e, R, s, m, args, below, meth, c, Q, cells, slots, nL⟩ := X
  obtain ⟨⟨hx, hb, hml, hown, hts⟩, hK, hN, hce, hsl, hRm, hnL, hNw⟩ := G
  intro P J K hR hJ hk ls st μ h
  unfold tz_i2l at h
  split at h
  · intro la H locs hl hP hD hS; exact lv_i2l hx hb hd rfl (hk _ _ _ h la H locs hl hP hD hS)
  · exact h.elim
def tz_ineg : rz_T := fun P J K ls st μ => match st with
  | .int x :: r => K ls (.int (-x) :: r) μ
  | _ => False
theorem rz_ineg (G : rz_Cx cl X cc n Ts own rm) (hd : decode cc pc = .ok (.ineg, 1)) : rz_Snd sh cl X bp RT (tz_ineg) pc (pc + 1) := by
  obtain ⟨⟨l, D, ad, cA, N0⟩, p, e, R, s, m, args, below, meth, c, Q, cells, slots, nL⟩ := X
  obtain ⟨⟨hx, hb, hml, hown, hts⟩, hK, hN, hce, hsl, hRm, hnL, hNw⟩ := G
  intro P J K hR hJ hk ls st μ h
  unfold tz_ineg at h
  split at h
  · intro la H locs hl hP hD hS; exact lv_ineg hx hb hd (hk _ _ _ h la H locs hl hP hD hS)
  · exact h.elim
def tz_idiv : rz_T := fun P J K ls st μ => match st with
  | .int y :: .int x :: r => ¬ y = 0 ∧ K ls (.int (x / y) :: r) μ
  | _ => False
theorem rz_idiv (G : rz_Cx cl X cc n Ts own rm) (hd : decode cc pc = .ok (.idiv, 1)) : rz_Snd sh cl X bp RT (tz_idiv) pc (pc + 1) := by
  obtain ⟨⟨l, D, ad, cA, N0⟩, p, e, R, s, m, args, below, meth, c, Q, cells, slots, nL⟩ := X
  obtain ⟨⟨hx, hb, hml, hown, hts⟩, hK, hN, hce, hsl, hRm, hnL, hNw⟩ := G
  intro P J K hR hJ hk ls st μ h
  unfold tz_idiv at h
  split at h
  · intro la H locs hl hP hD hS; exact lv_idiv hx hb hd h.1 (hk _ _ _ h.2 la H locs hl hP hD hS)
  · exact h.elim
def tz_irem : rz_T := fun P J K ls st μ => match st with
  | .int y :: .int x :: r => ¬ y = 0 ∧ K ls (.int (x - x / y * y) :: r) μ
  | _ => False
theorem rz_irem (G : rz_Cx cl X cc n Ts own rm) (hd : decode cc pc = .ok (.irem, 1)) : rz_Snd sh cl X bp RT (tz_irem) pc (pc + 1) := by
  obtain ⟨⟨l, D, ad, cA, N0⟩, p, e, R, s, m, args, below, meth, c, Q, cells, slots, nL⟩ := X
  obtain ⟨⟨hx, hb, hml, hown, hts⟩, hK, hN, hce, hsl, hRm, hnL, hNw⟩ := G
  intro P J K hR hJ hk ls st μ h
  unfold tz_irem at h
  split at h
  · intro la H locs hl hP hD hS; exact lv_irem hx hb hd h.1 (hk _ _ _ h.2 la H locs hl hP hD hS)
  · exact h.elim
def tz_ldc2 (v : Int64) : rz_T := fun _ _ K ls st μ => K ls (.long v :: st) μ
theorem rz_ldc2 {k : Nat} {v : Int64} (G : rz_Cx cl X cc n Ts own rm) (hc : Cond.constantLong own k v ∈ Ts) (hd : decode cc pc = .ok (.ldc2_w k, 3)) : rz_Snd sh cl X bp RT (tz_ldc2 v) pc (pc + 3) := by
  obtain ⟨⟨l, D, ad, cA, N0⟩, p, e, R, s, m, args, below, meth, c, Q, cells, slots, nL⟩ := X
  obtain ⟨⟨hx, hb, hml, hown, hts⟩, hK, hN, hce, hsl, hRm, hnL, hNw⟩ := G
  intro P J K hR hJ hk ls st μ h la H locs hl hP hD hS
  exact lv_ldc2 hx hb hown (hts _ hc) hd (hk _ _ _ h la H locs hl hP hD hS)
def rz_one (v : Value) : Bool := match v with
  | .long _ => false
  | .double _ => false
  | _ => true
theorem rz_one_cat {ad : Nat → Nat} {v : Value} (h : rz_one v = true) : (rz_v ad v).category = 1 := by cases v <;> first | rfl | cases h
def tz_dup : rz_T := fun _ _ K ls st μ => match st with
  | va :: r => (match rz_one va with
    | true => K ls (va :: va :: r) μ
    | false => False)
  | _ => False
theorem rz_dup (G : rz_Cx cl X cc n Ts own rm) (hd : decode cc pc = .ok (.dup, 1)) : rz_Snd sh cl X bp RT tz_dup pc (pc + 1) := by
  obtain ⟨⟨l, D, ad, cA, N0⟩, p, e, R, s, m, args, below, meth, c, Q, cells, slots, nL⟩ := X
  obtain ⟨⟨hx, hb, hml, hown, hts⟩, hK, hN, hce, hsl, hRm, hnL, hNw⟩ := G
  intro P J K hR hJ hk ls st μ h
  unfold tz_dup at h
  split at h
  · split at h
    · next hq =>
      have h1 := hq
      intro la H locs hl hP hD hS
      exact lv_dup hx hb hd (rz_one_cat h1) (hk _ _ _ h la H locs hl hP hD hS)
    · exact h.elim
  · exact h.elim
def tz_pop : rz_T := fun _ _ K ls st μ => match st with
  | va :: r => (match rz_one va with
    | true => K ls (r) μ
    | false => False)
  | _ => False
theorem rz_pop (G : rz_Cx cl X cc n Ts own rm) (hd : decode cc pc = .ok (.pop, 1)) : rz_Snd sh cl X bp RT tz_pop pc (pc + 1) := by
  obtain ⟨⟨l, D, ad, cA, N0⟩, p, e, R, s, m, args, below, meth, c, Q, cells, slots, nL⟩ := X
  obtain ⟨⟨hx, hb, hml, hown, hts⟩, hK, hN, hce, hsl, hRm, hnL, hNw⟩ := G
  intro P J K hR hJ hk ls st μ h
  unfold tz_pop at h
  split at h
  · split at h
    · next hq =>
      have h1 := hq
      intro la H locs hl hP hD hS
      exact lv_pop hx hb hd (rz_one_cat h1) (hk _ _ _ h la H locs hl hP hD hS)
    · exact h.elim
  · exact h.elim
def tz_dup_x1 : rz_T := fun _ _ K ls st μ => match st with
  | va :: vb :: r => (match rz_one va && rz_one vb with
    | true => K ls (va :: vb :: va :: r) μ
    | false => False)
  | _ => False
theorem rz_dup_x1 (G : rz_Cx cl X cc n Ts own rm) (hd : decode cc pc = .ok (.dup_x1, 1)) : rz_Snd sh cl X bp RT tz_dup_x1 pc (pc + 1) := by
  obtain ⟨⟨l, D, ad, cA, N0⟩, p, e, R, s, m, args, below, meth, c, Q, cells, slots, nL⟩ := X
  obtain ⟨⟨hx, hb, hml, hown, hts⟩, hK, hN, hce, hsl, hRm, hnL, hNw⟩ := G
  intro P J K hR hJ hk ls st μ h
  unfold tz_dup_x1 at h
  split at h
  · split at h
    · next hq =>
      obtain ⟨h1, h2⟩ := Bool.and_eq_true_iff.mp hq
      intro la H locs hl hP hD hS
      exact lv_dup_x1 hx hb hd (rz_one_cat h1) (rz_one_cat h2) (hk _ _ _ h la H locs hl hP hD hS)
    · exact h.elim
  · exact h.elim
def tz_dup_x2 : rz_T := fun _ _ K ls st μ => match st with
  | va :: vb :: vd :: r => (match rz_one va && rz_one vb && rz_one vd with
    | true => K ls (va :: vb :: vd :: va :: r) μ
    | false => False)
  | _ => False
theorem rz_dup_x2 (G : rz_Cx cl X cc n Ts own rm) (hd : decode cc pc = .ok (.dup_x2, 1)) : rz_Snd sh cl X bp RT tz_dup_x2 pc (pc + 1) := by
  obtain ⟨⟨l, D, ad, cA, N0⟩, p, e, R, s, m, args, below, meth, c, Q, cells, slots, nL⟩ := X
  obtain ⟨⟨hx, hb, hml, hown, hts⟩, hK, hN, hce, hsl, hRm, hnL, hNw⟩ := G
  intro P J K hR hJ hk ls st μ h
  unfold tz_dup_x2 at h
  split at h
  · split at h
    · next hq =>
      obtain ⟨h12, h3⟩ := Bool.and_eq_true_iff.mp hq; obtain ⟨h1, h2⟩ := Bool.and_eq_true_iff.mp h12
      intro la H locs hl hP hD hS
      exact lv_dup_x2 hx hb hd (rz_one_cat h1) (rz_one_cat h2) (rz_one_cat h3) (hk _ _ _ h la H locs hl hP hD hS)
    · exact h.elim
  · exact h.elim
def tz_dup2 : rz_T := fun _ _ K ls st μ => match st with
  | va :: vb :: r => (match rz_one va && rz_one vb with
    | true => K ls (va :: vb :: va :: vb :: r) μ
    | false => False)
  | _ => False
theorem rz_dup2 (G : rz_Cx cl X cc n Ts own rm) (hd : decode cc pc = .ok (.dup2, 1)) : rz_Snd sh cl X bp RT tz_dup2 pc (pc + 1) := by
  obtain ⟨⟨l, D, ad, cA, N0⟩, p, e, R, s, m, args, below, meth, c, Q, cells, slots, nL⟩ := X
  obtain ⟨⟨hx, hb, hml, hown, hts⟩, hK, hN, hce, hsl, hRm, hnL, hNw⟩ := G
  intro P J K hR hJ hk ls st μ h
  unfold tz_dup2 at h
  split at h
  · split at h
    · next hq =>
      obtain ⟨h1, h2⟩ := Bool.and_eq_true_iff.mp hq
      intro la H locs hl hP hD hS
      exact lv_dup2_11 hx hb hd (rz_one_cat h1) (rz_one_cat h2) (hk _ _ _ h la H locs hl hP hD hS)
    · exact h.elim
  · exact h.elim
def tz_icmp_eq (b : Nat) : rz_T := fun _ J K ls st μ => match st with
  | .int y :: .int x :: r => (x = y → J b ls r μ) ∧ (¬ x = y → K ls r μ)
  | _ => False
theorem rz_icmp_eq {off : Int} {b : Nat} (G : rz_Cx cl X cc n Ts own rm) (hd : decode cc pc = .ok (.if_icmp .eq off, 3)) (ht : (pc : Int) + off = (bp b : Int)) : rz_Snd sh cl X bp RT (tz_icmp_eq b) pc (pc + 3) := by
  obtain ⟨⟨l, D, ad, cA, N0⟩, p, e, R, s, m, args, below, meth, c, Q, cells, slots, nL⟩ := X
  obtain ⟨⟨hx, hb, hml, hown, hts⟩, hK, hN, hce, hsl, hRm, hnL, hNw⟩ := G
  intro P J K hR hJ hk ls st μ h
  unfold tz_icmp_eq at h
  split at h
  · intro la H locs hl hP hD hS; exact lv_icmp_eq hx hb hd ht (fun q => hJ b _ _ _ (h.1 q) la H locs hl hP hD hS) (fun q => hk _ _ _ (h.2 q) la H locs hl hP hD hS)
  · exact h.elim
def tz_icmp_ne (b : Nat) : rz_T := fun _ J K ls st μ => match st with
  | .int y :: .int x :: r => (¬ x = y → J b ls r μ) ∧ (x = y → K ls r μ)
  | _ => False
theorem rz_icmp_ne {off : Int} {b : Nat} (G : rz_Cx cl X cc n Ts own rm) (hd : decode cc pc = .ok (.if_icmp .ne off, 3)) (ht : (pc : Int) + off = (bp b : Int)) : rz_Snd sh cl X bp RT (tz_icmp_ne b) pc (pc + 3) := by
  obtain ⟨⟨l, D, ad, cA, N0⟩, p, e, R, s, m, args, below, meth, c, Q, cells, slots, nL⟩ := X
  obtain ⟨⟨hx, hb, hml, hown, hts⟩, hK, hN, hce, hsl, hRm, hnL, hNw⟩ := G
  intro P J K hR hJ hk ls st μ h
  unfold tz_icmp_ne at h
  split at h
  · intro la H locs hl hP hD hS; exact lv_icmp_ne hx hb hd ht (fun q => hJ b _ _ _ (h.1 q) la H locs hl hP hD hS) (fun q => hk _ _ _ (h.2 q) la H locs hl hP hD hS)
  · exact h.elim
def tz_icmp_lt (b : Nat) : rz_T := fun _ J K ls st μ => match st with
  | .int y :: .int x :: r => (x < y → J b ls r μ) ∧ (¬ x < y → K ls r μ)
  | _ => False
theorem rz_icmp_lt {off : Int} {b : Nat} (G : rz_Cx cl X cc n Ts own rm) (hd : decode cc pc = .ok (.if_icmp .lt off, 3)) (ht : (pc : Int) + off = (bp b : Int)) : rz_Snd sh cl X bp RT (tz_icmp_lt b) pc (pc + 3) := by
  obtain ⟨⟨l, D, ad, cA, N0⟩, p, e, R, s, m, args, below, meth, c, Q, cells, slots, nL⟩ := X
  obtain ⟨⟨hx, hb, hml, hown, hts⟩, hK, hN, hce, hsl, hRm, hnL, hNw⟩ := G
  intro P J K hR hJ hk ls st μ h
  unfold tz_icmp_lt at h
  split at h
  · intro la H locs hl hP hD hS; exact lv_icmp_lt hx hb hd ht (fun q => hJ b _ _ _ (h.1 q) la H locs hl hP hD hS) (fun q => hk _ _ _ (h.2 q) la H locs hl hP hD hS)
  · exact h.elim
def tz_icmp_ge (b : Nat) : rz_T := fun _ J K ls st μ => match st with
  | .int y :: .int x :: r => (y ≤ x → J b ls r μ) ∧ (¬ y ≤ x → K ls r μ)
  | _ => False
theorem rz_icmp_ge {off : Int} {b : Nat} (G : rz_Cx cl X cc n Ts own rm) (hd : decode cc pc = .ok (.if_icmp .ge off, 3)) (ht : (pc : Int) + off = (bp b : Int)) : rz_Snd sh cl X bp RT (tz_icmp_ge b) pc (pc + 3) := by
  obtain ⟨⟨l, D, ad, cA, N0⟩, p, e, R, s, m, args, below, meth, c, Q, cells, slots, nL⟩ := X
  obtain ⟨⟨hx, hb, hml, hown, hts⟩, hK, hN, hce, hsl, hRm, hnL, hNw⟩ := G
  intro P J K hR hJ hk ls st μ h
  unfold tz_icmp_ge at h
  split at h
  · intro la H locs hl hP hD hS; exact lv_icmp_ge hx hb hd ht (fun q => hJ b _ _ _ (h.1 q) la H locs hl hP hD hS) (fun q => hk _ _ _ (h.2 q) la H locs hl hP hD hS)
  · exact h.elim
def tz_icmp_gt (b : Nat) : rz_T := fun _ J K ls st μ => match st with
  | .int y :: .int x :: r => (y < x → J b ls r μ) ∧ (¬ y < x → K ls r μ)
  | _ => False
theorem rz_icmp_gt {off : Int} {b : Nat} (G : rz_Cx cl X cc n Ts own rm) (hd : decode cc pc = .ok (.if_icmp .gt off, 3)) (ht : (pc : Int) + off = (bp b : Int)) : rz_Snd sh cl X bp RT (tz_icmp_gt b) pc (pc + 3) := by
  obtain ⟨⟨l, D, ad, cA, N0⟩, p, e, R, s, m, args, below, meth, c, Q, cells, slots, nL⟩ := X
  obtain ⟨⟨hx, hb, hml, hown, hts⟩, hK, hN, hce, hsl, hRm, hnL, hNw⟩ := G
  intro P J K hR hJ hk ls st μ h
  unfold tz_icmp_gt at h
  split at h
  · intro la H locs hl hP hD hS; exact lv_icmp_gt hx hb hd ht (fun q => hJ b _ _ _ (h.1 q) la H locs hl hP hD hS) (fun q => hk _ _ _ (h.2 q) la H locs hl hP hD hS)
  · exact h.elim
def tz_icmp_le (b : Nat) : rz_T := fun _ J K ls st μ => match st with
  | .int y :: .int x :: r => (x ≤ y → J b ls r μ) ∧ (¬ x ≤ y → K ls r μ)
  | _ => False
theorem rz_icmp_le {off : Int} {b : Nat} (G : rz_Cx cl X cc n Ts own rm) (hd : decode cc pc = .ok (.if_icmp .le off, 3)) (ht : (pc : Int) + off = (bp b : Int)) : rz_Snd sh cl X bp RT (tz_icmp_le b) pc (pc + 3) := by
  obtain ⟨⟨l, D, ad, cA, N0⟩, p, e, R, s, m, args, below, meth, c, Q, cells, slots, nL⟩ := X
  obtain ⟨⟨hx, hb, hml, hown, hts⟩, hK, hN, hce, hsl, hRm, hnL, hNw⟩ := G
  intro P J K hR hJ hk ls st μ h
  unfold tz_icmp_le at h
  split at h
  · intro la H locs hl hP hD hS; exact lv_icmp_le hx hb hd ht (fun q => hJ b _ _ _ (h.1 q) la H locs hl hP hD hS) (fun q => hk _ _ _ (h.2 q) la H locs hl hP hD hS)
  · exact h.elim
def tz_if_eq (b : Nat) : rz_T := fun _ J K ls st μ => match st with
  | .int x :: r => (x = 0 → J b ls r μ) ∧ (¬ x = 0 → K ls r μ)
  | _ => False
theorem rz_if_eq {off : Int} {b : Nat} (G : rz_Cx cl X cc n Ts own rm) (hd : decode cc pc = .ok (.ifCond .eq off, 3)) (ht : (pc : Int) + off = (bp b : Int)) : rz_Snd sh cl X bp RT (tz_if_eq b) pc (pc + 3) := by
  obtain ⟨⟨l, D, ad, cA, N0⟩, p, e, R, s, m, args, below, meth, c, Q, cells, slots, nL⟩ := X
  obtain ⟨⟨hx, hb, hml, hown, hts⟩, hK, hN, hce, hsl, hRm, hnL, hNw⟩ := G
  intro P J K hR hJ hk ls st μ h
  unfold tz_if_eq at h
  split at h
  · intro la H locs hl hP hD hS; exact lv_if_eq hx hb hd ht (fun q => hJ b _ _ _ (h.1 q) la H locs hl hP hD hS) (fun q => hk _ _ _ (h.2 q) la H locs hl hP hD hS)
  · exact h.elim
def tz_if_ne (b : Nat) : rz_T := fun _ J K ls st μ => match st with
  | .int x :: r => (¬ x = 0 → J b ls r μ) ∧ (x = 0 → K ls r μ)
  | _ => False
theorem rz_if_ne {off : Int} {b : Nat} (G : rz_Cx cl X cc n Ts own rm) (hd : decode cc pc = .ok (.ifCond .ne off, 3)) (ht : (pc : Int) + off = (bp b : Int)) : rz_Snd sh cl X bp RT (tz_if_ne b) pc (pc + 3) := by
  obtain ⟨⟨l, D, ad, cA, N0⟩, p, e, R, s, m, args, below, meth, c, Q, cells, slots, nL⟩ := X
  obtain ⟨⟨hx, hb, hml, hown, hts⟩, hK, hN, hce, hsl, hRm, hnL, hNw⟩ := G
  intro P J K hR hJ hk ls st μ h
  unfold tz_if_ne at h
  split at h
  · intro la H locs hl hP hD hS; exact lv_if_ne hx hb hd ht (fun q => hJ b _ _ _ (h.1 q) la H locs hl hP hD hS) (fun q => hk _ _ _ (h.2 q) la H locs hl hP hD hS)
  · exact h.elim
def tz_if_lt (b : Nat) : rz_T := fun _ J K ls st μ => match st with
  | .int x :: r => (x < 0 → J b ls r μ) ∧ (¬ x < 0 → K ls r μ)
  | _ => False
theorem rz_if_lt {off : Int} {b : Nat} (G : rz_Cx cl X cc n Ts own rm) (hd : decode cc pc = .ok (.ifCond .lt off, 3)) (ht : (pc : Int) + off = (bp b : Int)) : rz_Snd sh cl X bp RT (tz_if_lt b) pc (pc + 3) := by
  obtain ⟨⟨l, D, ad, cA, N0⟩, p, e, R, s, m, args, below, meth, c, Q, cells, slots, nL⟩ := X
  obtain ⟨⟨hx, hb, hml, hown, hts⟩, hK, hN, hce, hsl, hRm, hnL, hNw⟩ := G
  intro P J K hR hJ hk ls st μ h
  unfold tz_if_lt at h
  split at h
  · intro la H locs hl hP hD hS; exact lv_if_lt hx hb hd ht (fun q => hJ b _ _ _ (h.1 q) la H locs hl hP hD hS) (fun q => hk _ _ _ (h.2 q) la H locs hl hP hD hS)
  · exact h.elim
def tz_if_ge (b : Nat) : rz_T := fun _ J K ls st μ => match st with
  | .int x :: r => (0 ≤ x → J b ls r μ) ∧ (¬ 0 ≤ x → K ls r μ)
  | _ => False
theorem rz_if_ge {off : Int} {b : Nat} (G : rz_Cx cl X cc n Ts own rm) (hd : decode cc pc = .ok (.ifCond .ge off, 3)) (ht : (pc : Int) + off = (bp b : Int)) : rz_Snd sh cl X bp RT (tz_if_ge b) pc (pc + 3) := by
  obtain ⟨⟨l, D, ad, cA, N0⟩, p, e, R, s, m, args, below, meth, c, Q, cells, slots, nL⟩ := X
  obtain ⟨⟨hx, hb, hml, hown, hts⟩, hK, hN, hce, hsl, hRm, hnL, hNw⟩ := G
  intro P J K hR hJ hk ls st μ h
  unfold tz_if_ge at h
  split at h
  · intro la H locs hl hP hD hS; exact lv_if_ge hx hb hd ht (fun q => hJ b _ _ _ (h.1 q) la H locs hl hP hD hS) (fun q => hk _ _ _ (h.2 q) la H locs hl hP hD hS)
  · exact h.elim
def tz_if_gt (b : Nat) : rz_T := fun _ J K ls st μ => match st with
  | .int x :: r => (0 < x → J b ls r μ) ∧ (¬ 0 < x → K ls r μ)
  | _ => False
theorem rz_if_gt {off : Int} {b : Nat} (G : rz_Cx cl X cc n Ts own rm) (hd : decode cc pc = .ok (.ifCond .gt off, 3)) (ht : (pc : Int) + off = (bp b : Int)) : rz_Snd sh cl X bp RT (tz_if_gt b) pc (pc + 3) := by
  obtain ⟨⟨l, D, ad, cA, N0⟩, p, e, R, s, m, args, below, meth, c, Q, cells, slots, nL⟩ := X
  obtain ⟨⟨hx, hb, hml, hown, hts⟩, hK, hN, hce, hsl, hRm, hnL, hNw⟩ := G
  intro P J K hR hJ hk ls st μ h
  unfold tz_if_gt at h
  split at h
  · intro la H locs hl hP hD hS; exact lv_if_gt hx hb hd ht (fun q => hJ b _ _ _ (h.1 q) la H locs hl hP hD hS) (fun q => hk _ _ _ (h.2 q) la H locs hl hP hD hS)
  · exact h.elim
def tz_if_le (b : Nat) : rz_T := fun _ J K ls st μ => match st with
  | .int x :: r => (x ≤ 0 → J b ls r μ) ∧ (¬ x ≤ 0 → K ls r μ)
  | _ => False
theorem rz_if_le {off : Int} {b : Nat} (G : rz_Cx cl X cc n Ts own rm) (hd : decode cc pc = .ok (.ifCond .le off, 3)) (ht : (pc : Int) + off = (bp b : Int)) : rz_Snd sh cl X bp RT (tz_if_le b) pc (pc + 3) := by
  obtain ⟨⟨l, D, ad, cA, N0⟩, p, e, R, s, m, args, below, meth, c, Q, cells, slots, nL⟩ := X
  obtain ⟨⟨hx, hb, hml, hown, hts⟩, hK, hN, hce, hsl, hRm, hnL, hNw⟩ := G
  intro P J K hR hJ hk ls st μ h
  unfold tz_if_le at h
  split at h
  · intro la H locs hl hP hD hS; exact lv_if_le hx hb hd ht (fun q => hJ b _ _ _ (h.1 q) la H locs hl hP hD hS) (fun q => hk _ _ _ (h.2 q) la H locs hl hP hD hS)
  · exact h.elim
def tz_goto (b : Nat) : rz_T := fun _ J _ ls st μ => J b ls st μ
theorem rz_goto {off : Int} {b : Nat} {npc : Nat} (G : rz_Cx cl X cc n Ts own rm) (hd : decode cc pc = .ok (.goto off, 3)) (ht : (pc : Int) + off = (bp b : Int)) : rz_Snd sh cl X bp RT (tz_goto b) pc npc := by
  obtain ⟨⟨l, D, ad, cA, N0⟩, p, e, R, s, m, args, below, meth, c, Q, cells, slots, nL⟩ := X
  obtain ⟨⟨hx, hb, hml, hown, hts⟩, hK, hN, hce, hsl, hRm, hnL, hNw⟩ := G
  intro P J K hR hJ hk ls st μ h la H locs hl hP hD hS
  exact lv_goto hx hb hd ht (hJ b _ _ _ h la H locs hl hP hD hS)
/-- a switch: the cases in their order, then the default -/
def rz_sw (J : Nat → rz_K) (d : Nat) (ls : rz_L) (st : List Value) (μ : rz_M) (x : Int32) : List (Int32 × Nat) → Prop
  | [] => J d ls st μ
  | (k, b) :: t => (x = k → J b ls st μ) ∧ (¬ x = k → rz_sw J d ls st μ x t)
def tz_sw (cs : List (Int32 × Nat)) (d : Nat) : rz_T := fun _ J _ ls st μ => match st with
  | .int x :: r => rz_sw J d ls r μ x cs
  | _ => False
theorem rz_sw_lk (pc : Nat) (bp : Nat → Nat) {J : Nat → rz_K} {d : Nat} {ls : rz_L} {st : List Value} {μ : rz_M} {x : Int32} : ∀ (cs : List (Int32 × Nat)), rz_sw J d ls st μ x cs →
    ∃ b, J b ls st μ ∧ (pc : Int) + Op.lookupswitch.offset (cs.map fun q => (q.1.toInt, (bp q.2 : Int) - pc)) ((bp d : Int) - pc) x.toInt = (bp b : Int)
  | [], h => ⟨d, h, by rw [List.map_nil, Op.lookupswitch.offset_nil]; omega⟩
  | (k, b) :: t, h => by
    by_cases hk : x = k
    · refine ⟨b, h.1 hk, ?_⟩
      rw [List.map_cons, Op.lookupswitch.offset_cons, if_pos (by rw [hk])]
      dsimp only
      omega
    · obtain ⟨b', h1, h2⟩ := rz_sw_lk pc bp t (h.2 hk)
      refine ⟨b', h1, ?_⟩
      rw [List.map_cons, lv_osw hk rfl]
      exact h2
theorem rz_lookup {cs : List (Int32 × Nat)} {d : Nat} {dflt : Int} {ps : Array (Int × Int)} {len npc : Nat} (G : rz_Cx cl X cc n Ts own rm) (hd : decode cc pc = .ok (.lookupswitch dflt ps, len)) (hp : (ps.toList.zip (ps.toList.drop 1)).all (fun (a, next) => a.1 < next.1) = true)
    (h1 : ps.toList = cs.map fun q => (q.1.toInt, (bp q.2 : Int) - pc)) (h2 : dflt = (bp d : Int) - pc) : rz_Snd sh cl X bp RT (tz_sw cs d) pc npc := by
  obtain ⟨⟨l, D, ad, cA, N0⟩, p, e, R, s, m, args, below, meth, c, Q, cells, slots, nL⟩ := X
  obtain ⟨⟨hx, hb, hml, hown, hts⟩, hK, hN, hce, hsl, hRm, hnL, hNw⟩ := G
  intro P J K hR hJ hk ls st μ h
  unfold tz_sw at h
  split at h
  · next x r =>
    intro la H locs hl hP hD hS
    obtain ⟨b, hb1, hb2⟩ := rz_sw_lk pc bp cs h
    refine lv_lookup hx hb hd hp (off := Op.lookupswitch.offset ps.toList dflt x.toInt) rfl (tgt := bp b) ?_ (hJ b _ _ _ hb1 la H locs hl hP hD hS)
    rw [h1, h2]; exact hb2
  · exact h.elim
theorem rz_sw_tb {J : Nat → rz_K} {d : Nat} {ls : rz_L} {st : List Value} {μ : rz_M} {x : Int32} : ∀ (cs : List (Int32 × Nat)), rz_sw J d ls st μ x cs →
    (∃ (i : Nat) (k : Int32) (b : Nat), cs[i]? = some (k, b) ∧ x = k ∧ J b ls st μ) ∨ ((∀ q ∈ cs, ¬ x = q.1) ∧ J d ls st μ)
  | [], h => Or.inr ⟨fun q hq => by simp at hq, h⟩
  | (k, b) :: t, h => by
    by_cases hk : x = k
    · exact Or.inl ⟨0, k, b, rfl, hk, h.1 hk⟩
    · rcases rz_sw_tb t (h.2 hk) with ⟨i, k', b', h1, h2, h3⟩ | ⟨h1, h2⟩
      · exact Or.inl ⟨i + 1, k', b', by simpa using h1, h2, h3⟩
      · exact Or.inr ⟨fun q hq => by
          rcases List.mem_cons.mp hq with rfl | hq
          · exact hk
          · exact h1 q hq, h2⟩
theorem rz_table {cs : List (Int32 × Nat)} {d : Nat} {dflt lo hi : Int} {offs : Array Int} {len npc : Nat} (G : rz_Cx cl X cc n Ts own rm) (hd : decode cc pc = .ok (.tableswitch dflt lo hi offs, len))
    (h1 : offs.toList = cs.map fun q => ((bp q.2 : Int) - pc)) (h2 : dflt = (bp d : Int) - pc) (h3 : cs.mapIdx (fun i q => q.1.toInt - lo - (i : Int)) = cs.map (fun _ => 0)) (h4 : hi = lo + (cs.length : Int) - 1) (h5 : ∀ i, i < cs.length → ∃ q ∈ cs, q.1.toInt = lo + (i : Int)) : rz_Snd sh cl X bp RT (tz_sw cs d) pc npc := by
  obtain ⟨⟨l, D, ad, cA, N0⟩, p, e, R, s, m, args, below, meth, c, Q, cells, slots, nL⟩ := X
  obtain ⟨⟨hx, hb, hml, hown, hts⟩, hK, hN, hce, hsl, hRm, hnL, hNw⟩ := G
  intro P J K hR hJ hk ls st μ h
  unfold tz_sw at h
  split at h
  · next x r =>
    intro la H locs hl hP hD hS
    rcases rz_sw_tb cs h with ⟨i, k, b, e1, e2, e3⟩ | ⟨e1, e2⟩
    · have hi' : i < cs.length := (List.getElem?_eq_some_iff.mp e1).1
      have g : k.toInt - lo - (i : Int) = 0 := by
        have a1 := congrArg (fun z => z[i]?) h3
        simp only [List.getElem?_mapIdx, List.getElem?_map, e1, Option.map_some] at a1
        exact Option.some.inj a1
      subst e2
      have ho : offs[(x.toInt - lo).toNat]? = some ((bp b : Int) - pc) := by
        rw [show (x.toInt - lo).toNat = i by omega, ← Array.getElem?_toList, h1, List.getElem?_map, e1]; rfl
      exact lv_tableIn hx hb hd (by omega) (by omega) ho (tgt := bp b) (by omega) (hJ b _ _ _ e3 la H locs hl hP hD hS)
    · have hout : x.toInt < lo ∨ hi < x.toInt := by
        rcases Int.lt_or_le x.toInt lo with q | q
        · exact Or.inl q
        · rcases Int.lt_or_le hi x.toInt with q2 | q2
          · exact Or.inr q2
          · exfalso
            obtain ⟨z, hz, hz2⟩ := h5 (x.toInt - lo).toNat (by omega)
            exact e1 z hz (Int32.toInt_inj.mp (by rw [hz2]; omega))
      exact lv_tableOut hx hb hd hout (tgt := bp d) (by omega) (hJ d _ _ _ e2 la H locs hl hP hD hS)
  · exact h.elim
def rz_fld (sh : List rz_Sh) (ci k j : Nat) : Option (Option Nat) := match rz_nth sh k with
  | some (.inr (c, fs)) => (match Nat.beq c ci with
    | true => rz_nth fs j
    | false => none)
  | _ => none
theorem rz_fld_spec {ci k j : Nat} {o : Option Nat} (h : rz_fld sh ci k j = some o) : ∃ fs, sh[k]? = some (.inr (ci, fs)) ∧ fs[j]? = some o := by
  unfold rz_fld at h
  split at h
  · next c fs hq =>
    split at h
    · next hb =>
      rw [rz_nth_eq] at hq h
      have : c = ci := Nat.eq_of_beq_eq_true hb
      subst this
      exact ⟨fs, hq, h⟩
    · cases h
  · cases h
def tz_get (sh : List rz_Sh) (ci j : Nat) : rz_T := fun _ _ K ls st μ => match st with
  | .ref k :: r => (match rz_fld sh ci k j with
    | some (some o) => K ls (.ref o :: r) μ
    | some none => K ls (.int (μ k j) :: r) μ
    | none => False)
  | _ => False
theorem rz_get0 {ci j index : Nat} {C : String} {T : u_T} {N : Nat} (G : rz_Cx cl X cc n Ts own rm) (hc : cl[ci]? = some (C, T, N)) (hin : ∀ w ∈ u_ws C T N, w ∈ Ts) (hj : j < N) 
    (row : ∀ (p : Program) (l : Launch) (e : Env) (R : Room) (s : State) (m : MethodId) (args : Array Value) (below : List Frame) (meth : Method) (c : Code) (H : Heap) (locs : List Loc) (cells slots : Nat) (Q : State → Prop) (D : va_G) (tys : List (ClassId × FieldType)) (ws : va_W) (la : Array Slot) (rest : List Value) (a k : Nat) (fs : List Value) (v : Value), p.tables.exec = Jvm.exec → c.code = cc → s.vm.findClass own = some m.cls → (∀ w ∈ Ts, w.before args s = true) → (∀ w ∈ rz_nw, va_Nw w s) → va_K D cl tys s → va_P D cl ws H → ws[k]? = some (a, .inr (ci, fs)) → fs[j]? = some v → W p l e R s m args below meth c H locs cells slots Q (F0 m (pc + 3) la (v :: rest)) → W p l e R s m args below meth c H locs cells slots Q (F0 m pc la (.ref a :: rest))) : rz_Snd sh cl X bp RT (tz_get sh ci j) pc (pc + 3) := by
  obtain ⟨⟨l, D, ad, cA, N0⟩, p, e, R, s, m, args, below, meth, c, Q, cells, slots, nL⟩ := X
  obtain ⟨⟨hx, hb, hml, hown, hts⟩, hK, hN, hce, hsl, hRm, hnL, hNw⟩ := G
  intro P J K hR hJ hk ls st μ h
  unfold tz_get at h
  split at h
  · next k r =>
    split at h
    · next o hq =>
      obtain ⟨fs, h1, h2⟩ := rz_fld_spec hq
      intro la H locs hl hP hD hS
      exact row _ _ _ _ _ _ _ _ _ _ _ _ _ _ _ _ _ _ _ _ _ k _ (.ref (ad o)) hx hb hown hts hNw hK hP (rz_ws_at h1) (by rw [List.getElem?_mapIdx, h2]; rfl) (hk _ _ _ h la H locs hl hP hD hS)
    · next hq =>
      obtain ⟨fs, h1, h2⟩ := rz_fld_spec hq
      intro la H locs hl hP hD hS
      exact row _ _ _ _ _ _ _ _ _ _ _ _ _ _ _ _ _ _ _ _ _ k _ (.int (μ k j)) hx hb hown hts hNw hK hP (rz_ws_at h1) (by rw [List.getElem?_mapIdx, h2]; rfl) (hk _ _ _ h la H locs hl hP hD hS)
    · exact h.elim
  · exact h.elim
theorem rz_get {ci j index : Nat} {C : String} {T : u_T} {N : Nat} (G : rz_Cx cl X cc n Ts own rm) (hc : cl[ci]? = some (C, T, N)) (hin : ∀ w ∈ u_ws C T N, w ∈ Ts) (hj : j < N) (hw : Cond.fieldLink own index (T j).1 (T j).2.1 (T j).2.2.1 ∈ Ts) (hd : decode cc pc = .ok (.getfield index, 3)) : rz_Snd sh cl X bp RT (tz_get sh ci j) pc (pc + 3) :=
  rz_get0 (index := index) G hc hin hj (fun p l e R s m args below meth c H locs cells slots Q D tys ws la rest a k fs v hx hb hown hts hNw hK hP he hv kk => va_get (D := D) hx hb hts hin hown hK hP k he hc j hj (hts _ hw) (fun _ h9 => h9) hv hd kk)
theorem rz_getN {ci j index : Nat} {C host : String} {T : u_T} {N : Nat} (G : rz_Cx cl X cc n Ts own rm) (hc : cl[ci]? = some (C, T, N)) (hin : ∀ w ∈ u_ws C T N, w ∈ Ts) (hj : j < N) (hw : Cond.fieldLinkNest own index (T j).1 (T j).2.1 (T j).2.2.1 host ∈ rz_nw) (hd : decode cc pc = .ok (.getfield index, 3)) : rz_Snd sh cl X bp RT (tz_get sh ci j) pc (pc + 3) :=
  rz_get0 (index := index) G hc hin hj (fun p l e R s m args below meth c H locs cells slots Q D tys ws la rest a k fs v hx hb hown hts hNw hK hP he hv kk => va_getN (D := D) hx hb hts hin hown hK hP k he hc j hj (va_Nw.use rfl (hNw _ hw)) (fun _ h9 => h9) hv hd kk)
def tz_put (sh : List rz_Sh) (ci j : Nat) : rz_T := fun _ _ K ls st μ => match st with
  | .int x :: .ref k :: r => (match rz_fld sh ci k j with
    | some none => K ls r (rz_up μ k j x)
    | _ => False)
  | _ => False
def tz_putz (sh : List rz_Sh) (ci j : Nat) : rz_T := fun _ _ K ls st μ => match st with
  | .int x :: .ref k :: r => (match rz_fld sh ci k j with
    | some none => (x = 0 ∨ x = 1) ∧ K ls r (rz_up μ k j x)
    | _ => False)
  | _ => False
theorem rz_ws_put {ad : Nat → Nat} {cA : ClassId} {μ : rz_M} {k j ci : Nat} {fs : List (Option Nat)} {x : Int32} (h1 : sh[k]? = some (.inr (ci, fs))) (h2 : fs[j]? = some none) :
    (rz_ws ad cA sh μ).set k (ad k, .inr (ci, (fs.mapIdx (rz_fv ad (μ k))).set j (.int x))) = rz_ws ad cA sh (rz_up μ k j x) := by
  have h3 := rz_ws_set (ad := ad) (cA := cA) (μ := μ) (f := upd (μ k) j x) h1
  have h4 : rz_e ad cA (rz_uf μ k (upd (μ k) j x)) k (.inr (ci, fs)) = (ad k, .inr (ci, (fs.mapIdx (rz_fv ad (μ k))).set j (.int x))) := by
    rw [rz_fv_set h2]; simp [rz_e, rz_uf_eq]
  rw [h4] at h3
  exact h3
theorem rz_put {ci j index : Nat} {C : String} {T : u_T} {N : Nat} (G : rz_Cx cl X cc n Ts own rm) (hc : cl[ci]? = some (C, T, N)) (hin : ∀ w ∈ u_ws C T N, w ∈ Ts) (ty0 : Nat → FieldType) (hty : ∀ k, k < N → parseFieldDescriptor (T k).2.2.1 = some (ty0 k)) (hnm : ∀ a, a < N → ∀ b, b < N → a ≠ b → (T a).2.1 ≠ (T b).2.1) (hj : j < N) (hfin : (T j).2.2.2 = false) (hpd : parseFieldDescriptor (T j).2.2.1 = some .int) (hw : Cond.fieldLink own index (T j).1 (T j).2.1 (T j).2.2.1 ∈ Ts) (hd : decode cc pc = .ok (.putfield index, 3)) : rz_Snd sh cl X bp RT (tz_put sh ci j) pc (pc + 3) := by
  obtain ⟨⟨l, D, ad, cA, N0⟩, p, e, R, s, m, args, below, meth, c, Q, cells, slots, nL⟩ := X
  obtain ⟨⟨hx, hb, hml, hown, hts⟩, hK, hN, hce, hsl, hRm, hnL, hNw⟩ := G
  intro P J K hR hJ hk ls st μ h
  unfold tz_put at h
  split at h
  · next x k r =>
    split at h
    · next hq =>
      obtain ⟨fs, h1, h2⟩ := rz_fld_spec hq
      intro la H locs hl hP hD hS
      refine va_put (D := D) hx hb hts hin ty0 hty hnm hown hK hP hD hS k (rz_ws_at h1) hc j hj (hts _ hw) (fun _ h9 => h9) hfin hpd (v := .int x) rfl rfl (by rw [List.length_mapIdx]; exact (List.getElem?_eq_some_iff.mp h2).1) hd (fun H1 locs1 hP1 hD1 hS1 => ?_)
      exact hk _ _ _ h la H1 locs1 hl (by rw [← rz_ws_put h1 h2]; exact hP1) (by rw [← rz_ws_put h1 h2]; exact hD1) hS1
    · exact h.elim
  · exact h.elim
theorem rz_putN {ci j index : Nat} {C host : String} {T : u_T} {N : Nat} (G : rz_Cx cl X cc n Ts own rm) (hc : cl[ci]? = some (C, T, N)) (hin : ∀ w ∈ u_ws C T N, w ∈ Ts) (ty0 : Nat → FieldType) (hty : ∀ k, k < N → parseFieldDescriptor (T k).2.2.1 = some (ty0 k)) (hnm : ∀ a, a < N → ∀ b, b < N → a ≠ b → (T a).2.1 ≠ (T b).2.1) (hj : j < N) (hfin : (T j).2.2.2 = false) (hpd : parseFieldDescriptor (T j).2.2.1 = some .int) (hw : Cond.fieldLinkNest own index (T j).1 (T j).2.1 (T j).2.2.1 host ∈ rz_nw) (hd : decode cc pc = .ok (.putfield index, 3)) : rz_Snd sh cl X bp RT (tz_put sh ci j) pc (pc + 3) := by
  obtain ⟨⟨l, D, ad, cA, N0⟩, p, e, R, s, m, args, below, meth, c, Q, cells, slots, nL⟩ := X
  obtain ⟨⟨hx, hb, hml, hown, hts⟩, hK, hN, hce, hsl, hRm, hnL, hNw⟩ := G
  intro P J K hR hJ hk ls st μ h
  unfold tz_put at h
  split at h
  · next x k r =>
    split at h
    · next hq =>
      obtain ⟨fs, h1, h2⟩ := rz_fld_spec hq
      intro la H locs hl hP hD hS
      refine va_putN (D := D) hx hb hts hin ty0 hty hnm hown hK hP hD hS k (rz_ws_at h1) hc j hj (va_Nw.use rfl (hNw _ hw)) (fun _ h9 => h9) hfin hpd (v := .int x) rfl rfl (by rw [List.length_mapIdx]; exact (List.getElem?_eq_some_iff.mp h2).1) hd (fun H1 locs1 hP1 hD1 hS1 => ?_)
      exact hk _ _ _ h la H1 locs1 hl (by rw [← rz_ws_put h1 h2]; exact hP1) (by rw [← rz_ws_put h1 h2]; exact hD1) hS1
    · exact h.elim
  · exact h.elim
theorem rz_putz {ci j index : Nat} {C : String} {T : u_T} {N : Nat} (G : rz_Cx cl X cc n Ts own rm) (hc : cl[ci]? = some (C, T, N)) (hin : ∀ w ∈ u_ws C T N, w ∈ Ts) (ty0 : Nat → FieldType) (hty : ∀ k, k < N → parseFieldDescriptor (T k).2.2.1 = some (ty0 k)) (hnm : ∀ a, a < N → ∀ b, b < N → a ≠ b → (T a).2.1 ≠ (T b).2.1) (hj : j < N) (hfin : (T j).2.2.2 = false) (hpd : parseFieldDescriptor (T j).2.2.1 = some .boolean) (hw : Cond.fieldLink own index (T j).1 (T j).2.1 (T j).2.2.1 ∈ Ts) (hd : decode cc pc = .ok (.putfield index, 3)) : rz_Snd sh cl X bp RT (tz_putz sh ci j) pc (pc + 3) := by
  obtain ⟨⟨l, D, ad, cA, N0⟩, p, e, R, s, m, args, below, meth, c, Q, cells, slots, nL⟩ := X
  obtain ⟨⟨hx, hb, hml, hown, hts⟩, hK, hN, hce, hsl, hRm, hnL, hNw⟩ := G
  intro P J K hR hJ hk ls st μ h
  unfold tz_putz at h
  split at h
  · next x k r =>
    split at h
    · next hq =>
      obtain ⟨fs, h1, h2⟩ := rz_fld_spec hq
      intro la H locs hl hP hD hS
      refine va_put (D := D) hx hb hts hin ty0 hty hnm hown hK hP hD hS k (rz_ws_at h1) hc j hj (hts _ hw) (fun _ h9 => h9) hfin hpd (v := .int x) (by rcases h.1 with rfl | rfl <;> rfl) (by rcases h.1 with rfl | rfl <;> rfl) (by rw [List.length_mapIdx]; exact (List.getElem?_eq_some_iff.mp h2).1) hd (fun H1 locs1 hP1 hD1 hS1 => ?_)
      exact hk _ _ _ h.2 la H1 locs1 hl (by rw [← rz_ws_put h1 h2]; exact hP1) (by rw [← rz_ws_put h1 h2]; exact hD1) hS1
    · exact h.elim
  · exact h.elim
theorem rz_putzN {ci j index : Nat} {C host : String} {T : u_T} {N : Nat} (G : rz_Cx cl X cc n Ts own rm) (hc : cl[ci]? = some (C, T, N)) (hin : ∀ w ∈ u_ws C T N, w ∈ Ts) (ty0 : Nat → FieldType) (hty : ∀ k, k < N → parseFieldDescriptor (T k).2.2.1 = some (ty0 k)) (hnm : ∀ a, a < N → ∀ b, b < N → a ≠ b → (T a).2.1 ≠ (T b).2.1) (hj : j < N) (hfin : (T j).2.2.2 = false) (hpd : parseFieldDescriptor (T j).2.2.1 = some .boolean) (hw : Cond.fieldLinkNest own index (T j).1 (T j).2.1 (T j).2.2.1 host ∈ rz_nw) (hd : decode cc pc = .ok (.putfield index, 3)) : rz_Snd sh cl X bp RT (tz_putz sh ci j) pc (pc + 3) := by
  obtain ⟨⟨l, D, ad, cA, N0⟩, p, e, R, s, m, args, below, meth, c, Q, cells, slots, nL⟩ := X
  obtain ⟨⟨hx, hb, hml, hown, hts⟩, hK, hN, hce, hsl, hRm, hnL, hNw⟩ := G
  intro P J K hR hJ hk ls st μ h
  unfold tz_putz at h
  split at h
  · next x k r =>
    split at h
    · next hq =>
      obtain ⟨fs, h1, h2⟩ := rz_fld_spec hq
      intro la H locs hl hP hD hS
      refine va_putN (D := D) hx hb hts hin ty0 hty hnm hown hK hP hD hS k (rz_ws_at h1) hc j hj (va_Nw.use rfl (hNw _ hw)) (fun _ h9 => h9) hfin hpd (v := .int x) (by rcases h.1 with rfl | rfl <;> rfl) (by rcases h.1 with rfl | rfl <;> rfl) (by rw [List.length_mapIdx]; exact (List.getElem?_eq_some_iff.mp h2).1) hd (fun H1 locs1 hP1 hD1 hS1 => ?_)
      exact hk _ _ _ h.2 la H1 locs1 hl (by rw [← rz_ws_put h1 h2]; exact hP1) (by rw [← rz_ws_put h1 h2]; exact hD1) hS1
    · exact h.elim
  · exact h.elim
def rz_arr (sh : List rz_Sh) (k : Nat) : Option Nat := match rz_nth sh k with
  | some (.inl n) => some n
  | _ => none
theorem rz_arr_spec {k n0 : Nat} (h : rz_arr sh k = some n0) : sh[k]? = some (.inl n0) := by
  unfold rz_arr at h
  split at h
  · next a hq => rw [rz_nth_eq] at hq; rw [hq, Option.some.inj h]
  · cases h
def tz_iald (sh : List rz_Sh) : rz_T := fun _ _ K ls st μ => match st with
  | .int i :: .ref k :: r => (match rz_arr sh k with
    | some n0 => vp_in i n0 ∧ K ls (.int (μ k i.toNatClampNeg) :: r) μ
    | none => False)
  | _ => False
theorem rz_iald (G : rz_Cx cl X cc n Ts own rm) (hd : decode cc pc = .ok (.iaload, 1)) : rz_Snd sh cl X bp RT (tz_iald sh) pc (pc + 1) := by
  obtain ⟨⟨l, D, ad, cA, N0⟩, p, e, R, s, m, args, below, meth, c, Q, cells, slots, nL⟩ := X
  obtain ⟨⟨hx, hb, hml, hown, hts⟩, hK, hN, hce, hsl, hRm, hnL, hNw⟩ := G
  intro P J K hR hJ hk ls st μ h
  unfold tz_iald at h
  split at h
  · next i k r =>
    split at h
    · next n0 hq =>
      intro la H locs hl hP hD hS
      exact va_iald (D := D) hx hb hK hP k 0 (rz_ws_at (rz_arr_spec hq)) rfl h.1 hd (hk _ _ _ h.2 la H locs hl hP hD hS)
    · exact h.elim
  · exact h.elim
def tz_iast (sh : List rz_Sh) : rz_T := fun _ _ K ls st μ => match st with
  | .int x :: .int i :: .ref k :: r => (match rz_arr sh k with
    | some n0 => vp_in i n0 ∧ K ls r (rz_up μ k i.toNatClampNeg x)
    | none => False)
  | _ => False
theorem rz_ws_arr {ad : Nat → Nat} {cA : ClassId} {μ : rz_M} {k n0 : Nat} {f : Nat → Int32} (h1 : sh[k]? = some (.inl n0)) :
    (rz_ws ad cA sh μ).set k (ad k, .inl (cA, n0, .inl f)) = rz_ws ad cA sh (rz_uf μ k f) := by
  have h3 := rz_ws_set (ad := ad) (cA := cA) (μ := μ) (f := f) h1
  have h4 : rz_e ad cA (rz_uf μ k f) k (.inl n0) = (ad k, .inl (cA, n0, .inl f)) := by
    simp [rz_e, rz_uf_eq]
  rw [h4] at h3
  exact h3
theorem rz_iast (G : rz_Cx cl X cc n Ts own rm) (hd : decode cc pc = .ok (.iastore, 1)) : rz_Snd sh cl X bp RT (tz_iast sh) pc (pc + 1) := by
  obtain ⟨⟨l, D, ad, cA, N0⟩, p, e, R, s, m, args, below, meth, c, Q, cells, slots, nL⟩ := X
  obtain ⟨⟨hx, hb, hml, hown, hts⟩, hK, hN, hce, hsl, hRm, hnL, hNw⟩ := G
  intro P J K hR hJ hk ls st μ h
  unfold tz_iast at h
  split at h
  · next x i k r =>
    split at h
    · next n0 hq =>
      intro la H locs hl hP hD hS
      refine va_iast (D := D) hx hb hK hP hD hS k 0 (rz_ws_at (rz_arr_spec hq)) rfl h.1 hd (fun H1 locs1 hP1 hD1 hS1 => ?_)
      have e1 := rz_ws_arr (ad := ad) (cA := cA) (μ := μ) (f := upd (μ k) i.toNatClampNeg x) (rz_arr_spec hq)
      exact hk _ _ _ h.2 la H1 locs1 hl (by unfold rz_up; rw [← e1]; exact hP1) (by unfold rz_up; rw [← e1]; exact hD1) hS1
    · exact h.elim
  · exact h.elim
def tz_alen (sh : List rz_Sh) : rz_T := fun _ _ K ls st μ => match st with
  | .ref k :: r => (match rz_arr sh k with
    | some n0 => K ls (.int (Int32.ofNat n0) :: r) μ
    | none => False)
  | _ => False
theorem rz_alen (G : rz_Cx cl X cc n Ts own rm) (hd : decode cc pc = .ok (.arraylength, 1)) : rz_Snd sh cl X bp RT (tz_alen sh) pc (pc + 1) := by
  obtain ⟨⟨l, D, ad, cA, N0⟩, p, e, R, s, m, args, below, meth, c, Q, cells, slots, nL⟩ := X
  obtain ⟨⟨hx, hb, hml, hown, hts⟩, hK, hN, hce, hsl, hRm, hnL, hNw⟩ := G
  intro P J K hR hJ hk ls st μ h
  unfold tz_alen at h
  split at h
  · next k r =>
    split at h
    · next n0 hq =>
      intro la H locs hl hP hD hS
      exact va_alen (D := D) hx hb hK hP k 0 (rz_ws_at (rz_arr_spec hq)) rfl rfl hd (hk _ _ _ h la H locs hl hP hD hS)
    · exact h.elim
  · exact h.elim
def rz_cs : List Value → Nat
  | [] => 0
  | v :: t => v.category + rz_cs t
theorem rz_cs_eq (ad : Nat → Nat) : ∀ st : List Value, ((st.map (rz_v ad)).map fun v => v.category).sum = rz_cs st
  | [] => rfl
  | v :: t => by rw [List.map_cons, List.map_cons, List.sum_cons, rz_cs_eq ad t, rz_v_cat]; rfl
def tz_min : rz_T := fun _ _ K ls st μ => match st with
  | .int y :: .int x :: r => (match Nat.ble (rz_cs r) 8 with
    | true => K ls (.int (if y < x then y else x) :: r) μ
    | false => False)
  | _ => False
theorem rz_min {index : Nat} (G : rz_Cx cl X cc n Ts own rm) (h1 : Cond.methodLink own index Lib.Math.min.name ∈ Ts) (h2 : Cond.static Lib.Math.min.name ∈ Ts) (h3 : Cond.initialized "java/lang/Math" ∈ Ts) (h4 : Cond.code Lib.Math.min.name Lib.Math.min.code 2 (some .int) ∈ Ts) (hf : 1 ≤ rm.frames ∧ 21 ≤ rm.locals) (hd : decode cc pc = .ok (.invokestatic index, 3)) : rz_Snd sh cl X bp RT tz_min pc (pc + 3) := by
  obtain ⟨⟨l, D, ad, cA, N0⟩, p, e, R, s, m, args, below, meth, c, Q, cells, slots, nL⟩ := X
  obtain ⟨⟨hx, hb, hml, hown, hts⟩, hK, hN, hce, hsl, hRm, hnL, hNw⟩ := G
  subst hRm
  intro P J K hR hJ hk ls st μ h
  unfold tz_min at h
  split at h
  · next y x r =>
    split at h
    · next hq =>
      intro la H locs hl hP hD hS
      refine va_mmin hx hb (by rw [hml, hl.1]) hown (hts _ h1) (hts _ h2) (hts _ h3) (hts _ h4) hf.1 ?_ hce hsl hd (hk _ _ _ h la H locs hl hP hD hS)
      rw [rz_cs_eq]
      have := Nat.le_of_ble_eq_true hq
      omega
    · exact h.elim
  · exact h.elim
def tz_copy (sh : List rz_Sh) : rz_T := fun _ _ K ls st μ => match st with
  | .int c :: .int dp :: .ref k1 :: .int sp :: .ref k0 :: r => (match rz_arr sh k0, rz_arr sh k1, Nat.ble (rz_cs r) 8 with
    | some n0, some n1, true => (¬ sp < 0 ∧ ¬ dp < 0 ∧ ¬ c < 0 ∧ sp.toNatClampNeg + c.toNatClampNeg ≤ n0 ∧ dp.toNatClampNeg + c.toNatClampNeg ≤ n1) ∧ K ls r (rz_uf μ k1 (va_cpy (μ k0) (μ k1) sp.toNatClampNeg dp.toNatClampNeg c.toNatClampNeg))
    | _, _, _ => False)
  | _ => False
theorem rz_copy {index : Nat} (G : rz_Cx cl X cc n Ts own rm) (h1 : Cond.methodLink own index arraycopyName ∈ Ts) (h2 : Cond.native arraycopyName ∈ Ts) (h3 : Cond.static arraycopyName ∈ Ts) (h4 : Cond.initialized "java/lang/System" ∈ Ts) (hf : 1 ≤ rm.frames ∧ 8 + (nativeFrameWords "java/lang/System" "arraycopy" 5 + 11) ≤ rm.locals) (hd : decode cc pc = .ok (.invokestatic index, 3)) : rz_Snd sh cl X bp RT (tz_copy sh) pc (pc + 3) := by
  obtain ⟨⟨l, D, ad, cA, N0⟩, p, e, R, s, m, args, below, meth, c, Q, cells, slots, nL⟩ := X
  obtain ⟨⟨hx, hb, hml, hown, hts⟩, hK, hN, hce, hsl, hRm, hnL, hNw⟩ := G
  subst hRm
  intro P J K hR hJ hk ls st μ h
  unfold tz_copy at h
  split at h
  · next cn dp k1 sp k0 r =>
    split at h
    · next n0 n1 hq0 hq1 hq2 =>
      obtain ⟨⟨a1, a2, a3, a4, a5⟩, h⟩ := h
      intro la H locs hl hP hD hS
      refine va_copyi (D := D) hx hb (by rw [hml, hl.1]) hown (hts _ h1) (hts _ h2) (hts _ h3) (hts _ h4) hK hP hD hS k0 k1 0 0 (rz_ws_at (rz_arr_spec hq0)) (rz_ws_at (rz_arr_spec hq1)) rfl rfl rfl a1 a2 a3 a4 a5 (fun _ _ => rfl) hf.1 ?_ hd (fun H1 locs1 hP1 hD1 hS1 => ?_)
      · rw [rz_cs_eq]
        have := Nat.le_of_ble_eq_true hq2
        omega
      · have e1 := rz_ws_arr (ad := ad) (cA := cA) (μ := μ) (f := va_cpy (μ k0) (μ k1) sp.toNatClampNeg dp.toNatClampNeg cn.toNatClampNeg) (rz_arr_spec hq1)
        exact hk _ _ _ h la H1 locs1 hl (by rw [← e1]; exact hP1) (by rw [← e1]; exact hD1) hS1
    · exact h.elim
  · exact h.elim
end RZ
end
section
/-! CALLS AND CONTRACTS in the embedding. A contract: a transformer C of predicates over (arguments, memory), and 'Met' of the method for whatever C gives. -/
def rz_tk : Nat → List Value → List Value → Option (List Value × List Value)
  | 0, st, acc => some (acc, st)
  | _ + 1, [], _ => none
  | n + 1, v :: st, acc => rz_tk n st (v :: acc)
theorem rz_tk_spec : ∀ (n : Nat) (st acc a r : List Value), rz_tk n st acc = some (a, r) → ∃ pre : List Value, a = pre ++ acc ∧ st = pre.reverse ++ r ∧ pre.length = n
  | 0, st, acc, a, r, h => by
    have := Option.some.inj h
    exact ⟨[], by rw [(Prod.mk.inj this).1]; rfl, by rw [(Prod.mk.inj this).2]; rfl, rfl⟩
  | n + 1, [], acc, a, r, h => by simp [rz_tk] at h
  | n + 1, v :: st, acc, a, r, h => by
    obtain ⟨pre, h1, h2, h3⟩ := rz_tk_spec n st (v :: acc) a r h
    exact ⟨pre ++ [v], by rw [h1]; simp, by rw [h2]; simp, by simp [h3]⟩
def rz_isc (sh : List rz_Sh) (ci k : Nat) : Bool := match rz_nth sh k with
  | some (.inr (c, _)) => Nat.beq c ci
  | _ => false
theorem rz_isc_spec {sh : List rz_Sh} {ci k : Nat} (h : rz_isc sh ci k = true) : ∃ fs, sh[k]? = some (.inr (ci, fs)) := by
  unfold rz_isc at h
  split at h
  · next c fs hq =>
    rw [rz_nth_eq] at hq
    have : c = ci := Nat.eq_of_beq_eq_true h
    subst this
    exact ⟨fs, hq⟩
  · cases h
def rz_Pre (sh : List rz_Sh) (cl : List vw_C) (E : rz_E) (As : List Value) (μ : rz_M) : Array Value → State → Prop := match E with
  | (_, D, ad, cA, N0) => va_Pc (As.map (rz_v ad)) (fun U => N0 ≤ U.heap.size ∧ va_P D cl (rz_ws ad cA sh μ) U.heap ∧ va_K D cl [(cA, .int)] U ∧ va_D (rz_A N0) (rz_ws ad cA sh μ) ∧ ∀ w ∈ rz_nw, va_Nw w U)
def rz_B (sh : List rz_Sh) (cl : List vw_C) (E : rz_E) : rz_M → State → Prop := match E with
  | (_, D, ad, cA, N0) => fun μ t => va_P D cl (rz_ws ad cA sh μ) t.heap ∧ va_K D cl [(cA, .int)] t ∧ va_D (rz_A N0) (rz_ws ad cA sh μ)
def rz_MI (sh : List rz_Sh) (cl : List vw_C) (E : rz_E) (y : MethodName) (mL : Nat) (ws : List Cond) (rm : Room) (C : rz_C) : Prop :=
  ∀ (As : List Value) (μ : rz_M) (P : rz_P), rz_cs As ≤ mL → C As μ P → Met E.1 y ws rm (rz_Pre sh cl E As μ) (va_Qi (fun (r : Int32) (u : rz_M) => P (some (.int r)) u) (rz_B sh cl E) (rz_A E.2.2.2.2)) 0 0 (rz_A E.2.2.2.2)
def rz_MV (sh : List rz_Sh) (cl : List vw_C) (E : rz_E) (y : MethodName) (mL : Nat) (ws : List Cond) (rm : Room) (C : rz_C) : Prop :=
  ∀ (As : List Value) (μ : rz_M) (P : rz_P), rz_cs As ≤ mL → C As μ P → Met E.1 y ws rm (rz_Pre sh cl E As μ) (va_Qv (fun (u : rz_M) => P none u) (rz_B sh cl E) (rz_A E.2.2.2.2)) 0 0 (rz_A E.2.2.2.2)
theorem rz_blind {sh : List rz_Sh} {cl : List vw_C} {E : rz_E} {As : List Value} {μ : rz_M} : FrameBlind (rz_Pre sh cl E As μ) := by
  obtain ⟨l, D, ad, cA, N0⟩ := E
  intro a U g mk q
  obtain ⟨q0, q1, qP, qK, qD, qN⟩ := q
  exact ⟨q0, q1, qP, va_K.moved (u := U) (U := U.calling g mk a) (Vm.Alike.refl U.vm) qK, qD, fun w hw => va_Nw.same (u := U) (U := U.calling g mk a) (rz_nw_tab w hw) rfl (qN w hw)⟩
/-- what is the same at every call of a method: its words are among the caller's, its class and number of parameters -/
def rz_Cd (Ts : List Cond) (y : MethodName) (bytes : ByteArray) (maxL : Nat) (ret : Option FieldType) (ws : List Cond) (k : Nat) (rmc : Room) : Prop :=
  GoodIn Ts ws ∧ (∃ ws', ws = Cond.code y bytes maxL ret :: ws') ∧ Cond.initialized y.cls ∈ Ts ∧ (y.cls ≠ "java/lang/invoke/MethodHandle" ∧ y.cls ≠ "java/lang/invoke/VarHandle" ∧ (parseMethodDescriptor y.desc).map (fun d => d.parameters.length) = some k) ∧ rmc.cells = 0 ∧ rmc.slots = 0
def tz_cv (sh : List rz_Sh) (k ci mL : Nat) (C : rz_C) : rz_T := fun _ _ K ls st μ => match rz_tk (k + 1) st [] with
  | some (.ref o :: As, r) => (match rz_isc sh ci o && (Nat.ble (rz_cs r) 8 && Nat.ble (rz_cs (.ref o :: As)) mL) with
    | true => C (.ref o :: As) μ (fun v μ' => K ls (v.toList ++ r) μ')
    | false => False)
  | _ => False
def tz_cs (k mL : Nat) (C : rz_C) : rz_T := fun _ _ K ls st μ => match rz_tk k st [] with
  | some (As, r) => (match Nat.ble (rz_cs r) 8 && Nat.ble (rz_cs As) mL with
    | true => C As μ (fun v μ' => K ls (v.toList ++ r) μ')
    | false => False)
  | _ => False
section RZC
variable {sh : List rz_Sh} {cl : List vw_C} {X : rz_X} {bp : Nat → Nat} {RT : rz_P → Prop} {pc : Nat} {cc : ByteArray} {n : Nat} {Ts : List Cond} {own : String} {rm : Room}
variable {y : MethodName} {bytes : ByteArray} {maxL : Nat} {ret : Option FieldType} {ws : List Cond} {k idx ci : Nat} {rmc : Room} {C : rz_C} {q : vw_C}
theorem rz_cv_spec {P : rz_P} {J : Nat → rz_K} {K : rz_K} {ls : rz_L} {st : List Value} {μ : rz_M} {mL : Nat} (h : tz_cv sh k ci mL C P J K ls st μ) :
    ∃ (o : Nat) (As r : List Value) (fs : List (Option Nat)), st = As.reverse ++ .ref o :: r ∧ As.length = k ∧ sh[o]? = some (.inr (ci, fs)) ∧ rz_cs r ≤ 8 ∧ rz_cs (.ref o :: As) ≤ mL ∧ C (.ref o :: As) μ (fun v μ' => K ls (v.toList ++ r) μ') := by
  unfold tz_cv at h
  split at h
  · next o As r hq =>
    split at h
    · next hb =>
      obtain ⟨b1, b23⟩ := Bool.and_eq_true_iff.mp hb
      obtain ⟨b2, b3⟩ := Bool.and_eq_true_iff.mp b23
      obtain ⟨pre, h1, h2, h3⟩ := rz_tk_spec _ _ _ _ _ hq
      rw [List.append_nil] at h1
      subst h1
      obtain ⟨fs, hf⟩ := rz_isc_spec b1
      exact ⟨o, As, r, fs, by rw [h2]; simp, by simpa using h3, hf, Nat.le_of_ble_eq_true b2, Nat.le_of_ble_eq_true b3, h⟩
    · exact h.elim
  · exact h.elim
theorem rz_cs_spec {P : rz_P} {J : Nat → rz_K} {K : rz_K} {ls : rz_L} {st : List Value} {μ : rz_M} {mL : Nat} (h : tz_cs k mL C P J K ls st μ) :
    ∃ (As r : List Value), st = As.reverse ++ r ∧ As.length = k ∧ rz_cs r ≤ 8 ∧ rz_cs As ≤ mL ∧ C As μ (fun v μ' => K ls (v.toList ++ r) μ') := by
  unfold tz_cs at h
  split at h
  · next As r hq =>
    split at h
    · next hb =>
      obtain ⟨b2, b3⟩ := Bool.and_eq_true_iff.mp hb
      obtain ⟨pre, h1, h2, h3⟩ := rz_tk_spec _ _ _ _ _ hq
      rw [List.append_nil] at h1
      subst h1
      exact ⟨As, r, h2, h3, Nat.le_of_ble_eq_true b2, Nat.le_of_ble_eq_true b3, h⟩
    · exact h.elim
  · exact h.elim
theorem rz_cvi (G : rz_Cx cl X cc n Ts own rm) (hM : rz_MI sh cl X.1 y maxL ws rmc C) (hC : rz_Cd Ts y bytes maxL ret ws k rmc) (hl : Cond.methodLink own idx y ∈ Ts) (hin : Cond.instanceMethod y ∈ Ts) (hse : Cond.selects y.cls y y ∈ Ts) (hc : cl[ci]? = some q) (hq : q.1 = y.cls)
    (hR : rmc.frames + 1 ≤ rm.frames ∧ 8 + (maxL + 11) + rmc.locals ≤ rm.locals) (hd : decode cc pc = .ok (.invokevirtual idx, 3)) : rz_Snd sh cl X bp RT (tz_cv sh k ci maxL C) pc (pc + 3) := by
  obtain ⟨⟨l, D, ad, cA, N0⟩, p, e, R, s, m, args, below, meth, c, Q, cells, slots, nL⟩ := X
  obtain ⟨⟨hx, hb, hml, hown, hts⟩, hK, hN, hce, hsl, hRm, hnL, hNw⟩ := G
  subst hRm
  obtain ⟨hG, ⟨ws', hw⟩, hini, hds, hrc, hrs⟩ := hC
  intro P J K hRt hJ hk ls st μ h
  obtain ⟨o, As, r, fs, rfl, hlen, hsh, hcs, hmx, hCC⟩ := rz_cv_spec h
  intro la H locs hlv hP hD hS
  refine va_calli (va_runV (g := F0 m pc la ((As.reverse ++ .ref o :: r).map (rz_v ad))) (As := As.map (rz_v ad)) (rest := r.map (rz_v ad)) (b := ad o) (C := y.cls) (n := k) (nL := nL) ⟨hx, hb, hml, hown, hts⟩ (hM (.ref o :: As) μ _ hmx hCC) ⟨callB_of k hts hG hw hrc hrs (hts _ hini) (hts _ hl) hds hR, hts _ hin, hts _ hse⟩ ⟨rz_blind, ?_, fun U hU hW => ⟨rfl, ?_, by rw [hU]; exact hP, va_K.moved hW.alike hK, hD, fun w hw => rz_nw_warm w hw hW (hNw w hw)⟩⟩ rfl (by rw [List.length_map]; exact hlen) hlv.1 (by simp [List.map_append, List.map_reverse, rz_v]) (lv_room (by rw [rz_cs_eq]; exact hcs)) hd ⟨hce, hsl⟩) hS (fun _ _ z => z) (fun _ z => z) (fun r1 u t H1 locs1 ht hvm hw1 hB hz1 hk1 hS1 => ?_)
  · have := va_recv hK hP hc (rz_ws_at hsh)
    rw [hq] at this
    exact this
  · rw [hU]; exact Nat.le_trans hN hS.1
  · obtain ⟨hP1, hK1, hD1⟩ := hB
    rw [ht] at hP1
    exact hk _ _ _ hw1 la H1 locs1 hlv hP1 hD1 hS1
theorem rz_cvv (G : rz_Cx cl X cc n Ts own rm) (hM : rz_MV sh cl X.1 y maxL ws rmc C) (hC : rz_Cd Ts y bytes maxL ret ws k rmc) (hl : Cond.methodLink own idx y ∈ Ts) (hin : Cond.instanceMethod y ∈ Ts) (hse : Cond.selects y.cls y y ∈ Ts) (hc : cl[ci]? = some q) (hq : q.1 = y.cls)
    (hR : rmc.frames + 1 ≤ rm.frames ∧ 8 + (maxL + 11) + rmc.locals ≤ rm.locals) (hd : decode cc pc = .ok (.invokevirtual idx, 3)) : rz_Snd sh cl X bp RT (tz_cv sh k ci maxL C) pc (pc + 3) := by
  obtain ⟨⟨l, D, ad, cA, N0⟩, p, e, R, s, m, args, below, meth, c, Q, cells, slots, nL⟩ := X
  obtain ⟨⟨hx, hb, hml, hown, hts⟩, hK, hN, hce, hsl, hRm, hnL, hNw⟩ := G
  subst hRm
  obtain ⟨hG, ⟨ws', hw⟩, hini, hds, hrc, hrs⟩ := hC
  intro P J K hRt hJ hk ls st μ h
  obtain ⟨o, As, r, fs, rfl, hlen, hsh, hcs, hmx, hCC⟩ := rz_cv_spec h
  intro la H locs hlv hP hD hS
  refine va_callv (va_runV (g := F0 m pc la ((As.reverse ++ .ref o :: r).map (rz_v ad))) (As := As.map (rz_v ad)) (rest := r.map (rz_v ad)) (b := ad o) (C := y.cls) (n := k) (nL := nL) ⟨hx, hb, hml, hown, hts⟩ (hM (.ref o :: As) μ _ hmx hCC) ⟨callB_of k hts hG hw hrc hrs (hts _ hini) (hts _ hl) hds hR, hts _ hin, hts _ hse⟩ ⟨rz_blind, ?_, fun U hU hW => ⟨rfl, ?_, by rw [hU]; exact hP, va_K.moved hW.alike hK, hD, fun w hw => rz_nw_warm w hw hW (hNw w hw)⟩⟩ rfl (by rw [List.length_map]; exact hlen) hlv.1 (by simp [List.map_append, List.map_reverse, rz_v]) (lv_room (by rw [rz_cs_eq]; exact hcs)) hd ⟨hce, hsl⟩) hS (fun _ _ z => z) (fun _ z => z) (fun u t H1 locs1 ht hvm hw1 hB hz1 hk1 hS1 => ?_)
  · have := va_recv hK hP hc (rz_ws_at hsh)
    rw [hq] at this
    exact this
  · rw [hU]; exact Nat.le_trans hN hS.1
  · obtain ⟨hP1, hK1, hD1⟩ := hB
    rw [ht] at hP1
    exact hk _ _ _ hw1 la H1 locs1 hlv hP1 hD1 hS1
theorem rz_csi (G : rz_Cx cl X cc n Ts own rm) (hM : rz_MI sh cl X.1 y maxL ws rmc C) (hC : rz_Cd Ts y bytes maxL ret ws k rmc) (hl : Cond.methodLink own idx y ∈ Ts) (hst : Cond.static y ∈ Ts)
    (hR : rmc.frames + 1 ≤ rm.frames ∧ 8 + (maxL + 11) + rmc.locals ≤ rm.locals) (hd : decode cc pc = .ok (.invokestatic idx, 3)) : rz_Snd sh cl X bp RT (tz_cs k maxL C) pc (pc + 3) := by
  obtain ⟨⟨l, D, ad, cA, N0⟩, p, e, R, s, m, args, below, meth, c, Q, cells, slots, nL⟩ := X
  obtain ⟨⟨hx, hb, hml, hown, hts⟩, hK, hN, hce, hsl, hRm, hnL, hNw⟩ := G
  subst hRm
  obtain ⟨hG, ⟨ws', hw⟩, hini, hds, hrc, hrs⟩ := hC
  intro P J K hRt hJ hk ls st μ h
  obtain ⟨As, r, rfl, hlen, hcs, hmx, hCC⟩ := rz_cs_spec h
  intro la H locs hlv hP hD hS
  refine va_calli (va_runS (g := F0 m pc la ((As.reverse ++ r).map (rz_v ad))) (As := As.map (rz_v ad)) (rest := r.map (rz_v ad)) (n := k) (nL := nL) ⟨hx, hb, hml, hown, hts⟩ (hM As μ _ hmx hCC) ⟨callB_of k hts hG hw hrc hrs (hts _ hini) (hts _ hl) hds hR, hts _ hst⟩ ⟨rz_blind, fun U hU hW => ⟨rfl, ?_, by rw [hU]; exact hP, va_K.moved hW.alike hK, hD, fun w hw => rz_nw_warm w hw hW (hNw w hw)⟩⟩ rfl (by rw [List.length_map]; exact hlen) hlv.1 (by simp [List.map_append, List.map_reverse]) (lv_room (by rw [rz_cs_eq]; exact hcs)) hd ⟨hce, hsl⟩) hS (fun _ _ z => z) (fun _ z => z) (fun r1 u t H1 locs1 ht hvm hw1 hB hz1 hk1 hS1 => ?_)
  · rw [hU]; exact Nat.le_trans hN hS.1
  · obtain ⟨hP1, hK1, hD1⟩ := hB
    rw [ht] at hP1
    exact hk _ _ _ hw1 la H1 locs1 hlv hP1 hD1 hS1
end RZC
/-! returns, and a method's contract out of its blocks -/
def tz_iret : rz_T := fun P _ _ _ st μ => match st with
  | [.int v] => P (some (.int v)) μ
  | _ => False
def tz_zret : rz_T := fun P _ _ _ st μ => match st with
  | [.int v] => (v = 0 ∨ v = 1) ∧ P (some (.int v)) μ
  | _ => False
def tz_vret : rz_T := fun P _ _ _ st μ => match st with
  | [] => P none μ
  | _ => False
/-- the way out: ok says which ints may be given back -/
def rz_RI (sh : List rz_Sh) (cl : List vw_C) (X : rz_X) (cc : ByteArray) (ok : Int32 → Prop) (P : rz_P) : Prop :=
  ∀ (pc : Nat) (v : Int32) (ls : rz_L) (μ : rz_M), decode cc pc = .ok (.ireturn, 1) → ok v → P (some (.int v)) μ → rz_W sh cl X pc ls [.int v] μ
def rz_RV (sh : List rz_Sh) (cl : List vw_C) (X : rz_X) (cc : ByteArray) (P : rz_P) : Prop :=
  ∀ (pc : Nat) (ls : rz_L) (μ : rz_M), decode cc pc = .ok (.return_, 1) → P none μ → rz_W sh cl X pc ls [] μ
section RZR
variable {sh : List rz_Sh} {cl : List vw_C} {X : rz_X} {bp : Nat → Nat} {pc npc : Nat} {cc : ByteArray} {ok : Int32 → Prop}
theorem rz_iret (hok : ∀ v, ok v) (hd : decode cc pc = .ok (.ireturn, 1)) : rz_Snd sh cl X bp (rz_RI sh cl X cc ok) tz_iret pc npc := by
  intro P J K hR hJ hk ls st μ h
  unfold tz_iret at h
  split at h
  · exact hR pc _ ls μ hd (hok _) h
  · exact h.elim
theorem rz_zret (hok : ∀ v, v = 0 ∨ v = 1 → ok v) (hd : decode cc pc = .ok (.ireturn, 1)) : rz_Snd sh cl X bp (rz_RI sh cl X cc ok) tz_zret pc npc := by
  intro P J K hR hJ hk ls st μ h
  unfold tz_zret at h
  split at h
  · exact hR pc _ ls μ hd (hok _ h.1) h.2
  · exact h.elim
theorem rz_vret (hd : decode cc pc = .ok (.return_, 1)) : rz_Snd sh cl X bp (rz_RV sh cl X cc) tz_vret pc npc := by
  intro P J K hR hJ hk ls st μ h
  unfold tz_vret at h
  split at h
  · exact hR pc ls μ hd h
  · exact h.elim
end RZR
/-- the locals at a method's entry -/
def rz_ent : List Value → rz_L
  | [] => []
  | v :: t => match rz_one v with
    | true => some v :: rz_ent t
    | false => some v :: none :: rz_ent t
def rz_pad : Nat → rz_L → rz_L
  | 0, ls => ls
  | n + 1, [] => none :: rz_pad n []
  | n + 1, v :: t => v :: rz_pad n t
theorem rz_pad_lg : ∀ (n : Nat) (ls : rz_L) (i : Nat) (v : Value), rz_lg (rz_pad n ls) i = some v → rz_lg ls i = some v
  | 0, ls, i, v, h => h
  | n + 1, [], 0, v, h => by simp [rz_pad, rz_lg] at h
  | n + 1, [], i + 1, v, h => by
    have := rz_pad_lg n [] i v h
    simp [rz_lg] at this
  | n + 1, a :: t, 0, v, h => h
  | n + 1, a :: t, i + 1, v, h => rz_pad_lg n t i v h
theorem rz_cat2 {v : Value} (h : rz_one v = false) : v.category = 2 := by cases v <;> first | rfl | cases h
theorem rz_cat1 {v : Value} (h : rz_one v = true) : v.category = 1 := by cases v <;> first | rfl | cases h
theorem rz_ent_ps (ad : Nat → Nat) : ∀ (vs : List Value) (k : Nat) (q : Nat × Value), q ∈ rz_ps ad k (rz_ent vs) → q ∈ lv_args k (vs.map (rz_v ad))
  | [], k, q, h => by simp [rz_ent, rz_ps] at h
  | v :: t, k, q, h => by
    unfold rz_ent at h
    rw [List.map_cons, lv_args, rz_v_cat]
    split at h
    · next h1 =>
      rw [rz_cat1 h1, if_neg (by decide)]
      rw [rz_ps] at h
      rcases List.mem_cons.mp h with h | h
      · rw [h]; exact List.mem_cons_self
      · exact List.mem_cons_of_mem _ (rz_ent_ps ad t (k + 1) q h)
    · next h1 =>
      rw [rz_cat2 h1, if_pos rfl]
      rw [rz_ps, rz_ps] at h
      rcases List.mem_cons.mp h with h | h
      · rw [h]; exact List.mem_cons_self
      · exact List.mem_cons_of_mem _ (rz_ent_ps ad t (k + 2) q h)
theorem rz_sl_len (ad : Nat → Nat) : ∀ vs : List Value, (lg_sl (vs.map (rz_v ad))).length = rz_cs vs
  | [] => rfl
  | v :: t => by
    have ih := rz_sl_len ad t
    unfold lg_sl at ih ⊢
    rw [List.map_cons, List.flatMap_cons, List.length_append, ih, rz_v_cat, rz_cs]
    by_cases h : rz_one v = true
    · rw [rz_cat1 h]; rfl
    · rw [rz_cat2 (by simpa using h)]; rfl
theorem rz_entry {ad : Nat → Nat} {vs : List Value} {n : Nat} (h : rz_cs vs ≤ n) : lv_has ((lg_sl (vs.map (rz_v ad)) ++ List.replicate (n - (lg_sl (vs.map (rz_v ad))).length) Slot.unset).toArray) n (rz_ps ad 0 (rz_pad n (rz_ent vs))) := by
  have hl := lv_entry (vs.map (rz_v ad)) (n := n) (by rw [rz_sl_len]; exact h)
  refine ⟨hl.1, hl.2.1, fun q hq => hl.2.2 q ?_⟩
  refine rz_ent_ps ad vs 0 q ?_
  obtain ⟨j, v, e, hj⟩ := (rz_ps_mem ad _ 0 q).mp hq
  exact (rz_ps_mem ad _ 0 q).mpr ⟨j, v, e, rz_pad_lg _ _ _ _ hj⟩
/-- a method that gives an int: sound blocks, and a walk of the blocks by whatever the contract gives -/
theorem rz_metI {sh : List rz_Sh} {cl : List vw_C} {E : rz_E} {y : MethodName} {cc : ByteArray} {maxL : Nat} {ty : FieldType} {Ts : List Cond} {rm : Room} {C : rz_C} {bk : Nat → List rz_T} {bp : Nat → Nat}
    (hy : plainName y.cls = true) (h0 : bp 0 = 0)
    (hs : ∀ X : rz_X, X.1 = E → rz_Cx cl X cc maxL Ts y.cls rm → ∀ b, rz_SB sh cl X bp (rz_RI sh cl X cc (fun v => narrow ty (.int v) = .int v)) (bk b) (bp b))
    (hb : ∀ (Y : Nat → rz_K) (P : rz_P), (∀ b ls st μ, rz_ex P Y (bk b) ls st μ → Y b ls st μ) → ∀ As μ, C As μ P → Y 0 (rz_pad maxL (rz_ent As)) [] μ) :
    rz_MI sh cl E y maxL (Cond.code y cc maxL (some ty) :: Ts) rm C := by
  obtain ⟨l, D, ad, cA, N0⟩ := E
  intro As μ P hAs hC
  refine Met.ofW (cc := cc) (maxL := maxL) (ret := (some ty)) hy rfl ?_
  intro p e s m args below meth c s₁ B hml hv
  obtain ⟨rfl, hN, hP, hK, hD, hNw⟩ := hv
  have hts := atoms_spec (ws := Cond.code y cc maxL (some ty) :: Ts) B.pre
  have hown : s.vm.findClass y.cls = some m.cls := findClass_of_methodNamed B.named
  have hx := B.exec
  have hbb := B.bytes
  have hr := B.returns
  have hlocks := B.notSynchronized
  have G : rz_Cx cl ((l, D, ad, cA, N0), p, e, rm, s, m, (As.map (rz_v ad)).toArray, below, meth, c, MQ below (va_Qi (fun (r : Int32) (u : rz_M) => P (some (.int r)) u) (rz_B sh cl (l, D, ad, cA, N0)) (rz_A N0)) (As.map (rz_v ad)).toArray s 0 0 (rz_A N0), 0, 0, maxL) cc maxL Ts y.cls rm :=
    ⟨⟨hx, hbb, hml, hown, fun w h => hts w (List.mem_cons_of_mem _ h)⟩, hK, hN, Nat.zero_le _, Nat.zero_le _, rfl, rfl, hNw⟩
  have key := hb (fun b => rz_W sh cl ((l, D, ad, cA, N0), p, e, rm, s, m, (As.map (rz_v ad)).toArray, below, meth, c, MQ below (va_Qi (fun (r : Int32) (u : rz_M) => P (some (.int r)) u) (rz_B sh cl (l, D, ad, cA, N0)) (rz_A N0)) (As.map (rz_v ad)).toArray s 0 0 (rz_A N0), 0, 0, maxL) (bp b)) P
    (fun b ls st μ h => hs _ rfl G b P _ (fun pc v ls μ hd hok hp => ?_) (fun _ _ _ _ z => z) ls st μ h) As μ hC
  · rw [lg_entry_eq]
    rw [h0] at key
    exact key _ s.heap [] (rz_entry hAs) hP hD va_S.rf
  · intro la H locs hl hP hD hS
    exact W.zret hx hbb hr hok (fun t ht hW => ⟨⟨v, μ, rfl, hp, by rw [ht]; exact hP, va_K.moved hW.alike hK, hD⟩, hS.F ht⟩) hS.2.2 hd
/-- a method that gives nothing: sound blocks, and a walk of the blocks by whatever the contract gives -/
theorem rz_metV {sh : List rz_Sh} {cl : List vw_C} {E : rz_E} {y : MethodName} {cc : ByteArray} {maxL : Nat} {Ts : List Cond} {rm : Room} {C : rz_C} {bk : Nat → List rz_T} {bp : Nat → Nat}
    (hy : plainName y.cls = true) (h0 : bp 0 = 0)
    (hs : ∀ X : rz_X, X.1 = E → rz_Cx cl X cc maxL Ts y.cls rm → ∀ b, rz_SB sh cl X bp (rz_RV sh cl X cc) (bk b) (bp b))
    (hb : ∀ (Y : Nat → rz_K) (P : rz_P), (∀ b ls st μ, rz_ex P Y (bk b) ls st μ → Y b ls st μ) → ∀ As μ, C As μ P → Y 0 (rz_pad maxL (rz_ent As)) [] μ) :
    rz_MV sh cl E y maxL (Cond.code y cc maxL none :: Ts) rm C := by
  obtain ⟨l, D, ad, cA, N0⟩ := E
  intro As μ P hAs hC
  refine Met.ofW (cc := cc) (maxL := maxL) (ret := none) hy rfl ?_
  intro p e s m args below meth c s₁ B hml hv
  obtain ⟨rfl, hN, hP, hK, hD, hNw⟩ := hv
  have hts := atoms_spec (ws := Cond.code y cc maxL none :: Ts) B.pre
  have hown : s.vm.findClass y.cls = some m.cls := findClass_of_methodNamed B.named
  have hx := B.exec
  have hbb := B.bytes
  have hr := B.returns
  have hlocks := B.notSynchronized
  have G : rz_Cx cl ((l, D, ad, cA, N0), p, e, rm, s, m, (As.map (rz_v ad)).toArray, below, meth, c, MQ below (va_Qv (fun (u : rz_M) => P none u) (rz_B sh cl (l, D, ad, cA, N0)) (rz_A N0)) (As.map (rz_v ad)).toArray s 0 0 (rz_A N0), 0, 0, maxL) cc maxL Ts y.cls rm :=
    ⟨⟨hx, hbb, hml, hown, fun w h => hts w (List.mem_cons_of_mem _ h)⟩, hK, hN, Nat.zero_le _, Nat.zero_le _, rfl, rfl, hNw⟩
  have key := hb (fun b => rz_W sh cl ((l, D, ad, cA, N0), p, e, rm, s, m, (As.map (rz_v ad)).toArray, below, meth, c, MQ below (va_Qv (fun (u : rz_M) => P none u) (rz_B sh cl (l, D, ad, cA, N0)) (rz_A N0)) (As.map (rz_v ad)).toArray s 0 0 (rz_A N0), 0, 0, maxL) (bp b)) P
    (fun b ls st μ h => hs _ rfl G b P _ (fun pc ls μ hd hp => ?_) (fun _ _ _ _ z => z) ls st μ h) As μ hC
  · rw [lg_entry_eq]
    rw [h0] at key
    exact key _ s.heap [] (rz_entry hAs) hP hD va_S.rf
  · intro la H locs hl hP hD hS
    exact W.vret hx hbb hr (fun t ht hW => ⟨⟨μ, rfl, hp, by rw [ht]; exact hP, va_K.moved hW.alike hK, hD⟩, hS.F ht⟩) hS.2.2 hd
end
section
/-! names, field tables, words (by program, wip/gen/gen.py) -/
def rz_tbl : List Cond := lw_tbl.filter goodWord
theorem rz_in {w : Cond} (i : Nat) (h : lw_tbl[i]? = some w) (hk : goodWord w = true) : w ∈ rz_tbl := List.mem_filter.mpr ⟨List.mem_of_getElem? h, hk⟩
theorem rz_ins {ws : List Cond} (is : List Nat) (h : ws.map some = is.map (fun i => lw_tbl[i]?)) (hk : ws.all goodWord = true) : ∀ w ∈ ws, w ∈ rz_tbl := by
  intro w hw
  have h1 : some w ∈ is.map (fun i => lw_tbl[i]?) := by rw [← h]; exact List.mem_map.mpr ⟨w, hw, rfl⟩
  obtain ⟨i, -, hi⟩ := List.mem_map.mp h1
  exact rz_in i hi (List.all_eq_true.mp hk w hw)
theorem rz_good {y : MethodName} {b : ByteArray} {n : Nat} {r : Option FieldType} (h : Cond.code y b n r ∈ rz_tbl) : GoodIn rz_tbl (Cond.code y b n r :: rz_tbl) := fun w hw => by
  rcases List.mem_cons.mp hw with rfl | hw
  · exact ⟨h, Or.inl rfl⟩
  · exact ⟨hw, good_of_word (List.mem_filter.mp hw).2⟩
def R_An : String := "TornCard$Answer"
def T_An : u_T := fun k => match k with
  | 0 => ("TornCard$Answer", "octets", "[I", true)
  | 1 => ("TornCard$Answer", "length", "I", false)
  | _ => ("TornCard$Answer", "sent", "I", false)
def ty_An : Nat → FieldType := fun k => match k with
  | 0 => .array .int
  | 1 => .int
  | _ => .int
theorem nm_An : ∀ a, a < 3 → ∀ b, b < 3 → a ≠ b → (T_An a).2.1 ≠ (T_An b).2.1 := by decide +kernel
theorem tyok_An : ∀ k, k < 3 → parseFieldDescriptor (T_An k).2.2.1 = some (ty_An k) := by decide +kernel
theorem in_An : ∀ w ∈ u_ws R_An T_An 3, w ∈ rz_tbl := rz_ins [226, 228, 230] (by decide +kernel) (by decide +kernel)
def R_Co : String := "TornCard$Command"
def T_Co : u_T := fun k => match k with
  | 0 => ("TornCard$Command", "octets", "[I", true)
  | 1 => ("TornCard$Command", "length", "I", false)
  | 2 => ("TornCard$Command", "tooLong", "Z", false)
  | 3 => ("TornCard$Command", "dataLength", "I", false)
  | _ => ("TornCard$Command", "expected", "I", false)
def ty_Co : Nat → FieldType := fun k => match k with
  | 0 => .array .int
  | 1 => .int
  | 2 => .boolean
  | 3 => .int
  | _ => .int
theorem nm_Co : ∀ a, a < 5 → ∀ b, b < 5 → a ≠ b → (T_Co a).2.1 ≠ (T_Co b).2.1 := by decide +kernel
theorem tyok_Co : ∀ k, k < 5 → parseFieldDescriptor (T_Co k).2.2.1 = some (ty_Co k) := by decide +kernel
theorem in_Co : ∀ w ∈ u_ws R_Co T_Co 5, w ∈ rz_tbl := rz_ins [206, 208, 210, 212, 214] (by decide +kernel) (by decide +kernel)
def R_Fi : String := "TornCard$Files"
def T_Fi : u_T := fun k => match k with
  | 0 => ("TornCard$Files", "names", "[I", true)
  | 1 => ("TornCard$Files", "parents", "[I", true)
  | 2 => ("TornCard$Files", "sizes", "[I", true)
  | 3 => ("TornCard$Files", "readRights", "[I", true)
  | 4 => ("TornCard$Files", "changeRights", "[I", true)
  | 5 => ("TornCard$Files", "octets", "[I", true)
  | _ => ("TornCard$Files", "count", "I", false)
def ty_Fi : Nat → FieldType := fun k => match k with
  | 0 => .array .int
  | 1 => .array .int
  | 2 => .array .int
  | 3 => .array .int
  | 4 => .array .int
  | 5 => .array .int
  | _ => .int
theorem nm_Fi : ∀ a, a < 7 → ∀ b, b < 7 → a ≠ b → (T_Fi a).2.1 ≠ (T_Fi b).2.1 := by decide +kernel
theorem tyok_Fi : ∀ k, k < 7 → parseFieldDescriptor (T_Fi k).2.2.1 = some (ty_Fi k) := by decide +kernel
theorem in_Fi : ∀ w ∈ u_ws R_Fi T_Fi 7, w ∈ rz_tbl := rz_ins [133, 135, 137, 139, 141, 143, 145] (by decide +kernel) (by decide +kernel)
def R_Li : String := "TornCard$Link"
def T_Li : u_T := fun k => match k with
  | 0 => ("TornCard$Link", "incoming", "[I", true)
  | 1 => ("TornCard$Link", "arrived", "I", false)
  | 2 => ("TornCard$Link", "replied", "[I", true)
  | 3 => ("TornCard$Link", "replyLength", "I", false)
  | 4 => ("TornCard$Link", "repeat", "[I", true)
  | 5 => ("TornCard$Link", "repeatLength", "I", false)
  | 6 => ("TornCard$Link", "in", "I", false)
  | 7 => ("TornCard$Link", "out", "I", false)
  | _ => ("TornCard$Link", "size", "I", false)
def ty_Li : Nat → FieldType := fun k => match k with
  | 0 => .array .int
  | 1 => .int
  | 2 => .array .int
  | 3 => .int
  | 4 => .array .int
  | 5 => .int
  | 6 => .int
  | 7 => .int
  | _ => .int
theorem nm_Li : ∀ a, a < 9 → ∀ b, b < 9 → a ≠ b → (T_Li a).2.1 ≠ (T_Li b).2.1 := by decide +kernel
theorem tyok_Li : ∀ k, k < 9 → parseFieldDescriptor (T_Li k).2.2.1 = some (ty_Li k) := by decide +kernel
theorem in_Li : ∀ w ∈ u_ws R_Li T_Li 9, w ∈ rz_tbl := rz_ins [80, 82, 84, 86, 88, 90, 92, 94, 96] (by decide +kernel) (by decide +kernel)
def R_Me : String := "TornCard$Memory"
def T_Me : u_T := fun k => match k with
  | 0 => ("TornCard$Memory", "files", "LTornCard$Files;", true)
  | 1 => ("TornCard$Memory", "noteOctets", "[I", true)
  | 2 => ("TornCard$Memory", "noteFile", "I", false)
  | 3 => ("TornCard$Memory", "noteFrom", "I", false)
  | 4 => ("TornCard$Memory", "noteLength", "I", false)
  | 5 => ("TornCard$Memory", "noted", "Z", false)
  | 6 => ("TornCard$Memory", "secret", "I", false)
  | 7 => ("TornCard$Memory", "tries", "I", false)
  | 8 => ("TornCard$Memory", "writings", "I", false)
  | 9 => ("TornCard$Memory", "tears", "I", false)
  | _ => ("TornCard$Memory", "leftBeforeTear", "I", false)
def ty_Me : Nat → FieldType := fun k => match k with
  | 0 => .object "TornCard$Files"
  | 1 => .array .int
  | 2 => .int
  | 3 => .int
  | 4 => .int
  | 5 => .boolean
  | 6 => .int
  | 7 => .int
  | 8 => .int
  | 9 => .int
  | _ => .int
theorem nm_Me : ∀ a, a < 11 → ∀ b, b < 11 → a ≠ b → (T_Me a).2.1 ≠ (T_Me b).2.1 := by decide +kernel
theorem tyok_Me : ∀ k, k < 11 → parseFieldDescriptor (T_Me k).2.2.1 = some (ty_Me k) := by decide +kernel
theorem in_Me : ∀ w ∈ u_ws R_Me T_Me 11, w ∈ rz_tbl := rz_ins [168, 170, 172, 174, 176, 178, 180, 182, 184, 186, 188] (by decide +kernel) (by decide +kernel)
def R_Wo : String := "TornCard$Worker"
def T_Wo : u_T := fun k => match k with
  | 0 => ("TornCard$Worker", "memory", "LTornCard$Memory;", true)
  | 1 => ("TornCard$Worker", "command", "LTornCard$Command;", true)
  | 2 => ("TornCard$Worker", "answer", "LTornCard$Answer;", true)
  | 3 => ("TornCard$Worker", "opened", "Z", false)
  | 4 => ("TornCard$Worker", "directory", "I", false)
  | _ => ("TornCard$Worker", "currentFile", "I", false)
def ty_Wo : Nat → FieldType := fun k => match k with
  | 0 => .object "TornCard$Memory"
  | 1 => .object "TornCard$Command"
  | 2 => .object "TornCard$Answer"
  | 3 => .boolean
  | 4 => .int
  | _ => .int
theorem nm_Wo : ∀ a, a < 6 → ∀ b, b < 6 → a ≠ b → (T_Wo a).2.1 ≠ (T_Wo b).2.1 := by decide +kernel
theorem tyok_Wo : ∀ k, k < 6 → parseFieldDescriptor (T_Wo k).2.2.1 = some (ty_Wo k) := by decide +kernel
theorem in_Wo : ∀ w ∈ u_ws R_Wo T_Wo 6, w ∈ rz_tbl := rz_ins [245, 247, 249, 251, 253, 255] (by decide +kernel) (by decide +kernel)
def R_Ca : String := "TornCard"
def T_Ca : u_T := fun k => match k with
  | 0 => ("TornCard", "link", "LTornCard$Link;", true)
  | 1 => ("TornCard", "worker", "LTornCard$Worker;", true)
  | 2 => ("TornCard", "memory", "LTornCard$Memory;", true)
  | 3 => ("TornCard", "powered", "Z", false)
  | _ => ("TornCard", "commandsDone", "I", false)
def ty_Ca : Nat → FieldType := fun k => match k with
  | 0 => .object "TornCard$Link"
  | 1 => .object "TornCard$Worker"
  | 2 => .object "TornCard$Memory"
  | 3 => .boolean
  | _ => .int
theorem nm_Ca : ∀ a, a < 5 → ∀ b, b < 5 → a ≠ b → (T_Ca a).2.1 ≠ (T_Ca b).2.1 := by decide +kernel
theorem tyok_Ca : ∀ k, k < 5 → parseFieldDescriptor (T_Ca k).2.2.1 = some (ty_Ca k) := by decide +kernel
theorem in_Ca : ∀ w ∈ u_ws R_Ca T_Ca 5, w ∈ rz_tbl := rz_ins [263, 265, 267, 269, 271] (by decide +kernel) (by decide +kernel)
def R_Mo : String := "TornCardModel"
def T_Mo : u_T := fun k => match k with
  | 0 => ("TornCardModel", "name", "[I", true)
  | 1 => ("TornCardModel", "directory", "[I", true)
  | 2 => ("TornCardModel", "size", "[I", true)
  | 3 => ("TornCardModel", "read", "[I", true)
  | 4 => ("TornCardModel", "change", "[I", true)
  | 5 => ("TornCardModel", "octets", "[I", true)
  | 6 => ("TornCardModel", "files", "I", false)
  | 7 => ("TornCardModel", "secret", "I", false)
  | 8 => ("TornCardModel", "tries", "I", false)
  | 9 => ("TornCardModel", "writings", "I", false)
  | 10 => ("TornCardModel", "torn", "I", false)
  | 11 => ("TornCardModel", "commands", "I", false)
  | 12 => ("TornCardModel", "tear", "I", false)
  | 13 => ("TornCardModel", "note", "[I", true)
  | 14 => ("TornCardModel", "noteFile", "I", false)
  | 15 => ("TornCardModel", "noteFrom", "I", false)
  | 16 => ("TornCardModel", "noteSize", "I", false)
  | 17 => ("TornCardModel", "on", "Z", false)
  | 18 => ("TornCardModel", "opened", "Z", false)
  | 19 => ("TornCardModel", "tooLong", "Z", false)
  | 20 => ("TornCardModel", "folder", "I", false)
  | 21 => ("TornCardModel", "file", "I", false)
  | 22 => ("TornCardModel", "in", "I", false)
  | 23 => ("TornCardModel", "out", "I", false)
  | 24 => ("TornCardModel", "piece", "I", false)
  | 25 => ("TornCardModel", "block", "[I", true)
  | 26 => ("TornCardModel", "command", "[I", true)
  | 27 => ("TornCardModel", "answer", "[I", true)
  | 28 => ("TornCardModel", "reply", "[I", true)
  | 29 => ("TornCardModel", "again", "[I", true)
  | 30 => ("TornCardModel", "blockSize", "I", false)
  | 31 => ("TornCardModel", "commandSize", "I", false)
  | 32 => ("TornCardModel", "answerSize", "I", false)
  | 33 => ("TornCardModel", "sent", "I", false)
  | 34 => ("TornCardModel", "replySize", "I", false)
  | 35 => ("TornCardModel", "againSize", "I", false)
  | _ => ("TornCardModel", "againIsPiece", "Z", false)
def ty_Mo : Nat → FieldType := fun k => match k with
  | 0 => .array .int
  | 1 => .array .int
  | 2 => .array .int
  | 3 => .array .int
  | 4 => .array .int
  | 5 => .array .int
  | 6 => .int
  | 7 => .int
  | 8 => .int
  | 9 => .int
  | 10 => .int
  | 11 => .int
  | 12 => .int
  | 13 => .array .int
  | 14 => .int
  | 15 => .int
  | 16 => .int
  | 17 => .boolean
  | 18 => .boolean
  | 19 => .boolean
  | 20 => .int
  | 21 => .int
  | 22 => .int
  | 23 => .int
  | 24 => .int
  | 25 => .array .int
  | 26 => .array .int
  | 27 => .array .int
  | 28 => .array .int
  | 29 => .array .int
  | 30 => .int
  | 31 => .int
  | 32 => .int
  | 33 => .int
  | 34 => .int
  | 35 => .int
  | _ => .boolean
theorem nm_Mo : ∀ a, a < 37 → ∀ b, b < 37 → a ≠ b → (T_Mo a).2.1 ≠ (T_Mo b).2.1 := by decide +kernel
theorem tyok_Mo : ∀ k, k < 37 → parseFieldDescriptor (T_Mo k).2.2.1 = some (ty_Mo k) := by decide +kernel
theorem in_Mo : ∀ w ∈ u_ws R_Mo T_Mo 37, w ∈ rz_tbl := rz_ins [656, 658, 660, 662, 664, 666, 668, 670, 672, 674, 676, 678, 680, 682, 684, 686, 688, 690, 692, 694, 696, 698, 700, 702, 704, 706, 708, 710, 712, 714, 716, 718, 720, 722, 724, 726, 728] (by decide +kernel) (by decide +kernel)
def R_Lw : String := "TornCardLaw"
abbrev CL : List vw_C := [(R_An, T_An, 3), (R_Co, T_Co, 5), (R_Fi, T_Fi, 7), (R_Li, T_Li, 9), (R_Me, T_Me, 11), (R_Wo, T_Wo, 6), (R_Ca, T_Ca, 5), (R_Mo, T_Mo, 37)]
def SH : List rz_Sh := [.inr (6, [some 1, some 5, some 6, none, none]), .inr (3, [some 2, none, some 3, none, some 4, none, none, none, none]), .inl 36, .inl 36, .inl 36, .inr (5, [some 6, some 15, some 17, none, none, none]), .inr (4, [some 7, some 14, none, none, none, none, none, none, none, none, none]), .inr (2, [some 8, some 9, some 10, some 11, some 12, some 13, none]), .inl 8, .inl 8, .inl 8, .inl 8, .inl 8, .inl 192, .inl 24, .inr (1, [some 16, none, none, none, none]), .inl 40, .inr (0, [some 18, none, none]), .inl 26, .inr (7, [some 20, some 21, some 22, some 23, some 24, some 25, none, none, none, none, none, none, none, some 26, none, none, none, none, none, none, none, none, none, none, none, some 27, some 28, some 29, some 30, some 31, none, none, none, none, none, none, none]), .inl 8, .inl 8, .inl 8, .inl 8, .inl 8, .inl 192, .inl 24, .inl 40, .inl 40, .inl 40, .inl 40, .inl 40]
abbrev c_Ca_init : ByteArray := prog_1_method_1_code
def y_Ca_init : MethodName := ⟨R_Ca, "<init>", "()V"⟩
abbrev c_Li_init : ByteArray := prog_5_method_1_code
def y_Li_init : MethodName := ⟨R_Li, "<init>", "()V"⟩
abbrev c_Wo_init : ByteArray := prog_7_method_1_code
def y_Wo_init : MethodName := ⟨R_Wo, "<init>", "()V"⟩
abbrev c_Me_init : ByteArray := prog_6_method_1_code
def y_Me_init : MethodName := ⟨R_Me, "<init>", "()V"⟩
abbrev c_Fi_init : ByteArray := prog_4_method_1_code
def y_Fi_init : MethodName := ⟨R_Fi, "<init>", "()V"⟩
abbrev c_Co_init : ByteArray := prog_3_method_1_code
def y_Co_init : MethodName := ⟨R_Co, "<init>", "()V"⟩
abbrev c_An_init : ByteArray := prog_2_method_1_code
def y_An_init : MethodName := ⟨R_An, "<init>", "()V"⟩
abbrev c_Ca_file : ByteArray := prog_1_method_2_code
def y_Ca_file : MethodName := ⟨R_Ca, "file", "(IIIII)I"⟩
abbrev c_Fi_isDirectory : ByteArray := prog_4_method_4_code
def y_Fi_isDirectory : MethodName := ⟨R_Fi, "isDirectory", "(I)Z"⟩
abbrev c_Fi_has : ByteArray := prog_4_method_3_code
def y_Fi_has : MethodName := ⟨R_Fi, "has", "(I)Z"⟩
abbrev c_Fi_isRight : ByteArray := prog_4_method_2_code
def y_Fi_isRight : MethodName := ⟨R_Fi, "isRight", "(I)Z"⟩
abbrev c_Fi_add : ByteArray := prog_4_method_8_code
def y_Fi_add : MethodName := ⟨R_Fi, "add", "(IIIII)I"⟩
abbrev c_Ca_tear : ByteArray := prog_1_method_3_code
def y_Ca_tear : MethodName := ⟨R_Ca, "tear", "(I)I"⟩
abbrev c_Ca_on : ByteArray := prog_1_method_4_code
def y_Ca_on : MethodName := ⟨R_Ca, "on", "()I"⟩
abbrev c_Ca_powerDown : ByteArray := prog_1_method_14_code
def y_Ca_powerDown : MethodName := ⟨R_Ca, "powerDown", "()V"⟩
abbrev c_Li_reset : ByteArray := prog_5_method_2_code
def y_Li_reset : MethodName := ⟨R_Li, "reset", "()V"⟩
abbrev c_Li_resync : ByteArray := prog_5_method_3_code
def y_Li_resync : MethodName := ⟨R_Li, "resync", "()V"⟩
abbrev c_Wo_reset : ByteArray := prog_7_method_2_code
def y_Wo_reset : MethodName := ⟨R_Wo, "reset", "()V"⟩
abbrev c_Wo_forgetExchange : ByteArray := prog_7_method_3_code
def y_Wo_forgetExchange : MethodName := ⟨R_Wo, "forgetExchange", "()V"⟩
abbrev c_Co_clear : ByteArray := prog_3_method_2_code
def y_Co_clear : MethodName := ⟨R_Co, "clear", "()V"⟩
abbrev c_An_clear : ByteArray := prog_2_method_2_code
def y_An_clear : MethodName := ⟨R_An, "clear", "()V"⟩
abbrev c_Me_carryOutNote : ByteArray := prog_6_method_4_code
def y_Me_carryOutNote : MethodName := ⟨R_Me, "carryOutNote", "()Z"⟩
abbrev c_Me_mayWrite : ByteArray := prog_6_method_2_code
def y_Me_mayWrite : MethodName := ⟨R_Me, "mayWrite", "()Z"⟩
abbrev c_Fi_put : ByteArray := prog_4_method_7_code
def y_Fi_put : MethodName := ⟨R_Fi, "put", "(III)V"⟩
abbrev c_Li_sendGreeting : ByteArray := prog_5_method_13_code
def y_Li_sendGreeting : MethodName := ⟨R_Li, "sendGreeting", "(I)V"⟩
abbrev c_Ca_off : ByteArray := prog_1_method_5_code
def y_Ca_off : MethodName := ⟨R_Ca, "off", "()I"⟩
abbrev c_Ca_feed : ByteArray := prog_1_method_6_code
def y_Ca_feed : MethodName := ⟨R_Ca, "feed", "(JI)I"⟩
abbrev c_Ca_octetOf : ByteArray := prog_1_method_13_code
def y_Ca_octetOf : MethodName := ⟨R_Ca, "octetOf", "(JI)I"⟩
abbrev c_Li_take : ByteArray := prog_5_method_4_code
def y_Li_take : MethodName := ⟨R_Li, "take", "(I)V"⟩
abbrev c_Li_isWhole : ByteArray := prog_5_method_5_code
def y_Li_isWhole : MethodName := ⟨R_Li, "isWhole", "()Z"⟩
abbrev c_Li_isTooLong : ByteArray := prog_5_method_6_code
def y_Li_isTooLong : MethodName := ⟨R_Li, "isTooLong", "()Z"⟩
abbrev c_Li_infLength : ByteArray := prog_5_method_8_code
def y_Li_infLength : MethodName := ⟨R_Li, "infLength", "()I"⟩
abbrev c_Ca_answerBlock : ByteArray := prog_1_method_15_code
def y_Ca_answerBlock : MethodName := ⟨R_Ca, "answerBlock", "()V"⟩
abbrev c_Li_wrong : ByteArray := prog_5_method_10_code
def y_Li_wrong : MethodName := ⟨R_Li, "wrong", "()I"⟩
abbrev c_Li_sumOfArrived : ByteArray := prog_5_method_11_code
def y_Li_sumOfArrived : MethodName := ⟨R_Li, "sumOfArrived", "()I"⟩
abbrev c_Li_sum : ByteArray := prog_5_method_12_code
def y_Li_sum : MethodName := ⟨R_Li, "sum", "([II)I"⟩
abbrev c_Li_pcb : ByteArray := prog_5_method_7_code
def y_Li_pcb : MethodName := ⟨R_Li, "pcb", "()I"⟩
abbrev c_Ca_takeInformation : ByteArray := prog_1_method_16_code
def y_Ca_takeInformation : MethodName := ⟨R_Ca, "takeInformation", "(IZ)I"⟩
abbrev c_Li_inf : ByteArray := prog_5_method_9_code
def y_Li_inf : MethodName := ⟨R_Li, "inf", "(I)I"⟩
abbrev c_Co_add : ByteArray := prog_3_method_3_code
def y_Co_add : MethodName := ⟨R_Co, "add", "(I)V"⟩
abbrev c_Li_sendReady : ByteArray := prog_5_method_14_code
def y_Li_sendReady : MethodName := ⟨R_Li, "sendReady", "(I)V"⟩
abbrev c_Li_begin : ByteArray := prog_5_method_19_code
def y_Li_begin : MethodName := ⟨R_Li, "begin", "(I)V"⟩
abbrev c_Li_finish : ByteArray := prog_5_method_21_code
def y_Li_finish : MethodName := ⟨R_Li, "finish", "()V"⟩
abbrev c_Wo_perform : ByteArray := prog_7_method_4_code
def y_Wo_perform : MethodName := ⟨R_Wo, "perform", "()I"⟩
abbrev c_Co_parse : ByteArray := prog_3_method_4_code
def y_Co_parse : MethodName := ⟨R_Co, "parse", "()Z"⟩
abbrev c_Co_octetClass : ByteArray := prog_3_method_5_code
def y_Co_octetClass : MethodName := ⟨R_Co, "octetClass", "()I"⟩
abbrev c_Co_instruction : ByteArray := prog_3_method_6_code
def y_Co_instruction : MethodName := ⟨R_Co, "instruction", "()I"⟩
abbrev c_Wo_find : ByteArray := prog_7_method_6_code
def y_Wo_find : MethodName := ⟨R_Wo, "find", "()I"⟩
abbrev c_Co_a : ByteArray := prog_3_method_7_code
def y_Co_a : MethodName := ⟨R_Co, "a", "()I"⟩
abbrev c_Co_b : ByteArray := prog_3_method_8_code
def y_Co_b : MethodName := ⟨R_Co, "b", "()I"⟩
abbrev c_Co_dataAsName : ByteArray := prog_3_method_11_code
def y_Co_dataAsName : MethodName := ⟨R_Co, "dataAsName", "()I"⟩
abbrev c_Co_data : ByteArray := prog_3_method_10_code
def y_Co_data : MethodName := ⟨R_Co, "data", "(I)I"⟩
abbrev c_Fi_find : ByteArray := prog_4_method_9_code
def y_Fi_find : MethodName := ⟨R_Fi, "find", "(II)I"⟩
abbrev c_Wo_parentOfDirectory : ByteArray := prog_7_method_7_code
def y_Wo_parentOfDirectory : MethodName := ⟨R_Wo, "parentOfDirectory", "()I"⟩
abbrev c_Wo_read : ByteArray := prog_7_method_9_code
def y_Wo_read : MethodName := ⟨R_Wo, "read", "()I"⟩
abbrev c_Co_place : ByteArray := prog_3_method_9_code
def y_Co_place : MethodName := ⟨R_Co, "place", "()I"⟩
abbrev c_Fi_mayRead : ByteArray := prog_4_method_10_code
def y_Fi_mayRead : MethodName := ⟨R_Fi, "mayRead", "(IZ)Z"⟩
abbrev c_Fi_allows : ByteArray := prog_4_method_12_code
def y_Fi_allows : MethodName := ⟨R_Fi, "allows", "(IZ)Z"⟩
abbrev c_Wo_testPlace : ByteArray := prog_7_method_8_code
def y_Wo_testPlace : MethodName := ⟨R_Wo, "testPlace", "(IZ)I"⟩
abbrev c_Fi_hasOctet : ByteArray := prog_4_method_5_code
def y_Fi_hasOctet : MethodName := ⟨R_Fi, "hasOctet", "(II)Z"⟩
abbrev c_Fi_octet : ByteArray := prog_4_method_6_code
def y_Fi_octet : MethodName := ⟨R_Fi, "octet", "(II)I"⟩
abbrev c_An_add : ByteArray := prog_2_method_3_code
def y_An_add : MethodName := ⟨R_An, "add", "(I)V"⟩
abbrev c_Wo_change : ByteArray := prog_7_method_10_code
def y_Wo_change : MethodName := ⟨R_Wo, "change", "()I"⟩
abbrev c_Fi_mayChange : ByteArray := prog_4_method_11_code
def y_Fi_mayChange : MethodName := ⟨R_Fi, "mayChange", "(IZ)Z"⟩
abbrev c_Me_writeNote : ByteArray := prog_6_method_3_code
def y_Me_writeNote : MethodName := ⟨R_Me, "writeNote", "(IILTornCard$Command;)Z"⟩
abbrev c_Wo_tell : ByteArray := prog_7_method_11_code
def y_Wo_tell : MethodName := ⟨R_Wo, "tell", "()I"⟩
abbrev c_Co_dataAsSecret : ByteArray := prog_3_method_12_code
def y_Co_dataAsSecret : MethodName := ⟨R_Co, "dataAsSecret", "()I"⟩
abbrev c_Wo_compareSecret : ByteArray := prog_7_method_12_code
def y_Wo_compareSecret : MethodName := ⟨R_Wo, "compareSecret", "(I)I"⟩
abbrev c_Wo_renew : ByteArray := prog_7_method_13_code
def y_Wo_renew : MethodName := ⟨R_Wo, "renew", "()I"⟩
abbrev c_Wo_conclude : ByteArray := prog_7_method_5_code
def y_Wo_conclude : MethodName := ⟨R_Wo, "conclude", "(I)V"⟩
abbrev c_Li_sendPiece : ByteArray := prog_5_method_17_code
def y_Li_sendPiece : MethodName := ⟨R_Li, "sendPiece", "(LTornCard$Answer;)V"⟩
abbrev c_An_left : ByteArray := prog_2_method_4_code
def y_An_left : MethodName := ⟨R_An, "left", "()I"⟩
abbrev c_An_next : ByteArray := prog_2_method_5_code
def y_An_next : MethodName := ⟨R_An, "next", "()I"⟩
abbrev c_Li_append : ByteArray := prog_5_method_20_code
def y_Li_append : MethodName := ⟨R_Li, "append", "(I)V"⟩
abbrev c_Ca_takeReady : ByteArray := prog_1_method_17_code
def y_Ca_takeReady : MethodName := ⟨R_Ca, "takeReady", "(I)I"⟩
abbrev c_Li_sendAgain : ByteArray := prog_5_method_18_code
def y_Li_sendAgain : MethodName := ⟨R_Li, "sendAgain", "()V"⟩
abbrev c_Ca_takeSupervision : ByteArray := prog_1_method_18_code
def y_Ca_takeSupervision : MethodName := ⟨R_Ca, "takeSupervision", "(I)I"⟩
abbrev c_Ca_takeSize : ByteArray := prog_1_method_19_code
def y_Ca_takeSize : MethodName := ⟨R_Ca, "takeSize", "(I)I"⟩
abbrev c_Li_sendSize : ByteArray := prog_5_method_16_code
def y_Li_sendSize : MethodName := ⟨R_Li, "sendSize", "()V"⟩
abbrev c_Li_sendSupervision : ByteArray := prog_5_method_15_code
def y_Li_sendSupervision : MethodName := ⟨R_Li, "sendSupervision", "(I)V"⟩
abbrev c_Ca_block : ByteArray := prog_1_method_7_code
def y_Ca_block : MethodName := ⟨R_Ca, "block", "(IJI)I"⟩
abbrev c_Ca_reply : ByteArray := prog_1_method_8_code
def y_Ca_reply : MethodName := ⟨R_Ca, "reply", "(I)I"⟩
abbrev c_Ca_stored : ByteArray := prog_1_method_9_code
def y_Ca_stored : MethodName := ⟨R_Ca, "stored", "(II)I"⟩
abbrev c_Ca_state : ByteArray := prog_1_method_10_code
def y_Ca_state : MethodName := ⟨R_Ca, "state", "(I)I"⟩
abbrev c_Ca_stateWhileOn : ByteArray := prog_1_method_12_code
def y_Ca_stateWhileOn : MethodName := ⟨R_Ca, "stateWhileOn", "(I)I"⟩
abbrev c_Ca_look : ByteArray := prog_1_method_11_code
def y_Ca_look : MethodName := ⟨R_Ca, "look", "(II)I"⟩
abbrev c_Mo_init : ByteArray := prog_9_method_1_code
def y_Mo_init : MethodName := ⟨R_Mo, "<init>", "()V"⟩
abbrev c_Mo_file : ByteArray := prog_9_method_3_code
def y_Mo_file : MethodName := ⟨R_Mo, "file", "(IIIII)I"⟩
abbrev c_Mo_within : ByteArray := prog_9_method_2_code
def y_Mo_within : MethodName := ⟨R_Mo, "within", "(III)Z"⟩
abbrev c_Mo_tear : ByteArray := prog_9_method_4_code
def y_Mo_tear : MethodName := ⟨R_Mo, "tear", "(I)I"⟩
abbrev c_Mo_on : ByteArray := prog_9_method_7_code
def y_Mo_on : MethodName := ⟨R_Mo, "on", "()I"⟩
abbrev c_Mo_settle : ByteArray := prog_9_method_6_code
def y_Mo_settle : MethodName := ⟨R_Mo, "settle", "()Z"⟩
abbrev c_Mo_writes : ByteArray := prog_9_method_5_code
def y_Mo_writes : MethodName := ⟨R_Mo, "writes", "()Z"⟩
abbrev c_Mo_begin : ByteArray := prog_9_method_8_code
def y_Mo_begin : MethodName := ⟨R_Mo, "begin", "()V"⟩
abbrev c_Mo_forget : ByteArray := prog_9_method_9_code
def y_Mo_forget : MethodName := ⟨R_Mo, "forget", "()V"⟩
abbrev c_Mo_off : ByteArray := prog_9_method_10_code
def y_Mo_off : MethodName := ⟨R_Mo, "off", "()I"⟩
abbrev c_Mo_feed : ByteArray := prog_9_method_27_code
def y_Mo_feed : MethodName := ⟨R_Mo, "feed", "(JI)I"⟩
abbrev c_Mo_take : ByteArray := prog_9_method_11_code
def y_Mo_take : MethodName := ⟨R_Mo, "take", "(I)V"⟩
abbrev c_Mo_answerR : ByteArray := prog_9_method_14_code
def y_Mo_answerR : MethodName := ⟨R_Mo, "answerR", "(I)V"⟩
abbrev c_Mo_say : ByteArray := prog_9_method_13_code
def y_Mo_say : MethodName := ⟨R_Mo, "say", "(II)V"⟩
abbrev c_Mo_work : ByteArray := prog_9_method_12_code
def y_Mo_work : MethodName := ⟨R_Mo, "work", "(II)V"⟩
abbrev c_Mo_comes : ByteArray := prog_9_method_15_code
def y_Mo_comes : MethodName := ⟨R_Mo, "comes", "(IZ)V"⟩
abbrev c_Mo_execute : ByteArray := prog_9_method_19_code
def y_Mo_execute : MethodName := ⟨R_Mo, "execute", "()I"⟩
abbrev c_Mo_find : ByteArray := prog_9_method_20_code
def y_Mo_find : MethodName := ⟨R_Mo, "find", "(III)I"⟩
abbrev c_Mo_reads : ByteArray := prog_9_method_22_code
def y_Mo_reads : MethodName := ⟨R_Mo, "reads", "(III)I"⟩
abbrev c_Mo_wrong : ByteArray := prog_9_method_21_code
def y_Mo_wrong : MethodName := ⟨R_Mo, "wrong", "(II)I"⟩
abbrev c_Mo_put : ByteArray := prog_9_method_16_code
def y_Mo_put : MethodName := ⟨R_Mo, "put", "(I)V"⟩
abbrev c_Mo_changes : ByteArray := prog_9_method_23_code
def y_Mo_changes : MethodName := ⟨R_Mo, "changes", "(III)I"⟩
abbrev c_Mo_tell : ByteArray := prog_9_method_25_code
def y_Mo_tell : MethodName := ⟨R_Mo, "tell", "(IIII)I"⟩
abbrev c_Mo_told : ByteArray := prog_9_method_24_code
def y_Mo_told : MethodName := ⟨R_Mo, "told", "()I"⟩
abbrev c_Mo_renew : ByteArray := prog_9_method_26_code
def y_Mo_renew : MethodName := ⟨R_Mo, "renew", "(IIII)I"⟩
abbrev c_Mo_next : ByteArray := prog_9_method_17_code
def y_Mo_next : MethodName := ⟨R_Mo, "next", "()V"⟩
abbrev c_Mo_asks : ByteArray := prog_9_method_18_code
def y_Mo_asks : MethodName := ⟨R_Mo, "asks", "(I)V"⟩
abbrev c_Mo_block : ByteArray := prog_9_method_28_code
def y_Mo_block : MethodName := ⟨R_Mo, "block", "(IJI)I"⟩
abbrev c_Mo_reply : ByteArray := prog_9_method_29_code
def y_Mo_reply : MethodName := ⟨R_Mo, "reply", "(I)I"⟩
abbrev c_Mo_stored : ByteArray := prog_9_method_30_code
def y_Mo_stored : MethodName := ⟨R_Mo, "stored", "(II)I"⟩
abbrev c_Mo_state : ByteArray := prog_9_method_31_code
def y_Mo_state : MethodName := ⟨R_Mo, "state", "(I)I"⟩
abbrev c_Mo_look : ByteArray := prog_9_method_32_code
def y_Mo_look : MethodName := ⟨R_Mo, "look", "(II)I"⟩
theorem wd_0 : Cond.selects R_Ca y_Ca_powerDown y_Ca_powerDown ∈ rz_tbl := rz_in 0 (by decide +kernel) rfl
theorem wd_1 : Cond.selects R_Li y_Li_isTooLong y_Li_isTooLong ∈ rz_tbl := rz_in 1 (by decide +kernel) rfl
theorem wd_2 : Cond.selects R_Ca y_Ca_answerBlock y_Ca_answerBlock ∈ rz_tbl := rz_in 2 (by decide +kernel) rfl
theorem wd_3 : Cond.selects R_Ca y_Ca_takeInformation y_Ca_takeInformation ∈ rz_tbl := rz_in 3 (by decide +kernel) rfl
theorem wd_4 : Cond.selects R_Li y_Li_begin y_Li_begin ∈ rz_tbl := rz_in 4 (by decide +kernel) rfl
theorem wd_5 : Cond.selects R_Li y_Li_finish y_Li_finish ∈ rz_tbl := rz_in 5 (by decide +kernel) rfl
theorem wd_6 : Cond.selects R_Wo y_Wo_find y_Wo_find ∈ rz_tbl := rz_in 6 (by decide +kernel) rfl
theorem wd_7 : Cond.selects R_Wo y_Wo_parentOfDirectory y_Wo_parentOfDirectory ∈ rz_tbl := rz_in 7 (by decide +kernel) rfl
theorem wd_8 : Cond.selects R_Wo y_Wo_read y_Wo_read ∈ rz_tbl := rz_in 8 (by decide +kernel) rfl
theorem wd_9 : Cond.selects R_Wo y_Wo_testPlace y_Wo_testPlace ∈ rz_tbl := rz_in 9 (by decide +kernel) rfl
theorem wd_10 : Cond.selects R_Wo y_Wo_change y_Wo_change ∈ rz_tbl := rz_in 10 (by decide +kernel) rfl
theorem wd_11 : Cond.selects R_Wo y_Wo_tell y_Wo_tell ∈ rz_tbl := rz_in 11 (by decide +kernel) rfl
theorem wd_12 : Cond.selects R_Wo y_Wo_compareSecret y_Wo_compareSecret ∈ rz_tbl := rz_in 12 (by decide +kernel) rfl
theorem wd_13 : Cond.selects R_Wo y_Wo_renew y_Wo_renew ∈ rz_tbl := rz_in 13 (by decide +kernel) rfl
theorem wd_14 : Cond.selects R_Li y_Li_append y_Li_append ∈ rz_tbl := rz_in 14 (by decide +kernel) rfl
theorem wd_15 : Cond.selects R_Ca y_Ca_takeReady y_Ca_takeReady ∈ rz_tbl := rz_in 15 (by decide +kernel) rfl
theorem wd_16 : Cond.selects R_Ca y_Ca_takeSupervision y_Ca_takeSupervision ∈ rz_tbl := rz_in 16 (by decide +kernel) rfl
theorem wd_17 : Cond.selects R_Ca y_Ca_takeSize y_Ca_takeSize ∈ rz_tbl := rz_in 17 (by decide +kernel) rfl
theorem wd_18 : Cond.selects R_Ca y_Ca_stateWhileOn y_Ca_stateWhileOn ∈ rz_tbl := rz_in 18 (by decide +kernel) rfl
theorem wd_19 : Cond.selects R_Mo y_Mo_settle y_Mo_settle ∈ rz_tbl := rz_in 19 (by decide +kernel) rfl
theorem wd_20 : Cond.selects R_Mo y_Mo_writes y_Mo_writes ∈ rz_tbl := rz_in 20 (by decide +kernel) rfl
theorem wd_21 : Cond.selects R_Mo y_Mo_begin y_Mo_begin ∈ rz_tbl := rz_in 21 (by decide +kernel) rfl
theorem wd_22 : Cond.selects R_Mo y_Mo_forget y_Mo_forget ∈ rz_tbl := rz_in 22 (by decide +kernel) rfl
theorem wd_23 : Cond.selects R_Mo y_Mo_take y_Mo_take ∈ rz_tbl := rz_in 23 (by decide +kernel) rfl
theorem wd_24 : Cond.selects R_Mo y_Mo_answerR y_Mo_answerR ∈ rz_tbl := rz_in 24 (by decide +kernel) rfl
theorem wd_25 : Cond.selects R_Mo y_Mo_say y_Mo_say ∈ rz_tbl := rz_in 25 (by decide +kernel) rfl
theorem wd_26 : Cond.selects R_Mo y_Mo_work y_Mo_work ∈ rz_tbl := rz_in 26 (by decide +kernel) rfl
theorem wd_27 : Cond.selects R_Mo y_Mo_comes y_Mo_comes ∈ rz_tbl := rz_in 27 (by decide +kernel) rfl
theorem wd_28 : Cond.selects R_Mo y_Mo_execute y_Mo_execute ∈ rz_tbl := rz_in 28 (by decide +kernel) rfl
theorem wd_29 : Cond.selects R_Mo y_Mo_find y_Mo_find ∈ rz_tbl := rz_in 29 (by decide +kernel) rfl
theorem wd_30 : Cond.selects R_Mo y_Mo_reads y_Mo_reads ∈ rz_tbl := rz_in 30 (by decide +kernel) rfl
theorem wd_31 : Cond.selects R_Mo y_Mo_wrong y_Mo_wrong ∈ rz_tbl := rz_in 31 (by decide +kernel) rfl
theorem wd_32 : Cond.selects R_Mo y_Mo_put y_Mo_put ∈ rz_tbl := rz_in 32 (by decide +kernel) rfl
theorem wd_33 : Cond.selects R_Mo y_Mo_changes y_Mo_changes ∈ rz_tbl := rz_in 33 (by decide +kernel) rfl
theorem wd_34 : Cond.selects R_Mo y_Mo_tell y_Mo_tell ∈ rz_tbl := rz_in 34 (by decide +kernel) rfl
theorem wd_35 : Cond.selects R_Mo y_Mo_told y_Mo_told ∈ rz_tbl := rz_in 35 (by decide +kernel) rfl
theorem wd_36 : Cond.selects R_Mo y_Mo_renew y_Mo_renew ∈ rz_tbl := rz_in 36 (by decide +kernel) rfl
theorem wd_37 : Cond.selects R_Mo y_Mo_next y_Mo_next ∈ rz_tbl := rz_in 37 (by decide +kernel) rfl
theorem wd_38 : Cond.selects R_Mo y_Mo_asks y_Mo_asks ∈ rz_tbl := rz_in 38 (by decide +kernel) rfl
theorem wd_40 : Cond.initialized R_Ca ∈ rz_tbl := rz_in 40 (by decide +kernel) rfl
theorem wd_41 : Cond.initialized R_Li ∈ rz_tbl := rz_in 41 (by decide +kernel) rfl
theorem wd_42 : Cond.initialized R_Wo ∈ rz_tbl := rz_in 42 (by decide +kernel) rfl
theorem wd_43 : Cond.initialized R_Me ∈ rz_tbl := rz_in 43 (by decide +kernel) rfl
theorem wd_44 : Cond.initialized R_Fi ∈ rz_tbl := rz_in 44 (by decide +kernel) rfl
theorem wd_45 : Cond.initialized R_Co ∈ rz_tbl := rz_in 45 (by decide +kernel) rfl
theorem wd_46 : Cond.initialized R_An ∈ rz_tbl := rz_in 46 (by decide +kernel) rfl
theorem wd_47 : Cond.initialized R_Mo ∈ rz_tbl := rz_in 47 (by decide +kernel) rfl
theorem wd_48 : Cond.initialized "java/lang/Math" ∈ rz_tbl := rz_in 48 (by decide +kernel) rfl
theorem wd_49 : Cond.initialized "java/lang/System" ∈ rz_tbl := rz_in 49 (by decide +kernel) rfl
theorem wd_64 : Cond.fieldLink R_Li 11 "TornCard$Link" "incoming" "[I" ∈ rz_tbl := rz_in 64 (by decide +kernel) rfl
theorem wd_65 : Cond.fieldLink R_Li 28 "TornCard$Link" "arrived" "I" ∈ rz_tbl := rz_in 65 (by decide +kernel) rfl
theorem wd_67 : Cond.fieldLink R_Li 15 "TornCard$Link" "replied" "[I" ∈ rz_tbl := rz_in 67 (by decide +kernel) rfl
theorem wd_69 : Cond.fieldLink R_Li 31 "TornCard$Link" "replyLength" "I" ∈ rz_tbl := rz_in 69 (by decide +kernel) rfl
theorem wd_71 : Cond.fieldLink R_Li 18 "TornCard$Link" "repeat" "[I" ∈ rz_tbl := rz_in 71 (by decide +kernel) rfl
theorem wd_72 : Cond.fieldLink R_Li 40 "TornCard$Link" "repeatLength" "I" ∈ rz_tbl := rz_in 72 (by decide +kernel) rfl
theorem wd_74 : Cond.fieldLink R_Li 34 "TornCard$Link" "in" "I" ∈ rz_tbl := rz_in 74 (by decide +kernel) rfl
theorem wd_76 : Cond.fieldLink R_Li 37 "TornCard$Link" "out" "I" ∈ rz_tbl := rz_in 76 (by decide +kernel) rfl
theorem wd_78 : Cond.fieldLink R_Li 21 "TornCard$Link" "size" "I" ∈ rz_tbl := rz_in 78 (by decide +kernel) rfl
theorem wd_118 : Cond.fieldLink R_Fi 11 "TornCard$Files" "names" "[I" ∈ rz_tbl := rz_in 118 (by decide +kernel) rfl
theorem wd_120 : Cond.fieldLink R_Fi 15 "TornCard$Files" "parents" "[I" ∈ rz_tbl := rz_in 120 (by decide +kernel) rfl
theorem wd_123 : Cond.fieldLink R_Fi 18 "TornCard$Files" "sizes" "[I" ∈ rz_tbl := rz_in 123 (by decide +kernel) rfl
theorem wd_126 : Cond.fieldLink R_Fi 21 "TornCard$Files" "readRights" "[I" ∈ rz_tbl := rz_in 126 (by decide +kernel) rfl
theorem wd_128 : Cond.fieldLink R_Fi 24 "TornCard$Files" "changeRights" "[I" ∈ rz_tbl := rz_in 128 (by decide +kernel) rfl
theorem wd_130 : Cond.fieldLink R_Fi 27 "TornCard$Files" "octets" "[I" ∈ rz_tbl := rz_in 130 (by decide +kernel) rfl
theorem wd_131 : Cond.fieldLink R_Fi 30 "TornCard$Files" "count" "I" ∈ rz_tbl := rz_in 131 (by decide +kernel) rfl
theorem wd_148 : Cond.fieldLink R_Me 12 "TornCard$Memory" "files" "LTornCard$Files;" ∈ rz_tbl := rz_in 148 (by decide +kernel) rfl
theorem wd_151 : Cond.fieldLink R_Me 18 "TornCard$Memory" "noteOctets" "[I" ∈ rz_tbl := rz_in 151 (by decide +kernel) rfl
theorem wd_152 : Cond.fieldLink R_Me 50 "TornCard$Memory" "noteFile" "I" ∈ rz_tbl := rz_in 152 (by decide +kernel) rfl
theorem wd_153 : Cond.fieldLink R_Me 53 "TornCard$Memory" "noteFrom" "I" ∈ rz_tbl := rz_in 153 (by decide +kernel) rfl
theorem wd_154 : Cond.fieldLink R_Me 56 "TornCard$Memory" "noteLength" "I" ∈ rz_tbl := rz_in 154 (by decide +kernel) rfl
theorem wd_155 : Cond.fieldLink R_Me 63 "TornCard$Memory" "noted" "Z" ∈ rz_tbl := rz_in 155 (by decide +kernel) rfl
theorem wd_162 : Cond.fieldLink R_Me 32 "TornCard$Memory" "writings" "I" ∈ rz_tbl := rz_in 162 (by decide +kernel) rfl
theorem wd_164 : Cond.fieldLink R_Me 29 "TornCard$Memory" "tears" "I" ∈ rz_tbl := rz_in 164 (by decide +kernel) rfl
theorem wd_166 : Cond.fieldLink R_Me 26 "TornCard$Memory" "leftBeforeTear" "I" ∈ rz_tbl := rz_in 166 (by decide +kernel) rfl
theorem wd_197 : Cond.fieldLink R_Co 11 "TornCard$Command" "octets" "[I" ∈ rz_tbl := rz_in 197 (by decide +kernel) rfl
theorem wd_198 : Cond.fieldLink R_Co 15 "TornCard$Command" "length" "I" ∈ rz_tbl := rz_in 198 (by decide +kernel) rfl
theorem wd_200 : Cond.fieldLink R_Co 19 "TornCard$Command" "tooLong" "Z" ∈ rz_tbl := rz_in 200 (by decide +kernel) rfl
theorem wd_202 : Cond.fieldLink R_Co 23 "TornCard$Command" "dataLength" "I" ∈ rz_tbl := rz_in 202 (by decide +kernel) rfl
theorem wd_204 : Cond.fieldLink R_Co 26 "TornCard$Command" "expected" "I" ∈ rz_tbl := rz_in 204 (by decide +kernel) rfl
theorem wd_223 : Cond.fieldLink R_An 11 "TornCard$Answer" "octets" "[I" ∈ rz_tbl := rz_in 223 (by decide +kernel) rfl
theorem wd_224 : Cond.fieldLink R_An 15 "TornCard$Answer" "length" "I" ∈ rz_tbl := rz_in 224 (by decide +kernel) rfl
theorem wd_225 : Cond.fieldLink R_An 19 "TornCard$Answer" "sent" "I" ∈ rz_tbl := rz_in 225 (by decide +kernel) rfl
theorem wd_233 : Cond.fieldLink R_Wo 12 "TornCard$Worker" "memory" "LTornCard$Memory;" ∈ rz_tbl := rz_in 233 (by decide +kernel) rfl
theorem wd_235 : Cond.fieldLink R_Wo 21 "TornCard$Worker" "command" "LTornCard$Command;" ∈ rz_tbl := rz_in 235 (by decide +kernel) rfl
theorem wd_237 : Cond.fieldLink R_Wo 28 "TornCard$Worker" "answer" "LTornCard$Answer;" ∈ rz_tbl := rz_in 237 (by decide +kernel) rfl
theorem wd_239 : Cond.fieldLink R_Wo 36 "TornCard$Worker" "opened" "Z" ∈ rz_tbl := rz_in 239 (by decide +kernel) rfl
theorem wd_241 : Cond.fieldLink R_Wo 40 "TornCard$Worker" "directory" "I" ∈ rz_tbl := rz_in 241 (by decide +kernel) rfl
theorem wd_243 : Cond.fieldLink R_Wo 32 "TornCard$Worker" "currentFile" "I" ∈ rz_tbl := rz_in 243 (by decide +kernel) rfl
theorem wd_258 : Cond.fieldLink R_Ca 10 "TornCard" "link" "LTornCard$Link;" ∈ rz_tbl := rz_in 258 (by decide +kernel) rfl
theorem wd_259 : Cond.fieldLink R_Ca 19 "TornCard" "worker" "LTornCard$Worker;" ∈ rz_tbl := rz_in 259 (by decide +kernel) rfl
theorem wd_260 : Cond.fieldLink R_Ca 27 "TornCard" "memory" "LTornCard$Memory;" ∈ rz_tbl := rz_in 260 (by decide +kernel) rfl
theorem wd_261 : Cond.fieldLink R_Ca 44 "TornCard" "powered" "Z" ∈ rz_tbl := rz_in 261 (by decide +kernel) rfl
theorem wd_262 : Cond.fieldLink R_Ca 120 "TornCard" "commandsDone" "I" ∈ rz_tbl := rz_in 262 (by decide +kernel) rfl
theorem wd_277 : Cond.code y_Ca_file c_Ca_file 7 (some .int) ∈ rz_tbl := rz_in 277 (by decide +kernel) rfl
theorem wd_278 : Cond.constant R_Ca 34 65535 ∈ rz_tbl := rz_in 278 (by decide +kernel) rfl
theorem wd_279 : Cond.methodLink R_Ca 35 y_Fi_isDirectory ∈ rz_tbl := rz_in 279 (by decide +kernel) rfl
theorem wd_280 : Cond.instanceMethod y_Fi_isDirectory ∈ rz_tbl := rz_in 280 (by decide +kernel) rfl
theorem wd_281 : Cond.selects R_Fi y_Fi_isDirectory y_Fi_isDirectory ∈ rz_tbl := rz_in 281 (by decide +kernel) rfl
theorem wd_282 : Cond.code y_Fi_isDirectory c_Fi_isDirectory 2 (some .boolean) ∈ rz_tbl := rz_in 282 (by decide +kernel) rfl
theorem wd_283 : Cond.methodLink R_Fi 34 y_Fi_has ∈ rz_tbl := rz_in 283 (by decide +kernel) rfl
theorem wd_284 : Cond.instanceMethod y_Fi_has ∈ rz_tbl := rz_in 284 (by decide +kernel) rfl
theorem wd_285 : Cond.selects R_Fi y_Fi_has y_Fi_has ∈ rz_tbl := rz_in 285 (by decide +kernel) rfl
theorem wd_286 : Cond.code y_Fi_has c_Fi_has 2 (some .boolean) ∈ rz_tbl := rz_in 286 (by decide +kernel) rfl
theorem wd_287 : Cond.methodLink R_Ca 41 y_Fi_isRight ∈ rz_tbl := rz_in 287 (by decide +kernel) rfl
theorem wd_288 : Cond.static y_Fi_isRight ∈ rz_tbl := rz_in 288 (by decide +kernel) rfl
theorem wd_289 : Cond.code y_Fi_isRight c_Fi_isRight 1 (some .boolean) ∈ rz_tbl := rz_in 289 (by decide +kernel) rfl
theorem wd_290 : Cond.methodLink R_Ca 48 y_Fi_add ∈ rz_tbl := rz_in 290 (by decide +kernel) rfl
theorem wd_291 : Cond.instanceMethod y_Fi_add ∈ rz_tbl := rz_in 291 (by decide +kernel) rfl
theorem wd_292 : Cond.selects R_Fi y_Fi_add y_Fi_add ∈ rz_tbl := rz_in 292 (by decide +kernel) rfl
theorem wd_293 : Cond.code y_Fi_add c_Fi_add 6 (some .int) ∈ rz_tbl := rz_in 293 (by decide +kernel) rfl
theorem wd_297 : Cond.code y_Ca_tear c_Ca_tear 3 (some .int) ∈ rz_tbl := rz_in 297 (by decide +kernel) rfl
theorem wd_301 : Cond.code y_Ca_on c_Ca_on 1 (some .int) ∈ rz_tbl := rz_in 301 (by decide +kernel) rfl
theorem wd_302 : Cond.methodLink R_Ca 56 y_Ca_powerDown ∈ rz_tbl := rz_in 302 (by decide +kernel) rfl
theorem wd_304 : Cond.instanceMethod y_Ca_powerDown ∈ rz_tbl := rz_in 304 (by decide +kernel) rfl
theorem wd_305 : Cond.code y_Ca_powerDown c_Ca_powerDown 1 none ∈ rz_tbl := rz_in 305 (by decide +kernel) rfl
theorem wd_306 : Cond.methodLink R_Ca 181 y_Li_reset ∈ rz_tbl := rz_in 306 (by decide +kernel) rfl
theorem wd_307 : Cond.instanceMethod y_Li_reset ∈ rz_tbl := rz_in 307 (by decide +kernel) rfl
theorem wd_308 : Cond.selects R_Li y_Li_reset y_Li_reset ∈ rz_tbl := rz_in 308 (by decide +kernel) rfl
theorem wd_309 : Cond.code y_Li_reset c_Li_reset 1 none ∈ rz_tbl := rz_in 309 (by decide +kernel) rfl
theorem wd_310 : Cond.methodLink R_Li 25 y_Li_resync ∈ rz_tbl := rz_in 310 (by decide +kernel) rfl
theorem wd_311 : Cond.instanceMethod y_Li_resync ∈ rz_tbl := rz_in 311 (by decide +kernel) rfl
theorem wd_312 : Cond.selects R_Li y_Li_resync y_Li_resync ∈ rz_tbl := rz_in 312 (by decide +kernel) rfl
theorem wd_313 : Cond.code y_Li_resync c_Li_resync 1 none ∈ rz_tbl := rz_in 313 (by decide +kernel) rfl
theorem wd_314 : Cond.methodLink R_Ca 184 y_Wo_reset ∈ rz_tbl := rz_in 314 (by decide +kernel) rfl
theorem wd_315 : Cond.instanceMethod y_Wo_reset ∈ rz_tbl := rz_in 315 (by decide +kernel) rfl
theorem wd_316 : Cond.selects R_Wo y_Wo_reset y_Wo_reset ∈ rz_tbl := rz_in 316 (by decide +kernel) rfl
theorem wd_317 : Cond.code y_Wo_reset c_Wo_reset 1 none ∈ rz_tbl := rz_in 317 (by decide +kernel) rfl
theorem wd_318 : Cond.methodLink R_Wo 43 y_Wo_forgetExchange ∈ rz_tbl := rz_in 318 (by decide +kernel) rfl
theorem wd_319 : Cond.instanceMethod y_Wo_forgetExchange ∈ rz_tbl := rz_in 319 (by decide +kernel) rfl
theorem wd_320 : Cond.selects R_Wo y_Wo_forgetExchange y_Wo_forgetExchange ∈ rz_tbl := rz_in 320 (by decide +kernel) rfl
theorem wd_321 : Cond.code y_Wo_forgetExchange c_Wo_forgetExchange 1 none ∈ rz_tbl := rz_in 321 (by decide +kernel) rfl
theorem wd_322 : Cond.methodLink R_Wo 46 y_Co_clear ∈ rz_tbl := rz_in 322 (by decide +kernel) rfl
theorem wd_323 : Cond.instanceMethod y_Co_clear ∈ rz_tbl := rz_in 323 (by decide +kernel) rfl
theorem wd_324 : Cond.selects R_Co y_Co_clear y_Co_clear ∈ rz_tbl := rz_in 324 (by decide +kernel) rfl
theorem wd_325 : Cond.code y_Co_clear c_Co_clear 1 none ∈ rz_tbl := rz_in 325 (by decide +kernel) rfl
theorem wd_326 : Cond.methodLink R_Wo 49 y_An_clear ∈ rz_tbl := rz_in 326 (by decide +kernel) rfl
theorem wd_327 : Cond.instanceMethod y_An_clear ∈ rz_tbl := rz_in 327 (by decide +kernel) rfl
theorem wd_328 : Cond.selects R_An y_An_clear y_An_clear ∈ rz_tbl := rz_in 328 (by decide +kernel) rfl
theorem wd_329 : Cond.code y_An_clear c_An_clear 1 none ∈ rz_tbl := rz_in 329 (by decide +kernel) rfl
theorem wd_330 : Cond.methodLink R_Ca 62 y_Me_carryOutNote ∈ rz_tbl := rz_in 330 (by decide +kernel) rfl
theorem wd_331 : Cond.instanceMethod y_Me_carryOutNote ∈ rz_tbl := rz_in 331 (by decide +kernel) rfl
theorem wd_332 : Cond.selects R_Me y_Me_carryOutNote y_Me_carryOutNote ∈ rz_tbl := rz_in 332 (by decide +kernel) rfl
theorem wd_333 : Cond.code y_Me_carryOutNote c_Me_carryOutNote 2 (some .boolean) ∈ rz_tbl := rz_in 333 (by decide +kernel) rfl
theorem wd_334 : Cond.methodLink R_Me 46 y_Me_mayWrite ∈ rz_tbl := rz_in 334 (by decide +kernel) rfl
theorem wd_335 : Cond.instanceMethod y_Me_mayWrite ∈ rz_tbl := rz_in 335 (by decide +kernel) rfl
theorem wd_336 : Cond.selects R_Me y_Me_mayWrite y_Me_mayWrite ∈ rz_tbl := rz_in 336 (by decide +kernel) rfl
theorem wd_337 : Cond.code y_Me_mayWrite c_Me_mayWrite 1 (some .boolean) ∈ rz_tbl := rz_in 337 (by decide +kernel) rfl
theorem wd_338 : Cond.methodLink R_Me 67 y_Fi_put ∈ rz_tbl := rz_in 338 (by decide +kernel) rfl
theorem wd_339 : Cond.instanceMethod y_Fi_put ∈ rz_tbl := rz_in 339 (by decide +kernel) rfl
theorem wd_340 : Cond.selects R_Fi y_Fi_put y_Fi_put ∈ rz_tbl := rz_in 340 (by decide +kernel) rfl
theorem wd_341 : Cond.code y_Fi_put c_Fi_put 5 none ∈ rz_tbl := rz_in 341 (by decide +kernel) rfl
theorem wd_342 : Cond.methodLink R_Ca 69 y_Li_sendGreeting ∈ rz_tbl := rz_in 342 (by decide +kernel) rfl
theorem wd_343 : Cond.instanceMethod y_Li_sendGreeting ∈ rz_tbl := rz_in 343 (by decide +kernel) rfl
theorem wd_344 : Cond.selects R_Li y_Li_sendGreeting y_Li_sendGreeting ∈ rz_tbl := rz_in 344 (by decide +kernel) rfl
theorem wd_345 : Cond.code y_Li_sendGreeting c_Li_sendGreeting 2 none ∈ rz_tbl := rz_in 345 (by decide +kernel) rfl
theorem wd_349 : Cond.code y_Ca_off c_Ca_off 2 (some .int) ∈ rz_tbl := rz_in 349 (by decide +kernel) rfl
theorem wd_353 : Cond.code y_Ca_feed c_Ca_feed 5 (some .int) ∈ rz_tbl := rz_in 353 (by decide +kernel) rfl
theorem wd_354 : Cond.methodLink R_Ca 73 y_Ca_octetOf ∈ rz_tbl := rz_in 354 (by decide +kernel) rfl
theorem wd_355 : Cond.static y_Ca_octetOf ∈ rz_tbl := rz_in 355 (by decide +kernel) rfl
theorem wd_356 : Cond.code y_Ca_octetOf c_Ca_octetOf 3 (some .int) ∈ rz_tbl := rz_in 356 (by decide +kernel) rfl
theorem wd_357 : Cond.methodLink R_Ca 77 y_Li_take ∈ rz_tbl := rz_in 357 (by decide +kernel) rfl
theorem wd_358 : Cond.instanceMethod y_Li_take ∈ rz_tbl := rz_in 358 (by decide +kernel) rfl
theorem wd_359 : Cond.selects R_Li y_Li_take y_Li_take ∈ rz_tbl := rz_in 359 (by decide +kernel) rfl
theorem wd_360 : Cond.code y_Li_take c_Li_take 2 none ∈ rz_tbl := rz_in 360 (by decide +kernel) rfl
theorem wd_361 : Cond.methodLink R_Ca 80 y_Li_isWhole ∈ rz_tbl := rz_in 361 (by decide +kernel) rfl
theorem wd_362 : Cond.instanceMethod y_Li_isWhole ∈ rz_tbl := rz_in 362 (by decide +kernel) rfl
theorem wd_363 : Cond.selects R_Li y_Li_isWhole y_Li_isWhole ∈ rz_tbl := rz_in 363 (by decide +kernel) rfl
theorem wd_364 : Cond.code y_Li_isWhole c_Li_isWhole 1 (some .boolean) ∈ rz_tbl := rz_in 364 (by decide +kernel) rfl
theorem wd_365 : Cond.methodLink R_Li 43 y_Li_isTooLong ∈ rz_tbl := rz_in 365 (by decide +kernel) rfl
theorem wd_367 : Cond.instanceMethod y_Li_isTooLong ∈ rz_tbl := rz_in 367 (by decide +kernel) rfl
theorem wd_368 : Cond.code y_Li_isTooLong c_Li_isTooLong 1 (some .boolean) ∈ rz_tbl := rz_in 368 (by decide +kernel) rfl
theorem wd_369 : Cond.methodLink R_Li 47 y_Li_infLength ∈ rz_tbl := rz_in 369 (by decide +kernel) rfl
theorem wd_370 : Cond.instanceMethod y_Li_infLength ∈ rz_tbl := rz_in 370 (by decide +kernel) rfl
theorem wd_371 : Cond.selects R_Li y_Li_infLength y_Li_infLength ∈ rz_tbl := rz_in 371 (by decide +kernel) rfl
theorem wd_372 : Cond.code y_Li_infLength c_Li_infLength 1 (some .int) ∈ rz_tbl := rz_in 372 (by decide +kernel) rfl
theorem wd_373 : Cond.methodLink R_Ca 83 y_Ca_answerBlock ∈ rz_tbl := rz_in 373 (by decide +kernel) rfl
theorem wd_375 : Cond.instanceMethod y_Ca_answerBlock ∈ rz_tbl := rz_in 375 (by decide +kernel) rfl
theorem wd_376 : Cond.code y_Ca_answerBlock c_Ca_answerBlock 3 none ∈ rz_tbl := rz_in 376 (by decide +kernel) rfl
theorem wd_377 : Cond.methodLink R_Ca 185 y_Li_wrong ∈ rz_tbl := rz_in 377 (by decide +kernel) rfl
theorem wd_378 : Cond.instanceMethod y_Li_wrong ∈ rz_tbl := rz_in 378 (by decide +kernel) rfl
theorem wd_379 : Cond.selects R_Li y_Li_wrong y_Li_wrong ∈ rz_tbl := rz_in 379 (by decide +kernel) rfl
theorem wd_380 : Cond.code y_Li_wrong c_Li_wrong 1 (some .int) ∈ rz_tbl := rz_in 380 (by decide +kernel) rfl
theorem wd_381 : Cond.methodLink R_Li 51 y_Li_sumOfArrived ∈ rz_tbl := rz_in 381 (by decide +kernel) rfl
theorem wd_382 : Cond.instanceMethod y_Li_sumOfArrived ∈ rz_tbl := rz_in 382 (by decide +kernel) rfl
theorem wd_383 : Cond.selects R_Li y_Li_sumOfArrived y_Li_sumOfArrived ∈ rz_tbl := rz_in 383 (by decide +kernel) rfl
theorem wd_384 : Cond.code y_Li_sumOfArrived c_Li_sumOfArrived 1 (some .int) ∈ rz_tbl := rz_in 384 (by decide +kernel) rfl
theorem wd_385 : Cond.methodLink R_Li 54 y_Li_sum ∈ rz_tbl := rz_in 385 (by decide +kernel) rfl
theorem wd_386 : Cond.static y_Li_sum ∈ rz_tbl := rz_in 386 (by decide +kernel) rfl
theorem wd_387 : Cond.code y_Li_sum c_Li_sum 4 (some .int) ∈ rz_tbl := rz_in 387 (by decide +kernel) rfl
theorem wd_388 : Cond.methodLink R_Ca 188 y_Li_pcb ∈ rz_tbl := rz_in 388 (by decide +kernel) rfl
theorem wd_389 : Cond.instanceMethod y_Li_pcb ∈ rz_tbl := rz_in 389 (by decide +kernel) rfl
theorem wd_390 : Cond.selects R_Li y_Li_pcb y_Li_pcb ∈ rz_tbl := rz_in 390 (by decide +kernel) rfl
theorem wd_391 : Cond.code y_Li_pcb c_Li_pcb 1 (some .int) ∈ rz_tbl := rz_in 391 (by decide +kernel) rfl
theorem wd_392 : Cond.methodLink R_Ca 191 y_Ca_takeInformation ∈ rz_tbl := rz_in 392 (by decide +kernel) rfl
theorem wd_394 : Cond.instanceMethod y_Ca_takeInformation ∈ rz_tbl := rz_in 394 (by decide +kernel) rfl
theorem wd_395 : Cond.code y_Ca_takeInformation c_Ca_takeInformation 4 (some .int) ∈ rz_tbl := rz_in 395 (by decide +kernel) rfl
theorem wd_396 : Cond.methodLink R_Ca 204 y_An_clear ∈ rz_tbl := rz_in 396 (by decide +kernel) rfl
theorem wd_397 : Cond.methodLink R_Ca 207 y_Li_infLength ∈ rz_tbl := rz_in 397 (by decide +kernel) rfl
theorem wd_398 : Cond.methodLink R_Ca 210 y_Li_inf ∈ rz_tbl := rz_in 398 (by decide +kernel) rfl
theorem wd_399 : Cond.instanceMethod y_Li_inf ∈ rz_tbl := rz_in 399 (by decide +kernel) rfl
theorem wd_400 : Cond.selects R_Li y_Li_inf y_Li_inf ∈ rz_tbl := rz_in 400 (by decide +kernel) rfl
theorem wd_401 : Cond.code y_Li_inf c_Li_inf 2 (some .int) ∈ rz_tbl := rz_in 401 (by decide +kernel) rfl
theorem wd_402 : Cond.methodLink R_Ca 213 y_Co_add ∈ rz_tbl := rz_in 402 (by decide +kernel) rfl
theorem wd_403 : Cond.instanceMethod y_Co_add ∈ rz_tbl := rz_in 403 (by decide +kernel) rfl
theorem wd_404 : Cond.selects R_Co y_Co_add y_Co_add ∈ rz_tbl := rz_in 404 (by decide +kernel) rfl
theorem wd_405 : Cond.code y_Co_add c_Co_add 2 none ∈ rz_tbl := rz_in 405 (by decide +kernel) rfl
theorem wd_406 : Cond.methodLink R_Ca 201 y_Li_sendReady ∈ rz_tbl := rz_in 406 (by decide +kernel) rfl
theorem wd_407 : Cond.instanceMethod y_Li_sendReady ∈ rz_tbl := rz_in 407 (by decide +kernel) rfl
theorem wd_408 : Cond.selects R_Li y_Li_sendReady y_Li_sendReady ∈ rz_tbl := rz_in 408 (by decide +kernel) rfl
theorem wd_409 : Cond.code y_Li_sendReady c_Li_sendReady 2 none ∈ rz_tbl := rz_in 409 (by decide +kernel) rfl
theorem wd_410 : Cond.methodLink R_Li 58 y_Li_begin ∈ rz_tbl := rz_in 410 (by decide +kernel) rfl
theorem wd_412 : Cond.instanceMethod y_Li_begin ∈ rz_tbl := rz_in 412 (by decide +kernel) rfl
theorem wd_413 : Cond.code y_Li_begin c_Li_begin 2 none ∈ rz_tbl := rz_in 413 (by decide +kernel) rfl
theorem wd_414 : Cond.methodLink R_Li 62 y_Li_finish ∈ rz_tbl := rz_in 414 (by decide +kernel) rfl
theorem wd_416 : Cond.instanceMethod y_Li_finish ∈ rz_tbl := rz_in 416 (by decide +kernel) rfl
theorem wd_417 : Cond.code y_Li_finish c_Li_finish 1 none ∈ rz_tbl := rz_in 417 (by decide +kernel) rfl
theorem wd_418 : Cond.methodLink R_Ca 215 y_Wo_perform ∈ rz_tbl := rz_in 418 (by decide +kernel) rfl
theorem wd_419 : Cond.instanceMethod y_Wo_perform ∈ rz_tbl := rz_in 419 (by decide +kernel) rfl
theorem wd_420 : Cond.selects R_Wo y_Wo_perform y_Wo_perform ∈ rz_tbl := rz_in 420 (by decide +kernel) rfl
theorem wd_421 : Cond.code y_Wo_perform c_Wo_perform 1 (some .int) ∈ rz_tbl := rz_in 421 (by decide +kernel) rfl
theorem wd_422 : Cond.methodLink R_Wo 50 y_Co_parse ∈ rz_tbl := rz_in 422 (by decide +kernel) rfl
theorem wd_423 : Cond.instanceMethod y_Co_parse ∈ rz_tbl := rz_in 423 (by decide +kernel) rfl
theorem wd_424 : Cond.selects R_Co y_Co_parse y_Co_parse ∈ rz_tbl := rz_in 424 (by decide +kernel) rfl
theorem wd_425 : Cond.code y_Co_parse c_Co_parse 2 (some .boolean) ∈ rz_tbl := rz_in 425 (by decide +kernel) rfl
theorem wd_426 : Cond.methodLink R_Wo 54 y_Co_octetClass ∈ rz_tbl := rz_in 426 (by decide +kernel) rfl
theorem wd_427 : Cond.instanceMethod y_Co_octetClass ∈ rz_tbl := rz_in 427 (by decide +kernel) rfl
theorem wd_428 : Cond.selects R_Co y_Co_octetClass y_Co_octetClass ∈ rz_tbl := rz_in 428 (by decide +kernel) rfl
theorem wd_429 : Cond.code y_Co_octetClass c_Co_octetClass 1 (some .int) ∈ rz_tbl := rz_in 429 (by decide +kernel) rfl
theorem wd_430 : Cond.methodLink R_Wo 58 y_Co_instruction ∈ rz_tbl := rz_in 430 (by decide +kernel) rfl
theorem wd_431 : Cond.instanceMethod y_Co_instruction ∈ rz_tbl := rz_in 431 (by decide +kernel) rfl
theorem wd_432 : Cond.selects R_Co y_Co_instruction y_Co_instruction ∈ rz_tbl := rz_in 432 (by decide +kernel) rfl
theorem wd_433 : Cond.code y_Co_instruction c_Co_instruction 1 (some .int) ∈ rz_tbl := rz_in 433 (by decide +kernel) rfl
theorem wd_434 : Cond.methodLink R_Wo 61 y_Wo_find ∈ rz_tbl := rz_in 434 (by decide +kernel) rfl
theorem wd_436 : Cond.instanceMethod y_Wo_find ∈ rz_tbl := rz_in 436 (by decide +kernel) rfl
theorem wd_437 : Cond.code y_Wo_find c_Wo_find 4 (some .int) ∈ rz_tbl := rz_in 437 (by decide +kernel) rfl
theorem wd_438 : Cond.methodLink R_Wo 80 y_Co_a ∈ rz_tbl := rz_in 438 (by decide +kernel) rfl
theorem wd_439 : Cond.instanceMethod y_Co_a ∈ rz_tbl := rz_in 439 (by decide +kernel) rfl
theorem wd_440 : Cond.selects R_Co y_Co_a y_Co_a ∈ rz_tbl := rz_in 440 (by decide +kernel) rfl
theorem wd_441 : Cond.code y_Co_a c_Co_a 1 (some .int) ∈ rz_tbl := rz_in 441 (by decide +kernel) rfl
theorem wd_442 : Cond.methodLink R_Wo 83 y_Co_b ∈ rz_tbl := rz_in 442 (by decide +kernel) rfl
theorem wd_443 : Cond.instanceMethod y_Co_b ∈ rz_tbl := rz_in 443 (by decide +kernel) rfl
theorem wd_444 : Cond.selects R_Co y_Co_b y_Co_b ∈ rz_tbl := rz_in 444 (by decide +kernel) rfl
theorem wd_445 : Cond.code y_Co_b c_Co_b 1 (some .int) ∈ rz_tbl := rz_in 445 (by decide +kernel) rfl
theorem wd_446 : Cond.methodLink R_Wo 93 y_Co_dataAsName ∈ rz_tbl := rz_in 446 (by decide +kernel) rfl
theorem wd_447 : Cond.instanceMethod y_Co_dataAsName ∈ rz_tbl := rz_in 447 (by decide +kernel) rfl
theorem wd_448 : Cond.selects R_Co y_Co_dataAsName y_Co_dataAsName ∈ rz_tbl := rz_in 448 (by decide +kernel) rfl
theorem wd_449 : Cond.code y_Co_dataAsName c_Co_dataAsName 1 (some .int) ∈ rz_tbl := rz_in 449 (by decide +kernel) rfl
theorem wd_450 : Cond.methodLink R_Co 36 y_Co_data ∈ rz_tbl := rz_in 450 (by decide +kernel) rfl
theorem wd_451 : Cond.instanceMethod y_Co_data ∈ rz_tbl := rz_in 451 (by decide +kernel) rfl
theorem wd_452 : Cond.selects R_Co y_Co_data y_Co_data ∈ rz_tbl := rz_in 452 (by decide +kernel) rfl
theorem wd_453 : Cond.code y_Co_data c_Co_data 2 (some .int) ∈ rz_tbl := rz_in 453 (by decide +kernel) rfl
theorem wd_454 : Cond.methodLink R_Wo 96 y_Fi_find ∈ rz_tbl := rz_in 454 (by decide +kernel) rfl
theorem wd_455 : Cond.instanceMethod y_Fi_find ∈ rz_tbl := rz_in 455 (by decide +kernel) rfl
theorem wd_456 : Cond.selects R_Fi y_Fi_find y_Fi_find ∈ rz_tbl := rz_in 456 (by decide +kernel) rfl
theorem wd_457 : Cond.code y_Fi_find c_Fi_find 4 (some .int) ∈ rz_tbl := rz_in 457 (by decide +kernel) rfl
theorem wd_458 : Cond.methodLink R_Wo 101 y_Wo_parentOfDirectory ∈ rz_tbl := rz_in 458 (by decide +kernel) rfl
theorem wd_460 : Cond.instanceMethod y_Wo_parentOfDirectory ∈ rz_tbl := rz_in 460 (by decide +kernel) rfl
theorem wd_461 : Cond.code y_Wo_parentOfDirectory c_Wo_parentOfDirectory 1 (some .int) ∈ rz_tbl := rz_in 461 (by decide +kernel) rfl
theorem wd_462 : Cond.methodLink R_Wo 109 y_Fi_has ∈ rz_tbl := rz_in 462 (by decide +kernel) rfl
theorem wd_463 : Cond.methodLink R_Wo 104 y_Fi_isDirectory ∈ rz_tbl := rz_in 463 (by decide +kernel) rfl
theorem wd_464 : Cond.constant R_Wo 108 36864 ∈ rz_tbl := rz_in 464 (by decide +kernel) rfl
theorem wd_465 : Cond.methodLink R_Wo 64 y_Wo_read ∈ rz_tbl := rz_in 465 (by decide +kernel) rfl
theorem wd_467 : Cond.instanceMethod y_Wo_read ∈ rz_tbl := rz_in 467 (by decide +kernel) rfl
theorem wd_468 : Cond.code y_Wo_read c_Wo_read 6 (some .int) ∈ rz_tbl := rz_in 468 (by decide +kernel) rfl
theorem wd_469 : Cond.methodLink R_Wo 123 y_Co_place ∈ rz_tbl := rz_in 469 (by decide +kernel) rfl
theorem wd_470 : Cond.instanceMethod y_Co_place ∈ rz_tbl := rz_in 470 (by decide +kernel) rfl
theorem wd_471 : Cond.selects R_Co y_Co_place y_Co_place ∈ rz_tbl := rz_in 471 (by decide +kernel) rfl
theorem wd_472 : Cond.code y_Co_place c_Co_place 1 (some .int) ∈ rz_tbl := rz_in 472 (by decide +kernel) rfl
theorem wd_473 : Cond.methodLink R_Co 29 y_Co_a ∈ rz_tbl := rz_in 473 (by decide +kernel) rfl
theorem wd_474 : Cond.methodLink R_Co 33 y_Co_b ∈ rz_tbl := rz_in 474 (by decide +kernel) rfl
theorem wd_475 : Cond.methodLink R_Wo 126 y_Fi_mayRead ∈ rz_tbl := rz_in 475 (by decide +kernel) rfl
theorem wd_476 : Cond.instanceMethod y_Fi_mayRead ∈ rz_tbl := rz_in 476 (by decide +kernel) rfl
theorem wd_477 : Cond.selects R_Fi y_Fi_mayRead y_Fi_mayRead ∈ rz_tbl := rz_in 477 (by decide +kernel) rfl
theorem wd_478 : Cond.code y_Fi_mayRead c_Fi_mayRead 3 (some .boolean) ∈ rz_tbl := rz_in 478 (by decide +kernel) rfl
theorem wd_479 : Cond.methodLink R_Fi 42 y_Fi_allows ∈ rz_tbl := rz_in 479 (by decide +kernel) rfl
theorem wd_480 : Cond.static y_Fi_allows ∈ rz_tbl := rz_in 480 (by decide +kernel) rfl
theorem wd_481 : Cond.code y_Fi_allows c_Fi_allows 2 (some .boolean) ∈ rz_tbl := rz_in 481 (by decide +kernel) rfl
theorem wd_482 : Cond.methodLink R_Wo 130 y_Wo_testPlace ∈ rz_tbl := rz_in 482 (by decide +kernel) rfl
theorem wd_484 : Cond.instanceMethod y_Wo_testPlace ∈ rz_tbl := rz_in 484 (by decide +kernel) rfl
theorem wd_485 : Cond.code y_Wo_testPlace c_Wo_testPlace 3 (some .int) ∈ rz_tbl := rz_in 485 (by decide +kernel) rfl
theorem wd_486 : Cond.methodLink R_Wo 116 y_Fi_hasOctet ∈ rz_tbl := rz_in 486 (by decide +kernel) rfl
theorem wd_487 : Cond.instanceMethod y_Fi_hasOctet ∈ rz_tbl := rz_in 487 (by decide +kernel) rfl
theorem wd_488 : Cond.selects R_Fi y_Fi_hasOctet y_Fi_hasOctet ∈ rz_tbl := rz_in 488 (by decide +kernel) rfl
theorem wd_489 : Cond.code y_Fi_hasOctet c_Fi_hasOctet 3 (some .boolean) ∈ rz_tbl := rz_in 489 (by decide +kernel) rfl
theorem wd_490 : Cond.methodLink R_Wo 137 Lib.Math.min.name ∈ rz_tbl := rz_in 490 (by decide +kernel) rfl
theorem wd_491 : Cond.static Lib.Math.min.name ∈ rz_tbl := rz_in 491 (by decide +kernel) rfl
theorem wd_492 : Cond.code Lib.Math.min.name Lib.Math.min.code 2 (some .int) ∈ rz_tbl := rz_in 492 (by decide +kernel) rfl
theorem wd_493 : Cond.methodLink R_Wo 142 y_Fi_octet ∈ rz_tbl := rz_in 493 (by decide +kernel) rfl
theorem wd_494 : Cond.instanceMethod y_Fi_octet ∈ rz_tbl := rz_in 494 (by decide +kernel) rfl
theorem wd_495 : Cond.selects R_Fi y_Fi_octet y_Fi_octet ∈ rz_tbl := rz_in 495 (by decide +kernel) rfl
theorem wd_496 : Cond.code y_Fi_octet c_Fi_octet 3 (some .int) ∈ rz_tbl := rz_in 496 (by decide +kernel) rfl
theorem wd_497 : Cond.methodLink R_Fi 38 y_Fi_hasOctet ∈ rz_tbl := rz_in 497 (by decide +kernel) rfl
theorem wd_498 : Cond.methodLink R_Wo 76 y_An_add ∈ rz_tbl := rz_in 498 (by decide +kernel) rfl
theorem wd_499 : Cond.instanceMethod y_An_add ∈ rz_tbl := rz_in 499 (by decide +kernel) rfl
theorem wd_500 : Cond.selects R_An y_An_add y_An_add ∈ rz_tbl := rz_in 500 (by decide +kernel) rfl
theorem wd_501 : Cond.code y_An_add c_An_add 2 none ∈ rz_tbl := rz_in 501 (by decide +kernel) rfl
theorem wd_502 : Cond.methodLink R_Wo 67 y_Wo_change ∈ rz_tbl := rz_in 502 (by decide +kernel) rfl
theorem wd_504 : Cond.instanceMethod y_Wo_change ∈ rz_tbl := rz_in 504 (by decide +kernel) rfl
theorem wd_505 : Cond.code y_Wo_change c_Wo_change 3 (some .int) ∈ rz_tbl := rz_in 505 (by decide +kernel) rfl
theorem wd_506 : Cond.methodLink R_Wo 145 y_Fi_mayChange ∈ rz_tbl := rz_in 506 (by decide +kernel) rfl
theorem wd_507 : Cond.instanceMethod y_Fi_mayChange ∈ rz_tbl := rz_in 507 (by decide +kernel) rfl
theorem wd_508 : Cond.selects R_Fi y_Fi_mayChange y_Fi_mayChange ∈ rz_tbl := rz_in 508 (by decide +kernel) rfl
theorem wd_509 : Cond.code y_Fi_mayChange c_Fi_mayChange 3 (some .boolean) ∈ rz_tbl := rz_in 509 (by decide +kernel) rfl
theorem wd_510 : Cond.methodLink R_Wo 148 y_Me_writeNote ∈ rz_tbl := rz_in 510 (by decide +kernel) rfl
theorem wd_511 : Cond.instanceMethod y_Me_writeNote ∈ rz_tbl := rz_in 511 (by decide +kernel) rfl
theorem wd_512 : Cond.selects R_Me y_Me_writeNote y_Me_writeNote ∈ rz_tbl := rz_in 512 (by decide +kernel) rfl
theorem wd_513 : Cond.code y_Me_writeNote c_Me_writeNote 6 (some .boolean) ∈ rz_tbl := rz_in 513 (by decide +kernel) rfl
theorem wd_514 : Cond.methodLink R_Me 40 Lib.Math.min.name ∈ rz_tbl := rz_in 514 (by decide +kernel) rfl
theorem wd_515 : Cond.methodLink R_Me 59 y_Co_data ∈ rz_tbl := rz_in 515 (by decide +kernel) rfl
theorem wd_516 : Cond.methodLink R_Wo 152 y_Me_carryOutNote ∈ rz_tbl := rz_in 516 (by decide +kernel) rfl
theorem wd_517 : Cond.methodLink R_Wo 70 y_Wo_tell ∈ rz_tbl := rz_in 517 (by decide +kernel) rfl
theorem wd_519 : Cond.instanceMethod y_Wo_tell ∈ rz_tbl := rz_in 519 (by decide +kernel) rfl
theorem wd_520 : Cond.code y_Wo_tell c_Wo_tell 2 (some .int) ∈ rz_tbl := rz_in 520 (by decide +kernel) rfl
theorem wd_521 : Cond.methodLink R_Wo 158 y_Co_dataAsSecret ∈ rz_tbl := rz_in 521 (by decide +kernel) rfl
theorem wd_522 : Cond.instanceMethod y_Co_dataAsSecret ∈ rz_tbl := rz_in 522 (by decide +kernel) rfl
theorem wd_523 : Cond.selects R_Co y_Co_dataAsSecret y_Co_dataAsSecret ∈ rz_tbl := rz_in 523 (by decide +kernel) rfl
theorem wd_524 : Cond.code y_Co_dataAsSecret c_Co_dataAsSecret 1 (some .int) ∈ rz_tbl := rz_in 524 (by decide +kernel) rfl
theorem wd_525 : Cond.methodLink R_Wo 161 y_Wo_compareSecret ∈ rz_tbl := rz_in 525 (by decide +kernel) rfl
theorem wd_527 : Cond.instanceMethod y_Wo_compareSecret ∈ rz_tbl := rz_in 527 (by decide +kernel) rfl
theorem wd_528 : Cond.code y_Wo_compareSecret c_Wo_compareSecret 2 (some .int) ∈ rz_tbl := rz_in 528 (by decide +kernel) rfl
theorem wd_529 : Cond.methodLink R_Wo 165 y_Me_mayWrite ∈ rz_tbl := rz_in 529 (by decide +kernel) rfl
theorem wd_530 : Cond.methodLink R_Wo 73 y_Wo_renew ∈ rz_tbl := rz_in 530 (by decide +kernel) rfl
theorem wd_532 : Cond.instanceMethod y_Wo_renew ∈ rz_tbl := rz_in 532 (by decide +kernel) rfl
theorem wd_533 : Cond.code y_Wo_renew c_Wo_renew 1 (some .int) ∈ rz_tbl := rz_in 533 (by decide +kernel) rfl
theorem wd_534 : Cond.methodLink R_Ca 218 y_Wo_conclude ∈ rz_tbl := rz_in 534 (by decide +kernel) rfl
theorem wd_535 : Cond.instanceMethod y_Wo_conclude ∈ rz_tbl := rz_in 535 (by decide +kernel) rfl
theorem wd_536 : Cond.selects R_Wo y_Wo_conclude y_Wo_conclude ∈ rz_tbl := rz_in 536 (by decide +kernel) rfl
theorem wd_537 : Cond.code y_Wo_conclude c_Wo_conclude 2 none ∈ rz_tbl := rz_in 537 (by decide +kernel) rfl
theorem wd_538 : Cond.methodLink R_Ca 221 y_Li_sendPiece ∈ rz_tbl := rz_in 538 (by decide +kernel) rfl
theorem wd_539 : Cond.instanceMethod y_Li_sendPiece ∈ rz_tbl := rz_in 539 (by decide +kernel) rfl
theorem wd_540 : Cond.selects R_Li y_Li_sendPiece y_Li_sendPiece ∈ rz_tbl := rz_in 540 (by decide +kernel) rfl
theorem wd_541 : Cond.code y_Li_sendPiece c_Li_sendPiece 4 none ∈ rz_tbl := rz_in 541 (by decide +kernel) rfl
theorem wd_542 : Cond.methodLink R_Li 68 y_An_left ∈ rz_tbl := rz_in 542 (by decide +kernel) rfl
theorem wd_543 : Cond.instanceMethod y_An_left ∈ rz_tbl := rz_in 543 (by decide +kernel) rfl
theorem wd_544 : Cond.selects R_An y_An_left y_An_left ∈ rz_tbl := rz_in 544 (by decide +kernel) rfl
theorem wd_545 : Cond.code y_An_left c_An_left 1 (some .int) ∈ rz_tbl := rz_in 545 (by decide +kernel) rfl
theorem wd_546 : Cond.methodLink R_Li 73 Lib.Math.min.name ∈ rz_tbl := rz_in 546 (by decide +kernel) rfl
theorem wd_547 : Cond.methodLink R_Li 79 y_An_next ∈ rz_tbl := rz_in 547 (by decide +kernel) rfl
theorem wd_548 : Cond.instanceMethod y_An_next ∈ rz_tbl := rz_in 548 (by decide +kernel) rfl
theorem wd_549 : Cond.selects R_An y_An_next y_An_next ∈ rz_tbl := rz_in 549 (by decide +kernel) rfl
theorem wd_550 : Cond.code y_An_next c_An_next 1 (some .int) ∈ rz_tbl := rz_in 550 (by decide +kernel) rfl
theorem wd_551 : Cond.methodLink R_Li 65 y_Li_append ∈ rz_tbl := rz_in 551 (by decide +kernel) rfl
theorem wd_553 : Cond.instanceMethod y_Li_append ∈ rz_tbl := rz_in 553 (by decide +kernel) rfl
theorem wd_554 : Cond.code y_Li_append c_Li_append 2 none ∈ rz_tbl := rz_in 554 (by decide +kernel) rfl
theorem wd_555 : Cond.methodLink R_Li 82 arraycopyName ∈ rz_tbl := rz_in 555 (by decide +kernel) rfl
theorem wd_556 : Cond.static arraycopyName ∈ rz_tbl := rz_in 556 (by decide +kernel) rfl
theorem wd_557 : Cond.native arraycopyName ∈ rz_tbl := rz_in 557 (by decide +kernel) rfl
theorem wd_558 : Cond.methodLink R_Ca 195 y_Ca_takeReady ∈ rz_tbl := rz_in 558 (by decide +kernel) rfl
theorem wd_560 : Cond.instanceMethod y_Ca_takeReady ∈ rz_tbl := rz_in 560 (by decide +kernel) rfl
theorem wd_561 : Cond.code y_Ca_takeReady c_Ca_takeReady 2 (some .int) ∈ rz_tbl := rz_in 561 (by decide +kernel) rfl
theorem wd_562 : Cond.methodLink R_Ca 176 y_An_left ∈ rz_tbl := rz_in 562 (by decide +kernel) rfl
theorem wd_563 : Cond.methodLink R_Ca 228 y_Li_sendAgain ∈ rz_tbl := rz_in 563 (by decide +kernel) rfl
theorem wd_564 : Cond.instanceMethod y_Li_sendAgain ∈ rz_tbl := rz_in 564 (by decide +kernel) rfl
theorem wd_565 : Cond.selects R_Li y_Li_sendAgain y_Li_sendAgain ∈ rz_tbl := rz_in 565 (by decide +kernel) rfl
theorem wd_566 : Cond.code y_Li_sendAgain c_Li_sendAgain 1 none ∈ rz_tbl := rz_in 566 (by decide +kernel) rfl
theorem wd_567 : Cond.methodLink R_Ca 198 y_Ca_takeSupervision ∈ rz_tbl := rz_in 567 (by decide +kernel) rfl
theorem wd_569 : Cond.instanceMethod y_Ca_takeSupervision ∈ rz_tbl := rz_in 569 (by decide +kernel) rfl
theorem wd_570 : Cond.code y_Ca_takeSupervision c_Ca_takeSupervision 2 (some .int) ∈ rz_tbl := rz_in 570 (by decide +kernel) rfl
theorem wd_571 : Cond.methodLink R_Ca 231 y_Ca_takeSize ∈ rz_tbl := rz_in 571 (by decide +kernel) rfl
theorem wd_573 : Cond.instanceMethod y_Ca_takeSize ∈ rz_tbl := rz_in 573 (by decide +kernel) rfl
theorem wd_574 : Cond.code y_Ca_takeSize c_Ca_takeSize 2 (some .int) ∈ rz_tbl := rz_in 574 (by decide +kernel) rfl
theorem wd_575 : Cond.methodLink R_Ca 243 y_Li_sendSize ∈ rz_tbl := rz_in 575 (by decide +kernel) rfl
theorem wd_576 : Cond.instanceMethod y_Li_sendSize ∈ rz_tbl := rz_in 576 (by decide +kernel) rfl
theorem wd_577 : Cond.selects R_Li y_Li_sendSize y_Li_sendSize ∈ rz_tbl := rz_in 577 (by decide +kernel) rfl
theorem wd_578 : Cond.code y_Li_sendSize c_Li_sendSize 1 none ∈ rz_tbl := rz_in 578 (by decide +kernel) rfl
theorem wd_579 : Cond.methodLink R_Ca 234 y_Wo_forgetExchange ∈ rz_tbl := rz_in 579 (by decide +kernel) rfl
theorem wd_580 : Cond.methodLink R_Ca 237 y_Li_resync ∈ rz_tbl := rz_in 580 (by decide +kernel) rfl
theorem wd_581 : Cond.methodLink R_Ca 240 y_Li_sendSupervision ∈ rz_tbl := rz_in 581 (by decide +kernel) rfl
theorem wd_582 : Cond.instanceMethod y_Li_sendSupervision ∈ rz_tbl := rz_in 582 (by decide +kernel) rfl
theorem wd_583 : Cond.selects R_Li y_Li_sendSupervision y_Li_sendSupervision ∈ rz_tbl := rz_in 583 (by decide +kernel) rfl
theorem wd_584 : Cond.code y_Li_sendSupervision c_Li_sendSupervision 2 none ∈ rz_tbl := rz_in 584 (by decide +kernel) rfl
theorem wd_588 : Cond.code y_Ca_block c_Ca_block 6 (some .int) ∈ rz_tbl := rz_in 588 (by decide +kernel) rfl
theorem wd_589 : Cond.methodLink R_Ca 89 y_Li_sumOfArrived ∈ rz_tbl := rz_in 589 (by decide +kernel) rfl
theorem wd_593 : Cond.code y_Ca_reply c_Ca_reply 2 (some .int) ∈ rz_tbl := rz_in 593 (by decide +kernel) rfl
theorem wd_597 : Cond.code y_Ca_stored c_Ca_stored 3 (some .int) ∈ rz_tbl := rz_in 597 (by decide +kernel) rfl
theorem wd_598 : Cond.methodLink R_Ca 100 y_Fi_hasOctet ∈ rz_tbl := rz_in 598 (by decide +kernel) rfl
theorem wd_599 : Cond.methodLink R_Ca 104 y_Fi_octet ∈ rz_tbl := rz_in 599 (by decide +kernel) rfl
theorem wd_603 : Cond.code y_Ca_state c_Ca_state 2 (some .int) ∈ rz_tbl := rz_in 603 (by decide +kernel) rfl
theorem wd_604 : Cond.methodLink R_Ca 123 y_Ca_stateWhileOn ∈ rz_tbl := rz_in 604 (by decide +kernel) rfl
theorem wd_606 : Cond.instanceMethod y_Ca_stateWhileOn ∈ rz_tbl := rz_in 606 (by decide +kernel) rfl
theorem wd_607 : Cond.code y_Ca_stateWhileOn c_Ca_stateWhileOn 2 (some .int) ∈ rz_tbl := rz_in 607 (by decide +kernel) rfl
theorem wd_611 : Cond.code y_Ca_look c_Ca_look 4 (some .int) ∈ rz_tbl := rz_in 611 (by decide +kernel) rfl
theorem wd_612 : Cond.methodLink R_Ca 127 y_Fi_has ∈ rz_tbl := rz_in 612 (by decide +kernel) rfl
theorem wd_619 : Cond.fieldLink R_Mo 7 "TornCardModel" "name" "[I" ∈ rz_tbl := rz_in 619 (by decide +kernel) rfl
theorem wd_620 : Cond.fieldLink R_Mo 13 "TornCardModel" "directory" "[I" ∈ rz_tbl := rz_in 620 (by decide +kernel) rfl
theorem wd_621 : Cond.fieldLink R_Mo 16 "TornCardModel" "size" "[I" ∈ rz_tbl := rz_in 621 (by decide +kernel) rfl
theorem wd_622 : Cond.fieldLink R_Mo 19 "TornCardModel" "read" "[I" ∈ rz_tbl := rz_in 622 (by decide +kernel) rfl
theorem wd_623 : Cond.fieldLink R_Mo 22 "TornCardModel" "change" "[I" ∈ rz_tbl := rz_in 623 (by decide +kernel) rfl
theorem wd_624 : Cond.fieldLink R_Mo 25 "TornCardModel" "octets" "[I" ∈ rz_tbl := rz_in 624 (by decide +kernel) rfl
theorem wd_625 : Cond.fieldLink R_Mo 28 "TornCardModel" "files" "I" ∈ rz_tbl := rz_in 625 (by decide +kernel) rfl
theorem wd_626 : Cond.fieldLink R_Mo 191 "TornCardModel" "secret" "I" ∈ rz_tbl := rz_in 626 (by decide +kernel) rfl
theorem wd_627 : Cond.fieldLink R_Mo 32 "TornCardModel" "tries" "I" ∈ rz_tbl := rz_in 627 (by decide +kernel) rfl
theorem wd_628 : Cond.fieldLink R_Mo 71 "TornCardModel" "writings" "I" ∈ rz_tbl := rz_in 628 (by decide +kernel) rfl
theorem wd_629 : Cond.fieldLink R_Mo 65 "TornCardModel" "torn" "I" ∈ rz_tbl := rz_in 629 (by decide +kernel) rfl
theorem wd_630 : Cond.fieldLink R_Mo 160 "TornCardModel" "commands" "I" ∈ rz_tbl := rz_in 630 (by decide +kernel) rfl
theorem wd_631 : Cond.fieldLink R_Mo 35 "TornCardModel" "tear" "I" ∈ rz_tbl := rz_in 631 (by decide +kernel) rfl
theorem wd_632 : Cond.fieldLink R_Mo 38 "TornCardModel" "note" "[I" ∈ rz_tbl := rz_in 632 (by decide +kernel) rfl
theorem wd_633 : Cond.fieldLink R_Mo 81 "TornCardModel" "noteFile" "I" ∈ rz_tbl := rz_in 633 (by decide +kernel) rfl
theorem wd_634 : Cond.fieldLink R_Mo 84 "TornCardModel" "noteFrom" "I" ∈ rz_tbl := rz_in 634 (by decide +kernel) rfl
theorem wd_635 : Cond.fieldLink R_Mo 74 "TornCardModel" "noteSize" "I" ∈ rz_tbl := rz_in 635 (by decide +kernel) rfl
theorem wd_636 : Cond.fieldLink R_Mo 61 "TornCardModel" "on" "Z" ∈ rz_tbl := rz_in 636 (by decide +kernel) rfl
theorem wd_637 : Cond.fieldLink R_Mo 90 "TornCardModel" "opened" "Z" ∈ rz_tbl := rz_in 637 (by decide +kernel) rfl
theorem wd_638 : Cond.fieldLink R_Mo 123 "TornCardModel" "tooLong" "Z" ∈ rz_tbl := rz_in 638 (by decide +kernel) rfl
theorem wd_639 : Cond.fieldLink R_Mo 93 "TornCardModel" "folder" "I" ∈ rz_tbl := rz_in 639 (by decide +kernel) rfl
theorem wd_640 : Cond.fieldLink R_Mo 96 "TornCardModel" "file" "I" ∈ rz_tbl := rz_in 640 (by decide +kernel) rfl
theorem wd_641 : Cond.fieldLink R_Mo 108 "TornCardModel" "in" "I" ∈ rz_tbl := rz_in 641 (by decide +kernel) rfl
theorem wd_642 : Cond.fieldLink R_Mo 111 "TornCardModel" "out" "I" ∈ rz_tbl := rz_in 642 (by decide +kernel) rfl
theorem wd_643 : Cond.fieldLink R_Mo 99 "TornCardModel" "piece" "I" ∈ rz_tbl := rz_in 643 (by decide +kernel) rfl
theorem wd_644 : Cond.fieldLink R_Mo 41 "TornCardModel" "block" "[I" ∈ rz_tbl := rz_in 644 (by decide +kernel) rfl
theorem wd_645 : Cond.fieldLink R_Mo 44 "TornCardModel" "command" "[I" ∈ rz_tbl := rz_in 645 (by decide +kernel) rfl
theorem wd_646 : Cond.fieldLink R_Mo 47 "TornCardModel" "answer" "[I" ∈ rz_tbl := rz_in 646 (by decide +kernel) rfl
theorem wd_647 : Cond.fieldLink R_Mo 50 "TornCardModel" "reply" "[I" ∈ rz_tbl := rz_in 647 (by decide +kernel) rfl
theorem wd_648 : Cond.fieldLink R_Mo 53 "TornCardModel" "again" "[I" ∈ rz_tbl := rz_in 648 (by decide +kernel) rfl
theorem wd_649 : Cond.fieldLink R_Mo 102 "TornCardModel" "blockSize" "I" ∈ rz_tbl := rz_in 649 (by decide +kernel) rfl
theorem wd_650 : Cond.fieldLink R_Mo 120 "TornCardModel" "commandSize" "I" ∈ rz_tbl := rz_in 650 (by decide +kernel) rfl
theorem wd_651 : Cond.fieldLink R_Mo 126 "TornCardModel" "answerSize" "I" ∈ rz_tbl := rz_in 651 (by decide +kernel) rfl
theorem wd_652 : Cond.fieldLink R_Mo 129 "TornCardModel" "sent" "I" ∈ rz_tbl := rz_in 652 (by decide +kernel) rfl
theorem wd_653 : Cond.fieldLink R_Mo 68 "TornCardModel" "replySize" "I" ∈ rz_tbl := rz_in 653 (by decide +kernel) rfl
theorem wd_654 : Cond.fieldLink R_Mo 114 "TornCardModel" "againSize" "I" ∈ rz_tbl := rz_in 654 (by decide +kernel) rfl
theorem wd_655 : Cond.fieldLink R_Mo 150 "TornCardModel" "againIsPiece" "Z" ∈ rz_tbl := rz_in 655 (by decide +kernel) rfl
theorem wd_734 : Cond.code y_Mo_file c_Mo_file 8 (some .int) ∈ rz_tbl := rz_in 734 (by decide +kernel) rfl
theorem wd_735 : Cond.methodLink R_Mo 56 y_Mo_within ∈ rz_tbl := rz_in 735 (by decide +kernel) rfl
theorem wd_736 : Cond.static y_Mo_within ∈ rz_tbl := rz_in 736 (by decide +kernel) rfl
theorem wd_737 : Cond.code y_Mo_within c_Mo_within 3 (some .boolean) ∈ rz_tbl := rz_in 737 (by decide +kernel) rfl
theorem wd_738 : Cond.constant R_Mo 60 65535 ∈ rz_tbl := rz_in 738 (by decide +kernel) rfl
theorem wd_742 : Cond.code y_Mo_tear c_Mo_tear 3 (some .int) ∈ rz_tbl := rz_in 742 (by decide +kernel) rfl
theorem wd_746 : Cond.code y_Mo_on c_Mo_on 2 (some .int) ∈ rz_tbl := rz_in 746 (by decide +kernel) rfl
theorem wd_747 : Cond.methodLink R_Mo 87 y_Mo_settle ∈ rz_tbl := rz_in 747 (by decide +kernel) rfl
theorem wd_749 : Cond.instanceMethod y_Mo_settle ∈ rz_tbl := rz_in 749 (by decide +kernel) rfl
theorem wd_750 : Cond.code y_Mo_settle c_Mo_settle 3 (some .boolean) ∈ rz_tbl := rz_in 750 (by decide +kernel) rfl
theorem wd_751 : Cond.methodLink R_Mo 77 y_Mo_writes ∈ rz_tbl := rz_in 751 (by decide +kernel) rfl
theorem wd_753 : Cond.instanceMethod y_Mo_writes ∈ rz_tbl := rz_in 753 (by decide +kernel) rfl
theorem wd_754 : Cond.code y_Mo_writes c_Mo_writes 1 (some .boolean) ∈ rz_tbl := rz_in 754 (by decide +kernel) rfl
theorem wd_755 : Cond.methodLink R_Mo 105 y_Mo_begin ∈ rz_tbl := rz_in 755 (by decide +kernel) rfl
theorem wd_757 : Cond.instanceMethod y_Mo_begin ∈ rz_tbl := rz_in 757 (by decide +kernel) rfl
theorem wd_758 : Cond.code y_Mo_begin c_Mo_begin 1 none ∈ rz_tbl := rz_in 758 (by decide +kernel) rfl
theorem wd_759 : Cond.methodLink R_Mo 117 y_Mo_forget ∈ rz_tbl := rz_in 759 (by decide +kernel) rfl
theorem wd_761 : Cond.instanceMethod y_Mo_forget ∈ rz_tbl := rz_in 761 (by decide +kernel) rfl
theorem wd_762 : Cond.code y_Mo_forget c_Mo_forget 1 none ∈ rz_tbl := rz_in 762 (by decide +kernel) rfl
theorem wd_766 : Cond.code y_Mo_off c_Mo_off 1 (some .int) ∈ rz_tbl := rz_in 766 (by decide +kernel) rfl
theorem wd_770 : Cond.code y_Mo_feed c_Mo_feed 5 (some .int) ∈ rz_tbl := rz_in 770 (by decide +kernel) rfl
theorem wd_771 : Cond.constantLong R_Mo 194 255 ∈ rz_tbl := rz_in 771 (by decide +kernel) rfl
theorem wd_772 : Cond.methodLink R_Mo 196 y_Mo_take ∈ rz_tbl := rz_in 772 (by decide +kernel) rfl
theorem wd_774 : Cond.instanceMethod y_Mo_take ∈ rz_tbl := rz_in 774 (by decide +kernel) rfl
theorem wd_775 : Cond.code y_Mo_take c_Mo_take 6 none ∈ rz_tbl := rz_in 775 (by decide +kernel) rfl
theorem wd_776 : Cond.methodLink R_Mo 132 y_Mo_answerR ∈ rz_tbl := rz_in 776 (by decide +kernel) rfl
theorem wd_778 : Cond.instanceMethod y_Mo_answerR ∈ rz_tbl := rz_in 778 (by decide +kernel) rfl
theorem wd_779 : Cond.code y_Mo_answerR c_Mo_answerR 2 none ∈ rz_tbl := rz_in 779 (by decide +kernel) rfl
theorem wd_780 : Cond.methodLink R_Mo 147 y_Mo_say ∈ rz_tbl := rz_in 780 (by decide +kernel) rfl
theorem wd_782 : Cond.instanceMethod y_Mo_say ∈ rz_tbl := rz_in 782 (by decide +kernel) rfl
theorem wd_783 : Cond.code y_Mo_say c_Mo_say 5 none ∈ rz_tbl := rz_in 783 (by decide +kernel) rfl
theorem wd_784 : Cond.methodLink R_Mo 136 y_Mo_work ∈ rz_tbl := rz_in 784 (by decide +kernel) rfl
theorem wd_786 : Cond.instanceMethod y_Mo_work ∈ rz_tbl := rz_in 786 (by decide +kernel) rfl
theorem wd_787 : Cond.code y_Mo_work c_Mo_work 3 none ∈ rz_tbl := rz_in 787 (by decide +kernel) rfl
theorem wd_788 : Cond.methodLink R_Mo 140 y_Mo_comes ∈ rz_tbl := rz_in 788 (by decide +kernel) rfl
theorem wd_790 : Cond.instanceMethod y_Mo_comes ∈ rz_tbl := rz_in 790 (by decide +kernel) rfl
theorem wd_791 : Cond.code y_Mo_comes c_Mo_comes 4 none ∈ rz_tbl := rz_in 791 (by decide +kernel) rfl
theorem wd_792 : Cond.methodLink R_Mo 153 y_Mo_execute ∈ rz_tbl := rz_in 792 (by decide +kernel) rfl
theorem wd_794 : Cond.instanceMethod y_Mo_execute ∈ rz_tbl := rz_in 794 (by decide +kernel) rfl
theorem wd_795 : Cond.code y_Mo_execute c_Mo_execute 6 (some .int) ∈ rz_tbl := rz_in 795 (by decide +kernel) rfl
theorem wd_796 : Cond.methodLink R_Mo 166 y_Mo_find ∈ rz_tbl := rz_in 796 (by decide +kernel) rfl
theorem wd_798 : Cond.instanceMethod y_Mo_find ∈ rz_tbl := rz_in 798 (by decide +kernel) rfl
theorem wd_799 : Cond.code y_Mo_find c_Mo_find 7 (some .int) ∈ rz_tbl := rz_in 799 (by decide +kernel) rfl
theorem wd_800 : Cond.constant R_Mo 183 36864 ∈ rz_tbl := rz_in 800 (by decide +kernel) rfl
theorem wd_801 : Cond.methodLink R_Mo 170 y_Mo_reads ∈ rz_tbl := rz_in 801 (by decide +kernel) rfl
theorem wd_803 : Cond.instanceMethod y_Mo_reads ∈ rz_tbl := rz_in 803 (by decide +kernel) rfl
theorem wd_804 : Cond.code y_Mo_reads c_Mo_reads 8 (some .int) ∈ rz_tbl := rz_in 804 (by decide +kernel) rfl
theorem wd_805 : Cond.methodLink R_Mo 184 y_Mo_wrong ∈ rz_tbl := rz_in 805 (by decide +kernel) rfl
theorem wd_807 : Cond.instanceMethod y_Mo_wrong ∈ rz_tbl := rz_in 807 (by decide +kernel) rfl
theorem wd_808 : Cond.code y_Mo_wrong c_Mo_wrong 4 (some .int) ∈ rz_tbl := rz_in 808 (by decide +kernel) rfl
theorem wd_809 : Cond.methodLink R_Mo 157 y_Mo_put ∈ rz_tbl := rz_in 809 (by decide +kernel) rfl
theorem wd_811 : Cond.instanceMethod y_Mo_put ∈ rz_tbl := rz_in 811 (by decide +kernel) rfl
theorem wd_812 : Cond.code y_Mo_put c_Mo_put 2 none ∈ rz_tbl := rz_in 812 (by decide +kernel) rfl
theorem wd_813 : Cond.methodLink R_Mo 173 y_Mo_changes ∈ rz_tbl := rz_in 813 (by decide +kernel) rfl
theorem wd_815 : Cond.instanceMethod y_Mo_changes ∈ rz_tbl := rz_in 815 (by decide +kernel) rfl
theorem wd_816 : Cond.code y_Mo_changes c_Mo_changes 7 (some .int) ∈ rz_tbl := rz_in 816 (by decide +kernel) rfl
theorem wd_817 : Cond.methodLink R_Mo 176 y_Mo_tell ∈ rz_tbl := rz_in 817 (by decide +kernel) rfl
theorem wd_819 : Cond.instanceMethod y_Mo_tell ∈ rz_tbl := rz_in 819 (by decide +kernel) rfl
theorem wd_820 : Cond.code y_Mo_tell c_Mo_tell 7 (some .int) ∈ rz_tbl := rz_in 820 (by decide +kernel) rfl
theorem wd_821 : Cond.methodLink R_Mo 188 y_Mo_told ∈ rz_tbl := rz_in 821 (by decide +kernel) rfl
theorem wd_823 : Cond.instanceMethod y_Mo_told ∈ rz_tbl := rz_in 823 (by decide +kernel) rfl
theorem wd_824 : Cond.code y_Mo_told c_Mo_told 1 (some .int) ∈ rz_tbl := rz_in 824 (by decide +kernel) rfl
theorem wd_825 : Cond.methodLink R_Mo 180 y_Mo_renew ∈ rz_tbl := rz_in 825 (by decide +kernel) rfl
theorem wd_827 : Cond.instanceMethod y_Mo_renew ∈ rz_tbl := rz_in 827 (by decide +kernel) rfl
theorem wd_828 : Cond.code y_Mo_renew c_Mo_renew 6 (some .int) ∈ rz_tbl := rz_in 828 (by decide +kernel) rfl
theorem wd_829 : Cond.methodLink R_Mo 163 y_Mo_next ∈ rz_tbl := rz_in 829 (by decide +kernel) rfl
theorem wd_831 : Cond.instanceMethod y_Mo_next ∈ rz_tbl := rz_in 831 (by decide +kernel) rfl
theorem wd_832 : Cond.code y_Mo_next c_Mo_next 3 none ∈ rz_tbl := rz_in 832 (by decide +kernel) rfl
theorem wd_833 : Cond.methodLink R_Mo 144 y_Mo_asks ∈ rz_tbl := rz_in 833 (by decide +kernel) rfl
theorem wd_835 : Cond.instanceMethod y_Mo_asks ∈ rz_tbl := rz_in 835 (by decide +kernel) rfl
theorem wd_836 : Cond.code y_Mo_asks c_Mo_asks 3 none ∈ rz_tbl := rz_in 836 (by decide +kernel) rfl
theorem wd_840 : Cond.code y_Mo_block c_Mo_block 8 (some .int) ∈ rz_tbl := rz_in 840 (by decide +kernel) rfl
theorem wd_844 : Cond.code y_Mo_reply c_Mo_reply 2 (some .int) ∈ rz_tbl := rz_in 844 (by decide +kernel) rfl
theorem wd_848 : Cond.code y_Mo_stored c_Mo_stored 3 (some .int) ∈ rz_tbl := rz_in 848 (by decide +kernel) rfl
theorem wd_852 : Cond.code y_Mo_state c_Mo_state 2 (some .int) ∈ rz_tbl := rz_in 852 (by decide +kernel) rfl
theorem wd_856 : Cond.code y_Mo_look c_Mo_look 3 (some .int) ∈ rz_tbl := rz_in 856 (by decide +kernel) rfl
end
section
theorem d_Ca_init_0 : decode c_Ca_init 0 = .ok (.aload_n 0, 1) := by decide +kernel
theorem d_Ca_init_1 : decode c_Ca_init 1 = .ok (.invokespecial 1, 3) := by decide +kernel
theorem d_Ca_init_4 : decode c_Ca_init 4 = .ok (.aload_n 0, 1) := by decide +kernel
theorem d_Ca_init_5 : decode c_Ca_init 5 = .ok (.new 7, 3) := by decide +kernel
theorem d_Ca_init_8 : decode c_Ca_init 8 = .ok (.dup, 1) := by decide +kernel
theorem d_Ca_init_9 : decode c_Ca_init 9 = .ok (.invokespecial 9, 3) := by decide +kernel
theorem d_Ca_init_12 : decode c_Ca_init 12 = .ok (.putfield 10, 3) := by decide +kernel
theorem d_Ca_init_15 : decode c_Ca_init 15 = .ok (.aload_n 0, 1) := by decide +kernel
theorem d_Ca_init_16 : decode c_Ca_init 16 = .ok (.new 16, 3) := by decide +kernel
theorem d_Ca_init_19 : decode c_Ca_init 19 = .ok (.dup, 1) := by decide +kernel
theorem d_Ca_init_20 : decode c_Ca_init 20 = .ok (.invokespecial 18, 3) := by decide +kernel
theorem d_Ca_init_23 : decode c_Ca_init 23 = .ok (.putfield 19, 3) := by decide +kernel
theorem d_Ca_init_26 : decode c_Ca_init 26 = .ok (.aload_n 0, 1) := by decide +kernel
theorem d_Ca_init_27 : decode c_Ca_init 27 = .ok (.aload_n 0, 1) := by decide +kernel
theorem d_Ca_init_28 : decode c_Ca_init 28 = .ok (.getfield 19, 3) := by decide +kernel
theorem d_Ca_init_31 : decode c_Ca_init 31 = .ok (.getfield 23, 3) := by decide +kernel
theorem d_Ca_init_34 : decode c_Ca_init 34 = .ok (.putfield 27, 3) := by decide +kernel
theorem d_Ca_init_37 : decode c_Ca_init 37 = .ok (.return_, 1) := by decide +kernel
theorem d_Li_init_0 : decode c_Li_init 0 = .ok (.aload_n 0, 1) := by decide +kernel
theorem d_Li_init_1 : decode c_Li_init 1 = .ok (.invokespecial 5, 3) := by decide +kernel
theorem d_Li_init_4 : decode c_Li_init 4 = .ok (.aload_n 0, 1) := by decide +kernel
theorem d_Li_init_5 : decode c_Li_init 5 = .ok (.bipush 36, 2) := by decide +kernel
theorem d_Li_init_7 : decode c_Li_init 7 = .ok (.newarray .int, 2) := by decide +kernel
theorem d_Li_init_9 : decode c_Li_init 9 = .ok (.putfield 11, 3) := by decide +kernel
theorem d_Li_init_12 : decode c_Li_init 12 = .ok (.aload_n 0, 1) := by decide +kernel
theorem d_Li_init_13 : decode c_Li_init 13 = .ok (.bipush 36, 2) := by decide +kernel
theorem d_Li_init_15 : decode c_Li_init 15 = .ok (.newarray .int, 2) := by decide +kernel
theorem d_Li_init_17 : decode c_Li_init 17 = .ok (.putfield 15, 3) := by decide +kernel
theorem d_Li_init_20 : decode c_Li_init 20 = .ok (.aload_n 0, 1) := by decide +kernel
theorem d_Li_init_21 : decode c_Li_init 21 = .ok (.bipush 36, 2) := by decide +kernel
theorem d_Li_init_23 : decode c_Li_init 23 = .ok (.newarray .int, 2) := by decide +kernel
theorem d_Li_init_25 : decode c_Li_init 25 = .ok (.putfield 18, 3) := by decide +kernel
theorem d_Li_init_28 : decode c_Li_init 28 = .ok (.aload_n 0, 1) := by decide +kernel
theorem d_Li_init_29 : decode c_Li_init 29 = .ok (.bipush 32, 2) := by decide +kernel
theorem d_Li_init_31 : decode c_Li_init 31 = .ok (.putfield 21, 3) := by decide +kernel
theorem d_Li_init_34 : decode c_Li_init 34 = .ok (.return_, 1) := by decide +kernel
theorem d_Wo_init_0 : decode c_Wo_init 0 = .ok (.aload_n 0, 1) := by decide +kernel
theorem d_Wo_init_1 : decode c_Wo_init 1 = .ok (.invokespecial 3, 3) := by decide +kernel
theorem d_Wo_init_4 : decode c_Wo_init 4 = .ok (.aload_n 0, 1) := by decide +kernel
theorem d_Wo_init_5 : decode c_Wo_init 5 = .ok (.new 9, 3) := by decide +kernel
theorem d_Wo_init_8 : decode c_Wo_init 8 = .ok (.dup, 1) := by decide +kernel
theorem d_Wo_init_9 : decode c_Wo_init 9 = .ok (.invokespecial 11, 3) := by decide +kernel
theorem d_Wo_init_12 : decode c_Wo_init 12 = .ok (.putfield 12, 3) := by decide +kernel
theorem d_Wo_init_15 : decode c_Wo_init 15 = .ok (.aload_n 0, 1) := by decide +kernel
theorem d_Wo_init_16 : decode c_Wo_init 16 = .ok (.new 18, 3) := by decide +kernel
theorem d_Wo_init_19 : decode c_Wo_init 19 = .ok (.dup, 1) := by decide +kernel
theorem d_Wo_init_20 : decode c_Wo_init 20 = .ok (.invokespecial 20, 3) := by decide +kernel
theorem d_Wo_init_23 : decode c_Wo_init 23 = .ok (.putfield 21, 3) := by decide +kernel
theorem d_Wo_init_26 : decode c_Wo_init 26 = .ok (.aload_n 0, 1) := by decide +kernel
theorem d_Wo_init_27 : decode c_Wo_init 27 = .ok (.new 25, 3) := by decide +kernel
theorem d_Wo_init_30 : decode c_Wo_init 30 = .ok (.dup, 1) := by decide +kernel
theorem d_Wo_init_31 : decode c_Wo_init 31 = .ok (.invokespecial 27, 3) := by decide +kernel
theorem d_Wo_init_34 : decode c_Wo_init 34 = .ok (.putfield 28, 3) := by decide +kernel
theorem d_Wo_init_37 : decode c_Wo_init 37 = .ok (.aload_n 0, 1) := by decide +kernel
theorem d_Wo_init_38 : decode c_Wo_init 38 = .ok (.iconst (-1), 1) := by decide +kernel
theorem d_Wo_init_39 : decode c_Wo_init 39 = .ok (.putfield 32, 3) := by decide +kernel
theorem d_Wo_init_42 : decode c_Wo_init 42 = .ok (.return_, 1) := by decide +kernel
theorem d_Me_init_0 : decode c_Me_init 0 = .ok (.aload_n 0, 1) := by decide +kernel
theorem d_Me_init_1 : decode c_Me_init 1 = .ok (.invokespecial 3, 3) := by decide +kernel
theorem d_Me_init_4 : decode c_Me_init 4 = .ok (.aload_n 0, 1) := by decide +kernel
theorem d_Me_init_5 : decode c_Me_init 5 = .ok (.new 9, 3) := by decide +kernel
theorem d_Me_init_8 : decode c_Me_init 8 = .ok (.dup, 1) := by decide +kernel
theorem d_Me_init_9 : decode c_Me_init 9 = .ok (.invokespecial 11, 3) := by decide +kernel
theorem d_Me_init_12 : decode c_Me_init 12 = .ok (.putfield 12, 3) := by decide +kernel
theorem d_Me_init_15 : decode c_Me_init 15 = .ok (.aload_n 0, 1) := by decide +kernel
theorem d_Me_init_16 : decode c_Me_init 16 = .ok (.bipush 24, 2) := by decide +kernel
theorem d_Me_init_18 : decode c_Me_init 18 = .ok (.newarray .int, 2) := by decide +kernel
theorem d_Me_init_20 : decode c_Me_init 20 = .ok (.putfield 18, 3) := by decide +kernel
theorem d_Me_init_23 : decode c_Me_init 23 = .ok (.aload_n 0, 1) := by decide +kernel
theorem d_Me_init_24 : decode c_Me_init 24 = .ok (.iconst 3, 1) := by decide +kernel
theorem d_Me_init_25 : decode c_Me_init 25 = .ok (.putfield 22, 3) := by decide +kernel
theorem d_Me_init_28 : decode c_Me_init 28 = .ok (.aload_n 0, 1) := by decide +kernel
theorem d_Me_init_29 : decode c_Me_init 29 = .ok (.iconst (-1), 1) := by decide +kernel
theorem d_Me_init_30 : decode c_Me_init 30 = .ok (.putfield 26, 3) := by decide +kernel
theorem d_Me_init_33 : decode c_Me_init 33 = .ok (.return_, 1) := by decide +kernel
theorem d_Fi_init_0 : decode c_Fi_init 0 = .ok (.aload_n 0, 1) := by decide +kernel
theorem d_Fi_init_1 : decode c_Fi_init 1 = .ok (.invokespecial 3, 3) := by decide +kernel
theorem d_Fi_init_4 : decode c_Fi_init 4 = .ok (.aload_n 0, 1) := by decide +kernel
theorem d_Fi_init_5 : decode c_Fi_init 5 = .ok (.bipush 8, 2) := by decide +kernel
theorem d_Fi_init_7 : decode c_Fi_init 7 = .ok (.newarray .int, 2) := by decide +kernel
theorem d_Fi_init_9 : decode c_Fi_init 9 = .ok (.putfield 11, 3) := by decide +kernel
theorem d_Fi_init_12 : decode c_Fi_init 12 = .ok (.aload_n 0, 1) := by decide +kernel
theorem d_Fi_init_13 : decode c_Fi_init 13 = .ok (.bipush 8, 2) := by decide +kernel
theorem d_Fi_init_15 : decode c_Fi_init 15 = .ok (.newarray .int, 2) := by decide +kernel
theorem d_Fi_init_17 : decode c_Fi_init 17 = .ok (.putfield 15, 3) := by decide +kernel
theorem d_Fi_init_20 : decode c_Fi_init 20 = .ok (.aload_n 0, 1) := by decide +kernel
theorem d_Fi_init_21 : decode c_Fi_init 21 = .ok (.bipush 8, 2) := by decide +kernel
theorem d_Fi_init_23 : decode c_Fi_init 23 = .ok (.newarray .int, 2) := by decide +kernel
theorem d_Fi_init_25 : decode c_Fi_init 25 = .ok (.putfield 18, 3) := by decide +kernel
theorem d_Fi_init_28 : decode c_Fi_init 28 = .ok (.aload_n 0, 1) := by decide +kernel
theorem d_Fi_init_29 : decode c_Fi_init 29 = .ok (.bipush 8, 2) := by decide +kernel
theorem d_Fi_init_31 : decode c_Fi_init 31 = .ok (.newarray .int, 2) := by decide +kernel
theorem d_Fi_init_33 : decode c_Fi_init 33 = .ok (.putfield 21, 3) := by decide +kernel
theorem d_Fi_init_36 : decode c_Fi_init 36 = .ok (.aload_n 0, 1) := by decide +kernel
theorem d_Fi_init_37 : decode c_Fi_init 37 = .ok (.bipush 8, 2) := by decide +kernel
theorem d_Fi_init_39 : decode c_Fi_init 39 = .ok (.newarray .int, 2) := by decide +kernel
theorem d_Fi_init_41 : decode c_Fi_init 41 = .ok (.putfield 24, 3) := by decide +kernel
theorem d_Fi_init_44 : decode c_Fi_init 44 = .ok (.aload_n 0, 1) := by decide +kernel
theorem d_Fi_init_45 : decode c_Fi_init 45 = .ok (.sipush 192, 3) := by decide +kernel
theorem d_Fi_init_48 : decode c_Fi_init 48 = .ok (.newarray .int, 2) := by decide +kernel
theorem d_Fi_init_50 : decode c_Fi_init 50 = .ok (.putfield 27, 3) := by decide +kernel
theorem d_Fi_init_53 : decode c_Fi_init 53 = .ok (.aload_n 0, 1) := by decide +kernel
theorem d_Fi_init_54 : decode c_Fi_init 54 = .ok (.iconst 1, 1) := by decide +kernel
theorem d_Fi_init_55 : decode c_Fi_init 55 = .ok (.putfield 30, 3) := by decide +kernel
theorem d_Fi_init_58 : decode c_Fi_init 58 = .ok (.aload_n 0, 1) := by decide +kernel
theorem d_Fi_init_59 : decode c_Fi_init 59 = .ok (.getfield 11, 3) := by decide +kernel
theorem d_Fi_init_62 : decode c_Fi_init 62 = .ok (.iconst 0, 1) := by decide +kernel
theorem d_Fi_init_63 : decode c_Fi_init 63 = .ok (.sipush 16128, 3) := by decide +kernel
theorem d_Fi_init_66 : decode c_Fi_init 66 = .ok (.iastore, 1) := by decide +kernel
theorem d_Fi_init_67 : decode c_Fi_init 67 = .ok (.aload_n 0, 1) := by decide +kernel
theorem d_Fi_init_68 : decode c_Fi_init 68 = .ok (.getfield 15, 3) := by decide +kernel
theorem d_Fi_init_71 : decode c_Fi_init 71 = .ok (.iconst 0, 1) := by decide +kernel
theorem d_Fi_init_72 : decode c_Fi_init 72 = .ok (.iconst (-1), 1) := by decide +kernel
theorem d_Fi_init_73 : decode c_Fi_init 73 = .ok (.iastore, 1) := by decide +kernel
theorem d_Fi_init_74 : decode c_Fi_init 74 = .ok (.return_, 1) := by decide +kernel
theorem d_Co_init_0 : decode c_Co_init 0 = .ok (.aload_n 0, 1) := by decide +kernel
theorem d_Co_init_1 : decode c_Co_init 1 = .ok (.invokespecial 3, 3) := by decide +kernel
theorem d_Co_init_4 : decode c_Co_init 4 = .ok (.aload_n 0, 1) := by decide +kernel
theorem d_Co_init_5 : decode c_Co_init 5 = .ok (.bipush 40, 2) := by decide +kernel
theorem d_Co_init_7 : decode c_Co_init 7 = .ok (.newarray .int, 2) := by decide +kernel
theorem d_Co_init_9 : decode c_Co_init 9 = .ok (.putfield 11, 3) := by decide +kernel
theorem d_Co_init_12 : decode c_Co_init 12 = .ok (.return_, 1) := by decide +kernel
theorem d_An_init_0 : decode c_An_init 0 = .ok (.aload_n 0, 1) := by decide +kernel
theorem d_An_init_1 : decode c_An_init 1 = .ok (.invokespecial 1, 3) := by decide +kernel
theorem d_An_init_4 : decode c_An_init 4 = .ok (.aload_n 0, 1) := by decide +kernel
theorem d_An_init_5 : decode c_An_init 5 = .ok (.bipush 26, 2) := by decide +kernel
theorem d_An_init_7 : decode c_An_init 7 = .ok (.newarray .int, 2) := by decide +kernel
theorem d_An_init_9 : decode c_An_init 9 = .ok (.putfield 11, 3) := by decide +kernel
theorem d_An_init_12 : decode c_An_init 12 = .ok (.return_, 1) := by decide +kernel
theorem d_Ca_file_0 : decode c_Ca_file 0 = .ok (.aload_n 0, 1) := by decide +kernel
theorem d_Ca_file_1 : decode c_Ca_file 1 = .ok (.getfield 27, 3) := by decide +kernel
theorem d_Ca_file_4 : decode c_Ca_file 4 = .ok (.getfield 28, 3) := by decide +kernel
theorem d_Ca_file_7 : decode c_Ca_file 7 = .ok (.astore 6, 2) := by decide +kernel
theorem d_Ca_file_9 : decode c_Ca_file 9 = .ok (.iload_n 2, 1) := by decide +kernel
theorem d_Ca_file_10 : decode c_Ca_file 10 = .ok (.ifCond .lt 18, 3) := by decide +kernel
theorem d_Ca_file_13 : decode c_Ca_file 13 = .ok (.iload_n 2, 1) := by decide +kernel
theorem d_Ca_file_14 : decode c_Ca_file 14 = .ok (.ldc 34, 2) := by decide +kernel
theorem d_Ca_file_16 : decode c_Ca_file 16 = .ok (.if_icmp .gt 12, 3) := by decide +kernel
theorem d_Ca_file_19 : decode c_Ca_file 19 = .ok (.aload 6, 2) := by decide +kernel
theorem d_Ca_file_21 : decode c_Ca_file 21 = .ok (.iload_n 1, 1) := by decide +kernel
theorem d_Ca_file_22 : decode c_Ca_file 22 = .ok (.invokevirtual 35, 3) := by decide +kernel
theorem d_Ca_file_25 : decode c_Ca_file 25 = .ok (.ifCond .ne 5, 3) := by decide +kernel
theorem d_Ca_file_28 : decode c_Ca_file 28 = .ok (.iconst (-1), 1) := by decide +kernel
theorem d_Ca_file_29 : decode c_Ca_file 29 = .ok (.ireturn, 1) := by decide +kernel
theorem d_Ca_file_30 : decode c_Ca_file 30 = .ok (.iload_n 3, 1) := by decide +kernel
theorem d_Ca_file_31 : decode c_Ca_file 31 = .ok (.ifCond .lt 9, 3) := by decide +kernel
theorem d_Ca_file_34 : decode c_Ca_file 34 = .ok (.iload_n 3, 1) := by decide +kernel
theorem d_Ca_file_35 : decode c_Ca_file 35 = .ok (.bipush 24, 2) := by decide +kernel
theorem d_Ca_file_37 : decode c_Ca_file 37 = .ok (.if_icmp .le 5, 3) := by decide +kernel
theorem d_Ca_file_40 : decode c_Ca_file 40 = .ok (.iconst (-1), 1) := by decide +kernel
theorem d_Ca_file_41 : decode c_Ca_file 41 = .ok (.ireturn, 1) := by decide +kernel
theorem d_Ca_file_42 : decode c_Ca_file 42 = .ok (.iload_n 3, 1) := by decide +kernel
theorem d_Ca_file_43 : decode c_Ca_file 43 = .ok (.ifCond .le 21, 3) := by decide +kernel
theorem d_Ca_file_46 : decode c_Ca_file 46 = .ok (.iload 4, 2) := by decide +kernel
theorem d_Ca_file_48 : decode c_Ca_file 48 = .ok (.invokestatic 41, 3) := by decide +kernel
theorem d_Ca_file_51 : decode c_Ca_file 51 = .ok (.ifCond .eq 11, 3) := by decide +kernel
theorem d_Ca_file_54 : decode c_Ca_file 54 = .ok (.iload 5, 2) := by decide +kernel
theorem d_Ca_file_56 : decode c_Ca_file 56 = .ok (.invokestatic 41, 3) := by decide +kernel
theorem d_Ca_file_59 : decode c_Ca_file 59 = .ok (.ifCond .ne 5, 3) := by decide +kernel
theorem d_Ca_file_62 : decode c_Ca_file 62 = .ok (.iconst (-1), 1) := by decide +kernel
theorem d_Ca_file_63 : decode c_Ca_file 63 = .ok (.ireturn, 1) := by decide +kernel
theorem d_Ca_file_64 : decode c_Ca_file 64 = .ok (.aload_n 0, 1) := by decide +kernel
theorem d_Ca_file_65 : decode c_Ca_file 65 = .ok (.getfield 44, 3) := by decide +kernel
theorem d_Ca_file_68 : decode c_Ca_file 68 = .ok (.ifCond .eq 6, 3) := by decide +kernel
theorem d_Ca_file_71 : decode c_Ca_file 71 = .ok (.bipush (-3), 2) := by decide +kernel
theorem d_Ca_file_73 : decode c_Ca_file 73 = .ok (.ireturn, 1) := by decide +kernel
theorem d_Ca_file_74 : decode c_Ca_file 74 = .ok (.aload 6, 2) := by decide +kernel
theorem d_Ca_file_76 : decode c_Ca_file 76 = .ok (.iload_n 1, 1) := by decide +kernel
theorem d_Ca_file_77 : decode c_Ca_file 77 = .ok (.iload_n 2, 1) := by decide +kernel
theorem d_Ca_file_78 : decode c_Ca_file 78 = .ok (.iload_n 3, 1) := by decide +kernel
theorem d_Ca_file_79 : decode c_Ca_file 79 = .ok (.iload 4, 2) := by decide +kernel
theorem d_Ca_file_81 : decode c_Ca_file 81 = .ok (.iload 5, 2) := by decide +kernel
theorem d_Ca_file_83 : decode c_Ca_file 83 = .ok (.invokevirtual 48, 3) := by decide +kernel
theorem d_Ca_file_86 : decode c_Ca_file 86 = .ok (.ireturn, 1) := by decide +kernel
theorem d_Fi_isDirectory_0 : decode c_Fi_isDirectory 0 = .ok (.aload_n 0, 1) := by decide +kernel
theorem d_Fi_isDirectory_1 : decode c_Fi_isDirectory 1 = .ok (.iload_n 1, 1) := by decide +kernel
theorem d_Fi_isDirectory_2 : decode c_Fi_isDirectory 2 = .ok (.invokevirtual 34, 3) := by decide +kernel
theorem d_Fi_isDirectory_5 : decode c_Fi_isDirectory 5 = .ok (.ifCond .eq 16, 3) := by decide +kernel
theorem d_Fi_isDirectory_8 : decode c_Fi_isDirectory 8 = .ok (.aload_n 0, 1) := by decide +kernel
theorem d_Fi_isDirectory_9 : decode c_Fi_isDirectory 9 = .ok (.getfield 18, 3) := by decide +kernel
theorem d_Fi_isDirectory_12 : decode c_Fi_isDirectory 12 = .ok (.iload_n 1, 1) := by decide +kernel
theorem d_Fi_isDirectory_13 : decode c_Fi_isDirectory 13 = .ok (.iaload, 1) := by decide +kernel
theorem d_Fi_isDirectory_14 : decode c_Fi_isDirectory 14 = .ok (.ifCond .ne 7, 3) := by decide +kernel
theorem d_Fi_isDirectory_17 : decode c_Fi_isDirectory 17 = .ok (.iconst 1, 1) := by decide +kernel
theorem d_Fi_isDirectory_18 : decode c_Fi_isDirectory 18 = .ok (.goto 4, 3) := by decide +kernel
theorem d_Fi_isDirectory_21 : decode c_Fi_isDirectory 21 = .ok (.iconst 0, 1) := by decide +kernel
theorem d_Fi_isDirectory_22 : decode c_Fi_isDirectory 22 = .ok (.ireturn, 1) := by decide +kernel
theorem d_Fi_has_0 : decode c_Fi_has 0 = .ok (.iload_n 1, 1) := by decide +kernel
theorem d_Fi_has_1 : decode c_Fi_has 1 = .ok (.ifCond .lt 15, 3) := by decide +kernel
theorem d_Fi_has_4 : decode c_Fi_has 4 = .ok (.iload_n 1, 1) := by decide +kernel
theorem d_Fi_has_5 : decode c_Fi_has 5 = .ok (.aload_n 0, 1) := by decide +kernel
theorem d_Fi_has_6 : decode c_Fi_has 6 = .ok (.getfield 30, 3) := by decide +kernel
theorem d_Fi_has_9 : decode c_Fi_has 9 = .ok (.if_icmp .ge 7, 3) := by decide +kernel
theorem d_Fi_has_12 : decode c_Fi_has 12 = .ok (.iconst 1, 1) := by decide +kernel
theorem d_Fi_has_13 : decode c_Fi_has 13 = .ok (.goto 4, 3) := by decide +kernel
theorem d_Fi_has_16 : decode c_Fi_has 16 = .ok (.iconst 0, 1) := by decide +kernel
theorem d_Fi_has_17 : decode c_Fi_has 17 = .ok (.ireturn, 1) := by decide +kernel
theorem d_Fi_isRight_0 : decode c_Fi_isRight 0 = .ok (.iload_n 0, 1) := by decide +kernel
theorem d_Fi_isRight_1 : decode c_Fi_isRight 1 = .ok (.ifCond .lt 12, 3) := by decide +kernel
theorem d_Fi_isRight_4 : decode c_Fi_isRight 4 = .ok (.iload_n 0, 1) := by decide +kernel
theorem d_Fi_isRight_5 : decode c_Fi_isRight 5 = .ok (.iconst 2, 1) := by decide +kernel
theorem d_Fi_isRight_6 : decode c_Fi_isRight 6 = .ok (.if_icmp .gt 7, 3) := by decide +kernel
theorem d_Fi_isRight_9 : decode c_Fi_isRight 9 = .ok (.iconst 1, 1) := by decide +kernel
theorem d_Fi_isRight_10 : decode c_Fi_isRight 10 = .ok (.goto 4, 3) := by decide +kernel
theorem d_Fi_isRight_13 : decode c_Fi_isRight 13 = .ok (.iconst 0, 1) := by decide +kernel
theorem d_Fi_isRight_14 : decode c_Fi_isRight 14 = .ok (.ireturn, 1) := by decide +kernel
theorem d_Fi_add_0 : decode c_Fi_add 0 = .ok (.aload_n 0, 1) := by decide +kernel
theorem d_Fi_add_1 : decode c_Fi_add 1 = .ok (.getfield 30, 3) := by decide +kernel
theorem d_Fi_add_4 : decode c_Fi_add 4 = .ok (.bipush 8, 2) := by decide +kernel
theorem d_Fi_add_6 : decode c_Fi_add 6 = .ok (.if_icmp .lt 6, 3) := by decide +kernel
theorem d_Fi_add_9 : decode c_Fi_add 9 = .ok (.bipush (-2), 2) := by decide +kernel
theorem d_Fi_add_11 : decode c_Fi_add 11 = .ok (.ireturn, 1) := by decide +kernel
theorem d_Fi_add_12 : decode c_Fi_add 12 = .ok (.aload_n 0, 1) := by decide +kernel
theorem d_Fi_add_13 : decode c_Fi_add 13 = .ok (.getfield 11, 3) := by decide +kernel
theorem d_Fi_add_16 : decode c_Fi_add 16 = .ok (.aload_n 0, 1) := by decide +kernel
theorem d_Fi_add_17 : decode c_Fi_add 17 = .ok (.getfield 30, 3) := by decide +kernel
theorem d_Fi_add_20 : decode c_Fi_add 20 = .ok (.iload_n 2, 1) := by decide +kernel
theorem d_Fi_add_21 : decode c_Fi_add 21 = .ok (.iastore, 1) := by decide +kernel
theorem d_Fi_add_22 : decode c_Fi_add 22 = .ok (.aload_n 0, 1) := by decide +kernel
theorem d_Fi_add_23 : decode c_Fi_add 23 = .ok (.getfield 15, 3) := by decide +kernel
theorem d_Fi_add_26 : decode c_Fi_add 26 = .ok (.aload_n 0, 1) := by decide +kernel
theorem d_Fi_add_27 : decode c_Fi_add 27 = .ok (.getfield 30, 3) := by decide +kernel
theorem d_Fi_add_30 : decode c_Fi_add 30 = .ok (.iload_n 1, 1) := by decide +kernel
theorem d_Fi_add_31 : decode c_Fi_add 31 = .ok (.iastore, 1) := by decide +kernel
theorem d_Fi_add_32 : decode c_Fi_add 32 = .ok (.aload_n 0, 1) := by decide +kernel
theorem d_Fi_add_33 : decode c_Fi_add 33 = .ok (.getfield 18, 3) := by decide +kernel
theorem d_Fi_add_36 : decode c_Fi_add 36 = .ok (.aload_n 0, 1) := by decide +kernel
theorem d_Fi_add_37 : decode c_Fi_add 37 = .ok (.getfield 30, 3) := by decide +kernel
theorem d_Fi_add_40 : decode c_Fi_add 40 = .ok (.iload_n 3, 1) := by decide +kernel
theorem d_Fi_add_41 : decode c_Fi_add 41 = .ok (.iastore, 1) := by decide +kernel
theorem d_Fi_add_42 : decode c_Fi_add 42 = .ok (.aload_n 0, 1) := by decide +kernel
theorem d_Fi_add_43 : decode c_Fi_add 43 = .ok (.getfield 21, 3) := by decide +kernel
theorem d_Fi_add_46 : decode c_Fi_add 46 = .ok (.aload_n 0, 1) := by decide +kernel
theorem d_Fi_add_47 : decode c_Fi_add 47 = .ok (.getfield 30, 3) := by decide +kernel
theorem d_Fi_add_50 : decode c_Fi_add 50 = .ok (.iload_n 3, 1) := by decide +kernel
theorem d_Fi_add_51 : decode c_Fi_add 51 = .ok (.ifCond .le 8, 3) := by decide +kernel
theorem d_Fi_add_54 : decode c_Fi_add 54 = .ok (.iload 4, 2) := by decide +kernel
theorem d_Fi_add_56 : decode c_Fi_add 56 = .ok (.goto 4, 3) := by decide +kernel
theorem d_Fi_add_59 : decode c_Fi_add 59 = .ok (.iconst 0, 1) := by decide +kernel
theorem d_Fi_add_60 : decode c_Fi_add 60 = .ok (.iastore, 1) := by decide +kernel
theorem d_Fi_add_61 : decode c_Fi_add 61 = .ok (.aload_n 0, 1) := by decide +kernel
theorem d_Fi_add_62 : decode c_Fi_add 62 = .ok (.getfield 24, 3) := by decide +kernel
theorem d_Fi_add_65 : decode c_Fi_add 65 = .ok (.aload_n 0, 1) := by decide +kernel
theorem d_Fi_add_66 : decode c_Fi_add 66 = .ok (.getfield 30, 3) := by decide +kernel
theorem d_Fi_add_69 : decode c_Fi_add 69 = .ok (.iload_n 3, 1) := by decide +kernel
theorem d_Fi_add_70 : decode c_Fi_add 70 = .ok (.ifCond .le 8, 3) := by decide +kernel
theorem d_Fi_add_73 : decode c_Fi_add 73 = .ok (.iload 5, 2) := by decide +kernel
theorem d_Fi_add_75 : decode c_Fi_add 75 = .ok (.goto 4, 3) := by decide +kernel
theorem d_Fi_add_78 : decode c_Fi_add 78 = .ok (.iconst 0, 1) := by decide +kernel
theorem d_Fi_add_79 : decode c_Fi_add 79 = .ok (.iastore, 1) := by decide +kernel
theorem d_Fi_add_80 : decode c_Fi_add 80 = .ok (.aload_n 0, 1) := by decide +kernel
theorem d_Fi_add_81 : decode c_Fi_add 81 = .ok (.dup, 1) := by decide +kernel
theorem d_Fi_add_82 : decode c_Fi_add 82 = .ok (.getfield 30, 3) := by decide +kernel
theorem d_Fi_add_85 : decode c_Fi_add 85 = .ok (.dup_x1, 1) := by decide +kernel
theorem d_Fi_add_86 : decode c_Fi_add 86 = .ok (.iconst 1, 1) := by decide +kernel
theorem d_Fi_add_87 : decode c_Fi_add 87 = .ok (.iadd, 1) := by decide +kernel
theorem d_Fi_add_88 : decode c_Fi_add 88 = .ok (.putfield 30, 3) := by decide +kernel
theorem d_Fi_add_91 : decode c_Fi_add 91 = .ok (.ireturn, 1) := by decide +kernel
theorem d_Ca_tear_0 : decode c_Ca_tear 0 = .ok (.iload_n 1, 1) := by decide +kernel
theorem d_Ca_tear_1 : decode c_Ca_tear 1 = .ok (.iconst (-1), 1) := by decide +kernel
theorem d_Ca_tear_2 : decode c_Ca_tear 2 = .ok (.if_icmp .lt 10, 3) := by decide +kernel
theorem d_Ca_tear_5 : decode c_Ca_tear 5 = .ok (.iload_n 1, 1) := by decide +kernel
theorem d_Ca_tear_6 : decode c_Ca_tear 6 = .ok (.sipush 200, 3) := by decide +kernel
theorem d_Ca_tear_9 : decode c_Ca_tear 9 = .ok (.if_icmp .le 5, 3) := by decide +kernel
theorem d_Ca_tear_12 : decode c_Ca_tear 12 = .ok (.iconst (-1), 1) := by decide +kernel
theorem d_Ca_tear_13 : decode c_Ca_tear 13 = .ok (.ireturn, 1) := by decide +kernel
theorem d_Ca_tear_14 : decode c_Ca_tear 14 = .ok (.aload_n 0, 1) := by decide +kernel
theorem d_Ca_tear_15 : decode c_Ca_tear 15 = .ok (.getfield 27, 3) := by decide +kernel
theorem d_Ca_tear_18 : decode c_Ca_tear 18 = .ok (.getfield 52, 3) := by decide +kernel
theorem d_Ca_tear_21 : decode c_Ca_tear 21 = .ok (.istore_n 2, 1) := by decide +kernel
theorem d_Ca_tear_22 : decode c_Ca_tear 22 = .ok (.aload_n 0, 1) := by decide +kernel
theorem d_Ca_tear_23 : decode c_Ca_tear 23 = .ok (.getfield 27, 3) := by decide +kernel
theorem d_Ca_tear_26 : decode c_Ca_tear 26 = .ok (.iload_n 1, 1) := by decide +kernel
theorem d_Ca_tear_27 : decode c_Ca_tear 27 = .ok (.putfield 52, 3) := by decide +kernel
theorem d_Ca_tear_30 : decode c_Ca_tear 30 = .ok (.iload_n 2, 1) := by decide +kernel
theorem d_Ca_tear_31 : decode c_Ca_tear 31 = .ok (.ireturn, 1) := by decide +kernel
theorem d_Ca_on_0 : decode c_Ca_on 0 = .ok (.aload_n 0, 1) := by decide +kernel
theorem d_Ca_on_1 : decode c_Ca_on 1 = .ok (.invokevirtual 56, 3) := by decide +kernel
theorem d_Ca_on_4 : decode c_Ca_on 4 = .ok (.aload_n 0, 1) := by decide +kernel
theorem d_Ca_on_5 : decode c_Ca_on 5 = .ok (.getfield 27, 3) := by decide +kernel
theorem d_Ca_on_8 : decode c_Ca_on 8 = .ok (.getfield 59, 3) := by decide +kernel
theorem d_Ca_on_11 : decode c_Ca_on 11 = .ok (.ifCond .eq 15, 3) := by decide +kernel
theorem d_Ca_on_14 : decode c_Ca_on 14 = .ok (.aload_n 0, 1) := by decide +kernel
theorem d_Ca_on_15 : decode c_Ca_on 15 = .ok (.getfield 27, 3) := by decide +kernel
theorem d_Ca_on_18 : decode c_Ca_on 18 = .ok (.invokevirtual 62, 3) := by decide +kernel
theorem d_Ca_on_21 : decode c_Ca_on 21 = .ok (.ifCond .ne 5, 3) := by decide +kernel
theorem d_Ca_on_24 : decode c_Ca_on 24 = .ok (.iconst 0, 1) := by decide +kernel
theorem d_Ca_on_25 : decode c_Ca_on 25 = .ok (.ireturn, 1) := by decide +kernel
theorem d_Ca_on_26 : decode c_Ca_on 26 = .ok (.aload_n 0, 1) := by decide +kernel
theorem d_Ca_on_27 : decode c_Ca_on 27 = .ok (.iconst 1, 1) := by decide +kernel
theorem d_Ca_on_28 : decode c_Ca_on 28 = .ok (.putfield 44, 3) := by decide +kernel
theorem d_Ca_on_31 : decode c_Ca_on 31 = .ok (.aload_n 0, 1) := by decide +kernel
theorem d_Ca_on_32 : decode c_Ca_on 32 = .ok (.getfield 10, 3) := by decide +kernel
theorem d_Ca_on_35 : decode c_Ca_on 35 = .ok (.aload_n 0, 1) := by decide +kernel
theorem d_Ca_on_36 : decode c_Ca_on 36 = .ok (.getfield 27, 3) := by decide +kernel
theorem d_Ca_on_39 : decode c_Ca_on 39 = .ok (.getfield 66, 3) := by decide +kernel
theorem d_Ca_on_42 : decode c_Ca_on 42 = .ok (.invokevirtual 69, 3) := by decide +kernel
theorem d_Ca_on_45 : decode c_Ca_on 45 = .ok (.iconst 1, 1) := by decide +kernel
theorem d_Ca_on_46 : decode c_Ca_on 46 = .ok (.ireturn, 1) := by decide +kernel
theorem d_Ca_powerDown_0 : decode c_Ca_powerDown 0 = .ok (.aload_n 0, 1) := by decide +kernel
theorem d_Ca_powerDown_1 : decode c_Ca_powerDown 1 = .ok (.iconst 0, 1) := by decide +kernel
theorem d_Ca_powerDown_2 : decode c_Ca_powerDown 2 = .ok (.putfield 44, 3) := by decide +kernel
theorem d_Ca_powerDown_5 : decode c_Ca_powerDown 5 = .ok (.aload_n 0, 1) := by decide +kernel
theorem d_Ca_powerDown_6 : decode c_Ca_powerDown 6 = .ok (.getfield 10, 3) := by decide +kernel
theorem d_Ca_powerDown_9 : decode c_Ca_powerDown 9 = .ok (.invokevirtual 181, 3) := by decide +kernel
theorem d_Ca_powerDown_12 : decode c_Ca_powerDown 12 = .ok (.aload_n 0, 1) := by decide +kernel
theorem d_Ca_powerDown_13 : decode c_Ca_powerDown 13 = .ok (.getfield 19, 3) := by decide +kernel
theorem d_Ca_powerDown_16 : decode c_Ca_powerDown 16 = .ok (.invokevirtual 184, 3) := by decide +kernel
theorem d_Ca_powerDown_19 : decode c_Ca_powerDown 19 = .ok (.return_, 1) := by decide +kernel
theorem d_Li_reset_0 : decode c_Li_reset 0 = .ok (.aload_n 0, 1) := by decide +kernel
theorem d_Li_reset_1 : decode c_Li_reset 1 = .ok (.invokevirtual 25, 3) := by decide +kernel
theorem d_Li_reset_4 : decode c_Li_reset 4 = .ok (.aload_n 0, 1) := by decide +kernel
theorem d_Li_reset_5 : decode c_Li_reset 5 = .ok (.bipush 32, 2) := by decide +kernel
theorem d_Li_reset_7 : decode c_Li_reset 7 = .ok (.putfield 21, 3) := by decide +kernel
theorem d_Li_reset_10 : decode c_Li_reset 10 = .ok (.aload_n 0, 1) := by decide +kernel
theorem d_Li_reset_11 : decode c_Li_reset 11 = .ok (.iconst 0, 1) := by decide +kernel
theorem d_Li_reset_12 : decode c_Li_reset 12 = .ok (.putfield 28, 3) := by decide +kernel
theorem d_Li_reset_15 : decode c_Li_reset 15 = .ok (.aload_n 0, 1) := by decide +kernel
theorem d_Li_reset_16 : decode c_Li_reset 16 = .ok (.iconst 0, 1) := by decide +kernel
theorem d_Li_reset_17 : decode c_Li_reset 17 = .ok (.putfield 31, 3) := by decide +kernel
theorem d_Li_reset_20 : decode c_Li_reset 20 = .ok (.return_, 1) := by decide +kernel
theorem d_Li_resync_0 : decode c_Li_resync 0 = .ok (.aload_n 0, 1) := by decide +kernel
theorem d_Li_resync_1 : decode c_Li_resync 1 = .ok (.iconst 0, 1) := by decide +kernel
theorem d_Li_resync_2 : decode c_Li_resync 2 = .ok (.putfield 34, 3) := by decide +kernel
theorem d_Li_resync_5 : decode c_Li_resync 5 = .ok (.aload_n 0, 1) := by decide +kernel
theorem d_Li_resync_6 : decode c_Li_resync 6 = .ok (.iconst 0, 1) := by decide +kernel
theorem d_Li_resync_7 : decode c_Li_resync 7 = .ok (.putfield 37, 3) := by decide +kernel
theorem d_Li_resync_10 : decode c_Li_resync 10 = .ok (.aload_n 0, 1) := by decide +kernel
theorem d_Li_resync_11 : decode c_Li_resync 11 = .ok (.iconst 0, 1) := by decide +kernel
theorem d_Li_resync_12 : decode c_Li_resync 12 = .ok (.putfield 40, 3) := by decide +kernel
theorem d_Li_resync_15 : decode c_Li_resync 15 = .ok (.return_, 1) := by decide +kernel
theorem d_Wo_reset_0 : decode c_Wo_reset 0 = .ok (.aload_n 0, 1) := by decide +kernel
theorem d_Wo_reset_1 : decode c_Wo_reset 1 = .ok (.iconst 0, 1) := by decide +kernel
theorem d_Wo_reset_2 : decode c_Wo_reset 2 = .ok (.putfield 36, 3) := by decide +kernel
theorem d_Wo_reset_5 : decode c_Wo_reset 5 = .ok (.aload_n 0, 1) := by decide +kernel
theorem d_Wo_reset_6 : decode c_Wo_reset 6 = .ok (.iconst 0, 1) := by decide +kernel
theorem d_Wo_reset_7 : decode c_Wo_reset 7 = .ok (.putfield 40, 3) := by decide +kernel
theorem d_Wo_reset_10 : decode c_Wo_reset 10 = .ok (.aload_n 0, 1) := by decide +kernel
theorem d_Wo_reset_11 : decode c_Wo_reset 11 = .ok (.iconst (-1), 1) := by decide +kernel
theorem d_Wo_reset_12 : decode c_Wo_reset 12 = .ok (.putfield 32, 3) := by decide +kernel
theorem d_Wo_reset_15 : decode c_Wo_reset 15 = .ok (.aload_n 0, 1) := by decide +kernel
theorem d_Wo_reset_16 : decode c_Wo_reset 16 = .ok (.invokevirtual 43, 3) := by decide +kernel
theorem d_Wo_reset_19 : decode c_Wo_reset 19 = .ok (.return_, 1) := by decide +kernel
theorem d_Wo_forgetExchange_0 : decode c_Wo_forgetExchange 0 = .ok (.aload_n 0, 1) := by decide +kernel
theorem d_Wo_forgetExchange_1 : decode c_Wo_forgetExchange 1 = .ok (.getfield 21, 3) := by decide +kernel
theorem d_Wo_forgetExchange_4 : decode c_Wo_forgetExchange 4 = .ok (.invokevirtual 46, 3) := by decide +kernel
theorem d_Wo_forgetExchange_7 : decode c_Wo_forgetExchange 7 = .ok (.aload_n 0, 1) := by decide +kernel
theorem d_Wo_forgetExchange_8 : decode c_Wo_forgetExchange 8 = .ok (.getfield 28, 3) := by decide +kernel
theorem d_Wo_forgetExchange_11 : decode c_Wo_forgetExchange 11 = .ok (.invokevirtual 49, 3) := by decide +kernel
theorem d_Wo_forgetExchange_14 : decode c_Wo_forgetExchange 14 = .ok (.return_, 1) := by decide +kernel
theorem d_Co_clear_0 : decode c_Co_clear 0 = .ok (.aload_n 0, 1) := by decide +kernel
theorem d_Co_clear_1 : decode c_Co_clear 1 = .ok (.iconst 0, 1) := by decide +kernel
theorem d_Co_clear_2 : decode c_Co_clear 2 = .ok (.putfield 15, 3) := by decide +kernel
theorem d_Co_clear_5 : decode c_Co_clear 5 = .ok (.aload_n 0, 1) := by decide +kernel
theorem d_Co_clear_6 : decode c_Co_clear 6 = .ok (.iconst 0, 1) := by decide +kernel
theorem d_Co_clear_7 : decode c_Co_clear 7 = .ok (.putfield 19, 3) := by decide +kernel
theorem d_Co_clear_10 : decode c_Co_clear 10 = .ok (.return_, 1) := by decide +kernel
theorem d_An_clear_0 : decode c_An_clear 0 = .ok (.aload_n 0, 1) := by decide +kernel
theorem d_An_clear_1 : decode c_An_clear 1 = .ok (.iconst 0, 1) := by decide +kernel
theorem d_An_clear_2 : decode c_An_clear 2 = .ok (.putfield 15, 3) := by decide +kernel
theorem d_An_clear_5 : decode c_An_clear 5 = .ok (.aload_n 0, 1) := by decide +kernel
theorem d_An_clear_6 : decode c_An_clear 6 = .ok (.iconst 0, 1) := by decide +kernel
theorem d_An_clear_7 : decode c_An_clear 7 = .ok (.putfield 19, 3) := by decide +kernel
theorem d_An_clear_10 : decode c_An_clear 10 = .ok (.return_, 1) := by decide +kernel
theorem d_Me_carryOutNote_0 : decode c_Me_carryOutNote 0 = .ok (.iconst 0, 1) := by decide +kernel
theorem d_Me_carryOutNote_1 : decode c_Me_carryOutNote 1 = .ok (.istore_n 1, 1) := by decide +kernel
theorem d_Me_carryOutNote_2 : decode c_Me_carryOutNote 2 = .ok (.iload_n 1, 1) := by decide +kernel
theorem d_Me_carryOutNote_3 : decode c_Me_carryOutNote 3 = .ok (.aload_n 0, 1) := by decide +kernel
theorem d_Me_carryOutNote_4 : decode c_Me_carryOutNote 4 = .ok (.getfield 56, 3) := by decide +kernel
theorem d_Me_carryOutNote_7 : decode c_Me_carryOutNote 7 = .ok (.if_icmp .ge 41, 3) := by decide +kernel
theorem d_Me_carryOutNote_10 : decode c_Me_carryOutNote 10 = .ok (.aload_n 0, 1) := by decide +kernel
theorem d_Me_carryOutNote_11 : decode c_Me_carryOutNote 11 = .ok (.invokevirtual 46, 3) := by decide +kernel
theorem d_Me_carryOutNote_14 : decode c_Me_carryOutNote 14 = .ok (.ifCond .ne 5, 3) := by decide +kernel
theorem d_Me_carryOutNote_17 : decode c_Me_carryOutNote 17 = .ok (.iconst 0, 1) := by decide +kernel
theorem d_Me_carryOutNote_18 : decode c_Me_carryOutNote 18 = .ok (.ireturn, 1) := by decide +kernel
theorem d_Me_carryOutNote_19 : decode c_Me_carryOutNote 19 = .ok (.aload_n 0, 1) := by decide +kernel
theorem d_Me_carryOutNote_20 : decode c_Me_carryOutNote 20 = .ok (.getfield 12, 3) := by decide +kernel
theorem d_Me_carryOutNote_23 : decode c_Me_carryOutNote 23 = .ok (.aload_n 0, 1) := by decide +kernel
theorem d_Me_carryOutNote_24 : decode c_Me_carryOutNote 24 = .ok (.getfield 50, 3) := by decide +kernel
theorem d_Me_carryOutNote_27 : decode c_Me_carryOutNote 27 = .ok (.aload_n 0, 1) := by decide +kernel
theorem d_Me_carryOutNote_28 : decode c_Me_carryOutNote 28 = .ok (.getfield 53, 3) := by decide +kernel
theorem d_Me_carryOutNote_31 : decode c_Me_carryOutNote 31 = .ok (.iload_n 1, 1) := by decide +kernel
theorem d_Me_carryOutNote_32 : decode c_Me_carryOutNote 32 = .ok (.iadd, 1) := by decide +kernel
theorem d_Me_carryOutNote_33 : decode c_Me_carryOutNote 33 = .ok (.aload_n 0, 1) := by decide +kernel
theorem d_Me_carryOutNote_34 : decode c_Me_carryOutNote 34 = .ok (.getfield 18, 3) := by decide +kernel
theorem d_Me_carryOutNote_37 : decode c_Me_carryOutNote 37 = .ok (.iload_n 1, 1) := by decide +kernel
theorem d_Me_carryOutNote_38 : decode c_Me_carryOutNote 38 = .ok (.iaload, 1) := by decide +kernel
theorem d_Me_carryOutNote_39 : decode c_Me_carryOutNote 39 = .ok (.invokevirtual 67, 3) := by decide +kernel
theorem d_Me_carryOutNote_42 : decode c_Me_carryOutNote 42 = .ok (.iinc 1 1, 3) := by decide +kernel
theorem d_Me_carryOutNote_45 : decode c_Me_carryOutNote 45 = .ok (.goto (-43), 3) := by decide +kernel
theorem d_Me_carryOutNote_48 : decode c_Me_carryOutNote 48 = .ok (.aload_n 0, 1) := by decide +kernel
theorem d_Me_carryOutNote_49 : decode c_Me_carryOutNote 49 = .ok (.invokevirtual 46, 3) := by decide +kernel
theorem d_Me_carryOutNote_52 : decode c_Me_carryOutNote 52 = .ok (.ifCond .ne 5, 3) := by decide +kernel
theorem d_Me_carryOutNote_55 : decode c_Me_carryOutNote 55 = .ok (.iconst 0, 1) := by decide +kernel
theorem d_Me_carryOutNote_56 : decode c_Me_carryOutNote 56 = .ok (.ireturn, 1) := by decide +kernel
theorem d_Me_carryOutNote_57 : decode c_Me_carryOutNote 57 = .ok (.aload_n 0, 1) := by decide +kernel
theorem d_Me_carryOutNote_58 : decode c_Me_carryOutNote 58 = .ok (.iconst 0, 1) := by decide +kernel
theorem d_Me_carryOutNote_59 : decode c_Me_carryOutNote 59 = .ok (.putfield 63, 3) := by decide +kernel
theorem d_Me_carryOutNote_62 : decode c_Me_carryOutNote 62 = .ok (.iconst 1, 1) := by decide +kernel
theorem d_Me_carryOutNote_63 : decode c_Me_carryOutNote 63 = .ok (.ireturn, 1) := by decide +kernel
theorem d_Me_mayWrite_0 : decode c_Me_mayWrite 0 = .ok (.aload_n 0, 1) := by decide +kernel
theorem d_Me_mayWrite_1 : decode c_Me_mayWrite 1 = .ok (.getfield 26, 3) := by decide +kernel
theorem d_Me_mayWrite_4 : decode c_Me_mayWrite 4 = .ok (.ifCond .ne 20, 3) := by decide +kernel
theorem d_Me_mayWrite_7 : decode c_Me_mayWrite 7 = .ok (.aload_n 0, 1) := by decide +kernel
theorem d_Me_mayWrite_8 : decode c_Me_mayWrite 8 = .ok (.iconst (-1), 1) := by decide +kernel
theorem d_Me_mayWrite_9 : decode c_Me_mayWrite 9 = .ok (.putfield 26, 3) := by decide +kernel
theorem d_Me_mayWrite_12 : decode c_Me_mayWrite 12 = .ok (.aload_n 0, 1) := by decide +kernel
theorem d_Me_mayWrite_13 : decode c_Me_mayWrite 13 = .ok (.dup, 1) := by decide +kernel
theorem d_Me_mayWrite_14 : decode c_Me_mayWrite 14 = .ok (.getfield 29, 3) := by decide +kernel
theorem d_Me_mayWrite_17 : decode c_Me_mayWrite 17 = .ok (.iconst 1, 1) := by decide +kernel
theorem d_Me_mayWrite_18 : decode c_Me_mayWrite 18 = .ok (.iadd, 1) := by decide +kernel
theorem d_Me_mayWrite_19 : decode c_Me_mayWrite 19 = .ok (.putfield 29, 3) := by decide +kernel
theorem d_Me_mayWrite_22 : decode c_Me_mayWrite 22 = .ok (.iconst 0, 1) := by decide +kernel
theorem d_Me_mayWrite_23 : decode c_Me_mayWrite 23 = .ok (.ireturn, 1) := by decide +kernel
theorem d_Me_mayWrite_24 : decode c_Me_mayWrite 24 = .ok (.aload_n 0, 1) := by decide +kernel
theorem d_Me_mayWrite_25 : decode c_Me_mayWrite 25 = .ok (.getfield 26, 3) := by decide +kernel
theorem d_Me_mayWrite_28 : decode c_Me_mayWrite 28 = .ok (.ifCond .le 13, 3) := by decide +kernel
theorem d_Me_mayWrite_31 : decode c_Me_mayWrite 31 = .ok (.aload_n 0, 1) := by decide +kernel
theorem d_Me_mayWrite_32 : decode c_Me_mayWrite 32 = .ok (.dup, 1) := by decide +kernel
theorem d_Me_mayWrite_33 : decode c_Me_mayWrite 33 = .ok (.getfield 26, 3) := by decide +kernel
theorem d_Me_mayWrite_36 : decode c_Me_mayWrite 36 = .ok (.iconst 1, 1) := by decide +kernel
theorem d_Me_mayWrite_37 : decode c_Me_mayWrite 37 = .ok (.isub, 1) := by decide +kernel
theorem d_Me_mayWrite_38 : decode c_Me_mayWrite 38 = .ok (.putfield 26, 3) := by decide +kernel
theorem d_Me_mayWrite_41 : decode c_Me_mayWrite 41 = .ok (.aload_n 0, 1) := by decide +kernel
theorem d_Me_mayWrite_42 : decode c_Me_mayWrite 42 = .ok (.dup, 1) := by decide +kernel
theorem d_Me_mayWrite_43 : decode c_Me_mayWrite 43 = .ok (.getfield 32, 3) := by decide +kernel
theorem d_Me_mayWrite_46 : decode c_Me_mayWrite 46 = .ok (.iconst 1, 1) := by decide +kernel
theorem d_Me_mayWrite_47 : decode c_Me_mayWrite 47 = .ok (.iadd, 1) := by decide +kernel
theorem d_Me_mayWrite_48 : decode c_Me_mayWrite 48 = .ok (.putfield 32, 3) := by decide +kernel
theorem d_Me_mayWrite_51 : decode c_Me_mayWrite 51 = .ok (.iconst 1, 1) := by decide +kernel
theorem d_Me_mayWrite_52 : decode c_Me_mayWrite 52 = .ok (.ireturn, 1) := by decide +kernel
theorem d_Fi_put_0 : decode c_Fi_put 0 = .ok (.iload_n 1, 1) := by decide +kernel
theorem d_Fi_put_1 : decode c_Fi_put 1 = .ok (.bipush 24, 2) := by decide +kernel
theorem d_Fi_put_3 : decode c_Fi_put 3 = .ok (.imul, 1) := by decide +kernel
theorem d_Fi_put_4 : decode c_Fi_put 4 = .ok (.iload_n 2, 1) := by decide +kernel
theorem d_Fi_put_5 : decode c_Fi_put 5 = .ok (.iadd, 1) := by decide +kernel
theorem d_Fi_put_6 : decode c_Fi_put 6 = .ok (.istore 4, 2) := by decide +kernel
theorem d_Fi_put_8 : decode c_Fi_put 8 = .ok (.iload 4, 2) := by decide +kernel
theorem d_Fi_put_10 : decode c_Fi_put 10 = .ok (.ifCond .lt 21, 3) := by decide +kernel
theorem d_Fi_put_13 : decode c_Fi_put 13 = .ok (.iload 4, 2) := by decide +kernel
theorem d_Fi_put_15 : decode c_Fi_put 15 = .ok (.aload_n 0, 1) := by decide +kernel
theorem d_Fi_put_16 : decode c_Fi_put 16 = .ok (.getfield 27, 3) := by decide +kernel
theorem d_Fi_put_19 : decode c_Fi_put 19 = .ok (.arraylength, 1) := by decide +kernel
theorem d_Fi_put_20 : decode c_Fi_put 20 = .ok (.if_icmp .ge 11, 3) := by decide +kernel
theorem d_Fi_put_23 : decode c_Fi_put 23 = .ok (.aload_n 0, 1) := by decide +kernel
theorem d_Fi_put_24 : decode c_Fi_put 24 = .ok (.getfield 27, 3) := by decide +kernel
theorem d_Fi_put_27 : decode c_Fi_put 27 = .ok (.iload 4, 2) := by decide +kernel
theorem d_Fi_put_29 : decode c_Fi_put 29 = .ok (.iload_n 3, 1) := by decide +kernel
theorem d_Fi_put_30 : decode c_Fi_put 30 = .ok (.iastore, 1) := by decide +kernel
theorem d_Fi_put_31 : decode c_Fi_put 31 = .ok (.return_, 1) := by decide +kernel
theorem d_Li_sendGreeting_0 : decode c_Li_sendGreeting 0 = .ok (.aload_n 0, 1) := by decide +kernel
theorem d_Li_sendGreeting_1 : decode c_Li_sendGreeting 1 = .ok (.getfield 15, 3) := by decide +kernel
theorem d_Li_sendGreeting_4 : decode c_Li_sendGreeting 4 = .ok (.iconst 0, 1) := by decide +kernel
theorem d_Li_sendGreeting_5 : decode c_Li_sendGreeting 5 = .ok (.bipush 59, 2) := by decide +kernel
theorem d_Li_sendGreeting_7 : decode c_Li_sendGreeting 7 = .ok (.iastore, 1) := by decide +kernel
theorem d_Li_sendGreeting_8 : decode c_Li_sendGreeting 8 = .ok (.aload_n 0, 1) := by decide +kernel
theorem d_Li_sendGreeting_9 : decode c_Li_sendGreeting 9 = .ok (.getfield 15, 3) := by decide +kernel
theorem d_Li_sendGreeting_12 : decode c_Li_sendGreeting 12 = .ok (.iconst 1, 1) := by decide +kernel
theorem d_Li_sendGreeting_13 : decode c_Li_sendGreeting 13 = .ok (.iconst 1, 1) := by decide +kernel
theorem d_Li_sendGreeting_14 : decode c_Li_sendGreeting 14 = .ok (.iastore, 1) := by decide +kernel
theorem d_Li_sendGreeting_15 : decode c_Li_sendGreeting 15 = .ok (.aload_n 0, 1) := by decide +kernel
theorem d_Li_sendGreeting_16 : decode c_Li_sendGreeting 16 = .ok (.getfield 15, 3) := by decide +kernel
theorem d_Li_sendGreeting_19 : decode c_Li_sendGreeting 19 = .ok (.iconst 2, 1) := by decide +kernel
theorem d_Li_sendGreeting_20 : decode c_Li_sendGreeting 20 = .ok (.iload_n 1, 1) := by decide +kernel
theorem d_Li_sendGreeting_21 : decode c_Li_sendGreeting 21 = .ok (.iastore, 1) := by decide +kernel
theorem d_Li_sendGreeting_22 : decode c_Li_sendGreeting 22 = .ok (.aload_n 0, 1) := by decide +kernel
theorem d_Li_sendGreeting_23 : decode c_Li_sendGreeting 23 = .ok (.getfield 15, 3) := by decide +kernel
theorem d_Li_sendGreeting_26 : decode c_Li_sendGreeting 26 = .ok (.iconst 3, 1) := by decide +kernel
theorem d_Li_sendGreeting_27 : decode c_Li_sendGreeting 27 = .ok (.bipush 32, 2) := by decide +kernel
theorem d_Li_sendGreeting_29 : decode c_Li_sendGreeting 29 = .ok (.iastore, 1) := by decide +kernel
theorem d_Li_sendGreeting_30 : decode c_Li_sendGreeting 30 = .ok (.aload_n 0, 1) := by decide +kernel
theorem d_Li_sendGreeting_31 : decode c_Li_sendGreeting 31 = .ok (.iconst 4, 1) := by decide +kernel
theorem d_Li_sendGreeting_32 : decode c_Li_sendGreeting 32 = .ok (.putfield 31, 3) := by decide +kernel
theorem d_Li_sendGreeting_35 : decode c_Li_sendGreeting 35 = .ok (.return_, 1) := by decide +kernel
theorem d_Ca_off_0 : decode c_Ca_off 0 = .ok (.aload_n 0, 1) := by decide +kernel
theorem d_Ca_off_1 : decode c_Ca_off 1 = .ok (.getfield 44, 3) := by decide +kernel
theorem d_Ca_off_4 : decode c_Ca_off 4 = .ok (.ifCond .eq 7, 3) := by decide +kernel
theorem d_Ca_off_7 : decode c_Ca_off 7 = .ok (.iconst 1, 1) := by decide +kernel
theorem d_Ca_off_8 : decode c_Ca_off 8 = .ok (.goto 4, 3) := by decide +kernel
theorem d_Ca_off_11 : decode c_Ca_off 11 = .ok (.iconst 0, 1) := by decide +kernel
theorem d_Ca_off_12 : decode c_Ca_off 12 = .ok (.istore_n 1, 1) := by decide +kernel
theorem d_Ca_off_13 : decode c_Ca_off 13 = .ok (.aload_n 0, 1) := by decide +kernel
theorem d_Ca_off_14 : decode c_Ca_off 14 = .ok (.invokevirtual 56, 3) := by decide +kernel
theorem d_Ca_off_17 : decode c_Ca_off 17 = .ok (.iload_n 1, 1) := by decide +kernel
theorem d_Ca_off_18 : decode c_Ca_off 18 = .ok (.ireturn, 1) := by decide +kernel
theorem d_Ca_feed_0 : decode c_Ca_feed 0 = .ok (.iload_n 3, 1) := by decide +kernel
theorem d_Ca_feed_1 : decode c_Ca_feed 1 = .ok (.iconst 1, 1) := by decide +kernel
theorem d_Ca_feed_2 : decode c_Ca_feed 2 = .ok (.if_icmp .lt 9, 3) := by decide +kernel
theorem d_Ca_feed_5 : decode c_Ca_feed 5 = .ok (.iload_n 3, 1) := by decide +kernel
theorem d_Ca_feed_6 : decode c_Ca_feed 6 = .ok (.bipush 8, 2) := by decide +kernel
theorem d_Ca_feed_8 : decode c_Ca_feed 8 = .ok (.if_icmp .le 5, 3) := by decide +kernel
theorem d_Ca_feed_11 : decode c_Ca_feed 11 = .ok (.iconst (-1), 1) := by decide +kernel
theorem d_Ca_feed_12 : decode c_Ca_feed 12 = .ok (.ireturn, 1) := by decide +kernel
theorem d_Ca_feed_13 : decode c_Ca_feed 13 = .ok (.aload_n 0, 1) := by decide +kernel
theorem d_Ca_feed_14 : decode c_Ca_feed 14 = .ok (.getfield 44, 3) := by decide +kernel
theorem d_Ca_feed_17 : decode c_Ca_feed 17 = .ok (.ifCond .ne 6, 3) := by decide +kernel
theorem d_Ca_feed_20 : decode c_Ca_feed 20 = .ok (.bipush (-3), 2) := by decide +kernel
theorem d_Ca_feed_22 : decode c_Ca_feed 22 = .ok (.ireturn, 1) := by decide +kernel
theorem d_Ca_feed_23 : decode c_Ca_feed 23 = .ok (.iconst 0, 1) := by decide +kernel
theorem d_Ca_feed_24 : decode c_Ca_feed 24 = .ok (.istore 4, 2) := by decide +kernel
theorem d_Ca_feed_26 : decode c_Ca_feed 26 = .ok (.iload 4, 2) := by decide +kernel
theorem d_Ca_feed_28 : decode c_Ca_feed 28 = .ok (.iload_n 3, 1) := by decide +kernel
theorem d_Ca_feed_29 : decode c_Ca_feed 29 = .ok (.if_icmp .ge 43, 3) := by decide +kernel
theorem d_Ca_feed_32 : decode c_Ca_feed 32 = .ok (.aload_n 0, 1) := by decide +kernel
theorem d_Ca_feed_33 : decode c_Ca_feed 33 = .ok (.getfield 44, 3) := by decide +kernel
theorem d_Ca_feed_36 : decode c_Ca_feed 36 = .ok (.ifCond .eq 36, 3) := by decide +kernel
theorem d_Ca_feed_39 : decode c_Ca_feed 39 = .ok (.aload_n 0, 1) := by decide +kernel
theorem d_Ca_feed_40 : decode c_Ca_feed 40 = .ok (.getfield 10, 3) := by decide +kernel
theorem d_Ca_feed_43 : decode c_Ca_feed 43 = .ok (.lload_n 1, 1) := by decide +kernel
theorem d_Ca_feed_44 : decode c_Ca_feed 44 = .ok (.iload 4, 2) := by decide +kernel
theorem d_Ca_feed_46 : decode c_Ca_feed 46 = .ok (.invokestatic 73, 3) := by decide +kernel
theorem d_Ca_feed_49 : decode c_Ca_feed 49 = .ok (.invokevirtual 77, 3) := by decide +kernel
theorem d_Ca_feed_52 : decode c_Ca_feed 52 = .ok (.aload_n 0, 1) := by decide +kernel
theorem d_Ca_feed_53 : decode c_Ca_feed 53 = .ok (.getfield 10, 3) := by decide +kernel
theorem d_Ca_feed_56 : decode c_Ca_feed 56 = .ok (.invokevirtual 80, 3) := by decide +kernel
theorem d_Ca_feed_59 : decode c_Ca_feed 59 = .ok (.ifCond .eq 7, 3) := by decide +kernel
theorem d_Ca_feed_62 : decode c_Ca_feed 62 = .ok (.aload_n 0, 1) := by decide +kernel
theorem d_Ca_feed_63 : decode c_Ca_feed 63 = .ok (.invokevirtual 83, 3) := by decide +kernel
theorem d_Ca_feed_66 : decode c_Ca_feed 66 = .ok (.iinc 4 1, 3) := by decide +kernel
theorem d_Ca_feed_69 : decode c_Ca_feed 69 = .ok (.goto (-43), 3) := by decide +kernel
theorem d_Ca_feed_72 : decode c_Ca_feed 72 = .ok (.aload_n 0, 1) := by decide +kernel
theorem d_Ca_feed_73 : decode c_Ca_feed 73 = .ok (.getfield 10, 3) := by decide +kernel
theorem d_Ca_feed_76 : decode c_Ca_feed 76 = .ok (.getfield 86, 3) := by decide +kernel
theorem d_Ca_feed_79 : decode c_Ca_feed 79 = .ok (.ireturn, 1) := by decide +kernel
theorem d_Ca_octetOf_0 : decode c_Ca_octetOf 0 = .ok (.lload_n 0, 1) := by decide +kernel
theorem d_Ca_octetOf_1 : decode c_Ca_octetOf 1 = .ok (.bipush 8, 2) := by decide +kernel
theorem d_Ca_octetOf_3 : decode c_Ca_octetOf 3 = .ok (.iload_n 2, 1) := by decide +kernel
theorem d_Ca_octetOf_4 : decode c_Ca_octetOf 4 = .ok (.imul, 1) := by decide +kernel
theorem d_Ca_octetOf_5 : decode c_Ca_octetOf 5 = .ok (.lushr, 1) := by decide +kernel
theorem d_Ca_octetOf_6 : decode c_Ca_octetOf 6 = .ok (.l2i, 1) := by decide +kernel
theorem d_Ca_octetOf_7 : decode c_Ca_octetOf 7 = .ok (.sipush 255, 3) := by decide +kernel
theorem d_Ca_octetOf_10 : decode c_Ca_octetOf 10 = .ok (.iand, 1) := by decide +kernel
theorem d_Ca_octetOf_11 : decode c_Ca_octetOf 11 = .ok (.ireturn, 1) := by decide +kernel
theorem d_Li_take_0 : decode c_Li_take 0 = .ok (.aload_n 0, 1) := by decide +kernel
theorem d_Li_take_1 : decode c_Li_take 1 = .ok (.getfield 28, 3) := by decide +kernel
theorem d_Li_take_4 : decode c_Li_take 4 = .ok (.bipush 36, 2) := by decide +kernel
theorem d_Li_take_6 : decode c_Li_take 6 = .ok (.if_icmp .ge 20, 3) := by decide +kernel
theorem d_Li_take_9 : decode c_Li_take 9 = .ok (.aload_n 0, 1) := by decide +kernel
theorem d_Li_take_10 : decode c_Li_take 10 = .ok (.getfield 11, 3) := by decide +kernel
theorem d_Li_take_13 : decode c_Li_take 13 = .ok (.aload_n 0, 1) := by decide +kernel
theorem d_Li_take_14 : decode c_Li_take 14 = .ok (.dup, 1) := by decide +kernel
theorem d_Li_take_15 : decode c_Li_take 15 = .ok (.getfield 28, 3) := by decide +kernel
theorem d_Li_take_18 : decode c_Li_take 18 = .ok (.dup_x1, 1) := by decide +kernel
theorem d_Li_take_19 : decode c_Li_take 19 = .ok (.iconst 1, 1) := by decide +kernel
theorem d_Li_take_20 : decode c_Li_take 20 = .ok (.iadd, 1) := by decide +kernel
theorem d_Li_take_21 : decode c_Li_take 21 = .ok (.putfield 28, 3) := by decide +kernel
theorem d_Li_take_24 : decode c_Li_take 24 = .ok (.iload_n 1, 1) := by decide +kernel
theorem d_Li_take_25 : decode c_Li_take 25 = .ok (.iastore, 1) := by decide +kernel
theorem d_Li_take_26 : decode c_Li_take 26 = .ok (.return_, 1) := by decide +kernel
theorem d_Li_isWhole_0 : decode c_Li_isWhole 0 = .ok (.aload_n 0, 1) := by decide +kernel
theorem d_Li_isWhole_1 : decode c_Li_isWhole 1 = .ok (.getfield 28, 3) := by decide +kernel
theorem d_Li_isWhole_4 : decode c_Li_isWhole 4 = .ok (.iconst 3, 1) := by decide +kernel
theorem d_Li_isWhole_5 : decode c_Li_isWhole 5 = .ok (.if_icmp .lt 29, 3) := by decide +kernel
theorem d_Li_isWhole_8 : decode c_Li_isWhole 8 = .ok (.aload_n 0, 1) := by decide +kernel
theorem d_Li_isWhole_9 : decode c_Li_isWhole 9 = .ok (.invokevirtual 43, 3) := by decide +kernel
theorem d_Li_isWhole_12 : decode c_Li_isWhole 12 = .ok (.ifCond .ne 18, 3) := by decide +kernel
theorem d_Li_isWhole_15 : decode c_Li_isWhole 15 = .ok (.aload_n 0, 1) := by decide +kernel
theorem d_Li_isWhole_16 : decode c_Li_isWhole 16 = .ok (.getfield 28, 3) := by decide +kernel
theorem d_Li_isWhole_19 : decode c_Li_isWhole 19 = .ok (.iconst 3, 1) := by decide +kernel
theorem d_Li_isWhole_20 : decode c_Li_isWhole 20 = .ok (.aload_n 0, 1) := by decide +kernel
theorem d_Li_isWhole_21 : decode c_Li_isWhole 21 = .ok (.invokevirtual 47, 3) := by decide +kernel
theorem d_Li_isWhole_24 : decode c_Li_isWhole 24 = .ok (.iadd, 1) := by decide +kernel
theorem d_Li_isWhole_25 : decode c_Li_isWhole 25 = .ok (.iconst 1, 1) := by decide +kernel
theorem d_Li_isWhole_26 : decode c_Li_isWhole 26 = .ok (.iadd, 1) := by decide +kernel
theorem d_Li_isWhole_27 : decode c_Li_isWhole 27 = .ok (.if_icmp .ne 7, 3) := by decide +kernel
theorem d_Li_isWhole_30 : decode c_Li_isWhole 30 = .ok (.iconst 1, 1) := by decide +kernel
theorem d_Li_isWhole_31 : decode c_Li_isWhole 31 = .ok (.goto 4, 3) := by decide +kernel
theorem d_Li_isWhole_34 : decode c_Li_isWhole 34 = .ok (.iconst 0, 1) := by decide +kernel
theorem d_Li_isWhole_35 : decode c_Li_isWhole 35 = .ok (.ireturn, 1) := by decide +kernel
theorem d_Li_isTooLong_0 : decode c_Li_isTooLong 0 = .ok (.aload_n 0, 1) := by decide +kernel
theorem d_Li_isTooLong_1 : decode c_Li_isTooLong 1 = .ok (.getfield 11, 3) := by decide +kernel
theorem d_Li_isTooLong_4 : decode c_Li_isTooLong 4 = .ok (.iconst 2, 1) := by decide +kernel
theorem d_Li_isTooLong_5 : decode c_Li_isTooLong 5 = .ok (.iaload, 1) := by decide +kernel
theorem d_Li_isTooLong_6 : decode c_Li_isTooLong 6 = .ok (.bipush 32, 2) := by decide +kernel
theorem d_Li_isTooLong_8 : decode c_Li_isTooLong 8 = .ok (.if_icmp .le 7, 3) := by decide +kernel
theorem d_Li_isTooLong_11 : decode c_Li_isTooLong 11 = .ok (.iconst 1, 1) := by decide +kernel
theorem d_Li_isTooLong_12 : decode c_Li_isTooLong 12 = .ok (.goto 4, 3) := by decide +kernel
theorem d_Li_isTooLong_15 : decode c_Li_isTooLong 15 = .ok (.iconst 0, 1) := by decide +kernel
theorem d_Li_isTooLong_16 : decode c_Li_isTooLong 16 = .ok (.ireturn, 1) := by decide +kernel
theorem d_Li_infLength_0 : decode c_Li_infLength 0 = .ok (.aload_n 0, 1) := by decide +kernel
theorem d_Li_infLength_1 : decode c_Li_infLength 1 = .ok (.getfield 11, 3) := by decide +kernel
theorem d_Li_infLength_4 : decode c_Li_infLength 4 = .ok (.iconst 2, 1) := by decide +kernel
theorem d_Li_infLength_5 : decode c_Li_infLength 5 = .ok (.iaload, 1) := by decide +kernel
theorem d_Li_infLength_6 : decode c_Li_infLength 6 = .ok (.ireturn, 1) := by decide +kernel
theorem d_Ca_answerBlock_0 : decode c_Ca_answerBlock 0 = .ok (.aload_n 0, 1) := by decide +kernel
theorem d_Ca_answerBlock_1 : decode c_Ca_answerBlock 1 = .ok (.getfield 10, 3) := by decide +kernel
theorem d_Ca_answerBlock_4 : decode c_Ca_answerBlock 4 = .ok (.invokevirtual 185, 3) := by decide +kernel
theorem d_Ca_answerBlock_7 : decode c_Ca_answerBlock 7 = .ok (.istore_n 1, 1) := by decide +kernel
theorem d_Ca_answerBlock_8 : decode c_Ca_answerBlock 8 = .ok (.iload_n 1, 1) := by decide +kernel
theorem d_Ca_answerBlock_9 : decode c_Ca_answerBlock 9 = .ok (.ifCond .ne 177, 3) := by decide +kernel
theorem d_Ca_answerBlock_12 : decode c_Ca_answerBlock 12 = .ok (.aload_n 0, 1) := by decide +kernel
theorem d_Ca_answerBlock_13 : decode c_Ca_answerBlock 13 = .ok (.getfield 10, 3) := by decide +kernel
theorem d_Ca_answerBlock_16 : decode c_Ca_answerBlock 16 = .ok (.invokevirtual 188, 3) := by decide +kernel
theorem d_Ca_answerBlock_19 : decode c_Ca_answerBlock 19 = .ok (.istore_n 2, 1) := by decide +kernel
theorem d_Ca_answerBlock_20 : decode c_Ca_answerBlock 20 = .ok (.iload_n 2, 1) := by decide +kernel
theorem d_Ca_answerBlock_21 : decode c_Ca_answerBlock 21 = .ok (.lookupswitch 163 #[(0, 115), (32, 115), (64, 115), (96, 115), (128, 141), (129, 141), (130, 141), (144, 141), (145, 141), (146, 141), (192, 154), (193, 154), (194, 154)], 115) := by decide +kernel
theorem d_Ca_answerBlock_136 : decode c_Ca_answerBlock 136 = .ok (.aload_n 0, 1) := by decide +kernel
theorem d_Ca_answerBlock_137 : decode c_Ca_answerBlock 137 = .ok (.iload_n 2, 1) := by decide +kernel
theorem d_Ca_answerBlock_138 : decode c_Ca_answerBlock 138 = .ok (.bipush 6, 2) := by decide +kernel
theorem d_Ca_answerBlock_140 : decode c_Ca_answerBlock 140 = .ok (.ishr, 1) := by decide +kernel
theorem d_Ca_answerBlock_141 : decode c_Ca_answerBlock 141 = .ok (.iconst 1, 1) := by decide +kernel
theorem d_Ca_answerBlock_142 : decode c_Ca_answerBlock 142 = .ok (.iand, 1) := by decide +kernel
theorem d_Ca_answerBlock_143 : decode c_Ca_answerBlock 143 = .ok (.iload_n 2, 1) := by decide +kernel
theorem d_Ca_answerBlock_144 : decode c_Ca_answerBlock 144 = .ok (.bipush 32, 2) := by decide +kernel
theorem d_Ca_answerBlock_146 : decode c_Ca_answerBlock 146 = .ok (.iand, 1) := by decide +kernel
theorem d_Ca_answerBlock_147 : decode c_Ca_answerBlock 147 = .ok (.ifCond .eq 7, 3) := by decide +kernel
theorem d_Ca_answerBlock_150 : decode c_Ca_answerBlock 150 = .ok (.iconst 1, 1) := by decide +kernel
theorem d_Ca_answerBlock_151 : decode c_Ca_answerBlock 151 = .ok (.goto 4, 3) := by decide +kernel
theorem d_Ca_answerBlock_154 : decode c_Ca_answerBlock 154 = .ok (.iconst 0, 1) := by decide +kernel
theorem d_Ca_answerBlock_155 : decode c_Ca_answerBlock 155 = .ok (.invokevirtual 191, 3) := by decide +kernel
theorem d_Ca_answerBlock_158 : decode c_Ca_answerBlock 158 = .ok (.istore_n 1, 1) := by decide +kernel
theorem d_Ca_answerBlock_159 : decode c_Ca_answerBlock 159 = .ok (.goto 27, 3) := by decide +kernel
theorem d_Ca_answerBlock_162 : decode c_Ca_answerBlock 162 = .ok (.aload_n 0, 1) := by decide +kernel
theorem d_Ca_answerBlock_163 : decode c_Ca_answerBlock 163 = .ok (.iload_n 2, 1) := by decide +kernel
theorem d_Ca_answerBlock_164 : decode c_Ca_answerBlock 164 = .ok (.iconst 4, 1) := by decide +kernel
theorem d_Ca_answerBlock_165 : decode c_Ca_answerBlock 165 = .ok (.ishr, 1) := by decide +kernel
theorem d_Ca_answerBlock_166 : decode c_Ca_answerBlock 166 = .ok (.iconst 1, 1) := by decide +kernel
theorem d_Ca_answerBlock_167 : decode c_Ca_answerBlock 167 = .ok (.iand, 1) := by decide +kernel
theorem d_Ca_answerBlock_168 : decode c_Ca_answerBlock 168 = .ok (.invokevirtual 195, 3) := by decide +kernel
theorem d_Ca_answerBlock_171 : decode c_Ca_answerBlock 171 = .ok (.istore_n 1, 1) := by decide +kernel
theorem d_Ca_answerBlock_172 : decode c_Ca_answerBlock 172 = .ok (.goto 14, 3) := by decide +kernel
theorem d_Ca_answerBlock_175 : decode c_Ca_answerBlock 175 = .ok (.aload_n 0, 1) := by decide +kernel
theorem d_Ca_answerBlock_176 : decode c_Ca_answerBlock 176 = .ok (.iload_n 2, 1) := by decide +kernel
theorem d_Ca_answerBlock_177 : decode c_Ca_answerBlock 177 = .ok (.invokevirtual 198, 3) := by decide +kernel
theorem d_Ca_answerBlock_180 : decode c_Ca_answerBlock 180 = .ok (.istore_n 1, 1) := by decide +kernel
theorem d_Ca_answerBlock_181 : decode c_Ca_answerBlock 181 = .ok (.goto 5, 3) := by decide +kernel
theorem d_Ca_answerBlock_184 : decode c_Ca_answerBlock 184 = .ok (.iconst 2, 1) := by decide +kernel
theorem d_Ca_answerBlock_185 : decode c_Ca_answerBlock 185 = .ok (.istore_n 1, 1) := by decide +kernel
theorem d_Ca_answerBlock_186 : decode c_Ca_answerBlock 186 = .ok (.iload_n 1, 1) := by decide +kernel
theorem d_Ca_answerBlock_187 : decode c_Ca_answerBlock 187 = .ok (.ifCond .eq 11, 3) := by decide +kernel
theorem d_Ca_answerBlock_190 : decode c_Ca_answerBlock 190 = .ok (.aload_n 0, 1) := by decide +kernel
theorem d_Ca_answerBlock_191 : decode c_Ca_answerBlock 191 = .ok (.getfield 10, 3) := by decide +kernel
theorem d_Ca_answerBlock_194 : decode c_Ca_answerBlock 194 = .ok (.iload_n 1, 1) := by decide +kernel
theorem d_Ca_answerBlock_195 : decode c_Ca_answerBlock 195 = .ok (.invokevirtual 201, 3) := by decide +kernel
theorem d_Ca_answerBlock_198 : decode c_Ca_answerBlock 198 = .ok (.aload_n 0, 1) := by decide +kernel
theorem d_Ca_answerBlock_199 : decode c_Ca_answerBlock 199 = .ok (.getfield 10, 3) := by decide +kernel
theorem d_Ca_answerBlock_202 : decode c_Ca_answerBlock 202 = .ok (.iconst 0, 1) := by decide +kernel
theorem d_Ca_answerBlock_203 : decode c_Ca_answerBlock 203 = .ok (.putfield 86, 3) := by decide +kernel
theorem d_Ca_answerBlock_206 : decode c_Ca_answerBlock 206 = .ok (.return_, 1) := by decide +kernel
theorem d_Li_wrong_0 : decode c_Li_wrong 0 = .ok (.aload_n 0, 1) := by decide +kernel
theorem d_Li_wrong_1 : decode c_Li_wrong 1 = .ok (.invokevirtual 43, 3) := by decide +kernel
theorem d_Li_wrong_4 : decode c_Li_wrong 4 = .ok (.ifCond .eq 5, 3) := by decide +kernel
theorem d_Li_wrong_7 : decode c_Li_wrong 7 = .ok (.iconst 2, 1) := by decide +kernel
theorem d_Li_wrong_8 : decode c_Li_wrong 8 = .ok (.ireturn, 1) := by decide +kernel
theorem d_Li_wrong_9 : decode c_Li_wrong 9 = .ok (.aload_n 0, 1) := by decide +kernel
theorem d_Li_wrong_10 : decode c_Li_wrong 10 = .ok (.invokevirtual 51, 3) := by decide +kernel
theorem d_Li_wrong_13 : decode c_Li_wrong 13 = .ok (.ifCond .eq 5, 3) := by decide +kernel
theorem d_Li_wrong_16 : decode c_Li_wrong 16 = .ok (.iconst 1, 1) := by decide +kernel
theorem d_Li_wrong_17 : decode c_Li_wrong 17 = .ok (.ireturn, 1) := by decide +kernel
theorem d_Li_wrong_18 : decode c_Li_wrong 18 = .ok (.aload_n 0, 1) := by decide +kernel
theorem d_Li_wrong_19 : decode c_Li_wrong 19 = .ok (.getfield 11, 3) := by decide +kernel
theorem d_Li_wrong_22 : decode c_Li_wrong 22 = .ok (.iconst 0, 1) := by decide +kernel
theorem d_Li_wrong_23 : decode c_Li_wrong 23 = .ok (.iaload, 1) := by decide +kernel
theorem d_Li_wrong_24 : decode c_Li_wrong 24 = .ok (.ifCond .ne 7, 3) := by decide +kernel
theorem d_Li_wrong_27 : decode c_Li_wrong 27 = .ok (.iconst 0, 1) := by decide +kernel
theorem d_Li_wrong_28 : decode c_Li_wrong 28 = .ok (.goto 4, 3) := by decide +kernel
theorem d_Li_wrong_31 : decode c_Li_wrong 31 = .ok (.iconst 2, 1) := by decide +kernel
theorem d_Li_wrong_32 : decode c_Li_wrong 32 = .ok (.ireturn, 1) := by decide +kernel
theorem d_Li_sumOfArrived_0 : decode c_Li_sumOfArrived 0 = .ok (.aload_n 0, 1) := by decide +kernel
theorem d_Li_sumOfArrived_1 : decode c_Li_sumOfArrived 1 = .ok (.getfield 11, 3) := by decide +kernel
theorem d_Li_sumOfArrived_4 : decode c_Li_sumOfArrived 4 = .ok (.aload_n 0, 1) := by decide +kernel
theorem d_Li_sumOfArrived_5 : decode c_Li_sumOfArrived 5 = .ok (.getfield 28, 3) := by decide +kernel
theorem d_Li_sumOfArrived_8 : decode c_Li_sumOfArrived 8 = .ok (.invokestatic 54, 3) := by decide +kernel
theorem d_Li_sumOfArrived_11 : decode c_Li_sumOfArrived 11 = .ok (.ireturn, 1) := by decide +kernel
theorem d_Li_sum_0 : decode c_Li_sum 0 = .ok (.iconst 0, 1) := by decide +kernel
theorem d_Li_sum_1 : decode c_Li_sum 1 = .ok (.istore_n 2, 1) := by decide +kernel
theorem d_Li_sum_2 : decode c_Li_sum 2 = .ok (.iconst 0, 1) := by decide +kernel
theorem d_Li_sum_3 : decode c_Li_sum 3 = .ok (.istore_n 3, 1) := by decide +kernel
theorem d_Li_sum_4 : decode c_Li_sum 4 = .ok (.iload_n 3, 1) := by decide +kernel
theorem d_Li_sum_5 : decode c_Li_sum 5 = .ok (.iload_n 1, 1) := by decide +kernel
theorem d_Li_sum_6 : decode c_Li_sum 6 = .ok (.if_icmp .ge 21, 3) := by decide +kernel
theorem d_Li_sum_9 : decode c_Li_sum 9 = .ok (.iload_n 3, 1) := by decide +kernel
theorem d_Li_sum_10 : decode c_Li_sum 10 = .ok (.aload_n 0, 1) := by decide +kernel
theorem d_Li_sum_11 : decode c_Li_sum 11 = .ok (.arraylength, 1) := by decide +kernel
theorem d_Li_sum_12 : decode c_Li_sum 12 = .ok (.if_icmp .ge 15, 3) := by decide +kernel
theorem d_Li_sum_15 : decode c_Li_sum 15 = .ok (.iload_n 2, 1) := by decide +kernel
theorem d_Li_sum_16 : decode c_Li_sum 16 = .ok (.aload_n 0, 1) := by decide +kernel
theorem d_Li_sum_17 : decode c_Li_sum 17 = .ok (.iload_n 3, 1) := by decide +kernel
theorem d_Li_sum_18 : decode c_Li_sum 18 = .ok (.iaload, 1) := by decide +kernel
theorem d_Li_sum_19 : decode c_Li_sum 19 = .ok (.ixor, 1) := by decide +kernel
theorem d_Li_sum_20 : decode c_Li_sum 20 = .ok (.istore_n 2, 1) := by decide +kernel
theorem d_Li_sum_21 : decode c_Li_sum 21 = .ok (.iinc 3 1, 3) := by decide +kernel
theorem d_Li_sum_24 : decode c_Li_sum 24 = .ok (.goto (-20), 3) := by decide +kernel
theorem d_Li_sum_27 : decode c_Li_sum 27 = .ok (.iload_n 2, 1) := by decide +kernel
theorem d_Li_sum_28 : decode c_Li_sum 28 = .ok (.ireturn, 1) := by decide +kernel
theorem d_Li_pcb_0 : decode c_Li_pcb 0 = .ok (.aload_n 0, 1) := by decide +kernel
theorem d_Li_pcb_1 : decode c_Li_pcb 1 = .ok (.getfield 11, 3) := by decide +kernel
theorem d_Li_pcb_4 : decode c_Li_pcb 4 = .ok (.iconst 1, 1) := by decide +kernel
theorem d_Li_pcb_5 : decode c_Li_pcb 5 = .ok (.iaload, 1) := by decide +kernel
theorem d_Li_pcb_6 : decode c_Li_pcb 6 = .ok (.ireturn, 1) := by decide +kernel
theorem d_Ca_takeInformation_0 : decode c_Ca_takeInformation 0 = .ok (.iload_n 1, 1) := by decide +kernel
theorem d_Ca_takeInformation_1 : decode c_Ca_takeInformation 1 = .ok (.aload_n 0, 1) := by decide +kernel
theorem d_Ca_takeInformation_2 : decode c_Ca_takeInformation 2 = .ok (.getfield 10, 3) := by decide +kernel
theorem d_Ca_takeInformation_5 : decode c_Ca_takeInformation 5 = .ok (.getfield 154, 3) := by decide +kernel
theorem d_Ca_takeInformation_8 : decode c_Ca_takeInformation 8 = .ok (.if_icmp .eq 5, 3) := by decide +kernel
theorem d_Ca_takeInformation_11 : decode c_Ca_takeInformation 11 = .ok (.iconst 2, 1) := by decide +kernel
theorem d_Ca_takeInformation_12 : decode c_Ca_takeInformation 12 = .ok (.ireturn, 1) := by decide +kernel
theorem d_Ca_takeInformation_13 : decode c_Ca_takeInformation 13 = .ok (.aload_n 0, 1) := by decide +kernel
theorem d_Ca_takeInformation_14 : decode c_Ca_takeInformation 14 = .ok (.getfield 10, 3) := by decide +kernel
theorem d_Ca_takeInformation_17 : decode c_Ca_takeInformation 17 = .ok (.dup, 1) := by decide +kernel
theorem d_Ca_takeInformation_18 : decode c_Ca_takeInformation 18 = .ok (.getfield 154, 3) := by decide +kernel
theorem d_Ca_takeInformation_21 : decode c_Ca_takeInformation 21 = .ok (.iconst 1, 1) := by decide +kernel
theorem d_Ca_takeInformation_22 : decode c_Ca_takeInformation 22 = .ok (.ixor, 1) := by decide +kernel
theorem d_Ca_takeInformation_23 : decode c_Ca_takeInformation 23 = .ok (.putfield 154, 3) := by decide +kernel
theorem d_Ca_takeInformation_26 : decode c_Ca_takeInformation 26 = .ok (.aload_n 0, 1) := by decide +kernel
theorem d_Ca_takeInformation_27 : decode c_Ca_takeInformation 27 = .ok (.getfield 19, 3) := by decide +kernel
theorem d_Ca_takeInformation_30 : decode c_Ca_takeInformation 30 = .ok (.getfield 172, 3) := by decide +kernel
theorem d_Ca_takeInformation_33 : decode c_Ca_takeInformation 33 = .ok (.invokevirtual 204, 3) := by decide +kernel
theorem d_Ca_takeInformation_36 : decode c_Ca_takeInformation 36 = .ok (.iconst 0, 1) := by decide +kernel
theorem d_Ca_takeInformation_37 : decode c_Ca_takeInformation 37 = .ok (.istore_n 3, 1) := by decide +kernel
theorem d_Ca_takeInformation_38 : decode c_Ca_takeInformation 38 = .ok (.iload_n 3, 1) := by decide +kernel
theorem d_Ca_takeInformation_39 : decode c_Ca_takeInformation 39 = .ok (.aload_n 0, 1) := by decide +kernel
theorem d_Ca_takeInformation_40 : decode c_Ca_takeInformation 40 = .ok (.getfield 10, 3) := by decide +kernel
theorem d_Ca_takeInformation_43 : decode c_Ca_takeInformation 43 = .ok (.invokevirtual 207, 3) := by decide +kernel
theorem d_Ca_takeInformation_46 : decode c_Ca_takeInformation 46 = .ok (.if_icmp .ge 27, 3) := by decide +kernel
theorem d_Ca_takeInformation_49 : decode c_Ca_takeInformation 49 = .ok (.aload_n 0, 1) := by decide +kernel
theorem d_Ca_takeInformation_50 : decode c_Ca_takeInformation 50 = .ok (.getfield 19, 3) := by decide +kernel
theorem d_Ca_takeInformation_53 : decode c_Ca_takeInformation 53 = .ok (.getfield 163, 3) := by decide +kernel
theorem d_Ca_takeInformation_56 : decode c_Ca_takeInformation 56 = .ok (.aload_n 0, 1) := by decide +kernel
theorem d_Ca_takeInformation_57 : decode c_Ca_takeInformation 57 = .ok (.getfield 10, 3) := by decide +kernel
theorem d_Ca_takeInformation_60 : decode c_Ca_takeInformation 60 = .ok (.iload_n 3, 1) := by decide +kernel
theorem d_Ca_takeInformation_61 : decode c_Ca_takeInformation 61 = .ok (.invokevirtual 210, 3) := by decide +kernel
theorem d_Ca_takeInformation_64 : decode c_Ca_takeInformation 64 = .ok (.invokevirtual 213, 3) := by decide +kernel
theorem d_Ca_takeInformation_67 : decode c_Ca_takeInformation 67 = .ok (.iinc 3 1, 3) := by decide +kernel
theorem d_Ca_takeInformation_70 : decode c_Ca_takeInformation 70 = .ok (.goto (-32), 3) := by decide +kernel
theorem d_Ca_takeInformation_73 : decode c_Ca_takeInformation 73 = .ok (.iload_n 2, 1) := by decide +kernel
theorem d_Ca_takeInformation_74 : decode c_Ca_takeInformation 74 = .ok (.ifCond .eq 13, 3) := by decide +kernel
theorem d_Ca_takeInformation_77 : decode c_Ca_takeInformation 77 = .ok (.aload_n 0, 1) := by decide +kernel
theorem d_Ca_takeInformation_78 : decode c_Ca_takeInformation 78 = .ok (.getfield 10, 3) := by decide +kernel
theorem d_Ca_takeInformation_81 : decode c_Ca_takeInformation 81 = .ok (.iconst 0, 1) := by decide +kernel
theorem d_Ca_takeInformation_82 : decode c_Ca_takeInformation 82 = .ok (.invokevirtual 201, 3) := by decide +kernel
theorem d_Ca_takeInformation_85 : decode c_Ca_takeInformation 85 = .ok (.iconst 0, 1) := by decide +kernel
theorem d_Ca_takeInformation_86 : decode c_Ca_takeInformation 86 = .ok (.ireturn, 1) := by decide +kernel
theorem d_Ca_takeInformation_87 : decode c_Ca_takeInformation 87 = .ok (.aload_n 0, 1) := by decide +kernel
theorem d_Ca_takeInformation_88 : decode c_Ca_takeInformation 88 = .ok (.getfield 19, 3) := by decide +kernel
theorem d_Ca_takeInformation_91 : decode c_Ca_takeInformation 91 = .ok (.invokevirtual 215, 3) := by decide +kernel
theorem d_Ca_takeInformation_94 : decode c_Ca_takeInformation 94 = .ok (.istore_n 3, 1) := by decide +kernel
theorem d_Ca_takeInformation_95 : decode c_Ca_takeInformation 95 = .ok (.iload_n 3, 1) := by decide +kernel
theorem d_Ca_takeInformation_96 : decode c_Ca_takeInformation 96 = .ok (.iconst (-1), 1) := by decide +kernel
theorem d_Ca_takeInformation_97 : decode c_Ca_takeInformation 97 = .ok (.if_icmp .ne 10, 3) := by decide +kernel
theorem d_Ca_takeInformation_100 : decode c_Ca_takeInformation 100 = .ok (.aload_n 0, 1) := by decide +kernel
theorem d_Ca_takeInformation_101 : decode c_Ca_takeInformation 101 = .ok (.invokevirtual 56, 3) := by decide +kernel
theorem d_Ca_takeInformation_104 : decode c_Ca_takeInformation 104 = .ok (.goto 35, 3) := by decide +kernel
theorem d_Ca_takeInformation_107 : decode c_Ca_takeInformation 107 = .ok (.aload_n 0, 1) := by decide +kernel
theorem d_Ca_takeInformation_108 : decode c_Ca_takeInformation 108 = .ok (.getfield 19, 3) := by decide +kernel
theorem d_Ca_takeInformation_111 : decode c_Ca_takeInformation 111 = .ok (.iload_n 3, 1) := by decide +kernel
theorem d_Ca_takeInformation_112 : decode c_Ca_takeInformation 112 = .ok (.invokevirtual 218, 3) := by decide +kernel
theorem d_Ca_takeInformation_115 : decode c_Ca_takeInformation 115 = .ok (.aload_n 0, 1) := by decide +kernel
theorem d_Ca_takeInformation_116 : decode c_Ca_takeInformation 116 = .ok (.dup, 1) := by decide +kernel
theorem d_Ca_takeInformation_117 : decode c_Ca_takeInformation 117 = .ok (.getfield 120, 3) := by decide +kernel
theorem d_Ca_takeInformation_120 : decode c_Ca_takeInformation 120 = .ok (.iconst 1, 1) := by decide +kernel
theorem d_Ca_takeInformation_121 : decode c_Ca_takeInformation 121 = .ok (.iadd, 1) := by decide +kernel
theorem d_Ca_takeInformation_122 : decode c_Ca_takeInformation 122 = .ok (.putfield 120, 3) := by decide +kernel
theorem d_Ca_takeInformation_125 : decode c_Ca_takeInformation 125 = .ok (.aload_n 0, 1) := by decide +kernel
theorem d_Ca_takeInformation_126 : decode c_Ca_takeInformation 126 = .ok (.getfield 10, 3) := by decide +kernel
theorem d_Ca_takeInformation_129 : decode c_Ca_takeInformation 129 = .ok (.aload_n 0, 1) := by decide +kernel
theorem d_Ca_takeInformation_130 : decode c_Ca_takeInformation 130 = .ok (.getfield 19, 3) := by decide +kernel
theorem d_Ca_takeInformation_133 : decode c_Ca_takeInformation 133 = .ok (.getfield 172, 3) := by decide +kernel
theorem d_Ca_takeInformation_136 : decode c_Ca_takeInformation 136 = .ok (.invokevirtual 221, 3) := by decide +kernel
theorem d_Ca_takeInformation_139 : decode c_Ca_takeInformation 139 = .ok (.iconst 0, 1) := by decide +kernel
theorem d_Ca_takeInformation_140 : decode c_Ca_takeInformation 140 = .ok (.ireturn, 1) := by decide +kernel
theorem d_Li_inf_0 : decode c_Li_inf 0 = .ok (.iload_n 1, 1) := by decide +kernel
theorem d_Li_inf_1 : decode c_Li_inf 1 = .ok (.ifCond .lt 20, 3) := by decide +kernel
theorem d_Li_inf_4 : decode c_Li_inf 4 = .ok (.iload_n 1, 1) := by decide +kernel
theorem d_Li_inf_5 : decode c_Li_inf 5 = .ok (.bipush 32, 2) := by decide +kernel
theorem d_Li_inf_7 : decode c_Li_inf 7 = .ok (.if_icmp .ge 14, 3) := by decide +kernel
theorem d_Li_inf_10 : decode c_Li_inf 10 = .ok (.aload_n 0, 1) := by decide +kernel
theorem d_Li_inf_11 : decode c_Li_inf 11 = .ok (.getfield 11, 3) := by decide +kernel
theorem d_Li_inf_14 : decode c_Li_inf 14 = .ok (.iconst 3, 1) := by decide +kernel
theorem d_Li_inf_15 : decode c_Li_inf 15 = .ok (.iload_n 1, 1) := by decide +kernel
theorem d_Li_inf_16 : decode c_Li_inf 16 = .ok (.iadd, 1) := by decide +kernel
theorem d_Li_inf_17 : decode c_Li_inf 17 = .ok (.iaload, 1) := by decide +kernel
theorem d_Li_inf_18 : decode c_Li_inf 18 = .ok (.goto 4, 3) := by decide +kernel
theorem d_Li_inf_21 : decode c_Li_inf 21 = .ok (.iconst 0, 1) := by decide +kernel
theorem d_Li_inf_22 : decode c_Li_inf 22 = .ok (.ireturn, 1) := by decide +kernel
theorem d_Co_add_0 : decode c_Co_add 0 = .ok (.aload_n 0, 1) := by decide +kernel
theorem d_Co_add_1 : decode c_Co_add 1 = .ok (.getfield 15, 3) := by decide +kernel
theorem d_Co_add_4 : decode c_Co_add 4 = .ok (.bipush 40, 2) := by decide +kernel
theorem d_Co_add_6 : decode c_Co_add 6 = .ok (.if_icmp .ge 23, 3) := by decide +kernel
theorem d_Co_add_9 : decode c_Co_add 9 = .ok (.aload_n 0, 1) := by decide +kernel
theorem d_Co_add_10 : decode c_Co_add 10 = .ok (.getfield 11, 3) := by decide +kernel
theorem d_Co_add_13 : decode c_Co_add 13 = .ok (.aload_n 0, 1) := by decide +kernel
theorem d_Co_add_14 : decode c_Co_add 14 = .ok (.dup, 1) := by decide +kernel
theorem d_Co_add_15 : decode c_Co_add 15 = .ok (.getfield 15, 3) := by decide +kernel
theorem d_Co_add_18 : decode c_Co_add 18 = .ok (.dup_x1, 1) := by decide +kernel
theorem d_Co_add_19 : decode c_Co_add 19 = .ok (.iconst 1, 1) := by decide +kernel
theorem d_Co_add_20 : decode c_Co_add 20 = .ok (.iadd, 1) := by decide +kernel
theorem d_Co_add_21 : decode c_Co_add 21 = .ok (.putfield 15, 3) := by decide +kernel
theorem d_Co_add_24 : decode c_Co_add 24 = .ok (.iload_n 1, 1) := by decide +kernel
theorem d_Co_add_25 : decode c_Co_add 25 = .ok (.iastore, 1) := by decide +kernel
theorem d_Co_add_26 : decode c_Co_add 26 = .ok (.goto 8, 3) := by decide +kernel
theorem d_Co_add_29 : decode c_Co_add 29 = .ok (.aload_n 0, 1) := by decide +kernel
theorem d_Co_add_30 : decode c_Co_add 30 = .ok (.iconst 1, 1) := by decide +kernel
theorem d_Co_add_31 : decode c_Co_add 31 = .ok (.putfield 19, 3) := by decide +kernel
theorem d_Co_add_34 : decode c_Co_add 34 = .ok (.return_, 1) := by decide +kernel
theorem d_Li_sendReady_0 : decode c_Li_sendReady 0 = .ok (.aload_n 0, 1) := by decide +kernel
theorem d_Li_sendReady_1 : decode c_Li_sendReady 1 = .ok (.sipush 128, 3) := by decide +kernel
theorem d_Li_sendReady_4 : decode c_Li_sendReady 4 = .ok (.bipush 16, 2) := by decide +kernel
theorem d_Li_sendReady_6 : decode c_Li_sendReady 6 = .ok (.aload_n 0, 1) := by decide +kernel
theorem d_Li_sendReady_7 : decode c_Li_sendReady 7 = .ok (.getfield 34, 3) := by decide +kernel
theorem d_Li_sendReady_10 : decode c_Li_sendReady 10 = .ok (.imul, 1) := by decide +kernel
theorem d_Li_sendReady_11 : decode c_Li_sendReady 11 = .ok (.iadd, 1) := by decide +kernel
theorem d_Li_sendReady_12 : decode c_Li_sendReady 12 = .ok (.iload_n 1, 1) := by decide +kernel
theorem d_Li_sendReady_13 : decode c_Li_sendReady 13 = .ok (.iadd, 1) := by decide +kernel
theorem d_Li_sendReady_14 : decode c_Li_sendReady 14 = .ok (.invokevirtual 58, 3) := by decide +kernel
theorem d_Li_sendReady_17 : decode c_Li_sendReady 17 = .ok (.aload_n 0, 1) := by decide +kernel
theorem d_Li_sendReady_18 : decode c_Li_sendReady 18 = .ok (.invokevirtual 62, 3) := by decide +kernel
theorem d_Li_sendReady_21 : decode c_Li_sendReady 21 = .ok (.aload_n 0, 1) := by decide +kernel
theorem d_Li_sendReady_22 : decode c_Li_sendReady 22 = .ok (.iconst 0, 1) := by decide +kernel
theorem d_Li_sendReady_23 : decode c_Li_sendReady 23 = .ok (.putfield 40, 3) := by decide +kernel
theorem d_Li_sendReady_26 : decode c_Li_sendReady 26 = .ok (.return_, 1) := by decide +kernel
theorem d_Li_begin_0 : decode c_Li_begin 0 = .ok (.aload_n 0, 1) := by decide +kernel
theorem d_Li_begin_1 : decode c_Li_begin 1 = .ok (.getfield 15, 3) := by decide +kernel
theorem d_Li_begin_4 : decode c_Li_begin 4 = .ok (.iconst 0, 1) := by decide +kernel
theorem d_Li_begin_5 : decode c_Li_begin 5 = .ok (.iconst 0, 1) := by decide +kernel
theorem d_Li_begin_6 : decode c_Li_begin 6 = .ok (.iastore, 1) := by decide +kernel
theorem d_Li_begin_7 : decode c_Li_begin 7 = .ok (.aload_n 0, 1) := by decide +kernel
theorem d_Li_begin_8 : decode c_Li_begin 8 = .ok (.getfield 15, 3) := by decide +kernel
theorem d_Li_begin_11 : decode c_Li_begin 11 = .ok (.iconst 1, 1) := by decide +kernel
theorem d_Li_begin_12 : decode c_Li_begin 12 = .ok (.iload_n 1, 1) := by decide +kernel
theorem d_Li_begin_13 : decode c_Li_begin 13 = .ok (.iastore, 1) := by decide +kernel
theorem d_Li_begin_14 : decode c_Li_begin 14 = .ok (.aload_n 0, 1) := by decide +kernel
theorem d_Li_begin_15 : decode c_Li_begin 15 = .ok (.getfield 15, 3) := by decide +kernel
theorem d_Li_begin_18 : decode c_Li_begin 18 = .ok (.iconst 2, 1) := by decide +kernel
theorem d_Li_begin_19 : decode c_Li_begin 19 = .ok (.iconst 0, 1) := by decide +kernel
theorem d_Li_begin_20 : decode c_Li_begin 20 = .ok (.iastore, 1) := by decide +kernel
theorem d_Li_begin_21 : decode c_Li_begin 21 = .ok (.aload_n 0, 1) := by decide +kernel
theorem d_Li_begin_22 : decode c_Li_begin 22 = .ok (.iconst 3, 1) := by decide +kernel
theorem d_Li_begin_23 : decode c_Li_begin 23 = .ok (.putfield 31, 3) := by decide +kernel
theorem d_Li_begin_26 : decode c_Li_begin 26 = .ok (.return_, 1) := by decide +kernel
theorem d_Li_finish_0 : decode c_Li_finish 0 = .ok (.aload_n 0, 1) := by decide +kernel
theorem d_Li_finish_1 : decode c_Li_finish 1 = .ok (.getfield 15, 3) := by decide +kernel
theorem d_Li_finish_4 : decode c_Li_finish 4 = .ok (.aload_n 0, 1) := by decide +kernel
theorem d_Li_finish_5 : decode c_Li_finish 5 = .ok (.getfield 31, 3) := by decide +kernel
theorem d_Li_finish_8 : decode c_Li_finish 8 = .ok (.aload_n 0, 1) := by decide +kernel
theorem d_Li_finish_9 : decode c_Li_finish 9 = .ok (.getfield 15, 3) := by decide +kernel
theorem d_Li_finish_12 : decode c_Li_finish 12 = .ok (.aload_n 0, 1) := by decide +kernel
theorem d_Li_finish_13 : decode c_Li_finish 13 = .ok (.getfield 31, 3) := by decide +kernel
theorem d_Li_finish_16 : decode c_Li_finish 16 = .ok (.invokestatic 54, 3) := by decide +kernel
theorem d_Li_finish_19 : decode c_Li_finish 19 = .ok (.iastore, 1) := by decide +kernel
theorem d_Li_finish_20 : decode c_Li_finish 20 = .ok (.aload_n 0, 1) := by decide +kernel
theorem d_Li_finish_21 : decode c_Li_finish 21 = .ok (.dup, 1) := by decide +kernel
theorem d_Li_finish_22 : decode c_Li_finish 22 = .ok (.getfield 31, 3) := by decide +kernel
theorem d_Li_finish_25 : decode c_Li_finish 25 = .ok (.iconst 1, 1) := by decide +kernel
theorem d_Li_finish_26 : decode c_Li_finish 26 = .ok (.iadd, 1) := by decide +kernel
theorem d_Li_finish_27 : decode c_Li_finish 27 = .ok (.putfield 31, 3) := by decide +kernel
theorem d_Li_finish_30 : decode c_Li_finish 30 = .ok (.return_, 1) := by decide +kernel
theorem d_Wo_perform_0 : decode c_Wo_perform 0 = .ok (.aload_n 0, 1) := by decide +kernel
theorem d_Wo_perform_1 : decode c_Wo_perform 1 = .ok (.getfield 21, 3) := by decide +kernel
theorem d_Wo_perform_4 : decode c_Wo_perform 4 = .ok (.invokevirtual 50, 3) := by decide +kernel
theorem d_Wo_perform_7 : decode c_Wo_perform 7 = .ok (.ifCond .ne 7, 3) := by decide +kernel
theorem d_Wo_perform_10 : decode c_Wo_perform 10 = .ok (.sipush 26368, 3) := by decide +kernel
theorem d_Wo_perform_13 : decode c_Wo_perform 13 = .ok (.ireturn, 1) := by decide +kernel
theorem d_Wo_perform_14 : decode c_Wo_perform 14 = .ok (.aload_n 0, 1) := by decide +kernel
theorem d_Wo_perform_15 : decode c_Wo_perform 15 = .ok (.getfield 21, 3) := by decide +kernel
theorem d_Wo_perform_18 : decode c_Wo_perform 18 = .ok (.invokevirtual 54, 3) := by decide +kernel
theorem d_Wo_perform_21 : decode c_Wo_perform 21 = .ok (.ifCond .eq 7, 3) := by decide +kernel
theorem d_Wo_perform_24 : decode c_Wo_perform 24 = .ok (.sipush 28160, 3) := by decide +kernel
theorem d_Wo_perform_27 : decode c_Wo_perform 27 = .ok (.ireturn, 1) := by decide +kernel
theorem d_Wo_perform_28 : decode c_Wo_perform 28 = .ok (.aload_n 0, 1) := by decide +kernel
theorem d_Wo_perform_29 : decode c_Wo_perform 29 = .ok (.getfield 21, 3) := by decide +kernel
theorem d_Wo_perform_32 : decode c_Wo_perform 32 = .ok (.invokevirtual 58, 3) := by decide +kernel
theorem d_Wo_perform_35 : decode c_Wo_perform 35 = .ok (.lookupswitch 74 #[(32, 64), (36, 69), (164, 49), (176, 54), (214, 59)], 49) := by decide +kernel
theorem d_Wo_perform_84 : decode c_Wo_perform 84 = .ok (.aload_n 0, 1) := by decide +kernel
theorem d_Wo_perform_85 : decode c_Wo_perform 85 = .ok (.invokevirtual 61, 3) := by decide +kernel
theorem d_Wo_perform_88 : decode c_Wo_perform 88 = .ok (.ireturn, 1) := by decide +kernel
theorem d_Wo_perform_89 : decode c_Wo_perform 89 = .ok (.aload_n 0, 1) := by decide +kernel
theorem d_Wo_perform_90 : decode c_Wo_perform 90 = .ok (.invokevirtual 64, 3) := by decide +kernel
theorem d_Wo_perform_93 : decode c_Wo_perform 93 = .ok (.ireturn, 1) := by decide +kernel
theorem d_Wo_perform_94 : decode c_Wo_perform 94 = .ok (.aload_n 0, 1) := by decide +kernel
theorem d_Wo_perform_95 : decode c_Wo_perform 95 = .ok (.invokevirtual 67, 3) := by decide +kernel
theorem d_Wo_perform_98 : decode c_Wo_perform 98 = .ok (.ireturn, 1) := by decide +kernel
theorem d_Wo_perform_99 : decode c_Wo_perform 99 = .ok (.aload_n 0, 1) := by decide +kernel
theorem d_Wo_perform_100 : decode c_Wo_perform 100 = .ok (.invokevirtual 70, 3) := by decide +kernel
theorem d_Wo_perform_103 : decode c_Wo_perform 103 = .ok (.ireturn, 1) := by decide +kernel
theorem d_Wo_perform_104 : decode c_Wo_perform 104 = .ok (.aload_n 0, 1) := by decide +kernel
theorem d_Wo_perform_105 : decode c_Wo_perform 105 = .ok (.invokevirtual 73, 3) := by decide +kernel
theorem d_Wo_perform_108 : decode c_Wo_perform 108 = .ok (.ireturn, 1) := by decide +kernel
theorem d_Wo_perform_109 : decode c_Wo_perform 109 = .ok (.sipush 27904, 3) := by decide +kernel
theorem d_Wo_perform_112 : decode c_Wo_perform 112 = .ok (.ireturn, 1) := by decide +kernel
theorem d_Co_parse_0 : decode c_Co_parse 0 = .ok (.aload_n 0, 1) := by decide +kernel
theorem d_Co_parse_1 : decode c_Co_parse 1 = .ok (.iconst 0, 1) := by decide +kernel
theorem d_Co_parse_2 : decode c_Co_parse 2 = .ok (.putfield 23, 3) := by decide +kernel
theorem d_Co_parse_5 : decode c_Co_parse 5 = .ok (.aload_n 0, 1) := by decide +kernel
theorem d_Co_parse_6 : decode c_Co_parse 6 = .ok (.iconst (-1), 1) := by decide +kernel
theorem d_Co_parse_7 : decode c_Co_parse 7 = .ok (.putfield 26, 3) := by decide +kernel
theorem d_Co_parse_10 : decode c_Co_parse 10 = .ok (.aload_n 0, 1) := by decide +kernel
theorem d_Co_parse_11 : decode c_Co_parse 11 = .ok (.getfield 19, 3) := by decide +kernel
theorem d_Co_parse_14 : decode c_Co_parse 14 = .ok (.ifCond .ne 11, 3) := by decide +kernel
theorem d_Co_parse_17 : decode c_Co_parse 17 = .ok (.aload_n 0, 1) := by decide +kernel
theorem d_Co_parse_18 : decode c_Co_parse 18 = .ok (.getfield 15, 3) := by decide +kernel
theorem d_Co_parse_21 : decode c_Co_parse 21 = .ok (.iconst 4, 1) := by decide +kernel
theorem d_Co_parse_22 : decode c_Co_parse 22 = .ok (.if_icmp .ge 5, 3) := by decide +kernel
theorem d_Co_parse_25 : decode c_Co_parse 25 = .ok (.iconst 0, 1) := by decide +kernel
theorem d_Co_parse_26 : decode c_Co_parse 26 = .ok (.ireturn, 1) := by decide +kernel
theorem d_Co_parse_27 : decode c_Co_parse 27 = .ok (.aload_n 0, 1) := by decide +kernel
theorem d_Co_parse_28 : decode c_Co_parse 28 = .ok (.getfield 15, 3) := by decide +kernel
theorem d_Co_parse_31 : decode c_Co_parse 31 = .ok (.iconst 5, 1) := by decide +kernel
theorem d_Co_parse_32 : decode c_Co_parse 32 = .ok (.if_icmp .le 13, 3) := by decide +kernel
theorem d_Co_parse_35 : decode c_Co_parse 35 = .ok (.aload_n 0, 1) := by decide +kernel
end
section
theorem d_Co_parse_36 : decode c_Co_parse 36 = .ok (.aload_n 0, 1) := by decide +kernel
theorem d_Co_parse_37 : decode c_Co_parse 37 = .ok (.getfield 11, 3) := by decide +kernel
theorem d_Co_parse_40 : decode c_Co_parse 40 = .ok (.iconst 4, 1) := by decide +kernel
theorem d_Co_parse_41 : decode c_Co_parse 41 = .ok (.iaload, 1) := by decide +kernel
theorem d_Co_parse_42 : decode c_Co_parse 42 = .ok (.putfield 23, 3) := by decide +kernel
theorem d_Co_parse_45 : decode c_Co_parse 45 = .ok (.aload_n 0, 1) := by decide +kernel
theorem d_Co_parse_46 : decode c_Co_parse 46 = .ok (.getfield 23, 3) := by decide +kernel
theorem d_Co_parse_49 : decode c_Co_parse 49 = .ok (.ifCond .le 12, 3) := by decide +kernel
theorem d_Co_parse_52 : decode c_Co_parse 52 = .ok (.iconst 5, 1) := by decide +kernel
theorem d_Co_parse_53 : decode c_Co_parse 53 = .ok (.aload_n 0, 1) := by decide +kernel
theorem d_Co_parse_54 : decode c_Co_parse 54 = .ok (.getfield 23, 3) := by decide +kernel
theorem d_Co_parse_57 : decode c_Co_parse 57 = .ok (.iadd, 1) := by decide +kernel
theorem d_Co_parse_58 : decode c_Co_parse 58 = .ok (.goto 4, 3) := by decide +kernel
theorem d_Co_parse_61 : decode c_Co_parse 61 = .ok (.iconst 4, 1) := by decide +kernel
theorem d_Co_parse_62 : decode c_Co_parse 62 = .ok (.istore_n 1, 1) := by decide +kernel
theorem d_Co_parse_63 : decode c_Co_parse 63 = .ok (.aload_n 0, 1) := by decide +kernel
theorem d_Co_parse_64 : decode c_Co_parse 64 = .ok (.getfield 23, 3) := by decide +kernel
theorem d_Co_parse_67 : decode c_Co_parse 67 = .ok (.bipush 32, 2) := by decide +kernel
theorem d_Co_parse_69 : decode c_Co_parse 69 = .ok (.if_icmp .gt 21, 3) := by decide +kernel
theorem d_Co_parse_72 : decode c_Co_parse 72 = .ok (.aload_n 0, 1) := by decide +kernel
theorem d_Co_parse_73 : decode c_Co_parse 73 = .ok (.getfield 15, 3) := by decide +kernel
theorem d_Co_parse_76 : decode c_Co_parse 76 = .ok (.iload_n 1, 1) := by decide +kernel
theorem d_Co_parse_77 : decode c_Co_parse 77 = .ok (.if_icmp .lt 13, 3) := by decide +kernel
theorem d_Co_parse_80 : decode c_Co_parse 80 = .ok (.aload_n 0, 1) := by decide +kernel
theorem d_Co_parse_81 : decode c_Co_parse 81 = .ok (.getfield 15, 3) := by decide +kernel
theorem d_Co_parse_84 : decode c_Co_parse 84 = .ok (.iload_n 1, 1) := by decide +kernel
theorem d_Co_parse_85 : decode c_Co_parse 85 = .ok (.iconst 1, 1) := by decide +kernel
theorem d_Co_parse_86 : decode c_Co_parse 86 = .ok (.iadd, 1) := by decide +kernel
theorem d_Co_parse_87 : decode c_Co_parse 87 = .ok (.if_icmp .le 5, 3) := by decide +kernel
theorem d_Co_parse_90 : decode c_Co_parse 90 = .ok (.iconst 0, 1) := by decide +kernel
theorem d_Co_parse_91 : decode c_Co_parse 91 = .ok (.ireturn, 1) := by decide +kernel
theorem d_Co_parse_92 : decode c_Co_parse 92 = .ok (.aload_n 0, 1) := by decide +kernel
theorem d_Co_parse_93 : decode c_Co_parse 93 = .ok (.getfield 15, 3) := by decide +kernel
theorem d_Co_parse_96 : decode c_Co_parse 96 = .ok (.iload_n 1, 1) := by decide +kernel
theorem d_Co_parse_97 : decode c_Co_parse 97 = .ok (.if_icmp .le 27, 3) := by decide +kernel
theorem d_Co_parse_100 : decode c_Co_parse 100 = .ok (.aload_n 0, 1) := by decide +kernel
theorem d_Co_parse_101 : decode c_Co_parse 101 = .ok (.aload_n 0, 1) := by decide +kernel
theorem d_Co_parse_102 : decode c_Co_parse 102 = .ok (.getfield 11, 3) := by decide +kernel
theorem d_Co_parse_105 : decode c_Co_parse 105 = .ok (.iload_n 1, 1) := by decide +kernel
theorem d_Co_parse_106 : decode c_Co_parse 106 = .ok (.iaload, 1) := by decide +kernel
theorem d_Co_parse_107 : decode c_Co_parse 107 = .ok (.ifCond .ne 8, 3) := by decide +kernel
theorem d_Co_parse_110 : decode c_Co_parse 110 = .ok (.bipush 32, 2) := by decide +kernel
theorem d_Co_parse_112 : decode c_Co_parse 112 = .ok (.goto 9, 3) := by decide +kernel
theorem d_Co_parse_115 : decode c_Co_parse 115 = .ok (.aload_n 0, 1) := by decide +kernel
theorem d_Co_parse_116 : decode c_Co_parse 116 = .ok (.getfield 11, 3) := by decide +kernel
theorem d_Co_parse_119 : decode c_Co_parse 119 = .ok (.iload_n 1, 1) := by decide +kernel
theorem d_Co_parse_120 : decode c_Co_parse 120 = .ok (.iaload, 1) := by decide +kernel
theorem d_Co_parse_121 : decode c_Co_parse 121 = .ok (.putfield 26, 3) := by decide +kernel
theorem d_Co_parse_124 : decode c_Co_parse 124 = .ok (.iconst 1, 1) := by decide +kernel
theorem d_Co_parse_125 : decode c_Co_parse 125 = .ok (.ireturn, 1) := by decide +kernel
theorem d_Co_octetClass_0 : decode c_Co_octetClass 0 = .ok (.aload_n 0, 1) := by decide +kernel
theorem d_Co_octetClass_1 : decode c_Co_octetClass 1 = .ok (.getfield 11, 3) := by decide +kernel
theorem d_Co_octetClass_4 : decode c_Co_octetClass 4 = .ok (.iconst 0, 1) := by decide +kernel
theorem d_Co_octetClass_5 : decode c_Co_octetClass 5 = .ok (.iaload, 1) := by decide +kernel
theorem d_Co_octetClass_6 : decode c_Co_octetClass 6 = .ok (.ireturn, 1) := by decide +kernel
theorem d_Co_instruction_0 : decode c_Co_instruction 0 = .ok (.aload_n 0, 1) := by decide +kernel
theorem d_Co_instruction_1 : decode c_Co_instruction 1 = .ok (.getfield 11, 3) := by decide +kernel
theorem d_Co_instruction_4 : decode c_Co_instruction 4 = .ok (.iconst 1, 1) := by decide +kernel
theorem d_Co_instruction_5 : decode c_Co_instruction 5 = .ok (.iaload, 1) := by decide +kernel
theorem d_Co_instruction_6 : decode c_Co_instruction 6 = .ok (.ireturn, 1) := by decide +kernel
theorem d_Wo_find_0 : decode c_Wo_find 0 = .ok (.aload_n 0, 1) := by decide +kernel
theorem d_Wo_find_1 : decode c_Wo_find 1 = .ok (.getfield 21, 3) := by decide +kernel
theorem d_Wo_find_4 : decode c_Wo_find 4 = .ok (.invokevirtual 80, 3) := by decide +kernel
theorem d_Wo_find_7 : decode c_Wo_find 7 = .ok (.ifCond .ne 7, 3) := by decide +kernel
theorem d_Wo_find_10 : decode c_Wo_find 10 = .ok (.iconst 1, 1) := by decide +kernel
theorem d_Wo_find_11 : decode c_Wo_find 11 = .ok (.goto 4, 3) := by decide +kernel
theorem d_Wo_find_14 : decode c_Wo_find 14 = .ok (.iconst 0, 1) := by decide +kernel
theorem d_Wo_find_15 : decode c_Wo_find 15 = .ok (.istore_n 1, 1) := by decide +kernel
theorem d_Wo_find_16 : decode c_Wo_find 16 = .ok (.iload_n 1, 1) := by decide +kernel
theorem d_Wo_find_17 : decode c_Wo_find 17 = .ok (.ifCond .ne 14, 3) := by decide +kernel
theorem d_Wo_find_20 : decode c_Wo_find 20 = .ok (.aload_n 0, 1) := by decide +kernel
theorem d_Wo_find_21 : decode c_Wo_find 21 = .ok (.getfield 21, 3) := by decide +kernel
theorem d_Wo_find_24 : decode c_Wo_find 24 = .ok (.invokevirtual 80, 3) := by decide +kernel
theorem d_Wo_find_27 : decode c_Wo_find 27 = .ok (.iconst 3, 1) := by decide +kernel
theorem d_Wo_find_28 : decode c_Wo_find 28 = .ok (.if_icmp .ne 13, 3) := by decide +kernel
theorem d_Wo_find_31 : decode c_Wo_find 31 = .ok (.aload_n 0, 1) := by decide +kernel
theorem d_Wo_find_32 : decode c_Wo_find 32 = .ok (.getfield 21, 3) := by decide +kernel
theorem d_Wo_find_35 : decode c_Wo_find 35 = .ok (.invokevirtual 83, 3) := by decide +kernel
theorem d_Wo_find_38 : decode c_Wo_find 38 = .ok (.ifCond .eq 7, 3) := by decide +kernel
theorem d_Wo_find_41 : decode c_Wo_find 41 = .ok (.sipush 27270, 3) := by decide +kernel
theorem d_Wo_find_44 : decode c_Wo_find 44 = .ok (.ireturn, 1) := by decide +kernel
theorem d_Wo_find_45 : decode c_Wo_find 45 = .ok (.aload_n 0, 1) := by decide +kernel
theorem d_Wo_find_46 : decode c_Wo_find 46 = .ok (.getfield 21, 3) := by decide +kernel
theorem d_Wo_find_49 : decode c_Wo_find 49 = .ok (.getfield 86, 3) := by decide +kernel
theorem d_Wo_find_52 : decode c_Wo_find 52 = .ok (.iload_n 1, 1) := by decide +kernel
theorem d_Wo_find_53 : decode c_Wo_find 53 = .ok (.ifCond .eq 7, 3) := by decide +kernel
theorem d_Wo_find_56 : decode c_Wo_find 56 = .ok (.iconst 2, 1) := by decide +kernel
theorem d_Wo_find_57 : decode c_Wo_find 57 = .ok (.goto 4, 3) := by decide +kernel
theorem d_Wo_find_60 : decode c_Wo_find 60 = .ok (.iconst 0, 1) := by decide +kernel
theorem d_Wo_find_61 : decode c_Wo_find 61 = .ok (.if_icmp .eq 7, 3) := by decide +kernel
theorem d_Wo_find_64 : decode c_Wo_find 64 = .ok (.sipush 26368, 3) := by decide +kernel
theorem d_Wo_find_67 : decode c_Wo_find 67 = .ok (.ireturn, 1) := by decide +kernel
theorem d_Wo_find_68 : decode c_Wo_find 68 = .ok (.aload_n 0, 1) := by decide +kernel
theorem d_Wo_find_69 : decode c_Wo_find 69 = .ok (.getfield 12, 3) := by decide +kernel
theorem d_Wo_find_72 : decode c_Wo_find 72 = .ok (.getfield 89, 3) := by decide +kernel
theorem d_Wo_find_75 : decode c_Wo_find 75 = .ok (.astore_n 2, 1) := by decide +kernel
theorem d_Wo_find_76 : decode c_Wo_find 76 = .ok (.iload_n 1, 1) := by decide +kernel
theorem d_Wo_find_77 : decode c_Wo_find 77 = .ok (.ifCond .eq 21, 3) := by decide +kernel
theorem d_Wo_find_80 : decode c_Wo_find 80 = .ok (.aload_n 2, 1) := by decide +kernel
theorem d_Wo_find_81 : decode c_Wo_find 81 = .ok (.aload_n 0, 1) := by decide +kernel
theorem d_Wo_find_82 : decode c_Wo_find 82 = .ok (.getfield 40, 3) := by decide +kernel
theorem d_Wo_find_85 : decode c_Wo_find 85 = .ok (.aload_n 0, 1) := by decide +kernel
theorem d_Wo_find_86 : decode c_Wo_find 86 = .ok (.getfield 21, 3) := by decide +kernel
theorem d_Wo_find_89 : decode c_Wo_find 89 = .ok (.invokevirtual 93, 3) := by decide +kernel
theorem d_Wo_find_92 : decode c_Wo_find 92 = .ok (.invokevirtual 96, 3) := by decide +kernel
theorem d_Wo_find_95 : decode c_Wo_find 95 = .ok (.goto 7, 3) := by decide +kernel
theorem d_Wo_find_98 : decode c_Wo_find 98 = .ok (.aload_n 0, 1) := by decide +kernel
theorem d_Wo_find_99 : decode c_Wo_find 99 = .ok (.invokevirtual 101, 3) := by decide +kernel
theorem d_Wo_find_102 : decode c_Wo_find 102 = .ok (.istore_n 3, 1) := by decide +kernel
theorem d_Wo_find_103 : decode c_Wo_find 103 = .ok (.iload_n 3, 1) := by decide +kernel
theorem d_Wo_find_104 : decode c_Wo_find 104 = .ok (.iconst (-1), 1) := by decide +kernel
theorem d_Wo_find_105 : decode c_Wo_find 105 = .ok (.if_icmp .ne 7, 3) := by decide +kernel
theorem d_Wo_find_108 : decode c_Wo_find 108 = .ok (.sipush 27266, 3) := by decide +kernel
theorem d_Wo_find_111 : decode c_Wo_find 111 = .ok (.ireturn, 1) := by decide +kernel
theorem d_Wo_find_112 : decode c_Wo_find 112 = .ok (.aload_n 2, 1) := by decide +kernel
theorem d_Wo_find_113 : decode c_Wo_find 113 = .ok (.iload_n 3, 1) := by decide +kernel
theorem d_Wo_find_114 : decode c_Wo_find 114 = .ok (.invokevirtual 104, 3) := by decide +kernel
theorem d_Wo_find_117 : decode c_Wo_find 117 = .ok (.ifCond .eq 16, 3) := by decide +kernel
theorem d_Wo_find_120 : decode c_Wo_find 120 = .ok (.aload_n 0, 1) := by decide +kernel
theorem d_Wo_find_121 : decode c_Wo_find 121 = .ok (.iload_n 3, 1) := by decide +kernel
theorem d_Wo_find_122 : decode c_Wo_find 122 = .ok (.putfield 40, 3) := by decide +kernel
theorem d_Wo_find_125 : decode c_Wo_find 125 = .ok (.aload_n 0, 1) := by decide +kernel
theorem d_Wo_find_126 : decode c_Wo_find 126 = .ok (.iconst (-1), 1) := by decide +kernel
theorem d_Wo_find_127 : decode c_Wo_find 127 = .ok (.putfield 32, 3) := by decide +kernel
theorem d_Wo_find_130 : decode c_Wo_find 130 = .ok (.goto 8, 3) := by decide +kernel
theorem d_Wo_find_133 : decode c_Wo_find 133 = .ok (.aload_n 0, 1) := by decide +kernel
theorem d_Wo_find_134 : decode c_Wo_find 134 = .ok (.iload_n 3, 1) := by decide +kernel
theorem d_Wo_find_135 : decode c_Wo_find 135 = .ok (.putfield 32, 3) := by decide +kernel
theorem d_Wo_find_138 : decode c_Wo_find 138 = .ok (.ldc 108, 2) := by decide +kernel
theorem d_Wo_find_140 : decode c_Wo_find 140 = .ok (.ireturn, 1) := by decide +kernel
theorem d_Co_a_0 : decode c_Co_a 0 = .ok (.aload_n 0, 1) := by decide +kernel
theorem d_Co_a_1 : decode c_Co_a 1 = .ok (.getfield 11, 3) := by decide +kernel
theorem d_Co_a_4 : decode c_Co_a 4 = .ok (.iconst 2, 1) := by decide +kernel
theorem d_Co_a_5 : decode c_Co_a 5 = .ok (.iaload, 1) := by decide +kernel
theorem d_Co_a_6 : decode c_Co_a 6 = .ok (.ireturn, 1) := by decide +kernel
theorem d_Co_b_0 : decode c_Co_b 0 = .ok (.aload_n 0, 1) := by decide +kernel
theorem d_Co_b_1 : decode c_Co_b 1 = .ok (.getfield 11, 3) := by decide +kernel
theorem d_Co_b_4 : decode c_Co_b 4 = .ok (.iconst 3, 1) := by decide +kernel
theorem d_Co_b_5 : decode c_Co_b 5 = .ok (.iaload, 1) := by decide +kernel
theorem d_Co_b_6 : decode c_Co_b 6 = .ok (.ireturn, 1) := by decide +kernel
theorem d_Co_dataAsName_0 : decode c_Co_dataAsName 0 = .ok (.aload_n 0, 1) := by decide +kernel
theorem d_Co_dataAsName_1 : decode c_Co_dataAsName 1 = .ok (.iconst 0, 1) := by decide +kernel
theorem d_Co_dataAsName_2 : decode c_Co_dataAsName 2 = .ok (.invokevirtual 36, 3) := by decide +kernel
theorem d_Co_dataAsName_5 : decode c_Co_dataAsName 5 = .ok (.bipush 8, 2) := by decide +kernel
theorem d_Co_dataAsName_7 : decode c_Co_dataAsName 7 = .ok (.ishl, 1) := by decide +kernel
theorem d_Co_dataAsName_8 : decode c_Co_dataAsName 8 = .ok (.aload_n 0, 1) := by decide +kernel
theorem d_Co_dataAsName_9 : decode c_Co_dataAsName 9 = .ok (.iconst 1, 1) := by decide +kernel
theorem d_Co_dataAsName_10 : decode c_Co_dataAsName 10 = .ok (.invokevirtual 36, 3) := by decide +kernel
theorem d_Co_dataAsName_13 : decode c_Co_dataAsName 13 = .ok (.ior, 1) := by decide +kernel
theorem d_Co_dataAsName_14 : decode c_Co_dataAsName 14 = .ok (.ireturn, 1) := by decide +kernel
theorem d_Co_data_0 : decode c_Co_data 0 = .ok (.iload_n 1, 1) := by decide +kernel
theorem d_Co_data_1 : decode c_Co_data 1 = .ok (.ifCond .lt 20, 3) := by decide +kernel
theorem d_Co_data_4 : decode c_Co_data 4 = .ok (.iload_n 1, 1) := by decide +kernel
theorem d_Co_data_5 : decode c_Co_data 5 = .ok (.bipush 32, 2) := by decide +kernel
theorem d_Co_data_7 : decode c_Co_data 7 = .ok (.if_icmp .ge 14, 3) := by decide +kernel
theorem d_Co_data_10 : decode c_Co_data 10 = .ok (.aload_n 0, 1) := by decide +kernel
theorem d_Co_data_11 : decode c_Co_data 11 = .ok (.getfield 11, 3) := by decide +kernel
theorem d_Co_data_14 : decode c_Co_data 14 = .ok (.iconst 5, 1) := by decide +kernel
theorem d_Co_data_15 : decode c_Co_data 15 = .ok (.iload_n 1, 1) := by decide +kernel
theorem d_Co_data_16 : decode c_Co_data 16 = .ok (.iadd, 1) := by decide +kernel
theorem d_Co_data_17 : decode c_Co_data 17 = .ok (.iaload, 1) := by decide +kernel
theorem d_Co_data_18 : decode c_Co_data 18 = .ok (.goto 4, 3) := by decide +kernel
theorem d_Co_data_21 : decode c_Co_data 21 = .ok (.iconst 0, 1) := by decide +kernel
theorem d_Co_data_22 : decode c_Co_data 22 = .ok (.ireturn, 1) := by decide +kernel
theorem d_Fi_find_0 : decode c_Fi_find 0 = .ok (.iload_n 2, 1) := by decide +kernel
theorem d_Fi_find_1 : decode c_Fi_find 1 = .ok (.sipush 16128, 3) := by decide +kernel
theorem d_Fi_find_4 : decode c_Fi_find 4 = .ok (.if_icmp .ne 5, 3) := by decide +kernel
theorem d_Fi_find_7 : decode c_Fi_find 7 = .ok (.iconst 0, 1) := by decide +kernel
theorem d_Fi_find_8 : decode c_Fi_find 8 = .ok (.ireturn, 1) := by decide +kernel
theorem d_Fi_find_9 : decode c_Fi_find 9 = .ok (.iconst 1, 1) := by decide +kernel
theorem d_Fi_find_10 : decode c_Fi_find 10 = .ok (.istore_n 3, 1) := by decide +kernel
theorem d_Fi_find_11 : decode c_Fi_find 11 = .ok (.iload_n 3, 1) := by decide +kernel
theorem d_Fi_find_12 : decode c_Fi_find 12 = .ok (.aload_n 0, 1) := by decide +kernel
theorem d_Fi_find_13 : decode c_Fi_find 13 = .ok (.getfield 30, 3) := by decide +kernel
theorem d_Fi_find_16 : decode c_Fi_find 16 = .ok (.if_icmp .ge 31, 3) := by decide +kernel
theorem d_Fi_find_19 : decode c_Fi_find 19 = .ok (.aload_n 0, 1) := by decide +kernel
theorem d_Fi_find_20 : decode c_Fi_find 20 = .ok (.getfield 15, 3) := by decide +kernel
theorem d_Fi_find_23 : decode c_Fi_find 23 = .ok (.iload_n 3, 1) := by decide +kernel
theorem d_Fi_find_24 : decode c_Fi_find 24 = .ok (.iaload, 1) := by decide +kernel
theorem d_Fi_find_25 : decode c_Fi_find 25 = .ok (.iload_n 1, 1) := by decide +kernel
theorem d_Fi_find_26 : decode c_Fi_find 26 = .ok (.if_icmp .ne 15, 3) := by decide +kernel
theorem d_Fi_find_29 : decode c_Fi_find 29 = .ok (.aload_n 0, 1) := by decide +kernel
theorem d_Fi_find_30 : decode c_Fi_find 30 = .ok (.getfield 11, 3) := by decide +kernel
theorem d_Fi_find_33 : decode c_Fi_find 33 = .ok (.iload_n 3, 1) := by decide +kernel
theorem d_Fi_find_34 : decode c_Fi_find 34 = .ok (.iaload, 1) := by decide +kernel
theorem d_Fi_find_35 : decode c_Fi_find 35 = .ok (.iload_n 2, 1) := by decide +kernel
theorem d_Fi_find_36 : decode c_Fi_find 36 = .ok (.if_icmp .ne 5, 3) := by decide +kernel
theorem d_Fi_find_39 : decode c_Fi_find 39 = .ok (.iload_n 3, 1) := by decide +kernel
theorem d_Fi_find_40 : decode c_Fi_find 40 = .ok (.ireturn, 1) := by decide +kernel
theorem d_Fi_find_41 : decode c_Fi_find 41 = .ok (.iinc 3 1, 3) := by decide +kernel
theorem d_Fi_find_44 : decode c_Fi_find 44 = .ok (.goto (-33), 3) := by decide +kernel
theorem d_Fi_find_47 : decode c_Fi_find 47 = .ok (.iconst (-1), 1) := by decide +kernel
theorem d_Fi_find_48 : decode c_Fi_find 48 = .ok (.ireturn, 1) := by decide +kernel
theorem d_Wo_parentOfDirectory_0 : decode c_Wo_parentOfDirectory 0 = .ok (.aload_n 0, 1) := by decide +kernel
theorem d_Wo_parentOfDirectory_1 : decode c_Wo_parentOfDirectory 1 = .ok (.getfield 12, 3) := by decide +kernel
theorem d_Wo_parentOfDirectory_4 : decode c_Wo_parentOfDirectory 4 = .ok (.getfield 89, 3) := by decide +kernel
theorem d_Wo_parentOfDirectory_7 : decode c_Wo_parentOfDirectory 7 = .ok (.aload_n 0, 1) := by decide +kernel
theorem d_Wo_parentOfDirectory_8 : decode c_Wo_parentOfDirectory 8 = .ok (.getfield 40, 3) := by decide +kernel
theorem d_Wo_parentOfDirectory_11 : decode c_Wo_parentOfDirectory 11 = .ok (.invokevirtual 109, 3) := by decide +kernel
theorem d_Wo_parentOfDirectory_14 : decode c_Wo_parentOfDirectory 14 = .ok (.ifCond .eq 21, 3) := by decide +kernel
theorem d_Wo_parentOfDirectory_17 : decode c_Wo_parentOfDirectory 17 = .ok (.aload_n 0, 1) := by decide +kernel
theorem d_Wo_parentOfDirectory_18 : decode c_Wo_parentOfDirectory 18 = .ok (.getfield 12, 3) := by decide +kernel
theorem d_Wo_parentOfDirectory_21 : decode c_Wo_parentOfDirectory 21 = .ok (.getfield 89, 3) := by decide +kernel
theorem d_Wo_parentOfDirectory_24 : decode c_Wo_parentOfDirectory 24 = .ok (.getfield 112, 3) := by decide +kernel
theorem d_Wo_parentOfDirectory_27 : decode c_Wo_parentOfDirectory 27 = .ok (.aload_n 0, 1) := by decide +kernel
theorem d_Wo_parentOfDirectory_28 : decode c_Wo_parentOfDirectory 28 = .ok (.getfield 40, 3) := by decide +kernel
theorem d_Wo_parentOfDirectory_31 : decode c_Wo_parentOfDirectory 31 = .ok (.iaload, 1) := by decide +kernel
theorem d_Wo_parentOfDirectory_32 : decode c_Wo_parentOfDirectory 32 = .ok (.goto 4, 3) := by decide +kernel
theorem d_Wo_parentOfDirectory_35 : decode c_Wo_parentOfDirectory 35 = .ok (.iconst (-1), 1) := by decide +kernel
theorem d_Wo_parentOfDirectory_36 : decode c_Wo_parentOfDirectory 36 = .ok (.ireturn, 1) := by decide +kernel
theorem d_Wo_read_0 : decode c_Wo_read 0 = .ok (.aload_n 0, 1) := by decide +kernel
theorem d_Wo_read_1 : decode c_Wo_read 1 = .ok (.getfield 21, 3) := by decide +kernel
theorem d_Wo_read_4 : decode c_Wo_read 4 = .ok (.getfield 86, 3) := by decide +kernel
theorem d_Wo_read_7 : decode c_Wo_read 7 = .ok (.ifCond .gt 14, 3) := by decide +kernel
theorem d_Wo_read_10 : decode c_Wo_read 10 = .ok (.aload_n 0, 1) := by decide +kernel
theorem d_Wo_read_11 : decode c_Wo_read 11 = .ok (.getfield 21, 3) := by decide +kernel
theorem d_Wo_read_14 : decode c_Wo_read 14 = .ok (.getfield 120, 3) := by decide +kernel
theorem d_Wo_read_17 : decode c_Wo_read 17 = .ok (.iconst (-1), 1) := by decide +kernel
theorem d_Wo_read_18 : decode c_Wo_read 18 = .ok (.if_icmp .ne 7, 3) := by decide +kernel
theorem d_Wo_read_21 : decode c_Wo_read 21 = .ok (.sipush 26368, 3) := by decide +kernel
theorem d_Wo_read_24 : decode c_Wo_read 24 = .ok (.ireturn, 1) := by decide +kernel
theorem d_Wo_read_25 : decode c_Wo_read 25 = .ok (.aload_n 0, 1) := by decide +kernel
theorem d_Wo_read_26 : decode c_Wo_read 26 = .ok (.getfield 21, 3) := by decide +kernel
theorem d_Wo_read_29 : decode c_Wo_read 29 = .ok (.invokevirtual 123, 3) := by decide +kernel
theorem d_Wo_read_32 : decode c_Wo_read 32 = .ok (.istore_n 1, 1) := by decide +kernel
theorem d_Wo_read_33 : decode c_Wo_read 33 = .ok (.aload_n 0, 1) := by decide +kernel
theorem d_Wo_read_34 : decode c_Wo_read 34 = .ok (.iload_n 1, 1) := by decide +kernel
theorem d_Wo_read_35 : decode c_Wo_read 35 = .ok (.aload_n 0, 1) := by decide +kernel
theorem d_Wo_read_36 : decode c_Wo_read 36 = .ok (.getfield 12, 3) := by decide +kernel
theorem d_Wo_read_39 : decode c_Wo_read 39 = .ok (.getfield 89, 3) := by decide +kernel
theorem d_Wo_read_42 : decode c_Wo_read 42 = .ok (.aload_n 0, 1) := by decide +kernel
theorem d_Wo_read_43 : decode c_Wo_read 43 = .ok (.getfield 32, 3) := by decide +kernel
theorem d_Wo_read_46 : decode c_Wo_read 46 = .ok (.aload_n 0, 1) := by decide +kernel
theorem d_Wo_read_47 : decode c_Wo_read 47 = .ok (.getfield 36, 3) := by decide +kernel
theorem d_Wo_read_50 : decode c_Wo_read 50 = .ok (.invokevirtual 126, 3) := by decide +kernel
theorem d_Wo_read_53 : decode c_Wo_read 53 = .ok (.invokevirtual 130, 3) := by decide +kernel
theorem d_Wo_read_56 : decode c_Wo_read 56 = .ok (.istore_n 2, 1) := by decide +kernel
theorem d_Wo_read_57 : decode c_Wo_read 57 = .ok (.iload_n 2, 1) := by decide +kernel
theorem d_Wo_read_58 : decode c_Wo_read 58 = .ok (.ldc 108, 2) := by decide +kernel
theorem d_Wo_read_60 : decode c_Wo_read 60 = .ok (.if_icmp .eq 5, 3) := by decide +kernel
theorem d_Wo_read_63 : decode c_Wo_read 63 = .ok (.iload_n 2, 1) := by decide +kernel
theorem d_Wo_read_64 : decode c_Wo_read 64 = .ok (.ireturn, 1) := by decide +kernel
theorem d_Wo_read_65 : decode c_Wo_read 65 = .ok (.aload_n 0, 1) := by decide +kernel
theorem d_Wo_read_66 : decode c_Wo_read 66 = .ok (.getfield 12, 3) := by decide +kernel
theorem d_Wo_read_69 : decode c_Wo_read 69 = .ok (.getfield 89, 3) := by decide +kernel
theorem d_Wo_read_72 : decode c_Wo_read 72 = .ok (.getfield 134, 3) := by decide +kernel
theorem d_Wo_read_75 : decode c_Wo_read 75 = .ok (.aload_n 0, 1) := by decide +kernel
theorem d_Wo_read_76 : decode c_Wo_read 76 = .ok (.getfield 32, 3) := by decide +kernel
theorem d_Wo_read_79 : decode c_Wo_read 79 = .ok (.iaload, 1) := by decide +kernel
theorem d_Wo_read_80 : decode c_Wo_read 80 = .ok (.iload_n 1, 1) := by decide +kernel
theorem d_Wo_read_81 : decode c_Wo_read 81 = .ok (.isub, 1) := by decide +kernel
theorem d_Wo_read_82 : decode c_Wo_read 82 = .ok (.istore_n 3, 1) := by decide +kernel
theorem d_Wo_read_83 : decode c_Wo_read 83 = .ok (.iload_n 3, 1) := by decide +kernel
theorem d_Wo_read_84 : decode c_Wo_read 84 = .ok (.aload_n 0, 1) := by decide +kernel
theorem d_Wo_read_85 : decode c_Wo_read 85 = .ok (.getfield 21, 3) := by decide +kernel
theorem d_Wo_read_88 : decode c_Wo_read 88 = .ok (.getfield 120, 3) := by decide +kernel
theorem d_Wo_read_91 : decode c_Wo_read 91 = .ok (.invokestatic 137, 3) := by decide +kernel
theorem d_Wo_read_94 : decode c_Wo_read 94 = .ok (.istore 4, 2) := by decide +kernel
theorem d_Wo_read_96 : decode c_Wo_read 96 = .ok (.iconst 0, 1) := by decide +kernel
theorem d_Wo_read_97 : decode c_Wo_read 97 = .ok (.istore 5, 2) := by decide +kernel
theorem d_Wo_read_99 : decode c_Wo_read 99 = .ok (.iload 5, 2) := by decide +kernel
theorem d_Wo_read_101 : decode c_Wo_read 101 = .ok (.iload 4, 2) := by decide +kernel
theorem d_Wo_read_103 : decode c_Wo_read 103 = .ok (.if_icmp .ge 34, 3) := by decide +kernel
theorem d_Wo_read_106 : decode c_Wo_read 106 = .ok (.aload_n 0, 1) := by decide +kernel
theorem d_Wo_read_107 : decode c_Wo_read 107 = .ok (.getfield 28, 3) := by decide +kernel
theorem d_Wo_read_110 : decode c_Wo_read 110 = .ok (.aload_n 0, 1) := by decide +kernel
theorem d_Wo_read_111 : decode c_Wo_read 111 = .ok (.getfield 12, 3) := by decide +kernel
theorem d_Wo_read_114 : decode c_Wo_read 114 = .ok (.getfield 89, 3) := by decide +kernel
theorem d_Wo_read_117 : decode c_Wo_read 117 = .ok (.aload_n 0, 1) := by decide +kernel
theorem d_Wo_read_118 : decode c_Wo_read 118 = .ok (.getfield 32, 3) := by decide +kernel
theorem d_Wo_read_121 : decode c_Wo_read 121 = .ok (.iload_n 1, 1) := by decide +kernel
theorem d_Wo_read_122 : decode c_Wo_read 122 = .ok (.iload 5, 2) := by decide +kernel
theorem d_Wo_read_124 : decode c_Wo_read 124 = .ok (.iadd, 1) := by decide +kernel
theorem d_Wo_read_125 : decode c_Wo_read 125 = .ok (.invokevirtual 142, 3) := by decide +kernel
theorem d_Wo_read_128 : decode c_Wo_read 128 = .ok (.invokevirtual 76, 3) := by decide +kernel
theorem d_Wo_read_131 : decode c_Wo_read 131 = .ok (.iinc 5 1, 3) := by decide +kernel
theorem d_Wo_read_134 : decode c_Wo_read 134 = .ok (.goto (-35), 3) := by decide +kernel
theorem d_Wo_read_137 : decode c_Wo_read 137 = .ok (.iload_n 3, 1) := by decide +kernel
theorem d_Wo_read_138 : decode c_Wo_read 138 = .ok (.aload_n 0, 1) := by decide +kernel
theorem d_Wo_read_139 : decode c_Wo_read 139 = .ok (.getfield 21, 3) := by decide +kernel
theorem d_Wo_read_142 : decode c_Wo_read 142 = .ok (.getfield 120, 3) := by decide +kernel
theorem d_Wo_read_145 : decode c_Wo_read 145 = .ok (.if_icmp .ge 9, 3) := by decide +kernel
theorem d_Wo_read_148 : decode c_Wo_read 148 = .ok (.sipush 25218, 3) := by decide +kernel
theorem d_Wo_read_151 : decode c_Wo_read 151 = .ok (.goto 5, 3) := by decide +kernel
theorem d_Wo_read_154 : decode c_Wo_read 154 = .ok (.ldc 108, 2) := by decide +kernel
theorem d_Wo_read_156 : decode c_Wo_read 156 = .ok (.ireturn, 1) := by decide +kernel
theorem d_Co_place_0 : decode c_Co_place 0 = .ok (.aload_n 0, 1) := by decide +kernel
theorem d_Co_place_1 : decode c_Co_place 1 = .ok (.invokevirtual 29, 3) := by decide +kernel
theorem d_Co_place_4 : decode c_Co_place 4 = .ok (.bipush 8, 2) := by decide +kernel
theorem d_Co_place_6 : decode c_Co_place 6 = .ok (.ishl, 1) := by decide +kernel
theorem d_Co_place_7 : decode c_Co_place 7 = .ok (.aload_n 0, 1) := by decide +kernel
theorem d_Co_place_8 : decode c_Co_place 8 = .ok (.invokevirtual 33, 3) := by decide +kernel
theorem d_Co_place_11 : decode c_Co_place 11 = .ok (.ior, 1) := by decide +kernel
theorem d_Co_place_12 : decode c_Co_place 12 = .ok (.ireturn, 1) := by decide +kernel
theorem d_Fi_mayRead_0 : decode c_Fi_mayRead 0 = .ok (.aload_n 0, 1) := by decide +kernel
theorem d_Fi_mayRead_1 : decode c_Fi_mayRead 1 = .ok (.iload_n 1, 1) := by decide +kernel
theorem d_Fi_mayRead_2 : decode c_Fi_mayRead 2 = .ok (.invokevirtual 34, 3) := by decide +kernel
theorem d_Fi_mayRead_5 : decode c_Fi_mayRead 5 = .ok (.ifCond .eq 20, 3) := by decide +kernel
theorem d_Fi_mayRead_8 : decode c_Fi_mayRead 8 = .ok (.aload_n 0, 1) := by decide +kernel
theorem d_Fi_mayRead_9 : decode c_Fi_mayRead 9 = .ok (.getfield 21, 3) := by decide +kernel
theorem d_Fi_mayRead_12 : decode c_Fi_mayRead 12 = .ok (.iload_n 1, 1) := by decide +kernel
theorem d_Fi_mayRead_13 : decode c_Fi_mayRead 13 = .ok (.iaload, 1) := by decide +kernel
theorem d_Fi_mayRead_14 : decode c_Fi_mayRead 14 = .ok (.iload_n 2, 1) := by decide +kernel
theorem d_Fi_mayRead_15 : decode c_Fi_mayRead 15 = .ok (.invokestatic 42, 3) := by decide +kernel
theorem d_Fi_mayRead_18 : decode c_Fi_mayRead 18 = .ok (.ifCond .eq 7, 3) := by decide +kernel
theorem d_Fi_mayRead_21 : decode c_Fi_mayRead 21 = .ok (.iconst 1, 1) := by decide +kernel
theorem d_Fi_mayRead_22 : decode c_Fi_mayRead 22 = .ok (.goto 4, 3) := by decide +kernel
theorem d_Fi_mayRead_25 : decode c_Fi_mayRead 25 = .ok (.iconst 0, 1) := by decide +kernel
theorem d_Fi_mayRead_26 : decode c_Fi_mayRead 26 = .ok (.ireturn, 1) := by decide +kernel
theorem d_Fi_allows_0 : decode c_Fi_allows 0 = .ok (.iload_n 0, 1) := by decide +kernel
theorem d_Fi_allows_1 : decode c_Fi_allows 1 = .ok (.ifCond .eq 12, 3) := by decide +kernel
theorem d_Fi_allows_4 : decode c_Fi_allows 4 = .ok (.iload_n 0, 1) := by decide +kernel
theorem d_Fi_allows_5 : decode c_Fi_allows 5 = .ok (.iconst 1, 1) := by decide +kernel
theorem d_Fi_allows_6 : decode c_Fi_allows 6 = .ok (.if_icmp .ne 11, 3) := by decide +kernel
theorem d_Fi_allows_9 : decode c_Fi_allows 9 = .ok (.iload_n 1, 1) := by decide +kernel
theorem d_Fi_allows_10 : decode c_Fi_allows 10 = .ok (.ifCond .eq 7, 3) := by decide +kernel
theorem d_Fi_allows_13 : decode c_Fi_allows 13 = .ok (.iconst 1, 1) := by decide +kernel
theorem d_Fi_allows_14 : decode c_Fi_allows 14 = .ok (.goto 4, 3) := by decide +kernel
theorem d_Fi_allows_17 : decode c_Fi_allows 17 = .ok (.iconst 0, 1) := by decide +kernel
theorem d_Fi_allows_18 : decode c_Fi_allows 18 = .ok (.ireturn, 1) := by decide +kernel
theorem d_Wo_testPlace_0 : decode c_Wo_testPlace 0 = .ok (.aload_n 0, 1) := by decide +kernel
theorem d_Wo_testPlace_1 : decode c_Wo_testPlace 1 = .ok (.getfield 32, 3) := by decide +kernel
theorem d_Wo_testPlace_4 : decode c_Wo_testPlace 4 = .ok (.iconst (-1), 1) := by decide +kernel
theorem d_Wo_testPlace_5 : decode c_Wo_testPlace 5 = .ok (.if_icmp .ne 7, 3) := by decide +kernel
theorem d_Wo_testPlace_8 : decode c_Wo_testPlace 8 = .ok (.sipush 27014, 3) := by decide +kernel
theorem d_Wo_testPlace_11 : decode c_Wo_testPlace 11 = .ok (.ireturn, 1) := by decide +kernel
theorem d_Wo_testPlace_12 : decode c_Wo_testPlace 12 = .ok (.iload_n 2, 1) := by decide +kernel
theorem d_Wo_testPlace_13 : decode c_Wo_testPlace 13 = .ok (.ifCond .ne 7, 3) := by decide +kernel
theorem d_Wo_testPlace_16 : decode c_Wo_testPlace 16 = .ok (.sipush 27010, 3) := by decide +kernel
theorem d_Wo_testPlace_19 : decode c_Wo_testPlace 19 = .ok (.ireturn, 1) := by decide +kernel
theorem d_Wo_testPlace_20 : decode c_Wo_testPlace 20 = .ok (.aload_n 0, 1) := by decide +kernel
theorem d_Wo_testPlace_21 : decode c_Wo_testPlace 21 = .ok (.getfield 12, 3) := by decide +kernel
theorem d_Wo_testPlace_24 : decode c_Wo_testPlace 24 = .ok (.getfield 89, 3) := by decide +kernel
theorem d_Wo_testPlace_27 : decode c_Wo_testPlace 27 = .ok (.aload_n 0, 1) := by decide +kernel
theorem d_Wo_testPlace_28 : decode c_Wo_testPlace 28 = .ok (.getfield 32, 3) := by decide +kernel
theorem d_Wo_testPlace_31 : decode c_Wo_testPlace 31 = .ok (.iload_n 1, 1) := by decide +kernel
theorem d_Wo_testPlace_32 : decode c_Wo_testPlace 32 = .ok (.invokevirtual 116, 3) := by decide +kernel
theorem d_Wo_testPlace_35 : decode c_Wo_testPlace 35 = .ok (.ifCond .eq 8, 3) := by decide +kernel
theorem d_Wo_testPlace_38 : decode c_Wo_testPlace 38 = .ok (.ldc 108, 2) := by decide +kernel
theorem d_Wo_testPlace_40 : decode c_Wo_testPlace 40 = .ok (.goto 6, 3) := by decide +kernel
theorem d_Wo_testPlace_43 : decode c_Wo_testPlace 43 = .ok (.sipush 27392, 3) := by decide +kernel
theorem d_Wo_testPlace_46 : decode c_Wo_testPlace 46 = .ok (.ireturn, 1) := by decide +kernel
theorem d_Fi_hasOctet_0 : decode c_Fi_hasOctet 0 = .ok (.iload_n 1, 1) := by decide +kernel
theorem d_Fi_hasOctet_1 : decode c_Fi_hasOctet 1 = .ok (.ifCond .lt 29, 3) := by decide +kernel
theorem d_Fi_hasOctet_4 : decode c_Fi_hasOctet 4 = .ok (.iload_n 1, 1) := by decide +kernel
theorem d_Fi_hasOctet_5 : decode c_Fi_hasOctet 5 = .ok (.aload_n 0, 1) := by decide +kernel
theorem d_Fi_hasOctet_6 : decode c_Fi_hasOctet 6 = .ok (.getfield 30, 3) := by decide +kernel
theorem d_Fi_hasOctet_9 : decode c_Fi_hasOctet 9 = .ok (.if_icmp .ge 21, 3) := by decide +kernel
theorem d_Fi_hasOctet_12 : decode c_Fi_hasOctet 12 = .ok (.iload_n 2, 1) := by decide +kernel
theorem d_Fi_hasOctet_13 : decode c_Fi_hasOctet 13 = .ok (.ifCond .lt 17, 3) := by decide +kernel
theorem d_Fi_hasOctet_16 : decode c_Fi_hasOctet 16 = .ok (.iload_n 2, 1) := by decide +kernel
theorem d_Fi_hasOctet_17 : decode c_Fi_hasOctet 17 = .ok (.aload_n 0, 1) := by decide +kernel
theorem d_Fi_hasOctet_18 : decode c_Fi_hasOctet 18 = .ok (.getfield 18, 3) := by decide +kernel
theorem d_Fi_hasOctet_21 : decode c_Fi_hasOctet 21 = .ok (.iload_n 1, 1) := by decide +kernel
theorem d_Fi_hasOctet_22 : decode c_Fi_hasOctet 22 = .ok (.iaload, 1) := by decide +kernel
theorem d_Fi_hasOctet_23 : decode c_Fi_hasOctet 23 = .ok (.if_icmp .ge 7, 3) := by decide +kernel
theorem d_Fi_hasOctet_26 : decode c_Fi_hasOctet 26 = .ok (.iconst 1, 1) := by decide +kernel
theorem d_Fi_hasOctet_27 : decode c_Fi_hasOctet 27 = .ok (.goto 4, 3) := by decide +kernel
theorem d_Fi_hasOctet_30 : decode c_Fi_hasOctet 30 = .ok (.iconst 0, 1) := by decide +kernel
theorem d_Fi_hasOctet_31 : decode c_Fi_hasOctet 31 = .ok (.ireturn, 1) := by decide +kernel
theorem d_Fi_octet_0 : decode c_Fi_octet 0 = .ok (.aload_n 0, 1) := by decide +kernel
theorem d_Fi_octet_1 : decode c_Fi_octet 1 = .ok (.iload_n 1, 1) := by decide +kernel
theorem d_Fi_octet_2 : decode c_Fi_octet 2 = .ok (.iload_n 2, 1) := by decide +kernel
theorem d_Fi_octet_3 : decode c_Fi_octet 3 = .ok (.invokevirtual 38, 3) := by decide +kernel
theorem d_Fi_octet_6 : decode c_Fi_octet 6 = .ok (.ifCond .eq 17, 3) := by decide +kernel
theorem d_Fi_octet_9 : decode c_Fi_octet 9 = .ok (.aload_n 0, 1) := by decide +kernel
theorem d_Fi_octet_10 : decode c_Fi_octet 10 = .ok (.getfield 27, 3) := by decide +kernel
theorem d_Fi_octet_13 : decode c_Fi_octet 13 = .ok (.iload_n 1, 1) := by decide +kernel
theorem d_Fi_octet_14 : decode c_Fi_octet 14 = .ok (.bipush 24, 2) := by decide +kernel
theorem d_Fi_octet_16 : decode c_Fi_octet 16 = .ok (.imul, 1) := by decide +kernel
theorem d_Fi_octet_17 : decode c_Fi_octet 17 = .ok (.iload_n 2, 1) := by decide +kernel
theorem d_Fi_octet_18 : decode c_Fi_octet 18 = .ok (.iadd, 1) := by decide +kernel
theorem d_Fi_octet_19 : decode c_Fi_octet 19 = .ok (.iaload, 1) := by decide +kernel
theorem d_Fi_octet_20 : decode c_Fi_octet 20 = .ok (.goto 4, 3) := by decide +kernel
theorem d_Fi_octet_23 : decode c_Fi_octet 23 = .ok (.iconst 0, 1) := by decide +kernel
theorem d_Fi_octet_24 : decode c_Fi_octet 24 = .ok (.ireturn, 1) := by decide +kernel
theorem d_An_add_0 : decode c_An_add 0 = .ok (.aload_n 0, 1) := by decide +kernel
theorem d_An_add_1 : decode c_An_add 1 = .ok (.getfield 15, 3) := by decide +kernel
theorem d_An_add_4 : decode c_An_add 4 = .ok (.aload_n 0, 1) := by decide +kernel
theorem d_An_add_5 : decode c_An_add 5 = .ok (.getfield 11, 3) := by decide +kernel
theorem d_An_add_8 : decode c_An_add 8 = .ok (.arraylength, 1) := by decide +kernel
theorem d_An_add_9 : decode c_An_add 9 = .ok (.if_icmp .ge 20, 3) := by decide +kernel
theorem d_An_add_12 : decode c_An_add 12 = .ok (.aload_n 0, 1) := by decide +kernel
theorem d_An_add_13 : decode c_An_add 13 = .ok (.getfield 11, 3) := by decide +kernel
theorem d_An_add_16 : decode c_An_add 16 = .ok (.aload_n 0, 1) := by decide +kernel
theorem d_An_add_17 : decode c_An_add 17 = .ok (.dup, 1) := by decide +kernel
theorem d_An_add_18 : decode c_An_add 18 = .ok (.getfield 15, 3) := by decide +kernel
theorem d_An_add_21 : decode c_An_add 21 = .ok (.dup_x1, 1) := by decide +kernel
theorem d_An_add_22 : decode c_An_add 22 = .ok (.iconst 1, 1) := by decide +kernel
theorem d_An_add_23 : decode c_An_add 23 = .ok (.iadd, 1) := by decide +kernel
theorem d_An_add_24 : decode c_An_add 24 = .ok (.putfield 15, 3) := by decide +kernel
theorem d_An_add_27 : decode c_An_add 27 = .ok (.iload_n 1, 1) := by decide +kernel
theorem d_An_add_28 : decode c_An_add 28 = .ok (.iastore, 1) := by decide +kernel
theorem d_An_add_29 : decode c_An_add 29 = .ok (.return_, 1) := by decide +kernel
theorem d_Wo_change_0 : decode c_Wo_change 0 = .ok (.aload_n 0, 1) := by decide +kernel
theorem d_Wo_change_1 : decode c_Wo_change 1 = .ok (.getfield 21, 3) := by decide +kernel
theorem d_Wo_change_4 : decode c_Wo_change 4 = .ok (.getfield 86, 3) := by decide +kernel
theorem d_Wo_change_7 : decode c_Wo_change 7 = .ok (.ifCond .eq 14, 3) := by decide +kernel
theorem d_Wo_change_10 : decode c_Wo_change 10 = .ok (.aload_n 0, 1) := by decide +kernel
theorem d_Wo_change_11 : decode c_Wo_change 11 = .ok (.getfield 21, 3) := by decide +kernel
theorem d_Wo_change_14 : decode c_Wo_change 14 = .ok (.getfield 120, 3) := by decide +kernel
theorem d_Wo_change_17 : decode c_Wo_change 17 = .ok (.iconst (-1), 1) := by decide +kernel
theorem d_Wo_change_18 : decode c_Wo_change 18 = .ok (.if_icmp .eq 7, 3) := by decide +kernel
theorem d_Wo_change_21 : decode c_Wo_change 21 = .ok (.sipush 26368, 3) := by decide +kernel
theorem d_Wo_change_24 : decode c_Wo_change 24 = .ok (.ireturn, 1) := by decide +kernel
theorem d_Wo_change_25 : decode c_Wo_change 25 = .ok (.aload_n 0, 1) := by decide +kernel
theorem d_Wo_change_26 : decode c_Wo_change 26 = .ok (.getfield 21, 3) := by decide +kernel
theorem d_Wo_change_29 : decode c_Wo_change 29 = .ok (.invokevirtual 123, 3) := by decide +kernel
theorem d_Wo_change_32 : decode c_Wo_change 32 = .ok (.istore_n 1, 1) := by decide +kernel
theorem d_Wo_change_33 : decode c_Wo_change 33 = .ok (.aload_n 0, 1) := by decide +kernel
theorem d_Wo_change_34 : decode c_Wo_change 34 = .ok (.iload_n 1, 1) := by decide +kernel
theorem d_Wo_change_35 : decode c_Wo_change 35 = .ok (.aload_n 0, 1) := by decide +kernel
theorem d_Wo_change_36 : decode c_Wo_change 36 = .ok (.getfield 12, 3) := by decide +kernel
theorem d_Wo_change_39 : decode c_Wo_change 39 = .ok (.getfield 89, 3) := by decide +kernel
theorem d_Wo_change_42 : decode c_Wo_change 42 = .ok (.aload_n 0, 1) := by decide +kernel
theorem d_Wo_change_43 : decode c_Wo_change 43 = .ok (.getfield 32, 3) := by decide +kernel
theorem d_Wo_change_46 : decode c_Wo_change 46 = .ok (.aload_n 0, 1) := by decide +kernel
theorem d_Wo_change_47 : decode c_Wo_change 47 = .ok (.getfield 36, 3) := by decide +kernel
theorem d_Wo_change_50 : decode c_Wo_change 50 = .ok (.invokevirtual 145, 3) := by decide +kernel
theorem d_Wo_change_53 : decode c_Wo_change 53 = .ok (.invokevirtual 130, 3) := by decide +kernel
theorem d_Wo_change_56 : decode c_Wo_change 56 = .ok (.istore_n 2, 1) := by decide +kernel
theorem d_Wo_change_57 : decode c_Wo_change 57 = .ok (.iload_n 2, 1) := by decide +kernel
theorem d_Wo_change_58 : decode c_Wo_change 58 = .ok (.ldc 108, 2) := by decide +kernel
theorem d_Wo_change_60 : decode c_Wo_change 60 = .ok (.if_icmp .eq 5, 3) := by decide +kernel
theorem d_Wo_change_63 : decode c_Wo_change 63 = .ok (.iload_n 2, 1) := by decide +kernel
theorem d_Wo_change_64 : decode c_Wo_change 64 = .ok (.ireturn, 1) := by decide +kernel
theorem d_Wo_change_65 : decode c_Wo_change 65 = .ok (.aload_n 0, 1) := by decide +kernel
theorem d_Wo_change_66 : decode c_Wo_change 66 = .ok (.getfield 12, 3) := by decide +kernel
theorem d_Wo_change_69 : decode c_Wo_change 69 = .ok (.getfield 89, 3) := by decide +kernel
theorem d_Wo_change_72 : decode c_Wo_change 72 = .ok (.aload_n 0, 1) := by decide +kernel
theorem d_Wo_change_73 : decode c_Wo_change 73 = .ok (.getfield 32, 3) := by decide +kernel
theorem d_Wo_change_76 : decode c_Wo_change 76 = .ok (.iload_n 1, 1) := by decide +kernel
theorem d_Wo_change_77 : decode c_Wo_change 77 = .ok (.aload_n 0, 1) := by decide +kernel
theorem d_Wo_change_78 : decode c_Wo_change 78 = .ok (.getfield 21, 3) := by decide +kernel
theorem d_Wo_change_81 : decode c_Wo_change 81 = .ok (.getfield 86, 3) := by decide +kernel
theorem d_Wo_change_84 : decode c_Wo_change 84 = .ok (.iadd, 1) := by decide +kernel
theorem d_Wo_change_85 : decode c_Wo_change 85 = .ok (.iconst 1, 1) := by decide +kernel
theorem d_Wo_change_86 : decode c_Wo_change 86 = .ok (.isub, 1) := by decide +kernel
theorem d_Wo_change_87 : decode c_Wo_change 87 = .ok (.invokevirtual 116, 3) := by decide +kernel
theorem d_Wo_change_90 : decode c_Wo_change 90 = .ok (.ifCond .ne 7, 3) := by decide +kernel
theorem d_Wo_change_93 : decode c_Wo_change 93 = .ok (.sipush 27268, 3) := by decide +kernel
theorem d_Wo_change_96 : decode c_Wo_change 96 = .ok (.ireturn, 1) := by decide +kernel
theorem d_Wo_change_97 : decode c_Wo_change 97 = .ok (.aload_n 0, 1) := by decide +kernel
theorem d_Wo_change_98 : decode c_Wo_change 98 = .ok (.getfield 12, 3) := by decide +kernel
theorem d_Wo_change_101 : decode c_Wo_change 101 = .ok (.aload_n 0, 1) := by decide +kernel
theorem d_Wo_change_102 : decode c_Wo_change 102 = .ok (.getfield 32, 3) := by decide +kernel
theorem d_Wo_change_105 : decode c_Wo_change 105 = .ok (.iload_n 1, 1) := by decide +kernel
theorem d_Wo_change_106 : decode c_Wo_change 106 = .ok (.aload_n 0, 1) := by decide +kernel
theorem d_Wo_change_107 : decode c_Wo_change 107 = .ok (.getfield 21, 3) := by decide +kernel
theorem d_Wo_change_110 : decode c_Wo_change 110 = .ok (.invokevirtual 148, 3) := by decide +kernel
theorem d_Wo_change_113 : decode c_Wo_change 113 = .ok (.ifCond .eq 18, 3) := by decide +kernel
theorem d_Wo_change_116 : decode c_Wo_change 116 = .ok (.aload_n 0, 1) := by decide +kernel
theorem d_Wo_change_117 : decode c_Wo_change 117 = .ok (.getfield 12, 3) := by decide +kernel
theorem d_Wo_change_120 : decode c_Wo_change 120 = .ok (.invokevirtual 152, 3) := by decide +kernel
theorem d_Wo_change_123 : decode c_Wo_change 123 = .ok (.ifCond .eq 8, 3) := by decide +kernel
theorem d_Wo_change_126 : decode c_Wo_change 126 = .ok (.ldc 108, 2) := by decide +kernel
theorem d_Wo_change_128 : decode c_Wo_change 128 = .ok (.goto 4, 3) := by decide +kernel
theorem d_Wo_change_131 : decode c_Wo_change 131 = .ok (.iconst (-1), 1) := by decide +kernel
theorem d_Wo_change_132 : decode c_Wo_change 132 = .ok (.ireturn, 1) := by decide +kernel
theorem d_Fi_mayChange_0 : decode c_Fi_mayChange 0 = .ok (.aload_n 0, 1) := by decide +kernel
theorem d_Fi_mayChange_1 : decode c_Fi_mayChange 1 = .ok (.iload_n 1, 1) := by decide +kernel
theorem d_Fi_mayChange_2 : decode c_Fi_mayChange 2 = .ok (.invokevirtual 34, 3) := by decide +kernel
theorem d_Fi_mayChange_5 : decode c_Fi_mayChange 5 = .ok (.ifCond .eq 20, 3) := by decide +kernel
theorem d_Fi_mayChange_8 : decode c_Fi_mayChange 8 = .ok (.aload_n 0, 1) := by decide +kernel
theorem d_Fi_mayChange_9 : decode c_Fi_mayChange 9 = .ok (.getfield 24, 3) := by decide +kernel
theorem d_Fi_mayChange_12 : decode c_Fi_mayChange 12 = .ok (.iload_n 1, 1) := by decide +kernel
theorem d_Fi_mayChange_13 : decode c_Fi_mayChange 13 = .ok (.iaload, 1) := by decide +kernel
theorem d_Fi_mayChange_14 : decode c_Fi_mayChange 14 = .ok (.iload_n 2, 1) := by decide +kernel
theorem d_Fi_mayChange_15 : decode c_Fi_mayChange 15 = .ok (.invokestatic 42, 3) := by decide +kernel
theorem d_Fi_mayChange_18 : decode c_Fi_mayChange 18 = .ok (.ifCond .eq 7, 3) := by decide +kernel
theorem d_Fi_mayChange_21 : decode c_Fi_mayChange 21 = .ok (.iconst 1, 1) := by decide +kernel
theorem d_Fi_mayChange_22 : decode c_Fi_mayChange 22 = .ok (.goto 4, 3) := by decide +kernel
theorem d_Fi_mayChange_25 : decode c_Fi_mayChange 25 = .ok (.iconst 0, 1) := by decide +kernel
theorem d_Fi_mayChange_26 : decode c_Fi_mayChange 26 = .ok (.ireturn, 1) := by decide +kernel
theorem d_Me_writeNote_0 : decode c_Me_writeNote 0 = .ok (.aload_n 3, 1) := by decide +kernel
theorem d_Me_writeNote_1 : decode c_Me_writeNote 1 = .ok (.getfield 35, 3) := by decide +kernel
theorem d_Me_writeNote_4 : decode c_Me_writeNote 4 = .ok (.aload_n 0, 1) := by decide +kernel
theorem d_Me_writeNote_5 : decode c_Me_writeNote 5 = .ok (.getfield 18, 3) := by decide +kernel
theorem d_Me_writeNote_8 : decode c_Me_writeNote 8 = .ok (.arraylength, 1) := by decide +kernel
theorem d_Me_writeNote_9 : decode c_Me_writeNote 9 = .ok (.invokestatic 40, 3) := by decide +kernel
theorem d_Me_writeNote_12 : decode c_Me_writeNote 12 = .ok (.istore 4, 2) := by decide +kernel
theorem d_Me_writeNote_14 : decode c_Me_writeNote 14 = .ok (.iconst 0, 1) := by decide +kernel
theorem d_Me_writeNote_15 : decode c_Me_writeNote 15 = .ok (.istore 5, 2) := by decide +kernel
theorem d_Me_writeNote_17 : decode c_Me_writeNote 17 = .ok (.iload 5, 2) := by decide +kernel
theorem d_Me_writeNote_19 : decode c_Me_writeNote 19 = .ok (.iload 4, 2) := by decide +kernel
theorem d_Me_writeNote_21 : decode c_Me_writeNote 21 = .ok (.iconst 2, 1) := by decide +kernel
theorem d_Me_writeNote_22 : decode c_Me_writeNote 22 = .ok (.iadd, 1) := by decide +kernel
theorem d_Me_writeNote_23 : decode c_Me_writeNote 23 = .ok (.if_icmp .ge 18, 3) := by decide +kernel
theorem d_Me_writeNote_26 : decode c_Me_writeNote 26 = .ok (.aload_n 0, 1) := by decide +kernel
theorem d_Me_writeNote_27 : decode c_Me_writeNote 27 = .ok (.invokevirtual 46, 3) := by decide +kernel
theorem d_Me_writeNote_30 : decode c_Me_writeNote 30 = .ok (.ifCond .ne 5, 3) := by decide +kernel
theorem d_Me_writeNote_33 : decode c_Me_writeNote 33 = .ok (.iconst 0, 1) := by decide +kernel
theorem d_Me_writeNote_34 : decode c_Me_writeNote 34 = .ok (.ireturn, 1) := by decide +kernel
theorem d_Me_writeNote_35 : decode c_Me_writeNote 35 = .ok (.iinc 5 1, 3) := by decide +kernel
theorem d_Me_writeNote_38 : decode c_Me_writeNote 38 = .ok (.goto (-21), 3) := by decide +kernel
theorem d_Me_writeNote_41 : decode c_Me_writeNote 41 = .ok (.aload_n 0, 1) := by decide +kernel
theorem d_Me_writeNote_42 : decode c_Me_writeNote 42 = .ok (.iload_n 1, 1) := by decide +kernel
theorem d_Me_writeNote_43 : decode c_Me_writeNote 43 = .ok (.putfield 50, 3) := by decide +kernel
theorem d_Me_writeNote_46 : decode c_Me_writeNote 46 = .ok (.aload_n 0, 1) := by decide +kernel
theorem d_Me_writeNote_47 : decode c_Me_writeNote 47 = .ok (.iload_n 2, 1) := by decide +kernel
theorem d_Me_writeNote_48 : decode c_Me_writeNote 48 = .ok (.putfield 53, 3) := by decide +kernel
theorem d_Me_writeNote_51 : decode c_Me_writeNote 51 = .ok (.aload_n 0, 1) := by decide +kernel
theorem d_Me_writeNote_52 : decode c_Me_writeNote 52 = .ok (.iload 4, 2) := by decide +kernel
theorem d_Me_writeNote_54 : decode c_Me_writeNote 54 = .ok (.putfield 56, 3) := by decide +kernel
theorem d_Me_writeNote_57 : decode c_Me_writeNote 57 = .ok (.iconst 0, 1) := by decide +kernel
theorem d_Me_writeNote_58 : decode c_Me_writeNote 58 = .ok (.istore 5, 2) := by decide +kernel
theorem d_Me_writeNote_60 : decode c_Me_writeNote 60 = .ok (.iload 5, 2) := by decide +kernel
theorem d_Me_writeNote_62 : decode c_Me_writeNote 62 = .ok (.iload 4, 2) := by decide +kernel
theorem d_Me_writeNote_64 : decode c_Me_writeNote 64 = .ok (.if_icmp .ge 22, 3) := by decide +kernel
theorem d_Me_writeNote_67 : decode c_Me_writeNote 67 = .ok (.aload_n 0, 1) := by decide +kernel
theorem d_Me_writeNote_68 : decode c_Me_writeNote 68 = .ok (.getfield 18, 3) := by decide +kernel
theorem d_Me_writeNote_71 : decode c_Me_writeNote 71 = .ok (.iload 5, 2) := by decide +kernel
theorem d_Me_writeNote_73 : decode c_Me_writeNote 73 = .ok (.aload_n 3, 1) := by decide +kernel
theorem d_Me_writeNote_74 : decode c_Me_writeNote 74 = .ok (.iload 5, 2) := by decide +kernel
theorem d_Me_writeNote_76 : decode c_Me_writeNote 76 = .ok (.invokevirtual 59, 3) := by decide +kernel
theorem d_Me_writeNote_79 : decode c_Me_writeNote 79 = .ok (.iastore, 1) := by decide +kernel
theorem d_Me_writeNote_80 : decode c_Me_writeNote 80 = .ok (.iinc 5 1, 3) := by decide +kernel
theorem d_Me_writeNote_83 : decode c_Me_writeNote 83 = .ok (.goto (-23), 3) := by decide +kernel
theorem d_Me_writeNote_86 : decode c_Me_writeNote 86 = .ok (.aload_n 0, 1) := by decide +kernel
theorem d_Me_writeNote_87 : decode c_Me_writeNote 87 = .ok (.iconst 1, 1) := by decide +kernel
theorem d_Me_writeNote_88 : decode c_Me_writeNote 88 = .ok (.putfield 63, 3) := by decide +kernel
theorem d_Me_writeNote_91 : decode c_Me_writeNote 91 = .ok (.iconst 1, 1) := by decide +kernel
theorem d_Me_writeNote_92 : decode c_Me_writeNote 92 = .ok (.ireturn, 1) := by decide +kernel
theorem d_Wo_tell_0 : decode c_Wo_tell 0 = .ok (.aload_n 0, 1) := by decide +kernel
theorem d_Wo_tell_1 : decode c_Wo_tell 1 = .ok (.getfield 21, 3) := by decide +kernel
theorem d_Wo_tell_4 : decode c_Wo_tell 4 = .ok (.invokevirtual 80, 3) := by decide +kernel
theorem d_Wo_tell_7 : decode c_Wo_tell 7 = .ok (.ifCond .ne 14, 3) := by decide +kernel
theorem d_Wo_tell_10 : decode c_Wo_tell 10 = .ok (.aload_n 0, 1) := by decide +kernel
theorem d_Wo_tell_11 : decode c_Wo_tell 11 = .ok (.getfield 21, 3) := by decide +kernel
theorem d_Wo_tell_14 : decode c_Wo_tell 14 = .ok (.invokevirtual 83, 3) := by decide +kernel
theorem d_Wo_tell_17 : decode c_Wo_tell 17 = .ok (.iconst 1, 1) := by decide +kernel
theorem d_Wo_tell_18 : decode c_Wo_tell 18 = .ok (.if_icmp .eq 7, 3) := by decide +kernel
theorem d_Wo_tell_21 : decode c_Wo_tell 21 = .ok (.sipush 27270, 3) := by decide +kernel
theorem d_Wo_tell_24 : decode c_Wo_tell 24 = .ok (.ireturn, 1) := by decide +kernel
theorem d_Wo_tell_25 : decode c_Wo_tell 25 = .ok (.aload_n 0, 1) := by decide +kernel
theorem d_Wo_tell_26 : decode c_Wo_tell 26 = .ok (.getfield 21, 3) := by decide +kernel
theorem d_Wo_tell_29 : decode c_Wo_tell 29 = .ok (.getfield 86, 3) := by decide +kernel
theorem d_Wo_tell_32 : decode c_Wo_tell 32 = .ok (.ifCond .ne 7, 3) := by decide +kernel
theorem d_Wo_tell_35 : decode c_Wo_tell 35 = .ok (.iconst 1, 1) := by decide +kernel
theorem d_Wo_tell_36 : decode c_Wo_tell 36 = .ok (.goto 4, 3) := by decide +kernel
theorem d_Wo_tell_39 : decode c_Wo_tell 39 = .ok (.iconst 0, 1) := by decide +kernel
theorem d_Wo_tell_40 : decode c_Wo_tell 40 = .ok (.istore_n 1, 1) := by decide +kernel
theorem d_Wo_tell_41 : decode c_Wo_tell 41 = .ok (.iload_n 1, 1) := by decide +kernel
theorem d_Wo_tell_42 : decode c_Wo_tell 42 = .ok (.ifCond .ne 14, 3) := by decide +kernel
theorem d_Wo_tell_45 : decode c_Wo_tell 45 = .ok (.aload_n 0, 1) := by decide +kernel
theorem d_Wo_tell_46 : decode c_Wo_tell 46 = .ok (.getfield 21, 3) := by decide +kernel
theorem d_Wo_tell_49 : decode c_Wo_tell 49 = .ok (.getfield 86, 3) := by decide +kernel
theorem d_Wo_tell_52 : decode c_Wo_tell 52 = .ok (.iconst 4, 1) := by decide +kernel
theorem d_Wo_tell_53 : decode c_Wo_tell 53 = .ok (.if_icmp .ne 14, 3) := by decide +kernel
theorem d_Wo_tell_56 : decode c_Wo_tell 56 = .ok (.aload_n 0, 1) := by decide +kernel
theorem d_Wo_tell_57 : decode c_Wo_tell 57 = .ok (.getfield 21, 3) := by decide +kernel
theorem d_Wo_tell_60 : decode c_Wo_tell 60 = .ok (.getfield 120, 3) := by decide +kernel
theorem d_Wo_tell_63 : decode c_Wo_tell 63 = .ok (.iconst (-1), 1) := by decide +kernel
theorem d_Wo_tell_64 : decode c_Wo_tell 64 = .ok (.if_icmp .eq 7, 3) := by decide +kernel
theorem d_Wo_tell_67 : decode c_Wo_tell 67 = .ok (.sipush 26368, 3) := by decide +kernel
theorem d_Wo_tell_70 : decode c_Wo_tell 70 = .ok (.ireturn, 1) := by decide +kernel
theorem d_Wo_tell_71 : decode c_Wo_tell 71 = .ok (.iload_n 1, 1) := by decide +kernel
theorem d_Wo_tell_72 : decode c_Wo_tell 72 = .ok (.ifCond .eq 13, 3) := by decide +kernel
theorem d_Wo_tell_75 : decode c_Wo_tell 75 = .ok (.aload_n 0, 1) := by decide +kernel
theorem d_Wo_tell_76 : decode c_Wo_tell 76 = .ok (.getfield 36, 3) := by decide +kernel
theorem d_Wo_tell_79 : decode c_Wo_tell 79 = .ok (.ifCond .eq 6, 3) := by decide +kernel
theorem d_Wo_tell_82 : decode c_Wo_tell 82 = .ok (.ldc 108, 2) := by decide +kernel
theorem d_Wo_tell_84 : decode c_Wo_tell 84 = .ok (.ireturn, 1) := by decide +kernel
theorem d_Wo_tell_85 : decode c_Wo_tell 85 = .ok (.aload_n 0, 1) := by decide +kernel
theorem d_Wo_tell_86 : decode c_Wo_tell 86 = .ok (.getfield 12, 3) := by decide +kernel
theorem d_Wo_tell_89 : decode c_Wo_tell 89 = .ok (.getfield 155, 3) := by decide +kernel
theorem d_Wo_tell_92 : decode c_Wo_tell 92 = .ok (.ifCond .ne 7, 3) := by decide +kernel
theorem d_Wo_tell_95 : decode c_Wo_tell 95 = .ok (.sipush 27011, 3) := by decide +kernel
theorem d_Wo_tell_98 : decode c_Wo_tell 98 = .ok (.ireturn, 1) := by decide +kernel
theorem d_Wo_tell_99 : decode c_Wo_tell 99 = .ok (.iload_n 1, 1) := by decide +kernel
theorem d_Wo_tell_100 : decode c_Wo_tell 100 = .ok (.ifCond .eq 17, 3) := by decide +kernel
theorem d_Wo_tell_103 : decode c_Wo_tell 103 = .ok (.sipush 25536, 3) := by decide +kernel
theorem d_Wo_tell_106 : decode c_Wo_tell 106 = .ok (.aload_n 0, 1) := by decide +kernel
theorem d_Wo_tell_107 : decode c_Wo_tell 107 = .ok (.getfield 12, 3) := by decide +kernel
theorem d_Wo_tell_110 : decode c_Wo_tell 110 = .ok (.getfield 155, 3) := by decide +kernel
theorem d_Wo_tell_113 : decode c_Wo_tell 113 = .ok (.iadd, 1) := by decide +kernel
theorem d_Wo_tell_114 : decode c_Wo_tell 114 = .ok (.goto 14, 3) := by decide +kernel
theorem d_Wo_tell_117 : decode c_Wo_tell 117 = .ok (.aload_n 0, 1) := by decide +kernel
theorem d_Wo_tell_118 : decode c_Wo_tell 118 = .ok (.aload_n 0, 1) := by decide +kernel
theorem d_Wo_tell_119 : decode c_Wo_tell 119 = .ok (.getfield 21, 3) := by decide +kernel
theorem d_Wo_tell_122 : decode c_Wo_tell 122 = .ok (.invokevirtual 158, 3) := by decide +kernel
theorem d_Wo_tell_125 : decode c_Wo_tell 125 = .ok (.invokevirtual 161, 3) := by decide +kernel
theorem d_Wo_tell_128 : decode c_Wo_tell 128 = .ok (.ireturn, 1) := by decide +kernel
theorem d_Co_dataAsSecret_0 : decode c_Co_dataAsSecret 0 = .ok (.aload_n 0, 1) := by decide +kernel
theorem d_Co_dataAsSecret_1 : decode c_Co_dataAsSecret 1 = .ok (.iconst 0, 1) := by decide +kernel
theorem d_Co_dataAsSecret_2 : decode c_Co_dataAsSecret 2 = .ok (.invokevirtual 36, 3) := by decide +kernel
theorem d_Co_dataAsSecret_5 : decode c_Co_dataAsSecret 5 = .ok (.bipush 24, 2) := by decide +kernel
theorem d_Co_dataAsSecret_7 : decode c_Co_dataAsSecret 7 = .ok (.ishl, 1) := by decide +kernel
theorem d_Co_dataAsSecret_8 : decode c_Co_dataAsSecret 8 = .ok (.aload_n 0, 1) := by decide +kernel
theorem d_Co_dataAsSecret_9 : decode c_Co_dataAsSecret 9 = .ok (.iconst 1, 1) := by decide +kernel
theorem d_Co_dataAsSecret_10 : decode c_Co_dataAsSecret 10 = .ok (.invokevirtual 36, 3) := by decide +kernel
theorem d_Co_dataAsSecret_13 : decode c_Co_dataAsSecret 13 = .ok (.bipush 16, 2) := by decide +kernel
theorem d_Co_dataAsSecret_15 : decode c_Co_dataAsSecret 15 = .ok (.ishl, 1) := by decide +kernel
theorem d_Co_dataAsSecret_16 : decode c_Co_dataAsSecret 16 = .ok (.ior, 1) := by decide +kernel
theorem d_Co_dataAsSecret_17 : decode c_Co_dataAsSecret 17 = .ok (.aload_n 0, 1) := by decide +kernel
theorem d_Co_dataAsSecret_18 : decode c_Co_dataAsSecret 18 = .ok (.iconst 2, 1) := by decide +kernel
theorem d_Co_dataAsSecret_19 : decode c_Co_dataAsSecret 19 = .ok (.invokevirtual 36, 3) := by decide +kernel
theorem d_Co_dataAsSecret_22 : decode c_Co_dataAsSecret 22 = .ok (.bipush 8, 2) := by decide +kernel
theorem d_Co_dataAsSecret_24 : decode c_Co_dataAsSecret 24 = .ok (.ishl, 1) := by decide +kernel
theorem d_Co_dataAsSecret_25 : decode c_Co_dataAsSecret 25 = .ok (.ior, 1) := by decide +kernel
theorem d_Co_dataAsSecret_26 : decode c_Co_dataAsSecret 26 = .ok (.aload_n 0, 1) := by decide +kernel
theorem d_Co_dataAsSecret_27 : decode c_Co_dataAsSecret 27 = .ok (.iconst 3, 1) := by decide +kernel
theorem d_Co_dataAsSecret_28 : decode c_Co_dataAsSecret 28 = .ok (.invokevirtual 36, 3) := by decide +kernel
theorem d_Co_dataAsSecret_31 : decode c_Co_dataAsSecret 31 = .ok (.ior, 1) := by decide +kernel
theorem d_Co_dataAsSecret_32 : decode c_Co_dataAsSecret 32 = .ok (.ireturn, 1) := by decide +kernel
theorem d_Wo_compareSecret_0 : decode c_Wo_compareSecret 0 = .ok (.aload_n 0, 1) := by decide +kernel
theorem d_Wo_compareSecret_1 : decode c_Wo_compareSecret 1 = .ok (.getfield 12, 3) := by decide +kernel
theorem d_Wo_compareSecret_4 : decode c_Wo_compareSecret 4 = .ok (.invokevirtual 165, 3) := by decide +kernel
theorem d_Wo_compareSecret_7 : decode c_Wo_compareSecret 7 = .ok (.ifCond .ne 5, 3) := by decide +kernel
theorem d_Wo_compareSecret_10 : decode c_Wo_compareSecret 10 = .ok (.iconst (-1), 1) := by decide +kernel
theorem d_Wo_compareSecret_11 : decode c_Wo_compareSecret 11 = .ok (.ireturn, 1) := by decide +kernel
theorem d_Wo_compareSecret_12 : decode c_Wo_compareSecret 12 = .ok (.aload_n 0, 1) := by decide +kernel
theorem d_Wo_compareSecret_13 : decode c_Wo_compareSecret 13 = .ok (.getfield 12, 3) := by decide +kernel
theorem d_Wo_compareSecret_16 : decode c_Wo_compareSecret 16 = .ok (.dup, 1) := by decide +kernel
theorem d_Wo_compareSecret_17 : decode c_Wo_compareSecret 17 = .ok (.getfield 155, 3) := by decide +kernel
theorem d_Wo_compareSecret_20 : decode c_Wo_compareSecret 20 = .ok (.iconst 1, 1) := by decide +kernel
theorem d_Wo_compareSecret_21 : decode c_Wo_compareSecret 21 = .ok (.isub, 1) := by decide +kernel
theorem d_Wo_compareSecret_22 : decode c_Wo_compareSecret 22 = .ok (.putfield 155, 3) := by decide +kernel
theorem d_Wo_compareSecret_25 : decode c_Wo_compareSecret 25 = .ok (.iload_n 1, 1) := by decide +kernel
theorem d_Wo_compareSecret_26 : decode c_Wo_compareSecret 26 = .ok (.aload_n 0, 1) := by decide +kernel
theorem d_Wo_compareSecret_27 : decode c_Wo_compareSecret 27 = .ok (.getfield 12, 3) := by decide +kernel
theorem d_Wo_compareSecret_30 : decode c_Wo_compareSecret 30 = .ok (.getfield 168, 3) := by decide +kernel
theorem d_Wo_compareSecret_33 : decode c_Wo_compareSecret 33 = .ok (.if_icmp .eq 20, 3) := by decide +kernel
theorem d_Wo_compareSecret_36 : decode c_Wo_compareSecret 36 = .ok (.aload_n 0, 1) := by decide +kernel
theorem d_Wo_compareSecret_37 : decode c_Wo_compareSecret 37 = .ok (.iconst 0, 1) := by decide +kernel
theorem d_Wo_compareSecret_38 : decode c_Wo_compareSecret 38 = .ok (.putfield 36, 3) := by decide +kernel
theorem d_Wo_compareSecret_41 : decode c_Wo_compareSecret 41 = .ok (.sipush 25536, 3) := by decide +kernel
theorem d_Wo_compareSecret_44 : decode c_Wo_compareSecret 44 = .ok (.aload_n 0, 1) := by decide +kernel
theorem d_Wo_compareSecret_45 : decode c_Wo_compareSecret 45 = .ok (.getfield 12, 3) := by decide +kernel
theorem d_Wo_compareSecret_48 : decode c_Wo_compareSecret 48 = .ok (.getfield 155, 3) := by decide +kernel
theorem d_Wo_compareSecret_51 : decode c_Wo_compareSecret 51 = .ok (.iadd, 1) := by decide +kernel
theorem d_Wo_compareSecret_52 : decode c_Wo_compareSecret 52 = .ok (.ireturn, 1) := by decide +kernel
theorem d_Wo_compareSecret_53 : decode c_Wo_compareSecret 53 = .ok (.aload_n 0, 1) := by decide +kernel
theorem d_Wo_compareSecret_54 : decode c_Wo_compareSecret 54 = .ok (.getfield 12, 3) := by decide +kernel
theorem d_Wo_compareSecret_57 : decode c_Wo_compareSecret 57 = .ok (.invokevirtual 165, 3) := by decide +kernel
theorem d_Wo_compareSecret_60 : decode c_Wo_compareSecret 60 = .ok (.ifCond .ne 5, 3) := by decide +kernel
theorem d_Wo_compareSecret_63 : decode c_Wo_compareSecret 63 = .ok (.iconst (-1), 1) := by decide +kernel
theorem d_Wo_compareSecret_64 : decode c_Wo_compareSecret 64 = .ok (.ireturn, 1) := by decide +kernel
theorem d_Wo_compareSecret_65 : decode c_Wo_compareSecret 65 = .ok (.aload_n 0, 1) := by decide +kernel
theorem d_Wo_compareSecret_66 : decode c_Wo_compareSecret 66 = .ok (.getfield 12, 3) := by decide +kernel
theorem d_Wo_compareSecret_69 : decode c_Wo_compareSecret 69 = .ok (.iconst 3, 1) := by decide +kernel
theorem d_Wo_compareSecret_70 : decode c_Wo_compareSecret 70 = .ok (.putfield 155, 3) := by decide +kernel
theorem d_Wo_compareSecret_73 : decode c_Wo_compareSecret 73 = .ok (.aload_n 0, 1) := by decide +kernel
theorem d_Wo_compareSecret_74 : decode c_Wo_compareSecret 74 = .ok (.iconst 1, 1) := by decide +kernel
theorem d_Wo_compareSecret_75 : decode c_Wo_compareSecret 75 = .ok (.putfield 36, 3) := by decide +kernel
theorem d_Wo_compareSecret_78 : decode c_Wo_compareSecret 78 = .ok (.ldc 108, 2) := by decide +kernel
theorem d_Wo_compareSecret_80 : decode c_Wo_compareSecret 80 = .ok (.ireturn, 1) := by decide +kernel
theorem d_Wo_renew_0 : decode c_Wo_renew 0 = .ok (.aload_n 0, 1) := by decide +kernel
theorem d_Wo_renew_1 : decode c_Wo_renew 1 = .ok (.getfield 21, 3) := by decide +kernel
theorem d_Wo_renew_4 : decode c_Wo_renew 4 = .ok (.invokevirtual 80, 3) := by decide +kernel
theorem d_Wo_renew_7 : decode c_Wo_renew 7 = .ok (.ifCond .ne 13, 3) := by decide +kernel
theorem d_Wo_renew_10 : decode c_Wo_renew 10 = .ok (.aload_n 0, 1) := by decide +kernel
theorem d_Wo_renew_11 : decode c_Wo_renew 11 = .ok (.getfield 21, 3) := by decide +kernel
theorem d_Wo_renew_14 : decode c_Wo_renew 14 = .ok (.invokevirtual 83, 3) := by decide +kernel
theorem d_Wo_renew_17 : decode c_Wo_renew 17 = .ok (.ifCond .eq 7, 3) := by decide +kernel
theorem d_Wo_renew_20 : decode c_Wo_renew 20 = .ok (.sipush 27270, 3) := by decide +kernel
theorem d_Wo_renew_23 : decode c_Wo_renew 23 = .ok (.ireturn, 1) := by decide +kernel
theorem d_Wo_renew_24 : decode c_Wo_renew 24 = .ok (.aload_n 0, 1) := by decide +kernel
theorem d_Wo_renew_25 : decode c_Wo_renew 25 = .ok (.getfield 21, 3) := by decide +kernel
theorem d_Wo_renew_28 : decode c_Wo_renew 28 = .ok (.getfield 86, 3) := by decide +kernel
theorem d_Wo_renew_31 : decode c_Wo_renew 31 = .ok (.iconst 4, 1) := by decide +kernel
theorem d_Wo_renew_32 : decode c_Wo_renew 32 = .ok (.if_icmp .ne 14, 3) := by decide +kernel
theorem d_Wo_renew_35 : decode c_Wo_renew 35 = .ok (.aload_n 0, 1) := by decide +kernel
theorem d_Wo_renew_36 : decode c_Wo_renew 36 = .ok (.getfield 21, 3) := by decide +kernel
theorem d_Wo_renew_39 : decode c_Wo_renew 39 = .ok (.getfield 120, 3) := by decide +kernel
theorem d_Wo_renew_42 : decode c_Wo_renew 42 = .ok (.iconst (-1), 1) := by decide +kernel
theorem d_Wo_renew_43 : decode c_Wo_renew 43 = .ok (.if_icmp .eq 7, 3) := by decide +kernel
theorem d_Wo_renew_46 : decode c_Wo_renew 46 = .ok (.sipush 26368, 3) := by decide +kernel
theorem d_Wo_renew_49 : decode c_Wo_renew 49 = .ok (.ireturn, 1) := by decide +kernel
theorem d_Wo_renew_50 : decode c_Wo_renew 50 = .ok (.aload_n 0, 1) := by decide +kernel
theorem d_Wo_renew_51 : decode c_Wo_renew 51 = .ok (.getfield 36, 3) := by decide +kernel
theorem d_Wo_renew_54 : decode c_Wo_renew 54 = .ok (.ifCond .ne 7, 3) := by decide +kernel
theorem d_Wo_renew_57 : decode c_Wo_renew 57 = .ok (.sipush 27010, 3) := by decide +kernel
theorem d_Wo_renew_60 : decode c_Wo_renew 60 = .ok (.ireturn, 1) := by decide +kernel
theorem d_Wo_renew_61 : decode c_Wo_renew 61 = .ok (.aload_n 0, 1) := by decide +kernel
theorem d_Wo_renew_62 : decode c_Wo_renew 62 = .ok (.getfield 12, 3) := by decide +kernel
theorem d_Wo_renew_65 : decode c_Wo_renew 65 = .ok (.invokevirtual 165, 3) := by decide +kernel
theorem d_Wo_renew_68 : decode c_Wo_renew 68 = .ok (.ifCond .ne 5, 3) := by decide +kernel
theorem d_Wo_renew_71 : decode c_Wo_renew 71 = .ok (.iconst (-1), 1) := by decide +kernel
theorem d_Wo_renew_72 : decode c_Wo_renew 72 = .ok (.ireturn, 1) := by decide +kernel
theorem d_Wo_renew_73 : decode c_Wo_renew 73 = .ok (.aload_n 0, 1) := by decide +kernel
theorem d_Wo_renew_74 : decode c_Wo_renew 74 = .ok (.getfield 12, 3) := by decide +kernel
theorem d_Wo_renew_77 : decode c_Wo_renew 77 = .ok (.aload_n 0, 1) := by decide +kernel
theorem d_Wo_renew_78 : decode c_Wo_renew 78 = .ok (.getfield 21, 3) := by decide +kernel
theorem d_Wo_renew_81 : decode c_Wo_renew 81 = .ok (.invokevirtual 158, 3) := by decide +kernel
theorem d_Wo_renew_84 : decode c_Wo_renew 84 = .ok (.putfield 168, 3) := by decide +kernel
theorem d_Wo_renew_87 : decode c_Wo_renew 87 = .ok (.ldc 108, 2) := by decide +kernel
theorem d_Wo_renew_89 : decode c_Wo_renew 89 = .ok (.ireturn, 1) := by decide +kernel
theorem d_Wo_conclude_0 : decode c_Wo_conclude 0 = .ok (.aload_n 0, 1) := by decide +kernel
theorem d_Wo_conclude_1 : decode c_Wo_conclude 1 = .ok (.getfield 21, 3) := by decide +kernel
theorem d_Wo_conclude_4 : decode c_Wo_conclude 4 = .ok (.invokevirtual 46, 3) := by decide +kernel
theorem d_Wo_conclude_7 : decode c_Wo_conclude 7 = .ok (.aload_n 0, 1) := by decide +kernel
theorem d_Wo_conclude_8 : decode c_Wo_conclude 8 = .ok (.getfield 28, 3) := by decide +kernel
theorem d_Wo_conclude_11 : decode c_Wo_conclude 11 = .ok (.iload_n 1, 1) := by decide +kernel
theorem d_Wo_conclude_12 : decode c_Wo_conclude 12 = .ok (.bipush 8, 2) := by decide +kernel
theorem d_Wo_conclude_14 : decode c_Wo_conclude 14 = .ok (.ishr, 1) := by decide +kernel
theorem d_Wo_conclude_15 : decode c_Wo_conclude 15 = .ok (.invokevirtual 76, 3) := by decide +kernel
theorem d_Wo_conclude_18 : decode c_Wo_conclude 18 = .ok (.aload_n 0, 1) := by decide +kernel
theorem d_Wo_conclude_19 : decode c_Wo_conclude 19 = .ok (.getfield 28, 3) := by decide +kernel
theorem d_Wo_conclude_22 : decode c_Wo_conclude 22 = .ok (.iload_n 1, 1) := by decide +kernel
theorem d_Wo_conclude_23 : decode c_Wo_conclude 23 = .ok (.sipush 255, 3) := by decide +kernel
theorem d_Wo_conclude_26 : decode c_Wo_conclude 26 = .ok (.iand, 1) := by decide +kernel
theorem d_Wo_conclude_27 : decode c_Wo_conclude 27 = .ok (.invokevirtual 76, 3) := by decide +kernel
theorem d_Wo_conclude_30 : decode c_Wo_conclude 30 = .ok (.return_, 1) := by decide +kernel
theorem d_Li_sendPiece_0 : decode c_Li_sendPiece 0 = .ok (.aload_n 0, 1) := by decide +kernel
theorem d_Li_sendPiece_1 : decode c_Li_sendPiece 1 = .ok (.getfield 21, 3) := by decide +kernel
theorem d_Li_sendPiece_4 : decode c_Li_sendPiece 4 = .ok (.aload_n 1, 1) := by decide +kernel
theorem d_Li_sendPiece_5 : decode c_Li_sendPiece 5 = .ok (.invokevirtual 68, 3) := by decide +kernel
theorem d_Li_sendPiece_8 : decode c_Li_sendPiece 8 = .ok (.invokestatic 73, 3) := by decide +kernel
theorem d_Li_sendPiece_11 : decode c_Li_sendPiece 11 = .ok (.istore_n 2, 1) := by decide +kernel
theorem d_Li_sendPiece_12 : decode c_Li_sendPiece 12 = .ok (.aload_n 0, 1) := by decide +kernel
theorem d_Li_sendPiece_13 : decode c_Li_sendPiece 13 = .ok (.bipush 64, 2) := by decide +kernel
theorem d_Li_sendPiece_15 : decode c_Li_sendPiece 15 = .ok (.aload_n 0, 1) := by decide +kernel
theorem d_Li_sendPiece_16 : decode c_Li_sendPiece 16 = .ok (.getfield 37, 3) := by decide +kernel
theorem d_Li_sendPiece_19 : decode c_Li_sendPiece 19 = .ok (.imul, 1) := by decide +kernel
theorem d_Li_sendPiece_20 : decode c_Li_sendPiece 20 = .ok (.iload_n 2, 1) := by decide +kernel
theorem d_Li_sendPiece_21 : decode c_Li_sendPiece 21 = .ok (.aload_n 1, 1) := by decide +kernel
theorem d_Li_sendPiece_22 : decode c_Li_sendPiece 22 = .ok (.invokevirtual 68, 3) := by decide +kernel
theorem d_Li_sendPiece_25 : decode c_Li_sendPiece 25 = .ok (.if_icmp .ge 8, 3) := by decide +kernel
theorem d_Li_sendPiece_28 : decode c_Li_sendPiece 28 = .ok (.bipush 32, 2) := by decide +kernel
theorem d_Li_sendPiece_30 : decode c_Li_sendPiece 30 = .ok (.goto 4, 3) := by decide +kernel
theorem d_Li_sendPiece_33 : decode c_Li_sendPiece 33 = .ok (.iconst 0, 1) := by decide +kernel
theorem d_Li_sendPiece_34 : decode c_Li_sendPiece 34 = .ok (.iadd, 1) := by decide +kernel
theorem d_Li_sendPiece_35 : decode c_Li_sendPiece 35 = .ok (.invokevirtual 58, 3) := by decide +kernel
theorem d_Li_sendPiece_38 : decode c_Li_sendPiece 38 = .ok (.iconst 0, 1) := by decide +kernel
theorem d_Li_sendPiece_39 : decode c_Li_sendPiece 39 = .ok (.istore_n 3, 1) := by decide +kernel
theorem d_Li_sendPiece_40 : decode c_Li_sendPiece 40 = .ok (.iload_n 3, 1) := by decide +kernel
theorem d_Li_sendPiece_41 : decode c_Li_sendPiece 41 = .ok (.iload_n 2, 1) := by decide +kernel
theorem d_Li_sendPiece_42 : decode c_Li_sendPiece 42 = .ok (.if_icmp .ge 17, 3) := by decide +kernel
theorem d_Li_sendPiece_45 : decode c_Li_sendPiece 45 = .ok (.aload_n 0, 1) := by decide +kernel
theorem d_Li_sendPiece_46 : decode c_Li_sendPiece 46 = .ok (.aload_n 1, 1) := by decide +kernel
theorem d_Li_sendPiece_47 : decode c_Li_sendPiece 47 = .ok (.invokevirtual 79, 3) := by decide +kernel
theorem d_Li_sendPiece_50 : decode c_Li_sendPiece 50 = .ok (.invokevirtual 65, 3) := by decide +kernel
theorem d_Li_sendPiece_53 : decode c_Li_sendPiece 53 = .ok (.iinc 3 1, 3) := by decide +kernel
theorem d_Li_sendPiece_56 : decode c_Li_sendPiece 56 = .ok (.goto (-16), 3) := by decide +kernel
theorem d_Li_sendPiece_59 : decode c_Li_sendPiece 59 = .ok (.aload_n 0, 1) := by decide +kernel
theorem d_Li_sendPiece_60 : decode c_Li_sendPiece 60 = .ok (.invokevirtual 62, 3) := by decide +kernel
theorem d_Li_sendPiece_63 : decode c_Li_sendPiece 63 = .ok (.aload_n 0, 1) := by decide +kernel
theorem d_Li_sendPiece_64 : decode c_Li_sendPiece 64 = .ok (.dup, 1) := by decide +kernel
theorem d_Li_sendPiece_65 : decode c_Li_sendPiece 65 = .ok (.getfield 37, 3) := by decide +kernel
theorem d_Li_sendPiece_68 : decode c_Li_sendPiece 68 = .ok (.iconst 1, 1) := by decide +kernel
theorem d_Li_sendPiece_69 : decode c_Li_sendPiece 69 = .ok (.ixor, 1) := by decide +kernel
theorem d_Li_sendPiece_70 : decode c_Li_sendPiece 70 = .ok (.putfield 37, 3) := by decide +kernel
theorem d_Li_sendPiece_73 : decode c_Li_sendPiece 73 = .ok (.aload_n 0, 1) := by decide +kernel
theorem d_Li_sendPiece_74 : decode c_Li_sendPiece 74 = .ok (.getfield 15, 3) := by decide +kernel
theorem d_Li_sendPiece_77 : decode c_Li_sendPiece 77 = .ok (.iconst 0, 1) := by decide +kernel
theorem d_Li_sendPiece_78 : decode c_Li_sendPiece 78 = .ok (.aload_n 0, 1) := by decide +kernel
theorem d_Li_sendPiece_79 : decode c_Li_sendPiece 79 = .ok (.getfield 18, 3) := by decide +kernel
theorem d_Li_sendPiece_82 : decode c_Li_sendPiece 82 = .ok (.iconst 0, 1) := by decide +kernel
theorem d_Li_sendPiece_83 : decode c_Li_sendPiece 83 = .ok (.aload_n 0, 1) := by decide +kernel
theorem d_Li_sendPiece_84 : decode c_Li_sendPiece 84 = .ok (.getfield 31, 3) := by decide +kernel
theorem d_Li_sendPiece_87 : decode c_Li_sendPiece 87 = .ok (.invokestatic 82, 3) := by decide +kernel
theorem d_Li_sendPiece_90 : decode c_Li_sendPiece 90 = .ok (.aload_n 0, 1) := by decide +kernel
theorem d_Li_sendPiece_91 : decode c_Li_sendPiece 91 = .ok (.aload_n 0, 1) := by decide +kernel
theorem d_Li_sendPiece_92 : decode c_Li_sendPiece 92 = .ok (.getfield 31, 3) := by decide +kernel
theorem d_Li_sendPiece_95 : decode c_Li_sendPiece 95 = .ok (.putfield 40, 3) := by decide +kernel
theorem d_Li_sendPiece_98 : decode c_Li_sendPiece 98 = .ok (.return_, 1) := by decide +kernel
theorem d_An_left_0 : decode c_An_left 0 = .ok (.aload_n 0, 1) := by decide +kernel
theorem d_An_left_1 : decode c_An_left 1 = .ok (.getfield 15, 3) := by decide +kernel
theorem d_An_left_4 : decode c_An_left 4 = .ok (.aload_n 0, 1) := by decide +kernel
theorem d_An_left_5 : decode c_An_left 5 = .ok (.getfield 19, 3) := by decide +kernel
theorem d_An_left_8 : decode c_An_left 8 = .ok (.isub, 1) := by decide +kernel
theorem d_An_left_9 : decode c_An_left 9 = .ok (.ireturn, 1) := by decide +kernel
theorem d_An_next_0 : decode c_An_next 0 = .ok (.aload_n 0, 1) := by decide +kernel
theorem d_An_next_1 : decode c_An_next 1 = .ok (.getfield 19, 3) := by decide +kernel
theorem d_An_next_4 : decode c_An_next 4 = .ok (.aload_n 0, 1) := by decide +kernel
theorem d_An_next_5 : decode c_An_next 5 = .ok (.getfield 15, 3) := by decide +kernel
theorem d_An_next_8 : decode c_An_next 8 = .ok (.if_icmp .ge 22, 3) := by decide +kernel
theorem d_An_next_11 : decode c_An_next 11 = .ok (.aload_n 0, 1) := by decide +kernel
theorem d_An_next_12 : decode c_An_next 12 = .ok (.getfield 11, 3) := by decide +kernel
theorem d_An_next_15 : decode c_An_next 15 = .ok (.aload_n 0, 1) := by decide +kernel
theorem d_An_next_16 : decode c_An_next 16 = .ok (.dup, 1) := by decide +kernel
theorem d_An_next_17 : decode c_An_next 17 = .ok (.getfield 19, 3) := by decide +kernel
theorem d_An_next_20 : decode c_An_next 20 = .ok (.dup_x1, 1) := by decide +kernel
theorem d_An_next_21 : decode c_An_next 21 = .ok (.iconst 1, 1) := by decide +kernel
theorem d_An_next_22 : decode c_An_next 22 = .ok (.iadd, 1) := by decide +kernel
theorem d_An_next_23 : decode c_An_next 23 = .ok (.putfield 19, 3) := by decide +kernel
theorem d_An_next_26 : decode c_An_next 26 = .ok (.iaload, 1) := by decide +kernel
theorem d_An_next_27 : decode c_An_next 27 = .ok (.goto 4, 3) := by decide +kernel
theorem d_An_next_30 : decode c_An_next 30 = .ok (.iconst 0, 1) := by decide +kernel
theorem d_An_next_31 : decode c_An_next 31 = .ok (.ireturn, 1) := by decide +kernel
theorem d_Li_append_0 : decode c_Li_append 0 = .ok (.aload_n 0, 1) := by decide +kernel
theorem d_Li_append_1 : decode c_Li_append 1 = .ok (.getfield 31, 3) := by decide +kernel
theorem d_Li_append_4 : decode c_Li_append 4 = .ok (.bipush 35, 2) := by decide +kernel
theorem d_Li_append_6 : decode c_Li_append 6 = .ok (.if_icmp .ge 30, 3) := by decide +kernel
theorem d_Li_append_9 : decode c_Li_append 9 = .ok (.aload_n 0, 1) := by decide +kernel
theorem d_Li_append_10 : decode c_Li_append 10 = .ok (.getfield 15, 3) := by decide +kernel
theorem d_Li_append_13 : decode c_Li_append 13 = .ok (.aload_n 0, 1) := by decide +kernel
theorem d_Li_append_14 : decode c_Li_append 14 = .ok (.dup, 1) := by decide +kernel
theorem d_Li_append_15 : decode c_Li_append 15 = .ok (.getfield 31, 3) := by decide +kernel
theorem d_Li_append_18 : decode c_Li_append 18 = .ok (.dup_x1, 1) := by decide +kernel
theorem d_Li_append_19 : decode c_Li_append 19 = .ok (.iconst 1, 1) := by decide +kernel
theorem d_Li_append_20 : decode c_Li_append 20 = .ok (.iadd, 1) := by decide +kernel
theorem d_Li_append_21 : decode c_Li_append 21 = .ok (.putfield 31, 3) := by decide +kernel
theorem d_Li_append_24 : decode c_Li_append 24 = .ok (.iload_n 1, 1) := by decide +kernel
theorem d_Li_append_25 : decode c_Li_append 25 = .ok (.iastore, 1) := by decide +kernel
theorem d_Li_append_26 : decode c_Li_append 26 = .ok (.aload_n 0, 1) := by decide +kernel
theorem d_Li_append_27 : decode c_Li_append 27 = .ok (.getfield 15, 3) := by decide +kernel
theorem d_Li_append_30 : decode c_Li_append 30 = .ok (.iconst 2, 1) := by decide +kernel
theorem d_Li_append_31 : decode c_Li_append 31 = .ok (.dup2, 1) := by decide +kernel
theorem d_Li_append_32 : decode c_Li_append 32 = .ok (.iaload, 1) := by decide +kernel
theorem d_Li_append_33 : decode c_Li_append 33 = .ok (.iconst 1, 1) := by decide +kernel
theorem d_Li_append_34 : decode c_Li_append 34 = .ok (.iadd, 1) := by decide +kernel
theorem d_Li_append_35 : decode c_Li_append 35 = .ok (.iastore, 1) := by decide +kernel
theorem d_Li_append_36 : decode c_Li_append 36 = .ok (.return_, 1) := by decide +kernel
theorem d_Ca_takeReady_0 : decode c_Ca_takeReady 0 = .ok (.aload_n 0, 1) := by decide +kernel
theorem d_Ca_takeReady_1 : decode c_Ca_takeReady 1 = .ok (.getfield 10, 3) := by decide +kernel
theorem d_Ca_takeReady_4 : decode c_Ca_takeReady 4 = .ok (.invokevirtual 207, 3) := by decide +kernel
theorem d_Ca_takeReady_7 : decode c_Ca_takeReady 7 = .ok (.ifCond .eq 5, 3) := by decide +kernel
theorem d_Ca_takeReady_10 : decode c_Ca_takeReady 10 = .ok (.iconst 2, 1) := by decide +kernel
theorem d_Ca_takeReady_11 : decode c_Ca_takeReady 11 = .ok (.ireturn, 1) := by decide +kernel
theorem d_Ca_takeReady_12 : decode c_Ca_takeReady 12 = .ok (.iload_n 1, 1) := by decide +kernel
theorem d_Ca_takeReady_13 : decode c_Ca_takeReady 13 = .ok (.aload_n 0, 1) := by decide +kernel
theorem d_Ca_takeReady_14 : decode c_Ca_takeReady 14 = .ok (.getfield 10, 3) := by decide +kernel
theorem d_Ca_takeReady_17 : decode c_Ca_takeReady 17 = .ok (.getfield 157, 3) := by decide +kernel
theorem d_Ca_takeReady_20 : decode c_Ca_takeReady 20 = .ok (.if_icmp .ne 33, 3) := by decide +kernel
theorem d_Ca_takeReady_23 : decode c_Ca_takeReady 23 = .ok (.aload_n 0, 1) := by decide +kernel
theorem d_Ca_takeReady_24 : decode c_Ca_takeReady 24 = .ok (.getfield 19, 3) := by decide +kernel
theorem d_Ca_takeReady_27 : decode c_Ca_takeReady 27 = .ok (.getfield 172, 3) := by decide +kernel
theorem d_Ca_takeReady_30 : decode c_Ca_takeReady 30 = .ok (.invokevirtual 176, 3) := by decide +kernel
theorem d_Ca_takeReady_33 : decode c_Ca_takeReady 33 = .ok (.ifCond .le 20, 3) := by decide +kernel
theorem d_Ca_takeReady_36 : decode c_Ca_takeReady 36 = .ok (.aload_n 0, 1) := by decide +kernel
theorem d_Ca_takeReady_37 : decode c_Ca_takeReady 37 = .ok (.getfield 10, 3) := by decide +kernel
theorem d_Ca_takeReady_40 : decode c_Ca_takeReady 40 = .ok (.aload_n 0, 1) := by decide +kernel
theorem d_Ca_takeReady_41 : decode c_Ca_takeReady 41 = .ok (.getfield 19, 3) := by decide +kernel
theorem d_Ca_takeReady_44 : decode c_Ca_takeReady 44 = .ok (.getfield 172, 3) := by decide +kernel
theorem d_Ca_takeReady_47 : decode c_Ca_takeReady 47 = .ok (.invokevirtual 221, 3) := by decide +kernel
theorem d_Ca_takeReady_50 : decode c_Ca_takeReady 50 = .ok (.goto 42, 3) := by decide +kernel
theorem d_Ca_takeReady_53 : decode c_Ca_takeReady 53 = .ok (.iload_n 1, 1) := by decide +kernel
theorem d_Ca_takeReady_54 : decode c_Ca_takeReady 54 = .ok (.aload_n 0, 1) := by decide +kernel
theorem d_Ca_takeReady_55 : decode c_Ca_takeReady 55 = .ok (.getfield 10, 3) := by decide +kernel
theorem d_Ca_takeReady_58 : decode c_Ca_takeReady 58 = .ok (.getfield 157, 3) := by decide +kernel
theorem d_Ca_takeReady_61 : decode c_Ca_takeReady 61 = .ok (.if_icmp .eq 23, 3) := by decide +kernel
theorem d_Ca_takeReady_64 : decode c_Ca_takeReady 64 = .ok (.aload_n 0, 1) := by decide +kernel
theorem d_Ca_takeReady_65 : decode c_Ca_takeReady 65 = .ok (.getfield 10, 3) := by decide +kernel
theorem d_Ca_takeReady_68 : decode c_Ca_takeReady 68 = .ok (.getfield 225, 3) := by decide +kernel
theorem d_Ca_takeReady_71 : decode c_Ca_takeReady 71 = .ok (.ifCond .le 13, 3) := by decide +kernel
theorem d_Ca_takeReady_74 : decode c_Ca_takeReady 74 = .ok (.aload_n 0, 1) := by decide +kernel
theorem d_Ca_takeReady_75 : decode c_Ca_takeReady 75 = .ok (.getfield 10, 3) := by decide +kernel
theorem d_Ca_takeReady_78 : decode c_Ca_takeReady 78 = .ok (.invokevirtual 228, 3) := by decide +kernel
theorem d_Ca_takeReady_81 : decode c_Ca_takeReady 81 = .ok (.goto 11, 3) := by decide +kernel
theorem d_Ca_takeReady_84 : decode c_Ca_takeReady 84 = .ok (.aload_n 0, 1) := by decide +kernel
theorem d_Ca_takeReady_85 : decode c_Ca_takeReady 85 = .ok (.getfield 10, 3) := by decide +kernel
theorem d_Ca_takeReady_88 : decode c_Ca_takeReady 88 = .ok (.iconst 0, 1) := by decide +kernel
theorem d_Ca_takeReady_89 : decode c_Ca_takeReady 89 = .ok (.invokevirtual 201, 3) := by decide +kernel
theorem d_Ca_takeReady_92 : decode c_Ca_takeReady 92 = .ok (.iconst 0, 1) := by decide +kernel
theorem d_Ca_takeReady_93 : decode c_Ca_takeReady 93 = .ok (.ireturn, 1) := by decide +kernel
theorem d_Li_sendAgain_0 : decode c_Li_sendAgain 0 = .ok (.aload_n 0, 1) := by decide +kernel
theorem d_Li_sendAgain_1 : decode c_Li_sendAgain 1 = .ok (.getfield 18, 3) := by decide +kernel
theorem d_Li_sendAgain_4 : decode c_Li_sendAgain 4 = .ok (.iconst 0, 1) := by decide +kernel
theorem d_Li_sendAgain_5 : decode c_Li_sendAgain 5 = .ok (.aload_n 0, 1) := by decide +kernel
theorem d_Li_sendAgain_6 : decode c_Li_sendAgain 6 = .ok (.getfield 15, 3) := by decide +kernel
theorem d_Li_sendAgain_9 : decode c_Li_sendAgain 9 = .ok (.iconst 0, 1) := by decide +kernel
theorem d_Li_sendAgain_10 : decode c_Li_sendAgain 10 = .ok (.aload_n 0, 1) := by decide +kernel
theorem d_Li_sendAgain_11 : decode c_Li_sendAgain 11 = .ok (.getfield 40, 3) := by decide +kernel
theorem d_Li_sendAgain_14 : decode c_Li_sendAgain 14 = .ok (.invokestatic 82, 3) := by decide +kernel
theorem d_Li_sendAgain_17 : decode c_Li_sendAgain 17 = .ok (.aload_n 0, 1) := by decide +kernel
theorem d_Li_sendAgain_18 : decode c_Li_sendAgain 18 = .ok (.aload_n 0, 1) := by decide +kernel
theorem d_Li_sendAgain_19 : decode c_Li_sendAgain 19 = .ok (.getfield 40, 3) := by decide +kernel
theorem d_Li_sendAgain_22 : decode c_Li_sendAgain 22 = .ok (.putfield 31, 3) := by decide +kernel
theorem d_Li_sendAgain_25 : decode c_Li_sendAgain 25 = .ok (.return_, 1) := by decide +kernel
theorem d_Ca_takeSupervision_0 : decode c_Ca_takeSupervision 0 = .ok (.aload_n 0, 1) := by decide +kernel
theorem d_Ca_takeSupervision_1 : decode c_Ca_takeSupervision 1 = .ok (.getfield 10, 3) := by decide +kernel
theorem d_Ca_takeSupervision_4 : decode c_Ca_takeSupervision 4 = .ok (.invokevirtual 207, 3) := by decide +kernel
theorem d_Ca_takeSupervision_7 : decode c_Ca_takeSupervision 7 = .ok (.iload_n 1, 1) := by decide +kernel
theorem d_Ca_takeSupervision_8 : decode c_Ca_takeSupervision 8 = .ok (.sipush 193, 3) := by decide +kernel
theorem d_Ca_takeSupervision_11 : decode c_Ca_takeSupervision 11 = .ok (.if_icmp .ne 7, 3) := by decide +kernel
theorem d_Ca_takeSupervision_14 : decode c_Ca_takeSupervision 14 = .ok (.iconst 1, 1) := by decide +kernel
theorem d_Ca_takeSupervision_15 : decode c_Ca_takeSupervision 15 = .ok (.goto 4, 3) := by decide +kernel
theorem d_Ca_takeSupervision_18 : decode c_Ca_takeSupervision 18 = .ok (.iconst 0, 1) := by decide +kernel
theorem d_Ca_takeSupervision_19 : decode c_Ca_takeSupervision 19 = .ok (.if_icmp .eq 5, 3) := by decide +kernel
theorem d_Ca_takeSupervision_22 : decode c_Ca_takeSupervision 22 = .ok (.iconst 2, 1) := by decide +kernel
theorem d_Ca_takeSupervision_23 : decode c_Ca_takeSupervision 23 = .ok (.ireturn, 1) := by decide +kernel
theorem d_Ca_takeSupervision_24 : decode c_Ca_takeSupervision 24 = .ok (.iload_n 1, 1) := by decide +kernel
theorem d_Ca_takeSupervision_25 : decode c_Ca_takeSupervision 25 = .ok (.sipush 193, 3) := by decide +kernel
theorem d_Ca_takeSupervision_28 : decode c_Ca_takeSupervision 28 = .ok (.if_icmp .ne 16, 3) := by decide +kernel
theorem d_Ca_takeSupervision_31 : decode c_Ca_takeSupervision 31 = .ok (.aload_n 0, 1) := by decide +kernel
theorem d_Ca_takeSupervision_32 : decode c_Ca_takeSupervision 32 = .ok (.aload_n 0, 1) := by decide +kernel
theorem d_Ca_takeSupervision_33 : decode c_Ca_takeSupervision 33 = .ok (.getfield 10, 3) := by decide +kernel
theorem d_Ca_takeSupervision_36 : decode c_Ca_takeSupervision 36 = .ok (.iconst 0, 1) := by decide +kernel
theorem d_Ca_takeSupervision_37 : decode c_Ca_takeSupervision 37 = .ok (.invokevirtual 210, 3) := by decide +kernel
theorem d_Ca_takeSupervision_40 : decode c_Ca_takeSupervision 40 = .ok (.invokevirtual 231, 3) := by decide +kernel
theorem d_Ca_takeSupervision_43 : decode c_Ca_takeSupervision 43 = .ok (.ireturn, 1) := by decide +kernel
theorem d_Ca_takeSupervision_44 : decode c_Ca_takeSupervision 44 = .ok (.aload_n 0, 1) := by decide +kernel
theorem d_Ca_takeSupervision_45 : decode c_Ca_takeSupervision 45 = .ok (.getfield 19, 3) := by decide +kernel
theorem d_Ca_takeSupervision_48 : decode c_Ca_takeSupervision 48 = .ok (.invokevirtual 234, 3) := by decide +kernel
theorem d_Ca_takeSupervision_51 : decode c_Ca_takeSupervision 51 = .ok (.iload_n 1, 1) := by decide +kernel
theorem d_Ca_takeSupervision_52 : decode c_Ca_takeSupervision 52 = .ok (.sipush 192, 3) := by decide +kernel
theorem d_Ca_takeSupervision_55 : decode c_Ca_takeSupervision 55 = .ok (.if_icmp .ne 10, 3) := by decide +kernel
theorem d_Ca_takeSupervision_58 : decode c_Ca_takeSupervision 58 = .ok (.aload_n 0, 1) := by decide +kernel
theorem d_Ca_takeSupervision_59 : decode c_Ca_takeSupervision 59 = .ok (.getfield 10, 3) := by decide +kernel
theorem d_Ca_takeSupervision_62 : decode c_Ca_takeSupervision 62 = .ok (.invokevirtual 237, 3) := by decide +kernel
theorem d_Ca_takeSupervision_65 : decode c_Ca_takeSupervision 65 = .ok (.aload_n 0, 1) := by decide +kernel
theorem d_Ca_takeSupervision_66 : decode c_Ca_takeSupervision 66 = .ok (.getfield 10, 3) := by decide +kernel
theorem d_Ca_takeSupervision_69 : decode c_Ca_takeSupervision 69 = .ok (.iload_n 1, 1) := by decide +kernel
theorem d_Ca_takeSupervision_70 : decode c_Ca_takeSupervision 70 = .ok (.bipush 32, 2) := by decide +kernel
theorem d_Ca_takeSupervision_72 : decode c_Ca_takeSupervision 72 = .ok (.iadd, 1) := by decide +kernel
theorem d_Ca_takeSupervision_73 : decode c_Ca_takeSupervision 73 = .ok (.invokevirtual 240, 3) := by decide +kernel
theorem d_Ca_takeSupervision_76 : decode c_Ca_takeSupervision 76 = .ok (.iconst 0, 1) := by decide +kernel
theorem d_Ca_takeSupervision_77 : decode c_Ca_takeSupervision 77 = .ok (.ireturn, 1) := by decide +kernel
end
section
theorem d_Ca_takeSize_0 : decode c_Ca_takeSize 0 = .ok (.iload_n 1, 1) := by decide +kernel
theorem d_Ca_takeSize_1 : decode c_Ca_takeSize 1 = .ok (.iconst 1, 1) := by decide +kernel
theorem d_Ca_takeSize_2 : decode c_Ca_takeSize 2 = .ok (.if_icmp .lt 9, 3) := by decide +kernel
theorem d_Ca_takeSize_5 : decode c_Ca_takeSize 5 = .ok (.iload_n 1, 1) := by decide +kernel
theorem d_Ca_takeSize_6 : decode c_Ca_takeSize 6 = .ok (.bipush 32, 2) := by decide +kernel
theorem d_Ca_takeSize_8 : decode c_Ca_takeSize 8 = .ok (.if_icmp .le 5, 3) := by decide +kernel
theorem d_Ca_takeSize_11 : decode c_Ca_takeSize 11 = .ok (.iconst 2, 1) := by decide +kernel
theorem d_Ca_takeSize_12 : decode c_Ca_takeSize 12 = .ok (.ireturn, 1) := by decide +kernel
theorem d_Ca_takeSize_13 : decode c_Ca_takeSize 13 = .ok (.aload_n 0, 1) := by decide +kernel
theorem d_Ca_takeSize_14 : decode c_Ca_takeSize 14 = .ok (.getfield 10, 3) := by decide +kernel
theorem d_Ca_takeSize_17 : decode c_Ca_takeSize 17 = .ok (.iload_n 1, 1) := by decide +kernel
theorem d_Ca_takeSize_18 : decode c_Ca_takeSize 18 = .ok (.putfield 160, 3) := by decide +kernel
theorem d_Ca_takeSize_21 : decode c_Ca_takeSize 21 = .ok (.aload_n 0, 1) := by decide +kernel
theorem d_Ca_takeSize_22 : decode c_Ca_takeSize 22 = .ok (.getfield 10, 3) := by decide +kernel
theorem d_Ca_takeSize_25 : decode c_Ca_takeSize 25 = .ok (.invokevirtual 243, 3) := by decide +kernel
theorem d_Ca_takeSize_28 : decode c_Ca_takeSize 28 = .ok (.iconst 0, 1) := by decide +kernel
theorem d_Ca_takeSize_29 : decode c_Ca_takeSize 29 = .ok (.ireturn, 1) := by decide +kernel
theorem d_Li_sendSize_0 : decode c_Li_sendSize 0 = .ok (.aload_n 0, 1) := by decide +kernel
theorem d_Li_sendSize_1 : decode c_Li_sendSize 1 = .ok (.sipush 225, 3) := by decide +kernel
theorem d_Li_sendSize_4 : decode c_Li_sendSize 4 = .ok (.invokevirtual 58, 3) := by decide +kernel
theorem d_Li_sendSize_7 : decode c_Li_sendSize 7 = .ok (.aload_n 0, 1) := by decide +kernel
theorem d_Li_sendSize_8 : decode c_Li_sendSize 8 = .ok (.aload_n 0, 1) := by decide +kernel
theorem d_Li_sendSize_9 : decode c_Li_sendSize 9 = .ok (.getfield 21, 3) := by decide +kernel
theorem d_Li_sendSize_12 : decode c_Li_sendSize 12 = .ok (.invokevirtual 65, 3) := by decide +kernel
theorem d_Li_sendSize_15 : decode c_Li_sendSize 15 = .ok (.aload_n 0, 1) := by decide +kernel
theorem d_Li_sendSize_16 : decode c_Li_sendSize 16 = .ok (.invokevirtual 62, 3) := by decide +kernel
theorem d_Li_sendSize_19 : decode c_Li_sendSize 19 = .ok (.return_, 1) := by decide +kernel
theorem d_Li_sendSupervision_0 : decode c_Li_sendSupervision 0 = .ok (.aload_n 0, 1) := by decide +kernel
theorem d_Li_sendSupervision_1 : decode c_Li_sendSupervision 1 = .ok (.iload_n 1, 1) := by decide +kernel
theorem d_Li_sendSupervision_2 : decode c_Li_sendSupervision 2 = .ok (.invokevirtual 58, 3) := by decide +kernel
theorem d_Li_sendSupervision_5 : decode c_Li_sendSupervision 5 = .ok (.aload_n 0, 1) := by decide +kernel
theorem d_Li_sendSupervision_6 : decode c_Li_sendSupervision 6 = .ok (.invokevirtual 62, 3) := by decide +kernel
theorem d_Li_sendSupervision_9 : decode c_Li_sendSupervision 9 = .ok (.return_, 1) := by decide +kernel
theorem d_Ca_block_0 : decode c_Ca_block 0 = .ok (.iload_n 1, 1) := by decide +kernel
theorem d_Ca_block_1 : decode c_Ca_block 1 = .ok (.ifCond .lt 22, 3) := by decide +kernel
theorem d_Ca_block_4 : decode c_Ca_block 4 = .ok (.iload_n 1, 1) := by decide +kernel
theorem d_Ca_block_5 : decode c_Ca_block 5 = .ok (.sipush 255, 3) := by decide +kernel
theorem d_Ca_block_8 : decode c_Ca_block 8 = .ok (.if_icmp .gt 15, 3) := by decide +kernel
theorem d_Ca_block_11 : decode c_Ca_block 11 = .ok (.iload 4, 2) := by decide +kernel
theorem d_Ca_block_13 : decode c_Ca_block 13 = .ok (.ifCond .lt 10, 3) := by decide +kernel
theorem d_Ca_block_16 : decode c_Ca_block 16 = .ok (.iload 4, 2) := by decide +kernel
theorem d_Ca_block_18 : decode c_Ca_block 18 = .ok (.bipush 8, 2) := by decide +kernel
theorem d_Ca_block_20 : decode c_Ca_block 20 = .ok (.if_icmp .le 5, 3) := by decide +kernel
theorem d_Ca_block_23 : decode c_Ca_block 23 = .ok (.iconst (-1), 1) := by decide +kernel
theorem d_Ca_block_24 : decode c_Ca_block 24 = .ok (.ireturn, 1) := by decide +kernel
theorem d_Ca_block_25 : decode c_Ca_block 25 = .ok (.aload_n 0, 1) := by decide +kernel
theorem d_Ca_block_26 : decode c_Ca_block 26 = .ok (.getfield 44, 3) := by decide +kernel
theorem d_Ca_block_29 : decode c_Ca_block 29 = .ok (.ifCond .ne 6, 3) := by decide +kernel
theorem d_Ca_block_32 : decode c_Ca_block 32 = .ok (.bipush (-3), 2) := by decide +kernel
theorem d_Ca_block_34 : decode c_Ca_block 34 = .ok (.ireturn, 1) := by decide +kernel
theorem d_Ca_block_35 : decode c_Ca_block 35 = .ok (.aload_n 0, 1) := by decide +kernel
theorem d_Ca_block_36 : decode c_Ca_block 36 = .ok (.getfield 10, 3) := by decide +kernel
theorem d_Ca_block_39 : decode c_Ca_block 39 = .ok (.iconst 0, 1) := by decide +kernel
theorem d_Ca_block_40 : decode c_Ca_block 40 = .ok (.putfield 86, 3) := by decide +kernel
theorem d_Ca_block_43 : decode c_Ca_block 43 = .ok (.aload_n 0, 1) := by decide +kernel
theorem d_Ca_block_44 : decode c_Ca_block 44 = .ok (.getfield 10, 3) := by decide +kernel
theorem d_Ca_block_47 : decode c_Ca_block 47 = .ok (.iconst 0, 1) := by decide +kernel
theorem d_Ca_block_48 : decode c_Ca_block 48 = .ok (.invokevirtual 77, 3) := by decide +kernel
theorem d_Ca_block_51 : decode c_Ca_block 51 = .ok (.aload_n 0, 1) := by decide +kernel
theorem d_Ca_block_52 : decode c_Ca_block 52 = .ok (.getfield 10, 3) := by decide +kernel
theorem d_Ca_block_55 : decode c_Ca_block 55 = .ok (.iload_n 1, 1) := by decide +kernel
theorem d_Ca_block_56 : decode c_Ca_block 56 = .ok (.invokevirtual 77, 3) := by decide +kernel
theorem d_Ca_block_59 : decode c_Ca_block 59 = .ok (.aload_n 0, 1) := by decide +kernel
theorem d_Ca_block_60 : decode c_Ca_block 60 = .ok (.getfield 10, 3) := by decide +kernel
theorem d_Ca_block_63 : decode c_Ca_block 63 = .ok (.iload 4, 2) := by decide +kernel
theorem d_Ca_block_65 : decode c_Ca_block 65 = .ok (.invokevirtual 77, 3) := by decide +kernel
theorem d_Ca_block_68 : decode c_Ca_block 68 = .ok (.iconst 0, 1) := by decide +kernel
theorem d_Ca_block_69 : decode c_Ca_block 69 = .ok (.istore 5, 2) := by decide +kernel
theorem d_Ca_block_71 : decode c_Ca_block 71 = .ok (.iload 5, 2) := by decide +kernel
theorem d_Ca_block_73 : decode c_Ca_block 73 = .ok (.iload 4, 2) := by decide +kernel
theorem d_Ca_block_75 : decode c_Ca_block 75 = .ok (.if_icmp .ge 22, 3) := by decide +kernel
theorem d_Ca_block_78 : decode c_Ca_block 78 = .ok (.aload_n 0, 1) := by decide +kernel
theorem d_Ca_block_79 : decode c_Ca_block 79 = .ok (.getfield 10, 3) := by decide +kernel
theorem d_Ca_block_82 : decode c_Ca_block 82 = .ok (.lload_n 2, 1) := by decide +kernel
theorem d_Ca_block_83 : decode c_Ca_block 83 = .ok (.iload 5, 2) := by decide +kernel
theorem d_Ca_block_85 : decode c_Ca_block 85 = .ok (.invokestatic 73, 3) := by decide +kernel
theorem d_Ca_block_88 : decode c_Ca_block 88 = .ok (.invokevirtual 77, 3) := by decide +kernel
theorem d_Ca_block_91 : decode c_Ca_block 91 = .ok (.iinc 5 1, 3) := by decide +kernel
theorem d_Ca_block_94 : decode c_Ca_block 94 = .ok (.goto (-23), 3) := by decide +kernel
theorem d_Ca_block_97 : decode c_Ca_block 97 = .ok (.aload_n 0, 1) := by decide +kernel
theorem d_Ca_block_98 : decode c_Ca_block 98 = .ok (.getfield 10, 3) := by decide +kernel
theorem d_Ca_block_101 : decode c_Ca_block 101 = .ok (.aload_n 0, 1) := by decide +kernel
theorem d_Ca_block_102 : decode c_Ca_block 102 = .ok (.getfield 10, 3) := by decide +kernel
theorem d_Ca_block_105 : decode c_Ca_block 105 = .ok (.invokevirtual 89, 3) := by decide +kernel
theorem d_Ca_block_108 : decode c_Ca_block 108 = .ok (.invokevirtual 77, 3) := by decide +kernel
theorem d_Ca_block_111 : decode c_Ca_block 111 = .ok (.aload_n 0, 1) := by decide +kernel
theorem d_Ca_block_112 : decode c_Ca_block 112 = .ok (.invokevirtual 83, 3) := by decide +kernel
theorem d_Ca_block_115 : decode c_Ca_block 115 = .ok (.aload_n 0, 1) := by decide +kernel
theorem d_Ca_block_116 : decode c_Ca_block 116 = .ok (.getfield 10, 3) := by decide +kernel
theorem d_Ca_block_119 : decode c_Ca_block 119 = .ok (.getfield 93, 3) := by decide +kernel
theorem d_Ca_block_122 : decode c_Ca_block 122 = .ok (.ireturn, 1) := by decide +kernel
theorem d_Ca_reply_0 : decode c_Ca_reply 0 = .ok (.iload_n 1, 1) := by decide +kernel
theorem d_Ca_reply_1 : decode c_Ca_reply 1 = .ok (.ifCond .lt 26, 3) := by decide +kernel
theorem d_Ca_reply_4 : decode c_Ca_reply 4 = .ok (.iload_n 1, 1) := by decide +kernel
theorem d_Ca_reply_5 : decode c_Ca_reply 5 = .ok (.aload_n 0, 1) := by decide +kernel
theorem d_Ca_reply_6 : decode c_Ca_reply 6 = .ok (.getfield 10, 3) := by decide +kernel
theorem d_Ca_reply_9 : decode c_Ca_reply 9 = .ok (.getfield 93, 3) := by decide +kernel
theorem d_Ca_reply_12 : decode c_Ca_reply 12 = .ok (.if_icmp .ge 15, 3) := by decide +kernel
theorem d_Ca_reply_15 : decode c_Ca_reply 15 = .ok (.aload_n 0, 1) := by decide +kernel
theorem d_Ca_reply_16 : decode c_Ca_reply 16 = .ok (.getfield 10, 3) := by decide +kernel
theorem d_Ca_reply_19 : decode c_Ca_reply 19 = .ok (.getfield 96, 3) := by decide +kernel
theorem d_Ca_reply_22 : decode c_Ca_reply 22 = .ok (.iload_n 1, 1) := by decide +kernel
theorem d_Ca_reply_23 : decode c_Ca_reply 23 = .ok (.iaload, 1) := by decide +kernel
theorem d_Ca_reply_24 : decode c_Ca_reply 24 = .ok (.goto 4, 3) := by decide +kernel
theorem d_Ca_reply_27 : decode c_Ca_reply 27 = .ok (.iconst (-1), 1) := by decide +kernel
theorem d_Ca_reply_28 : decode c_Ca_reply 28 = .ok (.ireturn, 1) := by decide +kernel
theorem d_Ca_stored_0 : decode c_Ca_stored 0 = .ok (.aload_n 0, 1) := by decide +kernel
theorem d_Ca_stored_1 : decode c_Ca_stored 1 = .ok (.getfield 27, 3) := by decide +kernel
theorem d_Ca_stored_4 : decode c_Ca_stored 4 = .ok (.getfield 28, 3) := by decide +kernel
theorem d_Ca_stored_7 : decode c_Ca_stored 7 = .ok (.iload_n 1, 1) := by decide +kernel
theorem d_Ca_stored_8 : decode c_Ca_stored 8 = .ok (.iload_n 2, 1) := by decide +kernel
theorem d_Ca_stored_9 : decode c_Ca_stored 9 = .ok (.invokevirtual 100, 3) := by decide +kernel
theorem d_Ca_stored_12 : decode c_Ca_stored 12 = .ok (.ifCond .eq 18, 3) := by decide +kernel
theorem d_Ca_stored_15 : decode c_Ca_stored 15 = .ok (.aload_n 0, 1) := by decide +kernel
theorem d_Ca_stored_16 : decode c_Ca_stored 16 = .ok (.getfield 27, 3) := by decide +kernel
theorem d_Ca_stored_19 : decode c_Ca_stored 19 = .ok (.getfield 28, 3) := by decide +kernel
theorem d_Ca_stored_22 : decode c_Ca_stored 22 = .ok (.iload_n 1, 1) := by decide +kernel
theorem d_Ca_stored_23 : decode c_Ca_stored 23 = .ok (.iload_n 2, 1) := by decide +kernel
theorem d_Ca_stored_24 : decode c_Ca_stored 24 = .ok (.invokevirtual 104, 3) := by decide +kernel
theorem d_Ca_stored_27 : decode c_Ca_stored 27 = .ok (.goto 4, 3) := by decide +kernel
theorem d_Ca_stored_30 : decode c_Ca_stored 30 = .ok (.iconst (-1), 1) := by decide +kernel
theorem d_Ca_stored_31 : decode c_Ca_stored 31 = .ok (.ireturn, 1) := by decide +kernel
theorem d_Ca_state_0 : decode c_Ca_state 0 = .ok (.iload_n 1, 1) := by decide +kernel
theorem d_Ca_state_1 : decode c_Ca_state 1 = .ok (.tableswitch 124 0 7 #[47, 60, 71, 79, 87, 103, 111, 119], 47) := by decide +kernel
theorem d_Ca_state_48 : decode c_Ca_state 48 = .ok (.aload_n 0, 1) := by decide +kernel
theorem d_Ca_state_49 : decode c_Ca_state 49 = .ok (.getfield 44, 3) := by decide +kernel
theorem d_Ca_state_52 : decode c_Ca_state 52 = .ok (.ifCond .eq 7, 3) := by decide +kernel
theorem d_Ca_state_55 : decode c_Ca_state 55 = .ok (.iconst 1, 1) := by decide +kernel
theorem d_Ca_state_56 : decode c_Ca_state 56 = .ok (.goto 4, 3) := by decide +kernel
theorem d_Ca_state_59 : decode c_Ca_state 59 = .ok (.iconst 0, 1) := by decide +kernel
theorem d_Ca_state_60 : decode c_Ca_state 60 = .ok (.ireturn, 1) := by decide +kernel
theorem d_Ca_state_61 : decode c_Ca_state 61 = .ok (.aload_n 0, 1) := by decide +kernel
theorem d_Ca_state_62 : decode c_Ca_state 62 = .ok (.getfield 27, 3) := by decide +kernel
theorem d_Ca_state_65 : decode c_Ca_state 65 = .ok (.getfield 28, 3) := by decide +kernel
theorem d_Ca_state_68 : decode c_Ca_state 68 = .ok (.getfield 108, 3) := by decide +kernel
theorem d_Ca_state_71 : decode c_Ca_state 71 = .ok (.ireturn, 1) := by decide +kernel
theorem d_Ca_state_72 : decode c_Ca_state 72 = .ok (.aload_n 0, 1) := by decide +kernel
theorem d_Ca_state_73 : decode c_Ca_state 73 = .ok (.getfield 27, 3) := by decide +kernel
theorem d_Ca_state_76 : decode c_Ca_state 76 = .ok (.getfield 66, 3) := by decide +kernel
theorem d_Ca_state_79 : decode c_Ca_state 79 = .ok (.ireturn, 1) := by decide +kernel
theorem d_Ca_state_80 : decode c_Ca_state 80 = .ok (.aload_n 0, 1) := by decide +kernel
theorem d_Ca_state_81 : decode c_Ca_state 81 = .ok (.getfield 27, 3) := by decide +kernel
theorem d_Ca_state_84 : decode c_Ca_state 84 = .ok (.getfield 111, 3) := by decide +kernel
theorem d_Ca_state_87 : decode c_Ca_state 87 = .ok (.ireturn, 1) := by decide +kernel
theorem d_Ca_state_88 : decode c_Ca_state 88 = .ok (.aload_n 0, 1) := by decide +kernel
theorem d_Ca_state_89 : decode c_Ca_state 89 = .ok (.getfield 27, 3) := by decide +kernel
theorem d_Ca_state_92 : decode c_Ca_state 92 = .ok (.getfield 59, 3) := by decide +kernel
theorem d_Ca_state_95 : decode c_Ca_state 95 = .ok (.ifCond .eq 7, 3) := by decide +kernel
theorem d_Ca_state_98 : decode c_Ca_state 98 = .ok (.iconst 1, 1) := by decide +kernel
theorem d_Ca_state_99 : decode c_Ca_state 99 = .ok (.goto 4, 3) := by decide +kernel
theorem d_Ca_state_102 : decode c_Ca_state 102 = .ok (.iconst 0, 1) := by decide +kernel
theorem d_Ca_state_103 : decode c_Ca_state 103 = .ok (.ireturn, 1) := by decide +kernel
theorem d_Ca_state_104 : decode c_Ca_state 104 = .ok (.aload_n 0, 1) := by decide +kernel
theorem d_Ca_state_105 : decode c_Ca_state 105 = .ok (.getfield 27, 3) := by decide +kernel
theorem d_Ca_state_108 : decode c_Ca_state 108 = .ok (.getfield 114, 3) := by decide +kernel
theorem d_Ca_state_111 : decode c_Ca_state 111 = .ok (.ireturn, 1) := by decide +kernel
theorem d_Ca_state_112 : decode c_Ca_state 112 = .ok (.aload_n 0, 1) := by decide +kernel
theorem d_Ca_state_113 : decode c_Ca_state 113 = .ok (.getfield 27, 3) := by decide +kernel
theorem d_Ca_state_116 : decode c_Ca_state 116 = .ok (.getfield 117, 3) := by decide +kernel
theorem d_Ca_state_119 : decode c_Ca_state 119 = .ok (.ireturn, 1) := by decide +kernel
theorem d_Ca_state_120 : decode c_Ca_state 120 = .ok (.aload_n 0, 1) := by decide +kernel
theorem d_Ca_state_121 : decode c_Ca_state 121 = .ok (.getfield 120, 3) := by decide +kernel
theorem d_Ca_state_124 : decode c_Ca_state 124 = .ok (.ireturn, 1) := by decide +kernel
theorem d_Ca_state_125 : decode c_Ca_state 125 = .ok (.aload_n 0, 1) := by decide +kernel
theorem d_Ca_state_126 : decode c_Ca_state 126 = .ok (.getfield 44, 3) := by decide +kernel
theorem d_Ca_state_129 : decode c_Ca_state 129 = .ok (.ifCond .eq 11, 3) := by decide +kernel
theorem d_Ca_state_132 : decode c_Ca_state 132 = .ok (.aload_n 0, 1) := by decide +kernel
theorem d_Ca_state_133 : decode c_Ca_state 133 = .ok (.iload_n 1, 1) := by decide +kernel
theorem d_Ca_state_134 : decode c_Ca_state 134 = .ok (.invokevirtual 123, 3) := by decide +kernel
theorem d_Ca_state_137 : decode c_Ca_state 137 = .ok (.goto 4, 3) := by decide +kernel
theorem d_Ca_state_140 : decode c_Ca_state 140 = .ok (.iconst (-1), 1) := by decide +kernel
theorem d_Ca_state_141 : decode c_Ca_state 141 = .ok (.ireturn, 1) := by decide +kernel
theorem d_Ca_stateWhileOn_0 : decode c_Ca_stateWhileOn 0 = .ok (.iload_n 1, 1) := by decide +kernel
theorem d_Ca_stateWhileOn_1 : decode c_Ca_stateWhileOn 1 = .ok (.tableswitch 125 8 15 #[47, 63, 71, 79, 87, 95, 103, 114], 47) := by decide +kernel
theorem d_Ca_stateWhileOn_48 : decode c_Ca_stateWhileOn 48 = .ok (.aload_n 0, 1) := by decide +kernel
theorem d_Ca_stateWhileOn_49 : decode c_Ca_stateWhileOn 49 = .ok (.getfield 19, 3) := by decide +kernel
theorem d_Ca_stateWhileOn_52 : decode c_Ca_stateWhileOn 52 = .ok (.getfield 145, 3) := by decide +kernel
theorem d_Ca_stateWhileOn_55 : decode c_Ca_stateWhileOn 55 = .ok (.ifCond .eq 7, 3) := by decide +kernel
theorem d_Ca_stateWhileOn_58 : decode c_Ca_stateWhileOn 58 = .ok (.iconst 1, 1) := by decide +kernel
theorem d_Ca_stateWhileOn_59 : decode c_Ca_stateWhileOn 59 = .ok (.goto 4, 3) := by decide +kernel
theorem d_Ca_stateWhileOn_62 : decode c_Ca_stateWhileOn 62 = .ok (.iconst 0, 1) := by decide +kernel
theorem d_Ca_stateWhileOn_63 : decode c_Ca_stateWhileOn 63 = .ok (.ireturn, 1) := by decide +kernel
theorem d_Ca_stateWhileOn_64 : decode c_Ca_stateWhileOn 64 = .ok (.aload_n 0, 1) := by decide +kernel
theorem d_Ca_stateWhileOn_65 : decode c_Ca_stateWhileOn 65 = .ok (.getfield 19, 3) := by decide +kernel
theorem d_Ca_stateWhileOn_68 : decode c_Ca_stateWhileOn 68 = .ok (.getfield 148, 3) := by decide +kernel
theorem d_Ca_stateWhileOn_71 : decode c_Ca_stateWhileOn 71 = .ok (.ireturn, 1) := by decide +kernel
theorem d_Ca_stateWhileOn_72 : decode c_Ca_stateWhileOn 72 = .ok (.aload_n 0, 1) := by decide +kernel
theorem d_Ca_stateWhileOn_73 : decode c_Ca_stateWhileOn 73 = .ok (.getfield 19, 3) := by decide +kernel
theorem d_Ca_stateWhileOn_76 : decode c_Ca_stateWhileOn 76 = .ok (.getfield 151, 3) := by decide +kernel
theorem d_Ca_stateWhileOn_79 : decode c_Ca_stateWhileOn 79 = .ok (.ireturn, 1) := by decide +kernel
theorem d_Ca_stateWhileOn_80 : decode c_Ca_stateWhileOn 80 = .ok (.aload_n 0, 1) := by decide +kernel
theorem d_Ca_stateWhileOn_81 : decode c_Ca_stateWhileOn 81 = .ok (.getfield 10, 3) := by decide +kernel
theorem d_Ca_stateWhileOn_84 : decode c_Ca_stateWhileOn 84 = .ok (.getfield 154, 3) := by decide +kernel
theorem d_Ca_stateWhileOn_87 : decode c_Ca_stateWhileOn 87 = .ok (.ireturn, 1) := by decide +kernel
theorem d_Ca_stateWhileOn_88 : decode c_Ca_stateWhileOn 88 = .ok (.aload_n 0, 1) := by decide +kernel
theorem d_Ca_stateWhileOn_89 : decode c_Ca_stateWhileOn 89 = .ok (.getfield 10, 3) := by decide +kernel
theorem d_Ca_stateWhileOn_92 : decode c_Ca_stateWhileOn 92 = .ok (.getfield 157, 3) := by decide +kernel
theorem d_Ca_stateWhileOn_95 : decode c_Ca_stateWhileOn 95 = .ok (.ireturn, 1) := by decide +kernel
theorem d_Ca_stateWhileOn_96 : decode c_Ca_stateWhileOn 96 = .ok (.aload_n 0, 1) := by decide +kernel
theorem d_Ca_stateWhileOn_97 : decode c_Ca_stateWhileOn 97 = .ok (.getfield 10, 3) := by decide +kernel
theorem d_Ca_stateWhileOn_100 : decode c_Ca_stateWhileOn 100 = .ok (.getfield 160, 3) := by decide +kernel
theorem d_Ca_stateWhileOn_103 : decode c_Ca_stateWhileOn 103 = .ok (.ireturn, 1) := by decide +kernel
theorem d_Ca_stateWhileOn_104 : decode c_Ca_stateWhileOn 104 = .ok (.aload_n 0, 1) := by decide +kernel
theorem d_Ca_stateWhileOn_105 : decode c_Ca_stateWhileOn 105 = .ok (.getfield 19, 3) := by decide +kernel
theorem d_Ca_stateWhileOn_108 : decode c_Ca_stateWhileOn 108 = .ok (.getfield 163, 3) := by decide +kernel
theorem d_Ca_stateWhileOn_111 : decode c_Ca_stateWhileOn 111 = .ok (.getfield 167, 3) := by decide +kernel
theorem d_Ca_stateWhileOn_114 : decode c_Ca_stateWhileOn 114 = .ok (.ireturn, 1) := by decide +kernel
theorem d_Ca_stateWhileOn_115 : decode c_Ca_stateWhileOn 115 = .ok (.aload_n 0, 1) := by decide +kernel
theorem d_Ca_stateWhileOn_116 : decode c_Ca_stateWhileOn 116 = .ok (.getfield 19, 3) := by decide +kernel
theorem d_Ca_stateWhileOn_119 : decode c_Ca_stateWhileOn 119 = .ok (.getfield 172, 3) := by decide +kernel
theorem d_Ca_stateWhileOn_122 : decode c_Ca_stateWhileOn 122 = .ok (.invokevirtual 176, 3) := by decide +kernel
theorem d_Ca_stateWhileOn_125 : decode c_Ca_stateWhileOn 125 = .ok (.ireturn, 1) := by decide +kernel
theorem d_Ca_stateWhileOn_126 : decode c_Ca_stateWhileOn 126 = .ok (.iconst (-1), 1) := by decide +kernel
theorem d_Ca_stateWhileOn_127 : decode c_Ca_stateWhileOn 127 = .ok (.ireturn, 1) := by decide +kernel
theorem d_Ca_look_0 : decode c_Ca_look 0 = .ok (.aload_n 0, 1) := by decide +kernel
theorem d_Ca_look_1 : decode c_Ca_look 1 = .ok (.getfield 27, 3) := by decide +kernel
theorem d_Ca_look_4 : decode c_Ca_look 4 = .ok (.getfield 28, 3) := by decide +kernel
theorem d_Ca_look_7 : decode c_Ca_look 7 = .ok (.astore_n 3, 1) := by decide +kernel
theorem d_Ca_look_8 : decode c_Ca_look 8 = .ok (.aload_n 3, 1) := by decide +kernel
theorem d_Ca_look_9 : decode c_Ca_look 9 = .ok (.iload_n 1, 1) := by decide +kernel
theorem d_Ca_look_10 : decode c_Ca_look 10 = .ok (.invokevirtual 127, 3) := by decide +kernel
theorem d_Ca_look_13 : decode c_Ca_look 13 = .ok (.ifCond .ne 5, 3) := by decide +kernel
theorem d_Ca_look_16 : decode c_Ca_look 16 = .ok (.iconst (-1), 1) := by decide +kernel
theorem d_Ca_look_17 : decode c_Ca_look 17 = .ok (.ireturn, 1) := by decide +kernel
theorem d_Ca_look_18 : decode c_Ca_look 18 = .ok (.iload_n 2, 1) := by decide +kernel
theorem d_Ca_look_19 : decode c_Ca_look 19 = .ok (.tableswitch 68 0 4 #[33, 40, 47, 54, 61], 33) := by decide +kernel
theorem d_Ca_look_52 : decode c_Ca_look 52 = .ok (.aload_n 3, 1) := by decide +kernel
theorem d_Ca_look_53 : decode c_Ca_look 53 = .ok (.getfield 130, 3) := by decide +kernel
theorem d_Ca_look_56 : decode c_Ca_look 56 = .ok (.iload_n 1, 1) := by decide +kernel
theorem d_Ca_look_57 : decode c_Ca_look 57 = .ok (.iaload, 1) := by decide +kernel
theorem d_Ca_look_58 : decode c_Ca_look 58 = .ok (.ireturn, 1) := by decide +kernel
theorem d_Ca_look_59 : decode c_Ca_look 59 = .ok (.aload_n 3, 1) := by decide +kernel
theorem d_Ca_look_60 : decode c_Ca_look 60 = .ok (.getfield 133, 3) := by decide +kernel
theorem d_Ca_look_63 : decode c_Ca_look 63 = .ok (.iload_n 1, 1) := by decide +kernel
theorem d_Ca_look_64 : decode c_Ca_look 64 = .ok (.iaload, 1) := by decide +kernel
theorem d_Ca_look_65 : decode c_Ca_look 65 = .ok (.ireturn, 1) := by decide +kernel
theorem d_Ca_look_66 : decode c_Ca_look 66 = .ok (.aload_n 3, 1) := by decide +kernel
theorem d_Ca_look_67 : decode c_Ca_look 67 = .ok (.getfield 136, 3) := by decide +kernel
theorem d_Ca_look_70 : decode c_Ca_look 70 = .ok (.iload_n 1, 1) := by decide +kernel
theorem d_Ca_look_71 : decode c_Ca_look 71 = .ok (.iaload, 1) := by decide +kernel
theorem d_Ca_look_72 : decode c_Ca_look 72 = .ok (.ireturn, 1) := by decide +kernel
theorem d_Ca_look_73 : decode c_Ca_look 73 = .ok (.aload_n 3, 1) := by decide +kernel
theorem d_Ca_look_74 : decode c_Ca_look 74 = .ok (.getfield 139, 3) := by decide +kernel
theorem d_Ca_look_77 : decode c_Ca_look 77 = .ok (.iload_n 1, 1) := by decide +kernel
theorem d_Ca_look_78 : decode c_Ca_look 78 = .ok (.iaload, 1) := by decide +kernel
theorem d_Ca_look_79 : decode c_Ca_look 79 = .ok (.ireturn, 1) := by decide +kernel
theorem d_Ca_look_80 : decode c_Ca_look 80 = .ok (.aload_n 3, 1) := by decide +kernel
theorem d_Ca_look_81 : decode c_Ca_look 81 = .ok (.getfield 142, 3) := by decide +kernel
theorem d_Ca_look_84 : decode c_Ca_look 84 = .ok (.iload_n 1, 1) := by decide +kernel
theorem d_Ca_look_85 : decode c_Ca_look 85 = .ok (.iaload, 1) := by decide +kernel
theorem d_Ca_look_86 : decode c_Ca_look 86 = .ok (.ireturn, 1) := by decide +kernel
theorem d_Ca_look_87 : decode c_Ca_look 87 = .ok (.iconst (-1), 1) := by decide +kernel
theorem d_Ca_look_88 : decode c_Ca_look 88 = .ok (.ireturn, 1) := by decide +kernel
theorem d_Mo_init_0 : decode c_Mo_init 0 = .ok (.aload_n 0, 1) := by decide +kernel
theorem d_Mo_init_1 : decode c_Mo_init 1 = .ok (.invokespecial 1, 3) := by decide +kernel
theorem d_Mo_init_4 : decode c_Mo_init 4 = .ok (.aload_n 0, 1) := by decide +kernel
theorem d_Mo_init_5 : decode c_Mo_init 5 = .ok (.bipush 8, 2) := by decide +kernel
theorem d_Mo_init_7 : decode c_Mo_init 7 = .ok (.newarray .int, 2) := by decide +kernel
theorem d_Mo_init_9 : decode c_Mo_init 9 = .ok (.putfield 7, 3) := by decide +kernel
theorem d_Mo_init_12 : decode c_Mo_init 12 = .ok (.aload_n 0, 1) := by decide +kernel
theorem d_Mo_init_13 : decode c_Mo_init 13 = .ok (.bipush 8, 2) := by decide +kernel
theorem d_Mo_init_15 : decode c_Mo_init 15 = .ok (.newarray .int, 2) := by decide +kernel
theorem d_Mo_init_17 : decode c_Mo_init 17 = .ok (.putfield 13, 3) := by decide +kernel
theorem d_Mo_init_20 : decode c_Mo_init 20 = .ok (.aload_n 0, 1) := by decide +kernel
theorem d_Mo_init_21 : decode c_Mo_init 21 = .ok (.bipush 8, 2) := by decide +kernel
theorem d_Mo_init_23 : decode c_Mo_init 23 = .ok (.newarray .int, 2) := by decide +kernel
theorem d_Mo_init_25 : decode c_Mo_init 25 = .ok (.putfield 16, 3) := by decide +kernel
theorem d_Mo_init_28 : decode c_Mo_init 28 = .ok (.aload_n 0, 1) := by decide +kernel
theorem d_Mo_init_29 : decode c_Mo_init 29 = .ok (.bipush 8, 2) := by decide +kernel
theorem d_Mo_init_31 : decode c_Mo_init 31 = .ok (.newarray .int, 2) := by decide +kernel
theorem d_Mo_init_33 : decode c_Mo_init 33 = .ok (.putfield 19, 3) := by decide +kernel
theorem d_Mo_init_36 : decode c_Mo_init 36 = .ok (.aload_n 0, 1) := by decide +kernel
theorem d_Mo_init_37 : decode c_Mo_init 37 = .ok (.bipush 8, 2) := by decide +kernel
theorem d_Mo_init_39 : decode c_Mo_init 39 = .ok (.newarray .int, 2) := by decide +kernel
theorem d_Mo_init_41 : decode c_Mo_init 41 = .ok (.putfield 22, 3) := by decide +kernel
theorem d_Mo_init_44 : decode c_Mo_init 44 = .ok (.aload_n 0, 1) := by decide +kernel
theorem d_Mo_init_45 : decode c_Mo_init 45 = .ok (.sipush 192, 3) := by decide +kernel
theorem d_Mo_init_48 : decode c_Mo_init 48 = .ok (.newarray .int, 2) := by decide +kernel
theorem d_Mo_init_50 : decode c_Mo_init 50 = .ok (.putfield 25, 3) := by decide +kernel
theorem d_Mo_init_53 : decode c_Mo_init 53 = .ok (.aload_n 0, 1) := by decide +kernel
theorem d_Mo_init_54 : decode c_Mo_init 54 = .ok (.iconst 1, 1) := by decide +kernel
theorem d_Mo_init_55 : decode c_Mo_init 55 = .ok (.putfield 28, 3) := by decide +kernel
theorem d_Mo_init_58 : decode c_Mo_init 58 = .ok (.aload_n 0, 1) := by decide +kernel
theorem d_Mo_init_59 : decode c_Mo_init 59 = .ok (.iconst 3, 1) := by decide +kernel
theorem d_Mo_init_60 : decode c_Mo_init 60 = .ok (.putfield 32, 3) := by decide +kernel
theorem d_Mo_init_63 : decode c_Mo_init 63 = .ok (.aload_n 0, 1) := by decide +kernel
theorem d_Mo_init_64 : decode c_Mo_init 64 = .ok (.iconst (-1), 1) := by decide +kernel
theorem d_Mo_init_65 : decode c_Mo_init 65 = .ok (.putfield 35, 3) := by decide +kernel
theorem d_Mo_init_68 : decode c_Mo_init 68 = .ok (.aload_n 0, 1) := by decide +kernel
theorem d_Mo_init_69 : decode c_Mo_init 69 = .ok (.bipush 24, 2) := by decide +kernel
theorem d_Mo_init_71 : decode c_Mo_init 71 = .ok (.newarray .int, 2) := by decide +kernel
theorem d_Mo_init_73 : decode c_Mo_init 73 = .ok (.putfield 38, 3) := by decide +kernel
theorem d_Mo_init_76 : decode c_Mo_init 76 = .ok (.aload_n 0, 1) := by decide +kernel
theorem d_Mo_init_77 : decode c_Mo_init 77 = .ok (.bipush 40, 2) := by decide +kernel
theorem d_Mo_init_79 : decode c_Mo_init 79 = .ok (.newarray .int, 2) := by decide +kernel
theorem d_Mo_init_81 : decode c_Mo_init 81 = .ok (.putfield 41, 3) := by decide +kernel
theorem d_Mo_init_84 : decode c_Mo_init 84 = .ok (.aload_n 0, 1) := by decide +kernel
theorem d_Mo_init_85 : decode c_Mo_init 85 = .ok (.bipush 40, 2) := by decide +kernel
theorem d_Mo_init_87 : decode c_Mo_init 87 = .ok (.newarray .int, 2) := by decide +kernel
theorem d_Mo_init_89 : decode c_Mo_init 89 = .ok (.putfield 44, 3) := by decide +kernel
theorem d_Mo_init_92 : decode c_Mo_init 92 = .ok (.aload_n 0, 1) := by decide +kernel
theorem d_Mo_init_93 : decode c_Mo_init 93 = .ok (.bipush 40, 2) := by decide +kernel
theorem d_Mo_init_95 : decode c_Mo_init 95 = .ok (.newarray .int, 2) := by decide +kernel
theorem d_Mo_init_97 : decode c_Mo_init 97 = .ok (.putfield 47, 3) := by decide +kernel
theorem d_Mo_init_100 : decode c_Mo_init 100 = .ok (.aload_n 0, 1) := by decide +kernel
theorem d_Mo_init_101 : decode c_Mo_init 101 = .ok (.bipush 40, 2) := by decide +kernel
theorem d_Mo_init_103 : decode c_Mo_init 103 = .ok (.newarray .int, 2) := by decide +kernel
theorem d_Mo_init_105 : decode c_Mo_init 105 = .ok (.putfield 50, 3) := by decide +kernel
theorem d_Mo_init_108 : decode c_Mo_init 108 = .ok (.aload_n 0, 1) := by decide +kernel
theorem d_Mo_init_109 : decode c_Mo_init 109 = .ok (.bipush 40, 2) := by decide +kernel
theorem d_Mo_init_111 : decode c_Mo_init 111 = .ok (.newarray .int, 2) := by decide +kernel
theorem d_Mo_init_113 : decode c_Mo_init 113 = .ok (.putfield 53, 3) := by decide +kernel
theorem d_Mo_init_116 : decode c_Mo_init 116 = .ok (.aload_n 0, 1) := by decide +kernel
theorem d_Mo_init_117 : decode c_Mo_init 117 = .ok (.getfield 7, 3) := by decide +kernel
theorem d_Mo_init_120 : decode c_Mo_init 120 = .ok (.iconst 0, 1) := by decide +kernel
theorem d_Mo_init_121 : decode c_Mo_init 121 = .ok (.sipush 16128, 3) := by decide +kernel
theorem d_Mo_init_124 : decode c_Mo_init 124 = .ok (.iastore, 1) := by decide +kernel
theorem d_Mo_init_125 : decode c_Mo_init 125 = .ok (.aload_n 0, 1) := by decide +kernel
theorem d_Mo_init_126 : decode c_Mo_init 126 = .ok (.getfield 13, 3) := by decide +kernel
theorem d_Mo_init_129 : decode c_Mo_init 129 = .ok (.iconst 0, 1) := by decide +kernel
theorem d_Mo_init_130 : decode c_Mo_init 130 = .ok (.iconst (-1), 1) := by decide +kernel
theorem d_Mo_init_131 : decode c_Mo_init 131 = .ok (.iastore, 1) := by decide +kernel
theorem d_Mo_init_132 : decode c_Mo_init 132 = .ok (.return_, 1) := by decide +kernel
theorem d_Mo_file_0 : decode c_Mo_file 0 = .ok (.iload_n 1, 1) := by decide +kernel
theorem d_Mo_file_1 : decode c_Mo_file 1 = .ok (.iconst 0, 1) := by decide +kernel
theorem d_Mo_file_2 : decode c_Mo_file 2 = .ok (.aload_n 0, 1) := by decide +kernel
theorem d_Mo_file_3 : decode c_Mo_file 3 = .ok (.getfield 28, 3) := by decide +kernel
theorem d_Mo_file_6 : decode c_Mo_file 6 = .ok (.iconst 1, 1) := by decide +kernel
theorem d_Mo_file_7 : decode c_Mo_file 7 = .ok (.isub, 1) := by decide +kernel
theorem d_Mo_file_8 : decode c_Mo_file 8 = .ok (.invokestatic 56, 3) := by decide +kernel
theorem d_Mo_file_11 : decode c_Mo_file 11 = .ok (.ifCond .eq 16, 3) := by decide +kernel
theorem d_Mo_file_14 : decode c_Mo_file 14 = .ok (.aload_n 0, 1) := by decide +kernel
theorem d_Mo_file_15 : decode c_Mo_file 15 = .ok (.getfield 16, 3) := by decide +kernel
theorem d_Mo_file_18 : decode c_Mo_file 18 = .ok (.iload_n 1, 1) := by decide +kernel
theorem d_Mo_file_19 : decode c_Mo_file 19 = .ok (.iaload, 1) := by decide +kernel
theorem d_Mo_file_20 : decode c_Mo_file 20 = .ok (.ifCond .ne 7, 3) := by decide +kernel
theorem d_Mo_file_23 : decode c_Mo_file 23 = .ok (.iconst 1, 1) := by decide +kernel
theorem d_Mo_file_24 : decode c_Mo_file 24 = .ok (.goto 4, 3) := by decide +kernel
theorem d_Mo_file_27 : decode c_Mo_file 27 = .ok (.iconst 0, 1) := by decide +kernel
theorem d_Mo_file_28 : decode c_Mo_file 28 = .ok (.istore 6, 2) := by decide +kernel
theorem d_Mo_file_30 : decode c_Mo_file 30 = .ok (.iload 4, 2) := by decide +kernel
theorem d_Mo_file_32 : decode c_Mo_file 32 = .ok (.iconst 0, 1) := by decide +kernel
theorem d_Mo_file_33 : decode c_Mo_file 33 = .ok (.iconst 2, 1) := by decide +kernel
theorem d_Mo_file_34 : decode c_Mo_file 34 = .ok (.invokestatic 56, 3) := by decide +kernel
theorem d_Mo_file_37 : decode c_Mo_file 37 = .ok (.ifCond .eq 17, 3) := by decide +kernel
theorem d_Mo_file_40 : decode c_Mo_file 40 = .ok (.iload 5, 2) := by decide +kernel
theorem d_Mo_file_42 : decode c_Mo_file 42 = .ok (.iconst 0, 1) := by decide +kernel
theorem d_Mo_file_43 : decode c_Mo_file 43 = .ok (.iconst 2, 1) := by decide +kernel
theorem d_Mo_file_44 : decode c_Mo_file 44 = .ok (.invokestatic 56, 3) := by decide +kernel
theorem d_Mo_file_47 : decode c_Mo_file 47 = .ok (.ifCond .eq 7, 3) := by decide +kernel
theorem d_Mo_file_50 : decode c_Mo_file 50 = .ok (.iconst 1, 1) := by decide +kernel
theorem d_Mo_file_51 : decode c_Mo_file 51 = .ok (.goto 4, 3) := by decide +kernel
theorem d_Mo_file_54 : decode c_Mo_file 54 = .ok (.iconst 0, 1) := by decide +kernel
theorem d_Mo_file_55 : decode c_Mo_file 55 = .ok (.istore 7, 2) := by decide +kernel
theorem d_Mo_file_57 : decode c_Mo_file 57 = .ok (.iload_n 2, 1) := by decide +kernel
theorem d_Mo_file_58 : decode c_Mo_file 58 = .ok (.iconst 0, 1) := by decide +kernel
theorem d_Mo_file_59 : decode c_Mo_file 59 = .ok (.ldc 60, 2) := by decide +kernel
theorem d_Mo_file_61 : decode c_Mo_file 61 = .ok (.invokestatic 56, 3) := by decide +kernel
theorem d_Mo_file_64 : decode c_Mo_file 64 = .ok (.ifCond .eq 27, 3) := by decide +kernel
theorem d_Mo_file_67 : decode c_Mo_file 67 = .ok (.iload 6, 2) := by decide +kernel
theorem d_Mo_file_69 : decode c_Mo_file 69 = .ok (.ifCond .eq 22, 3) := by decide +kernel
theorem d_Mo_file_72 : decode c_Mo_file 72 = .ok (.iload_n 3, 1) := by decide +kernel
theorem d_Mo_file_73 : decode c_Mo_file 73 = .ok (.iconst 0, 1) := by decide +kernel
theorem d_Mo_file_74 : decode c_Mo_file 74 = .ok (.bipush 24, 2) := by decide +kernel
theorem d_Mo_file_76 : decode c_Mo_file 76 = .ok (.invokestatic 56, 3) := by decide +kernel
theorem d_Mo_file_79 : decode c_Mo_file 79 = .ok (.ifCond .eq 12, 3) := by decide +kernel
theorem d_Mo_file_82 : decode c_Mo_file 82 = .ok (.iload_n 3, 1) := by decide +kernel
theorem d_Mo_file_83 : decode c_Mo_file 83 = .ok (.ifCond .le 10, 3) := by decide +kernel
theorem d_Mo_file_86 : decode c_Mo_file 86 = .ok (.iload 7, 2) := by decide +kernel
theorem d_Mo_file_88 : decode c_Mo_file 88 = .ok (.ifCond .ne 5, 3) := by decide +kernel
theorem d_Mo_file_91 : decode c_Mo_file 91 = .ok (.iconst (-1), 1) := by decide +kernel
theorem d_Mo_file_92 : decode c_Mo_file 92 = .ok (.ireturn, 1) := by decide +kernel
theorem d_Mo_file_93 : decode c_Mo_file 93 = .ok (.aload_n 0, 1) := by decide +kernel
theorem d_Mo_file_94 : decode c_Mo_file 94 = .ok (.getfield 61, 3) := by decide +kernel
theorem d_Mo_file_97 : decode c_Mo_file 97 = .ok (.ifCond .eq 6, 3) := by decide +kernel
theorem d_Mo_file_100 : decode c_Mo_file 100 = .ok (.bipush (-3), 2) := by decide +kernel
theorem d_Mo_file_102 : decode c_Mo_file 102 = .ok (.ireturn, 1) := by decide +kernel
theorem d_Mo_file_103 : decode c_Mo_file 103 = .ok (.aload_n 0, 1) := by decide +kernel
theorem d_Mo_file_104 : decode c_Mo_file 104 = .ok (.getfield 28, 3) := by decide +kernel
theorem d_Mo_file_107 : decode c_Mo_file 107 = .ok (.bipush 8, 2) := by decide +kernel
theorem d_Mo_file_109 : decode c_Mo_file 109 = .ok (.if_icmp .ne 6, 3) := by decide +kernel
theorem d_Mo_file_112 : decode c_Mo_file 112 = .ok (.bipush (-2), 2) := by decide +kernel
theorem d_Mo_file_114 : decode c_Mo_file 114 = .ok (.ireturn, 1) := by decide +kernel
theorem d_Mo_file_115 : decode c_Mo_file 115 = .ok (.aload_n 0, 1) := by decide +kernel
theorem d_Mo_file_116 : decode c_Mo_file 116 = .ok (.getfield 7, 3) := by decide +kernel
theorem d_Mo_file_119 : decode c_Mo_file 119 = .ok (.aload_n 0, 1) := by decide +kernel
theorem d_Mo_file_120 : decode c_Mo_file 120 = .ok (.getfield 28, 3) := by decide +kernel
theorem d_Mo_file_123 : decode c_Mo_file 123 = .ok (.iload_n 2, 1) := by decide +kernel
theorem d_Mo_file_124 : decode c_Mo_file 124 = .ok (.iastore, 1) := by decide +kernel
theorem d_Mo_file_125 : decode c_Mo_file 125 = .ok (.aload_n 0, 1) := by decide +kernel
theorem d_Mo_file_126 : decode c_Mo_file 126 = .ok (.getfield 13, 3) := by decide +kernel
theorem d_Mo_file_129 : decode c_Mo_file 129 = .ok (.aload_n 0, 1) := by decide +kernel
theorem d_Mo_file_130 : decode c_Mo_file 130 = .ok (.getfield 28, 3) := by decide +kernel
theorem d_Mo_file_133 : decode c_Mo_file 133 = .ok (.iload_n 1, 1) := by decide +kernel
theorem d_Mo_file_134 : decode c_Mo_file 134 = .ok (.iastore, 1) := by decide +kernel
theorem d_Mo_file_135 : decode c_Mo_file 135 = .ok (.aload_n 0, 1) := by decide +kernel
theorem d_Mo_file_136 : decode c_Mo_file 136 = .ok (.getfield 16, 3) := by decide +kernel
theorem d_Mo_file_139 : decode c_Mo_file 139 = .ok (.aload_n 0, 1) := by decide +kernel
theorem d_Mo_file_140 : decode c_Mo_file 140 = .ok (.getfield 28, 3) := by decide +kernel
theorem d_Mo_file_143 : decode c_Mo_file 143 = .ok (.iload_n 3, 1) := by decide +kernel
theorem d_Mo_file_144 : decode c_Mo_file 144 = .ok (.iastore, 1) := by decide +kernel
theorem d_Mo_file_145 : decode c_Mo_file 145 = .ok (.aload_n 0, 1) := by decide +kernel
theorem d_Mo_file_146 : decode c_Mo_file 146 = .ok (.getfield 19, 3) := by decide +kernel
theorem d_Mo_file_149 : decode c_Mo_file 149 = .ok (.aload_n 0, 1) := by decide +kernel
theorem d_Mo_file_150 : decode c_Mo_file 150 = .ok (.getfield 28, 3) := by decide +kernel
theorem d_Mo_file_153 : decode c_Mo_file 153 = .ok (.iload_n 3, 1) := by decide +kernel
theorem d_Mo_file_154 : decode c_Mo_file 154 = .ok (.ifCond .le 8, 3) := by decide +kernel
theorem d_Mo_file_157 : decode c_Mo_file 157 = .ok (.iload 4, 2) := by decide +kernel
theorem d_Mo_file_159 : decode c_Mo_file 159 = .ok (.goto 4, 3) := by decide +kernel
theorem d_Mo_file_162 : decode c_Mo_file 162 = .ok (.iconst 0, 1) := by decide +kernel
theorem d_Mo_file_163 : decode c_Mo_file 163 = .ok (.iastore, 1) := by decide +kernel
theorem d_Mo_file_164 : decode c_Mo_file 164 = .ok (.aload_n 0, 1) := by decide +kernel
theorem d_Mo_file_165 : decode c_Mo_file 165 = .ok (.getfield 22, 3) := by decide +kernel
theorem d_Mo_file_168 : decode c_Mo_file 168 = .ok (.aload_n 0, 1) := by decide +kernel
theorem d_Mo_file_169 : decode c_Mo_file 169 = .ok (.getfield 28, 3) := by decide +kernel
theorem d_Mo_file_172 : decode c_Mo_file 172 = .ok (.iload_n 3, 1) := by decide +kernel
theorem d_Mo_file_173 : decode c_Mo_file 173 = .ok (.ifCond .le 8, 3) := by decide +kernel
theorem d_Mo_file_176 : decode c_Mo_file 176 = .ok (.iload 5, 2) := by decide +kernel
theorem d_Mo_file_178 : decode c_Mo_file 178 = .ok (.goto 4, 3) := by decide +kernel
theorem d_Mo_file_181 : decode c_Mo_file 181 = .ok (.iconst 0, 1) := by decide +kernel
theorem d_Mo_file_182 : decode c_Mo_file 182 = .ok (.iastore, 1) := by decide +kernel
theorem d_Mo_file_183 : decode c_Mo_file 183 = .ok (.aload_n 0, 1) := by decide +kernel
theorem d_Mo_file_184 : decode c_Mo_file 184 = .ok (.dup, 1) := by decide +kernel
theorem d_Mo_file_185 : decode c_Mo_file 185 = .ok (.getfield 28, 3) := by decide +kernel
theorem d_Mo_file_188 : decode c_Mo_file 188 = .ok (.iconst 1, 1) := by decide +kernel
theorem d_Mo_file_189 : decode c_Mo_file 189 = .ok (.iadd, 1) := by decide +kernel
theorem d_Mo_file_190 : decode c_Mo_file 190 = .ok (.putfield 28, 3) := by decide +kernel
theorem d_Mo_file_193 : decode c_Mo_file 193 = .ok (.aload_n 0, 1) := by decide +kernel
theorem d_Mo_file_194 : decode c_Mo_file 194 = .ok (.getfield 28, 3) := by decide +kernel
theorem d_Mo_file_197 : decode c_Mo_file 197 = .ok (.iconst 1, 1) := by decide +kernel
theorem d_Mo_file_198 : decode c_Mo_file 198 = .ok (.isub, 1) := by decide +kernel
theorem d_Mo_file_199 : decode c_Mo_file 199 = .ok (.ireturn, 1) := by decide +kernel
theorem d_Mo_within_0 : decode c_Mo_within 0 = .ok (.iload_n 0, 1) := by decide +kernel
theorem d_Mo_within_1 : decode c_Mo_within 1 = .ok (.iload_n 1, 1) := by decide +kernel
theorem d_Mo_within_2 : decode c_Mo_within 2 = .ok (.if_icmp .lt 12, 3) := by decide +kernel
theorem d_Mo_within_5 : decode c_Mo_within 5 = .ok (.iload_n 0, 1) := by decide +kernel
theorem d_Mo_within_6 : decode c_Mo_within 6 = .ok (.iload_n 2, 1) := by decide +kernel
theorem d_Mo_within_7 : decode c_Mo_within 7 = .ok (.if_icmp .gt 7, 3) := by decide +kernel
theorem d_Mo_within_10 : decode c_Mo_within 10 = .ok (.iconst 1, 1) := by decide +kernel
theorem d_Mo_within_11 : decode c_Mo_within 11 = .ok (.goto 4, 3) := by decide +kernel
theorem d_Mo_within_14 : decode c_Mo_within 14 = .ok (.iconst 0, 1) := by decide +kernel
theorem d_Mo_within_15 : decode c_Mo_within 15 = .ok (.ireturn, 1) := by decide +kernel
theorem d_Mo_tear_0 : decode c_Mo_tear 0 = .ok (.iload_n 1, 1) := by decide +kernel
theorem d_Mo_tear_1 : decode c_Mo_tear 1 = .ok (.iconst (-1), 1) := by decide +kernel
theorem d_Mo_tear_2 : decode c_Mo_tear 2 = .ok (.sipush 200, 3) := by decide +kernel
theorem d_Mo_tear_5 : decode c_Mo_tear 5 = .ok (.invokestatic 56, 3) := by decide +kernel
theorem d_Mo_tear_8 : decode c_Mo_tear 8 = .ok (.ifCond .ne 5, 3) := by decide +kernel
theorem d_Mo_tear_11 : decode c_Mo_tear 11 = .ok (.iconst (-1), 1) := by decide +kernel
theorem d_Mo_tear_12 : decode c_Mo_tear 12 = .ok (.ireturn, 1) := by decide +kernel
theorem d_Mo_tear_13 : decode c_Mo_tear 13 = .ok (.aload_n 0, 1) := by decide +kernel
theorem d_Mo_tear_14 : decode c_Mo_tear 14 = .ok (.getfield 35, 3) := by decide +kernel
theorem d_Mo_tear_17 : decode c_Mo_tear 17 = .ok (.istore_n 2, 1) := by decide +kernel
theorem d_Mo_tear_18 : decode c_Mo_tear 18 = .ok (.aload_n 0, 1) := by decide +kernel
theorem d_Mo_tear_19 : decode c_Mo_tear 19 = .ok (.iload_n 1, 1) := by decide +kernel
theorem d_Mo_tear_20 : decode c_Mo_tear 20 = .ok (.putfield 35, 3) := by decide +kernel
theorem d_Mo_tear_23 : decode c_Mo_tear 23 = .ok (.iload_n 2, 1) := by decide +kernel
theorem d_Mo_tear_24 : decode c_Mo_tear 24 = .ok (.ireturn, 1) := by decide +kernel
theorem d_Mo_on_0 : decode c_Mo_on 0 = .ok (.aload_n 0, 1) := by decide +kernel
theorem d_Mo_on_1 : decode c_Mo_on 1 = .ok (.iconst 1, 1) := by decide +kernel
theorem d_Mo_on_2 : decode c_Mo_on 2 = .ok (.putfield 61, 3) := by decide +kernel
theorem d_Mo_on_5 : decode c_Mo_on 5 = .ok (.aload_n 0, 1) := by decide +kernel
theorem d_Mo_on_6 : decode c_Mo_on 6 = .ok (.getfield 74, 3) := by decide +kernel
theorem d_Mo_on_9 : decode c_Mo_on 9 = .ok (.ifCond .le 14, 3) := by decide +kernel
theorem d_Mo_on_12 : decode c_Mo_on 12 = .ok (.aload_n 0, 1) := by decide +kernel
theorem d_Mo_on_13 : decode c_Mo_on 13 = .ok (.invokevirtual 87, 3) := by decide +kernel
theorem d_Mo_on_16 : decode c_Mo_on 16 = .ok (.istore_n 1, 1) := by decide +kernel
theorem d_Mo_on_17 : decode c_Mo_on 17 = .ok (.iload_n 1, 1) := by decide +kernel
theorem d_Mo_on_18 : decode c_Mo_on 18 = .ok (.ifCond .ne 5, 3) := by decide +kernel
theorem d_Mo_on_21 : decode c_Mo_on 21 = .ok (.iconst 0, 1) := by decide +kernel
theorem d_Mo_on_22 : decode c_Mo_on 22 = .ok (.ireturn, 1) := by decide +kernel
theorem d_Mo_on_23 : decode c_Mo_on 23 = .ok (.aload_n 0, 1) := by decide +kernel
theorem d_Mo_on_24 : decode c_Mo_on 24 = .ok (.iconst 0, 1) := by decide +kernel
theorem d_Mo_on_25 : decode c_Mo_on 25 = .ok (.putfield 90, 3) := by decide +kernel
theorem d_Mo_on_28 : decode c_Mo_on 28 = .ok (.aload_n 0, 1) := by decide +kernel
theorem d_Mo_on_29 : decode c_Mo_on 29 = .ok (.iconst 0, 1) := by decide +kernel
theorem d_Mo_on_30 : decode c_Mo_on 30 = .ok (.putfield 93, 3) := by decide +kernel
theorem d_Mo_on_33 : decode c_Mo_on 33 = .ok (.aload_n 0, 1) := by decide +kernel
theorem d_Mo_on_34 : decode c_Mo_on 34 = .ok (.iconst (-1), 1) := by decide +kernel
theorem d_Mo_on_35 : decode c_Mo_on 35 = .ok (.putfield 96, 3) := by decide +kernel
theorem d_Mo_on_38 : decode c_Mo_on 38 = .ok (.aload_n 0, 1) := by decide +kernel
theorem d_Mo_on_39 : decode c_Mo_on 39 = .ok (.bipush 32, 2) := by decide +kernel
theorem d_Mo_on_41 : decode c_Mo_on 41 = .ok (.putfield 99, 3) := by decide +kernel
theorem d_Mo_on_44 : decode c_Mo_on 44 = .ok (.aload_n 0, 1) := by decide +kernel
theorem d_Mo_on_45 : decode c_Mo_on 45 = .ok (.iconst 0, 1) := by decide +kernel
theorem d_Mo_on_46 : decode c_Mo_on 46 = .ok (.putfield 102, 3) := by decide +kernel
theorem d_Mo_on_49 : decode c_Mo_on 49 = .ok (.aload_n 0, 1) := by decide +kernel
theorem d_Mo_on_50 : decode c_Mo_on 50 = .ok (.invokevirtual 105, 3) := by decide +kernel
theorem d_Mo_on_53 : decode c_Mo_on 53 = .ok (.aload_n 0, 1) := by decide +kernel
theorem d_Mo_on_54 : decode c_Mo_on 54 = .ok (.getfield 50, 3) := by decide +kernel
theorem d_Mo_on_57 : decode c_Mo_on 57 = .ok (.iconst 0, 1) := by decide +kernel
theorem d_Mo_on_58 : decode c_Mo_on 58 = .ok (.bipush 59, 2) := by decide +kernel
theorem d_Mo_on_60 : decode c_Mo_on 60 = .ok (.iastore, 1) := by decide +kernel
theorem d_Mo_on_61 : decode c_Mo_on 61 = .ok (.aload_n 0, 1) := by decide +kernel
theorem d_Mo_on_62 : decode c_Mo_on 62 = .ok (.getfield 50, 3) := by decide +kernel
theorem d_Mo_on_65 : decode c_Mo_on 65 = .ok (.iconst 1, 1) := by decide +kernel
theorem d_Mo_on_66 : decode c_Mo_on 66 = .ok (.iconst 1, 1) := by decide +kernel
theorem d_Mo_on_67 : decode c_Mo_on 67 = .ok (.iastore, 1) := by decide +kernel
theorem d_Mo_on_68 : decode c_Mo_on 68 = .ok (.aload_n 0, 1) := by decide +kernel
theorem d_Mo_on_69 : decode c_Mo_on 69 = .ok (.getfield 50, 3) := by decide +kernel
theorem d_Mo_on_72 : decode c_Mo_on 72 = .ok (.iconst 2, 1) := by decide +kernel
theorem d_Mo_on_73 : decode c_Mo_on 73 = .ok (.aload_n 0, 1) := by decide +kernel
theorem d_Mo_on_74 : decode c_Mo_on 74 = .ok (.getfield 32, 3) := by decide +kernel
theorem d_Mo_on_77 : decode c_Mo_on 77 = .ok (.iastore, 1) := by decide +kernel
theorem d_Mo_on_78 : decode c_Mo_on 78 = .ok (.aload_n 0, 1) := by decide +kernel
theorem d_Mo_on_79 : decode c_Mo_on 79 = .ok (.getfield 50, 3) := by decide +kernel
theorem d_Mo_on_82 : decode c_Mo_on 82 = .ok (.iconst 3, 1) := by decide +kernel
theorem d_Mo_on_83 : decode c_Mo_on 83 = .ok (.bipush 32, 2) := by decide +kernel
theorem d_Mo_on_85 : decode c_Mo_on 85 = .ok (.iastore, 1) := by decide +kernel
theorem d_Mo_on_86 : decode c_Mo_on 86 = .ok (.aload_n 0, 1) := by decide +kernel
theorem d_Mo_on_87 : decode c_Mo_on 87 = .ok (.iconst 4, 1) := by decide +kernel
theorem d_Mo_on_88 : decode c_Mo_on 88 = .ok (.putfield 68, 3) := by decide +kernel
theorem d_Mo_on_91 : decode c_Mo_on 91 = .ok (.iconst 1, 1) := by decide +kernel
theorem d_Mo_on_92 : decode c_Mo_on 92 = .ok (.ireturn, 1) := by decide +kernel
theorem d_Mo_settle_0 : decode c_Mo_settle 0 = .ok (.iconst 0, 1) := by decide +kernel
theorem d_Mo_settle_1 : decode c_Mo_settle 1 = .ok (.istore_n 1, 1) := by decide +kernel
theorem d_Mo_settle_2 : decode c_Mo_settle 2 = .ok (.iload_n 1, 1) := by decide +kernel
theorem d_Mo_settle_3 : decode c_Mo_settle 3 = .ok (.aload_n 0, 1) := by decide +kernel
theorem d_Mo_settle_4 : decode c_Mo_settle 4 = .ok (.getfield 74, 3) := by decide +kernel
theorem d_Mo_settle_7 : decode c_Mo_settle 7 = .ok (.if_icmp .ge 45, 3) := by decide +kernel
theorem d_Mo_settle_10 : decode c_Mo_settle 10 = .ok (.aload_n 0, 1) := by decide +kernel
theorem d_Mo_settle_11 : decode c_Mo_settle 11 = .ok (.invokevirtual 77, 3) := by decide +kernel
theorem d_Mo_settle_14 : decode c_Mo_settle 14 = .ok (.istore_n 2, 1) := by decide +kernel
theorem d_Mo_settle_15 : decode c_Mo_settle 15 = .ok (.iload_n 2, 1) := by decide +kernel
theorem d_Mo_settle_16 : decode c_Mo_settle 16 = .ok (.ifCond .ne 5, 3) := by decide +kernel
theorem d_Mo_settle_19 : decode c_Mo_settle 19 = .ok (.iconst 0, 1) := by decide +kernel
theorem d_Mo_settle_20 : decode c_Mo_settle 20 = .ok (.ireturn, 1) := by decide +kernel
theorem d_Mo_settle_21 : decode c_Mo_settle 21 = .ok (.aload_n 0, 1) := by decide +kernel
theorem d_Mo_settle_22 : decode c_Mo_settle 22 = .ok (.getfield 25, 3) := by decide +kernel
theorem d_Mo_settle_25 : decode c_Mo_settle 25 = .ok (.bipush 24, 2) := by decide +kernel
theorem d_Mo_settle_27 : decode c_Mo_settle 27 = .ok (.aload_n 0, 1) := by decide +kernel
theorem d_Mo_settle_28 : decode c_Mo_settle 28 = .ok (.getfield 81, 3) := by decide +kernel
theorem d_Mo_settle_31 : decode c_Mo_settle 31 = .ok (.imul, 1) := by decide +kernel
theorem d_Mo_settle_32 : decode c_Mo_settle 32 = .ok (.aload_n 0, 1) := by decide +kernel
theorem d_Mo_settle_33 : decode c_Mo_settle 33 = .ok (.getfield 84, 3) := by decide +kernel
theorem d_Mo_settle_36 : decode c_Mo_settle 36 = .ok (.iadd, 1) := by decide +kernel
theorem d_Mo_settle_37 : decode c_Mo_settle 37 = .ok (.iload_n 1, 1) := by decide +kernel
theorem d_Mo_settle_38 : decode c_Mo_settle 38 = .ok (.iadd, 1) := by decide +kernel
theorem d_Mo_settle_39 : decode c_Mo_settle 39 = .ok (.aload_n 0, 1) := by decide +kernel
theorem d_Mo_settle_40 : decode c_Mo_settle 40 = .ok (.getfield 38, 3) := by decide +kernel
theorem d_Mo_settle_43 : decode c_Mo_settle 43 = .ok (.iload_n 1, 1) := by decide +kernel
theorem d_Mo_settle_44 : decode c_Mo_settle 44 = .ok (.iaload, 1) := by decide +kernel
theorem d_Mo_settle_45 : decode c_Mo_settle 45 = .ok (.iastore, 1) := by decide +kernel
theorem d_Mo_settle_46 : decode c_Mo_settle 46 = .ok (.iinc 1 1, 3) := by decide +kernel
theorem d_Mo_settle_49 : decode c_Mo_settle 49 = .ok (.goto (-47), 3) := by decide +kernel
theorem d_Mo_settle_52 : decode c_Mo_settle 52 = .ok (.aload_n 0, 1) := by decide +kernel
theorem d_Mo_settle_53 : decode c_Mo_settle 53 = .ok (.invokevirtual 77, 3) := by decide +kernel
theorem d_Mo_settle_56 : decode c_Mo_settle 56 = .ok (.istore_n 1, 1) := by decide +kernel
theorem d_Mo_settle_57 : decode c_Mo_settle 57 = .ok (.iload_n 1, 1) := by decide +kernel
theorem d_Mo_settle_58 : decode c_Mo_settle 58 = .ok (.ifCond .eq 8, 3) := by decide +kernel
theorem d_Mo_settle_61 : decode c_Mo_settle 61 = .ok (.aload_n 0, 1) := by decide +kernel
theorem d_Mo_settle_62 : decode c_Mo_settle 62 = .ok (.iconst 0, 1) := by decide +kernel
theorem d_Mo_settle_63 : decode c_Mo_settle 63 = .ok (.putfield 74, 3) := by decide +kernel
theorem d_Mo_settle_66 : decode c_Mo_settle 66 = .ok (.iload_n 1, 1) := by decide +kernel
theorem d_Mo_settle_67 : decode c_Mo_settle 67 = .ok (.ireturn, 1) := by decide +kernel
theorem d_Mo_writes_0 : decode c_Mo_writes 0 = .ok (.aload_n 0, 1) := by decide +kernel
theorem d_Mo_writes_1 : decode c_Mo_writes 1 = .ok (.getfield 35, 3) := by decide +kernel
theorem d_Mo_writes_4 : decode c_Mo_writes 4 = .ok (.ifCond .ne 30, 3) := by decide +kernel
theorem d_Mo_writes_7 : decode c_Mo_writes 7 = .ok (.aload_n 0, 1) := by decide +kernel
theorem d_Mo_writes_8 : decode c_Mo_writes 8 = .ok (.iconst (-1), 1) := by decide +kernel
theorem d_Mo_writes_9 : decode c_Mo_writes 9 = .ok (.putfield 35, 3) := by decide +kernel
theorem d_Mo_writes_12 : decode c_Mo_writes 12 = .ok (.aload_n 0, 1) := by decide +kernel
theorem d_Mo_writes_13 : decode c_Mo_writes 13 = .ok (.dup, 1) := by decide +kernel
theorem d_Mo_writes_14 : decode c_Mo_writes 14 = .ok (.getfield 65, 3) := by decide +kernel
theorem d_Mo_writes_17 : decode c_Mo_writes 17 = .ok (.iconst 1, 1) := by decide +kernel
theorem d_Mo_writes_18 : decode c_Mo_writes 18 = .ok (.iadd, 1) := by decide +kernel
theorem d_Mo_writes_19 : decode c_Mo_writes 19 = .ok (.putfield 65, 3) := by decide +kernel
theorem d_Mo_writes_22 : decode c_Mo_writes 22 = .ok (.aload_n 0, 1) := by decide +kernel
theorem d_Mo_writes_23 : decode c_Mo_writes 23 = .ok (.iconst 0, 1) := by decide +kernel
theorem d_Mo_writes_24 : decode c_Mo_writes 24 = .ok (.putfield 61, 3) := by decide +kernel
theorem d_Mo_writes_27 : decode c_Mo_writes 27 = .ok (.aload_n 0, 1) := by decide +kernel
theorem d_Mo_writes_28 : decode c_Mo_writes 28 = .ok (.iconst 0, 1) := by decide +kernel
theorem d_Mo_writes_29 : decode c_Mo_writes 29 = .ok (.putfield 68, 3) := by decide +kernel
theorem d_Mo_writes_32 : decode c_Mo_writes 32 = .ok (.iconst 0, 1) := by decide +kernel
theorem d_Mo_writes_33 : decode c_Mo_writes 33 = .ok (.ireturn, 1) := by decide +kernel
theorem d_Mo_writes_34 : decode c_Mo_writes 34 = .ok (.aload_n 0, 1) := by decide +kernel
theorem d_Mo_writes_35 : decode c_Mo_writes 35 = .ok (.getfield 35, 3) := by decide +kernel
theorem d_Mo_writes_38 : decode c_Mo_writes 38 = .ok (.ifCond .le 13, 3) := by decide +kernel
theorem d_Mo_writes_41 : decode c_Mo_writes 41 = .ok (.aload_n 0, 1) := by decide +kernel
theorem d_Mo_writes_42 : decode c_Mo_writes 42 = .ok (.dup, 1) := by decide +kernel
theorem d_Mo_writes_43 : decode c_Mo_writes 43 = .ok (.getfield 35, 3) := by decide +kernel
theorem d_Mo_writes_46 : decode c_Mo_writes 46 = .ok (.iconst 1, 1) := by decide +kernel
theorem d_Mo_writes_47 : decode c_Mo_writes 47 = .ok (.isub, 1) := by decide +kernel
theorem d_Mo_writes_48 : decode c_Mo_writes 48 = .ok (.putfield 35, 3) := by decide +kernel
theorem d_Mo_writes_51 : decode c_Mo_writes 51 = .ok (.aload_n 0, 1) := by decide +kernel
theorem d_Mo_writes_52 : decode c_Mo_writes 52 = .ok (.dup, 1) := by decide +kernel
theorem d_Mo_writes_53 : decode c_Mo_writes 53 = .ok (.getfield 71, 3) := by decide +kernel
theorem d_Mo_writes_56 : decode c_Mo_writes 56 = .ok (.iconst 1, 1) := by decide +kernel
theorem d_Mo_writes_57 : decode c_Mo_writes 57 = .ok (.iadd, 1) := by decide +kernel
theorem d_Mo_writes_58 : decode c_Mo_writes 58 = .ok (.putfield 71, 3) := by decide +kernel
theorem d_Mo_writes_61 : decode c_Mo_writes 61 = .ok (.iconst 1, 1) := by decide +kernel
theorem d_Mo_writes_62 : decode c_Mo_writes 62 = .ok (.ireturn, 1) := by decide +kernel
theorem d_Mo_begin_0 : decode c_Mo_begin 0 = .ok (.aload_n 0, 1) := by decide +kernel
theorem d_Mo_begin_1 : decode c_Mo_begin 1 = .ok (.iconst 0, 1) := by decide +kernel
theorem d_Mo_begin_2 : decode c_Mo_begin 2 = .ok (.putfield 108, 3) := by decide +kernel
theorem d_Mo_begin_5 : decode c_Mo_begin 5 = .ok (.aload_n 0, 1) := by decide +kernel
theorem d_Mo_begin_6 : decode c_Mo_begin 6 = .ok (.iconst 0, 1) := by decide +kernel
theorem d_Mo_begin_7 : decode c_Mo_begin 7 = .ok (.putfield 111, 3) := by decide +kernel
theorem d_Mo_begin_10 : decode c_Mo_begin 10 = .ok (.aload_n 0, 1) := by decide +kernel
theorem d_Mo_begin_11 : decode c_Mo_begin 11 = .ok (.iconst 0, 1) := by decide +kernel
theorem d_Mo_begin_12 : decode c_Mo_begin 12 = .ok (.putfield 114, 3) := by decide +kernel
theorem d_Mo_begin_15 : decode c_Mo_begin 15 = .ok (.aload_n 0, 1) := by decide +kernel
theorem d_Mo_begin_16 : decode c_Mo_begin 16 = .ok (.invokevirtual 117, 3) := by decide +kernel
theorem d_Mo_begin_19 : decode c_Mo_begin 19 = .ok (.return_, 1) := by decide +kernel
theorem d_Mo_forget_0 : decode c_Mo_forget 0 = .ok (.aload_n 0, 1) := by decide +kernel
theorem d_Mo_forget_1 : decode c_Mo_forget 1 = .ok (.iconst 0, 1) := by decide +kernel
theorem d_Mo_forget_2 : decode c_Mo_forget 2 = .ok (.putfield 120, 3) := by decide +kernel
theorem d_Mo_forget_5 : decode c_Mo_forget 5 = .ok (.aload_n 0, 1) := by decide +kernel
theorem d_Mo_forget_6 : decode c_Mo_forget 6 = .ok (.iconst 0, 1) := by decide +kernel
theorem d_Mo_forget_7 : decode c_Mo_forget 7 = .ok (.putfield 123, 3) := by decide +kernel
theorem d_Mo_forget_10 : decode c_Mo_forget 10 = .ok (.aload_n 0, 1) := by decide +kernel
theorem d_Mo_forget_11 : decode c_Mo_forget 11 = .ok (.iconst 0, 1) := by decide +kernel
theorem d_Mo_forget_12 : decode c_Mo_forget 12 = .ok (.putfield 126, 3) := by decide +kernel
theorem d_Mo_forget_15 : decode c_Mo_forget 15 = .ok (.aload_n 0, 1) := by decide +kernel
theorem d_Mo_forget_16 : decode c_Mo_forget 16 = .ok (.iconst 0, 1) := by decide +kernel
theorem d_Mo_forget_17 : decode c_Mo_forget 17 = .ok (.putfield 129, 3) := by decide +kernel
theorem d_Mo_forget_20 : decode c_Mo_forget 20 = .ok (.return_, 1) := by decide +kernel
theorem d_Mo_off_0 : decode c_Mo_off 0 = .ok (.aload_n 0, 1) := by decide +kernel
theorem d_Mo_off_1 : decode c_Mo_off 1 = .ok (.getfield 61, 3) := by decide +kernel
theorem d_Mo_off_4 : decode c_Mo_off 4 = .ok (.ifCond .ne 5, 3) := by decide +kernel
theorem d_Mo_off_7 : decode c_Mo_off 7 = .ok (.iconst 0, 1) := by decide +kernel
theorem d_Mo_off_8 : decode c_Mo_off 8 = .ok (.ireturn, 1) := by decide +kernel
theorem d_Mo_off_9 : decode c_Mo_off 9 = .ok (.aload_n 0, 1) := by decide +kernel
theorem d_Mo_off_10 : decode c_Mo_off 10 = .ok (.iconst 0, 1) := by decide +kernel
theorem d_Mo_off_11 : decode c_Mo_off 11 = .ok (.putfield 61, 3) := by decide +kernel
theorem d_Mo_off_14 : decode c_Mo_off 14 = .ok (.aload_n 0, 1) := by decide +kernel
theorem d_Mo_off_15 : decode c_Mo_off 15 = .ok (.iconst 0, 1) := by decide +kernel
theorem d_Mo_off_16 : decode c_Mo_off 16 = .ok (.putfield 68, 3) := by decide +kernel
theorem d_Mo_off_19 : decode c_Mo_off 19 = .ok (.iconst 1, 1) := by decide +kernel
theorem d_Mo_off_20 : decode c_Mo_off 20 = .ok (.ireturn, 1) := by decide +kernel
theorem d_Mo_feed_0 : decode c_Mo_feed 0 = .ok (.iload_n 3, 1) := by decide +kernel
theorem d_Mo_feed_1 : decode c_Mo_feed 1 = .ok (.iconst 1, 1) := by decide +kernel
theorem d_Mo_feed_2 : decode c_Mo_feed 2 = .ok (.bipush 8, 2) := by decide +kernel
theorem d_Mo_feed_4 : decode c_Mo_feed 4 = .ok (.invokestatic 56, 3) := by decide +kernel
theorem d_Mo_feed_7 : decode c_Mo_feed 7 = .ok (.ifCond .ne 5, 3) := by decide +kernel
theorem d_Mo_feed_10 : decode c_Mo_feed 10 = .ok (.iconst (-1), 1) := by decide +kernel
theorem d_Mo_feed_11 : decode c_Mo_feed 11 = .ok (.ireturn, 1) := by decide +kernel
theorem d_Mo_feed_12 : decode c_Mo_feed 12 = .ok (.aload_n 0, 1) := by decide +kernel
theorem d_Mo_feed_13 : decode c_Mo_feed 13 = .ok (.getfield 61, 3) := by decide +kernel
theorem d_Mo_feed_16 : decode c_Mo_feed 16 = .ok (.ifCond .ne 6, 3) := by decide +kernel
theorem d_Mo_feed_19 : decode c_Mo_feed 19 = .ok (.bipush (-3), 2) := by decide +kernel
theorem d_Mo_feed_21 : decode c_Mo_feed 21 = .ok (.ireturn, 1) := by decide +kernel
theorem d_Mo_feed_22 : decode c_Mo_feed 22 = .ok (.iconst 0, 1) := by decide +kernel
theorem d_Mo_feed_23 : decode c_Mo_feed 23 = .ok (.istore 4, 2) := by decide +kernel
theorem d_Mo_feed_25 : decode c_Mo_feed 25 = .ok (.iload 4, 2) := by decide +kernel
theorem d_Mo_feed_27 : decode c_Mo_feed 27 = .ok (.iload_n 3, 1) := by decide +kernel
theorem d_Mo_feed_28 : decode c_Mo_feed 28 = .ok (.if_icmp .ge 32, 3) := by decide +kernel
theorem d_Mo_feed_31 : decode c_Mo_feed 31 = .ok (.aload_n 0, 1) := by decide +kernel
theorem d_Mo_feed_32 : decode c_Mo_feed 32 = .ok (.getfield 61, 3) := by decide +kernel
theorem d_Mo_feed_35 : decode c_Mo_feed 35 = .ok (.ifCond .eq 25, 3) := by decide +kernel
theorem d_Mo_feed_38 : decode c_Mo_feed 38 = .ok (.aload_n 0, 1) := by decide +kernel
theorem d_Mo_feed_39 : decode c_Mo_feed 39 = .ok (.lload_n 1, 1) := by decide +kernel
theorem d_Mo_feed_40 : decode c_Mo_feed 40 = .ok (.bipush 8, 2) := by decide +kernel
theorem d_Mo_feed_42 : decode c_Mo_feed 42 = .ok (.iload 4, 2) := by decide +kernel
theorem d_Mo_feed_44 : decode c_Mo_feed 44 = .ok (.imul, 1) := by decide +kernel
theorem d_Mo_feed_45 : decode c_Mo_feed 45 = .ok (.lushr, 1) := by decide +kernel
theorem d_Mo_feed_46 : decode c_Mo_feed 46 = .ok (.ldc2_w 194, 3) := by decide +kernel
theorem d_Mo_feed_49 : decode c_Mo_feed 49 = .ok (.land, 1) := by decide +kernel
theorem d_Mo_feed_50 : decode c_Mo_feed 50 = .ok (.l2i, 1) := by decide +kernel
theorem d_Mo_feed_51 : decode c_Mo_feed 51 = .ok (.invokevirtual 196, 3) := by decide +kernel
theorem d_Mo_feed_54 : decode c_Mo_feed 54 = .ok (.iinc 4 1, 3) := by decide +kernel
theorem d_Mo_feed_57 : decode c_Mo_feed 57 = .ok (.goto (-32), 3) := by decide +kernel
theorem d_Mo_feed_60 : decode c_Mo_feed 60 = .ok (.aload_n 0, 1) := by decide +kernel
theorem d_Mo_feed_61 : decode c_Mo_feed 61 = .ok (.getfield 61, 3) := by decide +kernel
theorem d_Mo_feed_64 : decode c_Mo_feed 64 = .ok (.ifCond .eq 10, 3) := by decide +kernel
theorem d_Mo_feed_67 : decode c_Mo_feed 67 = .ok (.aload_n 0, 1) := by decide +kernel
theorem d_Mo_feed_68 : decode c_Mo_feed 68 = .ok (.getfield 102, 3) := by decide +kernel
theorem d_Mo_feed_71 : decode c_Mo_feed 71 = .ok (.goto 4, 3) := by decide +kernel
theorem d_Mo_feed_74 : decode c_Mo_feed 74 = .ok (.iconst 0, 1) := by decide +kernel
theorem d_Mo_feed_75 : decode c_Mo_feed 75 = .ok (.ireturn, 1) := by decide +kernel
theorem d_Mo_take_0 : decode c_Mo_take 0 = .ok (.aload_n 0, 1) := by decide +kernel
theorem d_Mo_take_1 : decode c_Mo_take 1 = .ok (.getfield 41, 3) := by decide +kernel
theorem d_Mo_take_4 : decode c_Mo_take 4 = .ok (.aload_n 0, 1) := by decide +kernel
theorem d_Mo_take_5 : decode c_Mo_take 5 = .ok (.getfield 102, 3) := by decide +kernel
theorem d_Mo_take_8 : decode c_Mo_take 8 = .ok (.iload_n 1, 1) := by decide +kernel
theorem d_Mo_take_9 : decode c_Mo_take 9 = .ok (.iastore, 1) := by decide +kernel
theorem d_Mo_take_10 : decode c_Mo_take 10 = .ok (.aload_n 0, 1) := by decide +kernel
theorem d_Mo_take_11 : decode c_Mo_take 11 = .ok (.dup, 1) := by decide +kernel
theorem d_Mo_take_12 : decode c_Mo_take 12 = .ok (.getfield 102, 3) := by decide +kernel
theorem d_Mo_take_15 : decode c_Mo_take 15 = .ok (.iconst 1, 1) := by decide +kernel
theorem d_Mo_take_16 : decode c_Mo_take 16 = .ok (.iadd, 1) := by decide +kernel
theorem d_Mo_take_17 : decode c_Mo_take 17 = .ok (.putfield 102, 3) := by decide +kernel
theorem d_Mo_take_20 : decode c_Mo_take 20 = .ok (.aload_n 0, 1) := by decide +kernel
theorem d_Mo_take_21 : decode c_Mo_take 21 = .ok (.getfield 102, 3) := by decide +kernel
theorem d_Mo_take_24 : decode c_Mo_take 24 = .ok (.iconst 3, 1) := by decide +kernel
theorem d_Mo_take_25 : decode c_Mo_take 25 = .ok (.if_icmp .ne 13, 3) := by decide +kernel
theorem d_Mo_take_28 : decode c_Mo_take 28 = .ok (.iload_n 1, 1) := by decide +kernel
theorem d_Mo_take_29 : decode c_Mo_take 29 = .ok (.bipush 32, 2) := by decide +kernel
theorem d_Mo_take_31 : decode c_Mo_take 31 = .ok (.if_icmp .le 7, 3) := by decide +kernel
theorem d_Mo_take_34 : decode c_Mo_take 34 = .ok (.iconst 1, 1) := by decide +kernel
theorem d_Mo_take_35 : decode c_Mo_take 35 = .ok (.goto 4, 3) := by decide +kernel
theorem d_Mo_take_38 : decode c_Mo_take 38 = .ok (.iconst 0, 1) := by decide +kernel
theorem d_Mo_take_39 : decode c_Mo_take 39 = .ok (.istore_n 2, 1) := by decide +kernel
theorem d_Mo_take_40 : decode c_Mo_take 40 = .ok (.iload_n 2, 1) := by decide +kernel
theorem d_Mo_take_41 : decode c_Mo_take 41 = .ok (.ifCond .ne 27, 3) := by decide +kernel
theorem d_Mo_take_44 : decode c_Mo_take 44 = .ok (.aload_n 0, 1) := by decide +kernel
theorem d_Mo_take_45 : decode c_Mo_take 45 = .ok (.getfield 102, 3) := by decide +kernel
theorem d_Mo_take_48 : decode c_Mo_take 48 = .ok (.iconst 4, 1) := by decide +kernel
theorem d_Mo_take_49 : decode c_Mo_take 49 = .ok (.if_icmp .lt 18, 3) := by decide +kernel
theorem d_Mo_take_52 : decode c_Mo_take 52 = .ok (.aload_n 0, 1) := by decide +kernel
theorem d_Mo_take_53 : decode c_Mo_take 53 = .ok (.getfield 102, 3) := by decide +kernel
theorem d_Mo_take_56 : decode c_Mo_take 56 = .ok (.aload_n 0, 1) := by decide +kernel
theorem d_Mo_take_57 : decode c_Mo_take 57 = .ok (.getfield 41, 3) := by decide +kernel
theorem d_Mo_take_60 : decode c_Mo_take 60 = .ok (.iconst 2, 1) := by decide +kernel
theorem d_Mo_take_61 : decode c_Mo_take 61 = .ok (.iaload, 1) := by decide +kernel
theorem d_Mo_take_62 : decode c_Mo_take 62 = .ok (.iconst 4, 1) := by decide +kernel
theorem d_Mo_take_63 : decode c_Mo_take 63 = .ok (.iadd, 1) := by decide +kernel
theorem d_Mo_take_64 : decode c_Mo_take 64 = .ok (.if_icmp .ge 4, 3) := by decide +kernel
theorem d_Mo_take_67 : decode c_Mo_take 67 = .ok (.return_, 1) := by decide +kernel
theorem d_Mo_take_68 : decode c_Mo_take 68 = .ok (.iconst 0, 1) := by decide +kernel
theorem d_Mo_take_69 : decode c_Mo_take 69 = .ok (.istore_n 3, 1) := by decide +kernel
theorem d_Mo_take_70 : decode c_Mo_take 70 = .ok (.aload_n 0, 1) := by decide +kernel
theorem d_Mo_take_71 : decode c_Mo_take 71 = .ok (.getfield 102, 3) := by decide +kernel
theorem d_Mo_take_74 : decode c_Mo_take 74 = .ok (.istore 4, 2) := by decide +kernel
theorem d_Mo_take_76 : decode c_Mo_take 76 = .ok (.iconst 0, 1) := by decide +kernel
theorem d_Mo_take_77 : decode c_Mo_take 77 = .ok (.istore 5, 2) := by decide +kernel
theorem d_Mo_take_79 : decode c_Mo_take 79 = .ok (.iload 5, 2) := by decide +kernel
theorem d_Mo_take_81 : decode c_Mo_take 81 = .ok (.iload 4, 2) := by decide +kernel
theorem d_Mo_take_83 : decode c_Mo_take 83 = .ok (.if_icmp .ge 19, 3) := by decide +kernel
theorem d_Mo_take_86 : decode c_Mo_take 86 = .ok (.iload_n 3, 1) := by decide +kernel
theorem d_Mo_take_87 : decode c_Mo_take 87 = .ok (.aload_n 0, 1) := by decide +kernel
theorem d_Mo_take_88 : decode c_Mo_take 88 = .ok (.getfield 41, 3) := by decide +kernel
theorem d_Mo_take_91 : decode c_Mo_take 91 = .ok (.iload 5, 2) := by decide +kernel
theorem d_Mo_take_93 : decode c_Mo_take 93 = .ok (.iaload, 1) := by decide +kernel
theorem d_Mo_take_94 : decode c_Mo_take 94 = .ok (.ixor, 1) := by decide +kernel
theorem d_Mo_take_95 : decode c_Mo_take 95 = .ok (.istore_n 3, 1) := by decide +kernel
theorem d_Mo_take_96 : decode c_Mo_take 96 = .ok (.iinc 5 1, 3) := by decide +kernel
theorem d_Mo_take_99 : decode c_Mo_take 99 = .ok (.goto (-20), 3) := by decide +kernel
theorem d_Mo_take_102 : decode c_Mo_take 102 = .ok (.aload_n 0, 1) := by decide +kernel
theorem d_Mo_take_103 : decode c_Mo_take 103 = .ok (.iconst 0, 1) := by decide +kernel
theorem d_Mo_take_104 : decode c_Mo_take 104 = .ok (.putfield 102, 3) := by decide +kernel
theorem d_Mo_take_107 : decode c_Mo_take 107 = .ok (.iload_n 2, 1) := by decide +kernel
theorem d_Mo_take_108 : decode c_Mo_take 108 = .ok (.ifCond .ne 15, 3) := by decide +kernel
theorem d_Mo_take_111 : decode c_Mo_take 111 = .ok (.iload_n 3, 1) := by decide +kernel
theorem d_Mo_take_112 : decode c_Mo_take 112 = .ok (.ifCond .eq 11, 3) := by decide +kernel
theorem d_Mo_take_115 : decode c_Mo_take 115 = .ok (.aload_n 0, 1) := by decide +kernel
theorem d_Mo_take_116 : decode c_Mo_take 116 = .ok (.iconst 1, 1) := by decide +kernel
theorem d_Mo_take_117 : decode c_Mo_take 117 = .ok (.invokevirtual 132, 3) := by decide +kernel
theorem d_Mo_take_120 : decode c_Mo_take 120 = .ok (.goto 40, 3) := by decide +kernel
theorem d_Mo_take_123 : decode c_Mo_take 123 = .ok (.iload_n 2, 1) := by decide +kernel
theorem d_Mo_take_124 : decode c_Mo_take 124 = .ok (.ifCond .ne 12, 3) := by decide +kernel
theorem d_Mo_take_127 : decode c_Mo_take 127 = .ok (.aload_n 0, 1) := by decide +kernel
theorem d_Mo_take_128 : decode c_Mo_take 128 = .ok (.getfield 41, 3) := by decide +kernel
theorem d_Mo_take_131 : decode c_Mo_take 131 = .ok (.iconst 0, 1) := by decide +kernel
theorem d_Mo_take_132 : decode c_Mo_take 132 = .ok (.iaload, 1) := by decide +kernel
theorem d_Mo_take_133 : decode c_Mo_take 133 = .ok (.ifCond .eq 11, 3) := by decide +kernel
theorem d_Mo_take_136 : decode c_Mo_take 136 = .ok (.aload_n 0, 1) := by decide +kernel
theorem d_Mo_take_137 : decode c_Mo_take 137 = .ok (.iconst 2, 1) := by decide +kernel
theorem d_Mo_take_138 : decode c_Mo_take 138 = .ok (.invokevirtual 132, 3) := by decide +kernel
theorem d_Mo_take_141 : decode c_Mo_take 141 = .ok (.goto 19, 3) := by decide +kernel
theorem d_Mo_take_144 : decode c_Mo_take 144 = .ok (.aload_n 0, 1) := by decide +kernel
theorem d_Mo_take_145 : decode c_Mo_take 145 = .ok (.aload_n 0, 1) := by decide +kernel
theorem d_Mo_take_146 : decode c_Mo_take 146 = .ok (.getfield 41, 3) := by decide +kernel
theorem d_Mo_take_149 : decode c_Mo_take 149 = .ok (.iconst 1, 1) := by decide +kernel
theorem d_Mo_take_150 : decode c_Mo_take 150 = .ok (.iaload, 1) := by decide +kernel
theorem d_Mo_take_151 : decode c_Mo_take 151 = .ok (.aload_n 0, 1) := by decide +kernel
theorem d_Mo_take_152 : decode c_Mo_take 152 = .ok (.getfield 41, 3) := by decide +kernel
theorem d_Mo_take_155 : decode c_Mo_take 155 = .ok (.iconst 2, 1) := by decide +kernel
theorem d_Mo_take_156 : decode c_Mo_take 156 = .ok (.iaload, 1) := by decide +kernel
theorem d_Mo_take_157 : decode c_Mo_take 157 = .ok (.invokevirtual 136, 3) := by decide +kernel
theorem d_Mo_take_160 : decode c_Mo_take 160 = .ok (.return_, 1) := by decide +kernel
theorem d_Mo_answerR_0 : decode c_Mo_answerR 0 = .ok (.aload_n 0, 1) := by decide +kernel
theorem d_Mo_answerR_1 : decode c_Mo_answerR 1 = .ok (.sipush 128, 3) := by decide +kernel
theorem d_Mo_answerR_4 : decode c_Mo_answerR 4 = .ok (.bipush 16, 2) := by decide +kernel
theorem d_Mo_answerR_6 : decode c_Mo_answerR 6 = .ok (.aload_n 0, 1) := by decide +kernel
theorem d_Mo_answerR_7 : decode c_Mo_answerR 7 = .ok (.getfield 108, 3) := by decide +kernel
theorem d_Mo_answerR_10 : decode c_Mo_answerR 10 = .ok (.imul, 1) := by decide +kernel
theorem d_Mo_answerR_11 : decode c_Mo_answerR 11 = .ok (.iadd, 1) := by decide +kernel
theorem d_Mo_answerR_12 : decode c_Mo_answerR 12 = .ok (.iload_n 1, 1) := by decide +kernel
theorem d_Mo_answerR_13 : decode c_Mo_answerR 13 = .ok (.iadd, 1) := by decide +kernel
theorem d_Mo_answerR_14 : decode c_Mo_answerR 14 = .ok (.iconst 0, 1) := by decide +kernel
theorem d_Mo_answerR_15 : decode c_Mo_answerR 15 = .ok (.invokevirtual 147, 3) := by decide +kernel
theorem d_Mo_answerR_18 : decode c_Mo_answerR 18 = .ok (.return_, 1) := by decide +kernel
theorem d_Mo_say_0 : decode c_Mo_say 0 = .ok (.aload_n 0, 1) := by decide +kernel
theorem d_Mo_say_1 : decode c_Mo_say 1 = .ok (.getfield 50, 3) := by decide +kernel
theorem d_Mo_say_4 : decode c_Mo_say 4 = .ok (.iconst 0, 1) := by decide +kernel
theorem d_Mo_say_5 : decode c_Mo_say 5 = .ok (.iconst 0, 1) := by decide +kernel
theorem d_Mo_say_6 : decode c_Mo_say 6 = .ok (.iastore, 1) := by decide +kernel
theorem d_Mo_say_7 : decode c_Mo_say 7 = .ok (.aload_n 0, 1) := by decide +kernel
theorem d_Mo_say_8 : decode c_Mo_say 8 = .ok (.getfield 50, 3) := by decide +kernel
theorem d_Mo_say_11 : decode c_Mo_say 11 = .ok (.iconst 1, 1) := by decide +kernel
theorem d_Mo_say_12 : decode c_Mo_say 12 = .ok (.iload_n 1, 1) := by decide +kernel
theorem d_Mo_say_13 : decode c_Mo_say 13 = .ok (.iastore, 1) := by decide +kernel
theorem d_Mo_say_14 : decode c_Mo_say 14 = .ok (.aload_n 0, 1) := by decide +kernel
theorem d_Mo_say_15 : decode c_Mo_say 15 = .ok (.getfield 50, 3) := by decide +kernel
theorem d_Mo_say_18 : decode c_Mo_say 18 = .ok (.iconst 2, 1) := by decide +kernel
theorem d_Mo_say_19 : decode c_Mo_say 19 = .ok (.iload_n 2, 1) := by decide +kernel
theorem d_Mo_say_20 : decode c_Mo_say 20 = .ok (.iastore, 1) := by decide +kernel
theorem d_Mo_say_21 : decode c_Mo_say 21 = .ok (.iload_n 1, 1) := by decide +kernel
theorem d_Mo_say_22 : decode c_Mo_say 22 = .ok (.iload_n 2, 1) := by decide +kernel
theorem d_Mo_say_23 : decode c_Mo_say 23 = .ok (.ixor, 1) := by decide +kernel
theorem d_Mo_say_24 : decode c_Mo_say 24 = .ok (.istore_n 3, 1) := by decide +kernel
theorem d_Mo_say_25 : decode c_Mo_say 25 = .ok (.iconst 0, 1) := by decide +kernel
theorem d_Mo_say_26 : decode c_Mo_say 26 = .ok (.istore 4, 2) := by decide +kernel
theorem d_Mo_say_28 : decode c_Mo_say 28 = .ok (.iload 4, 2) := by decide +kernel
theorem d_Mo_say_30 : decode c_Mo_say 30 = .ok (.iload_n 2, 1) := by decide +kernel
theorem d_Mo_say_31 : decode c_Mo_say 31 = .ok (.if_icmp .ge 21, 3) := by decide +kernel
theorem d_Mo_say_34 : decode c_Mo_say 34 = .ok (.iload_n 3, 1) := by decide +kernel
theorem d_Mo_say_35 : decode c_Mo_say 35 = .ok (.aload_n 0, 1) := by decide +kernel
theorem d_Mo_say_36 : decode c_Mo_say 36 = .ok (.getfield 50, 3) := by decide +kernel
theorem d_Mo_say_39 : decode c_Mo_say 39 = .ok (.iconst 3, 1) := by decide +kernel
theorem d_Mo_say_40 : decode c_Mo_say 40 = .ok (.iload 4, 2) := by decide +kernel
theorem d_Mo_say_42 : decode c_Mo_say 42 = .ok (.iadd, 1) := by decide +kernel
theorem d_Mo_say_43 : decode c_Mo_say 43 = .ok (.iaload, 1) := by decide +kernel
theorem d_Mo_say_44 : decode c_Mo_say 44 = .ok (.ixor, 1) := by decide +kernel
theorem d_Mo_say_45 : decode c_Mo_say 45 = .ok (.istore_n 3, 1) := by decide +kernel
theorem d_Mo_say_46 : decode c_Mo_say 46 = .ok (.iinc 4 1, 3) := by decide +kernel
theorem d_Mo_say_49 : decode c_Mo_say 49 = .ok (.goto (-21), 3) := by decide +kernel
theorem d_Mo_say_52 : decode c_Mo_say 52 = .ok (.aload_n 0, 1) := by decide +kernel
theorem d_Mo_say_53 : decode c_Mo_say 53 = .ok (.getfield 50, 3) := by decide +kernel
theorem d_Mo_say_56 : decode c_Mo_say 56 = .ok (.iconst 3, 1) := by decide +kernel
theorem d_Mo_say_57 : decode c_Mo_say 57 = .ok (.iload_n 2, 1) := by decide +kernel
theorem d_Mo_say_58 : decode c_Mo_say 58 = .ok (.iadd, 1) := by decide +kernel
theorem d_Mo_say_59 : decode c_Mo_say 59 = .ok (.iload_n 3, 1) := by decide +kernel
theorem d_Mo_say_60 : decode c_Mo_say 60 = .ok (.iastore, 1) := by decide +kernel
theorem d_Mo_say_61 : decode c_Mo_say 61 = .ok (.aload_n 0, 1) := by decide +kernel
theorem d_Mo_say_62 : decode c_Mo_say 62 = .ok (.iload_n 2, 1) := by decide +kernel
theorem d_Mo_say_63 : decode c_Mo_say 63 = .ok (.iconst 4, 1) := by decide +kernel
theorem d_Mo_say_64 : decode c_Mo_say 64 = .ok (.iadd, 1) := by decide +kernel
theorem d_Mo_say_65 : decode c_Mo_say 65 = .ok (.putfield 68, 3) := by decide +kernel
theorem d_Mo_say_68 : decode c_Mo_say 68 = .ok (.iload_n 1, 1) := by decide +kernel
theorem d_Mo_say_69 : decode c_Mo_say 69 = .ok (.sipush 192, 3) := by decide +kernel
theorem d_Mo_say_72 : decode c_Mo_say 72 = .ok (.if_icmp .lt 4, 3) := by decide +kernel
theorem d_Mo_say_75 : decode c_Mo_say 75 = .ok (.return_, 1) := by decide +kernel
theorem d_Mo_say_76 : decode c_Mo_say 76 = .ok (.aload_n 0, 1) := by decide +kernel
theorem d_Mo_say_77 : decode c_Mo_say 77 = .ok (.aload_n 0, 1) := by decide +kernel
theorem d_Mo_say_78 : decode c_Mo_say 78 = .ok (.getfield 68, 3) := by decide +kernel
theorem d_Mo_say_81 : decode c_Mo_say 81 = .ok (.putfield 114, 3) := by decide +kernel
theorem d_Mo_say_84 : decode c_Mo_say 84 = .ok (.aload_n 0, 1) := by decide +kernel
theorem d_Mo_say_85 : decode c_Mo_say 85 = .ok (.iload_n 1, 1) := by decide +kernel
theorem d_Mo_say_86 : decode c_Mo_say 86 = .ok (.sipush 128, 3) := by decide +kernel
theorem d_Mo_say_89 : decode c_Mo_say 89 = .ok (.if_icmp .ge 7, 3) := by decide +kernel
theorem d_Mo_say_92 : decode c_Mo_say 92 = .ok (.iconst 1, 1) := by decide +kernel
theorem d_Mo_say_93 : decode c_Mo_say 93 = .ok (.goto 4, 3) := by decide +kernel
theorem d_Mo_say_96 : decode c_Mo_say 96 = .ok (.iconst 0, 1) := by decide +kernel
theorem d_Mo_say_97 : decode c_Mo_say 97 = .ok (.putfield 150, 3) := by decide +kernel
theorem d_Mo_say_100 : decode c_Mo_say 100 = .ok (.iconst 0, 1) := by decide +kernel
theorem d_Mo_say_101 : decode c_Mo_say 101 = .ok (.istore 4, 2) := by decide +kernel
theorem d_Mo_say_103 : decode c_Mo_say 103 = .ok (.iload 4, 2) := by decide +kernel
theorem d_Mo_say_105 : decode c_Mo_say 105 = .ok (.aload_n 0, 1) := by decide +kernel
theorem d_Mo_say_106 : decode c_Mo_say 106 = .ok (.getfield 68, 3) := by decide +kernel
theorem d_Mo_say_109 : decode c_Mo_say 109 = .ok (.if_icmp .ge 23, 3) := by decide +kernel
theorem d_Mo_say_112 : decode c_Mo_say 112 = .ok (.aload_n 0, 1) := by decide +kernel
theorem d_Mo_say_113 : decode c_Mo_say 113 = .ok (.getfield 53, 3) := by decide +kernel
theorem d_Mo_say_116 : decode c_Mo_say 116 = .ok (.iload 4, 2) := by decide +kernel
theorem d_Mo_say_118 : decode c_Mo_say 118 = .ok (.aload_n 0, 1) := by decide +kernel
theorem d_Mo_say_119 : decode c_Mo_say 119 = .ok (.getfield 50, 3) := by decide +kernel
theorem d_Mo_say_122 : decode c_Mo_say 122 = .ok (.iload 4, 2) := by decide +kernel
theorem d_Mo_say_124 : decode c_Mo_say 124 = .ok (.iaload, 1) := by decide +kernel
theorem d_Mo_say_125 : decode c_Mo_say 125 = .ok (.iastore, 1) := by decide +kernel
theorem d_Mo_say_126 : decode c_Mo_say 126 = .ok (.iinc 4 1, 3) := by decide +kernel
theorem d_Mo_say_129 : decode c_Mo_say 129 = .ok (.goto (-26), 3) := by decide +kernel
theorem d_Mo_say_132 : decode c_Mo_say 132 = .ok (.return_, 1) := by decide +kernel
theorem d_Mo_work_0 : decode c_Mo_work 0 = .ok (.iload_n 1, 1) := by decide +kernel
theorem d_Mo_work_1 : decode c_Mo_work 1 = .ok (.sipush 128, 3) := by decide +kernel
theorem d_Mo_work_4 : decode c_Mo_work 4 = .ok (.if_icmp .ge 51, 3) := by decide +kernel
theorem d_Mo_work_7 : decode c_Mo_work 7 = .ok (.iload_n 1, 1) := by decide +kernel
theorem d_Mo_work_8 : decode c_Mo_work 8 = .ok (.bipush 32, 2) := by decide +kernel
theorem d_Mo_work_10 : decode c_Mo_work 10 = .ok (.irem, 1) := by decide +kernel
theorem d_Mo_work_11 : decode c_Mo_work 11 = .ok (.ifCond .ne 44, 3) := by decide +kernel
theorem d_Mo_work_14 : decode c_Mo_work 14 = .ok (.iload_n 1, 1) := by decide +kernel
theorem d_Mo_work_15 : decode c_Mo_work 15 = .ok (.bipush 64, 2) := by decide +kernel
theorem d_Mo_work_17 : decode c_Mo_work 17 = .ok (.idiv, 1) := by decide +kernel
theorem d_Mo_work_18 : decode c_Mo_work 18 = .ok (.aload_n 0, 1) := by decide +kernel
theorem d_Mo_work_19 : decode c_Mo_work 19 = .ok (.getfield 108, 3) := by decide +kernel
theorem d_Mo_work_22 : decode c_Mo_work 22 = .ok (.if_icmp .eq 11, 3) := by decide +kernel
theorem d_Mo_work_25 : decode c_Mo_work 25 = .ok (.aload_n 0, 1) := by decide +kernel
theorem d_Mo_work_26 : decode c_Mo_work 26 = .ok (.iconst 2, 1) := by decide +kernel
theorem d_Mo_work_27 : decode c_Mo_work 27 = .ok (.invokevirtual 132, 3) := by decide +kernel
theorem d_Mo_work_30 : decode c_Mo_work 30 = .ok (.goto 196, 3) := by decide +kernel
theorem d_Mo_work_33 : decode c_Mo_work 33 = .ok (.aload_n 0, 1) := by decide +kernel
theorem d_Mo_work_34 : decode c_Mo_work 34 = .ok (.iload_n 2, 1) := by decide +kernel
theorem d_Mo_work_35 : decode c_Mo_work 35 = .ok (.iload_n 1, 1) := by decide +kernel
theorem d_Mo_work_36 : decode c_Mo_work 36 = .ok (.bipush 64, 2) := by decide +kernel
theorem d_Mo_work_38 : decode c_Mo_work 38 = .ok (.irem, 1) := by decide +kernel
theorem d_Mo_work_39 : decode c_Mo_work 39 = .ok (.bipush 32, 2) := by decide +kernel
theorem d_Mo_work_41 : decode c_Mo_work 41 = .ok (.if_icmp .ne 7, 3) := by decide +kernel
theorem d_Mo_work_44 : decode c_Mo_work 44 = .ok (.iconst 1, 1) := by decide +kernel
theorem d_Mo_work_45 : decode c_Mo_work 45 = .ok (.goto 4, 3) := by decide +kernel
theorem d_Mo_work_48 : decode c_Mo_work 48 = .ok (.iconst 0, 1) := by decide +kernel
theorem d_Mo_work_49 : decode c_Mo_work 49 = .ok (.invokevirtual 140, 3) := by decide +kernel
theorem d_Mo_work_52 : decode c_Mo_work 52 = .ok (.goto 174, 3) := by decide +kernel
theorem d_Mo_work_55 : decode c_Mo_work 55 = .ok (.iload_n 1, 1) := by decide +kernel
theorem d_Mo_work_56 : decode c_Mo_work 56 = .ok (.sipush 192, 3) := by decide +kernel
theorem d_Mo_work_59 : decode c_Mo_work 59 = .ok (.if_icmp .ge 52, 3) := by decide +kernel
theorem d_Mo_work_62 : decode c_Mo_work 62 = .ok (.iload_n 1, 1) := by decide +kernel
theorem d_Mo_work_63 : decode c_Mo_work 63 = .ok (.sipush 128, 3) := by decide +kernel
theorem d_Mo_work_66 : decode c_Mo_work 66 = .ok (.if_icmp .lt 45, 3) := by decide +kernel
theorem d_Mo_work_69 : decode c_Mo_work 69 = .ok (.iload_n 1, 1) := by decide +kernel
theorem d_Mo_work_70 : decode c_Mo_work 70 = .ok (.bipush 16, 2) := by decide +kernel
theorem d_Mo_work_72 : decode c_Mo_work 72 = .ok (.irem, 1) := by decide +kernel
theorem d_Mo_work_73 : decode c_Mo_work 73 = .ok (.iconst 3, 1) := by decide +kernel
theorem d_Mo_work_74 : decode c_Mo_work 74 = .ok (.if_icmp .ge 37, 3) := by decide +kernel
theorem d_Mo_work_77 : decode c_Mo_work 77 = .ok (.iload_n 1, 1) := by decide +kernel
theorem d_Mo_work_78 : decode c_Mo_work 78 = .ok (.sipush 160, 3) := by decide +kernel
theorem d_Mo_work_81 : decode c_Mo_work 81 = .ok (.if_icmp .ge 30, 3) := by decide +kernel
theorem d_Mo_work_84 : decode c_Mo_work 84 = .ok (.iload_n 2, 1) := by decide +kernel
theorem d_Mo_work_85 : decode c_Mo_work 85 = .ok (.ifCond .le 11, 3) := by decide +kernel
theorem d_Mo_work_88 : decode c_Mo_work 88 = .ok (.aload_n 0, 1) := by decide +kernel
theorem d_Mo_work_89 : decode c_Mo_work 89 = .ok (.iconst 2, 1) := by decide +kernel
theorem d_Mo_work_90 : decode c_Mo_work 90 = .ok (.invokevirtual 132, 3) := by decide +kernel
end
section
theorem d_Mo_work_93 : decode c_Mo_work 93 = .ok (.goto 133, 3) := by decide +kernel
theorem d_Mo_work_96 : decode c_Mo_work 96 = .ok (.aload_n 0, 1) := by decide +kernel
theorem d_Mo_work_97 : decode c_Mo_work 97 = .ok (.iload_n 1, 1) := by decide +kernel
theorem d_Mo_work_98 : decode c_Mo_work 98 = .ok (.sipush 128, 3) := by decide +kernel
theorem d_Mo_work_101 : decode c_Mo_work 101 = .ok (.isub, 1) := by decide +kernel
theorem d_Mo_work_102 : decode c_Mo_work 102 = .ok (.bipush 16, 2) := by decide +kernel
theorem d_Mo_work_104 : decode c_Mo_work 104 = .ok (.idiv, 1) := by decide +kernel
theorem d_Mo_work_105 : decode c_Mo_work 105 = .ok (.invokevirtual 144, 3) := by decide +kernel
theorem d_Mo_work_108 : decode c_Mo_work 108 = .ok (.goto 118, 3) := by decide +kernel
theorem d_Mo_work_111 : decode c_Mo_work 111 = .ok (.iload_n 1, 1) := by decide +kernel
theorem d_Mo_work_112 : decode c_Mo_work 112 = .ok (.sipush 192, 3) := by decide +kernel
theorem d_Mo_work_115 : decode c_Mo_work 115 = .ok (.if_icmp .ne 22, 3) := by decide +kernel
theorem d_Mo_work_118 : decode c_Mo_work 118 = .ok (.iload_n 2, 1) := by decide +kernel
theorem d_Mo_work_119 : decode c_Mo_work 119 = .ok (.ifCond .ne 18, 3) := by decide +kernel
theorem d_Mo_work_122 : decode c_Mo_work 122 = .ok (.aload_n 0, 1) := by decide +kernel
theorem d_Mo_work_123 : decode c_Mo_work 123 = .ok (.invokevirtual 105, 3) := by decide +kernel
theorem d_Mo_work_126 : decode c_Mo_work 126 = .ok (.aload_n 0, 1) := by decide +kernel
theorem d_Mo_work_127 : decode c_Mo_work 127 = .ok (.sipush 224, 3) := by decide +kernel
theorem d_Mo_work_130 : decode c_Mo_work 130 = .ok (.iconst 0, 1) := by decide +kernel
theorem d_Mo_work_131 : decode c_Mo_work 131 = .ok (.invokevirtual 147, 3) := by decide +kernel
theorem d_Mo_work_134 : decode c_Mo_work 134 = .ok (.goto 92, 3) := by decide +kernel
theorem d_Mo_work_137 : decode c_Mo_work 137 = .ok (.iload_n 1, 1) := by decide +kernel
theorem d_Mo_work_138 : decode c_Mo_work 138 = .ok (.sipush 193, 3) := by decide +kernel
theorem d_Mo_work_141 : decode c_Mo_work 141 = .ok (.if_icmp .ne 54, 3) := by decide +kernel
theorem d_Mo_work_144 : decode c_Mo_work 144 = .ok (.iload_n 2, 1) := by decide +kernel
theorem d_Mo_work_145 : decode c_Mo_work 145 = .ok (.iconst 1, 1) := by decide +kernel
theorem d_Mo_work_146 : decode c_Mo_work 146 = .ok (.if_icmp .ne 49, 3) := by decide +kernel
theorem d_Mo_work_149 : decode c_Mo_work 149 = .ok (.aload_n 0, 1) := by decide +kernel
theorem d_Mo_work_150 : decode c_Mo_work 150 = .ok (.getfield 41, 3) := by decide +kernel
theorem d_Mo_work_153 : decode c_Mo_work 153 = .ok (.iconst 3, 1) := by decide +kernel
theorem d_Mo_work_154 : decode c_Mo_work 154 = .ok (.iaload, 1) := by decide +kernel
theorem d_Mo_work_155 : decode c_Mo_work 155 = .ok (.iconst 1, 1) := by decide +kernel
theorem d_Mo_work_156 : decode c_Mo_work 156 = .ok (.bipush 32, 2) := by decide +kernel
theorem d_Mo_work_158 : decode c_Mo_work 158 = .ok (.invokestatic 56, 3) := by decide +kernel
theorem d_Mo_work_161 : decode c_Mo_work 161 = .ok (.ifCond .eq 34, 3) := by decide +kernel
theorem d_Mo_work_164 : decode c_Mo_work 164 = .ok (.aload_n 0, 1) := by decide +kernel
theorem d_Mo_work_165 : decode c_Mo_work 165 = .ok (.aload_n 0, 1) := by decide +kernel
theorem d_Mo_work_166 : decode c_Mo_work 166 = .ok (.getfield 41, 3) := by decide +kernel
theorem d_Mo_work_169 : decode c_Mo_work 169 = .ok (.iconst 3, 1) := by decide +kernel
theorem d_Mo_work_170 : decode c_Mo_work 170 = .ok (.iaload, 1) := by decide +kernel
theorem d_Mo_work_171 : decode c_Mo_work 171 = .ok (.putfield 99, 3) := by decide +kernel
theorem d_Mo_work_174 : decode c_Mo_work 174 = .ok (.aload_n 0, 1) := by decide +kernel
theorem d_Mo_work_175 : decode c_Mo_work 175 = .ok (.getfield 50, 3) := by decide +kernel
theorem d_Mo_work_178 : decode c_Mo_work 178 = .ok (.iconst 3, 1) := by decide +kernel
theorem d_Mo_work_179 : decode c_Mo_work 179 = .ok (.aload_n 0, 1) := by decide +kernel
theorem d_Mo_work_180 : decode c_Mo_work 180 = .ok (.getfield 99, 3) := by decide +kernel
theorem d_Mo_work_183 : decode c_Mo_work 183 = .ok (.iastore, 1) := by decide +kernel
theorem d_Mo_work_184 : decode c_Mo_work 184 = .ok (.aload_n 0, 1) := by decide +kernel
theorem d_Mo_work_185 : decode c_Mo_work 185 = .ok (.sipush 225, 3) := by decide +kernel
theorem d_Mo_work_188 : decode c_Mo_work 188 = .ok (.iconst 1, 1) := by decide +kernel
theorem d_Mo_work_189 : decode c_Mo_work 189 = .ok (.invokevirtual 147, 3) := by decide +kernel
theorem d_Mo_work_192 : decode c_Mo_work 192 = .ok (.goto 34, 3) := by decide +kernel
theorem d_Mo_work_195 : decode c_Mo_work 195 = .ok (.iload_n 1, 1) := by decide +kernel
theorem d_Mo_work_196 : decode c_Mo_work 196 = .ok (.sipush 194, 3) := by decide +kernel
theorem d_Mo_work_199 : decode c_Mo_work 199 = .ok (.if_icmp .ne 22, 3) := by decide +kernel
theorem d_Mo_work_202 : decode c_Mo_work 202 = .ok (.iload_n 2, 1) := by decide +kernel
theorem d_Mo_work_203 : decode c_Mo_work 203 = .ok (.ifCond .ne 18, 3) := by decide +kernel
theorem d_Mo_work_206 : decode c_Mo_work 206 = .ok (.aload_n 0, 1) := by decide +kernel
theorem d_Mo_work_207 : decode c_Mo_work 207 = .ok (.invokevirtual 117, 3) := by decide +kernel
theorem d_Mo_work_210 : decode c_Mo_work 210 = .ok (.aload_n 0, 1) := by decide +kernel
theorem d_Mo_work_211 : decode c_Mo_work 211 = .ok (.sipush 226, 3) := by decide +kernel
theorem d_Mo_work_214 : decode c_Mo_work 214 = .ok (.iconst 0, 1) := by decide +kernel
theorem d_Mo_work_215 : decode c_Mo_work 215 = .ok (.invokevirtual 147, 3) := by decide +kernel
theorem d_Mo_work_218 : decode c_Mo_work 218 = .ok (.goto 8, 3) := by decide +kernel
theorem d_Mo_work_221 : decode c_Mo_work 221 = .ok (.aload_n 0, 1) := by decide +kernel
theorem d_Mo_work_222 : decode c_Mo_work 222 = .ok (.iconst 2, 1) := by decide +kernel
theorem d_Mo_work_223 : decode c_Mo_work 223 = .ok (.invokevirtual 132, 3) := by decide +kernel
theorem d_Mo_work_226 : decode c_Mo_work 226 = .ok (.return_, 1) := by decide +kernel
theorem d_Mo_comes_0 : decode c_Mo_comes 0 = .ok (.aload_n 0, 1) := by decide +kernel
theorem d_Mo_comes_1 : decode c_Mo_comes 1 = .ok (.iconst 1, 1) := by decide +kernel
theorem d_Mo_comes_2 : decode c_Mo_comes 2 = .ok (.aload_n 0, 1) := by decide +kernel
theorem d_Mo_comes_3 : decode c_Mo_comes 3 = .ok (.getfield 108, 3) := by decide +kernel
theorem d_Mo_comes_6 : decode c_Mo_comes 6 = .ok (.isub, 1) := by decide +kernel
theorem d_Mo_comes_7 : decode c_Mo_comes 7 = .ok (.putfield 108, 3) := by decide +kernel
theorem d_Mo_comes_10 : decode c_Mo_comes 10 = .ok (.aload_n 0, 1) := by decide +kernel
theorem d_Mo_comes_11 : decode c_Mo_comes 11 = .ok (.iconst 0, 1) := by decide +kernel
theorem d_Mo_comes_12 : decode c_Mo_comes 12 = .ok (.putfield 126, 3) := by decide +kernel
theorem d_Mo_comes_15 : decode c_Mo_comes 15 = .ok (.aload_n 0, 1) := by decide +kernel
theorem d_Mo_comes_16 : decode c_Mo_comes 16 = .ok (.iconst 0, 1) := by decide +kernel
theorem d_Mo_comes_17 : decode c_Mo_comes 17 = .ok (.putfield 129, 3) := by decide +kernel
theorem d_Mo_comes_20 : decode c_Mo_comes 20 = .ok (.iconst 0, 1) := by decide +kernel
theorem d_Mo_comes_21 : decode c_Mo_comes 21 = .ok (.istore_n 3, 1) := by decide +kernel
theorem d_Mo_comes_22 : decode c_Mo_comes 22 = .ok (.iload_n 3, 1) := by decide +kernel
theorem d_Mo_comes_23 : decode c_Mo_comes 23 = .ok (.iload_n 1, 1) := by decide +kernel
theorem d_Mo_comes_24 : decode c_Mo_comes 24 = .ok (.if_icmp .ge 53, 3) := by decide +kernel
theorem d_Mo_comes_27 : decode c_Mo_comes 27 = .ok (.aload_n 0, 1) := by decide +kernel
theorem d_Mo_comes_28 : decode c_Mo_comes 28 = .ok (.getfield 120, 3) := by decide +kernel
theorem d_Mo_comes_31 : decode c_Mo_comes 31 = .ok (.bipush 40, 2) := by decide +kernel
theorem d_Mo_comes_33 : decode c_Mo_comes 33 = .ok (.if_icmp .ne 11, 3) := by decide +kernel
theorem d_Mo_comes_36 : decode c_Mo_comes 36 = .ok (.aload_n 0, 1) := by decide +kernel
theorem d_Mo_comes_37 : decode c_Mo_comes 37 = .ok (.iconst 1, 1) := by decide +kernel
theorem d_Mo_comes_38 : decode c_Mo_comes 38 = .ok (.putfield 123, 3) := by decide +kernel
theorem d_Mo_comes_41 : decode c_Mo_comes 41 = .ok (.goto 30, 3) := by decide +kernel
theorem d_Mo_comes_44 : decode c_Mo_comes 44 = .ok (.aload_n 0, 1) := by decide +kernel
theorem d_Mo_comes_45 : decode c_Mo_comes 45 = .ok (.getfield 44, 3) := by decide +kernel
theorem d_Mo_comes_48 : decode c_Mo_comes 48 = .ok (.aload_n 0, 1) := by decide +kernel
theorem d_Mo_comes_49 : decode c_Mo_comes 49 = .ok (.getfield 120, 3) := by decide +kernel
theorem d_Mo_comes_52 : decode c_Mo_comes 52 = .ok (.aload_n 0, 1) := by decide +kernel
theorem d_Mo_comes_53 : decode c_Mo_comes 53 = .ok (.getfield 41, 3) := by decide +kernel
theorem d_Mo_comes_56 : decode c_Mo_comes 56 = .ok (.iconst 3, 1) := by decide +kernel
theorem d_Mo_comes_57 : decode c_Mo_comes 57 = .ok (.iload_n 3, 1) := by decide +kernel
theorem d_Mo_comes_58 : decode c_Mo_comes 58 = .ok (.iadd, 1) := by decide +kernel
theorem d_Mo_comes_59 : decode c_Mo_comes 59 = .ok (.iaload, 1) := by decide +kernel
theorem d_Mo_comes_60 : decode c_Mo_comes 60 = .ok (.iastore, 1) := by decide +kernel
theorem d_Mo_comes_61 : decode c_Mo_comes 61 = .ok (.aload_n 0, 1) := by decide +kernel
theorem d_Mo_comes_62 : decode c_Mo_comes 62 = .ok (.dup, 1) := by decide +kernel
theorem d_Mo_comes_63 : decode c_Mo_comes 63 = .ok (.getfield 120, 3) := by decide +kernel
theorem d_Mo_comes_66 : decode c_Mo_comes 66 = .ok (.iconst 1, 1) := by decide +kernel
theorem d_Mo_comes_67 : decode c_Mo_comes 67 = .ok (.iadd, 1) := by decide +kernel
theorem d_Mo_comes_68 : decode c_Mo_comes 68 = .ok (.putfield 120, 3) := by decide +kernel
theorem d_Mo_comes_71 : decode c_Mo_comes 71 = .ok (.iinc 3 1, 3) := by decide +kernel
theorem d_Mo_comes_74 : decode c_Mo_comes 74 = .ok (.goto (-52), 3) := by decide +kernel
theorem d_Mo_comes_77 : decode c_Mo_comes 77 = .ok (.iload_n 2, 1) := by decide +kernel
theorem d_Mo_comes_78 : decode c_Mo_comes 78 = .ok (.ifCond .eq 9, 3) := by decide +kernel
theorem d_Mo_comes_81 : decode c_Mo_comes 81 = .ok (.aload_n 0, 1) := by decide +kernel
theorem d_Mo_comes_82 : decode c_Mo_comes 82 = .ok (.iconst 0, 1) := by decide +kernel
theorem d_Mo_comes_83 : decode c_Mo_comes 83 = .ok (.invokevirtual 132, 3) := by decide +kernel
theorem d_Mo_comes_86 : decode c_Mo_comes 86 = .ok (.return_, 1) := by decide +kernel
theorem d_Mo_comes_87 : decode c_Mo_comes 87 = .ok (.aload_n 0, 1) := by decide +kernel
theorem d_Mo_comes_88 : decode c_Mo_comes 88 = .ok (.invokevirtual 153, 3) := by decide +kernel
theorem d_Mo_comes_91 : decode c_Mo_comes 91 = .ok (.istore_n 3, 1) := by decide +kernel
theorem d_Mo_comes_92 : decode c_Mo_comes 92 = .ok (.aload_n 0, 1) := by decide +kernel
theorem d_Mo_comes_93 : decode c_Mo_comes 93 = .ok (.getfield 61, 3) := by decide +kernel
theorem d_Mo_comes_96 : decode c_Mo_comes 96 = .ok (.ifCond .ne 4, 3) := by decide +kernel
theorem d_Mo_comes_99 : decode c_Mo_comes 99 = .ok (.return_, 1) := by decide +kernel
theorem d_Mo_comes_100 : decode c_Mo_comes 100 = .ok (.aload_n 0, 1) := by decide +kernel
theorem d_Mo_comes_101 : decode c_Mo_comes 101 = .ok (.iload_n 3, 1) := by decide +kernel
theorem d_Mo_comes_102 : decode c_Mo_comes 102 = .ok (.bipush 8, 2) := by decide +kernel
theorem d_Mo_comes_104 : decode c_Mo_comes 104 = .ok (.ishr, 1) := by decide +kernel
theorem d_Mo_comes_105 : decode c_Mo_comes 105 = .ok (.invokevirtual 157, 3) := by decide +kernel
theorem d_Mo_comes_108 : decode c_Mo_comes 108 = .ok (.aload_n 0, 1) := by decide +kernel
theorem d_Mo_comes_109 : decode c_Mo_comes 109 = .ok (.iload_n 3, 1) := by decide +kernel
theorem d_Mo_comes_110 : decode c_Mo_comes 110 = .ok (.sipush 255, 3) := by decide +kernel
theorem d_Mo_comes_113 : decode c_Mo_comes 113 = .ok (.iand, 1) := by decide +kernel
theorem d_Mo_comes_114 : decode c_Mo_comes 114 = .ok (.invokevirtual 157, 3) := by decide +kernel
theorem d_Mo_comes_117 : decode c_Mo_comes 117 = .ok (.aload_n 0, 1) := by decide +kernel
theorem d_Mo_comes_118 : decode c_Mo_comes 118 = .ok (.dup, 1) := by decide +kernel
theorem d_Mo_comes_119 : decode c_Mo_comes 119 = .ok (.getfield 160, 3) := by decide +kernel
theorem d_Mo_comes_122 : decode c_Mo_comes 122 = .ok (.iconst 1, 1) := by decide +kernel
theorem d_Mo_comes_123 : decode c_Mo_comes 123 = .ok (.iadd, 1) := by decide +kernel
theorem d_Mo_comes_124 : decode c_Mo_comes 124 = .ok (.putfield 160, 3) := by decide +kernel
theorem d_Mo_comes_127 : decode c_Mo_comes 127 = .ok (.aload_n 0, 1) := by decide +kernel
theorem d_Mo_comes_128 : decode c_Mo_comes 128 = .ok (.iconst 0, 1) := by decide +kernel
theorem d_Mo_comes_129 : decode c_Mo_comes 129 = .ok (.putfield 120, 3) := by decide +kernel
theorem d_Mo_comes_132 : decode c_Mo_comes 132 = .ok (.aload_n 0, 1) := by decide +kernel
theorem d_Mo_comes_133 : decode c_Mo_comes 133 = .ok (.iconst 0, 1) := by decide +kernel
theorem d_Mo_comes_134 : decode c_Mo_comes 134 = .ok (.putfield 123, 3) := by decide +kernel
theorem d_Mo_comes_137 : decode c_Mo_comes 137 = .ok (.aload_n 0, 1) := by decide +kernel
theorem d_Mo_comes_138 : decode c_Mo_comes 138 = .ok (.invokevirtual 163, 3) := by decide +kernel
theorem d_Mo_comes_141 : decode c_Mo_comes 141 = .ok (.return_, 1) := by decide +kernel
theorem d_Mo_execute_0 : decode c_Mo_execute 0 = .ok (.aload_n 0, 1) := by decide +kernel
theorem d_Mo_execute_1 : decode c_Mo_execute 1 = .ok (.getfield 120, 3) := by decide +kernel
theorem d_Mo_execute_4 : decode c_Mo_execute 4 = .ok (.istore_n 1, 1) := by decide +kernel
theorem d_Mo_execute_5 : decode c_Mo_execute 5 = .ok (.iconst 0, 1) := by decide +kernel
theorem d_Mo_execute_6 : decode c_Mo_execute 6 = .ok (.istore_n 2, 1) := by decide +kernel
theorem d_Mo_execute_7 : decode c_Mo_execute 7 = .ok (.iconst (-1), 1) := by decide +kernel
theorem d_Mo_execute_8 : decode c_Mo_execute 8 = .ok (.istore_n 3, 1) := by decide +kernel
theorem d_Mo_execute_9 : decode c_Mo_execute 9 = .ok (.aload_n 0, 1) := by decide +kernel
theorem d_Mo_execute_10 : decode c_Mo_execute 10 = .ok (.getfield 123, 3) := by decide +kernel
theorem d_Mo_execute_13 : decode c_Mo_execute 13 = .ok (.ifCond .ne 8, 3) := by decide +kernel
theorem d_Mo_execute_16 : decode c_Mo_execute 16 = .ok (.iload_n 1, 1) := by decide +kernel
theorem d_Mo_execute_17 : decode c_Mo_execute 17 = .ok (.iconst 4, 1) := by decide +kernel
theorem d_Mo_execute_18 : decode c_Mo_execute 18 = .ok (.if_icmp .ge 7, 3) := by decide +kernel
theorem d_Mo_execute_21 : decode c_Mo_execute 21 = .ok (.sipush 26368, 3) := by decide +kernel
theorem d_Mo_execute_24 : decode c_Mo_execute 24 = .ok (.ireturn, 1) := by decide +kernel
theorem d_Mo_execute_25 : decode c_Mo_execute 25 = .ok (.iload_n 1, 1) := by decide +kernel
theorem d_Mo_execute_26 : decode c_Mo_execute 26 = .ok (.iconst 5, 1) := by decide +kernel
theorem d_Mo_execute_27 : decode c_Mo_execute 27 = .ok (.if_icmp .ne 13, 3) := by decide +kernel
theorem d_Mo_execute_30 : decode c_Mo_execute 30 = .ok (.aload_n 0, 1) := by decide +kernel
theorem d_Mo_execute_31 : decode c_Mo_execute 31 = .ok (.getfield 44, 3) := by decide +kernel
theorem d_Mo_execute_34 : decode c_Mo_execute 34 = .ok (.iconst 4, 1) := by decide +kernel
theorem d_Mo_execute_35 : decode c_Mo_execute 35 = .ok (.iaload, 1) := by decide +kernel
theorem d_Mo_execute_36 : decode c_Mo_execute 36 = .ok (.istore_n 3, 1) := by decide +kernel
theorem d_Mo_execute_37 : decode c_Mo_execute 37 = .ok (.goto 61, 3) := by decide +kernel
theorem d_Mo_execute_40 : decode c_Mo_execute 40 = .ok (.iload_n 1, 1) := by decide +kernel
theorem d_Mo_execute_41 : decode c_Mo_execute 41 = .ok (.iconst 5, 1) := by decide +kernel
theorem d_Mo_execute_42 : decode c_Mo_execute 42 = .ok (.if_icmp .le 56, 3) := by decide +kernel
theorem d_Mo_execute_45 : decode c_Mo_execute 45 = .ok (.aload_n 0, 1) := by decide +kernel
theorem d_Mo_execute_46 : decode c_Mo_execute 46 = .ok (.getfield 44, 3) := by decide +kernel
theorem d_Mo_execute_49 : decode c_Mo_execute 49 = .ok (.iconst 4, 1) := by decide +kernel
theorem d_Mo_execute_50 : decode c_Mo_execute 50 = .ok (.iaload, 1) := by decide +kernel
theorem d_Mo_execute_51 : decode c_Mo_execute 51 = .ok (.istore_n 2, 1) := by decide +kernel
theorem d_Mo_execute_52 : decode c_Mo_execute 52 = .ok (.iload_n 2, 1) := by decide +kernel
theorem d_Mo_execute_53 : decode c_Mo_execute 53 = .ok (.iconst 1, 1) := by decide +kernel
theorem d_Mo_execute_54 : decode c_Mo_execute 54 = .ok (.bipush 32, 2) := by decide +kernel
theorem d_Mo_execute_56 : decode c_Mo_execute 56 = .ok (.invokestatic 56, 3) := by decide +kernel
theorem d_Mo_execute_59 : decode c_Mo_execute 59 = .ok (.ifCond .eq 18, 3) := by decide +kernel
theorem d_Mo_execute_62 : decode c_Mo_execute 62 = .ok (.iload_n 1, 1) := by decide +kernel
theorem d_Mo_execute_63 : decode c_Mo_execute 63 = .ok (.iconst 5, 1) := by decide +kernel
theorem d_Mo_execute_64 : decode c_Mo_execute 64 = .ok (.iload_n 2, 1) := by decide +kernel
theorem d_Mo_execute_65 : decode c_Mo_execute 65 = .ok (.iadd, 1) := by decide +kernel
theorem d_Mo_execute_66 : decode c_Mo_execute 66 = .ok (.if_icmp .eq 15, 3) := by decide +kernel
theorem d_Mo_execute_69 : decode c_Mo_execute 69 = .ok (.iload_n 1, 1) := by decide +kernel
theorem d_Mo_execute_70 : decode c_Mo_execute 70 = .ok (.bipush 6, 2) := by decide +kernel
theorem d_Mo_execute_72 : decode c_Mo_execute 72 = .ok (.iload_n 2, 1) := by decide +kernel
theorem d_Mo_execute_73 : decode c_Mo_execute 73 = .ok (.iadd, 1) := by decide +kernel
theorem d_Mo_execute_74 : decode c_Mo_execute 74 = .ok (.if_icmp .eq 7, 3) := by decide +kernel
theorem d_Mo_execute_77 : decode c_Mo_execute 77 = .ok (.sipush 26368, 3) := by decide +kernel
theorem d_Mo_execute_80 : decode c_Mo_execute 80 = .ok (.ireturn, 1) := by decide +kernel
theorem d_Mo_execute_81 : decode c_Mo_execute 81 = .ok (.iload_n 1, 1) := by decide +kernel
theorem d_Mo_execute_82 : decode c_Mo_execute 82 = .ok (.bipush 6, 2) := by decide +kernel
theorem d_Mo_execute_84 : decode c_Mo_execute 84 = .ok (.iload_n 2, 1) := by decide +kernel
theorem d_Mo_execute_85 : decode c_Mo_execute 85 = .ok (.iadd, 1) := by decide +kernel
theorem d_Mo_execute_86 : decode c_Mo_execute 86 = .ok (.if_icmp .ne 12, 3) := by decide +kernel
theorem d_Mo_execute_89 : decode c_Mo_execute 89 = .ok (.aload_n 0, 1) := by decide +kernel
theorem d_Mo_execute_90 : decode c_Mo_execute 90 = .ok (.getfield 44, 3) := by decide +kernel
theorem d_Mo_execute_93 : decode c_Mo_execute 93 = .ok (.iload_n 1, 1) := by decide +kernel
theorem d_Mo_execute_94 : decode c_Mo_execute 94 = .ok (.iconst 1, 1) := by decide +kernel
theorem d_Mo_execute_95 : decode c_Mo_execute 95 = .ok (.isub, 1) := by decide +kernel
theorem d_Mo_execute_96 : decode c_Mo_execute 96 = .ok (.iaload, 1) := by decide +kernel
theorem d_Mo_execute_97 : decode c_Mo_execute 97 = .ok (.istore_n 3, 1) := by decide +kernel
theorem d_Mo_execute_98 : decode c_Mo_execute 98 = .ok (.aload_n 0, 1) := by decide +kernel
theorem d_Mo_execute_99 : decode c_Mo_execute 99 = .ok (.getfield 44, 3) := by decide +kernel
theorem d_Mo_execute_102 : decode c_Mo_execute 102 = .ok (.iconst 0, 1) := by decide +kernel
theorem d_Mo_execute_103 : decode c_Mo_execute 103 = .ok (.iaload, 1) := by decide +kernel
theorem d_Mo_execute_104 : decode c_Mo_execute 104 = .ok (.ifCond .eq 7, 3) := by decide +kernel
theorem d_Mo_execute_107 : decode c_Mo_execute 107 = .ok (.sipush 28160, 3) := by decide +kernel
theorem d_Mo_execute_110 : decode c_Mo_execute 110 = .ok (.ireturn, 1) := by decide +kernel
theorem d_Mo_execute_111 : decode c_Mo_execute 111 = .ok (.aload_n 0, 1) := by decide +kernel
theorem d_Mo_execute_112 : decode c_Mo_execute 112 = .ok (.getfield 44, 3) := by decide +kernel
theorem d_Mo_execute_115 : decode c_Mo_execute 115 = .ok (.iconst 2, 1) := by decide +kernel
theorem d_Mo_execute_116 : decode c_Mo_execute 116 = .ok (.iaload, 1) := by decide +kernel
theorem d_Mo_execute_117 : decode c_Mo_execute 117 = .ok (.istore 4, 2) := by decide +kernel
theorem d_Mo_execute_119 : decode c_Mo_execute 119 = .ok (.aload_n 0, 1) := by decide +kernel
theorem d_Mo_execute_120 : decode c_Mo_execute 120 = .ok (.getfield 44, 3) := by decide +kernel
theorem d_Mo_execute_123 : decode c_Mo_execute 123 = .ok (.iconst 3, 1) := by decide +kernel
theorem d_Mo_execute_124 : decode c_Mo_execute 124 = .ok (.iaload, 1) := by decide +kernel
theorem d_Mo_execute_125 : decode c_Mo_execute 125 = .ok (.istore 5, 2) := by decide +kernel
theorem d_Mo_execute_127 : decode c_Mo_execute 127 = .ok (.aload_n 0, 1) := by decide +kernel
theorem d_Mo_execute_128 : decode c_Mo_execute 128 = .ok (.getfield 44, 3) := by decide +kernel
theorem d_Mo_execute_131 : decode c_Mo_execute 131 = .ok (.iconst 1, 1) := by decide +kernel
theorem d_Mo_execute_132 : decode c_Mo_execute 132 = .ok (.iaload, 1) := by decide +kernel
theorem d_Mo_execute_133 : decode c_Mo_execute 133 = .ok (.lookupswitch 115 #[(32, 93), (36, 104), (164, 51), (176, 61), (214, 77)], 51) := by decide +kernel
theorem d_Mo_execute_184 : decode c_Mo_execute 184 = .ok (.aload_n 0, 1) := by decide +kernel
theorem d_Mo_execute_185 : decode c_Mo_execute 185 = .ok (.iload 4, 2) := by decide +kernel
theorem d_Mo_execute_187 : decode c_Mo_execute 187 = .ok (.iload 5, 2) := by decide +kernel
theorem d_Mo_execute_189 : decode c_Mo_execute 189 = .ok (.iload_n 2, 1) := by decide +kernel
theorem d_Mo_execute_190 : decode c_Mo_execute 190 = .ok (.invokevirtual 166, 3) := by decide +kernel
theorem d_Mo_execute_193 : decode c_Mo_execute 193 = .ok (.ireturn, 1) := by decide +kernel
theorem d_Mo_execute_194 : decode c_Mo_execute 194 = .ok (.aload_n 0, 1) := by decide +kernel
theorem d_Mo_execute_195 : decode c_Mo_execute 195 = .ok (.sipush 256, 3) := by decide +kernel
theorem d_Mo_execute_198 : decode c_Mo_execute 198 = .ok (.iload 4, 2) := by decide +kernel
theorem d_Mo_execute_200 : decode c_Mo_execute 200 = .ok (.imul, 1) := by decide +kernel
theorem d_Mo_execute_201 : decode c_Mo_execute 201 = .ok (.iload 5, 2) := by decide +kernel
theorem d_Mo_execute_203 : decode c_Mo_execute 203 = .ok (.iadd, 1) := by decide +kernel
theorem d_Mo_execute_204 : decode c_Mo_execute 204 = .ok (.iload_n 2, 1) := by decide +kernel
theorem d_Mo_execute_205 : decode c_Mo_execute 205 = .ok (.iload_n 3, 1) := by decide +kernel
theorem d_Mo_execute_206 : decode c_Mo_execute 206 = .ok (.invokevirtual 170, 3) := by decide +kernel
theorem d_Mo_execute_209 : decode c_Mo_execute 209 = .ok (.ireturn, 1) := by decide +kernel
theorem d_Mo_execute_210 : decode c_Mo_execute 210 = .ok (.aload_n 0, 1) := by decide +kernel
theorem d_Mo_execute_211 : decode c_Mo_execute 211 = .ok (.sipush 256, 3) := by decide +kernel
theorem d_Mo_execute_214 : decode c_Mo_execute 214 = .ok (.iload 4, 2) := by decide +kernel
theorem d_Mo_execute_216 : decode c_Mo_execute 216 = .ok (.imul, 1) := by decide +kernel
theorem d_Mo_execute_217 : decode c_Mo_execute 217 = .ok (.iload 5, 2) := by decide +kernel
theorem d_Mo_execute_219 : decode c_Mo_execute 219 = .ok (.iadd, 1) := by decide +kernel
theorem d_Mo_execute_220 : decode c_Mo_execute 220 = .ok (.iload_n 2, 1) := by decide +kernel
theorem d_Mo_execute_221 : decode c_Mo_execute 221 = .ok (.iload_n 3, 1) := by decide +kernel
theorem d_Mo_execute_222 : decode c_Mo_execute 222 = .ok (.invokevirtual 173, 3) := by decide +kernel
theorem d_Mo_execute_225 : decode c_Mo_execute 225 = .ok (.ireturn, 1) := by decide +kernel
theorem d_Mo_execute_226 : decode c_Mo_execute 226 = .ok (.aload_n 0, 1) := by decide +kernel
theorem d_Mo_execute_227 : decode c_Mo_execute 227 = .ok (.iload 4, 2) := by decide +kernel
theorem d_Mo_execute_229 : decode c_Mo_execute 229 = .ok (.iload 5, 2) := by decide +kernel
theorem d_Mo_execute_231 : decode c_Mo_execute 231 = .ok (.iload_n 2, 1) := by decide +kernel
theorem d_Mo_execute_232 : decode c_Mo_execute 232 = .ok (.iload_n 3, 1) := by decide +kernel
theorem d_Mo_execute_233 : decode c_Mo_execute 233 = .ok (.invokevirtual 176, 3) := by decide +kernel
theorem d_Mo_execute_236 : decode c_Mo_execute 236 = .ok (.ireturn, 1) := by decide +kernel
theorem d_Mo_execute_237 : decode c_Mo_execute 237 = .ok (.aload_n 0, 1) := by decide +kernel
theorem d_Mo_execute_238 : decode c_Mo_execute 238 = .ok (.iload 4, 2) := by decide +kernel
theorem d_Mo_execute_240 : decode c_Mo_execute 240 = .ok (.iload 5, 2) := by decide +kernel
theorem d_Mo_execute_242 : decode c_Mo_execute 242 = .ok (.iload_n 2, 1) := by decide +kernel
theorem d_Mo_execute_243 : decode c_Mo_execute 243 = .ok (.iload_n 3, 1) := by decide +kernel
theorem d_Mo_execute_244 : decode c_Mo_execute 244 = .ok (.invokevirtual 180, 3) := by decide +kernel
theorem d_Mo_execute_247 : decode c_Mo_execute 247 = .ok (.ireturn, 1) := by decide +kernel
theorem d_Mo_execute_248 : decode c_Mo_execute 248 = .ok (.sipush 27904, 3) := by decide +kernel
theorem d_Mo_execute_251 : decode c_Mo_execute 251 = .ok (.ireturn, 1) := by decide +kernel
theorem d_Mo_find_0 : decode c_Mo_find 0 = .ok (.iload_n 1, 1) := by decide +kernel
theorem d_Mo_find_1 : decode c_Mo_find 1 = .ok (.ifCond .eq 8, 3) := by decide +kernel
theorem d_Mo_find_4 : decode c_Mo_find 4 = .ok (.iload_n 1, 1) := by decide +kernel
theorem d_Mo_find_5 : decode c_Mo_find 5 = .ok (.iconst 3, 1) := by decide +kernel
theorem d_Mo_find_6 : decode c_Mo_find 6 = .ok (.if_icmp .ne 7, 3) := by decide +kernel
theorem d_Mo_find_9 : decode c_Mo_find 9 = .ok (.iload_n 2, 1) := by decide +kernel
theorem d_Mo_find_10 : decode c_Mo_find 10 = .ok (.ifCond .eq 7, 3) := by decide +kernel
theorem d_Mo_find_13 : decode c_Mo_find 13 = .ok (.sipush 27270, 3) := by decide +kernel
theorem d_Mo_find_16 : decode c_Mo_find 16 = .ok (.ireturn, 1) := by decide +kernel
theorem d_Mo_find_17 : decode c_Mo_find 17 = .ok (.iload_n 1, 1) := by decide +kernel
theorem d_Mo_find_18 : decode c_Mo_find 18 = .ok (.ifCond .ne 11, 3) := by decide +kernel
theorem d_Mo_find_21 : decode c_Mo_find 21 = .ok (.iload_n 3, 1) := by decide +kernel
theorem d_Mo_find_22 : decode c_Mo_find 22 = .ok (.iconst 2, 1) := by decide +kernel
theorem d_Mo_find_23 : decode c_Mo_find 23 = .ok (.if_icmp .eq 14, 3) := by decide +kernel
theorem d_Mo_find_26 : decode c_Mo_find 26 = .ok (.goto 7, 3) := by decide +kernel
theorem d_Mo_find_29 : decode c_Mo_find 29 = .ok (.iload_n 3, 1) := by decide +kernel
theorem d_Mo_find_30 : decode c_Mo_find 30 = .ok (.ifCond .le 7, 3) := by decide +kernel
theorem d_Mo_find_33 : decode c_Mo_find 33 = .ok (.sipush 26368, 3) := by decide +kernel
theorem d_Mo_find_36 : decode c_Mo_find 36 = .ok (.ireturn, 1) := by decide +kernel
theorem d_Mo_find_37 : decode c_Mo_find 37 = .ok (.iload_n 1, 1) := by decide +kernel
theorem d_Mo_find_38 : decode c_Mo_find 38 = .ok (.iconst 3, 1) := by decide +kernel
theorem d_Mo_find_39 : decode c_Mo_find 39 = .ok (.if_icmp .ne 15, 3) := by decide +kernel
theorem d_Mo_find_42 : decode c_Mo_find 42 = .ok (.aload_n 0, 1) := by decide +kernel
theorem d_Mo_find_43 : decode c_Mo_find 43 = .ok (.getfield 13, 3) := by decide +kernel
theorem d_Mo_find_46 : decode c_Mo_find 46 = .ok (.aload_n 0, 1) := by decide +kernel
theorem d_Mo_find_47 : decode c_Mo_find 47 = .ok (.getfield 93, 3) := by decide +kernel
theorem d_Mo_find_50 : decode c_Mo_find 50 = .ok (.iaload, 1) := by decide +kernel
theorem d_Mo_find_51 : decode c_Mo_find 51 = .ok (.goto 4, 3) := by decide +kernel
theorem d_Mo_find_54 : decode c_Mo_find 54 = .ok (.iconst (-1), 1) := by decide +kernel
theorem d_Mo_find_55 : decode c_Mo_find 55 = .ok (.istore 4, 2) := by decide +kernel
theorem d_Mo_find_57 : decode c_Mo_find 57 = .ok (.iload_n 1, 1) := by decide +kernel
theorem d_Mo_find_58 : decode c_Mo_find 58 = .ok (.ifCond .ne 24, 3) := by decide +kernel
theorem d_Mo_find_61 : decode c_Mo_find 61 = .ok (.sipush 256, 3) := by decide +kernel
theorem d_Mo_find_64 : decode c_Mo_find 64 = .ok (.aload_n 0, 1) := by decide +kernel
theorem d_Mo_find_65 : decode c_Mo_find 65 = .ok (.getfield 44, 3) := by decide +kernel
theorem d_Mo_find_68 : decode c_Mo_find 68 = .ok (.iconst 5, 1) := by decide +kernel
theorem d_Mo_find_69 : decode c_Mo_find 69 = .ok (.iaload, 1) := by decide +kernel
theorem d_Mo_find_70 : decode c_Mo_find 70 = .ok (.imul, 1) := by decide +kernel
theorem d_Mo_find_71 : decode c_Mo_find 71 = .ok (.aload_n 0, 1) := by decide +kernel
theorem d_Mo_find_72 : decode c_Mo_find 72 = .ok (.getfield 44, 3) := by decide +kernel
theorem d_Mo_find_75 : decode c_Mo_find 75 = .ok (.bipush 6, 2) := by decide +kernel
theorem d_Mo_find_77 : decode c_Mo_find 77 = .ok (.iaload, 1) := by decide +kernel
theorem d_Mo_find_78 : decode c_Mo_find 78 = .ok (.iadd, 1) := by decide +kernel
theorem d_Mo_find_79 : decode c_Mo_find 79 = .ok (.goto 4, 3) := by decide +kernel
theorem d_Mo_find_82 : decode c_Mo_find 82 = .ok (.iconst (-1), 1) := by decide +kernel
theorem d_Mo_find_83 : decode c_Mo_find 83 = .ok (.istore 5, 2) := by decide +kernel
theorem d_Mo_find_85 : decode c_Mo_find 85 = .ok (.aload_n 0, 1) := by decide +kernel
theorem d_Mo_find_86 : decode c_Mo_find 86 = .ok (.getfield 28, 3) := by decide +kernel
theorem d_Mo_find_89 : decode c_Mo_find 89 = .ok (.iconst 1, 1) := by decide +kernel
theorem d_Mo_find_90 : decode c_Mo_find 90 = .ok (.isub, 1) := by decide +kernel
theorem d_Mo_find_91 : decode c_Mo_find 91 = .ok (.istore 6, 2) := by decide +kernel
theorem d_Mo_find_93 : decode c_Mo_find 93 = .ok (.iload 6, 2) := by decide +kernel
theorem d_Mo_find_95 : decode c_Mo_find 95 = .ok (.ifCond .lt 44, 3) := by decide +kernel
theorem d_Mo_find_98 : decode c_Mo_find 98 = .ok (.aload_n 0, 1) := by decide +kernel
theorem d_Mo_find_99 : decode c_Mo_find 99 = .ok (.getfield 7, 3) := by decide +kernel
theorem d_Mo_find_102 : decode c_Mo_find 102 = .ok (.iload 6, 2) := by decide +kernel
theorem d_Mo_find_104 : decode c_Mo_find 104 = .ok (.iaload, 1) := by decide +kernel
theorem d_Mo_find_105 : decode c_Mo_find 105 = .ok (.iload 5, 2) := by decide +kernel
theorem d_Mo_find_107 : decode c_Mo_find 107 = .ok (.if_icmp .ne 26, 3) := by decide +kernel
theorem d_Mo_find_110 : decode c_Mo_find 110 = .ok (.iload 6, 2) := by decide +kernel
theorem d_Mo_find_112 : decode c_Mo_find 112 = .ok (.ifCond .eq 17, 3) := by decide +kernel
theorem d_Mo_find_115 : decode c_Mo_find 115 = .ok (.aload_n 0, 1) := by decide +kernel
theorem d_Mo_find_116 : decode c_Mo_find 116 = .ok (.getfield 13, 3) := by decide +kernel
theorem d_Mo_find_119 : decode c_Mo_find 119 = .ok (.iload 6, 2) := by decide +kernel
theorem d_Mo_find_121 : decode c_Mo_find 121 = .ok (.iaload, 1) := by decide +kernel
theorem d_Mo_find_122 : decode c_Mo_find 122 = .ok (.aload_n 0, 1) := by decide +kernel
theorem d_Mo_find_123 : decode c_Mo_find 123 = .ok (.getfield 93, 3) := by decide +kernel
theorem d_Mo_find_126 : decode c_Mo_find 126 = .ok (.if_icmp .ne 7, 3) := by decide +kernel
theorem d_Mo_find_129 : decode c_Mo_find 129 = .ok (.iload 6, 2) := by decide +kernel
theorem d_Mo_find_131 : decode c_Mo_find 131 = .ok (.istore 4, 2) := by decide +kernel
theorem d_Mo_find_133 : decode c_Mo_find 133 = .ok (.iinc 6 (-1), 3) := by decide +kernel
theorem d_Mo_find_136 : decode c_Mo_find 136 = .ok (.goto (-43), 3) := by decide +kernel
theorem d_Mo_find_139 : decode c_Mo_find 139 = .ok (.iload 4, 2) := by decide +kernel
theorem d_Mo_find_141 : decode c_Mo_find 141 = .ok (.ifCond .ge 7, 3) := by decide +kernel
theorem d_Mo_find_144 : decode c_Mo_find 144 = .ok (.sipush 27266, 3) := by decide +kernel
theorem d_Mo_find_147 : decode c_Mo_find 147 = .ok (.ireturn, 1) := by decide +kernel
theorem d_Mo_find_148 : decode c_Mo_find 148 = .ok (.aload_n 0, 1) := by decide +kernel
theorem d_Mo_find_149 : decode c_Mo_find 149 = .ok (.aload_n 0, 1) := by decide +kernel
theorem d_Mo_find_150 : decode c_Mo_find 150 = .ok (.getfield 16, 3) := by decide +kernel
theorem d_Mo_find_153 : decode c_Mo_find 153 = .ok (.iload 4, 2) := by decide +kernel
theorem d_Mo_find_155 : decode c_Mo_find 155 = .ok (.iaload, 1) := by decide +kernel
theorem d_Mo_find_156 : decode c_Mo_find 156 = .ok (.ifCond .le 8, 3) := by decide +kernel
theorem d_Mo_find_159 : decode c_Mo_find 159 = .ok (.iload 4, 2) := by decide +kernel
theorem d_Mo_find_161 : decode c_Mo_find 161 = .ok (.goto 4, 3) := by decide +kernel
theorem d_Mo_find_164 : decode c_Mo_find 164 = .ok (.iconst (-1), 1) := by decide +kernel
theorem d_Mo_find_165 : decode c_Mo_find 165 = .ok (.putfield 96, 3) := by decide +kernel
theorem d_Mo_find_168 : decode c_Mo_find 168 = .ok (.aload_n 0, 1) := by decide +kernel
theorem d_Mo_find_169 : decode c_Mo_find 169 = .ok (.getfield 96, 3) := by decide +kernel
theorem d_Mo_find_172 : decode c_Mo_find 172 = .ok (.ifCond .ge 9, 3) := by decide +kernel
theorem d_Mo_find_175 : decode c_Mo_find 175 = .ok (.aload_n 0, 1) := by decide +kernel
theorem d_Mo_find_176 : decode c_Mo_find 176 = .ok (.iload 4, 2) := by decide +kernel
theorem d_Mo_find_178 : decode c_Mo_find 178 = .ok (.putfield 93, 3) := by decide +kernel
theorem d_Mo_find_181 : decode c_Mo_find 181 = .ok (.ldc 183, 2) := by decide +kernel
theorem d_Mo_find_183 : decode c_Mo_find 183 = .ok (.ireturn, 1) := by decide +kernel
theorem d_Mo_reads_0 : decode c_Mo_reads 0 = .ok (.iload_n 2, 1) := by decide +kernel
theorem d_Mo_reads_1 : decode c_Mo_reads 1 = .ok (.ifCond .gt 7, 3) := by decide +kernel
theorem d_Mo_reads_4 : decode c_Mo_reads 4 = .ok (.iload_n 3, 1) := by decide +kernel
theorem d_Mo_reads_5 : decode c_Mo_reads 5 = .ok (.ifCond .ge 7, 3) := by decide +kernel
theorem d_Mo_reads_8 : decode c_Mo_reads 8 = .ok (.sipush 26368, 3) := by decide +kernel
theorem d_Mo_reads_11 : decode c_Mo_reads 11 = .ok (.ireturn, 1) := by decide +kernel
theorem d_Mo_reads_12 : decode c_Mo_reads 12 = .ok (.aload_n 0, 1) := by decide +kernel
theorem d_Mo_reads_13 : decode c_Mo_reads 13 = .ok (.iconst 0, 1) := by decide +kernel
theorem d_Mo_reads_14 : decode c_Mo_reads 14 = .ok (.iload_n 1, 1) := by decide +kernel
theorem d_Mo_reads_15 : decode c_Mo_reads 15 = .ok (.invokevirtual 184, 3) := by decide +kernel
theorem d_Mo_reads_18 : decode c_Mo_reads 18 = .ok (.istore 4, 2) := by decide +kernel
theorem d_Mo_reads_20 : decode c_Mo_reads 20 = .ok (.iload 4, 2) := by decide +kernel
theorem d_Mo_reads_22 : decode c_Mo_reads 22 = .ok (.ifCond .le 6, 3) := by decide +kernel
theorem d_Mo_reads_25 : decode c_Mo_reads 25 = .ok (.iload 4, 2) := by decide +kernel
theorem d_Mo_reads_27 : decode c_Mo_reads 27 = .ok (.ireturn, 1) := by decide +kernel
theorem d_Mo_reads_28 : decode c_Mo_reads 28 = .ok (.iload_n 3, 1) := by decide +kernel
theorem d_Mo_reads_29 : decode c_Mo_reads 29 = .ok (.ifCond .ne 8, 3) := by decide +kernel
theorem d_Mo_reads_32 : decode c_Mo_reads 32 = .ok (.bipush 32, 2) := by decide +kernel
theorem d_Mo_reads_34 : decode c_Mo_reads 34 = .ok (.goto 4, 3) := by decide +kernel
theorem d_Mo_reads_37 : decode c_Mo_reads 37 = .ok (.iload_n 3, 1) := by decide +kernel
theorem d_Mo_reads_38 : decode c_Mo_reads 38 = .ok (.istore 5, 2) := by decide +kernel
theorem d_Mo_reads_40 : decode c_Mo_reads 40 = .ok (.aload_n 0, 1) := by decide +kernel
theorem d_Mo_reads_41 : decode c_Mo_reads 41 = .ok (.getfield 16, 3) := by decide +kernel
theorem d_Mo_reads_44 : decode c_Mo_reads 44 = .ok (.aload_n 0, 1) := by decide +kernel
theorem d_Mo_reads_45 : decode c_Mo_reads 45 = .ok (.getfield 96, 3) := by decide +kernel
theorem d_Mo_reads_48 : decode c_Mo_reads 48 = .ok (.iaload, 1) := by decide +kernel
theorem d_Mo_reads_49 : decode c_Mo_reads 49 = .ok (.iload_n 1, 1) := by decide +kernel
theorem d_Mo_reads_50 : decode c_Mo_reads 50 = .ok (.isub, 1) := by decide +kernel
theorem d_Mo_reads_51 : decode c_Mo_reads 51 = .ok (.istore 6, 2) := by decide +kernel
theorem d_Mo_reads_53 : decode c_Mo_reads 53 = .ok (.iconst 0, 1) := by decide +kernel
theorem d_Mo_reads_54 : decode c_Mo_reads 54 = .ok (.istore 7, 2) := by decide +kernel
theorem d_Mo_reads_56 : decode c_Mo_reads 56 = .ok (.iload 7, 2) := by decide +kernel
theorem d_Mo_reads_58 : decode c_Mo_reads 58 = .ok (.iload 5, 2) := by decide +kernel
theorem d_Mo_reads_60 : decode c_Mo_reads 60 = .ok (.if_icmp .ge 37, 3) := by decide +kernel
theorem d_Mo_reads_63 : decode c_Mo_reads 63 = .ok (.iload 7, 2) := by decide +kernel
theorem d_Mo_reads_65 : decode c_Mo_reads 65 = .ok (.iload 6, 2) := by decide +kernel
theorem d_Mo_reads_67 : decode c_Mo_reads 67 = .ok (.if_icmp .ge 30, 3) := by decide +kernel
theorem d_Mo_reads_70 : decode c_Mo_reads 70 = .ok (.aload_n 0, 1) := by decide +kernel
theorem d_Mo_reads_71 : decode c_Mo_reads 71 = .ok (.aload_n 0, 1) := by decide +kernel
theorem d_Mo_reads_72 : decode c_Mo_reads 72 = .ok (.getfield 25, 3) := by decide +kernel
theorem d_Mo_reads_75 : decode c_Mo_reads 75 = .ok (.bipush 24, 2) := by decide +kernel
theorem d_Mo_reads_77 : decode c_Mo_reads 77 = .ok (.aload_n 0, 1) := by decide +kernel
theorem d_Mo_reads_78 : decode c_Mo_reads 78 = .ok (.getfield 96, 3) := by decide +kernel
theorem d_Mo_reads_81 : decode c_Mo_reads 81 = .ok (.imul, 1) := by decide +kernel
theorem d_Mo_reads_82 : decode c_Mo_reads 82 = .ok (.iload_n 1, 1) := by decide +kernel
theorem d_Mo_reads_83 : decode c_Mo_reads 83 = .ok (.iadd, 1) := by decide +kernel
theorem d_Mo_reads_84 : decode c_Mo_reads 84 = .ok (.iload 7, 2) := by decide +kernel
theorem d_Mo_reads_86 : decode c_Mo_reads 86 = .ok (.iadd, 1) := by decide +kernel
theorem d_Mo_reads_87 : decode c_Mo_reads 87 = .ok (.iaload, 1) := by decide +kernel
theorem d_Mo_reads_88 : decode c_Mo_reads 88 = .ok (.invokevirtual 157, 3) := by decide +kernel
theorem d_Mo_reads_91 : decode c_Mo_reads 91 = .ok (.iinc 7 1, 3) := by decide +kernel
theorem d_Mo_reads_94 : decode c_Mo_reads 94 = .ok (.goto (-38), 3) := by decide +kernel
theorem d_Mo_reads_97 : decode c_Mo_reads 97 = .ok (.iload 5, 2) := by decide +kernel
theorem d_Mo_reads_99 : decode c_Mo_reads 99 = .ok (.iload 6, 2) := by decide +kernel
theorem d_Mo_reads_101 : decode c_Mo_reads 101 = .ok (.if_icmp .le 9, 3) := by decide +kernel
theorem d_Mo_reads_104 : decode c_Mo_reads 104 = .ok (.sipush 25218, 3) := by decide +kernel
theorem d_Mo_reads_107 : decode c_Mo_reads 107 = .ok (.goto 5, 3) := by decide +kernel
theorem d_Mo_reads_110 : decode c_Mo_reads 110 = .ok (.ldc 183, 2) := by decide +kernel
theorem d_Mo_reads_112 : decode c_Mo_reads 112 = .ok (.ireturn, 1) := by decide +kernel
theorem d_Mo_wrong_0 : decode c_Mo_wrong 0 = .ok (.aload_n 0, 1) := by decide +kernel
theorem d_Mo_wrong_1 : decode c_Mo_wrong 1 = .ok (.getfield 96, 3) := by decide +kernel
theorem d_Mo_wrong_4 : decode c_Mo_wrong 4 = .ok (.ifCond .ge 7, 3) := by decide +kernel
theorem d_Mo_wrong_7 : decode c_Mo_wrong 7 = .ok (.sipush 27014, 3) := by decide +kernel
theorem d_Mo_wrong_10 : decode c_Mo_wrong 10 = .ok (.ireturn, 1) := by decide +kernel
theorem d_Mo_wrong_11 : decode c_Mo_wrong 11 = .ok (.iload_n 1, 1) := by decide +kernel
theorem d_Mo_wrong_12 : decode c_Mo_wrong 12 = .ok (.ifCond .ne 15, 3) := by decide +kernel
theorem d_Mo_wrong_15 : decode c_Mo_wrong 15 = .ok (.aload_n 0, 1) := by decide +kernel
theorem d_Mo_wrong_16 : decode c_Mo_wrong 16 = .ok (.getfield 19, 3) := by decide +kernel
theorem d_Mo_wrong_19 : decode c_Mo_wrong 19 = .ok (.aload_n 0, 1) := by decide +kernel
theorem d_Mo_wrong_20 : decode c_Mo_wrong 20 = .ok (.getfield 96, 3) := by decide +kernel
theorem d_Mo_wrong_23 : decode c_Mo_wrong 23 = .ok (.iaload, 1) := by decide +kernel
theorem d_Mo_wrong_24 : decode c_Mo_wrong 24 = .ok (.goto 12, 3) := by decide +kernel
theorem d_Mo_wrong_27 : decode c_Mo_wrong 27 = .ok (.aload_n 0, 1) := by decide +kernel
theorem d_Mo_wrong_28 : decode c_Mo_wrong 28 = .ok (.getfield 22, 3) := by decide +kernel
theorem d_Mo_wrong_31 : decode c_Mo_wrong 31 = .ok (.aload_n 0, 1) := by decide +kernel
theorem d_Mo_wrong_32 : decode c_Mo_wrong 32 = .ok (.getfield 96, 3) := by decide +kernel
theorem d_Mo_wrong_35 : decode c_Mo_wrong 35 = .ok (.iaload, 1) := by decide +kernel
theorem d_Mo_wrong_36 : decode c_Mo_wrong 36 = .ok (.istore_n 3, 1) := by decide +kernel
theorem d_Mo_wrong_37 : decode c_Mo_wrong 37 = .ok (.iload_n 3, 1) := by decide +kernel
theorem d_Mo_wrong_38 : decode c_Mo_wrong 38 = .ok (.iconst 2, 1) := by decide +kernel
theorem d_Mo_wrong_39 : decode c_Mo_wrong 39 = .ok (.if_icmp .eq 15, 3) := by decide +kernel
theorem d_Mo_wrong_42 : decode c_Mo_wrong 42 = .ok (.iload_n 3, 1) := by decide +kernel
theorem d_Mo_wrong_43 : decode c_Mo_wrong 43 = .ok (.iconst 1, 1) := by decide +kernel
theorem d_Mo_wrong_44 : decode c_Mo_wrong 44 = .ok (.if_icmp .ne 14, 3) := by decide +kernel
theorem d_Mo_wrong_47 : decode c_Mo_wrong 47 = .ok (.aload_n 0, 1) := by decide +kernel
theorem d_Mo_wrong_48 : decode c_Mo_wrong 48 = .ok (.getfield 90, 3) := by decide +kernel
theorem d_Mo_wrong_51 : decode c_Mo_wrong 51 = .ok (.ifCond .ne 7, 3) := by decide +kernel
theorem d_Mo_wrong_54 : decode c_Mo_wrong 54 = .ok (.sipush 27010, 3) := by decide +kernel
theorem d_Mo_wrong_57 : decode c_Mo_wrong 57 = .ok (.ireturn, 1) := by decide +kernel
theorem d_Mo_wrong_58 : decode c_Mo_wrong 58 = .ok (.iload_n 2, 1) := by decide +kernel
theorem d_Mo_wrong_59 : decode c_Mo_wrong 59 = .ok (.aload_n 0, 1) := by decide +kernel
theorem d_Mo_wrong_60 : decode c_Mo_wrong 60 = .ok (.getfield 16, 3) := by decide +kernel
theorem d_Mo_wrong_63 : decode c_Mo_wrong 63 = .ok (.aload_n 0, 1) := by decide +kernel
theorem d_Mo_wrong_64 : decode c_Mo_wrong 64 = .ok (.getfield 96, 3) := by decide +kernel
theorem d_Mo_wrong_67 : decode c_Mo_wrong 67 = .ok (.iaload, 1) := by decide +kernel
theorem d_Mo_wrong_68 : decode c_Mo_wrong 68 = .ok (.if_icmp .lt 9, 3) := by decide +kernel
theorem d_Mo_wrong_71 : decode c_Mo_wrong 71 = .ok (.sipush 27392, 3) := by decide +kernel
theorem d_Mo_wrong_74 : decode c_Mo_wrong 74 = .ok (.goto 4, 3) := by decide +kernel
theorem d_Mo_wrong_77 : decode c_Mo_wrong 77 = .ok (.iconst 0, 1) := by decide +kernel
theorem d_Mo_wrong_78 : decode c_Mo_wrong 78 = .ok (.ireturn, 1) := by decide +kernel
theorem d_Mo_put_0 : decode c_Mo_put 0 = .ok (.aload_n 0, 1) := by decide +kernel
theorem d_Mo_put_1 : decode c_Mo_put 1 = .ok (.getfield 47, 3) := by decide +kernel
theorem d_Mo_put_4 : decode c_Mo_put 4 = .ok (.aload_n 0, 1) := by decide +kernel
theorem d_Mo_put_5 : decode c_Mo_put 5 = .ok (.getfield 126, 3) := by decide +kernel
theorem d_Mo_put_8 : decode c_Mo_put 8 = .ok (.iload_n 1, 1) := by decide +kernel
theorem d_Mo_put_9 : decode c_Mo_put 9 = .ok (.iastore, 1) := by decide +kernel
theorem d_Mo_put_10 : decode c_Mo_put 10 = .ok (.aload_n 0, 1) := by decide +kernel
theorem d_Mo_put_11 : decode c_Mo_put 11 = .ok (.dup, 1) := by decide +kernel
theorem d_Mo_put_12 : decode c_Mo_put 12 = .ok (.getfield 126, 3) := by decide +kernel
theorem d_Mo_put_15 : decode c_Mo_put 15 = .ok (.iconst 1, 1) := by decide +kernel
theorem d_Mo_put_16 : decode c_Mo_put 16 = .ok (.iadd, 1) := by decide +kernel
theorem d_Mo_put_17 : decode c_Mo_put 17 = .ok (.putfield 126, 3) := by decide +kernel
theorem d_Mo_put_20 : decode c_Mo_put 20 = .ok (.return_, 1) := by decide +kernel
theorem d_Mo_changes_0 : decode c_Mo_changes 0 = .ok (.iload_n 2, 1) := by decide +kernel
theorem d_Mo_changes_1 : decode c_Mo_changes 1 = .ok (.ifCond .eq 7, 3) := by decide +kernel
theorem d_Mo_changes_4 : decode c_Mo_changes 4 = .ok (.iload_n 3, 1) := by decide +kernel
theorem d_Mo_changes_5 : decode c_Mo_changes 5 = .ok (.ifCond .lt 7, 3) := by decide +kernel
theorem d_Mo_changes_8 : decode c_Mo_changes 8 = .ok (.sipush 26368, 3) := by decide +kernel
theorem d_Mo_changes_11 : decode c_Mo_changes 11 = .ok (.ireturn, 1) := by decide +kernel
theorem d_Mo_changes_12 : decode c_Mo_changes 12 = .ok (.aload_n 0, 1) := by decide +kernel
theorem d_Mo_changes_13 : decode c_Mo_changes 13 = .ok (.iconst 1, 1) := by decide +kernel
theorem d_Mo_changes_14 : decode c_Mo_changes 14 = .ok (.iload_n 1, 1) := by decide +kernel
theorem d_Mo_changes_15 : decode c_Mo_changes 15 = .ok (.invokevirtual 184, 3) := by decide +kernel
theorem d_Mo_changes_18 : decode c_Mo_changes 18 = .ok (.istore 4, 2) := by decide +kernel
theorem d_Mo_changes_20 : decode c_Mo_changes 20 = .ok (.iload 4, 2) := by decide +kernel
theorem d_Mo_changes_22 : decode c_Mo_changes 22 = .ok (.ifCond .le 6, 3) := by decide +kernel
theorem d_Mo_changes_25 : decode c_Mo_changes 25 = .ok (.iload 4, 2) := by decide +kernel
theorem d_Mo_changes_27 : decode c_Mo_changes 27 = .ok (.ireturn, 1) := by decide +kernel
theorem d_Mo_changes_28 : decode c_Mo_changes 28 = .ok (.iload_n 1, 1) := by decide +kernel
theorem d_Mo_changes_29 : decode c_Mo_changes 29 = .ok (.iload_n 2, 1) := by decide +kernel
theorem d_Mo_changes_30 : decode c_Mo_changes 30 = .ok (.iadd, 1) := by decide +kernel
theorem d_Mo_changes_31 : decode c_Mo_changes 31 = .ok (.aload_n 0, 1) := by decide +kernel
theorem d_Mo_changes_32 : decode c_Mo_changes 32 = .ok (.getfield 16, 3) := by decide +kernel
theorem d_Mo_changes_35 : decode c_Mo_changes 35 = .ok (.aload_n 0, 1) := by decide +kernel
theorem d_Mo_changes_36 : decode c_Mo_changes 36 = .ok (.getfield 96, 3) := by decide +kernel
theorem d_Mo_changes_39 : decode c_Mo_changes 39 = .ok (.iaload, 1) := by decide +kernel
theorem d_Mo_changes_40 : decode c_Mo_changes 40 = .ok (.if_icmp .le 7, 3) := by decide +kernel
theorem d_Mo_changes_43 : decode c_Mo_changes 43 = .ok (.sipush 27268, 3) := by decide +kernel
theorem d_Mo_changes_46 : decode c_Mo_changes 46 = .ok (.ireturn, 1) := by decide +kernel
theorem d_Mo_changes_47 : decode c_Mo_changes 47 = .ok (.iconst 0, 1) := by decide +kernel
theorem d_Mo_changes_48 : decode c_Mo_changes 48 = .ok (.istore 5, 2) := by decide +kernel
theorem d_Mo_changes_50 : decode c_Mo_changes 50 = .ok (.iload 5, 2) := by decide +kernel
theorem d_Mo_changes_52 : decode c_Mo_changes 52 = .ok (.iload_n 2, 1) := by decide +kernel
theorem d_Mo_changes_53 : decode c_Mo_changes 53 = .ok (.iconst 2, 1) := by decide +kernel
theorem d_Mo_changes_54 : decode c_Mo_changes 54 = .ok (.iadd, 1) := by decide +kernel
theorem d_Mo_changes_55 : decode c_Mo_changes 55 = .ok (.if_icmp .ge 22, 3) := by decide +kernel
theorem d_Mo_changes_58 : decode c_Mo_changes 58 = .ok (.aload_n 0, 1) := by decide +kernel
theorem d_Mo_changes_59 : decode c_Mo_changes 59 = .ok (.invokevirtual 77, 3) := by decide +kernel
theorem d_Mo_changes_62 : decode c_Mo_changes 62 = .ok (.istore 6, 2) := by decide +kernel
theorem d_Mo_changes_64 : decode c_Mo_changes 64 = .ok (.iload 6, 2) := by decide +kernel
theorem d_Mo_changes_66 : decode c_Mo_changes 66 = .ok (.ifCond .ne 5, 3) := by decide +kernel
theorem d_Mo_changes_69 : decode c_Mo_changes 69 = .ok (.iconst 0, 1) := by decide +kernel
theorem d_Mo_changes_70 : decode c_Mo_changes 70 = .ok (.ireturn, 1) := by decide +kernel
theorem d_Mo_changes_71 : decode c_Mo_changes 71 = .ok (.iinc 5 1, 3) := by decide +kernel
theorem d_Mo_changes_74 : decode c_Mo_changes 74 = .ok (.goto (-24), 3) := by decide +kernel
theorem d_Mo_changes_77 : decode c_Mo_changes 77 = .ok (.aload_n 0, 1) := by decide +kernel
theorem d_Mo_changes_78 : decode c_Mo_changes 78 = .ok (.aload_n 0, 1) := by decide +kernel
theorem d_Mo_changes_79 : decode c_Mo_changes 79 = .ok (.getfield 96, 3) := by decide +kernel
theorem d_Mo_changes_82 : decode c_Mo_changes 82 = .ok (.putfield 81, 3) := by decide +kernel
theorem d_Mo_changes_85 : decode c_Mo_changes 85 = .ok (.aload_n 0, 1) := by decide +kernel
theorem d_Mo_changes_86 : decode c_Mo_changes 86 = .ok (.iload_n 1, 1) := by decide +kernel
theorem d_Mo_changes_87 : decode c_Mo_changes 87 = .ok (.putfield 84, 3) := by decide +kernel
theorem d_Mo_changes_90 : decode c_Mo_changes 90 = .ok (.aload_n 0, 1) := by decide +kernel
theorem d_Mo_changes_91 : decode c_Mo_changes 91 = .ok (.iload_n 2, 1) := by decide +kernel
theorem d_Mo_changes_92 : decode c_Mo_changes 92 = .ok (.putfield 74, 3) := by decide +kernel
theorem d_Mo_changes_95 : decode c_Mo_changes 95 = .ok (.iconst 0, 1) := by decide +kernel
theorem d_Mo_changes_96 : decode c_Mo_changes 96 = .ok (.istore 5, 2) := by decide +kernel
theorem d_Mo_changes_98 : decode c_Mo_changes 98 = .ok (.iload 5, 2) := by decide +kernel
theorem d_Mo_changes_100 : decode c_Mo_changes 100 = .ok (.iload_n 2, 1) := by decide +kernel
theorem d_Mo_changes_101 : decode c_Mo_changes 101 = .ok (.if_icmp .ge 25, 3) := by decide +kernel
theorem d_Mo_changes_104 : decode c_Mo_changes 104 = .ok (.aload_n 0, 1) := by decide +kernel
theorem d_Mo_changes_105 : decode c_Mo_changes 105 = .ok (.getfield 38, 3) := by decide +kernel
theorem d_Mo_changes_108 : decode c_Mo_changes 108 = .ok (.iload 5, 2) := by decide +kernel
theorem d_Mo_changes_110 : decode c_Mo_changes 110 = .ok (.aload_n 0, 1) := by decide +kernel
theorem d_Mo_changes_111 : decode c_Mo_changes 111 = .ok (.getfield 44, 3) := by decide +kernel
theorem d_Mo_changes_114 : decode c_Mo_changes 114 = .ok (.iconst 5, 1) := by decide +kernel
theorem d_Mo_changes_115 : decode c_Mo_changes 115 = .ok (.iload 5, 2) := by decide +kernel
theorem d_Mo_changes_117 : decode c_Mo_changes 117 = .ok (.iadd, 1) := by decide +kernel
theorem d_Mo_changes_118 : decode c_Mo_changes 118 = .ok (.iaload, 1) := by decide +kernel
theorem d_Mo_changes_119 : decode c_Mo_changes 119 = .ok (.iastore, 1) := by decide +kernel
theorem d_Mo_changes_120 : decode c_Mo_changes 120 = .ok (.iinc 5 1, 3) := by decide +kernel
theorem d_Mo_changes_123 : decode c_Mo_changes 123 = .ok (.goto (-25), 3) := by decide +kernel
theorem d_Mo_changes_126 : decode c_Mo_changes 126 = .ok (.aload_n 0, 1) := by decide +kernel
theorem d_Mo_changes_127 : decode c_Mo_changes 127 = .ok (.invokevirtual 87, 3) := by decide +kernel
theorem d_Mo_changes_130 : decode c_Mo_changes 130 = .ok (.pop, 1) := by decide +kernel
theorem d_Mo_changes_131 : decode c_Mo_changes 131 = .ok (.ldc 183, 2) := by decide +kernel
theorem d_Mo_changes_133 : decode c_Mo_changes 133 = .ok (.ireturn, 1) := by decide +kernel
theorem d_Mo_tell_0 : decode c_Mo_tell 0 = .ok (.iload_n 1, 1) := by decide +kernel
theorem d_Mo_tell_1 : decode c_Mo_tell 1 = .ok (.ifCond .ne 8, 3) := by decide +kernel
theorem d_Mo_tell_4 : decode c_Mo_tell 4 = .ok (.iload_n 2, 1) := by decide +kernel
theorem d_Mo_tell_5 : decode c_Mo_tell 5 = .ok (.iconst 1, 1) := by decide +kernel
theorem d_Mo_tell_6 : decode c_Mo_tell 6 = .ok (.if_icmp .eq 7, 3) := by decide +kernel
theorem d_Mo_tell_9 : decode c_Mo_tell 9 = .ok (.sipush 27270, 3) := by decide +kernel
theorem d_Mo_tell_12 : decode c_Mo_tell 12 = .ok (.ireturn, 1) := by decide +kernel
theorem d_Mo_tell_13 : decode c_Mo_tell 13 = .ok (.iload_n 3, 1) := by decide +kernel
theorem d_Mo_tell_14 : decode c_Mo_tell 14 = .ok (.ifCond .eq 8, 3) := by decide +kernel
theorem d_Mo_tell_17 : decode c_Mo_tell 17 = .ok (.iload_n 3, 1) := by decide +kernel
theorem d_Mo_tell_18 : decode c_Mo_tell 18 = .ok (.iconst 4, 1) := by decide +kernel
theorem d_Mo_tell_19 : decode c_Mo_tell 19 = .ok (.if_icmp .ne 8, 3) := by decide +kernel
theorem d_Mo_tell_22 : decode c_Mo_tell 22 = .ok (.iload 4, 2) := by decide +kernel
theorem d_Mo_tell_24 : decode c_Mo_tell 24 = .ok (.ifCond .lt 7, 3) := by decide +kernel
theorem d_Mo_tell_27 : decode c_Mo_tell 27 = .ok (.sipush 26368, 3) := by decide +kernel
theorem d_Mo_tell_30 : decode c_Mo_tell 30 = .ok (.ireturn, 1) := by decide +kernel
theorem d_Mo_tell_31 : decode c_Mo_tell 31 = .ok (.iload_n 3, 1) := by decide +kernel
theorem d_Mo_tell_32 : decode c_Mo_tell 32 = .ok (.ifCond .ne 13, 3) := by decide +kernel
theorem d_Mo_tell_35 : decode c_Mo_tell 35 = .ok (.aload_n 0, 1) := by decide +kernel
theorem d_Mo_tell_36 : decode c_Mo_tell 36 = .ok (.getfield 90, 3) := by decide +kernel
theorem d_Mo_tell_39 : decode c_Mo_tell 39 = .ok (.ifCond .eq 6, 3) := by decide +kernel
theorem d_Mo_tell_42 : decode c_Mo_tell 42 = .ok (.ldc 183, 2) := by decide +kernel
theorem d_Mo_tell_44 : decode c_Mo_tell 44 = .ok (.ireturn, 1) := by decide +kernel
theorem d_Mo_tell_45 : decode c_Mo_tell 45 = .ok (.aload_n 0, 1) := by decide +kernel
theorem d_Mo_tell_46 : decode c_Mo_tell 46 = .ok (.getfield 32, 3) := by decide +kernel
theorem d_Mo_tell_49 : decode c_Mo_tell 49 = .ok (.ifCond .ne 7, 3) := by decide +kernel
theorem d_Mo_tell_52 : decode c_Mo_tell 52 = .ok (.sipush 27011, 3) := by decide +kernel
theorem d_Mo_tell_55 : decode c_Mo_tell 55 = .ok (.ireturn, 1) := by decide +kernel
theorem d_Mo_tell_56 : decode c_Mo_tell 56 = .ok (.iload_n 3, 1) := by decide +kernel
theorem d_Mo_tell_57 : decode c_Mo_tell 57 = .ok (.ifCond .ne 12, 3) := by decide +kernel
theorem d_Mo_tell_60 : decode c_Mo_tell 60 = .ok (.sipush 25536, 3) := by decide +kernel
theorem d_Mo_tell_63 : decode c_Mo_tell 63 = .ok (.aload_n 0, 1) := by decide +kernel
theorem d_Mo_tell_64 : decode c_Mo_tell 64 = .ok (.getfield 32, 3) := by decide +kernel
theorem d_Mo_tell_67 : decode c_Mo_tell 67 = .ok (.iadd, 1) := by decide +kernel
theorem d_Mo_tell_68 : decode c_Mo_tell 68 = .ok (.ireturn, 1) := by decide +kernel
theorem d_Mo_tell_69 : decode c_Mo_tell 69 = .ok (.aload_n 0, 1) := by decide +kernel
theorem d_Mo_tell_70 : decode c_Mo_tell 70 = .ok (.invokevirtual 77, 3) := by decide +kernel
theorem d_Mo_tell_73 : decode c_Mo_tell 73 = .ok (.istore 5, 2) := by decide +kernel
theorem d_Mo_tell_75 : decode c_Mo_tell 75 = .ok (.iload 5, 2) := by decide +kernel
theorem d_Mo_tell_77 : decode c_Mo_tell 77 = .ok (.ifCond .ne 5, 3) := by decide +kernel
theorem d_Mo_tell_80 : decode c_Mo_tell 80 = .ok (.iconst 0, 1) := by decide +kernel
theorem d_Mo_tell_81 : decode c_Mo_tell 81 = .ok (.ireturn, 1) := by decide +kernel
theorem d_Mo_tell_82 : decode c_Mo_tell 82 = .ok (.aload_n 0, 1) := by decide +kernel
theorem d_Mo_tell_83 : decode c_Mo_tell 83 = .ok (.dup, 1) := by decide +kernel
theorem d_Mo_tell_84 : decode c_Mo_tell 84 = .ok (.getfield 32, 3) := by decide +kernel
theorem d_Mo_tell_87 : decode c_Mo_tell 87 = .ok (.iconst 1, 1) := by decide +kernel
theorem d_Mo_tell_88 : decode c_Mo_tell 88 = .ok (.isub, 1) := by decide +kernel
theorem d_Mo_tell_89 : decode c_Mo_tell 89 = .ok (.putfield 32, 3) := by decide +kernel
theorem d_Mo_tell_92 : decode c_Mo_tell 92 = .ok (.aload_n 0, 1) := by decide +kernel
theorem d_Mo_tell_93 : decode c_Mo_tell 93 = .ok (.invokevirtual 188, 3) := by decide +kernel
theorem d_Mo_tell_96 : decode c_Mo_tell 96 = .ok (.istore 6, 2) := by decide +kernel
theorem d_Mo_tell_98 : decode c_Mo_tell 98 = .ok (.aload_n 0, 1) := by decide +kernel
theorem d_Mo_tell_99 : decode c_Mo_tell 99 = .ok (.iconst 0, 1) := by decide +kernel
theorem d_Mo_tell_100 : decode c_Mo_tell 100 = .ok (.putfield 90, 3) := by decide +kernel
theorem d_Mo_tell_103 : decode c_Mo_tell 103 = .ok (.iload 6, 2) := by decide +kernel
theorem d_Mo_tell_105 : decode c_Mo_tell 105 = .ok (.aload_n 0, 1) := by decide +kernel
theorem d_Mo_tell_106 : decode c_Mo_tell 106 = .ok (.getfield 191, 3) := by decide +kernel
theorem d_Mo_tell_109 : decode c_Mo_tell 109 = .ok (.if_icmp .eq 12, 3) := by decide +kernel
theorem d_Mo_tell_112 : decode c_Mo_tell 112 = .ok (.sipush 25536, 3) := by decide +kernel
theorem d_Mo_tell_115 : decode c_Mo_tell 115 = .ok (.aload_n 0, 1) := by decide +kernel
theorem d_Mo_tell_116 : decode c_Mo_tell 116 = .ok (.getfield 32, 3) := by decide +kernel
theorem d_Mo_tell_119 : decode c_Mo_tell 119 = .ok (.iadd, 1) := by decide +kernel
theorem d_Mo_tell_120 : decode c_Mo_tell 120 = .ok (.ireturn, 1) := by decide +kernel
theorem d_Mo_tell_121 : decode c_Mo_tell 121 = .ok (.aload_n 0, 1) := by decide +kernel
theorem d_Mo_tell_122 : decode c_Mo_tell 122 = .ok (.invokevirtual 77, 3) := by decide +kernel
theorem d_Mo_tell_125 : decode c_Mo_tell 125 = .ok (.istore 5, 2) := by decide +kernel
theorem d_Mo_tell_127 : decode c_Mo_tell 127 = .ok (.iload 5, 2) := by decide +kernel
theorem d_Mo_tell_129 : decode c_Mo_tell 129 = .ok (.ifCond .ne 5, 3) := by decide +kernel
theorem d_Mo_tell_132 : decode c_Mo_tell 132 = .ok (.iconst 0, 1) := by decide +kernel
theorem d_Mo_tell_133 : decode c_Mo_tell 133 = .ok (.ireturn, 1) := by decide +kernel
theorem d_Mo_tell_134 : decode c_Mo_tell 134 = .ok (.aload_n 0, 1) := by decide +kernel
theorem d_Mo_tell_135 : decode c_Mo_tell 135 = .ok (.iconst 3, 1) := by decide +kernel
theorem d_Mo_tell_136 : decode c_Mo_tell 136 = .ok (.putfield 32, 3) := by decide +kernel
theorem d_Mo_tell_139 : decode c_Mo_tell 139 = .ok (.aload_n 0, 1) := by decide +kernel
theorem d_Mo_tell_140 : decode c_Mo_tell 140 = .ok (.iconst 1, 1) := by decide +kernel
theorem d_Mo_tell_141 : decode c_Mo_tell 141 = .ok (.putfield 90, 3) := by decide +kernel
theorem d_Mo_tell_144 : decode c_Mo_tell 144 = .ok (.ldc 183, 2) := by decide +kernel
theorem d_Mo_tell_146 : decode c_Mo_tell 146 = .ok (.ireturn, 1) := by decide +kernel
theorem d_Mo_told_0 : decode c_Mo_told 0 = .ok (.aload_n 0, 1) := by decide +kernel
theorem d_Mo_told_1 : decode c_Mo_told 1 = .ok (.getfield 44, 3) := by decide +kernel
theorem d_Mo_told_4 : decode c_Mo_told 4 = .ok (.iconst 5, 1) := by decide +kernel
theorem d_Mo_told_5 : decode c_Mo_told 5 = .ok (.iaload, 1) := by decide +kernel
theorem d_Mo_told_6 : decode c_Mo_told 6 = .ok (.bipush 24, 2) := by decide +kernel
theorem d_Mo_told_8 : decode c_Mo_told 8 = .ok (.ishl, 1) := by decide +kernel
theorem d_Mo_told_9 : decode c_Mo_told 9 = .ok (.aload_n 0, 1) := by decide +kernel
theorem d_Mo_told_10 : decode c_Mo_told 10 = .ok (.getfield 44, 3) := by decide +kernel
theorem d_Mo_told_13 : decode c_Mo_told 13 = .ok (.bipush 6, 2) := by decide +kernel
theorem d_Mo_told_15 : decode c_Mo_told 15 = .ok (.iaload, 1) := by decide +kernel
theorem d_Mo_told_16 : decode c_Mo_told 16 = .ok (.bipush 16, 2) := by decide +kernel
theorem d_Mo_told_18 : decode c_Mo_told 18 = .ok (.ishl, 1) := by decide +kernel
theorem d_Mo_told_19 : decode c_Mo_told 19 = .ok (.ior, 1) := by decide +kernel
theorem d_Mo_told_20 : decode c_Mo_told 20 = .ok (.aload_n 0, 1) := by decide +kernel
theorem d_Mo_told_21 : decode c_Mo_told 21 = .ok (.getfield 44, 3) := by decide +kernel
theorem d_Mo_told_24 : decode c_Mo_told 24 = .ok (.bipush 7, 2) := by decide +kernel
theorem d_Mo_told_26 : decode c_Mo_told 26 = .ok (.iaload, 1) := by decide +kernel
theorem d_Mo_told_27 : decode c_Mo_told 27 = .ok (.bipush 8, 2) := by decide +kernel
theorem d_Mo_told_29 : decode c_Mo_told 29 = .ok (.ishl, 1) := by decide +kernel
theorem d_Mo_told_30 : decode c_Mo_told 30 = .ok (.ior, 1) := by decide +kernel
theorem d_Mo_told_31 : decode c_Mo_told 31 = .ok (.aload_n 0, 1) := by decide +kernel
theorem d_Mo_told_32 : decode c_Mo_told 32 = .ok (.getfield 44, 3) := by decide +kernel
theorem d_Mo_told_35 : decode c_Mo_told 35 = .ok (.bipush 8, 2) := by decide +kernel
theorem d_Mo_told_37 : decode c_Mo_told 37 = .ok (.iaload, 1) := by decide +kernel
theorem d_Mo_told_38 : decode c_Mo_told 38 = .ok (.ior, 1) := by decide +kernel
theorem d_Mo_told_39 : decode c_Mo_told 39 = .ok (.ireturn, 1) := by decide +kernel
theorem d_Mo_renew_0 : decode c_Mo_renew 0 = .ok (.iload_n 1, 1) := by decide +kernel
theorem d_Mo_renew_1 : decode c_Mo_renew 1 = .ok (.ifCond .ne 7, 3) := by decide +kernel
theorem d_Mo_renew_4 : decode c_Mo_renew 4 = .ok (.iload_n 2, 1) := by decide +kernel
theorem d_Mo_renew_5 : decode c_Mo_renew 5 = .ok (.ifCond .eq 7, 3) := by decide +kernel
theorem d_Mo_renew_8 : decode c_Mo_renew 8 = .ok (.sipush 27270, 3) := by decide +kernel
theorem d_Mo_renew_11 : decode c_Mo_renew 11 = .ok (.ireturn, 1) := by decide +kernel
theorem d_Mo_renew_12 : decode c_Mo_renew 12 = .ok (.iload_n 3, 1) := by decide +kernel
theorem d_Mo_renew_13 : decode c_Mo_renew 13 = .ok (.iconst 4, 1) := by decide +kernel
theorem d_Mo_renew_14 : decode c_Mo_renew 14 = .ok (.if_icmp .ne 8, 3) := by decide +kernel
theorem d_Mo_renew_17 : decode c_Mo_renew 17 = .ok (.iload 4, 2) := by decide +kernel
theorem d_Mo_renew_19 : decode c_Mo_renew 19 = .ok (.ifCond .lt 7, 3) := by decide +kernel
theorem d_Mo_renew_22 : decode c_Mo_renew 22 = .ok (.sipush 26368, 3) := by decide +kernel
theorem d_Mo_renew_25 : decode c_Mo_renew 25 = .ok (.ireturn, 1) := by decide +kernel
theorem d_Mo_renew_26 : decode c_Mo_renew 26 = .ok (.aload_n 0, 1) := by decide +kernel
theorem d_Mo_renew_27 : decode c_Mo_renew 27 = .ok (.getfield 90, 3) := by decide +kernel
theorem d_Mo_renew_30 : decode c_Mo_renew 30 = .ok (.ifCond .ne 7, 3) := by decide +kernel
theorem d_Mo_renew_33 : decode c_Mo_renew 33 = .ok (.sipush 27010, 3) := by decide +kernel
theorem d_Mo_renew_36 : decode c_Mo_renew 36 = .ok (.ireturn, 1) := by decide +kernel
theorem d_Mo_renew_37 : decode c_Mo_renew 37 = .ok (.aload_n 0, 1) := by decide +kernel
theorem d_Mo_renew_38 : decode c_Mo_renew 38 = .ok (.invokevirtual 77, 3) := by decide +kernel
theorem d_Mo_renew_41 : decode c_Mo_renew 41 = .ok (.istore 5, 2) := by decide +kernel
theorem d_Mo_renew_43 : decode c_Mo_renew 43 = .ok (.iload 5, 2) := by decide +kernel
theorem d_Mo_renew_45 : decode c_Mo_renew 45 = .ok (.ifCond .eq 11, 3) := by decide +kernel
theorem d_Mo_renew_48 : decode c_Mo_renew 48 = .ok (.aload_n 0, 1) := by decide +kernel
theorem d_Mo_renew_49 : decode c_Mo_renew 49 = .ok (.aload_n 0, 1) := by decide +kernel
theorem d_Mo_renew_50 : decode c_Mo_renew 50 = .ok (.invokevirtual 188, 3) := by decide +kernel
theorem d_Mo_renew_53 : decode c_Mo_renew 53 = .ok (.putfield 191, 3) := by decide +kernel
theorem d_Mo_renew_56 : decode c_Mo_renew 56 = .ok (.ldc 183, 2) := by decide +kernel
theorem d_Mo_renew_58 : decode c_Mo_renew 58 = .ok (.ireturn, 1) := by decide +kernel
theorem d_Mo_next_0 : decode c_Mo_next 0 = .ok (.aload_n 0, 1) := by decide +kernel
theorem d_Mo_next_1 : decode c_Mo_next 1 = .ok (.getfield 126, 3) := by decide +kernel
theorem d_Mo_next_4 : decode c_Mo_next 4 = .ok (.aload_n 0, 1) := by decide +kernel
theorem d_Mo_next_5 : decode c_Mo_next 5 = .ok (.getfield 129, 3) := by decide +kernel
theorem d_Mo_next_8 : decode c_Mo_next 8 = .ok (.isub, 1) := by decide +kernel
theorem d_Mo_next_9 : decode c_Mo_next 9 = .ok (.istore_n 1, 1) := by decide +kernel
theorem d_Mo_next_10 : decode c_Mo_next 10 = .ok (.iload_n 1, 1) := by decide +kernel
theorem d_Mo_next_11 : decode c_Mo_next 11 = .ok (.aload_n 0, 1) := by decide +kernel
theorem d_Mo_next_12 : decode c_Mo_next 12 = .ok (.getfield 99, 3) := by decide +kernel
theorem d_Mo_next_15 : decode c_Mo_next 15 = .ok (.if_icmp .le 8, 3) := by decide +kernel
theorem d_Mo_next_18 : decode c_Mo_next 18 = .ok (.aload_n 0, 1) := by decide +kernel
theorem d_Mo_next_19 : decode c_Mo_next 19 = .ok (.getfield 99, 3) := by decide +kernel
theorem d_Mo_next_22 : decode c_Mo_next 22 = .ok (.istore_n 1, 1) := by decide +kernel
theorem d_Mo_next_23 : decode c_Mo_next 23 = .ok (.iconst 0, 1) := by decide +kernel
theorem d_Mo_next_24 : decode c_Mo_next 24 = .ok (.istore_n 2, 1) := by decide +kernel
theorem d_Mo_next_25 : decode c_Mo_next 25 = .ok (.iload_n 2, 1) := by decide +kernel
theorem d_Mo_next_26 : decode c_Mo_next 26 = .ok (.iload_n 1, 1) := by decide +kernel
theorem d_Mo_next_27 : decode c_Mo_next 27 = .ok (.if_icmp .ge 28, 3) := by decide +kernel
theorem d_Mo_next_30 : decode c_Mo_next 30 = .ok (.aload_n 0, 1) := by decide +kernel
theorem d_Mo_next_31 : decode c_Mo_next 31 = .ok (.getfield 50, 3) := by decide +kernel
theorem d_Mo_next_34 : decode c_Mo_next 34 = .ok (.iconst 3, 1) := by decide +kernel
theorem d_Mo_next_35 : decode c_Mo_next 35 = .ok (.iload_n 2, 1) := by decide +kernel
theorem d_Mo_next_36 : decode c_Mo_next 36 = .ok (.iadd, 1) := by decide +kernel
theorem d_Mo_next_37 : decode c_Mo_next 37 = .ok (.aload_n 0, 1) := by decide +kernel
theorem d_Mo_next_38 : decode c_Mo_next 38 = .ok (.getfield 47, 3) := by decide +kernel
theorem d_Mo_next_41 : decode c_Mo_next 41 = .ok (.aload_n 0, 1) := by decide +kernel
theorem d_Mo_next_42 : decode c_Mo_next 42 = .ok (.getfield 129, 3) := by decide +kernel
theorem d_Mo_next_45 : decode c_Mo_next 45 = .ok (.iload_n 2, 1) := by decide +kernel
theorem d_Mo_next_46 : decode c_Mo_next 46 = .ok (.iadd, 1) := by decide +kernel
theorem d_Mo_next_47 : decode c_Mo_next 47 = .ok (.iaload, 1) := by decide +kernel
theorem d_Mo_next_48 : decode c_Mo_next 48 = .ok (.iastore, 1) := by decide +kernel
theorem d_Mo_next_49 : decode c_Mo_next 49 = .ok (.iinc 2 1, 3) := by decide +kernel
theorem d_Mo_next_52 : decode c_Mo_next 52 = .ok (.goto (-27), 3) := by decide +kernel
theorem d_Mo_next_55 : decode c_Mo_next 55 = .ok (.aload_n 0, 1) := by decide +kernel
theorem d_Mo_next_56 : decode c_Mo_next 56 = .ok (.dup, 1) := by decide +kernel
theorem d_Mo_next_57 : decode c_Mo_next 57 = .ok (.getfield 129, 3) := by decide +kernel
theorem d_Mo_next_60 : decode c_Mo_next 60 = .ok (.iload_n 1, 1) := by decide +kernel
theorem d_Mo_next_61 : decode c_Mo_next 61 = .ok (.iadd, 1) := by decide +kernel
theorem d_Mo_next_62 : decode c_Mo_next 62 = .ok (.putfield 129, 3) := by decide +kernel
theorem d_Mo_next_65 : decode c_Mo_next 65 = .ok (.aload_n 0, 1) := by decide +kernel
theorem d_Mo_next_66 : decode c_Mo_next 66 = .ok (.bipush 64, 2) := by decide +kernel
theorem d_Mo_next_68 : decode c_Mo_next 68 = .ok (.aload_n 0, 1) := by decide +kernel
theorem d_Mo_next_69 : decode c_Mo_next 69 = .ok (.getfield 111, 3) := by decide +kernel
theorem d_Mo_next_72 : decode c_Mo_next 72 = .ok (.imul, 1) := by decide +kernel
theorem d_Mo_next_73 : decode c_Mo_next 73 = .ok (.aload_n 0, 1) := by decide +kernel
theorem d_Mo_next_74 : decode c_Mo_next 74 = .ok (.getfield 129, 3) := by decide +kernel
theorem d_Mo_next_77 : decode c_Mo_next 77 = .ok (.aload_n 0, 1) := by decide +kernel
theorem d_Mo_next_78 : decode c_Mo_next 78 = .ok (.getfield 126, 3) := by decide +kernel
theorem d_Mo_next_81 : decode c_Mo_next 81 = .ok (.if_icmp .ge 8, 3) := by decide +kernel
theorem d_Mo_next_84 : decode c_Mo_next 84 = .ok (.bipush 32, 2) := by decide +kernel
theorem d_Mo_next_86 : decode c_Mo_next 86 = .ok (.goto 4, 3) := by decide +kernel
theorem d_Mo_next_89 : decode c_Mo_next 89 = .ok (.iconst 0, 1) := by decide +kernel
theorem d_Mo_next_90 : decode c_Mo_next 90 = .ok (.iadd, 1) := by decide +kernel
theorem d_Mo_next_91 : decode c_Mo_next 91 = .ok (.iload_n 1, 1) := by decide +kernel
theorem d_Mo_next_92 : decode c_Mo_next 92 = .ok (.invokevirtual 147, 3) := by decide +kernel
theorem d_Mo_next_95 : decode c_Mo_next 95 = .ok (.aload_n 0, 1) := by decide +kernel
theorem d_Mo_next_96 : decode c_Mo_next 96 = .ok (.iconst 1, 1) := by decide +kernel
theorem d_Mo_next_97 : decode c_Mo_next 97 = .ok (.aload_n 0, 1) := by decide +kernel
theorem d_Mo_next_98 : decode c_Mo_next 98 = .ok (.getfield 111, 3) := by decide +kernel
theorem d_Mo_next_101 : decode c_Mo_next 101 = .ok (.isub, 1) := by decide +kernel
theorem d_Mo_next_102 : decode c_Mo_next 102 = .ok (.putfield 111, 3) := by decide +kernel
theorem d_Mo_next_105 : decode c_Mo_next 105 = .ok (.return_, 1) := by decide +kernel
theorem d_Mo_asks_0 : decode c_Mo_asks 0 = .ok (.iload_n 1, 1) := by decide +kernel
theorem d_Mo_asks_1 : decode c_Mo_asks 1 = .ok (.aload_n 0, 1) := by decide +kernel
theorem d_Mo_asks_2 : decode c_Mo_asks 2 = .ok (.getfield 111, 3) := by decide +kernel
theorem d_Mo_asks_5 : decode c_Mo_asks 5 = .ok (.if_icmp .ne 21, 3) := by decide +kernel
theorem d_Mo_asks_8 : decode c_Mo_asks 8 = .ok (.aload_n 0, 1) := by decide +kernel
theorem d_Mo_asks_9 : decode c_Mo_asks 9 = .ok (.getfield 129, 3) := by decide +kernel
theorem d_Mo_asks_12 : decode c_Mo_asks 12 = .ok (.aload_n 0, 1) := by decide +kernel
theorem d_Mo_asks_13 : decode c_Mo_asks 13 = .ok (.getfield 126, 3) := by decide +kernel
theorem d_Mo_asks_16 : decode c_Mo_asks 16 = .ok (.if_icmp .ge 10, 3) := by decide +kernel
theorem d_Mo_asks_19 : decode c_Mo_asks 19 = .ok (.aload_n 0, 1) := by decide +kernel
theorem d_Mo_asks_20 : decode c_Mo_asks 20 = .ok (.invokevirtual 163, 3) := by decide +kernel
theorem d_Mo_asks_23 : decode c_Mo_asks 23 = .ok (.goto 69, 3) := by decide +kernel
theorem d_Mo_asks_26 : decode c_Mo_asks 26 = .ok (.iload_n 1, 1) := by decide +kernel
theorem d_Mo_asks_27 : decode c_Mo_asks 27 = .ok (.aload_n 0, 1) := by decide +kernel
theorem d_Mo_asks_28 : decode c_Mo_asks 28 = .ok (.getfield 111, 3) := by decide +kernel
theorem d_Mo_asks_31 : decode c_Mo_asks 31 = .ok (.if_icmp .eq 56, 3) := by decide +kernel
theorem d_Mo_asks_34 : decode c_Mo_asks 34 = .ok (.aload_n 0, 1) := by decide +kernel
theorem d_Mo_asks_35 : decode c_Mo_asks 35 = .ok (.getfield 114, 3) := by decide +kernel
theorem d_Mo_asks_38 : decode c_Mo_asks 38 = .ok (.ifCond .le 49, 3) := by decide +kernel
theorem d_Mo_asks_41 : decode c_Mo_asks 41 = .ok (.aload_n 0, 1) := by decide +kernel
theorem d_Mo_asks_42 : decode c_Mo_asks 42 = .ok (.getfield 150, 3) := by decide +kernel
theorem d_Mo_asks_45 : decode c_Mo_asks 45 = .ok (.ifCond .eq 42, 3) := by decide +kernel
theorem d_Mo_asks_48 : decode c_Mo_asks 48 = .ok (.iconst 0, 1) := by decide +kernel
theorem d_Mo_asks_49 : decode c_Mo_asks 49 = .ok (.istore_n 2, 1) := by decide +kernel
theorem d_Mo_asks_50 : decode c_Mo_asks 50 = .ok (.iload_n 2, 1) := by decide +kernel
theorem d_Mo_asks_51 : decode c_Mo_asks 51 = .ok (.aload_n 0, 1) := by decide +kernel
theorem d_Mo_asks_52 : decode c_Mo_asks 52 = .ok (.getfield 114, 3) := by decide +kernel
theorem d_Mo_asks_55 : decode c_Mo_asks 55 = .ok (.if_icmp .ge 21, 3) := by decide +kernel
theorem d_Mo_asks_58 : decode c_Mo_asks 58 = .ok (.aload_n 0, 1) := by decide +kernel
theorem d_Mo_asks_59 : decode c_Mo_asks 59 = .ok (.getfield 50, 3) := by decide +kernel
theorem d_Mo_asks_62 : decode c_Mo_asks 62 = .ok (.iload_n 2, 1) := by decide +kernel
theorem d_Mo_asks_63 : decode c_Mo_asks 63 = .ok (.aload_n 0, 1) := by decide +kernel
theorem d_Mo_asks_64 : decode c_Mo_asks 64 = .ok (.getfield 53, 3) := by decide +kernel
theorem d_Mo_asks_67 : decode c_Mo_asks 67 = .ok (.iload_n 2, 1) := by decide +kernel
theorem d_Mo_asks_68 : decode c_Mo_asks 68 = .ok (.iaload, 1) := by decide +kernel
theorem d_Mo_asks_69 : decode c_Mo_asks 69 = .ok (.iastore, 1) := by decide +kernel
theorem d_Mo_asks_70 : decode c_Mo_asks 70 = .ok (.iinc 2 1, 3) := by decide +kernel
theorem d_Mo_asks_73 : decode c_Mo_asks 73 = .ok (.goto (-23), 3) := by decide +kernel
theorem d_Mo_asks_76 : decode c_Mo_asks 76 = .ok (.aload_n 0, 1) := by decide +kernel
theorem d_Mo_asks_77 : decode c_Mo_asks 77 = .ok (.aload_n 0, 1) := by decide +kernel
theorem d_Mo_asks_78 : decode c_Mo_asks 78 = .ok (.getfield 114, 3) := by decide +kernel
theorem d_Mo_asks_81 : decode c_Mo_asks 81 = .ok (.putfield 68, 3) := by decide +kernel
theorem d_Mo_asks_84 : decode c_Mo_asks 84 = .ok (.goto 8, 3) := by decide +kernel
theorem d_Mo_asks_87 : decode c_Mo_asks 87 = .ok (.aload_n 0, 1) := by decide +kernel
theorem d_Mo_asks_88 : decode c_Mo_asks 88 = .ok (.iconst 0, 1) := by decide +kernel
theorem d_Mo_asks_89 : decode c_Mo_asks 89 = .ok (.invokevirtual 132, 3) := by decide +kernel
theorem d_Mo_asks_92 : decode c_Mo_asks 92 = .ok (.return_, 1) := by decide +kernel
theorem d_Mo_block_0 : decode c_Mo_block 0 = .ok (.iload_n 1, 1) := by decide +kernel
theorem d_Mo_block_1 : decode c_Mo_block 1 = .ok (.iconst 0, 1) := by decide +kernel
theorem d_Mo_block_2 : decode c_Mo_block 2 = .ok (.sipush 255, 3) := by decide +kernel
theorem d_Mo_block_5 : decode c_Mo_block 5 = .ok (.invokestatic 56, 3) := by decide +kernel
theorem d_Mo_block_8 : decode c_Mo_block 8 = .ok (.ifCond .eq 14, 3) := by decide +kernel
theorem d_Mo_block_11 : decode c_Mo_block 11 = .ok (.iload 4, 2) := by decide +kernel
theorem d_Mo_block_13 : decode c_Mo_block 13 = .ok (.iconst 0, 1) := by decide +kernel
theorem d_Mo_block_14 : decode c_Mo_block 14 = .ok (.bipush 8, 2) := by decide +kernel
theorem d_Mo_block_16 : decode c_Mo_block 16 = .ok (.invokestatic 56, 3) := by decide +kernel
theorem d_Mo_block_19 : decode c_Mo_block 19 = .ok (.ifCond .ne 5, 3) := by decide +kernel
theorem d_Mo_block_22 : decode c_Mo_block 22 = .ok (.iconst (-1), 1) := by decide +kernel
theorem d_Mo_block_23 : decode c_Mo_block 23 = .ok (.ireturn, 1) := by decide +kernel
theorem d_Mo_block_24 : decode c_Mo_block 24 = .ok (.aload_n 0, 1) := by decide +kernel
theorem d_Mo_block_25 : decode c_Mo_block 25 = .ok (.getfield 61, 3) := by decide +kernel
theorem d_Mo_block_28 : decode c_Mo_block 28 = .ok (.ifCond .ne 6, 3) := by decide +kernel
theorem d_Mo_block_31 : decode c_Mo_block 31 = .ok (.bipush (-3), 2) := by decide +kernel
theorem d_Mo_block_33 : decode c_Mo_block 33 = .ok (.ireturn, 1) := by decide +kernel
theorem d_Mo_block_34 : decode c_Mo_block 34 = .ok (.aload_n 0, 1) := by decide +kernel
theorem d_Mo_block_35 : decode c_Mo_block 35 = .ok (.iconst 0, 1) := by decide +kernel
theorem d_Mo_block_36 : decode c_Mo_block 36 = .ok (.putfield 102, 3) := by decide +kernel
theorem d_Mo_block_39 : decode c_Mo_block 39 = .ok (.iload_n 1, 1) := by decide +kernel
theorem d_Mo_block_40 : decode c_Mo_block 40 = .ok (.iload 4, 2) := by decide +kernel
theorem d_Mo_block_42 : decode c_Mo_block 42 = .ok (.ixor, 1) := by decide +kernel
theorem d_Mo_block_43 : decode c_Mo_block 43 = .ok (.istore 5, 2) := by decide +kernel
theorem d_Mo_block_45 : decode c_Mo_block 45 = .ok (.aload_n 0, 1) := by decide +kernel
theorem d_Mo_block_46 : decode c_Mo_block 46 = .ok (.iconst 0, 1) := by decide +kernel
theorem d_Mo_block_47 : decode c_Mo_block 47 = .ok (.invokevirtual 196, 3) := by decide +kernel
theorem d_Mo_block_50 : decode c_Mo_block 50 = .ok (.aload_n 0, 1) := by decide +kernel
theorem d_Mo_block_51 : decode c_Mo_block 51 = .ok (.iload_n 1, 1) := by decide +kernel
theorem d_Mo_block_52 : decode c_Mo_block 52 = .ok (.invokevirtual 196, 3) := by decide +kernel
theorem d_Mo_block_55 : decode c_Mo_block 55 = .ok (.aload_n 0, 1) := by decide +kernel
theorem d_Mo_block_56 : decode c_Mo_block 56 = .ok (.iload 4, 2) := by decide +kernel
theorem d_Mo_block_58 : decode c_Mo_block 58 = .ok (.invokevirtual 196, 3) := by decide +kernel
theorem d_Mo_block_61 : decode c_Mo_block 61 = .ok (.iconst 0, 1) := by decide +kernel
theorem d_Mo_block_62 : decode c_Mo_block 62 = .ok (.istore 6, 2) := by decide +kernel
theorem d_Mo_block_64 : decode c_Mo_block 64 = .ok (.iload 6, 2) := by decide +kernel
theorem d_Mo_block_66 : decode c_Mo_block 66 = .ok (.iload 4, 2) := by decide +kernel
theorem d_Mo_block_68 : decode c_Mo_block 68 = .ok (.if_icmp .ge 36, 3) := by decide +kernel
theorem d_Mo_block_71 : decode c_Mo_block 71 = .ok (.lload_n 2, 1) := by decide +kernel
theorem d_Mo_block_72 : decode c_Mo_block 72 = .ok (.bipush 8, 2) := by decide +kernel
theorem d_Mo_block_74 : decode c_Mo_block 74 = .ok (.iload 6, 2) := by decide +kernel
theorem d_Mo_block_76 : decode c_Mo_block 76 = .ok (.imul, 1) := by decide +kernel
theorem d_Mo_block_77 : decode c_Mo_block 77 = .ok (.lushr, 1) := by decide +kernel
theorem d_Mo_block_78 : decode c_Mo_block 78 = .ok (.ldc2_w 194, 3) := by decide +kernel
theorem d_Mo_block_81 : decode c_Mo_block 81 = .ok (.land, 1) := by decide +kernel
theorem d_Mo_block_82 : decode c_Mo_block 82 = .ok (.l2i, 1) := by decide +kernel
theorem d_Mo_block_83 : decode c_Mo_block 83 = .ok (.istore 7, 2) := by decide +kernel
theorem d_Mo_block_85 : decode c_Mo_block 85 = .ok (.iload 5, 2) := by decide +kernel
theorem d_Mo_block_87 : decode c_Mo_block 87 = .ok (.iload 7, 2) := by decide +kernel
theorem d_Mo_block_89 : decode c_Mo_block 89 = .ok (.ixor, 1) := by decide +kernel
theorem d_Mo_block_90 : decode c_Mo_block 90 = .ok (.istore 5, 2) := by decide +kernel
theorem d_Mo_block_92 : decode c_Mo_block 92 = .ok (.aload_n 0, 1) := by decide +kernel
theorem d_Mo_block_93 : decode c_Mo_block 93 = .ok (.iload 7, 2) := by decide +kernel
theorem d_Mo_block_95 : decode c_Mo_block 95 = .ok (.invokevirtual 196, 3) := by decide +kernel
theorem d_Mo_block_98 : decode c_Mo_block 98 = .ok (.iinc 6 1, 3) := by decide +kernel
theorem d_Mo_block_101 : decode c_Mo_block 101 = .ok (.goto (-37), 3) := by decide +kernel
theorem d_Mo_block_104 : decode c_Mo_block 104 = .ok (.aload_n 0, 1) := by decide +kernel
theorem d_Mo_block_105 : decode c_Mo_block 105 = .ok (.iload 5, 2) := by decide +kernel
theorem d_Mo_block_107 : decode c_Mo_block 107 = .ok (.invokevirtual 196, 3) := by decide +kernel
theorem d_Mo_block_110 : decode c_Mo_block 110 = .ok (.aload_n 0, 1) := by decide +kernel
theorem d_Mo_block_111 : decode c_Mo_block 111 = .ok (.getfield 61, 3) := by decide +kernel
theorem d_Mo_block_114 : decode c_Mo_block 114 = .ok (.ifCond .eq 10, 3) := by decide +kernel
theorem d_Mo_block_117 : decode c_Mo_block 117 = .ok (.aload_n 0, 1) := by decide +kernel
theorem d_Mo_block_118 : decode c_Mo_block 118 = .ok (.getfield 68, 3) := by decide +kernel
theorem d_Mo_block_121 : decode c_Mo_block 121 = .ok (.goto 4, 3) := by decide +kernel
theorem d_Mo_block_124 : decode c_Mo_block 124 = .ok (.iconst 0, 1) := by decide +kernel
theorem d_Mo_block_125 : decode c_Mo_block 125 = .ok (.ireturn, 1) := by decide +kernel
theorem d_Mo_reply_0 : decode c_Mo_reply 0 = .ok (.iload_n 1, 1) := by decide +kernel
theorem d_Mo_reply_1 : decode c_Mo_reply 1 = .ok (.iconst 0, 1) := by decide +kernel
theorem d_Mo_reply_2 : decode c_Mo_reply 2 = .ok (.aload_n 0, 1) := by decide +kernel
theorem d_Mo_reply_3 : decode c_Mo_reply 3 = .ok (.getfield 68, 3) := by decide +kernel
theorem d_Mo_reply_6 : decode c_Mo_reply 6 = .ok (.iconst 1, 1) := by decide +kernel
theorem d_Mo_reply_7 : decode c_Mo_reply 7 = .ok (.isub, 1) := by decide +kernel
theorem d_Mo_reply_8 : decode c_Mo_reply 8 = .ok (.invokestatic 56, 3) := by decide +kernel
theorem d_Mo_reply_11 : decode c_Mo_reply 11 = .ok (.ifCond .eq 12, 3) := by decide +kernel
theorem d_Mo_reply_14 : decode c_Mo_reply 14 = .ok (.aload_n 0, 1) := by decide +kernel
theorem d_Mo_reply_15 : decode c_Mo_reply 15 = .ok (.getfield 50, 3) := by decide +kernel
theorem d_Mo_reply_18 : decode c_Mo_reply 18 = .ok (.iload_n 1, 1) := by decide +kernel
theorem d_Mo_reply_19 : decode c_Mo_reply 19 = .ok (.iaload, 1) := by decide +kernel
theorem d_Mo_reply_20 : decode c_Mo_reply 20 = .ok (.goto 4, 3) := by decide +kernel
theorem d_Mo_reply_23 : decode c_Mo_reply 23 = .ok (.iconst (-1), 1) := by decide +kernel
theorem d_Mo_reply_24 : decode c_Mo_reply 24 = .ok (.ireturn, 1) := by decide +kernel
theorem d_Mo_stored_0 : decode c_Mo_stored 0 = .ok (.iload_n 1, 1) := by decide +kernel
theorem d_Mo_stored_1 : decode c_Mo_stored 1 = .ok (.iconst 0, 1) := by decide +kernel
theorem d_Mo_stored_2 : decode c_Mo_stored 2 = .ok (.aload_n 0, 1) := by decide +kernel
theorem d_Mo_stored_3 : decode c_Mo_stored 3 = .ok (.getfield 28, 3) := by decide +kernel
theorem d_Mo_stored_6 : decode c_Mo_stored 6 = .ok (.iconst 1, 1) := by decide +kernel
theorem d_Mo_stored_7 : decode c_Mo_stored 7 = .ok (.isub, 1) := by decide +kernel
theorem d_Mo_stored_8 : decode c_Mo_stored 8 = .ok (.invokestatic 56, 3) := by decide +kernel
theorem d_Mo_stored_11 : decode c_Mo_stored 11 = .ok (.ifCond .eq 33, 3) := by decide +kernel
theorem d_Mo_stored_14 : decode c_Mo_stored 14 = .ok (.iload_n 2, 1) := by decide +kernel
theorem d_Mo_stored_15 : decode c_Mo_stored 15 = .ok (.iconst 0, 1) := by decide +kernel
theorem d_Mo_stored_16 : decode c_Mo_stored 16 = .ok (.aload_n 0, 1) := by decide +kernel
theorem d_Mo_stored_17 : decode c_Mo_stored 17 = .ok (.getfield 16, 3) := by decide +kernel
theorem d_Mo_stored_20 : decode c_Mo_stored 20 = .ok (.iload_n 1, 1) := by decide +kernel
theorem d_Mo_stored_21 : decode c_Mo_stored 21 = .ok (.iaload, 1) := by decide +kernel
theorem d_Mo_stored_22 : decode c_Mo_stored 22 = .ok (.iconst 1, 1) := by decide +kernel
theorem d_Mo_stored_23 : decode c_Mo_stored 23 = .ok (.isub, 1) := by decide +kernel
theorem d_Mo_stored_24 : decode c_Mo_stored 24 = .ok (.invokestatic 56, 3) := by decide +kernel
theorem d_Mo_stored_27 : decode c_Mo_stored 27 = .ok (.ifCond .eq 17, 3) := by decide +kernel
theorem d_Mo_stored_30 : decode c_Mo_stored 30 = .ok (.aload_n 0, 1) := by decide +kernel
theorem d_Mo_stored_31 : decode c_Mo_stored 31 = .ok (.getfield 25, 3) := by decide +kernel
end
section
theorem d_Mo_stored_34 : decode c_Mo_stored 34 = .ok (.bipush 24, 2) := by decide +kernel
theorem d_Mo_stored_36 : decode c_Mo_stored 36 = .ok (.iload_n 1, 1) := by decide +kernel
theorem d_Mo_stored_37 : decode c_Mo_stored 37 = .ok (.imul, 1) := by decide +kernel
theorem d_Mo_stored_38 : decode c_Mo_stored 38 = .ok (.iload_n 2, 1) := by decide +kernel
theorem d_Mo_stored_39 : decode c_Mo_stored 39 = .ok (.iadd, 1) := by decide +kernel
theorem d_Mo_stored_40 : decode c_Mo_stored 40 = .ok (.iaload, 1) := by decide +kernel
theorem d_Mo_stored_41 : decode c_Mo_stored 41 = .ok (.goto 4, 3) := by decide +kernel
theorem d_Mo_stored_44 : decode c_Mo_stored 44 = .ok (.iconst (-1), 1) := by decide +kernel
theorem d_Mo_stored_45 : decode c_Mo_stored 45 = .ok (.ireturn, 1) := by decide +kernel
theorem d_Mo_state_0 : decode c_Mo_state 0 = .ok (.iload_n 1, 1) := by decide +kernel
theorem d_Mo_state_1 : decode c_Mo_state 1 = .ok (.iconst 0, 1) := by decide +kernel
theorem d_Mo_state_2 : decode c_Mo_state 2 = .ok (.bipush 15, 2) := by decide +kernel
theorem d_Mo_state_4 : decode c_Mo_state 4 = .ok (.invokestatic 56, 3) := by decide +kernel
theorem d_Mo_state_7 : decode c_Mo_state 7 = .ok (.ifCond .ne 5, 3) := by decide +kernel
theorem d_Mo_state_10 : decode c_Mo_state 10 = .ok (.iconst (-1), 1) := by decide +kernel
theorem d_Mo_state_11 : decode c_Mo_state 11 = .ok (.ireturn, 1) := by decide +kernel
theorem d_Mo_state_12 : decode c_Mo_state 12 = .ok (.iload_n 1, 1) := by decide +kernel
theorem d_Mo_state_13 : decode c_Mo_state 13 = .ok (.bipush 7, 2) := by decide +kernel
theorem d_Mo_state_15 : decode c_Mo_state 15 = .ok (.if_icmp .le 12, 3) := by decide +kernel
theorem d_Mo_state_18 : decode c_Mo_state 18 = .ok (.aload_n 0, 1) := by decide +kernel
theorem d_Mo_state_19 : decode c_Mo_state 19 = .ok (.getfield 61, 3) := by decide +kernel
theorem d_Mo_state_22 : decode c_Mo_state 22 = .ok (.ifCond .ne 5, 3) := by decide +kernel
theorem d_Mo_state_25 : decode c_Mo_state 25 = .ok (.iconst (-1), 1) := by decide +kernel
theorem d_Mo_state_26 : decode c_Mo_state 26 = .ok (.ireturn, 1) := by decide +kernel
theorem d_Mo_state_27 : decode c_Mo_state 27 = .ok (.iload_n 1, 1) := by decide +kernel
theorem d_Mo_state_28 : decode c_Mo_state 28 = .ok (.tableswitch 175 0 14 #[76, 89, 94, 99, 104, 117, 122, 127, 132, 145, 150, 155, 160, 165, 170], 76) := by decide +kernel
theorem d_Mo_state_104 : decode c_Mo_state 104 = .ok (.aload_n 0, 1) := by decide +kernel
theorem d_Mo_state_105 : decode c_Mo_state 105 = .ok (.getfield 61, 3) := by decide +kernel
theorem d_Mo_state_108 : decode c_Mo_state 108 = .ok (.ifCond .eq 7, 3) := by decide +kernel
theorem d_Mo_state_111 : decode c_Mo_state 111 = .ok (.iconst 1, 1) := by decide +kernel
theorem d_Mo_state_112 : decode c_Mo_state 112 = .ok (.goto 4, 3) := by decide +kernel
theorem d_Mo_state_115 : decode c_Mo_state 115 = .ok (.iconst 0, 1) := by decide +kernel
theorem d_Mo_state_116 : decode c_Mo_state 116 = .ok (.ireturn, 1) := by decide +kernel
theorem d_Mo_state_117 : decode c_Mo_state 117 = .ok (.aload_n 0, 1) := by decide +kernel
theorem d_Mo_state_118 : decode c_Mo_state 118 = .ok (.getfield 28, 3) := by decide +kernel
theorem d_Mo_state_121 : decode c_Mo_state 121 = .ok (.ireturn, 1) := by decide +kernel
theorem d_Mo_state_122 : decode c_Mo_state 122 = .ok (.aload_n 0, 1) := by decide +kernel
theorem d_Mo_state_123 : decode c_Mo_state 123 = .ok (.getfield 32, 3) := by decide +kernel
theorem d_Mo_state_126 : decode c_Mo_state 126 = .ok (.ireturn, 1) := by decide +kernel
theorem d_Mo_state_127 : decode c_Mo_state 127 = .ok (.aload_n 0, 1) := by decide +kernel
theorem d_Mo_state_128 : decode c_Mo_state 128 = .ok (.getfield 191, 3) := by decide +kernel
theorem d_Mo_state_131 : decode c_Mo_state 131 = .ok (.ireturn, 1) := by decide +kernel
theorem d_Mo_state_132 : decode c_Mo_state 132 = .ok (.aload_n 0, 1) := by decide +kernel
theorem d_Mo_state_133 : decode c_Mo_state 133 = .ok (.getfield 74, 3) := by decide +kernel
theorem d_Mo_state_136 : decode c_Mo_state 136 = .ok (.ifCond .le 7, 3) := by decide +kernel
theorem d_Mo_state_139 : decode c_Mo_state 139 = .ok (.iconst 1, 1) := by decide +kernel
theorem d_Mo_state_140 : decode c_Mo_state 140 = .ok (.goto 4, 3) := by decide +kernel
theorem d_Mo_state_143 : decode c_Mo_state 143 = .ok (.iconst 0, 1) := by decide +kernel
theorem d_Mo_state_144 : decode c_Mo_state 144 = .ok (.ireturn, 1) := by decide +kernel
theorem d_Mo_state_145 : decode c_Mo_state 145 = .ok (.aload_n 0, 1) := by decide +kernel
theorem d_Mo_state_146 : decode c_Mo_state 146 = .ok (.getfield 71, 3) := by decide +kernel
theorem d_Mo_state_149 : decode c_Mo_state 149 = .ok (.ireturn, 1) := by decide +kernel
theorem d_Mo_state_150 : decode c_Mo_state 150 = .ok (.aload_n 0, 1) := by decide +kernel
theorem d_Mo_state_151 : decode c_Mo_state 151 = .ok (.getfield 65, 3) := by decide +kernel
theorem d_Mo_state_154 : decode c_Mo_state 154 = .ok (.ireturn, 1) := by decide +kernel
theorem d_Mo_state_155 : decode c_Mo_state 155 = .ok (.aload_n 0, 1) := by decide +kernel
theorem d_Mo_state_156 : decode c_Mo_state 156 = .ok (.getfield 160, 3) := by decide +kernel
theorem d_Mo_state_159 : decode c_Mo_state 159 = .ok (.ireturn, 1) := by decide +kernel
theorem d_Mo_state_160 : decode c_Mo_state 160 = .ok (.aload_n 0, 1) := by decide +kernel
theorem d_Mo_state_161 : decode c_Mo_state 161 = .ok (.getfield 90, 3) := by decide +kernel
theorem d_Mo_state_164 : decode c_Mo_state 164 = .ok (.ifCond .eq 7, 3) := by decide +kernel
theorem d_Mo_state_167 : decode c_Mo_state 167 = .ok (.iconst 1, 1) := by decide +kernel
theorem d_Mo_state_168 : decode c_Mo_state 168 = .ok (.goto 4, 3) := by decide +kernel
theorem d_Mo_state_171 : decode c_Mo_state 171 = .ok (.iconst 0, 1) := by decide +kernel
theorem d_Mo_state_172 : decode c_Mo_state 172 = .ok (.ireturn, 1) := by decide +kernel
theorem d_Mo_state_173 : decode c_Mo_state 173 = .ok (.aload_n 0, 1) := by decide +kernel
theorem d_Mo_state_174 : decode c_Mo_state 174 = .ok (.getfield 93, 3) := by decide +kernel
theorem d_Mo_state_177 : decode c_Mo_state 177 = .ok (.ireturn, 1) := by decide +kernel
theorem d_Mo_state_178 : decode c_Mo_state 178 = .ok (.aload_n 0, 1) := by decide +kernel
theorem d_Mo_state_179 : decode c_Mo_state 179 = .ok (.getfield 96, 3) := by decide +kernel
theorem d_Mo_state_182 : decode c_Mo_state 182 = .ok (.ireturn, 1) := by decide +kernel
theorem d_Mo_state_183 : decode c_Mo_state 183 = .ok (.aload_n 0, 1) := by decide +kernel
theorem d_Mo_state_184 : decode c_Mo_state 184 = .ok (.getfield 108, 3) := by decide +kernel
theorem d_Mo_state_187 : decode c_Mo_state 187 = .ok (.ireturn, 1) := by decide +kernel
theorem d_Mo_state_188 : decode c_Mo_state 188 = .ok (.aload_n 0, 1) := by decide +kernel
theorem d_Mo_state_189 : decode c_Mo_state 189 = .ok (.getfield 111, 3) := by decide +kernel
theorem d_Mo_state_192 : decode c_Mo_state 192 = .ok (.ireturn, 1) := by decide +kernel
theorem d_Mo_state_193 : decode c_Mo_state 193 = .ok (.aload_n 0, 1) := by decide +kernel
theorem d_Mo_state_194 : decode c_Mo_state 194 = .ok (.getfield 99, 3) := by decide +kernel
theorem d_Mo_state_197 : decode c_Mo_state 197 = .ok (.ireturn, 1) := by decide +kernel
theorem d_Mo_state_198 : decode c_Mo_state 198 = .ok (.aload_n 0, 1) := by decide +kernel
theorem d_Mo_state_199 : decode c_Mo_state 199 = .ok (.getfield 120, 3) := by decide +kernel
theorem d_Mo_state_202 : decode c_Mo_state 202 = .ok (.ireturn, 1) := by decide +kernel
theorem d_Mo_state_203 : decode c_Mo_state 203 = .ok (.aload_n 0, 1) := by decide +kernel
theorem d_Mo_state_204 : decode c_Mo_state 204 = .ok (.getfield 126, 3) := by decide +kernel
theorem d_Mo_state_207 : decode c_Mo_state 207 = .ok (.aload_n 0, 1) := by decide +kernel
theorem d_Mo_state_208 : decode c_Mo_state 208 = .ok (.getfield 129, 3) := by decide +kernel
theorem d_Mo_state_211 : decode c_Mo_state 211 = .ok (.isub, 1) := by decide +kernel
theorem d_Mo_state_212 : decode c_Mo_state 212 = .ok (.ireturn, 1) := by decide +kernel
theorem d_Mo_look_0 : decode c_Mo_look 0 = .ok (.iload_n 1, 1) := by decide +kernel
theorem d_Mo_look_1 : decode c_Mo_look 1 = .ok (.iconst 0, 1) := by decide +kernel
theorem d_Mo_look_2 : decode c_Mo_look 2 = .ok (.aload_n 0, 1) := by decide +kernel
theorem d_Mo_look_3 : decode c_Mo_look 3 = .ok (.getfield 28, 3) := by decide +kernel
theorem d_Mo_look_6 : decode c_Mo_look 6 = .ok (.iconst 1, 1) := by decide +kernel
theorem d_Mo_look_7 : decode c_Mo_look 7 = .ok (.isub, 1) := by decide +kernel
theorem d_Mo_look_8 : decode c_Mo_look 8 = .ok (.invokestatic 56, 3) := by decide +kernel
theorem d_Mo_look_11 : decode c_Mo_look 11 = .ok (.ifCond .ne 5, 3) := by decide +kernel
theorem d_Mo_look_14 : decode c_Mo_look 14 = .ok (.iconst (-1), 1) := by decide +kernel
theorem d_Mo_look_15 : decode c_Mo_look 15 = .ok (.ireturn, 1) := by decide +kernel
theorem d_Mo_look_16 : decode c_Mo_look 16 = .ok (.iload_n 2, 1) := by decide +kernel
theorem d_Mo_look_17 : decode c_Mo_look 17 = .ok (.tableswitch 70 0 4 #[35, 42, 49, 56, 63], 35) := by decide +kernel
theorem d_Mo_look_52 : decode c_Mo_look 52 = .ok (.aload_n 0, 1) := by decide +kernel
theorem d_Mo_look_53 : decode c_Mo_look 53 = .ok (.getfield 7, 3) := by decide +kernel
theorem d_Mo_look_56 : decode c_Mo_look 56 = .ok (.iload_n 1, 1) := by decide +kernel
theorem d_Mo_look_57 : decode c_Mo_look 57 = .ok (.iaload, 1) := by decide +kernel
theorem d_Mo_look_58 : decode c_Mo_look 58 = .ok (.ireturn, 1) := by decide +kernel
theorem d_Mo_look_59 : decode c_Mo_look 59 = .ok (.aload_n 0, 1) := by decide +kernel
theorem d_Mo_look_60 : decode c_Mo_look 60 = .ok (.getfield 13, 3) := by decide +kernel
theorem d_Mo_look_63 : decode c_Mo_look 63 = .ok (.iload_n 1, 1) := by decide +kernel
theorem d_Mo_look_64 : decode c_Mo_look 64 = .ok (.iaload, 1) := by decide +kernel
theorem d_Mo_look_65 : decode c_Mo_look 65 = .ok (.ireturn, 1) := by decide +kernel
theorem d_Mo_look_66 : decode c_Mo_look 66 = .ok (.aload_n 0, 1) := by decide +kernel
theorem d_Mo_look_67 : decode c_Mo_look 67 = .ok (.getfield 16, 3) := by decide +kernel
theorem d_Mo_look_70 : decode c_Mo_look 70 = .ok (.iload_n 1, 1) := by decide +kernel
theorem d_Mo_look_71 : decode c_Mo_look 71 = .ok (.iaload, 1) := by decide +kernel
theorem d_Mo_look_72 : decode c_Mo_look 72 = .ok (.ireturn, 1) := by decide +kernel
theorem d_Mo_look_73 : decode c_Mo_look 73 = .ok (.aload_n 0, 1) := by decide +kernel
theorem d_Mo_look_74 : decode c_Mo_look 74 = .ok (.getfield 19, 3) := by decide +kernel
theorem d_Mo_look_77 : decode c_Mo_look 77 = .ok (.iload_n 1, 1) := by decide +kernel
theorem d_Mo_look_78 : decode c_Mo_look 78 = .ok (.iaload, 1) := by decide +kernel
theorem d_Mo_look_79 : decode c_Mo_look 79 = .ok (.ireturn, 1) := by decide +kernel
theorem d_Mo_look_80 : decode c_Mo_look 80 = .ok (.aload_n 0, 1) := by decide +kernel
theorem d_Mo_look_81 : decode c_Mo_look 81 = .ok (.getfield 22, 3) := by decide +kernel
theorem d_Mo_look_84 : decode c_Mo_look 84 = .ok (.iload_n 1, 1) := by decide +kernel
theorem d_Mo_look_85 : decode c_Mo_look 85 = .ok (.iaload, 1) := by decide +kernel
theorem d_Mo_look_86 : decode c_Mo_look 86 = .ok (.ireturn, 1) := by decide +kernel
theorem d_Mo_look_87 : decode c_Mo_look 87 = .ok (.iconst (-1), 1) := by decide +kernel
theorem d_Mo_look_88 : decode c_Mo_look 88 = .ok (.ireturn, 1) := by decide +kernel
end
section
/-! numbers, truth values, what is read behind writings -/
theorem vi_lt {x m : Int32} (h0 : 0 ≤ x) (h : x < m) : vp_in x m.toInt.toNat := by
  rw [vp_in_iff]
  rw [Int32.le_iff_toInt_le] at h0
  rw [Int32.lt_iff_toInt_lt] at h
  have : (0 : Int32).toInt = 0 := rfl
  omega
theorem rzT {α : Type} {c : Prop} {_ : Decidable c} {a b : α} (Q : α → Prop) (h : c) (hp : Q (ite c a b)) : Q a := by rw [if_pos h] at hp; exact hp
theorem rzF {α : Type} {c : Prop} {_ : Decidable c} {a b : α} (Q : α → Prop) (h : ¬ c) (hp : Q (ite c a b)) : Q b := by rw [if_neg h] at hp; exact hp
def b2 (p : Prop) [Decidable p] : Int32 := if p then 1 else 0
theorem b2_pos {p : Prop} {_ : Decidable p} (h : p) : b2 p = 1 := if_pos h
theorem b2_neg {p : Prop} {_ : Decidable p} (h : ¬ p) : b2 p = 0 := if_neg h
theorem b2_ne {p : Prop} {_ : Decidable p} (h : ¬ b2 p = 0) : p := by
  by_cases hp : p
  · exact hp
  · exact absurd (b2_neg hp) h
theorem b2_eq {p : Prop} {_ : Decidable p} (h : b2 p = 0) : ¬ p := by
  intro hp
  rw [b2_pos hp] at h
  exact absurd h (by decide)
theorem b2_01 (p : Prop) {_ : Decidable p} : b2 p = 0 ∨ b2 p = 1 := by
  by_cases hp : p
  · exact Or.inr (b2_pos hp)
  · exact Or.inl (b2_neg hp)
theorem pT {p : Prop} {_ : Decidable p} {P : rz_P} {μ : rz_M} (hC : P (some (.int (b2 p))) μ) (hp : p) : ((1 : Int32) = 0 ∨ (1 : Int32) = 1) ∧ P (some (.int 1)) μ := ⟨Or.inr rfl, by rw [b2_pos hp] at hC; exact hC⟩
theorem pF {p : Prop} {_ : Decidable p} {P : rz_P} {μ : rz_M} (hC : P (some (.int (b2 p))) μ) (hp : ¬ p) : ((0 : Int32) = 0 ∨ (0 : Int32) = 1) ∧ P (some (.int 0)) μ := ⟨Or.inl rfl, by rw [b2_neg hp] at hC; exact hC⟩
theorem rz_up_at {μ : rz_M} {k j : Nat} {x : Int32} : rz_up μ k j x k j = x := by simp [rz_up, rz_uf, upd]
theorem rz_up_k {μ : rz_M} {k j k' : Nat} {x : Int32} (h : k' ≠ k) : rz_up μ k j x k' = μ k' := by simp [rz_up, rz_uf, h]
theorem rz_up_j {μ : rz_M} {k j j' : Nat} {x : Int32} (h : j' ≠ j) : rz_up μ k j x k j' = μ k j' := by simp [rz_up, rz_uf, upd, h]
theorem rz_up_same {μ : rz_M} {k j : Nat} {x y : Int32} : rz_up (rz_up μ k j x) k j y = rz_up μ k j y := by
  funext k' j'
  by_cases hk : k' = k
  · subst hk
    by_cases hj : j' = j <;> simp [rz_up, rz_uf, upd, hj]
  · simp [rz_up, rz_uf, hk]
theorem rz_up_comm {μ : rz_M} {k j k2 j2 : Nat} {x y : Int32} (h : k ≠ k2 ∨ j ≠ j2) : rz_up (rz_up μ k j x) k2 j2 y = rz_up (rz_up μ k2 j2 y) k j x := by
  funext k' j'
  by_cases hk : k' = k
  · subst hk
    by_cases hk2 : k' = k2
    · subst hk2
      have hj : j ≠ j2 := h.resolve_left (fun q => q rfl)
      by_cases e1 : j' = j
      · subst e1; simp [rz_up, rz_uf, upd, hj]
      · simp [rz_up, rz_uf, upd, e1]
    · simp [rz_up, rz_uf, hk2]
  · by_cases hk2 : k' = k2
    · subst hk2
      have : ¬ k = k' := fun q => hk q.symm
      simp [rz_up, rz_uf, hk]
    · simp [rz_up, rz_uf, hk, hk2]
theorem rz_up_id {μ : rz_M} {k j : Nat} {x : Int32} (h : μ k j = x) : rz_up μ k j x = μ := by
  funext k' j'
  by_cases hk : k' = k
  · subst hk
    by_cases hj : j' = j
    · subst hj; simp [rz_up, rz_uf, upd, h]
    · simp [rz_up, rz_uf, upd, hj]
  · simp [rz_up, rz_uf, hk]
theorem vi_c {x : Int32} {n : Nat} (h : ¬ (x < 0 ∨ n ≤ x.toNatClampNeg)) : vp_in x n := h
theorem i_add {a b : Int32} (h1 : -2147483648 ≤ a.toInt + b.toInt) (h2 : a.toInt + b.toInt < 2147483648) : (a + b).toInt = a.toInt + b.toInt := by
  rw [Int32.toInt_add, Int.bmod_def]; split <;> omega
theorem i_sub {a b : Int32} (h1 : -2147483648 ≤ a.toInt - b.toInt) (h2 : a.toInt - b.toInt < 2147483648) : (a - b).toInt = a.toInt - b.toInt := by
  rw [Int32.toInt_sub, Int.bmod_def]; split <;> omega
theorem i_mul {a b : Int32} (h1 : -2147483648 ≤ a.toInt * b.toInt) (h2 : a.toInt * b.toInt < 2147483648) : (a * b).toInt = a.toInt * b.toInt := by
  rw [Int32.toInt_mul, Int.bmod_def]; split <;> omega
theorem i_clamp {a : Int32} (h : 0 ≤ a.toInt) : (a.toNatClampNeg : Int) = a.toInt := by
  unfold Int32.toNatClampNeg; omega
theorem i_le {a b : Int32} : a ≤ b ↔ a.toInt ≤ b.toInt := Int32.le_iff_toInt_le
theorem i_lt {a b : Int32} : a < b ↔ a.toInt < b.toInt := Int32.lt_iff_toInt_lt
theorem i_eq {a b : Int32} : a = b ↔ a.toInt = b.toInt := Int32.toInt_inj.symm
def xs (f : Nat → Int32) : Nat → Int32
  | 0 => 0
  | n + 1 => xs f n ^^^ f n
def PQ (P : rz_P) (z : Int32 × rz_M) : Prop := P (some (.int z.1)) z.2
theorem rzN {α : Type} {c : Prop} {_ : Decidable c} {a b : α} (Q : α → Prop) (h : c) (hp : Q (ite (¬ c) a b)) : Q b := by rw [if_neg (fun q => q h)] at hp; exact hp
theorem nc {n : Nat} {x : Int32} (h : x = nI n) (hn : n < 2147483648) : x.toNatClampNeg = n := by rw [h]; exact nI_clamp hn
/-- all are OCTETS -/
def OCT (f : Nat → Int32) : Prop := ∀ j, ∃ o : Nat, o ≤ 255 ∧ f j = nI o
end
section
def C_An_clear : rz_C := fun As μ P => As = [.ref 17] ∧ P none (rz_up (rz_up μ 17 1 0) 17 2 0)
def bk_An_clear : Nat → List rz_T := fun b => match b with
  | 0 => [tz_aload 0, tz_iconst 0, tz_put SH 0 1, tz_aload 0, tz_iconst 0, tz_put SH 0 2, tz_vret]
  | _ => []
def bp_An_clear : Nat → Nat := fun b => match b with
  | 0 => 0
  | _ => 0
set_option maxRecDepth 100000 in
set_option maxHeartbeats 4000000 in
theorem sd_An_clear (X : rz_X) (G : rz_Cx CL X c_An_clear 1 rz_tbl R_An ({ frames := 0, cells := 0, slots := 0, locals := 0 })) : ∀ b, rz_SB SH CL X bp_An_clear (rz_RV SH CL X c_An_clear) (bk_An_clear b) (bp_An_clear b) := fun b => match b with
  | 0 => (rz_cons (rz_aload_n G d_An_clear_0 rfl) (rz_cons (rz_iconst G d_An_clear_1 (by decide)) (rz_cons (rz_put G rfl in_An ty_An tyok_An nm_An (by decide) rfl (by decide +kernel) wd_224 d_An_clear_2) (rz_cons (rz_aload_n G d_An_clear_5 rfl) (rz_cons (rz_iconst G d_An_clear_6 (by decide)) (rz_cons (rz_put G rfl in_An ty_An tyok_An nm_An (by decide) rfl (by decide +kernel) wd_225 d_An_clear_7) (rz_cons (rz_vret (npc := 0) d_An_clear_10) rz_nil)))))))
  | _ + 1 => rz_nil
set_option maxRecDepth 100000 in
set_option maxHeartbeats 4000000 in
theorem bd_An_clear : ∀ (Y : Nat → rz_K) (P : rz_P), (∀ b ls st μ, rz_ex P Y (bk_An_clear b) ls st μ → Y b ls st μ) → ∀ As μ, C_An_clear As μ P → Y 0 (rz_pad 1 (rz_ent As)) [] μ := by
  intro Y P hY As μ hC
  obtain ⟨rfl, hC⟩ := hC
  exact hY 0 _ _ _ hC
theorem m_An_clear (E : rz_E) : rz_MV SH CL E y_An_clear 1 (Cond.code y_An_clear c_An_clear 1 none :: rz_tbl) ({ frames := 0, cells := 0, slots := 0, locals := 0 }) C_An_clear := rz_metV (by decide) rfl (fun X _ G => sd_An_clear X G) bd_An_clear
theorem cd_An_clear : rz_Cd rz_tbl y_An_clear c_An_clear 1 none (Cond.code y_An_clear c_An_clear 1 none :: rz_tbl) 0 ({ frames := 0, cells := 0, slots := 0, locals := 0 }) := ⟨rz_good wd_329, ⟨_, rfl⟩, wd_46, by decide +kernel, rfl, rfl⟩
def f_An_add (x : Int32) (μ : rz_M) : rz_M := if 26 ≤ μ 17 1 then μ else rz_up (rz_up μ 17 1 (μ 17 1 + 1)) 18 (μ 17 1).toNatClampNeg x
def C_An_add : rz_C := fun As μ P => ∃ x, As = [.ref 17, .int x] ∧ 0 ≤ μ 17 1 ∧ P none (f_An_add x μ)
def bk_An_add : Nat → List rz_T := fun b => match b with
  | 0 => [tz_aload 0, tz_get SH 0 1, tz_aload 0, tz_get SH 0 0, tz_alen SH, tz_icmp_ge 1, tz_aload 0, tz_get SH 0 0, tz_aload 0, tz_dup, tz_get SH 0 1, tz_dup_x1, tz_iconst 1, tz_iadd, tz_put SH 0 1, tz_iload 1, tz_iast SH, tz_fall 1]
  | 1 => [tz_vret]
  | _ => []
def bp_An_add : Nat → Nat := fun b => match b with
  | 0 => 0
  | 1 => 29
  | _ => 0
set_option maxRecDepth 100000 in
set_option maxHeartbeats 4000000 in
theorem sd_An_add (X : rz_X) (G : rz_Cx CL X c_An_add 2 rz_tbl R_An ({ frames := 0, cells := 0, slots := 0, locals := 0 })) : ∀ b, rz_SB SH CL X bp_An_add (rz_RV SH CL X c_An_add) (bk_An_add b) (bp_An_add b) := fun b => match b with
  | 0 => (rz_cons (rz_aload_n G d_An_add_0 rfl) (rz_cons (rz_get G rfl in_An (by decide) wd_224 d_An_add_1) (rz_cons (rz_aload_n G d_An_add_4 rfl) (rz_cons (rz_get G rfl in_An (by decide) wd_223 d_An_add_5) (rz_cons (rz_alen G d_An_add_8) (rz_cons (rz_icmp_ge G d_An_add_9 (by decide)) (rz_cons (rz_aload_n G d_An_add_12 rfl) (rz_cons (rz_get G rfl in_An (by decide) wd_223 d_An_add_13) (rz_cons (rz_aload_n G d_An_add_16 rfl) (rz_cons (rz_dup G d_An_add_17) (rz_cons (rz_get G rfl in_An (by decide) wd_224 d_An_add_18) (rz_cons (rz_dup_x1 G d_An_add_21) (rz_cons (rz_iconst G d_An_add_22 (by decide)) (rz_cons (rz_iadd G d_An_add_23) (rz_cons (rz_put G rfl in_An ty_An tyok_An nm_An (by decide) rfl (by decide +kernel) wd_224 d_An_add_24) (rz_cons (rz_iload_n G d_An_add_27 rfl) (rz_cons (rz_iast G d_An_add_28) (rz_fall rfl))))))))))))))))))
  | 1 => (rz_cons (rz_vret (npc := 0) d_An_add_29) rz_nil)
  | _ + 2 => rz_nil
set_option maxRecDepth 100000 in
set_option maxHeartbeats 4000000 in
theorem bd_An_add : ∀ (Y : Nat → rz_K) (P : rz_P), (∀ b ls st μ, rz_ex P Y (bk_An_add b) ls st μ → Y b ls st μ) → ∀ As μ, C_An_add As μ P → Y 0 (rz_pad 2 (rz_ent As)) [] μ := by
  intro Y P hY As μ hC
  obtain ⟨x, rfl, h0, hC⟩ := hC
  exact hY 0 _ _ _ (And.intro (fun h => hY 1 _ _ _ (rzT (P none) h hC)) (fun h => And.intro (vi_lt h0 (Int32.not_le.mp h)) (hY 1 _ _ _ (rzF (P none) h hC))))
theorem m_An_add (E : rz_E) : rz_MV SH CL E y_An_add 2 (Cond.code y_An_add c_An_add 2 none :: rz_tbl) ({ frames := 0, cells := 0, slots := 0, locals := 0 }) C_An_add := rz_metV (by decide) rfl (fun X _ G => sd_An_add X G) bd_An_add
theorem cd_An_add : rz_Cd rz_tbl y_An_add c_An_add 2 none (Cond.code y_An_add c_An_add 2 none :: rz_tbl) 1 ({ frames := 0, cells := 0, slots := 0, locals := 0 }) := ⟨rz_good wd_501, ⟨_, rfl⟩, wd_46, by decide +kernel, rfl, rfl⟩
def C_An_left : rz_C := fun As μ P => As = [.ref 17] ∧ P (some (.int (μ 17 1 - μ 17 2))) μ
def bk_An_left : Nat → List rz_T := fun b => match b with
  | 0 => [tz_aload 0, tz_get SH 0 1, tz_aload 0, tz_get SH 0 2, tz_isub, tz_iret]
  | _ => []
def bp_An_left : Nat → Nat := fun b => match b with
  | 0 => 0
  | _ => 0
set_option maxRecDepth 100000 in
set_option maxHeartbeats 4000000 in
theorem sd_An_left (X : rz_X) (G : rz_Cx CL X c_An_left 1 rz_tbl R_An ({ frames := 0, cells := 0, slots := 0, locals := 0 })) : ∀ b, rz_SB SH CL X bp_An_left (rz_RI SH CL X c_An_left (fun v => narrow .int (.int v) = .int v)) (bk_An_left b) (bp_An_left b) := fun b => match b with
  | 0 => (rz_cons (rz_aload_n G d_An_left_0 rfl) (rz_cons (rz_get G rfl in_An (by decide) wd_224 d_An_left_1) (rz_cons (rz_aload_n G d_An_left_4 rfl) (rz_cons (rz_get G rfl in_An (by decide) wd_225 d_An_left_5) (rz_cons (rz_isub G d_An_left_8) (rz_cons (rz_iret (npc := 0) (fun _ => rfl) d_An_left_9) rz_nil))))))
  | _ + 1 => rz_nil
set_option maxRecDepth 100000 in
set_option maxHeartbeats 4000000 in
theorem bd_An_left : ∀ (Y : Nat → rz_K) (P : rz_P), (∀ b ls st μ, rz_ex P Y (bk_An_left b) ls st μ → Y b ls st μ) → ∀ As μ, C_An_left As μ P → Y 0 (rz_pad 1 (rz_ent As)) [] μ := by
  intro Y P hY As μ hC
  obtain ⟨rfl, hC⟩ := hC
  exact hY 0 _ _ _ hC
theorem m_An_left (E : rz_E) : rz_MI SH CL E y_An_left 1 (Cond.code y_An_left c_An_left 1 (some .int) :: rz_tbl) ({ frames := 0, cells := 0, slots := 0, locals := 0 }) C_An_left := rz_metI (by decide) rfl (fun X _ G => sd_An_left X G) bd_An_left
theorem cd_An_left : rz_Cd rz_tbl y_An_left c_An_left 1 (some .int) (Cond.code y_An_left c_An_left 1 (some .int) :: rz_tbl) 0 ({ frames := 0, cells := 0, slots := 0, locals := 0 }) := ⟨rz_good wd_545, ⟨_, rfl⟩, wd_46, by decide +kernel, rfl, rfl⟩
def C_An_next : rz_C := fun As μ P => As = [.ref 17] ∧ 0 ≤ μ 17 2 ∧ μ 17 2 < 26 ∧ μ 17 2 < μ 17 1 ∧ P (some (.int (μ 18 (μ 17 2).toNatClampNeg))) (rz_up μ 17 2 (μ 17 2 + 1))
def bk_An_next : Nat → List rz_T := fun b => match b with
  | 0 => [tz_aload 0, tz_get SH 0 2, tz_aload 0, tz_get SH 0 1, tz_icmp_ge 1, tz_aload 0, tz_get SH 0 0, tz_aload 0, tz_dup, tz_get SH 0 2, tz_dup_x1, tz_iconst 1, tz_iadd, tz_put SH 0 2, tz_iald SH, tz_goto 2]
  | 1 => [tz_iconst 0, tz_fall 2]
  | 2 => [tz_iret]
  | _ => []
def bp_An_next : Nat → Nat := fun b => match b with
  | 0 => 0
  | 1 => 30
  | 2 => 31
  | _ => 0
set_option maxRecDepth 100000 in
set_option maxHeartbeats 4000000 in
theorem sd_An_next (X : rz_X) (G : rz_Cx CL X c_An_next 1 rz_tbl R_An ({ frames := 0, cells := 0, slots := 0, locals := 0 })) : ∀ b, rz_SB SH CL X bp_An_next (rz_RI SH CL X c_An_next (fun v => narrow .int (.int v) = .int v)) (bk_An_next b) (bp_An_next b) := fun b => match b with
  | 0 => (rz_cons (rz_aload_n G d_An_next_0 rfl) (rz_cons (rz_get G rfl in_An (by decide) wd_225 d_An_next_1) (rz_cons (rz_aload_n G d_An_next_4 rfl) (rz_cons (rz_get G rfl in_An (by decide) wd_224 d_An_next_5) (rz_cons (rz_icmp_ge G d_An_next_8 (by decide)) (rz_cons (rz_aload_n G d_An_next_11 rfl) (rz_cons (rz_get G rfl in_An (by decide) wd_223 d_An_next_12) (rz_cons (rz_aload_n G d_An_next_15 rfl) (rz_cons (rz_dup G d_An_next_16) (rz_cons (rz_get G rfl in_An (by decide) wd_225 d_An_next_17) (rz_cons (rz_dup_x1 G d_An_next_20) (rz_cons (rz_iconst G d_An_next_21 (by decide)) (rz_cons (rz_iadd G d_An_next_22) (rz_cons (rz_put G rfl in_An ty_An tyok_An nm_An (by decide) rfl (by decide +kernel) wd_225 d_An_next_23) (rz_cons (rz_iald G d_An_next_26) (rz_cons (rz_goto (npc := 0) G d_An_next_27 (by decide)) rz_nil))))))))))))))))
  | 1 => (rz_cons (rz_iconst G d_An_next_30 (by decide)) (rz_fall rfl))
  | 2 => (rz_cons (rz_iret (npc := 0) (fun _ => rfl) d_An_next_31) rz_nil)
  | _ + 3 => rz_nil
set_option maxRecDepth 100000 in
set_option maxHeartbeats 4000000 in
theorem bd_An_next : ∀ (Y : Nat → rz_K) (P : rz_P), (∀ b ls st μ, rz_ex P Y (bk_An_next b) ls st μ → Y b ls st μ) → ∀ As μ, C_An_next As μ P → Y 0 (rz_pad 1 (rz_ent As)) [] μ := by
  intro Y P hY As μ hC
  obtain ⟨rfl, h0, h1, h2, hC⟩ := hC
  refine hY 0 _ _ _ (And.intro (fun h => ?_) (fun h => And.intro (vi_lt h0 h1) (hY 2 _ _ _ hC)))
  exact absurd h2 (Int32.not_lt.mpr h)
theorem m_An_next (E : rz_E) : rz_MI SH CL E y_An_next 1 (Cond.code y_An_next c_An_next 1 (some .int) :: rz_tbl) ({ frames := 0, cells := 0, slots := 0, locals := 0 }) C_An_next := rz_metI (by decide) rfl (fun X _ G => sd_An_next X G) bd_An_next
theorem cd_An_next : rz_Cd rz_tbl y_An_next c_An_next 1 (some .int) (Cond.code y_An_next c_An_next 1 (some .int) :: rz_tbl) 0 ({ frames := 0, cells := 0, slots := 0, locals := 0 }) := ⟨rz_good wd_550, ⟨_, rfl⟩, wd_46, by decide +kernel, rfl, rfl⟩
end
section
def C_Co_clear : rz_C := fun As μ P => As = [.ref 15] ∧ P none (rz_up (rz_up μ 15 1 0) 15 2 0)
def bk_Co_clear : Nat → List rz_T := fun b => match b with
  | 0 => [tz_aload 0, tz_iconst 0, tz_put SH 1 1, tz_aload 0, tz_iconst 0, tz_putz SH 1 2, tz_vret]
  | _ => []
def bp_Co_clear : Nat → Nat := fun b => match b with
  | 0 => 0
  | _ => 0
set_option maxRecDepth 100000 in
set_option maxHeartbeats 4000000 in
theorem sd_Co_clear (X : rz_X) (G : rz_Cx CL X c_Co_clear 1 rz_tbl R_Co ({ frames := 0, cells := 0, slots := 0, locals := 0 })) : ∀ b, rz_SB SH CL X bp_Co_clear (rz_RV SH CL X c_Co_clear) (bk_Co_clear b) (bp_Co_clear b) := fun b => match b with
  | 0 => (rz_cons (rz_aload_n G d_Co_clear_0 rfl) (rz_cons (rz_iconst G d_Co_clear_1 (by decide)) (rz_cons (rz_put G rfl in_Co ty_Co tyok_Co nm_Co (by decide) rfl (by decide +kernel) wd_198 d_Co_clear_2) (rz_cons (rz_aload_n G d_Co_clear_5 rfl) (rz_cons (rz_iconst G d_Co_clear_6 (by decide)) (rz_cons (rz_putz G rfl in_Co ty_Co tyok_Co nm_Co (by decide) rfl (by decide +kernel) wd_200 d_Co_clear_7) (rz_cons (rz_vret (npc := 0) d_Co_clear_10) rz_nil)))))))
  | _ + 1 => rz_nil
set_option maxRecDepth 100000 in
set_option maxHeartbeats 4000000 in
theorem bd_Co_clear : ∀ (Y : Nat → rz_K) (P : rz_P), (∀ b ls st μ, rz_ex P Y (bk_Co_clear b) ls st μ → Y b ls st μ) → ∀ As μ, C_Co_clear As μ P → Y 0 (rz_pad 1 (rz_ent As)) [] μ := by
  intro Y P hY As μ hC
  obtain ⟨rfl, hC⟩ := hC
  exact hY 0 _ _ _ (And.intro (Or.inl rfl) hC)
theorem m_Co_clear (E : rz_E) : rz_MV SH CL E y_Co_clear 1 (Cond.code y_Co_clear c_Co_clear 1 none :: rz_tbl) ({ frames := 0, cells := 0, slots := 0, locals := 0 }) C_Co_clear := rz_metV (by decide) rfl (fun X _ G => sd_Co_clear X G) bd_Co_clear
theorem cd_Co_clear : rz_Cd rz_tbl y_Co_clear c_Co_clear 1 none (Cond.code y_Co_clear c_Co_clear 1 none :: rz_tbl) 0 ({ frames := 0, cells := 0, slots := 0, locals := 0 }) := ⟨rz_good wd_325, ⟨_, rfl⟩, wd_45, by decide +kernel, rfl, rfl⟩
def f_Co_add (x : Int32) (μ : rz_M) : rz_M := if 40 ≤ μ 15 1 then rz_up μ 15 2 1 else rz_up (rz_up μ 15 1 (μ 15 1 + 1)) 16 (μ 15 1).toNatClampNeg x
def C_Co_add : rz_C := fun As μ P => ∃ x, As = [.ref 15, .int x] ∧ 0 ≤ μ 15 1 ∧ P none (f_Co_add x μ)
def bk_Co_add : Nat → List rz_T := fun b => match b with
  | 0 => [tz_aload 0, tz_get SH 1 1, tz_bipush 40, tz_icmp_ge 1, tz_aload 0, tz_get SH 1 0, tz_aload 0, tz_dup, tz_get SH 1 1, tz_dup_x1, tz_iconst 1, tz_iadd, tz_put SH 1 1, tz_iload 1, tz_iast SH, tz_goto 2]
  | 1 => [tz_aload 0, tz_iconst 1, tz_putz SH 1 2, tz_fall 2]
  | 2 => [tz_vret]
  | _ => []
def bp_Co_add : Nat → Nat := fun b => match b with
  | 0 => 0
  | 1 => 29
  | 2 => 34
  | _ => 0
set_option maxRecDepth 100000 in
set_option maxHeartbeats 4000000 in
theorem sd_Co_add (X : rz_X) (G : rz_Cx CL X c_Co_add 2 rz_tbl R_Co ({ frames := 0, cells := 0, slots := 0, locals := 0 })) : ∀ b, rz_SB SH CL X bp_Co_add (rz_RV SH CL X c_Co_add) (bk_Co_add b) (bp_Co_add b) := fun b => match b with
  | 0 => (rz_cons (rz_aload_n G d_Co_add_0 rfl) (rz_cons (rz_get G rfl in_Co (by decide) wd_198 d_Co_add_1) (rz_cons (rz_bipush G d_Co_add_4 (by decide)) (rz_cons (rz_icmp_ge G d_Co_add_6 (by decide)) (rz_cons (rz_aload_n G d_Co_add_9 rfl) (rz_cons (rz_get G rfl in_Co (by decide) wd_197 d_Co_add_10) (rz_cons (rz_aload_n G d_Co_add_13 rfl) (rz_cons (rz_dup G d_Co_add_14) (rz_cons (rz_get G rfl in_Co (by decide) wd_198 d_Co_add_15) (rz_cons (rz_dup_x1 G d_Co_add_18) (rz_cons (rz_iconst G d_Co_add_19 (by decide)) (rz_cons (rz_iadd G d_Co_add_20) (rz_cons (rz_put G rfl in_Co ty_Co tyok_Co nm_Co (by decide) rfl (by decide +kernel) wd_198 d_Co_add_21) (rz_cons (rz_iload_n G d_Co_add_24 rfl) (rz_cons (rz_iast G d_Co_add_25) (rz_cons (rz_goto (npc := 0) G d_Co_add_26 (by decide)) rz_nil))))))))))))))))
  | 1 => (rz_cons (rz_aload_n G d_Co_add_29 rfl) (rz_cons (rz_iconst G d_Co_add_30 (by decide)) (rz_cons (rz_putz G rfl in_Co ty_Co tyok_Co nm_Co (by decide) rfl (by decide +kernel) wd_200 d_Co_add_31) (rz_fall rfl))))
  | 2 => (rz_cons (rz_vret (npc := 0) d_Co_add_34) rz_nil)
  | _ + 3 => rz_nil
set_option maxRecDepth 100000 in
set_option maxHeartbeats 4000000 in
theorem bd_Co_add : ∀ (Y : Nat → rz_K) (P : rz_P), (∀ b ls st μ, rz_ex P Y (bk_Co_add b) ls st μ → Y b ls st μ) → ∀ As μ, C_Co_add As μ P → Y 0 (rz_pad 2 (rz_ent As)) [] μ := by
  intro Y P hY As μ hC
  obtain ⟨x, rfl, h0, hC⟩ := hC
  exact hY 0 _ _ _ (And.intro (fun h => hY 1 _ _ _ (And.intro (Or.inr rfl) (hY 2 _ _ _ (rzT (P none) h hC)))) (fun h => And.intro (vi_lt h0 (Int32.not_le.mp h)) (hY 2 _ _ _ (rzF (P none) h hC))))
theorem m_Co_add (E : rz_E) : rz_MV SH CL E y_Co_add 2 (Cond.code y_Co_add c_Co_add 2 none :: rz_tbl) ({ frames := 0, cells := 0, slots := 0, locals := 0 }) C_Co_add := rz_metV (by decide) rfl (fun X _ G => sd_Co_add X G) bd_Co_add
theorem cd_Co_add : rz_Cd rz_tbl y_Co_add c_Co_add 2 none (Cond.code y_Co_add c_Co_add 2 none :: rz_tbl) 1 ({ frames := 0, cells := 0, slots := 0, locals := 0 }) := ⟨rz_good wd_405, ⟨_, rfl⟩, wd_45, by decide +kernel, rfl, rfl⟩
def C_Co_octetClass : rz_C := fun As μ P => As = [.ref 15] ∧ P (some (.int (μ 16 0))) μ
def bk_Co_octetClass : Nat → List rz_T := fun b => match b with
  | 0 => [tz_aload 0, tz_get SH 1 0, tz_iconst 0, tz_iald SH, tz_iret]
  | _ => []
def bp_Co_octetClass : Nat → Nat := fun b => match b with
  | 0 => 0
  | _ => 0
set_option maxRecDepth 100000 in
set_option maxHeartbeats 4000000 in
theorem sd_Co_octetClass (X : rz_X) (G : rz_Cx CL X c_Co_octetClass 1 rz_tbl R_Co ({ frames := 0, cells := 0, slots := 0, locals := 0 })) : ∀ b, rz_SB SH CL X bp_Co_octetClass (rz_RI SH CL X c_Co_octetClass (fun v => narrow .int (.int v) = .int v)) (bk_Co_octetClass b) (bp_Co_octetClass b) := fun b => match b with
  | 0 => (rz_cons (rz_aload_n G d_Co_octetClass_0 rfl) (rz_cons (rz_get G rfl in_Co (by decide) wd_197 d_Co_octetClass_1) (rz_cons (rz_iconst G d_Co_octetClass_4 (by decide)) (rz_cons (rz_iald G d_Co_octetClass_5) (rz_cons (rz_iret (npc := 0) (fun _ => rfl) d_Co_octetClass_6) rz_nil)))))
  | _ + 1 => rz_nil
set_option maxRecDepth 100000 in
set_option maxHeartbeats 4000000 in
theorem bd_Co_octetClass : ∀ (Y : Nat → rz_K) (P : rz_P), (∀ b ls st μ, rz_ex P Y (bk_Co_octetClass b) ls st μ → Y b ls st μ) → ∀ As μ, C_Co_octetClass As μ P → Y 0 (rz_pad 1 (rz_ent As)) [] μ := by
  intro Y P hY As μ hC
  obtain ⟨rfl, hC⟩ := hC
  exact hY 0 _ _ _ (And.intro (vi_c (by decide)) hC)
theorem m_Co_octetClass (E : rz_E) : rz_MI SH CL E y_Co_octetClass 1 (Cond.code y_Co_octetClass c_Co_octetClass 1 (some .int) :: rz_tbl) ({ frames := 0, cells := 0, slots := 0, locals := 0 }) C_Co_octetClass := rz_metI (by decide) rfl (fun X _ G => sd_Co_octetClass X G) bd_Co_octetClass
theorem cd_Co_octetClass : rz_Cd rz_tbl y_Co_octetClass c_Co_octetClass 1 (some .int) (Cond.code y_Co_octetClass c_Co_octetClass 1 (some .int) :: rz_tbl) 0 ({ frames := 0, cells := 0, slots := 0, locals := 0 }) := ⟨rz_good wd_429, ⟨_, rfl⟩, wd_45, by decide +kernel, rfl, rfl⟩
def C_Co_instruction : rz_C := fun As μ P => As = [.ref 15] ∧ P (some (.int (μ 16 1))) μ
def bk_Co_instruction : Nat → List rz_T := fun b => match b with
  | 0 => [tz_aload 0, tz_get SH 1 0, tz_iconst 1, tz_iald SH, tz_iret]
  | _ => []
def bp_Co_instruction : Nat → Nat := fun b => match b with
  | 0 => 0
  | _ => 0
set_option maxRecDepth 100000 in
set_option maxHeartbeats 4000000 in
theorem sd_Co_instruction (X : rz_X) (G : rz_Cx CL X c_Co_instruction 1 rz_tbl R_Co ({ frames := 0, cells := 0, slots := 0, locals := 0 })) : ∀ b, rz_SB SH CL X bp_Co_instruction (rz_RI SH CL X c_Co_instruction (fun v => narrow .int (.int v) = .int v)) (bk_Co_instruction b) (bp_Co_instruction b) := fun b => match b with
  | 0 => (rz_cons (rz_aload_n G d_Co_instruction_0 rfl) (rz_cons (rz_get G rfl in_Co (by decide) wd_197 d_Co_instruction_1) (rz_cons (rz_iconst G d_Co_instruction_4 (by decide)) (rz_cons (rz_iald G d_Co_instruction_5) (rz_cons (rz_iret (npc := 0) (fun _ => rfl) d_Co_instruction_6) rz_nil)))))
  | _ + 1 => rz_nil
set_option maxRecDepth 100000 in
set_option maxHeartbeats 4000000 in
theorem bd_Co_instruction : ∀ (Y : Nat → rz_K) (P : rz_P), (∀ b ls st μ, rz_ex P Y (bk_Co_instruction b) ls st μ → Y b ls st μ) → ∀ As μ, C_Co_instruction As μ P → Y 0 (rz_pad 1 (rz_ent As)) [] μ := by
  intro Y P hY As μ hC
  obtain ⟨rfl, hC⟩ := hC
  exact hY 0 _ _ _ (And.intro (vi_c (by decide)) hC)
theorem m_Co_instruction (E : rz_E) : rz_MI SH CL E y_Co_instruction 1 (Cond.code y_Co_instruction c_Co_instruction 1 (some .int) :: rz_tbl) ({ frames := 0, cells := 0, slots := 0, locals := 0 }) C_Co_instruction := rz_metI (by decide) rfl (fun X _ G => sd_Co_instruction X G) bd_Co_instruction
theorem cd_Co_instruction : rz_Cd rz_tbl y_Co_instruction c_Co_instruction 1 (some .int) (Cond.code y_Co_instruction c_Co_instruction 1 (some .int) :: rz_tbl) 0 ({ frames := 0, cells := 0, slots := 0, locals := 0 }) := ⟨rz_good wd_433, ⟨_, rfl⟩, wd_45, by decide +kernel, rfl, rfl⟩
def C_Co_a : rz_C := fun As μ P => As = [.ref 15] ∧ P (some (.int (μ 16 2))) μ
def bk_Co_a : Nat → List rz_T := fun b => match b with
  | 0 => [tz_aload 0, tz_get SH 1 0, tz_iconst 2, tz_iald SH, tz_iret]
  | _ => []
def bp_Co_a : Nat → Nat := fun b => match b with
  | 0 => 0
  | _ => 0
set_option maxRecDepth 100000 in
set_option maxHeartbeats 4000000 in
theorem sd_Co_a (X : rz_X) (G : rz_Cx CL X c_Co_a 1 rz_tbl R_Co ({ frames := 0, cells := 0, slots := 0, locals := 0 })) : ∀ b, rz_SB SH CL X bp_Co_a (rz_RI SH CL X c_Co_a (fun v => narrow .int (.int v) = .int v)) (bk_Co_a b) (bp_Co_a b) := fun b => match b with
  | 0 => (rz_cons (rz_aload_n G d_Co_a_0 rfl) (rz_cons (rz_get G rfl in_Co (by decide) wd_197 d_Co_a_1) (rz_cons (rz_iconst G d_Co_a_4 (by decide)) (rz_cons (rz_iald G d_Co_a_5) (rz_cons (rz_iret (npc := 0) (fun _ => rfl) d_Co_a_6) rz_nil)))))
  | _ + 1 => rz_nil
set_option maxRecDepth 100000 in
set_option maxHeartbeats 4000000 in
theorem bd_Co_a : ∀ (Y : Nat → rz_K) (P : rz_P), (∀ b ls st μ, rz_ex P Y (bk_Co_a b) ls st μ → Y b ls st μ) → ∀ As μ, C_Co_a As μ P → Y 0 (rz_pad 1 (rz_ent As)) [] μ := by
  intro Y P hY As μ hC
  obtain ⟨rfl, hC⟩ := hC
  exact hY 0 _ _ _ (And.intro (vi_c (by decide)) hC)
theorem m_Co_a (E : rz_E) : rz_MI SH CL E y_Co_a 1 (Cond.code y_Co_a c_Co_a 1 (some .int) :: rz_tbl) ({ frames := 0, cells := 0, slots := 0, locals := 0 }) C_Co_a := rz_metI (by decide) rfl (fun X _ G => sd_Co_a X G) bd_Co_a
theorem cd_Co_a : rz_Cd rz_tbl y_Co_a c_Co_a 1 (some .int) (Cond.code y_Co_a c_Co_a 1 (some .int) :: rz_tbl) 0 ({ frames := 0, cells := 0, slots := 0, locals := 0 }) := ⟨rz_good wd_441, ⟨_, rfl⟩, wd_45, by decide +kernel, rfl, rfl⟩
def C_Co_b : rz_C := fun As μ P => As = [.ref 15] ∧ P (some (.int (μ 16 3))) μ
def bk_Co_b : Nat → List rz_T := fun b => match b with
  | 0 => [tz_aload 0, tz_get SH 1 0, tz_iconst 3, tz_iald SH, tz_iret]
  | _ => []
def bp_Co_b : Nat → Nat := fun b => match b with
  | 0 => 0
  | _ => 0
set_option maxRecDepth 100000 in
set_option maxHeartbeats 4000000 in
theorem sd_Co_b (X : rz_X) (G : rz_Cx CL X c_Co_b 1 rz_tbl R_Co ({ frames := 0, cells := 0, slots := 0, locals := 0 })) : ∀ b, rz_SB SH CL X bp_Co_b (rz_RI SH CL X c_Co_b (fun v => narrow .int (.int v) = .int v)) (bk_Co_b b) (bp_Co_b b) := fun b => match b with
  | 0 => (rz_cons (rz_aload_n G d_Co_b_0 rfl) (rz_cons (rz_get G rfl in_Co (by decide) wd_197 d_Co_b_1) (rz_cons (rz_iconst G d_Co_b_4 (by decide)) (rz_cons (rz_iald G d_Co_b_5) (rz_cons (rz_iret (npc := 0) (fun _ => rfl) d_Co_b_6) rz_nil)))))
  | _ + 1 => rz_nil
set_option maxRecDepth 100000 in
set_option maxHeartbeats 4000000 in
theorem bd_Co_b : ∀ (Y : Nat → rz_K) (P : rz_P), (∀ b ls st μ, rz_ex P Y (bk_Co_b b) ls st μ → Y b ls st μ) → ∀ As μ, C_Co_b As μ P → Y 0 (rz_pad 1 (rz_ent As)) [] μ := by
  intro Y P hY As μ hC
  obtain ⟨rfl, hC⟩ := hC
  exact hY 0 _ _ _ (And.intro (vi_c (by decide)) hC)
theorem m_Co_b (E : rz_E) : rz_MI SH CL E y_Co_b 1 (Cond.code y_Co_b c_Co_b 1 (some .int) :: rz_tbl) ({ frames := 0, cells := 0, slots := 0, locals := 0 }) C_Co_b := rz_metI (by decide) rfl (fun X _ G => sd_Co_b X G) bd_Co_b
theorem cd_Co_b : rz_Cd rz_tbl y_Co_b c_Co_b 1 (some .int) (Cond.code y_Co_b c_Co_b 1 (some .int) :: rz_tbl) 0 ({ frames := 0, cells := 0, slots := 0, locals := 0 }) := ⟨rz_good wd_445, ⟨_, rfl⟩, wd_45, by decide +kernel, rfl, rfl⟩
def C_Co_place : rz_C := fun As μ P => As = [.ref 15] ∧ P (some (.int ((μ 16 2 <<< ((8 : Int32) &&& 31)) ||| μ 16 3))) μ
def bk_Co_place : Nat → List rz_T := fun b => match b with
  | 0 => [tz_aload 0, tz_cv SH 0 1 1 C_Co_a, tz_bipush 8, tz_ishl, tz_aload 0, tz_cv SH 0 1 1 C_Co_b, tz_ior, tz_iret]
  | _ => []
def bp_Co_place : Nat → Nat := fun b => match b with
  | 0 => 0
  | _ => 0
set_option maxRecDepth 100000 in
set_option maxHeartbeats 4000000 in
theorem sd_Co_place (X : rz_X) (G : rz_Cx CL X c_Co_place 1 rz_tbl R_Co ({ frames := 1, cells := 0, slots := 0, locals := 20 })) : ∀ b, rz_SB SH CL X bp_Co_place (rz_RI SH CL X c_Co_place (fun v => narrow .int (.int v) = .int v)) (bk_Co_place b) (bp_Co_place b) := fun b => match b with
  | 0 => (rz_cons (rz_aload_n G d_Co_place_0 rfl) (rz_cons (rz_cvi G (m_Co_a X.1) cd_Co_a wd_473 wd_439 wd_440 rfl rfl (by decide) d_Co_place_1) (rz_cons (rz_bipush G d_Co_place_4 (by decide)) (rz_cons (rz_ishl G d_Co_place_6) (rz_cons (rz_aload_n G d_Co_place_7 rfl) (rz_cons (rz_cvi G (m_Co_b X.1) cd_Co_b wd_474 wd_443 wd_444 rfl rfl (by decide) d_Co_place_8) (rz_cons (rz_ior G d_Co_place_11) (rz_cons (rz_iret (npc := 0) (fun _ => rfl) d_Co_place_12) rz_nil))))))))
  | _ + 1 => rz_nil
set_option maxRecDepth 100000 in
set_option maxHeartbeats 4000000 in
theorem bd_Co_place : ∀ (Y : Nat → rz_K) (P : rz_P), (∀ b ls st μ, rz_ex P Y (bk_Co_place b) ls st μ → Y b ls st μ) → ∀ As μ, C_Co_place As μ P → Y 0 (rz_pad 1 (rz_ent As)) [] μ := by
  intro Y P hY As μ hC
  obtain ⟨rfl, hC⟩ := hC
  exact hY 0 _ _ _ (And.intro rfl (And.intro rfl hC))
theorem m_Co_place (E : rz_E) : rz_MI SH CL E y_Co_place 1 (Cond.code y_Co_place c_Co_place 1 (some .int) :: rz_tbl) ({ frames := 1, cells := 0, slots := 0, locals := 20 }) C_Co_place := rz_metI (by decide) rfl (fun X _ G => sd_Co_place X G) bd_Co_place
theorem cd_Co_place : rz_Cd rz_tbl y_Co_place c_Co_place 1 (some .int) (Cond.code y_Co_place c_Co_place 1 (some .int) :: rz_tbl) 0 ({ frames := 1, cells := 0, slots := 0, locals := 20 }) := ⟨rz_good wd_472, ⟨_, rfl⟩, wd_45, by decide +kernel, rfl, rfl⟩
def C_Co_data : rz_C := fun As μ P => ∃ k, As = [.ref 15, .int k] ∧ ¬ k < 0 ∧ ¬ 32 ≤ k ∧ P (some (.int (μ 16 (5 + k).toNatClampNeg))) μ
def bk_Co_data : Nat → List rz_T := fun b => match b with
  | 0 => [tz_iload 1, tz_if_lt 1, tz_iload 1, tz_bipush 32, tz_icmp_ge 1, tz_aload 0, tz_get SH 1 0, tz_iconst 5, tz_iload 1, tz_iadd, tz_iald SH, tz_goto 2]
  | 1 => [tz_iconst 0, tz_fall 2]
  | 2 => [tz_iret]
  | _ => []
def bp_Co_data : Nat → Nat := fun b => match b with
  | 0 => 0
  | 1 => 21
  | 2 => 22
  | _ => 0
set_option maxRecDepth 100000 in
set_option maxHeartbeats 4000000 in
theorem sd_Co_data (X : rz_X) (G : rz_Cx CL X c_Co_data 2 rz_tbl R_Co ({ frames := 0, cells := 0, slots := 0, locals := 0 })) : ∀ b, rz_SB SH CL X bp_Co_data (rz_RI SH CL X c_Co_data (fun v => narrow .int (.int v) = .int v)) (bk_Co_data b) (bp_Co_data b) := fun b => match b with
  | 0 => (rz_cons (rz_iload_n G d_Co_data_0 rfl) (rz_cons (rz_if_lt G d_Co_data_1 (by decide)) (rz_cons (rz_iload_n G d_Co_data_4 rfl) (rz_cons (rz_bipush G d_Co_data_5 (by decide)) (rz_cons (rz_icmp_ge G d_Co_data_7 (by decide)) (rz_cons (rz_aload_n G d_Co_data_10 rfl) (rz_cons (rz_get G rfl in_Co (by decide) wd_197 d_Co_data_11) (rz_cons (rz_iconst G d_Co_data_14 (by decide)) (rz_cons (rz_iload_n G d_Co_data_15 rfl) (rz_cons (rz_iadd G d_Co_data_16) (rz_cons (rz_iald G d_Co_data_17) (rz_cons (rz_goto (npc := 0) G d_Co_data_18 (by decide)) rz_nil))))))))))))
  | 1 => (rz_cons (rz_iconst G d_Co_data_21 (by decide)) (rz_fall rfl))
  | 2 => (rz_cons (rz_iret (npc := 0) (fun _ => rfl) d_Co_data_22) rz_nil)
  | _ + 3 => rz_nil
set_option maxRecDepth 100000 in
set_option maxHeartbeats 4000000 in
theorem bd_Co_data : ∀ (Y : Nat → rz_K) (P : rz_P), (∀ b ls st μ, rz_ex P Y (bk_Co_data b) ls st μ → Y b ls st μ) → ∀ As μ, C_Co_data As μ P → Y 0 (rz_pad 2 (rz_ent As)) [] μ := by
  intro Y P hY As μ hC
  obtain ⟨k, rfl, h0, h1, hC⟩ := hC
  refine hY 0 _ _ _ (And.intro (fun h => absurd h h0) (fun _ => And.intro (fun h => absurd h h1) (fun _ => And.intro ?_ (hY 2 _ _ _ hC))))
  rw [vp_in_iff]
  rw [i_lt] at h0
  rw [i_le] at h1
  have e0 : (0 : Int32).toInt = 0 := rfl
  have e1 : (32 : Int32).toInt = 32 := rfl
  have e5 : (5 : Int32).toInt = 5 := rfl
  rw [i_add (by omega) (by omega)]
  omega
theorem m_Co_data (E : rz_E) : rz_MI SH CL E y_Co_data 2 (Cond.code y_Co_data c_Co_data 2 (some .int) :: rz_tbl) ({ frames := 0, cells := 0, slots := 0, locals := 0 }) C_Co_data := rz_metI (by decide) rfl (fun X _ G => sd_Co_data X G) bd_Co_data
theorem cd_Co_data : rz_Cd rz_tbl y_Co_data c_Co_data 2 (some .int) (Cond.code y_Co_data c_Co_data 2 (some .int) :: rz_tbl) 1 ({ frames := 0, cells := 0, slots := 0, locals := 0 }) := ⟨rz_good wd_453, ⟨_, rfl⟩, wd_45, by decide +kernel, rfl, rfl⟩
def C_Co_dataAsName : rz_C := fun As μ P => As = [.ref 15] ∧ P (some (.int ((μ 16 5 <<< ((8 : Int32) &&& 31)) ||| μ 16 6))) μ
def bk_Co_dataAsName : Nat → List rz_T := fun b => match b with
  | 0 => [tz_aload 0, tz_iconst 0, tz_cv SH 1 1 2 C_Co_data, tz_bipush 8, tz_ishl, tz_aload 0, tz_iconst 1, tz_cv SH 1 1 2 C_Co_data, tz_ior, tz_iret]
  | _ => []
def bp_Co_dataAsName : Nat → Nat := fun b => match b with
  | 0 => 0
  | _ => 0
set_option maxRecDepth 100000 in
set_option maxHeartbeats 4000000 in
theorem sd_Co_dataAsName (X : rz_X) (G : rz_Cx CL X c_Co_dataAsName 1 rz_tbl R_Co ({ frames := 1, cells := 0, slots := 0, locals := 21 })) : ∀ b, rz_SB SH CL X bp_Co_dataAsName (rz_RI SH CL X c_Co_dataAsName (fun v => narrow .int (.int v) = .int v)) (bk_Co_dataAsName b) (bp_Co_dataAsName b) := fun b => match b with
  | 0 => (rz_cons (rz_aload_n G d_Co_dataAsName_0 rfl) (rz_cons (rz_iconst G d_Co_dataAsName_1 (by decide)) (rz_cons (rz_cvi G (m_Co_data X.1) cd_Co_data wd_450 wd_451 wd_452 rfl rfl (by decide) d_Co_dataAsName_2) (rz_cons (rz_bipush G d_Co_dataAsName_5 (by decide)) (rz_cons (rz_ishl G d_Co_dataAsName_7) (rz_cons (rz_aload_n G d_Co_dataAsName_8 rfl) (rz_cons (rz_iconst G d_Co_dataAsName_9 (by decide)) (rz_cons (rz_cvi G (m_Co_data X.1) cd_Co_data wd_450 wd_451 wd_452 rfl rfl (by decide) d_Co_dataAsName_10) (rz_cons (rz_ior G d_Co_dataAsName_13) (rz_cons (rz_iret (npc := 0) (fun _ => rfl) d_Co_dataAsName_14) rz_nil))))))))))
  | _ + 1 => rz_nil
set_option maxRecDepth 100000 in
set_option maxHeartbeats 4000000 in
theorem bd_Co_dataAsName : ∀ (Y : Nat → rz_K) (P : rz_P), (∀ b ls st μ, rz_ex P Y (bk_Co_dataAsName b) ls st μ → Y b ls st μ) → ∀ As μ, C_Co_dataAsName As μ P → Y 0 (rz_pad 1 (rz_ent As)) [] μ := by
  intro Y P hY As μ hC
  obtain ⟨rfl, hC⟩ := hC
  exact hY 0 _ _ _ (Exists.intro 0 (And.intro rfl (And.intro (by decide) (And.intro (by decide) (Exists.intro 1 (And.intro rfl (And.intro (by decide) (And.intro (by decide) hC))))))))
theorem m_Co_dataAsName (E : rz_E) : rz_MI SH CL E y_Co_dataAsName 1 (Cond.code y_Co_dataAsName c_Co_dataAsName 1 (some .int) :: rz_tbl) ({ frames := 1, cells := 0, slots := 0, locals := 21 }) C_Co_dataAsName := rz_metI (by decide) rfl (fun X _ G => sd_Co_dataAsName X G) bd_Co_dataAsName
theorem cd_Co_dataAsName : rz_Cd rz_tbl y_Co_dataAsName c_Co_dataAsName 1 (some .int) (Cond.code y_Co_dataAsName c_Co_dataAsName 1 (some .int) :: rz_tbl) 0 ({ frames := 1, cells := 0, slots := 0, locals := 21 }) := ⟨rz_good wd_449, ⟨_, rfl⟩, wd_45, by decide +kernel, rfl, rfl⟩
def C_Co_dataAsSecret : rz_C := fun As μ P => As = [.ref 15] ∧ P (some (.int ((((μ 16 5 <<< ((24 : Int32) &&& 31)) ||| (μ 16 6 <<< ((16 : Int32) &&& 31))) ||| (μ 16 7 <<< ((8 : Int32) &&& 31))) ||| μ 16 8))) μ
def bk_Co_dataAsSecret : Nat → List rz_T := fun b => match b with
  | 0 => [tz_aload 0, tz_iconst 0, tz_cv SH 1 1 2 C_Co_data, tz_bipush 24, tz_ishl, tz_aload 0, tz_iconst 1, tz_cv SH 1 1 2 C_Co_data, tz_bipush 16, tz_ishl, tz_ior, tz_aload 0, tz_iconst 2, tz_cv SH 1 1 2 C_Co_data, tz_bipush 8, tz_ishl, tz_ior, tz_aload 0, tz_iconst 3, tz_cv SH 1 1 2 C_Co_data, tz_ior, tz_iret]
  | _ => []
def bp_Co_dataAsSecret : Nat → Nat := fun b => match b with
  | 0 => 0
  | _ => 0
set_option maxRecDepth 100000 in
set_option maxHeartbeats 4000000 in
theorem sd_Co_dataAsSecret (X : rz_X) (G : rz_Cx CL X c_Co_dataAsSecret 1 rz_tbl R_Co ({ frames := 1, cells := 0, slots := 0, locals := 21 })) : ∀ b, rz_SB SH CL X bp_Co_dataAsSecret (rz_RI SH CL X c_Co_dataAsSecret (fun v => narrow .int (.int v) = .int v)) (bk_Co_dataAsSecret b) (bp_Co_dataAsSecret b) := fun b => match b with
  | 0 => (rz_cons (rz_aload_n G d_Co_dataAsSecret_0 rfl) (rz_cons (rz_iconst G d_Co_dataAsSecret_1 (by decide)) (rz_cons (rz_cvi G (m_Co_data X.1) cd_Co_data wd_450 wd_451 wd_452 rfl rfl (by decide) d_Co_dataAsSecret_2) (rz_cons (rz_bipush G d_Co_dataAsSecret_5 (by decide)) (rz_cons (rz_ishl G d_Co_dataAsSecret_7) (rz_cons (rz_aload_n G d_Co_dataAsSecret_8 rfl) (rz_cons (rz_iconst G d_Co_dataAsSecret_9 (by decide)) (rz_cons (rz_cvi G (m_Co_data X.1) cd_Co_data wd_450 wd_451 wd_452 rfl rfl (by decide) d_Co_dataAsSecret_10) (rz_cons (rz_bipush G d_Co_dataAsSecret_13 (by decide)) (rz_cons (rz_ishl G d_Co_dataAsSecret_15) (rz_cons (rz_ior G d_Co_dataAsSecret_16) (rz_cons (rz_aload_n G d_Co_dataAsSecret_17 rfl) (rz_cons (rz_iconst G d_Co_dataAsSecret_18 (by decide)) (rz_cons (rz_cvi G (m_Co_data X.1) cd_Co_data wd_450 wd_451 wd_452 rfl rfl (by decide) d_Co_dataAsSecret_19) (rz_cons (rz_bipush G d_Co_dataAsSecret_22 (by decide)) (rz_cons (rz_ishl G d_Co_dataAsSecret_24) (rz_cons (rz_ior G d_Co_dataAsSecret_25) (rz_cons (rz_aload_n G d_Co_dataAsSecret_26 rfl) (rz_cons (rz_iconst G d_Co_dataAsSecret_27 (by decide)) (rz_cons (rz_cvi G (m_Co_data X.1) cd_Co_data wd_450 wd_451 wd_452 rfl rfl (by decide) d_Co_dataAsSecret_28) (rz_cons (rz_ior G d_Co_dataAsSecret_31) (rz_cons (rz_iret (npc := 0) (fun _ => rfl) d_Co_dataAsSecret_32) rz_nil))))))))))))))))))))))
  | _ + 1 => rz_nil
set_option maxRecDepth 100000 in
set_option maxHeartbeats 4000000 in
theorem bd_Co_dataAsSecret : ∀ (Y : Nat → rz_K) (P : rz_P), (∀ b ls st μ, rz_ex P Y (bk_Co_dataAsSecret b) ls st μ → Y b ls st μ) → ∀ As μ, C_Co_dataAsSecret As μ P → Y 0 (rz_pad 1 (rz_ent As)) [] μ := by
  intro Y P hY As μ hC
  obtain ⟨rfl, hC⟩ := hC
  exact hY 0 _ _ _ (Exists.intro 0 (And.intro rfl (And.intro (by decide) (And.intro (by decide) (Exists.intro 1 (And.intro rfl (And.intro (by decide) (And.intro (by decide) (Exists.intro 2 (And.intro rfl (And.intro (by decide) (And.intro (by decide) (Exists.intro 3 (And.intro rfl (And.intro (by decide) (And.intro (by decide) hC))))))))))))))))
theorem m_Co_dataAsSecret (E : rz_E) : rz_MI SH CL E y_Co_dataAsSecret 1 (Cond.code y_Co_dataAsSecret c_Co_dataAsSecret 1 (some .int) :: rz_tbl) ({ frames := 1, cells := 0, slots := 0, locals := 21 }) C_Co_dataAsSecret := rz_metI (by decide) rfl (fun X _ G => sd_Co_dataAsSecret X G) bd_Co_dataAsSecret
theorem cd_Co_dataAsSecret : rz_Cd rz_tbl y_Co_dataAsSecret c_Co_dataAsSecret 1 (some .int) (Cond.code y_Co_dataAsSecret c_Co_dataAsSecret 1 (some .int) :: rz_tbl) 0 ({ frames := 1, cells := 0, slots := 0, locals := 21 }) := ⟨rz_good wd_524, ⟨_, rfl⟩, wd_45, by decide +kernel, rfl, rfl⟩
def q_dl (μ : rz_M) : Int32 := if ¬ μ 15 2 = 0 then 0 else if 4 ≤ μ 15 1 then (if μ 15 1 ≤ 5 then 0 else μ 16 4) else 0
def q_en (μ : rz_M) : Int32 := if q_dl μ ≤ 0 then 4 else 5 + q_dl μ
abbrev p_ok (μ : rz_M) : Prop := μ 15 2 = 0 ∧ 4 ≤ μ 15 1 ∧ ¬ 32 < q_dl μ ∧ ¬ μ 15 1 < q_en μ ∧ μ 15 1 ≤ q_en μ + 1
def q_ex (μ : rz_M) : Int32 := if p_ok μ ∧ ¬ μ 15 1 ≤ q_en μ then (if ¬ μ 16 (q_en μ).toNatClampNeg = 0 then μ 16 (q_en μ).toNatClampNeg else 32) else -1
def f_parse (μ : rz_M) : rz_M := rz_up (rz_up μ 15 3 (q_dl μ)) 15 4 (q_ex μ)
def C_Co_parse : rz_C := fun As μ P => As = [.ref 15] ∧ μ 15 1 ≤ 40 ∧ P (some (.int (b2 (p_ok μ)))) (f_parse μ)
def bk_Co_parse : Nat → List rz_T := fun b => match b with
  | 0 => [tz_aload 0, tz_iconst 0, tz_put SH 1 3, tz_aload 0, tz_iconst (-1), tz_put SH 1 4, tz_aload 0, tz_get SH 1 2, tz_if_ne 1, tz_aload 0, tz_get SH 1 1, tz_iconst 4, tz_icmp_ge 2, tz_fall 1]
  | 1 => [tz_iconst 0, tz_zret]
  | 2 => [tz_aload 0, tz_get SH 1 1, tz_iconst 5, tz_icmp_le 3, tz_aload 0, tz_aload 0, tz_get SH 1 0, tz_iconst 4, tz_iald SH, tz_put SH 1 3, tz_fall 3]
  | 3 => [tz_aload 0, tz_get SH 1 3, tz_if_le 4, tz_iconst 5, tz_aload 0, tz_get SH 1 3, tz_iadd, tz_goto 5]
  | 4 => [tz_iconst 4, tz_fall 5]
  | 5 => [tz_istore 1, tz_aload 0, tz_get SH 1 3, tz_bipush 32, tz_icmp_gt 6, tz_aload 0, tz_get SH 1 1, tz_iload 1, tz_icmp_lt 6, tz_aload 0, tz_get SH 1 1, tz_iload 1, tz_iconst 1, tz_iadd, tz_icmp_le 7, tz_fall 6]
  | 6 => [tz_iconst 0, tz_zret]
  | 7 => [tz_aload 0, tz_get SH 1 1, tz_iload 1, tz_icmp_le 10, tz_aload 0, tz_aload 0, tz_get SH 1 0, tz_iload 1, tz_iald SH, tz_if_ne 8, tz_bipush 32, tz_goto 9]
  | 8 => [tz_aload 0, tz_get SH 1 0, tz_iload 1, tz_iald SH, tz_fall 9]
  | 9 => [tz_put SH 1 4, tz_fall 10]
  | 10 => [tz_iconst 1, tz_zret]
  | _ => []
def bp_Co_parse : Nat → Nat := fun b => match b with
  | 0 => 0
  | 1 => 25
  | 2 => 27
  | 3 => 45
  | 4 => 61
  | 5 => 62
  | 6 => 90
  | 7 => 92
  | 8 => 115
  | 9 => 121
  | 10 => 124
  | _ => 0
set_option maxRecDepth 100000 in
set_option maxHeartbeats 4000000 in
theorem sd_Co_parse (X : rz_X) (G : rz_Cx CL X c_Co_parse 2 rz_tbl R_Co ({ frames := 0, cells := 0, slots := 0, locals := 0 })) : ∀ b, rz_SB SH CL X bp_Co_parse (rz_RI SH CL X c_Co_parse (fun v => narrow .boolean (.int v) = .int v)) (bk_Co_parse b) (bp_Co_parse b) := fun b => match b with
  | 0 => (rz_cons (rz_aload_n G d_Co_parse_0 rfl) (rz_cons (rz_iconst G d_Co_parse_1 (by decide)) (rz_cons (rz_put G rfl in_Co ty_Co tyok_Co nm_Co (by decide) rfl (by decide +kernel) wd_202 d_Co_parse_2) (rz_cons (rz_aload_n G d_Co_parse_5 rfl) (rz_cons (rz_iconst G d_Co_parse_6 (by decide)) (rz_cons (rz_put G rfl in_Co ty_Co tyok_Co nm_Co (by decide) rfl (by decide +kernel) wd_204 d_Co_parse_7) (rz_cons (rz_aload_n G d_Co_parse_10 rfl) (rz_cons (rz_get G rfl in_Co (by decide) wd_200 d_Co_parse_11) (rz_cons (rz_if_ne G d_Co_parse_14 (by decide)) (rz_cons (rz_aload_n G d_Co_parse_17 rfl) (rz_cons (rz_get G rfl in_Co (by decide) wd_198 d_Co_parse_18) (rz_cons (rz_iconst G d_Co_parse_21 (by decide)) (rz_cons (rz_icmp_ge G d_Co_parse_22 (by decide)) (rz_fall rfl))))))))))))))
  | 1 => (rz_cons (rz_iconst G d_Co_parse_25 (by decide)) (rz_cons (rz_zret (npc := 0) (by rintro v (rfl | rfl) <;> rfl) d_Co_parse_26) rz_nil))
  | 2 => (rz_cons (rz_aload_n G d_Co_parse_27 rfl) (rz_cons (rz_get G rfl in_Co (by decide) wd_198 d_Co_parse_28) (rz_cons (rz_iconst G d_Co_parse_31 (by decide)) (rz_cons (rz_icmp_le G d_Co_parse_32 (by decide)) (rz_cons (rz_aload_n G d_Co_parse_35 rfl) (rz_cons (rz_aload_n G d_Co_parse_36 rfl) (rz_cons (rz_get G rfl in_Co (by decide) wd_197 d_Co_parse_37) (rz_cons (rz_iconst G d_Co_parse_40 (by decide)) (rz_cons (rz_iald G d_Co_parse_41) (rz_cons (rz_put G rfl in_Co ty_Co tyok_Co nm_Co (by decide) rfl (by decide +kernel) wd_202 d_Co_parse_42) (rz_fall rfl)))))))))))
  | 3 => (rz_cons (rz_aload_n G d_Co_parse_45 rfl) (rz_cons (rz_get G rfl in_Co (by decide) wd_202 d_Co_parse_46) (rz_cons (rz_if_le G d_Co_parse_49 (by decide)) (rz_cons (rz_iconst G d_Co_parse_52 (by decide)) (rz_cons (rz_aload_n G d_Co_parse_53 rfl) (rz_cons (rz_get G rfl in_Co (by decide) wd_202 d_Co_parse_54) (rz_cons (rz_iadd G d_Co_parse_57) (rz_cons (rz_goto (npc := 0) G d_Co_parse_58 (by decide)) rz_nil))))))))
  | 4 => (rz_cons (rz_iconst G d_Co_parse_61 (by decide)) (rz_fall rfl))
  | 5 => (rz_cons (rz_istore_n G d_Co_parse_62 rfl (by decide)) (rz_cons (rz_aload_n G d_Co_parse_63 rfl) (rz_cons (rz_get G rfl in_Co (by decide) wd_202 d_Co_parse_64) (rz_cons (rz_bipush G d_Co_parse_67 (by decide)) (rz_cons (rz_icmp_gt G d_Co_parse_69 (by decide)) (rz_cons (rz_aload_n G d_Co_parse_72 rfl) (rz_cons (rz_get G rfl in_Co (by decide) wd_198 d_Co_parse_73) (rz_cons (rz_iload_n G d_Co_parse_76 rfl) (rz_cons (rz_icmp_lt G d_Co_parse_77 (by decide)) (rz_cons (rz_aload_n G d_Co_parse_80 rfl) (rz_cons (rz_get G rfl in_Co (by decide) wd_198 d_Co_parse_81) (rz_cons (rz_iload_n G d_Co_parse_84 rfl) (rz_cons (rz_iconst G d_Co_parse_85 (by decide)) (rz_cons (rz_iadd G d_Co_parse_86) (rz_cons (rz_icmp_le G d_Co_parse_87 (by decide)) (rz_fall rfl))))))))))))))))
  | 6 => (rz_cons (rz_iconst G d_Co_parse_90 (by decide)) (rz_cons (rz_zret (npc := 0) (by rintro v (rfl | rfl) <;> rfl) d_Co_parse_91) rz_nil))
  | 7 => (rz_cons (rz_aload_n G d_Co_parse_92 rfl) (rz_cons (rz_get G rfl in_Co (by decide) wd_198 d_Co_parse_93) (rz_cons (rz_iload_n G d_Co_parse_96 rfl) (rz_cons (rz_icmp_le G d_Co_parse_97 (by decide)) (rz_cons (rz_aload_n G d_Co_parse_100 rfl) (rz_cons (rz_aload_n G d_Co_parse_101 rfl) (rz_cons (rz_get G rfl in_Co (by decide) wd_197 d_Co_parse_102) (rz_cons (rz_iload_n G d_Co_parse_105 rfl) (rz_cons (rz_iald G d_Co_parse_106) (rz_cons (rz_if_ne G d_Co_parse_107 (by decide)) (rz_cons (rz_bipush G d_Co_parse_110 (by decide)) (rz_cons (rz_goto (npc := 0) G d_Co_parse_112 (by decide)) rz_nil))))))))))))
  | 8 => (rz_cons (rz_aload_n G d_Co_parse_115 rfl) (rz_cons (rz_get G rfl in_Co (by decide) wd_197 d_Co_parse_116) (rz_cons (rz_iload_n G d_Co_parse_119 rfl) (rz_cons (rz_iald G d_Co_parse_120) (rz_fall rfl)))))
  | 9 => (rz_cons (rz_put G rfl in_Co ty_Co tyok_Co nm_Co (by decide) rfl (by decide +kernel) wd_204 d_Co_parse_121) (rz_fall rfl))
  | 10 => (rz_cons (rz_iconst G d_Co_parse_124 (by decide)) (rz_cons (rz_zret (npc := 0) (by rintro v (rfl | rfl) <;> rfl) d_Co_parse_125) rz_nil))
  | _ + 11 => rz_nil
set_option maxRecDepth 100000 in
set_option maxHeartbeats 4000000 in
theorem bd_Co_parse : ∀ (Y : Nat → rz_K) (P : rz_P), (∀ b ls st μ, rz_ex P Y (bk_Co_parse b) ls st μ → Y b ls st μ) → ∀ As μ, C_Co_parse As μ P → Y 0 (rz_pad 2 (rz_ent As)) [] μ := by
  intro Y P hY As μ hC
  obtain ⟨rfl, h40, hC⟩ := hC
  unfold f_parse at hC
  have tail : ∀ (ν : rz_M) (z : Int32), ν = rz_up (rz_up μ 15 3 (q_dl μ)) 15 4 (-1) → z = q_en μ → μ 15 2 = 0 → 4 ≤ μ 15 1 → Y 5 [some (.ref 15), none] [.int z] ν := by
    intro ν z hν hz ht hl
    subst hν
    subst hz
    have no : ¬ p_ok μ → P (some (.int (b2 (p_ok μ)))) (rz_up (rz_up μ 15 3 (q_dl μ)) 15 4 (-1)) := by
      intro hn
      have e : q_ex μ = -1 := if_neg (fun q => hn q.1)
      rw [e] at hC
      exact hC
    refine hY 5 _ _ _ (And.intro (fun (h : 32 < q_dl μ) => ?_) (fun (h1 : ¬ 32 < q_dl μ) => And.intro (fun (h : μ 15 1 < q_en μ) => ?_) (fun (h2 : ¬ μ 15 1 < q_en μ) => And.intro (fun (h3 : μ 15 1 ≤ q_en μ + 1) => ?_) (fun (h : ¬ μ 15 1 ≤ q_en μ + 1) => ?_))))
    · have hn : ¬ p_ok μ := fun q => q.2.2.1 h
      exact hY _ _ _ _ (pF (no hn) hn)
    · have hn : ¬ p_ok μ := fun q => q.2.2.2.1 h
      exact hY _ _ _ _ (pF (no hn) hn)
    · have hp : p_ok μ := ⟨ht, hl, h1, h2, h3⟩
      refine hY 7 _ _ _ (And.intro (fun (h : μ 15 1 ≤ q_en μ) => ?_) (fun (h4 : ¬ μ 15 1 ≤ q_en μ) => ?_))
      · have e : q_ex μ = -1 := if_neg (fun q => q.2 h)
        rw [e] at hC
        exact hY _ _ _ _ (pT hC hp)
      · have e : q_ex μ = (if ¬ μ 16 (q_en μ).toNatClampNeg = 0 then μ 16 (q_en μ).toNatClampNeg else 32) := if_pos ⟨hp, h4⟩
        rw [e] at hC
        have hv : vp_in (q_en μ) 40 := by
          refine vi_lt (m := 40) ?_ ?_
          · unfold q_en
            split
            · decide
            · next hd =>
              rw [i_le] at hd ⊢
              rw [i_lt] at h1
              have e1 : (32 : Int32).toInt = 32 := rfl
              have e2 : (0 : Int32).toInt = 0 := rfl
              have e3 : (5 : Int32).toInt = 5 := rfl
              rw [i_add (by omega) (by omega)]
              omega
          · exact Int32.lt_of_lt_of_le (Int32.not_le.mp h4) h40
        refine And.intro hv (And.intro (fun (h : ¬ μ 16 (q_en μ).toNatClampNeg = 0) => ?_) (fun (h : μ 16 (q_en μ).toNatClampNeg = 0) => ?_))
        · refine hY 8 _ _ _ (And.intro hv (hY 9 _ _ _ (hY 10 _ _ _ ?_)))
          rw [if_pos h] at hC
          rw [rz_up_same]
          exact pT hC hp
        · refine hY 9 _ _ _ (hY 10 _ _ _ ?_)
          rw [if_neg (fun q => q h)] at hC
          rw [rz_up_same]
          exact pT hC hp
    · have hn : ¬ p_ok μ := fun q => h q.2.2.2.2
      exact hY _ _ _ _ (pF (no hn) hn)
  have mid : ∀ (ν : rz_M), ν = rz_up (rz_up μ 15 3 (q_dl μ)) 15 4 (-1) → μ 15 2 = 0 → 4 ≤ μ 15 1 → Y 3 [some (.ref 15), none] [] ν := by
    intro ν hν ht hl
    subst hν
    refine hY 3 _ _ _ (And.intro (fun (h : q_dl μ ≤ 0) => ?_) (fun (h : ¬ q_dl μ ≤ 0) => ?_))
    · exact hY 4 _ _ _ (tail _ _ rfl (if_pos h).symm ht hl)
    · exact tail _ _ rfl (if_neg h).symm ht hl
  refine hY 0 _ _ _ (And.intro (fun (h : ¬ μ 15 2 = 0) => ?_) (fun (h : μ 15 2 = 0) => And.intro (fun (h1 : 4 ≤ μ 15 1) => ?_) (fun (h1 : ¬ 4 ≤ μ 15 1) => ?_)))
  · have hn : ¬ p_ok μ := fun q => h q.1
    have e : q_ex μ = -1 := if_neg (fun q => hn q.1)
    have e2 : q_dl μ = 0 := if_pos h
    have hC := pF hC hn
    rw [e, e2] at hC
    exact hY _ _ _ _ hC
  · refine hY 2 _ _ _ (And.intro (fun (h2 : μ 15 1 ≤ 5) => ?_) (fun (h2 : ¬ μ 15 1 ≤ 5) => And.intro (vi_c (by decide)) ?_))
    · refine mid _ ?_ h h1
      have e2 : q_dl μ = 0 := by unfold q_dl; rw [if_neg (fun q => q h), if_pos h1, if_pos h2]
      rw [e2]
    · refine mid _ ?_ h h1
      have e2 : q_dl μ = μ 16 4 := by unfold q_dl; rw [if_neg (fun q => q h), if_pos h1, if_neg h2]
      rw [e2, rz_up_comm (Or.inr (by decide)), rz_up_same]
      rfl
  · have hn : ¬ p_ok μ := fun q => h1 q.2.1
    have e : q_ex μ = -1 := if_neg (fun q => hn q.1)
    have e2 : q_dl μ = 0 := by unfold q_dl; rw [if_neg (fun q => q h), if_neg h1]
    have hC := pF hC hn
    rw [e, e2] at hC
    exact hY _ _ _ _ hC
theorem m_Co_parse (E : rz_E) : rz_MI SH CL E y_Co_parse 2 (Cond.code y_Co_parse c_Co_parse 2 (some .boolean) :: rz_tbl) ({ frames := 0, cells := 0, slots := 0, locals := 0 }) C_Co_parse := rz_metI (by decide) rfl (fun X _ G => sd_Co_parse X G) bd_Co_parse
theorem cd_Co_parse : rz_Cd rz_tbl y_Co_parse c_Co_parse 2 (some .boolean) (Cond.code y_Co_parse c_Co_parse 2 (some .boolean) :: rz_tbl) 0 ({ frames := 0, cells := 0, slots := 0, locals := 0 }) := ⟨rz_good wd_425, ⟨_, rfl⟩, wd_45, by decide +kernel, rfl, rfl⟩
end
section
def C_Fi_isRight : rz_C := fun As μ P => ∃ r : Int32, As = [.int r] ∧ P (some (.int (b2 (¬ r < 0 ∧ ¬ 2 < r)))) μ
def bk_Fi_isRight : Nat → List rz_T := fun b => match b with
  | 0 => [tz_iload 0, tz_if_lt 1, tz_iload 0, tz_iconst 2, tz_icmp_gt 1, tz_iconst 1, tz_goto 2]
  | 1 => [tz_iconst 0, tz_fall 2]
  | 2 => [tz_zret]
  | _ => []
def bp_Fi_isRight : Nat → Nat := fun b => match b with
  | 0 => 0
  | 1 => 13
  | 2 => 14
  | _ => 0
set_option maxRecDepth 100000 in
set_option maxHeartbeats 4000000 in
theorem sd_Fi_isRight (X : rz_X) (G : rz_Cx CL X c_Fi_isRight 1 rz_tbl R_Fi ({ frames := 0, cells := 0, slots := 0, locals := 0 })) : ∀ b, rz_SB SH CL X bp_Fi_isRight (rz_RI SH CL X c_Fi_isRight (fun v => narrow .boolean (.int v) = .int v)) (bk_Fi_isRight b) (bp_Fi_isRight b) := fun b => match b with
  | 0 => (rz_cons (rz_iload_n G d_Fi_isRight_0 rfl) (rz_cons (rz_if_lt G d_Fi_isRight_1 (by decide)) (rz_cons (rz_iload_n G d_Fi_isRight_4 rfl) (rz_cons (rz_iconst G d_Fi_isRight_5 (by decide)) (rz_cons (rz_icmp_gt G d_Fi_isRight_6 (by decide)) (rz_cons (rz_iconst G d_Fi_isRight_9 (by decide)) (rz_cons (rz_goto (npc := 0) G d_Fi_isRight_10 (by decide)) rz_nil)))))))
  | 1 => (rz_cons (rz_iconst G d_Fi_isRight_13 (by decide)) (rz_fall rfl))
  | 2 => (rz_cons (rz_zret (npc := 0) (by rintro v (rfl | rfl) <;> rfl) d_Fi_isRight_14) rz_nil)
  | _ + 3 => rz_nil
set_option maxRecDepth 100000 in
set_option maxHeartbeats 4000000 in
theorem bd_Fi_isRight : ∀ (Y : Nat → rz_K) (P : rz_P), (∀ b ls st μ, rz_ex P Y (bk_Fi_isRight b) ls st μ → Y b ls st μ) → ∀ As μ, C_Fi_isRight As μ P → Y 0 (rz_pad 1 (rz_ent As)) [] μ := by
  intro Y P hY As μ hC
  obtain ⟨r, rfl, hC⟩ := hC
  refine hY 0 _ _ _ ?_
  repeat' (first | (refine And.intro (fun _ => ?_) (fun _ => ?_)) | (refine hY _ _ _ _ ?_))
  all_goals first | exact pT hC (by clear hC hY; simp_all) | exact pF hC (by clear hC hY; simp_all)
theorem m_Fi_isRight (E : rz_E) : rz_MI SH CL E y_Fi_isRight 1 (Cond.code y_Fi_isRight c_Fi_isRight 1 (some .boolean) :: rz_tbl) ({ frames := 0, cells := 0, slots := 0, locals := 0 }) C_Fi_isRight := rz_metI (by decide) rfl (fun X _ G => sd_Fi_isRight X G) bd_Fi_isRight
theorem cd_Fi_isRight : rz_Cd rz_tbl y_Fi_isRight c_Fi_isRight 1 (some .boolean) (Cond.code y_Fi_isRight c_Fi_isRight 1 (some .boolean) :: rz_tbl) 1 ({ frames := 0, cells := 0, slots := 0, locals := 0 }) := ⟨rz_good wd_289, ⟨_, rfl⟩, wd_44, by decide +kernel, rfl, rfl⟩
def C_Fi_has : rz_C := fun As μ P => ∃ f : Int32, As = [.ref 7, .int f] ∧ P (some (.int (b2 (¬ f < 0 ∧ ¬ μ 7 6 ≤ f)))) μ
def bk_Fi_has : Nat → List rz_T := fun b => match b with
  | 0 => [tz_iload 1, tz_if_lt 1, tz_iload 1, tz_aload 0, tz_get SH 2 6, tz_icmp_ge 1, tz_iconst 1, tz_goto 2]
  | 1 => [tz_iconst 0, tz_fall 2]
  | 2 => [tz_zret]
  | _ => []
def bp_Fi_has : Nat → Nat := fun b => match b with
  | 0 => 0
  | 1 => 16
  | 2 => 17
  | _ => 0
set_option maxRecDepth 100000 in
set_option maxHeartbeats 4000000 in
theorem sd_Fi_has (X : rz_X) (G : rz_Cx CL X c_Fi_has 2 rz_tbl R_Fi ({ frames := 0, cells := 0, slots := 0, locals := 0 })) : ∀ b, rz_SB SH CL X bp_Fi_has (rz_RI SH CL X c_Fi_has (fun v => narrow .boolean (.int v) = .int v)) (bk_Fi_has b) (bp_Fi_has b) := fun b => match b with
  | 0 => (rz_cons (rz_iload_n G d_Fi_has_0 rfl) (rz_cons (rz_if_lt G d_Fi_has_1 (by decide)) (rz_cons (rz_iload_n G d_Fi_has_4 rfl) (rz_cons (rz_aload_n G d_Fi_has_5 rfl) (rz_cons (rz_get G rfl in_Fi (by decide) wd_131 d_Fi_has_6) (rz_cons (rz_icmp_ge G d_Fi_has_9 (by decide)) (rz_cons (rz_iconst G d_Fi_has_12 (by decide)) (rz_cons (rz_goto (npc := 0) G d_Fi_has_13 (by decide)) rz_nil))))))))
  | 1 => (rz_cons (rz_iconst G d_Fi_has_16 (by decide)) (rz_fall rfl))
  | 2 => (rz_cons (rz_zret (npc := 0) (by rintro v (rfl | rfl) <;> rfl) d_Fi_has_17) rz_nil)
  | _ + 3 => rz_nil
set_option maxRecDepth 100000 in
set_option maxHeartbeats 4000000 in
theorem bd_Fi_has : ∀ (Y : Nat → rz_K) (P : rz_P), (∀ b ls st μ, rz_ex P Y (bk_Fi_has b) ls st μ → Y b ls st μ) → ∀ As μ, C_Fi_has As μ P → Y 0 (rz_pad 2 (rz_ent As)) [] μ := by
  intro Y P hY As μ hC
  obtain ⟨f, rfl, hC⟩ := hC
  refine hY 0 _ _ _ ?_
  repeat' (first | (refine And.intro (fun _ => ?_) (fun _ => ?_)) | (refine hY _ _ _ _ ?_))
  all_goals first | exact pT hC (by clear hC hY; simp_all) | exact pF hC (by clear hC hY; simp_all)
theorem m_Fi_has (E : rz_E) : rz_MI SH CL E y_Fi_has 2 (Cond.code y_Fi_has c_Fi_has 2 (some .boolean) :: rz_tbl) ({ frames := 0, cells := 0, slots := 0, locals := 0 }) C_Fi_has := rz_metI (by decide) rfl (fun X _ G => sd_Fi_has X G) bd_Fi_has
theorem cd_Fi_has : rz_Cd rz_tbl y_Fi_has c_Fi_has 2 (some .boolean) (Cond.code y_Fi_has c_Fi_has 2 (some .boolean) :: rz_tbl) 1 ({ frames := 0, cells := 0, slots := 0, locals := 0 }) := ⟨rz_good wd_286, ⟨_, rfl⟩, wd_44, by decide +kernel, rfl, rfl⟩
def C_Fi_isDirectory : rz_C := fun As μ P => ∃ f : Int32, As = [.ref 7, .int f] ∧ μ 7 6 ≤ 8 ∧ P (some (.int (b2 (¬ f < 0 ∧ ¬ μ 7 6 ≤ f ∧ μ 10 f.toNatClampNeg = 0)))) μ
def bk_Fi_isDirectory : Nat → List rz_T := fun b => match b with
  | 0 => [tz_aload 0, tz_iload 1, tz_cv SH 1 2 2 C_Fi_has, tz_if_eq 1, tz_aload 0, tz_get SH 2 2, tz_iload 1, tz_iald SH, tz_if_ne 1, tz_iconst 1, tz_goto 2]
  | 1 => [tz_iconst 0, tz_fall 2]
  | 2 => [tz_zret]
  | _ => []
def bp_Fi_isDirectory : Nat → Nat := fun b => match b with
  | 0 => 0
  | 1 => 21
  | 2 => 22
  | _ => 0
set_option maxRecDepth 100000 in
set_option maxHeartbeats 4000000 in
theorem sd_Fi_isDirectory (X : rz_X) (G : rz_Cx CL X c_Fi_isDirectory 2 rz_tbl R_Fi ({ frames := 1, cells := 0, slots := 0, locals := 21 })) : ∀ b, rz_SB SH CL X bp_Fi_isDirectory (rz_RI SH CL X c_Fi_isDirectory (fun v => narrow .boolean (.int v) = .int v)) (bk_Fi_isDirectory b) (bp_Fi_isDirectory b) := fun b => match b with
  | 0 => (rz_cons (rz_aload_n G d_Fi_isDirectory_0 rfl) (rz_cons (rz_iload_n G d_Fi_isDirectory_1 rfl) (rz_cons (rz_cvi G (m_Fi_has X.1) cd_Fi_has wd_283 wd_284 wd_285 rfl rfl (by decide) d_Fi_isDirectory_2) (rz_cons (rz_if_eq G d_Fi_isDirectory_5 (by decide)) (rz_cons (rz_aload_n G d_Fi_isDirectory_8 rfl) (rz_cons (rz_get G rfl in_Fi (by decide) wd_123 d_Fi_isDirectory_9) (rz_cons (rz_iload_n G d_Fi_isDirectory_12 rfl) (rz_cons (rz_iald G d_Fi_isDirectory_13) (rz_cons (rz_if_ne G d_Fi_isDirectory_14 (by decide)) (rz_cons (rz_iconst G d_Fi_isDirectory_17 (by decide)) (rz_cons (rz_goto (npc := 0) G d_Fi_isDirectory_18 (by decide)) rz_nil)))))))))))
  | 1 => (rz_cons (rz_iconst G d_Fi_isDirectory_21 (by decide)) (rz_fall rfl))
  | 2 => (rz_cons (rz_zret (npc := 0) (by rintro v (rfl | rfl) <;> rfl) d_Fi_isDirectory_22) rz_nil)
  | _ + 3 => rz_nil
set_option maxRecDepth 100000 in
set_option maxHeartbeats 4000000 in
theorem bd_Fi_isDirectory : ∀ (Y : Nat → rz_K) (P : rz_P), (∀ b ls st μ, rz_ex P Y (bk_Fi_isDirectory b) ls st μ → Y b ls st μ) → ∀ As μ, C_Fi_isDirectory As μ P → Y 0 (rz_pad 2 (rz_ent As)) [] μ := by
  intro Y P hY As μ hC
  obtain ⟨f, rfl, h8, hC⟩ := hC
  refine hY 0 _ _ _ ⟨f, rfl, And.intro (fun h => ?_) (fun h => And.intro ?_ (And.intro (fun h2 => ?_) (fun h2 => ?_)))⟩
  · exact hY _ _ _ _ (hY _ _ _ _ (pF hC (fun q => b2_eq h ⟨q.1, q.2.1⟩)))
  · have := b2_ne h
    exact vi_lt (m := 8) (Int32.not_lt.mp this.1) (Int32.lt_of_lt_of_le (Int32.not_le.mp this.2) h8)
  · exact hY _ _ _ _ (hY _ _ _ _ (pF hC (fun q => h2 q.2.2)))
  · exact hY _ _ _ _ (pT hC ⟨(b2_ne h).1, (b2_ne h).2, h2⟩)
theorem m_Fi_isDirectory (E : rz_E) : rz_MI SH CL E y_Fi_isDirectory 2 (Cond.code y_Fi_isDirectory c_Fi_isDirectory 2 (some .boolean) :: rz_tbl) ({ frames := 1, cells := 0, slots := 0, locals := 21 }) C_Fi_isDirectory := rz_metI (by decide) rfl (fun X _ G => sd_Fi_isDirectory X G) bd_Fi_isDirectory
theorem cd_Fi_isDirectory : rz_Cd rz_tbl y_Fi_isDirectory c_Fi_isDirectory 2 (some .boolean) (Cond.code y_Fi_isDirectory c_Fi_isDirectory 2 (some .boolean) :: rz_tbl) 1 ({ frames := 1, cells := 0, slots := 0, locals := 21 }) := ⟨rz_good wd_282, ⟨_, rfl⟩, wd_44, by decide +kernel, rfl, rfl⟩
def C_Fi_hasOctet : rz_C := fun As μ P => ∃ f k : Int32, As = [.ref 7, .int f, .int k] ∧ μ 7 6 ≤ 8 ∧ P (some (.int (b2 (¬ f < 0 ∧ ¬ μ 7 6 ≤ f ∧ ¬ k < 0 ∧ ¬ μ 10 f.toNatClampNeg ≤ k)))) μ
def bk_Fi_hasOctet : Nat → List rz_T := fun b => match b with
  | 0 => [tz_iload 1, tz_if_lt 1, tz_iload 1, tz_aload 0, tz_get SH 2 6, tz_icmp_ge 1, tz_iload 2, tz_if_lt 1, tz_iload 2, tz_aload 0, tz_get SH 2 2, tz_iload 1, tz_iald SH, tz_icmp_ge 1, tz_iconst 1, tz_goto 2]
  | 1 => [tz_iconst 0, tz_fall 2]
  | 2 => [tz_zret]
  | _ => []
def bp_Fi_hasOctet : Nat → Nat := fun b => match b with
  | 0 => 0
  | 1 => 30
  | 2 => 31
  | _ => 0
set_option maxRecDepth 100000 in
set_option maxHeartbeats 4000000 in
theorem sd_Fi_hasOctet (X : rz_X) (G : rz_Cx CL X c_Fi_hasOctet 3 rz_tbl R_Fi ({ frames := 0, cells := 0, slots := 0, locals := 0 })) : ∀ b, rz_SB SH CL X bp_Fi_hasOctet (rz_RI SH CL X c_Fi_hasOctet (fun v => narrow .boolean (.int v) = .int v)) (bk_Fi_hasOctet b) (bp_Fi_hasOctet b) := fun b => match b with
  | 0 => (rz_cons (rz_iload_n G d_Fi_hasOctet_0 rfl) (rz_cons (rz_if_lt G d_Fi_hasOctet_1 (by decide)) (rz_cons (rz_iload_n G d_Fi_hasOctet_4 rfl) (rz_cons (rz_aload_n G d_Fi_hasOctet_5 rfl) (rz_cons (rz_get G rfl in_Fi (by decide) wd_131 d_Fi_hasOctet_6) (rz_cons (rz_icmp_ge G d_Fi_hasOctet_9 (by decide)) (rz_cons (rz_iload_n G d_Fi_hasOctet_12 rfl) (rz_cons (rz_if_lt G d_Fi_hasOctet_13 (by decide)) (rz_cons (rz_iload_n G d_Fi_hasOctet_16 rfl) (rz_cons (rz_aload_n G d_Fi_hasOctet_17 rfl) (rz_cons (rz_get G rfl in_Fi (by decide) wd_123 d_Fi_hasOctet_18) (rz_cons (rz_iload_n G d_Fi_hasOctet_21 rfl) (rz_cons (rz_iald G d_Fi_hasOctet_22) (rz_cons (rz_icmp_ge G d_Fi_hasOctet_23 (by decide)) (rz_cons (rz_iconst G d_Fi_hasOctet_26 (by decide)) (rz_cons (rz_goto (npc := 0) G d_Fi_hasOctet_27 (by decide)) rz_nil))))))))))))))))
  | 1 => (rz_cons (rz_iconst G d_Fi_hasOctet_30 (by decide)) (rz_fall rfl))
  | 2 => (rz_cons (rz_zret (npc := 0) (by rintro v (rfl | rfl) <;> rfl) d_Fi_hasOctet_31) rz_nil)
  | _ + 3 => rz_nil
set_option maxRecDepth 100000 in
set_option maxHeartbeats 4000000 in
theorem bd_Fi_hasOctet : ∀ (Y : Nat → rz_K) (P : rz_P), (∀ b ls st μ, rz_ex P Y (bk_Fi_hasOctet b) ls st μ → Y b ls st μ) → ∀ As μ, C_Fi_hasOctet As μ P → Y 0 (rz_pad 3 (rz_ent As)) [] μ := by
  intro Y P hY As μ hC
  obtain ⟨f, k, rfl, h8, hC⟩ := hC
  refine hY 0 _ _ _ (And.intro (fun h => ?_) (fun h0 => And.intro (fun h => ?_) (fun h1 => And.intro (fun h => ?_) (fun h2 => And.intro ?_ (And.intro (fun h => ?_) (fun h3 => ?_))))))
  · exact hY _ _ _ _ (hY _ _ _ _ (pF hC (fun q => q.1 h)))
  · exact hY _ _ _ _ (hY _ _ _ _ (pF hC (fun q => q.2.1 h)))
  · exact hY _ _ _ _ (hY _ _ _ _ (pF hC (fun q => q.2.2.1 h)))
  · exact vi_lt (m := 8) (Int32.not_lt.mp h0) (Int32.lt_of_lt_of_le (Int32.not_le.mp h1) h8)
  · exact hY _ _ _ _ (hY _ _ _ _ (pF hC (fun q => q.2.2.2 h)))
  · exact hY _ _ _ _ (pT hC ⟨h0, h1, h2, h3⟩)
theorem m_Fi_hasOctet (E : rz_E) : rz_MI SH CL E y_Fi_hasOctet 3 (Cond.code y_Fi_hasOctet c_Fi_hasOctet 3 (some .boolean) :: rz_tbl) ({ frames := 0, cells := 0, slots := 0, locals := 0 }) C_Fi_hasOctet := rz_metI (by decide) rfl (fun X _ G => sd_Fi_hasOctet X G) bd_Fi_hasOctet
theorem cd_Fi_hasOctet : rz_Cd rz_tbl y_Fi_hasOctet c_Fi_hasOctet 3 (some .boolean) (Cond.code y_Fi_hasOctet c_Fi_hasOctet 3 (some .boolean) :: rz_tbl) 2 ({ frames := 0, cells := 0, slots := 0, locals := 0 }) := ⟨rz_good wd_489, ⟨_, rfl⟩, wd_44, by decide +kernel, rfl, rfl⟩
def C_Fi_octet : rz_C := fun As μ P => ∃ f k : Int32, As = [.ref 7, .int f, .int k] ∧ μ 7 6 ≤ 8 ∧ (¬ f < 0 ∧ ¬ μ 7 6 ≤ f ∧ ¬ k < 0 ∧ ¬ μ 10 f.toNatClampNeg ≤ k) ∧ ¬ 24 ≤ k ∧ P (some (.int (μ 13 (f * 24 + k).toNatClampNeg))) μ
def bk_Fi_octet : Nat → List rz_T := fun b => match b with
  | 0 => [tz_aload 0, tz_iload 1, tz_iload 2, tz_cv SH 2 2 3 C_Fi_hasOctet, tz_if_eq 1, tz_aload 0, tz_get SH 2 5, tz_iload 1, tz_bipush 24, tz_imul, tz_iload 2, tz_iadd, tz_iald SH, tz_goto 2]
  | 1 => [tz_iconst 0, tz_fall 2]
  | 2 => [tz_iret]
  | _ => []
def bp_Fi_octet : Nat → Nat := fun b => match b with
  | 0 => 0
  | 1 => 23
  | 2 => 24
  | _ => 0
set_option maxRecDepth 100000 in
set_option maxHeartbeats 4000000 in
theorem sd_Fi_octet (X : rz_X) (G : rz_Cx CL X c_Fi_octet 3 rz_tbl R_Fi ({ frames := 1, cells := 0, slots := 0, locals := 22 })) : ∀ b, rz_SB SH CL X bp_Fi_octet (rz_RI SH CL X c_Fi_octet (fun v => narrow .int (.int v) = .int v)) (bk_Fi_octet b) (bp_Fi_octet b) := fun b => match b with
  | 0 => (rz_cons (rz_aload_n G d_Fi_octet_0 rfl) (rz_cons (rz_iload_n G d_Fi_octet_1 rfl) (rz_cons (rz_iload_n G d_Fi_octet_2 rfl) (rz_cons (rz_cvi G (m_Fi_hasOctet X.1) cd_Fi_hasOctet wd_497 wd_487 wd_488 rfl rfl (by decide) d_Fi_octet_3) (rz_cons (rz_if_eq G d_Fi_octet_6 (by decide)) (rz_cons (rz_aload_n G d_Fi_octet_9 rfl) (rz_cons (rz_get G rfl in_Fi (by decide) wd_130 d_Fi_octet_10) (rz_cons (rz_iload_n G d_Fi_octet_13 rfl) (rz_cons (rz_bipush G d_Fi_octet_14 (by decide)) (rz_cons (rz_imul G d_Fi_octet_16) (rz_cons (rz_iload_n G d_Fi_octet_17 rfl) (rz_cons (rz_iadd G d_Fi_octet_18) (rz_cons (rz_iald G d_Fi_octet_19) (rz_cons (rz_goto (npc := 0) G d_Fi_octet_20 (by decide)) rz_nil))))))))))))))
  | 1 => (rz_cons (rz_iconst G d_Fi_octet_23 (by decide)) (rz_fall rfl))
  | 2 => (rz_cons (rz_iret (npc := 0) (fun _ => rfl) d_Fi_octet_24) rz_nil)
  | _ + 3 => rz_nil
set_option maxRecDepth 100000 in
set_option maxHeartbeats 4000000 in
theorem bd_Fi_octet : ∀ (Y : Nat → rz_K) (P : rz_P), (∀ b ls st μ, rz_ex P Y (bk_Fi_octet b) ls st μ → Y b ls st μ) → ∀ As μ, C_Fi_octet As μ P → Y 0 (rz_pad 3 (rz_ent As)) [] μ := by
  intro Y P hY As μ hC
  obtain ⟨f, k, rfl, h8, hh, h24, hC⟩ := hC
  refine hY 0 _ _ _ ⟨f, k, rfl, h8, And.intro (fun h => absurd hh (b2_eq h)) (fun _ => And.intro ?_ (hY _ _ _ _ hC))⟩
  obtain ⟨h0, h1, h2, h3⟩ := hh
  rw [vp_in_iff]
  rw [i_lt] at h0 h2
  rw [i_le] at h1 h8 h24
  have e0 : (0 : Int32).toInt = 0 := rfl
  have e1 : (24 : Int32).toInt = 24 := rfl
  have e8 : (8 : Int32).toInt = 8 := rfl
  have em : (f * 24).toInt = f.toInt * 24 := by rw [i_mul (by rw [e1]; omega) (by rw [e1]; omega), e1]
  rw [i_add (by omega) (by omega)]
  omega
theorem m_Fi_octet (E : rz_E) : rz_MI SH CL E y_Fi_octet 3 (Cond.code y_Fi_octet c_Fi_octet 3 (some .int) :: rz_tbl) ({ frames := 1, cells := 0, slots := 0, locals := 22 }) C_Fi_octet := rz_metI (by decide) rfl (fun X _ G => sd_Fi_octet X G) bd_Fi_octet
theorem cd_Fi_octet : rz_Cd rz_tbl y_Fi_octet c_Fi_octet 3 (some .int) (Cond.code y_Fi_octet c_Fi_octet 3 (some .int) :: rz_tbl) 2 ({ frames := 1, cells := 0, slots := 0, locals := 22 }) := ⟨rz_good wd_496, ⟨_, rfl⟩, wd_44, by decide +kernel, rfl, rfl⟩
def f_put (f k o : Int32) (μ : rz_M) : rz_M := if f * 24 + k < 0 then μ else if 192 ≤ f * 24 + k then μ else rz_up μ 13 (f * 24 + k).toNatClampNeg o
def C_Fi_put : rz_C := fun As μ P => ∃ f k o : Int32, As = [.ref 7, .int f, .int k, .int o] ∧ P none (f_put f k o μ)
def bk_Fi_put : Nat → List rz_T := fun b => match b with
  | 0 => [tz_iload 1, tz_bipush 24, tz_imul, tz_iload 2, tz_iadd, tz_istore 4, tz_iload 4, tz_if_lt 1, tz_iload 4, tz_aload 0, tz_get SH 2 5, tz_alen SH, tz_icmp_ge 1, tz_aload 0, tz_get SH 2 5, tz_iload 4, tz_iload 3, tz_iast SH, tz_fall 1]
  | 1 => [tz_vret]
  | _ => []
def bp_Fi_put : Nat → Nat := fun b => match b with
  | 0 => 0
  | 1 => 31
  | _ => 0
set_option maxRecDepth 100000 in
set_option maxHeartbeats 4000000 in
theorem sd_Fi_put (X : rz_X) (G : rz_Cx CL X c_Fi_put 5 rz_tbl R_Fi ({ frames := 0, cells := 0, slots := 0, locals := 0 })) : ∀ b, rz_SB SH CL X bp_Fi_put (rz_RV SH CL X c_Fi_put) (bk_Fi_put b) (bp_Fi_put b) := fun b => match b with
  | 0 => (rz_cons (rz_iload_n G d_Fi_put_0 rfl) (rz_cons (rz_bipush G d_Fi_put_1 (by decide)) (rz_cons (rz_imul G d_Fi_put_3) (rz_cons (rz_iload_n G d_Fi_put_4 rfl) (rz_cons (rz_iadd G d_Fi_put_5) (rz_cons (rz_istore G d_Fi_put_6 (by decide)) (rz_cons (rz_iload G d_Fi_put_8) (rz_cons (rz_if_lt G d_Fi_put_10 (by decide)) (rz_cons (rz_iload G d_Fi_put_13) (rz_cons (rz_aload_n G d_Fi_put_15 rfl) (rz_cons (rz_get G rfl in_Fi (by decide) wd_130 d_Fi_put_16) (rz_cons (rz_alen G d_Fi_put_19) (rz_cons (rz_icmp_ge G d_Fi_put_20 (by decide)) (rz_cons (rz_aload_n G d_Fi_put_23 rfl) (rz_cons (rz_get G rfl in_Fi (by decide) wd_130 d_Fi_put_24) (rz_cons (rz_iload G d_Fi_put_27) (rz_cons (rz_iload_n G d_Fi_put_29 rfl) (rz_cons (rz_iast G d_Fi_put_30) (rz_fall rfl)))))))))))))))))))
  | 1 => (rz_cons (rz_vret (npc := 0) d_Fi_put_31) rz_nil)
  | _ + 2 => rz_nil
set_option maxRecDepth 100000 in
set_option maxHeartbeats 4000000 in
theorem bd_Fi_put : ∀ (Y : Nat → rz_K) (P : rz_P), (∀ b ls st μ, rz_ex P Y (bk_Fi_put b) ls st μ → Y b ls st μ) → ∀ As μ, C_Fi_put As μ P → Y 0 (rz_pad 5 (rz_ent As)) [] μ := by
  intro Y P hY As μ hC
  obtain ⟨f, k, o, rfl, hC⟩ := hC
  refine hY 0 _ _ _ (And.intro (fun h => hY _ _ _ _ (rzT (P none) h hC)) (fun h => And.intro (fun h2 => hY _ _ _ _ (rzT (P none) h2 (rzF (P none) h hC))) (fun h2 => And.intro ?_ (hY _ _ _ _ (rzF (P none) h2 (rzF (P none) h hC))))))
  exact vi_lt (m := 192) (Int32.not_lt.mp h) (Int32.not_le.mp h2)
theorem m_Fi_put (E : rz_E) : rz_MV SH CL E y_Fi_put 5 (Cond.code y_Fi_put c_Fi_put 5 none :: rz_tbl) ({ frames := 0, cells := 0, slots := 0, locals := 0 }) C_Fi_put := rz_metV (by decide) rfl (fun X _ G => sd_Fi_put X G) bd_Fi_put
theorem cd_Fi_put : rz_Cd rz_tbl y_Fi_put c_Fi_put 5 none (Cond.code y_Fi_put c_Fi_put 5 none :: rz_tbl) 3 ({ frames := 0, cells := 0, slots := 0, locals := 0 }) := ⟨rz_good wd_341, ⟨_, rfl⟩, wd_44, by decide +kernel, rfl, rfl⟩
def f_add (d n s r c : Int32) (μ : rz_M) : rz_M :=
  rz_up (rz_up (rz_up (rz_up (rz_up (rz_up μ 8 (μ 7 6).toNatClampNeg n) 9 (μ 7 6).toNatClampNeg d) 10 (μ 7 6).toNatClampNeg s) 11 (μ 7 6).toNatClampNeg (if s ≤ 0 then 0 else r)) 12 (μ 7 6).toNatClampNeg (if s ≤ 0 then 0 else c)) 7 6 (μ 7 6 + 1)
def C_Fi_add : rz_C := fun As μ P => ∃ d n s r c : Int32, As = [.ref 7, .int d, .int n, .int s, .int r, .int c] ∧ 0 ≤ μ 7 6 ∧ (¬ μ 7 6 < 8 → P (some (.int (-2))) μ) ∧ (μ 7 6 < 8 → P (some (.int (μ 7 6))) (f_add d n s r c μ))
def bk_Fi_add : Nat → List rz_T := fun b => match b with
  | 0 => [tz_aload 0, tz_get SH 2 6, tz_bipush 8, tz_icmp_lt 1, tz_bipush (-2), tz_iret]
  | 1 => [tz_aload 0, tz_get SH 2 0, tz_aload 0, tz_get SH 2 6, tz_iload 2, tz_iast SH, tz_aload 0, tz_get SH 2 1, tz_aload 0, tz_get SH 2 6, tz_iload 1, tz_iast SH, tz_aload 0, tz_get SH 2 2, tz_aload 0, tz_get SH 2 6, tz_iload 3, tz_iast SH, tz_aload 0, tz_get SH 2 3, tz_aload 0, tz_get SH 2 6, tz_iload 3, tz_if_le 2, tz_iload 4, tz_goto 3]
  | 2 => [tz_iconst 0, tz_fall 3]
  | 3 => [tz_iast SH, tz_aload 0, tz_get SH 2 4, tz_aload 0, tz_get SH 2 6, tz_iload 3, tz_if_le 4, tz_iload 5, tz_goto 5]
  | 4 => [tz_iconst 0, tz_fall 5]
  | 5 => [tz_iast SH, tz_aload 0, tz_dup, tz_get SH 2 6, tz_dup_x1, tz_iconst 1, tz_iadd, tz_put SH 2 6, tz_iret]
  | _ => []
def bp_Fi_add : Nat → Nat := fun b => match b with
  | 0 => 0
  | 1 => 12
  | 2 => 59
  | 3 => 60
  | 4 => 78
  | 5 => 79
  | _ => 0
set_option maxRecDepth 100000 in
set_option maxHeartbeats 4000000 in
theorem sd_Fi_add (X : rz_X) (G : rz_Cx CL X c_Fi_add 6 rz_tbl R_Fi ({ frames := 0, cells := 0, slots := 0, locals := 0 })) : ∀ b, rz_SB SH CL X bp_Fi_add (rz_RI SH CL X c_Fi_add (fun v => narrow .int (.int v) = .int v)) (bk_Fi_add b) (bp_Fi_add b) := fun b => match b with
  | 0 => (rz_cons (rz_aload_n G d_Fi_add_0 rfl) (rz_cons (rz_get G rfl in_Fi (by decide) wd_131 d_Fi_add_1) (rz_cons (rz_bipush G d_Fi_add_4 (by decide)) (rz_cons (rz_icmp_lt G d_Fi_add_6 (by decide)) (rz_cons (rz_bipush G d_Fi_add_9 (by decide)) (rz_cons (rz_iret (npc := 0) (fun _ => rfl) d_Fi_add_11) rz_nil))))))
  | 1 => (rz_cons (rz_aload_n G d_Fi_add_12 rfl) (rz_cons (rz_get G rfl in_Fi (by decide) wd_118 d_Fi_add_13) (rz_cons (rz_aload_n G d_Fi_add_16 rfl) (rz_cons (rz_get G rfl in_Fi (by decide) wd_131 d_Fi_add_17) (rz_cons (rz_iload_n G d_Fi_add_20 rfl) (rz_cons (rz_iast G d_Fi_add_21) (rz_cons (rz_aload_n G d_Fi_add_22 rfl) (rz_cons (rz_get G rfl in_Fi (by decide) wd_120 d_Fi_add_23) (rz_cons (rz_aload_n G d_Fi_add_26 rfl) (rz_cons (rz_get G rfl in_Fi (by decide) wd_131 d_Fi_add_27) (rz_cons (rz_iload_n G d_Fi_add_30 rfl) (rz_cons (rz_iast G d_Fi_add_31) (rz_cons (rz_aload_n G d_Fi_add_32 rfl) (rz_cons (rz_get G rfl in_Fi (by decide) wd_123 d_Fi_add_33) (rz_cons (rz_aload_n G d_Fi_add_36 rfl) (rz_cons (rz_get G rfl in_Fi (by decide) wd_131 d_Fi_add_37) (rz_cons (rz_iload_n G d_Fi_add_40 rfl) (rz_cons (rz_iast G d_Fi_add_41) (rz_cons (rz_aload_n G d_Fi_add_42 rfl) (rz_cons (rz_get G rfl in_Fi (by decide) wd_126 d_Fi_add_43) (rz_cons (rz_aload_n G d_Fi_add_46 rfl) (rz_cons (rz_get G rfl in_Fi (by decide) wd_131 d_Fi_add_47) (rz_cons (rz_iload_n G d_Fi_add_50 rfl) (rz_cons (rz_if_le G d_Fi_add_51 (by decide)) (rz_cons (rz_iload G d_Fi_add_54) (rz_cons (rz_goto (npc := 0) G d_Fi_add_56 (by decide)) rz_nil))))))))))))))))))))))))))
  | 2 => (rz_cons (rz_iconst G d_Fi_add_59 (by decide)) (rz_fall rfl))
  | 3 => (rz_cons (rz_iast G d_Fi_add_60) (rz_cons (rz_aload_n G d_Fi_add_61 rfl) (rz_cons (rz_get G rfl in_Fi (by decide) wd_128 d_Fi_add_62) (rz_cons (rz_aload_n G d_Fi_add_65 rfl) (rz_cons (rz_get G rfl in_Fi (by decide) wd_131 d_Fi_add_66) (rz_cons (rz_iload_n G d_Fi_add_69 rfl) (rz_cons (rz_if_le G d_Fi_add_70 (by decide)) (rz_cons (rz_iload G d_Fi_add_73) (rz_cons (rz_goto (npc := 0) G d_Fi_add_75 (by decide)) rz_nil)))))))))
  | 4 => (rz_cons (rz_iconst G d_Fi_add_78 (by decide)) (rz_fall rfl))
  | 5 => (rz_cons (rz_iast G d_Fi_add_79) (rz_cons (rz_aload_n G d_Fi_add_80 rfl) (rz_cons (rz_dup G d_Fi_add_81) (rz_cons (rz_get G rfl in_Fi (by decide) wd_131 d_Fi_add_82) (rz_cons (rz_dup_x1 G d_Fi_add_85) (rz_cons (rz_iconst G d_Fi_add_86 (by decide)) (rz_cons (rz_iadd G d_Fi_add_87) (rz_cons (rz_put G rfl in_Fi ty_Fi tyok_Fi nm_Fi (by decide) rfl (by decide +kernel) wd_131 d_Fi_add_88) (rz_cons (rz_iret (npc := 0) (fun _ => rfl) d_Fi_add_91) rz_nil)))))))))
  | _ + 6 => rz_nil
set_option maxRecDepth 100000 in
set_option maxHeartbeats 4000000 in
theorem bd_Fi_add : ∀ (Y : Nat → rz_K) (P : rz_P), (∀ b ls st μ, rz_ex P Y (bk_Fi_add b) ls st μ → Y b ls st μ) → ∀ As μ, C_Fi_add As μ P → Y 0 (rz_pad 6 (rz_ent As)) [] μ := by
  intro Y P hY As μ hC
  obtain ⟨d, n, s, r, c, rfl, h0, hC1, hC2⟩ := hC
  refine hY 0 _ _ _ (And.intro (fun h => ?_) (fun h => ?_))
  · refine hY _ _ _ _ ?_
    have hv : vp_in (μ 7 6) 8 := vi_lt (m := 8) h0 h
    refine And.intro hv (And.intro hv (And.intro hv (And.intro (fun hs => ?_) (fun hs => ?_))))
    · refine hY _ _ _ _ (hY _ _ _ _ (And.intro hv (And.intro (fun _ => ?_) (fun h => absurd hs h))))
      refine hY _ _ _ _ (hY _ _ _ _ (And.intro hv ?_))
      have := hC2 h
      unfold f_add at this
      rw [if_pos hs, if_pos hs] at this
      exact this
    · refine hY _ _ _ _ (And.intro hv (And.intro (fun h => absurd h hs) (fun _ => ?_)))
      refine hY _ _ _ _ (And.intro hv ?_)
      have := hC2 h
      unfold f_add at this
      rw [if_neg hs, if_neg hs] at this
      exact this
  · exact hC1 h
theorem m_Fi_add (E : rz_E) : rz_MI SH CL E y_Fi_add 6 (Cond.code y_Fi_add c_Fi_add 6 (some .int) :: rz_tbl) ({ frames := 0, cells := 0, slots := 0, locals := 0 }) C_Fi_add := rz_metI (by decide) rfl (fun X _ G => sd_Fi_add X G) bd_Fi_add
theorem cd_Fi_add : rz_Cd rz_tbl y_Fi_add c_Fi_add 6 (some .int) (Cond.code y_Fi_add c_Fi_add 6 (some .int) :: rz_tbl) 5 ({ frames := 0, cells := 0, slots := 0, locals := 0 }) := ⟨rz_good wd_293, ⟨_, rfl⟩, wd_44, by decide +kernel, rfl, rfl⟩
def p_al (r o : Int32) : Prop := r = 0 ∨ (r = 1 ∧ ¬ o = 0)
def C_Fi_allows : rz_C := fun As μ P => ∃ r o : Int32, As = [.int r, .int o] ∧ P (some (.int (b2 (r = 0 ∨ (r = 1 ∧ ¬ o = 0))))) μ
def bk_Fi_allows : Nat → List rz_T := fun b => match b with
  | 0 => [tz_iload 0, tz_if_eq 1, tz_iload 0, tz_iconst 1, tz_icmp_ne 2, tz_iload 1, tz_if_eq 2, tz_fall 1]
  | 1 => [tz_iconst 1, tz_goto 3]
  | 2 => [tz_iconst 0, tz_fall 3]
  | 3 => [tz_zret]
  | _ => []
def bp_Fi_allows : Nat → Nat := fun b => match b with
  | 0 => 0
  | 1 => 13
  | 2 => 17
  | 3 => 18
  | _ => 0
set_option maxRecDepth 100000 in
set_option maxHeartbeats 4000000 in
theorem sd_Fi_allows (X : rz_X) (G : rz_Cx CL X c_Fi_allows 2 rz_tbl R_Fi ({ frames := 0, cells := 0, slots := 0, locals := 0 })) : ∀ b, rz_SB SH CL X bp_Fi_allows (rz_RI SH CL X c_Fi_allows (fun v => narrow .boolean (.int v) = .int v)) (bk_Fi_allows b) (bp_Fi_allows b) := fun b => match b with
  | 0 => (rz_cons (rz_iload_n G d_Fi_allows_0 rfl) (rz_cons (rz_if_eq G d_Fi_allows_1 (by decide)) (rz_cons (rz_iload_n G d_Fi_allows_4 rfl) (rz_cons (rz_iconst G d_Fi_allows_5 (by decide)) (rz_cons (rz_icmp_ne G d_Fi_allows_6 (by decide)) (rz_cons (rz_iload_n G d_Fi_allows_9 rfl) (rz_cons (rz_if_eq G d_Fi_allows_10 (by decide)) (rz_fall rfl))))))))
  | 1 => (rz_cons (rz_iconst G d_Fi_allows_13 (by decide)) (rz_cons (rz_goto (npc := 0) G d_Fi_allows_14 (by decide)) rz_nil))
  | 2 => (rz_cons (rz_iconst G d_Fi_allows_17 (by decide)) (rz_fall rfl))
  | 3 => (rz_cons (rz_zret (npc := 0) (by rintro v (rfl | rfl) <;> rfl) d_Fi_allows_18) rz_nil)
  | _ + 4 => rz_nil
set_option maxRecDepth 100000 in
set_option maxHeartbeats 4000000 in
theorem bd_Fi_allows : ∀ (Y : Nat → rz_K) (P : rz_P), (∀ b ls st μ, rz_ex P Y (bk_Fi_allows b) ls st μ → Y b ls st μ) → ∀ As μ, C_Fi_allows As μ P → Y 0 (rz_pad 2 (rz_ent As)) [] μ := by
  intro Y P hY As μ hC
  obtain ⟨r, o, rfl, hC⟩ := hC
  refine hY 0 _ _ _ ?_
  repeat' (first | (refine And.intro (fun _ => ?_) (fun _ => ?_)) | (refine hY _ _ _ _ ?_))
  all_goals first | exact pT hC (by clear hC hY; simp_all) | exact pF hC (by clear hC hY; simp_all)
theorem m_Fi_allows (E : rz_E) : rz_MI SH CL E y_Fi_allows 2 (Cond.code y_Fi_allows c_Fi_allows 2 (some .boolean) :: rz_tbl) ({ frames := 0, cells := 0, slots := 0, locals := 0 }) C_Fi_allows := rz_metI (by decide) rfl (fun X _ G => sd_Fi_allows X G) bd_Fi_allows
theorem cd_Fi_allows : rz_Cd rz_tbl y_Fi_allows c_Fi_allows 2 (some .boolean) (Cond.code y_Fi_allows c_Fi_allows 2 (some .boolean) :: rz_tbl) 2 ({ frames := 0, cells := 0, slots := 0, locals := 0 }) := ⟨rz_good wd_481, ⟨_, rfl⟩, wd_44, by decide +kernel, rfl, rfl⟩
def C_Fi_mayRead : rz_C := fun As μ P => ∃ f o : Int32, As = [.ref 7, .int f, .int o] ∧ μ 7 6 ≤ 8 ∧ P (some (.int (b2 ((¬ f < 0 ∧ ¬ μ 7 6 ≤ f) ∧ (μ 11 f.toNatClampNeg = 0 ∨ (μ 11 f.toNatClampNeg = 1 ∧ ¬ o = 0)))))) μ
def bk_Fi_mayRead : Nat → List rz_T := fun b => match b with
  | 0 => [tz_aload 0, tz_iload 1, tz_cv SH 1 2 2 C_Fi_has, tz_if_eq 1, tz_aload 0, tz_get SH 2 3, tz_iload 1, tz_iald SH, tz_iload 2, tz_cs 2 2 C_Fi_allows, tz_if_eq 1, tz_iconst 1, tz_goto 2]
  | 1 => [tz_iconst 0, tz_fall 2]
  | 2 => [tz_zret]
  | _ => []
def bp_Fi_mayRead : Nat → Nat := fun b => match b with
  | 0 => 0
  | 1 => 25
  | 2 => 26
  | _ => 0
set_option maxRecDepth 100000 in
set_option maxHeartbeats 4000000 in
theorem sd_Fi_mayRead (X : rz_X) (G : rz_Cx CL X c_Fi_mayRead 3 rz_tbl R_Fi ({ frames := 1, cells := 0, slots := 0, locals := 21 })) : ∀ b, rz_SB SH CL X bp_Fi_mayRead (rz_RI SH CL X c_Fi_mayRead (fun v => narrow .boolean (.int v) = .int v)) (bk_Fi_mayRead b) (bp_Fi_mayRead b) := fun b => match b with
  | 0 => (rz_cons (rz_aload_n G d_Fi_mayRead_0 rfl) (rz_cons (rz_iload_n G d_Fi_mayRead_1 rfl) (rz_cons (rz_cvi G (m_Fi_has X.1) cd_Fi_has wd_283 wd_284 wd_285 rfl rfl (by decide) d_Fi_mayRead_2) (rz_cons (rz_if_eq G d_Fi_mayRead_5 (by decide)) (rz_cons (rz_aload_n G d_Fi_mayRead_8 rfl) (rz_cons (rz_get G rfl in_Fi (by decide) wd_126 d_Fi_mayRead_9) (rz_cons (rz_iload_n G d_Fi_mayRead_12 rfl) (rz_cons (rz_iald G d_Fi_mayRead_13) (rz_cons (rz_iload_n G d_Fi_mayRead_14 rfl) (rz_cons (rz_csi G (m_Fi_allows X.1) cd_Fi_allows wd_479 wd_480 (by decide) d_Fi_mayRead_15) (rz_cons (rz_if_eq G d_Fi_mayRead_18 (by decide)) (rz_cons (rz_iconst G d_Fi_mayRead_21 (by decide)) (rz_cons (rz_goto (npc := 0) G d_Fi_mayRead_22 (by decide)) rz_nil)))))))))))))
  | 1 => (rz_cons (rz_iconst G d_Fi_mayRead_25 (by decide)) (rz_fall rfl))
  | 2 => (rz_cons (rz_zret (npc := 0) (by rintro v (rfl | rfl) <;> rfl) d_Fi_mayRead_26) rz_nil)
  | _ + 3 => rz_nil
set_option maxRecDepth 100000 in
set_option maxHeartbeats 4000000 in
theorem bd_Fi_mayRead : ∀ (Y : Nat → rz_K) (P : rz_P), (∀ b ls st μ, rz_ex P Y (bk_Fi_mayRead b) ls st μ → Y b ls st μ) → ∀ As μ, C_Fi_mayRead As μ P → Y 0 (rz_pad 3 (rz_ent As)) [] μ := by
  intro Y P hY As μ hC
  obtain ⟨f, o, rfl, h8, hC⟩ := hC
  refine hY 0 _ _ _ ⟨f, rfl, And.intro (fun h => ?_) (fun h => And.intro ?_ ⟨_, _, rfl, And.intro (fun h2 => ?_) (fun h2 => ?_)⟩)⟩
  · exact hY _ _ _ _ (hY _ _ _ _ (pF hC (fun q => b2_eq h q.1)))
  · have := b2_ne h
    exact vi_lt (m := 8) (Int32.not_lt.mp this.1) (Int32.lt_of_lt_of_le (Int32.not_le.mp this.2) h8)
  · exact hY _ _ _ _ (hY _ _ _ _ (pF hC (fun q => b2_eq h2 q.2)))
  · exact hY _ _ _ _ (pT hC ⟨b2_ne h, b2_ne h2⟩)
theorem m_Fi_mayRead (E : rz_E) : rz_MI SH CL E y_Fi_mayRead 3 (Cond.code y_Fi_mayRead c_Fi_mayRead 3 (some .boolean) :: rz_tbl) ({ frames := 1, cells := 0, slots := 0, locals := 21 }) C_Fi_mayRead := rz_metI (by decide) rfl (fun X _ G => sd_Fi_mayRead X G) bd_Fi_mayRead
theorem cd_Fi_mayRead : rz_Cd rz_tbl y_Fi_mayRead c_Fi_mayRead 3 (some .boolean) (Cond.code y_Fi_mayRead c_Fi_mayRead 3 (some .boolean) :: rz_tbl) 2 ({ frames := 1, cells := 0, slots := 0, locals := 21 }) := ⟨rz_good wd_478, ⟨_, rfl⟩, wd_44, by decide +kernel, rfl, rfl⟩
def C_Fi_mayChange : rz_C := fun As μ P => ∃ f o : Int32, As = [.ref 7, .int f, .int o] ∧ μ 7 6 ≤ 8 ∧ P (some (.int (b2 ((¬ f < 0 ∧ ¬ μ 7 6 ≤ f) ∧ (μ 12 f.toNatClampNeg = 0 ∨ (μ 12 f.toNatClampNeg = 1 ∧ ¬ o = 0)))))) μ
def bk_Fi_mayChange : Nat → List rz_T := fun b => match b with
  | 0 => [tz_aload 0, tz_iload 1, tz_cv SH 1 2 2 C_Fi_has, tz_if_eq 1, tz_aload 0, tz_get SH 2 4, tz_iload 1, tz_iald SH, tz_iload 2, tz_cs 2 2 C_Fi_allows, tz_if_eq 1, tz_iconst 1, tz_goto 2]
  | 1 => [tz_iconst 0, tz_fall 2]
  | 2 => [tz_zret]
  | _ => []
def bp_Fi_mayChange : Nat → Nat := fun b => match b with
  | 0 => 0
  | 1 => 25
  | 2 => 26
  | _ => 0
set_option maxRecDepth 100000 in
set_option maxHeartbeats 4000000 in
theorem sd_Fi_mayChange (X : rz_X) (G : rz_Cx CL X c_Fi_mayChange 3 rz_tbl R_Fi ({ frames := 1, cells := 0, slots := 0, locals := 21 })) : ∀ b, rz_SB SH CL X bp_Fi_mayChange (rz_RI SH CL X c_Fi_mayChange (fun v => narrow .boolean (.int v) = .int v)) (bk_Fi_mayChange b) (bp_Fi_mayChange b) := fun b => match b with
  | 0 => (rz_cons (rz_aload_n G d_Fi_mayChange_0 rfl) (rz_cons (rz_iload_n G d_Fi_mayChange_1 rfl) (rz_cons (rz_cvi G (m_Fi_has X.1) cd_Fi_has wd_283 wd_284 wd_285 rfl rfl (by decide) d_Fi_mayChange_2) (rz_cons (rz_if_eq G d_Fi_mayChange_5 (by decide)) (rz_cons (rz_aload_n G d_Fi_mayChange_8 rfl) (rz_cons (rz_get G rfl in_Fi (by decide) wd_128 d_Fi_mayChange_9) (rz_cons (rz_iload_n G d_Fi_mayChange_12 rfl) (rz_cons (rz_iald G d_Fi_mayChange_13) (rz_cons (rz_iload_n G d_Fi_mayChange_14 rfl) (rz_cons (rz_csi G (m_Fi_allows X.1) cd_Fi_allows wd_479 wd_480 (by decide) d_Fi_mayChange_15) (rz_cons (rz_if_eq G d_Fi_mayChange_18 (by decide)) (rz_cons (rz_iconst G d_Fi_mayChange_21 (by decide)) (rz_cons (rz_goto (npc := 0) G d_Fi_mayChange_22 (by decide)) rz_nil)))))))))))))
  | 1 => (rz_cons (rz_iconst G d_Fi_mayChange_25 (by decide)) (rz_fall rfl))
  | 2 => (rz_cons (rz_zret (npc := 0) (by rintro v (rfl | rfl) <;> rfl) d_Fi_mayChange_26) rz_nil)
  | _ + 3 => rz_nil
set_option maxRecDepth 100000 in
set_option maxHeartbeats 4000000 in
theorem bd_Fi_mayChange : ∀ (Y : Nat → rz_K) (P : rz_P), (∀ b ls st μ, rz_ex P Y (bk_Fi_mayChange b) ls st μ → Y b ls st μ) → ∀ As μ, C_Fi_mayChange As μ P → Y 0 (rz_pad 3 (rz_ent As)) [] μ := by
  intro Y P hY As μ hC
  obtain ⟨f, o, rfl, h8, hC⟩ := hC
  refine hY 0 _ _ _ ⟨f, rfl, And.intro (fun h => ?_) (fun h => And.intro ?_ ⟨_, _, rfl, And.intro (fun h2 => ?_) (fun h2 => ?_)⟩)⟩
  · exact hY _ _ _ _ (hY _ _ _ _ (pF hC (fun q => b2_eq h q.1)))
  · have := b2_ne h
    exact vi_lt (m := 8) (Int32.not_lt.mp this.1) (Int32.lt_of_lt_of_le (Int32.not_le.mp this.2) h8)
  · exact hY _ _ _ _ (hY _ _ _ _ (pF hC (fun q => b2_eq h2 q.2)))
  · exact hY _ _ _ _ (pT hC ⟨b2_ne h, b2_ne h2⟩)
theorem m_Fi_mayChange (E : rz_E) : rz_MI SH CL E y_Fi_mayChange 3 (Cond.code y_Fi_mayChange c_Fi_mayChange 3 (some .boolean) :: rz_tbl) ({ frames := 1, cells := 0, slots := 0, locals := 21 }) C_Fi_mayChange := rz_metI (by decide) rfl (fun X _ G => sd_Fi_mayChange X G) bd_Fi_mayChange
theorem cd_Fi_mayChange : rz_Cd rz_tbl y_Fi_mayChange c_Fi_mayChange 3 (some .boolean) (Cond.code y_Fi_mayChange c_Fi_mayChange 3 (some .boolean) :: rz_tbl) 2 ({ frames := 1, cells := 0, slots := 0, locals := 21 }) := ⟨rz_good wd_509, ⟨_, rfl⟩, wd_44, by decide +kernel, rfl, rfl⟩
/-- the least f from i on (of at most d) that has the name and the directory; -1 if none -/
def f_find (μ : rz_M) (d n : Int32) : Nat → Nat → Int32
  | 0, _ => -1
  | k + 1, i => if μ 9 i = d ∧ μ 8 i = n then nI i else f_find μ d n k (i + 1)
def C_Fi_find : rz_C := fun As μ P => ∃ (d n : Int32) (c : Nat), As = [.ref 7, .int d, .int n] ∧ μ 7 6 = nI c ∧ 1 ≤ c ∧ c ≤ 8 ∧ P (some (.int (if n = 16128 then 0 else f_find μ d n (c - 1) 1))) μ
def bk_Fi_find : Nat → List rz_T := fun b => match b with
  | 0 => [tz_iload 2, tz_sipush 16128, tz_icmp_ne 1, tz_iconst 0, tz_iret]
  | 1 => [tz_iconst 1, tz_istore 3, tz_fall 2]
  | 2 => [tz_iload 3, tz_aload 0, tz_get SH 2 6, tz_icmp_ge 4, tz_aload 0, tz_get SH 2 1, tz_iload 3, tz_iald SH, tz_iload 1, tz_icmp_ne 3, tz_aload 0, tz_get SH 2 0, tz_iload 3, tz_iald SH, tz_iload 2, tz_icmp_ne 3, tz_iload 3, tz_iret]
  | 3 => [tz_iinc 3 1, tz_goto 2]
  | 4 => [tz_iconst (-1), tz_iret]
  | _ => []
def bp_Fi_find : Nat → Nat := fun b => match b with
  | 0 => 0
  | 1 => 9
  | 2 => 11
  | 3 => 41
  | 4 => 47
  | _ => 0
set_option maxRecDepth 100000 in
set_option maxHeartbeats 4000000 in
theorem sd_Fi_find (X : rz_X) (G : rz_Cx CL X c_Fi_find 4 rz_tbl R_Fi ({ frames := 0, cells := 0, slots := 0, locals := 0 })) : ∀ b, rz_SB SH CL X bp_Fi_find (rz_RI SH CL X c_Fi_find (fun v => narrow .int (.int v) = .int v)) (bk_Fi_find b) (bp_Fi_find b) := fun b => match b with
  | 0 => (rz_cons (rz_iload_n G d_Fi_find_0 rfl) (rz_cons (rz_sipush G d_Fi_find_1 (by decide)) (rz_cons (rz_icmp_ne G d_Fi_find_4 (by decide)) (rz_cons (rz_iconst G d_Fi_find_7 (by decide)) (rz_cons (rz_iret (npc := 0) (fun _ => rfl) d_Fi_find_8) rz_nil)))))
  | 1 => (rz_cons (rz_iconst G d_Fi_find_9 (by decide)) (rz_cons (rz_istore_n G d_Fi_find_10 rfl (by decide)) (rz_fall rfl)))
  | 2 => (rz_cons (rz_iload_n G d_Fi_find_11 rfl) (rz_cons (rz_aload_n G d_Fi_find_12 rfl) (rz_cons (rz_get G rfl in_Fi (by decide) wd_131 d_Fi_find_13) (rz_cons (rz_icmp_ge G d_Fi_find_16 (by decide)) (rz_cons (rz_aload_n G d_Fi_find_19 rfl) (rz_cons (rz_get G rfl in_Fi (by decide) wd_120 d_Fi_find_20) (rz_cons (rz_iload_n G d_Fi_find_23 rfl) (rz_cons (rz_iald G d_Fi_find_24) (rz_cons (rz_iload_n G d_Fi_find_25 rfl) (rz_cons (rz_icmp_ne G d_Fi_find_26 (by decide)) (rz_cons (rz_aload_n G d_Fi_find_29 rfl) (rz_cons (rz_get G rfl in_Fi (by decide) wd_118 d_Fi_find_30) (rz_cons (rz_iload_n G d_Fi_find_33 rfl) (rz_cons (rz_iald G d_Fi_find_34) (rz_cons (rz_iload_n G d_Fi_find_35 rfl) (rz_cons (rz_icmp_ne G d_Fi_find_36 (by decide)) (rz_cons (rz_iload_n G d_Fi_find_39 rfl) (rz_cons (rz_iret (npc := 0) (fun _ => rfl) d_Fi_find_40) rz_nil))))))))))))))))))
  | 3 => (rz_cons (rz_iinc G d_Fi_find_41 (by decide) (by decide)) (rz_cons (rz_goto (npc := 0) G d_Fi_find_44 (by decide)) rz_nil))
  | 4 => (rz_cons (rz_iconst G d_Fi_find_47 (by decide)) (rz_cons (rz_iret (npc := 0) (fun _ => rfl) d_Fi_find_48) rz_nil))
  | _ + 5 => rz_nil
set_option maxRecDepth 100000 in
set_option maxHeartbeats 4000000 in
theorem bd_Fi_find : ∀ (Y : Nat → rz_K) (P : rz_P), (∀ b ls st μ, rz_ex P Y (bk_Fi_find b) ls st μ → Y b ls st μ) → ∀ As μ, C_Fi_find As μ P → Y 0 (rz_pad 4 (rz_ent As)) [] μ := by
  intro Y P hY As μ hC
  obtain ⟨d, n, c, rfl, hc, h1, h8, hC⟩ := hC
  refine hY 0 _ _ _ (And.intro (fun h => ?_) (fun h => ?_))
  · have hC := rzF (fun z => P (some (.int z)) μ) h hC
    have loop : ∀ k i, i + k = c → 1 ≤ i → P (some (.int (f_find μ d n k i))) μ → Y 2 [some (.ref 7), some (.int d), some (.int n), some (.int (nI i))] [] μ := by
      intro k
      induction k with
      | zero =>
        intro i hi h1 hp
        have : i = c := by omega
        subst this
        refine hY 2 _ _ _ (And.intro (fun _ => hY _ _ _ _ hp) (fun h => absurd ?_ h))
        rw [hc]; exact Int32.le_refl _
      | succ k ih =>
        intro i hi h1 hp
        refine hY 2 _ _ _ (And.intro (fun h => absurd h ?_) (fun _ => And.intro (vp_in_nI (by omega) (by omega)) (And.intro (fun h => ?_) (fun h => And.intro (vp_in_nI (by omega) (by omega)) (And.intro (fun h2 => ?_) (fun h2 => ?_))))))
        · rw [hc]; exact nI_ge (by omega) (by omega)
        · rw [nI_clamp (by omega)] at h
          refine hY _ _ _ _ ?_
          have := ih (i + 1) (by omega) (by omega) (rzF (fun z => P (some (.int z)) μ) (fun q => h q.1) hp)
          rw [nI_succ] at this
          exact this
        · rw [nI_clamp (by omega)] at h h2
          refine hY _ _ _ _ ?_
          have := ih (i + 1) (by omega) (by omega) (rzF (fun z => P (some (.int z)) μ) (fun q => h2 q.2) hp)
          rw [nI_succ] at this
          exact this
        · rw [nI_clamp (by omega)] at h h2
          exact rzT (fun z => P (some (.int z)) μ) ⟨h, h2⟩ hp
    refine hY _ _ _ _ ?_
    exact loop (c - 1) 1 (by omega) (by omega) hC
  · have hC := rzT (fun z => P (some (.int z)) μ) h hC
    exact hC
theorem m_Fi_find (E : rz_E) : rz_MI SH CL E y_Fi_find 4 (Cond.code y_Fi_find c_Fi_find 4 (some .int) :: rz_tbl) ({ frames := 0, cells := 0, slots := 0, locals := 0 }) C_Fi_find := rz_metI (by decide) rfl (fun X _ G => sd_Fi_find X G) bd_Fi_find
theorem cd_Fi_find : rz_Cd rz_tbl y_Fi_find c_Fi_find 4 (some .int) (Cond.code y_Fi_find c_Fi_find 4 (some .int) :: rz_tbl) 2 ({ frames := 0, cells := 0, slots := 0, locals := 0 }) := ⟨rz_good wd_457, ⟨_, rfl⟩, wd_44, by decide +kernel, rfl, rfl⟩
end
section
def f_w (μ : rz_M) : rz_M := if ¬ μ 6 10 = 0 then rz_up (if μ 6 10 ≤ 0 then μ else rz_up μ 6 10 (μ 6 10 - 1)) 6 8 (μ 6 8 + 1) else rz_up (rz_up μ 6 10 (-1)) 6 9 (μ 6 9 + 1)
def C_Me_mayWrite : rz_C := fun As μ P => As = [.ref 6] ∧ P (some (.int (b2 (¬ μ 6 10 = 0)))) (f_w μ)
def bk_Me_mayWrite : Nat → List rz_T := fun b => match b with
  | 0 => [tz_aload 0, tz_get SH 4 10, tz_if_ne 1, tz_aload 0, tz_iconst (-1), tz_put SH 4 10, tz_aload 0, tz_dup, tz_get SH 4 9, tz_iconst 1, tz_iadd, tz_put SH 4 9, tz_iconst 0, tz_zret]
  | 1 => [tz_aload 0, tz_get SH 4 10, tz_if_le 2, tz_aload 0, tz_dup, tz_get SH 4 10, tz_iconst 1, tz_isub, tz_put SH 4 10, tz_fall 2]
  | 2 => [tz_aload 0, tz_dup, tz_get SH 4 8, tz_iconst 1, tz_iadd, tz_put SH 4 8, tz_iconst 1, tz_zret]
  | _ => []
def bp_Me_mayWrite : Nat → Nat := fun b => match b with
  | 0 => 0
  | 1 => 24
  | 2 => 41
  | _ => 0
set_option maxRecDepth 100000 in
set_option maxHeartbeats 4000000 in
theorem sd_Me_mayWrite (X : rz_X) (G : rz_Cx CL X c_Me_mayWrite 1 rz_tbl R_Me ({ frames := 0, cells := 0, slots := 0, locals := 0 })) : ∀ b, rz_SB SH CL X bp_Me_mayWrite (rz_RI SH CL X c_Me_mayWrite (fun v => narrow .boolean (.int v) = .int v)) (bk_Me_mayWrite b) (bp_Me_mayWrite b) := fun b => match b with
  | 0 => (rz_cons (rz_aload_n G d_Me_mayWrite_0 rfl) (rz_cons (rz_get G rfl in_Me (by decide) wd_166 d_Me_mayWrite_1) (rz_cons (rz_if_ne G d_Me_mayWrite_4 (by decide)) (rz_cons (rz_aload_n G d_Me_mayWrite_7 rfl) (rz_cons (rz_iconst G d_Me_mayWrite_8 (by decide)) (rz_cons (rz_put G rfl in_Me ty_Me tyok_Me nm_Me (by decide) rfl (by decide +kernel) wd_166 d_Me_mayWrite_9) (rz_cons (rz_aload_n G d_Me_mayWrite_12 rfl) (rz_cons (rz_dup G d_Me_mayWrite_13) (rz_cons (rz_get G rfl in_Me (by decide) wd_164 d_Me_mayWrite_14) (rz_cons (rz_iconst G d_Me_mayWrite_17 (by decide)) (rz_cons (rz_iadd G d_Me_mayWrite_18) (rz_cons (rz_put G rfl in_Me ty_Me tyok_Me nm_Me (by decide) rfl (by decide +kernel) wd_164 d_Me_mayWrite_19) (rz_cons (rz_iconst G d_Me_mayWrite_22 (by decide)) (rz_cons (rz_zret (npc := 0) (by rintro v (rfl | rfl) <;> rfl) d_Me_mayWrite_23) rz_nil))))))))))))))
  | 1 => (rz_cons (rz_aload_n G d_Me_mayWrite_24 rfl) (rz_cons (rz_get G rfl in_Me (by decide) wd_166 d_Me_mayWrite_25) (rz_cons (rz_if_le G d_Me_mayWrite_28 (by decide)) (rz_cons (rz_aload_n G d_Me_mayWrite_31 rfl) (rz_cons (rz_dup G d_Me_mayWrite_32) (rz_cons (rz_get G rfl in_Me (by decide) wd_166 d_Me_mayWrite_33) (rz_cons (rz_iconst G d_Me_mayWrite_36 (by decide)) (rz_cons (rz_isub G d_Me_mayWrite_37) (rz_cons (rz_put G rfl in_Me ty_Me tyok_Me nm_Me (by decide) rfl (by decide +kernel) wd_166 d_Me_mayWrite_38) (rz_fall rfl))))))))))
  | 2 => (rz_cons (rz_aload_n G d_Me_mayWrite_41 rfl) (rz_cons (rz_dup G d_Me_mayWrite_42) (rz_cons (rz_get G rfl in_Me (by decide) wd_162 d_Me_mayWrite_43) (rz_cons (rz_iconst G d_Me_mayWrite_46 (by decide)) (rz_cons (rz_iadd G d_Me_mayWrite_47) (rz_cons (rz_put G rfl in_Me ty_Me tyok_Me nm_Me (by decide) rfl (by decide +kernel) wd_162 d_Me_mayWrite_48) (rz_cons (rz_iconst G d_Me_mayWrite_51 (by decide)) (rz_cons (rz_zret (npc := 0) (by rintro v (rfl | rfl) <;> rfl) d_Me_mayWrite_52) rz_nil))))))))
  | _ + 3 => rz_nil
set_option maxRecDepth 100000 in
set_option maxHeartbeats 4000000 in
theorem bd_Me_mayWrite : ∀ (Y : Nat → rz_K) (P : rz_P), (∀ b ls st μ, rz_ex P Y (bk_Me_mayWrite b) ls st μ → Y b ls st μ) → ∀ As μ, C_Me_mayWrite As μ P → Y 0 (rz_pad 1 (rz_ent As)) [] μ := by
  intro Y P hY As μ hC
  obtain ⟨rfl, hC⟩ := hC
  unfold f_w at hC
  refine hY 0 _ _ _ (And.intro (fun (h : ¬ μ 6 10 = 0) => ?_) (fun (h : μ 6 10 = 0) => ?_))
  · rw [if_pos h] at hC
    refine hY _ _ _ _ (And.intro (fun (h2 : μ 6 10 ≤ 0) => ?_) (fun (h2 : ¬ μ 6 10 ≤ 0) => ?_))
    · rw [if_pos h2] at hC
      exact hY _ _ _ _ (pT hC h)
    · rw [if_neg h2] at hC
      exact hY _ _ _ _ (pT hC h)
  · rw [if_neg (fun q => q h)] at hC
    exact pF hC (fun q => q h)
theorem m_Me_mayWrite (E : rz_E) : rz_MI SH CL E y_Me_mayWrite 1 (Cond.code y_Me_mayWrite c_Me_mayWrite 1 (some .boolean) :: rz_tbl) ({ frames := 0, cells := 0, slots := 0, locals := 0 }) C_Me_mayWrite := rz_metI (by decide) rfl (fun X _ G => sd_Me_mayWrite X G) bd_Me_mayWrite
theorem cd_Me_mayWrite : rz_Cd rz_tbl y_Me_mayWrite c_Me_mayWrite 1 (some .boolean) (Cond.code y_Me_mayWrite c_Me_mayWrite 1 (some .boolean) :: rz_tbl) 0 ({ frames := 0, cells := 0, slots := 0, locals := 0 }) := ⟨rz_good wd_337, ⟨_, rfl⟩, wd_43, by decide +kernel, rfl, rfl⟩
theorem f_w_ne {μ : rz_M} {k : Nat} (h : k ≠ 6) : f_w μ k = μ k := by
  unfold f_w
  split
  · split
    · exact rz_up_k h
    · rw [rz_up_k h, rz_up_k h]
  · rw [rz_up_k h, rz_up_k h]
theorem f_w_6 {μ : rz_M} {j : Nat} (h8 : j ≠ 8) (h9 : j ≠ 9) (h10 : j ≠ 10) : f_w μ 6 j = μ 6 j := by
  unfold f_w
  split
  · split
    · exact rz_up_j h8
    · rw [rz_up_j h8, rz_up_j h10]
  · rw [rz_up_j h9, rz_up_j h10]
theorem f_put_ne {f k o : Int32} {μ : rz_M} {c : Nat} (h : c ≠ 13) : f_put f k o μ c = μ c := by
  unfold f_put
  split
  · rfl
  · split
    · rfl
    · exact rz_up_k h
/-- the note's OCTETS from i on (d of them), then the note goes: what comes of it, and whether it wasn't torn -/
def f_coL : Nat → Nat → rz_M → Int32 × rz_M
  | 0, _, μ => if μ 6 10 = 0 then (0, f_w μ) else (1, rz_up (f_w μ) 6 5 0)
  | d + 1, i, μ => if μ 6 10 = 0 then (0, f_w μ) else f_coL d (i + 1) (f_put (μ 6 2) (μ 6 3 + nI i) (μ 14 i) (f_w μ))
def C_Me_carryOutNote : rz_C := fun As μ P => ∃ n : Nat, As = [.ref 6] ∧ μ 6 4 = nI n ∧ n ≤ 24 ∧ P (some (.int (f_coL n 0 μ).1)) (f_coL n 0 μ).2
def bk_Me_carryOutNote : Nat → List rz_T := fun b => match b with
  | 0 => [tz_iconst 0, tz_istore 1, tz_fall 1]
  | 1 => [tz_iload 1, tz_aload 0, tz_get SH 4 4, tz_icmp_ge 3, tz_aload 0, tz_cv SH 0 4 1 C_Me_mayWrite, tz_if_ne 2, tz_iconst 0, tz_zret]
  | 2 => [tz_aload 0, tz_get SH 4 0, tz_aload 0, tz_get SH 4 2, tz_aload 0, tz_get SH 4 3, tz_iload 1, tz_iadd, tz_aload 0, tz_get SH 4 1, tz_iload 1, tz_iald SH, tz_cv SH 3 2 5 C_Fi_put, tz_iinc 1 1, tz_goto 1]
  | 3 => [tz_aload 0, tz_cv SH 0 4 1 C_Me_mayWrite, tz_if_ne 4, tz_iconst 0, tz_zret]
  | 4 => [tz_aload 0, tz_iconst 0, tz_putz SH 4 5, tz_iconst 1, tz_zret]
  | _ => []
def bp_Me_carryOutNote : Nat → Nat := fun b => match b with
  | 0 => 0
  | 1 => 2
  | 2 => 19
  | 3 => 48
  | 4 => 57
  | _ => 0
set_option maxRecDepth 100000 in
set_option maxHeartbeats 4000000 in
theorem sd_Me_carryOutNote (X : rz_X) (G : rz_Cx CL X c_Me_carryOutNote 2 rz_tbl R_Me ({ frames := 1, cells := 0, slots := 0, locals := 24 })) : ∀ b, rz_SB SH CL X bp_Me_carryOutNote (rz_RI SH CL X c_Me_carryOutNote (fun v => narrow .boolean (.int v) = .int v)) (bk_Me_carryOutNote b) (bp_Me_carryOutNote b) := fun b => match b with
  | 0 => (rz_cons (rz_iconst G d_Me_carryOutNote_0 (by decide)) (rz_cons (rz_istore_n G d_Me_carryOutNote_1 rfl (by decide)) (rz_fall rfl)))
  | 1 => (rz_cons (rz_iload_n G d_Me_carryOutNote_2 rfl) (rz_cons (rz_aload_n G d_Me_carryOutNote_3 rfl) (rz_cons (rz_get G rfl in_Me (by decide) wd_154 d_Me_carryOutNote_4) (rz_cons (rz_icmp_ge G d_Me_carryOutNote_7 (by decide)) (rz_cons (rz_aload_n G d_Me_carryOutNote_10 rfl) (rz_cons (rz_cvi G (m_Me_mayWrite X.1) cd_Me_mayWrite wd_334 wd_335 wd_336 rfl rfl (by decide) d_Me_carryOutNote_11) (rz_cons (rz_if_ne G d_Me_carryOutNote_14 (by decide)) (rz_cons (rz_iconst G d_Me_carryOutNote_17 (by decide)) (rz_cons (rz_zret (npc := 0) (by rintro v (rfl | rfl) <;> rfl) d_Me_carryOutNote_18) rz_nil)))))))))
  | 2 => (rz_cons (rz_aload_n G d_Me_carryOutNote_19 rfl) (rz_cons (rz_get G rfl in_Me (by decide) wd_148 d_Me_carryOutNote_20) (rz_cons (rz_aload_n G d_Me_carryOutNote_23 rfl) (rz_cons (rz_get G rfl in_Me (by decide) wd_152 d_Me_carryOutNote_24) (rz_cons (rz_aload_n G d_Me_carryOutNote_27 rfl) (rz_cons (rz_get G rfl in_Me (by decide) wd_153 d_Me_carryOutNote_28) (rz_cons (rz_iload_n G d_Me_carryOutNote_31 rfl) (rz_cons (rz_iadd G d_Me_carryOutNote_32) (rz_cons (rz_aload_n G d_Me_carryOutNote_33 rfl) (rz_cons (rz_get G rfl in_Me (by decide) wd_151 d_Me_carryOutNote_34) (rz_cons (rz_iload_n G d_Me_carryOutNote_37 rfl) (rz_cons (rz_iald G d_Me_carryOutNote_38) (rz_cons (rz_cvv G (m_Fi_put X.1) cd_Fi_put wd_338 wd_339 wd_340 rfl rfl (by decide) d_Me_carryOutNote_39) (rz_cons (rz_iinc G d_Me_carryOutNote_42 (by decide) (by decide)) (rz_cons (rz_goto (npc := 0) G d_Me_carryOutNote_45 (by decide)) rz_nil)))))))))))))))
  | 3 => (rz_cons (rz_aload_n G d_Me_carryOutNote_48 rfl) (rz_cons (rz_cvi G (m_Me_mayWrite X.1) cd_Me_mayWrite wd_334 wd_335 wd_336 rfl rfl (by decide) d_Me_carryOutNote_49) (rz_cons (rz_if_ne G d_Me_carryOutNote_52 (by decide)) (rz_cons (rz_iconst G d_Me_carryOutNote_55 (by decide)) (rz_cons (rz_zret (npc := 0) (by rintro v (rfl | rfl) <;> rfl) d_Me_carryOutNote_56) rz_nil)))))
  | 4 => (rz_cons (rz_aload_n G d_Me_carryOutNote_57 rfl) (rz_cons (rz_iconst G d_Me_carryOutNote_58 (by decide)) (rz_cons (rz_putz G rfl in_Me ty_Me tyok_Me nm_Me (by decide) rfl (by decide +kernel) wd_155 d_Me_carryOutNote_59) (rz_cons (rz_iconst G d_Me_carryOutNote_62 (by decide)) (rz_cons (rz_zret (npc := 0) (by rintro v (rfl | rfl) <;> rfl) d_Me_carryOutNote_63) rz_nil)))))
  | _ + 5 => rz_nil
set_option maxRecDepth 100000 in
set_option maxHeartbeats 4000000 in
theorem bd_Me_carryOutNote : ∀ (Y : Nat → rz_K) (P : rz_P), (∀ b ls st μ, rz_ex P Y (bk_Me_carryOutNote b) ls st μ → Y b ls st μ) → ∀ As μ, C_Me_carryOutNote As μ P → Y 0 (rz_pad 2 (rz_ent As)) [] μ := by
  intro Y P hY As μ hC
  obtain ⟨n, rfl, hn, h24, hC⟩ := hC
  have loop : ∀ (d i : Nat) (ν : rz_M), i + d = n → ν 6 4 = nI n → P (some (.int (f_coL d i ν).1)) (f_coL d i ν).2 → Y 1 [some (.ref 6), some (.int (nI i))] [] ν := by
    intro d
    induction d with
    | zero =>
      intro i ν hi h4 hp
      have : i = n := by omega
      subst this
      refine hY 1 _ _ _ (And.intro (fun _ => ?_) (fun h => absurd ?_ h))
      · refine hY 3 _ _ _ (And.intro rfl (And.intro (fun h => ?_) (fun h => ?_)))
        · have h0 := b2_ne h
          rw [f_coL, if_neg h0] at hp
          exact hY 4 _ _ _ (And.intro (Or.inl rfl) (And.intro (Or.inr rfl) hp))
        · have h0 : ν 6 10 = 0 := Decidable.not_not.mp (b2_eq h)
          rw [f_coL, if_pos h0] at hp
          exact And.intro (Or.inl rfl) hp
      · show ν 6 4 ≤ nI i
        rw [h4]; exact Int32.le_refl _
    | succ d ih =>
      intro i ν hi h4 hp
      refine hY 1 _ _ _ (And.intro (fun (h : ν 6 4 ≤ nI i) => absurd h ?_) (fun _ => And.intro rfl (And.intro (fun h => ?_) (fun h => ?_))))
      · rw [h4]; exact nI_ge (by omega) (by omega)
      · have h0 := b2_ne h
        rw [f_coL, if_neg h0] at hp
        refine hY 2 _ _ _ (And.intro (vp_in_nI (by omega) (by omega)) ⟨_, _, _, rfl, ?_⟩)
        have e1 : f_w ν 6 2 = ν 6 2 := f_w_6 (by decide) (by decide) (by decide)
        have e2 : f_w ν 6 3 = ν 6 3 := f_w_6 (by decide) (by decide) (by decide)
        have e3 : f_w ν 14 = ν 14 := f_w_ne (by decide)
        have e4 : f_w ν 6 4 = ν 6 4 := f_w_6 (by decide) (by decide) (by decide)
        have := ih (i + 1) _ (by omega) (by rw [f_put_ne (by decide), e4]; exact h4) hp
        rw [nI_succ] at this
        rw [nI_clamp (by omega), e1, e2, e3]
        exact this
      · have h0 : ν 6 10 = 0 := Decidable.not_not.mp (b2_eq h)
        rw [f_coL, if_pos h0] at hp
        exact And.intro (Or.inl rfl) hp
  exact hY 0 _ _ _ (loop n 0 μ (by omega) hn hC)
theorem m_Me_carryOutNote (E : rz_E) : rz_MI SH CL E y_Me_carryOutNote 2 (Cond.code y_Me_carryOutNote c_Me_carryOutNote 2 (some .boolean) :: rz_tbl) ({ frames := 1, cells := 0, slots := 0, locals := 24 }) C_Me_carryOutNote := rz_metI (by decide) rfl (fun X _ G => sd_Me_carryOutNote X G) bd_Me_carryOutNote
theorem cd_Me_carryOutNote : rz_Cd rz_tbl y_Me_carryOutNote c_Me_carryOutNote 2 (some .boolean) (Cond.code y_Me_carryOutNote c_Me_carryOutNote 2 (some .boolean) :: rz_tbl) 0 ({ frames := 1, cells := 0, slots := 0, locals := 24 }) := ⟨rz_good wd_333, ⟨_, rfl⟩, wd_43, by decide +kernel, rfl, rfl⟩
/-- d writings: 0 as soon as one is torn -/
def f_wn : Nat → rz_M → Int32 × rz_M
  | 0, μ => (1, μ)
  | d + 1, μ => if μ 6 10 = 0 then (0, f_w μ) else f_wn d (f_w μ)
/-- the note is put down -/
def f_nt (f p : Int32) (n : Nat) (μ : rz_M) : rz_M := rz_up (rz_uf (rz_up (rz_up (rz_up μ 6 2 f) 6 3 p) 6 4 (nI n)) 14 (va_cpy (μ 16) (μ 14) 5 0 n)) 6 5 1
def f_wN (f p : Int32) (n : Nat) (μ : rz_M) : Int32 × rz_M := if (f_wn (n + 2) μ).1 = 0 then (0, (f_wn (n + 2) μ).2) else (1, f_nt f p n (f_wn (n + 2) μ).2)
theorem f_wn_01 : ∀ (d : Nat) (μ : rz_M), (f_wn d μ).1 = 0 ∨ (f_wn d μ).1 = 1
  | 0, μ => Or.inr rfl
  | d + 1, μ => by
    unfold f_wn
    split
    · exact Or.inl rfl
    · exact f_wn_01 d (f_w μ)
theorem f_wn_ne : ∀ (d : Nat) (μ : rz_M) {k : Nat}, k ≠ 6 → (f_wn d μ).2 k = μ k
  | 0, μ, k, h => rfl
  | d + 1, μ, k, h => by
    unfold f_wn
    split
    · exact f_w_ne h
    · rw [f_wn_ne d (f_w μ) h, f_w_ne h]
def C_Me_writeNote : rz_C := fun As μ P => ∃ (f p : Int32) (n : Nat), As = [.ref 6, .int f, .int p, .ref 15] ∧ μ 15 3 = nI n ∧ n ≤ 24 ∧ P (some (.int (f_wN f p n μ).1)) (f_wN f p n μ).2
def bk_Me_writeNote : Nat → List rz_T := fun b => match b with
  | 0 => [tz_aload 3, tz_get SH 1 3, tz_aload 0, tz_get SH 4 1, tz_alen SH, tz_min, tz_istore 4, tz_iconst 0, tz_istore 5, tz_fall 1]
  | 1 => [tz_iload 5, tz_iload 4, tz_iconst 2, tz_iadd, tz_icmp_ge 3, tz_aload 0, tz_cv SH 0 4 1 C_Me_mayWrite, tz_if_ne 2, tz_iconst 0, tz_zret]
  | 2 => [tz_iinc 5 1, tz_goto 1]
  | 3 => [tz_aload 0, tz_iload 1, tz_put SH 4 2, tz_aload 0, tz_iload 2, tz_put SH 4 3, tz_aload 0, tz_iload 4, tz_put SH 4 4, tz_iconst 0, tz_istore 5, tz_fall 4]
  | 4 => [tz_iload 5, tz_iload 4, tz_icmp_ge 5, tz_aload 0, tz_get SH 4 1, tz_iload 5, tz_aload 3, tz_iload 5, tz_cv SH 1 1 2 C_Co_data, tz_iast SH, tz_iinc 5 1, tz_goto 4]
  | 5 => [tz_aload 0, tz_iconst 1, tz_putz SH 4 5, tz_iconst 1, tz_zret]
  | _ => []
def bp_Me_writeNote : Nat → Nat := fun b => match b with
  | 0 => 0
  | 1 => 17
  | 2 => 35
  | 3 => 41
  | 4 => 60
  | 5 => 86
  | _ => 0
set_option maxRecDepth 100000 in
set_option maxHeartbeats 4000000 in
theorem sd_Me_writeNote (X : rz_X) (G : rz_Cx CL X c_Me_writeNote 6 rz_tbl R_Me ({ frames := 1, cells := 0, slots := 0, locals := 21 })) : ∀ b, rz_SB SH CL X bp_Me_writeNote (rz_RI SH CL X c_Me_writeNote (fun v => narrow .boolean (.int v) = .int v)) (bk_Me_writeNote b) (bp_Me_writeNote b) := fun b => match b with
  | 0 => (rz_cons (rz_aload_n G d_Me_writeNote_0 rfl) (rz_cons (rz_getN G rfl in_Co (by decide) wn_26 d_Me_writeNote_1) (rz_cons (rz_aload_n G d_Me_writeNote_4 rfl) (rz_cons (rz_get G rfl in_Me (by decide) wd_151 d_Me_writeNote_5) (rz_cons (rz_alen G d_Me_writeNote_8) (rz_cons (rz_min G wd_514 wd_491 wd_48 wd_492 (by decide) d_Me_writeNote_9) (rz_cons (rz_istore G d_Me_writeNote_12 (by decide)) (rz_cons (rz_iconst G d_Me_writeNote_14 (by decide)) (rz_cons (rz_istore G d_Me_writeNote_15 (by decide)) (rz_fall rfl))))))))))
  | 1 => (rz_cons (rz_iload G d_Me_writeNote_17) (rz_cons (rz_iload G d_Me_writeNote_19) (rz_cons (rz_iconst G d_Me_writeNote_21 (by decide)) (rz_cons (rz_iadd G d_Me_writeNote_22) (rz_cons (rz_icmp_ge G d_Me_writeNote_23 (by decide)) (rz_cons (rz_aload_n G d_Me_writeNote_26 rfl) (rz_cons (rz_cvi G (m_Me_mayWrite X.1) cd_Me_mayWrite wd_334 wd_335 wd_336 rfl rfl (by decide) d_Me_writeNote_27) (rz_cons (rz_if_ne G d_Me_writeNote_30 (by decide)) (rz_cons (rz_iconst G d_Me_writeNote_33 (by decide)) (rz_cons (rz_zret (npc := 0) (by rintro v (rfl | rfl) <;> rfl) d_Me_writeNote_34) rz_nil))))))))))
  | 2 => (rz_cons (rz_iinc G d_Me_writeNote_35 (by decide) (by decide)) (rz_cons (rz_goto (npc := 0) G d_Me_writeNote_38 (by decide)) rz_nil))
  | 3 => (rz_cons (rz_aload_n G d_Me_writeNote_41 rfl) (rz_cons (rz_iload_n G d_Me_writeNote_42 rfl) (rz_cons (rz_put G rfl in_Me ty_Me tyok_Me nm_Me (by decide) rfl (by decide +kernel) wd_152 d_Me_writeNote_43) (rz_cons (rz_aload_n G d_Me_writeNote_46 rfl) (rz_cons (rz_iload_n G d_Me_writeNote_47 rfl) (rz_cons (rz_put G rfl in_Me ty_Me tyok_Me nm_Me (by decide) rfl (by decide +kernel) wd_153 d_Me_writeNote_48) (rz_cons (rz_aload_n G d_Me_writeNote_51 rfl) (rz_cons (rz_iload G d_Me_writeNote_52) (rz_cons (rz_put G rfl in_Me ty_Me tyok_Me nm_Me (by decide) rfl (by decide +kernel) wd_154 d_Me_writeNote_54) (rz_cons (rz_iconst G d_Me_writeNote_57 (by decide)) (rz_cons (rz_istore G d_Me_writeNote_58 (by decide)) (rz_fall rfl))))))))))))
  | 4 => (rz_cons (rz_iload G d_Me_writeNote_60) (rz_cons (rz_iload G d_Me_writeNote_62) (rz_cons (rz_icmp_ge G d_Me_writeNote_64 (by decide)) (rz_cons (rz_aload_n G d_Me_writeNote_67 rfl) (rz_cons (rz_get G rfl in_Me (by decide) wd_151 d_Me_writeNote_68) (rz_cons (rz_iload G d_Me_writeNote_71) (rz_cons (rz_aload_n G d_Me_writeNote_73 rfl) (rz_cons (rz_iload G d_Me_writeNote_74) (rz_cons (rz_cvi G (m_Co_data X.1) cd_Co_data wd_515 wd_451 wd_452 rfl rfl (by decide) d_Me_writeNote_76) (rz_cons (rz_iast G d_Me_writeNote_79) (rz_cons (rz_iinc G d_Me_writeNote_80 (by decide) (by decide)) (rz_cons (rz_goto (npc := 0) G d_Me_writeNote_83 (by decide)) rz_nil))))))))))))
  | 5 => (rz_cons (rz_aload_n G d_Me_writeNote_86 rfl) (rz_cons (rz_iconst G d_Me_writeNote_87 (by decide)) (rz_cons (rz_putz G rfl in_Me ty_Me tyok_Me nm_Me (by decide) rfl (by decide +kernel) wd_155 d_Me_writeNote_88) (rz_cons (rz_iconst G d_Me_writeNote_91 (by decide)) (rz_cons (rz_zret (npc := 0) (by rintro v (rfl | rfl) <;> rfl) d_Me_writeNote_92) rz_nil)))))
  | _ + 6 => rz_nil
set_option maxRecDepth 100000 in
set_option maxHeartbeats 4000000 in
theorem bd_Me_writeNote : ∀ (Y : Nat → rz_K) (P : rz_P), (∀ b ls st μ, rz_ex P Y (bk_Me_writeNote b) ls st μ → Y b ls st μ) → ∀ As μ, C_Me_writeNote As μ P → Y 0 (rz_pad 6 (rz_ent As)) [] μ := by
  intro Y P hY As μ hC
  obtain ⟨f, p, n, rfl, hn, h24, hC⟩ := hC
  have cp : ∀ (d i : Nat) (ν : rz_M) (g : Nat → Int32), i + d = n → P (some (.int 1)) (rz_up (rz_uf ν 14 (va_cpy (ν 16) g 5 0 n)) 6 5 1) → ν 14 = va_cpy (ν 16) g 5 0 i → Y 4 [some (.ref 6), some (.int f), some (.int p), some (.ref 15), some (.int (nI n)), some (.int (nI i))] [] ν := by
    intro d
    induction d with
    | zero =>
      intro i ν g hi hp hg
      have : i = n := by omega
      subst this
      refine hY 4 _ _ _ (And.intro (fun _ => hY 5 _ _ _ (And.intro (Or.inr rfl) (And.intro (Or.inr rfl) ?_))) (fun h => absurd (Int32.le_refl _) h))
      have e : rz_uf ν 14 (va_cpy (ν 16) g 5 0 i) = ν := by
        funext k
        by_cases hk : k = 14
        · subst hk; rw [rz_uf_eq, hg]
        · rw [rz_uf_ne hk]
      rw [e] at hp
      exact hp
    | succ d ih =>
      intro i ν g hi hp hg
      have c1 : (nI i).toNatClampNeg = i := nI_clamp (by omega)
      have c2 : (5 + nI i).toNatClampNeg = 5 + i := by
        rw [show (5 : Int32) = nI 5 from rfl, nI_add]; exact nI_clamp (by omega)
      refine hY 4 _ _ _ (And.intro (fun h => absurd h (nI_ge (by omega) (by omega))) (fun _ => ⟨_, rfl, nI_pos (by omega), ?_, And.intro (vp_in_nI (by omega) (by omega)) ?_⟩))
      · exact nI_ge (a := i) (b := 32) (by omega) (by omega)
      · rw [c1, c2]
        have := ih (i + 1) (rz_up ν 14 i (ν 16 (5 + i))) g (by omega) ?_ ?_
        · rw [nI_succ] at this
          exact this
        · have e : rz_uf (rz_up ν 14 i (ν 16 (5 + i))) 14 (va_cpy (rz_up ν 14 i (ν 16 (5 + i)) 16) g 5 0 n) = rz_uf ν 14 (va_cpy (ν 16) g 5 0 n) := by
            funext k
            by_cases hk : k = 14
            · subst hk; rw [rz_uf_eq, rz_uf_eq, rz_up_k (by decide)]
            · rw [rz_uf_ne hk, rz_uf_ne hk, rz_up_k hk]
          rw [e]; exact hp
        · rw [rz_up_k (k' := 16) (by decide)]
          funext j
          by_cases hj : j = i
          · subst hj
            rw [rz_up_at, pk_cpy_in (by omega) (by omega)]
            simp
          · rw [rz_up_j hj, hg]
            by_cases hl : j < i
            · rw [pk_cpy_in (by omega) (by omega), pk_cpy_in (by omega) (by omega)]
            · rw [pk_cpy_out (by omega), pk_cpy_out (by omega)]
  have wr : ∀ (d i : Nat) (ν : rz_M), i + d = n + 2 → ((f_wn d ν).1 = 0 → P (some (.int 0)) (f_wn d ν).2) → (¬ (f_wn d ν).1 = 0 → P (some (.int 1)) (f_nt f p n (f_wn d ν).2)) → Y 1 [some (.ref 6), some (.int f), some (.int p), some (.ref 15), some (.int (nI n)), some (.int (nI i))] [] ν := by
    intro d
    induction d with
    | zero =>
      intro i ν hi hp0 hp1
      have : i = n + 2 := by omega
      subst this
      refine hY 1 _ _ _ (And.intro (fun _ => ?_) (fun h => absurd ?_ h))
      · refine hY 3 _ _ _ (cp n 0 _ (ν 14) (by omega) ?_ ?_)
        · have := hp1 (by show ¬ (1 : Int32) = 0; decide)
          exact this
        · funext j
          rw [pk_cpy_out (by omega)]
          rfl
      · rw [show (2 : Int32) = nI 2 from rfl, nI_add]; exact Int32.le_refl _
    | succ d ih =>
      intro i ν hi hp0 hp1
      refine hY 1 _ _ _ (And.intro (fun h => absurd h ?_) (fun _ => And.intro rfl (And.intro (fun h => ?_) (fun h => ?_))))
      · rw [show (2 : Int32) = nI 2 from rfl, nI_add]; exact nI_ge (by omega) (by omega)
      · have h0 := b2_ne h
        rw [f_wn, if_neg h0] at hp0 hp1
        refine hY 2 _ _ _ ?_
        have := ih (i + 1) (f_w ν) (by omega) hp0 hp1
        rw [nI_succ] at this
        exact this
      · have h0 : ν 6 10 = 0 := Decidable.not_not.mp (b2_eq h)
        rw [f_wn, if_pos h0] at hp0
        exact And.intro (Or.inl rfl) (hp0 rfl)
  refine hY 0 _ _ _ ?_
  have hmin : (if (24 : Int32) < μ 15 3 then (24 : Int32) else μ 15 3) = nI n := by
    rw [hn, if_neg]
    exact nI_nlt (a := 24) (b := n) h24 (by omega)
  have := wr (n + 2) 0 μ (by omega) (fun h => by unfold f_wN at hC; rw [if_pos h] at hC; exact hC) (fun h => by unfold f_wN at hC; rw [if_neg h] at hC; exact hC)
  rw [← hmin] at this
  exact this
theorem m_Me_writeNote (E : rz_E) : rz_MI SH CL E y_Me_writeNote 6 (Cond.code y_Me_writeNote c_Me_writeNote 6 (some .boolean) :: rz_tbl) ({ frames := 1, cells := 0, slots := 0, locals := 21 }) C_Me_writeNote := rz_metI (by decide) rfl (fun X _ G => sd_Me_writeNote X G) bd_Me_writeNote
theorem cd_Me_writeNote : rz_Cd rz_tbl y_Me_writeNote c_Me_writeNote 6 (some .boolean) (Cond.code y_Me_writeNote c_Me_writeNote 6 (some .boolean) :: rz_tbl) 3 ({ frames := 1, cells := 0, slots := 0, locals := 21 }) := ⟨rz_good wd_513, ⟨_, rfl⟩, wd_43, by decide +kernel, rfl, rfl⟩
end
section
def f_forget (μ : rz_M) : rz_M := rz_up (rz_up (rz_up (rz_up μ 15 1 0) 15 2 0) 17 1 0) 17 2 0
def C_Wo_forgetExchange : rz_C := fun As μ P => As = [.ref 5] ∧ P none (f_forget μ)
def bk_Wo_forgetExchange : Nat → List rz_T := fun b => match b with
  | 0 => [tz_aload 0, tz_get SH 5 1, tz_cv SH 0 1 1 C_Co_clear, tz_aload 0, tz_get SH 5 2, tz_cv SH 0 0 1 C_An_clear, tz_vret]
  | _ => []
def bp_Wo_forgetExchange : Nat → Nat := fun b => match b with
  | 0 => 0
  | _ => 0
set_option maxRecDepth 100000 in
set_option maxHeartbeats 4000000 in
theorem sd_Wo_forgetExchange (X : rz_X) (G : rz_Cx CL X c_Wo_forgetExchange 1 rz_tbl R_Wo ({ frames := 1, cells := 0, slots := 0, locals := 20 })) : ∀ b, rz_SB SH CL X bp_Wo_forgetExchange (rz_RV SH CL X c_Wo_forgetExchange) (bk_Wo_forgetExchange b) (bp_Wo_forgetExchange b) := fun b => match b with
  | 0 => (rz_cons (rz_aload_n G d_Wo_forgetExchange_0 rfl) (rz_cons (rz_get G rfl in_Wo (by decide) wd_235 d_Wo_forgetExchange_1) (rz_cons (rz_cvv G (m_Co_clear X.1) cd_Co_clear wd_322 wd_323 wd_324 rfl rfl (by decide) d_Wo_forgetExchange_4) (rz_cons (rz_aload_n G d_Wo_forgetExchange_7 rfl) (rz_cons (rz_get G rfl in_Wo (by decide) wd_237 d_Wo_forgetExchange_8) (rz_cons (rz_cvv G (m_An_clear X.1) cd_An_clear wd_326 wd_327 wd_328 rfl rfl (by decide) d_Wo_forgetExchange_11) (rz_cons (rz_vret (npc := 0) d_Wo_forgetExchange_14) rz_nil)))))))
  | _ + 1 => rz_nil
set_option maxRecDepth 100000 in
set_option maxHeartbeats 4000000 in
theorem bd_Wo_forgetExchange : ∀ (Y : Nat → rz_K) (P : rz_P), (∀ b ls st μ, rz_ex P Y (bk_Wo_forgetExchange b) ls st μ → Y b ls st μ) → ∀ As μ, C_Wo_forgetExchange As μ P → Y 0 (rz_pad 1 (rz_ent As)) [] μ := by
  intro Y P hY As μ hC
  obtain ⟨rfl, hC⟩ := hC
  exact hY 0 _ _ _ (And.intro rfl (And.intro rfl hC))
theorem m_Wo_forgetExchange (E : rz_E) : rz_MV SH CL E y_Wo_forgetExchange 1 (Cond.code y_Wo_forgetExchange c_Wo_forgetExchange 1 none :: rz_tbl) ({ frames := 1, cells := 0, slots := 0, locals := 20 }) C_Wo_forgetExchange := rz_metV (by decide) rfl (fun X _ G => sd_Wo_forgetExchange X G) bd_Wo_forgetExchange
theorem cd_Wo_forgetExchange : rz_Cd rz_tbl y_Wo_forgetExchange c_Wo_forgetExchange 1 none (Cond.code y_Wo_forgetExchange c_Wo_forgetExchange 1 none :: rz_tbl) 0 ({ frames := 1, cells := 0, slots := 0, locals := 20 }) := ⟨rz_good wd_321, ⟨_, rfl⟩, wd_42, by decide +kernel, rfl, rfl⟩
def f_wreset (μ : rz_M) : rz_M := f_forget (rz_up (rz_up (rz_up μ 5 3 0) 5 4 0) 5 5 (-1))
def C_Wo_reset : rz_C := fun As μ P => As = [.ref 5] ∧ P none (f_wreset μ)
def bk_Wo_reset : Nat → List rz_T := fun b => match b with
  | 0 => [tz_aload 0, tz_iconst 0, tz_putz SH 5 3, tz_aload 0, tz_iconst 0, tz_put SH 5 4, tz_aload 0, tz_iconst (-1), tz_put SH 5 5, tz_aload 0, tz_cv SH 0 5 1 C_Wo_forgetExchange, tz_vret]
  | _ => []
def bp_Wo_reset : Nat → Nat := fun b => match b with
  | 0 => 0
  | _ => 0
set_option maxRecDepth 100000 in
set_option maxHeartbeats 4000000 in
theorem sd_Wo_reset (X : rz_X) (G : rz_Cx CL X c_Wo_reset 1 rz_tbl R_Wo ({ frames := 2, cells := 0, slots := 0, locals := 40 })) : ∀ b, rz_SB SH CL X bp_Wo_reset (rz_RV SH CL X c_Wo_reset) (bk_Wo_reset b) (bp_Wo_reset b) := fun b => match b with
  | 0 => (rz_cons (rz_aload_n G d_Wo_reset_0 rfl) (rz_cons (rz_iconst G d_Wo_reset_1 (by decide)) (rz_cons (rz_putz G rfl in_Wo ty_Wo tyok_Wo nm_Wo (by decide) rfl (by decide +kernel) wd_239 d_Wo_reset_2) (rz_cons (rz_aload_n G d_Wo_reset_5 rfl) (rz_cons (rz_iconst G d_Wo_reset_6 (by decide)) (rz_cons (rz_put G rfl in_Wo ty_Wo tyok_Wo nm_Wo (by decide) rfl (by decide +kernel) wd_241 d_Wo_reset_7) (rz_cons (rz_aload_n G d_Wo_reset_10 rfl) (rz_cons (rz_iconst G d_Wo_reset_11 (by decide)) (rz_cons (rz_put G rfl in_Wo ty_Wo tyok_Wo nm_Wo (by decide) rfl (by decide +kernel) wd_243 d_Wo_reset_12) (rz_cons (rz_aload_n G d_Wo_reset_15 rfl) (rz_cons (rz_cvv G (m_Wo_forgetExchange X.1) cd_Wo_forgetExchange wd_318 wd_319 wd_320 rfl rfl (by decide) d_Wo_reset_16) (rz_cons (rz_vret (npc := 0) d_Wo_reset_19) rz_nil))))))))))))
  | _ + 1 => rz_nil
set_option maxRecDepth 100000 in
set_option maxHeartbeats 4000000 in
theorem bd_Wo_reset : ∀ (Y : Nat → rz_K) (P : rz_P), (∀ b ls st μ, rz_ex P Y (bk_Wo_reset b) ls st μ → Y b ls st μ) → ∀ As μ, C_Wo_reset As μ P → Y 0 (rz_pad 1 (rz_ent As)) [] μ := by
  intro Y P hY As μ hC
  obtain ⟨rfl, hC⟩ := hC
  exact hY 0 _ _ _ (And.intro (Or.inl rfl) (And.intro rfl hC))
theorem m_Wo_reset (E : rz_E) : rz_MV SH CL E y_Wo_reset 1 (Cond.code y_Wo_reset c_Wo_reset 1 none :: rz_tbl) ({ frames := 2, cells := 0, slots := 0, locals := 40 }) C_Wo_reset := rz_metV (by decide) rfl (fun X _ G => sd_Wo_reset X G) bd_Wo_reset
theorem cd_Wo_reset : rz_Cd rz_tbl y_Wo_reset c_Wo_reset 1 none (Cond.code y_Wo_reset c_Wo_reset 1 none :: rz_tbl) 0 ({ frames := 2, cells := 0, slots := 0, locals := 40 }) := ⟨rz_good wd_317, ⟨_, rfl⟩, wd_42, by decide +kernel, rfl, rfl⟩
def f_conc (s : Int32) (μ : rz_M) : rz_M := f_An_add (s &&& 255) (f_An_add (s >>> ((8 : Int32) &&& 31)) (rz_up (rz_up μ 15 1 0) 15 2 0))
theorem f_An_nI {x : Int32} {μ : rz_M} {a : Nat} (h : μ 17 1 = nI a) (ha : a < 26) : f_An_add x μ = rz_up (rz_up μ 17 1 (nI (a + 1))) 18 a x := by
  unfold f_An_add
  rw [h, if_neg (show ¬ (26 : Int32) ≤ nI a from nI_ge (a := a) (b := 26) ha (by omega)), nI_clamp (by omega), nI_succ]
def C_Wo_conclude : rz_C := fun As μ P => ∃ (s : Int32) (a : Nat), As = [.ref 5, .int s] ∧ μ 17 1 = nI a ∧ a ≤ 24 ∧ P none (f_conc s μ)
def bk_Wo_conclude : Nat → List rz_T := fun b => match b with
  | 0 => [tz_aload 0, tz_get SH 5 1, tz_cv SH 0 1 1 C_Co_clear, tz_aload 0, tz_get SH 5 2, tz_iload 1, tz_bipush 8, tz_ishr, tz_cv SH 1 0 2 C_An_add, tz_aload 0, tz_get SH 5 2, tz_iload 1, tz_sipush 255, tz_iand, tz_cv SH 1 0 2 C_An_add, tz_vret]
  | _ => []
def bp_Wo_conclude : Nat → Nat := fun b => match b with
  | 0 => 0
  | _ => 0
set_option maxRecDepth 100000 in
set_option maxHeartbeats 4000000 in
theorem sd_Wo_conclude (X : rz_X) (G : rz_Cx CL X c_Wo_conclude 2 rz_tbl R_Wo ({ frames := 1, cells := 0, slots := 0, locals := 21 })) : ∀ b, rz_SB SH CL X bp_Wo_conclude (rz_RV SH CL X c_Wo_conclude) (bk_Wo_conclude b) (bp_Wo_conclude b) := fun b => match b with
  | 0 => (rz_cons (rz_aload_n G d_Wo_conclude_0 rfl) (rz_cons (rz_get G rfl in_Wo (by decide) wd_235 d_Wo_conclude_1) (rz_cons (rz_cvv G (m_Co_clear X.1) cd_Co_clear wd_322 wd_323 wd_324 rfl rfl (by decide) d_Wo_conclude_4) (rz_cons (rz_aload_n G d_Wo_conclude_7 rfl) (rz_cons (rz_get G rfl in_Wo (by decide) wd_237 d_Wo_conclude_8) (rz_cons (rz_iload_n G d_Wo_conclude_11 rfl) (rz_cons (rz_bipush G d_Wo_conclude_12 (by decide)) (rz_cons (rz_ishr G d_Wo_conclude_14) (rz_cons (rz_cvv G (m_An_add X.1) cd_An_add wd_498 wd_499 wd_500 rfl rfl (by decide) d_Wo_conclude_15) (rz_cons (rz_aload_n G d_Wo_conclude_18 rfl) (rz_cons (rz_get G rfl in_Wo (by decide) wd_237 d_Wo_conclude_19) (rz_cons (rz_iload_n G d_Wo_conclude_22 rfl) (rz_cons (rz_sipush G d_Wo_conclude_23 (by decide)) (rz_cons (rz_iand G d_Wo_conclude_26) (rz_cons (rz_cvv G (m_An_add X.1) cd_An_add wd_498 wd_499 wd_500 rfl rfl (by decide) d_Wo_conclude_27) (rz_cons (rz_vret (npc := 0) d_Wo_conclude_30) rz_nil))))))))))))))))
  | _ + 1 => rz_nil
set_option maxRecDepth 100000 in
set_option maxHeartbeats 4000000 in
theorem bd_Wo_conclude : ∀ (Y : Nat → rz_K) (P : rz_P), (∀ b ls st μ, rz_ex P Y (bk_Wo_conclude b) ls st μ → Y b ls st μ) → ∀ As μ, C_Wo_conclude As μ P → Y 0 (rz_pad 2 (rz_ent As)) [] μ := by
  intro Y P hY As μ hC
  obtain ⟨s, a, rfl, ha, h24, hC⟩ := hC
  refine hY 0 _ _ _ (And.intro rfl ⟨_, rfl, ?_, _, rfl, ?_, hC⟩)
  · show 0 ≤ μ 17 1
    rw [ha]; exact nI_pos' (by omega)
  · rw [f_An_nI (μ := rz_up (rz_up μ 15 1 0) 15 2 0) (a := a) ha (by omega)]
    exact nI_pos' (n := a + 1) (by omega)
theorem m_Wo_conclude (E : rz_E) : rz_MV SH CL E y_Wo_conclude 2 (Cond.code y_Wo_conclude c_Wo_conclude 2 none :: rz_tbl) ({ frames := 1, cells := 0, slots := 0, locals := 21 }) C_Wo_conclude := rz_metV (by decide) rfl (fun X _ G => sd_Wo_conclude X G) bd_Wo_conclude
theorem cd_Wo_conclude : rz_Cd rz_tbl y_Wo_conclude c_Wo_conclude 2 none (Cond.code y_Wo_conclude c_Wo_conclude 2 none :: rz_tbl) 1 ({ frames := 1, cells := 0, slots := 0, locals := 21 }) := ⟨rz_good wd_537, ⟨_, rfl⟩, wd_42, by decide +kernel, rfl, rfl⟩
def v_par (μ : rz_M) : Int32 := if ¬ μ 5 4 < 0 ∧ ¬ μ 7 6 ≤ μ 5 4 then μ 9 (μ 5 4).toNatClampNeg else -1
def C_Wo_parentOfDirectory : rz_C := fun As μ P => As = [.ref 5] ∧ μ 7 6 ≤ 8 ∧ P (some (.int (v_par μ))) μ
def bk_Wo_parentOfDirectory : Nat → List rz_T := fun b => match b with
  | 0 => [tz_aload 0, tz_get SH 5 0, tz_get SH 4 0, tz_aload 0, tz_get SH 5 4, tz_cv SH 1 2 2 C_Fi_has, tz_if_eq 1, tz_aload 0, tz_get SH 5 0, tz_get SH 4 0, tz_get SH 2 1, tz_aload 0, tz_get SH 5 4, tz_iald SH, tz_goto 2]
  | 1 => [tz_iconst (-1), tz_fall 2]
  | 2 => [tz_iret]
  | _ => []
def bp_Wo_parentOfDirectory : Nat → Nat := fun b => match b with
  | 0 => 0
  | 1 => 35
  | 2 => 36
  | _ => 0
set_option maxRecDepth 100000 in
set_option maxHeartbeats 4000000 in
theorem sd_Wo_parentOfDirectory (X : rz_X) (G : rz_Cx CL X c_Wo_parentOfDirectory 1 rz_tbl R_Wo ({ frames := 1, cells := 0, slots := 0, locals := 21 })) : ∀ b, rz_SB SH CL X bp_Wo_parentOfDirectory (rz_RI SH CL X c_Wo_parentOfDirectory (fun v => narrow .int (.int v) = .int v)) (bk_Wo_parentOfDirectory b) (bp_Wo_parentOfDirectory b) := fun b => match b with
  | 0 => (rz_cons (rz_aload_n G d_Wo_parentOfDirectory_0 rfl) (rz_cons (rz_get G rfl in_Wo (by decide) wd_233 d_Wo_parentOfDirectory_1) (rz_cons (rz_getN G rfl in_Me (by decide) wn_16 d_Wo_parentOfDirectory_4) (rz_cons (rz_aload_n G d_Wo_parentOfDirectory_7 rfl) (rz_cons (rz_get G rfl in_Wo (by decide) wd_241 d_Wo_parentOfDirectory_8) (rz_cons (rz_cvi G (m_Fi_has X.1) cd_Fi_has wd_462 wd_284 wd_285 rfl rfl (by decide) d_Wo_parentOfDirectory_11) (rz_cons (rz_if_eq G d_Wo_parentOfDirectory_14 (by decide)) (rz_cons (rz_aload_n G d_Wo_parentOfDirectory_17 rfl) (rz_cons (rz_get G rfl in_Wo (by decide) wd_233 d_Wo_parentOfDirectory_18) (rz_cons (rz_getN G rfl in_Me (by decide) wn_16 d_Wo_parentOfDirectory_21) (rz_cons (rz_getN G rfl in_Fi (by decide) wn_8 d_Wo_parentOfDirectory_24) (rz_cons (rz_aload_n G d_Wo_parentOfDirectory_27 rfl) (rz_cons (rz_get G rfl in_Wo (by decide) wd_241 d_Wo_parentOfDirectory_28) (rz_cons (rz_iald G d_Wo_parentOfDirectory_31) (rz_cons (rz_goto (npc := 0) G d_Wo_parentOfDirectory_32 (by decide)) rz_nil)))))))))))))))
  | 1 => (rz_cons (rz_iconst G d_Wo_parentOfDirectory_35 (by decide)) (rz_fall rfl))
  | 2 => (rz_cons (rz_iret (npc := 0) (fun _ => rfl) d_Wo_parentOfDirectory_36) rz_nil)
  | _ + 3 => rz_nil
set_option maxRecDepth 100000 in
set_option maxHeartbeats 4000000 in
theorem bd_Wo_parentOfDirectory : ∀ (Y : Nat → rz_K) (P : rz_P), (∀ b ls st μ, rz_ex P Y (bk_Wo_parentOfDirectory b) ls st μ → Y b ls st μ) → ∀ As μ, C_Wo_parentOfDirectory As μ P → Y 0 (rz_pad 1 (rz_ent As)) [] μ := by
  intro Y P hY As μ hC
  obtain ⟨rfl, h8, hC⟩ := hC
  refine hY 0 _ _ _ ⟨_, rfl, And.intro (fun h => ?_) (fun h => And.intro ?_ ?_)⟩
  · exact hY _ _ _ _ (hY _ _ _ _ (rzF (fun z => P (some (.int z)) μ) (b2_eq h) hC))
  · have := b2_ne h
    exact vi_lt (m := 8) (Int32.not_lt.mp this.1) (Int32.lt_of_lt_of_le (Int32.not_le.mp this.2) h8)
  · exact hY _ _ _ _ (rzT (fun z => P (some (.int z)) μ) (b2_ne h) hC)
theorem m_Wo_parentOfDirectory (E : rz_E) : rz_MI SH CL E y_Wo_parentOfDirectory 1 (Cond.code y_Wo_parentOfDirectory c_Wo_parentOfDirectory 1 (some .int) :: rz_tbl) ({ frames := 1, cells := 0, slots := 0, locals := 21 }) C_Wo_parentOfDirectory := rz_metI (by decide) rfl (fun X _ G => sd_Wo_parentOfDirectory X G) bd_Wo_parentOfDirectory
theorem cd_Wo_parentOfDirectory : rz_Cd rz_tbl y_Wo_parentOfDirectory c_Wo_parentOfDirectory 1 (some .int) (Cond.code y_Wo_parentOfDirectory c_Wo_parentOfDirectory 1 (some .int) :: rz_tbl) 0 ({ frames := 1, cells := 0, slots := 0, locals := 21 }) := ⟨rz_good wd_461, ⟨_, rfl⟩, wd_42, by decide +kernel, rfl, rfl⟩
def f_fi2 (x : Int32) (μ : rz_M) : Int32 × rz_M := if ¬ x = -1 then (if ¬ x < 0 ∧ ¬ μ 7 6 ≤ x ∧ μ 10 x.toNatClampNeg = 0 then (36864, rz_up (rz_up μ 5 4 x) 5 5 (-1)) else (36864, rz_up μ 5 5 x)) else (27266, μ)
def v_nm (μ : rz_M) : Int32 := (μ 16 5 <<< ((8 : Int32) &&& 31)) ||| μ 16 6
def v_fnd (μ : rz_M) : Int32 := if v_nm μ = 16128 then 0 else f_find μ (μ 5 4) (v_nm μ) ((μ 7 6).toNatClampNeg - 1) 1
def f_fi (μ : rz_M) : Int32 × rz_M := if μ 16 2 = 0 then (if μ 16 3 = 0 then (if μ 15 3 = 2 then f_fi2 (v_fnd μ) μ else (26368, μ)) else (27270, μ)) else (if ¬ μ 16 2 = 3 then (27270, μ) else (if μ 16 3 = 0 then (if μ 15 3 = 0 then f_fi2 (v_par μ) μ else (26368, μ)) else (27270, μ)))
def C_Wo_find : rz_C := fun As μ P => ∃ c : Nat, As = [.ref 5] ∧ μ 7 6 = nI c ∧ 1 ≤ c ∧ c ≤ 8 ∧ PQ P (f_fi μ)
def bk_Wo_find : Nat → List rz_T := fun b => match b with
  | 0 => [tz_aload 0, tz_get SH 5 1, tz_cv SH 0 1 1 C_Co_a, tz_if_ne 1, tz_iconst 1, tz_goto 2]
  | 1 => [tz_iconst 0, tz_fall 2]
  | 2 => [tz_istore 1, tz_iload 1, tz_if_ne 3, tz_aload 0, tz_get SH 5 1, tz_cv SH 0 1 1 C_Co_a, tz_iconst 3, tz_icmp_ne 4, tz_fall 3]
  | 3 => [tz_aload 0, tz_get SH 5 1, tz_cv SH 0 1 1 C_Co_b, tz_if_eq 5, tz_fall 4]
  | 4 => [tz_sipush 27270, tz_iret]
  | 5 => [tz_aload 0, tz_get SH 5 1, tz_get SH 1 3, tz_iload 1, tz_if_eq 6, tz_iconst 2, tz_goto 7]
  | 6 => [tz_iconst 0, tz_fall 7]
  | 7 => [tz_icmp_eq 8, tz_sipush 26368, tz_iret]
  | 8 => [tz_aload 0, tz_get SH 5 0, tz_get SH 4 0, tz_astore 2, tz_iload 1, tz_if_eq 9, tz_aload 2, tz_aload 0, tz_get SH 5 4, tz_aload 0, tz_get SH 5 1, tz_cv SH 0 1 1 C_Co_dataAsName, tz_cv SH 2 2 4 C_Fi_find, tz_goto 10]
  | 9 => [tz_aload 0, tz_cv SH 0 5 1 C_Wo_parentOfDirectory, tz_fall 10]
  | 10 => [tz_istore 3, tz_iload 3, tz_iconst (-1), tz_icmp_ne 11, tz_sipush 27266, tz_iret]
  | 11 => [tz_aload 2, tz_iload 3, tz_cv SH 1 2 2 C_Fi_isDirectory, tz_if_eq 12, tz_aload 0, tz_iload 3, tz_put SH 5 4, tz_aload 0, tz_iconst (-1), tz_put SH 5 5, tz_goto 13]
  | 12 => [tz_aload 0, tz_iload 3, tz_put SH 5 5, tz_fall 13]
  | 13 => [tz_ldc 36864, tz_iret]
  | _ => []
def bp_Wo_find : Nat → Nat := fun b => match b with
  | 0 => 0
  | 1 => 14
  | 2 => 15
  | 3 => 31
  | 4 => 41
  | 5 => 45
  | 6 => 60
  | 7 => 61
  | 8 => 68
  | 9 => 98
  | 10 => 102
  | 11 => 112
  | 12 => 133
  | 13 => 138
  | _ => 0
set_option maxRecDepth 100000 in
set_option maxHeartbeats 4000000 in
theorem sd_Wo_find (X : rz_X) (G : rz_Cx CL X c_Wo_find 4 rz_tbl R_Wo ({ frames := 2, cells := 0, slots := 0, locals := 42 })) : ∀ b, rz_SB SH CL X bp_Wo_find (rz_RI SH CL X c_Wo_find (fun v => narrow .int (.int v) = .int v)) (bk_Wo_find b) (bp_Wo_find b) := fun b => match b with
  | 0 => (rz_cons (rz_aload_n G d_Wo_find_0 rfl) (rz_cons (rz_get G rfl in_Wo (by decide) wd_235 d_Wo_find_1) (rz_cons (rz_cvi G (m_Co_a X.1) cd_Co_a wd_438 wd_439 wd_440 rfl rfl (by decide) d_Wo_find_4) (rz_cons (rz_if_ne G d_Wo_find_7 (by decide)) (rz_cons (rz_iconst G d_Wo_find_10 (by decide)) (rz_cons (rz_goto (npc := 0) G d_Wo_find_11 (by decide)) rz_nil))))))
  | 1 => (rz_cons (rz_iconst G d_Wo_find_14 (by decide)) (rz_fall rfl))
  | 2 => (rz_cons (rz_istore_n G d_Wo_find_15 rfl (by decide)) (rz_cons (rz_iload_n G d_Wo_find_16 rfl) (rz_cons (rz_if_ne G d_Wo_find_17 (by decide)) (rz_cons (rz_aload_n G d_Wo_find_20 rfl) (rz_cons (rz_get G rfl in_Wo (by decide) wd_235 d_Wo_find_21) (rz_cons (rz_cvi G (m_Co_a X.1) cd_Co_a wd_438 wd_439 wd_440 rfl rfl (by decide) d_Wo_find_24) (rz_cons (rz_iconst G d_Wo_find_27 (by decide)) (rz_cons (rz_icmp_ne G d_Wo_find_28 (by decide)) (rz_fall rfl)))))))))
  | 3 => (rz_cons (rz_aload_n G d_Wo_find_31 rfl) (rz_cons (rz_get G rfl in_Wo (by decide) wd_235 d_Wo_find_32) (rz_cons (rz_cvi G (m_Co_b X.1) cd_Co_b wd_442 wd_443 wd_444 rfl rfl (by decide) d_Wo_find_35) (rz_cons (rz_if_eq G d_Wo_find_38 (by decide)) (rz_fall rfl)))))
  | 4 => (rz_cons (rz_sipush G d_Wo_find_41 (by decide)) (rz_cons (rz_iret (npc := 0) (fun _ => rfl) d_Wo_find_44) rz_nil))
  | 5 => (rz_cons (rz_aload_n G d_Wo_find_45 rfl) (rz_cons (rz_get G rfl in_Wo (by decide) wd_235 d_Wo_find_46) (rz_cons (rz_getN G rfl in_Co (by decide) wn_27 d_Wo_find_49) (rz_cons (rz_iload_n G d_Wo_find_52 rfl) (rz_cons (rz_if_eq G d_Wo_find_53 (by decide)) (rz_cons (rz_iconst G d_Wo_find_56 (by decide)) (rz_cons (rz_goto (npc := 0) G d_Wo_find_57 (by decide)) rz_nil)))))))
  | 6 => (rz_cons (rz_iconst G d_Wo_find_60 (by decide)) (rz_fall rfl))
  | 7 => (rz_cons (rz_icmp_eq G d_Wo_find_61 (by decide)) (rz_cons (rz_sipush G d_Wo_find_64 (by decide)) (rz_cons (rz_iret (npc := 0) (fun _ => rfl) d_Wo_find_67) rz_nil)))
  | 8 => (rz_cons (rz_aload_n G d_Wo_find_68 rfl) (rz_cons (rz_get G rfl in_Wo (by decide) wd_233 d_Wo_find_69) (rz_cons (rz_getN G rfl in_Me (by decide) wn_16 d_Wo_find_72) (rz_cons (rz_astore_n G d_Wo_find_75 rfl (by decide)) (rz_cons (rz_iload_n G d_Wo_find_76 rfl) (rz_cons (rz_if_eq G d_Wo_find_77 (by decide)) (rz_cons (rz_aload_n G d_Wo_find_80 rfl) (rz_cons (rz_aload_n G d_Wo_find_81 rfl) (rz_cons (rz_get G rfl in_Wo (by decide) wd_241 d_Wo_find_82) (rz_cons (rz_aload_n G d_Wo_find_85 rfl) (rz_cons (rz_get G rfl in_Wo (by decide) wd_235 d_Wo_find_86) (rz_cons (rz_cvi G (m_Co_dataAsName X.1) cd_Co_dataAsName wd_446 wd_447 wd_448 rfl rfl (by decide) d_Wo_find_89) (rz_cons (rz_cvi G (m_Fi_find X.1) cd_Fi_find wd_454 wd_455 wd_456 rfl rfl (by decide) d_Wo_find_92) (rz_cons (rz_goto (npc := 0) G d_Wo_find_95 (by decide)) rz_nil))))))))))))))
  | 9 => (rz_cons (rz_aload_n G d_Wo_find_98 rfl) (rz_cons (rz_cvi G (m_Wo_parentOfDirectory X.1) cd_Wo_parentOfDirectory wd_458 wd_460 wd_7 rfl rfl (by decide) d_Wo_find_99) (rz_fall rfl)))
  | 10 => (rz_cons (rz_istore_n G d_Wo_find_102 rfl (by decide)) (rz_cons (rz_iload_n G d_Wo_find_103 rfl) (rz_cons (rz_iconst G d_Wo_find_104 (by decide)) (rz_cons (rz_icmp_ne G d_Wo_find_105 (by decide)) (rz_cons (rz_sipush G d_Wo_find_108 (by decide)) (rz_cons (rz_iret (npc := 0) (fun _ => rfl) d_Wo_find_111) rz_nil))))))
  | 11 => (rz_cons (rz_aload_n G d_Wo_find_112 rfl) (rz_cons (rz_iload_n G d_Wo_find_113 rfl) (rz_cons (rz_cvi G (m_Fi_isDirectory X.1) cd_Fi_isDirectory wd_463 wd_280 wd_281 rfl rfl (by decide) d_Wo_find_114) (rz_cons (rz_if_eq G d_Wo_find_117 (by decide)) (rz_cons (rz_aload_n G d_Wo_find_120 rfl) (rz_cons (rz_iload_n G d_Wo_find_121 rfl) (rz_cons (rz_put G rfl in_Wo ty_Wo tyok_Wo nm_Wo (by decide) rfl (by decide +kernel) wd_241 d_Wo_find_122) (rz_cons (rz_aload_n G d_Wo_find_125 rfl) (rz_cons (rz_iconst G d_Wo_find_126 (by decide)) (rz_cons (rz_put G rfl in_Wo ty_Wo tyok_Wo nm_Wo (by decide) rfl (by decide +kernel) wd_243 d_Wo_find_127) (rz_cons (rz_goto (npc := 0) G d_Wo_find_130 (by decide)) rz_nil)))))))))))
  | 12 => (rz_cons (rz_aload_n G d_Wo_find_133 rfl) (rz_cons (rz_iload_n G d_Wo_find_134 rfl) (rz_cons (rz_put G rfl in_Wo ty_Wo tyok_Wo nm_Wo (by decide) rfl (by decide +kernel) wd_243 d_Wo_find_135) (rz_fall rfl))))
  | 13 => (rz_cons (rz_ldc G wd_464 d_Wo_find_138) (rz_cons (rz_iret (npc := 0) (fun _ => rfl) d_Wo_find_140) rz_nil))
  | _ + 14 => rz_nil
set_option maxRecDepth 100000 in
set_option maxHeartbeats 4000000 in
theorem bd_Wo_find : ∀ (Y : Nat → rz_K) (P : rz_P), (∀ b ls st μ, rz_ex P Y (bk_Wo_find b) ls st μ → Y b ls st μ) → ∀ As μ, C_Wo_find As μ P → Y 0 (rz_pad 4 (rz_ent As)) [] μ := by
  intro Y P hY As μ hC
  obtain ⟨c, rfl, hc, h1, h8, hC⟩ := hC
  have h8' : μ 7 6 ≤ 8 := by rw [hc]; exact nI_le (b := 8) h8 (by omega)
  have cc : (μ 7 6).toNatClampNeg = c := nc hc (by omega)
  have fin : ∀ (v x : Int32), PQ P (f_fi2 x μ) → Y 10 [some (.ref 5), some (.int v), some (.ref 7), none] [.int x] μ := by
    intro v x hp
    refine hY 10 _ _ _ (And.intro (fun h => ?_) (fun h => ?_))
    · have hp := rzT (PQ P) h hp
      refine hY 11 _ _ _ ⟨_, rfl, h8', And.intro (fun h2 => ?_) (fun h2 => ?_)⟩
      · exact hY 12 _ _ _ (hY 13 _ _ _ (rzF (PQ P) (b2_eq h2) hp))
      · exact hY 13 _ _ _ (rzT (PQ P) (b2_ne h2) hp)
    · exact rzN (PQ P) h hp
  by_cases ha : μ 16 2 = 0
  · have hC := rzT (PQ P) ha hC
    refine hY 0 _ _ _ (And.intro rfl (And.intro (fun h => absurd ha h) (fun _ => ?_)))
    refine hY 2 _ _ _ (And.intro (fun _ => ?_) (fun h => absurd h (by decide)))
    refine hY 3 _ _ _ (And.intro rfl (And.intro (fun h => ?_) (fun h => ?_)))
    · have hC := rzT (PQ P) h hC
      refine hY 5 _ _ _ (And.intro (fun h => absurd h (by decide)) (fun _ => ?_))
      refine hY 7 _ _ _ (And.intro (fun h => ?_) (fun h => ?_))
      · have hC := rzT (PQ P) h hC
        refine hY 8 _ _ _ (And.intro (fun h => absurd h (by decide)) (fun _ => And.intro rfl ⟨_, _, c, rfl, hc, h1, h8, ?_⟩))
        have := fin 1 _ hC
        unfold v_fnd at this
        rw [cc] at this
        exact this
      · exact rzF (PQ P) h hC
    · exact hY 4 _ _ _ (rzF (PQ P) h hC)
  · have hC := rzF (PQ P) ha hC
    refine hY 0 _ _ _ (And.intro rfl (And.intro (fun _ => hY 1 _ _ _ ?_) (fun h => absurd h ha)))
    refine hY 2 _ _ _ (And.intro (fun h => absurd rfl h) (fun _ => And.intro rfl (And.intro (fun h => ?_) (fun h => ?_))))
    · exact hY 4 _ _ _ (rzT (PQ P) h hC)
    · have hC := rzN (PQ P) h hC
      refine hY 3 _ _ _ (And.intro rfl (And.intro (fun h => ?_) (fun h => ?_)))
      · have hC := rzT (PQ P) h hC
        refine hY 5 _ _ _ (And.intro (fun _ => hY 6 _ _ _ ?_) (fun h => absurd rfl h))
        refine hY 7 _ _ _ (And.intro (fun h => ?_) (fun h => ?_))
        · have hC := rzT (PQ P) h hC
          refine hY 8 _ _ _ (And.intro (fun _ => ?_) (fun h => absurd rfl h))
          exact hY 9 _ _ _ (And.intro rfl (And.intro h8' (fin 0 _ hC)))
        · exact rzF (PQ P) h hC
      · exact hY 4 _ _ _ (rzF (PQ P) h hC)
theorem m_Wo_find (E : rz_E) : rz_MI SH CL E y_Wo_find 4 (Cond.code y_Wo_find c_Wo_find 4 (some .int) :: rz_tbl) ({ frames := 2, cells := 0, slots := 0, locals := 42 }) C_Wo_find := rz_metI (by decide) rfl (fun X _ G => sd_Wo_find X G) bd_Wo_find
theorem cd_Wo_find : rz_Cd rz_tbl y_Wo_find c_Wo_find 4 (some .int) (Cond.code y_Wo_find c_Wo_find 4 (some .int) :: rz_tbl) 0 ({ frames := 2, cells := 0, slots := 0, locals := 42 }) := ⟨rz_good wd_437, ⟨_, rfl⟩, wd_42, by decide +kernel, rfl, rfl⟩
abbrev p_ho (μ : rz_M) (f k : Int32) : Prop := ¬ f < 0 ∧ ¬ μ 7 6 ≤ f ∧ ¬ k < 0 ∧ ¬ μ 10 f.toNatClampNeg ≤ k
def v_test (p a : Int32) (μ : rz_M) : Int32 := if ¬ μ 5 5 = -1 then (if ¬ a = 0 then (if p_ho μ (μ 5 5) p then 36864 else 27392) else 27010) else 27014
def C_Wo_testPlace : rz_C := fun As μ P => ∃ p a : Int32, As = [.ref 5, .int p, .int a] ∧ μ 7 6 ≤ 8 ∧ P (some (.int (v_test p a μ))) μ
def bk_Wo_testPlace : Nat → List rz_T := fun b => match b with
  | 0 => [tz_aload 0, tz_get SH 5 5, tz_iconst (-1), tz_icmp_ne 1, tz_sipush 27014, tz_iret]
  | 1 => [tz_iload 2, tz_if_ne 2, tz_sipush 27010, tz_iret]
  | 2 => [tz_aload 0, tz_get SH 5 0, tz_get SH 4 0, tz_aload 0, tz_get SH 5 5, tz_iload 1, tz_cv SH 2 2 3 C_Fi_hasOctet, tz_if_eq 3, tz_ldc 36864, tz_goto 4]
  | 3 => [tz_sipush 27392, tz_fall 4]
  | 4 => [tz_iret]
  | _ => []
def bp_Wo_testPlace : Nat → Nat := fun b => match b with
  | 0 => 0
  | 1 => 12
  | 2 => 20
  | 3 => 43
  | 4 => 46
  | _ => 0
set_option maxRecDepth 100000 in
set_option maxHeartbeats 4000000 in
theorem sd_Wo_testPlace (X : rz_X) (G : rz_Cx CL X c_Wo_testPlace 3 rz_tbl R_Wo ({ frames := 1, cells := 0, slots := 0, locals := 22 })) : ∀ b, rz_SB SH CL X bp_Wo_testPlace (rz_RI SH CL X c_Wo_testPlace (fun v => narrow .int (.int v) = .int v)) (bk_Wo_testPlace b) (bp_Wo_testPlace b) := fun b => match b with
  | 0 => (rz_cons (rz_aload_n G d_Wo_testPlace_0 rfl) (rz_cons (rz_get G rfl in_Wo (by decide) wd_243 d_Wo_testPlace_1) (rz_cons (rz_iconst G d_Wo_testPlace_4 (by decide)) (rz_cons (rz_icmp_ne G d_Wo_testPlace_5 (by decide)) (rz_cons (rz_sipush G d_Wo_testPlace_8 (by decide)) (rz_cons (rz_iret (npc := 0) (fun _ => rfl) d_Wo_testPlace_11) rz_nil))))))
  | 1 => (rz_cons (rz_iload_n G d_Wo_testPlace_12 rfl) (rz_cons (rz_if_ne G d_Wo_testPlace_13 (by decide)) (rz_cons (rz_sipush G d_Wo_testPlace_16 (by decide)) (rz_cons (rz_iret (npc := 0) (fun _ => rfl) d_Wo_testPlace_19) rz_nil))))
  | 2 => (rz_cons (rz_aload_n G d_Wo_testPlace_20 rfl) (rz_cons (rz_get G rfl in_Wo (by decide) wd_233 d_Wo_testPlace_21) (rz_cons (rz_getN G rfl in_Me (by decide) wn_16 d_Wo_testPlace_24) (rz_cons (rz_aload_n G d_Wo_testPlace_27 rfl) (rz_cons (rz_get G rfl in_Wo (by decide) wd_243 d_Wo_testPlace_28) (rz_cons (rz_iload_n G d_Wo_testPlace_31 rfl) (rz_cons (rz_cvi G (m_Fi_hasOctet X.1) cd_Fi_hasOctet wd_486 wd_487 wd_488 rfl rfl (by decide) d_Wo_testPlace_32) (rz_cons (rz_if_eq G d_Wo_testPlace_35 (by decide)) (rz_cons (rz_ldc G wd_464 d_Wo_testPlace_38) (rz_cons (rz_goto (npc := 0) G d_Wo_testPlace_40 (by decide)) rz_nil))))))))))
  | 3 => (rz_cons (rz_sipush G d_Wo_testPlace_43 (by decide)) (rz_fall rfl))
  | 4 => (rz_cons (rz_iret (npc := 0) (fun _ => rfl) d_Wo_testPlace_46) rz_nil)
  | _ + 5 => rz_nil
set_option maxRecDepth 100000 in
set_option maxHeartbeats 4000000 in
theorem bd_Wo_testPlace : ∀ (Y : Nat → rz_K) (P : rz_P), (∀ b ls st μ, rz_ex P Y (bk_Wo_testPlace b) ls st μ → Y b ls st μ) → ∀ As μ, C_Wo_testPlace As μ P → Y 0 (rz_pad 3 (rz_ent As)) [] μ := by
  intro Y P hY As μ hC
  obtain ⟨p, a, rfl, h8, hC⟩ := hC
  refine hY 0 _ _ _ (And.intro (fun h => ?_) (fun h => rzN (fun z => P (some (.int z)) μ) h hC))
  have hC := rzT (fun z => P (some (.int z)) μ) h hC
  refine hY 1 _ _ _ (And.intro (fun h => ?_) (fun h => rzN (fun z => P (some (.int z)) μ) h hC))
  have hC := rzT (fun z => P (some (.int z)) μ) h hC
  refine hY 2 _ _ _ ⟨_, _, rfl, h8, And.intro (fun h => ?_) (fun h => ?_)⟩
  · exact hY _ _ _ _ (hY _ _ _ _ (rzF (fun z => P (some (.int z)) μ) (b2_eq h) hC))
  · exact hY _ _ _ _ (rzT (fun z => P (some (.int z)) μ) (b2_ne h) hC)
theorem m_Wo_testPlace (E : rz_E) : rz_MI SH CL E y_Wo_testPlace 3 (Cond.code y_Wo_testPlace c_Wo_testPlace 3 (some .int) :: rz_tbl) ({ frames := 1, cells := 0, slots := 0, locals := 22 }) C_Wo_testPlace := rz_metI (by decide) rfl (fun X _ G => sd_Wo_testPlace X G) bd_Wo_testPlace
theorem cd_Wo_testPlace : rz_Cd rz_tbl y_Wo_testPlace c_Wo_testPlace 3 (some .int) (Cond.code y_Wo_testPlace c_Wo_testPlace 3 (some .int) :: rz_tbl) 2 ({ frames := 1, cells := 0, slots := 0, locals := 22 }) := ⟨rz_good wd_485, ⟨_, rfl⟩, wd_42, by decide +kernel, rfl, rfl⟩
def v_plc (μ : rz_M) : Int32 := (μ 16 2 <<< ((8 : Int32) &&& 31)) ||| μ 16 3
abbrev p_mr (μ : rz_M) (f o : Int32) : Prop := (¬ f < 0 ∧ ¬ μ 7 6 ≤ f) ∧ (μ 11 f.toNatClampNeg = 0 ∨ (μ 11 f.toNatClampNeg = 1 ∧ ¬ o = 0))
abbrev p_mc (μ : rz_M) (f o : Int32) : Prop := (¬ f < 0 ∧ ¬ μ 7 6 ≤ f) ∧ (μ 12 f.toNatClampNeg = 0 ∨ (μ 12 f.toNatClampNeg = 1 ∧ ¬ o = 0))
/-- n OCTETS of the files, from the b-th on, are the answer -/
def f_rd (n b : Nat) (μ : rz_M) : rz_M := rz_up (rz_uf μ 18 (va_cpy (μ 13) (μ 18) b 0 n)) 17 1 (nI n)
def v_th (μ : rz_M) : Int32 := μ 10 (μ 5 5).toNatClampNeg - v_plc μ
def v_n (μ : rz_M) : Nat := min (v_th μ).toNatClampNeg (μ 15 4).toNatClampNeg
def f_read (μ : rz_M) : Int32 × rz_M := if 0 < μ 15 3 then (26368, μ) else if ¬ μ 15 4 = -1 then (if v_test (v_plc μ) (b2 (p_mr μ (μ 5 5) (μ 5 3))) μ = 36864 then (if μ 15 4 ≤ v_th μ then (36864, f_rd (v_n μ) (μ 5 5 * 24 + v_plc μ).toNatClampNeg μ) else (25218, f_rd (v_n μ) (μ 5 5 * 24 + v_plc μ).toNatClampNeg μ)) else (v_test (v_plc μ) (b2 (p_mr μ (μ 5 5) (μ 5 3))) μ, μ)) else (26368, μ)
theorem v_test_ok {p a : Int32} {μ : rz_M} (h : v_test p a μ = 36864) : p_ho μ (μ 5 5) p := by
  unfold v_test at h
  split at h
  · split at h
    · split at h
      · next q => exact q
      · exact absurd h (by decide)
    · exact absurd h (by decide)
  · exact absurd h (by decide)
def C_Wo_read : rz_C := fun As μ P => As = [.ref 5] ∧ μ 7 6 ≤ 8 ∧ (∀ i, i < 8 → ∃ z : Nat, z ≤ 24 ∧ μ 10 i = nI z) ∧ μ 17 1 = 0 ∧ (μ 15 4 = -1 ∨ ∃ e : Nat, e ≤ 255 ∧ μ 15 4 = nI e) ∧ PQ P (f_read μ)
def bk_Wo_read : Nat → List rz_T := fun b => match b with
  | 0 => [tz_aload 0, tz_get SH 5 1, tz_get SH 1 3, tz_if_gt 1, tz_aload 0, tz_get SH 5 1, tz_get SH 1 4, tz_iconst (-1), tz_icmp_ne 2, tz_fall 1]
  | 1 => [tz_sipush 26368, tz_iret]
  | 2 => [tz_aload 0, tz_get SH 5 1, tz_cv SH 0 1 1 C_Co_place, tz_istore 1, tz_aload 0, tz_iload 1, tz_aload 0, tz_get SH 5 0, tz_get SH 4 0, tz_aload 0, tz_get SH 5 5, tz_aload 0, tz_get SH 5 3, tz_cv SH 2 2 3 C_Fi_mayRead, tz_cv SH 2 5 3 C_Wo_testPlace, tz_istore 2, tz_iload 2, tz_ldc 36864, tz_icmp_eq 3, tz_iload 2, tz_iret]
  | 3 => [tz_aload 0, tz_get SH 5 0, tz_get SH 4 0, tz_get SH 2 2, tz_aload 0, tz_get SH 5 5, tz_iald SH, tz_iload 1, tz_isub, tz_istore 3, tz_iload 3, tz_aload 0, tz_get SH 5 1, tz_get SH 1 4, tz_min, tz_istore 4, tz_iconst 0, tz_istore 5, tz_fall 4]
  | 4 => [tz_iload 5, tz_iload 4, tz_icmp_ge 5, tz_aload 0, tz_get SH 5 2, tz_aload 0, tz_get SH 5 0, tz_get SH 4 0, tz_aload 0, tz_get SH 5 5, tz_iload 1, tz_iload 5, tz_iadd, tz_cv SH 2 2 3 C_Fi_octet, tz_cv SH 1 0 2 C_An_add, tz_iinc 5 1, tz_goto 4]
  | 5 => [tz_iload 3, tz_aload 0, tz_get SH 5 1, tz_get SH 1 4, tz_icmp_ge 6, tz_sipush 25218, tz_goto 7]
  | 6 => [tz_ldc 36864, tz_fall 7]
  | 7 => [tz_iret]
  | _ => []
def bp_Wo_read : Nat → Nat := fun b => match b with
  | 0 => 0
  | 1 => 21
  | 2 => 25
  | 3 => 65
  | 4 => 99
  | 5 => 137
  | 6 => 154
  | 7 => 156
  | _ => 0
set_option maxRecDepth 100000 in
set_option maxHeartbeats 4000000 in
theorem sd_Wo_read (X : rz_X) (G : rz_Cx CL X c_Wo_read 6 rz_tbl R_Wo ({ frames := 2, cells := 0, slots := 0, locals := 44 })) : ∀ b, rz_SB SH CL X bp_Wo_read (rz_RI SH CL X c_Wo_read (fun v => narrow .int (.int v) = .int v)) (bk_Wo_read b) (bp_Wo_read b) := fun b => match b with
  | 0 => (rz_cons (rz_aload_n G d_Wo_read_0 rfl) (rz_cons (rz_get G rfl in_Wo (by decide) wd_235 d_Wo_read_1) (rz_cons (rz_getN G rfl in_Co (by decide) wn_27 d_Wo_read_4) (rz_cons (rz_if_gt G d_Wo_read_7 (by decide)) (rz_cons (rz_aload_n G d_Wo_read_10 rfl) (rz_cons (rz_get G rfl in_Wo (by decide) wd_235 d_Wo_read_11) (rz_cons (rz_getN G rfl in_Co (by decide) wn_28 d_Wo_read_14) (rz_cons (rz_iconst G d_Wo_read_17 (by decide)) (rz_cons (rz_icmp_ne G d_Wo_read_18 (by decide)) (rz_fall rfl))))))))))
  | 1 => (rz_cons (rz_sipush G d_Wo_read_21 (by decide)) (rz_cons (rz_iret (npc := 0) (fun _ => rfl) d_Wo_read_24) rz_nil))
  | 2 => (rz_cons (rz_aload_n G d_Wo_read_25 rfl) (rz_cons (rz_get G rfl in_Wo (by decide) wd_235 d_Wo_read_26) (rz_cons (rz_cvi G (m_Co_place X.1) cd_Co_place wd_469 wd_470 wd_471 rfl rfl (by decide) d_Wo_read_29) (rz_cons (rz_istore_n G d_Wo_read_32 rfl (by decide)) (rz_cons (rz_aload_n G d_Wo_read_33 rfl) (rz_cons (rz_iload_n G d_Wo_read_34 rfl) (rz_cons (rz_aload_n G d_Wo_read_35 rfl) (rz_cons (rz_get G rfl in_Wo (by decide) wd_233 d_Wo_read_36) (rz_cons (rz_getN G rfl in_Me (by decide) wn_16 d_Wo_read_39) (rz_cons (rz_aload_n G d_Wo_read_42 rfl) (rz_cons (rz_get G rfl in_Wo (by decide) wd_243 d_Wo_read_43) (rz_cons (rz_aload_n G d_Wo_read_46 rfl) (rz_cons (rz_get G rfl in_Wo (by decide) wd_239 d_Wo_read_47) (rz_cons (rz_cvi G (m_Fi_mayRead X.1) cd_Fi_mayRead wd_475 wd_476 wd_477 rfl rfl (by decide) d_Wo_read_50) (rz_cons (rz_cvi G (m_Wo_testPlace X.1) cd_Wo_testPlace wd_482 wd_484 wd_9 rfl rfl (by decide) d_Wo_read_53) (rz_cons (rz_istore_n G d_Wo_read_56 rfl (by decide)) (rz_cons (rz_iload_n G d_Wo_read_57 rfl) (rz_cons (rz_ldc G wd_464 d_Wo_read_58) (rz_cons (rz_icmp_eq G d_Wo_read_60 (by decide)) (rz_cons (rz_iload_n G d_Wo_read_63 rfl) (rz_cons (rz_iret (npc := 0) (fun _ => rfl) d_Wo_read_64) rz_nil)))))))))))))))))))))
  | 3 => (rz_cons (rz_aload_n G d_Wo_read_65 rfl) (rz_cons (rz_get G rfl in_Wo (by decide) wd_233 d_Wo_read_66) (rz_cons (rz_getN G rfl in_Me (by decide) wn_16 d_Wo_read_69) (rz_cons (rz_getN G rfl in_Fi (by decide) wn_10 d_Wo_read_72) (rz_cons (rz_aload_n G d_Wo_read_75 rfl) (rz_cons (rz_get G rfl in_Wo (by decide) wd_243 d_Wo_read_76) (rz_cons (rz_iald G d_Wo_read_79) (rz_cons (rz_iload_n G d_Wo_read_80 rfl) (rz_cons (rz_isub G d_Wo_read_81) (rz_cons (rz_istore_n G d_Wo_read_82 rfl (by decide)) (rz_cons (rz_iload_n G d_Wo_read_83 rfl) (rz_cons (rz_aload_n G d_Wo_read_84 rfl) (rz_cons (rz_get G rfl in_Wo (by decide) wd_235 d_Wo_read_85) (rz_cons (rz_getN G rfl in_Co (by decide) wn_28 d_Wo_read_88) (rz_cons (rz_min G wd_490 wd_491 wd_48 wd_492 (by decide) d_Wo_read_91) (rz_cons (rz_istore G d_Wo_read_94 (by decide)) (rz_cons (rz_iconst G d_Wo_read_96 (by decide)) (rz_cons (rz_istore G d_Wo_read_97 (by decide)) (rz_fall rfl)))))))))))))))))))
  | 4 => (rz_cons (rz_iload G d_Wo_read_99) (rz_cons (rz_iload G d_Wo_read_101) (rz_cons (rz_icmp_ge G d_Wo_read_103 (by decide)) (rz_cons (rz_aload_n G d_Wo_read_106 rfl) (rz_cons (rz_get G rfl in_Wo (by decide) wd_237 d_Wo_read_107) (rz_cons (rz_aload_n G d_Wo_read_110 rfl) (rz_cons (rz_get G rfl in_Wo (by decide) wd_233 d_Wo_read_111) (rz_cons (rz_getN G rfl in_Me (by decide) wn_16 d_Wo_read_114) (rz_cons (rz_aload_n G d_Wo_read_117 rfl) (rz_cons (rz_get G rfl in_Wo (by decide) wd_243 d_Wo_read_118) (rz_cons (rz_iload_n G d_Wo_read_121 rfl) (rz_cons (rz_iload G d_Wo_read_122) (rz_cons (rz_iadd G d_Wo_read_124) (rz_cons (rz_cvi G (m_Fi_octet X.1) cd_Fi_octet wd_493 wd_494 wd_495 rfl rfl (by decide) d_Wo_read_125) (rz_cons (rz_cvv G (m_An_add X.1) cd_An_add wd_498 wd_499 wd_500 rfl rfl (by decide) d_Wo_read_128) (rz_cons (rz_iinc G d_Wo_read_131 (by decide) (by decide)) (rz_cons (rz_goto (npc := 0) G d_Wo_read_134 (by decide)) rz_nil)))))))))))))))))
  | 5 => (rz_cons (rz_iload_n G d_Wo_read_137 rfl) (rz_cons (rz_aload_n G d_Wo_read_138 rfl) (rz_cons (rz_get G rfl in_Wo (by decide) wd_235 d_Wo_read_139) (rz_cons (rz_getN G rfl in_Co (by decide) wn_28 d_Wo_read_142) (rz_cons (rz_icmp_ge G d_Wo_read_145 (by decide)) (rz_cons (rz_sipush G d_Wo_read_148 (by decide)) (rz_cons (rz_goto (npc := 0) G d_Wo_read_151 (by decide)) rz_nil)))))))
  | 6 => (rz_cons (rz_ldc G wd_464 d_Wo_read_154) (rz_fall rfl))
  | 7 => (rz_cons (rz_iret (npc := 0) (fun _ => rfl) d_Wo_read_156) rz_nil)
  | _ + 8 => rz_nil
set_option maxRecDepth 100000 in
set_option maxHeartbeats 4000000 in
theorem bd_Wo_read : ∀ (Y : Nat → rz_K) (P : rz_P), (∀ b ls st μ, rz_ex P Y (bk_Wo_read b) ls st μ → Y b ls st μ) → ∀ As μ, C_Wo_read As μ P → Y 0 (rz_pad 6 (rz_ent As)) [] μ := by
  intro Y P hY As μ hC
  obtain ⟨rfl, h8, hz, h17, hex, hC⟩ := hC
  refine hY 0 _ _ _ (And.intro (fun h => hY 1 _ _ _ (rzT (PQ P) h hC)) (fun h => ?_))
  have hC := rzF (PQ P) h hC
  refine And.intro (fun h => ?_) (fun h => hY 1 _ _ _ (rzN (PQ P) h hC))
  have hC := rzT (PQ P) h hC
  refine hY 2 _ _ _ (And.intro rfl ⟨_, _, rfl, h8, _, _, rfl, h8, And.intro (fun h2 => ?_) (fun h2 => rzF (PQ P) h2 hC)⟩)
  have hC := rzT (PQ P) h2 hC
  obtain ⟨k0, k1, k2, k3⟩ := v_test_ok h2
  obtain ⟨f, hf⟩ := nI_of k0
  obtain ⟨p, hp⟩ := nI_of k2
  obtain ⟨e, he⟩ := hex.resolve_left h
  have hf8 : f < 8 := by
    have : nI f < 8 := by rw [← hf.2]; exact Int32.lt_of_lt_of_le (Int32.not_le.mp k1) h8
    exact (nI_ltI (b := 8) hf.1 (by omega)).mp this
  obtain ⟨z, hz24, hzz⟩ := hz f hf8
  have cf : (μ 5 5).toNatClampNeg = f := nc hf.2 hf.1
  have hpz : p < z := by
    rw [cf, hzz] at k3
    have hp2 : v_plc μ = nI p := hp.2
    have : ¬ nI z ≤ nI p := by rw [← hp2]; exact k3
    rcases Nat.lt_or_ge p z with q | q
    · exact q
    · exact absurd (nI_le q hp.1) this
  have hp2 : v_plc μ = nI p := hp.2
  have hth : v_th μ = nI (z - p) := by unfold v_th; rw [cf, hzz, hp2]; exact pk_sub (by omega)
  have hb : (μ 5 5 * 24 + v_plc μ).toNatClampNeg = f * 24 + p := by
    rw [hf.2, hp2, show (24 : Int32) = nI 24 from rfl, pk_mul, nI_add]; exact nI_clamp (by omega)
  have hvn : v_n μ = min (z - p) e := by unfold v_n; rw [hth, he.2, nI_clamp (by omega), nI_clamp (by omega)]
  obtain ⟨n, hn⟩ : ∃ n, n = min (z - p) e := ⟨_, rfl⟩
  rw [hvn, hb, ← hn] at hC
  have hmin : (if μ 15 4 < v_th μ then μ 15 4 else v_th μ) = nI n := by
    rw [hth, he.2]
    by_cases q : e < z - p
    · rw [if_pos (nI_lt q (by omega))]; congr 1; omega
    · rw [if_neg (nI_nlt (by omega) (by omega))]; congr 1; omega
  have loop : ∀ d i, i + d = n → Y 4 [some (.ref 5), some (.int (v_plc μ)), some (.int (v_test (v_plc μ) (b2 (p_mr μ (μ 5 5) (μ 5 3))) μ)), some (.int (v_th μ)), some (.int (nI n)), some (.int (nI i))] [] (f_rd i (f * 24 + p) μ) := by
    intro d
    induction d with
    | zero =>
      intro i hi
      have : i = n := by omega
      subst this
      refine hY 4 _ _ _ (And.intro (fun _ => ?_) (fun h => absurd (Int32.le_refl _) h))
      refine hY 5 _ _ _ (And.intro (fun (h : μ 15 4 ≤ v_th μ) => ?_) (fun (h : ¬ μ 15 4 ≤ v_th μ) => ?_))
      · exact hY _ _ _ _ (hY _ _ _ _ (rzT (PQ P) h hC))
      · exact hY _ _ _ _ (rzF (PQ P) h hC)
    | succ d ih =>
      intro i hi
      have e1 : v_plc μ + nI i = nI (p + i) := by rw [hp2, nI_add]
      refine hY 4 _ _ _ (And.intro (fun h => absurd h (nI_ge (by omega) (by omega))) (fun _ => ⟨μ 5 5, v_plc μ + nI i, rfl, h8, ⟨k0, k1, ?_, ?_⟩, ?_, _, rfl, ?_, ?_⟩))
      · rw [e1]; exact nI_pos (by omega)
      · show ¬ μ 10 (μ 5 5).toNatClampNeg ≤ v_plc μ + nI i
        rw [e1, cf, hzz]; exact nI_ge (by omega) (by omega)
      · rw [e1]; exact nI_ge (a := p + i) (b := 24) (by omega) (by omega)
      · exact nI_pos' (n := i) (by omega)
      · have e2 : (μ 5 5 * 24 + (v_plc μ + nI i)).toNatClampNeg = f * 24 + p + i := by
          rw [e1, hf.2, show (24 : Int32) = nI 24 from rfl, pk_mul, nI_add, ← Nat.add_assoc]; exact nI_clamp (by omega)
        have e3 : f_An_add (f_rd i (f * 24 + p) μ 13 (μ 5 5 * 24 + (v_plc μ + nI i)).toNatClampNeg) (f_rd i (f * 24 + p) μ) = f_rd (i + 1) (f * 24 + p) μ := by
          rw [f_An_nI (a := i) rfl (by omega), e2]
          unfold f_rd
          rw [rz_up_same, rz_up_k (k' := 13) (by decide), rz_uf_ne (by decide), rz_up_comm (k := 17) (k2 := 18) (Or.inl (by decide))]
          congr 1
          funext k
          by_cases hk : k = 18
          · subst hk
            rw [rz_uf_eq]
            funext j
            by_cases hj : j = i
            · subst hj
              rw [rz_up_at, pk_cpy_in (by omega) (by omega)]
              simp
            · rw [rz_up_j hj, rz_uf_eq]
              by_cases hl : j < i
              · rw [pk_cpy_in (by omega) (by omega), pk_cpy_in (by omega) (by omega)]
              · rw [pk_cpy_out (by omega), pk_cpy_out (by omega)]
          · rw [rz_up_k hk, rz_uf_ne hk, rz_uf_ne hk]
        have := ih (i + 1) (by omega)
        rw [nI_succ, ← e3] at this
        exact this
  have h0 := loop n 0 (by omega)
  have e0 : f_rd 0 (f * 24 + p) μ = μ := by
    unfold f_rd
    have : rz_uf μ 18 (va_cpy (μ 13) (μ 18) (f * 24 + p) 0 0) = μ := by
      funext k
      by_cases hk : k = 18
      · subst hk
        rw [rz_uf_eq]
        funext j
        rw [pk_cpy_out (by omega)]
      · rw [rz_uf_ne hk]
    rw [this]
    exact rz_up_id h17
  rw [e0, ← hmin] at h0
  refine hY 3 _ _ _ (And.intro ?_ h0)
  show vp_in (μ 5 5) 8
  rw [hf.2]; exact vp_in_nI hf8 (by omega)
theorem m_Wo_read (E : rz_E) : rz_MI SH CL E y_Wo_read 6 (Cond.code y_Wo_read c_Wo_read 6 (some .int) :: rz_tbl) ({ frames := 2, cells := 0, slots := 0, locals := 44 }) C_Wo_read := rz_metI (by decide) rfl (fun X _ G => sd_Wo_read X G) bd_Wo_read
theorem cd_Wo_read : rz_Cd rz_tbl y_Wo_read c_Wo_read 6 (some .int) (Cond.code y_Wo_read c_Wo_read 6 (some .int) :: rz_tbl) 0 ({ frames := 2, cells := 0, slots := 0, locals := 44 }) := ⟨rz_good wd_468, ⟨_, rfl⟩, wd_42, by decide +kernel, rfl, rfl⟩
def f_chg2 (n : Nat) (μ : rz_M) : Int32 × rz_M := if (f_wN (μ 5 5) (v_plc μ) n μ).1 = 0 then (-1, (f_wN (μ 5 5) (v_plc μ) n μ).2) else if (f_coL n 0 (f_wN (μ 5 5) (v_plc μ) n μ).2).1 = 0 then (-1, (f_coL n 0 (f_wN (μ 5 5) (v_plc μ) n μ).2).2) else (36864, (f_coL n 0 (f_wN (μ 5 5) (v_plc μ) n μ).2).2)
def f_chg (n : Nat) (μ : rz_M) : Int32 × rz_M := if μ 15 3 = 0 then (26368, μ) else if μ 15 4 = -1 then (if v_test (v_plc μ) (b2 (p_mc μ (μ 5 5) (μ 5 3))) μ = 36864 then (if p_ho μ (μ 5 5) (v_plc μ + μ 15 3 - 1) then f_chg2 n μ else (27268, μ)) else (v_test (v_plc μ) (b2 (p_mc μ (μ 5 5) (μ 5 3))) μ, μ)) else (26368, μ)
def C_Wo_change : rz_C := fun As μ P => ∃ n : Nat, As = [.ref 5] ∧ μ 15 3 = nI n ∧ n ≤ 32 ∧ μ 7 6 ≤ 8 ∧ (∀ i, i < 8 → ∃ z : Nat, z ≤ 24 ∧ μ 10 i = nI z) ∧ PQ P (f_chg n μ)
theorem f_wN_4 {f p : Int32} {n : Nat} {μ : rz_M} (h : ¬ (f_wN f p n μ).1 = 0) : (f_wN f p n μ).2 6 4 = nI n := by
  unfold f_wN at h ⊢
  split at h
  · exact absurd rfl h
  · next q => rw [if_neg q]; rfl
def bk_Wo_change : Nat → List rz_T := fun b => match b with
  | 0 => [tz_aload 0, tz_get SH 5 1, tz_get SH 1 3, tz_if_eq 1, tz_aload 0, tz_get SH 5 1, tz_get SH 1 4, tz_iconst (-1), tz_icmp_eq 2, tz_fall 1]
  | 1 => [tz_sipush 26368, tz_iret]
  | 2 => [tz_aload 0, tz_get SH 5 1, tz_cv SH 0 1 1 C_Co_place, tz_istore 1, tz_aload 0, tz_iload 1, tz_aload 0, tz_get SH 5 0, tz_get SH 4 0, tz_aload 0, tz_get SH 5 5, tz_aload 0, tz_get SH 5 3, tz_cv SH 2 2 3 C_Fi_mayChange, tz_cv SH 2 5 3 C_Wo_testPlace, tz_istore 2, tz_iload 2, tz_ldc 36864, tz_icmp_eq 3, tz_iload 2, tz_iret]
  | 3 => [tz_aload 0, tz_get SH 5 0, tz_get SH 4 0, tz_aload 0, tz_get SH 5 5, tz_iload 1, tz_aload 0, tz_get SH 5 1, tz_get SH 1 3, tz_iadd, tz_iconst 1, tz_isub, tz_cv SH 2 2 3 C_Fi_hasOctet, tz_if_ne 4, tz_sipush 27268, tz_iret]
  | 4 => [tz_aload 0, tz_get SH 5 0, tz_aload 0, tz_get SH 5 5, tz_iload 1, tz_aload 0, tz_get SH 5 1, tz_cv SH 3 4 6 C_Me_writeNote, tz_if_eq 5, tz_aload 0, tz_get SH 5 0, tz_cv SH 0 4 2 C_Me_carryOutNote, tz_if_eq 5, tz_ldc 36864, tz_goto 6]
  | 5 => [tz_iconst (-1), tz_fall 6]
  | 6 => [tz_iret]
  | _ => []
def bp_Wo_change : Nat → Nat := fun b => match b with
  | 0 => 0
  | 1 => 21
  | 2 => 25
  | 3 => 65
  | 4 => 97
  | 5 => 131
  | 6 => 132
  | _ => 0
set_option maxRecDepth 100000 in
set_option maxHeartbeats 4000000 in
theorem sd_Wo_change (X : rz_X) (G : rz_Cx CL X c_Wo_change 3 rz_tbl R_Wo ({ frames := 2, cells := 0, slots := 0, locals := 46 })) : ∀ b, rz_SB SH CL X bp_Wo_change (rz_RI SH CL X c_Wo_change (fun v => narrow .int (.int v) = .int v)) (bk_Wo_change b) (bp_Wo_change b) := fun b => match b with
  | 0 => (rz_cons (rz_aload_n G d_Wo_change_0 rfl) (rz_cons (rz_get G rfl in_Wo (by decide) wd_235 d_Wo_change_1) (rz_cons (rz_getN G rfl in_Co (by decide) wn_27 d_Wo_change_4) (rz_cons (rz_if_eq G d_Wo_change_7 (by decide)) (rz_cons (rz_aload_n G d_Wo_change_10 rfl) (rz_cons (rz_get G rfl in_Wo (by decide) wd_235 d_Wo_change_11) (rz_cons (rz_getN G rfl in_Co (by decide) wn_28 d_Wo_change_14) (rz_cons (rz_iconst G d_Wo_change_17 (by decide)) (rz_cons (rz_icmp_eq G d_Wo_change_18 (by decide)) (rz_fall rfl))))))))))
  | 1 => (rz_cons (rz_sipush G d_Wo_change_21 (by decide)) (rz_cons (rz_iret (npc := 0) (fun _ => rfl) d_Wo_change_24) rz_nil))
  | 2 => (rz_cons (rz_aload_n G d_Wo_change_25 rfl) (rz_cons (rz_get G rfl in_Wo (by decide) wd_235 d_Wo_change_26) (rz_cons (rz_cvi G (m_Co_place X.1) cd_Co_place wd_469 wd_470 wd_471 rfl rfl (by decide) d_Wo_change_29) (rz_cons (rz_istore_n G d_Wo_change_32 rfl (by decide)) (rz_cons (rz_aload_n G d_Wo_change_33 rfl) (rz_cons (rz_iload_n G d_Wo_change_34 rfl) (rz_cons (rz_aload_n G d_Wo_change_35 rfl) (rz_cons (rz_get G rfl in_Wo (by decide) wd_233 d_Wo_change_36) (rz_cons (rz_getN G rfl in_Me (by decide) wn_16 d_Wo_change_39) (rz_cons (rz_aload_n G d_Wo_change_42 rfl) (rz_cons (rz_get G rfl in_Wo (by decide) wd_243 d_Wo_change_43) (rz_cons (rz_aload_n G d_Wo_change_46 rfl) (rz_cons (rz_get G rfl in_Wo (by decide) wd_239 d_Wo_change_47) (rz_cons (rz_cvi G (m_Fi_mayChange X.1) cd_Fi_mayChange wd_506 wd_507 wd_508 rfl rfl (by decide) d_Wo_change_50) (rz_cons (rz_cvi G (m_Wo_testPlace X.1) cd_Wo_testPlace wd_482 wd_484 wd_9 rfl rfl (by decide) d_Wo_change_53) (rz_cons (rz_istore_n G d_Wo_change_56 rfl (by decide)) (rz_cons (rz_iload_n G d_Wo_change_57 rfl) (rz_cons (rz_ldc G wd_464 d_Wo_change_58) (rz_cons (rz_icmp_eq G d_Wo_change_60 (by decide)) (rz_cons (rz_iload_n G d_Wo_change_63 rfl) (rz_cons (rz_iret (npc := 0) (fun _ => rfl) d_Wo_change_64) rz_nil)))))))))))))))))))))
  | 3 => (rz_cons (rz_aload_n G d_Wo_change_65 rfl) (rz_cons (rz_get G rfl in_Wo (by decide) wd_233 d_Wo_change_66) (rz_cons (rz_getN G rfl in_Me (by decide) wn_16 d_Wo_change_69) (rz_cons (rz_aload_n G d_Wo_change_72 rfl) (rz_cons (rz_get G rfl in_Wo (by decide) wd_243 d_Wo_change_73) (rz_cons (rz_iload_n G d_Wo_change_76 rfl) (rz_cons (rz_aload_n G d_Wo_change_77 rfl) (rz_cons (rz_get G rfl in_Wo (by decide) wd_235 d_Wo_change_78) (rz_cons (rz_getN G rfl in_Co (by decide) wn_27 d_Wo_change_81) (rz_cons (rz_iadd G d_Wo_change_84) (rz_cons (rz_iconst G d_Wo_change_85 (by decide)) (rz_cons (rz_isub G d_Wo_change_86) (rz_cons (rz_cvi G (m_Fi_hasOctet X.1) cd_Fi_hasOctet wd_486 wd_487 wd_488 rfl rfl (by decide) d_Wo_change_87) (rz_cons (rz_if_ne G d_Wo_change_90 (by decide)) (rz_cons (rz_sipush G d_Wo_change_93 (by decide)) (rz_cons (rz_iret (npc := 0) (fun _ => rfl) d_Wo_change_96) rz_nil))))))))))))))))
  | 4 => (rz_cons (rz_aload_n G d_Wo_change_97 rfl) (rz_cons (rz_get G rfl in_Wo (by decide) wd_233 d_Wo_change_98) (rz_cons (rz_aload_n G d_Wo_change_101 rfl) (rz_cons (rz_get G rfl in_Wo (by decide) wd_243 d_Wo_change_102) (rz_cons (rz_iload_n G d_Wo_change_105 rfl) (rz_cons (rz_aload_n G d_Wo_change_106 rfl) (rz_cons (rz_get G rfl in_Wo (by decide) wd_235 d_Wo_change_107) (rz_cons (rz_cvi G (m_Me_writeNote X.1) cd_Me_writeNote wd_510 wd_511 wd_512 rfl rfl (by decide) d_Wo_change_110) (rz_cons (rz_if_eq G d_Wo_change_113 (by decide)) (rz_cons (rz_aload_n G d_Wo_change_116 rfl) (rz_cons (rz_get G rfl in_Wo (by decide) wd_233 d_Wo_change_117) (rz_cons (rz_cvi G (m_Me_carryOutNote X.1) cd_Me_carryOutNote wd_516 wd_331 wd_332 rfl rfl (by decide) d_Wo_change_120) (rz_cons (rz_if_eq G d_Wo_change_123 (by decide)) (rz_cons (rz_ldc G wd_464 d_Wo_change_126) (rz_cons (rz_goto (npc := 0) G d_Wo_change_128 (by decide)) rz_nil)))))))))))))))
  | 5 => (rz_cons (rz_iconst G d_Wo_change_131 (by decide)) (rz_fall rfl))
  | 6 => (rz_cons (rz_iret (npc := 0) (fun _ => rfl) d_Wo_change_132) rz_nil)
  | _ + 7 => rz_nil
set_option maxRecDepth 100000 in
set_option maxHeartbeats 4000000 in
theorem bd_Wo_change : ∀ (Y : Nat → rz_K) (P : rz_P), (∀ b ls st μ, rz_ex P Y (bk_Wo_change b) ls st μ → Y b ls st μ) → ∀ As μ, C_Wo_change As μ P → Y 0 (rz_pad 3 (rz_ent As)) [] μ := by
  intro Y P hY As μ hC
  obtain ⟨n, rfl, hn, h32, h8, hz, hC⟩ := hC
  refine hY 0 _ _ _ (And.intro (fun h => hY 1 _ _ _ (rzT (PQ P) h hC)) (fun h0 => ?_))
  have hC := rzF (PQ P) h0 hC
  refine And.intro (fun h => ?_) (fun h => hY 1 _ _ _ (rzF (PQ P) h hC))
  have hC := rzT (PQ P) h hC
  refine hY 2 _ _ _ (And.intro rfl ⟨_, _, rfl, h8, _, _, rfl, h8, And.intro (fun h2 => ?_) (fun h2 => rzF (PQ P) h2 hC)⟩)
  have hC := rzT (PQ P) h2 hC
  refine hY 3 _ _ _ ⟨μ 5 5, v_plc μ + μ 15 3 - 1, rfl, h8, And.intro (fun h3 => ?_) (fun h3 => rzF (PQ P) (b2_eq h3) hC)⟩
  have hC := rzT (PQ P) (b2_ne h3) hC
  obtain ⟨k0, k1, k2, k3⟩ := v_test_ok h2
  obtain ⟨-, -, j2, j3⟩ := b2_ne h3
  obtain ⟨f, hf⟩ := nI_of k0
  obtain ⟨p, hp⟩ := nI_of k2
  have hp2 : v_plc μ = nI p := hp.2
  have hf8 : f < 8 := by
    have : nI f < 8 := by rw [← hf.2]; exact Int32.lt_of_lt_of_le (Int32.not_le.mp k1) h8
    exact (nI_ltI (b := 8) hf.1 (by omega)).mp this
  obtain ⟨z, hz24, hzz⟩ := hz f hf8
  have cf : (μ 5 5).toNatClampNeg = f := nc hf.2 hf.1
  have hpz : p < z := by
    rw [cf, hzz] at k3
    have : ¬ nI z ≤ nI p := by rw [← hp2]; exact k3
    rcases Nat.lt_or_ge p z with q | q
    · exact q
    · exact absurd (nI_le q hp.1) this
  have hn0 : 1 ≤ n := by
    rcases Nat.eq_zero_or_pos n with q | q
    · rw [q] at hn; exact absurd hn h0
    · exact q
  have hpn : v_plc μ + μ 15 3 - 1 = nI (p + n - 1) := by
    rw [hp2, hn, nI_add, show p + n = (p + n - 1) + 1 by omega, nI_pred]; congr 1
  have hn24 : n ≤ 24 := by
    rw [cf, hzz, hpn] at j3
    rcases Nat.lt_or_ge (p + n - 1) z with q | q
    · omega
    · exact absurd (nI_le q (by omega)) j3
  refine hY 4 _ _ _ ⟨_, _, n, rfl, hn, hn24, And.intro (fun h4 => ?_) (fun h4 => ?_)⟩
  · exact hY _ _ _ _ (hY _ _ _ _ (rzT (PQ P) h4 hC))
  · have hC := rzF (PQ P) h4 hC
    refine ⟨n, rfl, f_wN_4 h4, hn24, And.intro (fun h5 => ?_) (fun h5 => ?_)⟩
    · exact hY _ _ _ _ (hY _ _ _ _ (rzT (PQ P) h5 hC))
    · exact hY _ _ _ _ (rzF (PQ P) h5 hC)
theorem m_Wo_change (E : rz_E) : rz_MI SH CL E y_Wo_change 3 (Cond.code y_Wo_change c_Wo_change 3 (some .int) :: rz_tbl) ({ frames := 2, cells := 0, slots := 0, locals := 46 }) C_Wo_change := rz_metI (by decide) rfl (fun X _ G => sd_Wo_change X G) bd_Wo_change
theorem cd_Wo_change : rz_Cd rz_tbl y_Wo_change c_Wo_change 3 (some .int) (Cond.code y_Wo_change c_Wo_change 3 (some .int) :: rz_tbl) 0 ({ frames := 2, cells := 0, slots := 0, locals := 46 }) := ⟨rz_good wd_505, ⟨_, rfl⟩, wd_42, by decide +kernel, rfl, rfl⟩
def f_cmp1 (μ : rz_M) : rz_M := rz_up (f_w μ) 6 7 (μ 6 7 - 1)
def f_cmp (x : Int32) (μ : rz_M) : Int32 × rz_M := if ¬ μ 6 10 = 0 then (if x = μ 6 6 then (if ¬ f_cmp1 μ 6 10 = 0 then (36864, rz_up (rz_up (f_w (f_cmp1 μ)) 6 7 3) 5 3 1) else (-1, f_w (f_cmp1 μ))) else (25536 + (μ 6 7 - 1), rz_up (f_cmp1 μ) 5 3 0)) else (-1, f_w μ)
def C_Wo_compareSecret : rz_C := fun As μ P => ∃ x : Int32, As = [.ref 5, .int x] ∧ PQ P (f_cmp x μ)
def bk_Wo_compareSecret : Nat → List rz_T := fun b => match b with
  | 0 => [tz_aload 0, tz_get SH 5 0, tz_cv SH 0 4 1 C_Me_mayWrite, tz_if_ne 1, tz_iconst (-1), tz_iret]
  | 1 => [tz_aload 0, tz_get SH 5 0, tz_dup, tz_get SH 4 7, tz_iconst 1, tz_isub, tz_put SH 4 7, tz_iload 1, tz_aload 0, tz_get SH 5 0, tz_get SH 4 6, tz_icmp_eq 2, tz_aload 0, tz_iconst 0, tz_putz SH 5 3, tz_sipush 25536, tz_aload 0, tz_get SH 5 0, tz_get SH 4 7, tz_iadd, tz_iret]
  | 2 => [tz_aload 0, tz_get SH 5 0, tz_cv SH 0 4 1 C_Me_mayWrite, tz_if_ne 3, tz_iconst (-1), tz_iret]
  | 3 => [tz_aload 0, tz_get SH 5 0, tz_iconst 3, tz_put SH 4 7, tz_aload 0, tz_iconst 1, tz_putz SH 5 3, tz_ldc 36864, tz_iret]
  | _ => []
def bp_Wo_compareSecret : Nat → Nat := fun b => match b with
  | 0 => 0
  | 1 => 12
  | 2 => 53
  | 3 => 65
  | _ => 0
set_option maxRecDepth 100000 in
set_option maxHeartbeats 4000000 in
theorem sd_Wo_compareSecret (X : rz_X) (G : rz_Cx CL X c_Wo_compareSecret 2 rz_tbl R_Wo ({ frames := 1, cells := 0, slots := 0, locals := 20 })) : ∀ b, rz_SB SH CL X bp_Wo_compareSecret (rz_RI SH CL X c_Wo_compareSecret (fun v => narrow .int (.int v) = .int v)) (bk_Wo_compareSecret b) (bp_Wo_compareSecret b) := fun b => match b with
  | 0 => (rz_cons (rz_aload_n G d_Wo_compareSecret_0 rfl) (rz_cons (rz_get G rfl in_Wo (by decide) wd_233 d_Wo_compareSecret_1) (rz_cons (rz_cvi G (m_Me_mayWrite X.1) cd_Me_mayWrite wd_529 wd_335 wd_336 rfl rfl (by decide) d_Wo_compareSecret_4) (rz_cons (rz_if_ne G d_Wo_compareSecret_7 (by decide)) (rz_cons (rz_iconst G d_Wo_compareSecret_10 (by decide)) (rz_cons (rz_iret (npc := 0) (fun _ => rfl) d_Wo_compareSecret_11) rz_nil))))))
  | 1 => (rz_cons (rz_aload_n G d_Wo_compareSecret_12 rfl) (rz_cons (rz_get G rfl in_Wo (by decide) wd_233 d_Wo_compareSecret_13) (rz_cons (rz_dup G d_Wo_compareSecret_16) (rz_cons (rz_getN G rfl in_Me (by decide) wn_21 d_Wo_compareSecret_17) (rz_cons (rz_iconst G d_Wo_compareSecret_20 (by decide)) (rz_cons (rz_isub G d_Wo_compareSecret_21) (rz_cons (rz_putN G rfl in_Me ty_Me tyok_Me nm_Me (by decide) rfl (by decide +kernel) wn_21 d_Wo_compareSecret_22) (rz_cons (rz_iload_n G d_Wo_compareSecret_25 rfl) (rz_cons (rz_aload_n G d_Wo_compareSecret_26 rfl) (rz_cons (rz_get G rfl in_Wo (by decide) wd_233 d_Wo_compareSecret_27) (rz_cons (rz_getN G rfl in_Me (by decide) wn_19 d_Wo_compareSecret_30) (rz_cons (rz_icmp_eq G d_Wo_compareSecret_33 (by decide)) (rz_cons (rz_aload_n G d_Wo_compareSecret_36 rfl) (rz_cons (rz_iconst G d_Wo_compareSecret_37 (by decide)) (rz_cons (rz_putz G rfl in_Wo ty_Wo tyok_Wo nm_Wo (by decide) rfl (by decide +kernel) wd_239 d_Wo_compareSecret_38) (rz_cons (rz_sipush G d_Wo_compareSecret_41 (by decide)) (rz_cons (rz_aload_n G d_Wo_compareSecret_44 rfl) (rz_cons (rz_get G rfl in_Wo (by decide) wd_233 d_Wo_compareSecret_45) (rz_cons (rz_getN G rfl in_Me (by decide) wn_21 d_Wo_compareSecret_48) (rz_cons (rz_iadd G d_Wo_compareSecret_51) (rz_cons (rz_iret (npc := 0) (fun _ => rfl) d_Wo_compareSecret_52) rz_nil)))))))))))))))))))))
  | 2 => (rz_cons (rz_aload_n G d_Wo_compareSecret_53 rfl) (rz_cons (rz_get G rfl in_Wo (by decide) wd_233 d_Wo_compareSecret_54) (rz_cons (rz_cvi G (m_Me_mayWrite X.1) cd_Me_mayWrite wd_529 wd_335 wd_336 rfl rfl (by decide) d_Wo_compareSecret_57) (rz_cons (rz_if_ne G d_Wo_compareSecret_60 (by decide)) (rz_cons (rz_iconst G d_Wo_compareSecret_63 (by decide)) (rz_cons (rz_iret (npc := 0) (fun _ => rfl) d_Wo_compareSecret_64) rz_nil))))))
  | 3 => (rz_cons (rz_aload_n G d_Wo_compareSecret_65 rfl) (rz_cons (rz_get G rfl in_Wo (by decide) wd_233 d_Wo_compareSecret_66) (rz_cons (rz_iconst G d_Wo_compareSecret_69 (by decide)) (rz_cons (rz_putN G rfl in_Me ty_Me tyok_Me nm_Me (by decide) rfl (by decide +kernel) wn_21 d_Wo_compareSecret_70) (rz_cons (rz_aload_n G d_Wo_compareSecret_73 rfl) (rz_cons (rz_iconst G d_Wo_compareSecret_74 (by decide)) (rz_cons (rz_putz G rfl in_Wo ty_Wo tyok_Wo nm_Wo (by decide) rfl (by decide +kernel) wd_239 d_Wo_compareSecret_75) (rz_cons (rz_ldc G wd_464 d_Wo_compareSecret_78) (rz_cons (rz_iret (npc := 0) (fun _ => rfl) d_Wo_compareSecret_80) rz_nil)))))))))
  | _ + 4 => rz_nil
set_option maxRecDepth 100000 in
set_option maxHeartbeats 4000000 in
theorem bd_Wo_compareSecret : ∀ (Y : Nat → rz_K) (P : rz_P), (∀ b ls st μ, rz_ex P Y (bk_Wo_compareSecret b) ls st μ → Y b ls st μ) → ∀ As μ, C_Wo_compareSecret As μ P → Y 0 (rz_pad 2 (rz_ent As)) [] μ := by
  intro Y P hY As μ hC
  obtain ⟨x, rfl, hC⟩ := hC
  have e7 : f_w μ 6 7 = μ 6 7 := f_w_6 (by decide) (by decide) (by decide)
  have e6 : f_w μ 6 6 = μ 6 6 := f_w_6 (by decide) (by decide) (by decide)
  have ec : rz_up (f_w μ) 6 7 (f_w μ 6 7 - 1) = f_cmp1 μ := by rw [e7]; rfl
  have ec7 : f_cmp1 μ 6 7 = μ 6 7 - 1 := by unfold f_cmp1; exact rz_up_at
  have ec6 : f_cmp1 μ 6 6 = μ 6 6 := by unfold f_cmp1; rw [rz_up_j (by decide), e6]
  refine hY 0 _ _ _ (And.intro rfl (And.intro (fun h => ?_) (fun h => ?_)))
  · have hC := rzT (PQ P) (b2_ne h) hC
    refine hY 1 _ _ _ ?_
    show (x = rz_up (f_w μ) 6 7 (f_w μ 6 7 - 1) 6 6 → Y 2 [some (.ref 5), some (.int x)] [] (rz_up (f_w μ) 6 7 (f_w μ 6 7 - 1))) ∧ (¬ x = rz_up (f_w μ) 6 7 (f_w μ 6 7 - 1) 6 6 → ((0 : Int32) = 0 ∨ (0 : Int32) = 1) ∧ P (some (.int (25536 + rz_up (rz_up (f_w μ) 6 7 (f_w μ 6 7 - 1)) 5 3 0 6 7))) (rz_up (rz_up (f_w μ) 6 7 (f_w μ 6 7 - 1)) 5 3 0))
    rw [ec, ec6, rz_up_k (k' := 6) (by decide), ec7]
    refine And.intro (fun h2 => ?_) (fun h2 => And.intro (Or.inl rfl) (rzF (PQ P) h2 hC))
    have hC := rzT (PQ P) h2 hC
    refine hY 2 _ _ _ (And.intro rfl (And.intro (fun h3 => ?_) (fun h3 => ?_)))
    · exact hY 3 _ _ _ (And.intro (Or.inr rfl) (rzT (PQ P) (b2_ne h3) hC))
    · exact rzF (PQ P) (b2_eq h3) hC
  · exact rzF (PQ P) (b2_eq h) hC
theorem m_Wo_compareSecret (E : rz_E) : rz_MI SH CL E y_Wo_compareSecret 2 (Cond.code y_Wo_compareSecret c_Wo_compareSecret 2 (some .int) :: rz_tbl) ({ frames := 1, cells := 0, slots := 0, locals := 20 }) C_Wo_compareSecret := rz_metI (by decide) rfl (fun X _ G => sd_Wo_compareSecret X G) bd_Wo_compareSecret
theorem cd_Wo_compareSecret : rz_Cd rz_tbl y_Wo_compareSecret c_Wo_compareSecret 2 (some .int) (Cond.code y_Wo_compareSecret c_Wo_compareSecret 2 (some .int) :: rz_tbl) 1 ({ frames := 1, cells := 0, slots := 0, locals := 20 }) := ⟨rz_good wd_528, ⟨_, rfl⟩, wd_42, by decide +kernel, rfl, rfl⟩
def v_sec (μ : rz_M) : Int32 := (((μ 16 5 <<< ((24 : Int32) &&& 31)) ||| (μ 16 6 <<< ((16 : Int32) &&& 31))) ||| (μ 16 7 <<< ((8 : Int32) &&& 31))) ||| μ 16 8
def f_tell (μ : rz_M) : Int32 × rz_M :=
  if ¬ μ 16 2 = 0 then (27270, μ) else if μ 16 3 = 1 then
    (if ¬ μ 15 3 = 0 ∧ ¬ μ 15 3 = 4 then (26368, μ) else if μ 15 4 = -1 then
      (if μ 15 3 = 0 ∧ ¬ μ 5 3 = 0 then (36864, μ) else if ¬ μ 6 7 = 0 then (if μ 15 3 = 0 then (25536 + μ 6 7, μ) else f_cmp (v_sec μ) μ) else (27011, μ)) else (26368, μ)) else (27270, μ)
def C_Wo_tell : rz_C := fun As μ P => As = [.ref 5] ∧ PQ P (f_tell μ)
def bk_Wo_tell : Nat → List rz_T := fun b => match b with
  | 0 => [tz_aload 0, tz_get SH 5 1, tz_cv SH 0 1 1 C_Co_a, tz_if_ne 1, tz_aload 0, tz_get SH 5 1, tz_cv SH 0 1 1 C_Co_b, tz_iconst 1, tz_icmp_eq 2, tz_fall 1]
  | 1 => [tz_sipush 27270, tz_iret]
  | 2 => [tz_aload 0, tz_get SH 5 1, tz_get SH 1 3, tz_if_ne 3, tz_iconst 1, tz_goto 4]
  | 3 => [tz_iconst 0, tz_fall 4]
  | 4 => [tz_istore 1, tz_iload 1, tz_if_ne 5, tz_aload 0, tz_get SH 5 1, tz_get SH 1 3, tz_iconst 4, tz_icmp_ne 6, tz_fall 5]
  | 5 => [tz_aload 0, tz_get SH 5 1, tz_get SH 1 4, tz_iconst (-1), tz_icmp_eq 7, tz_fall 6]
  | 6 => [tz_sipush 26368, tz_iret]
  | 7 => [tz_iload 1, tz_if_eq 8, tz_aload 0, tz_get SH 5 3, tz_if_eq 8, tz_ldc 36864, tz_iret]
  | 8 => [tz_aload 0, tz_get SH 5 0, tz_get SH 4 7, tz_if_ne 9, tz_sipush 27011, tz_iret]
  | 9 => [tz_iload 1, tz_if_eq 10, tz_sipush 25536, tz_aload 0, tz_get SH 5 0, tz_get SH 4 7, tz_iadd, tz_goto 11]
  | 10 => [tz_aload 0, tz_aload 0, tz_get SH 5 1, tz_cv SH 0 1 1 C_Co_dataAsSecret, tz_cv SH 1 5 2 C_Wo_compareSecret, tz_fall 11]
  | 11 => [tz_iret]
  | _ => []
def bp_Wo_tell : Nat → Nat := fun b => match b with
  | 0 => 0
  | 1 => 21
  | 2 => 25
  | 3 => 39
  | 4 => 40
  | 5 => 56
  | 6 => 67
  | 7 => 71
  | 8 => 85
  | 9 => 99
  | 10 => 117
  | 11 => 128
  | _ => 0
set_option maxRecDepth 100000 in
set_option maxHeartbeats 4000000 in
theorem sd_Wo_tell (X : rz_X) (G : rz_Cx CL X c_Wo_tell 2 rz_tbl R_Wo ({ frames := 2, cells := 0, slots := 0, locals := 41 })) : ∀ b, rz_SB SH CL X bp_Wo_tell (rz_RI SH CL X c_Wo_tell (fun v => narrow .int (.int v) = .int v)) (bk_Wo_tell b) (bp_Wo_tell b) := fun b => match b with
  | 0 => (rz_cons (rz_aload_n G d_Wo_tell_0 rfl) (rz_cons (rz_get G rfl in_Wo (by decide) wd_235 d_Wo_tell_1) (rz_cons (rz_cvi G (m_Co_a X.1) cd_Co_a wd_438 wd_439 wd_440 rfl rfl (by decide) d_Wo_tell_4) (rz_cons (rz_if_ne G d_Wo_tell_7 (by decide)) (rz_cons (rz_aload_n G d_Wo_tell_10 rfl) (rz_cons (rz_get G rfl in_Wo (by decide) wd_235 d_Wo_tell_11) (rz_cons (rz_cvi G (m_Co_b X.1) cd_Co_b wd_442 wd_443 wd_444 rfl rfl (by decide) d_Wo_tell_14) (rz_cons (rz_iconst G d_Wo_tell_17 (by decide)) (rz_cons (rz_icmp_eq G d_Wo_tell_18 (by decide)) (rz_fall rfl))))))))))
  | 1 => (rz_cons (rz_sipush G d_Wo_tell_21 (by decide)) (rz_cons (rz_iret (npc := 0) (fun _ => rfl) d_Wo_tell_24) rz_nil))
  | 2 => (rz_cons (rz_aload_n G d_Wo_tell_25 rfl) (rz_cons (rz_get G rfl in_Wo (by decide) wd_235 d_Wo_tell_26) (rz_cons (rz_getN G rfl in_Co (by decide) wn_27 d_Wo_tell_29) (rz_cons (rz_if_ne G d_Wo_tell_32 (by decide)) (rz_cons (rz_iconst G d_Wo_tell_35 (by decide)) (rz_cons (rz_goto (npc := 0) G d_Wo_tell_36 (by decide)) rz_nil))))))
  | 3 => (rz_cons (rz_iconst G d_Wo_tell_39 (by decide)) (rz_fall rfl))
  | 4 => (rz_cons (rz_istore_n G d_Wo_tell_40 rfl (by decide)) (rz_cons (rz_iload_n G d_Wo_tell_41 rfl) (rz_cons (rz_if_ne G d_Wo_tell_42 (by decide)) (rz_cons (rz_aload_n G d_Wo_tell_45 rfl) (rz_cons (rz_get G rfl in_Wo (by decide) wd_235 d_Wo_tell_46) (rz_cons (rz_getN G rfl in_Co (by decide) wn_27 d_Wo_tell_49) (rz_cons (rz_iconst G d_Wo_tell_52 (by decide)) (rz_cons (rz_icmp_ne G d_Wo_tell_53 (by decide)) (rz_fall rfl)))))))))
  | 5 => (rz_cons (rz_aload_n G d_Wo_tell_56 rfl) (rz_cons (rz_get G rfl in_Wo (by decide) wd_235 d_Wo_tell_57) (rz_cons (rz_getN G rfl in_Co (by decide) wn_28 d_Wo_tell_60) (rz_cons (rz_iconst G d_Wo_tell_63 (by decide)) (rz_cons (rz_icmp_eq G d_Wo_tell_64 (by decide)) (rz_fall rfl))))))
  | 6 => (rz_cons (rz_sipush G d_Wo_tell_67 (by decide)) (rz_cons (rz_iret (npc := 0) (fun _ => rfl) d_Wo_tell_70) rz_nil))
  | 7 => (rz_cons (rz_iload_n G d_Wo_tell_71 rfl) (rz_cons (rz_if_eq G d_Wo_tell_72 (by decide)) (rz_cons (rz_aload_n G d_Wo_tell_75 rfl) (rz_cons (rz_get G rfl in_Wo (by decide) wd_239 d_Wo_tell_76) (rz_cons (rz_if_eq G d_Wo_tell_79 (by decide)) (rz_cons (rz_ldc G wd_464 d_Wo_tell_82) (rz_cons (rz_iret (npc := 0) (fun _ => rfl) d_Wo_tell_84) rz_nil)))))))
  | 8 => (rz_cons (rz_aload_n G d_Wo_tell_85 rfl) (rz_cons (rz_get G rfl in_Wo (by decide) wd_233 d_Wo_tell_86) (rz_cons (rz_getN G rfl in_Me (by decide) wn_21 d_Wo_tell_89) (rz_cons (rz_if_ne G d_Wo_tell_92 (by decide)) (rz_cons (rz_sipush G d_Wo_tell_95 (by decide)) (rz_cons (rz_iret (npc := 0) (fun _ => rfl) d_Wo_tell_98) rz_nil))))))
  | 9 => (rz_cons (rz_iload_n G d_Wo_tell_99 rfl) (rz_cons (rz_if_eq G d_Wo_tell_100 (by decide)) (rz_cons (rz_sipush G d_Wo_tell_103 (by decide)) (rz_cons (rz_aload_n G d_Wo_tell_106 rfl) (rz_cons (rz_get G rfl in_Wo (by decide) wd_233 d_Wo_tell_107) (rz_cons (rz_getN G rfl in_Me (by decide) wn_21 d_Wo_tell_110) (rz_cons (rz_iadd G d_Wo_tell_113) (rz_cons (rz_goto (npc := 0) G d_Wo_tell_114 (by decide)) rz_nil))))))))
  | 10 => (rz_cons (rz_aload_n G d_Wo_tell_117 rfl) (rz_cons (rz_aload_n G d_Wo_tell_118 rfl) (rz_cons (rz_get G rfl in_Wo (by decide) wd_235 d_Wo_tell_119) (rz_cons (rz_cvi G (m_Co_dataAsSecret X.1) cd_Co_dataAsSecret wd_521 wd_522 wd_523 rfl rfl (by decide) d_Wo_tell_122) (rz_cons (rz_cvi G (m_Wo_compareSecret X.1) cd_Wo_compareSecret wd_525 wd_527 wd_12 rfl rfl (by decide) d_Wo_tell_125) (rz_fall rfl))))))
  | 11 => (rz_cons (rz_iret (npc := 0) (fun _ => rfl) d_Wo_tell_128) rz_nil)
  | _ + 12 => rz_nil
set_option maxRecDepth 100000 in
set_option maxHeartbeats 4000000 in
theorem bd_Wo_tell : ∀ (Y : Nat → rz_K) (P : rz_P), (∀ b ls st μ, rz_ex P Y (bk_Wo_tell b) ls st μ → Y b ls st μ) → ∀ As μ, C_Wo_tell As μ P → Y 0 (rz_pad 2 (rz_ent As)) [] μ := by
  intro Y P hY As μ hC
  obtain ⟨rfl, hC⟩ := hC
  refine hY 0 _ _ _ (And.intro rfl (And.intro (fun h => hY 1 _ _ _ (rzT (PQ P) h hC)) (fun h => ?_)))
  have hC := rzN (PQ P) h hC
  refine And.intro rfl (And.intro (fun h => ?_) (fun h => hY 1 _ _ _ (rzF (PQ P) h hC)))
  have hC := rzT (PQ P) h hC
  by_cases hd : μ 15 3 = 0
  · have hC := rzF (PQ P) (fun q => q.1 hd) hC
    refine hY 2 _ _ _ (And.intro (fun h => absurd hd h) (fun _ => ?_))
    refine hY 4 _ _ _ (And.intro (fun _ => ?_) (fun h => absurd h (by decide)))
    refine hY 5 _ _ _ (And.intro (fun h => ?_) (fun h => hY 6 _ _ _ (rzF (PQ P) h hC)))
    have hC := rzT (PQ P) h hC
    refine hY 7 _ _ _ (And.intro (fun h => absurd h (by decide)) (fun _ => And.intro (fun h => ?_) (fun h => rzT (PQ P) ⟨hd, h⟩ hC)))
    have hC := rzF (PQ P) (fun q => q.2 h) hC
    refine hY 8 _ _ _ (And.intro (fun h => ?_) (fun h => rzN (PQ P) h hC))
    have hC := rzT (PQ P) h hC
    refine hY 9 _ _ _ (And.intro (fun h => absurd h (by decide)) (fun _ => hY 11 _ _ _ (rzT (PQ P) hd hC)))
  · refine hY 2 _ _ _ (And.intro (fun _ => hY 3 _ _ _ ?_) (fun h => absurd h hd))
    refine hY 4 _ _ _ (And.intro (fun h => absurd rfl h) (fun _ => And.intro (fun h => hY 6 _ _ _ (rzT (PQ P) ⟨hd, h⟩ hC)) (fun h => ?_)))
    have hC := rzF (PQ P) (fun q => q.2 h) hC
    refine hY 5 _ _ _ (And.intro (fun h => ?_) (fun h => hY 6 _ _ _ (rzF (PQ P) h hC)))
    have hC := rzT (PQ P) h hC
    have hC := rzF (PQ P) (fun q => hd q.1) hC
    refine hY 7 _ _ _ (And.intro (fun _ => ?_) (fun h => absurd rfl h))
    refine hY 8 _ _ _ (And.intro (fun h => ?_) (fun h => rzN (PQ P) h hC))
    have hC := rzT (PQ P) h hC
    refine hY 9 _ _ _ (And.intro (fun _ => ?_) (fun h => absurd rfl h))
    exact hY 10 _ _ _ (And.intro rfl ⟨_, rfl, hY 11 _ _ _ (rzF (PQ P) hd hC)⟩)
theorem m_Wo_tell (E : rz_E) : rz_MI SH CL E y_Wo_tell 2 (Cond.code y_Wo_tell c_Wo_tell 2 (some .int) :: rz_tbl) ({ frames := 2, cells := 0, slots := 0, locals := 41 }) C_Wo_tell := rz_metI (by decide) rfl (fun X _ G => sd_Wo_tell X G) bd_Wo_tell
theorem cd_Wo_tell : rz_Cd rz_tbl y_Wo_tell c_Wo_tell 2 (some .int) (Cond.code y_Wo_tell c_Wo_tell 2 (some .int) :: rz_tbl) 0 ({ frames := 2, cells := 0, slots := 0, locals := 41 }) := ⟨rz_good wd_520, ⟨_, rfl⟩, wd_42, by decide +kernel, rfl, rfl⟩
def f_renew (μ : rz_M) : Int32 × rz_M :=
  if ¬ μ 16 2 = 0 then (27270, μ) else if μ 16 3 = 0 then
    (if ¬ μ 15 3 = 4 then (26368, μ) else if μ 15 4 = -1 then
      (if ¬ μ 5 3 = 0 then (if ¬ μ 6 10 = 0 then (36864, rz_up (f_w μ) 6 6 (v_sec μ)) else (-1, f_w μ)) else (27010, μ)) else (26368, μ)) else (27270, μ)
def C_Wo_renew : rz_C := fun As μ P => As = [.ref 5] ∧ PQ P (f_renew μ)
def bk_Wo_renew : Nat → List rz_T := fun b => match b with
  | 0 => [tz_aload 0, tz_get SH 5 1, tz_cv SH 0 1 1 C_Co_a, tz_if_ne 1, tz_aload 0, tz_get SH 5 1, tz_cv SH 0 1 1 C_Co_b, tz_if_eq 2, tz_fall 1]
  | 1 => [tz_sipush 27270, tz_iret]
  | 2 => [tz_aload 0, tz_get SH 5 1, tz_get SH 1 3, tz_iconst 4, tz_icmp_ne 3, tz_aload 0, tz_get SH 5 1, tz_get SH 1 4, tz_iconst (-1), tz_icmp_eq 4, tz_fall 3]
  | 3 => [tz_sipush 26368, tz_iret]
  | 4 => [tz_aload 0, tz_get SH 5 3, tz_if_ne 5, tz_sipush 27010, tz_iret]
  | 5 => [tz_aload 0, tz_get SH 5 0, tz_cv SH 0 4 1 C_Me_mayWrite, tz_if_ne 6, tz_iconst (-1), tz_iret]
  | 6 => [tz_aload 0, tz_get SH 5 0, tz_aload 0, tz_get SH 5 1, tz_cv SH 0 1 1 C_Co_dataAsSecret, tz_put SH 4 6, tz_ldc 36864, tz_iret]
  | _ => []
def bp_Wo_renew : Nat → Nat := fun b => match b with
  | 0 => 0
  | 1 => 20
  | 2 => 24
  | 3 => 46
  | 4 => 50
  | 5 => 61
  | 6 => 73
  | _ => 0
set_option maxRecDepth 100000 in
set_option maxHeartbeats 4000000 in
theorem sd_Wo_renew (X : rz_X) (G : rz_Cx CL X c_Wo_renew 1 rz_tbl R_Wo ({ frames := 2, cells := 0, slots := 0, locals := 41 })) : ∀ b, rz_SB SH CL X bp_Wo_renew (rz_RI SH CL X c_Wo_renew (fun v => narrow .int (.int v) = .int v)) (bk_Wo_renew b) (bp_Wo_renew b) := fun b => match b with
  | 0 => (rz_cons (rz_aload_n G d_Wo_renew_0 rfl) (rz_cons (rz_get G rfl in_Wo (by decide) wd_235 d_Wo_renew_1) (rz_cons (rz_cvi G (m_Co_a X.1) cd_Co_a wd_438 wd_439 wd_440 rfl rfl (by decide) d_Wo_renew_4) (rz_cons (rz_if_ne G d_Wo_renew_7 (by decide)) (rz_cons (rz_aload_n G d_Wo_renew_10 rfl) (rz_cons (rz_get G rfl in_Wo (by decide) wd_235 d_Wo_renew_11) (rz_cons (rz_cvi G (m_Co_b X.1) cd_Co_b wd_442 wd_443 wd_444 rfl rfl (by decide) d_Wo_renew_14) (rz_cons (rz_if_eq G d_Wo_renew_17 (by decide)) (rz_fall rfl)))))))))
  | 1 => (rz_cons (rz_sipush G d_Wo_renew_20 (by decide)) (rz_cons (rz_iret (npc := 0) (fun _ => rfl) d_Wo_renew_23) rz_nil))
  | 2 => (rz_cons (rz_aload_n G d_Wo_renew_24 rfl) (rz_cons (rz_get G rfl in_Wo (by decide) wd_235 d_Wo_renew_25) (rz_cons (rz_getN G rfl in_Co (by decide) wn_27 d_Wo_renew_28) (rz_cons (rz_iconst G d_Wo_renew_31 (by decide)) (rz_cons (rz_icmp_ne G d_Wo_renew_32 (by decide)) (rz_cons (rz_aload_n G d_Wo_renew_35 rfl) (rz_cons (rz_get G rfl in_Wo (by decide) wd_235 d_Wo_renew_36) (rz_cons (rz_getN G rfl in_Co (by decide) wn_28 d_Wo_renew_39) (rz_cons (rz_iconst G d_Wo_renew_42 (by decide)) (rz_cons (rz_icmp_eq G d_Wo_renew_43 (by decide)) (rz_fall rfl)))))))))))
  | 3 => (rz_cons (rz_sipush G d_Wo_renew_46 (by decide)) (rz_cons (rz_iret (npc := 0) (fun _ => rfl) d_Wo_renew_49) rz_nil))
  | 4 => (rz_cons (rz_aload_n G d_Wo_renew_50 rfl) (rz_cons (rz_get G rfl in_Wo (by decide) wd_239 d_Wo_renew_51) (rz_cons (rz_if_ne G d_Wo_renew_54 (by decide)) (rz_cons (rz_sipush G d_Wo_renew_57 (by decide)) (rz_cons (rz_iret (npc := 0) (fun _ => rfl) d_Wo_renew_60) rz_nil)))))
  | 5 => (rz_cons (rz_aload_n G d_Wo_renew_61 rfl) (rz_cons (rz_get G rfl in_Wo (by decide) wd_233 d_Wo_renew_62) (rz_cons (rz_cvi G (m_Me_mayWrite X.1) cd_Me_mayWrite wd_529 wd_335 wd_336 rfl rfl (by decide) d_Wo_renew_65) (rz_cons (rz_if_ne G d_Wo_renew_68 (by decide)) (rz_cons (rz_iconst G d_Wo_renew_71 (by decide)) (rz_cons (rz_iret (npc := 0) (fun _ => rfl) d_Wo_renew_72) rz_nil))))))
  | 6 => (rz_cons (rz_aload_n G d_Wo_renew_73 rfl) (rz_cons (rz_get G rfl in_Wo (by decide) wd_233 d_Wo_renew_74) (rz_cons (rz_aload_n G d_Wo_renew_77 rfl) (rz_cons (rz_get G rfl in_Wo (by decide) wd_235 d_Wo_renew_78) (rz_cons (rz_cvi G (m_Co_dataAsSecret X.1) cd_Co_dataAsSecret wd_521 wd_522 wd_523 rfl rfl (by decide) d_Wo_renew_81) (rz_cons (rz_putN G rfl in_Me ty_Me tyok_Me nm_Me (by decide) rfl (by decide +kernel) wn_19 d_Wo_renew_84) (rz_cons (rz_ldc G wd_464 d_Wo_renew_87) (rz_cons (rz_iret (npc := 0) (fun _ => rfl) d_Wo_renew_89) rz_nil))))))))
  | _ + 7 => rz_nil
set_option maxRecDepth 100000 in
set_option maxHeartbeats 4000000 in
theorem bd_Wo_renew : ∀ (Y : Nat → rz_K) (P : rz_P), (∀ b ls st μ, rz_ex P Y (bk_Wo_renew b) ls st μ → Y b ls st μ) → ∀ As μ, C_Wo_renew As μ P → Y 0 (rz_pad 1 (rz_ent As)) [] μ := by
  intro Y P hY As μ hC
  obtain ⟨rfl, hC⟩ := hC
  refine hY 0 _ _ _ (And.intro rfl (And.intro (fun h => hY 1 _ _ _ (rzT (PQ P) h hC)) (fun h => ?_)))
  have hC := rzN (PQ P) h hC
  refine And.intro rfl (And.intro (fun h => ?_) (fun h => hY 1 _ _ _ (rzF (PQ P) h hC)))
  have hC := rzT (PQ P) h hC
  refine hY 2 _ _ _ (And.intro (fun h => hY 3 _ _ _ (rzT (PQ P) h hC)) (fun h => ?_))
  have hC := rzN (PQ P) h hC
  refine And.intro (fun h => ?_) (fun h => hY 3 _ _ _ (rzF (PQ P) h hC))
  have hC := rzT (PQ P) h hC
  refine hY 4 _ _ _ (And.intro (fun h => ?_) (fun h => rzN (PQ P) h hC))
  have hC := rzT (PQ P) h hC
  refine hY 5 _ _ _ (And.intro rfl (And.intro (fun h => ?_) (fun h => rzF (PQ P) (b2_eq h) hC)))
  have hC := rzT (PQ P) (b2_ne h) hC
  have e16 : f_w μ 16 = μ 16 := f_w_ne (by decide)
  refine hY 6 _ _ _ (And.intro rfl ?_)
  rw [e16]
  exact hC
theorem m_Wo_renew (E : rz_E) : rz_MI SH CL E y_Wo_renew 1 (Cond.code y_Wo_renew c_Wo_renew 1 (some .int) :: rz_tbl) ({ frames := 2, cells := 0, slots := 0, locals := 41 }) C_Wo_renew := rz_metI (by decide) rfl (fun X _ G => sd_Wo_renew X G) bd_Wo_renew
theorem cd_Wo_renew : rz_Cd rz_tbl y_Wo_renew c_Wo_renew 1 (some .int) (Cond.code y_Wo_renew c_Wo_renew 1 (some .int) :: rz_tbl) 0 ({ frames := 2, cells := 0, slots := 0, locals := 41 }) := ⟨rz_good wd_533, ⟨_, rfl⟩, wd_42, by decide +kernel, rfl, rfl⟩
def f_ins (μ : rz_M) : Int32 × rz_M := if μ 16 1 = 32 then f_tell μ else if μ 16 1 = 36 then f_renew μ else if μ 16 1 = 164 then f_fi μ else if μ 16 1 = 176 then f_read μ else if μ 16 1 = 214 then f_chg (μ 15 3).toNatClampNeg μ else (27904, μ)
def f_perf (μ : rz_M) : Int32 × rz_M := if p_ok μ then (if μ 16 0 = 0 then f_ins (f_parse μ) else (28160, f_parse μ)) else (26368, f_parse μ)
def IW (μ : rz_M) : Prop := (∃ c : Nat, μ 7 6 = nI c ∧ 1 ≤ c ∧ c ≤ 8) ∧ (∀ i, i < 8 → ∃ z : Nat, z ≤ 24 ∧ μ 10 i = nI z) ∧ μ 15 1 ≤ 40 ∧ μ 17 1 = 0 ∧ OCT (μ 16)
theorem q_dl_nI {μ : rz_M} (ho : OCT (μ 16)) (h : p_ok μ) : ∃ n : Nat, n ≤ 32 ∧ q_dl μ = nI n := by
  obtain ⟨h1, h2, h3, -⟩ := h
  have : ∃ n : Nat, n ≤ 255 ∧ q_dl μ = nI n := by
    unfold q_dl
    rw [if_neg (fun q => q h1), if_pos h2]
    split
    · exact ⟨0, by omega, rfl⟩
    · exact ho 4
  obtain ⟨n, hn, e⟩ := this
  refine ⟨n, ?_, e⟩
  rw [e] at h3
  rcases Nat.lt_or_ge 32 n with q | q
  · exact absurd (nI_lt (a := 32) q (by omega)) h3
  · exact q
theorem q_ex_nI {μ : rz_M} (ho : OCT (μ 16)) : q_ex μ = -1 ∨ ∃ e : Nat, e ≤ 255 ∧ q_ex μ = nI e := by
  unfold q_ex
  split
  · split
    · exact Or.inr (ho _)
    · exact Or.inr ⟨32, by omega, rfl⟩
  · exact Or.inl rfl
def C_Wo_perform : rz_C := fun As μ P => As = [.ref 5] ∧ IW μ ∧ PQ P (f_perf μ)
def bk_Wo_perform : Nat → List rz_T := fun b => match b with
  | 0 => [tz_aload 0, tz_get SH 5 1, tz_cv SH 0 1 2 C_Co_parse, tz_if_ne 1, tz_sipush 26368, tz_iret]
  | 1 => [tz_aload 0, tz_get SH 5 1, tz_cv SH 0 1 1 C_Co_octetClass, tz_if_eq 2, tz_sipush 28160, tz_iret]
  | 2 => [tz_aload 0, tz_get SH 5 1, tz_cv SH 0 1 1 C_Co_instruction, tz_sw [(32, 6), (36, 7), (164, 3), (176, 4), (214, 5)] 8]
  | 3 => [tz_aload 0, tz_cv SH 0 5 4 C_Wo_find, tz_iret]
  | 4 => [tz_aload 0, tz_cv SH 0 5 6 C_Wo_read, tz_iret]
  | 5 => [tz_aload 0, tz_cv SH 0 5 3 C_Wo_change, tz_iret]
  | 6 => [tz_aload 0, tz_cv SH 0 5 2 C_Wo_tell, tz_iret]
  | 7 => [tz_aload 0, tz_cv SH 0 5 1 C_Wo_renew, tz_iret]
  | 8 => [tz_sipush 27904, tz_iret]
  | _ => []
def bp_Wo_perform : Nat → Nat := fun b => match b with
  | 0 => 0
  | 1 => 14
  | 2 => 28
  | 3 => 84
  | 4 => 89
  | 5 => 94
  | 6 => 99
  | 7 => 104
  | 8 => 109
  | _ => 0
set_option maxRecDepth 100000 in
set_option maxHeartbeats 4000000 in
theorem sd_Wo_perform (X : rz_X) (G : rz_Cx CL X c_Wo_perform 1 rz_tbl R_Wo ({ frames := 3, cells := 0, slots := 0, locals := 69 })) : ∀ b, rz_SB SH CL X bp_Wo_perform (rz_RI SH CL X c_Wo_perform (fun v => narrow .int (.int v) = .int v)) (bk_Wo_perform b) (bp_Wo_perform b) := fun b => match b with
  | 0 => (rz_cons (rz_aload_n G d_Wo_perform_0 rfl) (rz_cons (rz_get G rfl in_Wo (by decide) wd_235 d_Wo_perform_1) (rz_cons (rz_cvi G (m_Co_parse X.1) cd_Co_parse wd_422 wd_423 wd_424 rfl rfl (by decide) d_Wo_perform_4) (rz_cons (rz_if_ne G d_Wo_perform_7 (by decide)) (rz_cons (rz_sipush G d_Wo_perform_10 (by decide)) (rz_cons (rz_iret (npc := 0) (fun _ => rfl) d_Wo_perform_13) rz_nil))))))
  | 1 => (rz_cons (rz_aload_n G d_Wo_perform_14 rfl) (rz_cons (rz_get G rfl in_Wo (by decide) wd_235 d_Wo_perform_15) (rz_cons (rz_cvi G (m_Co_octetClass X.1) cd_Co_octetClass wd_426 wd_427 wd_428 rfl rfl (by decide) d_Wo_perform_18) (rz_cons (rz_if_eq G d_Wo_perform_21 (by decide)) (rz_cons (rz_sipush G d_Wo_perform_24 (by decide)) (rz_cons (rz_iret (npc := 0) (fun _ => rfl) d_Wo_perform_27) rz_nil))))))
  | 2 => (rz_cons (rz_aload_n G d_Wo_perform_28 rfl) (rz_cons (rz_get G rfl in_Wo (by decide) wd_235 d_Wo_perform_29) (rz_cons (rz_cvi G (m_Co_instruction X.1) cd_Co_instruction wd_430 wd_431 wd_432 rfl rfl (by decide) d_Wo_perform_32) (rz_cons (rz_lookup (npc := 0) G d_Wo_perform_35 (by decide) (by decide +kernel) (by decide)) rz_nil))))
  | 3 => (rz_cons (rz_aload_n G d_Wo_perform_84 rfl) (rz_cons (rz_cvi G (m_Wo_find X.1) cd_Wo_find wd_434 wd_436 wd_6 rfl rfl (by decide) d_Wo_perform_85) (rz_cons (rz_iret (npc := 0) (fun _ => rfl) d_Wo_perform_88) rz_nil)))
  | 4 => (rz_cons (rz_aload_n G d_Wo_perform_89 rfl) (rz_cons (rz_cvi G (m_Wo_read X.1) cd_Wo_read wd_465 wd_467 wd_8 rfl rfl (by decide) d_Wo_perform_90) (rz_cons (rz_iret (npc := 0) (fun _ => rfl) d_Wo_perform_93) rz_nil)))
  | 5 => (rz_cons (rz_aload_n G d_Wo_perform_94 rfl) (rz_cons (rz_cvi G (m_Wo_change X.1) cd_Wo_change wd_502 wd_504 wd_10 rfl rfl (by decide) d_Wo_perform_95) (rz_cons (rz_iret (npc := 0) (fun _ => rfl) d_Wo_perform_98) rz_nil)))
  | 6 => (rz_cons (rz_aload_n G d_Wo_perform_99 rfl) (rz_cons (rz_cvi G (m_Wo_tell X.1) cd_Wo_tell wd_517 wd_519 wd_11 rfl rfl (by decide) d_Wo_perform_100) (rz_cons (rz_iret (npc := 0) (fun _ => rfl) d_Wo_perform_103) rz_nil)))
  | 7 => (rz_cons (rz_aload_n G d_Wo_perform_104 rfl) (rz_cons (rz_cvi G (m_Wo_renew X.1) cd_Wo_renew wd_530 wd_532 wd_13 rfl rfl (by decide) d_Wo_perform_105) (rz_cons (rz_iret (npc := 0) (fun _ => rfl) d_Wo_perform_108) rz_nil)))
  | 8 => (rz_cons (rz_sipush G d_Wo_perform_109 (by decide)) (rz_cons (rz_iret (npc := 0) (fun _ => rfl) d_Wo_perform_112) rz_nil))
  | _ + 9 => rz_nil
set_option maxRecDepth 100000 in
set_option maxHeartbeats 4000000 in
theorem bd_Wo_perform : ∀ (Y : Nat → rz_K) (P : rz_P), (∀ b ls st μ, rz_ex P Y (bk_Wo_perform b) ls st μ → Y b ls st μ) → ∀ As μ, C_Wo_perform As μ P → Y 0 (rz_pad 1 (rz_ent As)) [] μ := by
  intro Y P hY As μ hC
  obtain ⟨rfl, ⟨⟨c, hc, c1, c8⟩, hz, h40, h17, ho⟩, hC⟩ := hC
  have h8 : μ 7 6 ≤ 8 := by rw [hc]; exact nI_le (b := 8) c8 (by omega)
  refine hY 0 _ _ _ ⟨rfl, h40, And.intro (fun h => ?_) (fun h => rzF (PQ P) (b2_eq h) hC)⟩
  have hok := b2_ne h
  have hC := rzT (PQ P) hok hC
  refine hY 1 _ _ _ (And.intro rfl (And.intro (fun h => ?_) (fun h => rzF (PQ P) h hC)))
  have hC := rzT (PQ P) h hC
  obtain ⟨n, hn32, hn⟩ := q_dl_nI ho hok
  have hex := q_ex_nI ho
  have n15 : f_parse μ 15 3 = nI n := hn
  have cn : (f_parse μ 15 3).toNatClampNeg = n := nc n15 (by omega)
  refine hY 2 _ _ _ (And.intro rfl ?_)
  refine And.intro (fun h => ?_) (fun h => ?_)
  · exact hY 6 _ _ _ (And.intro rfl (rzT (PQ P) h hC))
  have hC := rzF (PQ P) h hC
  refine And.intro (fun h => ?_) (fun h => ?_)
  · exact hY 7 _ _ _ (And.intro rfl (rzT (PQ P) h hC))
  have hC := rzF (PQ P) h hC
  refine And.intro (fun h => ?_) (fun h => ?_)
  · exact hY 3 _ _ _ ⟨c, rfl, hc, c1, c8, rzT (PQ P) h hC⟩
  have hC := rzF (PQ P) h hC
  refine And.intro (fun h => ?_) (fun h => ?_)
  · exact hY 4 _ _ _ ⟨rfl, h8, hz, h17, hex, rzT (PQ P) h hC⟩
  have hC := rzF (PQ P) h hC
  refine And.intro (fun h => ?_) (fun h => ?_)
  · have hC := rzT (PQ P) h hC
    rw [cn] at hC
    exact hY 5 _ _ _ ⟨n, rfl, n15, hn32, h8, hz, hC⟩
  · exact hY 8 _ _ _ (rzF (PQ P) h hC)
theorem m_Wo_perform (E : rz_E) : rz_MI SH CL E y_Wo_perform 1 (Cond.code y_Wo_perform c_Wo_perform 1 (some .int) :: rz_tbl) ({ frames := 3, cells := 0, slots := 0, locals := 69 }) C_Wo_perform := rz_metI (by decide) rfl (fun X _ G => sd_Wo_perform X G) bd_Wo_perform
theorem cd_Wo_perform : rz_Cd rz_tbl y_Wo_perform c_Wo_perform 1 (some .int) (Cond.code y_Wo_perform c_Wo_perform 1 (some .int) :: rz_tbl) 0 ({ frames := 3, cells := 0, slots := 0, locals := 69 }) := ⟨rz_good wd_421, ⟨_, rfl⟩, wd_42, by decide +kernel, rfl, rfl⟩
end
section
def f_resync (μ : rz_M) : rz_M := rz_up (rz_up (rz_up μ 1 6 0) 1 7 0) 1 5 0
def C_Li_resync : rz_C := fun As μ P => As = [.ref 1] ∧ P none (f_resync μ)
def bk_Li_resync : Nat → List rz_T := fun b => match b with
  | 0 => [tz_aload 0, tz_iconst 0, tz_put SH 3 6, tz_aload 0, tz_iconst 0, tz_put SH 3 7, tz_aload 0, tz_iconst 0, tz_put SH 3 5, tz_vret]
  | _ => []
def bp_Li_resync : Nat → Nat := fun b => match b with
  | 0 => 0
  | _ => 0
set_option maxRecDepth 100000 in
set_option maxHeartbeats 4000000 in
theorem sd_Li_resync (X : rz_X) (G : rz_Cx CL X c_Li_resync 1 rz_tbl R_Li ({ frames := 0, cells := 0, slots := 0, locals := 0 })) : ∀ b, rz_SB SH CL X bp_Li_resync (rz_RV SH CL X c_Li_resync) (bk_Li_resync b) (bp_Li_resync b) := fun b => match b with
  | 0 => (rz_cons (rz_aload_n G d_Li_resync_0 rfl) (rz_cons (rz_iconst G d_Li_resync_1 (by decide)) (rz_cons (rz_put G rfl in_Li ty_Li tyok_Li nm_Li (by decide) rfl (by decide +kernel) wd_74 d_Li_resync_2) (rz_cons (rz_aload_n G d_Li_resync_5 rfl) (rz_cons (rz_iconst G d_Li_resync_6 (by decide)) (rz_cons (rz_put G rfl in_Li ty_Li tyok_Li nm_Li (by decide) rfl (by decide +kernel) wd_76 d_Li_resync_7) (rz_cons (rz_aload_n G d_Li_resync_10 rfl) (rz_cons (rz_iconst G d_Li_resync_11 (by decide)) (rz_cons (rz_put G rfl in_Li ty_Li tyok_Li nm_Li (by decide) rfl (by decide +kernel) wd_72 d_Li_resync_12) (rz_cons (rz_vret (npc := 0) d_Li_resync_15) rz_nil))))))))))
  | _ + 1 => rz_nil
set_option maxRecDepth 100000 in
set_option maxHeartbeats 4000000 in
theorem bd_Li_resync : ∀ (Y : Nat → rz_K) (P : rz_P), (∀ b ls st μ, rz_ex P Y (bk_Li_resync b) ls st μ → Y b ls st μ) → ∀ As μ, C_Li_resync As μ P → Y 0 (rz_pad 1 (rz_ent As)) [] μ := by
  intro Y P hY As μ hC
  obtain ⟨rfl, hC⟩ := hC
  exact hY 0 _ _ _ hC
theorem m_Li_resync (E : rz_E) : rz_MV SH CL E y_Li_resync 1 (Cond.code y_Li_resync c_Li_resync 1 none :: rz_tbl) ({ frames := 0, cells := 0, slots := 0, locals := 0 }) C_Li_resync := rz_metV (by decide) rfl (fun X _ G => sd_Li_resync X G) bd_Li_resync
theorem cd_Li_resync : rz_Cd rz_tbl y_Li_resync c_Li_resync 1 none (Cond.code y_Li_resync c_Li_resync 1 none :: rz_tbl) 0 ({ frames := 0, cells := 0, slots := 0, locals := 0 }) := ⟨rz_good wd_313, ⟨_, rfl⟩, wd_41, by decide +kernel, rfl, rfl⟩
def f_lreset (μ : rz_M) : rz_M := rz_up (rz_up (rz_up (f_resync μ) 1 8 32) 1 1 0) 1 3 0
def C_Li_reset : rz_C := fun As μ P => As = [.ref 1] ∧ P none (f_lreset μ)
def bk_Li_reset : Nat → List rz_T := fun b => match b with
  | 0 => [tz_aload 0, tz_cv SH 0 3 1 C_Li_resync, tz_aload 0, tz_bipush 32, tz_put SH 3 8, tz_aload 0, tz_iconst 0, tz_put SH 3 1, tz_aload 0, tz_iconst 0, tz_put SH 3 3, tz_vret]
  | _ => []
def bp_Li_reset : Nat → Nat := fun b => match b with
  | 0 => 0
  | _ => 0
set_option maxRecDepth 100000 in
set_option maxHeartbeats 4000000 in
theorem sd_Li_reset (X : rz_X) (G : rz_Cx CL X c_Li_reset 1 rz_tbl R_Li ({ frames := 1, cells := 0, slots := 0, locals := 20 })) : ∀ b, rz_SB SH CL X bp_Li_reset (rz_RV SH CL X c_Li_reset) (bk_Li_reset b) (bp_Li_reset b) := fun b => match b with
  | 0 => (rz_cons (rz_aload_n G d_Li_reset_0 rfl) (rz_cons (rz_cvv G (m_Li_resync X.1) cd_Li_resync wd_310 wd_311 wd_312 rfl rfl (by decide) d_Li_reset_1) (rz_cons (rz_aload_n G d_Li_reset_4 rfl) (rz_cons (rz_bipush G d_Li_reset_5 (by decide)) (rz_cons (rz_put G rfl in_Li ty_Li tyok_Li nm_Li (by decide) rfl (by decide +kernel) wd_78 d_Li_reset_7) (rz_cons (rz_aload_n G d_Li_reset_10 rfl) (rz_cons (rz_iconst G d_Li_reset_11 (by decide)) (rz_cons (rz_put G rfl in_Li ty_Li tyok_Li nm_Li (by decide) rfl (by decide +kernel) wd_65 d_Li_reset_12) (rz_cons (rz_aload_n G d_Li_reset_15 rfl) (rz_cons (rz_iconst G d_Li_reset_16 (by decide)) (rz_cons (rz_put G rfl in_Li ty_Li tyok_Li nm_Li (by decide) rfl (by decide +kernel) wd_69 d_Li_reset_17) (rz_cons (rz_vret (npc := 0) d_Li_reset_20) rz_nil))))))))))))
  | _ + 1 => rz_nil
set_option maxRecDepth 100000 in
set_option maxHeartbeats 4000000 in
theorem bd_Li_reset : ∀ (Y : Nat → rz_K) (P : rz_P), (∀ b ls st μ, rz_ex P Y (bk_Li_reset b) ls st μ → Y b ls st μ) → ∀ As μ, C_Li_reset As μ P → Y 0 (rz_pad 1 (rz_ent As)) [] μ := by
  intro Y P hY As μ hC
  obtain ⟨rfl, hC⟩ := hC
  exact hY 0 _ _ _ (And.intro rfl hC)
theorem m_Li_reset (E : rz_E) : rz_MV SH CL E y_Li_reset 1 (Cond.code y_Li_reset c_Li_reset 1 none :: rz_tbl) ({ frames := 1, cells := 0, slots := 0, locals := 20 }) C_Li_reset := rz_metV (by decide) rfl (fun X _ G => sd_Li_reset X G) bd_Li_reset
theorem cd_Li_reset : rz_Cd rz_tbl y_Li_reset c_Li_reset 1 none (Cond.code y_Li_reset c_Li_reset 1 none :: rz_tbl) 0 ({ frames := 1, cells := 0, slots := 0, locals := 20 }) := ⟨rz_good wd_309, ⟨_, rfl⟩, wd_41, by decide +kernel, rfl, rfl⟩
def C_Li_take : rz_C := fun As μ P => ∃ (x : Int32) (n : Nat), As = [.ref 1, .int x] ∧ μ 1 1 = nI n ∧ n < 36 ∧ P none (rz_up (rz_up μ 1 1 (nI (n + 1))) 2 n x)
def bk_Li_take : Nat → List rz_T := fun b => match b with
  | 0 => [tz_aload 0, tz_get SH 3 1, tz_bipush 36, tz_icmp_ge 1, tz_aload 0, tz_get SH 3 0, tz_aload 0, tz_dup, tz_get SH 3 1, tz_dup_x1, tz_iconst 1, tz_iadd, tz_put SH 3 1, tz_iload 1, tz_iast SH, tz_fall 1]
  | 1 => [tz_vret]
  | _ => []
def bp_Li_take : Nat → Nat := fun b => match b with
  | 0 => 0
  | 1 => 26
  | _ => 0
set_option maxRecDepth 100000 in
set_option maxHeartbeats 4000000 in
theorem sd_Li_take (X : rz_X) (G : rz_Cx CL X c_Li_take 2 rz_tbl R_Li ({ frames := 0, cells := 0, slots := 0, locals := 0 })) : ∀ b, rz_SB SH CL X bp_Li_take (rz_RV SH CL X c_Li_take) (bk_Li_take b) (bp_Li_take b) := fun b => match b with
  | 0 => (rz_cons (rz_aload_n G d_Li_take_0 rfl) (rz_cons (rz_get G rfl in_Li (by decide) wd_65 d_Li_take_1) (rz_cons (rz_bipush G d_Li_take_4 (by decide)) (rz_cons (rz_icmp_ge G d_Li_take_6 (by decide)) (rz_cons (rz_aload_n G d_Li_take_9 rfl) (rz_cons (rz_get G rfl in_Li (by decide) wd_64 d_Li_take_10) (rz_cons (rz_aload_n G d_Li_take_13 rfl) (rz_cons (rz_dup G d_Li_take_14) (rz_cons (rz_get G rfl in_Li (by decide) wd_65 d_Li_take_15) (rz_cons (rz_dup_x1 G d_Li_take_18) (rz_cons (rz_iconst G d_Li_take_19 (by decide)) (rz_cons (rz_iadd G d_Li_take_20) (rz_cons (rz_put G rfl in_Li ty_Li tyok_Li nm_Li (by decide) rfl (by decide +kernel) wd_65 d_Li_take_21) (rz_cons (rz_iload_n G d_Li_take_24 rfl) (rz_cons (rz_iast G d_Li_take_25) (rz_fall rfl))))))))))))))))
  | 1 => (rz_cons (rz_vret (npc := 0) d_Li_take_26) rz_nil)
  | _ + 2 => rz_nil
set_option maxRecDepth 100000 in
set_option maxHeartbeats 4000000 in
theorem bd_Li_take : ∀ (Y : Nat → rz_K) (P : rz_P), (∀ b ls st μ, rz_ex P Y (bk_Li_take b) ls st μ → Y b ls st μ) → ∀ As μ, C_Li_take As μ P → Y 0 (rz_pad 2 (rz_ent As)) [] μ := by
  intro Y P hY As μ hC
  obtain ⟨x, n, rfl, hn, h36, hC⟩ := hC
  refine hY 0 _ _ _ (And.intro (fun (h : (36 : Int32) ≤ μ 1 1) => ?_) (fun _ => And.intro ?_ (hY 1 _ _ _ ?_)))
  · rw [hn] at h
    exact absurd h (nI_ge (a := n) (b := 36) h36 (by omega))
  · rw [hn]; exact vp_in_nI h36 (by omega)
  · rw [nI_succ] at hC
    rw [hn, nI_clamp (by omega)]
    exact hC
theorem m_Li_take (E : rz_E) : rz_MV SH CL E y_Li_take 2 (Cond.code y_Li_take c_Li_take 2 none :: rz_tbl) ({ frames := 0, cells := 0, slots := 0, locals := 0 }) C_Li_take := rz_metV (by decide) rfl (fun X _ G => sd_Li_take X G) bd_Li_take
theorem cd_Li_take : rz_Cd rz_tbl y_Li_take c_Li_take 2 none (Cond.code y_Li_take c_Li_take 2 none :: rz_tbl) 1 ({ frames := 0, cells := 0, slots := 0, locals := 0 }) := ⟨rz_good wd_360, ⟨_, rfl⟩, wd_41, by decide +kernel, rfl, rfl⟩
def C_Li_isTooLong : rz_C := fun As μ P => As = [.ref 1] ∧ P (some (.int (b2 (¬ μ 2 2 ≤ 32)))) μ
def bk_Li_isTooLong : Nat → List rz_T := fun b => match b with
  | 0 => [tz_aload 0, tz_get SH 3 0, tz_iconst 2, tz_iald SH, tz_bipush 32, tz_icmp_le 1, tz_iconst 1, tz_goto 2]
  | 1 => [tz_iconst 0, tz_fall 2]
  | 2 => [tz_zret]
  | _ => []
def bp_Li_isTooLong : Nat → Nat := fun b => match b with
  | 0 => 0
  | 1 => 15
  | 2 => 16
  | _ => 0
set_option maxRecDepth 100000 in
set_option maxHeartbeats 4000000 in
theorem sd_Li_isTooLong (X : rz_X) (G : rz_Cx CL X c_Li_isTooLong 1 rz_tbl R_Li ({ frames := 0, cells := 0, slots := 0, locals := 0 })) : ∀ b, rz_SB SH CL X bp_Li_isTooLong (rz_RI SH CL X c_Li_isTooLong (fun v => narrow .boolean (.int v) = .int v)) (bk_Li_isTooLong b) (bp_Li_isTooLong b) := fun b => match b with
  | 0 => (rz_cons (rz_aload_n G d_Li_isTooLong_0 rfl) (rz_cons (rz_get G rfl in_Li (by decide) wd_64 d_Li_isTooLong_1) (rz_cons (rz_iconst G d_Li_isTooLong_4 (by decide)) (rz_cons (rz_iald G d_Li_isTooLong_5) (rz_cons (rz_bipush G d_Li_isTooLong_6 (by decide)) (rz_cons (rz_icmp_le G d_Li_isTooLong_8 (by decide)) (rz_cons (rz_iconst G d_Li_isTooLong_11 (by decide)) (rz_cons (rz_goto (npc := 0) G d_Li_isTooLong_12 (by decide)) rz_nil))))))))
  | 1 => (rz_cons (rz_iconst G d_Li_isTooLong_15 (by decide)) (rz_fall rfl))
  | 2 => (rz_cons (rz_zret (npc := 0) (by rintro v (rfl | rfl) <;> rfl) d_Li_isTooLong_16) rz_nil)
  | _ + 3 => rz_nil
set_option maxRecDepth 100000 in
set_option maxHeartbeats 4000000 in
theorem bd_Li_isTooLong : ∀ (Y : Nat → rz_K) (P : rz_P), (∀ b ls st μ, rz_ex P Y (bk_Li_isTooLong b) ls st μ → Y b ls st μ) → ∀ As μ, C_Li_isTooLong As μ P → Y 0 (rz_pad 1 (rz_ent As)) [] μ := by
  intro Y P hY As μ hC
  obtain ⟨rfl, hC⟩ := hC
  exact hY 0 _ _ _ (And.intro (vi_c (by decide)) (And.intro (fun h => hY _ _ _ _ (hY _ _ _ _ (pF hC (fun q => q h)))) (fun h => hY _ _ _ _ (pT hC h))))
theorem m_Li_isTooLong (E : rz_E) : rz_MI SH CL E y_Li_isTooLong 1 (Cond.code y_Li_isTooLong c_Li_isTooLong 1 (some .boolean) :: rz_tbl) ({ frames := 0, cells := 0, slots := 0, locals := 0 }) C_Li_isTooLong := rz_metI (by decide) rfl (fun X _ G => sd_Li_isTooLong X G) bd_Li_isTooLong
theorem cd_Li_isTooLong : rz_Cd rz_tbl y_Li_isTooLong c_Li_isTooLong 1 (some .boolean) (Cond.code y_Li_isTooLong c_Li_isTooLong 1 (some .boolean) :: rz_tbl) 0 ({ frames := 0, cells := 0, slots := 0, locals := 0 }) := ⟨rz_good wd_368, ⟨_, rfl⟩, wd_41, by decide +kernel, rfl, rfl⟩
def C_Li_pcb : rz_C := fun As μ P => As = [.ref 1] ∧ P (some (.int (μ 2 1))) μ
def bk_Li_pcb : Nat → List rz_T := fun b => match b with
  | 0 => [tz_aload 0, tz_get SH 3 0, tz_iconst 1, tz_iald SH, tz_iret]
  | _ => []
def bp_Li_pcb : Nat → Nat := fun b => match b with
  | 0 => 0
  | _ => 0
set_option maxRecDepth 100000 in
set_option maxHeartbeats 4000000 in
theorem sd_Li_pcb (X : rz_X) (G : rz_Cx CL X c_Li_pcb 1 rz_tbl R_Li ({ frames := 0, cells := 0, slots := 0, locals := 0 })) : ∀ b, rz_SB SH CL X bp_Li_pcb (rz_RI SH CL X c_Li_pcb (fun v => narrow .int (.int v) = .int v)) (bk_Li_pcb b) (bp_Li_pcb b) := fun b => match b with
  | 0 => (rz_cons (rz_aload_n G d_Li_pcb_0 rfl) (rz_cons (rz_get G rfl in_Li (by decide) wd_64 d_Li_pcb_1) (rz_cons (rz_iconst G d_Li_pcb_4 (by decide)) (rz_cons (rz_iald G d_Li_pcb_5) (rz_cons (rz_iret (npc := 0) (fun _ => rfl) d_Li_pcb_6) rz_nil)))))
  | _ + 1 => rz_nil
set_option maxRecDepth 100000 in
set_option maxHeartbeats 4000000 in
theorem bd_Li_pcb : ∀ (Y : Nat → rz_K) (P : rz_P), (∀ b ls st μ, rz_ex P Y (bk_Li_pcb b) ls st μ → Y b ls st μ) → ∀ As μ, C_Li_pcb As μ P → Y 0 (rz_pad 1 (rz_ent As)) [] μ := by
  intro Y P hY As μ hC
  obtain ⟨rfl, hC⟩ := hC
  exact hY 0 _ _ _ (And.intro (vi_c (by decide)) hC)
theorem m_Li_pcb (E : rz_E) : rz_MI SH CL E y_Li_pcb 1 (Cond.code y_Li_pcb c_Li_pcb 1 (some .int) :: rz_tbl) ({ frames := 0, cells := 0, slots := 0, locals := 0 }) C_Li_pcb := rz_metI (by decide) rfl (fun X _ G => sd_Li_pcb X G) bd_Li_pcb
theorem cd_Li_pcb : rz_Cd rz_tbl y_Li_pcb c_Li_pcb 1 (some .int) (Cond.code y_Li_pcb c_Li_pcb 1 (some .int) :: rz_tbl) 0 ({ frames := 0, cells := 0, slots := 0, locals := 0 }) := ⟨rz_good wd_391, ⟨_, rfl⟩, wd_41, by decide +kernel, rfl, rfl⟩
def C_Li_infLength : rz_C := fun As μ P => As = [.ref 1] ∧ P (some (.int (μ 2 2))) μ
def bk_Li_infLength : Nat → List rz_T := fun b => match b with
  | 0 => [tz_aload 0, tz_get SH 3 0, tz_iconst 2, tz_iald SH, tz_iret]
  | _ => []
def bp_Li_infLength : Nat → Nat := fun b => match b with
  | 0 => 0
  | _ => 0
set_option maxRecDepth 100000 in
set_option maxHeartbeats 4000000 in
theorem sd_Li_infLength (X : rz_X) (G : rz_Cx CL X c_Li_infLength 1 rz_tbl R_Li ({ frames := 0, cells := 0, slots := 0, locals := 0 })) : ∀ b, rz_SB SH CL X bp_Li_infLength (rz_RI SH CL X c_Li_infLength (fun v => narrow .int (.int v) = .int v)) (bk_Li_infLength b) (bp_Li_infLength b) := fun b => match b with
  | 0 => (rz_cons (rz_aload_n G d_Li_infLength_0 rfl) (rz_cons (rz_get G rfl in_Li (by decide) wd_64 d_Li_infLength_1) (rz_cons (rz_iconst G d_Li_infLength_4 (by decide)) (rz_cons (rz_iald G d_Li_infLength_5) (rz_cons (rz_iret (npc := 0) (fun _ => rfl) d_Li_infLength_6) rz_nil)))))
  | _ + 1 => rz_nil
set_option maxRecDepth 100000 in
set_option maxHeartbeats 4000000 in
theorem bd_Li_infLength : ∀ (Y : Nat → rz_K) (P : rz_P), (∀ b ls st μ, rz_ex P Y (bk_Li_infLength b) ls st μ → Y b ls st μ) → ∀ As μ, C_Li_infLength As μ P → Y 0 (rz_pad 1 (rz_ent As)) [] μ := by
  intro Y P hY As μ hC
  obtain ⟨rfl, hC⟩ := hC
  exact hY 0 _ _ _ (And.intro (vi_c (by decide)) hC)
theorem m_Li_infLength (E : rz_E) : rz_MI SH CL E y_Li_infLength 1 (Cond.code y_Li_infLength c_Li_infLength 1 (some .int) :: rz_tbl) ({ frames := 0, cells := 0, slots := 0, locals := 0 }) C_Li_infLength := rz_metI (by decide) rfl (fun X _ G => sd_Li_infLength X G) bd_Li_infLength
theorem cd_Li_infLength : rz_Cd rz_tbl y_Li_infLength c_Li_infLength 1 (some .int) (Cond.code y_Li_infLength c_Li_infLength 1 (some .int) :: rz_tbl) 0 ({ frames := 0, cells := 0, slots := 0, locals := 0 }) := ⟨rz_good wd_372, ⟨_, rfl⟩, wd_41, by decide +kernel, rfl, rfl⟩
def C_Li_inf : rz_C := fun As μ P => ∃ k : Nat, As = [.ref 1, .int (nI k)] ∧ k < 32 ∧ P (some (.int (μ 2 (3 + k)))) μ
def bk_Li_inf : Nat → List rz_T := fun b => match b with
  | 0 => [tz_iload 1, tz_if_lt 1, tz_iload 1, tz_bipush 32, tz_icmp_ge 1, tz_aload 0, tz_get SH 3 0, tz_iconst 3, tz_iload 1, tz_iadd, tz_iald SH, tz_goto 2]
  | 1 => [tz_iconst 0, tz_fall 2]
  | 2 => [tz_iret]
  | _ => []
def bp_Li_inf : Nat → Nat := fun b => match b with
  | 0 => 0
  | 1 => 21
  | 2 => 22
  | _ => 0
set_option maxRecDepth 100000 in
set_option maxHeartbeats 4000000 in
theorem sd_Li_inf (X : rz_X) (G : rz_Cx CL X c_Li_inf 2 rz_tbl R_Li ({ frames := 0, cells := 0, slots := 0, locals := 0 })) : ∀ b, rz_SB SH CL X bp_Li_inf (rz_RI SH CL X c_Li_inf (fun v => narrow .int (.int v) = .int v)) (bk_Li_inf b) (bp_Li_inf b) := fun b => match b with
  | 0 => (rz_cons (rz_iload_n G d_Li_inf_0 rfl) (rz_cons (rz_if_lt G d_Li_inf_1 (by decide)) (rz_cons (rz_iload_n G d_Li_inf_4 rfl) (rz_cons (rz_bipush G d_Li_inf_5 (by decide)) (rz_cons (rz_icmp_ge G d_Li_inf_7 (by decide)) (rz_cons (rz_aload_n G d_Li_inf_10 rfl) (rz_cons (rz_get G rfl in_Li (by decide) wd_64 d_Li_inf_11) (rz_cons (rz_iconst G d_Li_inf_14 (by decide)) (rz_cons (rz_iload_n G d_Li_inf_15 rfl) (rz_cons (rz_iadd G d_Li_inf_16) (rz_cons (rz_iald G d_Li_inf_17) (rz_cons (rz_goto (npc := 0) G d_Li_inf_18 (by decide)) rz_nil))))))))))))
  | 1 => (rz_cons (rz_iconst G d_Li_inf_21 (by decide)) (rz_fall rfl))
  | 2 => (rz_cons (rz_iret (npc := 0) (fun _ => rfl) d_Li_inf_22) rz_nil)
  | _ + 3 => rz_nil
set_option maxRecDepth 100000 in
set_option maxHeartbeats 4000000 in
theorem bd_Li_inf : ∀ (Y : Nat → rz_K) (P : rz_P), (∀ b ls st μ, rz_ex P Y (bk_Li_inf b) ls st μ → Y b ls st μ) → ∀ As μ, C_Li_inf As μ P → Y 0 (rz_pad 2 (rz_ent As)) [] μ := by
  intro Y P hY As μ hC
  obtain ⟨k, rfl, h32, hC⟩ := hC
  have e : (3 : Int32) + nI k = nI (3 + k) := by rw [show (3 : Int32) = nI 3 from rfl, nI_add]
  refine hY 0 _ _ _ (And.intro (fun h => absurd h (nI_pos (by omega))) (fun _ => And.intro (fun h => absurd h (nI_ge (a := k) (b := 32) h32 (by omega))) (fun _ => ?_)))
  show vp_in (3 + nI k) 36 ∧ _
  rw [e]
  refine And.intro (vp_in_nI (by omega) (by omega)) (hY _ _ _ _ ?_)
  rw [nI_clamp (by omega)]
  exact hC
theorem m_Li_inf (E : rz_E) : rz_MI SH CL E y_Li_inf 2 (Cond.code y_Li_inf c_Li_inf 2 (some .int) :: rz_tbl) ({ frames := 0, cells := 0, slots := 0, locals := 0 }) C_Li_inf := rz_metI (by decide) rfl (fun X _ G => sd_Li_inf X G) bd_Li_inf
theorem cd_Li_inf : rz_Cd rz_tbl y_Li_inf c_Li_inf 2 (some .int) (Cond.code y_Li_inf c_Li_inf 2 (some .int) :: rz_tbl) 1 ({ frames := 0, cells := 0, slots := 0, locals := 0 }) := ⟨rz_good wd_401, ⟨_, rfl⟩, wd_41, by decide +kernel, rfl, rfl⟩
def C_Li_isWhole : rz_C := fun As μ P => As = [.ref 1] ∧ P (some (.int (b2 (¬ μ 1 1 < 3 ∧ (¬ μ 2 2 ≤ 32 ∨ μ 1 1 = 3 + μ 2 2 + 1))))) μ
def bk_Li_isWhole : Nat → List rz_T := fun b => match b with
  | 0 => [tz_aload 0, tz_get SH 3 1, tz_iconst 3, tz_icmp_lt 2, tz_aload 0, tz_cv SH 0 3 1 C_Li_isTooLong, tz_if_ne 1, tz_aload 0, tz_get SH 3 1, tz_iconst 3, tz_aload 0, tz_cv SH 0 3 1 C_Li_infLength, tz_iadd, tz_iconst 1, tz_iadd, tz_icmp_ne 2, tz_fall 1]
  | 1 => [tz_iconst 1, tz_goto 3]
  | 2 => [tz_iconst 0, tz_fall 3]
  | 3 => [tz_zret]
  | _ => []
def bp_Li_isWhole : Nat → Nat := fun b => match b with
  | 0 => 0
  | 1 => 30
  | 2 => 34
  | 3 => 35
  | _ => 0
set_option maxRecDepth 100000 in
set_option maxHeartbeats 4000000 in
theorem sd_Li_isWhole (X : rz_X) (G : rz_Cx CL X c_Li_isWhole 1 rz_tbl R_Li ({ frames := 1, cells := 0, slots := 0, locals := 20 })) : ∀ b, rz_SB SH CL X bp_Li_isWhole (rz_RI SH CL X c_Li_isWhole (fun v => narrow .boolean (.int v) = .int v)) (bk_Li_isWhole b) (bp_Li_isWhole b) := fun b => match b with
  | 0 => (rz_cons (rz_aload_n G d_Li_isWhole_0 rfl) (rz_cons (rz_get G rfl in_Li (by decide) wd_65 d_Li_isWhole_1) (rz_cons (rz_iconst G d_Li_isWhole_4 (by decide)) (rz_cons (rz_icmp_lt G d_Li_isWhole_5 (by decide)) (rz_cons (rz_aload_n G d_Li_isWhole_8 rfl) (rz_cons (rz_cvi G (m_Li_isTooLong X.1) cd_Li_isTooLong wd_365 wd_367 wd_1 rfl rfl (by decide) d_Li_isWhole_9) (rz_cons (rz_if_ne G d_Li_isWhole_12 (by decide)) (rz_cons (rz_aload_n G d_Li_isWhole_15 rfl) (rz_cons (rz_get G rfl in_Li (by decide) wd_65 d_Li_isWhole_16) (rz_cons (rz_iconst G d_Li_isWhole_19 (by decide)) (rz_cons (rz_aload_n G d_Li_isWhole_20 rfl) (rz_cons (rz_cvi G (m_Li_infLength X.1) cd_Li_infLength wd_369 wd_370 wd_371 rfl rfl (by decide) d_Li_isWhole_21) (rz_cons (rz_iadd G d_Li_isWhole_24) (rz_cons (rz_iconst G d_Li_isWhole_25 (by decide)) (rz_cons (rz_iadd G d_Li_isWhole_26) (rz_cons (rz_icmp_ne G d_Li_isWhole_27 (by decide)) (rz_fall rfl)))))))))))))))))
  | 1 => (rz_cons (rz_iconst G d_Li_isWhole_30 (by decide)) (rz_cons (rz_goto (npc := 0) G d_Li_isWhole_31 (by decide)) rz_nil))
  | 2 => (rz_cons (rz_iconst G d_Li_isWhole_34 (by decide)) (rz_fall rfl))
  | 3 => (rz_cons (rz_zret (npc := 0) (by rintro v (rfl | rfl) <;> rfl) d_Li_isWhole_35) rz_nil)
  | _ + 4 => rz_nil
set_option maxRecDepth 100000 in
set_option maxHeartbeats 4000000 in
theorem bd_Li_isWhole : ∀ (Y : Nat → rz_K) (P : rz_P), (∀ b ls st μ, rz_ex P Y (bk_Li_isWhole b) ls st μ → Y b ls st μ) → ∀ As μ, C_Li_isWhole As μ P → Y 0 (rz_pad 1 (rz_ent As)) [] μ := by
  intro Y P hY As μ hC
  obtain ⟨rfl, hC⟩ := hC
  refine hY 0 _ _ _ (And.intro (fun h => ?_) (fun h => And.intro rfl (And.intro (fun h2 => ?_) (fun h2 => And.intro rfl (And.intro (fun h3 => ?_) (fun h3 => ?_))))))
  · exact hY _ _ _ _ (hY _ _ _ _ (pF hC (fun q => q.1 h)))
  · exact hY _ _ _ _ (hY _ _ _ _ (pT hC ⟨h, Or.inl (b2_ne h2)⟩))
  · exact hY _ _ _ _ (hY _ _ _ _ (pF hC (fun q => q.2.elim (b2_eq h2) h3)))
  · exact hY _ _ _ _ (hY _ _ _ _ (pT hC ⟨h, Or.inr h3⟩))
theorem m_Li_isWhole (E : rz_E) : rz_MI SH CL E y_Li_isWhole 1 (Cond.code y_Li_isWhole c_Li_isWhole 1 (some .boolean) :: rz_tbl) ({ frames := 1, cells := 0, slots := 0, locals := 20 }) C_Li_isWhole := rz_metI (by decide) rfl (fun X _ G => sd_Li_isWhole X G) bd_Li_isWhole
theorem cd_Li_isWhole : rz_Cd rz_tbl y_Li_isWhole c_Li_isWhole 1 (some .boolean) (Cond.code y_Li_isWhole c_Li_isWhole 1 (some .boolean) :: rz_tbl) 0 ({ frames := 1, cells := 0, slots := 0, locals := 20 }) := ⟨rz_good wd_364, ⟨_, rfl⟩, wd_41, by decide +kernel, rfl, rfl⟩
def C_Li_sum : rz_C := fun As μ P => ∃ n : Nat, n ≤ 36 ∧ ((As = [.ref 2, .int (nI n)] ∧ P (some (.int (xs (μ 2) n))) μ) ∨ (As = [.ref 3, .int (nI n)] ∧ P (some (.int (xs (μ 3) n))) μ))
def bk_Li_sum : Nat → List rz_T := fun b => match b with
  | 0 => [tz_iconst 0, tz_istore 2, tz_iconst 0, tz_istore 3, tz_fall 1]
  | 1 => [tz_iload 3, tz_iload 1, tz_icmp_ge 2, tz_iload 3, tz_aload 0, tz_alen SH, tz_icmp_ge 2, tz_iload 2, tz_aload 0, tz_iload 3, tz_iald SH, tz_ixor, tz_istore 2, tz_iinc 3 1, tz_goto 1]
  | 2 => [tz_iload 2, tz_iret]
  | _ => []
def bp_Li_sum : Nat → Nat := fun b => match b with
  | 0 => 0
  | 1 => 4
  | 2 => 27
  | _ => 0
set_option maxRecDepth 100000 in
set_option maxHeartbeats 4000000 in
theorem sd_Li_sum (X : rz_X) (G : rz_Cx CL X c_Li_sum 4 rz_tbl R_Li ({ frames := 0, cells := 0, slots := 0, locals := 0 })) : ∀ b, rz_SB SH CL X bp_Li_sum (rz_RI SH CL X c_Li_sum (fun v => narrow .int (.int v) = .int v)) (bk_Li_sum b) (bp_Li_sum b) := fun b => match b with
  | 0 => (rz_cons (rz_iconst G d_Li_sum_0 (by decide)) (rz_cons (rz_istore_n G d_Li_sum_1 rfl (by decide)) (rz_cons (rz_iconst G d_Li_sum_2 (by decide)) (rz_cons (rz_istore_n G d_Li_sum_3 rfl (by decide)) (rz_fall rfl)))))
  | 1 => (rz_cons (rz_iload_n G d_Li_sum_4 rfl) (rz_cons (rz_iload_n G d_Li_sum_5 rfl) (rz_cons (rz_icmp_ge G d_Li_sum_6 (by decide)) (rz_cons (rz_iload_n G d_Li_sum_9 rfl) (rz_cons (rz_aload_n G d_Li_sum_10 rfl) (rz_cons (rz_alen G d_Li_sum_11) (rz_cons (rz_icmp_ge G d_Li_sum_12 (by decide)) (rz_cons (rz_iload_n G d_Li_sum_15 rfl) (rz_cons (rz_aload_n G d_Li_sum_16 rfl) (rz_cons (rz_iload_n G d_Li_sum_17 rfl) (rz_cons (rz_iald G d_Li_sum_18) (rz_cons (rz_ixor G d_Li_sum_19) (rz_cons (rz_istore_n G d_Li_sum_20 rfl (by decide)) (rz_cons (rz_iinc G d_Li_sum_21 (by decide) (by decide)) (rz_cons (rz_goto (npc := 0) G d_Li_sum_24 (by decide)) rz_nil)))))))))))))))
  | 2 => (rz_cons (rz_iload_n G d_Li_sum_27 rfl) (rz_cons (rz_iret (npc := 0) (fun _ => rfl) d_Li_sum_28) rz_nil))
  | _ + 3 => rz_nil
set_option maxRecDepth 100000 in
set_option maxHeartbeats 4000000 in
theorem bd_Li_sum : ∀ (Y : Nat → rz_K) (P : rz_P), (∀ b ls st μ, rz_ex P Y (bk_Li_sum b) ls st μ → Y b ls st μ) → ∀ As μ, C_Li_sum As μ P → Y 0 (rz_pad 4 (rz_ent As)) [] μ := by
  intro Y P hY As μ hC
  obtain ⟨n, h36, hC⟩ := hC
  rcases hC with ⟨rfl, hC⟩ | ⟨rfl, hC⟩
  · have loop : ∀ d i, i + d = n → Y 1 [some (.ref 2), some (.int (nI n)), some (.int (xs (μ 2) i)), some (.int (nI i))] [] μ := by
      intro d
      induction d with
      | zero =>
        intro i hi
        have : i = n := by omega
        subst this
        exact hY 1 _ _ _ (And.intro (fun _ => hY 2 _ _ _ hC) (fun h => absurd (Int32.le_refl _) h))
      | succ d ih =>
        intro i hi
        refine hY 1 _ _ _ (And.intro (fun h => absurd h (nI_ge (by omega) (by omega))) (fun _ => And.intro (fun h => absurd h (nI_ge (a := i) (b := 36) (by omega) (by omega))) (fun _ => And.intro (vp_in_nI (by omega) (by omega)) ?_)))
        have := ih (i + 1) (by omega)
        rw [nI_succ] at this
        rw [nI_clamp (by omega)]
        exact this
    exact hY 0 _ _ _ (loop n 0 (by omega))
  · have loop : ∀ d i, i + d = n → Y 1 [some (.ref 3), some (.int (nI n)), some (.int (xs (μ 3) i)), some (.int (nI i))] [] μ := by
      intro d
      induction d with
      | zero =>
        intro i hi
        have : i = n := by omega
        subst this
        exact hY 1 _ _ _ (And.intro (fun _ => hY 2 _ _ _ hC) (fun h => absurd (Int32.le_refl _) h))
      | succ d ih =>
        intro i hi
        refine hY 1 _ _ _ (And.intro (fun h => absurd h (nI_ge (by omega) (by omega))) (fun _ => And.intro (fun h => absurd h (nI_ge (a := i) (b := 36) (by omega) (by omega))) (fun _ => And.intro (vp_in_nI (by omega) (by omega)) ?_)))
        have := ih (i + 1) (by omega)
        rw [nI_succ] at this
        rw [nI_clamp (by omega)]
        exact this
    exact hY 0 _ _ _ (loop n 0 (by omega))
theorem m_Li_sum (E : rz_E) : rz_MI SH CL E y_Li_sum 4 (Cond.code y_Li_sum c_Li_sum 4 (some .int) :: rz_tbl) ({ frames := 0, cells := 0, slots := 0, locals := 0 }) C_Li_sum := rz_metI (by decide) rfl (fun X _ G => sd_Li_sum X G) bd_Li_sum
theorem cd_Li_sum : rz_Cd rz_tbl y_Li_sum c_Li_sum 4 (some .int) (Cond.code y_Li_sum c_Li_sum 4 (some .int) :: rz_tbl) 2 ({ frames := 0, cells := 0, slots := 0, locals := 0 }) := ⟨rz_good wd_387, ⟨_, rfl⟩, wd_41, by decide +kernel, rfl, rfl⟩
def C_Li_sumOfArrived : rz_C := fun As μ P => ∃ n : Nat, As = [.ref 1] ∧ μ 1 1 = nI n ∧ n ≤ 36 ∧ P (some (.int (xs (μ 2) n))) μ
def bk_Li_sumOfArrived : Nat → List rz_T := fun b => match b with
  | 0 => [tz_aload 0, tz_get SH 3 0, tz_aload 0, tz_get SH 3 1, tz_cs 2 4 C_Li_sum, tz_iret]
  | _ => []
def bp_Li_sumOfArrived : Nat → Nat := fun b => match b with
  | 0 => 0
  | _ => 0
set_option maxRecDepth 100000 in
set_option maxHeartbeats 4000000 in
theorem sd_Li_sumOfArrived (X : rz_X) (G : rz_Cx CL X c_Li_sumOfArrived 1 rz_tbl R_Li ({ frames := 1, cells := 0, slots := 0, locals := 23 })) : ∀ b, rz_SB SH CL X bp_Li_sumOfArrived (rz_RI SH CL X c_Li_sumOfArrived (fun v => narrow .int (.int v) = .int v)) (bk_Li_sumOfArrived b) (bp_Li_sumOfArrived b) := fun b => match b with
  | 0 => (rz_cons (rz_aload_n G d_Li_sumOfArrived_0 rfl) (rz_cons (rz_get G rfl in_Li (by decide) wd_64 d_Li_sumOfArrived_1) (rz_cons (rz_aload_n G d_Li_sumOfArrived_4 rfl) (rz_cons (rz_get G rfl in_Li (by decide) wd_65 d_Li_sumOfArrived_5) (rz_cons (rz_csi G (m_Li_sum X.1) cd_Li_sum wd_385 wd_386 (by decide) d_Li_sumOfArrived_8) (rz_cons (rz_iret (npc := 0) (fun _ => rfl) d_Li_sumOfArrived_11) rz_nil))))))
  | _ + 1 => rz_nil
set_option maxRecDepth 100000 in
set_option maxHeartbeats 4000000 in
theorem bd_Li_sumOfArrived : ∀ (Y : Nat → rz_K) (P : rz_P), (∀ b ls st μ, rz_ex P Y (bk_Li_sumOfArrived b) ls st μ → Y b ls st μ) → ∀ As μ, C_Li_sumOfArrived As μ P → Y 0 (rz_pad 1 (rz_ent As)) [] μ := by
  intro Y P hY As μ hC
  obtain ⟨n, rfl, hn, h36, hC⟩ := hC
  refine hY 0 _ _ _ ⟨n, h36, Or.inl ⟨?_, hC⟩⟩
  show [Value.ref 2, Value.int (μ 1 1)] = _
  rw [hn]
theorem m_Li_sumOfArrived (E : rz_E) : rz_MI SH CL E y_Li_sumOfArrived 1 (Cond.code y_Li_sumOfArrived c_Li_sumOfArrived 1 (some .int) :: rz_tbl) ({ frames := 1, cells := 0, slots := 0, locals := 23 }) C_Li_sumOfArrived := rz_metI (by decide) rfl (fun X _ G => sd_Li_sumOfArrived X G) bd_Li_sumOfArrived
theorem cd_Li_sumOfArrived : rz_Cd rz_tbl y_Li_sumOfArrived c_Li_sumOfArrived 1 (some .int) (Cond.code y_Li_sumOfArrived c_Li_sumOfArrived 1 (some .int) :: rz_tbl) 0 ({ frames := 1, cells := 0, slots := 0, locals := 23 }) := ⟨rz_good wd_384, ⟨_, rfl⟩, wd_41, by decide +kernel, rfl, rfl⟩
def v_wrong (n : Nat) (μ : rz_M) : Int32 := if ¬ μ 2 2 ≤ 32 then 2 else if ¬ xs (μ 2) n = 0 then 1 else if ¬ μ 2 0 = 0 then 2 else 0
def C_Li_wrong : rz_C := fun As μ P => ∃ n : Nat, As = [.ref 1] ∧ μ 1 1 = nI n ∧ n ≤ 36 ∧ P (some (.int (v_wrong n μ))) μ
def bk_Li_wrong : Nat → List rz_T := fun b => match b with
  | 0 => [tz_aload 0, tz_cv SH 0 3 1 C_Li_isTooLong, tz_if_eq 1, tz_iconst 2, tz_iret]
  | 1 => [tz_aload 0, tz_cv SH 0 3 1 C_Li_sumOfArrived, tz_if_eq 2, tz_iconst 1, tz_iret]
  | 2 => [tz_aload 0, tz_get SH 3 0, tz_iconst 0, tz_iald SH, tz_if_ne 3, tz_iconst 0, tz_goto 4]
  | 3 => [tz_iconst 2, tz_fall 4]
  | 4 => [tz_iret]
  | _ => []
def bp_Li_wrong : Nat → Nat := fun b => match b with
  | 0 => 0
  | 1 => 9
  | 2 => 18
  | 3 => 31
  | 4 => 32
  | _ => 0
set_option maxRecDepth 100000 in
set_option maxHeartbeats 4000000 in
theorem sd_Li_wrong (X : rz_X) (G : rz_Cx CL X c_Li_wrong 1 rz_tbl R_Li ({ frames := 2, cells := 0, slots := 0, locals := 43 })) : ∀ b, rz_SB SH CL X bp_Li_wrong (rz_RI SH CL X c_Li_wrong (fun v => narrow .int (.int v) = .int v)) (bk_Li_wrong b) (bp_Li_wrong b) := fun b => match b with
  | 0 => (rz_cons (rz_aload_n G d_Li_wrong_0 rfl) (rz_cons (rz_cvi G (m_Li_isTooLong X.1) cd_Li_isTooLong wd_365 wd_367 wd_1 rfl rfl (by decide) d_Li_wrong_1) (rz_cons (rz_if_eq G d_Li_wrong_4 (by decide)) (rz_cons (rz_iconst G d_Li_wrong_7 (by decide)) (rz_cons (rz_iret (npc := 0) (fun _ => rfl) d_Li_wrong_8) rz_nil)))))
  | 1 => (rz_cons (rz_aload_n G d_Li_wrong_9 rfl) (rz_cons (rz_cvi G (m_Li_sumOfArrived X.1) cd_Li_sumOfArrived wd_381 wd_382 wd_383 rfl rfl (by decide) d_Li_wrong_10) (rz_cons (rz_if_eq G d_Li_wrong_13 (by decide)) (rz_cons (rz_iconst G d_Li_wrong_16 (by decide)) (rz_cons (rz_iret (npc := 0) (fun _ => rfl) d_Li_wrong_17) rz_nil)))))
  | 2 => (rz_cons (rz_aload_n G d_Li_wrong_18 rfl) (rz_cons (rz_get G rfl in_Li (by decide) wd_64 d_Li_wrong_19) (rz_cons (rz_iconst G d_Li_wrong_22 (by decide)) (rz_cons (rz_iald G d_Li_wrong_23) (rz_cons (rz_if_ne G d_Li_wrong_24 (by decide)) (rz_cons (rz_iconst G d_Li_wrong_27 (by decide)) (rz_cons (rz_goto (npc := 0) G d_Li_wrong_28 (by decide)) rz_nil)))))))
  | 3 => (rz_cons (rz_iconst G d_Li_wrong_31 (by decide)) (rz_fall rfl))
  | 4 => (rz_cons (rz_iret (npc := 0) (fun _ => rfl) d_Li_wrong_32) rz_nil)
  | _ + 5 => rz_nil
set_option maxRecDepth 100000 in
set_option maxHeartbeats 4000000 in
theorem bd_Li_wrong : ∀ (Y : Nat → rz_K) (P : rz_P), (∀ b ls st μ, rz_ex P Y (bk_Li_wrong b) ls st μ → Y b ls st μ) → ∀ As μ, C_Li_wrong As μ P → Y 0 (rz_pad 1 (rz_ent As)) [] μ := by
  intro Y P hY As μ hC
  obtain ⟨n, rfl, hn, h36, hC⟩ := hC
  refine hY 0 _ _ _ (And.intro rfl (And.intro (fun h => ?_) (fun h => ?_)))
  · have hC := rzF (fun z => P (some (.int z)) μ) (b2_eq h) hC
    refine hY 1 _ _ _ ⟨n, rfl, hn, h36, And.intro (fun h2 => ?_) (fun h2 => ?_)⟩
    · have hC := rzF (fun z => P (some (.int z)) μ) (fun q => q h2) hC
      refine hY 2 _ _ _ (And.intro (vi_c (by decide)) (And.intro (fun h3 => ?_) (fun h3 => ?_)))
      · exact hY _ _ _ _ (hY _ _ _ _ (rzT (fun z => P (some (.int z)) μ) h3 hC))
      · exact hY _ _ _ _ (rzF (fun z => P (some (.int z)) μ) (fun q => q h3) hC)
    · exact rzT (fun z => P (some (.int z)) μ) h2 hC
  · exact rzT (fun z => P (some (.int z)) μ) (b2_ne h) hC
theorem m_Li_wrong (E : rz_E) : rz_MI SH CL E y_Li_wrong 1 (Cond.code y_Li_wrong c_Li_wrong 1 (some .int) :: rz_tbl) ({ frames := 2, cells := 0, slots := 0, locals := 43 }) C_Li_wrong := rz_metI (by decide) rfl (fun X _ G => sd_Li_wrong X G) bd_Li_wrong
theorem cd_Li_wrong : rz_Cd rz_tbl y_Li_wrong c_Li_wrong 1 (some .int) (Cond.code y_Li_wrong c_Li_wrong 1 (some .int) :: rz_tbl) 0 ({ frames := 2, cells := 0, slots := 0, locals := 43 }) := ⟨rz_good wd_380, ⟨_, rfl⟩, wd_41, by decide +kernel, rfl, rfl⟩
def f_begin (x : Int32) (μ : rz_M) : rz_M := rz_up (rz_up (rz_up (rz_up μ 3 0 0) 3 1 x) 3 2 0) 1 3 3
def C_Li_begin : rz_C := fun As μ P => ∃ x : Int32, As = [.ref 1, .int x] ∧ P none (f_begin x μ)
def bk_Li_begin : Nat → List rz_T := fun b => match b with
  | 0 => [tz_aload 0, tz_get SH 3 2, tz_iconst 0, tz_iconst 0, tz_iast SH, tz_aload 0, tz_get SH 3 2, tz_iconst 1, tz_iload 1, tz_iast SH, tz_aload 0, tz_get SH 3 2, tz_iconst 2, tz_iconst 0, tz_iast SH, tz_aload 0, tz_iconst 3, tz_put SH 3 3, tz_vret]
  | _ => []
def bp_Li_begin : Nat → Nat := fun b => match b with
  | 0 => 0
  | _ => 0
set_option maxRecDepth 100000 in
set_option maxHeartbeats 4000000 in
theorem sd_Li_begin (X : rz_X) (G : rz_Cx CL X c_Li_begin 2 rz_tbl R_Li ({ frames := 0, cells := 0, slots := 0, locals := 0 })) : ∀ b, rz_SB SH CL X bp_Li_begin (rz_RV SH CL X c_Li_begin) (bk_Li_begin b) (bp_Li_begin b) := fun b => match b with
  | 0 => (rz_cons (rz_aload_n G d_Li_begin_0 rfl) (rz_cons (rz_get G rfl in_Li (by decide) wd_67 d_Li_begin_1) (rz_cons (rz_iconst G d_Li_begin_4 (by decide)) (rz_cons (rz_iconst G d_Li_begin_5 (by decide)) (rz_cons (rz_iast G d_Li_begin_6) (rz_cons (rz_aload_n G d_Li_begin_7 rfl) (rz_cons (rz_get G rfl in_Li (by decide) wd_67 d_Li_begin_8) (rz_cons (rz_iconst G d_Li_begin_11 (by decide)) (rz_cons (rz_iload_n G d_Li_begin_12 rfl) (rz_cons (rz_iast G d_Li_begin_13) (rz_cons (rz_aload_n G d_Li_begin_14 rfl) (rz_cons (rz_get G rfl in_Li (by decide) wd_67 d_Li_begin_15) (rz_cons (rz_iconst G d_Li_begin_18 (by decide)) (rz_cons (rz_iconst G d_Li_begin_19 (by decide)) (rz_cons (rz_iast G d_Li_begin_20) (rz_cons (rz_aload_n G d_Li_begin_21 rfl) (rz_cons (rz_iconst G d_Li_begin_22 (by decide)) (rz_cons (rz_put G rfl in_Li ty_Li tyok_Li nm_Li (by decide) rfl (by decide +kernel) wd_69 d_Li_begin_23) (rz_cons (rz_vret (npc := 0) d_Li_begin_26) rz_nil)))))))))))))))))))
  | _ + 1 => rz_nil
set_option maxRecDepth 100000 in
set_option maxHeartbeats 4000000 in
theorem bd_Li_begin : ∀ (Y : Nat → rz_K) (P : rz_P), (∀ b ls st μ, rz_ex P Y (bk_Li_begin b) ls st μ → Y b ls st μ) → ∀ As μ, C_Li_begin As μ P → Y 0 (rz_pad 2 (rz_ent As)) [] μ := by
  intro Y P hY As μ hC
  obtain ⟨x, rfl, hC⟩ := hC
  exact hY 0 _ _ _ (And.intro (vi_c (by decide)) (And.intro (vi_c (by decide)) (And.intro (vi_c (by decide)) hC)))
theorem m_Li_begin (E : rz_E) : rz_MV SH CL E y_Li_begin 2 (Cond.code y_Li_begin c_Li_begin 2 none :: rz_tbl) ({ frames := 0, cells := 0, slots := 0, locals := 0 }) C_Li_begin := rz_metV (by decide) rfl (fun X _ G => sd_Li_begin X G) bd_Li_begin
theorem cd_Li_begin : rz_Cd rz_tbl y_Li_begin c_Li_begin 2 none (Cond.code y_Li_begin c_Li_begin 2 none :: rz_tbl) 1 ({ frames := 0, cells := 0, slots := 0, locals := 0 }) := ⟨rz_good wd_413, ⟨_, rfl⟩, wd_41, by decide +kernel, rfl, rfl⟩
def f_append (x : Int32) (n : Nat) (μ : rz_M) : rz_M := rz_up (rz_up (rz_up μ 1 3 (nI (n + 1))) 3 n x) 3 2 (μ 3 2 + 1)
def C_Li_append : rz_C := fun As μ P => ∃ (x : Int32) (n : Nat), As = [.ref 1, .int x] ∧ μ 1 3 = nI n ∧ 3 ≤ n ∧ n < 35 ∧ P none (f_append x n μ)
def bk_Li_append : Nat → List rz_T := fun b => match b with
  | 0 => [tz_aload 0, tz_get SH 3 3, tz_bipush 35, tz_icmp_ge 1, tz_aload 0, tz_get SH 3 2, tz_aload 0, tz_dup, tz_get SH 3 3, tz_dup_x1, tz_iconst 1, tz_iadd, tz_put SH 3 3, tz_iload 1, tz_iast SH, tz_aload 0, tz_get SH 3 2, tz_iconst 2, tz_dup2, tz_iald SH, tz_iconst 1, tz_iadd, tz_iast SH, tz_fall 1]
  | 1 => [tz_vret]
  | _ => []
def bp_Li_append : Nat → Nat := fun b => match b with
  | 0 => 0
  | 1 => 36
  | _ => 0
set_option maxRecDepth 100000 in
set_option maxHeartbeats 4000000 in
theorem sd_Li_append (X : rz_X) (G : rz_Cx CL X c_Li_append 2 rz_tbl R_Li ({ frames := 0, cells := 0, slots := 0, locals := 0 })) : ∀ b, rz_SB SH CL X bp_Li_append (rz_RV SH CL X c_Li_append) (bk_Li_append b) (bp_Li_append b) := fun b => match b with
  | 0 => (rz_cons (rz_aload_n G d_Li_append_0 rfl) (rz_cons (rz_get G rfl in_Li (by decide) wd_69 d_Li_append_1) (rz_cons (rz_bipush G d_Li_append_4 (by decide)) (rz_cons (rz_icmp_ge G d_Li_append_6 (by decide)) (rz_cons (rz_aload_n G d_Li_append_9 rfl) (rz_cons (rz_get G rfl in_Li (by decide) wd_67 d_Li_append_10) (rz_cons (rz_aload_n G d_Li_append_13 rfl) (rz_cons (rz_dup G d_Li_append_14) (rz_cons (rz_get G rfl in_Li (by decide) wd_69 d_Li_append_15) (rz_cons (rz_dup_x1 G d_Li_append_18) (rz_cons (rz_iconst G d_Li_append_19 (by decide)) (rz_cons (rz_iadd G d_Li_append_20) (rz_cons (rz_put G rfl in_Li ty_Li tyok_Li nm_Li (by decide) rfl (by decide +kernel) wd_69 d_Li_append_21) (rz_cons (rz_iload_n G d_Li_append_24 rfl) (rz_cons (rz_iast G d_Li_append_25) (rz_cons (rz_aload_n G d_Li_append_26 rfl) (rz_cons (rz_get G rfl in_Li (by decide) wd_67 d_Li_append_27) (rz_cons (rz_iconst G d_Li_append_30 (by decide)) (rz_cons (rz_dup2 G d_Li_append_31) (rz_cons (rz_iald G d_Li_append_32) (rz_cons (rz_iconst G d_Li_append_33 (by decide)) (rz_cons (rz_iadd G d_Li_append_34) (rz_cons (rz_iast G d_Li_append_35) (rz_fall rfl))))))))))))))))))))))))
  | 1 => (rz_cons (rz_vret (npc := 0) d_Li_append_36) rz_nil)
  | _ + 2 => rz_nil
set_option maxRecDepth 100000 in
set_option maxHeartbeats 4000000 in
theorem bd_Li_append : ∀ (Y : Nat → rz_K) (P : rz_P), (∀ b ls st μ, rz_ex P Y (bk_Li_append b) ls st μ → Y b ls st μ) → ∀ As μ, C_Li_append As μ P → Y 0 (rz_pad 2 (rz_ent As)) [] μ := by
  intro Y P hY As μ hC
  obtain ⟨x, n, rfl, hn, h3, h35, hC⟩ := hC
  have c1 : (μ 1 3).toNatClampNeg = n := by rw [hn]; exact nI_clamp (by omega)
  refine hY 0 _ _ _ (And.intro (fun (h : (35 : Int32) ≤ μ 1 3) => ?_) (fun _ => And.intro ?_ (And.intro (vi_c (by decide)) (And.intro (vi_c (by decide)) (hY 1 _ _ _ ?_)))))
  · rw [hn] at h
    exact absurd h (nI_ge (a := n) (b := 35) h35 (by omega))
  · rw [hn]; exact vp_in_nI (by omega) (by omega)
  · unfold f_append at hC
    rw [nI_succ, ← hn] at hC
    rw [c1]
    have e : rz_up (rz_up μ 1 3 (μ 1 3 + 1)) 3 n x 3 2 = μ 3 2 := by rw [rz_up_j (by omega)]; rfl
    show P none (rz_up (rz_up (rz_up μ 1 3 (μ 1 3 + 1)) 3 n x) 3 2 (rz_up (rz_up μ 1 3 (μ 1 3 + 1)) 3 n x 3 2 + 1))
    rw [e]
    exact hC
theorem m_Li_append (E : rz_E) : rz_MV SH CL E y_Li_append 2 (Cond.code y_Li_append c_Li_append 2 none :: rz_tbl) ({ frames := 0, cells := 0, slots := 0, locals := 0 }) C_Li_append := rz_metV (by decide) rfl (fun X _ G => sd_Li_append X G) bd_Li_append
theorem cd_Li_append : rz_Cd rz_tbl y_Li_append c_Li_append 2 none (Cond.code y_Li_append c_Li_append 2 none :: rz_tbl) 1 ({ frames := 0, cells := 0, slots := 0, locals := 0 }) := ⟨rz_good wd_554, ⟨_, rfl⟩, wd_41, by decide +kernel, rfl, rfl⟩
def f_finish (n : Nat) (μ : rz_M) : rz_M := rz_up (rz_up μ 3 n (xs (μ 3) n)) 1 3 (nI (n + 1))
def C_Li_finish : rz_C := fun As μ P => ∃ n : Nat, As = [.ref 1] ∧ μ 1 3 = nI n ∧ n < 36 ∧ P none (f_finish n μ)
def bk_Li_finish : Nat → List rz_T := fun b => match b with
  | 0 => [tz_aload 0, tz_get SH 3 2, tz_aload 0, tz_get SH 3 3, tz_aload 0, tz_get SH 3 2, tz_aload 0, tz_get SH 3 3, tz_cs 2 4 C_Li_sum, tz_iast SH, tz_aload 0, tz_dup, tz_get SH 3 3, tz_iconst 1, tz_iadd, tz_put SH 3 3, tz_vret]
  | _ => []
def bp_Li_finish : Nat → Nat := fun b => match b with
  | 0 => 0
  | _ => 0
set_option maxRecDepth 100000 in
set_option maxHeartbeats 4000000 in
theorem sd_Li_finish (X : rz_X) (G : rz_Cx CL X c_Li_finish 1 rz_tbl R_Li ({ frames := 1, cells := 0, slots := 0, locals := 23 })) : ∀ b, rz_SB SH CL X bp_Li_finish (rz_RV SH CL X c_Li_finish) (bk_Li_finish b) (bp_Li_finish b) := fun b => match b with
  | 0 => (rz_cons (rz_aload_n G d_Li_finish_0 rfl) (rz_cons (rz_get G rfl in_Li (by decide) wd_67 d_Li_finish_1) (rz_cons (rz_aload_n G d_Li_finish_4 rfl) (rz_cons (rz_get G rfl in_Li (by decide) wd_69 d_Li_finish_5) (rz_cons (rz_aload_n G d_Li_finish_8 rfl) (rz_cons (rz_get G rfl in_Li (by decide) wd_67 d_Li_finish_9) (rz_cons (rz_aload_n G d_Li_finish_12 rfl) (rz_cons (rz_get G rfl in_Li (by decide) wd_69 d_Li_finish_13) (rz_cons (rz_csi G (m_Li_sum X.1) cd_Li_sum wd_385 wd_386 (by decide) d_Li_finish_16) (rz_cons (rz_iast G d_Li_finish_19) (rz_cons (rz_aload_n G d_Li_finish_20 rfl) (rz_cons (rz_dup G d_Li_finish_21) (rz_cons (rz_get G rfl in_Li (by decide) wd_69 d_Li_finish_22) (rz_cons (rz_iconst G d_Li_finish_25 (by decide)) (rz_cons (rz_iadd G d_Li_finish_26) (rz_cons (rz_put G rfl in_Li ty_Li tyok_Li nm_Li (by decide) rfl (by decide +kernel) wd_69 d_Li_finish_27) (rz_cons (rz_vret (npc := 0) d_Li_finish_30) rz_nil)))))))))))))))))
  | _ + 1 => rz_nil
set_option maxRecDepth 100000 in
set_option maxHeartbeats 4000000 in
theorem bd_Li_finish : ∀ (Y : Nat → rz_K) (P : rz_P), (∀ b ls st μ, rz_ex P Y (bk_Li_finish b) ls st μ → Y b ls st μ) → ∀ As μ, C_Li_finish As μ P → Y 0 (rz_pad 1 (rz_ent As)) [] μ := by
  intro Y P hY As μ hC
  obtain ⟨n, rfl, hn, h36, hC⟩ := hC
  have c1 : (μ 1 3).toNatClampNeg = n := by rw [hn]; exact nI_clamp (by omega)
  refine hY 0 _ _ _ ⟨n, by omega, Or.inr ⟨?_, And.intro ?_ ?_⟩⟩
  · show [Value.ref 3, Value.int (μ 1 3)] = _
    rw [hn]
  · rw [hn]; exact vp_in_nI (by omega) (by omega)
  · unfold f_finish at hC
    rw [nI_succ, ← hn] at hC
    rw [c1]
    exact hC
theorem m_Li_finish (E : rz_E) : rz_MV SH CL E y_Li_finish 1 (Cond.code y_Li_finish c_Li_finish 1 none :: rz_tbl) ({ frames := 1, cells := 0, slots := 0, locals := 23 }) C_Li_finish := rz_metV (by decide) rfl (fun X _ G => sd_Li_finish X G) bd_Li_finish
theorem cd_Li_finish : rz_Cd rz_tbl y_Li_finish c_Li_finish 1 none (Cond.code y_Li_finish c_Li_finish 1 none :: rz_tbl) 0 ({ frames := 1, cells := 0, slots := 0, locals := 23 }) := ⟨rz_good wd_417, ⟨_, rfl⟩, wd_41, by decide +kernel, rfl, rfl⟩
def f_greet (t : Int32) (μ : rz_M) : rz_M := rz_up (rz_up (rz_up (rz_up (rz_up μ 3 0 59) 3 1 1) 3 2 t) 3 3 32) 1 3 4
def C_Li_sendGreeting : rz_C := fun As μ P => ∃ t : Int32, As = [.ref 1, .int t] ∧ P none (f_greet t μ)
def bk_Li_sendGreeting : Nat → List rz_T := fun b => match b with
  | 0 => [tz_aload 0, tz_get SH 3 2, tz_iconst 0, tz_bipush 59, tz_iast SH, tz_aload 0, tz_get SH 3 2, tz_iconst 1, tz_iconst 1, tz_iast SH, tz_aload 0, tz_get SH 3 2, tz_iconst 2, tz_iload 1, tz_iast SH, tz_aload 0, tz_get SH 3 2, tz_iconst 3, tz_bipush 32, tz_iast SH, tz_aload 0, tz_iconst 4, tz_put SH 3 3, tz_vret]
  | _ => []
def bp_Li_sendGreeting : Nat → Nat := fun b => match b with
  | 0 => 0
  | _ => 0
set_option maxRecDepth 100000 in
set_option maxHeartbeats 4000000 in
theorem sd_Li_sendGreeting (X : rz_X) (G : rz_Cx CL X c_Li_sendGreeting 2 rz_tbl R_Li ({ frames := 0, cells := 0, slots := 0, locals := 0 })) : ∀ b, rz_SB SH CL X bp_Li_sendGreeting (rz_RV SH CL X c_Li_sendGreeting) (bk_Li_sendGreeting b) (bp_Li_sendGreeting b) := fun b => match b with
  | 0 => (rz_cons (rz_aload_n G d_Li_sendGreeting_0 rfl) (rz_cons (rz_get G rfl in_Li (by decide) wd_67 d_Li_sendGreeting_1) (rz_cons (rz_iconst G d_Li_sendGreeting_4 (by decide)) (rz_cons (rz_bipush G d_Li_sendGreeting_5 (by decide)) (rz_cons (rz_iast G d_Li_sendGreeting_7) (rz_cons (rz_aload_n G d_Li_sendGreeting_8 rfl) (rz_cons (rz_get G rfl in_Li (by decide) wd_67 d_Li_sendGreeting_9) (rz_cons (rz_iconst G d_Li_sendGreeting_12 (by decide)) (rz_cons (rz_iconst G d_Li_sendGreeting_13 (by decide)) (rz_cons (rz_iast G d_Li_sendGreeting_14) (rz_cons (rz_aload_n G d_Li_sendGreeting_15 rfl) (rz_cons (rz_get G rfl in_Li (by decide) wd_67 d_Li_sendGreeting_16) (rz_cons (rz_iconst G d_Li_sendGreeting_19 (by decide)) (rz_cons (rz_iload_n G d_Li_sendGreeting_20 rfl) (rz_cons (rz_iast G d_Li_sendGreeting_21) (rz_cons (rz_aload_n G d_Li_sendGreeting_22 rfl) (rz_cons (rz_get G rfl in_Li (by decide) wd_67 d_Li_sendGreeting_23) (rz_cons (rz_iconst G d_Li_sendGreeting_26 (by decide)) (rz_cons (rz_bipush G d_Li_sendGreeting_27 (by decide)) (rz_cons (rz_iast G d_Li_sendGreeting_29) (rz_cons (rz_aload_n G d_Li_sendGreeting_30 rfl) (rz_cons (rz_iconst G d_Li_sendGreeting_31 (by decide)) (rz_cons (rz_put G rfl in_Li ty_Li tyok_Li nm_Li (by decide) rfl (by decide +kernel) wd_69 d_Li_sendGreeting_32) (rz_cons (rz_vret (npc := 0) d_Li_sendGreeting_35) rz_nil))))))))))))))))))))))))
  | _ + 1 => rz_nil
set_option maxRecDepth 100000 in
set_option maxHeartbeats 4000000 in
theorem bd_Li_sendGreeting : ∀ (Y : Nat → rz_K) (P : rz_P), (∀ b ls st μ, rz_ex P Y (bk_Li_sendGreeting b) ls st μ → Y b ls st μ) → ∀ As μ, C_Li_sendGreeting As μ P → Y 0 (rz_pad 2 (rz_ent As)) [] μ := by
  intro Y P hY As μ hC
  obtain ⟨t, rfl, hC⟩ := hC
  exact hY 0 _ _ _ (And.intro (vi_c (by decide)) (And.intro (vi_c (by decide)) (And.intro (vi_c (by decide)) (And.intro (vi_c (by decide)) hC))))
theorem m_Li_sendGreeting (E : rz_E) : rz_MV SH CL E y_Li_sendGreeting 2 (Cond.code y_Li_sendGreeting c_Li_sendGreeting 2 none :: rz_tbl) ({ frames := 0, cells := 0, slots := 0, locals := 0 }) C_Li_sendGreeting := rz_metV (by decide) rfl (fun X _ G => sd_Li_sendGreeting X G) bd_Li_sendGreeting
theorem cd_Li_sendGreeting : rz_Cd rz_tbl y_Li_sendGreeting c_Li_sendGreeting 2 none (Cond.code y_Li_sendGreeting c_Li_sendGreeting 2 none :: rz_tbl) 1 ({ frames := 0, cells := 0, slots := 0, locals := 0 }) := ⟨rz_good wd_345, ⟨_, rfl⟩, wd_41, by decide +kernel, rfl, rfl⟩
def f_again (n : Nat) (μ : rz_M) : rz_M := rz_up (rz_uf μ 3 (va_cpy (μ 4) (μ 3) 0 0 n)) 1 3 (nI n)
def C_Li_sendAgain : rz_C := fun As μ P => ∃ n : Nat, As = [.ref 1] ∧ μ 1 5 = nI n ∧ n ≤ 36 ∧ P none (f_again n μ)
def bk_Li_sendAgain : Nat → List rz_T := fun b => match b with
  | 0 => [tz_aload 0, tz_get SH 3 4, tz_iconst 0, tz_aload 0, tz_get SH 3 2, tz_iconst 0, tz_aload 0, tz_get SH 3 5, tz_copy SH, tz_aload 0, tz_aload 0, tz_get SH 3 5, tz_put SH 3 3, tz_vret]
  | _ => []
def bp_Li_sendAgain : Nat → Nat := fun b => match b with
  | 0 => 0
  | _ => 0
set_option maxRecDepth 100000 in
set_option maxHeartbeats 4000000 in
theorem sd_Li_sendAgain (X : rz_X) (G : rz_Cx CL X c_Li_sendAgain 1 rz_tbl R_Li ({ frames := 1, cells := 0, slots := 0, locals := 26 })) : ∀ b, rz_SB SH CL X bp_Li_sendAgain (rz_RV SH CL X c_Li_sendAgain) (bk_Li_sendAgain b) (bp_Li_sendAgain b) := fun b => match b with
  | 0 => (rz_cons (rz_aload_n G d_Li_sendAgain_0 rfl) (rz_cons (rz_get G rfl in_Li (by decide) wd_71 d_Li_sendAgain_1) (rz_cons (rz_iconst G d_Li_sendAgain_4 (by decide)) (rz_cons (rz_aload_n G d_Li_sendAgain_5 rfl) (rz_cons (rz_get G rfl in_Li (by decide) wd_67 d_Li_sendAgain_6) (rz_cons (rz_iconst G d_Li_sendAgain_9 (by decide)) (rz_cons (rz_aload_n G d_Li_sendAgain_10 rfl) (rz_cons (rz_get G rfl in_Li (by decide) wd_72 d_Li_sendAgain_11) (rz_cons (rz_copy G wd_555 wd_557 wd_556 wd_49 (by decide +kernel) d_Li_sendAgain_14) (rz_cons (rz_aload_n G d_Li_sendAgain_17 rfl) (rz_cons (rz_aload_n G d_Li_sendAgain_18 rfl) (rz_cons (rz_get G rfl in_Li (by decide) wd_72 d_Li_sendAgain_19) (rz_cons (rz_put G rfl in_Li ty_Li tyok_Li nm_Li (by decide) rfl (by decide +kernel) wd_69 d_Li_sendAgain_22) (rz_cons (rz_vret (npc := 0) d_Li_sendAgain_25) rz_nil))))))))))))))
  | _ + 1 => rz_nil
set_option maxRecDepth 100000 in
set_option maxHeartbeats 4000000 in
theorem bd_Li_sendAgain : ∀ (Y : Nat → rz_K) (P : rz_P), (∀ b ls st μ, rz_ex P Y (bk_Li_sendAgain b) ls st μ → Y b ls st μ) → ∀ As μ, C_Li_sendAgain As μ P → Y 0 (rz_pad 1 (rz_ent As)) [] μ := by
  intro Y P hY As μ hC
  obtain ⟨n, rfl, hn, h36, hC⟩ := hC
  have c1 : (μ 1 5).toNatClampNeg = n := by rw [hn]; exact nI_clamp (by omega)
  refine hY 0 _ _ _ (And.intro ⟨by decide, by decide, ?_, ?_, ?_⟩ ?_)
  · show ¬ μ 1 5 < 0
    rw [hn]; exact nI_pos (by omega)
  · show (0 : Int32).toNatClampNeg + (μ 1 5).toNatClampNeg ≤ 36
    rw [c1]; simpa using h36
  · show (0 : Int32).toNatClampNeg + (μ 1 5).toNatClampNeg ≤ 36
    rw [c1]; simpa using h36
  · unfold f_again at hC
    rw [← hn] at hC
    rw [c1]
    exact hC
theorem m_Li_sendAgain (E : rz_E) : rz_MV SH CL E y_Li_sendAgain 1 (Cond.code y_Li_sendAgain c_Li_sendAgain 1 none :: rz_tbl) ({ frames := 1, cells := 0, slots := 0, locals := 26 }) C_Li_sendAgain := rz_metV (by decide) rfl (fun X _ G => sd_Li_sendAgain X G) bd_Li_sendAgain
theorem cd_Li_sendAgain : rz_Cd rz_tbl y_Li_sendAgain c_Li_sendAgain 1 none (Cond.code y_Li_sendAgain c_Li_sendAgain 1 none :: rz_tbl) 0 ({ frames := 1, cells := 0, slots := 0, locals := 26 }) := ⟨rz_good wd_566, ⟨_, rfl⟩, wd_41, by decide +kernel, rfl, rfl⟩
/-- a reply: 0, pcb, how many, those, and the sum -/
def xr (a : Int32) (d : Nat → Int32) : Nat → Int32
  | 0 => a
  | n + 1 => xr a d n ^^^ d n
def fa (f : Nat → Int32) (x : Int32) (n : Nat) (d : Nat → Int32) : Nat → Int32 := fun j => if j = 0 then 0 else if j = 1 then x else if j = 2 then nI n else if j < 3 + n then d (j - 3) else f j
def fr (f : Nat → Int32) (x : Int32) (n : Nat) (d : Nat → Int32) : Nat → Int32 := upd (fa f x n d) (3 + n) (xr (x ^^^ nI n) d n)
theorem fa_xs {f : Nat → Int32} {x : Int32} {n : Nat} {d : Nat → Int32} : ∀ m, m ≤ n → xs (fa f x n d) (3 + m) = xr (x ^^^ nI n) d m
  | 0, _ => by simp [xs, fa, xr]
  | m + 1, h => by
    rw [show 3 + (m + 1) = (3 + m) + 1 from rfl, xs, fa_xs m (by omega), xr]
    congr 1
    unfold fa
    rw [if_neg (by omega), if_neg (by omega), if_neg (by omega), if_pos (by omega)]
    congr 1
    omega
theorem fa_begin (x : Int32) (μ : rz_M) (d : Nat → Int32) : f_begin x μ = rz_up (rz_uf μ 3 (fa (μ 3) x 0 d)) 1 3 3 := by
  unfold f_begin
  congr 1
  funext k
  by_cases hk : k = 3
  · subst hk
    rw [rz_uf_eq]
    funext j
    by_cases h0 : j = 0
    · subst h0; rfl
    · by_cases h1 : j = 1
      · subst h1; rfl
      · by_cases h2 : j = 2
        · subst h2; rfl
        · rw [rz_up_j h2, rz_up_j h1, rz_up_j h0]
          unfold fa
          rw [if_neg h0, if_neg h1, if_neg h2, if_neg (by omega)]
  · rw [rz_uf_ne hk, rz_up_k hk, rz_up_k hk, rz_up_k hk]
theorem fa_finish (x : Int32) (n : Nat) (d : Nat → Int32) (μ : rz_M) : f_finish (3 + n) (rz_up (rz_uf μ 3 (fa (μ 3) x n d)) 1 3 (nI (3 + n))) = rz_up (rz_uf μ 3 (fr (μ 3) x n d)) 1 3 (nI (n + 4)) := by
  unfold f_finish
  have e : rz_up (rz_uf μ 3 (fa (μ 3) x n d)) 1 3 (nI (3 + n)) 3 = fa (μ 3) x n d := by rw [rz_up_k (by decide), rz_uf_eq]
  rw [e, fa_xs n (Nat.le_refl n), rz_up_comm (k := 1) (k2 := 3) (Or.inl (by decide)), rz_up_same, show 3 + n + 1 = n + 4 by omega]
  congr 1
  funext k
  by_cases hk : k = 3
  · subst hk
    unfold rz_up
    rw [rz_uf_eq, rz_uf_eq, rz_uf_eq]
    rfl
  · rw [rz_up_k hk, rz_uf_ne hk, rz_uf_ne hk]
def f_say (x : Int32) (n : Nat) (d : Nat → Int32) (μ : rz_M) : rz_M := rz_up (rz_uf μ 3 (fr (μ 3) x n d)) 1 3 (nI (n + 4))
def C_Li_sendReady : rz_C := fun As μ P => ∃ e : Int32, As = [.ref 1, .int e] ∧ P none (rz_up (f_say (128 + 16 * μ 1 6 + e) 0 (fun _ => 0) μ) 1 5 0)
def bk_Li_sendReady : Nat → List rz_T := fun b => match b with
  | 0 => [tz_aload 0, tz_sipush 128, tz_bipush 16, tz_aload 0, tz_get SH 3 6, tz_imul, tz_iadd, tz_iload 1, tz_iadd, tz_cv SH 1 3 2 C_Li_begin, tz_aload 0, tz_cv SH 0 3 1 C_Li_finish, tz_aload 0, tz_iconst 0, tz_put SH 3 5, tz_vret]
  | _ => []
def bp_Li_sendReady : Nat → Nat := fun b => match b with
  | 0 => 0
  | _ => 0
set_option maxRecDepth 100000 in
set_option maxHeartbeats 4000000 in
theorem sd_Li_sendReady (X : rz_X) (G : rz_Cx CL X c_Li_sendReady 2 rz_tbl R_Li ({ frames := 2, cells := 0, slots := 0, locals := 43 })) : ∀ b, rz_SB SH CL X bp_Li_sendReady (rz_RV SH CL X c_Li_sendReady) (bk_Li_sendReady b) (bp_Li_sendReady b) := fun b => match b with
  | 0 => (rz_cons (rz_aload_n G d_Li_sendReady_0 rfl) (rz_cons (rz_sipush G d_Li_sendReady_1 (by decide)) (rz_cons (rz_bipush G d_Li_sendReady_4 (by decide)) (rz_cons (rz_aload_n G d_Li_sendReady_6 rfl) (rz_cons (rz_get G rfl in_Li (by decide) wd_74 d_Li_sendReady_7) (rz_cons (rz_imul G d_Li_sendReady_10) (rz_cons (rz_iadd G d_Li_sendReady_11) (rz_cons (rz_iload_n G d_Li_sendReady_12 rfl) (rz_cons (rz_iadd G d_Li_sendReady_13) (rz_cons (rz_cvv G (m_Li_begin X.1) cd_Li_begin wd_410 wd_412 wd_4 rfl rfl (by decide) d_Li_sendReady_14) (rz_cons (rz_aload_n G d_Li_sendReady_17 rfl) (rz_cons (rz_cvv G (m_Li_finish X.1) cd_Li_finish wd_414 wd_416 wd_5 rfl rfl (by decide) d_Li_sendReady_18) (rz_cons (rz_aload_n G d_Li_sendReady_21 rfl) (rz_cons (rz_iconst G d_Li_sendReady_22 (by decide)) (rz_cons (rz_put G rfl in_Li ty_Li tyok_Li nm_Li (by decide) rfl (by decide +kernel) wd_72 d_Li_sendReady_23) (rz_cons (rz_vret (npc := 0) d_Li_sendReady_26) rz_nil))))))))))))))))
  | _ + 1 => rz_nil
set_option maxRecDepth 100000 in
set_option maxHeartbeats 4000000 in
theorem bd_Li_sendReady : ∀ (Y : Nat → rz_K) (P : rz_P), (∀ b ls st μ, rz_ex P Y (bk_Li_sendReady b) ls st μ → Y b ls st μ) → ∀ As μ, C_Li_sendReady As μ P → Y 0 (rz_pad 2 (rz_ent As)) [] μ := by
  intro Y P hY As μ hC
  obtain ⟨e, rfl, hC⟩ := hC
  refine hY 0 _ _ _ ⟨_, rfl, 3, rfl, ?_, by decide, ?_⟩
  · rfl
  · rw [fa_begin _ _ (fun _ => 0)]
    have := fa_finish (128 + 16 * μ 1 6 + e) 0 (fun _ => 0) μ
    unfold f_say at hC
    rw [← this] at hC
    exact hC
theorem m_Li_sendReady (E : rz_E) : rz_MV SH CL E y_Li_sendReady 2 (Cond.code y_Li_sendReady c_Li_sendReady 2 none :: rz_tbl) ({ frames := 2, cells := 0, slots := 0, locals := 43 }) C_Li_sendReady := rz_metV (by decide) rfl (fun X _ G => sd_Li_sendReady X G) bd_Li_sendReady
theorem cd_Li_sendReady : rz_Cd rz_tbl y_Li_sendReady c_Li_sendReady 2 none (Cond.code y_Li_sendReady c_Li_sendReady 2 none :: rz_tbl) 1 ({ frames := 2, cells := 0, slots := 0, locals := 43 }) := ⟨rz_good wd_409, ⟨_, rfl⟩, wd_41, by decide +kernel, rfl, rfl⟩
def C_Li_sendSupervision : rz_C := fun As μ P => ∃ x : Int32, As = [.ref 1, .int x] ∧ P none (f_say x 0 (fun _ => 0) μ)
def bk_Li_sendSupervision : Nat → List rz_T := fun b => match b with
  | 0 => [tz_aload 0, tz_iload 1, tz_cv SH 1 3 2 C_Li_begin, tz_aload 0, tz_cv SH 0 3 1 C_Li_finish, tz_vret]
  | _ => []
def bp_Li_sendSupervision : Nat → Nat := fun b => match b with
  | 0 => 0
  | _ => 0
set_option maxRecDepth 100000 in
set_option maxHeartbeats 4000000 in
theorem sd_Li_sendSupervision (X : rz_X) (G : rz_Cx CL X c_Li_sendSupervision 2 rz_tbl R_Li ({ frames := 2, cells := 0, slots := 0, locals := 43 })) : ∀ b, rz_SB SH CL X bp_Li_sendSupervision (rz_RV SH CL X c_Li_sendSupervision) (bk_Li_sendSupervision b) (bp_Li_sendSupervision b) := fun b => match b with
  | 0 => (rz_cons (rz_aload_n G d_Li_sendSupervision_0 rfl) (rz_cons (rz_iload_n G d_Li_sendSupervision_1 rfl) (rz_cons (rz_cvv G (m_Li_begin X.1) cd_Li_begin wd_410 wd_412 wd_4 rfl rfl (by decide) d_Li_sendSupervision_2) (rz_cons (rz_aload_n G d_Li_sendSupervision_5 rfl) (rz_cons (rz_cvv G (m_Li_finish X.1) cd_Li_finish wd_414 wd_416 wd_5 rfl rfl (by decide) d_Li_sendSupervision_6) (rz_cons (rz_vret (npc := 0) d_Li_sendSupervision_9) rz_nil))))))
  | _ + 1 => rz_nil
set_option maxRecDepth 100000 in
set_option maxHeartbeats 4000000 in
theorem bd_Li_sendSupervision : ∀ (Y : Nat → rz_K) (P : rz_P), (∀ b ls st μ, rz_ex P Y (bk_Li_sendSupervision b) ls st μ → Y b ls st μ) → ∀ As μ, C_Li_sendSupervision As μ P → Y 0 (rz_pad 2 (rz_ent As)) [] μ := by
  intro Y P hY As μ hC
  obtain ⟨x, rfl, hC⟩ := hC
  refine hY 0 _ _ _ ⟨_, rfl, 3, rfl, ?_, by decide, ?_⟩
  · rfl
  · rw [fa_begin _ _ (fun _ => 0)]
    have := fa_finish x 0 (fun _ => 0) μ
    unfold f_say at hC
    rw [← this] at hC
    exact hC
theorem m_Li_sendSupervision (E : rz_E) : rz_MV SH CL E y_Li_sendSupervision 2 (Cond.code y_Li_sendSupervision c_Li_sendSupervision 2 none :: rz_tbl) ({ frames := 2, cells := 0, slots := 0, locals := 43 }) C_Li_sendSupervision := rz_metV (by decide) rfl (fun X _ G => sd_Li_sendSupervision X G) bd_Li_sendSupervision
theorem cd_Li_sendSupervision : rz_Cd rz_tbl y_Li_sendSupervision c_Li_sendSupervision 2 none (Cond.code y_Li_sendSupervision c_Li_sendSupervision 2 none :: rz_tbl) 1 ({ frames := 2, cells := 0, slots := 0, locals := 43 }) := ⟨rz_good wd_584, ⟨_, rfl⟩, wd_41, by decide +kernel, rfl, rfl⟩
theorem fa_append {x y : Int32} {n : Nat} {d : Nat → Int32} {μ : rz_M} (hy : y = d n) : f_append y (3 + n) (rz_up (rz_uf μ 3 (fa (μ 3) x n d)) 1 3 (nI (3 + n))) = rz_up (rz_uf μ 3 (fa (μ 3) x (n + 1) d)) 1 3 (nI (3 + (n + 1))) := by
  unfold f_append
  have e : rz_up (rz_uf μ 3 (fa (μ 3) x n d)) 1 3 (nI (3 + n)) 3 = fa (μ 3) x n d := by rw [rz_up_k (by decide), rz_uf_eq]
  rw [e, rz_up_same, rz_up_comm (k := 1) (Or.inl (by decide)), rz_up_comm (k := 1) (Or.inl (by decide))]
  congr 1
  funext k
  by_cases hk : k = 3
  · subst hk
    rw [rz_uf_eq]
    funext j
    by_cases h2 : j = 2
    · subst h2
      rw [rz_up_at]
      show nI n + 1 = nI (n + 1)
      rw [nI_succ]
    · rw [rz_up_j h2]
      by_cases hj : j = 3 + n
      · subst hj
        rw [rz_up_at, hy]
        unfold fa
        rw [if_neg (by omega), if_neg (by omega), if_neg (by omega), if_pos (by omega)]
        congr 1
        omega
      · rw [rz_up_j hj, rz_uf_eq]
        unfold fa
        by_cases h0 : j = 0
        · rw [if_pos h0, if_pos h0]
        · rw [if_neg h0, if_neg h0]
          by_cases h1 : j = 1
          · rw [if_pos h1, if_pos h1]
          · rw [if_neg h1, if_neg h1, if_neg h2, if_neg h2]
            by_cases h3 : j < 3 + n
            · rw [if_pos h3, if_pos (by omega)]
            · rw [if_neg h3, if_neg (by omega)]
  · rw [rz_up_k hk, rz_up_k hk, rz_uf_ne hk, rz_uf_ne hk]
def C_Li_sendSize : rz_C := fun As μ P => As = [.ref 1] ∧ P none (f_say 225 1 (fun _ => μ 1 8) μ)
def bk_Li_sendSize : Nat → List rz_T := fun b => match b with
  | 0 => [tz_aload 0, tz_sipush 225, tz_cv SH 1 3 2 C_Li_begin, tz_aload 0, tz_aload 0, tz_get SH 3 8, tz_cv SH 1 3 2 C_Li_append, tz_aload 0, tz_cv SH 0 3 1 C_Li_finish, tz_vret]
  | _ => []
def bp_Li_sendSize : Nat → Nat := fun b => match b with
  | 0 => 0
  | _ => 0
set_option maxRecDepth 100000 in
set_option maxHeartbeats 4000000 in
theorem sd_Li_sendSize (X : rz_X) (G : rz_Cx CL X c_Li_sendSize 1 rz_tbl R_Li ({ frames := 2, cells := 0, slots := 0, locals := 43 })) : ∀ b, rz_SB SH CL X bp_Li_sendSize (rz_RV SH CL X c_Li_sendSize) (bk_Li_sendSize b) (bp_Li_sendSize b) := fun b => match b with
  | 0 => (rz_cons (rz_aload_n G d_Li_sendSize_0 rfl) (rz_cons (rz_sipush G d_Li_sendSize_1 (by decide)) (rz_cons (rz_cvv G (m_Li_begin X.1) cd_Li_begin wd_410 wd_412 wd_4 rfl rfl (by decide) d_Li_sendSize_4) (rz_cons (rz_aload_n G d_Li_sendSize_7 rfl) (rz_cons (rz_aload_n G d_Li_sendSize_8 rfl) (rz_cons (rz_get G rfl in_Li (by decide) wd_78 d_Li_sendSize_9) (rz_cons (rz_cvv G (m_Li_append X.1) cd_Li_append wd_551 wd_553 wd_14 rfl rfl (by decide) d_Li_sendSize_12) (rz_cons (rz_aload_n G d_Li_sendSize_15 rfl) (rz_cons (rz_cvv G (m_Li_finish X.1) cd_Li_finish wd_414 wd_416 wd_5 rfl rfl (by decide) d_Li_sendSize_16) (rz_cons (rz_vret (npc := 0) d_Li_sendSize_19) rz_nil))))))))))
  | _ + 1 => rz_nil
set_option maxRecDepth 100000 in
set_option maxHeartbeats 4000000 in
theorem bd_Li_sendSize : ∀ (Y : Nat → rz_K) (P : rz_P), (∀ b ls st μ, rz_ex P Y (bk_Li_sendSize b) ls st μ → Y b ls st μ) → ∀ As μ, C_Li_sendSize As μ P → Y 0 (rz_pad 1 (rz_ent As)) [] μ := by
  intro Y P hY As μ hC
  obtain ⟨rfl, hC⟩ := hC
  refine hY 0 _ _ _ ⟨_, rfl, ?_⟩
  rw [fa_begin _ _ (fun _ => μ 1 8)]
  refine ⟨_, 3, rfl, rfl, by decide, by decide, ?_⟩
  have h1 := fa_append (x := 225) (y := μ 1 8) (n := 0) (d := fun _ => μ 1 8) (μ := μ) rfl
  have h2 := fa_finish 225 1 (fun _ => μ 1 8) μ
  unfold f_say at hC
  rw [← h2] at hC
  refine ⟨4, rfl, ?_, by decide, ?_⟩
  · rfl
  · show P none (f_finish 4 (f_append (μ 1 8) 3 (rz_up (rz_uf μ 3 (fa (μ 3) 225 0 (fun _ => μ 1 8))) 1 3 3)))
    have h3 : f_append (μ 1 8) 3 (rz_up (rz_uf μ 3 (fa (μ 3) 225 0 (fun _ => μ 1 8))) 1 3 3) = rz_up (rz_uf μ 3 (fa (μ 3) 225 1 (fun _ => μ 1 8))) 1 3 (nI 4) := h1
    rw [h3]
    exact hC
theorem m_Li_sendSize (E : rz_E) : rz_MV SH CL E y_Li_sendSize 1 (Cond.code y_Li_sendSize c_Li_sendSize 1 none :: rz_tbl) ({ frames := 2, cells := 0, slots := 0, locals := 43 }) C_Li_sendSize := rz_metV (by decide) rfl (fun X _ G => sd_Li_sendSize X G) bd_Li_sendSize
theorem cd_Li_sendSize : rz_Cd rz_tbl y_Li_sendSize c_Li_sendSize 1 none (Cond.code y_Li_sendSize c_Li_sendSize 1 none :: rz_tbl) 0 ({ frames := 2, cells := 0, slots := 0, locals := 43 }) := ⟨rz_good wd_578, ⟨_, rfl⟩, wd_41, by decide +kernel, rfl, rfl⟩
theorem rz_uf_up {μ : rz_M} {k k2 j : Nat} {f : Nat → Int32} {y : Int32} (h : k2 ≠ k) : rz_up (rz_uf μ k f) k2 j y = rz_uf (rz_up μ k2 j y) k f := by
  funext c
  by_cases hc : c = k2
  · subst hc
    unfold rz_up
    rw [rz_uf_eq, rz_uf_ne h, rz_uf_ne h, rz_uf_eq]
  · by_cases hk : c = k
    · subst hk; rw [rz_up_k hc, rz_uf_eq, rz_uf_eq]
    · rw [rz_up_k hc, rz_uf_ne hk, rz_uf_ne hk, rz_up_k hc]
def v_pcb (μ : rz_M) (n l : Nat) : Int32 := 64 * μ 1 7 + (if nI l ≤ nI n then 0 else 32)
/-- a piece of n OCTETS of the answer, from the b-th on; l are left -/
def f_piece0 (b n l : Nat) (μ : rz_M) : rz_M := rz_up (f_say (v_pcb μ n l) n (fun k => μ 18 (b + k)) (rz_up μ 17 2 (nI (b + n)))) 1 7 (μ 1 7 ^^^ 1)
def f_piece (b n l : Nat) (μ : rz_M) : rz_M := rz_up (rz_uf (f_piece0 b n l μ) 4 (va_cpy (f_piece0 b n l μ 3) (μ 4) 0 0 (n + 4))) 1 5 (nI (n + 4))
def C_Li_sendPiece : rz_C := fun As μ P => ∃ a b z : Nat, As = [.ref 1, .ref 17] ∧ μ 17 1 = nI a ∧ μ 17 2 = nI b ∧ μ 1 8 = nI z ∧ b ≤ a ∧ a ≤ 26 ∧ z ≤ 32 ∧ P none (f_piece b (min z (a - b)) (a - b) μ)
def bk_Li_sendPiece : Nat → List rz_T := fun b => match b with
  | 0 => [tz_aload 0, tz_get SH 3 8, tz_aload 1, tz_cv SH 0 0 1 C_An_left, tz_min, tz_istore 2, tz_aload 0, tz_bipush 64, tz_aload 0, tz_get SH 3 7, tz_imul, tz_iload 2, tz_aload 1, tz_cv SH 0 0 1 C_An_left, tz_icmp_ge 1, tz_bipush 32, tz_goto 2]
  | 1 => [tz_iconst 0, tz_fall 2]
  | 2 => [tz_iadd, tz_cv SH 1 3 2 C_Li_begin, tz_iconst 0, tz_istore 3, tz_fall 3]
  | 3 => [tz_iload 3, tz_iload 2, tz_icmp_ge 4, tz_aload 0, tz_aload 1, tz_cv SH 0 0 1 C_An_next, tz_cv SH 1 3 2 C_Li_append, tz_iinc 3 1, tz_goto 3]
  | 4 => [tz_aload 0, tz_cv SH 0 3 1 C_Li_finish, tz_aload 0, tz_dup, tz_get SH 3 7, tz_iconst 1, tz_ixor, tz_put SH 3 7, tz_aload 0, tz_get SH 3 2, tz_iconst 0, tz_aload 0, tz_get SH 3 4, tz_iconst 0, tz_aload 0, tz_get SH 3 3, tz_copy SH, tz_aload 0, tz_aload 0, tz_get SH 3 3, tz_put SH 3 5, tz_vret]
  | _ => []
def bp_Li_sendPiece : Nat → Nat := fun b => match b with
  | 0 => 0
  | 1 => 33
  | 2 => 34
  | 3 => 40
  | 4 => 59
  | _ => 0
set_option maxRecDepth 100000 in
set_option maxHeartbeats 4000000 in
theorem sd_Li_sendPiece (X : rz_X) (G : rz_Cx CL X c_Li_sendPiece 4 rz_tbl R_Li ({ frames := 2, cells := 0, slots := 0, locals := 43 })) : ∀ b, rz_SB SH CL X bp_Li_sendPiece (rz_RV SH CL X c_Li_sendPiece) (bk_Li_sendPiece b) (bp_Li_sendPiece b) := fun b => match b with
  | 0 => (rz_cons (rz_aload_n G d_Li_sendPiece_0 rfl) (rz_cons (rz_get G rfl in_Li (by decide) wd_78 d_Li_sendPiece_1) (rz_cons (rz_aload_n G d_Li_sendPiece_4 rfl) (rz_cons (rz_cvi G (m_An_left X.1) cd_An_left wd_542 wd_543 wd_544 rfl rfl (by decide) d_Li_sendPiece_5) (rz_cons (rz_min G wd_546 wd_491 wd_48 wd_492 (by decide) d_Li_sendPiece_8) (rz_cons (rz_istore_n G d_Li_sendPiece_11 rfl (by decide)) (rz_cons (rz_aload_n G d_Li_sendPiece_12 rfl) (rz_cons (rz_bipush G d_Li_sendPiece_13 (by decide)) (rz_cons (rz_aload_n G d_Li_sendPiece_15 rfl) (rz_cons (rz_get G rfl in_Li (by decide) wd_76 d_Li_sendPiece_16) (rz_cons (rz_imul G d_Li_sendPiece_19) (rz_cons (rz_iload_n G d_Li_sendPiece_20 rfl) (rz_cons (rz_aload_n G d_Li_sendPiece_21 rfl) (rz_cons (rz_cvi G (m_An_left X.1) cd_An_left wd_542 wd_543 wd_544 rfl rfl (by decide) d_Li_sendPiece_22) (rz_cons (rz_icmp_ge G d_Li_sendPiece_25 (by decide)) (rz_cons (rz_bipush G d_Li_sendPiece_28 (by decide)) (rz_cons (rz_goto (npc := 0) G d_Li_sendPiece_30 (by decide)) rz_nil)))))))))))))))))
  | 1 => (rz_cons (rz_iconst G d_Li_sendPiece_33 (by decide)) (rz_fall rfl))
  | 2 => (rz_cons (rz_iadd G d_Li_sendPiece_34) (rz_cons (rz_cvv G (m_Li_begin X.1) cd_Li_begin wd_410 wd_412 wd_4 rfl rfl (by decide) d_Li_sendPiece_35) (rz_cons (rz_iconst G d_Li_sendPiece_38 (by decide)) (rz_cons (rz_istore_n G d_Li_sendPiece_39 rfl (by decide)) (rz_fall rfl)))))
  | 3 => (rz_cons (rz_iload_n G d_Li_sendPiece_40 rfl) (rz_cons (rz_iload_n G d_Li_sendPiece_41 rfl) (rz_cons (rz_icmp_ge G d_Li_sendPiece_42 (by decide)) (rz_cons (rz_aload_n G d_Li_sendPiece_45 rfl) (rz_cons (rz_aload_n G d_Li_sendPiece_46 rfl) (rz_cons (rz_cvi G (m_An_next X.1) cd_An_next wd_547 wd_548 wd_549 rfl rfl (by decide) d_Li_sendPiece_47) (rz_cons (rz_cvv G (m_Li_append X.1) cd_Li_append wd_551 wd_553 wd_14 rfl rfl (by decide) d_Li_sendPiece_50) (rz_cons (rz_iinc G d_Li_sendPiece_53 (by decide) (by decide)) (rz_cons (rz_goto (npc := 0) G d_Li_sendPiece_56 (by decide)) rz_nil)))))))))
  | 4 => (rz_cons (rz_aload_n G d_Li_sendPiece_59 rfl) (rz_cons (rz_cvv G (m_Li_finish X.1) cd_Li_finish wd_414 wd_416 wd_5 rfl rfl (by decide) d_Li_sendPiece_60) (rz_cons (rz_aload_n G d_Li_sendPiece_63 rfl) (rz_cons (rz_dup G d_Li_sendPiece_64) (rz_cons (rz_get G rfl in_Li (by decide) wd_76 d_Li_sendPiece_65) (rz_cons (rz_iconst G d_Li_sendPiece_68 (by decide)) (rz_cons (rz_ixor G d_Li_sendPiece_69) (rz_cons (rz_put G rfl in_Li ty_Li tyok_Li nm_Li (by decide) rfl (by decide +kernel) wd_76 d_Li_sendPiece_70) (rz_cons (rz_aload_n G d_Li_sendPiece_73 rfl) (rz_cons (rz_get G rfl in_Li (by decide) wd_67 d_Li_sendPiece_74) (rz_cons (rz_iconst G d_Li_sendPiece_77 (by decide)) (rz_cons (rz_aload_n G d_Li_sendPiece_78 rfl) (rz_cons (rz_get G rfl in_Li (by decide) wd_71 d_Li_sendPiece_79) (rz_cons (rz_iconst G d_Li_sendPiece_82 (by decide)) (rz_cons (rz_aload_n G d_Li_sendPiece_83 rfl) (rz_cons (rz_get G rfl in_Li (by decide) wd_69 d_Li_sendPiece_84) (rz_cons (rz_copy G wd_555 wd_557 wd_556 wd_49 (by decide +kernel) d_Li_sendPiece_87) (rz_cons (rz_aload_n G d_Li_sendPiece_90 rfl) (rz_cons (rz_aload_n G d_Li_sendPiece_91 rfl) (rz_cons (rz_get G rfl in_Li (by decide) wd_69 d_Li_sendPiece_92) (rz_cons (rz_put G rfl in_Li ty_Li tyok_Li nm_Li (by decide) rfl (by decide +kernel) wd_72 d_Li_sendPiece_95) (rz_cons (rz_vret (npc := 0) d_Li_sendPiece_98) rz_nil))))))))))))))))))))))
  | _ + 5 => rz_nil
set_option maxRecDepth 100000 in
set_option maxHeartbeats 4000000 in
theorem bd_Li_sendPiece : ∀ (Y : Nat → rz_K) (P : rz_P), (∀ b ls st μ, rz_ex P Y (bk_Li_sendPiece b) ls st μ → Y b ls st μ) → ∀ As μ, C_Li_sendPiece As μ P → Y 0 (rz_pad 4 (rz_ent As)) [] μ := by
  intro Y P hY As μ hC
  obtain ⟨a, b, z, rfl, ha, hb, hz, hba, h26, h32, hC⟩ := hC
  have hl : μ 17 1 - μ 17 2 = nI (a - b) := by rw [ha, hb]; exact pk_sub hba
  obtain ⟨n, hn⟩ : ∃ n, n = min z (a - b) := ⟨_, rfl⟩
  rw [← hn] at hC
  have hmin : (if μ 17 1 - μ 17 2 < μ 1 8 then μ 17 1 - μ 17 2 else μ 1 8) = nI n := by
    rw [hl, hz]
    by_cases h : a - b < z
    · rw [if_pos (nI_lt h (by omega))]; congr 1; omega
    · rw [if_neg (nI_nlt (by omega) (by omega))]; congr 1; omega
  have loop : ∀ d i, i + d = n → Y 3 [some (.ref 1), some (.ref 17), some (.int (nI n)), some (.int (nI i))] [] (rz_up (rz_uf (rz_up μ 17 2 (nI (b + i))) 3 (fa (μ 3) (v_pcb μ n (a - b)) i (fun k => μ 18 (b + k)))) 1 3 (nI (3 + i))) := by
    intro d
    induction d with
    | zero =>
      intro i hi
      have : i = n := by omega
      subst this
      refine hY 3 _ _ _ (And.intro (fun _ => ?_) (fun h => absurd (Int32.le_refl _) h))
      have h1 := fa_finish (v_pcb μ i (a - b)) i (fun k => μ 18 (b + k)) (rz_up μ 17 2 (nI (b + i)))
      rw [rz_up_k (k' := 3) (by decide)] at h1
      refine hY 4 _ _ _ ⟨3 + i, rfl, rfl, by omega, ?_⟩
      rw [h1]
      have e3 : rz_up (rz_uf (rz_up μ 17 2 (nI (b + i))) 3 (fr (μ 3) (v_pcb μ i (a - b)) i fun k => μ 18 (b + k))) 1 3 (nI (i + 4)) = f_say (v_pcb μ i (a - b)) i (fun k => μ 18 (b + k)) (rz_up μ 17 2 (nI (b + i))) := rfl
      have ep : rz_up (f_say (v_pcb μ i (a - b)) i (fun k => μ 18 (b + k)) (rz_up μ 17 2 (nI (b + i)))) 1 7 (μ 1 7 ^^^ 1) = f_piece0 b i (a - b) μ := rfl
      have c4 : (nI (i + 4)).toNatClampNeg = i + 4 := nI_clamp (by omega)
      refine And.intro ⟨by decide, by decide, ?_, ?_, ?_⟩ ?_
      · show ¬ nI (i + 4) < 0
        exact nI_pos (by omega)
      · show (0 : Int32).toNatClampNeg + (nI (i + 4)).toNatClampNeg ≤ 36
        rw [c4, sb_cl0]; omega
      · show (0 : Int32).toNatClampNeg + (nI (i + 4)).toNatClampNeg ≤ 36
        rw [c4, sb_cl0]; omega
      · have hC' := hC
        unfold f_piece at hC'
        show P none (rz_up (rz_uf (f_piece0 b i (a - b) μ) 4 (va_cpy (f_piece0 b i (a - b) μ 3) (μ 4) (0 : Int32).toNatClampNeg (0 : Int32).toNatClampNeg (nI (i + 4)).toNatClampNeg)) 1 5 (nI (i + 4)))
        rw [c4, sb_cl0]
        exact hC'
    | succ d ih =>
      intro i hi
      have hbi : (nI (b + i)).toNatClampNeg = b + i := nI_clamp (by omega)
      refine hY 3 _ _ _ (And.intro (fun h => absurd h (nI_ge (by omega) (by omega))) (fun _ => And.intro rfl ⟨?_, ?_, ?_, ?_⟩))
      · exact nI_pos' (n := b + i) (by omega)
      · exact nI_lt (a := b + i) (b := 26) (by omega) (by omega)
      · show nI (b + i) < μ 17 1
        rw [ha]; exact nI_lt (by omega) (by omega)
      · refine ⟨_, 3 + i, rfl, rfl, by omega, by omega, ?_⟩
        have h1 := fa_append (x := v_pcb μ n (a - b)) (y := μ 18 (b + i)) (n := i) (d := fun k => μ 18 (b + k)) (μ := rz_up μ 17 2 (nI (b + (i + 1)))) rfl
        rw [rz_up_k (k' := 3) (by decide)] at h1
        have e1 : rz_up (rz_up (rz_uf (rz_up μ 17 2 (nI (b + i))) 3 (fa (μ 3) (v_pcb μ n (a - b)) i fun k => μ 18 (b + k))) 1 3 (nI (3 + i))) 17 2 (nI (b + i) + 1) = rz_up (rz_uf (rz_up μ 17 2 (nI (b + (i + 1)))) 3 (fa (μ 3) (v_pcb μ n (a - b)) i fun k => μ 18 (b + k))) 1 3 (nI (3 + i)) := by
          rw [rz_up_comm (k := 1) (k2 := 17) (Or.inl (by decide)), rz_uf_up (by decide), rz_up_same, show b + (i + 1) = (b + i) + 1 from rfl, nI_succ (b + i)]
        have := ih (i + 1) (by omega)
        rw [← h1, nI_succ] at this
        show Y 3 [some (.ref 1), some (.ref 17), some (.int (nI n)), some (.int (nI i + 1))] [] (f_append (μ 18 (nI (b + i)).toNatClampNeg) (3 + i) (rz_up (rz_up (rz_uf (rz_up μ 17 2 (nI (b + i))) 3 (fa (μ 3) (v_pcb μ n (a - b)) i fun k => μ 18 (b + k))) 1 3 (nI (3 + i))) 17 2 (nI (b + i) + 1)))
        rw [e1, hbi]
        exact this
  have start : ∀ q : Int32, q = (if nI (a - b) ≤ nI n then 0 else 32) → Y 2 [some (.ref 1), some (.ref 17), some (.int (nI n)), none] [.int q, .int (64 * μ 1 7), .ref 1] μ := by
    intro q hq
    subst hq
    refine hY 2 _ _ _ ⟨_, rfl, ?_⟩
    have h0 := loop n 0 (by omega)
    have e0 : rz_up μ 17 2 (nI (b + 0)) = μ := rz_up_id hb
    rw [e0] at h0
    show Y 3 [some (.ref 1), some (.ref 17), some (.int (nI n)), some (.int 0)] [] (f_begin (v_pcb μ n (a - b)) μ)
    rw [fa_begin _ _ (fun k => μ 18 (b + k))]
    exact h0
  refine hY 0 _ _ _ (And.intro rfl (And.intro rfl ?_))
  show (μ 17 1 - μ 17 2 ≤ (if μ 17 1 - μ 17 2 < μ 1 8 then μ 17 1 - μ 17 2 else μ 1 8) → Y 1 [some (.ref 1), some (.ref 17), some (.int (if μ 17 1 - μ 17 2 < μ 1 8 then μ 17 1 - μ 17 2 else μ 1 8)), none] [.int (64 * μ 1 7), .ref 1] μ) ∧ (¬ μ 17 1 - μ 17 2 ≤ (if μ 17 1 - μ 17 2 < μ 1 8 then μ 17 1 - μ 17 2 else μ 1 8) → Y 2 [some (.ref 1), some (.ref 17), some (.int (if μ 17 1 - μ 17 2 < μ 1 8 then μ 17 1 - μ 17 2 else μ 1 8)), none] [.int 32, .int (64 * μ 1 7), .ref 1] μ)
  rw [hmin, hl]
  refine And.intro (fun h => hY 1 _ _ _ (start 0 (if_pos h).symm)) (fun h => start 32 (if_neg h).symm)
theorem m_Li_sendPiece (E : rz_E) : rz_MV SH CL E y_Li_sendPiece 4 (Cond.code y_Li_sendPiece c_Li_sendPiece 4 none :: rz_tbl) ({ frames := 2, cells := 0, slots := 0, locals := 43 }) C_Li_sendPiece := rz_metV (by decide) rfl (fun X _ G => sd_Li_sendPiece X G) bd_Li_sendPiece
theorem cd_Li_sendPiece : rz_Cd rz_tbl y_Li_sendPiece c_Li_sendPiece 4 none (Cond.code y_Li_sendPiece c_Li_sendPiece 4 none :: rz_tbl) 1 ({ frames := 2, cells := 0, slots := 0, locals := 43 }) := ⟨rz_good wd_541, ⟨_, rfl⟩, wd_41, by decide +kernel, rfl, rfl⟩
end
section
/-! what the steps leave as it was -/
theorem f_coL_ne : ∀ (d i : Nat) (μ : rz_M) {k : Nat}, k ≠ 6 → k ≠ 13 → (f_coL d i μ).2 k = μ k
  | 0, i, μ, k, h6, h13 => by
    unfold f_coL
    split
    · exact f_w_ne h6
    · show rz_up (f_w μ) 6 5 0 k = μ k
      rw [rz_up_k h6, f_w_ne h6]
  | d + 1, i, μ, k, h6, h13 => by
    unfold f_coL
    split
    · exact f_w_ne h6
    · rw [f_coL_ne d (i + 1) _ h6 h13, f_put_ne h13, f_w_ne h6]
theorem f_nt_ne {f p : Int32} {n : Nat} {μ : rz_M} {k : Nat} (h6 : k ≠ 6) (h14 : k ≠ 14) : f_nt f p n μ k = μ k := by
  unfold f_nt
  rw [rz_up_k h6, rz_uf_ne h14, rz_up_k h6, rz_up_k h6, rz_up_k h6]
theorem f_wN_ne {f p : Int32} {n : Nat} {μ : rz_M} {k : Nat} (h6 : k ≠ 6) (h14 : k ≠ 14) : (f_wN f p n μ).2 k = μ k := by
  unfold f_wN
  split
  · exact f_wn_ne _ _ h6
  · show f_nt f p n _ k = μ k
    rw [f_nt_ne h6 h14, f_wn_ne _ _ h6]
theorem f_chg_ne {n : Nat} {μ : rz_M} {k : Nat} (h6 : k ≠ 6) (h13 : k ≠ 13) (h14 : k ≠ 14) : (f_chg n μ).2 k = μ k := by
  unfold f_chg f_chg2
  repeat' split
  all_goals first | rfl | (show (f_wN _ _ _ _).2 k = μ k; exact f_wN_ne h6 h14) | (show (f_coL _ _ _).2 k = μ k; rw [f_coL_ne _ _ _ h6 h13, f_wN_ne h6 h14])
theorem f_cmp_ne {x : Int32} {μ : rz_M} {k : Nat} (h5 : k ≠ 5) (h6 : k ≠ 6) : (f_cmp x μ).2 k = μ k := by
  unfold f_cmp f_cmp1
  repeat' split
  all_goals simp only [rz_up_k h5, rz_up_k h6, f_w_ne h6]
theorem f_tell_ne {μ : rz_M} {k : Nat} (h5 : k ≠ 5) (h6 : k ≠ 6) : (f_tell μ).2 k = μ k := by
  unfold f_tell
  repeat' split
  all_goals first | rfl | exact f_cmp_ne h5 h6
theorem f_renew_ne {μ : rz_M} {k : Nat} (h6 : k ≠ 6) : (f_renew μ).2 k = μ k := by
  unfold f_renew
  repeat' split
  all_goals simp only [rz_up_k h6, f_w_ne h6]
theorem f_fi2_ne {x : Int32} {μ : rz_M} {k : Nat} (h5 : k ≠ 5) : (f_fi2 x μ).2 k = μ k := by
  unfold f_fi2
  repeat' split
  all_goals simp only [rz_up_k h5]
theorem f_fi_ne {μ : rz_M} {k : Nat} (h5 : k ≠ 5) : (f_fi μ).2 k = μ k := by
  unfold f_fi
  repeat' split
  all_goals first | rfl | exact f_fi2_ne h5
theorem f_rd_ne {n b : Nat} {μ : rz_M} {k : Nat} (h17 : k ≠ 17) (h18 : k ≠ 18) : f_rd n b μ k = μ k := by
  unfold f_rd
  rw [rz_up_k h17, rz_uf_ne h18]
theorem f_read_ne {μ : rz_M} {k : Nat} (h17 : k ≠ 17) (h18 : k ≠ 18) : (f_read μ).2 k = μ k := by
  unfold f_read
  repeat' split
  all_goals first | rfl | exact f_rd_ne h17 h18
theorem f_parse_ne {μ : rz_M} {k : Nat} (h15 : k ≠ 15) : f_parse μ k = μ k := by
  unfold f_parse
  rw [rz_up_k h15, rz_up_k h15]
/-- a COMMAND leaves all but the worker's, the memory's, the files' OCTETS, note, command, answer -/
theorem f_perf_ne {μ : rz_M} {k : Nat} (h5 : k ≠ 5) (h6 : k ≠ 6) (h13 : k ≠ 13) (h14 : k ≠ 14) (h15 : k ≠ 15) (h17 : k ≠ 17) (h18 : k ≠ 18) : (f_perf μ).2 k = μ k := by
  unfold f_perf f_ins
  repeat' split
  all_goals first
    | exact f_parse_ne h15
    | (rw [f_tell_ne h5 h6]; exact f_parse_ne h15)
    | (rw [f_renew_ne h6]; exact f_parse_ne h15)
    | (rw [f_fi_ne h5]; exact f_parse_ne h15)
    | (rw [f_read_ne h17 h18]; exact f_parse_ne h15)
    | (rw [f_chg_ne h6 h13 h14]; exact f_parse_ne h15)
theorem v_n_le {μ : rz_M} {p : Int32} {a : Int32} (hz : ∀ i, i < 8 → ∃ z : Nat, z ≤ 24 ∧ μ 10 i = nI z) (h8 : μ 7 6 ≤ 8) (hp : p = v_plc μ) (h : v_test p a μ = 36864) : v_n μ ≤ 24 := by
  subst hp
  obtain ⟨k0, k1, k2, k3⟩ := v_test_ok h
  obtain ⟨f, hf⟩ := nI_of k0
  obtain ⟨q, hq⟩ := nI_of k2
  have hf8 : f < 8 := by
    have : nI f < 8 := by rw [← hf.2]; exact Int32.lt_of_lt_of_le (Int32.not_le.mp k1) h8
    exact (nI_ltI (b := 8) hf.1 (by omega)).mp this
  obtain ⟨z, hz24, hzz⟩ := hz f hf8
  have cf : (μ 5 5).toNatClampNeg = f := nc hf.2 hf.1
  have hqz : q < z := by
    rw [cf, hzz, hq.2] at k3
    rcases Nat.lt_or_ge q z with r | r
    · exact r
    · exact absurd (nI_le r hq.1) k3
  have hth : v_th μ = nI (z - q) := by unfold v_th; rw [cf, hzz, hq.2]; exact pk_sub (by omega)
  unfold v_n
  rw [hth, nI_clamp (by omega)]
  omega
theorem f_read_17 {μ : rz_M} (hz : ∀ i, i < 8 → ∃ z : Nat, z ≤ 24 ∧ μ 10 i = nI z) (h8 : μ 7 6 ≤ 8) (h17 : μ 17 1 = 0) : (∃ a : Nat, a ≤ 24 ∧ (f_read μ).2 17 1 = nI a) ∧ (f_read μ).2 17 2 = μ 17 2 := by
  have h0 : μ 17 1 = nI 0 := h17
  unfold f_read
  split
  · exact ⟨⟨0, by omega, h0⟩, rfl⟩
  · split
    · split
      · next ht =>
        have hn := v_n_le hz h8 rfl ht
        split
        · exact ⟨⟨_, hn, rfl⟩, rfl⟩
        · exact ⟨⟨_, hn, rfl⟩, rfl⟩
      · exact ⟨⟨0, by omega, h0⟩, rfl⟩
    · exact ⟨⟨0, by omega, h0⟩, rfl⟩
theorem f_perf_17 {μ : rz_M} (hI : IW μ) : (∃ a : Nat, a ≤ 24 ∧ (f_perf μ).2 17 1 = nI a) ∧ (f_perf μ).2 17 2 = μ 17 2 := by
  obtain ⟨⟨c, hc, c1, c8⟩, hz, h40, h17, ho⟩ := hI
  have h8 : μ 7 6 ≤ 8 := by rw [hc]; exact nI_le (b := 8) c8 (by omega)
  have e : ∀ ν : rz_M, ν 17 = μ 17 → (∃ a : Nat, a ≤ 24 ∧ ν 17 1 = nI a) ∧ ν 17 2 = μ 17 2 := by
    intro ν hν
    rw [hν]
    exact ⟨⟨0, by omega, h17⟩, rfl⟩
  have ep : f_parse μ 17 = μ 17 := f_parse_ne (by decide)
  unfold f_perf f_ins
  split
  · split
    · split
      · exact e _ ((f_tell_ne (by decide) (by decide)).trans ep)
      · split
        · exact e _ ((f_renew_ne (by decide)).trans ep)
        · split
          · exact e _ ((f_fi_ne (by decide)).trans ep)
          · split
            · exact f_read_17 (μ := f_parse μ) hz h8 h17
            · split
              · exact e _ ((f_chg_ne (by decide) (by decide) (by decide)).trans ep)
              · exact e _ ep
    · exact e _ ep
  · exact e _ ep
def OV (x : Int32) : Prop := ∃ o : Nat, o ≤ 255 ∧ x = nI o
theorem OCT_upd {f : Nat → Int32} (h : OCT f) {x : Int32} (hx : OV x) (i : Nat) : OCT (upd f i x) := by
  intro j
  by_cases hj : j = i
  · subst hj; rw [pk_us]; exact hx
  · rw [pk_un hj]; exact h j
theorem OCT_up {μ : rz_M} {k : Nat} (h : OCT (μ k)) {x : Int32} (hx : OV x) (i : Nat) : OCT (rz_up μ k i x k) := by
  unfold rz_up
  rw [rz_uf_eq]
  exact OCT_upd h hx i
/-- the COMMAND that gathers -/
def JC (μ : rz_M) : Prop := (∃ m : Nat, m ≤ 40 ∧ μ 15 1 = nI m) ∧ OCT (μ 16)
theorem f_Co_add_ne {x : Int32} {μ : rz_M} {k : Nat} (h15 : k ≠ 15) (h16 : k ≠ 16) : f_Co_add x μ k = μ k := by
  unfold f_Co_add
  split
  · exact rz_up_k h15
  · rw [rz_up_k h16, rz_up_k h15]
theorem JC_add {x : Int32} {μ : rz_M} (h : JC μ) (hx : OV x) : JC (f_Co_add x μ) := by
  obtain ⟨⟨m, hm, e⟩, ho⟩ := h
  unfold f_Co_add
  split
  · exact ⟨⟨m, hm, e⟩, ho⟩
  · next q =>
    have hlt : m < 40 := by
      rw [e] at q
      rcases Nat.lt_or_ge m 40 with r | r
      · exact r
      · exact absurd (nI_le (a := 40) r (by omega)) q
    refine ⟨⟨m + 1, by omega, ?_⟩, OCT_up ho hx _⟩
    rw [rz_up_k (by decide), rz_up_at, e, nI_succ]
def f_adds : Nat → Nat → rz_M → rz_M
  | 0, _, μ => μ
  | d + 1, i, μ => f_adds d (i + 1) (f_Co_add (μ 2 (3 + i)) μ)
theorem f_adds_ne : ∀ (d i : Nat) (μ : rz_M) {k : Nat}, k ≠ 15 → k ≠ 16 → f_adds d i μ k = μ k
  | 0, i, μ, k, _, _ => rfl
  | d + 1, i, μ, k, h15, h16 => by
    unfold f_adds
    rw [f_adds_ne d (i + 1) _ h15 h16, f_Co_add_ne h15 h16]
theorem JC_adds : ∀ (d i : Nat) (μ : rz_M), JC μ → OCT (μ 2) → JC (f_adds d i μ)
  | 0, i, μ, h, _ => h
  | d + 1, i, μ, h, ho => by
    unfold f_adds
    refine JC_adds d (i + 1) _ (JC_add h (ho _)) ?_
    rw [f_Co_add_ne (by decide) (by decide)]
    exact ho
def f_pd (μ : rz_M) : rz_M := f_wreset (f_lreset (rz_up μ 0 3 0))
def C_Ca_powerDown : rz_C := fun As μ P => As = [.ref 0] ∧ P none (f_pd μ)
def bk_Ca_powerDown : Nat → List rz_T := fun b => match b with
  | 0 => [tz_aload 0, tz_iconst 0, tz_putz SH 6 3, tz_aload 0, tz_get SH 6 0, tz_cv SH 0 3 1 C_Li_reset, tz_aload 0, tz_get SH 6 1, tz_cv SH 0 5 1 C_Wo_reset, tz_vret]
  | _ => []
def bp_Ca_powerDown : Nat → Nat := fun b => match b with
  | 0 => 0
  | _ => 0
set_option maxRecDepth 100000 in
set_option maxHeartbeats 4000000 in
theorem sd_Ca_powerDown (X : rz_X) (G : rz_Cx CL X c_Ca_powerDown 1 rz_tbl R_Ca ({ frames := 3, cells := 0, slots := 0, locals := 60 })) : ∀ b, rz_SB SH CL X bp_Ca_powerDown (rz_RV SH CL X c_Ca_powerDown) (bk_Ca_powerDown b) (bp_Ca_powerDown b) := fun b => match b with
  | 0 => (rz_cons (rz_aload_n G d_Ca_powerDown_0 rfl) (rz_cons (rz_iconst G d_Ca_powerDown_1 (by decide)) (rz_cons (rz_putz G rfl in_Ca ty_Ca tyok_Ca nm_Ca (by decide) rfl (by decide +kernel) wd_261 d_Ca_powerDown_2) (rz_cons (rz_aload_n G d_Ca_powerDown_5 rfl) (rz_cons (rz_get G rfl in_Ca (by decide) wd_258 d_Ca_powerDown_6) (rz_cons (rz_cvv G (m_Li_reset X.1) cd_Li_reset wd_306 wd_307 wd_308 rfl rfl (by decide) d_Ca_powerDown_9) (rz_cons (rz_aload_n G d_Ca_powerDown_12 rfl) (rz_cons (rz_get G rfl in_Ca (by decide) wd_259 d_Ca_powerDown_13) (rz_cons (rz_cvv G (m_Wo_reset X.1) cd_Wo_reset wd_314 wd_315 wd_316 rfl rfl (by decide) d_Ca_powerDown_16) (rz_cons (rz_vret (npc := 0) d_Ca_powerDown_19) rz_nil))))))))))
  | _ + 1 => rz_nil
set_option maxRecDepth 100000 in
set_option maxHeartbeats 4000000 in
theorem bd_Ca_powerDown : ∀ (Y : Nat → rz_K) (P : rz_P), (∀ b ls st μ, rz_ex P Y (bk_Ca_powerDown b) ls st μ → Y b ls st μ) → ∀ As μ, C_Ca_powerDown As μ P → Y 0 (rz_pad 1 (rz_ent As)) [] μ := by
  intro Y P hY As μ hC
  obtain ⟨rfl, hC⟩ := hC
  exact hY 0 _ _ _ (And.intro (Or.inl rfl) (And.intro rfl (And.intro rfl hC)))
theorem m_Ca_powerDown (E : rz_E) : rz_MV SH CL E y_Ca_powerDown 1 (Cond.code y_Ca_powerDown c_Ca_powerDown 1 none :: rz_tbl) ({ frames := 3, cells := 0, slots := 0, locals := 60 }) C_Ca_powerDown := rz_metV (by decide) rfl (fun X _ G => sd_Ca_powerDown X G) bd_Ca_powerDown
theorem cd_Ca_powerDown : rz_Cd rz_tbl y_Ca_powerDown c_Ca_powerDown 1 none (Cond.code y_Ca_powerDown c_Ca_powerDown 1 none :: rz_tbl) 0 ({ frames := 3, cells := 0, slots := 0, locals := 60 }) := ⟨rz_good wd_305, ⟨_, rfl⟩, wd_40, by decide +kernel, rfl, rfl⟩
def v_oct (w : Int64) (k : Int32) : Int32 := ((w.toUInt64 >>> ((8 * k).toInt64.toUInt64 &&& Int64.toUInt64 63)).toInt64).toInt32 &&& 255
def C_Ca_octetOf : rz_C := fun As μ P => ∃ (w : Int64) (k : Int32), As = [.long w, .int k] ∧ P (some (.int (v_oct w k))) μ
def bk_Ca_octetOf : Nat → List rz_T := fun b => match b with
  | 0 => [tz_lload 0, tz_bipush 8, tz_iload 2, tz_imul, tz_lushr, tz_l2i, tz_sipush 255, tz_iand, tz_iret]
  | _ => []
def bp_Ca_octetOf : Nat → Nat := fun b => match b with
  | 0 => 0
  | _ => 0
set_option maxRecDepth 100000 in
set_option maxHeartbeats 4000000 in
theorem sd_Ca_octetOf (X : rz_X) (G : rz_Cx CL X c_Ca_octetOf 3 rz_tbl R_Ca ({ frames := 0, cells := 0, slots := 0, locals := 0 })) : ∀ b, rz_SB SH CL X bp_Ca_octetOf (rz_RI SH CL X c_Ca_octetOf (fun v => narrow .int (.int v) = .int v)) (bk_Ca_octetOf b) (bp_Ca_octetOf b) := fun b => match b with
  | 0 => (rz_cons (rz_lload_n G d_Ca_octetOf_0 rfl) (rz_cons (rz_bipush G d_Ca_octetOf_1 (by decide)) (rz_cons (rz_iload_n G d_Ca_octetOf_3 rfl) (rz_cons (rz_imul G d_Ca_octetOf_4) (rz_cons (rz_lushr G d_Ca_octetOf_5) (rz_cons (rz_l2i G d_Ca_octetOf_6) (rz_cons (rz_sipush G d_Ca_octetOf_7 (by decide)) (rz_cons (rz_iand G d_Ca_octetOf_10) (rz_cons (rz_iret (npc := 0) (fun _ => rfl) d_Ca_octetOf_11) rz_nil)))))))))
  | _ + 1 => rz_nil
set_option maxRecDepth 100000 in
set_option maxHeartbeats 4000000 in
theorem bd_Ca_octetOf : ∀ (Y : Nat → rz_K) (P : rz_P), (∀ b ls st μ, rz_ex P Y (bk_Ca_octetOf b) ls st μ → Y b ls st μ) → ∀ As μ, C_Ca_octetOf As μ P → Y 0 (rz_pad 3 (rz_ent As)) [] μ := by
  intro Y P hY As μ hC
  obtain ⟨w, k, rfl, hC⟩ := hC
  exact hY 0 _ _ _ hC
theorem m_Ca_octetOf (E : rz_E) : rz_MI SH CL E y_Ca_octetOf 3 (Cond.code y_Ca_octetOf c_Ca_octetOf 3 (some .int) :: rz_tbl) ({ frames := 0, cells := 0, slots := 0, locals := 0 }) C_Ca_octetOf := rz_metI (by decide) rfl (fun X _ G => sd_Ca_octetOf X G) bd_Ca_octetOf
theorem cd_Ca_octetOf : rz_Cd rz_tbl y_Ca_octetOf c_Ca_octetOf 3 (some .int) (Cond.code y_Ca_octetOf c_Ca_octetOf 3 (some .int) :: rz_tbl) 2 ({ frames := 0, cells := 0, slots := 0, locals := 0 }) := ⟨rz_good wd_356, ⟨_, rfl⟩, wd_40, by decide +kernel, rfl, rfl⟩
def C_Ca_tear : rz_C := fun As μ P => ∃ n : Int32, As = [.ref 0, .int n] ∧ PQ P (if n < -1 then (-1, μ) else if n ≤ 200 then (μ 6 10, rz_up μ 6 10 n) else (-1, μ))
def bk_Ca_tear : Nat → List rz_T := fun b => match b with
  | 0 => [tz_iload 1, tz_iconst (-1), tz_icmp_lt 1, tz_iload 1, tz_sipush 200, tz_icmp_le 2, tz_fall 1]
  | 1 => [tz_iconst (-1), tz_iret]
  | 2 => [tz_aload 0, tz_get SH 6 2, tz_get SH 4 10, tz_istore 2, tz_aload 0, tz_get SH 6 2, tz_iload 1, tz_put SH 4 10, tz_iload 2, tz_iret]
  | _ => []
def bp_Ca_tear : Nat → Nat := fun b => match b with
  | 0 => 0
  | 1 => 12
  | 2 => 14
  | _ => 0
set_option maxRecDepth 100000 in
set_option maxHeartbeats 4000000 in
theorem sd_Ca_tear (X : rz_X) (G : rz_Cx CL X c_Ca_tear 3 rz_tbl R_Ca ({ frames := 0, cells := 0, slots := 0, locals := 0 })) : ∀ b, rz_SB SH CL X bp_Ca_tear (rz_RI SH CL X c_Ca_tear (fun v => narrow .int (.int v) = .int v)) (bk_Ca_tear b) (bp_Ca_tear b) := fun b => match b with
  | 0 => (rz_cons (rz_iload_n G d_Ca_tear_0 rfl) (rz_cons (rz_iconst G d_Ca_tear_1 (by decide)) (rz_cons (rz_icmp_lt G d_Ca_tear_2 (by decide)) (rz_cons (rz_iload_n G d_Ca_tear_5 rfl) (rz_cons (rz_sipush G d_Ca_tear_6 (by decide)) (rz_cons (rz_icmp_le G d_Ca_tear_9 (by decide)) (rz_fall rfl)))))))
  | 1 => (rz_cons (rz_iconst G d_Ca_tear_12 (by decide)) (rz_cons (rz_iret (npc := 0) (fun _ => rfl) d_Ca_tear_13) rz_nil))
  | 2 => (rz_cons (rz_aload_n G d_Ca_tear_14 rfl) (rz_cons (rz_get G rfl in_Ca (by decide) wd_260 d_Ca_tear_15) (rz_cons (rz_getN G rfl in_Me (by decide) wn_24 d_Ca_tear_18) (rz_cons (rz_istore_n G d_Ca_tear_21 rfl (by decide)) (rz_cons (rz_aload_n G d_Ca_tear_22 rfl) (rz_cons (rz_get G rfl in_Ca (by decide) wd_260 d_Ca_tear_23) (rz_cons (rz_iload_n G d_Ca_tear_26 rfl) (rz_cons (rz_putN G rfl in_Me ty_Me tyok_Me nm_Me (by decide) rfl (by decide +kernel) wn_24 d_Ca_tear_27) (rz_cons (rz_iload_n G d_Ca_tear_30 rfl) (rz_cons (rz_iret (npc := 0) (fun _ => rfl) d_Ca_tear_31) rz_nil))))))))))
  | _ + 3 => rz_nil
set_option maxRecDepth 100000 in
set_option maxHeartbeats 4000000 in
theorem bd_Ca_tear : ∀ (Y : Nat → rz_K) (P : rz_P), (∀ b ls st μ, rz_ex P Y (bk_Ca_tear b) ls st μ → Y b ls st μ) → ∀ As μ, C_Ca_tear As μ P → Y 0 (rz_pad 3 (rz_ent As)) [] μ := by
  intro Y P hY As μ hC
  obtain ⟨n, rfl, hC⟩ := hC
  refine hY 0 _ _ _ (And.intro (fun h => hY 1 _ _ _ (rzT (PQ P) h hC)) (fun h => ?_))
  have hC := rzF (PQ P) h hC
  exact And.intro (fun h => hY 2 _ _ _ (rzT (PQ P) h hC)) (fun h => hY 1 _ _ _ (rzF (PQ P) h hC))
theorem m_Ca_tear (E : rz_E) : rz_MI SH CL E y_Ca_tear 3 (Cond.code y_Ca_tear c_Ca_tear 3 (some .int) :: rz_tbl) ({ frames := 0, cells := 0, slots := 0, locals := 0 }) C_Ca_tear := rz_metI (by decide) rfl (fun X _ G => sd_Ca_tear X G) bd_Ca_tear
theorem cd_Ca_tear : rz_Cd rz_tbl y_Ca_tear c_Ca_tear 3 (some .int) (Cond.code y_Ca_tear c_Ca_tear 3 (some .int) :: rz_tbl) 1 ({ frames := 0, cells := 0, slots := 0, locals := 0 }) := ⟨rz_good wd_297, ⟨_, rfl⟩, wd_40, by decide +kernel, rfl, rfl⟩
def C_Ca_off : rz_C := fun As μ P => As = [.ref 0] ∧ PQ P (if μ 0 3 = 0 then 0 else 1, f_pd μ)
def bk_Ca_off : Nat → List rz_T := fun b => match b with
  | 0 => [tz_aload 0, tz_get SH 6 3, tz_if_eq 1, tz_iconst 1, tz_goto 2]
  | 1 => [tz_iconst 0, tz_fall 2]
  | 2 => [tz_istore 1, tz_aload 0, tz_cv SH 0 6 1 C_Ca_powerDown, tz_iload 1, tz_iret]
  | _ => []
def bp_Ca_off : Nat → Nat := fun b => match b with
  | 0 => 0
  | 1 => 11
  | 2 => 12
  | _ => 0
set_option maxRecDepth 100000 in
set_option maxHeartbeats 4000000 in
theorem sd_Ca_off (X : rz_X) (G : rz_Cx CL X c_Ca_off 2 rz_tbl R_Ca ({ frames := 4, cells := 0, slots := 0, locals := 80 })) : ∀ b, rz_SB SH CL X bp_Ca_off (rz_RI SH CL X c_Ca_off (fun v => narrow .int (.int v) = .int v)) (bk_Ca_off b) (bp_Ca_off b) := fun b => match b with
  | 0 => (rz_cons (rz_aload_n G d_Ca_off_0 rfl) (rz_cons (rz_get G rfl in_Ca (by decide) wd_261 d_Ca_off_1) (rz_cons (rz_if_eq G d_Ca_off_4 (by decide)) (rz_cons (rz_iconst G d_Ca_off_7 (by decide)) (rz_cons (rz_goto (npc := 0) G d_Ca_off_8 (by decide)) rz_nil)))))
  | 1 => (rz_cons (rz_iconst G d_Ca_off_11 (by decide)) (rz_fall rfl))
  | 2 => (rz_cons (rz_istore_n G d_Ca_off_12 rfl (by decide)) (rz_cons (rz_aload_n G d_Ca_off_13 rfl) (rz_cons (rz_cvv G (m_Ca_powerDown X.1) cd_Ca_powerDown wd_302 wd_304 wd_0 rfl rfl (by decide) d_Ca_off_14) (rz_cons (rz_iload_n G d_Ca_off_17 rfl) (rz_cons (rz_iret (npc := 0) (fun _ => rfl) d_Ca_off_18) rz_nil)))))
  | _ + 3 => rz_nil
set_option maxRecDepth 100000 in
set_option maxHeartbeats 4000000 in
theorem bd_Ca_off : ∀ (Y : Nat → rz_K) (P : rz_P), (∀ b ls st μ, rz_ex P Y (bk_Ca_off b) ls st μ → Y b ls st μ) → ∀ As μ, C_Ca_off As μ P → Y 0 (rz_pad 2 (rz_ent As)) [] μ := by
  intro Y P hY As μ hC
  obtain ⟨rfl, hC⟩ := hC
  refine hY 0 _ _ _ (And.intro (fun h => hY 1 _ _ _ (hY 2 _ _ _ (And.intro rfl ?_))) (fun h => hY 2 _ _ _ (And.intro rfl ?_)))
  · rw [if_pos h] at hC; exact hC
  · rw [if_neg h] at hC; exact hC
theorem m_Ca_off (E : rz_E) : rz_MI SH CL E y_Ca_off 2 (Cond.code y_Ca_off c_Ca_off 2 (some .int) :: rz_tbl) ({ frames := 4, cells := 0, slots := 0, locals := 80 }) C_Ca_off := rz_metI (by decide) rfl (fun X _ G => sd_Ca_off X G) bd_Ca_off
theorem cd_Ca_off : rz_Cd rz_tbl y_Ca_off c_Ca_off 2 (some .int) (Cond.code y_Ca_off c_Ca_off 2 (some .int) :: rz_tbl) 0 ({ frames := 4, cells := 0, slots := 0, locals := 80 }) := ⟨rz_good wd_349, ⟨_, rfl⟩, wd_40, by decide +kernel, rfl, rfl⟩
def f_on1 (μ : rz_M) : rz_M := f_greet (μ 6 7) (rz_up μ 0 3 1)
def f_on (n : Nat) (μ : rz_M) : Int32 × rz_M := if μ 6 5 = 0 then (1, f_on1 (f_pd μ)) else if ¬ (f_coL n 0 (f_pd μ)).1 = 0 then (1, f_on1 (f_coL n 0 (f_pd μ)).2) else (0, (f_coL n 0 (f_pd μ)).2)
def C_Ca_on : rz_C := fun As μ P => ∃ n : Nat, As = [.ref 0] ∧ (μ 6 5 = 0 ∨ (μ 6 4 = nI n ∧ n ≤ 24)) ∧ PQ P (f_on n μ)
def bk_Ca_on : Nat → List rz_T := fun b => match b with
  | 0 => [tz_aload 0, tz_cv SH 0 6 1 C_Ca_powerDown, tz_aload 0, tz_get SH 6 2, tz_get SH 4 5, tz_if_eq 1, tz_aload 0, tz_get SH 6 2, tz_cv SH 0 4 2 C_Me_carryOutNote, tz_if_ne 1, tz_iconst 0, tz_iret]
  | 1 => [tz_aload 0, tz_iconst 1, tz_putz SH 6 3, tz_aload 0, tz_get SH 6 0, tz_aload 0, tz_get SH 6 2, tz_get SH 4 7, tz_cv SH 1 3 2 C_Li_sendGreeting, tz_iconst 1, tz_iret]
  | _ => []
def bp_Ca_on : Nat → Nat := fun b => match b with
  | 0 => 0
  | 1 => 26
  | _ => 0
set_option maxRecDepth 100000 in
set_option maxHeartbeats 4000000 in
theorem sd_Ca_on (X : rz_X) (G : rz_Cx CL X c_Ca_on 1 rz_tbl R_Ca ({ frames := 4, cells := 0, slots := 0, locals := 80 })) : ∀ b, rz_SB SH CL X bp_Ca_on (rz_RI SH CL X c_Ca_on (fun v => narrow .int (.int v) = .int v)) (bk_Ca_on b) (bp_Ca_on b) := fun b => match b with
  | 0 => (rz_cons (rz_aload_n G d_Ca_on_0 rfl) (rz_cons (rz_cvv G (m_Ca_powerDown X.1) cd_Ca_powerDown wd_302 wd_304 wd_0 rfl rfl (by decide) d_Ca_on_1) (rz_cons (rz_aload_n G d_Ca_on_4 rfl) (rz_cons (rz_get G rfl in_Ca (by decide) wd_260 d_Ca_on_5) (rz_cons (rz_getN G rfl in_Me (by decide) wn_17 d_Ca_on_8) (rz_cons (rz_if_eq G d_Ca_on_11 (by decide)) (rz_cons (rz_aload_n G d_Ca_on_14 rfl) (rz_cons (rz_get G rfl in_Ca (by decide) wd_260 d_Ca_on_15) (rz_cons (rz_cvi G (m_Me_carryOutNote X.1) cd_Me_carryOutNote wd_330 wd_331 wd_332 rfl rfl (by decide) d_Ca_on_18) (rz_cons (rz_if_ne G d_Ca_on_21 (by decide)) (rz_cons (rz_iconst G d_Ca_on_24 (by decide)) (rz_cons (rz_iret (npc := 0) (fun _ => rfl) d_Ca_on_25) rz_nil))))))))))))
  | 1 => (rz_cons (rz_aload_n G d_Ca_on_26 rfl) (rz_cons (rz_iconst G d_Ca_on_27 (by decide)) (rz_cons (rz_putz G rfl in_Ca ty_Ca tyok_Ca nm_Ca (by decide) rfl (by decide +kernel) wd_261 d_Ca_on_28) (rz_cons (rz_aload_n G d_Ca_on_31 rfl) (rz_cons (rz_get G rfl in_Ca (by decide) wd_258 d_Ca_on_32) (rz_cons (rz_aload_n G d_Ca_on_35 rfl) (rz_cons (rz_get G rfl in_Ca (by decide) wd_260 d_Ca_on_36) (rz_cons (rz_getN G rfl in_Me (by decide) wn_20 d_Ca_on_39) (rz_cons (rz_cvv G (m_Li_sendGreeting X.1) cd_Li_sendGreeting wd_342 wd_343 wd_344 rfl rfl (by decide) d_Ca_on_42) (rz_cons (rz_iconst G d_Ca_on_45 (by decide)) (rz_cons (rz_iret (npc := 0) (fun _ => rfl) d_Ca_on_46) rz_nil)))))))))))
  | _ + 2 => rz_nil
set_option maxRecDepth 100000 in
set_option maxHeartbeats 4000000 in
theorem bd_Ca_on : ∀ (Y : Nat → rz_K) (P : rz_P), (∀ b ls st μ, rz_ex P Y (bk_Ca_on b) ls st μ → Y b ls st μ) → ∀ As μ, C_Ca_on As μ P → Y 0 (rz_pad 1 (rz_ent As)) [] μ := by
  intro Y P hY As μ hC
  obtain ⟨n, rfl, hn, hC⟩ := hC
  refine hY 0 _ _ _ (And.intro rfl (And.intro (fun (h : μ 6 5 = 0) => ?_) (fun (h : ¬ μ 6 5 = 0) => ?_)))
  · exact hY 1 _ _ _ (And.intro (Or.inr rfl) ⟨_, rfl, rzT (PQ P) h hC⟩)
  · have hC := rzF (PQ P) h hC
    obtain ⟨h4, h24⟩ := hn.resolve_left h
    refine ⟨n, rfl, h4, h24, And.intro (fun h => ?_) (fun h => rzN (PQ P) h hC)⟩
    exact hY 1 _ _ _ (And.intro (Or.inr rfl) ⟨_, rfl, rzT (PQ P) h hC⟩)
theorem m_Ca_on (E : rz_E) : rz_MI SH CL E y_Ca_on 1 (Cond.code y_Ca_on c_Ca_on 1 (some .int) :: rz_tbl) ({ frames := 4, cells := 0, slots := 0, locals := 80 }) C_Ca_on := rz_metI (by decide) rfl (fun X _ G => sd_Ca_on X G) bd_Ca_on
theorem cd_Ca_on : rz_Cd rz_tbl y_Ca_on c_Ca_on 1 (some .int) (Cond.code y_Ca_on c_Ca_on 1 (some .int) :: rz_tbl) 0 ({ frames := 4, cells := 0, slots := 0, locals := 80 }) := ⟨rz_good wd_301, ⟨_, rfl⟩, wd_40, by decide +kernel, rfl, rfl⟩
def f_file (d n s r c : Int32) (μ : rz_M) : Int32 × rz_M :=
  if n < 0 then (-1, μ) else if 65535 < n then (-1, μ) else if ¬ d < 0 ∧ ¬ μ 7 6 ≤ d ∧ μ 10 d.toNatClampNeg = 0 then
    (if s < 0 then (-1, μ) else if s ≤ 24 then
      (if ¬ s ≤ 0 ∧ ¬ ((¬ r < 0 ∧ ¬ 2 < r) ∧ (¬ c < 0 ∧ ¬ 2 < c)) then (-1, μ) else if μ 0 3 = 0 then (if μ 7 6 < 8 then (μ 7 6, f_add d n s r c μ) else (-2, μ)) else (-3, μ)) else (-1, μ)) else (-1, μ)
def C_Ca_file : rz_C := fun As μ P => ∃ d n s r c : Int32, As = [.ref 0, .int d, .int n, .int s, .int r, .int c] ∧ 0 ≤ μ 7 6 ∧ μ 7 6 ≤ 8 ∧ PQ P (f_file d n s r c μ)
def bk_Ca_file : Nat → List rz_T := fun b => match b with
  | 0 => [tz_aload 0, tz_get SH 6 2, tz_get SH 4 0, tz_astore 6, tz_iload 2, tz_if_lt 1, tz_iload 2, tz_ldc 65535, tz_icmp_gt 1, tz_aload 6, tz_iload 1, tz_cv SH 1 2 2 C_Fi_isDirectory, tz_if_ne 2, tz_fall 1]
  | 1 => [tz_iconst (-1), tz_iret]
  | 2 => [tz_iload 3, tz_if_lt 3, tz_iload 3, tz_bipush 24, tz_icmp_le 4, tz_fall 3]
  | 3 => [tz_iconst (-1), tz_iret]
  | 4 => [tz_iload 3, tz_if_le 6, tz_iload 4, tz_cs 1 1 C_Fi_isRight, tz_if_eq 5, tz_iload 5, tz_cs 1 1 C_Fi_isRight, tz_if_ne 6, tz_fall 5]
  | 5 => [tz_iconst (-1), tz_iret]
  | 6 => [tz_aload 0, tz_get SH 6 3, tz_if_eq 7, tz_bipush (-3), tz_iret]
  | 7 => [tz_aload 6, tz_iload 1, tz_iload 2, tz_iload 3, tz_iload 4, tz_iload 5, tz_cv SH 5 2 6 C_Fi_add, tz_iret]
  | _ => []
def bp_Ca_file : Nat → Nat := fun b => match b with
  | 0 => 0
  | 1 => 28
  | 2 => 30
  | 3 => 40
  | 4 => 42
  | 5 => 62
  | 6 => 64
  | 7 => 74
  | _ => 0
set_option maxRecDepth 100000 in
set_option maxHeartbeats 4000000 in
theorem sd_Ca_file (X : rz_X) (G : rz_Cx CL X c_Ca_file 7 rz_tbl R_Ca ({ frames := 2, cells := 0, slots := 0, locals := 42 })) : ∀ b, rz_SB SH CL X bp_Ca_file (rz_RI SH CL X c_Ca_file (fun v => narrow .int (.int v) = .int v)) (bk_Ca_file b) (bp_Ca_file b) := fun b => match b with
  | 0 => (rz_cons (rz_aload_n G d_Ca_file_0 rfl) (rz_cons (rz_get G rfl in_Ca (by decide) wd_260 d_Ca_file_1) (rz_cons (rz_getN G rfl in_Me (by decide) wn_15 d_Ca_file_4) (rz_cons (rz_astore G d_Ca_file_7 (by decide)) (rz_cons (rz_iload_n G d_Ca_file_9 rfl) (rz_cons (rz_if_lt G d_Ca_file_10 (by decide)) (rz_cons (rz_iload_n G d_Ca_file_13 rfl) (rz_cons (rz_ldc G wd_278 d_Ca_file_14) (rz_cons (rz_icmp_gt G d_Ca_file_16 (by decide)) (rz_cons (rz_aload G d_Ca_file_19) (rz_cons (rz_iload_n G d_Ca_file_21 rfl) (rz_cons (rz_cvi G (m_Fi_isDirectory X.1) cd_Fi_isDirectory wd_279 wd_280 wd_281 rfl rfl (by decide) d_Ca_file_22) (rz_cons (rz_if_ne G d_Ca_file_25 (by decide)) (rz_fall rfl))))))))))))))
  | 1 => (rz_cons (rz_iconst G d_Ca_file_28 (by decide)) (rz_cons (rz_iret (npc := 0) (fun _ => rfl) d_Ca_file_29) rz_nil))
  | 2 => (rz_cons (rz_iload_n G d_Ca_file_30 rfl) (rz_cons (rz_if_lt G d_Ca_file_31 (by decide)) (rz_cons (rz_iload_n G d_Ca_file_34 rfl) (rz_cons (rz_bipush G d_Ca_file_35 (by decide)) (rz_cons (rz_icmp_le G d_Ca_file_37 (by decide)) (rz_fall rfl))))))
  | 3 => (rz_cons (rz_iconst G d_Ca_file_40 (by decide)) (rz_cons (rz_iret (npc := 0) (fun _ => rfl) d_Ca_file_41) rz_nil))
  | 4 => (rz_cons (rz_iload_n G d_Ca_file_42 rfl) (rz_cons (rz_if_le G d_Ca_file_43 (by decide)) (rz_cons (rz_iload G d_Ca_file_46) (rz_cons (rz_csi G (m_Fi_isRight X.1) cd_Fi_isRight wd_287 wd_288 (by decide) d_Ca_file_48) (rz_cons (rz_if_eq G d_Ca_file_51 (by decide)) (rz_cons (rz_iload G d_Ca_file_54) (rz_cons (rz_csi G (m_Fi_isRight X.1) cd_Fi_isRight wd_287 wd_288 (by decide) d_Ca_file_56) (rz_cons (rz_if_ne G d_Ca_file_59 (by decide)) (rz_fall rfl)))))))))
  | 5 => (rz_cons (rz_iconst G d_Ca_file_62 (by decide)) (rz_cons (rz_iret (npc := 0) (fun _ => rfl) d_Ca_file_63) rz_nil))
  | 6 => (rz_cons (rz_aload_n G d_Ca_file_64 rfl) (rz_cons (rz_get G rfl in_Ca (by decide) wd_261 d_Ca_file_65) (rz_cons (rz_if_eq G d_Ca_file_68 (by decide)) (rz_cons (rz_bipush G d_Ca_file_71 (by decide)) (rz_cons (rz_iret (npc := 0) (fun _ => rfl) d_Ca_file_73) rz_nil)))))
  | 7 => (rz_cons (rz_aload G d_Ca_file_74) (rz_cons (rz_iload_n G d_Ca_file_76 rfl) (rz_cons (rz_iload_n G d_Ca_file_77 rfl) (rz_cons (rz_iload_n G d_Ca_file_78 rfl) (rz_cons (rz_iload G d_Ca_file_79) (rz_cons (rz_iload G d_Ca_file_81) (rz_cons (rz_cvi G (m_Fi_add X.1) cd_Fi_add wd_290 wd_291 wd_292 rfl rfl (by decide) d_Ca_file_83) (rz_cons (rz_iret (npc := 0) (fun _ => rfl) d_Ca_file_86) rz_nil))))))))
  | _ + 8 => rz_nil
set_option maxRecDepth 100000 in
set_option maxHeartbeats 4000000 in
theorem bd_Ca_file : ∀ (Y : Nat → rz_K) (P : rz_P), (∀ b ls st μ, rz_ex P Y (bk_Ca_file b) ls st μ → Y b ls st μ) → ∀ As μ, C_Ca_file As μ P → Y 0 (rz_pad 7 (rz_ent As)) [] μ := by
  intro Y P hY As μ hC
  obtain ⟨d, n, s, r, c, rfl, h0, h8, hC⟩ := hC
  refine hY 0 _ _ _ (And.intro (fun h => hY 1 _ _ _ (rzT (PQ P) h hC)) (fun h => ?_))
  have hC := rzF (PQ P) h hC
  refine And.intro (fun h => hY 1 _ _ _ (rzT (PQ P) h hC)) (fun h => ?_)
  have hC := rzF (PQ P) h hC
  refine ⟨_, rfl, h8, And.intro (fun h => ?_) (fun h => hY 1 _ _ _ (rzF (PQ P) (b2_eq h) hC))⟩
  have hC := rzT (PQ P) (b2_ne h) hC
  refine hY 2 _ _ _ (And.intro (fun h => hY 3 _ _ _ (rzT (PQ P) h hC)) (fun h => ?_))
  have hC := rzF (PQ P) h hC
  refine And.intro (fun h => ?_) (fun h => hY 3 _ _ _ (rzF (PQ P) h hC))
  have hC := rzT (PQ P) h hC
  have fin : PQ P (if μ 0 3 = 0 then (if μ 7 6 < 8 then (μ 7 6, f_add d n s r c μ) else (-2, μ)) else (-3, μ)) → Y 6 [some (.ref 0), some (.int d), some (.int n), some (.int s), some (.int r), some (.int c), some (.ref 7)] [] μ := by
    intro hp
    refine hY 6 _ _ _ (And.intro (fun h => ?_) (fun h => rzF (PQ P) h hp))
    have hp := rzT (PQ P) h hp
    exact hY 7 _ _ _ ⟨_, _, _, _, _, rfl, h0, fun h => rzF (PQ P) h hp, fun h => rzT (PQ P) h hp⟩
  refine hY 4 _ _ _ (And.intro (fun h => fin (rzF (PQ P) (fun q => q.1 h) hC)) (fun hs => ?_))
  refine ⟨_, rfl, And.intro (fun h => hY 5 _ _ _ (rzT (PQ P) ⟨hs, fun q => b2_eq h q.1⟩ hC)) (fun hr => ?_)⟩
  refine ⟨_, rfl, And.intro (fun h => ?_) (fun h => hY 5 _ _ _ (rzT (PQ P) ⟨hs, fun q => b2_eq h q.2⟩ hC))⟩
  exact fin (rzF (PQ P) (fun q => q.2 ⟨b2_ne hr, b2_ne h⟩) hC)
theorem m_Ca_file (E : rz_E) : rz_MI SH CL E y_Ca_file 7 (Cond.code y_Ca_file c_Ca_file 7 (some .int) :: rz_tbl) ({ frames := 2, cells := 0, slots := 0, locals := 42 }) C_Ca_file := rz_metI (by decide) rfl (fun X _ G => sd_Ca_file X G) bd_Ca_file
theorem cd_Ca_file : rz_Cd rz_tbl y_Ca_file c_Ca_file 7 (some .int) (Cond.code y_Ca_file c_Ca_file 7 (some .int) :: rz_tbl) 5 ({ frames := 2, cells := 0, slots := 0, locals := 42 }) := ⟨rz_good wd_277, ⟨_, rfl⟩, wd_40, by decide +kernel, rfl, rfl⟩
def v_reply (k : Int32) (μ : rz_M) : Int32 := if k < 0 then -1 else if μ 1 3 ≤ k then -1 else μ 3 k.toNatClampNeg
def C_Ca_reply : rz_C := fun As μ P => ∃ k : Int32, As = [.ref 0, .int k] ∧ μ 1 3 ≤ 36 ∧ P (some (.int (v_reply k μ))) μ
def bk_Ca_reply : Nat → List rz_T := fun b => match b with
  | 0 => [tz_iload 1, tz_if_lt 1, tz_iload 1, tz_aload 0, tz_get SH 6 0, tz_get SH 3 3, tz_icmp_ge 1, tz_aload 0, tz_get SH 6 0, tz_get SH 3 2, tz_iload 1, tz_iald SH, tz_goto 2]
  | 1 => [tz_iconst (-1), tz_fall 2]
  | 2 => [tz_iret]
  | _ => []
def bp_Ca_reply : Nat → Nat := fun b => match b with
  | 0 => 0
  | 1 => 27
  | 2 => 28
  | _ => 0
set_option maxRecDepth 100000 in
set_option maxHeartbeats 4000000 in
theorem sd_Ca_reply (X : rz_X) (G : rz_Cx CL X c_Ca_reply 2 rz_tbl R_Ca ({ frames := 0, cells := 0, slots := 0, locals := 0 })) : ∀ b, rz_SB SH CL X bp_Ca_reply (rz_RI SH CL X c_Ca_reply (fun v => narrow .int (.int v) = .int v)) (bk_Ca_reply b) (bp_Ca_reply b) := fun b => match b with
  | 0 => (rz_cons (rz_iload_n G d_Ca_reply_0 rfl) (rz_cons (rz_if_lt G d_Ca_reply_1 (by decide)) (rz_cons (rz_iload_n G d_Ca_reply_4 rfl) (rz_cons (rz_aload_n G d_Ca_reply_5 rfl) (rz_cons (rz_get G rfl in_Ca (by decide) wd_258 d_Ca_reply_6) (rz_cons (rz_getN G rfl in_Li (by decide) wn_2 d_Ca_reply_9) (rz_cons (rz_icmp_ge G d_Ca_reply_12 (by decide)) (rz_cons (rz_aload_n G d_Ca_reply_15 rfl) (rz_cons (rz_get G rfl in_Ca (by decide) wd_258 d_Ca_reply_16) (rz_cons (rz_getN G rfl in_Li (by decide) wn_1 d_Ca_reply_19) (rz_cons (rz_iload_n G d_Ca_reply_22 rfl) (rz_cons (rz_iald G d_Ca_reply_23) (rz_cons (rz_goto (npc := 0) G d_Ca_reply_24 (by decide)) rz_nil)))))))))))))
  | 1 => (rz_cons (rz_iconst G d_Ca_reply_27 (by decide)) (rz_fall rfl))
  | 2 => (rz_cons (rz_iret (npc := 0) (fun _ => rfl) d_Ca_reply_28) rz_nil)
  | _ + 3 => rz_nil
set_option maxRecDepth 100000 in
set_option maxHeartbeats 4000000 in
theorem bd_Ca_reply : ∀ (Y : Nat → rz_K) (P : rz_P), (∀ b ls st μ, rz_ex P Y (bk_Ca_reply b) ls st μ → Y b ls st μ) → ∀ As μ, C_Ca_reply As μ P → Y 0 (rz_pad 2 (rz_ent As)) [] μ := by
  intro Y P hY As μ hC
  obtain ⟨k, rfl, h36, hC⟩ := hC
  refine hY 0 _ _ _ (And.intro (fun h => hY 1 _ _ _ (hY 2 _ _ _ (rzT (fun z => P (some (.int z)) μ) h hC))) (fun h0 => ?_))
  have hC := rzF (fun z => P (some (.int z)) μ) h0 hC
  refine And.intro (fun h => hY 1 _ _ _ (hY 2 _ _ _ (rzT (fun z => P (some (.int z)) μ) h hC))) (fun h => ?_)
  have hC := rzF (fun z => P (some (.int z)) μ) h hC
  exact And.intro (vi_lt (m := 36) (Int32.not_lt.mp h0) (Int32.lt_of_lt_of_le (Int32.not_le.mp h) h36)) (hY 2 _ _ _ hC)
theorem m_Ca_reply (E : rz_E) : rz_MI SH CL E y_Ca_reply 2 (Cond.code y_Ca_reply c_Ca_reply 2 (some .int) :: rz_tbl) ({ frames := 0, cells := 0, slots := 0, locals := 0 }) C_Ca_reply := rz_metI (by decide) rfl (fun X _ G => sd_Ca_reply X G) bd_Ca_reply
theorem cd_Ca_reply : rz_Cd rz_tbl y_Ca_reply c_Ca_reply 2 (some .int) (Cond.code y_Ca_reply c_Ca_reply 2 (some .int) :: rz_tbl) 1 ({ frames := 0, cells := 0, slots := 0, locals := 0 }) := ⟨rz_good wd_593, ⟨_, rfl⟩, wd_40, by decide +kernel, rfl, rfl⟩
def v_stored (f k : Int32) (μ : rz_M) : Int32 := if p_ho μ f k then μ 13 (f * 24 + k).toNatClampNeg else -1
def C_Ca_stored : rz_C := fun As μ P => ∃ f k : Int32, As = [.ref 0, .int f, .int k] ∧ μ 7 6 ≤ 8 ∧ (p_ho μ f k → ¬ 24 ≤ k) ∧ P (some (.int (v_stored f k μ))) μ
def bk_Ca_stored : Nat → List rz_T := fun b => match b with
  | 0 => [tz_aload 0, tz_get SH 6 2, tz_get SH 4 0, tz_iload 1, tz_iload 2, tz_cv SH 2 2 3 C_Fi_hasOctet, tz_if_eq 1, tz_aload 0, tz_get SH 6 2, tz_get SH 4 0, tz_iload 1, tz_iload 2, tz_cv SH 2 2 3 C_Fi_octet, tz_goto 2]
  | 1 => [tz_iconst (-1), tz_fall 2]
  | 2 => [tz_iret]
  | _ => []
def bp_Ca_stored : Nat → Nat := fun b => match b with
  | 0 => 0
  | 1 => 30
  | 2 => 31
  | _ => 0
set_option maxRecDepth 100000 in
set_option maxHeartbeats 4000000 in
theorem sd_Ca_stored (X : rz_X) (G : rz_Cx CL X c_Ca_stored 3 rz_tbl R_Ca ({ frames := 2, cells := 0, slots := 0, locals := 44 })) : ∀ b, rz_SB SH CL X bp_Ca_stored (rz_RI SH CL X c_Ca_stored (fun v => narrow .int (.int v) = .int v)) (bk_Ca_stored b) (bp_Ca_stored b) := fun b => match b with
  | 0 => (rz_cons (rz_aload_n G d_Ca_stored_0 rfl) (rz_cons (rz_get G rfl in_Ca (by decide) wd_260 d_Ca_stored_1) (rz_cons (rz_getN G rfl in_Me (by decide) wn_15 d_Ca_stored_4) (rz_cons (rz_iload_n G d_Ca_stored_7 rfl) (rz_cons (rz_iload_n G d_Ca_stored_8 rfl) (rz_cons (rz_cvi G (m_Fi_hasOctet X.1) cd_Fi_hasOctet wd_598 wd_487 wd_488 rfl rfl (by decide) d_Ca_stored_9) (rz_cons (rz_if_eq G d_Ca_stored_12 (by decide)) (rz_cons (rz_aload_n G d_Ca_stored_15 rfl) (rz_cons (rz_get G rfl in_Ca (by decide) wd_260 d_Ca_stored_16) (rz_cons (rz_getN G rfl in_Me (by decide) wn_15 d_Ca_stored_19) (rz_cons (rz_iload_n G d_Ca_stored_22 rfl) (rz_cons (rz_iload_n G d_Ca_stored_23 rfl) (rz_cons (rz_cvi G (m_Fi_octet X.1) cd_Fi_octet wd_599 wd_494 wd_495 rfl rfl (by decide) d_Ca_stored_24) (rz_cons (rz_goto (npc := 0) G d_Ca_stored_27 (by decide)) rz_nil))))))))))))))
  | 1 => (rz_cons (rz_iconst G d_Ca_stored_30 (by decide)) (rz_fall rfl))
  | 2 => (rz_cons (rz_iret (npc := 0) (fun _ => rfl) d_Ca_stored_31) rz_nil)
  | _ + 3 => rz_nil
set_option maxRecDepth 100000 in
set_option maxHeartbeats 4000000 in
theorem bd_Ca_stored : ∀ (Y : Nat → rz_K) (P : rz_P), (∀ b ls st μ, rz_ex P Y (bk_Ca_stored b) ls st μ → Y b ls st μ) → ∀ As μ, C_Ca_stored As μ P → Y 0 (rz_pad 3 (rz_ent As)) [] μ := by
  intro Y P hY As μ hC
  obtain ⟨f, k, rfl, h8, h24, hC⟩ := hC
  refine hY 0 _ _ _ ⟨_, _, rfl, h8, And.intro (fun h => hY 1 _ _ _ (hY 2 _ _ _ (rzF (fun z => P (some (.int z)) μ) (b2_eq h) hC))) (fun h => ?_)⟩
  have hq := b2_ne h
  exact ⟨_, _, rfl, h8, hq, h24 hq, hY 2 _ _ _ (rzT (fun z => P (some (.int z)) μ) hq hC)⟩
theorem m_Ca_stored (E : rz_E) : rz_MI SH CL E y_Ca_stored 3 (Cond.code y_Ca_stored c_Ca_stored 3 (some .int) :: rz_tbl) ({ frames := 2, cells := 0, slots := 0, locals := 44 }) C_Ca_stored := rz_metI (by decide) rfl (fun X _ G => sd_Ca_stored X G) bd_Ca_stored
theorem cd_Ca_stored : rz_Cd rz_tbl y_Ca_stored c_Ca_stored 3 (some .int) (Cond.code y_Ca_stored c_Ca_stored 3 (some .int) :: rz_tbl) 2 ({ frames := 2, cells := 0, slots := 0, locals := 44 }) := ⟨rz_good wd_597, ⟨_, rfl⟩, wd_40, by decide +kernel, rfl, rfl⟩
def v_sw (x : Int32) (μ : rz_M) : Int32 := if x = 8 then (if μ 5 3 = 0 then 0 else 1) else if x = 9 then μ 5 4 else if x = 10 then μ 5 5 else if x = 11 then μ 1 6 else if x = 12 then μ 1 7 else if x = 13 then μ 1 8 else if x = 14 then μ 15 1 else if x = 15 then μ 17 1 - μ 17 2 else -1
def C_Ca_stateWhileOn : rz_C := fun As μ P => ∃ x : Int32, As = [.ref 0, .int x] ∧ P (some (.int (v_sw x μ))) μ
def bk_Ca_stateWhileOn : Nat → List rz_T := fun b => match b with
  | 0 => [tz_iload 1, tz_sw [(8, 1), (9, 4), (10, 5), (11, 6), (12, 7), (13, 8), (14, 9), (15, 10)] 11]
  | 1 => [tz_aload 0, tz_get SH 6 1, tz_get SH 5 3, tz_if_eq 2, tz_iconst 1, tz_goto 3]
  | 2 => [tz_iconst 0, tz_fall 3]
  | 3 => [tz_iret]
  | 4 => [tz_aload 0, tz_get SH 6 1, tz_get SH 5 4, tz_iret]
  | 5 => [tz_aload 0, tz_get SH 6 1, tz_get SH 5 5, tz_iret]
  | 6 => [tz_aload 0, tz_get SH 6 0, tz_get SH 3 6, tz_iret]
  | 7 => [tz_aload 0, tz_get SH 6 0, tz_get SH 3 7, tz_iret]
  | 8 => [tz_aload 0, tz_get SH 6 0, tz_get SH 3 8, tz_iret]
  | 9 => [tz_aload 0, tz_get SH 6 1, tz_get SH 5 1, tz_get SH 1 1, tz_iret]
  | 10 => [tz_aload 0, tz_get SH 6 1, tz_get SH 5 2, tz_cv SH 0 0 1 C_An_left, tz_iret]
  | 11 => [tz_iconst (-1), tz_iret]
  | _ => []
def bp_Ca_stateWhileOn : Nat → Nat := fun b => match b with
  | 0 => 0
  | 1 => 48
  | 2 => 62
  | 3 => 63
  | 4 => 64
  | 5 => 72
  | 6 => 80
  | 7 => 88
  | 8 => 96
  | 9 => 104
  | 10 => 115
  | 11 => 126
  | _ => 0
set_option maxRecDepth 100000 in
set_option maxHeartbeats 4000000 in
theorem sd_Ca_stateWhileOn (X : rz_X) (G : rz_Cx CL X c_Ca_stateWhileOn 2 rz_tbl R_Ca ({ frames := 1, cells := 0, slots := 0, locals := 20 })) : ∀ b, rz_SB SH CL X bp_Ca_stateWhileOn (rz_RI SH CL X c_Ca_stateWhileOn (fun v => narrow .int (.int v) = .int v)) (bk_Ca_stateWhileOn b) (bp_Ca_stateWhileOn b) := fun b => match b with
  | 0 => (rz_cons (rz_iload_n G d_Ca_stateWhileOn_0 rfl) (rz_cons (rz_table (npc := 0) G d_Ca_stateWhileOn_1 (by decide) (by decide) (by decide +kernel) (by decide) (by decide +kernel)) rz_nil))
  | 1 => (rz_cons (rz_aload_n G d_Ca_stateWhileOn_48 rfl) (rz_cons (rz_get G rfl in_Ca (by decide) wd_259 d_Ca_stateWhileOn_49) (rz_cons (rz_getN G rfl in_Wo (by decide) wn_32 d_Ca_stateWhileOn_52) (rz_cons (rz_if_eq G d_Ca_stateWhileOn_55 (by decide)) (rz_cons (rz_iconst G d_Ca_stateWhileOn_58 (by decide)) (rz_cons (rz_goto (npc := 0) G d_Ca_stateWhileOn_59 (by decide)) rz_nil))))))
  | 2 => (rz_cons (rz_iconst G d_Ca_stateWhileOn_62 (by decide)) (rz_fall rfl))
  | 3 => (rz_cons (rz_iret (npc := 0) (fun _ => rfl) d_Ca_stateWhileOn_63) rz_nil)
  | 4 => (rz_cons (rz_aload_n G d_Ca_stateWhileOn_64 rfl) (rz_cons (rz_get G rfl in_Ca (by decide) wd_259 d_Ca_stateWhileOn_65) (rz_cons (rz_getN G rfl in_Wo (by decide) wn_33 d_Ca_stateWhileOn_68) (rz_cons (rz_iret (npc := 0) (fun _ => rfl) d_Ca_stateWhileOn_71) rz_nil))))
  | 5 => (rz_cons (rz_aload_n G d_Ca_stateWhileOn_72 rfl) (rz_cons (rz_get G rfl in_Ca (by decide) wd_259 d_Ca_stateWhileOn_73) (rz_cons (rz_getN G rfl in_Wo (by decide) wn_34 d_Ca_stateWhileOn_76) (rz_cons (rz_iret (npc := 0) (fun _ => rfl) d_Ca_stateWhileOn_79) rz_nil))))
  | 6 => (rz_cons (rz_aload_n G d_Ca_stateWhileOn_80 rfl) (rz_cons (rz_get G rfl in_Ca (by decide) wd_258 d_Ca_stateWhileOn_81) (rz_cons (rz_getN G rfl in_Li (by decide) wn_4 d_Ca_stateWhileOn_84) (rz_cons (rz_iret (npc := 0) (fun _ => rfl) d_Ca_stateWhileOn_87) rz_nil))))
  | 7 => (rz_cons (rz_aload_n G d_Ca_stateWhileOn_88 rfl) (rz_cons (rz_get G rfl in_Ca (by decide) wd_258 d_Ca_stateWhileOn_89) (rz_cons (rz_getN G rfl in_Li (by decide) wn_5 d_Ca_stateWhileOn_92) (rz_cons (rz_iret (npc := 0) (fun _ => rfl) d_Ca_stateWhileOn_95) rz_nil))))
  | 8 => (rz_cons (rz_aload_n G d_Ca_stateWhileOn_96 rfl) (rz_cons (rz_get G rfl in_Ca (by decide) wd_258 d_Ca_stateWhileOn_97) (rz_cons (rz_getN G rfl in_Li (by decide) wn_6 d_Ca_stateWhileOn_100) (rz_cons (rz_iret (npc := 0) (fun _ => rfl) d_Ca_stateWhileOn_103) rz_nil))))
  | 9 => (rz_cons (rz_aload_n G d_Ca_stateWhileOn_104 rfl) (rz_cons (rz_get G rfl in_Ca (by decide) wd_259 d_Ca_stateWhileOn_105) (rz_cons (rz_getN G rfl in_Wo (by decide) wn_30 d_Ca_stateWhileOn_108) (rz_cons (rz_getN G rfl in_Co (by decide) wn_25 d_Ca_stateWhileOn_111) (rz_cons (rz_iret (npc := 0) (fun _ => rfl) d_Ca_stateWhileOn_114) rz_nil)))))
  | 10 => (rz_cons (rz_aload_n G d_Ca_stateWhileOn_115 rfl) (rz_cons (rz_get G rfl in_Ca (by decide) wd_259 d_Ca_stateWhileOn_116) (rz_cons (rz_getN G rfl in_Wo (by decide) wn_31 d_Ca_stateWhileOn_119) (rz_cons (rz_cvi G (m_An_left X.1) cd_An_left wd_562 wd_543 wd_544 rfl rfl (by decide) d_Ca_stateWhileOn_122) (rz_cons (rz_iret (npc := 0) (fun _ => rfl) d_Ca_stateWhileOn_125) rz_nil)))))
  | 11 => (rz_cons (rz_iconst G d_Ca_stateWhileOn_126 (by decide)) (rz_cons (rz_iret (npc := 0) (fun _ => rfl) d_Ca_stateWhileOn_127) rz_nil))
  | _ + 12 => rz_nil
set_option maxRecDepth 100000 in
set_option maxHeartbeats 4000000 in
theorem bd_Ca_stateWhileOn : ∀ (Y : Nat → rz_K) (P : rz_P), (∀ b ls st μ, rz_ex P Y (bk_Ca_stateWhileOn b) ls st μ → Y b ls st μ) → ∀ As μ, C_Ca_stateWhileOn As μ P → Y 0 (rz_pad 2 (rz_ent As)) [] μ := by
  intro Y P hY As μ hC
  obtain ⟨x, rfl, hC⟩ := hC
  refine hY 0 _ _ _ (And.intro (fun h => ?_) (fun h => ?_))
  · have hC := rzT (fun z => P (some (.int z)) μ) h hC
    exact hY 1 _ _ _ (And.intro (fun h => hY 2 _ _ _ (hY 3 _ _ _ (rzT (fun z => P (some (.int z)) μ) h hC))) (fun h => hY 3 _ _ _ (rzF (fun z => P (some (.int z)) μ) h hC)))
  have hC := rzF (fun z => P (some (.int z)) μ) h hC
  refine And.intro (fun h => hY 4 _ _ _ (rzT (fun z => P (some (.int z)) μ) h hC)) (fun h => ?_)
  have hC := rzF (fun z => P (some (.int z)) μ) h hC
  refine And.intro (fun h => hY 5 _ _ _ (rzT (fun z => P (some (.int z)) μ) h hC)) (fun h => ?_)
  have hC := rzF (fun z => P (some (.int z)) μ) h hC
  refine And.intro (fun h => hY 6 _ _ _ (rzT (fun z => P (some (.int z)) μ) h hC)) (fun h => ?_)
  have hC := rzF (fun z => P (some (.int z)) μ) h hC
  refine And.intro (fun h => hY 7 _ _ _ (rzT (fun z => P (some (.int z)) μ) h hC)) (fun h => ?_)
  have hC := rzF (fun z => P (some (.int z)) μ) h hC
  refine And.intro (fun h => hY 8 _ _ _ (rzT (fun z => P (some (.int z)) μ) h hC)) (fun h => ?_)
  have hC := rzF (fun z => P (some (.int z)) μ) h hC
  refine And.intro (fun h => hY 9 _ _ _ (rzT (fun z => P (some (.int z)) μ) h hC)) (fun h => ?_)
  have hC := rzF (fun z => P (some (.int z)) μ) h hC
  refine And.intro (fun h => hY 10 _ _ _ (And.intro rfl (rzT (fun z => P (some (.int z)) μ) h hC))) (fun h => ?_)
  exact hY 11 _ _ _ (rzF (fun z => P (some (.int z)) μ) h hC)
theorem m_Ca_stateWhileOn (E : rz_E) : rz_MI SH CL E y_Ca_stateWhileOn 2 (Cond.code y_Ca_stateWhileOn c_Ca_stateWhileOn 2 (some .int) :: rz_tbl) ({ frames := 1, cells := 0, slots := 0, locals := 20 }) C_Ca_stateWhileOn := rz_metI (by decide) rfl (fun X _ G => sd_Ca_stateWhileOn X G) bd_Ca_stateWhileOn
theorem cd_Ca_stateWhileOn : rz_Cd rz_tbl y_Ca_stateWhileOn c_Ca_stateWhileOn 2 (some .int) (Cond.code y_Ca_stateWhileOn c_Ca_stateWhileOn 2 (some .int) :: rz_tbl) 1 ({ frames := 1, cells := 0, slots := 0, locals := 20 }) := ⟨rz_good wd_607, ⟨_, rfl⟩, wd_40, by decide +kernel, rfl, rfl⟩
def v_state (x : Int32) (μ : rz_M) : Int32 := if x = 0 then (if μ 0 3 = 0 then 0 else 1) else if x = 1 then μ 7 6 else if x = 2 then μ 6 7 else if x = 3 then μ 6 6 else if x = 4 then (if μ 6 5 = 0 then 0 else 1) else if x = 5 then μ 6 8 else if x = 6 then μ 6 9 else if x = 7 then μ 0 4 else if μ 0 3 = 0 then -1 else v_sw x μ
def C_Ca_state : rz_C := fun As μ P => ∃ x : Int32, As = [.ref 0, .int x] ∧ P (some (.int (v_state x μ))) μ
def bk_Ca_state : Nat → List rz_T := fun b => match b with
  | 0 => [tz_iload 1, tz_sw [(0, 1), (1, 4), (2, 5), (3, 6), (4, 7), (5, 10), (6, 11), (7, 12)] 13]
  | 1 => [tz_aload 0, tz_get SH 6 3, tz_if_eq 2, tz_iconst 1, tz_goto 3]
  | 2 => [tz_iconst 0, tz_fall 3]
  | 3 => [tz_iret]
  | 4 => [tz_aload 0, tz_get SH 6 2, tz_get SH 4 0, tz_get SH 2 6, tz_iret]
  | 5 => [tz_aload 0, tz_get SH 6 2, tz_get SH 4 7, tz_iret]
  | 6 => [tz_aload 0, tz_get SH 6 2, tz_get SH 4 6, tz_iret]
  | 7 => [tz_aload 0, tz_get SH 6 2, tz_get SH 4 5, tz_if_eq 8, tz_iconst 1, tz_goto 9]
  | 8 => [tz_iconst 0, tz_fall 9]
  | 9 => [tz_iret]
  | 10 => [tz_aload 0, tz_get SH 6 2, tz_get SH 4 8, tz_iret]
  | 11 => [tz_aload 0, tz_get SH 6 2, tz_get SH 4 9, tz_iret]
  | 12 => [tz_aload 0, tz_get SH 6 4, tz_iret]
  | 13 => [tz_aload 0, tz_get SH 6 3, tz_if_eq 14, tz_aload 0, tz_iload 1, tz_cv SH 1 6 2 C_Ca_stateWhileOn, tz_goto 15]
  | 14 => [tz_iconst (-1), tz_fall 15]
  | 15 => [tz_iret]
  | _ => []
def bp_Ca_state : Nat → Nat := fun b => match b with
  | 0 => 0
  | 1 => 48
  | 2 => 59
  | 3 => 60
  | 4 => 61
  | 5 => 72
  | 6 => 80
  | 7 => 88
  | 8 => 102
  | 9 => 103
  | 10 => 104
  | 11 => 112
  | 12 => 120
  | 13 => 125
  | 14 => 140
  | 15 => 141
  | _ => 0
set_option maxRecDepth 100000 in
set_option maxHeartbeats 4000000 in
theorem sd_Ca_state (X : rz_X) (G : rz_Cx CL X c_Ca_state 2 rz_tbl R_Ca ({ frames := 2, cells := 0, slots := 0, locals := 41 })) : ∀ b, rz_SB SH CL X bp_Ca_state (rz_RI SH CL X c_Ca_state (fun v => narrow .int (.int v) = .int v)) (bk_Ca_state b) (bp_Ca_state b) := fun b => match b with
  | 0 => (rz_cons (rz_iload_n G d_Ca_state_0 rfl) (rz_cons (rz_table (npc := 0) G d_Ca_state_1 (by decide) (by decide) (by decide +kernel) (by decide) (by decide +kernel)) rz_nil))
  | 1 => (rz_cons (rz_aload_n G d_Ca_state_48 rfl) (rz_cons (rz_get G rfl in_Ca (by decide) wd_261 d_Ca_state_49) (rz_cons (rz_if_eq G d_Ca_state_52 (by decide)) (rz_cons (rz_iconst G d_Ca_state_55 (by decide)) (rz_cons (rz_goto (npc := 0) G d_Ca_state_56 (by decide)) rz_nil)))))
  | 2 => (rz_cons (rz_iconst G d_Ca_state_59 (by decide)) (rz_fall rfl))
  | 3 => (rz_cons (rz_iret (npc := 0) (fun _ => rfl) d_Ca_state_60) rz_nil)
  | 4 => (rz_cons (rz_aload_n G d_Ca_state_61 rfl) (rz_cons (rz_get G rfl in_Ca (by decide) wd_260 d_Ca_state_62) (rz_cons (rz_getN G rfl in_Me (by decide) wn_15 d_Ca_state_65) (rz_cons (rz_getN G rfl in_Fi (by decide) wn_14 d_Ca_state_68) (rz_cons (rz_iret (npc := 0) (fun _ => rfl) d_Ca_state_71) rz_nil)))))
  | 5 => (rz_cons (rz_aload_n G d_Ca_state_72 rfl) (rz_cons (rz_get G rfl in_Ca (by decide) wd_260 d_Ca_state_73) (rz_cons (rz_getN G rfl in_Me (by decide) wn_20 d_Ca_state_76) (rz_cons (rz_iret (npc := 0) (fun _ => rfl) d_Ca_state_79) rz_nil))))
  | 6 => (rz_cons (rz_aload_n G d_Ca_state_80 rfl) (rz_cons (rz_get G rfl in_Ca (by decide) wd_260 d_Ca_state_81) (rz_cons (rz_getN G rfl in_Me (by decide) wn_18 d_Ca_state_84) (rz_cons (rz_iret (npc := 0) (fun _ => rfl) d_Ca_state_87) rz_nil))))
  | 7 => (rz_cons (rz_aload_n G d_Ca_state_88 rfl) (rz_cons (rz_get G rfl in_Ca (by decide) wd_260 d_Ca_state_89) (rz_cons (rz_getN G rfl in_Me (by decide) wn_17 d_Ca_state_92) (rz_cons (rz_if_eq G d_Ca_state_95 (by decide)) (rz_cons (rz_iconst G d_Ca_state_98 (by decide)) (rz_cons (rz_goto (npc := 0) G d_Ca_state_99 (by decide)) rz_nil))))))
  | 8 => (rz_cons (rz_iconst G d_Ca_state_102 (by decide)) (rz_fall rfl))
  | 9 => (rz_cons (rz_iret (npc := 0) (fun _ => rfl) d_Ca_state_103) rz_nil)
  | 10 => (rz_cons (rz_aload_n G d_Ca_state_104 rfl) (rz_cons (rz_get G rfl in_Ca (by decide) wd_260 d_Ca_state_105) (rz_cons (rz_getN G rfl in_Me (by decide) wn_22 d_Ca_state_108) (rz_cons (rz_iret (npc := 0) (fun _ => rfl) d_Ca_state_111) rz_nil))))
  | 11 => (rz_cons (rz_aload_n G d_Ca_state_112 rfl) (rz_cons (rz_get G rfl in_Ca (by decide) wd_260 d_Ca_state_113) (rz_cons (rz_getN G rfl in_Me (by decide) wn_23 d_Ca_state_116) (rz_cons (rz_iret (npc := 0) (fun _ => rfl) d_Ca_state_119) rz_nil))))
  | 12 => (rz_cons (rz_aload_n G d_Ca_state_120 rfl) (rz_cons (rz_get G rfl in_Ca (by decide) wd_262 d_Ca_state_121) (rz_cons (rz_iret (npc := 0) (fun _ => rfl) d_Ca_state_124) rz_nil)))
  | 13 => (rz_cons (rz_aload_n G d_Ca_state_125 rfl) (rz_cons (rz_get G rfl in_Ca (by decide) wd_261 d_Ca_state_126) (rz_cons (rz_if_eq G d_Ca_state_129 (by decide)) (rz_cons (rz_aload_n G d_Ca_state_132 rfl) (rz_cons (rz_iload_n G d_Ca_state_133 rfl) (rz_cons (rz_cvi G (m_Ca_stateWhileOn X.1) cd_Ca_stateWhileOn wd_604 wd_606 wd_18 rfl rfl (by decide) d_Ca_state_134) (rz_cons (rz_goto (npc := 0) G d_Ca_state_137 (by decide)) rz_nil)))))))
  | 14 => (rz_cons (rz_iconst G d_Ca_state_140 (by decide)) (rz_fall rfl))
  | 15 => (rz_cons (rz_iret (npc := 0) (fun _ => rfl) d_Ca_state_141) rz_nil)
  | _ + 16 => rz_nil
set_option maxRecDepth 100000 in
set_option maxHeartbeats 4000000 in
theorem bd_Ca_state : ∀ (Y : Nat → rz_K) (P : rz_P), (∀ b ls st μ, rz_ex P Y (bk_Ca_state b) ls st μ → Y b ls st μ) → ∀ As μ, C_Ca_state As μ P → Y 0 (rz_pad 2 (rz_ent As)) [] μ := by
  intro Y P hY As μ hC
  obtain ⟨x, rfl, hC⟩ := hC
  refine hY 0 _ _ _ (And.intro (fun h => ?_) (fun h => ?_))
  · have hC := rzT (fun z => P (some (.int z)) μ) h hC
    exact hY 1 _ _ _ (And.intro (fun h => hY 2 _ _ _ (hY 3 _ _ _ (rzT (fun z => P (some (.int z)) μ) h hC))) (fun h => hY 3 _ _ _ (rzF (fun z => P (some (.int z)) μ) h hC)))
  have hC := rzF (fun z => P (some (.int z)) μ) h hC
  refine And.intro (fun h => hY 4 _ _ _ (rzT (fun z => P (some (.int z)) μ) h hC)) (fun h => ?_)
  have hC := rzF (fun z => P (some (.int z)) μ) h hC
  refine And.intro (fun h => hY 5 _ _ _ (rzT (fun z => P (some (.int z)) μ) h hC)) (fun h => ?_)
  have hC := rzF (fun z => P (some (.int z)) μ) h hC
  refine And.intro (fun h => hY 6 _ _ _ (rzT (fun z => P (some (.int z)) μ) h hC)) (fun h => ?_)
  have hC := rzF (fun z => P (some (.int z)) μ) h hC
  refine And.intro (fun h => ?_) (fun h => ?_)
  · have hC := rzT (fun z => P (some (.int z)) μ) h hC
    exact hY 7 _ _ _ (And.intro (fun h => hY 8 _ _ _ (hY 9 _ _ _ (rzT (fun z => P (some (.int z)) μ) h hC))) (fun h => hY 9 _ _ _ (rzF (fun z => P (some (.int z)) μ) h hC)))
  have hC := rzF (fun z => P (some (.int z)) μ) h hC
  refine And.intro (fun h => hY 10 _ _ _ (rzT (fun z => P (some (.int z)) μ) h hC)) (fun h => ?_)
  have hC := rzF (fun z => P (some (.int z)) μ) h hC
  refine And.intro (fun h => hY 11 _ _ _ (rzT (fun z => P (some (.int z)) μ) h hC)) (fun h => ?_)
  have hC := rzF (fun z => P (some (.int z)) μ) h hC
  refine And.intro (fun h => hY 12 _ _ _ (rzT (fun z => P (some (.int z)) μ) h hC)) (fun h => ?_)
  have hC := rzF (fun z => P (some (.int z)) μ) h hC
  refine hY 13 _ _ _ (And.intro (fun h => hY 14 _ _ _ (hY 15 _ _ _ (rzT (fun z => P (some (.int z)) μ) h hC))) (fun h => ⟨_, rfl, hY 15 _ _ _ (rzF (fun z => P (some (.int z)) μ) h hC)⟩))
theorem m_Ca_state (E : rz_E) : rz_MI SH CL E y_Ca_state 2 (Cond.code y_Ca_state c_Ca_state 2 (some .int) :: rz_tbl) ({ frames := 2, cells := 0, slots := 0, locals := 41 }) C_Ca_state := rz_metI (by decide) rfl (fun X _ G => sd_Ca_state X G) bd_Ca_state
theorem cd_Ca_state : rz_Cd rz_tbl y_Ca_state c_Ca_state 2 (some .int) (Cond.code y_Ca_state c_Ca_state 2 (some .int) :: rz_tbl) 1 ({ frames := 2, cells := 0, slots := 0, locals := 41 }) := ⟨rz_good wd_603, ⟨_, rfl⟩, wd_40, by decide +kernel, rfl, rfl⟩
def v_look (f x : Int32) (μ : rz_M) : Int32 := if ¬ f < 0 ∧ ¬ μ 7 6 ≤ f then (if x = 0 then μ 8 f.toNatClampNeg else if x = 1 then μ 9 f.toNatClampNeg else if x = 2 then μ 10 f.toNatClampNeg else if x = 3 then μ 11 f.toNatClampNeg else if x = 4 then μ 12 f.toNatClampNeg else -1) else -1
def C_Ca_look : rz_C := fun As μ P => ∃ f x : Int32, As = [.ref 0, .int f, .int x] ∧ μ 7 6 ≤ 8 ∧ P (some (.int (v_look f x μ))) μ
def bk_Ca_look : Nat → List rz_T := fun b => match b with
  | 0 => [tz_aload 0, tz_get SH 6 2, tz_get SH 4 0, tz_astore 3, tz_aload 3, tz_iload 1, tz_cv SH 1 2 2 C_Fi_has, tz_if_ne 1, tz_iconst (-1), tz_iret]
  | 1 => [tz_iload 2, tz_sw [(0, 2), (1, 3), (2, 4), (3, 5), (4, 6)] 7]
  | 2 => [tz_aload 3, tz_get SH 2 0, tz_iload 1, tz_iald SH, tz_iret]
  | 3 => [tz_aload 3, tz_get SH 2 1, tz_iload 1, tz_iald SH, tz_iret]
  | 4 => [tz_aload 3, tz_get SH 2 2, tz_iload 1, tz_iald SH, tz_iret]
  | 5 => [tz_aload 3, tz_get SH 2 3, tz_iload 1, tz_iald SH, tz_iret]
  | 6 => [tz_aload 3, tz_get SH 2 4, tz_iload 1, tz_iald SH, tz_iret]
  | 7 => [tz_iconst (-1), tz_iret]
  | _ => []
def bp_Ca_look : Nat → Nat := fun b => match b with
  | 0 => 0
  | 1 => 18
  | 2 => 52
  | 3 => 59
  | 4 => 66
  | 5 => 73
  | 6 => 80
  | 7 => 87
  | _ => 0
set_option maxRecDepth 100000 in
set_option maxHeartbeats 4000000 in
theorem sd_Ca_look (X : rz_X) (G : rz_Cx CL X c_Ca_look 4 rz_tbl R_Ca ({ frames := 1, cells := 0, slots := 0, locals := 21 })) : ∀ b, rz_SB SH CL X bp_Ca_look (rz_RI SH CL X c_Ca_look (fun v => narrow .int (.int v) = .int v)) (bk_Ca_look b) (bp_Ca_look b) := fun b => match b with
  | 0 => (rz_cons (rz_aload_n G d_Ca_look_0 rfl) (rz_cons (rz_get G rfl in_Ca (by decide) wd_260 d_Ca_look_1) (rz_cons (rz_getN G rfl in_Me (by decide) wn_15 d_Ca_look_4) (rz_cons (rz_astore_n G d_Ca_look_7 rfl (by decide)) (rz_cons (rz_aload_n G d_Ca_look_8 rfl) (rz_cons (rz_iload_n G d_Ca_look_9 rfl) (rz_cons (rz_cvi G (m_Fi_has X.1) cd_Fi_has wd_612 wd_284 wd_285 rfl rfl (by decide) d_Ca_look_10) (rz_cons (rz_if_ne G d_Ca_look_13 (by decide)) (rz_cons (rz_iconst G d_Ca_look_16 (by decide)) (rz_cons (rz_iret (npc := 0) (fun _ => rfl) d_Ca_look_17) rz_nil))))))))))
  | 1 => (rz_cons (rz_iload_n G d_Ca_look_18 rfl) (rz_cons (rz_table (npc := 0) G d_Ca_look_19 (by decide) (by decide) (by decide +kernel) (by decide) (by decide +kernel)) rz_nil))
  | 2 => (rz_cons (rz_aload_n G d_Ca_look_52 rfl) (rz_cons (rz_getN G rfl in_Fi (by decide) wn_7 d_Ca_look_53) (rz_cons (rz_iload_n G d_Ca_look_56 rfl) (rz_cons (rz_iald G d_Ca_look_57) (rz_cons (rz_iret (npc := 0) (fun _ => rfl) d_Ca_look_58) rz_nil)))))
  | 3 => (rz_cons (rz_aload_n G d_Ca_look_59 rfl) (rz_cons (rz_getN G rfl in_Fi (by decide) wn_9 d_Ca_look_60) (rz_cons (rz_iload_n G d_Ca_look_63 rfl) (rz_cons (rz_iald G d_Ca_look_64) (rz_cons (rz_iret (npc := 0) (fun _ => rfl) d_Ca_look_65) rz_nil)))))
  | 4 => (rz_cons (rz_aload_n G d_Ca_look_66 rfl) (rz_cons (rz_getN G rfl in_Fi (by decide) wn_11 d_Ca_look_67) (rz_cons (rz_iload_n G d_Ca_look_70 rfl) (rz_cons (rz_iald G d_Ca_look_71) (rz_cons (rz_iret (npc := 0) (fun _ => rfl) d_Ca_look_72) rz_nil)))))
  | 5 => (rz_cons (rz_aload_n G d_Ca_look_73 rfl) (rz_cons (rz_getN G rfl in_Fi (by decide) wn_12 d_Ca_look_74) (rz_cons (rz_iload_n G d_Ca_look_77 rfl) (rz_cons (rz_iald G d_Ca_look_78) (rz_cons (rz_iret (npc := 0) (fun _ => rfl) d_Ca_look_79) rz_nil)))))
  | 6 => (rz_cons (rz_aload_n G d_Ca_look_80 rfl) (rz_cons (rz_getN G rfl in_Fi (by decide) wn_13 d_Ca_look_81) (rz_cons (rz_iload_n G d_Ca_look_84 rfl) (rz_cons (rz_iald G d_Ca_look_85) (rz_cons (rz_iret (npc := 0) (fun _ => rfl) d_Ca_look_86) rz_nil)))))
  | 7 => (rz_cons (rz_iconst G d_Ca_look_87 (by decide)) (rz_cons (rz_iret (npc := 0) (fun _ => rfl) d_Ca_look_88) rz_nil))
  | _ + 8 => rz_nil
set_option maxRecDepth 100000 in
set_option maxHeartbeats 4000000 in
theorem bd_Ca_look : ∀ (Y : Nat → rz_K) (P : rz_P), (∀ b ls st μ, rz_ex P Y (bk_Ca_look b) ls st μ → Y b ls st μ) → ∀ As μ, C_Ca_look As μ P → Y 0 (rz_pad 4 (rz_ent As)) [] μ := by
  intro Y P hY As μ hC
  obtain ⟨f, x, rfl, h8, hC⟩ := hC
  refine hY 0 _ _ _ ⟨_, rfl, And.intro (fun h => ?_) (fun h => rzF (fun z => P (some (.int z)) μ) (b2_eq h) hC)⟩
  have hq := b2_ne h
  have hC := rzT (fun z => P (some (.int z)) μ) hq hC
  have hv : vp_in f 8 := vi_lt (m := 8) (Int32.not_lt.mp hq.1) (Int32.lt_of_lt_of_le (Int32.not_le.mp hq.2) h8)
  refine hY 1 _ _ _ (And.intro (fun h => hY 2 _ _ _ (And.intro hv (rzT (fun z => P (some (.int z)) μ) h hC))) (fun h => ?_))
  have hC := rzF (fun z => P (some (.int z)) μ) h hC
  refine And.intro (fun h => hY 3 _ _ _ (And.intro hv (rzT (fun z => P (some (.int z)) μ) h hC))) (fun h => ?_)
  have hC := rzF (fun z => P (some (.int z)) μ) h hC
  refine And.intro (fun h => hY 4 _ _ _ (And.intro hv (rzT (fun z => P (some (.int z)) μ) h hC))) (fun h => ?_)
  have hC := rzF (fun z => P (some (.int z)) μ) h hC
  refine And.intro (fun h => hY 5 _ _ _ (And.intro hv (rzT (fun z => P (some (.int z)) μ) h hC))) (fun h => ?_)
  have hC := rzF (fun z => P (some (.int z)) μ) h hC
  refine And.intro (fun h => hY 6 _ _ _ (And.intro hv (rzT (fun z => P (some (.int z)) μ) h hC))) (fun h => ?_)
  exact hY 7 _ _ _ (rzF (fun z => P (some (.int z)) μ) h hC)
theorem m_Ca_look (E : rz_E) : rz_MI SH CL E y_Ca_look 4 (Cond.code y_Ca_look c_Ca_look 4 (some .int) :: rz_tbl) ({ frames := 1, cells := 0, slots := 0, locals := 21 }) C_Ca_look := rz_metI (by decide) rfl (fun X _ G => sd_Ca_look X G) bd_Ca_look
theorem cd_Ca_look : rz_Cd rz_tbl y_Ca_look c_Ca_look 4 (some .int) (Cond.code y_Ca_look c_Ca_look 4 (some .int) :: rz_tbl) 2 ({ frames := 1, cells := 0, slots := 0, locals := 21 }) := ⟨rz_good wd_611, ⟨_, rfl⟩, wd_40, by decide +kernel, rfl, rfl⟩
end
section
/-! a BLOCK is answered -/
def IFl (μ : rz_M) : Prop := (∃ c : Nat, μ 7 6 = nI c ∧ 1 ≤ c ∧ c ≤ 8) ∧ (∀ i, i < 8 → ∃ z : Nat, z ≤ 24 ∧ μ 10 i = nI z)
def IAn (μ : rz_M) : Prop := ∃ a b : Nat, μ 17 1 = nI a ∧ μ 17 2 = nI b ∧ b ≤ a ∧ a ≤ 26
def ISz (μ : rz_M) : Prop := ∃ z : Nat, 1 ≤ z ∧ z ≤ 32 ∧ μ 1 8 = nI z
def IRp (μ : rz_M) : Prop := ∃ r : Nat, r ≤ 36 ∧ μ 1 5 = nI r
def IA (μ : rz_M) : Prop := IFl μ ∧ JC μ ∧ OCT (μ 2) ∧ IAn μ ∧ ISz μ ∧ IRp μ
def f_rdy (e : Int32) (μ : rz_M) : rz_M := rz_up (f_say (128 + 16 * μ 1 6 + e) 0 (fun _ => 0) μ) 1 5 0
def f_pc (μ : rz_M) : rz_M := f_piece (μ 17 2).toNatClampNeg (min (μ 1 8).toNatClampNeg ((μ 17 1).toNatClampNeg - (μ 17 2).toNatClampNeg)) ((μ 17 1).toNatClampNeg - (μ 17 2).toNatClampNeg) μ
theorem pc_eq {μ : rz_M} {a b z : Nat} (ha : μ 17 1 = nI a) (hb : μ 17 2 = nI b) (hz : μ 1 8 = nI z) (h1 : a < 2147483648) (h2 : b < 2147483648) (h3 : z < 2147483648) : f_piece b (min z (a - b)) (a - b) μ = f_pc μ := by
  unfold f_pc
  rw [nc ha h1, nc hb h2, nc hz h3]
def f_tz (s : Int32) (μ : rz_M) : Int32 × rz_M := if s < 1 then (2, μ) else if s ≤ 32 then (0, f_say 225 1 (fun _ => s) (rz_up μ 1 8 s)) else (2, μ)
def C_Ca_takeSize : rz_C := fun As μ P => ∃ s : Int32, As = [.ref 0, .int s] ∧ PQ P (f_tz s μ)
def bk_Ca_takeSize : Nat → List rz_T := fun b => match b with
  | 0 => [tz_iload 1, tz_iconst 1, tz_icmp_lt 1, tz_iload 1, tz_bipush 32, tz_icmp_le 2, tz_fall 1]
  | 1 => [tz_iconst 2, tz_iret]
  | 2 => [tz_aload 0, tz_get SH 6 0, tz_iload 1, tz_put SH 3 8, tz_aload 0, tz_get SH 6 0, tz_cv SH 0 3 1 C_Li_sendSize, tz_iconst 0, tz_iret]
  | _ => []
def bp_Ca_takeSize : Nat → Nat := fun b => match b with
  | 0 => 0
  | 1 => 11
  | 2 => 13
  | _ => 0
set_option maxRecDepth 100000 in
set_option maxHeartbeats 4000000 in
theorem sd_Ca_takeSize (X : rz_X) (G : rz_Cx CL X c_Ca_takeSize 2 rz_tbl R_Ca ({ frames := 3, cells := 0, slots := 0, locals := 63 })) : ∀ b, rz_SB SH CL X bp_Ca_takeSize (rz_RI SH CL X c_Ca_takeSize (fun v => narrow .int (.int v) = .int v)) (bk_Ca_takeSize b) (bp_Ca_takeSize b) := fun b => match b with
  | 0 => (rz_cons (rz_iload_n G d_Ca_takeSize_0 rfl) (rz_cons (rz_iconst G d_Ca_takeSize_1 (by decide)) (rz_cons (rz_icmp_lt G d_Ca_takeSize_2 (by decide)) (rz_cons (rz_iload_n G d_Ca_takeSize_5 rfl) (rz_cons (rz_bipush G d_Ca_takeSize_6 (by decide)) (rz_cons (rz_icmp_le G d_Ca_takeSize_8 (by decide)) (rz_fall rfl)))))))
  | 1 => (rz_cons (rz_iconst G d_Ca_takeSize_11 (by decide)) (rz_cons (rz_iret (npc := 0) (fun _ => rfl) d_Ca_takeSize_12) rz_nil))
  | 2 => (rz_cons (rz_aload_n G d_Ca_takeSize_13 rfl) (rz_cons (rz_get G rfl in_Ca (by decide) wd_258 d_Ca_takeSize_14) (rz_cons (rz_iload_n G d_Ca_takeSize_17 rfl) (rz_cons (rz_putN G rfl in_Li ty_Li tyok_Li nm_Li (by decide) rfl (by decide +kernel) wn_6 d_Ca_takeSize_18) (rz_cons (rz_aload_n G d_Ca_takeSize_21 rfl) (rz_cons (rz_get G rfl in_Ca (by decide) wd_258 d_Ca_takeSize_22) (rz_cons (rz_cvv G (m_Li_sendSize X.1) cd_Li_sendSize wd_575 wd_576 wd_577 rfl rfl (by decide) d_Ca_takeSize_25) (rz_cons (rz_iconst G d_Ca_takeSize_28 (by decide)) (rz_cons (rz_iret (npc := 0) (fun _ => rfl) d_Ca_takeSize_29) rz_nil)))))))))
  | _ + 3 => rz_nil
set_option maxRecDepth 100000 in
set_option maxHeartbeats 4000000 in
theorem bd_Ca_takeSize : ∀ (Y : Nat → rz_K) (P : rz_P), (∀ b ls st μ, rz_ex P Y (bk_Ca_takeSize b) ls st μ → Y b ls st μ) → ∀ As μ, C_Ca_takeSize As μ P → Y 0 (rz_pad 2 (rz_ent As)) [] μ := by
  intro Y P hY As μ hC
  obtain ⟨s, rfl, hC⟩ := hC
  refine hY 0 _ _ _ (And.intro (fun h => hY 1 _ _ _ (rzT (PQ P) h hC)) (fun h => ?_))
  have hC := rzF (PQ P) h hC
  exact And.intro (fun h => hY 2 _ _ _ (And.intro rfl (rzT (PQ P) h hC))) (fun h => hY 1 _ _ _ (rzF (PQ P) h hC))
theorem m_Ca_takeSize (E : rz_E) : rz_MI SH CL E y_Ca_takeSize 2 (Cond.code y_Ca_takeSize c_Ca_takeSize 2 (some .int) :: rz_tbl) ({ frames := 3, cells := 0, slots := 0, locals := 63 }) C_Ca_takeSize := rz_metI (by decide) rfl (fun X _ G => sd_Ca_takeSize X G) bd_Ca_takeSize
theorem cd_Ca_takeSize : rz_Cd rz_tbl y_Ca_takeSize c_Ca_takeSize 2 (some .int) (Cond.code y_Ca_takeSize c_Ca_takeSize 2 (some .int) :: rz_tbl) 1 ({ frames := 3, cells := 0, slots := 0, locals := 63 }) := ⟨rz_good wd_574, ⟨_, rfl⟩, wd_40, by decide +kernel, rfl, rfl⟩
def f_tS (p : Int32) (μ : rz_M) : Int32 × rz_M :=
  if p = 193 then (if μ 2 2 = 1 then f_tz (μ 2 3) μ else (2, μ)) else
  (if μ 2 2 = 0 then (if p = 192 then (0, f_say (p + 32) 0 (fun _ => 0) (f_resync (f_forget μ))) else (0, f_say (p + 32) 0 (fun _ => 0) (f_forget μ))) else (2, μ))
def C_Ca_takeSupervision : rz_C := fun As μ P => ∃ p : Int32, As = [.ref 0, .int p] ∧ PQ P (f_tS p μ)
def bk_Ca_takeSupervision : Nat → List rz_T := fun b => match b with
  | 0 => [tz_aload 0, tz_get SH 6 0, tz_cv SH 0 3 1 C_Li_infLength, tz_iload 1, tz_sipush 193, tz_icmp_ne 1, tz_iconst 1, tz_goto 2]
  | 1 => [tz_iconst 0, tz_fall 2]
  | 2 => [tz_icmp_eq 3, tz_iconst 2, tz_iret]
  | 3 => [tz_iload 1, tz_sipush 193, tz_icmp_ne 4, tz_aload 0, tz_aload 0, tz_get SH 6 0, tz_iconst 0, tz_cv SH 1 3 2 C_Li_inf, tz_cv SH 1 6 2 C_Ca_takeSize, tz_iret]
  | 4 => [tz_aload 0, tz_get SH 6 1, tz_cv SH 0 5 1 C_Wo_forgetExchange, tz_iload 1, tz_sipush 192, tz_icmp_ne 5, tz_aload 0, tz_get SH 6 0, tz_cv SH 0 3 1 C_Li_resync, tz_fall 5]
  | 5 => [tz_aload 0, tz_get SH 6 0, tz_iload 1, tz_bipush 32, tz_iadd, tz_cv SH 1 3 2 C_Li_sendSupervision, tz_iconst 0, tz_iret]
  | _ => []
def bp_Ca_takeSupervision : Nat → Nat := fun b => match b with
  | 0 => 0
  | 1 => 18
  | 2 => 19
  | 3 => 24
  | 4 => 44
  | 5 => 65
  | _ => 0
set_option maxRecDepth 100000 in
set_option maxHeartbeats 4000000 in
theorem sd_Ca_takeSupervision (X : rz_X) (G : rz_Cx CL X c_Ca_takeSupervision 2 rz_tbl R_Ca ({ frames := 4, cells := 0, slots := 0, locals := 84 })) : ∀ b, rz_SB SH CL X bp_Ca_takeSupervision (rz_RI SH CL X c_Ca_takeSupervision (fun v => narrow .int (.int v) = .int v)) (bk_Ca_takeSupervision b) (bp_Ca_takeSupervision b) := fun b => match b with
  | 0 => (rz_cons (rz_aload_n G d_Ca_takeSupervision_0 rfl) (rz_cons (rz_get G rfl in_Ca (by decide) wd_258 d_Ca_takeSupervision_1) (rz_cons (rz_cvi G (m_Li_infLength X.1) cd_Li_infLength wd_397 wd_370 wd_371 rfl rfl (by decide) d_Ca_takeSupervision_4) (rz_cons (rz_iload_n G d_Ca_takeSupervision_7 rfl) (rz_cons (rz_sipush G d_Ca_takeSupervision_8 (by decide)) (rz_cons (rz_icmp_ne G d_Ca_takeSupervision_11 (by decide)) (rz_cons (rz_iconst G d_Ca_takeSupervision_14 (by decide)) (rz_cons (rz_goto (npc := 0) G d_Ca_takeSupervision_15 (by decide)) rz_nil))))))))
  | 1 => (rz_cons (rz_iconst G d_Ca_takeSupervision_18 (by decide)) (rz_fall rfl))
  | 2 => (rz_cons (rz_icmp_eq G d_Ca_takeSupervision_19 (by decide)) (rz_cons (rz_iconst G d_Ca_takeSupervision_22 (by decide)) (rz_cons (rz_iret (npc := 0) (fun _ => rfl) d_Ca_takeSupervision_23) rz_nil)))
  | 3 => (rz_cons (rz_iload_n G d_Ca_takeSupervision_24 rfl) (rz_cons (rz_sipush G d_Ca_takeSupervision_25 (by decide)) (rz_cons (rz_icmp_ne G d_Ca_takeSupervision_28 (by decide)) (rz_cons (rz_aload_n G d_Ca_takeSupervision_31 rfl) (rz_cons (rz_aload_n G d_Ca_takeSupervision_32 rfl) (rz_cons (rz_get G rfl in_Ca (by decide) wd_258 d_Ca_takeSupervision_33) (rz_cons (rz_iconst G d_Ca_takeSupervision_36 (by decide)) (rz_cons (rz_cvi G (m_Li_inf X.1) cd_Li_inf wd_398 wd_399 wd_400 rfl rfl (by decide) d_Ca_takeSupervision_37) (rz_cons (rz_cvi G (m_Ca_takeSize X.1) cd_Ca_takeSize wd_571 wd_573 wd_17 rfl rfl (by decide) d_Ca_takeSupervision_40) (rz_cons (rz_iret (npc := 0) (fun _ => rfl) d_Ca_takeSupervision_43) rz_nil))))))))))
  | 4 => (rz_cons (rz_aload_n G d_Ca_takeSupervision_44 rfl) (rz_cons (rz_get G rfl in_Ca (by decide) wd_259 d_Ca_takeSupervision_45) (rz_cons (rz_cvv G (m_Wo_forgetExchange X.1) cd_Wo_forgetExchange wd_579 wd_319 wd_320 rfl rfl (by decide) d_Ca_takeSupervision_48) (rz_cons (rz_iload_n G d_Ca_takeSupervision_51 rfl) (rz_cons (rz_sipush G d_Ca_takeSupervision_52 (by decide)) (rz_cons (rz_icmp_ne G d_Ca_takeSupervision_55 (by decide)) (rz_cons (rz_aload_n G d_Ca_takeSupervision_58 rfl) (rz_cons (rz_get G rfl in_Ca (by decide) wd_258 d_Ca_takeSupervision_59) (rz_cons (rz_cvv G (m_Li_resync X.1) cd_Li_resync wd_580 wd_311 wd_312 rfl rfl (by decide) d_Ca_takeSupervision_62) (rz_fall rfl))))))))))
  | 5 => (rz_cons (rz_aload_n G d_Ca_takeSupervision_65 rfl) (rz_cons (rz_get G rfl in_Ca (by decide) wd_258 d_Ca_takeSupervision_66) (rz_cons (rz_iload_n G d_Ca_takeSupervision_69 rfl) (rz_cons (rz_bipush G d_Ca_takeSupervision_70 (by decide)) (rz_cons (rz_iadd G d_Ca_takeSupervision_72) (rz_cons (rz_cvv G (m_Li_sendSupervision X.1) cd_Li_sendSupervision wd_581 wd_582 wd_583 rfl rfl (by decide) d_Ca_takeSupervision_73) (rz_cons (rz_iconst G d_Ca_takeSupervision_76 (by decide)) (rz_cons (rz_iret (npc := 0) (fun _ => rfl) d_Ca_takeSupervision_77) rz_nil))))))))
  | _ + 6 => rz_nil
set_option maxRecDepth 100000 in
set_option maxHeartbeats 4000000 in
theorem bd_Ca_takeSupervision : ∀ (Y : Nat → rz_K) (P : rz_P), (∀ b ls st μ, rz_ex P Y (bk_Ca_takeSupervision b) ls st μ → Y b ls st μ) → ∀ As μ, C_Ca_takeSupervision As μ P → Y 0 (rz_pad 2 (rz_ent As)) [] μ := by
  intro Y P hY As μ hC
  obtain ⟨p, rfl, hC⟩ := hC
  by_cases hp : p = 193
  · have hC := rzT (PQ P) hp hC
    refine hY 0 _ _ _ (And.intro rfl (And.intro (fun h => absurd hp h) (fun _ => ?_)))
    refine hY 2 _ _ _ (And.intro (fun h => ?_) (fun h => rzF (PQ P) h hC))
    have hC := rzT (PQ P) h hC
    exact hY 3 _ _ _ (And.intro (fun h => absurd hp h) (fun _ => ⟨0, rfl, by decide, _, rfl, hC⟩))
  · have hC := rzF (PQ P) hp hC
    refine hY 0 _ _ _ (And.intro rfl (And.intro (fun _ => hY 1 _ _ _ ?_) (fun h => absurd h hp)))
    refine hY 2 _ _ _ (And.intro (fun h => ?_) (fun h => rzF (PQ P) h hC))
    have hC := rzT (PQ P) h hC
    refine hY 3 _ _ _ (And.intro (fun _ => ?_) (fun h => absurd h hp))
    refine hY 4 _ _ _ (And.intro rfl (And.intro (fun h => ?_) (fun h => ?_)))
    · exact hY 5 _ _ _ ⟨_, rfl, rzF (PQ P) h hC⟩
    · exact And.intro rfl (hY 5 _ _ _ ⟨_, rfl, rzT (PQ P) h hC⟩)
theorem m_Ca_takeSupervision (E : rz_E) : rz_MI SH CL E y_Ca_takeSupervision 2 (Cond.code y_Ca_takeSupervision c_Ca_takeSupervision 2 (some .int) :: rz_tbl) ({ frames := 4, cells := 0, slots := 0, locals := 84 }) C_Ca_takeSupervision := rz_metI (by decide) rfl (fun X _ G => sd_Ca_takeSupervision X G) bd_Ca_takeSupervision
theorem cd_Ca_takeSupervision : rz_Cd rz_tbl y_Ca_takeSupervision c_Ca_takeSupervision 2 (some .int) (Cond.code y_Ca_takeSupervision c_Ca_takeSupervision 2 (some .int) :: rz_tbl) 1 ({ frames := 4, cells := 0, slots := 0, locals := 84 }) := ⟨rz_good wd_570, ⟨_, rfl⟩, wd_40, by decide +kernel, rfl, rfl⟩
def f_tR (n : Int32) (μ : rz_M) : Int32 × rz_M :=
  if μ 2 2 = 0 then
    (if n = μ 1 7 ∧ ¬ μ 17 1 - μ 17 2 ≤ 0 then (0, f_pc μ) else if ¬ n = μ 1 7 ∧ ¬ μ 1 5 ≤ 0 then (0, f_again (μ 1 5).toNatClampNeg μ) else (0, f_rdy 0 μ))
  else (2, μ)
def C_Ca_takeReady : rz_C := fun As μ P => ∃ n : Int32, As = [.ref 0, .int n] ∧ IAn μ ∧ ISz μ ∧ IRp μ ∧ PQ P (f_tR n μ)
def bk_Ca_takeReady : Nat → List rz_T := fun b => match b with
  | 0 => [tz_aload 0, tz_get SH 6 0, tz_cv SH 0 3 1 C_Li_infLength, tz_if_eq 1, tz_iconst 2, tz_iret]
  | 1 => [tz_iload 1, tz_aload 0, tz_get SH 6 0, tz_get SH 3 7, tz_icmp_ne 2, tz_aload 0, tz_get SH 6 1, tz_get SH 5 2, tz_cv SH 0 0 1 C_An_left, tz_if_le 2, tz_aload 0, tz_get SH 6 0, tz_aload 0, tz_get SH 6 1, tz_get SH 5 2, tz_cv SH 1 3 4 C_Li_sendPiece, tz_goto 4]
  | 2 => [tz_iload 1, tz_aload 0, tz_get SH 6 0, tz_get SH 3 7, tz_icmp_eq 3, tz_aload 0, tz_get SH 6 0, tz_get SH 3 5, tz_if_le 3, tz_aload 0, tz_get SH 6 0, tz_cv SH 0 3 1 C_Li_sendAgain, tz_goto 4]
  | 3 => [tz_aload 0, tz_get SH 6 0, tz_iconst 0, tz_cv SH 1 3 2 C_Li_sendReady, tz_fall 4]
  | 4 => [tz_iconst 0, tz_iret]
  | _ => []
def bp_Ca_takeReady : Nat → Nat := fun b => match b with
  | 0 => 0
  | 1 => 12
  | 2 => 53
  | 3 => 84
  | 4 => 92
  | _ => 0
set_option maxRecDepth 100000 in
set_option maxHeartbeats 4000000 in
theorem sd_Ca_takeReady (X : rz_X) (G : rz_Cx CL X c_Ca_takeReady 2 rz_tbl R_Ca ({ frames := 3, cells := 0, slots := 0, locals := 66 })) : ∀ b, rz_SB SH CL X bp_Ca_takeReady (rz_RI SH CL X c_Ca_takeReady (fun v => narrow .int (.int v) = .int v)) (bk_Ca_takeReady b) (bp_Ca_takeReady b) := fun b => match b with
  | 0 => (rz_cons (rz_aload_n G d_Ca_takeReady_0 rfl) (rz_cons (rz_get G rfl in_Ca (by decide) wd_258 d_Ca_takeReady_1) (rz_cons (rz_cvi G (m_Li_infLength X.1) cd_Li_infLength wd_397 wd_370 wd_371 rfl rfl (by decide) d_Ca_takeReady_4) (rz_cons (rz_if_eq G d_Ca_takeReady_7 (by decide)) (rz_cons (rz_iconst G d_Ca_takeReady_10 (by decide)) (rz_cons (rz_iret (npc := 0) (fun _ => rfl) d_Ca_takeReady_11) rz_nil))))))
  | 1 => (rz_cons (rz_iload_n G d_Ca_takeReady_12 rfl) (rz_cons (rz_aload_n G d_Ca_takeReady_13 rfl) (rz_cons (rz_get G rfl in_Ca (by decide) wd_258 d_Ca_takeReady_14) (rz_cons (rz_getN G rfl in_Li (by decide) wn_5 d_Ca_takeReady_17) (rz_cons (rz_icmp_ne G d_Ca_takeReady_20 (by decide)) (rz_cons (rz_aload_n G d_Ca_takeReady_23 rfl) (rz_cons (rz_get G rfl in_Ca (by decide) wd_259 d_Ca_takeReady_24) (rz_cons (rz_getN G rfl in_Wo (by decide) wn_31 d_Ca_takeReady_27) (rz_cons (rz_cvi G (m_An_left X.1) cd_An_left wd_562 wd_543 wd_544 rfl rfl (by decide) d_Ca_takeReady_30) (rz_cons (rz_if_le G d_Ca_takeReady_33 (by decide)) (rz_cons (rz_aload_n G d_Ca_takeReady_36 rfl) (rz_cons (rz_get G rfl in_Ca (by decide) wd_258 d_Ca_takeReady_37) (rz_cons (rz_aload_n G d_Ca_takeReady_40 rfl) (rz_cons (rz_get G rfl in_Ca (by decide) wd_259 d_Ca_takeReady_41) (rz_cons (rz_getN G rfl in_Wo (by decide) wn_31 d_Ca_takeReady_44) (rz_cons (rz_cvv G (m_Li_sendPiece X.1) cd_Li_sendPiece wd_538 wd_539 wd_540 rfl rfl (by decide) d_Ca_takeReady_47) (rz_cons (rz_goto (npc := 0) G d_Ca_takeReady_50 (by decide)) rz_nil)))))))))))))))))
  | 2 => (rz_cons (rz_iload_n G d_Ca_takeReady_53 rfl) (rz_cons (rz_aload_n G d_Ca_takeReady_54 rfl) (rz_cons (rz_get G rfl in_Ca (by decide) wd_258 d_Ca_takeReady_55) (rz_cons (rz_getN G rfl in_Li (by decide) wn_5 d_Ca_takeReady_58) (rz_cons (rz_icmp_eq G d_Ca_takeReady_61 (by decide)) (rz_cons (rz_aload_n G d_Ca_takeReady_64 rfl) (rz_cons (rz_get G rfl in_Ca (by decide) wd_258 d_Ca_takeReady_65) (rz_cons (rz_getN G rfl in_Li (by decide) wn_3 d_Ca_takeReady_68) (rz_cons (rz_if_le G d_Ca_takeReady_71 (by decide)) (rz_cons (rz_aload_n G d_Ca_takeReady_74 rfl) (rz_cons (rz_get G rfl in_Ca (by decide) wd_258 d_Ca_takeReady_75) (rz_cons (rz_cvv G (m_Li_sendAgain X.1) cd_Li_sendAgain wd_563 wd_564 wd_565 rfl rfl (by decide) d_Ca_takeReady_78) (rz_cons (rz_goto (npc := 0) G d_Ca_takeReady_81 (by decide)) rz_nil)))))))))))))
  | 3 => (rz_cons (rz_aload_n G d_Ca_takeReady_84 rfl) (rz_cons (rz_get G rfl in_Ca (by decide) wd_258 d_Ca_takeReady_85) (rz_cons (rz_iconst G d_Ca_takeReady_88 (by decide)) (rz_cons (rz_cvv G (m_Li_sendReady X.1) cd_Li_sendReady wd_406 wd_407 wd_408 rfl rfl (by decide) d_Ca_takeReady_89) (rz_fall rfl)))))
  | 4 => (rz_cons (rz_iconst G d_Ca_takeReady_92 (by decide)) (rz_cons (rz_iret (npc := 0) (fun _ => rfl) d_Ca_takeReady_93) rz_nil))
  | _ + 5 => rz_nil
set_option maxRecDepth 100000 in
set_option maxHeartbeats 4000000 in
theorem bd_Ca_takeReady : ∀ (Y : Nat → rz_K) (P : rz_P), (∀ b ls st μ, rz_ex P Y (bk_Ca_takeReady b) ls st μ → Y b ls st μ) → ∀ As μ, C_Ca_takeReady As μ P → Y 0 (rz_pad 2 (rz_ent As)) [] μ := by
  intro Y P hY As μ hC
  obtain ⟨n, rfl, hA, hS, hR, hC⟩ := hC
  refine hY 0 _ _ _ (And.intro rfl (And.intro (fun h => ?_) (fun h => rzF (PQ P) h hC)))
  have hC := rzT (PQ P) h hC
  have two : ¬ (n = μ 1 7 ∧ ¬ μ 17 1 - μ 17 2 ≤ 0) → Y 2 [some (.ref 0), some (.int n)] [] μ := by
    intro hn
    have hC := rzF (PQ P) hn hC
    refine hY 2 _ _ _ (And.intro (fun h => ?_) (fun h => And.intro (fun h2 => ?_) (fun h2 => ?_)))
    · exact hY 3 _ _ _ ⟨_, rfl, hY 4 _ _ _ (rzF (PQ P) (fun q => q.1 h) hC)⟩
    · exact hY 3 _ _ _ ⟨_, rfl, hY 4 _ _ _ (rzF (PQ P) (fun q => q.2 h2) hC)⟩
    · have hC := rzT (PQ P) ⟨h, h2⟩ hC
      obtain ⟨r, hr, e⟩ := hR
      rw [nc e (by omega)] at hC
      exact ⟨r, rfl, e, hr, hY 4 _ _ _ hC⟩
  refine hY 1 _ _ _ (And.intro (fun h => two (fun q => h q.1)) (fun h => And.intro rfl (And.intro (fun h2 => two (fun q => q.2 h2)) (fun h2 => ?_))))
  obtain ⟨a, b, ha, hb, hba, h26⟩ := hA
  obtain ⟨z, z1, z32, hz⟩ := hS
  refine ⟨a, b, z, rfl, ha, hb, hz, hba, h26, z32, ?_⟩
  rw [pc_eq ha hb hz (by omega) (by omega) (by omega)]
  exact hY 4 _ _ _ (rzT (PQ P) ⟨h, h2⟩ hC)
theorem m_Ca_takeReady (E : rz_E) : rz_MI SH CL E y_Ca_takeReady 2 (Cond.code y_Ca_takeReady c_Ca_takeReady 2 (some .int) :: rz_tbl) ({ frames := 3, cells := 0, slots := 0, locals := 66 }) C_Ca_takeReady := rz_metI (by decide) rfl (fun X _ G => sd_Ca_takeReady X G) bd_Ca_takeReady
theorem cd_Ca_takeReady : rz_Cd rz_tbl y_Ca_takeReady c_Ca_takeReady 2 (some .int) (Cond.code y_Ca_takeReady c_Ca_takeReady 2 (some .int) :: rz_tbl) 1 ({ frames := 3, cells := 0, slots := 0, locals := 66 }) := ⟨rz_good wd_561, ⟨_, rfl⟩, wd_40, by decide +kernel, rfl, rfl⟩
def f_cc (ρ : rz_M) : rz_M := rz_up ρ 0 4 (ρ 0 4 + 1)
def f_tI1 (m : Int32) (ν : rz_M) : rz_M := if m = 0 then (if ¬ (f_perf ν).1 = -1 then f_pc (f_cc (f_conc (f_perf ν).1 (f_perf ν).2)) else f_pd (f_perf ν).2) else f_rdy 0 ν
def f_tI0 (μ : rz_M) : rz_M := f_adds (μ 2 2).toNatClampNeg 0 (rz_up (rz_up (rz_up μ 1 6 (μ 1 6 ^^^ 1)) 17 1 0) 17 2 0)
def f_tI (n m : Int32) (μ : rz_M) : Int32 × rz_M := if n = μ 1 6 then (0, f_tI1 m (f_tI0 μ)) else (2, μ)
theorem f_conc_17 {s : Int32} {μ : rz_M} {a : Nat} (h : μ 17 1 = nI a) (ha : a ≤ 24) : f_conc s μ 17 1 = nI (a + 2) ∧ f_conc s μ 17 2 = μ 17 2 := by
  unfold f_conc
  have e1 : (f_An_add (s >>> ((8 : Int32) &&& 31)) (rz_up (rz_up μ 15 1 0) 15 2 0)) = _ := f_An_nI (a := a) (show rz_up (rz_up μ 15 1 0) 15 2 0 17 1 = nI a from h) (by omega)
  rw [e1, f_An_nI (a := a + 1) rfl (by omega)]
  exact ⟨rfl, rfl⟩
theorem f_conc_ne {s : Int32} {μ : rz_M} {k : Nat} (h15 : k ≠ 15) (h17 : k ≠ 17) (h18 : k ≠ 18) : f_conc s μ k = μ k := by
  unfold f_conc f_An_add
  repeat' split
  all_goals simp only [rz_up_k h15, rz_up_k h17, rz_up_k h18]
def C_Ca_takeInformation : rz_C := fun As μ P => ∃ (n m : Int32) (l : Nat), As = [.ref 0, .int n, .int m] ∧ IA μ ∧ μ 2 2 = nI l ∧ l ≤ 32 ∧ PQ P (f_tI n m μ)
def bk_Ca_takeInformation : Nat → List rz_T := fun b => match b with
  | 0 => [tz_iload 1, tz_aload 0, tz_get SH 6 0, tz_get SH 3 6, tz_icmp_eq 1, tz_iconst 2, tz_iret]
  | 1 => [tz_aload 0, tz_get SH 6 0, tz_dup, tz_get SH 3 6, tz_iconst 1, tz_ixor, tz_put SH 3 6, tz_aload 0, tz_get SH 6 1, tz_get SH 5 2, tz_cv SH 0 0 1 C_An_clear, tz_iconst 0, tz_istore 3, tz_fall 2]
  | 2 => [tz_iload 3, tz_aload 0, tz_get SH 6 0, tz_cv SH 0 3 1 C_Li_infLength, tz_icmp_ge 3, tz_aload 0, tz_get SH 6 1, tz_get SH 5 1, tz_aload 0, tz_get SH 6 0, tz_iload 3, tz_cv SH 1 3 2 C_Li_inf, tz_cv SH 1 1 2 C_Co_add, tz_iinc 3 1, tz_goto 2]
  | 3 => [tz_iload 2, tz_if_eq 4, tz_aload 0, tz_get SH 6 0, tz_iconst 0, tz_cv SH 1 3 2 C_Li_sendReady, tz_iconst 0, tz_iret]
  | 4 => [tz_aload 0, tz_get SH 6 1, tz_cv SH 0 5 1 C_Wo_perform, tz_istore 3, tz_iload 3, tz_iconst (-1), tz_icmp_ne 5, tz_aload 0, tz_cv SH 0 6 1 C_Ca_powerDown, tz_goto 6]
  | 5 => [tz_aload 0, tz_get SH 6 1, tz_iload 3, tz_cv SH 1 5 2 C_Wo_conclude, tz_aload 0, tz_dup, tz_get SH 6 4, tz_iconst 1, tz_iadd, tz_put SH 6 4, tz_aload 0, tz_get SH 6 0, tz_aload 0, tz_get SH 6 1, tz_get SH 5 2, tz_cv SH 1 3 4 C_Li_sendPiece, tz_fall 6]
  | 6 => [tz_iconst 0, tz_iret]
  | _ => []
def bp_Ca_takeInformation : Nat → Nat := fun b => match b with
  | 0 => 0
  | 1 => 13
  | 2 => 38
  | 3 => 73
  | 4 => 87
  | 5 => 107
  | 6 => 139
  | _ => 0
set_option maxRecDepth 100000 in
set_option maxHeartbeats 4000000 in
theorem sd_Ca_takeInformation (X : rz_X) (G : rz_Cx CL X c_Ca_takeInformation 4 rz_tbl R_Ca ({ frames := 4, cells := 0, slots := 0, locals := 89 })) : ∀ b, rz_SB SH CL X bp_Ca_takeInformation (rz_RI SH CL X c_Ca_takeInformation (fun v => narrow .int (.int v) = .int v)) (bk_Ca_takeInformation b) (bp_Ca_takeInformation b) := fun b => match b with
  | 0 => (rz_cons (rz_iload_n G d_Ca_takeInformation_0 rfl) (rz_cons (rz_aload_n G d_Ca_takeInformation_1 rfl) (rz_cons (rz_get G rfl in_Ca (by decide) wd_258 d_Ca_takeInformation_2) (rz_cons (rz_getN G rfl in_Li (by decide) wn_4 d_Ca_takeInformation_5) (rz_cons (rz_icmp_eq G d_Ca_takeInformation_8 (by decide)) (rz_cons (rz_iconst G d_Ca_takeInformation_11 (by decide)) (rz_cons (rz_iret (npc := 0) (fun _ => rfl) d_Ca_takeInformation_12) rz_nil)))))))
  | 1 => (rz_cons (rz_aload_n G d_Ca_takeInformation_13 rfl) (rz_cons (rz_get G rfl in_Ca (by decide) wd_258 d_Ca_takeInformation_14) (rz_cons (rz_dup G d_Ca_takeInformation_17) (rz_cons (rz_getN G rfl in_Li (by decide) wn_4 d_Ca_takeInformation_18) (rz_cons (rz_iconst G d_Ca_takeInformation_21 (by decide)) (rz_cons (rz_ixor G d_Ca_takeInformation_22) (rz_cons (rz_putN G rfl in_Li ty_Li tyok_Li nm_Li (by decide) rfl (by decide +kernel) wn_4 d_Ca_takeInformation_23) (rz_cons (rz_aload_n G d_Ca_takeInformation_26 rfl) (rz_cons (rz_get G rfl in_Ca (by decide) wd_259 d_Ca_takeInformation_27) (rz_cons (rz_getN G rfl in_Wo (by decide) wn_31 d_Ca_takeInformation_30) (rz_cons (rz_cvv G (m_An_clear X.1) cd_An_clear wd_396 wd_327 wd_328 rfl rfl (by decide) d_Ca_takeInformation_33) (rz_cons (rz_iconst G d_Ca_takeInformation_36 (by decide)) (rz_cons (rz_istore_n G d_Ca_takeInformation_37 rfl (by decide)) (rz_fall rfl))))))))))))))
  | 2 => (rz_cons (rz_iload_n G d_Ca_takeInformation_38 rfl) (rz_cons (rz_aload_n G d_Ca_takeInformation_39 rfl) (rz_cons (rz_get G rfl in_Ca (by decide) wd_258 d_Ca_takeInformation_40) (rz_cons (rz_cvi G (m_Li_infLength X.1) cd_Li_infLength wd_397 wd_370 wd_371 rfl rfl (by decide) d_Ca_takeInformation_43) (rz_cons (rz_icmp_ge G d_Ca_takeInformation_46 (by decide)) (rz_cons (rz_aload_n G d_Ca_takeInformation_49 rfl) (rz_cons (rz_get G rfl in_Ca (by decide) wd_259 d_Ca_takeInformation_50) (rz_cons (rz_getN G rfl in_Wo (by decide) wn_30 d_Ca_takeInformation_53) (rz_cons (rz_aload_n G d_Ca_takeInformation_56 rfl) (rz_cons (rz_get G rfl in_Ca (by decide) wd_258 d_Ca_takeInformation_57) (rz_cons (rz_iload_n G d_Ca_takeInformation_60 rfl) (rz_cons (rz_cvi G (m_Li_inf X.1) cd_Li_inf wd_398 wd_399 wd_400 rfl rfl (by decide) d_Ca_takeInformation_61) (rz_cons (rz_cvv G (m_Co_add X.1) cd_Co_add wd_402 wd_403 wd_404 rfl rfl (by decide) d_Ca_takeInformation_64) (rz_cons (rz_iinc G d_Ca_takeInformation_67 (by decide) (by decide)) (rz_cons (rz_goto (npc := 0) G d_Ca_takeInformation_70 (by decide)) rz_nil)))))))))))))))
  | 3 => (rz_cons (rz_iload_n G d_Ca_takeInformation_73 rfl) (rz_cons (rz_if_eq G d_Ca_takeInformation_74 (by decide)) (rz_cons (rz_aload_n G d_Ca_takeInformation_77 rfl) (rz_cons (rz_get G rfl in_Ca (by decide) wd_258 d_Ca_takeInformation_78) (rz_cons (rz_iconst G d_Ca_takeInformation_81 (by decide)) (rz_cons (rz_cvv G (m_Li_sendReady X.1) cd_Li_sendReady wd_406 wd_407 wd_408 rfl rfl (by decide) d_Ca_takeInformation_82) (rz_cons (rz_iconst G d_Ca_takeInformation_85 (by decide)) (rz_cons (rz_iret (npc := 0) (fun _ => rfl) d_Ca_takeInformation_86) rz_nil))))))))
  | 4 => (rz_cons (rz_aload_n G d_Ca_takeInformation_87 rfl) (rz_cons (rz_get G rfl in_Ca (by decide) wd_259 d_Ca_takeInformation_88) (rz_cons (rz_cvi G (m_Wo_perform X.1) cd_Wo_perform wd_418 wd_419 wd_420 rfl rfl (by decide) d_Ca_takeInformation_91) (rz_cons (rz_istore_n G d_Ca_takeInformation_94 rfl (by decide)) (rz_cons (rz_iload_n G d_Ca_takeInformation_95 rfl) (rz_cons (rz_iconst G d_Ca_takeInformation_96 (by decide)) (rz_cons (rz_icmp_ne G d_Ca_takeInformation_97 (by decide)) (rz_cons (rz_aload_n G d_Ca_takeInformation_100 rfl) (rz_cons (rz_cvv G (m_Ca_powerDown X.1) cd_Ca_powerDown wd_302 wd_304 wd_0 rfl rfl (by decide) d_Ca_takeInformation_101) (rz_cons (rz_goto (npc := 0) G d_Ca_takeInformation_104 (by decide)) rz_nil))))))))))
  | 5 => (rz_cons (rz_aload_n G d_Ca_takeInformation_107 rfl) (rz_cons (rz_get G rfl in_Ca (by decide) wd_259 d_Ca_takeInformation_108) (rz_cons (rz_iload_n G d_Ca_takeInformation_111 rfl) (rz_cons (rz_cvv G (m_Wo_conclude X.1) cd_Wo_conclude wd_534 wd_535 wd_536 rfl rfl (by decide) d_Ca_takeInformation_112) (rz_cons (rz_aload_n G d_Ca_takeInformation_115 rfl) (rz_cons (rz_dup G d_Ca_takeInformation_116) (rz_cons (rz_get G rfl in_Ca (by decide) wd_262 d_Ca_takeInformation_117) (rz_cons (rz_iconst G d_Ca_takeInformation_120 (by decide)) (rz_cons (rz_iadd G d_Ca_takeInformation_121) (rz_cons (rz_put G rfl in_Ca ty_Ca tyok_Ca nm_Ca (by decide) rfl (by decide +kernel) wd_262 d_Ca_takeInformation_122) (rz_cons (rz_aload_n G d_Ca_takeInformation_125 rfl) (rz_cons (rz_get G rfl in_Ca (by decide) wd_258 d_Ca_takeInformation_126) (rz_cons (rz_aload_n G d_Ca_takeInformation_129 rfl) (rz_cons (rz_get G rfl in_Ca (by decide) wd_259 d_Ca_takeInformation_130) (rz_cons (rz_getN G rfl in_Wo (by decide) wn_31 d_Ca_takeInformation_133) (rz_cons (rz_cvv G (m_Li_sendPiece X.1) cd_Li_sendPiece wd_538 wd_539 wd_540 rfl rfl (by decide) d_Ca_takeInformation_136) (rz_fall rfl)))))))))))))))))
  | 6 => (rz_cons (rz_iconst G d_Ca_takeInformation_139 (by decide)) (rz_cons (rz_iret (npc := 0) (fun _ => rfl) d_Ca_takeInformation_140) rz_nil))
  | _ + 7 => rz_nil
set_option maxRecDepth 100000 in
set_option maxHeartbeats 4000000 in
theorem bd_Ca_takeInformation : ∀ (Y : Nat → rz_K) (P : rz_P), (∀ b ls st μ, rz_ex P Y (bk_Ca_takeInformation b) ls st μ → Y b ls st μ) → ∀ As μ, C_Ca_takeInformation As μ P → Y 0 (rz_pad 4 (rz_ent As)) [] μ := by
  intro Y P hY As μ hC
  obtain ⟨n, m, l, rfl, ⟨hF, hJ, hO, hA, hS, hR⟩, hl, hl32, hC⟩ := hC
  refine hY 0 _ _ _ (And.intro (fun h => ?_) (fun h => rzF (PQ P) h hC))
  have hC := rzT (PQ P) h hC
  have three : ∀ ν : rz_M, ν = f_tI0 μ → Y 3 [some (.ref 0), some (.int n), some (.int m), some (.int (nI l))] [] ν := by
    intro ν hν
    have k2 : ∀ k, k ≠ 15 → k ≠ 16 → k ≠ 1 → k ≠ 17 → ν k = μ k := by
      intro k h15 h16 h1 h17
      rw [hν]; unfold f_tI0
      rw [f_adds_ne _ _ _ h15 h16, rz_up_k h17, rz_up_k h17, rz_up_k h1]
    have k17 : ν 17 1 = 0 ∧ ν 17 2 = 0 := by
      rw [hν]; unfold f_tI0
      rw [f_adds_ne _ _ _ (by decide) (by decide)]
      exact ⟨rfl, rfl⟩
    have k18 : ν 1 8 = μ 1 8 := by
      rw [hν]; unfold f_tI0
      rw [f_adds_ne _ _ _ (by decide) (by decide)]
      rfl
    have hJ2 : JC ν := by
      rw [hν]; unfold f_tI0
      exact JC_adds _ _ _ hJ hO
    rw [← hν] at hC
    refine hY 3 _ _ _ (And.intro (fun h => ?_) (fun h => ?_))
    · have hC : PQ P (0, f_tI1 m ν) := hC
      unfold f_tI1 at hC
      rw [if_pos h] at hC
      have hIW : IW ν := by
        refine ⟨?_, ?_, ?_, k17.1, hJ2.2⟩
        · rw [k2 7 (by decide) (by decide) (by decide) (by decide)]; exact hF.1
        · rw [k2 10 (by decide) (by decide) (by decide) (by decide)]; exact hF.2
        · obtain ⟨mm, h40, e⟩ := hJ2.1
          rw [e]; exact nI_le (b := 40) h40 (by omega)
      obtain ⟨⟨a, ha24, ha⟩, h172⟩ := f_perf_17 hIW
      refine hY 4 _ _ _ ⟨rfl, hIW, And.intro (fun h => ?_) (fun h => ?_)⟩
      · rw [if_pos h] at hC
        obtain ⟨c1, c2⟩ := f_conc_17 (s := (f_perf ν).1) ha ha24
        have c3 : f_conc (f_perf ν).1 (f_perf ν).2 1 = ν 1 := by
          rw [f_conc_ne (by decide) (by decide) (by decide), f_perf_ne (by decide) (by decide) (by decide) (by decide) (by decide) (by decide) (by decide)]
        obtain ⟨z, z1, z32, hz⟩ := hS
        have d1 : f_cc (f_conc (f_perf ν).1 (f_perf ν).2) 17 1 = nI (a + 2) := c1
        have d2 : f_cc (f_conc (f_perf ν).1 (f_perf ν).2) 17 2 = nI 0 := by
          show f_conc (f_perf ν).1 (f_perf ν).2 17 2 = nI 0
          rw [c2, h172, k17.2]; rfl
        have d3 : f_cc (f_conc (f_perf ν).1 (f_perf ν).2) 1 8 = nI z := by
          show f_conc (f_perf ν).1 (f_perf ν).2 1 8 = nI z
          rw [c3, k18, hz]
        refine hY 5 _ _ _ ⟨_, a, rfl, ha, ha24, ⟨a + 2, 0, z, rfl, d1, d2, d3, by omega, by omega, z32, ?_⟩⟩
        have e9 := pc_eq d1 d2 d3 (by omega) (by omega) (by omega)
        rw [← e9] at hC
        exact hY 6 _ _ _ hC
      · rw [if_neg (fun q => q h)] at hC
        exact And.intro rfl (hY 6 _ _ _ hC)
    · have hC : PQ P (0, f_tI1 m ν) := hC
      unfold f_tI1 at hC
      rw [if_neg h] at hC
      exact ⟨_, rfl, hC⟩
  have loop : ∀ (d i : Nat) (ν : rz_M), i + d = l → ν 2 = μ 2 → JC ν → f_adds d i ν = f_tI0 μ → Y 2 [some (.ref 0), some (.int n), some (.int m), some (.int (nI i))] [] ν := by
    intro d
    induction d with
    | zero =>
      intro i ν hi h2 hj he
      have : i = l := by omega
      subst this
      refine hY 2 _ _ _ (And.intro rfl (And.intro (fun _ => three ν he) (fun h => absurd ?_ h)))
      show ν 2 2 ≤ nI i
      rw [h2, hl]; exact Int32.le_refl _
    | succ d ih =>
      intro i ν hi h2 hj he
      refine hY 2 _ _ _ (And.intro rfl (And.intro (fun (h : ν 2 2 ≤ nI i) => absurd h ?_) (fun _ => ⟨i, rfl, by omega, _, rfl, ?_, ?_⟩)))
      · rw [h2, hl]; exact nI_ge (by omega) (by omega)
      · obtain ⟨mm, h40, e⟩ := hj.1
        rw [e]; exact nI_pos' (by omega)
      · have := ih (i + 1) (f_Co_add (ν 2 (3 + i)) ν) (by omega) (by rw [f_Co_add_ne (by decide) (by decide)]; exact h2) (JC_add hj (by rw [h2]; exact hO _)) he
        rw [nI_succ] at this
        exact this
  refine hY 1 _ _ _ (And.intro rfl (loop l 0 _ (by omega) rfl hJ ?_))
  unfold f_tI0
  rw [nc hl (by omega)]
theorem m_Ca_takeInformation (E : rz_E) : rz_MI SH CL E y_Ca_takeInformation 4 (Cond.code y_Ca_takeInformation c_Ca_takeInformation 4 (some .int) :: rz_tbl) ({ frames := 4, cells := 0, slots := 0, locals := 89 }) C_Ca_takeInformation := rz_metI (by decide) rfl (fun X _ G => sd_Ca_takeInformation X G) bd_Ca_takeInformation
theorem cd_Ca_takeInformation : rz_Cd rz_tbl y_Ca_takeInformation c_Ca_takeInformation 4 (some .int) (Cond.code y_Ca_takeInformation c_Ca_takeInformation 4 (some .int) :: rz_tbl) 2 ({ frames := 4, cells := 0, slots := 0, locals := 89 }) := ⟨rz_good wd_395, ⟨_, rfl⟩, wd_40, by decide +kernel, rfl, rfl⟩
def f_dsp (μ : rz_M) : Int32 × rz_M :=
  if μ 2 1 = 0 ∨ μ 2 1 = 32 ∨ μ 2 1 = 64 ∨ μ 2 1 = 96 then f_tI ((μ 2 1 >>> ((6 : Int32) &&& 31)) &&& 1) (if μ 2 1 &&& 32 = 0 then 0 else 1) μ
  else if μ 2 1 = 128 ∨ μ 2 1 = 129 ∨ μ 2 1 = 130 ∨ μ 2 1 = 144 ∨ μ 2 1 = 145 ∨ μ 2 1 = 146 then f_tR ((μ 2 1 >>> ((4 : Int32) &&& 31)) &&& 1) μ
  else if μ 2 1 = 192 ∨ μ 2 1 = 193 ∨ μ 2 1 = 194 then f_tS (μ 2 1) μ
  else (2, μ)
def f_an1 (r : Int32 × rz_M) : rz_M := rz_up (if r.1 = 0 then r.2 else f_rdy r.1 r.2) 1 1 0
def f_ans (n : Nat) (μ : rz_M) : rz_M := if ¬ v_wrong n μ = 0 then f_an1 (v_wrong n μ, μ) else f_an1 (f_dsp μ)
def C_Ca_answerBlock : rz_C := fun As μ P => ∃ n : Nat, As = [.ref 0] ∧ μ 1 1 = nI n ∧ n ≤ 36 ∧ IA μ ∧ P none (f_ans n μ)
def bk_Ca_answerBlock : Nat → List rz_T := fun b => match b with
  | 0 => [tz_aload 0, tz_get SH 6 0, tz_cv SH 0 3 1 C_Li_wrong, tz_istore 1, tz_iload 1, tz_if_ne 7, tz_aload 0, tz_get SH 6 0, tz_cv SH 0 3 1 C_Li_pcb, tz_istore 2, tz_iload 2, tz_sw [(0, 1), (32, 1), (64, 1), (96, 1), (128, 4), (129, 4), (130, 4), (144, 4), (145, 4), (146, 4), (192, 5), (193, 5), (194, 5)] 6]
  | 1 => [tz_aload 0, tz_iload 2, tz_bipush 6, tz_ishr, tz_iconst 1, tz_iand, tz_iload 2, tz_bipush 32, tz_iand, tz_if_eq 2, tz_iconst 1, tz_goto 3]
  | 2 => [tz_iconst 0, tz_fall 3]
  | 3 => [tz_cv SH 2 6 4 C_Ca_takeInformation, tz_istore 1, tz_goto 7]
  | 4 => [tz_aload 0, tz_iload 2, tz_iconst 4, tz_ishr, tz_iconst 1, tz_iand, tz_cv SH 1 6 2 C_Ca_takeReady, tz_istore 1, tz_goto 7]
  | 5 => [tz_aload 0, tz_iload 2, tz_cv SH 1 6 2 C_Ca_takeSupervision, tz_istore 1, tz_goto 7]
  | 6 => [tz_iconst 2, tz_istore 1, tz_fall 7]
  | 7 => [tz_iload 1, tz_if_eq 8, tz_aload 0, tz_get SH 6 0, tz_iload 1, tz_cv SH 1 3 2 C_Li_sendReady, tz_fall 8]
  | 8 => [tz_aload 0, tz_get SH 6 0, tz_iconst 0, tz_put SH 3 1, tz_vret]
  | _ => []
def bp_Ca_answerBlock : Nat → Nat := fun b => match b with
  | 0 => 0
  | 1 => 136
  | 2 => 154
  | 3 => 155
  | 4 => 162
  | 5 => 175
  | 6 => 184
  | 7 => 186
  | 8 => 198
  | _ => 0
set_option maxRecDepth 100000 in
set_option maxHeartbeats 4000000 in
theorem sd_Ca_answerBlock (X : rz_X) (G : rz_Cx CL X c_Ca_answerBlock 3 rz_tbl R_Ca ({ frames := 5, cells := 0, slots := 0, locals := 112 })) : ∀ b, rz_SB SH CL X bp_Ca_answerBlock (rz_RV SH CL X c_Ca_answerBlock) (bk_Ca_answerBlock b) (bp_Ca_answerBlock b) := fun b => match b with
  | 0 => (rz_cons (rz_aload_n G d_Ca_answerBlock_0 rfl) (rz_cons (rz_get G rfl in_Ca (by decide) wd_258 d_Ca_answerBlock_1) (rz_cons (rz_cvi G (m_Li_wrong X.1) cd_Li_wrong wd_377 wd_378 wd_379 rfl rfl (by decide) d_Ca_answerBlock_4) (rz_cons (rz_istore_n G d_Ca_answerBlock_7 rfl (by decide)) (rz_cons (rz_iload_n G d_Ca_answerBlock_8 rfl) (rz_cons (rz_if_ne G d_Ca_answerBlock_9 (by decide)) (rz_cons (rz_aload_n G d_Ca_answerBlock_12 rfl) (rz_cons (rz_get G rfl in_Ca (by decide) wd_258 d_Ca_answerBlock_13) (rz_cons (rz_cvi G (m_Li_pcb X.1) cd_Li_pcb wd_388 wd_389 wd_390 rfl rfl (by decide) d_Ca_answerBlock_16) (rz_cons (rz_istore_n G d_Ca_answerBlock_19 rfl (by decide)) (rz_cons (rz_iload_n G d_Ca_answerBlock_20 rfl) (rz_cons (rz_lookup (npc := 0) G d_Ca_answerBlock_21 (by decide) (by decide +kernel) (by decide)) rz_nil))))))))))))
  | 1 => (rz_cons (rz_aload_n G d_Ca_answerBlock_136 rfl) (rz_cons (rz_iload_n G d_Ca_answerBlock_137 rfl) (rz_cons (rz_bipush G d_Ca_answerBlock_138 (by decide)) (rz_cons (rz_ishr G d_Ca_answerBlock_140) (rz_cons (rz_iconst G d_Ca_answerBlock_141 (by decide)) (rz_cons (rz_iand G d_Ca_answerBlock_142) (rz_cons (rz_iload_n G d_Ca_answerBlock_143 rfl) (rz_cons (rz_bipush G d_Ca_answerBlock_144 (by decide)) (rz_cons (rz_iand G d_Ca_answerBlock_146) (rz_cons (rz_if_eq G d_Ca_answerBlock_147 (by decide)) (rz_cons (rz_iconst G d_Ca_answerBlock_150 (by decide)) (rz_cons (rz_goto (npc := 0) G d_Ca_answerBlock_151 (by decide)) rz_nil))))))))))))
  | 2 => (rz_cons (rz_iconst G d_Ca_answerBlock_154 (by decide)) (rz_fall rfl))
  | 3 => (rz_cons (rz_cvi G (m_Ca_takeInformation X.1) cd_Ca_takeInformation wd_392 wd_394 wd_3 rfl rfl (by decide) d_Ca_answerBlock_155) (rz_cons (rz_istore_n G d_Ca_answerBlock_158 rfl (by decide)) (rz_cons (rz_goto (npc := 0) G d_Ca_answerBlock_159 (by decide)) rz_nil)))
  | 4 => (rz_cons (rz_aload_n G d_Ca_answerBlock_162 rfl) (rz_cons (rz_iload_n G d_Ca_answerBlock_163 rfl) (rz_cons (rz_iconst G d_Ca_answerBlock_164 (by decide)) (rz_cons (rz_ishr G d_Ca_answerBlock_165) (rz_cons (rz_iconst G d_Ca_answerBlock_166 (by decide)) (rz_cons (rz_iand G d_Ca_answerBlock_167) (rz_cons (rz_cvi G (m_Ca_takeReady X.1) cd_Ca_takeReady wd_558 wd_560 wd_15 rfl rfl (by decide) d_Ca_answerBlock_168) (rz_cons (rz_istore_n G d_Ca_answerBlock_171 rfl (by decide)) (rz_cons (rz_goto (npc := 0) G d_Ca_answerBlock_172 (by decide)) rz_nil)))))))))
  | 5 => (rz_cons (rz_aload_n G d_Ca_answerBlock_175 rfl) (rz_cons (rz_iload_n G d_Ca_answerBlock_176 rfl) (rz_cons (rz_cvi G (m_Ca_takeSupervision X.1) cd_Ca_takeSupervision wd_567 wd_569 wd_16 rfl rfl (by decide) d_Ca_answerBlock_177) (rz_cons (rz_istore_n G d_Ca_answerBlock_180 rfl (by decide)) (rz_cons (rz_goto (npc := 0) G d_Ca_answerBlock_181 (by decide)) rz_nil)))))
  | 6 => (rz_cons (rz_iconst G d_Ca_answerBlock_184 (by decide)) (rz_cons (rz_istore_n G d_Ca_answerBlock_185 rfl (by decide)) (rz_fall rfl)))
  | 7 => (rz_cons (rz_iload_n G d_Ca_answerBlock_186 rfl) (rz_cons (rz_if_eq G d_Ca_answerBlock_187 (by decide)) (rz_cons (rz_aload_n G d_Ca_answerBlock_190 rfl) (rz_cons (rz_get G rfl in_Ca (by decide) wd_258 d_Ca_answerBlock_191) (rz_cons (rz_iload_n G d_Ca_answerBlock_194 rfl) (rz_cons (rz_cvv G (m_Li_sendReady X.1) cd_Li_sendReady wd_406 wd_407 wd_408 rfl rfl (by decide) d_Ca_answerBlock_195) (rz_fall rfl)))))))
  | 8 => (rz_cons (rz_aload_n G d_Ca_answerBlock_198 rfl) (rz_cons (rz_get G rfl in_Ca (by decide) wd_258 d_Ca_answerBlock_199) (rz_cons (rz_iconst G d_Ca_answerBlock_202 (by decide)) (rz_cons (rz_putN G rfl in_Li ty_Li tyok_Li nm_Li (by decide) rfl (by decide +kernel) wn_0 d_Ca_answerBlock_203) (rz_cons (rz_vret (npc := 0) d_Ca_answerBlock_206) rz_nil)))))
  | _ + 9 => rz_nil
set_option maxRecDepth 100000 in
set_option maxHeartbeats 4000000 in
theorem bd_Ca_answerBlock : ∀ (Y : Nat → rz_K) (P : rz_P), (∀ b ls st μ, rz_ex P Y (bk_Ca_answerBlock b) ls st μ → Y b ls st μ) → ∀ As μ, C_Ca_answerBlock As μ P → Y 0 (rz_pad 3 (rz_ent As)) [] μ := by
  intro Y P hY As μ hC
  obtain ⟨n, rfl, hn, h36, hI, hC⟩ := hC
  have fin : ∀ (w : Int32) (x : Option Value) (ν : rz_M), P none (f_an1 (w, ν)) → Y 7 [some (.ref 0), some (.int w), x] [] ν := by
    intro w x ν hp
    unfold f_an1 at hp
    refine hY 7 _ _ _ (And.intro (fun h => ?_) (fun h => ?_))
    · rw [if_pos h] at hp
      exact hY 8 _ _ _ hp
    · rw [if_neg h] at hp
      exact ⟨_, rfl, hY 8 _ _ _ hp⟩
  refine hY 0 _ _ _ ⟨n, rfl, hn, h36, And.intro (fun h => fin _ _ _ (rzT (P none) h hC)) (fun h => ?_)⟩
  have hC := rzN (P none) h hC
  obtain ⟨o, ho255, ho⟩ := hI.2.2.1 2
  have ho32 : o ≤ 32 := by
    have : ¬ ¬ μ 2 2 ≤ 32 := by
      intro q
      unfold v_wrong at h
      rw [if_pos q] at h
      exact absurd h (by decide)
    have : μ 2 2 ≤ 32 := Decidable.not_not.mp this
    rw [ho] at this
    exact (nI_leI (b := 32) (by omega) (by omega)).mp this
  have tI : (μ 2 1 = 0 ∨ μ 2 1 = 32 ∨ μ 2 1 = 64 ∨ μ 2 1 = 96) → Y 1 [some (.ref 0), some (.int (v_wrong n μ)), some (.int (μ 2 1))] [] μ := by
    intro hq
    unfold f_dsp at hC
    rw [if_pos hq] at hC
    refine hY 1 _ _ _ (And.intro (fun h => hY 2 _ _ _ (hY 3 _ _ _ ⟨_, _, o, rfl, hI, ho, ho32, ?_⟩)) (fun h => hY 3 _ _ _ ⟨_, _, o, rfl, hI, ho, ho32, ?_⟩))
    · rw [if_pos h] at hC
      exact fin _ _ _ hC
    · rw [if_neg h] at hC
      exact fin _ _ _ hC
  have tR : ¬ (μ 2 1 = 0 ∨ μ 2 1 = 32 ∨ μ 2 1 = 64 ∨ μ 2 1 = 96) → (μ 2 1 = 128 ∨ μ 2 1 = 129 ∨ μ 2 1 = 130 ∨ μ 2 1 = 144 ∨ μ 2 1 = 145 ∨ μ 2 1 = 146) → Y 4 [some (.ref 0), some (.int (v_wrong n μ)), some (.int (μ 2 1))] [] μ := by
    intro h1 hq
    unfold f_dsp at hC
    rw [if_neg h1, if_pos hq] at hC
    exact hY 4 _ _ _ ⟨_, rfl, hI.2.2.2.1, hI.2.2.2.2.1, hI.2.2.2.2.2, fin _ _ _ hC⟩
  have tS : ¬ (μ 2 1 = 0 ∨ μ 2 1 = 32 ∨ μ 2 1 = 64 ∨ μ 2 1 = 96) → ¬ (μ 2 1 = 128 ∨ μ 2 1 = 129 ∨ μ 2 1 = 130 ∨ μ 2 1 = 144 ∨ μ 2 1 = 145 ∨ μ 2 1 = 146) → (μ 2 1 = 192 ∨ μ 2 1 = 193 ∨ μ 2 1 = 194) → Y 5 [some (.ref 0), some (.int (v_wrong n μ)), some (.int (μ 2 1))] [] μ := by
    intro h1 h2 hq
    unfold f_dsp at hC
    rw [if_neg h1, if_neg h2, if_pos hq] at hC
    exact hY 5 _ _ _ ⟨_, rfl, fin _ _ _ hC⟩
  refine And.intro rfl ?_
  refine And.intro (fun h => tI (Or.inl h)) (fun a1 => ?_)
  refine And.intro (fun h => tI (Or.inr (Or.inl h))) (fun a2 => ?_)
  refine And.intro (fun h => tI (Or.inr (Or.inr (Or.inl h)))) (fun a3 => ?_)
  refine And.intro (fun h => tI (Or.inr (Or.inr (Or.inr h)))) (fun a4 => ?_)
  have n1 : ¬ (μ 2 1 = 0 ∨ μ 2 1 = 32 ∨ μ 2 1 = 64 ∨ μ 2 1 = 96) := by
    rintro (q | q | q | q)
    · exact a1 q
    · exact a2 q
    · exact a3 q
    · exact a4 q
  refine And.intro (fun h => tR n1 (Or.inl h)) (fun b1 => ?_)
  refine And.intro (fun h => tR n1 (Or.inr (Or.inl h))) (fun b2 => ?_)
  refine And.intro (fun h => tR n1 (Or.inr (Or.inr (Or.inl h)))) (fun b3 => ?_)
  refine And.intro (fun h => tR n1 (Or.inr (Or.inr (Or.inr (Or.inl h))))) (fun b4 => ?_)
  refine And.intro (fun h => tR n1 (Or.inr (Or.inr (Or.inr (Or.inr (Or.inl h)))))) (fun b5 => ?_)
  refine And.intro (fun h => tR n1 (Or.inr (Or.inr (Or.inr (Or.inr (Or.inr h)))))) (fun b6 => ?_)
  have n2 : ¬ (μ 2 1 = 128 ∨ μ 2 1 = 129 ∨ μ 2 1 = 130 ∨ μ 2 1 = 144 ∨ μ 2 1 = 145 ∨ μ 2 1 = 146) := by
    rintro (q | q | q | q | q | q)
    · exact b1 q
    · exact b2 q
    · exact b3 q
    · exact b4 q
    · exact b5 q
    · exact b6 q
  refine And.intro (fun h => tS n1 n2 (Or.inl h)) (fun c1 => ?_)
  refine And.intro (fun h => tS n1 n2 (Or.inr (Or.inl h))) (fun c2 => ?_)
  refine And.intro (fun h => tS n1 n2 (Or.inr (Or.inr h))) (fun c3 => ?_)
  have n3 : ¬ (μ 2 1 = 192 ∨ μ 2 1 = 193 ∨ μ 2 1 = 194) := by
    rintro (q | q | q)
    · exact c1 q
    · exact c2 q
    · exact c3 q
  unfold f_dsp at hC
  rw [if_neg n1, if_neg n2, if_neg n3] at hC
  exact hY 6 _ _ _ (fin _ _ _ hC)
theorem m_Ca_answerBlock (E : rz_E) : rz_MV SH CL E y_Ca_answerBlock 3 (Cond.code y_Ca_answerBlock c_Ca_answerBlock 3 none :: rz_tbl) ({ frames := 5, cells := 0, slots := 0, locals := 112 }) C_Ca_answerBlock := rz_metV (by decide) rfl (fun X _ G => sd_Ca_answerBlock X G) bd_Ca_answerBlock
theorem cd_Ca_answerBlock : rz_Cd rz_tbl y_Ca_answerBlock c_Ca_answerBlock 3 none (Cond.code y_Ca_answerBlock c_Ca_answerBlock 3 none :: rz_tbl) 0 ({ frames := 5, cells := 0, slots := 0, locals := 112 }) := ⟨rz_good wd_376, ⟨_, rfl⟩, wd_40, by decide +kernel, rfl, rfl⟩
/-- an OCTET comes -/
def f_tk (x : Int32) (μ : rz_M) : rz_M := rz_up (rz_up μ 1 1 (nI ((μ 1 1).toNatClampNeg + 1))) 2 (μ 1 1).toNatClampNeg x
abbrev p_wh (μ : rz_M) : Prop := ¬ μ 1 1 < 3 ∧ (¬ μ 2 2 ≤ 32 ∨ μ 1 1 = 3 + μ 2 2 + 1)
def f_oct (x : Int32) (μ : rz_M) : rz_M := if p_wh (f_tk x μ) then f_ans ((μ 1 1).toNatClampNeg + 1) (f_tk x μ) else f_tk x μ
/-- what an OCTET needs -/
def IO1 (x : Int32) (μ : rz_M) : Prop := (∃ n : Nat, n < 36 ∧ μ 1 1 = nI n) ∧ (p_wh (f_tk x μ) → IA (f_tk x μ))
def f_fd (w : Int64) : Nat → Nat → rz_M → rz_M
  | 0, _, μ => μ
  | d + 1, i, μ => if μ 0 3 = 0 then μ else f_fd w d (i + 1) (f_oct (v_oct w (nI i)) μ)
def OK_fd (w : Int64) : Nat → Nat → rz_M → Prop
  | 0, _, _ => True
  | d + 1, i, μ => μ 0 3 = 0 ∨ (IO1 (v_oct w (nI i)) μ ∧ OK_fd w d (i + 1) (f_oct (v_oct w (nI i)) μ))
def f_feed (w : Int64) (n : Int32) (μ : rz_M) : Int32 × rz_M := if n < 1 then (-1, μ) else if n ≤ 8 then (if ¬ μ 0 3 = 0 then (f_fd w n.toNatClampNeg 0 μ 1 1, f_fd w n.toNatClampNeg 0 μ) else (-3, μ)) else (-1, μ)
def C_Ca_feed : rz_C := fun As μ P => ∃ (w : Int64) (n : Int32), As = [.ref 0, .long w, .int n] ∧ (¬ n < 1 → n ≤ 8 → ¬ μ 0 3 = 0 → OK_fd w n.toNatClampNeg 0 μ) ∧ PQ P (f_feed w n μ)
def bk_Ca_feed : Nat → List rz_T := fun b => match b with
  | 0 => [tz_iload 3, tz_iconst 1, tz_icmp_lt 1, tz_iload 3, tz_bipush 8, tz_icmp_le 2, tz_fall 1]
  | 1 => [tz_iconst (-1), tz_iret]
  | 2 => [tz_aload 0, tz_get SH 6 3, tz_if_ne 3, tz_bipush (-3), tz_iret]
  | 3 => [tz_iconst 0, tz_istore 4, tz_fall 4]
  | 4 => [tz_iload 4, tz_iload 3, tz_icmp_ge 6, tz_aload 0, tz_get SH 6 3, tz_if_eq 6, tz_aload 0, tz_get SH 6 0, tz_lload 1, tz_iload 4, tz_cs 2 3 C_Ca_octetOf, tz_cv SH 1 3 2 C_Li_take, tz_aload 0, tz_get SH 6 0, tz_cv SH 0 3 1 C_Li_isWhole, tz_if_eq 5, tz_aload 0, tz_cv SH 0 6 3 C_Ca_answerBlock, tz_fall 5]
  | 5 => [tz_iinc 4 1, tz_goto 4]
  | 6 => [tz_aload 0, tz_get SH 6 0, tz_get SH 3 1, tz_iret]
  | _ => []
def bp_Ca_feed : Nat → Nat := fun b => match b with
  | 0 => 0
  | 1 => 11
  | 2 => 13
  | 3 => 23
  | 4 => 26
  | 5 => 66
  | 6 => 72
  | _ => 0
set_option maxRecDepth 100000 in
set_option maxHeartbeats 4000000 in
theorem sd_Ca_feed (X : rz_X) (G : rz_Cx CL X c_Ca_feed 5 rz_tbl R_Ca ({ frames := 6, cells := 0, slots := 0, locals := 134 })) : ∀ b, rz_SB SH CL X bp_Ca_feed (rz_RI SH CL X c_Ca_feed (fun v => narrow .int (.int v) = .int v)) (bk_Ca_feed b) (bp_Ca_feed b) := fun b => match b with
  | 0 => (rz_cons (rz_iload_n G d_Ca_feed_0 rfl) (rz_cons (rz_iconst G d_Ca_feed_1 (by decide)) (rz_cons (rz_icmp_lt G d_Ca_feed_2 (by decide)) (rz_cons (rz_iload_n G d_Ca_feed_5 rfl) (rz_cons (rz_bipush G d_Ca_feed_6 (by decide)) (rz_cons (rz_icmp_le G d_Ca_feed_8 (by decide)) (rz_fall rfl)))))))
  | 1 => (rz_cons (rz_iconst G d_Ca_feed_11 (by decide)) (rz_cons (rz_iret (npc := 0) (fun _ => rfl) d_Ca_feed_12) rz_nil))
  | 2 => (rz_cons (rz_aload_n G d_Ca_feed_13 rfl) (rz_cons (rz_get G rfl in_Ca (by decide) wd_261 d_Ca_feed_14) (rz_cons (rz_if_ne G d_Ca_feed_17 (by decide)) (rz_cons (rz_bipush G d_Ca_feed_20 (by decide)) (rz_cons (rz_iret (npc := 0) (fun _ => rfl) d_Ca_feed_22) rz_nil)))))
  | 3 => (rz_cons (rz_iconst G d_Ca_feed_23 (by decide)) (rz_cons (rz_istore G d_Ca_feed_24 (by decide)) (rz_fall rfl)))
  | 4 => (rz_cons (rz_iload G d_Ca_feed_26) (rz_cons (rz_iload_n G d_Ca_feed_28 rfl) (rz_cons (rz_icmp_ge G d_Ca_feed_29 (by decide)) (rz_cons (rz_aload_n G d_Ca_feed_32 rfl) (rz_cons (rz_get G rfl in_Ca (by decide) wd_261 d_Ca_feed_33) (rz_cons (rz_if_eq G d_Ca_feed_36 (by decide)) (rz_cons (rz_aload_n G d_Ca_feed_39 rfl) (rz_cons (rz_get G rfl in_Ca (by decide) wd_258 d_Ca_feed_40) (rz_cons (rz_lload_n G d_Ca_feed_43 rfl) (rz_cons (rz_iload G d_Ca_feed_44) (rz_cons (rz_csi G (m_Ca_octetOf X.1) cd_Ca_octetOf wd_354 wd_355 (by decide) d_Ca_feed_46) (rz_cons (rz_cvv G (m_Li_take X.1) cd_Li_take wd_357 wd_358 wd_359 rfl rfl (by decide) d_Ca_feed_49) (rz_cons (rz_aload_n G d_Ca_feed_52 rfl) (rz_cons (rz_get G rfl in_Ca (by decide) wd_258 d_Ca_feed_53) (rz_cons (rz_cvi G (m_Li_isWhole X.1) cd_Li_isWhole wd_361 wd_362 wd_363 rfl rfl (by decide) d_Ca_feed_56) (rz_cons (rz_if_eq G d_Ca_feed_59 (by decide)) (rz_cons (rz_aload_n G d_Ca_feed_62 rfl) (rz_cons (rz_cvv G (m_Ca_answerBlock X.1) cd_Ca_answerBlock wd_373 wd_375 wd_2 rfl rfl (by decide) d_Ca_feed_63) (rz_fall rfl)))))))))))))))))))
  | 5 => (rz_cons (rz_iinc G d_Ca_feed_66 (by decide) (by decide)) (rz_cons (rz_goto (npc := 0) G d_Ca_feed_69 (by decide)) rz_nil))
  | 6 => (rz_cons (rz_aload_n G d_Ca_feed_72 rfl) (rz_cons (rz_get G rfl in_Ca (by decide) wd_258 d_Ca_feed_73) (rz_cons (rz_getN G rfl in_Li (by decide) wn_0 d_Ca_feed_76) (rz_cons (rz_iret (npc := 0) (fun _ => rfl) d_Ca_feed_79) rz_nil))))
  | _ + 7 => rz_nil
set_option maxRecDepth 100000 in
set_option maxHeartbeats 4000000 in
theorem bd_Ca_feed : ∀ (Y : Nat → rz_K) (P : rz_P), (∀ b ls st μ, rz_ex P Y (bk_Ca_feed b) ls st μ → Y b ls st μ) → ∀ As μ, C_Ca_feed As μ P → Y 0 (rz_pad 5 (rz_ent As)) [] μ := by
  intro Y P hY As μ hC
  obtain ⟨w, n, rfl, hok, hC⟩ := hC
  refine hY 0 _ _ _ (And.intro (fun h => hY 1 _ _ _ (rzT (PQ P) h hC)) (fun h1 => ?_))
  have hC := rzF (PQ P) h1 hC
  refine And.intro (fun h8 => ?_) (fun h => hY 1 _ _ _ (rzF (PQ P) h hC))
  have hC := rzT (PQ P) h8 hC
  refine hY 2 _ _ _ (And.intro (fun h3 => ?_) (fun h => rzN (PQ P) h hC))
  have hC := rzT (PQ P) h3 hC
  have hok := hok h1 h8 h3
  obtain ⟨nn, hn31, hn⟩ := nI_of (x := n) (fun q => h1 (Int32.lt_trans q (by decide)))
  have hn8 : nn ≤ 8 := by rw [hn] at h8; exact (nI_leI (b := 8) hn31 (by omega)).mp h8
  rw [nc hn hn31] at hok hC
  have loop : ∀ (d i : Nat) (ν : rz_M), i + d = nn → OK_fd w d i ν → PQ P (f_fd w d i ν 1 1, f_fd w d i ν) → Y 4 [some (.ref 0), some (.long w), none, some (.int n), some (.int (nI i))] [] ν := by
    intro d
    induction d with
    | zero =>
      intro i ν hi _ hp
      have : i = nn := by omega
      subst this
      refine hY 4 _ _ _ (And.intro (fun _ => hY 6 _ _ _ hp) (fun h => absurd ?_ h))
      rw [hn]; exact Int32.le_refl _
    | succ d ih =>
      intro i ν hi hk hp
      refine hY 4 _ _ _ (And.intro (fun h => absurd h ?_) (fun _ => And.intro (fun h => ?_) (fun h => ?_)))
      · rw [hn]; exact nI_ge (by omega) (by omega)
      · unfold f_fd at hp
        rw [if_pos h] at hp
        exact hY 6 _ _ _ hp
      · unfold f_fd at hp
        rw [if_neg h] at hp
        obtain ⟨⟨⟨m, hm, e⟩, hIA⟩, hk2⟩ := hk.resolve_left h
        have cm : (ν 1 1).toNatClampNeg = m := nc e (by omega)
        have etk : rz_up (rz_up ν 1 1 (nI (m + 1))) 2 m (v_oct w (nI i)) = f_tk (v_oct w (nI i)) ν := by unfold f_tk; rw [cm]
        have nx := ih (i + 1) _ (by omega) hk2 hp
        rw [nI_succ] at nx
        refine ⟨_, _, rfl, _, m, rfl, e, hm, ?_⟩
        rw [etk]
        refine And.intro rfl (And.intro (fun h2 => ?_) (fun h2 => ?_))
        · unfold f_oct at nx
          rw [if_neg (b2_eq h2)] at nx
          exact hY 5 _ _ _ nx
        · have hw := b2_ne h2
          unfold f_oct at nx
          rw [if_pos hw, cm] at nx
          exact ⟨m + 1, rfl, by rw [← etk]; rfl, by omega, hIA hw, hY 5 _ _ _ nx⟩
  exact hY 3 _ _ _ (loop nn 0 μ (by omega) hok hC)
theorem m_Ca_feed (E : rz_E) : rz_MI SH CL E y_Ca_feed 5 (Cond.code y_Ca_feed c_Ca_feed 5 (some .int) :: rz_tbl) ({ frames := 6, cells := 0, slots := 0, locals := 134 }) C_Ca_feed := rz_metI (by decide) rfl (fun X _ G => sd_Ca_feed X G) bd_Ca_feed
theorem cd_Ca_feed : rz_Cd rz_tbl y_Ca_feed c_Ca_feed 5 (some .int) (Cond.code y_Ca_feed c_Ca_feed 5 (some .int) :: rz_tbl) 2 ({ frames := 6, cells := 0, slots := 0, locals := 134 }) := ⟨rz_good wd_353, ⟨_, rfl⟩, wd_40, by decide +kernel, rfl, rfl⟩
def f_tks (w : Int64) : Nat → Nat → rz_M → rz_M
  | 0, _, μ => μ
  | d + 1, i, μ => f_tks w d (i + 1) (f_tk (v_oct w (nI i)) μ)
/-- the whole BLOCK has come, but for the sum -/
def f_blk (p : Int32) (w : Int64) (n : Nat) (μ : rz_M) : rz_M := f_tks w n 0 (f_tk (nI n) (f_tk p (f_tk 0 (rz_up μ 1 1 0))))
def f_blk1 (p : Int32) (w : Int64) (n : Nat) (μ : rz_M) : rz_M := f_tk (xs (f_blk p w n μ 2) (3 + n)) (f_blk p w n μ)
def f_block (p : Int32) (w : Int64) (n : Int32) (μ : rz_M) : Int32 × rz_M :=
  if p < 0 then (-1, μ) else if 255 < p then (-1, μ) else if n < 0 then (-1, μ) else if n ≤ 8 then
    (if ¬ μ 0 3 = 0 then (f_ans (n.toNatClampNeg + 4) (f_blk1 p w n.toNatClampNeg μ) 1 3, f_ans (n.toNatClampNeg + 4) (f_blk1 p w n.toNatClampNeg μ)) else (-3, μ)) else (-1, μ)
theorem f_tk_11 {x : Int32} {μ : rz_M} {n : Nat} (h : μ 1 1 = nI n) (hn : n < 2147483648) : f_tk x μ 1 1 = nI (n + 1) := by
  unfold f_tk
  rw [nc h hn, rz_up_k (by decide), rz_up_at]
theorem tk_eq {x : Int32} {m : Nat} {ν : rz_M} (e : ν 1 1 = nI m) (hm : m < 36) : rz_up (rz_up ν 1 1 (nI (m + 1))) 2 m x = f_tk x ν := by
  unfold f_tk
  rw [nc e (by omega)]
def C_Ca_block : rz_C := fun As μ P => ∃ (p : Int32) (w : Int64) (n : Int32), As = [.ref 0, .int p, .long w, .int n] ∧ (¬ p < 0 → ¬ 255 < p → ¬ n < 0 → n ≤ 8 → ¬ μ 0 3 = 0 → IA (f_blk1 p w n.toNatClampNeg μ)) ∧ PQ P (f_block p w n μ)
def bk_Ca_block : Nat → List rz_T := fun b => match b with
  | 0 => [tz_iload 1, tz_if_lt 1, tz_iload 1, tz_sipush 255, tz_icmp_gt 1, tz_iload 4, tz_if_lt 1, tz_iload 4, tz_bipush 8, tz_icmp_le 2, tz_fall 1]
  | 1 => [tz_iconst (-1), tz_iret]
  | 2 => [tz_aload 0, tz_get SH 6 3, tz_if_ne 3, tz_bipush (-3), tz_iret]
  | 3 => [tz_aload 0, tz_get SH 6 0, tz_iconst 0, tz_put SH 3 1, tz_aload 0, tz_get SH 6 0, tz_iconst 0, tz_cv SH 1 3 2 C_Li_take, tz_aload 0, tz_get SH 6 0, tz_iload 1, tz_cv SH 1 3 2 C_Li_take, tz_aload 0, tz_get SH 6 0, tz_iload 4, tz_cv SH 1 3 2 C_Li_take, tz_iconst 0, tz_istore 5, tz_fall 4]
  | 4 => [tz_iload 5, tz_iload 4, tz_icmp_ge 5, tz_aload 0, tz_get SH 6 0, tz_lload 2, tz_iload 5, tz_cs 2 3 C_Ca_octetOf, tz_cv SH 1 3 2 C_Li_take, tz_iinc 5 1, tz_goto 4]
  | 5 => [tz_aload 0, tz_get SH 6 0, tz_aload 0, tz_get SH 6 0, tz_cv SH 0 3 1 C_Li_sumOfArrived, tz_cv SH 1 3 2 C_Li_take, tz_aload 0, tz_cv SH 0 6 3 C_Ca_answerBlock, tz_aload 0, tz_get SH 6 0, tz_get SH 3 3, tz_iret]
  | _ => []
def bp_Ca_block : Nat → Nat := fun b => match b with
  | 0 => 0
  | 1 => 23
  | 2 => 25
  | 3 => 35
  | 4 => 71
  | 5 => 97
  | _ => 0
set_option maxRecDepth 100000 in
set_option maxHeartbeats 4000000 in
theorem sd_Ca_block (X : rz_X) (G : rz_Cx CL X c_Ca_block 6 rz_tbl R_Ca ({ frames := 6, cells := 0, slots := 0, locals := 134 })) : ∀ b, rz_SB SH CL X bp_Ca_block (rz_RI SH CL X c_Ca_block (fun v => narrow .int (.int v) = .int v)) (bk_Ca_block b) (bp_Ca_block b) := fun b => match b with
  | 0 => (rz_cons (rz_iload_n G d_Ca_block_0 rfl) (rz_cons (rz_if_lt G d_Ca_block_1 (by decide)) (rz_cons (rz_iload_n G d_Ca_block_4 rfl) (rz_cons (rz_sipush G d_Ca_block_5 (by decide)) (rz_cons (rz_icmp_gt G d_Ca_block_8 (by decide)) (rz_cons (rz_iload G d_Ca_block_11) (rz_cons (rz_if_lt G d_Ca_block_13 (by decide)) (rz_cons (rz_iload G d_Ca_block_16) (rz_cons (rz_bipush G d_Ca_block_18 (by decide)) (rz_cons (rz_icmp_le G d_Ca_block_20 (by decide)) (rz_fall rfl)))))))))))
  | 1 => (rz_cons (rz_iconst G d_Ca_block_23 (by decide)) (rz_cons (rz_iret (npc := 0) (fun _ => rfl) d_Ca_block_24) rz_nil))
  | 2 => (rz_cons (rz_aload_n G d_Ca_block_25 rfl) (rz_cons (rz_get G rfl in_Ca (by decide) wd_261 d_Ca_block_26) (rz_cons (rz_if_ne G d_Ca_block_29 (by decide)) (rz_cons (rz_bipush G d_Ca_block_32 (by decide)) (rz_cons (rz_iret (npc := 0) (fun _ => rfl) d_Ca_block_34) rz_nil)))))
  | 3 => (rz_cons (rz_aload_n G d_Ca_block_35 rfl) (rz_cons (rz_get G rfl in_Ca (by decide) wd_258 d_Ca_block_36) (rz_cons (rz_iconst G d_Ca_block_39 (by decide)) (rz_cons (rz_putN G rfl in_Li ty_Li tyok_Li nm_Li (by decide) rfl (by decide +kernel) wn_0 d_Ca_block_40) (rz_cons (rz_aload_n G d_Ca_block_43 rfl) (rz_cons (rz_get G rfl in_Ca (by decide) wd_258 d_Ca_block_44) (rz_cons (rz_iconst G d_Ca_block_47 (by decide)) (rz_cons (rz_cvv G (m_Li_take X.1) cd_Li_take wd_357 wd_358 wd_359 rfl rfl (by decide) d_Ca_block_48) (rz_cons (rz_aload_n G d_Ca_block_51 rfl) (rz_cons (rz_get G rfl in_Ca (by decide) wd_258 d_Ca_block_52) (rz_cons (rz_iload_n G d_Ca_block_55 rfl) (rz_cons (rz_cvv G (m_Li_take X.1) cd_Li_take wd_357 wd_358 wd_359 rfl rfl (by decide) d_Ca_block_56) (rz_cons (rz_aload_n G d_Ca_block_59 rfl) (rz_cons (rz_get G rfl in_Ca (by decide) wd_258 d_Ca_block_60) (rz_cons (rz_iload G d_Ca_block_63) (rz_cons (rz_cvv G (m_Li_take X.1) cd_Li_take wd_357 wd_358 wd_359 rfl rfl (by decide) d_Ca_block_65) (rz_cons (rz_iconst G d_Ca_block_68 (by decide)) (rz_cons (rz_istore G d_Ca_block_69 (by decide)) (rz_fall rfl)))))))))))))))))))
  | 4 => (rz_cons (rz_iload G d_Ca_block_71) (rz_cons (rz_iload G d_Ca_block_73) (rz_cons (rz_icmp_ge G d_Ca_block_75 (by decide)) (rz_cons (rz_aload_n G d_Ca_block_78 rfl) (rz_cons (rz_get G rfl in_Ca (by decide) wd_258 d_Ca_block_79) (rz_cons (rz_lload_n G d_Ca_block_82 rfl) (rz_cons (rz_iload G d_Ca_block_83) (rz_cons (rz_csi G (m_Ca_octetOf X.1) cd_Ca_octetOf wd_354 wd_355 (by decide) d_Ca_block_85) (rz_cons (rz_cvv G (m_Li_take X.1) cd_Li_take wd_357 wd_358 wd_359 rfl rfl (by decide) d_Ca_block_88) (rz_cons (rz_iinc G d_Ca_block_91 (by decide) (by decide)) (rz_cons (rz_goto (npc := 0) G d_Ca_block_94 (by decide)) rz_nil)))))))))))
  | 5 => (rz_cons (rz_aload_n G d_Ca_block_97 rfl) (rz_cons (rz_get G rfl in_Ca (by decide) wd_258 d_Ca_block_98) (rz_cons (rz_aload_n G d_Ca_block_101 rfl) (rz_cons (rz_get G rfl in_Ca (by decide) wd_258 d_Ca_block_102) (rz_cons (rz_cvi G (m_Li_sumOfArrived X.1) cd_Li_sumOfArrived wd_589 wd_382 wd_383 rfl rfl (by decide) d_Ca_block_105) (rz_cons (rz_cvv G (m_Li_take X.1) cd_Li_take wd_357 wd_358 wd_359 rfl rfl (by decide) d_Ca_block_108) (rz_cons (rz_aload_n G d_Ca_block_111 rfl) (rz_cons (rz_cvv G (m_Ca_answerBlock X.1) cd_Ca_answerBlock wd_373 wd_375 wd_2 rfl rfl (by decide) d_Ca_block_112) (rz_cons (rz_aload_n G d_Ca_block_115 rfl) (rz_cons (rz_get G rfl in_Ca (by decide) wd_258 d_Ca_block_116) (rz_cons (rz_getN G rfl in_Li (by decide) wn_2 d_Ca_block_119) (rz_cons (rz_iret (npc := 0) (fun _ => rfl) d_Ca_block_122) rz_nil))))))))))))
  | _ + 6 => rz_nil
set_option maxRecDepth 100000 in
set_option maxHeartbeats 4000000 in
theorem bd_Ca_block : ∀ (Y : Nat → rz_K) (P : rz_P), (∀ b ls st μ, rz_ex P Y (bk_Ca_block b) ls st μ → Y b ls st μ) → ∀ As μ, C_Ca_block As μ P → Y 0 (rz_pad 6 (rz_ent As)) [] μ := by
  intro Y P hY As μ hC
  obtain ⟨p, w, n, rfl, hok, hC⟩ := hC
  refine hY 0 _ _ _ (And.intro (fun h => hY 1 _ _ _ (rzT (PQ P) h hC)) (fun h1 => ?_))
  have hC := rzF (PQ P) h1 hC
  refine And.intro (fun h => hY 1 _ _ _ (rzT (PQ P) h hC)) (fun h2 => ?_)
  have hC := rzF (PQ P) h2 hC
  refine And.intro (fun h => hY 1 _ _ _ (rzT (PQ P) h hC)) (fun h3 => ?_)
  have hC := rzF (PQ P) h3 hC
  refine And.intro (fun h4 => ?_) (fun h => hY 1 _ _ _ (rzF (PQ P) h hC))
  have hC := rzT (PQ P) h4 hC
  refine hY 2 _ _ _ (And.intro (fun h5 => ?_) (fun h => rzN (PQ P) h hC))
  have hC := rzT (PQ P) h5 hC
  have hok := hok h1 h2 h3 h4 h5
  obtain ⟨nn, hn31, hn⟩ := nI_of h3
  have hn8 : nn ≤ 8 := by rw [hn] at h4; exact (nI_leI (b := 8) hn31 (by omega)).mp h4
  rw [nc hn hn31] at hok hC
  have loop : ∀ (d i : Nat) (ν : rz_M), i + d = nn → ν 1 1 = nI (3 + i) → f_tks w d i ν = f_blk p w nn μ → Y 4 [some (.ref 0), some (.int p), some (.long w), none, some (.int n), some (.int (nI i))] [] ν := by
    intro d
    induction d with
    | zero =>
      intro i ν hi h11 he
      have : i = nn := by omega
      subst this
      refine hY 4 _ _ _ (And.intro (fun _ => ?_) (fun h => absurd ?_ h))
      · have he : ν = f_blk p w i μ := he
        refine hY 5 _ _ _ ⟨3 + i, rfl, h11, by omega, ?_⟩
        refine ⟨_, 3 + i, rfl, h11, by omega, ?_⟩
        rw [tk_eq h11 (by omega)]
        refine ⟨i + 4, rfl, ?_, by omega, ?_, ?_⟩
        · rw [f_tk_11 h11 (by omega)]; congr 1; omega
        · rw [he]; exact hok
        · show P _ _
          rw [he]
          exact hC
      · rw [hn]; exact Int32.le_refl _
    | succ d ih =>
      intro i ν hi h11 he
      refine hY 4 _ _ _ (And.intro (fun h => absurd h ?_) (fun _ => ⟨_, _, rfl, ?_⟩))
      · rw [hn]; exact nI_ge (by omega) (by omega)
      · refine ⟨_, 3 + i, rfl, h11, by omega, ?_⟩
        rw [tk_eq h11 (by omega)]
        have := ih (i + 1) (f_tk (v_oct w (nI i)) ν) (by omega) (by rw [f_tk_11 h11 (by omega)]; congr 1) he
        rw [nI_succ] at this
        exact this
  refine hY 3 _ _ _ ⟨_, 0, rfl, rfl, by omega, ?_⟩
  rw [tk_eq rfl (by omega)]
  refine ⟨_, 1, rfl, rfl, by omega, ?_⟩
  rw [tk_eq rfl (by omega)]
  refine ⟨_, 2, rfl, rfl, by omega, ?_⟩
  rw [tk_eq rfl (by omega)]
  refine loop nn 0 _ (by omega) rfl ?_
  unfold f_blk
  rw [hn]
theorem m_Ca_block (E : rz_E) : rz_MI SH CL E y_Ca_block 6 (Cond.code y_Ca_block c_Ca_block 6 (some .int) :: rz_tbl) ({ frames := 6, cells := 0, slots := 0, locals := 134 }) C_Ca_block := rz_metI (by decide) rfl (fun X _ G => sd_Ca_block X G) bd_Ca_block
theorem cd_Ca_block : rz_Cd rz_tbl y_Ca_block c_Ca_block 6 (some .int) (Cond.code y_Ca_block c_Ca_block 6 (some .int) :: rz_tbl) 3 ({ frames := 6, cells := 0, slots := 0, locals := 134 }) := ⟨rz_good wd_588, ⟨_, rfl⟩, wd_40, by decide +kernel, rfl, rfl⟩
end
section
def C_Mo_within : rz_C := fun As μ P => ∃ v l t : Int32, As = [.int v, .int l, .int t] ∧ P (some (.int (b2 (¬ v < l ∧ ¬ t < v)))) μ
def bk_Mo_within : Nat → List rz_T := fun b => match b with
  | 0 => [tz_iload 0, tz_iload 1, tz_icmp_lt 1, tz_iload 0, tz_iload 2, tz_icmp_gt 1, tz_iconst 1, tz_goto 2]
  | 1 => [tz_iconst 0, tz_fall 2]
  | 2 => [tz_zret]
  | _ => []
def bp_Mo_within : Nat → Nat := fun b => match b with
  | 0 => 0
  | 1 => 14
  | 2 => 15
  | _ => 0
set_option maxRecDepth 100000 in
set_option maxHeartbeats 4000000 in
theorem sd_Mo_within (X : rz_X) (G : rz_Cx CL X c_Mo_within 3 rz_tbl R_Mo ({ frames := 0, cells := 0, slots := 0, locals := 0 })) : ∀ b, rz_SB SH CL X bp_Mo_within (rz_RI SH CL X c_Mo_within (fun v => narrow .boolean (.int v) = .int v)) (bk_Mo_within b) (bp_Mo_within b) := fun b => match b with
  | 0 => (rz_cons (rz_iload_n G d_Mo_within_0 rfl) (rz_cons (rz_iload_n G d_Mo_within_1 rfl) (rz_cons (rz_icmp_lt G d_Mo_within_2 (by decide)) (rz_cons (rz_iload_n G d_Mo_within_5 rfl) (rz_cons (rz_iload_n G d_Mo_within_6 rfl) (rz_cons (rz_icmp_gt G d_Mo_within_7 (by decide)) (rz_cons (rz_iconst G d_Mo_within_10 (by decide)) (rz_cons (rz_goto (npc := 0) G d_Mo_within_11 (by decide)) rz_nil))))))))
  | 1 => (rz_cons (rz_iconst G d_Mo_within_14 (by decide)) (rz_fall rfl))
  | 2 => (rz_cons (rz_zret (npc := 0) (by rintro v (rfl | rfl) <;> rfl) d_Mo_within_15) rz_nil)
  | _ + 3 => rz_nil
set_option maxRecDepth 100000 in
set_option maxHeartbeats 4000000 in
theorem bd_Mo_within : ∀ (Y : Nat → rz_K) (P : rz_P), (∀ b ls st μ, rz_ex P Y (bk_Mo_within b) ls st μ → Y b ls st μ) → ∀ As μ, C_Mo_within As μ P → Y 0 (rz_pad 3 (rz_ent As)) [] μ := by
  intro Y P hY As μ hC
  obtain ⟨v, l, t, rfl, hC⟩ := hC
  refine hY 0 _ _ _ (And.intro (fun h => hY 1 _ _ _ (hY 2 _ _ _ (pF hC (fun q => q.1 h)))) (fun h => And.intro (fun h2 => hY 1 _ _ _ (hY 2 _ _ _ (pF hC (fun q => q.2 h2)))) (fun h2 => hY 2 _ _ _ (pT hC ⟨h, h2⟩))))
theorem m_Mo_within (E : rz_E) : rz_MI SH CL E y_Mo_within 3 (Cond.code y_Mo_within c_Mo_within 3 (some .boolean) :: rz_tbl) ({ frames := 0, cells := 0, slots := 0, locals := 0 }) C_Mo_within := rz_metI (by decide) rfl (fun X _ G => sd_Mo_within X G) bd_Mo_within
theorem cd_Mo_within : rz_Cd rz_tbl y_Mo_within c_Mo_within 3 (some .boolean) (Cond.code y_Mo_within c_Mo_within 3 (some .boolean) :: rz_tbl) 3 ({ frames := 0, cells := 0, slots := 0, locals := 0 }) := ⟨rz_good wd_737, ⟨_, rfl⟩, wd_47, by decide +kernel, rfl, rfl⟩
def C_Mo_tear : rz_C := fun As μ P => ∃ n : Int32, As = [.ref 19, .int n] ∧ PQ P (if ¬ n < -1 ∧ ¬ 200 < n then (μ 19 12, rz_up μ 19 12 n) else (-1, μ))
def bk_Mo_tear : Nat → List rz_T := fun b => match b with
  | 0 => [tz_iload 1, tz_iconst (-1), tz_sipush 200, tz_cs 3 3 C_Mo_within, tz_if_ne 1, tz_iconst (-1), tz_iret]
  | 1 => [tz_aload 0, tz_get SH 7 12, tz_istore 2, tz_aload 0, tz_iload 1, tz_put SH 7 12, tz_iload 2, tz_iret]
  | _ => []
def bp_Mo_tear : Nat → Nat := fun b => match b with
  | 0 => 0
  | 1 => 13
  | _ => 0
set_option maxRecDepth 100000 in
set_option maxHeartbeats 4000000 in
theorem sd_Mo_tear (X : rz_X) (G : rz_Cx CL X c_Mo_tear 3 rz_tbl R_Mo ({ frames := 1, cells := 0, slots := 0, locals := 22 })) : ∀ b, rz_SB SH CL X bp_Mo_tear (rz_RI SH CL X c_Mo_tear (fun v => narrow .int (.int v) = .int v)) (bk_Mo_tear b) (bp_Mo_tear b) := fun b => match b with
  | 0 => (rz_cons (rz_iload_n G d_Mo_tear_0 rfl) (rz_cons (rz_iconst G d_Mo_tear_1 (by decide)) (rz_cons (rz_sipush G d_Mo_tear_2 (by decide)) (rz_cons (rz_csi G (m_Mo_within X.1) cd_Mo_within wd_735 wd_736 (by decide) d_Mo_tear_5) (rz_cons (rz_if_ne G d_Mo_tear_8 (by decide)) (rz_cons (rz_iconst G d_Mo_tear_11 (by decide)) (rz_cons (rz_iret (npc := 0) (fun _ => rfl) d_Mo_tear_12) rz_nil)))))))
  | 1 => (rz_cons (rz_aload_n G d_Mo_tear_13 rfl) (rz_cons (rz_get G rfl in_Mo (by decide) wd_631 d_Mo_tear_14) (rz_cons (rz_istore_n G d_Mo_tear_17 rfl (by decide)) (rz_cons (rz_aload_n G d_Mo_tear_18 rfl) (rz_cons (rz_iload_n G d_Mo_tear_19 rfl) (rz_cons (rz_put G rfl in_Mo ty_Mo tyok_Mo nm_Mo (by decide) rfl (by decide +kernel) wd_631 d_Mo_tear_20) (rz_cons (rz_iload_n G d_Mo_tear_23 rfl) (rz_cons (rz_iret (npc := 0) (fun _ => rfl) d_Mo_tear_24) rz_nil))))))))
  | _ + 2 => rz_nil
set_option maxRecDepth 100000 in
set_option maxHeartbeats 4000000 in
theorem bd_Mo_tear : ∀ (Y : Nat → rz_K) (P : rz_P), (∀ b ls st μ, rz_ex P Y (bk_Mo_tear b) ls st μ → Y b ls st μ) → ∀ As μ, C_Mo_tear As μ P → Y 0 (rz_pad 3 (rz_ent As)) [] μ := by
  intro Y P hY As μ hC
  obtain ⟨n, rfl, hC⟩ := hC
  exact hY 0 _ _ _ ⟨_, _, _, rfl, And.intro (fun h => hY 1 _ _ _ (rzT (PQ P) (b2_ne h) hC)) (fun h => rzF (PQ P) (b2_eq h) hC)⟩
theorem m_Mo_tear (E : rz_E) : rz_MI SH CL E y_Mo_tear 3 (Cond.code y_Mo_tear c_Mo_tear 3 (some .int) :: rz_tbl) ({ frames := 1, cells := 0, slots := 0, locals := 22 }) C_Mo_tear := rz_metI (by decide) rfl (fun X _ G => sd_Mo_tear X G) bd_Mo_tear
theorem cd_Mo_tear : rz_Cd rz_tbl y_Mo_tear c_Mo_tear 3 (some .int) (Cond.code y_Mo_tear c_Mo_tear 3 (some .int) :: rz_tbl) 1 ({ frames := 1, cells := 0, slots := 0, locals := 22 }) := ⟨rz_good wd_742, ⟨_, rfl⟩, wd_47, by decide +kernel, rfl, rfl⟩
def g_w (μ : rz_M) : rz_M := if ¬ μ 19 12 = 0 then rz_up (if μ 19 12 ≤ 0 then μ else rz_up μ 19 12 (μ 19 12 - 1)) 19 9 (μ 19 9 + 1) else rz_up (rz_up (rz_up (rz_up μ 19 12 (-1)) 19 10 (μ 19 10 + 1)) 19 17 0) 19 34 0
def C_Mo_writes : rz_C := fun As μ P => As = [.ref 19] ∧ P (some (.int (b2 (¬ μ 19 12 = 0)))) (g_w μ)
def bk_Mo_writes : Nat → List rz_T := fun b => match b with
  | 0 => [tz_aload 0, tz_get SH 7 12, tz_if_ne 1, tz_aload 0, tz_iconst (-1), tz_put SH 7 12, tz_aload 0, tz_dup, tz_get SH 7 10, tz_iconst 1, tz_iadd, tz_put SH 7 10, tz_aload 0, tz_iconst 0, tz_putz SH 7 17, tz_aload 0, tz_iconst 0, tz_put SH 7 34, tz_iconst 0, tz_zret]
  | 1 => [tz_aload 0, tz_get SH 7 12, tz_if_le 2, tz_aload 0, tz_dup, tz_get SH 7 12, tz_iconst 1, tz_isub, tz_put SH 7 12, tz_fall 2]
  | 2 => [tz_aload 0, tz_dup, tz_get SH 7 9, tz_iconst 1, tz_iadd, tz_put SH 7 9, tz_iconst 1, tz_zret]
  | _ => []
def bp_Mo_writes : Nat → Nat := fun b => match b with
  | 0 => 0
  | 1 => 34
  | 2 => 51
  | _ => 0
set_option maxRecDepth 100000 in
set_option maxHeartbeats 4000000 in
theorem sd_Mo_writes (X : rz_X) (G : rz_Cx CL X c_Mo_writes 1 rz_tbl R_Mo ({ frames := 0, cells := 0, slots := 0, locals := 0 })) : ∀ b, rz_SB SH CL X bp_Mo_writes (rz_RI SH CL X c_Mo_writes (fun v => narrow .boolean (.int v) = .int v)) (bk_Mo_writes b) (bp_Mo_writes b) := fun b => match b with
  | 0 => (rz_cons (rz_aload_n G d_Mo_writes_0 rfl) (rz_cons (rz_get G rfl in_Mo (by decide) wd_631 d_Mo_writes_1) (rz_cons (rz_if_ne G d_Mo_writes_4 (by decide)) (rz_cons (rz_aload_n G d_Mo_writes_7 rfl) (rz_cons (rz_iconst G d_Mo_writes_8 (by decide)) (rz_cons (rz_put G rfl in_Mo ty_Mo tyok_Mo nm_Mo (by decide) rfl (by decide +kernel) wd_631 d_Mo_writes_9) (rz_cons (rz_aload_n G d_Mo_writes_12 rfl) (rz_cons (rz_dup G d_Mo_writes_13) (rz_cons (rz_get G rfl in_Mo (by decide) wd_629 d_Mo_writes_14) (rz_cons (rz_iconst G d_Mo_writes_17 (by decide)) (rz_cons (rz_iadd G d_Mo_writes_18) (rz_cons (rz_put G rfl in_Mo ty_Mo tyok_Mo nm_Mo (by decide) rfl (by decide +kernel) wd_629 d_Mo_writes_19) (rz_cons (rz_aload_n G d_Mo_writes_22 rfl) (rz_cons (rz_iconst G d_Mo_writes_23 (by decide)) (rz_cons (rz_putz G rfl in_Mo ty_Mo tyok_Mo nm_Mo (by decide) rfl (by decide +kernel) wd_636 d_Mo_writes_24) (rz_cons (rz_aload_n G d_Mo_writes_27 rfl) (rz_cons (rz_iconst G d_Mo_writes_28 (by decide)) (rz_cons (rz_put G rfl in_Mo ty_Mo tyok_Mo nm_Mo (by decide) rfl (by decide +kernel) wd_653 d_Mo_writes_29) (rz_cons (rz_iconst G d_Mo_writes_32 (by decide)) (rz_cons (rz_zret (npc := 0) (by rintro v (rfl | rfl) <;> rfl) d_Mo_writes_33) rz_nil))))))))))))))))))))
  | 1 => (rz_cons (rz_aload_n G d_Mo_writes_34 rfl) (rz_cons (rz_get G rfl in_Mo (by decide) wd_631 d_Mo_writes_35) (rz_cons (rz_if_le G d_Mo_writes_38 (by decide)) (rz_cons (rz_aload_n G d_Mo_writes_41 rfl) (rz_cons (rz_dup G d_Mo_writes_42) (rz_cons (rz_get G rfl in_Mo (by decide) wd_631 d_Mo_writes_43) (rz_cons (rz_iconst G d_Mo_writes_46 (by decide)) (rz_cons (rz_isub G d_Mo_writes_47) (rz_cons (rz_put G rfl in_Mo ty_Mo tyok_Mo nm_Mo (by decide) rfl (by decide +kernel) wd_631 d_Mo_writes_48) (rz_fall rfl))))))))))
  | 2 => (rz_cons (rz_aload_n G d_Mo_writes_51 rfl) (rz_cons (rz_dup G d_Mo_writes_52) (rz_cons (rz_get G rfl in_Mo (by decide) wd_628 d_Mo_writes_53) (rz_cons (rz_iconst G d_Mo_writes_56 (by decide)) (rz_cons (rz_iadd G d_Mo_writes_57) (rz_cons (rz_put G rfl in_Mo ty_Mo tyok_Mo nm_Mo (by decide) rfl (by decide +kernel) wd_628 d_Mo_writes_58) (rz_cons (rz_iconst G d_Mo_writes_61 (by decide)) (rz_cons (rz_zret (npc := 0) (by rintro v (rfl | rfl) <;> rfl) d_Mo_writes_62) rz_nil))))))))
  | _ + 3 => rz_nil
set_option maxRecDepth 100000 in
set_option maxHeartbeats 4000000 in
theorem bd_Mo_writes : ∀ (Y : Nat → rz_K) (P : rz_P), (∀ b ls st μ, rz_ex P Y (bk_Mo_writes b) ls st μ → Y b ls st μ) → ∀ As μ, C_Mo_writes As μ P → Y 0 (rz_pad 1 (rz_ent As)) [] μ := by
  intro Y P hY As μ hC
  obtain ⟨rfl, hC⟩ := hC
  unfold g_w at hC
  refine hY 0 _ _ _ (And.intro (fun (h : ¬ μ 19 12 = 0) => ?_) (fun (h : μ 19 12 = 0) => ?_))
  · rw [if_pos h] at hC
    refine hY _ _ _ _ (And.intro (fun (h2 : μ 19 12 ≤ 0) => ?_) (fun (h2 : ¬ μ 19 12 ≤ 0) => ?_))
    · rw [if_pos h2] at hC
      exact hY _ _ _ _ (pT hC h)
    · rw [if_neg h2] at hC
      exact hY _ _ _ _ (pT hC h)
  · rw [if_neg (fun q => q h)] at hC
    exact And.intro (Or.inl rfl) (pF hC (fun q => q h))
theorem m_Mo_writes (E : rz_E) : rz_MI SH CL E y_Mo_writes 1 (Cond.code y_Mo_writes c_Mo_writes 1 (some .boolean) :: rz_tbl) ({ frames := 0, cells := 0, slots := 0, locals := 0 }) C_Mo_writes := rz_metI (by decide) rfl (fun X _ G => sd_Mo_writes X G) bd_Mo_writes
theorem cd_Mo_writes : rz_Cd rz_tbl y_Mo_writes c_Mo_writes 1 (some .boolean) (Cond.code y_Mo_writes c_Mo_writes 1 (some .boolean) :: rz_tbl) 0 ({ frames := 0, cells := 0, slots := 0, locals := 0 }) := ⟨rz_good wd_754, ⟨_, rfl⟩, wd_47, by decide +kernel, rfl, rfl⟩
theorem g_w_ne {μ : rz_M} {k : Nat} (h : k ≠ 19) : g_w μ k = μ k := by
  unfold g_w
  split
  · split
    · exact rz_up_k h
    · rw [rz_up_k h, rz_up_k h]
  · rw [rz_up_k h, rz_up_k h, rz_up_k h, rz_up_k h]
theorem g_w_19 {μ : rz_M} {j : Nat} (h9 : j ≠ 9) (h10 : j ≠ 10) (h12 : j ≠ 12) (h17 : j ≠ 17) (h34 : j ≠ 34) : g_w μ 19 j = μ 19 j := by
  unfold g_w
  split
  · split
    · exact rz_up_j h9
    · rw [rz_up_j h9, rz_up_j h12]
  · rw [rz_up_j h34, rz_up_j h17, rz_up_j h10, rz_up_j h12]
def g_seL : Nat → Nat → rz_M → Int32 × rz_M
  | 0, _, μ => if μ 19 12 = 0 then (0, g_w μ) else (1, rz_up (g_w μ) 19 16 0)
  | d + 1, i, μ => if μ 19 12 = 0 then (0, g_w μ) else g_seL d (i + 1) (rz_up (g_w μ) 25 (24 * μ 19 14 + μ 19 15 + nI i).toNatClampNeg (μ 26 i))
theorem g_seL_01 : ∀ (d i : Nat) (μ : rz_M), (g_seL d i μ).1 = 0 ∨ (g_seL d i μ).1 = 1
  | 0, i, μ => by
    unfold g_seL
    split
    · exact Or.inl rfl
    · exact Or.inr rfl
  | d + 1, i, μ => by
    unfold g_seL
    split
    · exact Or.inl rfl
    · exact g_seL_01 d (i + 1) _
def C_Mo_settle : rz_C := fun As μ P => ∃ n f p : Nat, As = [.ref 19] ∧ μ 19 16 = nI n ∧ μ 19 14 = nI f ∧ μ 19 15 = nI p ∧ f < 8 ∧ p + n ≤ 24 ∧ P (some (.int (g_seL n 0 μ).1)) (g_seL n 0 μ).2
def bk_Mo_settle : Nat → List rz_T := fun b => match b with
  | 0 => [tz_iconst 0, tz_istore 1, tz_fall 1]
  | 1 => [tz_iload 1, tz_aload 0, tz_get SH 7 16, tz_icmp_ge 3, tz_aload 0, tz_cv SH 0 7 1 C_Mo_writes, tz_istore 2, tz_iload 2, tz_if_ne 2, tz_iconst 0, tz_zret]
  | 2 => [tz_aload 0, tz_get SH 7 5, tz_bipush 24, tz_aload 0, tz_get SH 7 14, tz_imul, tz_aload 0, tz_get SH 7 15, tz_iadd, tz_iload 1, tz_iadd, tz_aload 0, tz_get SH 7 13, tz_iload 1, tz_iald SH, tz_iast SH, tz_iinc 1 1, tz_goto 1]
  | 3 => [tz_aload 0, tz_cv SH 0 7 1 C_Mo_writes, tz_istore 1, tz_iload 1, tz_if_eq 4, tz_aload 0, tz_iconst 0, tz_put SH 7 16, tz_fall 4]
  | 4 => [tz_iload 1, tz_zret]
  | _ => []
def bp_Mo_settle : Nat → Nat := fun b => match b with
  | 0 => 0
  | 1 => 2
  | 2 => 21
  | 3 => 52
  | 4 => 66
  | _ => 0
set_option maxRecDepth 100000 in
set_option maxHeartbeats 4000000 in
theorem sd_Mo_settle (X : rz_X) (G : rz_Cx CL X c_Mo_settle 3 rz_tbl R_Mo ({ frames := 1, cells := 0, slots := 0, locals := 20 })) : ∀ b, rz_SB SH CL X bp_Mo_settle (rz_RI SH CL X c_Mo_settle (fun v => narrow .boolean (.int v) = .int v)) (bk_Mo_settle b) (bp_Mo_settle b) := fun b => match b with
  | 0 => (rz_cons (rz_iconst G d_Mo_settle_0 (by decide)) (rz_cons (rz_istore_n G d_Mo_settle_1 rfl (by decide)) (rz_fall rfl)))
  | 1 => (rz_cons (rz_iload_n G d_Mo_settle_2 rfl) (rz_cons (rz_aload_n G d_Mo_settle_3 rfl) (rz_cons (rz_get G rfl in_Mo (by decide) wd_635 d_Mo_settle_4) (rz_cons (rz_icmp_ge G d_Mo_settle_7 (by decide)) (rz_cons (rz_aload_n G d_Mo_settle_10 rfl) (rz_cons (rz_cvi G (m_Mo_writes X.1) cd_Mo_writes wd_751 wd_753 wd_20 rfl rfl (by decide) d_Mo_settle_11) (rz_cons (rz_istore_n G d_Mo_settle_14 rfl (by decide)) (rz_cons (rz_iload_n G d_Mo_settle_15 rfl) (rz_cons (rz_if_ne G d_Mo_settle_16 (by decide)) (rz_cons (rz_iconst G d_Mo_settle_19 (by decide)) (rz_cons (rz_zret (npc := 0) (by rintro v (rfl | rfl) <;> rfl) d_Mo_settle_20) rz_nil)))))))))))
  | 2 => (rz_cons (rz_aload_n G d_Mo_settle_21 rfl) (rz_cons (rz_get G rfl in_Mo (by decide) wd_624 d_Mo_settle_22) (rz_cons (rz_bipush G d_Mo_settle_25 (by decide)) (rz_cons (rz_aload_n G d_Mo_settle_27 rfl) (rz_cons (rz_get G rfl in_Mo (by decide) wd_633 d_Mo_settle_28) (rz_cons (rz_imul G d_Mo_settle_31) (rz_cons (rz_aload_n G d_Mo_settle_32 rfl) (rz_cons (rz_get G rfl in_Mo (by decide) wd_634 d_Mo_settle_33) (rz_cons (rz_iadd G d_Mo_settle_36) (rz_cons (rz_iload_n G d_Mo_settle_37 rfl) (rz_cons (rz_iadd G d_Mo_settle_38) (rz_cons (rz_aload_n G d_Mo_settle_39 rfl) (rz_cons (rz_get G rfl in_Mo (by decide) wd_632 d_Mo_settle_40) (rz_cons (rz_iload_n G d_Mo_settle_43 rfl) (rz_cons (rz_iald G d_Mo_settle_44) (rz_cons (rz_iast G d_Mo_settle_45) (rz_cons (rz_iinc G d_Mo_settle_46 (by decide) (by decide)) (rz_cons (rz_goto (npc := 0) G d_Mo_settle_49 (by decide)) rz_nil))))))))))))))))))
  | 3 => (rz_cons (rz_aload_n G d_Mo_settle_52 rfl) (rz_cons (rz_cvi G (m_Mo_writes X.1) cd_Mo_writes wd_751 wd_753 wd_20 rfl rfl (by decide) d_Mo_settle_53) (rz_cons (rz_istore_n G d_Mo_settle_56 rfl (by decide)) (rz_cons (rz_iload_n G d_Mo_settle_57 rfl) (rz_cons (rz_if_eq G d_Mo_settle_58 (by decide)) (rz_cons (rz_aload_n G d_Mo_settle_61 rfl) (rz_cons (rz_iconst G d_Mo_settle_62 (by decide)) (rz_cons (rz_put G rfl in_Mo ty_Mo tyok_Mo nm_Mo (by decide) rfl (by decide +kernel) wd_635 d_Mo_settle_63) (rz_fall rfl)))))))))
  | 4 => (rz_cons (rz_iload_n G d_Mo_settle_66 rfl) (rz_cons (rz_zret (npc := 0) (by rintro v (rfl | rfl) <;> rfl) d_Mo_settle_67) rz_nil))
  | _ + 5 => rz_nil
set_option maxRecDepth 100000 in
set_option maxHeartbeats 4000000 in
theorem bd_Mo_settle : ∀ (Y : Nat → rz_K) (P : rz_P), (∀ b ls st μ, rz_ex P Y (bk_Mo_settle b) ls st μ → Y b ls st μ) → ∀ As μ, C_Mo_settle As μ P → Y 0 (rz_pad 3 (rz_ent As)) [] μ := by
  intro Y P hY As μ hC
  obtain ⟨n, f, p, rfl, hn, hf, hp, hf8, hpn, hC⟩ := hC
  have loop : ∀ (d i : Nat) (x : Option Value) (ν : rz_M), i + d = n → ν 19 16 = nI n → ν 19 14 = nI f → ν 19 15 = nI p → P (some (.int (g_seL d i ν).1)) (g_seL d i ν).2 → Y 1 [some (.ref 19), some (.int (nI i)), x] [] ν := by
    intro d
    induction d with
    | zero =>
      intro i x ν hi h16 _ _ hq
      have : i = n := by omega
      subst this
      refine hY 1 _ _ _ (And.intro (fun _ => ?_) (fun h => absurd ?_ h))
      · refine hY 3 _ _ _ (And.intro rfl (And.intro (fun h => ?_) (fun h => ?_)))
        · have h0 : ν 19 12 = 0 := Decidable.not_not.mp (b2_eq h)
          rw [g_seL, if_pos h0] at hq
          refine hY 4 _ _ _ (And.intro (b2_01 _) ?_)
          rw [h]; exact hq
        · have h0 := b2_ne h
          rw [g_seL, if_neg h0] at hq
          refine hY 4 _ _ _ (And.intro (b2_01 _) ?_)
          rw [b2_pos h0]; exact hq
      · show ν 19 16 ≤ nI i
        rw [h16]; exact Int32.le_refl _
    | succ d ih =>
      intro i x ν hi h16 h14 h15 hq
      refine hY 1 _ _ _ (And.intro (fun (h : ν 19 16 ≤ nI i) => absurd h ?_) (fun _ => And.intro rfl (And.intro (fun h => ?_) (fun h => ?_))))
      · rw [h16]; exact nI_ge (by omega) (by omega)
      · have h0 := b2_ne h
        rw [g_seL, if_neg h0] at hq
        have e14 : g_w ν 19 14 = ν 19 14 := g_w_19 (by decide) (by decide) (by decide) (by decide) (by decide)
        have e15 : g_w ν 19 15 = ν 19 15 := g_w_19 (by decide) (by decide) (by decide) (by decide) (by decide)
        have e16 : g_w ν 19 16 = ν 19 16 := g_w_19 (by decide) (by decide) (by decide) (by decide) (by decide)
        have e26 : g_w ν 26 = ν 26 := g_w_ne (by decide)
        have ix : 24 * ν 19 14 + ν 19 15 + nI i = nI (24 * f + p + i) := by
          rw [h14, h15, show (24 : Int32) = nI 24 from rfl, pk_mul, nI_add, nI_add]
        refine hY 2 _ _ _ (And.intro (vp_in_nI (by omega) (by omega)) (And.intro ?_ ?_))
        · show vp_in (24 * g_w ν 19 14 + g_w ν 19 15 + nI i) 192
          rw [e14, e15, ix]; exact vp_in_nI (by omega) (by omega)
        · have := ih (i + 1) (some (.int (b2 (¬ ν 19 12 = 0)))) _ (by omega) (by rw [rz_up_k (by decide), e16]; exact h16) (by rw [rz_up_k (by decide), e14]; exact h14) (by rw [rz_up_k (by decide), e15]; exact h15) hq
          rw [nI_succ] at this
          rw [nI_clamp (by omega), e26, e14, e15]
          exact this
      · have h0 : ν 19 12 = 0 := Decidable.not_not.mp (b2_eq h)
        rw [g_seL, if_pos h0] at hq
        exact And.intro (Or.inl rfl) hq
  exact hY 0 _ _ _ (loop n 0 none μ (by omega) hn hf hp hC)
theorem m_Mo_settle (E : rz_E) : rz_MI SH CL E y_Mo_settle 3 (Cond.code y_Mo_settle c_Mo_settle 3 (some .boolean) :: rz_tbl) ({ frames := 1, cells := 0, slots := 0, locals := 20 }) C_Mo_settle := rz_metI (by decide) rfl (fun X _ G => sd_Mo_settle X G) bd_Mo_settle
theorem cd_Mo_settle : rz_Cd rz_tbl y_Mo_settle c_Mo_settle 3 (some .boolean) (Cond.code y_Mo_settle c_Mo_settle 3 (some .boolean) :: rz_tbl) 0 ({ frames := 1, cells := 0, slots := 0, locals := 20 }) := ⟨rz_good wd_750, ⟨_, rfl⟩, wd_47, by decide +kernel, rfl, rfl⟩
def g_forget (μ : rz_M) : rz_M := rz_up (rz_up (rz_up (rz_up μ 19 31 0) 19 19 0) 19 32 0) 19 33 0
def C_Mo_forget : rz_C := fun As μ P => As = [.ref 19] ∧ P none (g_forget μ)
def bk_Mo_forget : Nat → List rz_T := fun b => match b with
  | 0 => [tz_aload 0, tz_iconst 0, tz_put SH 7 31, tz_aload 0, tz_iconst 0, tz_putz SH 7 19, tz_aload 0, tz_iconst 0, tz_put SH 7 32, tz_aload 0, tz_iconst 0, tz_put SH 7 33, tz_vret]
  | _ => []
def bp_Mo_forget : Nat → Nat := fun b => match b with
  | 0 => 0
  | _ => 0
set_option maxRecDepth 100000 in
set_option maxHeartbeats 4000000 in
theorem sd_Mo_forget (X : rz_X) (G : rz_Cx CL X c_Mo_forget 1 rz_tbl R_Mo ({ frames := 0, cells := 0, slots := 0, locals := 0 })) : ∀ b, rz_SB SH CL X bp_Mo_forget (rz_RV SH CL X c_Mo_forget) (bk_Mo_forget b) (bp_Mo_forget b) := fun b => match b with
  | 0 => (rz_cons (rz_aload_n G d_Mo_forget_0 rfl) (rz_cons (rz_iconst G d_Mo_forget_1 (by decide)) (rz_cons (rz_put G rfl in_Mo ty_Mo tyok_Mo nm_Mo (by decide) rfl (by decide +kernel) wd_650 d_Mo_forget_2) (rz_cons (rz_aload_n G d_Mo_forget_5 rfl) (rz_cons (rz_iconst G d_Mo_forget_6 (by decide)) (rz_cons (rz_putz G rfl in_Mo ty_Mo tyok_Mo nm_Mo (by decide) rfl (by decide +kernel) wd_638 d_Mo_forget_7) (rz_cons (rz_aload_n G d_Mo_forget_10 rfl) (rz_cons (rz_iconst G d_Mo_forget_11 (by decide)) (rz_cons (rz_put G rfl in_Mo ty_Mo tyok_Mo nm_Mo (by decide) rfl (by decide +kernel) wd_651 d_Mo_forget_12) (rz_cons (rz_aload_n G d_Mo_forget_15 rfl) (rz_cons (rz_iconst G d_Mo_forget_16 (by decide)) (rz_cons (rz_put G rfl in_Mo ty_Mo tyok_Mo nm_Mo (by decide) rfl (by decide +kernel) wd_652 d_Mo_forget_17) (rz_cons (rz_vret (npc := 0) d_Mo_forget_20) rz_nil)))))))))))))
  | _ + 1 => rz_nil
set_option maxRecDepth 100000 in
set_option maxHeartbeats 4000000 in
theorem bd_Mo_forget : ∀ (Y : Nat → rz_K) (P : rz_P), (∀ b ls st μ, rz_ex P Y (bk_Mo_forget b) ls st μ → Y b ls st μ) → ∀ As μ, C_Mo_forget As μ P → Y 0 (rz_pad 1 (rz_ent As)) [] μ := by
  intro Y P hY As μ hC
  obtain ⟨rfl, hC⟩ := hC
  exact hY 0 _ _ _ (And.intro (Or.inl rfl) hC)
theorem m_Mo_forget (E : rz_E) : rz_MV SH CL E y_Mo_forget 1 (Cond.code y_Mo_forget c_Mo_forget 1 none :: rz_tbl) ({ frames := 0, cells := 0, slots := 0, locals := 0 }) C_Mo_forget := rz_metV (by decide) rfl (fun X _ G => sd_Mo_forget X G) bd_Mo_forget
theorem cd_Mo_forget : rz_Cd rz_tbl y_Mo_forget c_Mo_forget 1 none (Cond.code y_Mo_forget c_Mo_forget 1 none :: rz_tbl) 0 ({ frames := 0, cells := 0, slots := 0, locals := 0 }) := ⟨rz_good wd_762, ⟨_, rfl⟩, wd_47, by decide +kernel, rfl, rfl⟩
def g_begin (μ : rz_M) : rz_M := g_forget (rz_up (rz_up (rz_up μ 19 22 0) 19 23 0) 19 35 0)
def C_Mo_begin : rz_C := fun As μ P => As = [.ref 19] ∧ P none (g_begin μ)
def bk_Mo_begin : Nat → List rz_T := fun b => match b with
  | 0 => [tz_aload 0, tz_iconst 0, tz_put SH 7 22, tz_aload 0, tz_iconst 0, tz_put SH 7 23, tz_aload 0, tz_iconst 0, tz_put SH 7 35, tz_aload 0, tz_cv SH 0 7 1 C_Mo_forget, tz_vret]
  | _ => []
def bp_Mo_begin : Nat → Nat := fun b => match b with
  | 0 => 0
  | _ => 0
set_option maxRecDepth 100000 in
set_option maxHeartbeats 4000000 in
theorem sd_Mo_begin (X : rz_X) (G : rz_Cx CL X c_Mo_begin 1 rz_tbl R_Mo ({ frames := 1, cells := 0, slots := 0, locals := 20 })) : ∀ b, rz_SB SH CL X bp_Mo_begin (rz_RV SH CL X c_Mo_begin) (bk_Mo_begin b) (bp_Mo_begin b) := fun b => match b with
  | 0 => (rz_cons (rz_aload_n G d_Mo_begin_0 rfl) (rz_cons (rz_iconst G d_Mo_begin_1 (by decide)) (rz_cons (rz_put G rfl in_Mo ty_Mo tyok_Mo nm_Mo (by decide) rfl (by decide +kernel) wd_641 d_Mo_begin_2) (rz_cons (rz_aload_n G d_Mo_begin_5 rfl) (rz_cons (rz_iconst G d_Mo_begin_6 (by decide)) (rz_cons (rz_put G rfl in_Mo ty_Mo tyok_Mo nm_Mo (by decide) rfl (by decide +kernel) wd_642 d_Mo_begin_7) (rz_cons (rz_aload_n G d_Mo_begin_10 rfl) (rz_cons (rz_iconst G d_Mo_begin_11 (by decide)) (rz_cons (rz_put G rfl in_Mo ty_Mo tyok_Mo nm_Mo (by decide) rfl (by decide +kernel) wd_654 d_Mo_begin_12) (rz_cons (rz_aload_n G d_Mo_begin_15 rfl) (rz_cons (rz_cvv G (m_Mo_forget X.1) cd_Mo_forget wd_759 wd_761 wd_22 rfl rfl (by decide) d_Mo_begin_16) (rz_cons (rz_vret (npc := 0) d_Mo_begin_19) rz_nil))))))))))))
  | _ + 1 => rz_nil
set_option maxRecDepth 100000 in
set_option maxHeartbeats 4000000 in
theorem bd_Mo_begin : ∀ (Y : Nat → rz_K) (P : rz_P), (∀ b ls st μ, rz_ex P Y (bk_Mo_begin b) ls st μ → Y b ls st μ) → ∀ As μ, C_Mo_begin As μ P → Y 0 (rz_pad 1 (rz_ent As)) [] μ := by
  intro Y P hY As μ hC
  obtain ⟨rfl, hC⟩ := hC
  exact hY 0 _ _ _ (And.intro rfl hC)
theorem m_Mo_begin (E : rz_E) : rz_MV SH CL E y_Mo_begin 1 (Cond.code y_Mo_begin c_Mo_begin 1 none :: rz_tbl) ({ frames := 1, cells := 0, slots := 0, locals := 20 }) C_Mo_begin := rz_metV (by decide) rfl (fun X _ G => sd_Mo_begin X G) bd_Mo_begin
theorem cd_Mo_begin : rz_Cd rz_tbl y_Mo_begin c_Mo_begin 1 none (Cond.code y_Mo_begin c_Mo_begin 1 none :: rz_tbl) 0 ({ frames := 1, cells := 0, slots := 0, locals := 20 }) := ⟨rz_good wd_758, ⟨_, rfl⟩, wd_47, by decide +kernel, rfl, rfl⟩
def g_on1 (μ : rz_M) : rz_M :=
  let b := g_begin (rz_up (rz_up (rz_up (rz_up (rz_up μ 19 18 0) 19 20 0) 19 21 (-1)) 19 24 32) 19 30 0)
  rz_up (rz_up (rz_up (rz_up (rz_up b 30 0 59) 30 1 1) 30 2 (μ 19 8)) 30 3 32) 19 34 4
def g_on (n : Nat) (μ : rz_M) : Int32 × rz_M := if μ 19 16 ≤ 0 then (1, g_on1 (rz_up μ 19 17 1)) else if ¬ (g_seL n 0 (rz_up μ 19 17 1)).1 = 0 then (1, g_on1 (g_seL n 0 (rz_up μ 19 17 1)).2) else (0, (g_seL n 0 (rz_up μ 19 17 1)).2)
def C_Mo_on : rz_C := fun As μ P => ∃ n f p : Nat, As = [.ref 19] ∧ (μ 19 16 ≤ 0 ∨ (μ 19 16 = nI n ∧ μ 19 14 = nI f ∧ μ 19 15 = nI p ∧ f < 8 ∧ p + n ≤ 24)) ∧ PQ P (g_on n μ)
def bk_Mo_on : Nat → List rz_T := fun b => match b with
  | 0 => [tz_aload 0, tz_iconst 1, tz_putz SH 7 17, tz_aload 0, tz_get SH 7 16, tz_if_le 1, tz_aload 0, tz_cv SH 0 7 3 C_Mo_settle, tz_istore 1, tz_iload 1, tz_if_ne 1, tz_iconst 0, tz_iret]
  | 1 => [tz_aload 0, tz_iconst 0, tz_putz SH 7 18, tz_aload 0, tz_iconst 0, tz_put SH 7 20, tz_aload 0, tz_iconst (-1), tz_put SH 7 21, tz_aload 0, tz_bipush 32, tz_put SH 7 24, tz_aload 0, tz_iconst 0, tz_put SH 7 30, tz_aload 0, tz_cv SH 0 7 1 C_Mo_begin, tz_aload 0, tz_get SH 7 28, tz_iconst 0, tz_bipush 59, tz_iast SH, tz_aload 0, tz_get SH 7 28, tz_iconst 1, tz_iconst 1, tz_iast SH, tz_aload 0, tz_get SH 7 28, tz_iconst 2, tz_aload 0, tz_get SH 7 8, tz_iast SH, tz_aload 0, tz_get SH 7 28, tz_iconst 3, tz_bipush 32, tz_iast SH, tz_aload 0, tz_iconst 4, tz_put SH 7 34, tz_iconst 1, tz_iret]
  | _ => []
def bp_Mo_on : Nat → Nat := fun b => match b with
  | 0 => 0
  | 1 => 23
  | _ => 0
set_option maxRecDepth 100000 in
set_option maxHeartbeats 4000000 in
theorem sd_Mo_on (X : rz_X) (G : rz_Cx CL X c_Mo_on 2 rz_tbl R_Mo ({ frames := 2, cells := 0, slots := 0, locals := 42 })) : ∀ b, rz_SB SH CL X bp_Mo_on (rz_RI SH CL X c_Mo_on (fun v => narrow .int (.int v) = .int v)) (bk_Mo_on b) (bp_Mo_on b) := fun b => match b with
  | 0 => (rz_cons (rz_aload_n G d_Mo_on_0 rfl) (rz_cons (rz_iconst G d_Mo_on_1 (by decide)) (rz_cons (rz_putz G rfl in_Mo ty_Mo tyok_Mo nm_Mo (by decide) rfl (by decide +kernel) wd_636 d_Mo_on_2) (rz_cons (rz_aload_n G d_Mo_on_5 rfl) (rz_cons (rz_get G rfl in_Mo (by decide) wd_635 d_Mo_on_6) (rz_cons (rz_if_le G d_Mo_on_9 (by decide)) (rz_cons (rz_aload_n G d_Mo_on_12 rfl) (rz_cons (rz_cvi G (m_Mo_settle X.1) cd_Mo_settle wd_747 wd_749 wd_19 rfl rfl (by decide) d_Mo_on_13) (rz_cons (rz_istore_n G d_Mo_on_16 rfl (by decide)) (rz_cons (rz_iload_n G d_Mo_on_17 rfl) (rz_cons (rz_if_ne G d_Mo_on_18 (by decide)) (rz_cons (rz_iconst G d_Mo_on_21 (by decide)) (rz_cons (rz_iret (npc := 0) (fun _ => rfl) d_Mo_on_22) rz_nil)))))))))))))
  | 1 => (rz_cons (rz_aload_n G d_Mo_on_23 rfl) (rz_cons (rz_iconst G d_Mo_on_24 (by decide)) (rz_cons (rz_putz G rfl in_Mo ty_Mo tyok_Mo nm_Mo (by decide) rfl (by decide +kernel) wd_637 d_Mo_on_25) (rz_cons (rz_aload_n G d_Mo_on_28 rfl) (rz_cons (rz_iconst G d_Mo_on_29 (by decide)) (rz_cons (rz_put G rfl in_Mo ty_Mo tyok_Mo nm_Mo (by decide) rfl (by decide +kernel) wd_639 d_Mo_on_30) (rz_cons (rz_aload_n G d_Mo_on_33 rfl) (rz_cons (rz_iconst G d_Mo_on_34 (by decide)) (rz_cons (rz_put G rfl in_Mo ty_Mo tyok_Mo nm_Mo (by decide) rfl (by decide +kernel) wd_640 d_Mo_on_35) (rz_cons (rz_aload_n G d_Mo_on_38 rfl) (rz_cons (rz_bipush G d_Mo_on_39 (by decide)) (rz_cons (rz_put G rfl in_Mo ty_Mo tyok_Mo nm_Mo (by decide) rfl (by decide +kernel) wd_643 d_Mo_on_41) (rz_cons (rz_aload_n G d_Mo_on_44 rfl) (rz_cons (rz_iconst G d_Mo_on_45 (by decide)) (rz_cons (rz_put G rfl in_Mo ty_Mo tyok_Mo nm_Mo (by decide) rfl (by decide +kernel) wd_649 d_Mo_on_46) (rz_cons (rz_aload_n G d_Mo_on_49 rfl) (rz_cons (rz_cvv G (m_Mo_begin X.1) cd_Mo_begin wd_755 wd_757 wd_21 rfl rfl (by decide) d_Mo_on_50) (rz_cons (rz_aload_n G d_Mo_on_53 rfl) (rz_cons (rz_get G rfl in_Mo (by decide) wd_647 d_Mo_on_54) (rz_cons (rz_iconst G d_Mo_on_57 (by decide)) (rz_cons (rz_bipush G d_Mo_on_58 (by decide)) (rz_cons (rz_iast G d_Mo_on_60) (rz_cons (rz_aload_n G d_Mo_on_61 rfl) (rz_cons (rz_get G rfl in_Mo (by decide) wd_647 d_Mo_on_62) (rz_cons (rz_iconst G d_Mo_on_65 (by decide)) (rz_cons (rz_iconst G d_Mo_on_66 (by decide)) (rz_cons (rz_iast G d_Mo_on_67) (rz_cons (rz_aload_n G d_Mo_on_68 rfl) (rz_cons (rz_get G rfl in_Mo (by decide) wd_647 d_Mo_on_69) (rz_cons (rz_iconst G d_Mo_on_72 (by decide)) (rz_cons (rz_aload_n G d_Mo_on_73 rfl) (rz_cons (rz_get G rfl in_Mo (by decide) wd_627 d_Mo_on_74) (rz_cons (rz_iast G d_Mo_on_77) (rz_cons (rz_aload_n G d_Mo_on_78 rfl) (rz_cons (rz_get G rfl in_Mo (by decide) wd_647 d_Mo_on_79) (rz_cons (rz_iconst G d_Mo_on_82 (by decide)) (rz_cons (rz_bipush G d_Mo_on_83 (by decide)) (rz_cons (rz_iast G d_Mo_on_85) (rz_cons (rz_aload_n G d_Mo_on_86 rfl) (rz_cons (rz_iconst G d_Mo_on_87 (by decide)) (rz_cons (rz_put G rfl in_Mo ty_Mo tyok_Mo nm_Mo (by decide) rfl (by decide +kernel) wd_653 d_Mo_on_88) (rz_cons (rz_iconst G d_Mo_on_91 (by decide)) (rz_cons (rz_iret (npc := 0) (fun _ => rfl) d_Mo_on_92) rz_nil)))))))))))))))))))))))))))))))))))))))))))
  | _ + 2 => rz_nil
set_option maxRecDepth 100000 in
set_option maxHeartbeats 4000000 in
theorem bd_Mo_on : ∀ (Y : Nat → rz_K) (P : rz_P), (∀ b ls st μ, rz_ex P Y (bk_Mo_on b) ls st μ → Y b ls st μ) → ∀ As μ, C_Mo_on As μ P → Y 0 (rz_pad 2 (rz_ent As)) [] μ := by
  intro Y P hY As μ hC
  obtain ⟨n, f, p, rfl, hn, hC⟩ := hC
  have fin : ∀ (x : Option Value) (ν : rz_M), PQ P (1, g_on1 ν) → Y 1 [some (.ref 19), x] [] ν := by
    intro x ν hp
    exact hY 1 _ _ _ (And.intro (Or.inl rfl) (And.intro rfl (And.intro (vi_c (by decide)) (And.intro (vi_c (by decide)) (And.intro (vi_c (by decide)) (And.intro (vi_c (by decide)) hp))))))
  refine hY 0 _ _ _ (And.intro (Or.inr rfl) (And.intro (fun (h : μ 19 16 ≤ 0) => ?_) (fun (h : ¬ μ 19 16 ≤ 0) => ?_)))
  · exact fin _ _ (rzT (PQ P) h hC)
  · have hC := rzF (PQ P) h hC
    obtain ⟨h16, h14, h15, f8, p24⟩ := hn.resolve_left h
    refine ⟨n, f, p, rfl, h16, h14, h15, f8, p24, And.intro (fun h => ?_) (fun h => rzN (PQ P) h hC)⟩
    exact fin _ _ (rzT (PQ P) h hC)
theorem m_Mo_on (E : rz_E) : rz_MI SH CL E y_Mo_on 2 (Cond.code y_Mo_on c_Mo_on 2 (some .int) :: rz_tbl) ({ frames := 2, cells := 0, slots := 0, locals := 42 }) C_Mo_on := rz_metI (by decide) rfl (fun X _ G => sd_Mo_on X G) bd_Mo_on
theorem cd_Mo_on : rz_Cd rz_tbl y_Mo_on c_Mo_on 2 (some .int) (Cond.code y_Mo_on c_Mo_on 2 (some .int) :: rz_tbl) 0 ({ frames := 2, cells := 0, slots := 0, locals := 42 }) := ⟨rz_good wd_746, ⟨_, rfl⟩, wd_47, by decide +kernel, rfl, rfl⟩
def g_off (μ : rz_M) : Int32 × rz_M := if ¬ μ 19 17 = 0 then (1, rz_up (rz_up μ 19 17 0) 19 34 0) else (0, μ)
def C_Mo_off : rz_C := fun As μ P => As = [.ref 19] ∧ PQ P (g_off μ)
def bk_Mo_off : Nat → List rz_T := fun b => match b with
  | 0 => [tz_aload 0, tz_get SH 7 17, tz_if_ne 1, tz_iconst 0, tz_iret]
  | 1 => [tz_aload 0, tz_iconst 0, tz_putz SH 7 17, tz_aload 0, tz_iconst 0, tz_put SH 7 34, tz_iconst 1, tz_iret]
  | _ => []
def bp_Mo_off : Nat → Nat := fun b => match b with
  | 0 => 0
  | 1 => 9
  | _ => 0
set_option maxRecDepth 100000 in
set_option maxHeartbeats 4000000 in
theorem sd_Mo_off (X : rz_X) (G : rz_Cx CL X c_Mo_off 1 rz_tbl R_Mo ({ frames := 0, cells := 0, slots := 0, locals := 0 })) : ∀ b, rz_SB SH CL X bp_Mo_off (rz_RI SH CL X c_Mo_off (fun v => narrow .int (.int v) = .int v)) (bk_Mo_off b) (bp_Mo_off b) := fun b => match b with
  | 0 => (rz_cons (rz_aload_n G d_Mo_off_0 rfl) (rz_cons (rz_get G rfl in_Mo (by decide) wd_636 d_Mo_off_1) (rz_cons (rz_if_ne G d_Mo_off_4 (by decide)) (rz_cons (rz_iconst G d_Mo_off_7 (by decide)) (rz_cons (rz_iret (npc := 0) (fun _ => rfl) d_Mo_off_8) rz_nil)))))
  | 1 => (rz_cons (rz_aload_n G d_Mo_off_9 rfl) (rz_cons (rz_iconst G d_Mo_off_10 (by decide)) (rz_cons (rz_putz G rfl in_Mo ty_Mo tyok_Mo nm_Mo (by decide) rfl (by decide +kernel) wd_636 d_Mo_off_11) (rz_cons (rz_aload_n G d_Mo_off_14 rfl) (rz_cons (rz_iconst G d_Mo_off_15 (by decide)) (rz_cons (rz_put G rfl in_Mo ty_Mo tyok_Mo nm_Mo (by decide) rfl (by decide +kernel) wd_653 d_Mo_off_16) (rz_cons (rz_iconst G d_Mo_off_19 (by decide)) (rz_cons (rz_iret (npc := 0) (fun _ => rfl) d_Mo_off_20) rz_nil))))))))
  | _ + 2 => rz_nil
set_option maxRecDepth 100000 in
set_option maxHeartbeats 4000000 in
theorem bd_Mo_off : ∀ (Y : Nat → rz_K) (P : rz_P), (∀ b ls st μ, rz_ex P Y (bk_Mo_off b) ls st μ → Y b ls st μ) → ∀ As μ, C_Mo_off As μ P → Y 0 (rz_pad 1 (rz_ent As)) [] μ := by
  intro Y P hY As μ hC
  obtain ⟨rfl, hC⟩ := hC
  exact hY 0 _ _ _ (And.intro (fun h => hY 1 _ _ _ (And.intro (Or.inl rfl) (rzT (PQ P) h hC))) (fun h => rzN (PQ P) h hC))
theorem m_Mo_off (E : rz_E) : rz_MI SH CL E y_Mo_off 1 (Cond.code y_Mo_off c_Mo_off 1 (some .int) :: rz_tbl) ({ frames := 0, cells := 0, slots := 0, locals := 0 }) C_Mo_off := rz_metI (by decide) rfl (fun X _ G => sd_Mo_off X G) bd_Mo_off
theorem cd_Mo_off : rz_Cd rz_tbl y_Mo_off c_Mo_off 1 (some .int) (Cond.code y_Mo_off c_Mo_off 1 (some .int) :: rz_tbl) 0 ({ frames := 0, cells := 0, slots := 0, locals := 0 }) := ⟨rz_good wd_766, ⟨_, rfl⟩, wd_47, by decide +kernel, rfl, rfl⟩
def g_put (x : Int32) (a : Nat) (μ : rz_M) : rz_M := rz_up (rz_up μ 29 a x) 19 32 (nI (a + 1))
def C_Mo_put : rz_C := fun As μ P => ∃ (x : Int32) (a : Nat), As = [.ref 19, .int x] ∧ μ 19 32 = nI a ∧ a < 40 ∧ P none (g_put x a μ)
def bk_Mo_put : Nat → List rz_T := fun b => match b with
  | 0 => [tz_aload 0, tz_get SH 7 27, tz_aload 0, tz_get SH 7 32, tz_iload 1, tz_iast SH, tz_aload 0, tz_dup, tz_get SH 7 32, tz_iconst 1, tz_iadd, tz_put SH 7 32, tz_vret]
  | _ => []
def bp_Mo_put : Nat → Nat := fun b => match b with
  | 0 => 0
  | _ => 0
set_option maxRecDepth 100000 in
set_option maxHeartbeats 4000000 in
theorem sd_Mo_put (X : rz_X) (G : rz_Cx CL X c_Mo_put 2 rz_tbl R_Mo ({ frames := 0, cells := 0, slots := 0, locals := 0 })) : ∀ b, rz_SB SH CL X bp_Mo_put (rz_RV SH CL X c_Mo_put) (bk_Mo_put b) (bp_Mo_put b) := fun b => match b with
  | 0 => (rz_cons (rz_aload_n G d_Mo_put_0 rfl) (rz_cons (rz_get G rfl in_Mo (by decide) wd_646 d_Mo_put_1) (rz_cons (rz_aload_n G d_Mo_put_4 rfl) (rz_cons (rz_get G rfl in_Mo (by decide) wd_651 d_Mo_put_5) (rz_cons (rz_iload_n G d_Mo_put_8 rfl) (rz_cons (rz_iast G d_Mo_put_9) (rz_cons (rz_aload_n G d_Mo_put_10 rfl) (rz_cons (rz_dup G d_Mo_put_11) (rz_cons (rz_get G rfl in_Mo (by decide) wd_651 d_Mo_put_12) (rz_cons (rz_iconst G d_Mo_put_15 (by decide)) (rz_cons (rz_iadd G d_Mo_put_16) (rz_cons (rz_put G rfl in_Mo ty_Mo tyok_Mo nm_Mo (by decide) rfl (by decide +kernel) wd_651 d_Mo_put_17) (rz_cons (rz_vret (npc := 0) d_Mo_put_20) rz_nil)))))))))))))
  | _ + 1 => rz_nil
set_option maxRecDepth 100000 in
set_option maxHeartbeats 4000000 in
theorem bd_Mo_put : ∀ (Y : Nat → rz_K) (P : rz_P), (∀ b ls st μ, rz_ex P Y (bk_Mo_put b) ls st μ → Y b ls st μ) → ∀ As μ, C_Mo_put As μ P → Y 0 (rz_pad 2 (rz_ent As)) [] μ := by
  intro Y P hY As μ hC
  obtain ⟨x, a, rfl, ha, h40, hC⟩ := hC
  refine hY 0 _ _ _ (And.intro ?_ ?_)
  · rw [ha]; exact vp_in_nI h40 (by omega)
  · unfold g_put at hC
    rw [nI_succ, ← ha] at hC
    rw [nc ha (by omega)]
    exact hC
theorem m_Mo_put (E : rz_E) : rz_MV SH CL E y_Mo_put 2 (Cond.code y_Mo_put c_Mo_put 2 none :: rz_tbl) ({ frames := 0, cells := 0, slots := 0, locals := 0 }) C_Mo_put := rz_metV (by decide) rfl (fun X _ G => sd_Mo_put X G) bd_Mo_put
theorem cd_Mo_put : rz_Cd rz_tbl y_Mo_put c_Mo_put 2 none (Cond.code y_Mo_put c_Mo_put 2 none :: rz_tbl) 1 ({ frames := 0, cells := 0, slots := 0, locals := 0 }) := ⟨rz_good wd_812, ⟨_, rfl⟩, wd_47, by decide +kernel, rfl, rfl⟩
def g_sec (μ : rz_M) : Int32 := (((μ 28 5 <<< ((24 : Int32) &&& 31)) ||| (μ 28 6 <<< ((16 : Int32) &&& 31))) ||| (μ 28 7 <<< ((8 : Int32) &&& 31))) ||| μ 28 8
def C_Mo_told : rz_C := fun As μ P => As = [.ref 19] ∧ P (some (.int (g_sec μ))) μ
def bk_Mo_told : Nat → List rz_T := fun b => match b with
  | 0 => [tz_aload 0, tz_get SH 7 26, tz_iconst 5, tz_iald SH, tz_bipush 24, tz_ishl, tz_aload 0, tz_get SH 7 26, tz_bipush 6, tz_iald SH, tz_bipush 16, tz_ishl, tz_ior, tz_aload 0, tz_get SH 7 26, tz_bipush 7, tz_iald SH, tz_bipush 8, tz_ishl, tz_ior, tz_aload 0, tz_get SH 7 26, tz_bipush 8, tz_iald SH, tz_ior, tz_iret]
  | _ => []
def bp_Mo_told : Nat → Nat := fun b => match b with
  | 0 => 0
  | _ => 0
set_option maxRecDepth 100000 in
set_option maxHeartbeats 4000000 in
theorem sd_Mo_told (X : rz_X) (G : rz_Cx CL X c_Mo_told 1 rz_tbl R_Mo ({ frames := 0, cells := 0, slots := 0, locals := 0 })) : ∀ b, rz_SB SH CL X bp_Mo_told (rz_RI SH CL X c_Mo_told (fun v => narrow .int (.int v) = .int v)) (bk_Mo_told b) (bp_Mo_told b) := fun b => match b with
  | 0 => (rz_cons (rz_aload_n G d_Mo_told_0 rfl) (rz_cons (rz_get G rfl in_Mo (by decide) wd_645 d_Mo_told_1) (rz_cons (rz_iconst G d_Mo_told_4 (by decide)) (rz_cons (rz_iald G d_Mo_told_5) (rz_cons (rz_bipush G d_Mo_told_6 (by decide)) (rz_cons (rz_ishl G d_Mo_told_8) (rz_cons (rz_aload_n G d_Mo_told_9 rfl) (rz_cons (rz_get G rfl in_Mo (by decide) wd_645 d_Mo_told_10) (rz_cons (rz_bipush G d_Mo_told_13 (by decide)) (rz_cons (rz_iald G d_Mo_told_15) (rz_cons (rz_bipush G d_Mo_told_16 (by decide)) (rz_cons (rz_ishl G d_Mo_told_18) (rz_cons (rz_ior G d_Mo_told_19) (rz_cons (rz_aload_n G d_Mo_told_20 rfl) (rz_cons (rz_get G rfl in_Mo (by decide) wd_645 d_Mo_told_21) (rz_cons (rz_bipush G d_Mo_told_24 (by decide)) (rz_cons (rz_iald G d_Mo_told_26) (rz_cons (rz_bipush G d_Mo_told_27 (by decide)) (rz_cons (rz_ishl G d_Mo_told_29) (rz_cons (rz_ior G d_Mo_told_30) (rz_cons (rz_aload_n G d_Mo_told_31 rfl) (rz_cons (rz_get G rfl in_Mo (by decide) wd_645 d_Mo_told_32) (rz_cons (rz_bipush G d_Mo_told_35 (by decide)) (rz_cons (rz_iald G d_Mo_told_37) (rz_cons (rz_ior G d_Mo_told_38) (rz_cons (rz_iret (npc := 0) (fun _ => rfl) d_Mo_told_39) rz_nil))))))))))))))))))))))))))
  | _ + 1 => rz_nil
set_option maxRecDepth 100000 in
set_option maxHeartbeats 4000000 in
theorem bd_Mo_told : ∀ (Y : Nat → rz_K) (P : rz_P), (∀ b ls st μ, rz_ex P Y (bk_Mo_told b) ls st μ → Y b ls st μ) → ∀ As μ, C_Mo_told As μ P → Y 0 (rz_pad 1 (rz_ent As)) [] μ := by
  intro Y P hY As μ hC
  obtain ⟨rfl, hC⟩ := hC
  exact hY 0 _ _ _ (And.intro (vi_c (by decide)) (And.intro (vi_c (by decide)) (And.intro (vi_c (by decide)) (And.intro (vi_c (by decide)) hC))))
theorem m_Mo_told (E : rz_E) : rz_MI SH CL E y_Mo_told 1 (Cond.code y_Mo_told c_Mo_told 1 (some .int) :: rz_tbl) ({ frames := 0, cells := 0, slots := 0, locals := 0 }) C_Mo_told := rz_metI (by decide) rfl (fun X _ G => sd_Mo_told X G) bd_Mo_told
theorem cd_Mo_told : rz_Cd rz_tbl y_Mo_told c_Mo_told 1 (some .int) (Cond.code y_Mo_told c_Mo_told 1 (some .int) :: rz_tbl) 0 ({ frames := 0, cells := 0, slots := 0, locals := 0 }) := ⟨rz_good wd_824, ⟨_, rfl⟩, wd_47, by decide +kernel, rfl, rfl⟩
def g_nd (r : Int32) (μ : rz_M) : Int32 := if ¬ r = 0 then μ 24 (μ 19 21).toNatClampNeg else μ 23 (μ 19 21).toNatClampNeg
def g_wr (r p : Int32) (μ : rz_M) : Int32 := if 0 ≤ μ 19 21 then (if g_nd r μ = 2 ∨ (g_nd r μ = 1 ∧ μ 19 18 = 0) then 27010 else if p < μ 22 (μ 19 21).toNatClampNeg then 0 else 27392) else 27014
def C_Mo_wrong : rz_C := fun As μ P => ∃ r p : Int32, As = [.ref 19, .int r, .int p] ∧ (0 ≤ μ 19 21 → μ 19 21 < 8) ∧ P (some (.int (g_wr r p μ))) μ
def bk_Mo_wrong : Nat → List rz_T := fun b => match b with
  | 0 => [tz_aload 0, tz_get SH 7 21, tz_if_ge 1, tz_sipush 27014, tz_iret]
  | 1 => [tz_iload 1, tz_if_ne 2, tz_aload 0, tz_get SH 7 3, tz_aload 0, tz_get SH 7 21, tz_iald SH, tz_goto 3]
  | 2 => [tz_aload 0, tz_get SH 7 4, tz_aload 0, tz_get SH 7 21, tz_iald SH, tz_fall 3]
  | 3 => [tz_istore 3, tz_iload 3, tz_iconst 2, tz_icmp_eq 4, tz_iload 3, tz_iconst 1, tz_icmp_ne 5, tz_aload 0, tz_get SH 7 18, tz_if_ne 5, tz_fall 4]
  | 4 => [tz_sipush 27010, tz_iret]
  | 5 => [tz_iload 2, tz_aload 0, tz_get SH 7 2, tz_aload 0, tz_get SH 7 21, tz_iald SH, tz_icmp_lt 6, tz_sipush 27392, tz_goto 7]
  | 6 => [tz_iconst 0, tz_fall 7]
  | 7 => [tz_iret]
  | _ => []
def bp_Mo_wrong : Nat → Nat := fun b => match b with
  | 0 => 0
  | 1 => 11
  | 2 => 27
  | 3 => 36
  | 4 => 54
  | 5 => 58
  | 6 => 77
  | 7 => 78
  | _ => 0
set_option maxRecDepth 100000 in
set_option maxHeartbeats 4000000 in
theorem sd_Mo_wrong (X : rz_X) (G : rz_Cx CL X c_Mo_wrong 4 rz_tbl R_Mo ({ frames := 0, cells := 0, slots := 0, locals := 0 })) : ∀ b, rz_SB SH CL X bp_Mo_wrong (rz_RI SH CL X c_Mo_wrong (fun v => narrow .int (.int v) = .int v)) (bk_Mo_wrong b) (bp_Mo_wrong b) := fun b => match b with
  | 0 => (rz_cons (rz_aload_n G d_Mo_wrong_0 rfl) (rz_cons (rz_get G rfl in_Mo (by decide) wd_640 d_Mo_wrong_1) (rz_cons (rz_if_ge G d_Mo_wrong_4 (by decide)) (rz_cons (rz_sipush G d_Mo_wrong_7 (by decide)) (rz_cons (rz_iret (npc := 0) (fun _ => rfl) d_Mo_wrong_10) rz_nil)))))
  | 1 => (rz_cons (rz_iload_n G d_Mo_wrong_11 rfl) (rz_cons (rz_if_ne G d_Mo_wrong_12 (by decide)) (rz_cons (rz_aload_n G d_Mo_wrong_15 rfl) (rz_cons (rz_get G rfl in_Mo (by decide) wd_622 d_Mo_wrong_16) (rz_cons (rz_aload_n G d_Mo_wrong_19 rfl) (rz_cons (rz_get G rfl in_Mo (by decide) wd_640 d_Mo_wrong_20) (rz_cons (rz_iald G d_Mo_wrong_23) (rz_cons (rz_goto (npc := 0) G d_Mo_wrong_24 (by decide)) rz_nil))))))))
  | 2 => (rz_cons (rz_aload_n G d_Mo_wrong_27 rfl) (rz_cons (rz_get G rfl in_Mo (by decide) wd_623 d_Mo_wrong_28) (rz_cons (rz_aload_n G d_Mo_wrong_31 rfl) (rz_cons (rz_get G rfl in_Mo (by decide) wd_640 d_Mo_wrong_32) (rz_cons (rz_iald G d_Mo_wrong_35) (rz_fall rfl))))))
  | 3 => (rz_cons (rz_istore_n G d_Mo_wrong_36 rfl (by decide)) (rz_cons (rz_iload_n G d_Mo_wrong_37 rfl) (rz_cons (rz_iconst G d_Mo_wrong_38 (by decide)) (rz_cons (rz_icmp_eq G d_Mo_wrong_39 (by decide)) (rz_cons (rz_iload_n G d_Mo_wrong_42 rfl) (rz_cons (rz_iconst G d_Mo_wrong_43 (by decide)) (rz_cons (rz_icmp_ne G d_Mo_wrong_44 (by decide)) (rz_cons (rz_aload_n G d_Mo_wrong_47 rfl) (rz_cons (rz_get G rfl in_Mo (by decide) wd_637 d_Mo_wrong_48) (rz_cons (rz_if_ne G d_Mo_wrong_51 (by decide)) (rz_fall rfl)))))))))))
  | 4 => (rz_cons (rz_sipush G d_Mo_wrong_54 (by decide)) (rz_cons (rz_iret (npc := 0) (fun _ => rfl) d_Mo_wrong_57) rz_nil))
  | 5 => (rz_cons (rz_iload_n G d_Mo_wrong_58 rfl) (rz_cons (rz_aload_n G d_Mo_wrong_59 rfl) (rz_cons (rz_get G rfl in_Mo (by decide) wd_621 d_Mo_wrong_60) (rz_cons (rz_aload_n G d_Mo_wrong_63 rfl) (rz_cons (rz_get G rfl in_Mo (by decide) wd_640 d_Mo_wrong_64) (rz_cons (rz_iald G d_Mo_wrong_67) (rz_cons (rz_icmp_lt G d_Mo_wrong_68 (by decide)) (rz_cons (rz_sipush G d_Mo_wrong_71 (by decide)) (rz_cons (rz_goto (npc := 0) G d_Mo_wrong_74 (by decide)) rz_nil)))))))))
  | 6 => (rz_cons (rz_iconst G d_Mo_wrong_77 (by decide)) (rz_fall rfl))
  | 7 => (rz_cons (rz_iret (npc := 0) (fun _ => rfl) d_Mo_wrong_78) rz_nil)
  | _ + 8 => rz_nil
set_option maxRecDepth 100000 in
set_option maxHeartbeats 4000000 in
theorem bd_Mo_wrong : ∀ (Y : Nat → rz_K) (P : rz_P), (∀ b ls st μ, rz_ex P Y (bk_Mo_wrong b) ls st μ → Y b ls st μ) → ∀ As μ, C_Mo_wrong As μ P → Y 0 (rz_pad 4 (rz_ent As)) [] μ := by
  intro Y P hY As μ hC
  obtain ⟨r, p, rfl, h8, hC⟩ := hC
  refine hY 0 _ _ _ (And.intro (fun h => ?_) (fun h => rzF (fun z => P (some (.int z)) μ) h hC))
  have hC := rzT (fun z => P (some (.int z)) μ) h hC
  have hv : vp_in (μ 19 21) 8 := vi_lt (m := 8) h (h8 h)
  have fin : ∀ z : Int32, z = g_nd r μ → Y 3 [some (.ref 19), some (.int r), some (.int p), none] [.int z] μ := by
    intro z hz
    subst hz
    have five : ¬ (g_nd r μ = 2 ∨ (g_nd r μ = 1 ∧ μ 19 18 = 0)) → Y 5 [some (.ref 19), some (.int r), some (.int p), some (.int (g_nd r μ))] [] μ := by
      intro hn
      have hC := rzF (fun z => P (some (.int z)) μ) hn hC
      refine hY 5 _ _ _ (And.intro hv (And.intro (fun h => hY 6 _ _ _ (hY 7 _ _ _ (rzT (fun z => P (some (.int z)) μ) h hC))) (fun h => hY 7 _ _ _ (rzF (fun z => P (some (.int z)) μ) h hC))))
    refine hY 3 _ _ _ (And.intro (fun h => hY 4 _ _ _ (rzT (fun z => P (some (.int z)) μ) (Or.inl h) hC)) (fun h2 => And.intro (fun h => five ?_) (fun h1 => And.intro (fun h => five ?_) (fun h => hY 4 _ _ _ (rzT (fun z => P (some (.int z)) μ) (Or.inr ⟨h1, h⟩) hC)))))
    · rintro (q | q)
      · exact h2 q
      · exact h q.1
    · rintro (q | q)
      · exact h2 q
      · exact h q.2
  refine hY 1 _ _ _ (And.intro (fun h => hY 2 _ _ _ (And.intro hv (fin _ (if_pos h).symm))) (fun h => And.intro hv (fin _ (if_neg (fun q => q h)).symm)))
theorem m_Mo_wrong (E : rz_E) : rz_MI SH CL E y_Mo_wrong 4 (Cond.code y_Mo_wrong c_Mo_wrong 4 (some .int) :: rz_tbl) ({ frames := 0, cells := 0, slots := 0, locals := 0 }) C_Mo_wrong := rz_metI (by decide) rfl (fun X _ G => sd_Mo_wrong X G) bd_Mo_wrong
theorem cd_Mo_wrong : rz_Cd rz_tbl y_Mo_wrong c_Mo_wrong 4 (some .int) (Cond.code y_Mo_wrong c_Mo_wrong 4 (some .int) :: rz_tbl) 2 ({ frames := 0, cells := 0, slots := 0, locals := 0 }) := ⟨rz_good wd_808, ⟨_, rfl⟩, wd_47, by decide +kernel, rfl, rfl⟩
def w_reply (k : Int32) (μ : rz_M) : Int32 := if ¬ k < 0 ∧ ¬ μ 19 34 - 1 < k then μ 30 k.toNatClampNeg else -1
def C_Mo_reply : rz_C := fun As μ P => ∃ k : Int32, As = [.ref 19, .int k] ∧ (¬ k < 0 ∧ ¬ μ 19 34 - 1 < k → vp_in k 40) ∧ P (some (.int (w_reply k μ))) μ
def bk_Mo_reply : Nat → List rz_T := fun b => match b with
  | 0 => [tz_iload 1, tz_iconst 0, tz_aload 0, tz_get SH 7 34, tz_iconst 1, tz_isub, tz_cs 3 3 C_Mo_within, tz_if_eq 1, tz_aload 0, tz_get SH 7 28, tz_iload 1, tz_iald SH, tz_goto 2]
  | 1 => [tz_iconst (-1), tz_fall 2]
  | 2 => [tz_iret]
  | _ => []
def bp_Mo_reply : Nat → Nat := fun b => match b with
  | 0 => 0
  | 1 => 23
  | 2 => 24
  | _ => 0
set_option maxRecDepth 100000 in
set_option maxHeartbeats 4000000 in
theorem sd_Mo_reply (X : rz_X) (G : rz_Cx CL X c_Mo_reply 2 rz_tbl R_Mo ({ frames := 1, cells := 0, slots := 0, locals := 22 })) : ∀ b, rz_SB SH CL X bp_Mo_reply (rz_RI SH CL X c_Mo_reply (fun v => narrow .int (.int v) = .int v)) (bk_Mo_reply b) (bp_Mo_reply b) := fun b => match b with
  | 0 => (rz_cons (rz_iload_n G d_Mo_reply_0 rfl) (rz_cons (rz_iconst G d_Mo_reply_1 (by decide)) (rz_cons (rz_aload_n G d_Mo_reply_2 rfl) (rz_cons (rz_get G rfl in_Mo (by decide) wd_653 d_Mo_reply_3) (rz_cons (rz_iconst G d_Mo_reply_6 (by decide)) (rz_cons (rz_isub G d_Mo_reply_7) (rz_cons (rz_csi G (m_Mo_within X.1) cd_Mo_within wd_735 wd_736 (by decide) d_Mo_reply_8) (rz_cons (rz_if_eq G d_Mo_reply_11 (by decide)) (rz_cons (rz_aload_n G d_Mo_reply_14 rfl) (rz_cons (rz_get G rfl in_Mo (by decide) wd_647 d_Mo_reply_15) (rz_cons (rz_iload_n G d_Mo_reply_18 rfl) (rz_cons (rz_iald G d_Mo_reply_19) (rz_cons (rz_goto (npc := 0) G d_Mo_reply_20 (by decide)) rz_nil)))))))))))))
  | 1 => (rz_cons (rz_iconst G d_Mo_reply_23 (by decide)) (rz_fall rfl))
  | 2 => (rz_cons (rz_iret (npc := 0) (fun _ => rfl) d_Mo_reply_24) rz_nil)
  | _ + 3 => rz_nil
set_option maxRecDepth 100000 in
set_option maxHeartbeats 4000000 in
theorem bd_Mo_reply : ∀ (Y : Nat → rz_K) (P : rz_P), (∀ b ls st μ, rz_ex P Y (bk_Mo_reply b) ls st μ → Y b ls st μ) → ∀ As μ, C_Mo_reply As μ P → Y 0 (rz_pad 2 (rz_ent As)) [] μ := by
  intro Y P hY As μ hC
  obtain ⟨k, rfl, hv, hC⟩ := hC
  exact hY 0 _ _ _ ⟨_, _, _, rfl, And.intro (fun h => hY 1 _ _ _ (hY 2 _ _ _ (rzF (fun z => P (some (.int z)) μ) (b2_eq h) hC))) (fun h => And.intro (hv (b2_ne h)) (hY 2 _ _ _ (rzT (fun z => P (some (.int z)) μ) (b2_ne h) hC)))⟩
theorem m_Mo_reply (E : rz_E) : rz_MI SH CL E y_Mo_reply 2 (Cond.code y_Mo_reply c_Mo_reply 2 (some .int) :: rz_tbl) ({ frames := 1, cells := 0, slots := 0, locals := 22 }) C_Mo_reply := rz_metI (by decide) rfl (fun X _ G => sd_Mo_reply X G) bd_Mo_reply
theorem cd_Mo_reply : rz_Cd rz_tbl y_Mo_reply c_Mo_reply 2 (some .int) (Cond.code y_Mo_reply c_Mo_reply 2 (some .int) :: rz_tbl) 1 ({ frames := 1, cells := 0, slots := 0, locals := 22 }) := ⟨rz_good wd_844, ⟨_, rfl⟩, wd_47, by decide +kernel, rfl, rfl⟩
def w_stored (f k : Int32) (μ : rz_M) : Int32 := if (¬ f < 0 ∧ ¬ μ 19 6 - 1 < f) ∧ (¬ k < 0 ∧ ¬ μ 22 f.toNatClampNeg - 1 < k) then μ 25 (24 * f + k).toNatClampNeg else -1
def C_Mo_stored : rz_C := fun As μ P => ∃ f k : Int32, As = [.ref 19, .int f, .int k] ∧ (¬ f < 0 ∧ ¬ μ 19 6 - 1 < f → vp_in f 8 ∧ (¬ k < 0 ∧ ¬ μ 22 f.toNatClampNeg - 1 < k → vp_in (24 * f + k) 192)) ∧ P (some (.int (w_stored f k μ))) μ
def bk_Mo_stored : Nat → List rz_T := fun b => match b with
  | 0 => [tz_iload 1, tz_iconst 0, tz_aload 0, tz_get SH 7 6, tz_iconst 1, tz_isub, tz_cs 3 3 C_Mo_within, tz_if_eq 1, tz_iload 2, tz_iconst 0, tz_aload 0, tz_get SH 7 2, tz_iload 1, tz_iald SH, tz_iconst 1, tz_isub, tz_cs 3 3 C_Mo_within, tz_if_eq 1, tz_aload 0, tz_get SH 7 5, tz_bipush 24, tz_iload 1, tz_imul, tz_iload 2, tz_iadd, tz_iald SH, tz_goto 2]
  | 1 => [tz_iconst (-1), tz_fall 2]
  | 2 => [tz_iret]
  | _ => []
def bp_Mo_stored : Nat → Nat := fun b => match b with
  | 0 => 0
  | 1 => 44
  | 2 => 45
  | _ => 0
set_option maxRecDepth 100000 in
set_option maxHeartbeats 4000000 in
theorem sd_Mo_stored (X : rz_X) (G : rz_Cx CL X c_Mo_stored 3 rz_tbl R_Mo ({ frames := 1, cells := 0, slots := 0, locals := 22 })) : ∀ b, rz_SB SH CL X bp_Mo_stored (rz_RI SH CL X c_Mo_stored (fun v => narrow .int (.int v) = .int v)) (bk_Mo_stored b) (bp_Mo_stored b) := fun b => match b with
  | 0 => (rz_cons (rz_iload_n G d_Mo_stored_0 rfl) (rz_cons (rz_iconst G d_Mo_stored_1 (by decide)) (rz_cons (rz_aload_n G d_Mo_stored_2 rfl) (rz_cons (rz_get G rfl in_Mo (by decide) wd_625 d_Mo_stored_3) (rz_cons (rz_iconst G d_Mo_stored_6 (by decide)) (rz_cons (rz_isub G d_Mo_stored_7) (rz_cons (rz_csi G (m_Mo_within X.1) cd_Mo_within wd_735 wd_736 (by decide) d_Mo_stored_8) (rz_cons (rz_if_eq G d_Mo_stored_11 (by decide)) (rz_cons (rz_iload_n G d_Mo_stored_14 rfl) (rz_cons (rz_iconst G d_Mo_stored_15 (by decide)) (rz_cons (rz_aload_n G d_Mo_stored_16 rfl) (rz_cons (rz_get G rfl in_Mo (by decide) wd_621 d_Mo_stored_17) (rz_cons (rz_iload_n G d_Mo_stored_20 rfl) (rz_cons (rz_iald G d_Mo_stored_21) (rz_cons (rz_iconst G d_Mo_stored_22 (by decide)) (rz_cons (rz_isub G d_Mo_stored_23) (rz_cons (rz_csi G (m_Mo_within X.1) cd_Mo_within wd_735 wd_736 (by decide) d_Mo_stored_24) (rz_cons (rz_if_eq G d_Mo_stored_27 (by decide)) (rz_cons (rz_aload_n G d_Mo_stored_30 rfl) (rz_cons (rz_get G rfl in_Mo (by decide) wd_624 d_Mo_stored_31) (rz_cons (rz_bipush G d_Mo_stored_34 (by decide)) (rz_cons (rz_iload_n G d_Mo_stored_36 rfl) (rz_cons (rz_imul G d_Mo_stored_37) (rz_cons (rz_iload_n G d_Mo_stored_38 rfl) (rz_cons (rz_iadd G d_Mo_stored_39) (rz_cons (rz_iald G d_Mo_stored_40) (rz_cons (rz_goto (npc := 0) G d_Mo_stored_41 (by decide)) rz_nil)))))))))))))))))))))))))))
  | 1 => (rz_cons (rz_iconst G d_Mo_stored_44 (by decide)) (rz_fall rfl))
  | 2 => (rz_cons (rz_iret (npc := 0) (fun _ => rfl) d_Mo_stored_45) rz_nil)
  | _ + 3 => rz_nil
set_option maxRecDepth 100000 in
set_option maxHeartbeats 4000000 in
theorem bd_Mo_stored : ∀ (Y : Nat → rz_K) (P : rz_P), (∀ b ls st μ, rz_ex P Y (bk_Mo_stored b) ls st μ → Y b ls st μ) → ∀ As μ, C_Mo_stored As μ P → Y 0 (rz_pad 3 (rz_ent As)) [] μ := by
  intro Y P hY As μ hC
  obtain ⟨f, k, rfl, hv, hC⟩ := hC
  refine hY 0 _ _ _ ⟨_, _, _, rfl, And.intro (fun h => hY 1 _ _ _ (hY 2 _ _ _ (rzF (fun z => P (some (.int z)) μ) (fun q => b2_eq h q.1) hC))) (fun h => And.intro (hv (b2_ne h)).1 ⟨_, _, _, rfl, And.intro (fun h2 => hY 1 _ _ _ (hY 2 _ _ _ (rzF (fun z => P (some (.int z)) μ) (fun q => b2_eq h2 q.2) hC))) (fun h2 => And.intro ((hv (b2_ne h)).2 (b2_ne h2)) (hY 2 _ _ _ (rzT (fun z => P (some (.int z)) μ) ⟨b2_ne h, b2_ne h2⟩ hC)))⟩)⟩
theorem m_Mo_stored (E : rz_E) : rz_MI SH CL E y_Mo_stored 3 (Cond.code y_Mo_stored c_Mo_stored 3 (some .int) :: rz_tbl) ({ frames := 1, cells := 0, slots := 0, locals := 22 }) C_Mo_stored := rz_metI (by decide) rfl (fun X _ G => sd_Mo_stored X G) bd_Mo_stored
theorem cd_Mo_stored : rz_Cd rz_tbl y_Mo_stored c_Mo_stored 3 (some .int) (Cond.code y_Mo_stored c_Mo_stored 3 (some .int) :: rz_tbl) 2 ({ frames := 1, cells := 0, slots := 0, locals := 22 }) := ⟨rz_good wd_848, ⟨_, rfl⟩, wd_47, by decide +kernel, rfl, rfl⟩
def w_look (f x : Int32) (μ : rz_M) : Int32 := if ¬ f < 0 ∧ ¬ μ 19 6 - 1 < f then (if x = 0 then μ 20 f.toNatClampNeg else if x = 1 then μ 21 f.toNatClampNeg else if x = 2 then μ 22 f.toNatClampNeg else if x = 3 then μ 23 f.toNatClampNeg else if x = 4 then μ 24 f.toNatClampNeg else -1) else -1
def C_Mo_look : rz_C := fun As μ P => ∃ f x : Int32, As = [.ref 19, .int f, .int x] ∧ (¬ f < 0 ∧ ¬ μ 19 6 - 1 < f → vp_in f 8) ∧ P (some (.int (w_look f x μ))) μ
def bk_Mo_look : Nat → List rz_T := fun b => match b with
  | 0 => [tz_iload 1, tz_iconst 0, tz_aload 0, tz_get SH 7 6, tz_iconst 1, tz_isub, tz_cs 3 3 C_Mo_within, tz_if_ne 1, tz_iconst (-1), tz_iret]
  | 1 => [tz_iload 2, tz_sw [(0, 2), (1, 3), (2, 4), (3, 5), (4, 6)] 7]
  | 2 => [tz_aload 0, tz_get SH 7 0, tz_iload 1, tz_iald SH, tz_iret]
  | 3 => [tz_aload 0, tz_get SH 7 1, tz_iload 1, tz_iald SH, tz_iret]
  | 4 => [tz_aload 0, tz_get SH 7 2, tz_iload 1, tz_iald SH, tz_iret]
  | 5 => [tz_aload 0, tz_get SH 7 3, tz_iload 1, tz_iald SH, tz_iret]
  | 6 => [tz_aload 0, tz_get SH 7 4, tz_iload 1, tz_iald SH, tz_iret]
  | 7 => [tz_iconst (-1), tz_iret]
  | _ => []
def bp_Mo_look : Nat → Nat := fun b => match b with
  | 0 => 0
  | 1 => 16
  | 2 => 52
  | 3 => 59
  | 4 => 66
  | 5 => 73
  | 6 => 80
  | 7 => 87
  | _ => 0
set_option maxRecDepth 100000 in
set_option maxHeartbeats 4000000 in
theorem sd_Mo_look (X : rz_X) (G : rz_Cx CL X c_Mo_look 3 rz_tbl R_Mo ({ frames := 1, cells := 0, slots := 0, locals := 22 })) : ∀ b, rz_SB SH CL X bp_Mo_look (rz_RI SH CL X c_Mo_look (fun v => narrow .int (.int v) = .int v)) (bk_Mo_look b) (bp_Mo_look b) := fun b => match b with
  | 0 => (rz_cons (rz_iload_n G d_Mo_look_0 rfl) (rz_cons (rz_iconst G d_Mo_look_1 (by decide)) (rz_cons (rz_aload_n G d_Mo_look_2 rfl) (rz_cons (rz_get G rfl in_Mo (by decide) wd_625 d_Mo_look_3) (rz_cons (rz_iconst G d_Mo_look_6 (by decide)) (rz_cons (rz_isub G d_Mo_look_7) (rz_cons (rz_csi G (m_Mo_within X.1) cd_Mo_within wd_735 wd_736 (by decide) d_Mo_look_8) (rz_cons (rz_if_ne G d_Mo_look_11 (by decide)) (rz_cons (rz_iconst G d_Mo_look_14 (by decide)) (rz_cons (rz_iret (npc := 0) (fun _ => rfl) d_Mo_look_15) rz_nil))))))))))
  | 1 => (rz_cons (rz_iload_n G d_Mo_look_16 rfl) (rz_cons (rz_table (npc := 0) G d_Mo_look_17 (by decide) (by decide) (by decide +kernel) (by decide) (by decide +kernel)) rz_nil))
  | 2 => (rz_cons (rz_aload_n G d_Mo_look_52 rfl) (rz_cons (rz_get G rfl in_Mo (by decide) wd_619 d_Mo_look_53) (rz_cons (rz_iload_n G d_Mo_look_56 rfl) (rz_cons (rz_iald G d_Mo_look_57) (rz_cons (rz_iret (npc := 0) (fun _ => rfl) d_Mo_look_58) rz_nil)))))
  | 3 => (rz_cons (rz_aload_n G d_Mo_look_59 rfl) (rz_cons (rz_get G rfl in_Mo (by decide) wd_620 d_Mo_look_60) (rz_cons (rz_iload_n G d_Mo_look_63 rfl) (rz_cons (rz_iald G d_Mo_look_64) (rz_cons (rz_iret (npc := 0) (fun _ => rfl) d_Mo_look_65) rz_nil)))))
  | 4 => (rz_cons (rz_aload_n G d_Mo_look_66 rfl) (rz_cons (rz_get G rfl in_Mo (by decide) wd_621 d_Mo_look_67) (rz_cons (rz_iload_n G d_Mo_look_70 rfl) (rz_cons (rz_iald G d_Mo_look_71) (rz_cons (rz_iret (npc := 0) (fun _ => rfl) d_Mo_look_72) rz_nil)))))
  | 5 => (rz_cons (rz_aload_n G d_Mo_look_73 rfl) (rz_cons (rz_get G rfl in_Mo (by decide) wd_622 d_Mo_look_74) (rz_cons (rz_iload_n G d_Mo_look_77 rfl) (rz_cons (rz_iald G d_Mo_look_78) (rz_cons (rz_iret (npc := 0) (fun _ => rfl) d_Mo_look_79) rz_nil)))))
  | 6 => (rz_cons (rz_aload_n G d_Mo_look_80 rfl) (rz_cons (rz_get G rfl in_Mo (by decide) wd_623 d_Mo_look_81) (rz_cons (rz_iload_n G d_Mo_look_84 rfl) (rz_cons (rz_iald G d_Mo_look_85) (rz_cons (rz_iret (npc := 0) (fun _ => rfl) d_Mo_look_86) rz_nil)))))
  | 7 => (rz_cons (rz_iconst G d_Mo_look_87 (by decide)) (rz_cons (rz_iret (npc := 0) (fun _ => rfl) d_Mo_look_88) rz_nil))
  | _ + 8 => rz_nil
set_option maxRecDepth 100000 in
set_option maxHeartbeats 4000000 in
theorem bd_Mo_look : ∀ (Y : Nat → rz_K) (P : rz_P), (∀ b ls st μ, rz_ex P Y (bk_Mo_look b) ls st μ → Y b ls st μ) → ∀ As μ, C_Mo_look As μ P → Y 0 (rz_pad 3 (rz_ent As)) [] μ := by
  intro Y P hY As μ hC
  obtain ⟨f, x, rfl, hv, hC⟩ := hC
  refine hY 0 _ _ _ ⟨_, _, _, rfl, And.intro (fun h => ?_) (fun h => rzF (fun z => P (some (.int z)) μ) (b2_eq h) hC)⟩
  have hv := hv (b2_ne h)
  have hC := rzT (fun z => P (some (.int z)) μ) (b2_ne h) hC
  refine hY 1 _ _ _ (And.intro (fun h => hY 2 _ _ _ (And.intro hv (rzT (fun z => P (some (.int z)) μ) h hC))) (fun h => ?_))
  have hC := rzF (fun z => P (some (.int z)) μ) h hC
  refine And.intro (fun h => hY 3 _ _ _ (And.intro hv (rzT (fun z => P (some (.int z)) μ) h hC))) (fun h => ?_)
  have hC := rzF (fun z => P (some (.int z)) μ) h hC
  refine And.intro (fun h => hY 4 _ _ _ (And.intro hv (rzT (fun z => P (some (.int z)) μ) h hC))) (fun h => ?_)
  have hC := rzF (fun z => P (some (.int z)) μ) h hC
  refine And.intro (fun h => hY 5 _ _ _ (And.intro hv (rzT (fun z => P (some (.int z)) μ) h hC))) (fun h => ?_)
  have hC := rzF (fun z => P (some (.int z)) μ) h hC
  refine And.intro (fun h => hY 6 _ _ _ (And.intro hv (rzT (fun z => P (some (.int z)) μ) h hC))) (fun h => ?_)
  exact hY 7 _ _ _ (rzF (fun z => P (some (.int z)) μ) h hC)
theorem m_Mo_look (E : rz_E) : rz_MI SH CL E y_Mo_look 3 (Cond.code y_Mo_look c_Mo_look 3 (some .int) :: rz_tbl) ({ frames := 1, cells := 0, slots := 0, locals := 22 }) C_Mo_look := rz_metI (by decide) rfl (fun X _ G => sd_Mo_look X G) bd_Mo_look
theorem cd_Mo_look : rz_Cd rz_tbl y_Mo_look c_Mo_look 3 (some .int) (Cond.code y_Mo_look c_Mo_look 3 (some .int) :: rz_tbl) 2 ({ frames := 1, cells := 0, slots := 0, locals := 22 }) := ⟨rz_good wd_856, ⟨_, rfl⟩, wd_47, by decide +kernel, rfl, rfl⟩
def w_st (x : Int32) (μ : rz_M) : Int32 := if x = 0 then (if μ 19 17 = 0 then 0 else 1) else if x = 1 then μ 19 6 else if x = 2 then μ 19 8 else if x = 3 then μ 19 7 else if x = 4 then (if μ 19 16 ≤ 0 then 0 else 1) else if x = 5 then μ 19 9 else if x = 6 then μ 19 10 else if x = 7 then μ 19 11 else if x = 8 then (if μ 19 18 = 0 then 0 else 1) else if x = 9 then μ 19 20 else if x = 10 then μ 19 21 else if x = 11 then μ 19 22 else if x = 12 then μ 19 23 else if x = 13 then μ 19 24 else if x = 14 then μ 19 31 else μ 19 32 - μ 19 33
def w_state (x : Int32) (μ : rz_M) : Int32 := if ¬ x < 0 ∧ ¬ 15 < x then (if ¬ x ≤ 7 ∧ μ 19 17 = 0 then -1 else w_st x μ) else -1
def C_Mo_state : rz_C := fun As μ P => ∃ x : Int32, As = [.ref 19, .int x] ∧ P (some (.int (w_state x μ))) μ
def bk_Mo_state : Nat → List rz_T := fun b => match b with
  | 0 => [tz_iload 1, tz_iconst 0, tz_bipush 15, tz_cs 3 3 C_Mo_within, tz_if_ne 1, tz_iconst (-1), tz_iret]
  | 1 => [tz_iload 1, tz_bipush 7, tz_icmp_le 2, tz_aload 0, tz_get SH 7 17, tz_if_ne 2, tz_iconst (-1), tz_iret]
  | 2 => [tz_iload 1, tz_sw [(0, 3), (1, 6), (2, 7), (3, 8), (4, 9), (5, 12), (6, 13), (7, 14), (8, 15), (9, 18), (10, 19), (11, 20), (12, 21), (13, 22), (14, 23)] 24]
  | 3 => [tz_aload 0, tz_get SH 7 17, tz_if_eq 4, tz_iconst 1, tz_goto 5]
  | 4 => [tz_iconst 0, tz_fall 5]
  | 5 => [tz_iret]
  | 6 => [tz_aload 0, tz_get SH 7 6, tz_iret]
  | 7 => [tz_aload 0, tz_get SH 7 8, tz_iret]
  | 8 => [tz_aload 0, tz_get SH 7 7, tz_iret]
  | 9 => [tz_aload 0, tz_get SH 7 16, tz_if_le 10, tz_iconst 1, tz_goto 11]
  | 10 => [tz_iconst 0, tz_fall 11]
  | 11 => [tz_iret]
  | 12 => [tz_aload 0, tz_get SH 7 9, tz_iret]
  | 13 => [tz_aload 0, tz_get SH 7 10, tz_iret]
  | 14 => [tz_aload 0, tz_get SH 7 11, tz_iret]
  | 15 => [tz_aload 0, tz_get SH 7 18, tz_if_eq 16, tz_iconst 1, tz_goto 17]
  | 16 => [tz_iconst 0, tz_fall 17]
  | 17 => [tz_iret]
  | 18 => [tz_aload 0, tz_get SH 7 20, tz_iret]
  | 19 => [tz_aload 0, tz_get SH 7 21, tz_iret]
  | 20 => [tz_aload 0, tz_get SH 7 22, tz_iret]
  | 21 => [tz_aload 0, tz_get SH 7 23, tz_iret]
  | 22 => [tz_aload 0, tz_get SH 7 24, tz_iret]
  | 23 => [tz_aload 0, tz_get SH 7 31, tz_iret]
  | 24 => [tz_aload 0, tz_get SH 7 32, tz_aload 0, tz_get SH 7 33, tz_isub, tz_iret]
  | _ => []
def bp_Mo_state : Nat → Nat := fun b => match b with
  | 0 => 0
  | 1 => 12
  | 2 => 27
  | 3 => 104
  | 4 => 115
  | 5 => 116
  | 6 => 117
  | 7 => 122
  | 8 => 127
  | 9 => 132
  | 10 => 143
  | 11 => 144
  | 12 => 145
  | 13 => 150
  | 14 => 155
  | 15 => 160
  | 16 => 171
  | 17 => 172
  | 18 => 173
  | 19 => 178
  | 20 => 183
  | 21 => 188
  | 22 => 193
  | 23 => 198
  | 24 => 203
  | _ => 0
set_option maxRecDepth 100000 in
set_option maxHeartbeats 4000000 in
theorem sd_Mo_state (X : rz_X) (G : rz_Cx CL X c_Mo_state 2 rz_tbl R_Mo ({ frames := 1, cells := 0, slots := 0, locals := 22 })) : ∀ b, rz_SB SH CL X bp_Mo_state (rz_RI SH CL X c_Mo_state (fun v => narrow .int (.int v) = .int v)) (bk_Mo_state b) (bp_Mo_state b) := fun b => match b with
  | 0 => (rz_cons (rz_iload_n G d_Mo_state_0 rfl) (rz_cons (rz_iconst G d_Mo_state_1 (by decide)) (rz_cons (rz_bipush G d_Mo_state_2 (by decide)) (rz_cons (rz_csi G (m_Mo_within X.1) cd_Mo_within wd_735 wd_736 (by decide) d_Mo_state_4) (rz_cons (rz_if_ne G d_Mo_state_7 (by decide)) (rz_cons (rz_iconst G d_Mo_state_10 (by decide)) (rz_cons (rz_iret (npc := 0) (fun _ => rfl) d_Mo_state_11) rz_nil)))))))
  | 1 => (rz_cons (rz_iload_n G d_Mo_state_12 rfl) (rz_cons (rz_bipush G d_Mo_state_13 (by decide)) (rz_cons (rz_icmp_le G d_Mo_state_15 (by decide)) (rz_cons (rz_aload_n G d_Mo_state_18 rfl) (rz_cons (rz_get G rfl in_Mo (by decide) wd_636 d_Mo_state_19) (rz_cons (rz_if_ne G d_Mo_state_22 (by decide)) (rz_cons (rz_iconst G d_Mo_state_25 (by decide)) (rz_cons (rz_iret (npc := 0) (fun _ => rfl) d_Mo_state_26) rz_nil))))))))
  | 2 => (rz_cons (rz_iload_n G d_Mo_state_27 rfl) (rz_cons (rz_table (npc := 0) G d_Mo_state_28 (by decide) (by decide) (by decide +kernel) (by decide) (by decide +kernel)) rz_nil))
  | 3 => (rz_cons (rz_aload_n G d_Mo_state_104 rfl) (rz_cons (rz_get G rfl in_Mo (by decide) wd_636 d_Mo_state_105) (rz_cons (rz_if_eq G d_Mo_state_108 (by decide)) (rz_cons (rz_iconst G d_Mo_state_111 (by decide)) (rz_cons (rz_goto (npc := 0) G d_Mo_state_112 (by decide)) rz_nil)))))
  | 4 => (rz_cons (rz_iconst G d_Mo_state_115 (by decide)) (rz_fall rfl))
  | 5 => (rz_cons (rz_iret (npc := 0) (fun _ => rfl) d_Mo_state_116) rz_nil)
  | 6 => (rz_cons (rz_aload_n G d_Mo_state_117 rfl) (rz_cons (rz_get G rfl in_Mo (by decide) wd_625 d_Mo_state_118) (rz_cons (rz_iret (npc := 0) (fun _ => rfl) d_Mo_state_121) rz_nil)))
  | 7 => (rz_cons (rz_aload_n G d_Mo_state_122 rfl) (rz_cons (rz_get G rfl in_Mo (by decide) wd_627 d_Mo_state_123) (rz_cons (rz_iret (npc := 0) (fun _ => rfl) d_Mo_state_126) rz_nil)))
  | 8 => (rz_cons (rz_aload_n G d_Mo_state_127 rfl) (rz_cons (rz_get G rfl in_Mo (by decide) wd_626 d_Mo_state_128) (rz_cons (rz_iret (npc := 0) (fun _ => rfl) d_Mo_state_131) rz_nil)))
  | 9 => (rz_cons (rz_aload_n G d_Mo_state_132 rfl) (rz_cons (rz_get G rfl in_Mo (by decide) wd_635 d_Mo_state_133) (rz_cons (rz_if_le G d_Mo_state_136 (by decide)) (rz_cons (rz_iconst G d_Mo_state_139 (by decide)) (rz_cons (rz_goto (npc := 0) G d_Mo_state_140 (by decide)) rz_nil)))))
  | 10 => (rz_cons (rz_iconst G d_Mo_state_143 (by decide)) (rz_fall rfl))
  | 11 => (rz_cons (rz_iret (npc := 0) (fun _ => rfl) d_Mo_state_144) rz_nil)
  | 12 => (rz_cons (rz_aload_n G d_Mo_state_145 rfl) (rz_cons (rz_get G rfl in_Mo (by decide) wd_628 d_Mo_state_146) (rz_cons (rz_iret (npc := 0) (fun _ => rfl) d_Mo_state_149) rz_nil)))
  | 13 => (rz_cons (rz_aload_n G d_Mo_state_150 rfl) (rz_cons (rz_get G rfl in_Mo (by decide) wd_629 d_Mo_state_151) (rz_cons (rz_iret (npc := 0) (fun _ => rfl) d_Mo_state_154) rz_nil)))
  | 14 => (rz_cons (rz_aload_n G d_Mo_state_155 rfl) (rz_cons (rz_get G rfl in_Mo (by decide) wd_630 d_Mo_state_156) (rz_cons (rz_iret (npc := 0) (fun _ => rfl) d_Mo_state_159) rz_nil)))
  | 15 => (rz_cons (rz_aload_n G d_Mo_state_160 rfl) (rz_cons (rz_get G rfl in_Mo (by decide) wd_637 d_Mo_state_161) (rz_cons (rz_if_eq G d_Mo_state_164 (by decide)) (rz_cons (rz_iconst G d_Mo_state_167 (by decide)) (rz_cons (rz_goto (npc := 0) G d_Mo_state_168 (by decide)) rz_nil)))))
  | 16 => (rz_cons (rz_iconst G d_Mo_state_171 (by decide)) (rz_fall rfl))
  | 17 => (rz_cons (rz_iret (npc := 0) (fun _ => rfl) d_Mo_state_172) rz_nil)
  | 18 => (rz_cons (rz_aload_n G d_Mo_state_173 rfl) (rz_cons (rz_get G rfl in_Mo (by decide) wd_639 d_Mo_state_174) (rz_cons (rz_iret (npc := 0) (fun _ => rfl) d_Mo_state_177) rz_nil)))
  | 19 => (rz_cons (rz_aload_n G d_Mo_state_178 rfl) (rz_cons (rz_get G rfl in_Mo (by decide) wd_640 d_Mo_state_179) (rz_cons (rz_iret (npc := 0) (fun _ => rfl) d_Mo_state_182) rz_nil)))
  | 20 => (rz_cons (rz_aload_n G d_Mo_state_183 rfl) (rz_cons (rz_get G rfl in_Mo (by decide) wd_641 d_Mo_state_184) (rz_cons (rz_iret (npc := 0) (fun _ => rfl) d_Mo_state_187) rz_nil)))
  | 21 => (rz_cons (rz_aload_n G d_Mo_state_188 rfl) (rz_cons (rz_get G rfl in_Mo (by decide) wd_642 d_Mo_state_189) (rz_cons (rz_iret (npc := 0) (fun _ => rfl) d_Mo_state_192) rz_nil)))
  | 22 => (rz_cons (rz_aload_n G d_Mo_state_193 rfl) (rz_cons (rz_get G rfl in_Mo (by decide) wd_643 d_Mo_state_194) (rz_cons (rz_iret (npc := 0) (fun _ => rfl) d_Mo_state_197) rz_nil)))
  | 23 => (rz_cons (rz_aload_n G d_Mo_state_198 rfl) (rz_cons (rz_get G rfl in_Mo (by decide) wd_650 d_Mo_state_199) (rz_cons (rz_iret (npc := 0) (fun _ => rfl) d_Mo_state_202) rz_nil)))
  | 24 => (rz_cons (rz_aload_n G d_Mo_state_203 rfl) (rz_cons (rz_get G rfl in_Mo (by decide) wd_651 d_Mo_state_204) (rz_cons (rz_aload_n G d_Mo_state_207 rfl) (rz_cons (rz_get G rfl in_Mo (by decide) wd_652 d_Mo_state_208) (rz_cons (rz_isub G d_Mo_state_211) (rz_cons (rz_iret (npc := 0) (fun _ => rfl) d_Mo_state_212) rz_nil))))))
  | _ + 25 => rz_nil
set_option maxRecDepth 100000 in
set_option maxHeartbeats 4000000 in
theorem bd_Mo_state : ∀ (Y : Nat → rz_K) (P : rz_P), (∀ b ls st μ, rz_ex P Y (bk_Mo_state b) ls st μ → Y b ls st μ) → ∀ As μ, C_Mo_state As μ P → Y 0 (rz_pad 2 (rz_ent As)) [] μ := by
  intro Y P hY As μ hC
  obtain ⟨x, rfl, hC⟩ := hC
  refine hY 0 _ _ _ ⟨_, _, _, rfl, And.intro (fun h => ?_) (fun h => rzF (fun z => P (some (.int z)) μ) (b2_eq h) hC)⟩
  have hC := rzT (fun z => P (some (.int z)) μ) (b2_ne h) hC
  have two : ¬ (¬ x ≤ 7 ∧ μ 19 17 = 0) → Y 2 [some (.ref 19), some (.int x)] [] μ := by
    intro hn
    have hC := rzF (fun z => P (some (.int z)) μ) hn hC
    refine hY 2 _ _ _ (And.intro (fun h => ?_) (fun h => ?_))
    · have hC := rzT (fun z => P (some (.int z)) μ) h hC
      exact hY 3 _ _ _ (And.intro (fun h => hY 4 _ _ _ (hY 5 _ _ _ (rzT (fun z => P (some (.int z)) μ) h hC))) (fun h => hY 5 _ _ _ (rzF (fun z => P (some (.int z)) μ) h hC)))
    have hC := rzF (fun z => P (some (.int z)) μ) h hC
    refine And.intro (fun h => hY 6 _ _ _ (rzT (fun z => P (some (.int z)) μ) h hC)) (fun h => ?_)
    have hC := rzF (fun z => P (some (.int z)) μ) h hC
    refine And.intro (fun h => hY 7 _ _ _ (rzT (fun z => P (some (.int z)) μ) h hC)) (fun h => ?_)
    have hC := rzF (fun z => P (some (.int z)) μ) h hC
    refine And.intro (fun h => hY 8 _ _ _ (rzT (fun z => P (some (.int z)) μ) h hC)) (fun h => ?_)
    have hC := rzF (fun z => P (some (.int z)) μ) h hC
    refine And.intro (fun h => ?_) (fun h => ?_)
    · have hC := rzT (fun z => P (some (.int z)) μ) h hC
      exact hY 9 _ _ _ (And.intro (fun h => hY 10 _ _ _ (hY 11 _ _ _ (rzT (fun z => P (some (.int z)) μ) h hC))) (fun h => hY 11 _ _ _ (rzF (fun z => P (some (.int z)) μ) h hC)))
    have hC := rzF (fun z => P (some (.int z)) μ) h hC
    refine And.intro (fun h => hY 12 _ _ _ (rzT (fun z => P (some (.int z)) μ) h hC)) (fun h => ?_)
    have hC := rzF (fun z => P (some (.int z)) μ) h hC
    refine And.intro (fun h => hY 13 _ _ _ (rzT (fun z => P (some (.int z)) μ) h hC)) (fun h => ?_)
    have hC := rzF (fun z => P (some (.int z)) μ) h hC
    refine And.intro (fun h => hY 14 _ _ _ (rzT (fun z => P (some (.int z)) μ) h hC)) (fun h => ?_)
    have hC := rzF (fun z => P (some (.int z)) μ) h hC
    refine And.intro (fun h => ?_) (fun h => ?_)
    · have hC := rzT (fun z => P (some (.int z)) μ) h hC
      exact hY 15 _ _ _ (And.intro (fun h => hY 16 _ _ _ (hY 17 _ _ _ (rzT (fun z => P (some (.int z)) μ) h hC))) (fun h => hY 17 _ _ _ (rzF (fun z => P (some (.int z)) μ) h hC)))
    have hC := rzF (fun z => P (some (.int z)) μ) h hC
    refine And.intro (fun h => hY 18 _ _ _ (rzT (fun z => P (some (.int z)) μ) h hC)) (fun h => ?_)
    have hC := rzF (fun z => P (some (.int z)) μ) h hC
    refine And.intro (fun h => hY 19 _ _ _ (rzT (fun z => P (some (.int z)) μ) h hC)) (fun h => ?_)
    have hC := rzF (fun z => P (some (.int z)) μ) h hC
    refine And.intro (fun h => hY 20 _ _ _ (rzT (fun z => P (some (.int z)) μ) h hC)) (fun h => ?_)
    have hC := rzF (fun z => P (some (.int z)) μ) h hC
    refine And.intro (fun h => hY 21 _ _ _ (rzT (fun z => P (some (.int z)) μ) h hC)) (fun h => ?_)
    have hC := rzF (fun z => P (some (.int z)) μ) h hC
    refine And.intro (fun h => hY 22 _ _ _ (rzT (fun z => P (some (.int z)) μ) h hC)) (fun h => ?_)
    have hC := rzF (fun z => P (some (.int z)) μ) h hC
    refine And.intro (fun h => hY 23 _ _ _ (rzT (fun z => P (some (.int z)) μ) h hC)) (fun h => ?_)
    exact hY 24 _ _ _ (rzF (fun z => P (some (.int z)) μ) h hC)
  exact hY 1 _ _ _ (And.intro (fun h => two (fun q => q.1 h)) (fun h => And.intro (fun h2 => two (fun q => h2 q.2)) (fun h2 => rzT (fun z => P (some (.int z)) μ) ⟨h, h2⟩ hC)))
theorem m_Mo_state (E : rz_E) : rz_MI SH CL E y_Mo_state 2 (Cond.code y_Mo_state c_Mo_state 2 (some .int) :: rz_tbl) ({ frames := 1, cells := 0, slots := 0, locals := 22 }) C_Mo_state := rz_metI (by decide) rfl (fun X _ G => sd_Mo_state X G) bd_Mo_state
theorem cd_Mo_state : rz_Cd rz_tbl y_Mo_state c_Mo_state 2 (some .int) (Cond.code y_Mo_state c_Mo_state 2 (some .int) :: rz_tbl) 1 ({ frames := 1, cells := 0, slots := 0, locals := 22 }) := ⟨rz_good wd_852, ⟨_, rfl⟩, wd_47, by decide +kernel, rfl, rfl⟩
def g_add (d n s r c : Int32) (μ : rz_M) : rz_M :=
  rz_up (rz_up (rz_up (rz_up (rz_up (rz_up μ 20 (μ 19 6).toNatClampNeg n) 21 (μ 19 6).toNatClampNeg d) 22 (μ 19 6).toNatClampNeg s) 23 (μ 19 6).toNatClampNeg (if s ≤ 0 then 0 else r)) 24 (μ 19 6).toNatClampNeg (if s ≤ 0 then 0 else c)) 19 6 (μ 19 6 + 1)
abbrev p_fold (d : Int32) (μ : rz_M) : Prop := (¬ d < 0 ∧ ¬ μ 19 6 - 1 < d) ∧ μ 22 d.toNatClampNeg = 0
abbrev p_rts (r c : Int32) : Prop := (¬ r < 0 ∧ ¬ 2 < r) ∧ (¬ c < 0 ∧ ¬ 2 < c)
abbrev p_bad (d n s r c : Int32) (μ : rz_M) : Prop := ¬ (¬ n < 0 ∧ ¬ 65535 < n) ∨ ¬ p_fold d μ ∨ ¬ (¬ s < 0 ∧ ¬ 24 < s) ∨ (¬ s ≤ 0 ∧ ¬ p_rts r c)
def g_file (d n s r c : Int32) (μ : rz_M) : Int32 × rz_M := if p_bad d n s r c μ then (-1, μ) else if μ 19 17 = 0 then (if ¬ μ 19 6 = 8 then (μ 19 6 + 1 - 1, g_add d n s r c μ) else (-2, μ)) else (-3, μ)
def C_Mo_file : rz_C := fun As μ P => ∃ d n s r c : Int32, As = [.ref 19, .int d, .int n, .int s, .int r, .int c] ∧ 0 ≤ μ 19 6 ∧ μ 19 6 ≤ 8 ∧ (¬ d < 0 ∧ ¬ μ 19 6 - 1 < d → vp_in d 8) ∧ PQ P (g_file d n s r c μ)
def bk_Mo_file : Nat → List rz_T := fun b => match b with
  | 0 => [tz_iload 1, tz_iconst 0, tz_aload 0, tz_get SH 7 6, tz_iconst 1, tz_isub, tz_cs 3 3 C_Mo_within, tz_if_eq 1, tz_aload 0, tz_get SH 7 2, tz_iload 1, tz_iald SH, tz_if_ne 1, tz_iconst 1, tz_goto 2]
  | 1 => [tz_iconst 0, tz_fall 2]
  | 2 => [tz_istore 6, tz_iload 4, tz_iconst 0, tz_iconst 2, tz_cs 3 3 C_Mo_within, tz_if_eq 3, tz_iload 5, tz_iconst 0, tz_iconst 2, tz_cs 3 3 C_Mo_within, tz_if_eq 3, tz_iconst 1, tz_goto 4]
  | 3 => [tz_iconst 0, tz_fall 4]
  | 4 => [tz_istore 7, tz_iload 2, tz_iconst 0, tz_ldc 65535, tz_cs 3 3 C_Mo_within, tz_if_eq 5, tz_iload 6, tz_if_eq 5, tz_iload 3, tz_iconst 0, tz_bipush 24, tz_cs 3 3 C_Mo_within, tz_if_eq 5, tz_iload 3, tz_if_le 6, tz_iload 7, tz_if_ne 6, tz_fall 5]
  | 5 => [tz_iconst (-1), tz_iret]
  | 6 => [tz_aload 0, tz_get SH 7 17, tz_if_eq 7, tz_bipush (-3), tz_iret]
  | 7 => [tz_aload 0, tz_get SH 7 6, tz_bipush 8, tz_icmp_ne 8, tz_bipush (-2), tz_iret]
  | 8 => [tz_aload 0, tz_get SH 7 0, tz_aload 0, tz_get SH 7 6, tz_iload 2, tz_iast SH, tz_aload 0, tz_get SH 7 1, tz_aload 0, tz_get SH 7 6, tz_iload 1, tz_iast SH, tz_aload 0, tz_get SH 7 2, tz_aload 0, tz_get SH 7 6, tz_iload 3, tz_iast SH, tz_aload 0, tz_get SH 7 3, tz_aload 0, tz_get SH 7 6, tz_iload 3, tz_if_le 9, tz_iload 4, tz_goto 10]
  | 9 => [tz_iconst 0, tz_fall 10]
  | 10 => [tz_iast SH, tz_aload 0, tz_get SH 7 4, tz_aload 0, tz_get SH 7 6, tz_iload 3, tz_if_le 11, tz_iload 5, tz_goto 12]
  | 11 => [tz_iconst 0, tz_fall 12]
  | 12 => [tz_iast SH, tz_aload 0, tz_dup, tz_get SH 7 6, tz_iconst 1, tz_iadd, tz_put SH 7 6, tz_aload 0, tz_get SH 7 6, tz_iconst 1, tz_isub, tz_iret]
  | _ => []
def bp_Mo_file : Nat → Nat := fun b => match b with
  | 0 => 0
  | 1 => 27
  | 2 => 28
  | 3 => 54
  | 4 => 55
  | 5 => 91
  | 6 => 93
  | 7 => 103
  | 8 => 115
  | 9 => 162
  | 10 => 163
  | 11 => 181
  | 12 => 182
  | _ => 0
set_option maxRecDepth 100000 in
set_option maxHeartbeats 4000000 in
theorem sd_Mo_file (X : rz_X) (G : rz_Cx CL X c_Mo_file 8 rz_tbl R_Mo ({ frames := 1, cells := 0, slots := 0, locals := 22 })) : ∀ b, rz_SB SH CL X bp_Mo_file (rz_RI SH CL X c_Mo_file (fun v => narrow .int (.int v) = .int v)) (bk_Mo_file b) (bp_Mo_file b) := fun b => match b with
  | 0 => (rz_cons (rz_iload_n G d_Mo_file_0 rfl) (rz_cons (rz_iconst G d_Mo_file_1 (by decide)) (rz_cons (rz_aload_n G d_Mo_file_2 rfl) (rz_cons (rz_get G rfl in_Mo (by decide) wd_625 d_Mo_file_3) (rz_cons (rz_iconst G d_Mo_file_6 (by decide)) (rz_cons (rz_isub G d_Mo_file_7) (rz_cons (rz_csi G (m_Mo_within X.1) cd_Mo_within wd_735 wd_736 (by decide) d_Mo_file_8) (rz_cons (rz_if_eq G d_Mo_file_11 (by decide)) (rz_cons (rz_aload_n G d_Mo_file_14 rfl) (rz_cons (rz_get G rfl in_Mo (by decide) wd_621 d_Mo_file_15) (rz_cons (rz_iload_n G d_Mo_file_18 rfl) (rz_cons (rz_iald G d_Mo_file_19) (rz_cons (rz_if_ne G d_Mo_file_20 (by decide)) (rz_cons (rz_iconst G d_Mo_file_23 (by decide)) (rz_cons (rz_goto (npc := 0) G d_Mo_file_24 (by decide)) rz_nil)))))))))))))))
  | 1 => (rz_cons (rz_iconst G d_Mo_file_27 (by decide)) (rz_fall rfl))
  | 2 => (rz_cons (rz_istore G d_Mo_file_28 (by decide)) (rz_cons (rz_iload G d_Mo_file_30) (rz_cons (rz_iconst G d_Mo_file_32 (by decide)) (rz_cons (rz_iconst G d_Mo_file_33 (by decide)) (rz_cons (rz_csi G (m_Mo_within X.1) cd_Mo_within wd_735 wd_736 (by decide) d_Mo_file_34) (rz_cons (rz_if_eq G d_Mo_file_37 (by decide)) (rz_cons (rz_iload G d_Mo_file_40) (rz_cons (rz_iconst G d_Mo_file_42 (by decide)) (rz_cons (rz_iconst G d_Mo_file_43 (by decide)) (rz_cons (rz_csi G (m_Mo_within X.1) cd_Mo_within wd_735 wd_736 (by decide) d_Mo_file_44) (rz_cons (rz_if_eq G d_Mo_file_47 (by decide)) (rz_cons (rz_iconst G d_Mo_file_50 (by decide)) (rz_cons (rz_goto (npc := 0) G d_Mo_file_51 (by decide)) rz_nil)))))))))))))
  | 3 => (rz_cons (rz_iconst G d_Mo_file_54 (by decide)) (rz_fall rfl))
  | 4 => (rz_cons (rz_istore G d_Mo_file_55 (by decide)) (rz_cons (rz_iload_n G d_Mo_file_57 rfl) (rz_cons (rz_iconst G d_Mo_file_58 (by decide)) (rz_cons (rz_ldc G wd_738 d_Mo_file_59) (rz_cons (rz_csi G (m_Mo_within X.1) cd_Mo_within wd_735 wd_736 (by decide) d_Mo_file_61) (rz_cons (rz_if_eq G d_Mo_file_64 (by decide)) (rz_cons (rz_iload G d_Mo_file_67) (rz_cons (rz_if_eq G d_Mo_file_69 (by decide)) (rz_cons (rz_iload_n G d_Mo_file_72 rfl) (rz_cons (rz_iconst G d_Mo_file_73 (by decide)) (rz_cons (rz_bipush G d_Mo_file_74 (by decide)) (rz_cons (rz_csi G (m_Mo_within X.1) cd_Mo_within wd_735 wd_736 (by decide) d_Mo_file_76) (rz_cons (rz_if_eq G d_Mo_file_79 (by decide)) (rz_cons (rz_iload_n G d_Mo_file_82 rfl) (rz_cons (rz_if_le G d_Mo_file_83 (by decide)) (rz_cons (rz_iload G d_Mo_file_86) (rz_cons (rz_if_ne G d_Mo_file_88 (by decide)) (rz_fall rfl))))))))))))))))))
  | 5 => (rz_cons (rz_iconst G d_Mo_file_91 (by decide)) (rz_cons (rz_iret (npc := 0) (fun _ => rfl) d_Mo_file_92) rz_nil))
  | 6 => (rz_cons (rz_aload_n G d_Mo_file_93 rfl) (rz_cons (rz_get G rfl in_Mo (by decide) wd_636 d_Mo_file_94) (rz_cons (rz_if_eq G d_Mo_file_97 (by decide)) (rz_cons (rz_bipush G d_Mo_file_100 (by decide)) (rz_cons (rz_iret (npc := 0) (fun _ => rfl) d_Mo_file_102) rz_nil)))))
  | 7 => (rz_cons (rz_aload_n G d_Mo_file_103 rfl) (rz_cons (rz_get G rfl in_Mo (by decide) wd_625 d_Mo_file_104) (rz_cons (rz_bipush G d_Mo_file_107 (by decide)) (rz_cons (rz_icmp_ne G d_Mo_file_109 (by decide)) (rz_cons (rz_bipush G d_Mo_file_112 (by decide)) (rz_cons (rz_iret (npc := 0) (fun _ => rfl) d_Mo_file_114) rz_nil))))))
  | 8 => (rz_cons (rz_aload_n G d_Mo_file_115 rfl) (rz_cons (rz_get G rfl in_Mo (by decide) wd_619 d_Mo_file_116) (rz_cons (rz_aload_n G d_Mo_file_119 rfl) (rz_cons (rz_get G rfl in_Mo (by decide) wd_625 d_Mo_file_120) (rz_cons (rz_iload_n G d_Mo_file_123 rfl) (rz_cons (rz_iast G d_Mo_file_124) (rz_cons (rz_aload_n G d_Mo_file_125 rfl) (rz_cons (rz_get G rfl in_Mo (by decide) wd_620 d_Mo_file_126) (rz_cons (rz_aload_n G d_Mo_file_129 rfl) (rz_cons (rz_get G rfl in_Mo (by decide) wd_625 d_Mo_file_130) (rz_cons (rz_iload_n G d_Mo_file_133 rfl) (rz_cons (rz_iast G d_Mo_file_134) (rz_cons (rz_aload_n G d_Mo_file_135 rfl) (rz_cons (rz_get G rfl in_Mo (by decide) wd_621 d_Mo_file_136) (rz_cons (rz_aload_n G d_Mo_file_139 rfl) (rz_cons (rz_get G rfl in_Mo (by decide) wd_625 d_Mo_file_140) (rz_cons (rz_iload_n G d_Mo_file_143 rfl) (rz_cons (rz_iast G d_Mo_file_144) (rz_cons (rz_aload_n G d_Mo_file_145 rfl) (rz_cons (rz_get G rfl in_Mo (by decide) wd_622 d_Mo_file_146) (rz_cons (rz_aload_n G d_Mo_file_149 rfl) (rz_cons (rz_get G rfl in_Mo (by decide) wd_625 d_Mo_file_150) (rz_cons (rz_iload_n G d_Mo_file_153 rfl) (rz_cons (rz_if_le G d_Mo_file_154 (by decide)) (rz_cons (rz_iload G d_Mo_file_157) (rz_cons (rz_goto (npc := 0) G d_Mo_file_159 (by decide)) rz_nil))))))))))))))))))))))))))
  | 9 => (rz_cons (rz_iconst G d_Mo_file_162 (by decide)) (rz_fall rfl))
  | 10 => (rz_cons (rz_iast G d_Mo_file_163) (rz_cons (rz_aload_n G d_Mo_file_164 rfl) (rz_cons (rz_get G rfl in_Mo (by decide) wd_623 d_Mo_file_165) (rz_cons (rz_aload_n G d_Mo_file_168 rfl) (rz_cons (rz_get G rfl in_Mo (by decide) wd_625 d_Mo_file_169) (rz_cons (rz_iload_n G d_Mo_file_172 rfl) (rz_cons (rz_if_le G d_Mo_file_173 (by decide)) (rz_cons (rz_iload G d_Mo_file_176) (rz_cons (rz_goto (npc := 0) G d_Mo_file_178 (by decide)) rz_nil)))))))))
  | 11 => (rz_cons (rz_iconst G d_Mo_file_181 (by decide)) (rz_fall rfl))
  | 12 => (rz_cons (rz_iast G d_Mo_file_182) (rz_cons (rz_aload_n G d_Mo_file_183 rfl) (rz_cons (rz_dup G d_Mo_file_184) (rz_cons (rz_get G rfl in_Mo (by decide) wd_625 d_Mo_file_185) (rz_cons (rz_iconst G d_Mo_file_188 (by decide)) (rz_cons (rz_iadd G d_Mo_file_189) (rz_cons (rz_put G rfl in_Mo ty_Mo tyok_Mo nm_Mo (by decide) rfl (by decide +kernel) wd_625 d_Mo_file_190) (rz_cons (rz_aload_n G d_Mo_file_193 rfl) (rz_cons (rz_get G rfl in_Mo (by decide) wd_625 d_Mo_file_194) (rz_cons (rz_iconst G d_Mo_file_197 (by decide)) (rz_cons (rz_isub G d_Mo_file_198) (rz_cons (rz_iret (npc := 0) (fun _ => rfl) d_Mo_file_199) rz_nil))))))))))))
  | _ + 13 => rz_nil
set_option maxRecDepth 100000 in
set_option maxHeartbeats 4000000 in
theorem bd_Mo_file : ∀ (Y : Nat → rz_K) (P : rz_P), (∀ b ls st μ, rz_ex P Y (bk_Mo_file b) ls st μ → Y b ls st μ) → ∀ As μ, C_Mo_file As μ P → Y 0 (rz_pad 8 (rz_ent As)) [] μ := by
  intro Y P hY As μ hC
  obtain ⟨d, n, s, r, c, rfl, h0, h8, hv, hC⟩ := hC
  have four : ∀ (x y : Int32), x = b2 (p_fold d μ) → y = b2 (p_rts r c) → Y 4 [some (.ref 19), some (.int d), some (.int n), some (.int s), some (.int r), some (.int c), some (.int x), none] [.int y] μ := by
    intro x y hx hy
    subst hx
    subst hy
    have six : ¬ p_bad d n s r c μ → Y 6 [some (.ref 19), some (.int d), some (.int n), some (.int s), some (.int r), some (.int c), some (.int (b2 (p_fold d μ))), some (.int (b2 (p_rts r c)))] [] μ := by
      intro hn
      have hC := rzF (PQ P) hn hC
      refine hY 6 _ _ _ (And.intro (fun h => ?_) (fun h => rzF (PQ P) h hC))
      have hC := rzT (PQ P) h hC
      refine hY 7 _ _ _ (And.intro (fun h => ?_) (fun h => rzN (PQ P) h hC))
      have hC := rzT (PQ P) h hC
      have hlt : μ 19 6 < 8 := by
        rw [i_le] at h8
        rw [i_eq] at h
        rw [i_lt]
        omega
      have hv : vp_in (μ 19 6) 8 := vi_lt (m := 8) h0 hlt
      unfold g_add at hC
      refine hY 8 _ _ _ (And.intro hv (And.intro hv (And.intro hv (And.intro (fun hs => ?_) (fun hs => ?_)))))
      · rw [if_pos hs, if_pos hs] at hC
        exact hY 9 _ _ _ (hY 10 _ _ _ (And.intro hv (And.intro (fun _ => hY 11 _ _ _ (hY 12 _ _ _ (And.intro hv hC))) (fun h => absurd hs h))))
      · rw [if_neg hs, if_neg hs] at hC
        exact hY 10 _ _ _ (And.intro hv (And.intro (fun h => absurd h hs) (fun _ => hY 12 _ _ _ (And.intro hv hC))))
    refine hY 4 _ _ _ ⟨_, _, _, rfl, And.intro (fun h => hY 5 _ _ _ (rzT (PQ P) (Or.inl (b2_eq h)) hC)) (fun k1 => And.intro (fun h => hY 5 _ _ _ (rzT (PQ P) (Or.inr (Or.inl (b2_eq h))) hC)) (fun k2 => ⟨_, _, _, rfl, And.intro (fun h => hY 5 _ _ _ (rzT (PQ P) (Or.inr (Or.inr (Or.inl (b2_eq h)))) hC)) (fun k3 => And.intro (fun h => six ?_) (fun k4 => And.intro (fun h => six ?_) (fun h => hY 5 _ _ _ (rzT (PQ P) (Or.inr (Or.inr (Or.inr ⟨k4, b2_eq h⟩))) hC))))⟩))⟩
    · rintro (q | q | q | q)
      · exact q (b2_ne k1)
      · exact q (b2_ne k2)
      · exact q (b2_ne k3)
      · exact q.1 h
    · rintro (q | q | q | q)
      · exact q (b2_ne k1)
      · exact q (b2_ne k2)
      · exact q (b2_ne k3)
      · exact q.2 (b2_ne h)
  have two : ∀ (x : Int32), x = b2 (p_fold d μ) → Y 2 [some (.ref 19), some (.int d), some (.int n), some (.int s), some (.int r), some (.int c), none, none] [.int x] μ := by
    intro x hx
    refine hY 2 _ _ _ ⟨_, _, _, rfl, And.intro (fun h => hY 3 _ _ _ (four _ _ hx ?_)) (fun h => ⟨_, _, _, rfl, And.intro (fun h2 => hY 3 _ _ _ (four _ _ hx ?_)) (fun h2 => four _ _ hx ?_)⟩)⟩
    · exact (b2_neg (fun q => b2_eq h q.1)).symm
    · exact (b2_neg (fun q => b2_eq h2 q.2)).symm
    · exact (b2_pos ⟨b2_ne h, b2_ne h2⟩).symm
  refine hY 0 _ _ _ ⟨_, _, _, rfl, And.intro (fun h => hY 1 _ _ _ (two _ ?_)) (fun h => And.intro (hv (b2_ne h)) (And.intro (fun h2 => hY 1 _ _ _ (two _ ?_)) (fun h2 => two _ ?_)))⟩
  · exact (b2_neg (fun q => b2_eq h q.1)).symm
  · exact (b2_neg (fun q => h2 q.2)).symm
  · exact (b2_pos ⟨b2_ne h, h2⟩).symm
theorem m_Mo_file (E : rz_E) : rz_MI SH CL E y_Mo_file 8 (Cond.code y_Mo_file c_Mo_file 8 (some .int) :: rz_tbl) ({ frames := 1, cells := 0, slots := 0, locals := 22 }) C_Mo_file := rz_metI (by decide) rfl (fun X _ G => sd_Mo_file X G) bd_Mo_file
theorem cd_Mo_file : rz_Cd rz_tbl y_Mo_file c_Mo_file 8 (some .int) (Cond.code y_Mo_file c_Mo_file 8 (some .int) :: rz_tbl) 5 ({ frames := 1, cells := 0, slots := 0, locals := 22 }) := ⟨rz_good wd_734, ⟨_, rfl⟩, wd_47, by decide +kernel, rfl, rfl⟩
end
