section
-- ===== PART A: goes FIRST, ahead of the names: the tables' words, and 'selects' of the private methods out of them =====
/-- a private method of a class that the tables say can be made, by its rows of tables_1 -/
def lw_okq (q : MethodName × Nat) : Prop := (q.1.cls ≠ "java/lang/invoke/MethodHandle" ∧ q.1.cls ≠ "java/lang/invoke/VarHandle") ∧ Cond.instantiable q.1.cls q.2 ∈ tables_1 ∧ Cond.privateMethod q.1 ∈ tables_1 ∧ Cond.instanceMethod q.1 ∈ tables_1
theorem lw_p0 : lw_okq (⟨"FacetFigures", "leaveAll", "()V"⟩, 7) := ⟨⟨by decide +kernel, by decide +kernel⟩, List.mem_of_getElem? (i := 14) (by decide +kernel), List.mem_of_getElem? (i := 233) (by decide +kernel), List.mem_of_getElem? (i := 234) (by decide +kernel)⟩
theorem lw_p1 : lw_okq (⟨"FacetFigures$Hand", "shrinkTo", "(I)V"⟩, 3) := ⟨⟨by decide +kernel, by decide +kernel⟩, List.mem_of_getElem? (i := 58) (by decide +kernel), List.mem_of_getElem? (i := 241) (by decide +kernel), List.mem_of_getElem? (i := 242) (by decide +kernel)⟩
theorem lw_p2 : lw_okq (⟨"FacetFigures", "facetAt", "(I)LFacetFigures$Facet;"⟩, 7) := ⟨⟨by decide +kernel, by decide +kernel⟩, List.mem_of_getElem? (i := 14) (by decide +kernel), List.mem_of_getElem? (i := 299) (by decide +kernel), List.mem_of_getElem? (i := 300) (by decide +kernel)⟩
theorem lw_p3 : lw_okq (⟨"FacetFigures", "groupsOf", "(I)LFacetFigures$GroupList;"⟩, 7) := ⟨⟨by decide +kernel, by decide +kernel⟩, List.mem_of_getElem? (i := 14) (by decide +kernel), List.mem_of_getElem? (i := 328) (by decide +kernel), List.mem_of_getElem? (i := 329) (by decide +kernel)⟩
theorem lw_p4 : lw_okq (⟨"FacetFigures$Facet", "addKeysOf", "(ILFacetFigures$KeyRow;)V"⟩, 14) := ⟨⟨by decide +kernel, by decide +kernel⟩, List.mem_of_getElem? (i := 76) (by decide +kernel), List.mem_of_getElem? (i := 363) (by decide +kernel), List.mem_of_getElem? (i := 364) (by decide +kernel)⟩
theorem lw_p5 : lw_okq (⟨"FacetFigures$Facet", "addRangeKeys", "(ILFacetFigures$KeyRow;)V"⟩, 14) := ⟨⟨by decide +kernel, by decide +kernel⟩, List.mem_of_getElem? (i := 76) (by decide +kernel), List.mem_of_getElem? (i := 375) (by decide +kernel), List.mem_of_getElem? (i := 376) (by decide +kernel)⟩
theorem lw_p6 : lw_okq (⟨"FacetFigures$GroupList", "addPair", "(II)V"⟩, 9) := ⟨⟨by decide +kernel, by decide +kernel⟩, List.mem_of_getElem? (i := 139) (by decide +kernel), List.mem_of_getElem? (i := 400) (by decide +kernel), List.mem_of_getElem? (i := 401) (by decide +kernel)⟩
theorem lw_p7 : lw_okq (⟨"FacetFigures$Sorter", "merge", "([JIII)V"⟩, 1) := ⟨⟨by decide +kernel, by decide +kernel⟩, List.mem_of_getElem? (i := 22) (by decide +kernel), List.mem_of_getElem? (i := 410) (by decide +kernel), List.mem_of_getElem? (i := 411) (by decide +kernel)⟩
theorem lw_p8 : lw_okq (⟨"FacetFigures$GroupList", "cutRun", "(LFacetFigures$Facet;II)I"⟩, 9) := ⟨⟨by decide +kernel, by decide +kernel⟩, List.mem_of_getElem? (i := 139) (by decide +kernel), List.mem_of_getElem? (i := 421) (by decide +kernel), List.mem_of_getElem? (i := 422) (by decide +kernel)⟩
theorem lw_p9 : lw_okq (⟨"FacetFigures$GroupList", "pairKey", "(I)I"⟩, 9) := ⟨⟨by decide +kernel, by decide +kernel⟩, List.mem_of_getElem? (i := 139) (by decide +kernel), List.mem_of_getElem? (i := 425) (by decide +kernel), List.mem_of_getElem? (i := 426) (by decide +kernel)⟩
theorem lw_p10 : lw_okq (⟨"FacetFigures$GroupList", "weight", "(LFacetFigures$Facet;LFacetFigures$Stock;I)J"⟩, 9) := ⟨⟨by decide +kernel, by decide +kernel⟩, List.mem_of_getElem? (i := 139) (by decide +kernel), List.mem_of_getElem? (i := 433) (by decide +kernel), List.mem_of_getElem? (i := 434) (by decide +kernel)⟩
theorem lw_p11 : lw_okq (⟨"FacetFigures$GroupList", "pairObject", "(I)I"⟩, 9) := ⟨⟨by decide +kernel, by decide +kernel⟩, List.mem_of_getElem? (i := 139) (by decide +kernel), List.mem_of_getElem? (i := 437) (by decide +kernel), List.mem_of_getElem? (i := 438) (by decide +kernel)⟩
theorem lw_p12 : lw_okq (⟨"FacetFigures$GroupList", "groupAt", "(I)I"⟩, 9) := ⟨⟨by decide +kernel, by decide +kernel⟩, List.mem_of_getElem? (i := 139) (by decide +kernel), List.mem_of_getElem? (i := 462) (by decide +kernel), List.mem_of_getElem? (i := 463) (by decide +kernel)⟩
theorem lw_p13 : lw_okq (⟨"FacetFigures", "sampleIsTaken", "(III)Z"⟩, 7) := ⟨⟨by decide +kernel, by decide +kernel⟩, List.mem_of_getElem? (i := 14) (by decide +kernel), List.mem_of_getElem? (i := 525) (by decide +kernel), List.mem_of_getElem? (i := 526) (by decide +kernel)⟩
theorem lw_p14 : lw_okq (⟨"FacetFigures$ValueRow", "sum", "()J"⟩, 3) := ⟨⟨by decide +kernel, by decide +kernel⟩, List.mem_of_getElem? (i := 189) (by decide +kernel), List.mem_of_getElem? (i := 543) (by decide +kernel), List.mem_of_getElem? (i := 544) (by decide +kernel)⟩
theorem lw_p15 : lw_okq (⟨"FacetFigures$ValueRow", "atPlace", "(I)I"⟩, 3) := ⟨⟨by decide +kernel, by decide +kernel⟩, List.mem_of_getElem? (i := 189) (by decide +kernel), List.mem_of_getElem? (i := 547) (by decide +kernel), List.mem_of_getElem? (i := 548) (by decide +kernel)⟩
def lw_privs_1 : List (MethodName × Nat) := [(⟨"FacetFigures", "leaveAll", "()V"⟩, 7), (⟨"FacetFigures$Hand", "shrinkTo", "(I)V"⟩, 3), (⟨"FacetFigures", "facetAt", "(I)LFacetFigures$Facet;"⟩, 7), (⟨"FacetFigures", "groupsOf", "(I)LFacetFigures$GroupList;"⟩, 7), (⟨"FacetFigures$Facet", "addKeysOf", "(ILFacetFigures$KeyRow;)V"⟩, 14), (⟨"FacetFigures$Facet", "addRangeKeys", "(ILFacetFigures$KeyRow;)V"⟩, 14), (⟨"FacetFigures$GroupList", "addPair", "(II)V"⟩, 9), (⟨"FacetFigures$Sorter", "merge", "([JIII)V"⟩, 1), (⟨"FacetFigures$GroupList", "cutRun", "(LFacetFigures$Facet;II)I"⟩, 9), (⟨"FacetFigures$GroupList", "pairKey", "(I)I"⟩, 9), (⟨"FacetFigures$GroupList", "weight", "(LFacetFigures$Facet;LFacetFigures$Stock;I)J"⟩, 9), (⟨"FacetFigures$GroupList", "pairObject", "(I)I"⟩, 9), (⟨"FacetFigures$GroupList", "groupAt", "(I)I"⟩, 9), (⟨"FacetFigures", "sampleIsTaken", "(III)Z"⟩, 7), (⟨"FacetFigures$ValueRow", "sum", "()J"⟩, 3), (⟨"FacetFigures$ValueRow", "atPlace", "(I)I"⟩, 3)]
theorem lw_r1 : ∀ q ∈ lw_privs_1, lw_okq q := List.forall_mem_cons.mpr ⟨lw_p0, List.forall_mem_cons.mpr ⟨lw_p1, List.forall_mem_cons.mpr ⟨lw_p2, List.forall_mem_cons.mpr ⟨lw_p3, List.forall_mem_cons.mpr ⟨lw_p4, List.forall_mem_cons.mpr ⟨lw_p5, List.forall_mem_cons.mpr ⟨lw_p6, List.forall_mem_cons.mpr ⟨lw_p7, List.forall_mem_cons.mpr ⟨lw_p8, List.forall_mem_cons.mpr ⟨lw_p9, List.forall_mem_cons.mpr ⟨lw_p10, List.forall_mem_cons.mpr ⟨lw_p11, List.forall_mem_cons.mpr ⟨lw_p12, List.forall_mem_cons.mpr ⟨lw_p13, List.forall_mem_cons.mpr ⟨lw_p14, List.forall_mem_cons.mpr ⟨lw_p15, fun _ h => absurd h List.not_mem_nil⟩⟩⟩⟩⟩⟩⟩⟩⟩⟩⟩⟩⟩⟩⟩⟩
theorem lw_p16 : lw_okq (⟨"FacetFigures$ValueRow", "different", "()I"⟩, 3) := ⟨⟨by decide +kernel, by decide +kernel⟩, List.mem_of_getElem? (i := 189) (by decide +kernel), List.mem_of_getElem? (i := 553) (by decide +kernel), List.mem_of_getElem? (i := 554) (by decide +kernel)⟩
theorem lw_p17 : lw_okq (⟨"FacetFiguresModel", "changes", "()V"⟩, 33) := ⟨⟨by decide +kernel, by decide +kernel⟩, List.mem_of_getElem? (i := 578) (by decide +kernel), List.mem_of_getElem? (i := 689) (by decide +kernel), List.mem_of_getElem? (i := 690) (by decide +kernel)⟩
theorem lw_p18 : lw_okq (⟨"FacetFiguresModel", "isObject", "(I)Z"⟩, 33) := ⟨⟨by decide +kernel, by decide +kernel⟩, List.mem_of_getElem? (i := 578) (by decide +kernel), List.mem_of_getElem? (i := 697) (by decide +kernel), List.mem_of_getElem? (i := 698) (by decide +kernel)⟩
theorem lw_p19 : lw_okq (⟨"FacetFiguresModel", "isFacet", "(I)Z"⟩, 33) := ⟨⟨by decide +kernel, by decide +kernel⟩, List.mem_of_getElem? (i := 578) (by decide +kernel), List.mem_of_getElem? (i := 731) (by decide +kernel), List.mem_of_getElem? (i := 732) (by decide +kernel)⟩
theorem lw_p20 : lw_okq (⟨"FacetFiguresModel", "findGroups", "(I)V"⟩, 33) := ⟨⟨by decide +kernel, by decide +kernel⟩, List.mem_of_getElem? (i := 578) (by decide +kernel), List.mem_of_getElem? (i := 756) (by decide +kernel), List.mem_of_getElem? (i := 757) (by decide +kernel)⟩
theorem lw_p21 : lw_okq (⟨"FacetFiguresModel", "findKeys", "(I)V"⟩, 33) := ⟨⟨by decide +kernel, by decide +kernel⟩, List.mem_of_getElem? (i := 578) (by decide +kernel), List.mem_of_getElem? (i := 760) (by decide +kernel), List.mem_of_getElem? (i := 761) (by decide +kernel)⟩
theorem lw_p22 : lw_okq (⟨"FacetFiguresModel", "findKeysOf", "(II)V"⟩, 33) := ⟨⟨by decide +kernel, by decide +kernel⟩, List.mem_of_getElem? (i := 578) (by decide +kernel), List.mem_of_getElem? (i := 764) (by decide +kernel), List.mem_of_getElem? (i := 765) (by decide +kernel)⟩
theorem lw_p23 : lw_okq (⟨"FacetFiguresModel", "giveKeys", "(II)V"⟩, 33) := ⟨⟨by decide +kernel, by decide +kernel⟩, List.mem_of_getElem? (i := 578) (by decide +kernel), List.mem_of_getElem? (i := 768) (by decide +kernel), List.mem_of_getElem? (i := 769) (by decide +kernel)⟩
theorem lw_p24 : lw_okq (⟨"FacetFiguresModel", "give", "(I)V"⟩, 33) := ⟨⟨by decide +kernel, by decide +kernel⟩, List.mem_of_getElem? (i := 578) (by decide +kernel), List.mem_of_getElem? (i := 772) (by decide +kernel), List.mem_of_getElem? (i := 773) (by decide +kernel)⟩
theorem lw_p25 : lw_okq (⟨"FacetFiguresModel", "givePaths", "(I)V"⟩, 33) := ⟨⟨by decide +kernel, by decide +kernel⟩, List.mem_of_getElem? (i := 578) (by decide +kernel), List.mem_of_getElem? (i := 776) (by decide +kernel), List.mem_of_getElem? (i := 777) (by decide +kernel)⟩
theorem lw_p26 : lw_okq (⟨"FacetFiguresModel", "giveDays", "(II)V"⟩, 33) := ⟨⟨by decide +kernel, by decide +kernel⟩, List.mem_of_getElem? (i := 578) (by decide +kernel), List.mem_of_getElem? (i := 784) (by decide +kernel), List.mem_of_getElem? (i := 785) (by decide +kernel)⟩
theorem lw_p27 : lw_okq (⟨"FacetFiguresModel", "counts", "(II)Z"⟩, 33) := ⟨⟨by decide +kernel, by decide +kernel⟩, List.mem_of_getElem? (i := 578) (by decide +kernel), List.mem_of_getElem? (i := 798) (by decide +kernel), List.mem_of_getElem? (i := 799) (by decide +kernel)⟩
theorem lw_p28 : lw_okq (⟨"FacetFiguresModel", "atHand", "(I)Z"⟩, 33) := ⟨⟨by decide +kernel, by decide +kernel⟩, List.mem_of_getElem? (i := 578) (by decide +kernel), List.mem_of_getElem? (i := 802) (by decide +kernel), List.mem_of_getElem? (i := 803) (by decide +kernel)⟩
theorem lw_p29 : lw_okq (⟨"FacetFiguresModel", "isNew", "(I)Z"⟩, 33) := ⟨⟨by decide +kernel, by decide +kernel⟩, List.mem_of_getElem? (i := 578) (by decide +kernel), List.mem_of_getElem? (i := 806) (by decide +kernel), List.mem_of_getElem? (i := 807) (by decide +kernel)⟩
theorem lw_p30 : lw_okq (⟨"FacetFiguresModel", "measure", "(II)V"⟩, 33) := ⟨⟨by decide +kernel, by decide +kernel⟩, List.mem_of_getElem? (i := 578) (by decide +kernel), List.mem_of_getElem? (i := 810) (by decide +kernel), List.mem_of_getElem? (i := 811) (by decide +kernel)⟩
theorem lw_p31 : lw_okq (⟨"FacetFiguresModel", "isIn", "(III)Z"⟩, 33) := ⟨⟨by decide +kernel, by decide +kernel⟩, List.mem_of_getElem? (i := 578) (by decide +kernel), List.mem_of_getElem? (i := 814) (by decide +kernel), List.mem_of_getElem? (i := 815) (by decide +kernel)⟩
def lw_privs_2 : List (MethodName × Nat) := [(⟨"FacetFigures$ValueRow", "different", "()I"⟩, 3), (⟨"FacetFiguresModel", "changes", "()V"⟩, 33), (⟨"FacetFiguresModel", "isObject", "(I)Z"⟩, 33), (⟨"FacetFiguresModel", "isFacet", "(I)Z"⟩, 33), (⟨"FacetFiguresModel", "findGroups", "(I)V"⟩, 33), (⟨"FacetFiguresModel", "findKeys", "(I)V"⟩, 33), (⟨"FacetFiguresModel", "findKeysOf", "(II)V"⟩, 33), (⟨"FacetFiguresModel", "giveKeys", "(II)V"⟩, 33), (⟨"FacetFiguresModel", "give", "(I)V"⟩, 33), (⟨"FacetFiguresModel", "givePaths", "(I)V"⟩, 33), (⟨"FacetFiguresModel", "giveDays", "(II)V"⟩, 33), (⟨"FacetFiguresModel", "counts", "(II)Z"⟩, 33), (⟨"FacetFiguresModel", "atHand", "(I)Z"⟩, 33), (⟨"FacetFiguresModel", "isNew", "(I)Z"⟩, 33), (⟨"FacetFiguresModel", "measure", "(II)V"⟩, 33), (⟨"FacetFiguresModel", "isIn", "(III)Z"⟩, 33)]
theorem lw_r2 : ∀ q ∈ lw_privs_2, lw_okq q := List.forall_mem_cons.mpr ⟨lw_p16, List.forall_mem_cons.mpr ⟨lw_p17, List.forall_mem_cons.mpr ⟨lw_p18, List.forall_mem_cons.mpr ⟨lw_p19, List.forall_mem_cons.mpr ⟨lw_p20, List.forall_mem_cons.mpr ⟨lw_p21, List.forall_mem_cons.mpr ⟨lw_p22, List.forall_mem_cons.mpr ⟨lw_p23, List.forall_mem_cons.mpr ⟨lw_p24, List.forall_mem_cons.mpr ⟨lw_p25, List.forall_mem_cons.mpr ⟨lw_p26, List.forall_mem_cons.mpr ⟨lw_p27, List.forall_mem_cons.mpr ⟨lw_p28, List.forall_mem_cons.mpr ⟨lw_p29, List.forall_mem_cons.mpr ⟨lw_p30, List.forall_mem_cons.mpr ⟨lw_p31, fun _ h => absurd h List.not_mem_nil⟩⟩⟩⟩⟩⟩⟩⟩⟩⟩⟩⟩⟩⟩⟩⟩
theorem lw_p32 : lw_okq (⟨"FacetFiguresModel", "hasKey", "(II)Z"⟩, 33) := ⟨⟨by decide +kernel, by decide +kernel⟩, List.mem_of_getElem? (i := 578) (by decide +kernel), List.mem_of_getElem? (i := 818) (by decide +kernel), List.mem_of_getElem? (i := 819) (by decide +kernel)⟩
theorem lw_p33 : lw_okq (⟨"FacetFiguresModel", "sumOf", "(II)J"⟩, 33) := ⟨⟨by decide +kernel, by decide +kernel⟩, List.mem_of_getElem? (i := 578) (by decide +kernel), List.mem_of_getElem? (i := 822) (by decide +kernel), List.mem_of_getElem? (i := 823) (by decide +kernel)⟩
theorem lw_p34 : lw_okq (⟨"FacetFiguresModel", "move", "(II)V"⟩, 33) := ⟨⟨by decide +kernel, by decide +kernel⟩, List.mem_of_getElem? (i := 578) (by decide +kernel), List.mem_of_getElem? (i := 826) (by decide +kernel), List.mem_of_getElem? (i := 827) (by decide +kernel)⟩
theorem lw_p35 : lw_okq (⟨"FacetFiguresModel", "isBefore", "(III)Z"⟩, 33) := ⟨⟨by decide +kernel, by decide +kernel⟩, List.mem_of_getElem? (i := 578) (by decide +kernel), List.mem_of_getElem? (i := 830) (by decide +kernel), List.mem_of_getElem? (i := 831) (by decide +kernel)⟩
theorem lw_p36 : lw_okq (⟨"FacetFiguresModel", "isGroup", "(II)Z"⟩, 33) := ⟨⟨by decide +kernel, by decide +kernel⟩, List.mem_of_getElem? (i := 578) (by decide +kernel), List.mem_of_getElem? (i := 838) (by decide +kernel), List.mem_of_getElem? (i := 839) (by decide +kernel)⟩
theorem lw_p37 : lw_okq (⟨"FacetFiguresModel", "findRow", "(III)Z"⟩, 33) := ⟨⟨by decide +kernel, by decide +kernel⟩, List.mem_of_getElem? (i := 578) (by decide +kernel), List.mem_of_getElem? (i := 867) (by decide +kernel), List.mem_of_getElem? (i := 868) (by decide +kernel)⟩
theorem lw_p38 : lw_okq (⟨"FacetFiguresModel", "lay", "(I)V"⟩, 33) := ⟨⟨by decide +kernel, by decide +kernel⟩, List.mem_of_getElem? (i := 578) (by decide +kernel), List.mem_of_getElem? (i := 871) (by decide +kernel), List.mem_of_getElem? (i := 872) (by decide +kernel)⟩
def lw_privs_3 : List (MethodName × Nat) := [(⟨"FacetFiguresModel", "hasKey", "(II)Z"⟩, 33), (⟨"FacetFiguresModel", "sumOf", "(II)J"⟩, 33), (⟨"FacetFiguresModel", "move", "(II)V"⟩, 33), (⟨"FacetFiguresModel", "isBefore", "(III)Z"⟩, 33), (⟨"FacetFiguresModel", "isGroup", "(II)Z"⟩, 33), (⟨"FacetFiguresModel", "findRow", "(III)Z"⟩, 33), (⟨"FacetFiguresModel", "lay", "(I)V"⟩, 33)]
theorem lw_r3 : ∀ q ∈ lw_privs_3, lw_okq q := List.forall_mem_cons.mpr ⟨lw_p32, List.forall_mem_cons.mpr ⟨lw_p33, List.forall_mem_cons.mpr ⟨lw_p34, List.forall_mem_cons.mpr ⟨lw_p35, List.forall_mem_cons.mpr ⟨lw_p36, List.forall_mem_cons.mpr ⟨lw_p37, List.forall_mem_cons.mpr ⟨lw_p38, fun _ h => absurd h List.not_mem_nil⟩⟩⟩⟩⟩⟩⟩
def lw_privs : List (MethodName × Nat) := lw_privs_1 ++ (lw_privs_2 ++ (lw_privs_3))
def lw_tbl : List Cond := k2_sels lw_privs ++ tables_1
theorem lw_privs_ok : ∀ q ∈ lw_privs, lw_okq q := by
  show ∀ q ∈ lw_privs_1 ++ (lw_privs_2 ++ (lw_privs_3)), lw_okq q
  exact List.forall_mem_append.mpr ⟨lw_r1, List.forall_mem_append.mpr ⟨lw_r2, lw_r3⟩⟩
-- ===== end of PART A; then your names; then what follows =====
end
section
/-! the words of all methods: one list; the mirrors' own small words; rows over one world of a whole side -/
def zbg : List Cond := lw_tbl.filter goodWord
theorem zin (i : Nat) {w : Cond} (h : lw_tbl[i]? = some w) (hg : goodWord w = true) : w ∈ zbg := List.mem_filter.mpr ⟨List.mem_of_getElem? h, hg⟩
theorem zbg_in : GoodIn zbg zbg := fun w h => ⟨h, good_of_word (List.mem_filter.mp h).2⟩
theorem zgood {w : Cond} (h : w ∈ zbg) : w ∈ zbg ∧ ((w.onTables && w.keeps) = true ∨ ∃ ty, w = .arrayClass ty) := zbg_in w h
theorem zgc {y : MethodName} {b : ByteArray} {n : Nat} {r : Option FieldType} (h : Cond.code y b n r ∈ zbg) : GoodIn zbg (Cond.code y b n r :: zbg) := fun w hw => (List.mem_cons.mp hw).elim (fun e => by rw [e]; exact zgood h) (zbg_in w)
-- updates
def zup {α : Type} (f : Nat → α) (k : Nat) (v : α) : Nat → α := fun j => cond (Nat.beq j k) v (f j)
theorem zup_if {α : Type} (f : Nat → α) (k : Nat) (v : α) (j : Nat) : zup f k v j = if j = k then v else f j := by
  unfold zup
  by_cases h : j = k
  · subst h; simp
  · have : Nat.beq j k = false := by rw [← Bool.not_eq_true, Nat.beq_eq]; exact h
    rw [this, if_neg h]; rfl
theorem zup_same {α : Type} (f : Nat → α) (k : Nat) (v : α) : zup f k v k = v := by rw [zup_if, if_pos rfl]
theorem zup_ne {α : Type} (f : Nat → α) {k j : Nat} (v : α) (h : j ≠ k) : zup f k v j = f j := by rw [zup_if, if_neg h]
abbrev zS : Type := (Nat → Int32) × (Nat → Nat → Int32) × (Nat → Nat → Int64)
def zsI (σ : zS) (j : Nat) (v : Int32) : zS := (zup σ.1 j v, σ.2)
def zsA (σ : zS) (j : Nat) (f : Nat → Int32) : zS := (σ.1, zup σ.2.1 j f, σ.2.2)
def zsL (σ : zS) (j : Nat) (f : Nat → Int64) : zS := (σ.1, σ.2.1, zup σ.2.2 j f)
-- reads and writes that may fall outside
def zrd {α : Type} (n : Nat) (f : Nat → α) (i : Int32) : Option α := if i < 0 ∨ n ≤ i.toNatClampNeg then none else some (f i.toNatClampNeg)
def zwA (n j : Nat) (σ : zS) (i x : Int32) : Option zS := if i < 0 ∨ n ≤ i.toNatClampNeg then none else some (zsA σ j (upd (σ.2.1 j) i.toNatClampNeg x))
def zwL (n j : Nat) (σ : zS) (i : Int32) (x : Int64) : Option zS := if i < 0 ∨ n ≤ i.toNatClampNeg then none else some (zsL σ j (vp_updL (σ.2.2 j) i.toNatClampNeg x))
def zcz (v : Int32) : Option Int32 := if v = 0 ∨ v = 1 then some v else none
def zdv (x y : Int32) : Option Int32 := if y = 0 then none else some (x / y)
def zrm (x y : Int32) : Option Int32 := if y = 0 then none else some (x - x / y * y)
theorem zrd_some {α : Type} {n : Nat} {f : Nat → α} {i : Int32} {v : α} (h : zrd n f i = some v) : vp_in i n ∧ f i.toNatClampNeg = v := by
  unfold zrd at h
  by_cases c : i < 0 ∨ n ≤ i.toNatClampNeg
  · rw [if_pos c] at h; cases h
  · rw [if_neg c] at h; exact ⟨c, Option.some.inj h⟩
theorem zwA_some {n j : Nat} {σ σ' : zS} {i x : Int32} (h : zwA n j σ i x = some σ') : vp_in i n ∧ zsA σ j (upd (σ.2.1 j) i.toNatClampNeg x) = σ' := by
  unfold zwA at h
  by_cases c : i < 0 ∨ n ≤ i.toNatClampNeg
  · rw [if_pos c] at h; cases h
  · rw [if_neg c] at h; exact ⟨c, Option.some.inj h⟩
theorem zwL_some {n j : Nat} {σ σ' : zS} {i : Int32} {x : Int64} (h : zwL n j σ i x = some σ') : vp_in i n ∧ zsL σ j (vp_updL (σ.2.2 j) i.toNatClampNeg x) = σ' := by
  unfold zwL at h
  by_cases c : i < 0 ∨ n ≤ i.toNatClampNeg
  · rw [if_pos c] at h; cases h
  · rw [if_neg c] at h; exact ⟨c, Option.some.inj h⟩
theorem zcz_some {v w : Int32} (h : zcz v = some w) : v = w ∧ narrow .boolean (.int v) = .int v ∧ vp_nar .boolean v = v := by
  unfold zcz at h
  by_cases c : v = 0 ∨ v = 1
  · rw [if_pos c] at h
    refine ⟨Option.some.inj h, ?_⟩
    rcases c with rfl | rfl <;> exact ⟨by decide, by decide⟩
  · rw [if_neg c] at h; cases h
theorem zdv_some {x y v : Int32} (h : zdv x y = some v) : ¬ y = 0 ∧ x / y = v := by
  unfold zdv at h
  by_cases c : y = 0
  · rw [if_pos c] at h; cases h
  · rw [if_neg c] at h; exact ⟨c, Option.some.inj h⟩
theorem zrm_some {x y v : Int32} (h : zrm x y = some v) : ¬ y = 0 ∧ x - x / y * y = v := by
  unfold zrm at h
  by_cases c : y = 0
  · rw [if_pos c] at h; cases h
  · rw [if_neg c] at h; exact ⟨c, Option.some.inj h⟩
-- loops
def ziter {S R : Type} (f : S → Option (S ⊕ R)) : Nat → S → Option R
  | 0, _ => none
  | n + 1, s => (f s).bind (fun r => Sum.elim (fun s' => ziter f n s') (fun x => some x) r)
theorem ziter_W {S R : Type} {f : S → Option (S ⊕ R)} {Hd : S → Prop} {Ex : R → Prop} (hb : ∀ s res, f s = some res → Sum.elim Hd Ex res → Hd s) : ∀ (n : Nat) (s : S) (r : R), ziter f n s = some r → Ex r → Hd s := by
  intro n
  induction n with
  | zero => intro s r h; cases h
  | succ n ih =>
    intro s r h hx
    obtain ⟨res, h1, h2⟩ := Option.bind_eq_some_iff.mp h
    refine hb s res h1 ?_
    cases res with
    | inl s' => exact ih s' r h2 hx
    | inr r' => cases h2; exact hx
-- the static table of the class, the same in every contract
def zms : Nat → Value := fun j => .int (([0, 31, 59, 90, 120, 151, 181, 212, 243, 273, 304, 334] : List Int32).getD j 0)
def zZ (t : Nat) (A : Nat → Prop) (U : State) (H : Heap) : Prop := va_Z "FacetFigures$Days" "MONTH_STARTS" "[I" (.ref t) A U H ∧ va_T .int t 12 zms A U H
theorem zZ.moved {t : Nat} {A : Nat → Prop} {u U : State} {H : Heap} (hvm : u.vm.Alike U.vm) (h : zZ t A u H) : zZ t A U H := ⟨va_Z.moved hvm h.1, va_T.moved hvm h.2⟩
theorem zZ.kept {t : Nat} {A : Nat → Prop} {U : State} {H H1 : Heap} (h : zZ t A U H) (hq : ∀ a : Nat, a < H.size → ¬ A a → H1[a]? = H[a]?) : zZ t A U H1 := ⟨va_Z.kept h.1 hq, va_T.kept h.2 hq⟩
-- contracts: no cell is made, the world of the side from σ to σ'
def zW (D : va_G) (cl : List vw_C) (tys : List (ClassId × FieldType)) (t : Nat) (A : Nat → Prop) {S : Type} (wd : S → va_W) (σ : S) (U : State) : Prop := va_P D cl (wd σ) U.heap ∧ va_K D cl tys U ∧ va_D A (wd σ) ∧ zZ t A U U.heap
def zCi (l : Launch) (y : MethodName) (b : ByteArray) (n : Nat) (ret : Option FieldType) (rm : Room) (D : va_G) (cl : List vw_C) (tys : List (ClassId × FieldType)) (t : Nat) (A : Nat → Prop) {S : Type} (wd : S → va_W) (av : List Value) (σ σ' : S) (r : Int32) : Prop :=
  Met l y (Cond.code y b n ret :: zbg) rm (va_Pc av (zW D cl tys t A wd σ)) (va_Qi (fun r2 (u : S) => r2 = r ∧ u = σ') (fun u t' => zW D cl tys t A wd u t') A) 0 0 A
def zCl (l : Launch) (y : MethodName) (b : ByteArray) (n : Nat) (ret : Option FieldType) (rm : Room) (D : va_G) (cl : List vw_C) (tys : List (ClassId × FieldType)) (t : Nat) (A : Nat → Prop) {S : Type} (wd : S → va_W) (av : List Value) (σ σ' : S) (r : Int64) : Prop :=
  Met l y (Cond.code y b n ret :: zbg) rm (va_Pc av (zW D cl tys t A wd σ)) (va_Ql (fun r2 (u : S) => r2 = r ∧ u = σ') (fun u t' => zW D cl tys t A wd u t') A) 0 0 A
def zCv (l : Launch) (y : MethodName) (b : ByteArray) (n : Nat) (ret : Option FieldType) (rm : Room) (D : va_G) (cl : List vw_C) (tys : List (ClassId × FieldType)) (t : Nat) (A : Nat → Prop) {S : Type} (wd : S → va_W) (av : List Value) (σ σ' : S) : Prop :=
  Met l y (Cond.code y b n ret :: zbg) rm (va_Pc av (zW D cl tys t A wd σ)) (va_Qv (fun (u : S) => u = σ') (fun u t' => zW D cl tys t A wd u t') A) 0 0 A
def zCq (l : Launch) (y : MethodName) (b : ByteArray) (n : Nat) (ret : Option FieldType) (rm : Room) (D : va_G) (cl : List vw_C) (tys : List (ClassId × FieldType)) (t : Nat) (A : Nat → Prop) {S : Type} (wd : S → va_W) (av : List Value) (σ σ' : S) (r : Option Nat) : Prop :=
  Met l y (Cond.code y b n ret :: zbg) rm (va_Pc av (zW D cl tys t A wd σ)) (va_Qq (fun r2 (u : S) => r2 = r ∧ u = σ') (fun u t' => zW D cl tys t A wd u t') A) 0 0 A
theorem zblind {D : va_G} {cl : List vw_C} {tys : List (ClassId × FieldType)} {t : Nat} {A : Nat → Prop} {S : Type} {wd : S → va_W} {σ : S} {av : List Value} : FrameBlind (va_Pc av (zW D cl tys t A wd σ)) := fun a U g mk q => by
  obtain ⟨q0, qP, qK, qD, qZ⟩ := q
  exact ⟨q0, qP, va_K.moved (u := U) (U := U.calling g mk a) (Vm.Alike.refl U.vm) qK, qD, zZ.moved (u := U) (U := U.calling g mk a) (Vm.Alike.refl U.vm) qZ⟩
-- what the tables say of a method that is called
def zkV (C : String) (y : MethodName) (b : ByteArray) (n : Nat) (ret : Option FieldType) (k : Nat) : Prop := Cond.instanceMethod y ∈ zbg ∧ Cond.selects C y y ∈ zbg ∧ Cond.initialized C ∈ zbg ∧ Cond.code y b n ret ∈ zbg ∧ y.cls = C ∧ y.cls ≠ "java/lang/invoke/MethodHandle" ∧ y.cls ≠ "java/lang/invoke/VarHandle" ∧ (parseMethodDescriptor y.desc).map (fun d => d.parameters.length) = some k
def zkS (y : MethodName) (b : ByteArray) (n : Nat) (ret : Option FieldType) (k : Nat) : Prop := Cond.static y ∈ zbg ∧ Cond.initialized y.cls ∈ zbg ∧ Cond.code y b n ret ∈ zbg ∧ y.cls ≠ "java/lang/invoke/MethodHandle" ∧ y.cls ≠ "java/lang/invoke/VarHandle" ∧ (parseMethodDescriptor y.desc).map (fun d => d.parameters.length) = some k
section ZR
variable {p : Program} {l : Launch} {e : Env} {R : Room} {s : State} {m : MethodId} {args : Array Value} {below : List Frame} {meth : Method} {c : Code} {H : Heap} {locs : List Loc} {cells slots : Nat} {Q : State → Prop}
variable {cc : ByteArray} {pc : Nat} {ls : Array Slot} {rest st : List Value} {A : Nat → Prop} {H0 : Heap} {D : va_G} {cl : List vw_C} {tys : List (ClassId × FieldType)} {ws : va_W} {a t : Nat}
theorem zcwV {own C : String} {index n k : Nat} {y : MethodName} {b : ByteArray} {ret : Option FieldType} {rm : Room} (hT : ∀ w ∈ zbg, w.before args s = true) (hk : zkV C y b n ret k) (hl : Cond.methodLink own index y ∈ zbg) (hR : rm.frames + 1 ≤ R.frames ∧ 8 + (n + 11) + rm.locals ≤ R.locals) (h0 : rm.cells = 0) (h1 : rm.slots = 0) : CallW R s args own C index y b n ret (Cond.code y b n ret :: zbg) rm 0 0 k := by
  obtain ⟨a1, a2, a3, a4, a5, a6, a7, a8⟩ := hk
  refine ⟨callB_of k hT (zgc a4) rfl h0 h1 (hT _ (by rw [a5]; exact a3)) (hT _ hl) ⟨a6, a7, a8⟩ hR, hT _ a1, hT _ a2⟩
theorem zcwS {own : String} {index n k : Nat} {y : MethodName} {b : ByteArray} {ret : Option FieldType} {rm : Room} (hT : ∀ w ∈ zbg, w.before args s = true) (hk : zkS y b n ret k) (hl : Cond.methodLink own index y ∈ zbg) (hR : rm.frames + 1 ≤ R.frames ∧ 8 + (n + 11) + rm.locals ≤ R.locals) (h0 : rm.cells = 0) (h1 : rm.slots = 0) : CallB R s args own index y b n ret (Cond.code y b n ret :: zbg) rm 0 0 k ∧ (Cond.static y).before args s = true := by
  obtain ⟨a1, a2, a3, a4, a5, a6⟩ := hk
  exact ⟨callB_of k hT (zgc a3) rfl h0 h1 (hT _ a2) (hT _ hl) ⟨a4, a5, a6⟩ hR, hT _ a1⟩
end ZR
end
section
section ZC
variable {p : Program} {l : Launch} {e : Env} {R : Room} {s : State} {m : MethodId} {args : Array Value} {below : List Frame} {meth : Method} {c : Code} {H : Heap} {locs : List Loc} {cells slots : Nat} {Q : State → Prop}
variable {cc : ByteArray} {pc : Nat} {ls : Array Slot} {rest st : List Value} {A : Nat → Prop} {H0 : Heap} {D : va_G} {cl : List vw_C} {tys : List (ClassId × FieldType)} {a t : Nat}
theorem zZ_at {H : Heap} {U : State} (hZ : zZ t A s s.heap) (hS : va_S A s.heap H locs) (hU : U.heap = H) (hvm : s.vm.Alike U.vm) : zZ t A U U.heap := by
  rw [hU]; exact (hZ.kept (fun a h1 h2 => hS.2.1 a h1 h2)).moved hvm
theorem zVi {own C : String} {index n k nL : Nat} {y : MethodName} {b : ByteArray} {ret : Option FieldType} {rm : Room} {S : Type} {wd : S → va_W} {σ σ' : S} {r : Int32} (As : List Value) (hx : p.tables.exec = Jvm.exec) (hb : c.code = cc) (hml : c.maxLocals = nL) (hls : ls.size = nL) (hown : s.vm.findClass own = some m.cls) (hT : ∀ w ∈ zbg, w.before args s = true)
    (hM : zCi l y b n ret rm D cl tys t A wd (.ref a :: As) σ σ' r) (hk : zkV C y b n ret k) (hl : Cond.methodLink own index y ∈ zbg) (hR : rm.frames + 1 ≤ R.frames ∧ 8 + (n + 11) + rm.locals ≤ R.locals) (h0 : rm.cells = 0) (h1 : rm.slots = 0)
    (hK : va_K D cl tys s) (hZ : zZ t A s s.heap) (hP : va_P D cl (wd σ) H) (hD : va_D A (wd σ)) (hS : va_S A s.heap H locs) (q0 : Nat) {ci N : Nat} {T : u_T} {fs : List Value} (he : (wd σ)[q0]? = some (a, .inr (ci, fs))) (hc : cl[ci]? = some (C, T, N)) (hn : As.length = k) (hst : st = As.reverse ++ .ref a :: rest) (hr : (rest.map fun v => v.category).sum ≤ 8) (hcs : cells ≤ R.cells ∧ slots ≤ R.slots) (hdg : decode cc pc = .ok (.invokevirtual index, 3))
    (kk : ∀ (H1 : Heap) (locs1 : List Loc), va_P D cl (wd σ') H1 → va_D A (wd σ') → va_S A s.heap H1 locs1 → W p l e R s m args below meth c H1 locs1 cells slots Q (F0 m (pc + 3) ls (.int r :: rest))) : W p l e R s m args below meth c H locs cells slots Q (F0 m pc ls st) := by
  subst hst
  refine va_calli (va_runV (As := As) (rest := rest) ⟨hx, hb, hml, hown, hT⟩ hM (zcwV hT hk hl hR h0 h1) ⟨zblind, va_recv hK hP hc he, fun U hU hW => ⟨rfl, by rw [hU]; exact hP, va_K.moved hW.alike hK, hD, zZ_at hZ hS hU hW.alike⟩⟩ rfl hn hls rfl (lv_room hr) hdg hcs) hS (fun q _ h => h) (fun q h => h) (fun r2 u t' H1 locs1 ht hvm hpost hB hz hk1 hS1 => ?_)
  obtain ⟨rfl, rfl⟩ := hpost
  obtain ⟨hP1, hK1, hD1, hZ1⟩ := hB
  rw [ht] at hP1
  exact kk H1 locs1 hP1 hD1 hS1
theorem zSi {own : String} {index n k nL : Nat} {y : MethodName} {b : ByteArray} {ret : Option FieldType} {rm : Room} {S : Type} {wd : S → va_W} {σ σ' : S} {r : Int32} (As : List Value) (hx : p.tables.exec = Jvm.exec) (hb : c.code = cc) (hml : c.maxLocals = nL) (hls : ls.size = nL) (hown : s.vm.findClass own = some m.cls) (hT : ∀ w ∈ zbg, w.before args s = true)
    (hM : zCi l y b n ret rm D cl tys t A wd As σ σ' r) (hk : zkS y b n ret k) (hl : Cond.methodLink own index y ∈ zbg) (hR : rm.frames + 1 ≤ R.frames ∧ 8 + (n + 11) + rm.locals ≤ R.locals) (h0 : rm.cells = 0) (h1 : rm.slots = 0)
    (hK : va_K D cl tys s) (hZ : zZ t A s s.heap) (hP : va_P D cl (wd σ) H) (hD : va_D A (wd σ)) (hS : va_S A s.heap H locs) (hn : As.length = k) (hst : st = As.reverse ++ rest) (hr : (rest.map fun v => v.category).sum ≤ 8) (hcs : cells ≤ R.cells ∧ slots ≤ R.slots) (hdg : decode cc pc = .ok (.invokestatic index, 3))
    (kk : ∀ (H1 : Heap) (locs1 : List Loc), va_P D cl (wd σ') H1 → va_D A (wd σ') → va_S A s.heap H1 locs1 → W p l e R s m args below meth c H1 locs1 cells slots Q (F0 m (pc + 3) ls (.int r :: rest))) : W p l e R s m args below meth c H locs cells slots Q (F0 m pc ls st) := by
  subst hst
  refine va_calli (va_runS (As := As) (rest := rest) ⟨hx, hb, hml, hown, hT⟩ hM (zcwS hT hk hl hR h0 h1) ⟨zblind, fun U hU hW => ⟨rfl, by rw [hU]; exact hP, va_K.moved hW.alike hK, hD, zZ_at hZ hS hU hW.alike⟩⟩ rfl hn hls rfl (lv_room hr) hdg hcs) hS (fun q _ h => h) (fun q h => h) (fun r2 u t' H1 locs1 ht hvm hpost hB hz hk1 hS1 => ?_)
  obtain ⟨rfl, rfl⟩ := hpost
  obtain ⟨hP1, hK1, hD1, hZ1⟩ := hB
  rw [ht] at hP1
  exact kk H1 locs1 hP1 hD1 hS1
theorem zVl {own C : String} {index n k nL : Nat} {y : MethodName} {b : ByteArray} {ret : Option FieldType} {rm : Room} {S : Type} {wd : S → va_W} {σ σ' : S} {r : Int64} (As : List Value) (hx : p.tables.exec = Jvm.exec) (hb : c.code = cc) (hml : c.maxLocals = nL) (hls : ls.size = nL) (hown : s.vm.findClass own = some m.cls) (hT : ∀ w ∈ zbg, w.before args s = true)
    (hM : zCl l y b n ret rm D cl tys t A wd (.ref a :: As) σ σ' r) (hk : zkV C y b n ret k) (hl : Cond.methodLink own index y ∈ zbg) (hR : rm.frames + 1 ≤ R.frames ∧ 8 + (n + 11) + rm.locals ≤ R.locals) (h0 : rm.cells = 0) (h1 : rm.slots = 0)
    (hK : va_K D cl tys s) (hZ : zZ t A s s.heap) (hP : va_P D cl (wd σ) H) (hD : va_D A (wd σ)) (hS : va_S A s.heap H locs) (q0 : Nat) {ci N : Nat} {T : u_T} {fs : List Value} (he : (wd σ)[q0]? = some (a, .inr (ci, fs))) (hc : cl[ci]? = some (C, T, N)) (hn : As.length = k) (hst : st = As.reverse ++ .ref a :: rest) (hr : (rest.map fun v => v.category).sum ≤ 8) (hcs : cells ≤ R.cells ∧ slots ≤ R.slots) (hdg : decode cc pc = .ok (.invokevirtual index, 3))
    (kk : ∀ (H1 : Heap) (locs1 : List Loc), va_P D cl (wd σ') H1 → va_D A (wd σ') → va_S A s.heap H1 locs1 → W p l e R s m args below meth c H1 locs1 cells slots Q (F0 m (pc + 3) ls (.long r :: rest))) : W p l e R s m args below meth c H locs cells slots Q (F0 m pc ls st) := by
  subst hst
  refine va_calll (va_runV (As := As) (rest := rest) ⟨hx, hb, hml, hown, hT⟩ hM (zcwV hT hk hl hR h0 h1) ⟨zblind, va_recv hK hP hc he, fun U hU hW => ⟨rfl, by rw [hU]; exact hP, va_K.moved hW.alike hK, hD, zZ_at hZ hS hU hW.alike⟩⟩ rfl hn hls rfl (lv_room hr) hdg hcs) hS (fun q _ h => h) (fun q h => h) (fun r2 u t' H1 locs1 ht hvm hpost hB hz hk1 hS1 => ?_)
  obtain ⟨rfl, rfl⟩ := hpost
  obtain ⟨hP1, hK1, hD1, hZ1⟩ := hB
  rw [ht] at hP1
  exact kk H1 locs1 hP1 hD1 hS1
theorem zSl {own : String} {index n k nL : Nat} {y : MethodName} {b : ByteArray} {ret : Option FieldType} {rm : Room} {S : Type} {wd : S → va_W} {σ σ' : S} {r : Int64} (As : List Value) (hx : p.tables.exec = Jvm.exec) (hb : c.code = cc) (hml : c.maxLocals = nL) (hls : ls.size = nL) (hown : s.vm.findClass own = some m.cls) (hT : ∀ w ∈ zbg, w.before args s = true)
    (hM : zCl l y b n ret rm D cl tys t A wd As σ σ' r) (hk : zkS y b n ret k) (hl : Cond.methodLink own index y ∈ zbg) (hR : rm.frames + 1 ≤ R.frames ∧ 8 + (n + 11) + rm.locals ≤ R.locals) (h0 : rm.cells = 0) (h1 : rm.slots = 0)
    (hK : va_K D cl tys s) (hZ : zZ t A s s.heap) (hP : va_P D cl (wd σ) H) (hD : va_D A (wd σ)) (hS : va_S A s.heap H locs) (hn : As.length = k) (hst : st = As.reverse ++ rest) (hr : (rest.map fun v => v.category).sum ≤ 8) (hcs : cells ≤ R.cells ∧ slots ≤ R.slots) (hdg : decode cc pc = .ok (.invokestatic index, 3))
    (kk : ∀ (H1 : Heap) (locs1 : List Loc), va_P D cl (wd σ') H1 → va_D A (wd σ') → va_S A s.heap H1 locs1 → W p l e R s m args below meth c H1 locs1 cells slots Q (F0 m (pc + 3) ls (.long r :: rest))) : W p l e R s m args below meth c H locs cells slots Q (F0 m pc ls st) := by
  subst hst
  refine va_calll (va_runS (As := As) (rest := rest) ⟨hx, hb, hml, hown, hT⟩ hM (zcwS hT hk hl hR h0 h1) ⟨zblind, fun U hU hW => ⟨rfl, by rw [hU]; exact hP, va_K.moved hW.alike hK, hD, zZ_at hZ hS hU hW.alike⟩⟩ rfl hn hls rfl (lv_room hr) hdg hcs) hS (fun q _ h => h) (fun q h => h) (fun r2 u t' H1 locs1 ht hvm hpost hB hz hk1 hS1 => ?_)
  obtain ⟨rfl, rfl⟩ := hpost
  obtain ⟨hP1, hK1, hD1, hZ1⟩ := hB
  rw [ht] at hP1
  exact kk H1 locs1 hP1 hD1 hS1
theorem zVv {own C : String} {index n k nL : Nat} {y : MethodName} {b : ByteArray} {ret : Option FieldType} {rm : Room} {S : Type} {wd : S → va_W} {σ σ' : S} (As : List Value) (hx : p.tables.exec = Jvm.exec) (hb : c.code = cc) (hml : c.maxLocals = nL) (hls : ls.size = nL) (hown : s.vm.findClass own = some m.cls) (hT : ∀ w ∈ zbg, w.before args s = true)
    (hM : zCv l y b n ret rm D cl tys t A wd (.ref a :: As) σ σ') (hk : zkV C y b n ret k) (hl : Cond.methodLink own index y ∈ zbg) (hR : rm.frames + 1 ≤ R.frames ∧ 8 + (n + 11) + rm.locals ≤ R.locals) (h0 : rm.cells = 0) (h1 : rm.slots = 0)
    (hK : va_K D cl tys s) (hZ : zZ t A s s.heap) (hP : va_P D cl (wd σ) H) (hD : va_D A (wd σ)) (hS : va_S A s.heap H locs) (q0 : Nat) {ci N : Nat} {T : u_T} {fs : List Value} (he : (wd σ)[q0]? = some (a, .inr (ci, fs))) (hc : cl[ci]? = some (C, T, N)) (hn : As.length = k) (hst : st = As.reverse ++ .ref a :: rest) (hr : (rest.map fun v => v.category).sum ≤ 8) (hcs : cells ≤ R.cells ∧ slots ≤ R.slots) (hdg : decode cc pc = .ok (.invokevirtual index, 3))
    (kk : ∀ (H1 : Heap) (locs1 : List Loc), va_P D cl (wd σ') H1 → va_D A (wd σ') → va_S A s.heap H1 locs1 → W p l e R s m args below meth c H1 locs1 cells slots Q (F0 m (pc + 3) ls (rest))) : W p l e R s m args below meth c H locs cells slots Q (F0 m pc ls st) := by
  subst hst
  refine va_callv (va_runV (As := As) (rest := rest) ⟨hx, hb, hml, hown, hT⟩ hM (zcwV hT hk hl hR h0 h1) ⟨zblind, va_recv hK hP hc he, fun U hU hW => ⟨rfl, by rw [hU]; exact hP, va_K.moved hW.alike hK, hD, zZ_at hZ hS hU hW.alike⟩⟩ rfl hn hls rfl (lv_room hr) hdg hcs) hS (fun q _ h => h) (fun q h => h) (fun u t' H1 locs1 ht hvm hpost hB hz hk1 hS1 => ?_)
  subst hpost
  obtain ⟨hP1, hK1, hD1, hZ1⟩ := hB
  rw [ht] at hP1
  exact kk H1 locs1 hP1 hD1 hS1
theorem zSv {own : String} {index n k nL : Nat} {y : MethodName} {b : ByteArray} {ret : Option FieldType} {rm : Room} {S : Type} {wd : S → va_W} {σ σ' : S} (As : List Value) (hx : p.tables.exec = Jvm.exec) (hb : c.code = cc) (hml : c.maxLocals = nL) (hls : ls.size = nL) (hown : s.vm.findClass own = some m.cls) (hT : ∀ w ∈ zbg, w.before args s = true)
    (hM : zCv l y b n ret rm D cl tys t A wd As σ σ') (hk : zkS y b n ret k) (hl : Cond.methodLink own index y ∈ zbg) (hR : rm.frames + 1 ≤ R.frames ∧ 8 + (n + 11) + rm.locals ≤ R.locals) (h0 : rm.cells = 0) (h1 : rm.slots = 0)
    (hK : va_K D cl tys s) (hZ : zZ t A s s.heap) (hP : va_P D cl (wd σ) H) (hD : va_D A (wd σ)) (hS : va_S A s.heap H locs) (hn : As.length = k) (hst : st = As.reverse ++ rest) (hr : (rest.map fun v => v.category).sum ≤ 8) (hcs : cells ≤ R.cells ∧ slots ≤ R.slots) (hdg : decode cc pc = .ok (.invokestatic index, 3))
    (kk : ∀ (H1 : Heap) (locs1 : List Loc), va_P D cl (wd σ') H1 → va_D A (wd σ') → va_S A s.heap H1 locs1 → W p l e R s m args below meth c H1 locs1 cells slots Q (F0 m (pc + 3) ls (rest))) : W p l e R s m args below meth c H locs cells slots Q (F0 m pc ls st) := by
  subst hst
  refine va_callv (va_runS (As := As) (rest := rest) ⟨hx, hb, hml, hown, hT⟩ hM (zcwS hT hk hl hR h0 h1) ⟨zblind, fun U hU hW => ⟨rfl, by rw [hU]; exact hP, va_K.moved hW.alike hK, hD, zZ_at hZ hS hU hW.alike⟩⟩ rfl hn hls rfl (lv_room hr) hdg hcs) hS (fun q _ h => h) (fun q h => h) (fun u t' H1 locs1 ht hvm hpost hB hz hk1 hS1 => ?_)
  subst hpost
  obtain ⟨hP1, hK1, hD1, hZ1⟩ := hB
  rw [ht] at hP1
  exact kk H1 locs1 hP1 hD1 hS1
theorem zVq {own C : String} {index n k nL : Nat} {y : MethodName} {b : ByteArray} {ret : Option FieldType} {rm : Room} {S : Type} {wd : S → va_W} {σ σ' : S} {r : Option Nat} (As : List Value) (hx : p.tables.exec = Jvm.exec) (hb : c.code = cc) (hml : c.maxLocals = nL) (hls : ls.size = nL) (hown : s.vm.findClass own = some m.cls) (hT : ∀ w ∈ zbg, w.before args s = true)
    (hM : zCq l y b n ret rm D cl tys t A wd (.ref a :: As) σ σ' r) (hk : zkV C y b n ret k) (hl : Cond.methodLink own index y ∈ zbg) (hR : rm.frames + 1 ≤ R.frames ∧ 8 + (n + 11) + rm.locals ≤ R.locals) (h0 : rm.cells = 0) (h1 : rm.slots = 0)
    (hK : va_K D cl tys s) (hZ : zZ t A s s.heap) (hP : va_P D cl (wd σ) H) (hD : va_D A (wd σ)) (hS : va_S A s.heap H locs) (q0 : Nat) {ci N : Nat} {T : u_T} {fs : List Value} (he : (wd σ)[q0]? = some (a, .inr (ci, fs))) (hc : cl[ci]? = some (C, T, N)) (hn : As.length = k) (hst : st = As.reverse ++ .ref a :: rest) (hr : (rest.map fun v => v.category).sum ≤ 8) (hcs : cells ≤ R.cells ∧ slots ≤ R.slots) (hdg : decode cc pc = .ok (.invokevirtual index, 3))
    (kk : ∀ (H1 : Heap) (locs1 : List Loc), va_P D cl (wd σ') H1 → va_D A (wd σ') → va_S A s.heap H1 locs1 → W p l e R s m args below meth c H1 locs1 cells slots Q (F0 m (pc + 3) ls (va_rf r :: rest))) : W p l e R s m args below meth c H locs cells slots Q (F0 m pc ls st) := by
  subst hst
  refine va_callq (va_runV (As := As) (rest := rest) ⟨hx, hb, hml, hown, hT⟩ hM (zcwV hT hk hl hR h0 h1) ⟨zblind, va_recv hK hP hc he, fun U hU hW => ⟨rfl, by rw [hU]; exact hP, va_K.moved hW.alike hK, hD, zZ_at hZ hS hU hW.alike⟩⟩ rfl hn hls rfl (lv_room hr) hdg hcs) hS (fun q _ h => h) (fun q h => h) (fun r2 u t' H1 locs1 ht hvm hpost hB hz hk1 hS1 => ?_)
  obtain ⟨rfl, rfl⟩ := hpost
  obtain ⟨hP1, hK1, hD1, hZ1⟩ := hB
  rw [ht] at hP1
  exact kk H1 locs1 hP1 hD1 hS1
theorem zSq {own : String} {index n k nL : Nat} {y : MethodName} {b : ByteArray} {ret : Option FieldType} {rm : Room} {S : Type} {wd : S → va_W} {σ σ' : S} {r : Option Nat} (As : List Value) (hx : p.tables.exec = Jvm.exec) (hb : c.code = cc) (hml : c.maxLocals = nL) (hls : ls.size = nL) (hown : s.vm.findClass own = some m.cls) (hT : ∀ w ∈ zbg, w.before args s = true)
    (hM : zCq l y b n ret rm D cl tys t A wd As σ σ' r) (hk : zkS y b n ret k) (hl : Cond.methodLink own index y ∈ zbg) (hR : rm.frames + 1 ≤ R.frames ∧ 8 + (n + 11) + rm.locals ≤ R.locals) (h0 : rm.cells = 0) (h1 : rm.slots = 0)
    (hK : va_K D cl tys s) (hZ : zZ t A s s.heap) (hP : va_P D cl (wd σ) H) (hD : va_D A (wd σ)) (hS : va_S A s.heap H locs) (hn : As.length = k) (hst : st = As.reverse ++ rest) (hr : (rest.map fun v => v.category).sum ≤ 8) (hcs : cells ≤ R.cells ∧ slots ≤ R.slots) (hdg : decode cc pc = .ok (.invokestatic index, 3))
    (kk : ∀ (H1 : Heap) (locs1 : List Loc), va_P D cl (wd σ') H1 → va_D A (wd σ') → va_S A s.heap H1 locs1 → W p l e R s m args below meth c H1 locs1 cells slots Q (F0 m (pc + 3) ls (va_rf r :: rest))) : W p l e R s m args below meth c H locs cells slots Q (F0 m pc ls st) := by
  subst hst
  refine va_callq (va_runS (As := As) (rest := rest) ⟨hx, hb, hml, hown, hT⟩ hM (zcwS hT hk hl hR h0 h1) ⟨zblind, fun U hU hW => ⟨rfl, by rw [hU]; exact hP, va_K.moved hW.alike hK, hD, zZ_at hZ hS hU hW.alike⟩⟩ rfl hn hls rfl (lv_room hr) hdg hcs) hS (fun q _ h => h) (fun q h => h) (fun r2 u t' H1 locs1 ht hvm hpost hB hz hk1 hS1 => ?_)
  obtain ⟨rfl, rfl⟩ := hpost
  obtain ⟨hP1, hK1, hD1, hZ1⟩ := hB
  rw [ht] at hP1
  exact kk H1 locs1 hP1 hD1 hS1
theorem ziald {ws : va_W} (hx : p.tables.exec = Jvm.exec) (hb : c.code = cc) (hK : va_K D cl tys s) (hP : va_P D cl ws H) (q0 t0 : Nat) {cA : ClassId} {n : Nat} {f : Nat → Int32} (ha : ws[q0]? = some (a, .inl (cA, n, .inl f))) (ht : tys[t0]? = some (cA, .int)) {i : Int32} {v : Int32} (hv : zrd n f i = some v) (hdg : decode cc pc = .ok (.iaload, 1))
    (kk : W p l e R s m args below meth c H locs cells slots Q (F0 m (pc + 1) ls (.int v :: rest))) : W p l e R s m args below meth c H locs cells slots Q (F0 m pc ls (.int i :: .ref a :: rest)) := by
  obtain ⟨h1, h2⟩ := zrd_some hv
  subst h2
  exact va_iald hx hb hK hP q0 t0 ha ht h1 hdg kk
theorem zzald {ws : va_W} (hx : p.tables.exec = Jvm.exec) (hb : c.code = cc) (hK : va_K D cl tys s) (hP : va_P D cl ws H) (q0 t0 : Nat) {cA : ClassId} {n : Nat} {f : Nat → Int32} (ha : ws[q0]? = some (a, .inl (cA, n, .inl f))) (ht : tys[t0]? = some (cA, .boolean)) {i : Int32} {v : Int32} (hv : zrd n f i = some v) (hdg : decode cc pc = .ok (.baload, 1))
    (kk : W p l e R s m args below meth c H locs cells slots Q (F0 m (pc + 1) ls (.int v :: rest))) : W p l e R s m args below meth c H locs cells slots Q (F0 m pc ls (.int i :: .ref a :: rest)) := by
  obtain ⟨h1, h2⟩ := zrd_some hv
  subst h2
  exact va_zald hx hb hK hP q0 t0 ha ht h1 hdg kk
theorem zlald {ws : va_W} (hx : p.tables.exec = Jvm.exec) (hb : c.code = cc) (hK : va_K D cl tys s) (hP : va_P D cl ws H) (q0 t0 : Nat) {cA : ClassId} {n : Nat} {f : Nat → Int64} (ha : ws[q0]? = some (a, .inl (cA, n, .inr (.inl f)))) (ht : tys[t0]? = some (cA, .long)) {i : Int32} {v : Int64} (hv : zrd n f i = some v) (hdg : decode cc pc = .ok (.laload, 1))
    (kk : W p l e R s m args below meth c H locs cells slots Q (F0 m (pc + 1) ls (.long v :: rest))) : W p l e R s m args below meth c H locs cells slots Q (F0 m pc ls (.int i :: .ref a :: rest)) := by
  obtain ⟨h1, h2⟩ := zrd_some hv
  subst h2
  exact va_lald hx hb hK hP q0 t0 ha ht h1 hdg kk
theorem ziast {wd : zS → va_W} {σ σ' : zS} {j : Nat} (hx : p.tables.exec = Jvm.exec) (hb : c.code = cc) (hK : va_K D cl tys s) (hP : va_P D cl (wd σ) H) (hD : va_D A (wd σ)) (hS : va_S A H0 H locs) (q0 t0 : Nat) {cA : ClassId} {n : Nat} (ha : (wd σ)[q0]? = some (a, .inl (cA, n, .inl (σ.2.1 j)))) (ht : tys[t0]? = some (cA, .int)) {i : Int32} {x : Int32} (hv : zwA n j σ i x = some σ') (hset : ∀ f : Nat → Int32, (wd σ).set q0 (a, .inl (cA, n, .inl f)) = wd (zsA σ j f)) (hdg : decode cc pc = .ok (.iastore, 1))
    (kk : ∀ (H1 : Heap) (locs1 : List Loc), va_P D cl (wd σ') H1 → va_D A (wd σ') → va_S A H0 H1 locs1 → W p l e R s m args below meth c H1 locs1 cells slots Q (F0 m (pc + 1) ls rest)) : W p l e R s m args below meth c H locs cells slots Q (F0 m pc ls (.int x :: .int i :: .ref a :: rest)) := by
  obtain ⟨h1, h2⟩ := zwA_some hv
  subst h2
  refine va_iast hx hb hK hP hD hS q0 t0 ha ht h1 hdg (fun H1 locs1 p1 d1 s1 => ?_)
  skip
  rw [hset] at p1 d1
  exact kk H1 locs1 p1 d1 s1
theorem zzast {wd : zS → va_W} {σ σ' : zS} {j : Nat} (hx : p.tables.exec = Jvm.exec) (hb : c.code = cc) (hK : va_K D cl tys s) (hP : va_P D cl (wd σ) H) (hD : va_D A (wd σ)) (hS : va_S A H0 H locs) (q0 t0 : Nat) {cA : ClassId} {n : Nat} (ha : (wd σ)[q0]? = some (a, .inl (cA, n, .inl (σ.2.1 j)))) (ht : tys[t0]? = some (cA, .boolean)) {i : Int32} {x : Int32} (hv : zwA n j σ i x = some σ') (hz : vp_nar .boolean x = x) (hset : ∀ f : Nat → Int32, (wd σ).set q0 (a, .inl (cA, n, .inl f)) = wd (zsA σ j f)) (hdg : decode cc pc = .ok (.bastore, 1))
    (kk : ∀ (H1 : Heap) (locs1 : List Loc), va_P D cl (wd σ') H1 → va_D A (wd σ') → va_S A H0 H1 locs1 → W p l e R s m args below meth c H1 locs1 cells slots Q (F0 m (pc + 1) ls rest)) : W p l e R s m args below meth c H locs cells slots Q (F0 m pc ls (.int x :: .int i :: .ref a :: rest)) := by
  obtain ⟨h1, h2⟩ := zwA_some hv
  subst h2
  refine va_zast hx hb hK hP hD hS q0 t0 ha ht h1 hdg (fun H1 locs1 p1 d1 s1 => ?_)
  rw [hz] at p1 d1
  rw [hset] at p1 d1
  exact kk H1 locs1 p1 d1 s1
theorem zlast {wd : zS → va_W} {σ σ' : zS} {j : Nat} (hx : p.tables.exec = Jvm.exec) (hb : c.code = cc) (hK : va_K D cl tys s) (hP : va_P D cl (wd σ) H) (hD : va_D A (wd σ)) (hS : va_S A H0 H locs) (q0 t0 : Nat) {cA : ClassId} {n : Nat} (ha : (wd σ)[q0]? = some (a, .inl (cA, n, .inr (.inl (σ.2.2 j))))) (ht : tys[t0]? = some (cA, .long)) {i : Int32} {x : Int64} (hv : zwL n j σ i x = some σ') (hset : ∀ f : Nat → Int64, (wd σ).set q0 (a, .inl (cA, n, .inr (.inl f))) = wd (zsL σ j f)) (hdg : decode cc pc = .ok (.lastore, 1))
    (kk : ∀ (H1 : Heap) (locs1 : List Loc), va_P D cl (wd σ') H1 → va_D A (wd σ') → va_S A H0 H1 locs1 → W p l e R s m args below meth c H1 locs1 cells slots Q (F0 m (pc + 1) ls rest)) : W p l e R s m args below meth c H locs cells slots Q (F0 m pc ls (.long x :: .int i :: .ref a :: rest)) := by
  obtain ⟨h1, h2⟩ := zwL_some hv
  subst h2
  refine va_last hx hb hK hP hD hS q0 t0 ha ht h1 hdg (fun H1 locs1 p1 d1 s1 => ?_)
  skip
  rw [hset] at p1 d1
  exact kk H1 locs1 p1 d1 s1
theorem zput {wd : zS → va_W} {σ σ' : zS} {j : Nat} (hx : p.tables.exec = Jvm.exec) (hb : c.code = cc) {own C : String} {T : u_T} {N ci index : Nat} (hT : ∀ w ∈ zbg, w.before args s = true) (hin : ∀ w ∈ u_ws C T N, w ∈ zbg) (ty0 : Nat → FieldType) (hty : ∀ k, k < N → parseFieldDescriptor (T k).2.2.1 = some (ty0 k)) (hnm : ∀ a, a < N → ∀ b, b < N → a ≠ b → (T a).2.1 ≠ (T b).2.1) (hown : s.vm.findClass own = some m.cls) (hK : va_K D cl tys s) (hP : va_P D cl (wd σ) H) (hD : va_D A (wd σ)) (hS : va_S A H0 H locs) (q0 : Nat) {fs : List Value} (he : (wd σ)[q0]? = some (a, .inr (ci, fs))) (hc : cl[ci]? = some (C, T, N)) (k : Nat) (hk : k < N) (hlink : Cond.fieldLink own index (T k).1 (T k).2.1 (T k).2.2.1 ∈ zbg) (hfin : (T k).2.2.2 = false) {ty : FieldType} {v : Int32} (hd : parseFieldDescriptor (T k).2.2.1 = some ty) (hn : narrow ty (.int v) = .int v) (hfit : fits ty (.int v) = true) (hl : k < fs.length) (hv : some (zsI σ j v) = some σ') (hset : (wd σ).set q0 (a, .inr (ci, fs.set k (.int v))) = wd (zsI σ j v))
    (hdg : decode cc pc = .ok (.putfield index, 3)) (kk : ∀ (H1 : Heap) (locs1 : List Loc), va_P D cl (wd σ') H1 → va_D A (wd σ') → va_S A H0 H1 locs1 → W p l e R s m args below meth c H1 locs1 cells slots Q (F0 m (pc + 3) ls rest)) : W p l e R s m args below meth c H locs cells slots Q (F0 m pc ls (.int v :: .ref a :: rest)) := by
  cases Option.some.inj hv
  refine va_put hx hb hT hin ty0 hty hnm hown hK hP hD hS q0 he hc k hk (hT _ hlink) (fun _ h => h) hfin hd hn hfit hl hdg (fun H1 locs1 p1 d1 s1 => ?_)
  rw [hset] at p1 d1
  exact kk H1 locs1 p1 d1 s1
theorem zget {ws : va_W} (hx : p.tables.exec = Jvm.exec) (hb : c.code = cc) {own C : String} {T : u_T} {N ci index : Nat} (hT : ∀ w ∈ zbg, w.before args s = true) (hin : ∀ w ∈ u_ws C T N, w ∈ zbg) (hown : s.vm.findClass own = some m.cls) (hK : va_K D cl tys s) (hP : va_P D cl ws H) (q0 : Nat) {fs : List Value} (he : ws[q0]? = some (a, .inr (ci, fs))) (hc : cl[ci]? = some (C, T, N)) (k : Nat) (hk : k < N) (hlink : Cond.fieldLink own index (T k).1 (T k).2.1 (T k).2.2.1 ∈ zbg) {v : Value} (hv : fs[k]? = some v) (hdg : decode cc pc = .ok (.getfield index, 3))
    (kk : W p l e R s m args below meth c H locs cells slots Q (F0 m (pc + 3) ls (v :: rest))) : W p l e R s m args below meth c H locs cells slots Q (F0 m pc ls (.ref a :: rest)) :=
  va_get hx hb hT hin hown hK hP q0 he hc k hk (hT _ hlink) (fun _ h => h) hv hdg kk
end ZC
end
