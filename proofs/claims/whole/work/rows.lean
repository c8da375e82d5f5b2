section
-- ===== PART A: goes FIRST, ahead of the names: the tables' words, and 'selects' of the private methods out of them =====
/-- a private method of a class that the tables say can be made, by its rows of tables_1 -/
def lw_okq (q : MethodName × Nat) : Prop := (q.1.cls ≠ "java/lang/invoke/MethodHandle" ∧ q.1.cls ≠ "java/lang/invoke/VarHandle") ∧ Cond.instantiable q.1.cls q.2 ∈ tables_1 ∧ Cond.privateMethod q.1 ∈ tables_1 ∧ Cond.instanceMethod q.1 ∈ tables_1
theorem lw_p0 : lw_okq (⟨"FacetFigures", "leaveAll", "()V"⟩, 7) := ⟨⟨by decide +kernel, by decide +kernel⟩, List.mem_of_getElem? (i := 14) (by decide +kernel), List.mem_of_getElem? (i := 233) (by decide +kernel), List.mem_of_getElem? (i := 234) (by decide +kernel)⟩
theorem lw_p1 : lw_okq (⟨"FacetFigures$Hand", "shrinkTo", "(I)V"⟩, 3) := ⟨⟨by decide +kernel, by decide +kernel⟩, List.mem_of_getElem? (i := 58) (by decide +kernel), List.mem_of_getElem? (i := 241) (by decide +kernel), List.mem_of_getElem? (i := 242) (by decide +kernel)⟩
theorem lw_p2 : lw_okq (⟨"FacetFigures", "facetAt", "(I)LFacetFigures$Facet;"⟩, 7) := ⟨⟨by decide +kernel, by decide +kernel⟩, List.mem_of_getElem? (i := 14) (by decide +kernel), List.mem_of_getElem? (i := 299) (by decide +kernel), List.mem_of_getElem? (i := 300) (by decide +kernel)⟩
theorem lw_p3 : lw_okq (⟨"FacetFigures", "groupsOf", "(I)LFacetFigures$GroupList;"⟩, 7) := ⟨⟨by decide +kernel, by decide +kernel⟩, List.mem_of_getElem? (i := 14) (by decide +kernel), List.mem_of_getElem? (i := 328) (by decide +kernel), List.mem_of_getElem? (i := 329) (by decide +kernel)⟩
theorem lw_p4 : lw_okq (⟨"FacetFigures$Facet", "addKeysOf", "(ILFacetFigures$KeyRow;)V"⟩, 14) := ⟨⟨by decide +kernel, by decide +kernel⟩, List.mem_of_getElem? (i := 76) (by decide +kernel), List.mem_of_getElem? (i := 363) (by decide +kernel), List.mem_of_getElem? (i := 364) (by decide +kernel)⟩
theorem lw_p5 : lw_okq (⟨"FacetFigures$Facet", "addRangeKeys", "(ILFacetFigures$KeyRow;)V"⟩, 14) := ⟨⟨by decide +kernel, by decide +kernel⟩, List.mem_of_getElem? (i := 76) (by decide +kernel), List.mem_of_getElem? (i := 375) (by decide +kernel), List.mem_of_getElem? (i := 376) (by decide +kernel)⟩
theorem lw_p6 : lw_okq (⟨"FacetFigures$GroupList", "addPair", "(II)V"⟩, 9) := ⟨⟨by decide +kernel, by decide +kernel⟩, List.mem_of_getElem? (i := 139) (by decide +kernel), List.mem_of_getElem? (i := 400) (by decide +kernel), List.mem_of_getElem? (i := 401) (by decide +kernel)⟩
theorem lw_p7 : lw_okq (⟨"FacetFigures$Sorter", "merge", "([JIII)V"⟩, 1) := ⟨⟨by decide +kernel, by decide +kernel⟩, List.mem_of_getElem? (i := 22) (by decide +kernel), List.mem_of_getElem? (i := 410) (by decide +kernel), List.mem_of_getElem? (i := 411) (by decide +kernel)⟩
theorem lw_p8 : lw_okq (⟨"FacetFigures$GroupList", "cutRun", "(LFacetFigures$Facet;II)I"⟩, 9) := ⟨⟨by decide +kernel, by decide +kernel⟩, List.mem_of_getElem? (i := 139) (by decide +kernel), List.mem_of_getElem? (i := 421) (by decide +kernel), List.mem_of_getElem? (i := 422) (by decide +kernel)⟩
theorem lw_p9 : lw_okq (⟨"FacetFigures$GroupList", "pairKey", "(I)I"⟩, 9) := ⟨⟨by decide +kernel, by decide +kernel⟩, List.mem_of_getElem? (i := 139) (by decide +kernel), List.mem_of_getElem? (i := 425) (by decide +kernel), List.mem_of_getElem? (i := 426) (by decide +kernel)⟩
theorem lw_p10 : lw_okq (⟨"FacetFigures$GroupList", "weight", "(LFacetFigures$Facet;LFacetFigures$Stock;I)J"⟩, 9) := ⟨⟨by decide +kernel, by decide +kernel⟩, List.mem_of_getElem? (i := 139) (by decide +kernel), List.mem_of_getElem? (i := 433) (by decide +kernel), List.mem_of_getElem? (i := 434) (by decide +kernel)⟩
theorem lw_p11 : lw_okq (⟨"FacetFigures$GroupList", "pairObject", "(I)I"⟩, 9) := ⟨⟨by decide +kernel, by decide +kernel⟩, List.mem_of_getElem? (i := 139) (by decide +kernel), List.mem_of_getElem? (i := 437) (by decide +kernel), List.mem_of_getElem? (i := 438) (by decide +kernel)⟩
theorem lw_p12 : lw_okq (⟨"FacetFigures$GroupList", "groupAt", "(I)I"⟩, 9) := ⟨⟨by decide +kernel, by decide +kernel⟩, List.mem_of_getElem? (i := 139) (by decide +kernel), List.mem_of_getElem? (i := 462) (by decide +kernel), List.mem_of_getElem? (i := 463) (by decide +kernel)⟩
theorem lw_p13 : lw_okq (⟨"FacetFigures", "sampleIsTaken", "(III)Z"⟩, 7) := ⟨⟨by decide +kernel, by decide +kernel⟩, List.mem_of_getElem? (i := 14) (by decide +kernel), List.mem_of_getElem? (i := 525) (by decide +kernel), List.mem_of_getElem? (i := 526) (by decide +kernel)⟩
theorem lw_p14 : lw_okq (⟨"FacetFigures$ValueRow", "sum", "()J"⟩, 3) := ⟨⟨by decide +kernel, by decide +kernel⟩, List.mem_of_getElem? (i := 189) (by decide +kernel), List.mem_of_getElem? (i := 543) (by decide +kernel), List.mem_of_getElem? (i := 544) (by decide +kernel)⟩
theorem lw_p15 : lw_okq (⟨"FacetFigures$ValueRow", "atPlace", "(I)I"⟩, 3) := ⟨⟨by decide +kernel, by decide +kernel⟩, List.mem_of_getElem? (i := 189) (by decide +kernel), List.mem_of_getElem? (i := 547) (by decide +kernel), List.mem_of_getElem? (i := 548) (by decide +kernel)⟩
def lw_privs_1 : List (MethodName × Nat) := [(⟨"FacetFigures", "leaveAll", "()V"⟩, 7), (⟨"FacetFigures$Hand", "shrinkTo", "(I)V"⟩, 3), (⟨"FacetFigures", "facetAt", "(I)LFacetFigures$Facet;"⟩, 7), (⟨"FacetFigures", "groupsOf", "(I)LFacetFigures$GroupList;"⟩, 7), (⟨"FacetFigures$Facet", "addKeysOf", "(ILFacetFigures$KeyRow;)V"⟩, 14), (⟨"FacetFigures$Facet", "addRangeKeys", "(ILFacetFigures$KeyRow;)V"⟩, 14), (⟨"FacetFigures$GroupList", "addPair", "(II)V"⟩, 9), (⟨"FacetFigures$Sorter", "merge", "([JIII)V"⟩, 1), (⟨"FacetFigures$GroupList", "cutRun", "(LFacetFigures$Facet;II)I"⟩, 9), (⟨"FacetFigures$GroupList", "pairKey", "(I)I"⟩, 9), (⟨"FacetFigures$GroupList", "weight", "(LFacetFigures$Facet;LFacetFigures$Stock;I)J"⟩, 9), (⟨"FacetFigures$GroupList", "pairObject", "(I)I"⟩, 9), (⟨"FacetFigures$GroupList", "groupAt", "(I)I"⟩, 9), (⟨"FacetFigures", "sampleIsTaken", "(III)Z"⟩, 7), (⟨"FacetFigures$ValueRow", "sum", "()J"⟩, 3), (⟨"FacetFigures$ValueRow", "atPlace", "(I)I"⟩, 3)]
theorem lw_r1 : ∀ q ∈ lw_privs_1, lw_okq q := List.forall_mem_cons.mpr ⟨lw_p0, List.forall_mem_cons.mpr ⟨lw_p1, List.forall_mem_cons.mpr ⟨lw_p2, List.forall_mem_cons.mpr ⟨lw_p3, List.forall_mem_cons.mpr ⟨lw_p4, List.forall_mem_cons.mpr ⟨lw_p5, List.forall_mem_cons.mpr ⟨lw_p6, List.forall_mem_cons.mpr ⟨lw_p7, List.forall_mem_cons.mpr ⟨lw_p8, List.forall_mem_cons.mpr ⟨lw_p9, List.forall_mem_cons.mpr ⟨lw_p10, List.forall_mem_cons.mpr ⟨lw_p11, List.forall_mem_cons.mpr ⟨lw_p12, List.forall_mem_cons.mpr ⟨lw_p13, List.forall_mem_cons.mpr ⟨lw_p14, List.forall_mem_cons.mpr ⟨lw_p15, fun _ h => absurd h List.not_mem_nil⟩⟩⟩⟩⟩⟩⟩⟩⟩⟩⟩⟩⟩⟩⟩⟩
theorem lw_p16 : lw_okq (⟨"FacetFigures$ValueRow", "different", "()I"⟩, 3) := ⟨⟨by decide +kernel, by decide +kernel⟩, List.mem_of_getElem? (i := 189) (by decide +kernel), List.mem_of_getElem? (i := 553) (by decide +kernel), List.mem_of_getElem? (i := 554) (by decide +kernel)⟩
theorem lw_p17 : lw_okq (⟨"FacetFiguresModel", "changes", "()V"⟩, 33) := ⟨⟨by decide +kernel, by decide +kernel⟩, List.mem_of_getElem? (i := 578) (by decide +kernel), List.mem_of_getElem? (i := 689) (by decide +kernel), List.mem_of_getElem? (i := 690) (by decide +kernel)⟩
theorem lw_p18 : lw_okq (⟨"FacetFiguresModel", "isObject", "(I)Z"⟩, 33) := ⟨⟨by decide +kernel, by decide +kernel⟩, List.mem_of_getElem? (i := 578) (by decide +kernel), List.mem_of_getElem? (i := 697) (by decide +kernel), List.mem_of_getElem? (i := 698) (by decide +kernel)⟩
theorem lw_p19 : lw_okq (⟨"FacetFiguresModel", "isFacet", "(I)Z"⟩, 33) := ⟨⟨by decide +kernel, by decide +kernel⟩, List.mem_of_getElem? (i := 578) (by decide +kernel), List.mem_of_getElem? (i := 731) (by decide +kernel), List.mem_of_getElem? (i := 732) (by decide +kernel)⟩
theorem lw_p20 : lw_okq (⟨"FacetFiguresModel", "findGroups", "(I)V"⟩, 33) := ⟨⟨by decide +kernel, by decide +kernel⟩, List.mem_of_getElem? (i := 578) (by decide +kernel), List.mem_of_getElem? (i := 756) (by decide +kernel), List.mem_of_getElem? (i := 757) (by decide +kernel)⟩
theorem lw_p21 : lw_okq (⟨"FacetFiguresModel", "findKeys", "(I)V"⟩, 33) := ⟨⟨by decide +kernel, by decide +kernel⟩, List.mem_of_getElem? (i := 578) (by decide +kernel), List.mem_of_getElem? (i := 760) (by decide +kernel), List.mem_of_getElem? (i := 761) (by decide +kernel)⟩
theorem lw_p22 : lw_okq (⟨"FacetFiguresModel", "findKeysOf", "(II)V"⟩, 33) := ⟨⟨by decide +kernel, by decide +kernel⟩, List.mem_of_getElem? (i := 578) (by decide +kernel), List.mem_of_getElem? (i := 764) (by decide +kernel), List.mem_of_getElem? (i := 765) (by decide +kernel)⟩
theorem lw_p23 : lw_okq (⟨"FacetFiguresModel", "giveKeys", "(II)V"⟩, 33) := ⟨⟨by decide +kernel, by decide +kernel⟩, List.mem_of_getElem? (i := 578) (by decide +kernel), List.mem_of_getElem? (i := 768) (by decide +kernel), List.mem_of_getElem? (i := 769) (by decide +kernel)⟩
theorem lw_p24 : lw_okq (⟨"FacetFiguresModel", "give", "(I)V"⟩, 33) := ⟨⟨by decide +kernel, by decide +kernel⟩, List.mem_of_getElem? (i := 578) (by decide +kernel), List.mem_of_getElem? (i := 772) (by decide +kernel), List.mem_of_getElem? (i := 773) (by decide +kernel)⟩
theorem lw_p25 : lw_okq (⟨"FacetFiguresModel", "givePaths", "(I)V"⟩, 33) := ⟨⟨by decide +kernel, by decide +kernel⟩, List.mem_of_getElem? (i := 578) (by decide +kernel), List.mem_of_getElem? (i := 776) (by decide +kernel), List.mem_of_getElem? (i := 777) (by decide +kernel)⟩
theorem lw_p26 : lw_okq (⟨"FacetFiguresModel", "giveDays", "(II)V"⟩, 33) := ⟨⟨by decide +kernel, by decide +kernel⟩, List.mem_of_getElem? (i := 578) (by decide +kernel), List.mem_of_getElem? (i := 784) (by decide +kernel), List.mem_of_getElem? (i := 785) (by decide +kernel)⟩
theorem lw_p27 : lw_okq (⟨"FacetFiguresModel", "counts", "(II)Z"⟩, 33) := ⟨⟨by decide +kernel, by decide +kernel⟩, List.mem_of_getElem? (i := 578) (by decide +kernel), List.mem_of_getElem? (i := 798) (by decide +kernel), List.mem_of_getElem? (i := 799) (by decide +kernel)⟩
theorem lw_p28 : lw_okq (⟨"FacetFiguresModel", "atHand", "(I)Z"⟩, 33) := ⟨⟨by decide +kernel, by decide +kernel⟩, List.mem_of_getElem? (i := 578) (by decide +kernel), List.mem_of_getElem? (i := 802) (by decide +kernel), List.mem_of_getElem? (i := 803) (by decide +kernel)⟩
theorem lw_p29 : lw_okq (⟨"FacetFiguresModel", "isNew", "(I)Z"⟩, 33) := ⟨⟨by decide +kernel, by decide +kernel⟩, List.mem_of_getElem? (i := 578) (by decide +kernel), List.mem_of_getElem? (i := 806) (by decide +kernel), List.mem_of_getElem? (i := 807) (by decide +kernel)⟩
theorem lw_p30 : lw_okq (⟨"FacetFiguresModel", "measure", "(II)V"⟩, 33) := ⟨⟨by decide +kernel, by decide +kernel⟩, List.mem_of_getElem? (i := 578) (by decide +kernel), List.mem_of_getElem? (i := 810) (by decide +kernel), List.mem_of_getElem? (i := 811) (by decide +kernel)⟩
theorem lw_p31 : lw_okq (⟨"FacetFiguresModel", "isIn", "(III)Z"⟩, 33) := ⟨⟨by decide +kernel, by decide +kernel⟩, List.mem_of_getElem? (i := 578) (by decide +kernel), List.mem_of_getElem? (i := 814) (by decide +kernel), List.mem_of_getElem? (i := 815) (by decide +kernel)⟩
def lw_privs_2 : List (MethodName × Nat) := [(⟨"FacetFigures$ValueRow", "different", "()I"⟩, 3), (⟨"FacetFiguresModel", "changes", "()V"⟩, 33), (⟨"FacetFiguresModel", "isObject", "(I)Z"⟩, 33), (⟨"FacetFiguresModel", "isFacet", "(I)Z"⟩, 33), (⟨"FacetFiguresModel", "findGroups", "(I)V"⟩, 33), (⟨"FacetFiguresModel", "findKeys", "(I)V"⟩, 33), (⟨"FacetFiguresModel", "findKeysOf", "(II)V"⟩, 33), (⟨"FacetFiguresModel", "giveKeys", "(II)V"⟩, 33), (⟨"FacetFiguresModel", "give", "(I)V"⟩, 33), (⟨"FacetFiguresModel", "givePaths", "(I)V"⟩, 33), (⟨"FacetFiguresModel", "giveDays", "(II)V"⟩, 33), (⟨"FacetFiguresModel", "counts", "(II)Z"⟩, 33), (⟨"FacetFiguresModel", "atHand", "(I)Z"⟩, 33), (⟨"FacetFiguresModel", "isNew", "(I)Z"⟩, 33), (⟨"FacetFiguresModel", "measure", "(II)V"⟩, 33), (⟨"FacetFiguresModel", "isIn", "(III)Z"⟩, 33)]
theorem lw_r2 : ∀ q ∈ lw_privs_2, lw_okq q := List.forall_mem_cons.mpr ⟨lw_p16, List.forall_mem_cons.mpr ⟨lw_p17, List.forall_mem_cons.mpr ⟨lw_p18, List.forall_mem_cons.mpr ⟨lw_p19, List.forall_mem_cons.mpr ⟨lw_p20, List.forall_mem_cons.mpr ⟨lw_p21, List.forall_mem_cons.mpr ⟨lw_p22, List.forall_mem_cons.mpr ⟨lw_p23, List.forall_mem_cons.mpr ⟨lw_p24, List.forall_mem_cons.mpr ⟨lw_p25, List.forall_mem_cons.mpr ⟨lw_p26, List.forall_mem_cons.mpr ⟨lw_p27, List.forall_mem_cons.mpr ⟨lw_p28, List.forall_mem_cons.mpr ⟨lw_p29, List.forall_mem_cons.mpr ⟨lw_p30, List.forall_mem_cons.mpr ⟨lw_p31, fun _ h => absurd h List.not_mem_nil⟩⟩⟩⟩⟩⟩⟩⟩⟩⟩⟩⟩⟩⟩⟩⟩
theorem lw_p32 : lw_okq (⟨"FacetFiguresModel", "hasKey", "(II)Z"⟩, 33) := ⟨⟨by decide +kernel, by decide +kernel⟩, List.mem_of_getElem? (i := 578) (by decide +kernel), List.mem_of_getElem? (i := 818) (by decide +kernel), List.mem_of_getElem? (i := 819) (by decide +kernel)⟩
theorem lw_p33 : lw_okq (⟨"FacetFiguresModel", "sumOf", "(II)J"⟩, 33) := ⟨⟨by decide +kernel, by decide +kernel⟩, List.mem_of_getElem? (i := 578) (by decide +kernel), List.mem_of_getElem? (i := 822) (by decide +kernel), List.mem_of_getElem? (i := 823) (by decide +kernel)⟩
theorem lw_p34 : lw_okq (⟨"FacetFiguresModel", "move", "(II)V"⟩, 33) := ⟨⟨by decide +kernel, by decide +kernel⟩, List.mem_of_getElem? (i := 578) (by decide +kernel), List.mem_of_getElem? (i := 826) (by decide +kernel), List.mem_of_getElem? (i := 827) (by decide +kernel)⟩
theorem lw_p35 : lw_okq (⟨"FacetFiguresModel", "isBefore", "(III)Z"⟩, 33) := ⟨⟨by decide +kernel, by decide +kernel⟩, List.mem_of_getElem? (i := 578) (by decide +kernel), List.mem_of_getElem? (i := 830) (by decide +kernel), List.mem_of_getElem? (i := 831) (by decide +kernel)⟩
theorem lw_p36 : lw_okq (⟨"FacetFiguresModel", "isGroup", "(II)Z"⟩, 33) := ⟨⟨by decide +kernel, by decide +kernel⟩, List.mem_of_getElem? (i := 578) (by decide +kernel), List.mem_of_getElem? (i := 838) (by decide +kernel), List.mem_of_getElem? (i := 839) (by decide +kernel)⟩
theorem lw_p37 : lw_okq (⟨"FacetFiguresModel", "findRow", "(III)Z"⟩, 33) := ⟨⟨by decide +kernel, by decide +kernel⟩, List.mem_of_getElem? (i := 578) (by decide +kernel), List.mem_of_getElem? (i := 867) (by decide +kernel), List.mem_of_getElem? (i := 868) (by decide +kernel)⟩
theorem lw_p38 : lw_okq (⟨"FacetFiguresModel", "lay", "(I)V"⟩, 33) := ⟨⟨by decide +kernel, by decide +kernel⟩, List.mem_of_getElem? (i := 578) (by decide +kernel), List.mem_of_getElem? (i := 871) (by decide +kernel), List.mem_of_getElem? (i := 872) (by decide +kernel)⟩
def lw_privs_3 : List (MethodName × Nat) := [(⟨"FacetFiguresModel", "hasKey", "(II)Z"⟩, 33), (⟨"FacetFiguresModel", "sumOf", "(II)J"⟩, 33), (⟨"FacetFiguresModel", "move", "(II)V"⟩, 33), (⟨"FacetFiguresModel", "isBefore", "(III)Z"⟩, 33), (⟨"FacetFiguresModel", "isGroup", "(II)Z"⟩, 33), (⟨"FacetFiguresModel", "findRow", "(III)Z"⟩, 33), (⟨"FacetFiguresModel", "lay", "(I)V"⟩, 33)]
theorem lw_r3 : ∀ q ∈ lw_privs_3, lw_okq q := List.forall_mem_cons.mpr ⟨lw_p32, List.forall_mem_cons.mpr ⟨lw_p33, List.forall_mem_cons.mpr ⟨lw_p34, List.forall_mem_cons.mpr ⟨lw_p35, List.forall_mem_cons.mpr ⟨lw_p36, List.forall_mem_cons.mpr ⟨lw_p37, List.forall_mem_cons.mpr ⟨lw_p38, fun _ h => absurd h List.not_mem_nil⟩⟩⟩⟩⟩⟩⟩
def lw_privs : List (MethodName × Nat) := lw_privs_1 ++ (lw_privs_2 ++ (lw_privs_3))
def lw_tbl : List Cond := k2_sels lw_privs ++ tables_1
theorem lw_privs_ok : ∀ q ∈ lw_privs, lw_okq q := by
  show ∀ q ∈ lw_privs_1 ++ (lw_privs_2 ++ (lw_privs_3)), lw_okq q
  exact List.forall_mem_append.mpr ⟨lw_r1, List.forall_mem_append.mpr ⟨lw_r2, lw_r3⟩⟩
-- ===== end of PART A; then your names; then what follows =====
end
section
/-! the words of all methods: one list; the mirrors' own small words; rows over one world of a whole side -/
def zbg : List Cond := lw_tbl.filter goodWord
theorem zin (i : Nat) {w : Cond} (h : lw_tbl[i]? = some w) (hg : goodWord w = true) : w ∈ zbg := List.mem_filter.mpr ⟨List.mem_of_getElem? h, hg⟩
theorem zbg_in : GoodIn zbg zbg := fun w h => ⟨h, good_of_word (List.mem_filter.mp h).2⟩
theorem zgood {w : Cond} (h : w ∈ zbg) : w ∈ zbg ∧ ((w.onTables && w.keeps) = true ∨ ∃ ty, w = .arrayClass ty) := zbg_in w h
theorem zgc {y : MethodName} {b : ByteArray} {n : Nat} {r : Option FieldType} (h : Cond.code y b n r ∈ zbg) : GoodIn zbg (Cond.code y b n r :: zbg) := fun w hw => (List.mem_cons.mp hw).elim (fun e => by rw [e]; exact zgood h) (zbg_in w)
-- updates
def zup {α : Type} (f : Nat → α) (k : Nat) (v : α) : Nat → α := fun j => cond (Nat.beq j k) v (f j)
theorem zup_if {α : Type} (f : Nat → α) (k : Nat) (v : α) (j : Nat) : zup f k v j = if j = k then v else f j := by
  unfold zup
  by_cases h : j = k
  · subst h; simp
  · have : Nat.beq j k = false := by rw [← Bool.not_eq_true, Nat.beq_eq]; exact h
    rw [this, if_neg h]; rfl
theorem zup_same {α : Type} (f : Nat → α) (k : Nat) (v : α) : zup f k v k = v := by rw [zup_if, if_pos rfl]
theorem zup_ne {α : Type} (f : Nat → α) {k j : Nat} (v : α) (h : j ≠ k) : zup f k v j = f j := by rw [zup_if, if_neg h]
abbrev zS : Type := (Nat → Int32) × (Nat → Nat → Int32) × (Nat → Nat → Int64)
def zsI (σ : zS) (j : Nat) (v : Int32) : zS := (zup σ.1 j v, σ.2)
def zsA (σ : zS) (j : Nat) (f : Nat → Int32) : zS := (σ.1, zup σ.2.1 j f, σ.2.2)
def zsL (σ : zS) (j : Nat) (f : Nat → Int64) : zS := (σ.1, σ.2.1, zup σ.2.2 j f)
-- reads and writes that may fall outside
def zrd {α : Type} (n : Nat) (f : Nat → α) (i : Int32) : Option α := if i < 0 ∨ n ≤ i.toNatClampNeg then none else some (f i.toNatClampNeg)
def zwA (n j : Nat) (σ : zS) (i x : Int32) : Option zS := if i < 0 ∨ n ≤ i.toNatClampNeg then none else some (zsA σ j (upd (σ.2.1 j) i.toNatClampNeg x))
def zwL (n j : Nat) (σ : zS) (i : Int32) (x : Int64) : Option zS := if i < 0 ∨ n ≤ i.toNatClampNeg then none else some (zsL σ j (vp_updL (σ.2.2 j) i.toNatClampNeg x))
def zcz (v : Int32) : Option Int32 := if v = 0 ∨ v = 1 then some v else none
def zdv (x y : Int32) : Option Int32 := if y = 0 then none else some (x / y)
def zrm (x y : Int32) : Option Int32 := if y = 0 then none else some (x - x / y * y)
theorem zrd_some {α : Type} {n : Nat} {f : Nat → α} {i : Int32} {v : α} (h : zrd n f i = some v) : vp_in i n ∧ f i.toNatClampNeg = v := by
  unfold zrd at h
  by_cases c : i < 0 ∨ n ≤ i.toNatClampNeg
  · rw [if_pos c] at h; cases h
  · rw [if_neg c] at h; exact ⟨c, Option.some.inj h⟩
theorem zwA_some {n j : Nat} {σ σ' : zS} {i x : Int32} (h : zwA n j σ i x = some σ') : vp_in i n ∧ zsA σ j (upd (σ.2.1 j) i.toNatClampNeg x) = σ' := by
  unfold zwA at h
  by_cases c : i < 0 ∨ n ≤ i.toNatClampNeg
  · rw [if_pos c] at h; cases h
  · rw [if_neg c] at h; exact ⟨c, Option.some.inj h⟩
theorem zwL_some {n j : Nat} {σ σ' : zS} {i : Int32} {x : Int64} (h : zwL n j σ i x = some σ') : vp_in i n ∧ zsL σ j (vp_updL (σ.2.2 j) i.toNatClampNeg x) = σ' := by
  unfold zwL at h
  by_cases c : i < 0 ∨ n ≤ i.toNatClampNeg
  · rw [if_pos c] at h; cases h
  · rw [if_neg c] at h; exact ⟨c, Option.some.inj h⟩
theorem zcz_some {v w : Int32} (h : zcz v = some w) : v = w ∧ narrow .boolean (.int v) = .int v ∧ vp_nar .boolean v = v := by
  unfold zcz at h
  by_cases c : v = 0 ∨ v = 1
  · rw [if_pos c] at h
    refine ⟨Option.some.inj h, ?_⟩
    rcases c with rfl | rfl <;> exact ⟨by decide, by decide⟩
  · rw [if_neg c] at h; cases h
theorem zdv_some {x y v : Int32} (h : zdv x y = some v) : ¬ y = 0 ∧ x / y = v := by
  unfold zdv at h
  by_cases c : y = 0
  · rw [if_pos c] at h; cases h
  · rw [if_neg c] at h; exact ⟨c, Option.some.inj h⟩
theorem zrm_some {x y v : Int32} (h : zrm x y = some v) : ¬ y = 0 ∧ x - x / y * y = v := by
  unfold zrm at h
  by_cases c : y = 0
  · rw [if_pos c] at h; cases h
  · rw [if_neg c] at h; exact ⟨c, Option.some.inj h⟩
-- loops
def ziter {S R : Type} (f : S → Option (S ⊕ R)) : Nat → S → Option R
  | 0, _ => none
  | n + 1, s => (f s).bind (fun r => Sum.elim (fun s' => ziter f n s') (fun x => some x) r)
theorem ziter_W {S R : Type} {f : S → Option (S ⊕ R)} {Hd : S → Prop} {Ex : R → Prop} (hb : ∀ s res, f s = some res → Sum.elim Hd Ex res → Hd s) : ∀ (n : Nat) (s : S) (r : R), ziter f n s = some r → Ex r → Hd s := by
  intro n
  induction n with
  | zero => intro s r h; cases h
  | succ n ih =>
    intro s r h hx
    obtain ⟨res, h1, h2⟩ := Option.bind_eq_some_iff.mp h
    refine hb s res h1 ?_
    cases res with
    | inl s' => exact ih s' r h2 hx
    | inr r' => cases h2; exact hx
-- the static table of the class, the same in every contract
def zms : Nat → Value := fun j => .int (([0, 31, 59, 90, 120, 151, 181, 212, 243, 273, 304, 334] : List Int32).getD j 0)
def zZ (t : Nat) (A : Nat → Prop) (U : State) (H : Heap) : Prop := va_Z "FacetFigures$Days" "MONTH_STARTS" "[I" (.ref t) A U H ∧ va_T .int t 12 zms A U H
theorem zZ.moved {t : Nat} {A : Nat → Prop} {u U : State} {H : Heap} (hvm : u.vm.Alike U.vm) (h : zZ t A u H) : zZ t A U H := ⟨va_Z.moved hvm h.1, va_T.moved hvm h.2⟩
theorem zZ.kept {t : Nat} {A : Nat → Prop} {U : State} {H H1 : Heap} (h : zZ t A U H) (hq : ∀ a : Nat, a < H.size → ¬ A a → H1[a]? = H[a]?) : zZ t A U H1 := ⟨va_Z.kept h.1 hq, va_T.kept h.2 hq⟩
-- contracts: no cell is made, the world of the side from σ to σ'
def zW (D : va_G) (cl : List vw_C) (tys : List (ClassId × FieldType)) (t : Nat) (A : Nat → Prop) {S : Type} (wd : S → va_W) (σ : S) (U : State) : Prop := va_P D cl (wd σ) U.heap ∧ va_K D cl tys U ∧ va_D A (wd σ) ∧ zZ t A U U.heap
def zCi (l : Launch) (y : MethodName) (b : ByteArray) (n : Nat) (ret : Option FieldType) (rm : Room) (D : va_G) (cl : List vw_C) (tys : List (ClassId × FieldType)) (t : Nat) (A : Nat → Prop) {S : Type} (wd : S → va_W) (av : List Value) (σ σ' : S) (r : Int32) : Prop :=
  Met l y (Cond.code y b n ret :: zbg) rm (va_Pc av (zW D cl tys t A wd σ)) (va_Qi (fun r2 (u : S) => r2 = r ∧ u = σ') (fun u t' => zW D cl tys t A wd u t') A) 0 0 A
def zCl (l : Launch) (y : MethodName) (b : ByteArray) (n : Nat) (ret : Option FieldType) (rm : Room) (D : va_G) (cl : List vw_C) (tys : List (ClassId × FieldType)) (t : Nat) (A : Nat → Prop) {S : Type} (wd : S → va_W) (av : List Value) (σ σ' : S) (r : Int64) : Prop :=
  Met l y (Cond.code y b n ret :: zbg) rm (va_Pc av (zW D cl tys t A wd σ)) (va_Ql (fun r2 (u : S) => r2 = r ∧ u = σ') (fun u t' => zW D cl tys t A wd u t') A) 0 0 A
def zCv (l : Launch) (y : MethodName) (b : ByteArray) (n : Nat) (ret : Option FieldType) (rm : Room) (D : va_G) (cl : List vw_C) (tys : List (ClassId × FieldType)) (t : Nat) (A : Nat → Prop) {S : Type} (wd : S → va_W) (av : List Value) (σ σ' : S) : Prop :=
  Met l y (Cond.code y b n ret :: zbg) rm (va_Pc av (zW D cl tys t A wd σ)) (va_Qv (fun (u : S) => u = σ') (fun u t' => zW D cl tys t A wd u t') A) 0 0 A
def zCq (l : Launch) (y : MethodName) (b : ByteArray) (n : Nat) (ret : Option FieldType) (rm : Room) (D : va_G) (cl : List vw_C) (tys : List (ClassId × FieldType)) (t : Nat) (A : Nat → Prop) {S : Type} (wd : S → va_W) (av : List Value) (σ σ' : S) (r : Option Nat) : Prop :=
  Met l y (Cond.code y b n ret :: zbg) rm (va_Pc av (zW D cl tys t A wd σ)) (va_Qq (fun r2 (u : S) => r2 = r ∧ u = σ') (fun u t' => zW D cl tys t A wd u t') A) 0 0 A
theorem zblind {D : va_G} {cl : List vw_C} {tys : List (ClassId × FieldType)} {t : Nat} {A : Nat → Prop} {S : Type} {wd : S → va_W} {σ : S} {av : List Value} : FrameBlind (va_Pc av (zW D cl tys t A wd σ)) := fun a U g mk q => by
  obtain ⟨q0, qP, qK, qD, qZ⟩ := q
  exact ⟨q0, qP, va_K.moved (u := U) (U := U.calling g mk a) (Vm.Alike.refl U.vm) qK, qD, zZ.moved (u := U) (U := U.calling g mk a) (Vm.Alike.refl U.vm) qZ⟩
-- what the tables say of a method that is called
def zkV (C : String) (y : MethodName) (b : ByteArray) (n : Nat) (ret : Option FieldType) (k : Nat) : Prop := Cond.instanceMethod y ∈ zbg ∧ Cond.selects C y y ∈ zbg ∧ Cond.initialized C ∈ zbg ∧ Cond.code y b n ret ∈ zbg ∧ y.cls = C ∧ y.cls ≠ "java/lang/invoke/MethodHandle" ∧ y.cls ≠ "java/lang/invoke/VarHandle" ∧ (parseMethodDescriptor y.desc).map (fun d => d.parameters.length) = some k
def zkS (y : MethodName) (b : ByteArray) (n : Nat) (ret : Option FieldType) (k : Nat) : Prop := Cond.static y ∈ zbg ∧ Cond.initialized y.cls ∈ zbg ∧ Cond.code y b n ret ∈ zbg ∧ y.cls ≠ "java/lang/invoke/MethodHandle" ∧ y.cls ≠ "java/lang/invoke/VarHandle" ∧ (parseMethodDescriptor y.desc).map (fun d => d.parameters.length) = some k
section ZR
variable {p : Program} {l : Launch} {e : Env} {R : Room} {s : State} {m : MethodId} {args : Array Value} {below : List Frame} {meth : Method} {c : Code} {H : Heap} {locs : List Loc} {cells slots : Nat} {Q : State → Prop}
variable {cc : ByteArray} {pc : Nat} {ls : Array Slot} {rest st : List Value} {A : Nat → Prop} {H0 : Heap} {D : va_G} {cl : List vw_C} {tys : List (ClassId × FieldType)} {ws : va_W} {a t : Nat}
theorem zcwV {own C : String} {index n k : Nat} {y : MethodName} {b : ByteArray} {ret : Option FieldType} {rm : Room} (hT : ∀ w ∈ zbg, w.before args s = true) (hk : zkV C y b n ret k) (hl : Cond.methodLink own index y ∈ zbg) (hR : rm.frames + 1 ≤ R.frames ∧ 8 + (n + 11) + rm.locals ≤ R.locals) (h0 : rm.cells = 0) (h1 : rm.slots = 0) : CallW R s args own C index y b n ret (Cond.code y b n ret :: zbg) rm 0 0 k := by
  obtain ⟨a1, a2, a3, a4, a5, a6, a7, a8⟩ := hk
  refine ⟨callB_of k hT (zgc a4) rfl h0 h1 (hT _ (by rw [a5]; exact a3)) (hT _ hl) ⟨a6, a7, a8⟩ hR, hT _ a1, hT _ a2⟩
theorem zcwS {own : String} {index n k : Nat} {y : MethodName} {b : ByteArray} {ret : Option FieldType} {rm : Room} (hT : ∀ w ∈ zbg, w.before args s = true) (hk : zkS y b n ret k) (hl : Cond.methodLink own index y ∈ zbg) (hR : rm.frames + 1 ≤ R.frames ∧ 8 + (n + 11) + rm.locals ≤ R.locals) (h0 : rm.cells = 0) (h1 : rm.slots = 0) : CallB R s args own index y b n ret (Cond.code y b n ret :: zbg) rm 0 0 k ∧ (Cond.static y).before args s = true := by
  obtain ⟨a1, a2, a3, a4, a5, a6⟩ := hk
  exact ⟨callB_of k hT (zgc a3) rfl h0 h1 (hT _ a2) (hT _ hl) ⟨a4, a5, a6⟩ hR, hT _ a1⟩
end ZR
end
section
section ZC
variable {p : Program} {l : Launch} {e : Env} {R : Room} {s : State} {m : MethodId} {args : Array Value} {below : List Frame} {meth : Method} {c : Code} {H : Heap} {locs : List Loc} {cells slots : Nat} {Q : State → Prop}
variable {cc : ByteArray} {pc : Nat} {ls : Array Slot} {rest st : List Value} {A : Nat → Prop} {H0 : Heap} {D : va_G} {cl : List vw_C} {tys : List (ClassId × FieldType)} {a t : Nat}
theorem zZ_at {H : Heap} {U : State} (hZ : zZ t A s s.heap) (hS : va_S A s.heap H locs) (hU : U.heap = H) (hvm : s.vm.Alike U.vm) : zZ t A U U.heap := by
  rw [hU]; exact (hZ.kept (fun a h1 h2 => hS.2.1 a h1 h2)).moved hvm
theorem zVi {own C : String} {index n k nL : Nat} {y : MethodName} {b : ByteArray} {ret : Option FieldType} {rm : Room} {S : Type} {wd : S → va_W} {σ σ' : S} {r : Int32} (As : List Value) (hx : p.tables.exec = Jvm.exec) (hb : c.code = cc) (hml : c.maxLocals = nL) (hls : ls.size = nL) (hown : s.vm.findClass own = some m.cls) (hT : ∀ w ∈ zbg, w.before args s = true)
    (hM : zCi l y b n ret rm D cl tys t A wd (.ref a :: As) σ σ' r) (hk : zkV C y b n ret k) (hl : Cond.methodLink own index y ∈ zbg) (hR : rm.frames + 1 ≤ R.frames ∧ 8 + (n + 11) + rm.locals ≤ R.locals) (h0 : rm.cells = 0) (h1 : rm.slots = 0)
    (hK : va_K D cl tys s) (hZ : zZ t A s s.heap) (hP : va_P D cl (wd σ) H) (hD : va_D A (wd σ)) (hS : va_S A s.heap H locs) (q0 : Nat) {ci N : Nat} {T : u_T} {fs : List Value} (he : (wd σ)[q0]? = some (a, .inr (ci, fs))) (hc : cl[ci]? = some (C, T, N)) (hn : As.length = k) (hst : st = As.reverse ++ .ref a :: rest) (hr : (rest.map fun v => v.category).sum ≤ 8) (hcs : cells ≤ R.cells ∧ slots ≤ R.slots) (hdg : decode cc pc = .ok (.invokevirtual index, 3))
    (kk : ∀ (H1 : Heap) (locs1 : List Loc), va_P D cl (wd σ') H1 → va_D A (wd σ') → va_S A s.heap H1 locs1 → W p l e R s m args below meth c H1 locs1 cells slots Q (F0 m (pc + 3) ls (.int r :: rest))) : W p l e R s m args below meth c H locs cells slots Q (F0 m pc ls st) := by
  subst hst
  refine va_calli (va_runV (As := As) (rest := rest) ⟨hx, hb, hml, hown, hT⟩ hM (zcwV hT hk hl hR h0 h1) ⟨zblind, va_recv hK hP hc he, fun U hU hW => ⟨rfl, by rw [hU]; exact hP, va_K.moved hW.alike hK, hD, zZ_at hZ hS hU hW.alike⟩⟩ rfl hn hls rfl (lv_room hr) hdg hcs) hS (fun q _ h => h) (fun q h => h) (fun r2 u t' H1 locs1 ht hvm hpost hB hz hk1 hS1 => ?_)
  obtain ⟨rfl, rfl⟩ := hpost
  obtain ⟨hP1, hK1, hD1, hZ1⟩ := hB
  rw [ht] at hP1
  exact kk H1 locs1 hP1 hD1 hS1
theorem zSi {own : String} {index n k nL : Nat} {y : MethodName} {b : ByteArray} {ret : Option FieldType} {rm : Room} {S : Type} {wd : S → va_W} {σ σ' : S} {r : Int32} (As : List Value) (hx : p.tables.exec = Jvm.exec) (hb : c.code = cc) (hml : c.maxLocals = nL) (hls : ls.size = nL) (hown : s.vm.findClass own = some m.cls) (hT : ∀ w ∈ zbg, w.before args s = true)
    (hM : zCi l y b n ret rm D cl tys t A wd As σ σ' r) (hk : zkS y b n ret k) (hl : Cond.methodLink own index y ∈ zbg) (hR : rm.frames + 1 ≤ R.frames ∧ 8 + (n + 11) + rm.locals ≤ R.locals) (h0 : rm.cells = 0) (h1 : rm.slots = 0)
    (hK : va_K D cl tys s) (hZ : zZ t A s s.heap) (hP : va_P D cl (wd σ) H) (hD : va_D A (wd σ)) (hS : va_S A s.heap H locs) (hn : As.length = k) (hst : st = As.reverse ++ rest) (hr : (rest.map fun v => v.category).sum ≤ 8) (hcs : cells ≤ R.cells ∧ slots ≤ R.slots) (hdg : decode cc pc = .ok (.invokestatic index, 3))
    (kk : ∀ (H1 : Heap) (locs1 : List Loc), va_P D cl (wd σ') H1 → va_D A (wd σ') → va_S A s.heap H1 locs1 → W p l e R s m args below meth c H1 locs1 cells slots Q (F0 m (pc + 3) ls (.int r :: rest))) : W p l e R s m args below meth c H locs cells slots Q (F0 m pc ls st) := by
  subst hst
  refine va_calli (va_runS (As := As) (rest := rest) ⟨hx, hb, hml, hown, hT⟩ hM (zcwS hT hk hl hR h0 h1) ⟨zblind, fun U hU hW => ⟨rfl, by rw [hU]; exact hP, va_K.moved hW.alike hK, hD, zZ_at hZ hS hU hW.alike⟩⟩ rfl hn hls rfl (lv_room hr) hdg hcs) hS (fun q _ h => h) (fun q h => h) (fun r2 u t' H1 locs1 ht hvm hpost hB hz hk1 hS1 => ?_)
  obtain ⟨rfl, rfl⟩ := hpost
  obtain ⟨hP1, hK1, hD1, hZ1⟩ := hB
  rw [ht] at hP1
  exact kk H1 locs1 hP1 hD1 hS1
theorem zVl {own C : String} {index n k nL : Nat} {y : MethodName} {b : ByteArray} {ret : Option FieldType} {rm : Room} {S : Type} {wd : S → va_W} {σ σ' : S} {r : Int64} (As : List Value) (hx : p.tables.exec = Jvm.exec) (hb : c.code = cc) (hml : c.maxLocals = nL) (hls : ls.size = nL) (hown : s.vm.findClass own = some m.cls) (hT : ∀ w ∈ zbg, w.before args s = true)
    (hM : zCl l y b n ret rm D cl tys t A wd (.ref a :: As) σ σ' r) (hk : zkV C y b n ret k) (hl : Cond.methodLink own index y ∈ zbg) (hR : rm.frames + 1 ≤ R.frames ∧ 8 + (n + 11) + rm.locals ≤ R.locals) (h0 : rm.cells = 0) (h1 : rm.slots = 0)
    (hK : va_K D cl tys s) (hZ : zZ t A s s.heap) (hP : va_P D cl (wd σ) H) (hD : va_D A (wd σ)) (hS : va_S A s.heap H locs) (q0 : Nat) {ci N : Nat} {T : u_T} {fs : List Value} (he : (wd σ)[q0]? = some (a, .inr (ci, fs))) (hc : cl[ci]? = some (C, T, N)) (hn : As.length = k) (hst : st = As.reverse ++ .ref a :: rest) (hr : (rest.map fun v => v.category).sum ≤ 8) (hcs : cells ≤ R.cells ∧ slots ≤ R.slots) (hdg : decode cc pc = .ok (.invokevirtual index, 3))
    (kk : ∀ (H1 : Heap) (locs1 : List Loc), va_P D cl (wd σ') H1 → va_D A (wd σ') → va_S A s.heap H1 locs1 → W p l e R s m args below meth c H1 locs1 cells slots Q (F0 m (pc + 3) ls (.long r :: rest))) : W p l e R s m args below meth c H locs cells slots Q (F0 m pc ls st) := by
  subst hst
  refine va_calll (va_runV (As := As) (rest := rest) ⟨hx, hb, hml, hown, hT⟩ hM (zcwV hT hk hl hR h0 h1) ⟨zblind, va_recv hK hP hc he, fun U hU hW => ⟨rfl, by rw [hU]; exact hP, va_K.moved hW.alike hK, hD, zZ_at hZ hS hU hW.alike⟩⟩ rfl hn hls rfl (lv_room hr) hdg hcs) hS (fun q _ h => h) (fun q h => h) (fun r2 u t' H1 locs1 ht hvm hpost hB hz hk1 hS1 => ?_)
  obtain ⟨rfl, rfl⟩ := hpost
  obtain ⟨hP1, hK1, hD1, hZ1⟩ := hB
  rw [ht] at hP1
  exact kk H1 locs1 hP1 hD1 hS1
theorem zSl {own : String} {index n k nL : Nat} {y : MethodName} {b : ByteArray} {ret : Option FieldType} {rm : Room} {S : Type} {wd : S → va_W} {σ σ' : S} {r : Int64} (As : List Value) (hx : p.tables.exec = Jvm.exec) (hb : c.code = cc) (hml : c.maxLocals = nL) (hls : ls.size = nL) (hown : s.vm.findClass own = some m.cls) (hT : ∀ w ∈ zbg, w.before args s = true)
    (hM : zCl l y b n ret rm D cl tys t A wd As σ σ' r) (hk : zkS y b n ret k) (hl : Cond.methodLink own index y ∈ zbg) (hR : rm.frames + 1 ≤ R.frames ∧ 8 + (n + 11) + rm.locals ≤ R.locals) (h0 : rm.cells = 0) (h1 : rm.slots = 0)
    (hK : va_K D cl tys s) (hZ : zZ t A s s.heap) (hP : va_P D cl (wd σ) H) (hD : va_D A (wd σ)) (hS : va_S A s.heap H locs) (hn : As.length = k) (hst : st = As.reverse ++ rest) (hr : (rest.map fun v => v.category).sum ≤ 8) (hcs : cells ≤ R.cells ∧ slots ≤ R.slots) (hdg : decode cc pc = .ok (.invokestatic index, 3))
    (kk : ∀ (H1 : Heap) (locs1 : List Loc), va_P D cl (wd σ') H1 → va_D A (wd σ') → va_S A s.heap H1 locs1 → W p l e R s m args below meth c H1 locs1 cells slots Q (F0 m (pc + 3) ls (.long r :: rest))) : W p l e R s m args below meth c H locs cells slots Q (F0 m pc ls st) := by
  subst hst
  refine va_calll (va_runS (As := As) (rest := rest) ⟨hx, hb, hml, hown, hT⟩ hM (zcwS hT hk hl hR h0 h1) ⟨zblind, fun U hU hW => ⟨rfl, by rw [hU]; exact hP, va_K.moved hW.alike hK, hD, zZ_at hZ hS hU hW.alike⟩⟩ rfl hn hls rfl (lv_room hr) hdg hcs) hS (fun q _ h => h) (fun q h => h) (fun r2 u t' H1 locs1 ht hvm hpost hB hz hk1 hS1 => ?_)
  obtain ⟨rfl, rfl⟩ := hpost
  obtain ⟨hP1, hK1, hD1, hZ1⟩ := hB
  rw [ht] at hP1
  exact kk H1 locs1 hP1 hD1 hS1
theorem zVv {own C : String} {index n k nL : Nat} {y : MethodName} {b : ByteArray} {ret : Option FieldType} {rm : Room} {S : Type} {wd : S → va_W} {σ σ' : S} (As : List Value) (hx : p.tables.exec = Jvm.exec) (hb : c.code = cc) (hml : c.maxLocals = nL) (hls : ls.size = nL) (hown : s.vm.findClass own = some m.cls) (hT : ∀ w ∈ zbg, w.before args s = true)
    (hM : zCv l y b n ret rm D cl tys t A wd (.ref a :: As) σ σ') (hk : zkV C y b n ret k) (hl : Cond.methodLink own index y ∈ zbg) (hR : rm.frames + 1 ≤ R.frames ∧ 8 + (n + 11) + rm.locals ≤ R.locals) (h0 : rm.cells = 0) (h1 : rm.slots = 0)
    (hK : va_K D cl tys s) (hZ : zZ t A s s.heap) (hP : va_P D cl (wd σ) H) (hD : va_D A (wd σ)) (hS : va_S A s.heap H locs) (q0 : Nat) {ci N : Nat} {T : u_T} {fs : List Value} (he : (wd σ)[q0]? = some (a, .inr (ci, fs))) (hc : cl[ci]? = some (C, T, N)) (hn : As.length = k) (hst : st = As.reverse ++ .ref a :: rest) (hr : (rest.map fun v => v.category).sum ≤ 8) (hcs : cells ≤ R.cells ∧ slots ≤ R.slots) (hdg : decode cc pc = .ok (.invokevirtual index, 3))
    (kk : ∀ (H1 : Heap) (locs1 : List Loc), va_P D cl (wd σ') H1 → va_D A (wd σ') → va_S A s.heap H1 locs1 → W p l e R s m args below meth c H1 locs1 cells slots Q (F0 m (pc + 3) ls (rest))) : W p l e R s m args below meth c H locs cells slots Q (F0 m pc ls st) := by
  subst hst
  refine va_callv (va_runV (As := As) (rest := rest) ⟨hx, hb, hml, hown, hT⟩ hM (zcwV hT hk hl hR h0 h1) ⟨zblind, va_recv hK hP hc he, fun U hU hW => ⟨rfl, by rw [hU]; exact hP, va_K.moved hW.alike hK, hD, zZ_at hZ hS hU hW.alike⟩⟩ rfl hn hls rfl (lv_room hr) hdg hcs) hS (fun q _ h => h) (fun q h => h) (fun u t' H1 locs1 ht hvm hpost hB hz hk1 hS1 => ?_)
  subst hpost
  obtain ⟨hP1, hK1, hD1, hZ1⟩ := hB
  rw [ht] at hP1
  exact kk H1 locs1 hP1 hD1 hS1
theorem zSv {own : String} {index n k nL : Nat} {y : MethodName} {b : ByteArray} {ret : Option FieldType} {rm : Room} {S : Type} {wd : S → va_W} {σ σ' : S} (As : List Value) (hx : p.tables.exec = Jvm.exec) (hb : c.code = cc) (hml : c.maxLocals = nL) (hls : ls.size = nL) (hown : s.vm.findClass own = some m.cls) (hT : ∀ w ∈ zbg, w.before args s = true)
    (hM : zCv l y b n ret rm D cl tys t A wd As σ σ') (hk : zkS y b n ret k) (hl : Cond.methodLink own index y ∈ zbg) (hR : rm.frames + 1 ≤ R.frames ∧ 8 + (n + 11) + rm.locals ≤ R.locals) (h0 : rm.cells = 0) (h1 : rm.slots = 0)
    (hK : va_K D cl tys s) (hZ : zZ t A s s.heap) (hP : va_P D cl (wd σ) H) (hD : va_D A (wd σ)) (hS : va_S A s.heap H locs) (hn : As.length = k) (hst : st = As.reverse ++ rest) (hr : (rest.map fun v => v.category).sum ≤ 8) (hcs : cells ≤ R.cells ∧ slots ≤ R.slots) (hdg : decode cc pc = .ok (.invokestatic index, 3))
    (kk : ∀ (H1 : Heap) (locs1 : List Loc), va_P D cl (wd σ') H1 → va_D A (wd σ') → va_S A s.heap H1 locs1 → W p l e R s m args below meth c H1 locs1 cells slots Q (F0 m (pc + 3) ls (rest))) : W p l e R s m args below meth c H locs cells slots Q (F0 m pc ls st) := by
  subst hst
  refine va_callv (va_runS (As := As) (rest := rest) ⟨hx, hb, hml, hown, hT⟩ hM (zcwS hT hk hl hR h0 h1) ⟨zblind, fun U hU hW => ⟨rfl, by rw [hU]; exact hP, va_K.moved hW.alike hK, hD, zZ_at hZ hS hU hW.alike⟩⟩ rfl hn hls rfl (lv_room hr) hdg hcs) hS (fun q _ h => h) (fun q h => h) (fun u t' H1 locs1 ht hvm hpost hB hz hk1 hS1 => ?_)
  subst hpost
  obtain ⟨hP1, hK1, hD1, hZ1⟩ := hB
  rw [ht] at hP1
  exact kk H1 locs1 hP1 hD1 hS1
theorem zVq {own C : String} {index n k nL : Nat} {y : MethodName} {b : ByteArray} {ret : Option FieldType} {rm : Room} {S : Type} {wd : S → va_W} {σ σ' : S} {r : Option Nat} (As : List Value) (hx : p.tables.exec = Jvm.exec) (hb : c.code = cc) (hml : c.maxLocals = nL) (hls : ls.size = nL) (hown : s.vm.findClass own = some m.cls) (hT : ∀ w ∈ zbg, w.before args s = true)
    (hM : zCq l y b n ret rm D cl tys t A wd (.ref a :: As) σ σ' r) (hk : zkV C y b n ret k) (hl : Cond.methodLink own index y ∈ zbg) (hR : rm.frames + 1 ≤ R.frames ∧ 8 + (n + 11) + rm.locals ≤ R.locals) (h0 : rm.cells = 0) (h1 : rm.slots = 0)
    (hK : va_K D cl tys s) (hZ : zZ t A s s.heap) (hP : va_P D cl (wd σ) H) (hD : va_D A (wd σ)) (hS : va_S A s.heap H locs) (q0 : Nat) {ci N : Nat} {T : u_T} {fs : List Value} (he : (wd σ)[q0]? = some (a, .inr (ci, fs))) (hc : cl[ci]? = some (C, T, N)) (hn : As.length = k) (hst : st = As.reverse ++ .ref a :: rest) (hr : (rest.map fun v => v.category).sum ≤ 8) (hcs : cells ≤ R.cells ∧ slots ≤ R.slots) (hdg : decode cc pc = .ok (.invokevirtual index, 3))
    (kk : ∀ (H1 : Heap) (locs1 : List Loc), va_P D cl (wd σ') H1 → va_D A (wd σ') → va_S A s.heap H1 locs1 → W p l e R s m args below meth c H1 locs1 cells slots Q (F0 m (pc + 3) ls (va_rf r :: rest))) : W p l e R s m args below meth c H locs cells slots Q (F0 m pc ls st) := by
  subst hst
  refine va_callq (va_runV (As := As) (rest := rest) ⟨hx, hb, hml, hown, hT⟩ hM (zcwV hT hk hl hR h0 h1) ⟨zblind, va_recv hK hP hc he, fun U hU hW => ⟨rfl, by rw [hU]; exact hP, va_K.moved hW.alike hK, hD, zZ_at hZ hS hU hW.alike⟩⟩ rfl hn hls rfl (lv_room hr) hdg hcs) hS (fun q _ h => h) (fun q h => h) (fun r2 u t' H1 locs1 ht hvm hpost hB hz hk1 hS1 => ?_)
  obtain ⟨rfl, rfl⟩ := hpost
  obtain ⟨hP1, hK1, hD1, hZ1⟩ := hB
  rw [ht] at hP1
  exact kk H1 locs1 hP1 hD1 hS1
theorem zSq {own : String} {index n k nL : Nat} {y : MethodName} {b : ByteArray} {ret : Option FieldType} {rm : Room} {S : Type} {wd : S → va_W} {σ σ' : S} {r : Option Nat} (As : List Value) (hx : p.tables.exec = Jvm.exec) (hb : c.code = cc) (hml : c.maxLocals = nL) (hls : ls.size = nL) (hown : s.vm.findClass own = some m.cls) (hT : ∀ w ∈ zbg, w.before args s = true)
    (hM : zCq l y b n ret rm D cl tys t A wd As σ σ' r) (hk : zkS y b n ret k) (hl : Cond.methodLink own index y ∈ zbg) (hR : rm.frames + 1 ≤ R.frames ∧ 8 + (n + 11) + rm.locals ≤ R.locals) (h0 : rm.cells = 0) (h1 : rm.slots = 0)
    (hK : va_K D cl tys s) (hZ : zZ t A s s.heap) (hP : va_P D cl (wd σ) H) (hD : va_D A (wd σ)) (hS : va_S A s.heap H locs) (hn : As.length = k) (hst : st = As.reverse ++ rest) (hr : (rest.map fun v => v.category).sum ≤ 8) (hcs : cells ≤ R.cells ∧ slots ≤ R.slots) (hdg : decode cc pc = .ok (.invokestatic index, 3))
    (kk : ∀ (H1 : Heap) (locs1 : List Loc), va_P D cl (wd σ') H1 → va_D A (wd σ') → va_S A s.heap H1 locs1 → W p l e R s m args below meth c H1 locs1 cells slots Q (F0 m (pc + 3) ls (va_rf r :: rest))) : W p l e R s m args below meth c H locs cells slots Q (F0 m pc ls st) := by
  subst hst
  refine va_callq (va_runS (As := As) (rest := rest) ⟨hx, hb, hml, hown, hT⟩ hM (zcwS hT hk hl hR h0 h1) ⟨zblind, fun U hU hW => ⟨rfl, by rw [hU]; exact hP, va_K.moved hW.alike hK, hD, zZ_at hZ hS hU hW.alike⟩⟩ rfl hn hls rfl (lv_room hr) hdg hcs) hS (fun q _ h => h) (fun q h => h) (fun r2 u t' H1 locs1 ht hvm hpost hB hz hk1 hS1 => ?_)
  obtain ⟨rfl, rfl⟩ := hpost
  obtain ⟨hP1, hK1, hD1, hZ1⟩ := hB
  rw [ht] at hP1
  exact kk H1 locs1 hP1 hD1 hS1
theorem ziald {ws : va_W} (hx : p.tables.exec = Jvm.exec) (hb : c.code = cc) (hK : va_K D cl tys s) (hP : va_P D cl ws H) (q0 t0 : Nat) {cA : ClassId} {n : Nat} {f : Nat → Int32} (ha : ws[q0]? = some (a, .inl (cA, n, .inl f))) (ht : tys[t0]? = some (cA, .int)) {i : Int32} {v : Int32} (hv : zrd n f i = some v) (hdg : decode cc pc = .ok (.iaload, 1))
    (kk : W p l e R s m args below meth c H locs cells slots Q (F0 m (pc + 1) ls (.int v :: rest))) : W p l e R s m args below meth c H locs cells slots Q (F0 m pc ls (.int i :: .ref a :: rest)) := by
  obtain ⟨h1, h2⟩ := zrd_some hv
  subst h2
  exact va_iald hx hb hK hP q0 t0 ha ht h1 hdg kk
theorem zzald {ws : va_W} (hx : p.tables.exec = Jvm.exec) (hb : c.code = cc) (hK : va_K D cl tys s) (hP : va_P D cl ws H) (q0 t0 : Nat) {cA : ClassId} {n : Nat} {f : Nat → Int32} (ha : ws[q0]? = some (a, .inl (cA, n, .inl f))) (ht : tys[t0]? = some (cA, .boolean)) {i : Int32} {v : Int32} (hv : zrd n f i = some v) (hdg : decode cc pc = .ok (.baload, 1))
    (kk : W p l e R s m args below meth c H locs cells slots Q (F0 m (pc + 1) ls (.int v :: rest))) : W p l e R s m args below meth c H locs cells slots Q (F0 m pc ls (.int i :: .ref a :: rest)) := by
  obtain ⟨h1, h2⟩ := zrd_some hv
  subst h2
  exact va_zald hx hb hK hP q0 t0 ha ht h1 hdg kk
theorem zlald {ws : va_W} (hx : p.tables.exec = Jvm.exec) (hb : c.code = cc) (hK : va_K D cl tys s) (hP : va_P D cl ws H) (q0 t0 : Nat) {cA : ClassId} {n : Nat} {f : Nat → Int64} (ha : ws[q0]? = some (a, .inl (cA, n, .inr (.inl f)))) (ht : tys[t0]? = some (cA, .long)) {i : Int32} {v : Int64} (hv : zrd n f i = some v) (hdg : decode cc pc = .ok (.laload, 1))
    (kk : W p l e R s m args below meth c H locs cells slots Q (F0 m (pc + 1) ls (.long v :: rest))) : W p l e R s m args below meth c H locs cells slots Q (F0 m pc ls (.int i :: .ref a :: rest)) := by
  obtain ⟨h1, h2⟩ := zrd_some hv
  subst h2
  exact va_lald hx hb hK hP q0 t0 ha ht h1 hdg kk
theorem ziast {wd : zS → va_W} {σ σ' : zS} {j : Nat} (hx : p.tables.exec = Jvm.exec) (hb : c.code = cc) (hK : va_K D cl tys s) (hP : va_P D cl (wd σ) H) (hD : va_D A (wd σ)) (hS : va_S A H0 H locs) (q0 t0 : Nat) {cA : ClassId} {n : Nat} (ha : (wd σ)[q0]? = some (a, .inl (cA, n, .inl (σ.2.1 j)))) (ht : tys[t0]? = some (cA, .int)) {i : Int32} {x : Int32} (hv : zwA n j σ i x = some σ') (hset : ∀ f : Nat → Int32, (wd σ).set q0 (a, .inl (cA, n, .inl f)) = wd (zsA σ j f)) (hdg : decode cc pc = .ok (.iastore, 1))
    (kk : ∀ (H1 : Heap) (locs1 : List Loc), va_P D cl (wd σ') H1 → va_D A (wd σ') → va_S A H0 H1 locs1 → W p l e R s m args below meth c H1 locs1 cells slots Q (F0 m (pc + 1) ls rest)) : W p l e R s m args below meth c H locs cells slots Q (F0 m pc ls (.int x :: .int i :: .ref a :: rest)) := by
  obtain ⟨h1, h2⟩ := zwA_some hv
  subst h2
  refine va_iast hx hb hK hP hD hS q0 t0 ha ht h1 hdg (fun H1 locs1 p1 d1 s1 => ?_)
  skip
  rw [hset] at p1 d1
  exact kk H1 locs1 p1 d1 s1
theorem zzast {wd : zS → va_W} {σ σ' : zS} {j : Nat} (hx : p.tables.exec = Jvm.exec) (hb : c.code = cc) (hK : va_K D cl tys s) (hP : va_P D cl (wd σ) H) (hD : va_D A (wd σ)) (hS : va_S A H0 H locs) (q0 t0 : Nat) {cA : ClassId} {n : Nat} (ha : (wd σ)[q0]? = some (a, .inl (cA, n, .inl (σ.2.1 j)))) (ht : tys[t0]? = some (cA, .boolean)) {i : Int32} {x : Int32} (hv : zwA n j σ i x = some σ') (hz : vp_nar .boolean x = x) (hset : ∀ f : Nat → Int32, (wd σ).set q0 (a, .inl (cA, n, .inl f)) = wd (zsA σ j f)) (hdg : decode cc pc = .ok (.bastore, 1))
    (kk : ∀ (H1 : Heap) (locs1 : List Loc), va_P D cl (wd σ') H1 → va_D A (wd σ') → va_S A H0 H1 locs1 → W p l e R s m args below meth c H1 locs1 cells slots Q (F0 m (pc + 1) ls rest)) : W p l e R s m args below meth c H locs cells slots Q (F0 m pc ls (.int x :: .int i :: .ref a :: rest)) := by
  obtain ⟨h1, h2⟩ := zwA_some hv
  subst h2
  refine va_zast hx hb hK hP hD hS q0 t0 ha ht h1 hdg (fun H1 locs1 p1 d1 s1 => ?_)
  rw [hz] at p1 d1
  rw [hset] at p1 d1
  exact kk H1 locs1 p1 d1 s1
theorem zlast {wd : zS → va_W} {σ σ' : zS} {j : Nat} (hx : p.tables.exec = Jvm.exec) (hb : c.code = cc) (hK : va_K D cl tys s) (hP : va_P D cl (wd σ) H) (hD : va_D A (wd σ)) (hS : va_S A H0 H locs) (q0 t0 : Nat) {cA : ClassId} {n : Nat} (ha : (wd σ)[q0]? = some (a, .inl (cA, n, .inr (.inl (σ.2.2 j))))) (ht : tys[t0]? = some (cA, .long)) {i : Int32} {x : Int64} (hv : zwL n j σ i x = some σ') (hset : ∀ f : Nat → Int64, (wd σ).set q0 (a, .inl (cA, n, .inr (.inl f))) = wd (zsL σ j f)) (hdg : decode cc pc = .ok (.lastore, 1))
    (kk : ∀ (H1 : Heap) (locs1 : List Loc), va_P D cl (wd σ') H1 → va_D A (wd σ') → va_S A H0 H1 locs1 → W p l e R s m args below meth c H1 locs1 cells slots Q (F0 m (pc + 1) ls rest)) : W p l e R s m args below meth c H locs cells slots Q (F0 m pc ls (.long x :: .int i :: .ref a :: rest)) := by
  obtain ⟨h1, h2⟩ := zwL_some hv
  subst h2
  refine va_last hx hb hK hP hD hS q0 t0 ha ht h1 hdg (fun H1 locs1 p1 d1 s1 => ?_)
  skip
  rw [hset] at p1 d1
  exact kk H1 locs1 p1 d1 s1
theorem zput {wd : zS → va_W} {σ σ' : zS} {j : Nat} (hx : p.tables.exec = Jvm.exec) (hb : c.code = cc) {own C : String} {T : u_T} {N ci index : Nat} (hT : ∀ w ∈ zbg, w.before args s = true) (hin : ∀ w ∈ u_ws C T N, w ∈ zbg) (ty0 : Nat → FieldType) (hty : ∀ k, k < N → parseFieldDescriptor (T k).2.2.1 = some (ty0 k)) (hnm : ∀ a, a < N → ∀ b, b < N → a ≠ b → (T a).2.1 ≠ (T b).2.1) (hown : s.vm.findClass own = some m.cls) (hK : va_K D cl tys s) (hP : va_P D cl (wd σ) H) (hD : va_D A (wd σ)) (hS : va_S A H0 H locs) (q0 : Nat) {fs : List Value} (he : (wd σ)[q0]? = some (a, .inr (ci, fs))) (hc : cl[ci]? = some (C, T, N)) (k : Nat) (hk : k < N) (hlink : Cond.fieldLink own index (T k).1 (T k).2.1 (T k).2.2.1 ∈ zbg) (hfin : (T k).2.2.2 = false) {ty : FieldType} {v : Int32} (hd : parseFieldDescriptor (T k).2.2.1 = some ty) (hn : narrow ty (.int v) = .int v) (hfit : fits ty (.int v) = true) (hl : k < fs.length) (hv : some (zsI σ j v) = some σ') (hset : (wd σ).set q0 (a, .inr (ci, fs.set k (.int v))) = wd (zsI σ j v))
    (hdg : decode cc pc = .ok (.putfield index, 3)) (kk : ∀ (H1 : Heap) (locs1 : List Loc), va_P D cl (wd σ') H1 → va_D A (wd σ') → va_S A H0 H1 locs1 → W p l e R s m args below meth c H1 locs1 cells slots Q (F0 m (pc + 3) ls rest)) : W p l e R s m args below meth c H locs cells slots Q (F0 m pc ls (.int v :: .ref a :: rest)) := by
  cases Option.some.inj hv
  refine va_put hx hb hT hin ty0 hty hnm hown hK hP hD hS q0 he hc k hk (hT _ hlink) (fun _ h => h) hfin hd hn hfit hl hdg (fun H1 locs1 p1 d1 s1 => ?_)
  rw [hset] at p1 d1
  exact kk H1 locs1 p1 d1 s1
theorem zget {ws : va_W} (hx : p.tables.exec = Jvm.exec) (hb : c.code = cc) {own C : String} {T : u_T} {N ci index : Nat} (hT : ∀ w ∈ zbg, w.before args s = true) (hin : ∀ w ∈ u_ws C T N, w ∈ zbg) (hown : s.vm.findClass own = some m.cls) (hK : va_K D cl tys s) (hP : va_P D cl ws H) (q0 : Nat) {fs : List Value} (he : ws[q0]? = some (a, .inr (ci, fs))) (hc : cl[ci]? = some (C, T, N)) (k : Nat) (hk : k < N) (hlink : Cond.fieldLink own index (T k).1 (T k).2.1 (T k).2.2.1 ∈ zbg) {v : Value} (hv : fs[k]? = some v) (hdg : decode cc pc = .ok (.getfield index, 3))
    (kk : W p l e R s m args below meth c H locs cells slots Q (F0 m (pc + 3) ls (v :: rest))) : W p l e R s m args below meth c H locs cells slots Q (F0 m pc ls (.ref a :: rest)) :=
  va_get hx hb hT hin hown hK hP q0 he hc k hk (hT _ hlink) (fun _ h => h) hv hdg kk
end ZC
end
section
abbrev zR (f k : Nat) : Room := { frames := f, cells := 0, slots := 0, locals := k }
theorem zent {n : Nat} (av : List Value) (hlen : (lg_sl av).length ≤ n) (m : MethodId) : ∃ ls : Array Slot, entryFrame m av.toArray n = F0 m 0 ls [] ∧ lv_has ls n (lv_args 0 av) := by
  refine ⟨_, ?_, lv_entry av hlen⟩
  rw [lg_entry_eq]
theorem zMi {l : Launch} {y : MethodName} {b : ByteArray} {n : Nat} {rm : Room} {D : va_G} {cl : List vw_C} {tys : List (ClassId × FieldType)} {t : Nat} {A : Nat → Prop} {S : Type} {wd : S → va_W} {av : List Value} {σ σ' : S} {r : Int32} (hy : plainName y.cls = true) (hlen : (lg_sl av).length ≤ n) (body : ∀ (p : Program) (e : Env) (s : State) (m : MethodId) (args : Array Value) (below : List Frame) (meth : Method) (c : Code) (Q : State → Prop), p.tables.exec = Jvm.exec → c.code = b → c.maxLocals = n → s.vm.findClass y.cls = some m.cls → (∀ w ∈ zbg, w.before args s = true) → va_K D cl tys s → zZ t A s s.heap →
      (∀ (H : Heap) (locs : List Loc) (pc : Nat) (ls : Array Slot), decode b pc = .ok (.ireturn, 1) → va_P D cl (wd σ') H → va_D A (wd σ') → va_S A s.heap H locs → W p l e rm s m args below meth c H locs 0 0 Q (F0 m pc ls [.int r])) →
      va_P D cl (wd σ) s.heap → va_D A (wd σ) → va_S A s.heap s.heap [] → ∀ ls : Array Slot, lv_has ls n (lv_args 0 av) → W p l e rm s m args below meth c s.heap [] 0 0 Q (F0 m 0 ls [])) : zCi l y b n (some .int) rm D cl tys t A wd av σ σ' r := by
  unfold zCi
  refine Met.ofW (cc := b) (maxL := n) (ret := (some .int)) hy rfl ?_
  intro p e s m args below meth c s₁ B hml hv
  obtain ⟨rfl, hP, hK, hD, hZ⟩ := hv
  have hx := B.exec
  have hb := B.bytes
  have hr := B.returns
  have hlocks := B.notSynchronized
  obtain ⟨ls, h1, h2⟩ := zent av hlen m
  rw [h1]
  refine body p e s m av.toArray below meth c _ hx hb hml (findClass_of_methodNamed B.named) (fun w hw => atoms_spec B.pre w (List.mem_cons_of_mem _ hw)) hK hZ (fun H locs pc ls hdg hP hD hS => ?_) hP hD va_S.rf ls h2
  exact W.iret hx hb hr (fun t' ht hW => ⟨⟨r, σ', rfl, ⟨rfl, rfl⟩, by rw [ht]; exact hP, va_K.moved hW.alike hK, hD, zZ_at hZ hS ht hW.alike⟩, hS.F ht⟩) hS.2.2 hdg
theorem zMz {l : Launch} {y : MethodName} {b : ByteArray} {n : Nat} {rm : Room} {D : va_G} {cl : List vw_C} {tys : List (ClassId × FieldType)} {t : Nat} {A : Nat → Prop} {S : Type} {wd : S → va_W} {av : List Value} {σ σ' : S} {r : Int32} (hy : plainName y.cls = true) (hlen : (lg_sl av).length ≤ n) (body : ∀ (p : Program) (e : Env) (s : State) (m : MethodId) (args : Array Value) (below : List Frame) (meth : Method) (c : Code) (Q : State → Prop), p.tables.exec = Jvm.exec → c.code = b → c.maxLocals = n → s.vm.findClass y.cls = some m.cls → (∀ w ∈ zbg, w.before args s = true) → va_K D cl tys s → zZ t A s s.heap →
      (∀ (H : Heap) (locs : List Loc) (pc : Nat) (ls : Array Slot), narrow .boolean (.int r) = .int r → decode b pc = .ok (.ireturn, 1) → va_P D cl (wd σ') H → va_D A (wd σ') → va_S A s.heap H locs → W p l e rm s m args below meth c H locs 0 0 Q (F0 m pc ls [.int r])) →
      va_P D cl (wd σ) s.heap → va_D A (wd σ) → va_S A s.heap s.heap [] → ∀ ls : Array Slot, lv_has ls n (lv_args 0 av) → W p l e rm s m args below meth c s.heap [] 0 0 Q (F0 m 0 ls [])) : zCi l y b n (some .boolean) rm D cl tys t A wd av σ σ' r := by
  unfold zCi
  refine Met.ofW (cc := b) (maxL := n) (ret := (some .boolean)) hy rfl ?_
  intro p e s m args below meth c s₁ B hml hv
  obtain ⟨rfl, hP, hK, hD, hZ⟩ := hv
  have hx := B.exec
  have hb := B.bytes
  have hr := B.returns
  have hlocks := B.notSynchronized
  obtain ⟨ls, h1, h2⟩ := zent av hlen m
  rw [h1]
  refine body p e s m av.toArray below meth c _ hx hb hml (findClass_of_methodNamed B.named) (fun w hw => atoms_spec B.pre w (List.mem_cons_of_mem _ hw)) hK hZ (fun H locs pc ls hnar hdg hP hD hS => ?_) hP hD va_S.rf ls h2
  exact W.zret hx hb hr hnar (fun t' ht hW => ⟨⟨r, σ', rfl, ⟨rfl, rfl⟩, by rw [ht]; exact hP, va_K.moved hW.alike hK, hD, zZ_at hZ hS ht hW.alike⟩, hS.F ht⟩) hS.2.2 hdg
theorem zMl {l : Launch} {y : MethodName} {b : ByteArray} {n : Nat} {rm : Room} {D : va_G} {cl : List vw_C} {tys : List (ClassId × FieldType)} {t : Nat} {A : Nat → Prop} {S : Type} {wd : S → va_W} {av : List Value} {σ σ' : S} {r : Int64} (hy : plainName y.cls = true) (hlen : (lg_sl av).length ≤ n) (body : ∀ (p : Program) (e : Env) (s : State) (m : MethodId) (args : Array Value) (below : List Frame) (meth : Method) (c : Code) (Q : State → Prop), p.tables.exec = Jvm.exec → c.code = b → c.maxLocals = n → s.vm.findClass y.cls = some m.cls → (∀ w ∈ zbg, w.before args s = true) → va_K D cl tys s → zZ t A s s.heap →
      (∀ (H : Heap) (locs : List Loc) (pc : Nat) (ls : Array Slot), decode b pc = .ok (.lreturn, 1) → va_P D cl (wd σ') H → va_D A (wd σ') → va_S A s.heap H locs → W p l e rm s m args below meth c H locs 0 0 Q (F0 m pc ls [.long r])) →
      va_P D cl (wd σ) s.heap → va_D A (wd σ) → va_S A s.heap s.heap [] → ∀ ls : Array Slot, lv_has ls n (lv_args 0 av) → W p l e rm s m args below meth c s.heap [] 0 0 Q (F0 m 0 ls [])) : zCl l y b n (some .long) rm D cl tys t A wd av σ σ' r := by
  unfold zCl
  refine Met.ofW (cc := b) (maxL := n) (ret := (some .long)) hy rfl ?_
  intro p e s m args below meth c s₁ B hml hv
  obtain ⟨rfl, hP, hK, hD, hZ⟩ := hv
  have hx := B.exec
  have hb := B.bytes
  have hr := B.returns
  have hlocks := B.notSynchronized
  obtain ⟨ls, h1, h2⟩ := zent av hlen m
  rw [h1]
  refine body p e s m av.toArray below meth c _ hx hb hml (findClass_of_methodNamed B.named) (fun w hw => atoms_spec B.pre w (List.mem_cons_of_mem _ hw)) hK hZ (fun H locs pc ls hdg hP hD hS => ?_) hP hD va_S.rf ls h2
  exact W.lret hx hb hr (fun t' ht hW => ⟨⟨r, σ', rfl, ⟨rfl, rfl⟩, by rw [ht]; exact hP, va_K.moved hW.alike hK, hD, zZ_at hZ hS ht hW.alike⟩, hS.F ht⟩) hS.2.2 hdg
theorem zMv {l : Launch} {y : MethodName} {b : ByteArray} {n : Nat} {rm : Room} {D : va_G} {cl : List vw_C} {tys : List (ClassId × FieldType)} {t : Nat} {A : Nat → Prop} {S : Type} {wd : S → va_W} {av : List Value} {σ σ' : S} (hy : plainName y.cls = true) (hlen : (lg_sl av).length ≤ n) (body : ∀ (p : Program) (e : Env) (s : State) (m : MethodId) (args : Array Value) (below : List Frame) (meth : Method) (c : Code) (Q : State → Prop), p.tables.exec = Jvm.exec → c.code = b → c.maxLocals = n → s.vm.findClass y.cls = some m.cls → (∀ w ∈ zbg, w.before args s = true) → va_K D cl tys s → zZ t A s s.heap →
      (∀ (H : Heap) (locs : List Loc) (pc : Nat) (ls : Array Slot), decode b pc = .ok (.return_, 1) → va_P D cl (wd σ') H → va_D A (wd σ') → va_S A s.heap H locs → W p l e rm s m args below meth c H locs 0 0 Q (F0 m pc ls [])) →
      va_P D cl (wd σ) s.heap → va_D A (wd σ) → va_S A s.heap s.heap [] → ∀ ls : Array Slot, lv_has ls n (lv_args 0 av) → W p l e rm s m args below meth c s.heap [] 0 0 Q (F0 m 0 ls [])) : zCv l y b n none rm D cl tys t A wd av σ σ' := by
  unfold zCv
  refine Met.ofW (cc := b) (maxL := n) (ret := none) hy rfl ?_
  intro p e s m args below meth c s₁ B hml hv
  obtain ⟨rfl, hP, hK, hD, hZ⟩ := hv
  have hx := B.exec
  have hb := B.bytes
  have hr := B.returns
  have hlocks := B.notSynchronized
  obtain ⟨ls, h1, h2⟩ := zent av hlen m
  rw [h1]
  refine body p e s m av.toArray below meth c _ hx hb hml (findClass_of_methodNamed B.named) (fun w hw => atoms_spec B.pre w (List.mem_cons_of_mem _ hw)) hK hZ (fun H locs pc ls hdg hP hD hS => ?_) hP hD va_S.rf ls h2
  exact W.vret hx hb hr (fun t' ht hW => ⟨⟨σ', rfl, rfl, by rw [ht]; exact hP, va_K.moved hW.alike hK, hD, zZ_at hZ hS ht hW.alike⟩, hS.F ht⟩) hS.2.2 hdg
theorem zMq {l : Launch} {y : MethodName} {b : ByteArray} {n : Nat} {rm : Room} {D : va_G} {cl : List vw_C} {tys : List (ClassId × FieldType)} {t : Nat} {A : Nat → Prop} {S : Type} {wd : S → va_W} {av : List Value} {σ σ' : S} {r : Option Nat} {rt : FieldType} (hrt : (∃ n, rt = .object n) ∨ ∃ t, rt = .array t) (hy : plainName y.cls = true) (hlen : (lg_sl av).length ≤ n) (body : ∀ (p : Program) (e : Env) (s : State) (m : MethodId) (args : Array Value) (below : List Frame) (meth : Method) (c : Code) (Q : State → Prop), p.tables.exec = Jvm.exec → c.code = b → c.maxLocals = n → s.vm.findClass y.cls = some m.cls → (∀ w ∈ zbg, w.before args s = true) → va_K D cl tys s → zZ t A s s.heap →
      (∀ (H : Heap) (locs : List Loc) (pc : Nat) (ls : Array Slot), decode b pc = .ok (.areturn, 1) → va_P D cl (wd σ') H → va_D A (wd σ') → va_S A s.heap H locs → W p l e rm s m args below meth c H locs 0 0 Q (F0 m pc ls [va_rf r])) →
      va_P D cl (wd σ) s.heap → va_D A (wd σ) → va_S A s.heap s.heap [] → ∀ ls : Array Slot, lv_has ls n (lv_args 0 av) → W p l e rm s m args below meth c s.heap [] 0 0 Q (F0 m 0 ls [])) : zCq l y b n (some rt) rm D cl tys t A wd av σ σ' r := by
  unfold zCq
  refine Met.ofW (cc := b) (maxL := n) (ret := (some rt)) hy rfl ?_
  intro p e s m args below meth c s₁ B hml hv
  obtain ⟨rfl, hP, hK, hD, hZ⟩ := hv
  have hx := B.exec
  have hb := B.bytes
  have hr := B.returns
  have hlocks := B.notSynchronized
  obtain ⟨ls, h1, h2⟩ := zent av hlen m
  rw [h1]
  refine body p e s m av.toArray below meth c _ hx hb hml (findClass_of_methodNamed B.named) (fun w hw => atoms_spec B.pre w (List.mem_cons_of_mem _ hw)) hK hZ (fun H locs pc ls hdg hP hD hS => ?_) hP hD va_S.rf ls h2
  exact W.aret hx hb hr hrt (va_rf_or r) (fun t' ht hW => ⟨⟨r, σ', rfl, ⟨rfl, rfl⟩, by rw [ht]; exact hP, va_K.moved hW.alike hK, hD, zZ_at hZ hS ht hW.alike⟩, hS.F ht⟩) hS.2.2 hdg
end
section
def RX0 : String := "FacetFigures$Days"
def TX0 : u_T := fun k => match k with
  | _ => ("", "", "", false)
def tyX0 : Nat → FieldType := fun k => match k with
  | _ => .int
theorem nmX0 : ∀ a, a < 0 → ∀ b, b < 0 → a ≠ b → (TX0 a).2.1 ≠ (TX0 b).2.1 := by decide +kernel
theorem tyX0_ok : ∀ k, k < 0 → parseFieldDescriptor (TX0 k).2.2.1 = some (tyX0 k) := by decide +kernel
abbrev cX0_firstDay : ByteArray := prog_2_method_2_code
def yX0_firstDay : MethodName := ⟨RX0, "firstDay", "(II)I"⟩
abbrev cX0_yearStart : ByteArray := prog_2_method_3_code
def yX0_yearStart : MethodName := ⟨RX0, "yearStart", "(I)I"⟩
abbrev cX0_partStart : ByteArray := prog_2_method_4_code
def yX0_partStart : MethodName := ⟨RX0, "partStart", "(IZI)I"⟩
def RX1 : String := "FacetFigures$Facet"
def TX1 : u_T := fun k => match k with
  | 0 => ("FacetFigures$Facet", "kind", "I", false)
  | 1 => ("FacetFigures$Facet", "column", "I", false)
  | 2 => ("FacetFigures$Facet", "a", "I", false)
  | 3 => ("FacetFigures$Facet", "b", "I", false)
  | 4 => ("FacetFigures$Facet", "filterColumn", "I", false)
  | 5 => ("FacetFigures$Facet", "filterFrom", "I", false)
  | 6 => ("FacetFigures$Facet", "filterTo", "I", false)
  | 7 => ("FacetFigures$Facet", "leastCount", "I", false)
  | 8 => ("FacetFigures$Facet", "asksMissing", "Z", false)
  | 9 => ("FacetFigures$Facet", "orderedBy", "I", false)
  | 10 => ("FacetFigures$Facet", "sumColumn", "I", false)
  | 11 => ("FacetFigures$Facet", "rangeCount", "I", false)
  | 12 => ("FacetFigures$Facet", "froms", "[I", true)
  | _ => ("FacetFigures$Facet", "tos", "[I", true)
def tyX1 : Nat → FieldType := fun k => match k with
  | 0 => .int
  | 1 => .int
  | 2 => .int
  | 3 => .int
  | 4 => .int
  | 5 => .int
  | 6 => .int
  | 7 => .int
  | 8 => .boolean
  | 9 => .int
  | 10 => .int
  | 11 => .int
  | 12 => .array .int
  | _ => .array .int
theorem nmX1 : ∀ a, a < 14 → ∀ b, b < 14 → a ≠ b → (TX1 a).2.1 ≠ (TX1 b).2.1 := by decide +kernel
theorem tyX1_ok : ∀ k, k < 14 → parseFieldDescriptor (TX1 k).2.2.1 = some (tyX1 k) := by decide +kernel
abbrev cX1_init : ByteArray := prog_3_method_1_code
def yX1_init : MethodName := ⟨RX1, "<init>", "()V"⟩
abbrev cX1_startOver : ByteArray := prog_3_method_2_code
def yX1_startOver : MethodName := ⟨RX1, "startOver", "(IIII)V"⟩
abbrev cX1_addRange : ByteArray := prog_3_method_3_code
def yX1_addRange : MethodName := ⟨RX1, "addRange", "(II)I"⟩
abbrev cX1_counts : ByteArray := prog_3_method_4_code
def yX1_counts : MethodName := ⟨RX1, "counts", "(LFacetFigures$Stock;I)Z"⟩
abbrev cX1_collectKeys : ByteArray := prog_3_method_5_code
def yX1_collectKeys : MethodName := ⟨RX1, "collectKeys", "(LFacetFigures$Stock;ILFacetFigures$KeyRow;)V"⟩
abbrev cX1_addKeysOf : ByteArray := prog_3_method_6_code
def yX1_addKeysOf : MethodName := ⟨RX1, "addKeysOf", "(ILFacetFigures$KeyRow;)V"⟩
abbrev cX1_addPathKeys : ByteArray := prog_3_method_7_code
def yX1_addPathKeys : MethodName := ⟨RX1, "addPathKeys", "(ILFacetFigures$KeyRow;)V"⟩
abbrev cX1_addRangeKeys : ByteArray := prog_3_method_8_code
def yX1_addRangeKeys : MethodName := ⟨RX1, "addRangeKeys", "(ILFacetFigures$KeyRow;)V"⟩
def RX2 : String := "FacetFigures$GroupList"
def TX2 : u_T := fun k => match k with
  | 0 => ("FacetFigures$GroupList", "count", "I", false)
  | 1 => ("FacetFigures$GroupList", "pairCount", "I", false)
  | 2 => ("FacetFigures$GroupList", "sorter", "LFacetFigures$Sorter;", true)
  | 3 => ("FacetFigures$GroupList", "keyRow", "LFacetFigures$KeyRow;", true)
  | 4 => ("FacetFigures$GroupList", "pairs", "[J", true)
  | 5 => ("FacetFigures$GroupList", "keys", "[I", true)
  | 6 => ("FacetFigures$GroupList", "starts", "[I", true)
  | 7 => ("FacetFigures$GroupList", "ends", "[I", true)
  | _ => ("FacetFigures$GroupList", "ranks", "[J", true)
def tyX2 : Nat → FieldType := fun k => match k with
  | 0 => .int
  | 1 => .int
  | 2 => .object "FacetFigures$Sorter"
  | 3 => .object "FacetFigures$KeyRow"
  | 4 => .array .long
  | 5 => .array .int
  | 6 => .array .int
  | 7 => .array .int
  | _ => .array .long
theorem nmX2 : ∀ a, a < 9 → ∀ b, b < 9 → a ≠ b → (TX2 a).2.1 ≠ (TX2 b).2.1 := by decide +kernel
theorem tyX2_ok : ∀ k, k < 9 → parseFieldDescriptor (TX2 k).2.2.1 = some (tyX2 k) := by decide +kernel
abbrev cX2_init : ByteArray := prog_4_method_1_code
def yX2_init : MethodName := ⟨RX2, "<init>", "(LFacetFigures$Sorter;)V"⟩
abbrev cX2_gather : ByteArray := prog_4_method_2_code
def yX2_gather : MethodName := ⟨RX2, "gather", "(LFacetFigures$Facet;LFacetFigures$Stock;LFacetFigures$Hand;)V"⟩
abbrev cX2_addPair : ByteArray := prog_4_method_3_code
def yX2_addPair : MethodName := ⟨RX2, "addPair", "(II)V"⟩
abbrev cX2_cut : ByteArray := prog_4_method_4_code
def yX2_cut : MethodName := ⟨RX2, "cut", "(LFacetFigures$Facet;)V"⟩
abbrev cX2_cutRun : ByteArray := prog_4_method_5_code
def yX2_cutRun : MethodName := ⟨RX2, "cutRun", "(LFacetFigures$Facet;II)I"⟩
abbrev cX2_rank : ByteArray := prog_4_method_6_code
def yX2_rank : MethodName := ⟨RX2, "rank", "(LFacetFigures$Facet;LFacetFigures$Stock;)V"⟩
abbrev cX2_weight : ByteArray := prog_4_method_7_code
def yX2_weight : MethodName := ⟨RX2, "weight", "(LFacetFigures$Facet;LFacetFigures$Stock;I)J"⟩
abbrev cX2_pairKey : ByteArray := prog_4_method_8_code
def yX2_pairKey : MethodName := ⟨RX2, "pairKey", "(I)I"⟩
abbrev cX2_pairObject : ByteArray := prog_4_method_9_code
def yX2_pairObject : MethodName := ⟨RX2, "pairObject", "(I)I"⟩
abbrev cX2_groupAt : ByteArray := prog_4_method_10_code
def yX2_groupAt : MethodName := ⟨RX2, "groupAt", "(I)I"⟩
abbrev cX2_has : ByteArray := prog_4_method_11_code
def yX2_has : MethodName := ⟨RX2, "has", "(I)Z"⟩
abbrev cX2_isMissing : ByteArray := prog_4_method_12_code
def yX2_isMissing : MethodName := ⟨RX2, "isMissing", "(I)Z"⟩
abbrev cX2_keyOf : ByteArray := prog_4_method_13_code
def yX2_keyOf : MethodName := ⟨RX2, "keyOf", "(I)I"⟩
abbrev cX2_sizeOf : ByteArray := prog_4_method_14_code
def yX2_sizeOf : MethodName := ⟨RX2, "sizeOf", "(I)I"⟩
abbrev cX2_memberOf : ByteArray := prog_4_method_15_code
def yX2_memberOf : MethodName := ⟨RX2, "memberOf", "(II)I"⟩
abbrev cX2_holds : ByteArray := prog_4_method_16_code
def yX2_holds : MethodName := ⟨RX2, "holds", "(II)Z"⟩
abbrev cX2_numberOf : ByteArray := prog_4_method_17_code
def yX2_numberOf : MethodName := ⟨RX2, "numberOf", "(I)I"⟩
def RX3 : String := "FacetFigures$Hand"
def TX3 : u_T := fun k => match k with
  | 0 => ("FacetFigures$Hand", "entered", "I", false)
  | 1 => ("FacetFigures$Hand", "stock", "LFacetFigures$Stock;", true)
  | _ => ("FacetFigures$Hand", "depths", "[I", true)
def tyX3 : Nat → FieldType := fun k => match k with
  | 0 => .int
  | 1 => .object "FacetFigures$Stock"
  | _ => .array .int
theorem nmX3 : ∀ a, a < 3 → ∀ b, b < 3 → a ≠ b → (TX3 a).2.1 ≠ (TX3 b).2.1 := by decide +kernel
theorem tyX3_ok : ∀ k, k < 3 → parseFieldDescriptor (TX3 k).2.2.1 = some (tyX3 k) := by decide +kernel
abbrev cX3_init : ByteArray := prog_5_method_1_code
def yX3_init : MethodName := ⟨RX3, "<init>", "(LFacetFigures$Stock;)V"⟩
abbrev cX3_has : ByteArray := prog_5_method_2_code
def yX3_has : MethodName := ⟨RX3, "has", "(I)Z"⟩
abbrev cX3_startNarrowing : ByteArray := prog_5_method_3_code
def yX3_startNarrowing : MethodName := ⟨RX3, "startNarrowing", "()V"⟩
abbrev cX3_keep : ByteArray := prog_5_method_4_code
def yX3_keep : MethodName := ⟨RX3, "keep", "(I)V"⟩
abbrev cX3_widen : ByteArray := prog_5_method_5_code
def yX3_widen : MethodName := ⟨RX3, "widen", "()V"⟩
abbrev cX3_widenWholly : ByteArray := prog_5_method_6_code
def yX3_widenWholly : MethodName := ⟨RX3, "widenWholly", "()V"⟩
abbrev cX3_shrinkTo : ByteArray := prog_5_method_7_code
def yX3_shrinkTo : MethodName := ⟨RX3, "shrinkTo", "(I)V"⟩
def RX4 : String := "FacetFigures$KeyRow"
def TX4 : u_T := fun k => match k with
  | 0 => ("FacetFigures$KeyRow", "count", "I", false)
  | _ => ("FacetFigures$KeyRow", "keys", "[I", true)
def tyX4 : Nat → FieldType := fun k => match k with
  | 0 => .int
  | _ => .array .int
theorem nmX4 : ∀ a, a < 2 → ∀ b, b < 2 → a ≠ b → (TX4 a).2.1 ≠ (TX4 b).2.1 := by decide +kernel
theorem tyX4_ok : ∀ k, k < 2 → parseFieldDescriptor (TX4 k).2.2.1 = some (tyX4 k) := by decide +kernel
abbrev cX4_init : ByteArray := prog_6_method_1_code
def yX4_init : MethodName := ⟨RX4, "<init>", "()V"⟩
abbrev cX4_startOver : ByteArray := prog_6_method_2_code
def yX4_startOver : MethodName := ⟨RX4, "startOver", "()V"⟩
abbrev cX4_add : ByteArray := prog_6_method_3_code
def yX4_add : MethodName := ⟨RX4, "add", "(I)V"⟩
def RX5 : String := "FacetFigures$Sorter"
def TX5 : u_T := fun k => match k with
  | _ => ("FacetFigures$Sorter", "spare", "[J", true)
def tyX5 : Nat → FieldType := fun k => match k with
  | _ => .array .long
theorem nmX5 : ∀ a, a < 1 → ∀ b, b < 1 → a ≠ b → (TX5 a).2.1 ≠ (TX5 b).2.1 := by decide +kernel
theorem tyX5_ok : ∀ k, k < 1 → parseFieldDescriptor (TX5 k).2.2.1 = some (tyX5 k) := by decide +kernel
abbrev cX5_init : ByteArray := prog_7_method_1_code
def yX5_init : MethodName := ⟨RX5, "<init>", "()V"⟩
abbrev cX5_sort : ByteArray := prog_7_method_2_code
def yX5_sort : MethodName := ⟨RX5, "sort", "([JI)V"⟩
abbrev cX5_merge : ByteArray := prog_7_method_3_code
def yX5_merge : MethodName := ⟨RX5, "merge", "([JIII)V"⟩
def RX6 : String := "FacetFigures$Stock"
def TX6 : u_T := fun k => match k with
  | 0 => ("FacetFigures$Stock", "count", "I", false)
  | 1 => ("FacetFigures$Stock", "matches", "[Z", true)
  | 2 => ("FacetFigures$Stock", "values", "[I", true)
  | _ => ("FacetFigures$Stock", "valueCounts", "[I", true)
def tyX6 : Nat → FieldType := fun k => match k with
  | 0 => .int
  | 1 => .array .boolean
  | 2 => .array .int
  | _ => .array .int
theorem nmX6 : ∀ a, a < 4 → ∀ b, b < 4 → a ≠ b → (TX6 a).2.1 ≠ (TX6 b).2.1 := by decide +kernel
theorem tyX6_ok : ∀ k, k < 4 → parseFieldDescriptor (TX6 k).2.2.1 = some (tyX6 k) := by decide +kernel
abbrev cX6_init : ByteArray := prog_8_method_1_code
def yX6_init : MethodName := ⟨RX6, "<init>", "()V"⟩
abbrev cX6_has : ByteArray := prog_8_method_2_code
def yX6_has : MethodName := ⟨RX6, "has", "(I)Z"⟩
abbrev cX6_addObject : ByteArray := prog_8_method_3_code
def yX6_addObject : MethodName := ⟨RX6, "addObject", "()I"⟩
abbrev cX6_addValue : ByteArray := prog_8_method_4_code
def yX6_addValue : MethodName := ⟨RX6, "addValue", "(III)I"⟩
abbrev cX6_valueCount : ByteArray := prog_8_method_5_code
def yX6_valueCount : MethodName := ⟨RX6, "valueCount", "(II)I"⟩
abbrev cX6_valueAt : ByteArray := prog_8_method_6_code
def yX6_valueAt : MethodName := ⟨RX6, "valueAt", "(III)I"⟩
abbrev cX6_matching : ByteArray := prog_8_method_7_code
def yX6_matching : MethodName := ⟨RX6, "matching", "()I"⟩
abbrev cX6_hasWithin : ByteArray := prog_8_method_8_code
def yX6_hasWithin : MethodName := ⟨RX6, "hasWithin", "(IIII)Z"⟩
abbrev cX6_sumOf : ByteArray := prog_8_method_9_code
def yX6_sumOf : MethodName := ⟨RX6, "sumOf", "(II)J"⟩
def RX7 : String := "FacetFigures$ValueRow"
def TX7 : u_T := fun k => match k with
  | 0 => ("FacetFigures$ValueRow", "count", "I", false)
  | 1 => ("FacetFigures$ValueRow", "sorter", "LFacetFigures$Sorter;", true)
  | _ => ("FacetFigures$ValueRow", "values", "[J", true)
def tyX7 : Nat → FieldType := fun k => match k with
  | 0 => .int
  | 1 => .object "FacetFigures$Sorter"
  | _ => .array .long
theorem nmX7 : ∀ a, a < 3 → ∀ b, b < 3 → a ≠ b → (TX7 a).2.1 ≠ (TX7 b).2.1 := by decide +kernel
theorem tyX7_ok : ∀ k, k < 3 → parseFieldDescriptor (TX7 k).2.2.1 = some (tyX7 k) := by decide +kernel
abbrev cX7_init : ByteArray := prog_9_method_1_code
def yX7_init : MethodName := ⟨RX7, "<init>", "(LFacetFigures$Sorter;)V"⟩
abbrev cX7_startOver : ByteArray := prog_9_method_2_code
def yX7_startOver : MethodName := ⟨RX7, "startOver", "()V"⟩
abbrev cX7_take : ByteArray := prog_9_method_3_code
def yX7_take : MethodName := ⟨RX7, "take", "(LFacetFigures$Stock;II)V"⟩
abbrev cX7_tell : ByteArray := prog_9_method_4_code
def yX7_tell : MethodName := ⟨RX7, "tell", "(I)J"⟩
abbrev cX7_atPercent : ByteArray := prog_9_method_5_code
def yX7_atPercent : MethodName := ⟨RX7, "atPercent", "(I)I"⟩
abbrev cX7_atPlace : ByteArray := prog_9_method_6_code
def yX7_atPlace : MethodName := ⟨RX7, "atPlace", "(I)I"⟩
abbrev cX7_sum : ByteArray := prog_9_method_7_code
def yX7_sum : MethodName := ⟨RX7, "sum", "()J"⟩
abbrev cX7_different : ByteArray := prog_9_method_8_code
def yX7_different : MethodName := ⟨RX7, "different", "()I"⟩
def RX8 : String := "FacetFigures"
def TX8 : u_T := fun k => match k with
  | 0 => ("FacetFigures", "stock", "LFacetFigures$Stock;", true)
  | 1 => ("FacetFigures", "atHand", "LFacetFigures$Hand;", true)
  | 2 => ("FacetFigures", "facets", "[LFacetFigures$Facet;", true)
  | 3 => ("FacetFigures", "list", "LFacetFigures$GroupList;", true)
  | 4 => ("FacetFigures", "sample", "LFacetFigures$ValueRow;", true)
  | 5 => ("FacetFigures", "facetCount", "I", false)
  | _ => ("FacetFigures", "listed", "I", false)
def tyX8 : Nat → FieldType := fun k => match k with
  | 0 => .object "FacetFigures$Stock"
  | 1 => .object "FacetFigures$Hand"
  | 2 => .array (.object "FacetFigures$Facet")
  | 3 => .object "FacetFigures$GroupList"
  | 4 => .object "FacetFigures$ValueRow"
  | 5 => .int
  | _ => .int
theorem nmX8 : ∀ a, a < 7 → ∀ b, b < 7 → a ≠ b → (TX8 a).2.1 ≠ (TX8 b).2.1 := by decide +kernel
theorem tyX8_ok : ∀ k, k < 7 → parseFieldDescriptor (TX8 k).2.2.1 = some (tyX8 k) := by decide +kernel
abbrev cX8_init : ByteArray := prog_1_method_1_code
def yX8_init : MethodName := ⟨RX8, "<init>", "()V"⟩
abbrev cX8_object : ByteArray := prog_1_method_2_code
def yX8_object : MethodName := ⟨RX8, "object", "()I"⟩
abbrev cX8_value : ByteArray := prog_1_method_3_code
def yX8_value : MethodName := ⟨RX8, "value", "(III)I"⟩
abbrev cX8_match : ByteArray := prog_1_method_4_code
def yX8_match : MethodName := ⟨RX8, "match", "(IZ)I"⟩
abbrev cX8_clear : ByteArray := prog_1_method_5_code
def yX8_clear : MethodName := ⟨RX8, "clear", "()I"⟩
abbrev cX8_facet : ByteArray := prog_1_method_6_code
def yX8_facet : MethodName := ⟨RX8, "facet", "(IIII)I"⟩
abbrev cX8_range : ByteArray := prog_1_method_7_code
def yX8_range : MethodName := ⟨RX8, "range", "(III)I"⟩
abbrev cX8_filter : ByteArray := prog_1_method_8_code
def yX8_filter : MethodName := ⟨RX8, "filter", "(IIII)I"⟩
abbrev cX8_least : ByteArray := prog_1_method_9_code
def yX8_least : MethodName := ⟨RX8, "least", "(II)I"⟩
abbrev cX8_missing : ByteArray := prog_1_method_10_code
def yX8_missing : MethodName := ⟨RX8, "missing", "(IZ)I"⟩
abbrev cX8_order : ByteArray := prog_1_method_11_code
def yX8_order : MethodName := ⟨RX8, "order", "(III)I"⟩
abbrev cX8_groups : ByteArray := prog_1_method_12_code
def yX8_groups : MethodName := ⟨RX8, "groups", "(I)I"⟩
abbrev cX8_group : ByteArray := prog_1_method_13_code
def yX8_group : MethodName := ⟨RX8, "group", "(III)I"⟩
abbrev cX8_find : ByteArray := prog_1_method_14_code
def yX8_find : MethodName := ⟨RX8, "find", "(II)I"⟩
abbrev cX8_in : ByteArray := prog_1_method_15_code
def yX8_in : MethodName := ⟨RX8, "in", "(III)I"⟩
abbrev cX8_enter : ByteArray := prog_1_method_16_code
def yX8_enter : MethodName := ⟨RX8, "enter", "(II)I"⟩
abbrev cX8_leave : ByteArray := prog_1_method_17_code
def yX8_leave : MethodName := ⟨RX8, "leave", "()I"⟩
abbrev cX8_hand : ByteArray := prog_1_method_18_code
def yX8_hand : MethodName := ⟨RX8, "hand", "()I"⟩
abbrev cX8_figure : ByteArray := prog_1_method_19_code
def yX8_figure : MethodName := ⟨RX8, "figure", "(IIII)J"⟩
abbrev cX8_place : ByteArray := prog_1_method_20_code
def yX8_place : MethodName := ⟨RX8, "place", "(IIII)I"⟩
abbrev cX8_told : ByteArray := prog_1_method_21_code
def yX8_told : MethodName := ⟨RX8, "told", "(I)I"⟩
abbrev cX8_isColumn : ByteArray := prog_1_method_22_code
def yX8_isColumn : MethodName := ⟨RX8, "isColumn", "(I)Z"⟩
abbrev cX8_isValue : ByteArray := prog_1_method_23_code
def yX8_isValue : MethodName := ⟨RX8, "isValue", "(I)Z"⟩
abbrev cX8_facetAt : ByteArray := prog_1_method_24_code
def yX8_facetAt : MethodName := ⟨RX8, "facetAt", "(I)LFacetFigures$Facet;"⟩
abbrev cX8_leaveAll : ByteArray := prog_1_method_25_code
def yX8_leaveAll : MethodName := ⟨RX8, "leaveAll", "()V"⟩
abbrev cX8_groupsOf : ByteArray := prog_1_method_26_code
def yX8_groupsOf : MethodName := ⟨RX8, "groupsOf", "(I)LFacetFigures$GroupList;"⟩
abbrev cX8_sampleIsTaken : ByteArray := prog_1_method_27_code
def yX8_sampleIsTaken : MethodName := ⟨RX8, "sampleIsTaken", "(III)Z"⟩
def RX9 : String := "FacetFiguresModel"
def TX9 : u_T := fun k => match k with
  | 0 => ("FacetFiguresModel", "objects", "I", false)
  | 1 => ("FacetFiguresModel", "many", "[I", true)
  | 2 => ("FacetFiguresModel", "values", "[I", true)
  | 3 => ("FacetFiguresModel", "matches", "[Z", true)
  | 4 => ("FacetFiguresModel", "facets", "I", false)
  | 5 => ("FacetFiguresModel", "kinds", "[I", true)
  | 6 => ("FacetFiguresModel", "columns", "[I", true)
  | 7 => ("FacetFiguresModel", "as", "[I", true)
  | 8 => ("FacetFiguresModel", "bs", "[I", true)
  | 9 => ("FacetFiguresModel", "ranges", "[I", true)
  | 10 => ("FacetFiguresModel", "froms", "[I", true)
  | 11 => ("FacetFiguresModel", "tos", "[I", true)
  | 12 => ("FacetFiguresModel", "filters", "[I", true)
  | 13 => ("FacetFiguresModel", "filterFrom", "[I", true)
  | 14 => ("FacetFiguresModel", "filterTo", "[I", true)
  | 15 => ("FacetFiguresModel", "leasts", "[I", true)
  | 16 => ("FacetFiguresModel", "areAsked", "[Z", true)
  | 17 => ("FacetFiguresModel", "orders", "[I", true)
  | 18 => ("FacetFiguresModel", "orderColumns", "[I", true)
  | 19 => ("FacetFiguresModel", "deep", "I", false)
  | 20 => ("FacetFiguresModel", "hands", "[Z", true)
  | 21 => ("FacetFiguresModel", "given", "I", false)
  | 22 => ("FacetFiguresModel", "keys", "[I", true)
  | 23 => ("FacetFiguresModel", "groups", "I", false)
  | 24 => ("FacetFiguresModel", "groupKey", "[I", true)
  | 25 => ("FacetFiguresModel", "groupSize", "[I", true)
  | 26 => ("FacetFiguresModel", "groupSum", "[J", true)
  | 27 => ("FacetFiguresModel", "hasMissing", "Z", false)
  | 28 => ("FacetFiguresModel", "keyMany", "[I", true)
  | 29 => ("FacetFiguresModel", "keyOf", "[I", true)
  | 30 => ("FacetFiguresModel", "next", "[Z", true)
  | 31 => ("FacetFiguresModel", "rows", "I", false)
  | _ => ("FacetFiguresModel", "row", "[I", true)
def tyX9 : Nat → FieldType := fun k => match k with
  | 0 => .int
  | 1 => .array .int
  | 2 => .array .int
  | 3 => .array .boolean
  | 4 => .int
  | 5 => .array .int
  | 6 => .array .int
  | 7 => .array .int
  | 8 => .array .int
  | 9 => .array .int
  | 10 => .array .int
  | 11 => .array .int
  | 12 => .array .int
  | 13 => .array .int
  | 14 => .array .int
  | 15 => .array .int
  | 16 => .array .boolean
  | 17 => .array .int
  | 18 => .array .int
  | 19 => .int
  | 20 => .array .boolean
  | 21 => .int
  | 22 => .array .int
  | 23 => .int
  | 24 => .array .int
  | 25 => .array .int
  | 26 => .array .long
  | 27 => .boolean
  | 28 => .array .int
  | 29 => .array .int
  | 30 => .array .boolean
  | 31 => .int
  | _ => .array .int
theorem nmX9 : ∀ a, a < 33 → ∀ b, b < 33 → a ≠ b → (TX9 a).2.1 ≠ (TX9 b).2.1 := by decide +kernel
theorem tyX9_ok : ∀ k, k < 33 → parseFieldDescriptor (TX9 k).2.2.1 = some (tyX9 k) := by decide +kernel
abbrev cX9_init : ByteArray := prog_11_method_1_code
def yX9_init : MethodName := ⟨RX9, "<init>", "()V"⟩
abbrev cX9_within : ByteArray := prog_11_method_2_code
def yX9_within : MethodName := ⟨RX9, "within", "(III)Z"⟩
abbrev cX9_isObject : ByteArray := prog_11_method_3_code
def yX9_isObject : MethodName := ⟨RX9, "isObject", "(I)Z"⟩
abbrev cX9_isFacet : ByteArray := prog_11_method_4_code
def yX9_isFacet : MethodName := ⟨RX9, "isFacet", "(I)Z"⟩
abbrev cX9_isColumn : ByteArray := prog_11_method_5_code
def yX9_isColumn : MethodName := ⟨RX9, "isColumn", "(I)Z"⟩
abbrev cX9_isValue : ByteArray := prog_11_method_6_code
def yX9_isValue : MethodName := ⟨RX9, "isValue", "(I)Z"⟩
abbrev cX9_changes : ByteArray := prog_11_method_7_code
def yX9_changes : MethodName := ⟨RX9, "changes", "()V"⟩
abbrev cX9_object : ByteArray := prog_11_method_8_code
def yX9_object : MethodName := ⟨RX9, "object", "()I"⟩
abbrev cX9_value : ByteArray := prog_11_method_9_code
def yX9_value : MethodName := ⟨RX9, "value", "(III)I"⟩
abbrev cX9_match : ByteArray := prog_11_method_10_code
def yX9_match : MethodName := ⟨RX9, "match", "(IZ)I"⟩
abbrev cX9_clear : ByteArray := prog_11_method_11_code
def yX9_clear : MethodName := ⟨RX9, "clear", "()I"⟩
abbrev cX9_facet : ByteArray := prog_11_method_12_code
def yX9_facet : MethodName := ⟨RX9, "facet", "(IIII)I"⟩
abbrev cX9_range : ByteArray := prog_11_method_13_code
def yX9_range : MethodName := ⟨RX9, "range", "(III)I"⟩
abbrev cX9_filter : ByteArray := prog_11_method_14_code
def yX9_filter : MethodName := ⟨RX9, "filter", "(IIII)I"⟩
abbrev cX9_least : ByteArray := prog_11_method_15_code
def yX9_least : MethodName := ⟨RX9, "least", "(II)I"⟩
abbrev cX9_missing : ByteArray := prog_11_method_16_code
def yX9_missing : MethodName := ⟨RX9, "missing", "(IZ)I"⟩
abbrev cX9_order : ByteArray := prog_11_method_17_code
def yX9_order : MethodName := ⟨RX9, "order", "(III)I"⟩
abbrev cX9_give : ByteArray := prog_11_method_18_code
def yX9_give : MethodName := ⟨RX9, "give", "(I)V"⟩
abbrev cX9_givePaths : ByteArray := prog_11_method_19_code
def yX9_givePaths : MethodName := ⟨RX9, "givePaths", "(I)V"⟩
abbrev cX9_isLeap : ByteArray := prog_11_method_20_code
def yX9_isLeap : MethodName := ⟨RX9, "isLeap", "(I)Z"⟩
abbrev cX9_daysOf : ByteArray := prog_11_method_21_code
def yX9_daysOf : MethodName := ⟨RX9, "daysOf", "(II)I"⟩
abbrev cX9_behind : ByteArray := prog_11_method_22_code
def yX9_behind : MethodName := ⟨RX9, "behind", "(II)I"⟩
abbrev cX9_modulo : ByteArray := prog_11_method_23_code
def yX9_modulo : MethodName := ⟨RX9, "modulo", "(II)I"⟩
abbrev cX9_giveDays : ByteArray := prog_11_method_24_code
def yX9_giveDays : MethodName := ⟨RX9, "giveDays", "(II)V"⟩
abbrev cX9_giveKeys : ByteArray := prog_11_method_25_code
def yX9_giveKeys : MethodName := ⟨RX9, "giveKeys", "(II)V"⟩
abbrev cX9_atHand : ByteArray := prog_11_method_26_code
def yX9_atHand : MethodName := ⟨RX9, "atHand", "(I)Z"⟩
abbrev cX9_counts : ByteArray := prog_11_method_27_code
def yX9_counts : MethodName := ⟨RX9, "counts", "(II)Z"⟩
abbrev cX9_findKeysOf : ByteArray := prog_11_method_28_code
def yX9_findKeysOf : MethodName := ⟨RX9, "findKeysOf", "(II)V"⟩
abbrev cX9_hasKey : ByteArray := prog_11_method_29_code
def yX9_hasKey : MethodName := ⟨RX9, "hasKey", "(II)Z"⟩
abbrev cX9_sumOf : ByteArray := prog_11_method_30_code
def yX9_sumOf : MethodName := ⟨RX9, "sumOf", "(II)J"⟩
abbrev cX9_isNew : ByteArray := prog_11_method_31_code
def yX9_isNew : MethodName := ⟨RX9, "isNew", "(I)Z"⟩
abbrev cX9_findKeys : ByteArray := prog_11_method_32_code
def yX9_findKeys : MethodName := ⟨RX9, "findKeys", "(I)V"⟩
abbrev cX9_isIn : ByteArray := prog_11_method_33_code
def yX9_isIn : MethodName := ⟨RX9, "isIn", "(III)Z"⟩
abbrev cX9_measure : ByteArray := prog_11_method_34_code
def yX9_measure : MethodName := ⟨RX9, "measure", "(II)V"⟩
abbrev cX9_isBefore : ByteArray := prog_11_method_35_code
def yX9_isBefore : MethodName := ⟨RX9, "isBefore", "(III)Z"⟩
abbrev cX9_move : ByteArray := prog_11_method_36_code
def yX9_move : MethodName := ⟨RX9, "move", "(II)V"⟩
abbrev cX9_findGroups : ByteArray := prog_11_method_37_code
def yX9_findGroups : MethodName := ⟨RX9, "findGroups", "(I)V"⟩
abbrev cX9_isGroup : ByteArray := prog_11_method_38_code
def yX9_isGroup : MethodName := ⟨RX9, "isGroup", "(II)Z"⟩
abbrev cX9_groups : ByteArray := prog_11_method_39_code
def yX9_groups : MethodName := ⟨RX9, "groups", "(I)I"⟩
abbrev cX9_group : ByteArray := prog_11_method_40_code
def yX9_group : MethodName := ⟨RX9, "group", "(III)I"⟩
abbrev cX9_find : ByteArray := prog_11_method_41_code
def yX9_find : MethodName := ⟨RX9, "find", "(II)I"⟩
abbrev cX9_in : ByteArray := prog_11_method_42_code
def yX9_in : MethodName := ⟨RX9, "in", "(III)I"⟩
abbrev cX9_enter : ByteArray := prog_11_method_43_code
def yX9_enter : MethodName := ⟨RX9, "enter", "(II)I"⟩
abbrev cX9_leave : ByteArray := prog_11_method_44_code
def yX9_leave : MethodName := ⟨RX9, "leave", "()I"⟩
abbrev cX9_hand : ByteArray := prog_11_method_45_code
def yX9_hand : MethodName := ⟨RX9, "hand", "()I"⟩
abbrev cX9_findRow : ByteArray := prog_11_method_46_code
def yX9_findRow : MethodName := ⟨RX9, "findRow", "(III)Z"⟩
abbrev cX9_lay : ByteArray := prog_11_method_47_code
def yX9_lay : MethodName := ⟨RX9, "lay", "(I)V"⟩
abbrev cX9_figure : ByteArray := prog_11_method_48_code
def yX9_figure : MethodName := ⟨RX9, "figure", "(IIII)J"⟩
abbrev cX9_place : ByteArray := prog_11_method_49_code
def yX9_place : MethodName := ⟨RX9, "place", "(IIII)I"⟩
abbrev cX9_told : ByteArray := prog_11_method_50_code
def yX9_told : MethodName := ⟨RX9, "told", "(I)I"⟩
def RJ9 : String := "java/lang/Math"
def TJ9 : u_T := fun k => match k with
  | _ => ("", "", "", false)
def tyJ9 : Nat → FieldType := fun k => match k with
  | _ => .int
theorem nmJ9 : ∀ a, a < 0 → ∀ b, b < 0 → a ≠ b → (TJ9 a).2.1 ≠ (TJ9 b).2.1 := by decide +kernel
theorem tyJ9_ok : ∀ k, k < 0 → parseFieldDescriptor (TJ9 k).2.2.1 = some (tyJ9 k) := by decide +kernel
abbrev cJ9_floorMod_7cf53 : ByteArray := prog_12_method_50_code
def yJ9_floorMod_7cf53 : MethodName := ⟨RJ9, "floorMod", "(II)I"⟩
abbrev cJ9_max_7cf53 : ByteArray := prog_12_method_65_code
def yJ9_max_7cf53 : MethodName := ⟨RJ9, "max", "(II)I"⟩
abbrev cJ9_min_7cf53 : ByteArray := prog_12_method_69_code
def yJ9_min_7cf53 : MethodName := ⟨RJ9, "min", "(II)I"⟩
def RJ10 : String := "java/lang/System"
def TJ10 : u_T := fun k => match k with
  | _ => ("", "", "", false)
def tyJ10 : Nat → FieldType := fun k => match k with
  | _ => .int
theorem nmJ10 : ∀ a, a < 0 → ∀ b, b < 0 → a ≠ b → (TJ10 a).2.1 ≠ (TJ10 b).2.1 := by decide +kernel
theorem tyJ10_ok : ∀ k, k < 0 → parseFieldDescriptor (TJ10 k).2.2.1 = some (tyJ10 k) := by decide +kernel
def RL : String := "FacetFiguresLaw"
abbrev cL_law : ByteArray := code
def yL_law : MethodName := ⟨RL, "law", "([I)Z"⟩
end
section
theorem dX9_init_0 : decode cX9_init 0 = .ok (.aload_n 0, 1) := by decide +kernel
theorem dX9_init_1 : decode cX9_init 1 = .ok (.invokespecial 1, 3) := by decide +kernel
theorem dX9_init_4 : decode cX9_init 4 = .ok (.aload_n 0, 1) := by decide +kernel
theorem dX9_init_5 : decode cX9_init 5 = .ok (.sipush 720, 3) := by decide +kernel
theorem dX9_init_8 : decode cX9_init 8 = .ok (.newarray .int, 2) := by decide +kernel
theorem dX9_init_10 : decode cX9_init 10 = .ok (.putfield 7, 3) := by decide +kernel
theorem dX9_init_13 : decode cX9_init 13 = .ok (.aload_n 0, 1) := by decide +kernel
theorem dX9_init_14 : decode cX9_init 14 = .ok (.sipush 2160, 3) := by decide +kernel
theorem dX9_init_17 : decode cX9_init 17 = .ok (.newarray .int, 2) := by decide +kernel
theorem dX9_init_19 : decode cX9_init 19 = .ok (.putfield 13, 3) := by decide +kernel
theorem dX9_init_22 : decode cX9_init 22 = .ok (.aload_n 0, 1) := by decide +kernel
theorem dX9_init_23 : decode cX9_init 23 = .ok (.bipush 120, 2) := by decide +kernel
theorem dX9_init_25 : decode cX9_init 25 = .ok (.newarray .boolean, 2) := by decide +kernel
theorem dX9_init_27 : decode cX9_init 27 = .ok (.putfield 16, 3) := by decide +kernel
theorem dX9_init_30 : decode cX9_init 30 = .ok (.aload_n 0, 1) := by decide +kernel
theorem dX9_init_31 : decode cX9_init 31 = .ok (.bipush 10, 2) := by decide +kernel
theorem dX9_init_33 : decode cX9_init 33 = .ok (.newarray .int, 2) := by decide +kernel
theorem dX9_init_35 : decode cX9_init 35 = .ok (.putfield 20, 3) := by decide +kernel
theorem dX9_init_38 : decode cX9_init 38 = .ok (.aload_n 0, 1) := by decide +kernel
theorem dX9_init_39 : decode cX9_init 39 = .ok (.bipush 10, 2) := by decide +kernel
theorem dX9_init_41 : decode cX9_init 41 = .ok (.newarray .int, 2) := by decide +kernel
theorem dX9_init_43 : decode cX9_init 43 = .ok (.putfield 23, 3) := by decide +kernel
theorem dX9_init_46 : decode cX9_init 46 = .ok (.aload_n 0, 1) := by decide +kernel
theorem dX9_init_47 : decode cX9_init 47 = .ok (.bipush 10, 2) := by decide +kernel
theorem dX9_init_49 : decode cX9_init 49 = .ok (.newarray .int, 2) := by decide +kernel
theorem dX9_init_51 : decode cX9_init 51 = .ok (.putfield 26, 3) := by decide +kernel
theorem dX9_init_54 : decode cX9_init 54 = .ok (.aload_n 0, 1) := by decide +kernel
theorem dX9_init_55 : decode cX9_init 55 = .ok (.bipush 10, 2) := by decide +kernel
theorem dX9_init_57 : decode cX9_init 57 = .ok (.newarray .int, 2) := by decide +kernel
theorem dX9_init_59 : decode cX9_init 59 = .ok (.putfield 29, 3) := by decide +kernel
theorem dX9_init_62 : decode cX9_init 62 = .ok (.aload_n 0, 1) := by decide +kernel
theorem dX9_init_63 : decode cX9_init 63 = .ok (.bipush 10, 2) := by decide +kernel
theorem dX9_init_65 : decode cX9_init 65 = .ok (.newarray .int, 2) := by decide +kernel
theorem dX9_init_67 : decode cX9_init 67 = .ok (.putfield 32, 3) := by decide +kernel
theorem dX9_init_70 : decode cX9_init 70 = .ok (.aload_n 0, 1) := by decide +kernel
theorem dX9_init_71 : decode cX9_init 71 = .ok (.bipush 60, 2) := by decide +kernel
theorem dX9_init_73 : decode cX9_init 73 = .ok (.newarray .int, 2) := by decide +kernel
theorem dX9_init_75 : decode cX9_init 75 = .ok (.putfield 35, 3) := by decide +kernel
theorem dX9_init_78 : decode cX9_init 78 = .ok (.aload_n 0, 1) := by decide +kernel
theorem dX9_init_79 : decode cX9_init 79 = .ok (.bipush 60, 2) := by decide +kernel
theorem dX9_init_81 : decode cX9_init 81 = .ok (.newarray .int, 2) := by decide +kernel
theorem dX9_init_83 : decode cX9_init 83 = .ok (.putfield 38, 3) := by decide +kernel
theorem dX9_init_86 : decode cX9_init 86 = .ok (.aload_n 0, 1) := by decide +kernel
theorem dX9_init_87 : decode cX9_init 87 = .ok (.bipush 10, 2) := by decide +kernel
theorem dX9_init_89 : decode cX9_init 89 = .ok (.newarray .int, 2) := by decide +kernel
theorem dX9_init_91 : decode cX9_init 91 = .ok (.putfield 41, 3) := by decide +kernel
theorem dX9_init_94 : decode cX9_init 94 = .ok (.aload_n 0, 1) := by decide +kernel
theorem dX9_init_95 : decode cX9_init 95 = .ok (.bipush 10, 2) := by decide +kernel
theorem dX9_init_97 : decode cX9_init 97 = .ok (.newarray .int, 2) := by decide +kernel
theorem dX9_init_99 : decode cX9_init 99 = .ok (.putfield 44, 3) := by decide +kernel
theorem dX9_init_102 : decode cX9_init 102 = .ok (.aload_n 0, 1) := by decide +kernel
theorem dX9_init_103 : decode cX9_init 103 = .ok (.bipush 10, 2) := by decide +kernel
theorem dX9_init_105 : decode cX9_init 105 = .ok (.newarray .int, 2) := by decide +kernel
theorem dX9_init_107 : decode cX9_init 107 = .ok (.putfield 47, 3) := by decide +kernel
theorem dX9_init_110 : decode cX9_init 110 = .ok (.aload_n 0, 1) := by decide +kernel
theorem dX9_init_111 : decode cX9_init 111 = .ok (.bipush 10, 2) := by decide +kernel
theorem dX9_init_113 : decode cX9_init 113 = .ok (.newarray .int, 2) := by decide +kernel
theorem dX9_init_115 : decode cX9_init 115 = .ok (.putfield 50, 3) := by decide +kernel
theorem dX9_init_118 : decode cX9_init 118 = .ok (.aload_n 0, 1) := by decide +kernel
theorem dX9_init_119 : decode cX9_init 119 = .ok (.bipush 10, 2) := by decide +kernel
theorem dX9_init_121 : decode cX9_init 121 = .ok (.newarray .boolean, 2) := by decide +kernel
theorem dX9_init_123 : decode cX9_init 123 = .ok (.putfield 53, 3) := by decide +kernel
theorem dX9_init_126 : decode cX9_init 126 = .ok (.aload_n 0, 1) := by decide +kernel
theorem dX9_init_127 : decode cX9_init 127 = .ok (.bipush 10, 2) := by decide +kernel
theorem dX9_init_129 : decode cX9_init 129 = .ok (.newarray .int, 2) := by decide +kernel
theorem dX9_init_131 : decode cX9_init 131 = .ok (.putfield 56, 3) := by decide +kernel
theorem dX9_init_134 : decode cX9_init 134 = .ok (.aload_n 0, 1) := by decide +kernel
theorem dX9_init_135 : decode cX9_init 135 = .ok (.bipush 10, 2) := by decide +kernel
theorem dX9_init_137 : decode cX9_init 137 = .ok (.newarray .int, 2) := by decide +kernel
theorem dX9_init_139 : decode cX9_init 139 = .ok (.putfield 59, 3) := by decide +kernel
theorem dX9_init_142 : decode cX9_init 142 = .ok (.aload_n 0, 1) := by decide +kernel
theorem dX9_init_143 : decode cX9_init 143 = .ok (.sipush 840, 3) := by decide +kernel
theorem dX9_init_146 : decode cX9_init 146 = .ok (.newarray .boolean, 2) := by decide +kernel
theorem dX9_init_148 : decode cX9_init 148 = .ok (.putfield 62, 3) := by decide +kernel
theorem dX9_init_151 : decode cX9_init 151 = .ok (.aload_n 0, 1) := by decide +kernel
theorem dX9_init_152 : decode cX9_init 152 = .ok (.bipush 6, 2) := by decide +kernel
theorem dX9_init_154 : decode cX9_init 154 = .ok (.newarray .int, 2) := by decide +kernel
theorem dX9_init_156 : decode cX9_init 156 = .ok (.putfield 65, 3) := by decide +kernel
theorem dX9_init_159 : decode cX9_init 159 = .ok (.aload_n 0, 1) := by decide +kernel
theorem dX9_init_160 : decode cX9_init 160 = .ok (.sipush 1100, 3) := by decide +kernel
theorem dX9_init_163 : decode cX9_init 163 = .ok (.newarray .int, 2) := by decide +kernel
theorem dX9_init_165 : decode cX9_init 165 = .ok (.putfield 68, 3) := by decide +kernel
theorem dX9_init_168 : decode cX9_init 168 = .ok (.aload_n 0, 1) := by decide +kernel
theorem dX9_init_169 : decode cX9_init 169 = .ok (.sipush 1100, 3) := by decide +kernel
theorem dX9_init_172 : decode cX9_init 172 = .ok (.newarray .int, 2) := by decide +kernel
theorem dX9_init_174 : decode cX9_init 174 = .ok (.putfield 71, 3) := by decide +kernel
theorem dX9_init_177 : decode cX9_init 177 = .ok (.aload_n 0, 1) := by decide +kernel
theorem dX9_init_178 : decode cX9_init 178 = .ok (.sipush 1100, 3) := by decide +kernel
theorem dX9_init_181 : decode cX9_init 181 = .ok (.newarray .long, 2) := by decide +kernel
theorem dX9_init_183 : decode cX9_init 183 = .ok (.putfield 74, 3) := by decide +kernel
theorem dX9_init_186 : decode cX9_init 186 = .ok (.aload_n 0, 1) := by decide +kernel
theorem dX9_init_187 : decode cX9_init 187 = .ok (.bipush 120, 2) := by decide +kernel
theorem dX9_init_189 : decode cX9_init 189 = .ok (.newarray .int, 2) := by decide +kernel
theorem dX9_init_191 : decode cX9_init 191 = .ok (.putfield 78, 3) := by decide +kernel
theorem dX9_init_194 : decode cX9_init 194 = .ok (.aload_n 0, 1) := by decide +kernel
theorem dX9_init_195 : decode cX9_init 195 = .ok (.sipush 2160, 3) := by decide +kernel
theorem dX9_init_198 : decode cX9_init 198 = .ok (.newarray .int, 2) := by decide +kernel
theorem dX9_init_200 : decode cX9_init 200 = .ok (.putfield 81, 3) := by decide +kernel
theorem dX9_init_203 : decode cX9_init 203 = .ok (.aload_n 0, 1) := by decide +kernel
theorem dX9_init_204 : decode cX9_init 204 = .ok (.bipush 120, 2) := by decide +kernel
theorem dX9_init_206 : decode cX9_init 206 = .ok (.newarray .boolean, 2) := by decide +kernel
theorem dX9_init_208 : decode cX9_init 208 = .ok (.putfield 84, 3) := by decide +kernel
theorem dX9_init_211 : decode cX9_init 211 = .ok (.aload_n 0, 1) := by decide +kernel
theorem dX9_init_212 : decode cX9_init 212 = .ok (.sipush 360, 3) := by decide +kernel
theorem dX9_init_215 : decode cX9_init 215 = .ok (.newarray .int, 2) := by decide +kernel
theorem dX9_init_217 : decode cX9_init 217 = .ok (.putfield 87, 3) := by decide +kernel
theorem dX9_init_220 : decode cX9_init 220 = .ok (.return_, 1) := by decide +kernel
theorem dX9_within_0 : decode cX9_within 0 = .ok (.iload_n 0, 1) := by decide +kernel
theorem dX9_within_1 : decode cX9_within 1 = .ok (.iload_n 1, 1) := by decide +kernel
theorem dX9_within_2 : decode cX9_within 2 = .ok (.if_icmp .lt 12, 3) := by decide +kernel
theorem dX9_within_5 : decode cX9_within 5 = .ok (.iload_n 0, 1) := by decide +kernel
theorem dX9_within_6 : decode cX9_within 6 = .ok (.iload_n 2, 1) := by decide +kernel
theorem dX9_within_7 : decode cX9_within 7 = .ok (.if_icmp .gt 7, 3) := by decide +kernel
theorem dX9_within_10 : decode cX9_within 10 = .ok (.iconst 1, 1) := by decide +kernel
theorem dX9_within_11 : decode cX9_within 11 = .ok (.goto 4, 3) := by decide +kernel
theorem dX9_within_14 : decode cX9_within 14 = .ok (.iconst 0, 1) := by decide +kernel
theorem dX9_within_15 : decode cX9_within 15 = .ok (.ireturn, 1) := by decide +kernel
theorem dX9_isObject_0 : decode cX9_isObject 0 = .ok (.iload_n 1, 1) := by decide +kernel
theorem dX9_isObject_1 : decode cX9_isObject 1 = .ok (.iconst 0, 1) := by decide +kernel
theorem dX9_isObject_2 : decode cX9_isObject 2 = .ok (.aload_n 0, 1) := by decide +kernel
theorem dX9_isObject_3 : decode cX9_isObject 3 = .ok (.getfield 90, 3) := by decide +kernel
theorem dX9_isObject_6 : decode cX9_isObject 6 = .ok (.iconst 1, 1) := by decide +kernel
theorem dX9_isObject_7 : decode cX9_isObject 7 = .ok (.isub, 1) := by decide +kernel
theorem dX9_isObject_8 : decode cX9_isObject 8 = .ok (.invokestatic 94, 3) := by decide +kernel
theorem dX9_isObject_11 : decode cX9_isObject 11 = .ok (.ireturn, 1) := by decide +kernel
theorem dX9_isFacet_0 : decode cX9_isFacet 0 = .ok (.iload_n 1, 1) := by decide +kernel
theorem dX9_isFacet_1 : decode cX9_isFacet 1 = .ok (.iconst 0, 1) := by decide +kernel
theorem dX9_isFacet_2 : decode cX9_isFacet 2 = .ok (.aload_n 0, 1) := by decide +kernel
theorem dX9_isFacet_3 : decode cX9_isFacet 3 = .ok (.getfield 98, 3) := by decide +kernel
theorem dX9_isFacet_6 : decode cX9_isFacet 6 = .ok (.iconst 1, 1) := by decide +kernel
theorem dX9_isFacet_7 : decode cX9_isFacet 7 = .ok (.isub, 1) := by decide +kernel
theorem dX9_isFacet_8 : decode cX9_isFacet 8 = .ok (.invokestatic 94, 3) := by decide +kernel
theorem dX9_isFacet_11 : decode cX9_isFacet 11 = .ok (.ireturn, 1) := by decide +kernel
theorem dX9_isColumn_0 : decode cX9_isColumn 0 = .ok (.iload_n 0, 1) := by decide +kernel
theorem dX9_isColumn_1 : decode cX9_isColumn 1 = .ok (.iconst 0, 1) := by decide +kernel
theorem dX9_isColumn_2 : decode cX9_isColumn 2 = .ok (.iconst 5, 1) := by decide +kernel
theorem dX9_isColumn_3 : decode cX9_isColumn 3 = .ok (.invokestatic 94, 3) := by decide +kernel
theorem dX9_isColumn_6 : decode cX9_isColumn 6 = .ok (.ireturn, 1) := by decide +kernel
theorem dX9_isValue_0 : decode cX9_isValue 0 = .ok (.iload_n 0, 1) := by decide +kernel
theorem dX9_isValue_1 : decode cX9_isValue 1 = .ok (.ldc 101, 2) := by decide +kernel
theorem dX9_isValue_3 : decode cX9_isValue 3 = .ok (.ldc 102, 2) := by decide +kernel
theorem dX9_isValue_5 : decode cX9_isValue 5 = .ok (.invokestatic 94, 3) := by decide +kernel
theorem dX9_isValue_8 : decode cX9_isValue 8 = .ok (.ireturn, 1) := by decide +kernel
theorem dX9_changes_0 : decode cX9_changes 0 = .ok (.aload_n 0, 1) := by decide +kernel
theorem dX9_changes_1 : decode cX9_changes 1 = .ok (.iconst 0, 1) := by decide +kernel
theorem dX9_changes_2 : decode cX9_changes 2 = .ok (.putfield 103, 3) := by decide +kernel
theorem dX9_changes_5 : decode cX9_changes 5 = .ok (.return_, 1) := by decide +kernel
theorem dX9_object_0 : decode cX9_object 0 = .ok (.aload_n 0, 1) := by decide +kernel
theorem dX9_object_1 : decode cX9_object 1 = .ok (.getfield 90, 3) := by decide +kernel
theorem dX9_object_4 : decode cX9_object 4 = .ok (.bipush 120, 2) := by decide +kernel
theorem dX9_object_6 : decode cX9_object 6 = .ok (.if_icmp .ne 6, 3) := by decide +kernel
theorem dX9_object_9 : decode cX9_object 9 = .ok (.ldc 106, 2) := by decide +kernel
theorem dX9_object_11 : decode cX9_object 11 = .ok (.ireturn, 1) := by decide +kernel
theorem dX9_object_12 : decode cX9_object 12 = .ok (.iconst 0, 1) := by decide +kernel
theorem dX9_object_13 : decode cX9_object 13 = .ok (.istore_n 1, 1) := by decide +kernel
theorem dX9_object_14 : decode cX9_object 14 = .ok (.iload_n 1, 1) := by decide +kernel
theorem dX9_object_15 : decode cX9_object 15 = .ok (.bipush 6, 2) := by decide +kernel
theorem dX9_object_17 : decode cX9_object 17 = .ok (.if_icmp .ge 24, 3) := by decide +kernel
theorem dX9_object_20 : decode cX9_object 20 = .ok (.aload_n 0, 1) := by decide +kernel
theorem dX9_object_21 : decode cX9_object 21 = .ok (.getfield 7, 3) := by decide +kernel
theorem dX9_object_24 : decode cX9_object 24 = .ok (.bipush 6, 2) := by decide +kernel
theorem dX9_object_26 : decode cX9_object 26 = .ok (.aload_n 0, 1) := by decide +kernel
theorem dX9_object_27 : decode cX9_object 27 = .ok (.getfield 90, 3) := by decide +kernel
theorem dX9_object_30 : decode cX9_object 30 = .ok (.imul, 1) := by decide +kernel
theorem dX9_object_31 : decode cX9_object 31 = .ok (.iload_n 1, 1) := by decide +kernel
theorem dX9_object_32 : decode cX9_object 32 = .ok (.iadd, 1) := by decide +kernel
theorem dX9_object_33 : decode cX9_object 33 = .ok (.iconst 0, 1) := by decide +kernel
theorem dX9_object_34 : decode cX9_object 34 = .ok (.iastore, 1) := by decide +kernel
theorem dX9_object_35 : decode cX9_object 35 = .ok (.iinc 1 1, 3) := by decide +kernel
theorem dX9_object_38 : decode cX9_object 38 = .ok (.goto (-24), 3) := by decide +kernel
theorem dX9_object_41 : decode cX9_object 41 = .ok (.aload_n 0, 1) := by decide +kernel
theorem dX9_object_42 : decode cX9_object 42 = .ok (.getfield 16, 3) := by decide +kernel
theorem dX9_object_45 : decode cX9_object 45 = .ok (.aload_n 0, 1) := by decide +kernel
theorem dX9_object_46 : decode cX9_object 46 = .ok (.getfield 90, 3) := by decide +kernel
theorem dX9_object_49 : decode cX9_object 49 = .ok (.iconst 0, 1) := by decide +kernel
theorem dX9_object_50 : decode cX9_object 50 = .ok (.bastore, 1) := by decide +kernel
theorem dX9_object_51 : decode cX9_object 51 = .ok (.aload_n 0, 1) := by decide +kernel
theorem dX9_object_52 : decode cX9_object 52 = .ok (.dup, 1) := by decide +kernel
theorem dX9_object_53 : decode cX9_object 53 = .ok (.getfield 90, 3) := by decide +kernel
theorem dX9_object_56 : decode cX9_object 56 = .ok (.iconst 1, 1) := by decide +kernel
theorem dX9_object_57 : decode cX9_object 57 = .ok (.iadd, 1) := by decide +kernel
theorem dX9_object_58 : decode cX9_object 58 = .ok (.putfield 90, 3) := by decide +kernel
theorem dX9_object_61 : decode cX9_object 61 = .ok (.aload_n 0, 1) := by decide +kernel
theorem dX9_object_62 : decode cX9_object 62 = .ok (.invokevirtual 107, 3) := by decide +kernel
theorem dX9_object_65 : decode cX9_object 65 = .ok (.aload_n 0, 1) := by decide +kernel
theorem dX9_object_66 : decode cX9_object 66 = .ok (.getfield 90, 3) := by decide +kernel
theorem dX9_object_69 : decode cX9_object 69 = .ok (.iconst 1, 1) := by decide +kernel
theorem dX9_object_70 : decode cX9_object 70 = .ok (.isub, 1) := by decide +kernel
theorem dX9_object_71 : decode cX9_object 71 = .ok (.ireturn, 1) := by decide +kernel
theorem dX9_value_0 : decode cX9_value 0 = .ok (.aload_n 0, 1) := by decide +kernel
theorem dX9_value_1 : decode cX9_value 1 = .ok (.iload_n 1, 1) := by decide +kernel
theorem dX9_value_2 : decode cX9_value 2 = .ok (.invokevirtual 110, 3) := by decide +kernel
theorem dX9_value_5 : decode cX9_value 5 = .ok (.ifCond .eq 17, 3) := by decide +kernel
theorem dX9_value_8 : decode cX9_value 8 = .ok (.iload_n 2, 1) := by decide +kernel
theorem dX9_value_9 : decode cX9_value 9 = .ok (.invokestatic 114, 3) := by decide +kernel
theorem dX9_value_12 : decode cX9_value 12 = .ok (.ifCond .eq 10, 3) := by decide +kernel
theorem dX9_value_15 : decode cX9_value 15 = .ok (.iload_n 3, 1) := by decide +kernel
theorem dX9_value_16 : decode cX9_value 16 = .ok (.invokestatic 117, 3) := by decide +kernel
theorem dX9_value_19 : decode cX9_value 19 = .ok (.ifCond .ne 6, 3) := by decide +kernel
theorem dX9_value_22 : decode cX9_value 22 = .ok (.ldc 120, 2) := by decide +kernel
theorem dX9_value_24 : decode cX9_value 24 = .ok (.ireturn, 1) := by decide +kernel
theorem dX9_value_25 : decode cX9_value 25 = .ok (.bipush 6, 2) := by decide +kernel
theorem dX9_value_27 : decode cX9_value 27 = .ok (.iload_n 1, 1) := by decide +kernel
theorem dX9_value_28 : decode cX9_value 28 = .ok (.imul, 1) := by decide +kernel
theorem dX9_value_29 : decode cX9_value 29 = .ok (.iload_n 2, 1) := by decide +kernel
theorem dX9_value_30 : decode cX9_value 30 = .ok (.iadd, 1) := by decide +kernel
theorem dX9_value_31 : decode cX9_value 31 = .ok (.istore 4, 2) := by decide +kernel
theorem dX9_value_33 : decode cX9_value 33 = .ok (.aload_n 0, 1) := by decide +kernel
theorem dX9_value_34 : decode cX9_value 34 = .ok (.getfield 7, 3) := by decide +kernel
theorem dX9_value_37 : decode cX9_value 37 = .ok (.iload 4, 2) := by decide +kernel
theorem dX9_value_39 : decode cX9_value 39 = .ok (.iaload, 1) := by decide +kernel
theorem dX9_value_40 : decode cX9_value 40 = .ok (.iconst 3, 1) := by decide +kernel
theorem dX9_value_41 : decode cX9_value 41 = .ok (.if_icmp .ne 6, 3) := by decide +kernel
theorem dX9_value_44 : decode cX9_value 44 = .ok (.ldc 106, 2) := by decide +kernel
theorem dX9_value_46 : decode cX9_value 46 = .ok (.ireturn, 1) := by decide +kernel
theorem dX9_value_47 : decode cX9_value 47 = .ok (.aload_n 0, 1) := by decide +kernel
theorem dX9_value_48 : decode cX9_value 48 = .ok (.getfield 13, 3) := by decide +kernel
theorem dX9_value_51 : decode cX9_value 51 = .ok (.iconst 3, 1) := by decide +kernel
theorem dX9_value_52 : decode cX9_value 52 = .ok (.iload 4, 2) := by decide +kernel
theorem dX9_value_54 : decode cX9_value 54 = .ok (.imul, 1) := by decide +kernel
theorem dX9_value_55 : decode cX9_value 55 = .ok (.aload_n 0, 1) := by decide +kernel
theorem dX9_value_56 : decode cX9_value 56 = .ok (.getfield 7, 3) := by decide +kernel
theorem dX9_value_59 : decode cX9_value 59 = .ok (.iload 4, 2) := by decide +kernel
theorem dX9_value_61 : decode cX9_value 61 = .ok (.iaload, 1) := by decide +kernel
theorem dX9_value_62 : decode cX9_value 62 = .ok (.iadd, 1) := by decide +kernel
theorem dX9_value_63 : decode cX9_value 63 = .ok (.iload_n 3, 1) := by decide +kernel
theorem dX9_value_64 : decode cX9_value 64 = .ok (.iastore, 1) := by decide +kernel
theorem dX9_value_65 : decode cX9_value 65 = .ok (.aload_n 0, 1) := by decide +kernel
theorem dX9_value_66 : decode cX9_value 66 = .ok (.getfield 7, 3) := by decide +kernel
theorem dX9_value_69 : decode cX9_value 69 = .ok (.iload 4, 2) := by decide +kernel
theorem dX9_value_71 : decode cX9_value 71 = .ok (.dup2, 1) := by decide +kernel
theorem dX9_value_72 : decode cX9_value 72 = .ok (.iaload, 1) := by decide +kernel
theorem dX9_value_73 : decode cX9_value 73 = .ok (.iconst 1, 1) := by decide +kernel
theorem dX9_value_74 : decode cX9_value 74 = .ok (.iadd, 1) := by decide +kernel
theorem dX9_value_75 : decode cX9_value 75 = .ok (.iastore, 1) := by decide +kernel
theorem dX9_value_76 : decode cX9_value 76 = .ok (.aload_n 0, 1) := by decide +kernel
theorem dX9_value_77 : decode cX9_value 77 = .ok (.invokevirtual 107, 3) := by decide +kernel
theorem dX9_value_80 : decode cX9_value 80 = .ok (.aload_n 0, 1) := by decide +kernel
theorem dX9_value_81 : decode cX9_value 81 = .ok (.getfield 7, 3) := by decide +kernel
theorem dX9_value_84 : decode cX9_value 84 = .ok (.iload 4, 2) := by decide +kernel
theorem dX9_value_86 : decode cX9_value 86 = .ok (.iaload, 1) := by decide +kernel
theorem dX9_value_87 : decode cX9_value 87 = .ok (.ireturn, 1) := by decide +kernel
theorem dX9_match_0 : decode cX9_match 0 = .ok (.aload_n 0, 1) := by decide +kernel
theorem dX9_match_1 : decode cX9_match 1 = .ok (.iload_n 1, 1) := by decide +kernel
theorem dX9_match_2 : decode cX9_match 2 = .ok (.invokevirtual 110, 3) := by decide +kernel
theorem dX9_match_5 : decode cX9_match 5 = .ok (.ifCond .ne 6, 3) := by decide +kernel
theorem dX9_match_8 : decode cX9_match 8 = .ok (.ldc 120, 2) := by decide +kernel
theorem dX9_match_10 : decode cX9_match 10 = .ok (.ireturn, 1) := by decide +kernel
theorem dX9_match_11 : decode cX9_match 11 = .ok (.aload_n 0, 1) := by decide +kernel
theorem dX9_match_12 : decode cX9_match 12 = .ok (.getfield 16, 3) := by decide +kernel
theorem dX9_match_15 : decode cX9_match 15 = .ok (.iload_n 1, 1) := by decide +kernel
theorem dX9_match_16 : decode cX9_match 16 = .ok (.baload, 1) := by decide +kernel
theorem dX9_match_17 : decode cX9_match 17 = .ok (.ifCond .eq 7, 3) := by decide +kernel
theorem dX9_match_20 : decode cX9_match 20 = .ok (.iconst 1, 1) := by decide +kernel
theorem dX9_match_21 : decode cX9_match 21 = .ok (.goto 4, 3) := by decide +kernel
theorem dX9_match_24 : decode cX9_match 24 = .ok (.iconst 0, 1) := by decide +kernel
theorem dX9_match_25 : decode cX9_match 25 = .ok (.istore_n 3, 1) := by decide +kernel
theorem dX9_match_26 : decode cX9_match 26 = .ok (.aload_n 0, 1) := by decide +kernel
theorem dX9_match_27 : decode cX9_match 27 = .ok (.getfield 16, 3) := by decide +kernel
theorem dX9_match_30 : decode cX9_match 30 = .ok (.iload_n 1, 1) := by decide +kernel
theorem dX9_match_31 : decode cX9_match 31 = .ok (.iload_n 2, 1) := by decide +kernel
theorem dX9_match_32 : decode cX9_match 32 = .ok (.bastore, 1) := by decide +kernel
theorem dX9_match_33 : decode cX9_match 33 = .ok (.aload_n 0, 1) := by decide +kernel
theorem dX9_match_34 : decode cX9_match 34 = .ok (.invokevirtual 107, 3) := by decide +kernel
theorem dX9_match_37 : decode cX9_match 37 = .ok (.iload_n 3, 1) := by decide +kernel
theorem dX9_match_38 : decode cX9_match 38 = .ok (.ireturn, 1) := by decide +kernel
theorem dX9_clear_0 : decode cX9_clear 0 = .ok (.aload_n 0, 1) := by decide +kernel
theorem dX9_clear_1 : decode cX9_clear 1 = .ok (.getfield 90, 3) := by decide +kernel
theorem dX9_clear_4 : decode cX9_clear 4 = .ok (.istore_n 1, 1) := by decide +kernel
theorem dX9_clear_5 : decode cX9_clear 5 = .ok (.aload_n 0, 1) := by decide +kernel
theorem dX9_clear_6 : decode cX9_clear 6 = .ok (.iconst 0, 1) := by decide +kernel
theorem dX9_clear_7 : decode cX9_clear 7 = .ok (.putfield 90, 3) := by decide +kernel
theorem dX9_clear_10 : decode cX9_clear 10 = .ok (.aload_n 0, 1) := by decide +kernel
theorem dX9_clear_11 : decode cX9_clear 11 = .ok (.iconst 0, 1) := by decide +kernel
theorem dX9_clear_12 : decode cX9_clear 12 = .ok (.putfield 98, 3) := by decide +kernel
theorem dX9_clear_15 : decode cX9_clear 15 = .ok (.aload_n 0, 1) := by decide +kernel
theorem dX9_clear_16 : decode cX9_clear 16 = .ok (.invokevirtual 107, 3) := by decide +kernel
theorem dX9_clear_19 : decode cX9_clear 19 = .ok (.iload_n 1, 1) := by decide +kernel
theorem dX9_clear_20 : decode cX9_clear 20 = .ok (.ireturn, 1) := by decide +kernel
theorem dX9_facet_0 : decode cX9_facet 0 = .ok (.iload_n 1, 1) := by decide +kernel
theorem dX9_facet_1 : decode cX9_facet 1 = .ok (.iconst 3, 1) := by decide +kernel
theorem dX9_facet_2 : decode cX9_facet 2 = .ok (.if_icmp .ne 25, 3) := by decide +kernel
theorem dX9_facet_5 : decode cX9_facet 5 = .ok (.iload_n 3, 1) := by decide +kernel
theorem dX9_facet_6 : decode cX9_facet 6 = .ok (.iconst 1, 1) := by decide +kernel
theorem dX9_facet_7 : decode cX9_facet 7 = .ok (.ldc 121, 2) := by decide +kernel
theorem dX9_facet_9 : decode cX9_facet 9 = .ok (.invokestatic 94, 3) := by decide +kernel
theorem dX9_facet_12 : decode cX9_facet 12 = .ok (.ifCond .eq 19, 3) := by decide +kernel
theorem dX9_facet_15 : decode cX9_facet 15 = .ok (.iload 4, 2) := by decide +kernel
theorem dX9_facet_17 : decode cX9_facet 17 = .ok (.iconst 0, 1) := by decide +kernel
theorem dX9_facet_18 : decode cX9_facet 18 = .ok (.iload_n 3, 1) := by decide +kernel
theorem dX9_facet_19 : decode cX9_facet 19 = .ok (.iconst 1, 1) := by decide +kernel
theorem dX9_facet_20 : decode cX9_facet 20 = .ok (.isub, 1) := by decide +kernel
theorem dX9_facet_21 : decode cX9_facet 21 = .ok (.invokestatic 94, 3) := by decide +kernel
theorem dX9_facet_24 : decode cX9_facet 24 = .ok (.ifCond .eq 7, 3) := by decide +kernel
theorem dX9_facet_27 : decode cX9_facet 27 = .ok (.iconst 1, 1) := by decide +kernel
theorem dX9_facet_28 : decode cX9_facet 28 = .ok (.goto 4, 3) := by decide +kernel
theorem dX9_facet_31 : decode cX9_facet 31 = .ok (.iconst 0, 1) := by decide +kernel
theorem dX9_facet_32 : decode cX9_facet 32 = .ok (.istore 5, 2) := by decide +kernel
theorem dX9_facet_34 : decode cX9_facet 34 = .ok (.iload_n 1, 1) := by decide +kernel
theorem dX9_facet_35 : decode cX9_facet 35 = .ok (.iconst 0, 1) := by decide +kernel
theorem dX9_facet_36 : decode cX9_facet 36 = .ok (.iconst 4, 1) := by decide +kernel
theorem dX9_facet_37 : decode cX9_facet 37 = .ok (.invokestatic 94, 3) := by decide +kernel
theorem dX9_facet_40 : decode cX9_facet 40 = .ok (.ifCond .eq 29, 3) := by decide +kernel
theorem dX9_facet_43 : decode cX9_facet 43 = .ok (.iload_n 2, 1) := by decide +kernel
theorem dX9_facet_44 : decode cX9_facet 44 = .ok (.invokestatic 114, 3) := by decide +kernel
theorem dX9_facet_47 : decode cX9_facet 47 = .ok (.ifCond .eq 22, 3) := by decide +kernel
theorem dX9_facet_50 : decode cX9_facet 50 = .ok (.iload 5, 2) := by decide +kernel
theorem dX9_facet_52 : decode cX9_facet 52 = .ok (.ifCond .eq 17, 3) := by decide +kernel
theorem dX9_facet_55 : decode cX9_facet 55 = .ok (.iload_n 1, 1) := by decide +kernel
theorem dX9_facet_56 : decode cX9_facet 56 = .ok (.iconst 4, 1) := by decide +kernel
theorem dX9_facet_57 : decode cX9_facet 57 = .ok (.if_icmp .ne 15, 3) := by decide +kernel
theorem dX9_facet_60 : decode cX9_facet 60 = .ok (.iload_n 3, 1) := by decide +kernel
theorem dX9_facet_61 : decode cX9_facet 61 = .ok (.iconst 0, 1) := by decide +kernel
theorem dX9_facet_62 : decode cX9_facet 62 = .ok (.iconst 4, 1) := by decide +kernel
theorem dX9_facet_63 : decode cX9_facet 63 = .ok (.invokestatic 94, 3) := by decide +kernel
theorem dX9_facet_66 : decode cX9_facet 66 = .ok (.ifCond .ne 6, 3) := by decide +kernel
theorem dX9_facet_69 : decode cX9_facet 69 = .ok (.ldc 120, 2) := by decide +kernel
theorem dX9_facet_71 : decode cX9_facet 71 = .ok (.ireturn, 1) := by decide +kernel
theorem dX9_facet_72 : decode cX9_facet 72 = .ok (.aload_n 0, 1) := by decide +kernel
theorem dX9_facet_73 : decode cX9_facet 73 = .ok (.getfield 98, 3) := by decide +kernel
theorem dX9_facet_76 : decode cX9_facet 76 = .ok (.bipush 10, 2) := by decide +kernel
theorem dX9_facet_78 : decode cX9_facet 78 = .ok (.if_icmp .ne 6, 3) := by decide +kernel
theorem dX9_facet_81 : decode cX9_facet 81 = .ok (.ldc 106, 2) := by decide +kernel
theorem dX9_facet_83 : decode cX9_facet 83 = .ok (.ireturn, 1) := by decide +kernel
theorem dX9_facet_84 : decode cX9_facet 84 = .ok (.aload_n 0, 1) := by decide +kernel
theorem dX9_facet_85 : decode cX9_facet 85 = .ok (.getfield 20, 3) := by decide +kernel
theorem dX9_facet_88 : decode cX9_facet 88 = .ok (.aload_n 0, 1) := by decide +kernel
theorem dX9_facet_89 : decode cX9_facet 89 = .ok (.getfield 98, 3) := by decide +kernel
theorem dX9_facet_92 : decode cX9_facet 92 = .ok (.iload_n 1, 1) := by decide +kernel
theorem dX9_facet_93 : decode cX9_facet 93 = .ok (.iastore, 1) := by decide +kernel
theorem dX9_facet_94 : decode cX9_facet 94 = .ok (.aload_n 0, 1) := by decide +kernel
theorem dX9_facet_95 : decode cX9_facet 95 = .ok (.getfield 23, 3) := by decide +kernel
theorem dX9_facet_98 : decode cX9_facet 98 = .ok (.aload_n 0, 1) := by decide +kernel
theorem dX9_facet_99 : decode cX9_facet 99 = .ok (.getfield 98, 3) := by decide +kernel
theorem dX9_facet_102 : decode cX9_facet 102 = .ok (.iload_n 2, 1) := by decide +kernel
theorem dX9_facet_103 : decode cX9_facet 103 = .ok (.iastore, 1) := by decide +kernel
theorem dX9_facet_104 : decode cX9_facet 104 = .ok (.aload_n 0, 1) := by decide +kernel
theorem dX9_facet_105 : decode cX9_facet 105 = .ok (.getfield 26, 3) := by decide +kernel
theorem dX9_facet_108 : decode cX9_facet 108 = .ok (.aload_n 0, 1) := by decide +kernel
theorem dX9_facet_109 : decode cX9_facet 109 = .ok (.getfield 98, 3) := by decide +kernel
theorem dX9_facet_112 : decode cX9_facet 112 = .ok (.iload_n 3, 1) := by decide +kernel
theorem dX9_facet_113 : decode cX9_facet 113 = .ok (.iastore, 1) := by decide +kernel
theorem dX9_facet_114 : decode cX9_facet 114 = .ok (.aload_n 0, 1) := by decide +kernel
theorem dX9_facet_115 : decode cX9_facet 115 = .ok (.getfield 29, 3) := by decide +kernel
theorem dX9_facet_118 : decode cX9_facet 118 = .ok (.aload_n 0, 1) := by decide +kernel
theorem dX9_facet_119 : decode cX9_facet 119 = .ok (.getfield 98, 3) := by decide +kernel
theorem dX9_facet_122 : decode cX9_facet 122 = .ok (.iload 4, 2) := by decide +kernel
theorem dX9_facet_124 : decode cX9_facet 124 = .ok (.iastore, 1) := by decide +kernel
theorem dX9_facet_125 : decode cX9_facet 125 = .ok (.aload_n 0, 1) := by decide +kernel
theorem dX9_facet_126 : decode cX9_facet 126 = .ok (.getfield 32, 3) := by decide +kernel
theorem dX9_facet_129 : decode cX9_facet 129 = .ok (.aload_n 0, 1) := by decide +kernel
theorem dX9_facet_130 : decode cX9_facet 130 = .ok (.getfield 98, 3) := by decide +kernel
theorem dX9_facet_133 : decode cX9_facet 133 = .ok (.iconst 0, 1) := by decide +kernel
theorem dX9_facet_134 : decode cX9_facet 134 = .ok (.iastore, 1) := by decide +kernel
theorem dX9_facet_135 : decode cX9_facet 135 = .ok (.aload_n 0, 1) := by decide +kernel
theorem dX9_facet_136 : decode cX9_facet 136 = .ok (.getfield 41, 3) := by decide +kernel
theorem dX9_facet_139 : decode cX9_facet 139 = .ok (.aload_n 0, 1) := by decide +kernel
theorem dX9_facet_140 : decode cX9_facet 140 = .ok (.getfield 98, 3) := by decide +kernel
theorem dX9_facet_143 : decode cX9_facet 143 = .ok (.ldc 122, 2) := by decide +kernel
theorem dX9_facet_145 : decode cX9_facet 145 = .ok (.iastore, 1) := by decide +kernel
theorem dX9_facet_146 : decode cX9_facet 146 = .ok (.aload_n 0, 1) := by decide +kernel
theorem dX9_facet_147 : decode cX9_facet 147 = .ok (.getfield 50, 3) := by decide +kernel
theorem dX9_facet_150 : decode cX9_facet 150 = .ok (.aload_n 0, 1) := by decide +kernel
theorem dX9_facet_151 : decode cX9_facet 151 = .ok (.getfield 98, 3) := by decide +kernel
theorem dX9_facet_154 : decode cX9_facet 154 = .ok (.iconst 1, 1) := by decide +kernel
theorem dX9_facet_155 : decode cX9_facet 155 = .ok (.iastore, 1) := by decide +kernel
theorem dX9_facet_156 : decode cX9_facet 156 = .ok (.aload_n 0, 1) := by decide +kernel
theorem dX9_facet_157 : decode cX9_facet 157 = .ok (.getfield 53, 3) := by decide +kernel
theorem dX9_facet_160 : decode cX9_facet 160 = .ok (.aload_n 0, 1) := by decide +kernel
theorem dX9_facet_161 : decode cX9_facet 161 = .ok (.getfield 98, 3) := by decide +kernel
theorem dX9_facet_164 : decode cX9_facet 164 = .ok (.iconst 0, 1) := by decide +kernel
theorem dX9_facet_165 : decode cX9_facet 165 = .ok (.bastore, 1) := by decide +kernel
theorem dX9_facet_166 : decode cX9_facet 166 = .ok (.aload_n 0, 1) := by decide +kernel
theorem dX9_facet_167 : decode cX9_facet 167 = .ok (.getfield 56, 3) := by decide +kernel
theorem dX9_facet_170 : decode cX9_facet 170 = .ok (.aload_n 0, 1) := by decide +kernel
theorem dX9_facet_171 : decode cX9_facet 171 = .ok (.getfield 98, 3) := by decide +kernel
theorem dX9_facet_174 : decode cX9_facet 174 = .ok (.iconst 0, 1) := by decide +kernel
theorem dX9_facet_175 : decode cX9_facet 175 = .ok (.iastore, 1) := by decide +kernel
theorem dX9_facet_176 : decode cX9_facet 176 = .ok (.aload_n 0, 1) := by decide +kernel
theorem dX9_facet_177 : decode cX9_facet 177 = .ok (.dup, 1) := by decide +kernel
theorem dX9_facet_178 : decode cX9_facet 178 = .ok (.getfield 98, 3) := by decide +kernel
theorem dX9_facet_181 : decode cX9_facet 181 = .ok (.iconst 1, 1) := by decide +kernel
theorem dX9_facet_182 : decode cX9_facet 182 = .ok (.iadd, 1) := by decide +kernel
theorem dX9_facet_183 : decode cX9_facet 183 = .ok (.putfield 98, 3) := by decide +kernel
theorem dX9_facet_186 : decode cX9_facet 186 = .ok (.aload_n 0, 1) := by decide +kernel
theorem dX9_facet_187 : decode cX9_facet 187 = .ok (.invokevirtual 107, 3) := by decide +kernel
theorem dX9_facet_190 : decode cX9_facet 190 = .ok (.aload_n 0, 1) := by decide +kernel
theorem dX9_facet_191 : decode cX9_facet 191 = .ok (.getfield 98, 3) := by decide +kernel
theorem dX9_facet_194 : decode cX9_facet 194 = .ok (.iconst 1, 1) := by decide +kernel
theorem dX9_facet_195 : decode cX9_facet 195 = .ok (.isub, 1) := by decide +kernel
theorem dX9_facet_196 : decode cX9_facet 196 = .ok (.ireturn, 1) := by decide +kernel
theorem dX9_range_0 : decode cX9_range 0 = .ok (.aload_n 0, 1) := by decide +kernel
theorem dX9_range_1 : decode cX9_range 1 = .ok (.iload_n 1, 1) := by decide +kernel
theorem dX9_range_2 : decode cX9_range 2 = .ok (.invokevirtual 123, 3) := by decide +kernel
theorem dX9_range_5 : decode cX9_range 5 = .ok (.ifCond .eq 22, 3) := by decide +kernel
theorem dX9_range_8 : decode cX9_range 8 = .ok (.iload_n 2, 1) := by decide +kernel
theorem dX9_range_9 : decode cX9_range 9 = .ok (.invokestatic 117, 3) := by decide +kernel
theorem dX9_range_12 : decode cX9_range 12 = .ok (.ifCond .eq 15, 3) := by decide +kernel
theorem dX9_range_15 : decode cX9_range 15 = .ok (.iload_n 3, 1) := by decide +kernel
theorem dX9_range_16 : decode cX9_range 16 = .ok (.invokestatic 117, 3) := by decide +kernel
theorem dX9_range_19 : decode cX9_range 19 = .ok (.ifCond .eq 8, 3) := by decide +kernel
theorem dX9_range_22 : decode cX9_range 22 = .ok (.iload_n 2, 1) := by decide +kernel
theorem dX9_range_23 : decode cX9_range 23 = .ok (.iload_n 3, 1) := by decide +kernel
theorem dX9_range_24 : decode cX9_range 24 = .ok (.if_icmp .le 6, 3) := by decide +kernel
theorem dX9_range_27 : decode cX9_range 27 = .ok (.ldc 120, 2) := by decide +kernel
theorem dX9_range_29 : decode cX9_range 29 = .ok (.ireturn, 1) := by decide +kernel
theorem dX9_range_30 : decode cX9_range 30 = .ok (.aload_n 0, 1) := by decide +kernel
theorem dX9_range_31 : decode cX9_range 31 = .ok (.getfield 20, 3) := by decide +kernel
theorem dX9_range_34 : decode cX9_range 34 = .ok (.iload_n 1, 1) := by decide +kernel
theorem dX9_range_35 : decode cX9_range 35 = .ok (.iaload, 1) := by decide +kernel
theorem dX9_range_36 : decode cX9_range 36 = .ok (.iconst 2, 1) := by decide +kernel
theorem dX9_range_37 : decode cX9_range 37 = .ok (.if_icmp .eq 6, 3) := by decide +kernel
theorem dX9_range_40 : decode cX9_range 40 = .ok (.ldc 126, 2) := by decide +kernel
theorem dX9_range_42 : decode cX9_range 42 = .ok (.ireturn, 1) := by decide +kernel
theorem dX9_range_43 : decode cX9_range 43 = .ok (.aload_n 0, 1) := by decide +kernel
theorem dX9_range_44 : decode cX9_range 44 = .ok (.getfield 32, 3) := by decide +kernel
theorem dX9_range_47 : decode cX9_range 47 = .ok (.iload_n 1, 1) := by decide +kernel
theorem dX9_range_48 : decode cX9_range 48 = .ok (.iaload, 1) := by decide +kernel
theorem dX9_range_49 : decode cX9_range 49 = .ok (.bipush 6, 2) := by decide +kernel
theorem dX9_range_51 : decode cX9_range 51 = .ok (.if_icmp .ne 6, 3) := by decide +kernel
theorem dX9_range_54 : decode cX9_range 54 = .ok (.ldc 106, 2) := by decide +kernel
theorem dX9_range_56 : decode cX9_range 56 = .ok (.ireturn, 1) := by decide +kernel
theorem dX9_range_57 : decode cX9_range 57 = .ok (.aload_n 0, 1) := by decide +kernel
theorem dX9_range_58 : decode cX9_range 58 = .ok (.getfield 35, 3) := by decide +kernel
theorem dX9_range_61 : decode cX9_range 61 = .ok (.bipush 6, 2) := by decide +kernel
theorem dX9_range_63 : decode cX9_range 63 = .ok (.iload_n 1, 1) := by decide +kernel
theorem dX9_range_64 : decode cX9_range 64 = .ok (.imul, 1) := by decide +kernel
theorem dX9_range_65 : decode cX9_range 65 = .ok (.aload_n 0, 1) := by decide +kernel
theorem dX9_range_66 : decode cX9_range 66 = .ok (.getfield 32, 3) := by decide +kernel
theorem dX9_range_69 : decode cX9_range 69 = .ok (.iload_n 1, 1) := by decide +kernel
theorem dX9_range_70 : decode cX9_range 70 = .ok (.iaload, 1) := by decide +kernel
theorem dX9_range_71 : decode cX9_range 71 = .ok (.iadd, 1) := by decide +kernel
theorem dX9_range_72 : decode cX9_range 72 = .ok (.iload_n 2, 1) := by decide +kernel
theorem dX9_range_73 : decode cX9_range 73 = .ok (.iastore, 1) := by decide +kernel
theorem dX9_range_74 : decode cX9_range 74 = .ok (.aload_n 0, 1) := by decide +kernel
theorem dX9_range_75 : decode cX9_range 75 = .ok (.getfield 38, 3) := by decide +kernel
theorem dX9_range_78 : decode cX9_range 78 = .ok (.bipush 6, 2) := by decide +kernel
theorem dX9_range_80 : decode cX9_range 80 = .ok (.iload_n 1, 1) := by decide +kernel
theorem dX9_range_81 : decode cX9_range 81 = .ok (.imul, 1) := by decide +kernel
theorem dX9_range_82 : decode cX9_range 82 = .ok (.aload_n 0, 1) := by decide +kernel
theorem dX9_range_83 : decode cX9_range 83 = .ok (.getfield 32, 3) := by decide +kernel
theorem dX9_range_86 : decode cX9_range 86 = .ok (.iload_n 1, 1) := by decide +kernel
theorem dX9_range_87 : decode cX9_range 87 = .ok (.iaload, 1) := by decide +kernel
theorem dX9_range_88 : decode cX9_range 88 = .ok (.iadd, 1) := by decide +kernel
theorem dX9_range_89 : decode cX9_range 89 = .ok (.iload_n 3, 1) := by decide +kernel
theorem dX9_range_90 : decode cX9_range 90 = .ok (.iastore, 1) := by decide +kernel
theorem dX9_range_91 : decode cX9_range 91 = .ok (.aload_n 0, 1) := by decide +kernel
theorem dX9_range_92 : decode cX9_range 92 = .ok (.getfield 32, 3) := by decide +kernel
theorem dX9_range_95 : decode cX9_range 95 = .ok (.iload_n 1, 1) := by decide +kernel
theorem dX9_range_96 : decode cX9_range 96 = .ok (.dup2, 1) := by decide +kernel
theorem dX9_range_97 : decode cX9_range 97 = .ok (.iaload, 1) := by decide +kernel
theorem dX9_range_98 : decode cX9_range 98 = .ok (.iconst 1, 1) := by decide +kernel
theorem dX9_range_99 : decode cX9_range 99 = .ok (.iadd, 1) := by decide +kernel
theorem dX9_range_100 : decode cX9_range 100 = .ok (.iastore, 1) := by decide +kernel
theorem dX9_range_101 : decode cX9_range 101 = .ok (.aload_n 0, 1) := by decide +kernel
theorem dX9_range_102 : decode cX9_range 102 = .ok (.invokevirtual 107, 3) := by decide +kernel
theorem dX9_range_105 : decode cX9_range 105 = .ok (.aload_n 0, 1) := by decide +kernel
theorem dX9_range_106 : decode cX9_range 106 = .ok (.getfield 32, 3) := by decide +kernel
theorem dX9_range_109 : decode cX9_range 109 = .ok (.iload_n 1, 1) := by decide +kernel
theorem dX9_range_110 : decode cX9_range 110 = .ok (.iaload, 1) := by decide +kernel
theorem dX9_range_111 : decode cX9_range 111 = .ok (.iconst 1, 1) := by decide +kernel
theorem dX9_range_112 : decode cX9_range 112 = .ok (.isub, 1) := by decide +kernel
theorem dX9_range_113 : decode cX9_range 113 = .ok (.ireturn, 1) := by decide +kernel
theorem dX9_filter_0 : decode cX9_filter 0 = .ok (.aload_n 0, 1) := by decide +kernel
theorem dX9_filter_1 : decode cX9_filter 1 = .ok (.iload_n 1, 1) := by decide +kernel
theorem dX9_filter_2 : decode cX9_filter 2 = .ok (.invokevirtual 123, 3) := by decide +kernel
theorem dX9_filter_5 : decode cX9_filter 5 = .ok (.ifCond .eq 22, 3) := by decide +kernel
theorem dX9_filter_8 : decode cX9_filter 8 = .ok (.iload_n 2, 1) := by decide +kernel
theorem dX9_filter_9 : decode cX9_filter 9 = .ok (.ldc 122, 2) := by decide +kernel
theorem dX9_filter_11 : decode cX9_filter 11 = .ok (.if_icmp .eq 19, 3) := by decide +kernel
theorem dX9_filter_14 : decode cX9_filter 14 = .ok (.iload_n 2, 1) := by decide +kernel
theorem dX9_filter_15 : decode cX9_filter 15 = .ok (.invokestatic 114, 3) := by decide +kernel
theorem dX9_filter_18 : decode cX9_filter 18 = .ok (.ifCond .eq 9, 3) := by decide +kernel
theorem dX9_filter_21 : decode cX9_filter 21 = .ok (.iload_n 3, 1) := by decide +kernel
theorem dX9_filter_22 : decode cX9_filter 22 = .ok (.iload 4, 2) := by decide +kernel
theorem dX9_filter_24 : decode cX9_filter 24 = .ok (.if_icmp .le 6, 3) := by decide +kernel
theorem dX9_filter_27 : decode cX9_filter 27 = .ok (.ldc 120, 2) := by decide +kernel
theorem dX9_filter_29 : decode cX9_filter 29 = .ok (.ireturn, 1) := by decide +kernel
theorem dX9_filter_30 : decode cX9_filter 30 = .ok (.aload_n 0, 1) := by decide +kernel
theorem dX9_filter_31 : decode cX9_filter 31 = .ok (.getfield 41, 3) := by decide +kernel
theorem dX9_filter_34 : decode cX9_filter 34 = .ok (.iload_n 1, 1) := by decide +kernel
theorem dX9_filter_35 : decode cX9_filter 35 = .ok (.iaload, 1) := by decide +kernel
theorem dX9_filter_36 : decode cX9_filter 36 = .ok (.ldc 122, 2) := by decide +kernel
theorem dX9_filter_38 : decode cX9_filter 38 = .ok (.if_icmp .ne 7, 3) := by decide +kernel
theorem dX9_filter_41 : decode cX9_filter 41 = .ok (.iconst 0, 1) := by decide +kernel
theorem dX9_filter_42 : decode cX9_filter 42 = .ok (.goto 4, 3) := by decide +kernel
theorem dX9_filter_45 : decode cX9_filter 45 = .ok (.iconst 1, 1) := by decide +kernel
theorem dX9_filter_46 : decode cX9_filter 46 = .ok (.istore 5, 2) := by decide +kernel
theorem dX9_filter_48 : decode cX9_filter 48 = .ok (.aload_n 0, 1) := by decide +kernel
theorem dX9_filter_49 : decode cX9_filter 49 = .ok (.getfield 41, 3) := by decide +kernel
theorem dX9_filter_52 : decode cX9_filter 52 = .ok (.iload_n 1, 1) := by decide +kernel
theorem dX9_filter_53 : decode cX9_filter 53 = .ok (.iload_n 2, 1) := by decide +kernel
theorem dX9_filter_54 : decode cX9_filter 54 = .ok (.iastore, 1) := by decide +kernel
theorem dX9_filter_55 : decode cX9_filter 55 = .ok (.aload_n 0, 1) := by decide +kernel
theorem dX9_filter_56 : decode cX9_filter 56 = .ok (.getfield 44, 3) := by decide +kernel
theorem dX9_filter_59 : decode cX9_filter 59 = .ok (.iload_n 1, 1) := by decide +kernel
theorem dX9_filter_60 : decode cX9_filter 60 = .ok (.iload_n 3, 1) := by decide +kernel
theorem dX9_filter_61 : decode cX9_filter 61 = .ok (.iastore, 1) := by decide +kernel
theorem dX9_filter_62 : decode cX9_filter 62 = .ok (.aload_n 0, 1) := by decide +kernel
theorem dX9_filter_63 : decode cX9_filter 63 = .ok (.getfield 47, 3) := by decide +kernel
theorem dX9_filter_66 : decode cX9_filter 66 = .ok (.iload_n 1, 1) := by decide +kernel
theorem dX9_filter_67 : decode cX9_filter 67 = .ok (.iload 4, 2) := by decide +kernel
theorem dX9_filter_69 : decode cX9_filter 69 = .ok (.iastore, 1) := by decide +kernel
theorem dX9_filter_70 : decode cX9_filter 70 = .ok (.aload_n 0, 1) := by decide +kernel
theorem dX9_filter_71 : decode cX9_filter 71 = .ok (.invokevirtual 107, 3) := by decide +kernel
theorem dX9_filter_74 : decode cX9_filter 74 = .ok (.iload 5, 2) := by decide +kernel
theorem dX9_filter_76 : decode cX9_filter 76 = .ok (.ireturn, 1) := by decide +kernel
theorem dX9_least_0 : decode cX9_least 0 = .ok (.aload_n 0, 1) := by decide +kernel
theorem dX9_least_1 : decode cX9_least 1 = .ok (.iload_n 1, 1) := by decide +kernel
theorem dX9_least_2 : decode cX9_least 2 = .ok (.invokevirtual 123, 3) := by decide +kernel
theorem dX9_least_5 : decode cX9_least 5 = .ok (.ifCond .eq 13, 3) := by decide +kernel
theorem dX9_least_8 : decode cX9_least 8 = .ok (.iload_n 2, 1) := by decide +kernel
theorem dX9_least_9 : decode cX9_least 9 = .ok (.iconst 0, 1) := by decide +kernel
theorem dX9_least_10 : decode cX9_least 10 = .ok (.bipush 120, 2) := by decide +kernel
theorem dX9_least_12 : decode cX9_least 12 = .ok (.invokestatic 94, 3) := by decide +kernel
theorem dX9_least_15 : decode cX9_least 15 = .ok (.ifCond .ne 6, 3) := by decide +kernel
theorem dX9_least_18 : decode cX9_least 18 = .ok (.ldc 120, 2) := by decide +kernel
theorem dX9_least_20 : decode cX9_least 20 = .ok (.ireturn, 1) := by decide +kernel
theorem dX9_least_21 : decode cX9_least 21 = .ok (.aload_n 0, 1) := by decide +kernel
theorem dX9_least_22 : decode cX9_least 22 = .ok (.getfield 50, 3) := by decide +kernel
theorem dX9_least_25 : decode cX9_least 25 = .ok (.iload_n 1, 1) := by decide +kernel
theorem dX9_least_26 : decode cX9_least 26 = .ok (.iaload, 1) := by decide +kernel
theorem dX9_least_27 : decode cX9_least 27 = .ok (.istore_n 3, 1) := by decide +kernel
theorem dX9_least_28 : decode cX9_least 28 = .ok (.aload_n 0, 1) := by decide +kernel
theorem dX9_least_29 : decode cX9_least 29 = .ok (.getfield 50, 3) := by decide +kernel
theorem dX9_least_32 : decode cX9_least 32 = .ok (.iload_n 1, 1) := by decide +kernel
theorem dX9_least_33 : decode cX9_least 33 = .ok (.iload_n 2, 1) := by decide +kernel
theorem dX9_least_34 : decode cX9_least 34 = .ok (.iastore, 1) := by decide +kernel
theorem dX9_least_35 : decode cX9_least 35 = .ok (.aload_n 0, 1) := by decide +kernel
theorem dX9_least_36 : decode cX9_least 36 = .ok (.invokevirtual 107, 3) := by decide +kernel
theorem dX9_least_39 : decode cX9_least 39 = .ok (.iload_n 3, 1) := by decide +kernel
theorem dX9_least_40 : decode cX9_least 40 = .ok (.ireturn, 1) := by decide +kernel
theorem dX9_missing_0 : decode cX9_missing 0 = .ok (.aload_n 0, 1) := by decide +kernel
theorem dX9_missing_1 : decode cX9_missing 1 = .ok (.iload_n 1, 1) := by decide +kernel
theorem dX9_missing_2 : decode cX9_missing 2 = .ok (.invokevirtual 123, 3) := by decide +kernel
theorem dX9_missing_5 : decode cX9_missing 5 = .ok (.ifCond .ne 6, 3) := by decide +kernel
theorem dX9_missing_8 : decode cX9_missing 8 = .ok (.ldc 120, 2) := by decide +kernel
theorem dX9_missing_10 : decode cX9_missing 10 = .ok (.ireturn, 1) := by decide +kernel
theorem dX9_missing_11 : decode cX9_missing 11 = .ok (.aload_n 0, 1) := by decide +kernel
theorem dX9_missing_12 : decode cX9_missing 12 = .ok (.getfield 53, 3) := by decide +kernel
theorem dX9_missing_15 : decode cX9_missing 15 = .ok (.iload_n 1, 1) := by decide +kernel
theorem dX9_missing_16 : decode cX9_missing 16 = .ok (.baload, 1) := by decide +kernel
theorem dX9_missing_17 : decode cX9_missing 17 = .ok (.ifCond .eq 7, 3) := by decide +kernel
theorem dX9_missing_20 : decode cX9_missing 20 = .ok (.iconst 1, 1) := by decide +kernel
theorem dX9_missing_21 : decode cX9_missing 21 = .ok (.goto 4, 3) := by decide +kernel
theorem dX9_missing_24 : decode cX9_missing 24 = .ok (.iconst 0, 1) := by decide +kernel
theorem dX9_missing_25 : decode cX9_missing 25 = .ok (.istore_n 3, 1) := by decide +kernel
theorem dX9_missing_26 : decode cX9_missing 26 = .ok (.aload_n 0, 1) := by decide +kernel
theorem dX9_missing_27 : decode cX9_missing 27 = .ok (.getfield 53, 3) := by decide +kernel
theorem dX9_missing_30 : decode cX9_missing 30 = .ok (.iload_n 1, 1) := by decide +kernel
theorem dX9_missing_31 : decode cX9_missing 31 = .ok (.iload_n 2, 1) := by decide +kernel
theorem dX9_missing_32 : decode cX9_missing 32 = .ok (.bastore, 1) := by decide +kernel
theorem dX9_missing_33 : decode cX9_missing 33 = .ok (.aload_n 0, 1) := by decide +kernel
theorem dX9_missing_34 : decode cX9_missing 34 = .ok (.invokevirtual 107, 3) := by decide +kernel
theorem dX9_missing_37 : decode cX9_missing 37 = .ok (.iload_n 3, 1) := by decide +kernel
theorem dX9_missing_38 : decode cX9_missing 38 = .ok (.ireturn, 1) := by decide +kernel
theorem dX9_order_0 : decode cX9_order 0 = .ok (.aload_n 0, 1) := by decide +kernel
theorem dX9_order_1 : decode cX9_order 1 = .ok (.iload_n 1, 1) := by decide +kernel
theorem dX9_order_2 : decode cX9_order 2 = .ok (.invokevirtual 123, 3) := by decide +kernel
theorem dX9_order_5 : decode cX9_order 5 = .ok (.ifCond .eq 24, 3) := by decide +kernel
theorem dX9_order_8 : decode cX9_order 8 = .ok (.iload_n 2, 1) := by decide +kernel
theorem dX9_order_9 : decode cX9_order 9 = .ok (.iconst 0, 1) := by decide +kernel
theorem dX9_order_10 : decode cX9_order 10 = .ok (.iconst 2, 1) := by decide +kernel
theorem dX9_order_11 : decode cX9_order 11 = .ok (.invokestatic 94, 3) := by decide +kernel
theorem dX9_order_14 : decode cX9_order 14 = .ok (.ifCond .eq 15, 3) := by decide +kernel
theorem dX9_order_17 : decode cX9_order 17 = .ok (.iload_n 2, 1) := by decide +kernel
theorem dX9_order_18 : decode cX9_order 18 = .ok (.iconst 2, 1) := by decide +kernel
theorem dX9_order_19 : decode cX9_order 19 = .ok (.if_icmp .ne 13, 3) := by decide +kernel
theorem dX9_order_22 : decode cX9_order 22 = .ok (.iload_n 3, 1) := by decide +kernel
theorem dX9_order_23 : decode cX9_order 23 = .ok (.invokestatic 114, 3) := by decide +kernel
theorem dX9_order_26 : decode cX9_order 26 = .ok (.ifCond .ne 6, 3) := by decide +kernel
theorem dX9_order_29 : decode cX9_order 29 = .ok (.ldc 120, 2) := by decide +kernel
theorem dX9_order_31 : decode cX9_order 31 = .ok (.ireturn, 1) := by decide +kernel
theorem dX9_order_32 : decode cX9_order 32 = .ok (.aload_n 0, 1) := by decide +kernel
theorem dX9_order_33 : decode cX9_order 33 = .ok (.getfield 56, 3) := by decide +kernel
theorem dX9_order_36 : decode cX9_order 36 = .ok (.iload_n 1, 1) := by decide +kernel
theorem dX9_order_37 : decode cX9_order 37 = .ok (.iaload, 1) := by decide +kernel
theorem dX9_order_38 : decode cX9_order 38 = .ok (.istore 4, 2) := by decide +kernel
theorem dX9_order_40 : decode cX9_order 40 = .ok (.aload_n 0, 1) := by decide +kernel
theorem dX9_order_41 : decode cX9_order 41 = .ok (.getfield 56, 3) := by decide +kernel
theorem dX9_order_44 : decode cX9_order 44 = .ok (.iload_n 1, 1) := by decide +kernel
theorem dX9_order_45 : decode cX9_order 45 = .ok (.iload_n 2, 1) := by decide +kernel
theorem dX9_order_46 : decode cX9_order 46 = .ok (.iastore, 1) := by decide +kernel
theorem dX9_order_47 : decode cX9_order 47 = .ok (.aload_n 0, 1) := by decide +kernel
theorem dX9_order_48 : decode cX9_order 48 = .ok (.getfield 59, 3) := by decide +kernel
theorem dX9_order_51 : decode cX9_order 51 = .ok (.iload_n 1, 1) := by decide +kernel
theorem dX9_order_52 : decode cX9_order 52 = .ok (.iload_n 3, 1) := by decide +kernel
theorem dX9_order_53 : decode cX9_order 53 = .ok (.iastore, 1) := by decide +kernel
theorem dX9_order_54 : decode cX9_order 54 = .ok (.aload_n 0, 1) := by decide +kernel
theorem dX9_order_55 : decode cX9_order 55 = .ok (.invokevirtual 107, 3) := by decide +kernel
theorem dX9_order_58 : decode cX9_order 58 = .ok (.iload 4, 2) := by decide +kernel
theorem dX9_order_60 : decode cX9_order 60 = .ok (.ireturn, 1) := by decide +kernel
theorem dX9_give_0 : decode cX9_give 0 = .ok (.aload_n 0, 1) := by decide +kernel
theorem dX9_give_1 : decode cX9_give 1 = .ok (.getfield 65, 3) := by decide +kernel
theorem dX9_give_4 : decode cX9_give 4 = .ok (.aload_n 0, 1) := by decide +kernel
theorem dX9_give_5 : decode cX9_give 5 = .ok (.getfield 127, 3) := by decide +kernel
theorem dX9_give_8 : decode cX9_give 8 = .ok (.iload_n 1, 1) := by decide +kernel
theorem dX9_give_9 : decode cX9_give 9 = .ok (.iastore, 1) := by decide +kernel
theorem dX9_give_10 : decode cX9_give 10 = .ok (.aload_n 0, 1) := by decide +kernel
theorem dX9_give_11 : decode cX9_give 11 = .ok (.dup, 1) := by decide +kernel
theorem dX9_give_12 : decode cX9_give 12 = .ok (.getfield 127, 3) := by decide +kernel
theorem dX9_give_15 : decode cX9_give 15 = .ok (.iconst 1, 1) := by decide +kernel
theorem dX9_give_16 : decode cX9_give 16 = .ok (.iadd, 1) := by decide +kernel
theorem dX9_give_17 : decode cX9_give 17 = .ok (.putfield 127, 3) := by decide +kernel
theorem dX9_give_20 : decode cX9_give 20 = .ok (.return_, 1) := by decide +kernel
theorem dX9_givePaths_0 : decode cX9_givePaths 0 = .ok (.iload_n 1, 1) := by decide +kernel
theorem dX9_givePaths_1 : decode cX9_givePaths 1 = .ok (.sipush 10000, 3) := by decide +kernel
theorem dX9_givePaths_4 : decode cX9_givePaths 4 = .ok (.ldc 130, 2) := by decide +kernel
theorem dX9_givePaths_6 : decode cX9_givePaths 6 = .ok (.invokestatic 94, 3) := by decide +kernel
theorem dX9_givePaths_9 : decode cX9_givePaths 9 = .ok (.ifCond .ne 4, 3) := by decide +kernel
theorem dX9_givePaths_12 : decode cX9_givePaths 12 = .ok (.return_, 1) := by decide +kernel
theorem dX9_givePaths_13 : decode cX9_givePaths 13 = .ok (.iload_n 1, 1) := by decide +kernel
theorem dX9_givePaths_14 : decode cX9_givePaths 14 = .ok (.bipush 100, 2) := by decide +kernel
theorem dX9_givePaths_16 : decode cX9_givePaths 16 = .ok (.idiv, 1) := by decide +kernel
theorem dX9_givePaths_17 : decode cX9_givePaths 17 = .ok (.bipush 100, 2) := by decide +kernel
theorem dX9_givePaths_19 : decode cX9_givePaths 19 = .ok (.irem, 1) := by decide +kernel
theorem dX9_givePaths_20 : decode cX9_givePaths 20 = .ok (.istore_n 2, 1) := by decide +kernel
theorem dX9_givePaths_21 : decode cX9_givePaths 21 = .ok (.iload_n 1, 1) := by decide +kernel
theorem dX9_givePaths_22 : decode cX9_givePaths 22 = .ok (.bipush 100, 2) := by decide +kernel
theorem dX9_givePaths_24 : decode cX9_givePaths 24 = .ok (.irem, 1) := by decide +kernel
theorem dX9_givePaths_25 : decode cX9_givePaths 25 = .ok (.istore_n 3, 1) := by decide +kernel
theorem dX9_givePaths_26 : decode cX9_givePaths 26 = .ok (.iload_n 2, 1) := by decide +kernel
theorem dX9_givePaths_27 : decode cX9_givePaths 27 = .ok (.ifCond .ne 8, 3) := by decide +kernel
theorem dX9_givePaths_30 : decode cX9_givePaths 30 = .ok (.iload_n 3, 1) := by decide +kernel
theorem dX9_givePaths_31 : decode cX9_givePaths 31 = .ok (.ifCond .eq 4, 3) := by decide +kernel
theorem dX9_givePaths_34 : decode cX9_givePaths 34 = .ok (.return_, 1) := by decide +kernel
theorem dX9_givePaths_35 : decode cX9_givePaths 35 = .ok (.aload_n 0, 1) := by decide +kernel
theorem dX9_givePaths_36 : decode cX9_givePaths 36 = .ok (.iload_n 1, 1) := by decide +kernel
theorem dX9_givePaths_37 : decode cX9_givePaths 37 = .ok (.sipush 10000, 3) := by decide +kernel
theorem dX9_givePaths_40 : decode cX9_givePaths 40 = .ok (.idiv, 1) := by decide +kernel
theorem dX9_givePaths_41 : decode cX9_givePaths 41 = .ok (.sipush 10000, 3) := by decide +kernel
theorem dX9_givePaths_44 : decode cX9_givePaths 44 = .ok (.imul, 1) := by decide +kernel
theorem dX9_givePaths_45 : decode cX9_givePaths 45 = .ok (.invokevirtual 131, 3) := by decide +kernel
theorem dX9_givePaths_48 : decode cX9_givePaths 48 = .ok (.iload_n 2, 1) := by decide +kernel
theorem dX9_givePaths_49 : decode cX9_givePaths 49 = .ok (.ifCond .eq 14, 3) := by decide +kernel
theorem dX9_givePaths_52 : decode cX9_givePaths 52 = .ok (.aload_n 0, 1) := by decide +kernel
theorem dX9_givePaths_53 : decode cX9_givePaths 53 = .ok (.iload_n 1, 1) := by decide +kernel
theorem dX9_givePaths_54 : decode cX9_givePaths 54 = .ok (.bipush 100, 2) := by decide +kernel
theorem dX9_givePaths_56 : decode cX9_givePaths 56 = .ok (.idiv, 1) := by decide +kernel
theorem dX9_givePaths_57 : decode cX9_givePaths 57 = .ok (.bipush 100, 2) := by decide +kernel
theorem dX9_givePaths_59 : decode cX9_givePaths 59 = .ok (.imul, 1) := by decide +kernel
theorem dX9_givePaths_60 : decode cX9_givePaths 60 = .ok (.invokevirtual 131, 3) := by decide +kernel
theorem dX9_givePaths_63 : decode cX9_givePaths 63 = .ok (.iload_n 3, 1) := by decide +kernel
theorem dX9_givePaths_64 : decode cX9_givePaths 64 = .ok (.ifCond .eq 8, 3) := by decide +kernel
theorem dX9_givePaths_67 : decode cX9_givePaths 67 = .ok (.aload_n 0, 1) := by decide +kernel
theorem dX9_givePaths_68 : decode cX9_givePaths 68 = .ok (.iload_n 1, 1) := by decide +kernel
theorem dX9_givePaths_69 : decode cX9_givePaths 69 = .ok (.invokevirtual 131, 3) := by decide +kernel
theorem dX9_givePaths_72 : decode cX9_givePaths 72 = .ok (.return_, 1) := by decide +kernel
theorem dX9_isLeap_0 : decode cX9_isLeap 0 = .ok (.iload_n 0, 1) := by decide +kernel
theorem dX9_isLeap_1 : decode cX9_isLeap 1 = .ok (.iconst 4, 1) := by decide +kernel
theorem dX9_isLeap_2 : decode cX9_isLeap 2 = .ok (.irem, 1) := by decide +kernel
theorem dX9_isLeap_3 : decode cX9_isLeap 3 = .ok (.ifCond .ne 22, 3) := by decide +kernel
theorem dX9_isLeap_6 : decode cX9_isLeap 6 = .ok (.iload_n 0, 1) := by decide +kernel
theorem dX9_isLeap_7 : decode cX9_isLeap 7 = .ok (.bipush 100, 2) := by decide +kernel
theorem dX9_isLeap_9 : decode cX9_isLeap 9 = .ok (.irem, 1) := by decide +kernel
theorem dX9_isLeap_10 : decode cX9_isLeap 10 = .ok (.ifCond .ne 11, 3) := by decide +kernel
theorem dX9_isLeap_13 : decode cX9_isLeap 13 = .ok (.iload_n 0, 1) := by decide +kernel
theorem dX9_isLeap_14 : decode cX9_isLeap 14 = .ok (.sipush 400, 3) := by decide +kernel
theorem dX9_isLeap_17 : decode cX9_isLeap 17 = .ok (.irem, 1) := by decide +kernel
theorem dX9_isLeap_18 : decode cX9_isLeap 18 = .ok (.ifCond .ne 7, 3) := by decide +kernel
theorem dX9_isLeap_21 : decode cX9_isLeap 21 = .ok (.iconst 1, 1) := by decide +kernel
theorem dX9_isLeap_22 : decode cX9_isLeap 22 = .ok (.goto 4, 3) := by decide +kernel
theorem dX9_isLeap_25 : decode cX9_isLeap 25 = .ok (.iconst 0, 1) := by decide +kernel
theorem dX9_isLeap_26 : decode cX9_isLeap 26 = .ok (.ireturn, 1) := by decide +kernel
theorem dX9_daysOf_0 : decode cX9_daysOf 0 = .ok (.iload_n 1, 1) := by decide +kernel
theorem dX9_daysOf_1 : decode cX9_daysOf 1 = .ok (.iconst 2, 1) := by decide +kernel
theorem dX9_daysOf_2 : decode cX9_daysOf 2 = .ok (.if_icmp .ne 20, 3) := by decide +kernel
theorem dX9_daysOf_5 : decode cX9_daysOf 5 = .ok (.iload_n 0, 1) := by decide +kernel
theorem dX9_daysOf_6 : decode cX9_daysOf 6 = .ok (.invokestatic 135, 3) := by decide +kernel
theorem dX9_daysOf_9 : decode cX9_daysOf 9 = .ok (.ifCond .eq 8, 3) := by decide +kernel
theorem dX9_daysOf_12 : decode cX9_daysOf 12 = .ok (.bipush 29, 2) := by decide +kernel
theorem dX9_daysOf_14 : decode cX9_daysOf 14 = .ok (.goto 38, 3) := by decide +kernel
theorem dX9_daysOf_17 : decode cX9_daysOf 17 = .ok (.bipush 28, 2) := by decide +kernel
theorem dX9_daysOf_19 : decode cX9_daysOf 19 = .ok (.goto 33, 3) := by decide +kernel
theorem dX9_daysOf_22 : decode cX9_daysOf 22 = .ok (.iload_n 1, 1) := by decide +kernel
theorem dX9_daysOf_23 : decode cX9_daysOf 23 = .ok (.iconst 4, 1) := by decide +kernel
theorem dX9_daysOf_24 : decode cX9_daysOf 24 = .ok (.if_icmp .eq 21, 3) := by decide +kernel
theorem dX9_daysOf_27 : decode cX9_daysOf 27 = .ok (.iload_n 1, 1) := by decide +kernel
theorem dX9_daysOf_28 : decode cX9_daysOf 28 = .ok (.bipush 6, 2) := by decide +kernel
theorem dX9_daysOf_30 : decode cX9_daysOf 30 = .ok (.if_icmp .eq 15, 3) := by decide +kernel
theorem dX9_daysOf_33 : decode cX9_daysOf 33 = .ok (.iload_n 1, 1) := by decide +kernel
theorem dX9_daysOf_34 : decode cX9_daysOf 34 = .ok (.bipush 9, 2) := by decide +kernel
theorem dX9_daysOf_36 : decode cX9_daysOf 36 = .ok (.if_icmp .eq 9, 3) := by decide +kernel
theorem dX9_daysOf_39 : decode cX9_daysOf 39 = .ok (.iload_n 1, 1) := by decide +kernel
theorem dX9_daysOf_40 : decode cX9_daysOf 40 = .ok (.bipush 11, 2) := by decide +kernel
theorem dX9_daysOf_42 : decode cX9_daysOf 42 = .ok (.if_icmp .ne 8, 3) := by decide +kernel
theorem dX9_daysOf_45 : decode cX9_daysOf 45 = .ok (.bipush 30, 2) := by decide +kernel
theorem dX9_daysOf_47 : decode cX9_daysOf 47 = .ok (.goto 5, 3) := by decide +kernel
theorem dX9_daysOf_50 : decode cX9_daysOf 50 = .ok (.bipush 31, 2) := by decide +kernel
theorem dX9_daysOf_52 : decode cX9_daysOf 52 = .ok (.ireturn, 1) := by decide +kernel
theorem dX9_behind_0 : decode cX9_behind 0 = .ok (.iload_n 0, 1) := by decide +kernel
theorem dX9_behind_1 : decode cX9_behind 1 = .ok (.istore_n 2, 1) := by decide +kernel
theorem dX9_behind_2 : decode cX9_behind 2 = .ok (.sipush 1970, 3) := by decide +kernel
theorem dX9_behind_5 : decode cX9_behind 5 = .ok (.istore_n 3, 1) := by decide +kernel
theorem dX9_behind_6 : decode cX9_behind 6 = .ok (.iload_n 2, 1) := by decide +kernel
theorem dX9_behind_7 : decode cX9_behind 7 = .ok (.ifCond .ge 28, 3) := by decide +kernel
theorem dX9_behind_10 : decode cX9_behind 10 = .ok (.iinc 3 (-1), 3) := by decide +kernel
theorem dX9_behind_13 : decode cX9_behind 13 = .ok (.iload_n 2, 1) := by decide +kernel
theorem dX9_behind_14 : decode cX9_behind 14 = .ok (.iload_n 3, 1) := by decide +kernel
theorem dX9_behind_15 : decode cX9_behind 15 = .ok (.invokestatic 135, 3) := by decide +kernel
theorem dX9_behind_18 : decode cX9_behind 18 = .ok (.ifCond .eq 9, 3) := by decide +kernel
theorem dX9_behind_21 : decode cX9_behind 21 = .ok (.sipush 366, 3) := by decide +kernel
theorem dX9_behind_24 : decode cX9_behind 24 = .ok (.goto 6, 3) := by decide +kernel
theorem dX9_behind_27 : decode cX9_behind 27 = .ok (.sipush 365, 3) := by decide +kernel
theorem dX9_behind_30 : decode cX9_behind 30 = .ok (.iadd, 1) := by decide +kernel
theorem dX9_behind_31 : decode cX9_behind 31 = .ok (.istore_n 2, 1) := by decide +kernel
theorem dX9_behind_32 : decode cX9_behind 32 = .ok (.goto (-26), 3) := by decide +kernel
theorem dX9_behind_35 : decode cX9_behind 35 = .ok (.iload_n 2, 1) := by decide +kernel
theorem dX9_behind_36 : decode cX9_behind 36 = .ok (.iload_n 3, 1) := by decide +kernel
theorem dX9_behind_37 : decode cX9_behind 37 = .ok (.invokestatic 135, 3) := by decide +kernel
theorem dX9_behind_40 : decode cX9_behind 40 = .ok (.ifCond .eq 9, 3) := by decide +kernel
theorem dX9_behind_43 : decode cX9_behind 43 = .ok (.sipush 366, 3) := by decide +kernel
theorem dX9_behind_46 : decode cX9_behind 46 = .ok (.goto 6, 3) := by decide +kernel
theorem dX9_behind_49 : decode cX9_behind 49 = .ok (.sipush 365, 3) := by decide +kernel
theorem dX9_behind_52 : decode cX9_behind 52 = .ok (.if_icmp .lt 28, 3) := by decide +kernel
theorem dX9_behind_55 : decode cX9_behind 55 = .ok (.iload_n 2, 1) := by decide +kernel
theorem dX9_behind_56 : decode cX9_behind 56 = .ok (.iload_n 3, 1) := by decide +kernel
theorem dX9_behind_57 : decode cX9_behind 57 = .ok (.invokestatic 135, 3) := by decide +kernel
theorem dX9_behind_60 : decode cX9_behind 60 = .ok (.ifCond .eq 9, 3) := by decide +kernel
theorem dX9_behind_63 : decode cX9_behind 63 = .ok (.sipush 366, 3) := by decide +kernel
theorem dX9_behind_66 : decode cX9_behind 66 = .ok (.goto 6, 3) := by decide +kernel
theorem dX9_behind_69 : decode cX9_behind 69 = .ok (.sipush 365, 3) := by decide +kernel
theorem dX9_behind_72 : decode cX9_behind 72 = .ok (.isub, 1) := by decide +kernel
theorem dX9_behind_73 : decode cX9_behind 73 = .ok (.istore_n 2, 1) := by decide +kernel
theorem dX9_behind_74 : decode cX9_behind 74 = .ok (.iinc 3 1, 3) := by decide +kernel
theorem dX9_behind_77 : decode cX9_behind 77 = .ok (.goto (-42), 3) := by decide +kernel
theorem dX9_behind_80 : decode cX9_behind 80 = .ok (.iload_n 2, 1) := by decide +kernel
theorem dX9_behind_81 : decode cX9_behind 81 = .ok (.istore 4, 2) := by decide +kernel
theorem dX9_behind_83 : decode cX9_behind 83 = .ok (.iconst 1, 1) := by decide +kernel
theorem dX9_behind_84 : decode cX9_behind 84 = .ok (.istore 5, 2) := by decide +kernel
theorem dX9_behind_86 : decode cX9_behind 86 = .ok (.iconst 0, 1) := by decide +kernel
theorem dX9_behind_87 : decode cX9_behind 87 = .ok (.istore 6, 2) := by decide +kernel
theorem dX9_behind_89 : decode cX9_behind 89 = .ok (.iload 4, 2) := by decide +kernel
theorem dX9_behind_91 : decode cX9_behind 91 = .ok (.iload_n 3, 1) := by decide +kernel
theorem dX9_behind_92 : decode cX9_behind 92 = .ok (.iload 5, 2) := by decide +kernel
theorem dX9_behind_94 : decode cX9_behind 94 = .ok (.invokestatic 138, 3) := by decide +kernel
theorem dX9_behind_97 : decode cX9_behind 97 = .ok (.if_icmp .lt 46, 3) := by decide +kernel
theorem dX9_behind_100 : decode cX9_behind 100 = .ok (.iload 4, 2) := by decide +kernel
theorem dX9_behind_102 : decode cX9_behind 102 = .ok (.iload_n 3, 1) := by decide +kernel
theorem dX9_behind_103 : decode cX9_behind 103 = .ok (.iload 5, 2) := by decide +kernel
theorem dX9_behind_105 : decode cX9_behind 105 = .ok (.invokestatic 138, 3) := by decide +kernel
theorem dX9_behind_108 : decode cX9_behind 108 = .ok (.isub, 1) := by decide +kernel
theorem dX9_behind_109 : decode cX9_behind 109 = .ok (.istore 4, 2) := by decide +kernel
theorem dX9_behind_111 : decode cX9_behind 111 = .ok (.iload 6, 2) := by decide +kernel
theorem dX9_behind_113 : decode cX9_behind 113 = .ok (.iload_n 3, 1) := by decide +kernel
theorem dX9_behind_114 : decode cX9_behind 114 = .ok (.iload 5, 2) := by decide +kernel
theorem dX9_behind_116 : decode cX9_behind 116 = .ok (.invokestatic 138, 3) := by decide +kernel
theorem dX9_behind_119 : decode cX9_behind 119 = .ok (.iadd, 1) := by decide +kernel
theorem dX9_behind_120 : decode cX9_behind 120 = .ok (.istore 6, 2) := by decide +kernel
theorem dX9_behind_122 : decode cX9_behind 122 = .ok (.iload 5, 2) := by decide +kernel
theorem dX9_behind_124 : decode cX9_behind 124 = .ok (.iconst 3, 1) := by decide +kernel
theorem dX9_behind_125 : decode cX9_behind 125 = .ok (.irem, 1) := by decide +kernel
theorem dX9_behind_126 : decode cX9_behind 126 = .ok (.ifCond .ne 7, 3) := by decide +kernel
theorem dX9_behind_129 : decode cX9_behind 129 = .ok (.iconst 0, 1) := by decide +kernel
theorem dX9_behind_130 : decode cX9_behind 130 = .ok (.goto 5, 3) := by decide +kernel
theorem dX9_behind_133 : decode cX9_behind 133 = .ok (.iload 6, 2) := by decide +kernel
theorem dX9_behind_135 : decode cX9_behind 135 = .ok (.istore 6, 2) := by decide +kernel
theorem dX9_behind_137 : decode cX9_behind 137 = .ok (.iinc 5 1, 3) := by decide +kernel
theorem dX9_behind_140 : decode cX9_behind 140 = .ok (.goto (-51), 3) := by decide +kernel
theorem dX9_behind_143 : decode cX9_behind 143 = .ok (.iload_n 1, 1) := by decide +kernel
theorem dX9_behind_144 : decode cX9_behind 144 = .ok (.iconst 2, 1) := by decide +kernel
theorem dX9_behind_145 : decode cX9_behind 145 = .ok (.if_icmp .ne 8, 3) := by decide +kernel
theorem dX9_behind_148 : decode cX9_behind 148 = .ok (.iload 4, 2) := by decide +kernel
theorem dX9_behind_150 : decode cX9_behind 150 = .ok (.goto 17, 3) := by decide +kernel
theorem dX9_behind_153 : decode cX9_behind 153 = .ok (.iload_n 1, 1) := by decide +kernel
theorem dX9_behind_154 : decode cX9_behind 154 = .ok (.iconst 3, 1) := by decide +kernel
theorem dX9_behind_155 : decode cX9_behind 155 = .ok (.if_icmp .ne 11, 3) := by decide +kernel
theorem dX9_behind_158 : decode cX9_behind 158 = .ok (.iload 4, 2) := by decide +kernel
theorem dX9_behind_160 : decode cX9_behind 160 = .ok (.iload 6, 2) := by decide +kernel
theorem dX9_behind_162 : decode cX9_behind 162 = .ok (.iadd, 1) := by decide +kernel
theorem dX9_behind_163 : decode cX9_behind 163 = .ok (.goto 4, 3) := by decide +kernel
theorem dX9_behind_166 : decode cX9_behind 166 = .ok (.iload_n 2, 1) := by decide +kernel
theorem dX9_behind_167 : decode cX9_behind 167 = .ok (.ireturn, 1) := by decide +kernel
theorem dX9_modulo_0 : decode cX9_modulo 0 = .ok (.iload_n 0, 1) := by decide +kernel
theorem dX9_modulo_1 : decode cX9_modulo 1 = .ok (.iload_n 1, 1) := by decide +kernel
theorem dX9_modulo_2 : decode cX9_modulo 2 = .ok (.irem, 1) := by decide +kernel
theorem dX9_modulo_3 : decode cX9_modulo 3 = .ok (.istore_n 2, 1) := by decide +kernel
theorem dX9_modulo_4 : decode cX9_modulo 4 = .ok (.iload_n 2, 1) := by decide +kernel
theorem dX9_modulo_5 : decode cX9_modulo 5 = .ok (.ifCond .ge 9, 3) := by decide +kernel
theorem dX9_modulo_8 : decode cX9_modulo 8 = .ok (.iload_n 2, 1) := by decide +kernel
theorem dX9_modulo_9 : decode cX9_modulo 9 = .ok (.iload_n 1, 1) := by decide +kernel
theorem dX9_modulo_10 : decode cX9_modulo 10 = .ok (.iadd, 1) := by decide +kernel
theorem dX9_modulo_11 : decode cX9_modulo 11 = .ok (.goto 4, 3) := by decide +kernel
theorem dX9_modulo_14 : decode cX9_modulo 14 = .ok (.iload_n 2, 1) := by decide +kernel
theorem dX9_modulo_15 : decode cX9_modulo 15 = .ok (.ireturn, 1) := by decide +kernel
theorem dX9_giveDays_0 : decode cX9_giveDays 0 = .ok (.iload_n 1, 1) := by decide +kernel
theorem dX9_giveDays_1 : decode cX9_giveDays 1 = .ok (.ldc 142, 2) := by decide +kernel
theorem dX9_giveDays_3 : decode cX9_giveDays 3 = .ok (.ldc 121, 2) := by decide +kernel
theorem dX9_giveDays_5 : decode cX9_giveDays 5 = .ok (.invokestatic 94, 3) := by decide +kernel
theorem dX9_giveDays_8 : decode cX9_giveDays 8 = .ok (.ifCond .eq 40, 3) := by decide +kernel
theorem dX9_giveDays_11 : decode cX9_giveDays 11 = .ok (.aload_n 0, 1) := by decide +kernel
theorem dX9_giveDays_12 : decode cX9_giveDays 12 = .ok (.iload_n 2, 1) := by decide +kernel
theorem dX9_giveDays_13 : decode cX9_giveDays 13 = .ok (.ifCond .ne 7, 3) := by decide +kernel
theorem dX9_giveDays_16 : decode cX9_giveDays 16 = .ok (.iload_n 1, 1) := by decide +kernel
theorem dX9_giveDays_17 : decode cX9_giveDays 17 = .ok (.goto 28, 3) := by decide +kernel
theorem dX9_giveDays_20 : decode cX9_giveDays 20 = .ok (.iload_n 2, 1) := by decide +kernel
theorem dX9_giveDays_21 : decode cX9_giveDays 21 = .ok (.iconst 1, 1) := by decide +kernel
theorem dX9_giveDays_22 : decode cX9_giveDays 22 = .ok (.if_icmp .ne 16, 3) := by decide +kernel
theorem dX9_giveDays_25 : decode cX9_giveDays 25 = .ok (.iload_n 1, 1) := by decide +kernel
theorem dX9_giveDays_26 : decode cX9_giveDays 26 = .ok (.iload_n 1, 1) := by decide +kernel
theorem dX9_giveDays_27 : decode cX9_giveDays 27 = .ok (.iconst 3, 1) := by decide +kernel
theorem dX9_giveDays_28 : decode cX9_giveDays 28 = .ok (.iadd, 1) := by decide +kernel
theorem dX9_giveDays_29 : decode cX9_giveDays 29 = .ok (.bipush 7, 2) := by decide +kernel
theorem dX9_giveDays_31 : decode cX9_giveDays 31 = .ok (.invokestatic 143, 3) := by decide +kernel
theorem dX9_giveDays_34 : decode cX9_giveDays 34 = .ok (.isub, 1) := by decide +kernel
theorem dX9_giveDays_35 : decode cX9_giveDays 35 = .ok (.goto 10, 3) := by decide +kernel
theorem dX9_giveDays_38 : decode cX9_giveDays 38 = .ok (.iload_n 1, 1) := by decide +kernel
theorem dX9_giveDays_39 : decode cX9_giveDays 39 = .ok (.iload_n 1, 1) := by decide +kernel
theorem dX9_giveDays_40 : decode cX9_giveDays 40 = .ok (.iload_n 2, 1) := by decide +kernel
theorem dX9_giveDays_41 : decode cX9_giveDays 41 = .ok (.invokestatic 146, 3) := by decide +kernel
theorem dX9_giveDays_44 : decode cX9_giveDays 44 = .ok (.isub, 1) := by decide +kernel
theorem dX9_giveDays_45 : decode cX9_giveDays 45 = .ok (.invokevirtual 131, 3) := by decide +kernel
theorem dX9_giveDays_48 : decode cX9_giveDays 48 = .ok (.return_, 1) := by decide +kernel
theorem dX9_giveKeys_0 : decode cX9_giveKeys 0 = .ok (.aload_n 0, 1) := by decide +kernel
theorem dX9_giveKeys_1 : decode cX9_giveKeys 1 = .ok (.iconst 0, 1) := by decide +kernel
theorem dX9_giveKeys_2 : decode cX9_giveKeys 2 = .ok (.putfield 127, 3) := by decide +kernel
theorem dX9_giveKeys_5 : decode cX9_giveKeys 5 = .ok (.aload_n 0, 1) := by decide +kernel
theorem dX9_giveKeys_6 : decode cX9_giveKeys 6 = .ok (.getfield 20, 3) := by decide +kernel
theorem dX9_giveKeys_9 : decode cX9_giveKeys 9 = .ok (.iload_n 1, 1) := by decide +kernel
theorem dX9_giveKeys_10 : decode cX9_giveKeys 10 = .ok (.iaload, 1) := by decide +kernel
theorem dX9_giveKeys_11 : decode cX9_giveKeys 11 = .ok (.tableswitch 126 0 3 #[29, 37, 45, 100], 29) := by decide +kernel
theorem dX9_giveKeys_40 : decode cX9_giveKeys 40 = .ok (.aload_n 0, 1) := by decide +kernel
theorem dX9_giveKeys_41 : decode cX9_giveKeys 41 = .ok (.iload_n 2, 1) := by decide +kernel
theorem dX9_giveKeys_42 : decode cX9_giveKeys 42 = .ok (.invokevirtual 131, 3) := by decide +kernel
theorem dX9_giveKeys_45 : decode cX9_giveKeys 45 = .ok (.goto 103, 3) := by decide +kernel
theorem dX9_giveKeys_48 : decode cX9_giveKeys 48 = .ok (.aload_n 0, 1) := by decide +kernel
theorem dX9_giveKeys_49 : decode cX9_giveKeys 49 = .ok (.iload_n 2, 1) := by decide +kernel
theorem dX9_giveKeys_50 : decode cX9_giveKeys 50 = .ok (.invokevirtual 149, 3) := by decide +kernel
theorem dX9_giveKeys_53 : decode cX9_giveKeys 53 = .ok (.goto 95, 3) := by decide +kernel
theorem dX9_giveKeys_56 : decode cX9_giveKeys 56 = .ok (.iconst 0, 1) := by decide +kernel
theorem dX9_giveKeys_57 : decode cX9_giveKeys 57 = .ok (.istore_n 3, 1) := by decide +kernel
theorem dX9_giveKeys_58 : decode cX9_giveKeys 58 = .ok (.iload_n 3, 1) := by decide +kernel
theorem dX9_giveKeys_59 : decode cX9_giveKeys 59 = .ok (.aload_n 0, 1) := by decide +kernel
theorem dX9_giveKeys_60 : decode cX9_giveKeys 60 = .ok (.getfield 32, 3) := by decide +kernel
theorem dX9_giveKeys_63 : decode cX9_giveKeys 63 = .ok (.iload_n 1, 1) := by decide +kernel
theorem dX9_giveKeys_64 : decode cX9_giveKeys 64 = .ok (.iaload, 1) := by decide +kernel
theorem dX9_giveKeys_65 : decode cX9_giveKeys 65 = .ok (.if_icmp .ge 43, 3) := by decide +kernel
theorem dX9_giveKeys_68 : decode cX9_giveKeys 68 = .ok (.iload_n 2, 1) := by decide +kernel
theorem dX9_giveKeys_69 : decode cX9_giveKeys 69 = .ok (.aload_n 0, 1) := by decide +kernel
theorem dX9_giveKeys_70 : decode cX9_giveKeys 70 = .ok (.getfield 35, 3) := by decide +kernel
theorem dX9_giveKeys_73 : decode cX9_giveKeys 73 = .ok (.bipush 6, 2) := by decide +kernel
theorem dX9_giveKeys_75 : decode cX9_giveKeys 75 = .ok (.iload_n 1, 1) := by decide +kernel
theorem dX9_giveKeys_76 : decode cX9_giveKeys 76 = .ok (.imul, 1) := by decide +kernel
theorem dX9_giveKeys_77 : decode cX9_giveKeys 77 = .ok (.iload_n 3, 1) := by decide +kernel
theorem dX9_giveKeys_78 : decode cX9_giveKeys 78 = .ok (.iadd, 1) := by decide +kernel
theorem dX9_giveKeys_79 : decode cX9_giveKeys 79 = .ok (.iaload, 1) := by decide +kernel
theorem dX9_giveKeys_80 : decode cX9_giveKeys 80 = .ok (.aload_n 0, 1) := by decide +kernel
theorem dX9_giveKeys_81 : decode cX9_giveKeys 81 = .ok (.getfield 38, 3) := by decide +kernel
theorem dX9_giveKeys_84 : decode cX9_giveKeys 84 = .ok (.bipush 6, 2) := by decide +kernel
theorem dX9_giveKeys_86 : decode cX9_giveKeys 86 = .ok (.iload_n 1, 1) := by decide +kernel
theorem dX9_giveKeys_87 : decode cX9_giveKeys 87 = .ok (.imul, 1) := by decide +kernel
theorem dX9_giveKeys_88 : decode cX9_giveKeys 88 = .ok (.iload_n 3, 1) := by decide +kernel
theorem dX9_giveKeys_89 : decode cX9_giveKeys 89 = .ok (.iadd, 1) := by decide +kernel
theorem dX9_giveKeys_90 : decode cX9_giveKeys 90 = .ok (.iaload, 1) := by decide +kernel
theorem dX9_giveKeys_91 : decode cX9_giveKeys 91 = .ok (.invokestatic 94, 3) := by decide +kernel
theorem dX9_giveKeys_94 : decode cX9_giveKeys 94 = .ok (.ifCond .eq 8, 3) := by decide +kernel
theorem dX9_giveKeys_97 : decode cX9_giveKeys 97 = .ok (.aload_n 0, 1) := by decide +kernel
theorem dX9_giveKeys_98 : decode cX9_giveKeys 98 = .ok (.iload_n 3, 1) := by decide +kernel
theorem dX9_giveKeys_99 : decode cX9_giveKeys 99 = .ok (.invokevirtual 131, 3) := by decide +kernel
theorem dX9_giveKeys_102 : decode cX9_giveKeys 102 = .ok (.iinc 3 1, 3) := by decide +kernel
theorem dX9_giveKeys_105 : decode cX9_giveKeys 105 = .ok (.goto (-47), 3) := by decide +kernel
theorem dX9_giveKeys_108 : decode cX9_giveKeys 108 = .ok (.goto 40, 3) := by decide +kernel
theorem dX9_giveKeys_111 : decode cX9_giveKeys 111 = .ok (.aload_n 0, 1) := by decide +kernel
theorem dX9_giveKeys_112 : decode cX9_giveKeys 112 = .ok (.iload_n 2, 1) := by decide +kernel
theorem dX9_giveKeys_113 : decode cX9_giveKeys 113 = .ok (.iload_n 2, 1) := by decide +kernel
theorem dX9_giveKeys_114 : decode cX9_giveKeys 114 = .ok (.aload_n 0, 1) := by decide +kernel
theorem dX9_giveKeys_115 : decode cX9_giveKeys 115 = .ok (.getfield 29, 3) := by decide +kernel
theorem dX9_giveKeys_118 : decode cX9_giveKeys 118 = .ok (.iload_n 1, 1) := by decide +kernel
theorem dX9_giveKeys_119 : decode cX9_giveKeys 119 = .ok (.iaload, 1) := by decide +kernel
theorem dX9_giveKeys_120 : decode cX9_giveKeys 120 = .ok (.isub, 1) := by decide +kernel
theorem dX9_giveKeys_121 : decode cX9_giveKeys 121 = .ok (.aload_n 0, 1) := by decide +kernel
theorem dX9_giveKeys_122 : decode cX9_giveKeys 122 = .ok (.getfield 26, 3) := by decide +kernel
theorem dX9_giveKeys_125 : decode cX9_giveKeys 125 = .ok (.iload_n 1, 1) := by decide +kernel
theorem dX9_giveKeys_126 : decode cX9_giveKeys 126 = .ok (.iaload, 1) := by decide +kernel
theorem dX9_giveKeys_127 : decode cX9_giveKeys 127 = .ok (.invokestatic 143, 3) := by decide +kernel
theorem dX9_giveKeys_130 : decode cX9_giveKeys 130 = .ok (.isub, 1) := by decide +kernel
theorem dX9_giveKeys_131 : decode cX9_giveKeys 131 = .ok (.invokevirtual 131, 3) := by decide +kernel
theorem dX9_giveKeys_134 : decode cX9_giveKeys 134 = .ok (.goto 14, 3) := by decide +kernel
theorem dX9_giveKeys_137 : decode cX9_giveKeys 137 = .ok (.aload_n 0, 1) := by decide +kernel
theorem dX9_giveKeys_138 : decode cX9_giveKeys 138 = .ok (.iload_n 2, 1) := by decide +kernel
theorem dX9_giveKeys_139 : decode cX9_giveKeys 139 = .ok (.aload_n 0, 1) := by decide +kernel
theorem dX9_giveKeys_140 : decode cX9_giveKeys 140 = .ok (.getfield 26, 3) := by decide +kernel
theorem dX9_giveKeys_143 : decode cX9_giveKeys 143 = .ok (.iload_n 1, 1) := by decide +kernel
theorem dX9_giveKeys_144 : decode cX9_giveKeys 144 = .ok (.iaload, 1) := by decide +kernel
theorem dX9_giveKeys_145 : decode cX9_giveKeys 145 = .ok (.invokevirtual 152, 3) := by decide +kernel
theorem dX9_giveKeys_148 : decode cX9_giveKeys 148 = .ok (.return_, 1) := by decide +kernel
theorem dX9_atHand_0 : decode cX9_atHand 0 = .ok (.aload_n 0, 1) := by decide +kernel
theorem dX9_atHand_1 : decode cX9_atHand 1 = .ok (.getfield 103, 3) := by decide +kernel
theorem dX9_atHand_4 : decode cX9_atHand 4 = .ok (.ifCond .ne 12, 3) := by decide +kernel
theorem dX9_atHand_7 : decode cX9_atHand 7 = .ok (.aload_n 0, 1) := by decide +kernel
theorem dX9_atHand_8 : decode cX9_atHand 8 = .ok (.getfield 16, 3) := by decide +kernel
theorem dX9_atHand_11 : decode cX9_atHand 11 = .ok (.iload_n 1, 1) := by decide +kernel
theorem dX9_atHand_12 : decode cX9_atHand 12 = .ok (.baload, 1) := by decide +kernel
theorem dX9_atHand_13 : decode cX9_atHand 13 = .ok (.goto 19, 3) := by decide +kernel
theorem dX9_atHand_16 : decode cX9_atHand 16 = .ok (.aload_n 0, 1) := by decide +kernel
theorem dX9_atHand_17 : decode cX9_atHand 17 = .ok (.getfield 62, 3) := by decide +kernel
theorem dX9_atHand_20 : decode cX9_atHand 20 = .ok (.bipush 120, 2) := by decide +kernel
theorem dX9_atHand_22 : decode cX9_atHand 22 = .ok (.aload_n 0, 1) := by decide +kernel
theorem dX9_atHand_23 : decode cX9_atHand 23 = .ok (.getfield 103, 3) := by decide +kernel
theorem dX9_atHand_26 : decode cX9_atHand 26 = .ok (.iconst 1, 1) := by decide +kernel
theorem dX9_atHand_27 : decode cX9_atHand 27 = .ok (.isub, 1) := by decide +kernel
theorem dX9_atHand_28 : decode cX9_atHand 28 = .ok (.imul, 1) := by decide +kernel
theorem dX9_atHand_29 : decode cX9_atHand 29 = .ok (.iload_n 1, 1) := by decide +kernel
theorem dX9_atHand_30 : decode cX9_atHand 30 = .ok (.iadd, 1) := by decide +kernel
theorem dX9_atHand_31 : decode cX9_atHand 31 = .ok (.baload, 1) := by decide +kernel
theorem dX9_atHand_32 : decode cX9_atHand 32 = .ok (.ireturn, 1) := by decide +kernel
theorem dX9_counts_0 : decode cX9_counts 0 = .ok (.aload_n 0, 1) := by decide +kernel
theorem dX9_counts_1 : decode cX9_counts 1 = .ok (.iload_n 2, 1) := by decide +kernel
theorem dX9_counts_2 : decode cX9_counts 2 = .ok (.invokevirtual 156, 3) := by decide +kernel
theorem dX9_counts_5 : decode cX9_counts 5 = .ok (.ifCond .ne 5, 3) := by decide +kernel
theorem dX9_counts_8 : decode cX9_counts 8 = .ok (.iconst 0, 1) := by decide +kernel
theorem dX9_counts_9 : decode cX9_counts 9 = .ok (.ireturn, 1) := by decide +kernel
theorem dX9_counts_10 : decode cX9_counts 10 = .ok (.aload_n 0, 1) := by decide +kernel
theorem dX9_counts_11 : decode cX9_counts 11 = .ok (.getfield 41, 3) := by decide +kernel
theorem dX9_counts_14 : decode cX9_counts 14 = .ok (.iload_n 1, 1) := by decide +kernel
theorem dX9_counts_15 : decode cX9_counts 15 = .ok (.iaload, 1) := by decide +kernel
theorem dX9_counts_16 : decode cX9_counts 16 = .ok (.ldc 122, 2) := by decide +kernel
theorem dX9_counts_18 : decode cX9_counts 18 = .ok (.if_icmp .ne 7, 3) := by decide +kernel
theorem dX9_counts_21 : decode cX9_counts 21 = .ok (.iconst 1, 1) := by decide +kernel
theorem dX9_counts_22 : decode cX9_counts 22 = .ok (.goto 4, 3) := by decide +kernel
theorem dX9_counts_25 : decode cX9_counts 25 = .ok (.iconst 0, 1) := by decide +kernel
theorem dX9_counts_26 : decode cX9_counts 26 = .ok (.istore_n 3, 1) := by decide +kernel
theorem dX9_counts_27 : decode cX9_counts 27 = .ok (.bipush 6, 2) := by decide +kernel
theorem dX9_counts_29 : decode cX9_counts 29 = .ok (.iload_n 2, 1) := by decide +kernel
theorem dX9_counts_30 : decode cX9_counts 30 = .ok (.imul, 1) := by decide +kernel
theorem dX9_counts_31 : decode cX9_counts 31 = .ok (.iload_n 3, 1) := by decide +kernel
theorem dX9_counts_32 : decode cX9_counts 32 = .ok (.ifCond .eq 7, 3) := by decide +kernel
theorem dX9_counts_35 : decode cX9_counts 35 = .ok (.iconst 0, 1) := by decide +kernel
theorem dX9_counts_36 : decode cX9_counts 36 = .ok (.goto 9, 3) := by decide +kernel
theorem dX9_counts_39 : decode cX9_counts 39 = .ok (.aload_n 0, 1) := by decide +kernel
theorem dX9_counts_40 : decode cX9_counts 40 = .ok (.getfield 41, 3) := by decide +kernel
theorem dX9_counts_43 : decode cX9_counts 43 = .ok (.iload_n 1, 1) := by decide +kernel
theorem dX9_counts_44 : decode cX9_counts 44 = .ok (.iaload, 1) := by decide +kernel
theorem dX9_counts_45 : decode cX9_counts 45 = .ok (.iadd, 1) := by decide +kernel
theorem dX9_counts_46 : decode cX9_counts 46 = .ok (.istore 4, 2) := by decide +kernel
theorem dX9_counts_48 : decode cX9_counts 48 = .ok (.iconst 0, 1) := by decide +kernel
theorem dX9_counts_49 : decode cX9_counts 49 = .ok (.istore 5, 2) := by decide +kernel
theorem dX9_counts_51 : decode cX9_counts 51 = .ok (.iload 5, 2) := by decide +kernel
theorem dX9_counts_53 : decode cX9_counts 53 = .ok (.aload_n 0, 1) := by decide +kernel
theorem dX9_counts_54 : decode cX9_counts 54 = .ok (.getfield 7, 3) := by decide +kernel
theorem dX9_counts_57 : decode cX9_counts 57 = .ok (.iload 4, 2) := by decide +kernel
theorem dX9_counts_59 : decode cX9_counts 59 = .ok (.iaload, 1) := by decide +kernel
theorem dX9_counts_60 : decode cX9_counts 60 = .ok (.if_icmp .ge 41, 3) := by decide +kernel
theorem dX9_counts_63 : decode cX9_counts 63 = .ok (.iload_n 3, 1) := by decide +kernel
theorem dX9_counts_64 : decode cX9_counts 64 = .ok (.ifCond .ne 37, 3) := by decide +kernel
theorem dX9_counts_67 : decode cX9_counts 67 = .ok (.aload_n 0, 1) := by decide +kernel
theorem dX9_counts_68 : decode cX9_counts 68 = .ok (.getfield 13, 3) := by decide +kernel
theorem dX9_counts_71 : decode cX9_counts 71 = .ok (.iconst 3, 1) := by decide +kernel
theorem dX9_counts_72 : decode cX9_counts 72 = .ok (.iload 4, 2) := by decide +kernel
theorem dX9_counts_74 : decode cX9_counts 74 = .ok (.imul, 1) := by decide +kernel
theorem dX9_counts_75 : decode cX9_counts 75 = .ok (.iload 5, 2) := by decide +kernel
theorem dX9_counts_77 : decode cX9_counts 77 = .ok (.iadd, 1) := by decide +kernel
theorem dX9_counts_78 : decode cX9_counts 78 = .ok (.iaload, 1) := by decide +kernel
theorem dX9_counts_79 : decode cX9_counts 79 = .ok (.aload_n 0, 1) := by decide +kernel
theorem dX9_counts_80 : decode cX9_counts 80 = .ok (.getfield 44, 3) := by decide +kernel
theorem dX9_counts_83 : decode cX9_counts 83 = .ok (.iload_n 1, 1) := by decide +kernel
theorem dX9_counts_84 : decode cX9_counts 84 = .ok (.iaload, 1) := by decide +kernel
theorem dX9_counts_85 : decode cX9_counts 85 = .ok (.aload_n 0, 1) := by decide +kernel
theorem dX9_counts_86 : decode cX9_counts 86 = .ok (.getfield 47, 3) := by decide +kernel
theorem dX9_counts_89 : decode cX9_counts 89 = .ok (.iload_n 1, 1) := by decide +kernel
theorem dX9_counts_90 : decode cX9_counts 90 = .ok (.iaload, 1) := by decide +kernel
theorem dX9_counts_91 : decode cX9_counts 91 = .ok (.invokestatic 94, 3) := by decide +kernel
theorem dX9_counts_94 : decode cX9_counts 94 = .ok (.istore_n 3, 1) := by decide +kernel
theorem dX9_counts_95 : decode cX9_counts 95 = .ok (.iinc 5 1, 3) := by decide +kernel
theorem dX9_counts_98 : decode cX9_counts 98 = .ok (.goto (-47), 3) := by decide +kernel
theorem dX9_counts_101 : decode cX9_counts 101 = .ok (.iload_n 3, 1) := by decide +kernel
theorem dX9_counts_102 : decode cX9_counts 102 = .ok (.ireturn, 1) := by decide +kernel
theorem dX9_findKeysOf_0 : decode cX9_findKeysOf 0 = .ok (.bipush 6, 2) := by decide +kernel
theorem dX9_findKeysOf_2 : decode cX9_findKeysOf 2 = .ok (.iload_n 2, 1) := by decide +kernel
theorem dX9_findKeysOf_3 : decode cX9_findKeysOf 3 = .ok (.imul, 1) := by decide +kernel
theorem dX9_findKeysOf_4 : decode cX9_findKeysOf 4 = .ok (.aload_n 0, 1) := by decide +kernel
theorem dX9_findKeysOf_5 : decode cX9_findKeysOf 5 = .ok (.getfield 23, 3) := by decide +kernel
theorem dX9_findKeysOf_8 : decode cX9_findKeysOf 8 = .ok (.iload_n 1, 1) := by decide +kernel
theorem dX9_findKeysOf_9 : decode cX9_findKeysOf 9 = .ok (.iaload, 1) := by decide +kernel
theorem dX9_findKeysOf_10 : decode cX9_findKeysOf 10 = .ok (.iadd, 1) := by decide +kernel
theorem dX9_findKeysOf_11 : decode cX9_findKeysOf 11 = .ok (.istore_n 3, 1) := by decide +kernel
theorem dX9_findKeysOf_12 : decode cX9_findKeysOf 12 = .ok (.aload_n 0, 1) := by decide +kernel
theorem dX9_findKeysOf_13 : decode cX9_findKeysOf 13 = .ok (.getfield 78, 3) := by decide +kernel
theorem dX9_findKeysOf_16 : decode cX9_findKeysOf 16 = .ok (.iload_n 2, 1) := by decide +kernel
theorem dX9_findKeysOf_17 : decode cX9_findKeysOf 17 = .ok (.iconst 0, 1) := by decide +kernel
theorem dX9_findKeysOf_18 : decode cX9_findKeysOf 18 = .ok (.iastore, 1) := by decide +kernel
theorem dX9_findKeysOf_19 : decode cX9_findKeysOf 19 = .ok (.iconst 0, 1) := by decide +kernel
theorem dX9_findKeysOf_20 : decode cX9_findKeysOf 20 = .ok (.istore 4, 2) := by decide +kernel
theorem dX9_findKeysOf_22 : decode cX9_findKeysOf 22 = .ok (.iload 4, 2) := by decide +kernel
theorem dX9_findKeysOf_24 : decode cX9_findKeysOf 24 = .ok (.aload_n 0, 1) := by decide +kernel
theorem dX9_findKeysOf_25 : decode cX9_findKeysOf 25 = .ok (.getfield 7, 3) := by decide +kernel
theorem dX9_findKeysOf_28 : decode cX9_findKeysOf 28 = .ok (.iload_n 3, 1) := by decide +kernel
theorem dX9_findKeysOf_29 : decode cX9_findKeysOf 29 = .ok (.iaload, 1) := by decide +kernel
theorem dX9_findKeysOf_30 : decode cX9_findKeysOf 30 = .ok (.if_icmp .ge 76, 3) := by decide +kernel
theorem dX9_findKeysOf_33 : decode cX9_findKeysOf 33 = .ok (.aload_n 0, 1) := by decide +kernel
theorem dX9_findKeysOf_34 : decode cX9_findKeysOf 34 = .ok (.iload_n 1, 1) := by decide +kernel
theorem dX9_findKeysOf_35 : decode cX9_findKeysOf 35 = .ok (.aload_n 0, 1) := by decide +kernel
theorem dX9_findKeysOf_36 : decode cX9_findKeysOf 36 = .ok (.getfield 13, 3) := by decide +kernel
theorem dX9_findKeysOf_39 : decode cX9_findKeysOf 39 = .ok (.iconst 3, 1) := by decide +kernel
theorem dX9_findKeysOf_40 : decode cX9_findKeysOf 40 = .ok (.iload_n 3, 1) := by decide +kernel
theorem dX9_findKeysOf_41 : decode cX9_findKeysOf 41 = .ok (.imul, 1) := by decide +kernel
theorem dX9_findKeysOf_42 : decode cX9_findKeysOf 42 = .ok (.iload 4, 2) := by decide +kernel
theorem dX9_findKeysOf_44 : decode cX9_findKeysOf 44 = .ok (.iadd, 1) := by decide +kernel
theorem dX9_findKeysOf_45 : decode cX9_findKeysOf 45 = .ok (.iaload, 1) := by decide +kernel
theorem dX9_findKeysOf_46 : decode cX9_findKeysOf 46 = .ok (.invokevirtual 159, 3) := by decide +kernel
theorem dX9_findKeysOf_49 : decode cX9_findKeysOf 49 = .ok (.iconst 0, 1) := by decide +kernel
theorem dX9_findKeysOf_50 : decode cX9_findKeysOf 50 = .ok (.istore 5, 2) := by decide +kernel
theorem dX9_findKeysOf_52 : decode cX9_findKeysOf 52 = .ok (.iload 5, 2) := by decide +kernel
theorem dX9_findKeysOf_54 : decode cX9_findKeysOf 54 = .ok (.aload_n 0, 1) := by decide +kernel
theorem dX9_findKeysOf_55 : decode cX9_findKeysOf 55 = .ok (.getfield 127, 3) := by decide +kernel
theorem dX9_findKeysOf_58 : decode cX9_findKeysOf 58 = .ok (.if_icmp .ge 42, 3) := by decide +kernel
theorem dX9_findKeysOf_61 : decode cX9_findKeysOf 61 = .ok (.aload_n 0, 1) := by decide +kernel
theorem dX9_findKeysOf_62 : decode cX9_findKeysOf 62 = .ok (.getfield 81, 3) := by decide +kernel
theorem dX9_findKeysOf_65 : decode cX9_findKeysOf 65 = .ok (.bipush 18, 2) := by decide +kernel
theorem dX9_findKeysOf_67 : decode cX9_findKeysOf 67 = .ok (.iload_n 2, 1) := by decide +kernel
theorem dX9_findKeysOf_68 : decode cX9_findKeysOf 68 = .ok (.imul, 1) := by decide +kernel
theorem dX9_findKeysOf_69 : decode cX9_findKeysOf 69 = .ok (.aload_n 0, 1) := by decide +kernel
theorem dX9_findKeysOf_70 : decode cX9_findKeysOf 70 = .ok (.getfield 78, 3) := by decide +kernel
theorem dX9_findKeysOf_73 : decode cX9_findKeysOf 73 = .ok (.iload_n 2, 1) := by decide +kernel
theorem dX9_findKeysOf_74 : decode cX9_findKeysOf 74 = .ok (.iaload, 1) := by decide +kernel
theorem dX9_findKeysOf_75 : decode cX9_findKeysOf 75 = .ok (.iadd, 1) := by decide +kernel
theorem dX9_findKeysOf_76 : decode cX9_findKeysOf 76 = .ok (.aload_n 0, 1) := by decide +kernel
theorem dX9_findKeysOf_77 : decode cX9_findKeysOf 77 = .ok (.getfield 65, 3) := by decide +kernel
theorem dX9_findKeysOf_80 : decode cX9_findKeysOf 80 = .ok (.iload 5, 2) := by decide +kernel
theorem dX9_findKeysOf_82 : decode cX9_findKeysOf 82 = .ok (.iaload, 1) := by decide +kernel
theorem dX9_findKeysOf_83 : decode cX9_findKeysOf 83 = .ok (.iastore, 1) := by decide +kernel
theorem dX9_findKeysOf_84 : decode cX9_findKeysOf 84 = .ok (.aload_n 0, 1) := by decide +kernel
theorem dX9_findKeysOf_85 : decode cX9_findKeysOf 85 = .ok (.getfield 78, 3) := by decide +kernel
theorem dX9_findKeysOf_88 : decode cX9_findKeysOf 88 = .ok (.iload_n 2, 1) := by decide +kernel
theorem dX9_findKeysOf_89 : decode cX9_findKeysOf 89 = .ok (.dup2, 1) := by decide +kernel
theorem dX9_findKeysOf_90 : decode cX9_findKeysOf 90 = .ok (.iaload, 1) := by decide +kernel
theorem dX9_findKeysOf_91 : decode cX9_findKeysOf 91 = .ok (.iconst 1, 1) := by decide +kernel
theorem dX9_findKeysOf_92 : decode cX9_findKeysOf 92 = .ok (.iadd, 1) := by decide +kernel
theorem dX9_findKeysOf_93 : decode cX9_findKeysOf 93 = .ok (.iastore, 1) := by decide +kernel
theorem dX9_findKeysOf_94 : decode cX9_findKeysOf 94 = .ok (.iinc 5 1, 3) := by decide +kernel
theorem dX9_findKeysOf_97 : decode cX9_findKeysOf 97 = .ok (.goto (-45), 3) := by decide +kernel
theorem dX9_findKeysOf_100 : decode cX9_findKeysOf 100 = .ok (.iinc 4 1, 3) := by decide +kernel
theorem dX9_findKeysOf_103 : decode cX9_findKeysOf 103 = .ok (.goto (-81), 3) := by decide +kernel
theorem dX9_findKeysOf_106 : decode cX9_findKeysOf 106 = .ok (.return_, 1) := by decide +kernel
theorem dX9_hasKey_0 : decode cX9_hasKey 0 = .ok (.iconst 0, 1) := by decide +kernel
theorem dX9_hasKey_1 : decode cX9_hasKey 1 = .ok (.istore_n 3, 1) := by decide +kernel
theorem dX9_hasKey_2 : decode cX9_hasKey 2 = .ok (.iconst 0, 1) := by decide +kernel
theorem dX9_hasKey_3 : decode cX9_hasKey 3 = .ok (.istore 4, 2) := by decide +kernel
theorem dX9_hasKey_5 : decode cX9_hasKey 5 = .ok (.iload 4, 2) := by decide +kernel
theorem dX9_hasKey_7 : decode cX9_hasKey 7 = .ok (.aload_n 0, 1) := by decide +kernel
theorem dX9_hasKey_8 : decode cX9_hasKey 8 = .ok (.getfield 78, 3) := by decide +kernel
theorem dX9_hasKey_11 : decode cX9_hasKey 11 = .ok (.iload_n 1, 1) := by decide +kernel
theorem dX9_hasKey_12 : decode cX9_hasKey 12 = .ok (.iaload, 1) := by decide +kernel
theorem dX9_hasKey_13 : decode cX9_hasKey 13 = .ok (.if_icmp .ge 35, 3) := by decide +kernel
theorem dX9_hasKey_16 : decode cX9_hasKey 16 = .ok (.iload_n 3, 1) := by decide +kernel
theorem dX9_hasKey_17 : decode cX9_hasKey 17 = .ok (.ifCond .ne 19, 3) := by decide +kernel
theorem dX9_hasKey_20 : decode cX9_hasKey 20 = .ok (.aload_n 0, 1) := by decide +kernel
theorem dX9_hasKey_21 : decode cX9_hasKey 21 = .ok (.getfield 81, 3) := by decide +kernel
theorem dX9_hasKey_24 : decode cX9_hasKey 24 = .ok (.bipush 18, 2) := by decide +kernel
theorem dX9_hasKey_26 : decode cX9_hasKey 26 = .ok (.iload_n 1, 1) := by decide +kernel
theorem dX9_hasKey_27 : decode cX9_hasKey 27 = .ok (.imul, 1) := by decide +kernel
theorem dX9_hasKey_28 : decode cX9_hasKey 28 = .ok (.iload 4, 2) := by decide +kernel
theorem dX9_hasKey_30 : decode cX9_hasKey 30 = .ok (.iadd, 1) := by decide +kernel
theorem dX9_hasKey_31 : decode cX9_hasKey 31 = .ok (.iaload, 1) := by decide +kernel
theorem dX9_hasKey_32 : decode cX9_hasKey 32 = .ok (.iload_n 2, 1) := by decide +kernel
theorem dX9_hasKey_33 : decode cX9_hasKey 33 = .ok (.if_icmp .ne 7, 3) := by decide +kernel
theorem dX9_hasKey_36 : decode cX9_hasKey 36 = .ok (.iconst 1, 1) := by decide +kernel
theorem dX9_hasKey_37 : decode cX9_hasKey 37 = .ok (.goto 4, 3) := by decide +kernel
theorem dX9_hasKey_40 : decode cX9_hasKey 40 = .ok (.iconst 0, 1) := by decide +kernel
theorem dX9_hasKey_41 : decode cX9_hasKey 41 = .ok (.istore_n 3, 1) := by decide +kernel
theorem dX9_hasKey_42 : decode cX9_hasKey 42 = .ok (.iinc 4 1, 3) := by decide +kernel
theorem dX9_hasKey_45 : decode cX9_hasKey 45 = .ok (.goto (-40), 3) := by decide +kernel
theorem dX9_hasKey_48 : decode cX9_hasKey 48 = .ok (.iload_n 3, 1) := by decide +kernel
theorem dX9_hasKey_49 : decode cX9_hasKey 49 = .ok (.ireturn, 1) := by decide +kernel
theorem dX9_sumOf_0 : decode cX9_sumOf 0 = .ok (.lconst 0, 1) := by decide +kernel
theorem dX9_sumOf_1 : decode cX9_sumOf 1 = .ok (.lstore_n 3, 1) := by decide +kernel
theorem dX9_sumOf_2 : decode cX9_sumOf 2 = .ok (.iconst 0, 1) := by decide +kernel
theorem dX9_sumOf_3 : decode cX9_sumOf 3 = .ok (.istore 5, 2) := by decide +kernel
theorem dX9_sumOf_5 : decode cX9_sumOf 5 = .ok (.iload 5, 2) := by decide +kernel
theorem dX9_sumOf_7 : decode cX9_sumOf 7 = .ok (.aload_n 0, 1) := by decide +kernel
theorem dX9_sumOf_8 : decode cX9_sumOf 8 = .ok (.getfield 7, 3) := by decide +kernel
theorem dX9_sumOf_11 : decode cX9_sumOf 11 = .ok (.bipush 6, 2) := by decide +kernel
theorem dX9_sumOf_13 : decode cX9_sumOf 13 = .ok (.iload_n 1, 1) := by decide +kernel
theorem dX9_sumOf_14 : decode cX9_sumOf 14 = .ok (.imul, 1) := by decide +kernel
theorem dX9_sumOf_15 : decode cX9_sumOf 15 = .ok (.iload_n 2, 1) := by decide +kernel
theorem dX9_sumOf_16 : decode cX9_sumOf 16 = .ok (.iadd, 1) := by decide +kernel
theorem dX9_sumOf_17 : decode cX9_sumOf 17 = .ok (.iaload, 1) := by decide +kernel
theorem dX9_sumOf_18 : decode cX9_sumOf 18 = .ok (.if_icmp .ge 29, 3) := by decide +kernel
theorem dX9_sumOf_21 : decode cX9_sumOf 21 = .ok (.lload_n 3, 1) := by decide +kernel
theorem dX9_sumOf_22 : decode cX9_sumOf 22 = .ok (.aload_n 0, 1) := by decide +kernel
theorem dX9_sumOf_23 : decode cX9_sumOf 23 = .ok (.getfield 13, 3) := by decide +kernel
theorem dX9_sumOf_26 : decode cX9_sumOf 26 = .ok (.iconst 3, 1) := by decide +kernel
theorem dX9_sumOf_27 : decode cX9_sumOf 27 = .ok (.bipush 6, 2) := by decide +kernel
theorem dX9_sumOf_29 : decode cX9_sumOf 29 = .ok (.iload_n 1, 1) := by decide +kernel
theorem dX9_sumOf_30 : decode cX9_sumOf 30 = .ok (.imul, 1) := by decide +kernel
theorem dX9_sumOf_31 : decode cX9_sumOf 31 = .ok (.iload_n 2, 1) := by decide +kernel
theorem dX9_sumOf_32 : decode cX9_sumOf 32 = .ok (.iadd, 1) := by decide +kernel
theorem dX9_sumOf_33 : decode cX9_sumOf 33 = .ok (.imul, 1) := by decide +kernel
theorem dX9_sumOf_34 : decode cX9_sumOf 34 = .ok (.iload 5, 2) := by decide +kernel
theorem dX9_sumOf_36 : decode cX9_sumOf 36 = .ok (.iadd, 1) := by decide +kernel
theorem dX9_sumOf_37 : decode cX9_sumOf 37 = .ok (.iaload, 1) := by decide +kernel
theorem dX9_sumOf_38 : decode cX9_sumOf 38 = .ok (.i2l, 1) := by decide +kernel
theorem dX9_sumOf_39 : decode cX9_sumOf 39 = .ok (.ladd, 1) := by decide +kernel
theorem dX9_sumOf_40 : decode cX9_sumOf 40 = .ok (.lstore_n 3, 1) := by decide +kernel
theorem dX9_sumOf_41 : decode cX9_sumOf 41 = .ok (.iinc 5 1, 3) := by decide +kernel
theorem dX9_sumOf_44 : decode cX9_sumOf 44 = .ok (.goto (-39), 3) := by decide +kernel
theorem dX9_sumOf_47 : decode cX9_sumOf 47 = .ok (.lload_n 3, 1) := by decide +kernel
theorem dX9_sumOf_48 : decode cX9_sumOf 48 = .ok (.lreturn, 1) := by decide +kernel
theorem dX9_isNew_0 : decode cX9_isNew 0 = .ok (.iconst 1, 1) := by decide +kernel
theorem dX9_isNew_1 : decode cX9_isNew 1 = .ok (.istore_n 2, 1) := by decide +kernel
theorem dX9_isNew_2 : decode cX9_isNew 2 = .ok (.iconst 0, 1) := by decide +kernel
theorem dX9_isNew_3 : decode cX9_isNew 3 = .ok (.istore_n 3, 1) := by decide +kernel
theorem dX9_isNew_4 : decode cX9_isNew 4 = .ok (.iload_n 3, 1) := by decide +kernel
theorem dX9_isNew_5 : decode cX9_isNew 5 = .ok (.aload_n 0, 1) := by decide +kernel
theorem dX9_isNew_6 : decode cX9_isNew 6 = .ok (.getfield 162, 3) := by decide +kernel
theorem dX9_isNew_9 : decode cX9_isNew 9 = .ok (.if_icmp .ge 29, 3) := by decide +kernel
theorem dX9_isNew_12 : decode cX9_isNew 12 = .ok (.iload_n 2, 1) := by decide +kernel
theorem dX9_isNew_13 : decode cX9_isNew 13 = .ok (.ifCond .eq 17, 3) := by decide +kernel
theorem dX9_isNew_16 : decode cX9_isNew 16 = .ok (.aload_n 0, 1) := by decide +kernel
theorem dX9_isNew_17 : decode cX9_isNew 17 = .ok (.getfield 68, 3) := by decide +kernel
theorem dX9_isNew_20 : decode cX9_isNew 20 = .ok (.iload_n 3, 1) := by decide +kernel
theorem dX9_isNew_21 : decode cX9_isNew 21 = .ok (.iaload, 1) := by decide +kernel
theorem dX9_isNew_22 : decode cX9_isNew 22 = .ok (.iload_n 1, 1) := by decide +kernel
theorem dX9_isNew_23 : decode cX9_isNew 23 = .ok (.if_icmp .eq 7, 3) := by decide +kernel
theorem dX9_isNew_26 : decode cX9_isNew 26 = .ok (.iconst 1, 1) := by decide +kernel
theorem dX9_isNew_27 : decode cX9_isNew 27 = .ok (.goto 4, 3) := by decide +kernel
theorem dX9_isNew_30 : decode cX9_isNew 30 = .ok (.iconst 0, 1) := by decide +kernel
theorem dX9_isNew_31 : decode cX9_isNew 31 = .ok (.istore_n 2, 1) := by decide +kernel
theorem dX9_isNew_32 : decode cX9_isNew 32 = .ok (.iinc 3 1, 3) := by decide +kernel
theorem dX9_isNew_35 : decode cX9_isNew 35 = .ok (.goto (-31), 3) := by decide +kernel
theorem dX9_isNew_38 : decode cX9_isNew 38 = .ok (.iload_n 2, 1) := by decide +kernel
theorem dX9_isNew_39 : decode cX9_isNew 39 = .ok (.ireturn, 1) := by decide +kernel
theorem dX9_findKeys_0 : decode cX9_findKeys 0 = .ok (.aload_n 0, 1) := by decide +kernel
theorem dX9_findKeys_1 : decode cX9_findKeys 1 = .ok (.iconst 0, 1) := by decide +kernel
theorem dX9_findKeys_2 : decode cX9_findKeys 2 = .ok (.putfield 162, 3) := by decide +kernel
theorem dX9_findKeys_5 : decode cX9_findKeys 5 = .ok (.iconst 0, 1) := by decide +kernel
theorem dX9_findKeys_6 : decode cX9_findKeys 6 = .ok (.istore_n 2, 1) := by decide +kernel
theorem dX9_findKeys_7 : decode cX9_findKeys 7 = .ok (.iload_n 2, 1) := by decide +kernel
theorem dX9_findKeys_8 : decode cX9_findKeys 8 = .ok (.aload_n 0, 1) := by decide +kernel
theorem dX9_findKeys_9 : decode cX9_findKeys 9 = .ok (.getfield 32, 3) := by decide +kernel
theorem dX9_findKeys_12 : decode cX9_findKeys 12 = .ok (.iload_n 1, 1) := by decide +kernel
theorem dX9_findKeys_13 : decode cX9_findKeys 13 = .ok (.iaload, 1) := by decide +kernel
theorem dX9_findKeys_14 : decode cX9_findKeys 14 = .ok (.if_icmp .ge 29, 3) := by decide +kernel
theorem dX9_findKeys_17 : decode cX9_findKeys 17 = .ok (.aload_n 0, 1) := by decide +kernel
theorem dX9_findKeys_18 : decode cX9_findKeys 18 = .ok (.getfield 68, 3) := by decide +kernel
theorem dX9_findKeys_21 : decode cX9_findKeys 21 = .ok (.aload_n 0, 1) := by decide +kernel
theorem dX9_findKeys_22 : decode cX9_findKeys 22 = .ok (.getfield 162, 3) := by decide +kernel
theorem dX9_findKeys_25 : decode cX9_findKeys 25 = .ok (.iload_n 2, 1) := by decide +kernel
theorem dX9_findKeys_26 : decode cX9_findKeys 26 = .ok (.iastore, 1) := by decide +kernel
theorem dX9_findKeys_27 : decode cX9_findKeys 27 = .ok (.aload_n 0, 1) := by decide +kernel
theorem dX9_findKeys_28 : decode cX9_findKeys 28 = .ok (.dup, 1) := by decide +kernel
theorem dX9_findKeys_29 : decode cX9_findKeys 29 = .ok (.getfield 162, 3) := by decide +kernel
theorem dX9_findKeys_32 : decode cX9_findKeys 32 = .ok (.iconst 1, 1) := by decide +kernel
theorem dX9_findKeys_33 : decode cX9_findKeys 33 = .ok (.iadd, 1) := by decide +kernel
theorem dX9_findKeys_34 : decode cX9_findKeys 34 = .ok (.putfield 162, 3) := by decide +kernel
theorem dX9_findKeys_37 : decode cX9_findKeys 37 = .ok (.iinc 2 1, 3) := by decide +kernel
theorem dX9_findKeys_40 : decode cX9_findKeys 40 = .ok (.goto (-33), 3) := by decide +kernel
theorem dX9_findKeys_43 : decode cX9_findKeys 43 = .ok (.iconst 0, 1) := by decide +kernel
theorem dX9_findKeys_44 : decode cX9_findKeys 44 = .ok (.istore_n 2, 1) := by decide +kernel
theorem dX9_findKeys_45 : decode cX9_findKeys 45 = .ok (.iload_n 2, 1) := by decide +kernel
theorem dX9_findKeys_46 : decode cX9_findKeys 46 = .ok (.aload_n 0, 1) := by decide +kernel
theorem dX9_findKeys_47 : decode cX9_findKeys 47 = .ok (.getfield 90, 3) := by decide +kernel
theorem dX9_findKeys_50 : decode cX9_findKeys 50 = .ok (.if_icmp .ge 96, 3) := by decide +kernel
theorem dX9_findKeys_53 : decode cX9_findKeys 53 = .ok (.aload_n 0, 1) := by decide +kernel
theorem dX9_findKeys_54 : decode cX9_findKeys 54 = .ok (.iload_n 1, 1) := by decide +kernel
theorem dX9_findKeys_55 : decode cX9_findKeys 55 = .ok (.iload_n 2, 1) := by decide +kernel
theorem dX9_findKeys_56 : decode cX9_findKeys 56 = .ok (.invokevirtual 165, 3) := by decide +kernel
theorem dX9_findKeys_59 : decode cX9_findKeys 59 = .ok (.aload_n 0, 1) := by decide +kernel
theorem dX9_findKeys_60 : decode cX9_findKeys 60 = .ok (.iload_n 1, 1) := by decide +kernel
theorem dX9_findKeys_61 : decode cX9_findKeys 61 = .ok (.iload_n 2, 1) := by decide +kernel
theorem dX9_findKeys_62 : decode cX9_findKeys 62 = .ok (.invokevirtual 168, 3) := by decide +kernel
theorem dX9_findKeys_65 : decode cX9_findKeys 65 = .ok (.istore_n 3, 1) := by decide +kernel
theorem dX9_findKeys_66 : decode cX9_findKeys 66 = .ok (.iconst 0, 1) := by decide +kernel
theorem dX9_findKeys_67 : decode cX9_findKeys 67 = .ok (.istore 4, 2) := by decide +kernel
theorem dX9_findKeys_69 : decode cX9_findKeys 69 = .ok (.iload 4, 2) := by decide +kernel
theorem dX9_findKeys_71 : decode cX9_findKeys 71 = .ok (.aload_n 0, 1) := by decide +kernel
theorem dX9_findKeys_72 : decode cX9_findKeys 72 = .ok (.getfield 78, 3) := by decide +kernel
theorem dX9_findKeys_75 : decode cX9_findKeys 75 = .ok (.iload_n 2, 1) := by decide +kernel
theorem dX9_findKeys_76 : decode cX9_findKeys 76 = .ok (.iaload, 1) := by decide +kernel
theorem dX9_findKeys_77 : decode cX9_findKeys 77 = .ok (.if_icmp .ge 63, 3) := by decide +kernel
theorem dX9_findKeys_80 : decode cX9_findKeys 80 = .ok (.iload_n 3, 1) := by decide +kernel
theorem dX9_findKeys_81 : decode cX9_findKeys 81 = .ok (.ifCond .eq 59, 3) := by decide +kernel
theorem dX9_findKeys_84 : decode cX9_findKeys 84 = .ok (.aload_n 0, 1) := by decide +kernel
theorem dX9_findKeys_85 : decode cX9_findKeys 85 = .ok (.aload_n 0, 1) := by decide +kernel
theorem dX9_findKeys_86 : decode cX9_findKeys 86 = .ok (.getfield 81, 3) := by decide +kernel
theorem dX9_findKeys_89 : decode cX9_findKeys 89 = .ok (.bipush 18, 2) := by decide +kernel
theorem dX9_findKeys_91 : decode cX9_findKeys 91 = .ok (.iload_n 2, 1) := by decide +kernel
theorem dX9_findKeys_92 : decode cX9_findKeys 92 = .ok (.imul, 1) := by decide +kernel
theorem dX9_findKeys_93 : decode cX9_findKeys 93 = .ok (.iload 4, 2) := by decide +kernel
theorem dX9_findKeys_95 : decode cX9_findKeys 95 = .ok (.iadd, 1) := by decide +kernel
theorem dX9_findKeys_96 : decode cX9_findKeys 96 = .ok (.iaload, 1) := by decide +kernel
theorem dX9_findKeys_97 : decode cX9_findKeys 97 = .ok (.invokevirtual 172, 3) := by decide +kernel
theorem dX9_findKeys_100 : decode cX9_findKeys 100 = .ok (.ifCond .eq 34, 3) := by decide +kernel
theorem dX9_findKeys_103 : decode cX9_findKeys 103 = .ok (.aload_n 0, 1) := by decide +kernel
theorem dX9_findKeys_104 : decode cX9_findKeys 104 = .ok (.getfield 68, 3) := by decide +kernel
theorem dX9_findKeys_107 : decode cX9_findKeys 107 = .ok (.aload_n 0, 1) := by decide +kernel
theorem dX9_findKeys_108 : decode cX9_findKeys 108 = .ok (.getfield 162, 3) := by decide +kernel
theorem dX9_findKeys_111 : decode cX9_findKeys 111 = .ok (.aload_n 0, 1) := by decide +kernel
theorem dX9_findKeys_112 : decode cX9_findKeys 112 = .ok (.getfield 81, 3) := by decide +kernel
theorem dX9_findKeys_115 : decode cX9_findKeys 115 = .ok (.bipush 18, 2) := by decide +kernel
theorem dX9_findKeys_117 : decode cX9_findKeys 117 = .ok (.iload_n 2, 1) := by decide +kernel
theorem dX9_findKeys_118 : decode cX9_findKeys 118 = .ok (.imul, 1) := by decide +kernel
theorem dX9_findKeys_119 : decode cX9_findKeys 119 = .ok (.iload 4, 2) := by decide +kernel
theorem dX9_findKeys_121 : decode cX9_findKeys 121 = .ok (.iadd, 1) := by decide +kernel
theorem dX9_findKeys_122 : decode cX9_findKeys 122 = .ok (.iaload, 1) := by decide +kernel
theorem dX9_findKeys_123 : decode cX9_findKeys 123 = .ok (.iastore, 1) := by decide +kernel
theorem dX9_findKeys_124 : decode cX9_findKeys 124 = .ok (.aload_n 0, 1) := by decide +kernel
theorem dX9_findKeys_125 : decode cX9_findKeys 125 = .ok (.dup, 1) := by decide +kernel
theorem dX9_findKeys_126 : decode cX9_findKeys 126 = .ok (.getfield 162, 3) := by decide +kernel
theorem dX9_findKeys_129 : decode cX9_findKeys 129 = .ok (.iconst 1, 1) := by decide +kernel
theorem dX9_findKeys_130 : decode cX9_findKeys 130 = .ok (.iadd, 1) := by decide +kernel
theorem dX9_findKeys_131 : decode cX9_findKeys 131 = .ok (.putfield 162, 3) := by decide +kernel
theorem dX9_findKeys_134 : decode cX9_findKeys 134 = .ok (.iinc 4 1, 3) := by decide +kernel
theorem dX9_findKeys_137 : decode cX9_findKeys 137 = .ok (.goto (-68), 3) := by decide +kernel
theorem dX9_findKeys_140 : decode cX9_findKeys 140 = .ok (.iinc 2 1, 3) := by decide +kernel
theorem dX9_findKeys_143 : decode cX9_findKeys 143 = .ok (.goto (-98), 3) := by decide +kernel
theorem dX9_findKeys_146 : decode cX9_findKeys 146 = .ok (.return_, 1) := by decide +kernel
theorem dX9_isIn_0 : decode cX9_isIn 0 = .ok (.aload_n 0, 1) := by decide +kernel
theorem dX9_isIn_1 : decode cX9_isIn 1 = .ok (.getfield 175, 3) := by decide +kernel
theorem dX9_isIn_4 : decode cX9_isIn 4 = .ok (.ifCond .eq 17, 3) := by decide +kernel
theorem dX9_isIn_7 : decode cX9_isIn 7 = .ok (.iload_n 2, 1) := by decide +kernel
theorem dX9_isIn_8 : decode cX9_isIn 8 = .ok (.aload_n 0, 1) := by decide +kernel
theorem dX9_isIn_9 : decode cX9_isIn 9 = .ok (.getfield 162, 3) := by decide +kernel
theorem dX9_isIn_12 : decode cX9_isIn 12 = .ok (.iconst 1, 1) := by decide +kernel
theorem dX9_isIn_13 : decode cX9_isIn 13 = .ok (.isub, 1) := by decide +kernel
theorem dX9_isIn_14 : decode cX9_isIn 14 = .ok (.if_icmp .ne 7, 3) := by decide +kernel
theorem dX9_isIn_17 : decode cX9_isIn 17 = .ok (.iconst 1, 1) := by decide +kernel
theorem dX9_isIn_18 : decode cX9_isIn 18 = .ok (.goto 4, 3) := by decide +kernel
theorem dX9_isIn_21 : decode cX9_isIn 21 = .ok (.iconst 0, 1) := by decide +kernel
theorem dX9_isIn_22 : decode cX9_isIn 22 = .ok (.istore 4, 2) := by decide +kernel
theorem dX9_isIn_24 : decode cX9_isIn 24 = .ok (.aload_n 0, 1) := by decide +kernel
theorem dX9_isIn_25 : decode cX9_isIn 25 = .ok (.iload_n 1, 1) := by decide +kernel
theorem dX9_isIn_26 : decode cX9_isIn 26 = .ok (.iload_n 3, 1) := by decide +kernel
theorem dX9_isIn_27 : decode cX9_isIn 27 = .ok (.invokevirtual 168, 3) := by decide +kernel
theorem dX9_isIn_30 : decode cX9_isIn 30 = .ok (.ifCond .eq 38, 3) := by decide +kernel
theorem dX9_isIn_33 : decode cX9_isIn 33 = .ok (.iload 4, 2) := by decide +kernel
theorem dX9_isIn_35 : decode cX9_isIn 35 = .ok (.ifCond .eq 15, 3) := by decide +kernel
theorem dX9_isIn_38 : decode cX9_isIn 38 = .ok (.aload_n 0, 1) := by decide +kernel
theorem dX9_isIn_39 : decode cX9_isIn 39 = .ok (.getfield 78, 3) := by decide +kernel
theorem dX9_isIn_42 : decode cX9_isIn 42 = .ok (.iload_n 3, 1) := by decide +kernel
theorem dX9_isIn_43 : decode cX9_isIn 43 = .ok (.iaload, 1) := by decide +kernel
theorem dX9_isIn_44 : decode cX9_isIn 44 = .ok (.ifCond .ne 24, 3) := by decide +kernel
theorem dX9_isIn_47 : decode cX9_isIn 47 = .ok (.goto 17, 3) := by decide +kernel
theorem dX9_isIn_50 : decode cX9_isIn 50 = .ok (.aload_n 0, 1) := by decide +kernel
theorem dX9_isIn_51 : decode cX9_isIn 51 = .ok (.iload_n 3, 1) := by decide +kernel
theorem dX9_isIn_52 : decode cX9_isIn 52 = .ok (.aload_n 0, 1) := by decide +kernel
theorem dX9_isIn_53 : decode cX9_isIn 53 = .ok (.getfield 68, 3) := by decide +kernel
theorem dX9_isIn_56 : decode cX9_isIn 56 = .ok (.iload_n 2, 1) := by decide +kernel
theorem dX9_isIn_57 : decode cX9_isIn 57 = .ok (.iaload, 1) := by decide +kernel
theorem dX9_isIn_58 : decode cX9_isIn 58 = .ok (.invokevirtual 179, 3) := by decide +kernel
theorem dX9_isIn_61 : decode cX9_isIn 61 = .ok (.ifCond .eq 7, 3) := by decide +kernel
theorem dX9_isIn_64 : decode cX9_isIn 64 = .ok (.iconst 1, 1) := by decide +kernel
theorem dX9_isIn_65 : decode cX9_isIn 65 = .ok (.goto 4, 3) := by decide +kernel
theorem dX9_isIn_68 : decode cX9_isIn 68 = .ok (.iconst 0, 1) := by decide +kernel
theorem dX9_isIn_69 : decode cX9_isIn 69 = .ok (.ireturn, 1) := by decide +kernel
theorem dX9_measure_0 : decode cX9_measure 0 = .ok (.aload_n 0, 1) := by decide +kernel
theorem dX9_measure_1 : decode cX9_measure 1 = .ok (.getfield 71, 3) := by decide +kernel
theorem dX9_measure_4 : decode cX9_measure 4 = .ok (.iload_n 2, 1) := by decide +kernel
theorem dX9_measure_5 : decode cX9_measure 5 = .ok (.iconst 0, 1) := by decide +kernel
theorem dX9_measure_6 : decode cX9_measure 6 = .ok (.iastore, 1) := by decide +kernel
theorem dX9_measure_7 : decode cX9_measure 7 = .ok (.aload_n 0, 1) := by decide +kernel
theorem dX9_measure_8 : decode cX9_measure 8 = .ok (.getfield 74, 3) := by decide +kernel
theorem dX9_measure_11 : decode cX9_measure 11 = .ok (.iload_n 2, 1) := by decide +kernel
theorem dX9_measure_12 : decode cX9_measure 12 = .ok (.lconst 0, 1) := by decide +kernel
theorem dX9_measure_13 : decode cX9_measure 13 = .ok (.lastore, 1) := by decide +kernel
theorem dX9_measure_14 : decode cX9_measure 14 = .ok (.iconst 0, 1) := by decide +kernel
theorem dX9_measure_15 : decode cX9_measure 15 = .ok (.istore_n 3, 1) := by decide +kernel
theorem dX9_measure_16 : decode cX9_measure 16 = .ok (.iload_n 3, 1) := by decide +kernel
theorem dX9_measure_17 : decode cX9_measure 17 = .ok (.aload_n 0, 1) := by decide +kernel
theorem dX9_measure_18 : decode cX9_measure 18 = .ok (.getfield 90, 3) := by decide +kernel
theorem dX9_measure_21 : decode cX9_measure 21 = .ok (.if_icmp .ge 63, 3) := by decide +kernel
theorem dX9_measure_24 : decode cX9_measure 24 = .ok (.aload_n 0, 1) := by decide +kernel
theorem dX9_measure_25 : decode cX9_measure 25 = .ok (.iload_n 1, 1) := by decide +kernel
theorem dX9_measure_26 : decode cX9_measure 26 = .ok (.iload_n 2, 1) := by decide +kernel
theorem dX9_measure_27 : decode cX9_measure 27 = .ok (.iload_n 3, 1) := by decide +kernel
theorem dX9_measure_28 : decode cX9_measure 28 = .ok (.invokevirtual 182, 3) := by decide +kernel
theorem dX9_measure_31 : decode cX9_measure 31 = .ok (.ifCond .eq 47, 3) := by decide +kernel
theorem dX9_measure_34 : decode cX9_measure 34 = .ok (.aload_n 0, 1) := by decide +kernel
theorem dX9_measure_35 : decode cX9_measure 35 = .ok (.getfield 71, 3) := by decide +kernel
theorem dX9_measure_38 : decode cX9_measure 38 = .ok (.iload_n 2, 1) := by decide +kernel
theorem dX9_measure_39 : decode cX9_measure 39 = .ok (.dup2, 1) := by decide +kernel
theorem dX9_measure_40 : decode cX9_measure 40 = .ok (.iaload, 1) := by decide +kernel
theorem dX9_measure_41 : decode cX9_measure 41 = .ok (.iconst 1, 1) := by decide +kernel
theorem dX9_measure_42 : decode cX9_measure 42 = .ok (.iadd, 1) := by decide +kernel
theorem dX9_measure_43 : decode cX9_measure 43 = .ok (.iastore, 1) := by decide +kernel
theorem dX9_measure_44 : decode cX9_measure 44 = .ok (.aload_n 0, 1) := by decide +kernel
theorem dX9_measure_45 : decode cX9_measure 45 = .ok (.getfield 74, 3) := by decide +kernel
theorem dX9_measure_48 : decode cX9_measure 48 = .ok (.iload_n 2, 1) := by decide +kernel
theorem dX9_measure_49 : decode cX9_measure 49 = .ok (.dup2, 1) := by decide +kernel
theorem dX9_measure_50 : decode cX9_measure 50 = .ok (.laload, 1) := by decide +kernel
theorem dX9_measure_51 : decode cX9_measure 51 = .ok (.aload_n 0, 1) := by decide +kernel
theorem dX9_measure_52 : decode cX9_measure 52 = .ok (.getfield 56, 3) := by decide +kernel
theorem dX9_measure_55 : decode cX9_measure 55 = .ok (.iload_n 1, 1) := by decide +kernel
theorem dX9_measure_56 : decode cX9_measure 56 = .ok (.iaload, 1) := by decide +kernel
theorem dX9_measure_57 : decode cX9_measure 57 = .ok (.iconst 2, 1) := by decide +kernel
theorem dX9_measure_58 : decode cX9_measure 58 = .ok (.if_icmp .ne 17, 3) := by decide +kernel
theorem dX9_measure_61 : decode cX9_measure 61 = .ok (.aload_n 0, 1) := by decide +kernel
theorem dX9_measure_62 : decode cX9_measure 62 = .ok (.iload_n 3, 1) := by decide +kernel
theorem dX9_measure_63 : decode cX9_measure 63 = .ok (.aload_n 0, 1) := by decide +kernel
theorem dX9_measure_64 : decode cX9_measure 64 = .ok (.getfield 59, 3) := by decide +kernel
theorem dX9_measure_67 : decode cX9_measure 67 = .ok (.iload_n 1, 1) := by decide +kernel
theorem dX9_measure_68 : decode cX9_measure 68 = .ok (.iaload, 1) := by decide +kernel
theorem dX9_measure_69 : decode cX9_measure 69 = .ok (.invokevirtual 185, 3) := by decide +kernel
theorem dX9_measure_72 : decode cX9_measure 72 = .ok (.goto 4, 3) := by decide +kernel
theorem dX9_measure_75 : decode cX9_measure 75 = .ok (.lconst 0, 1) := by decide +kernel
theorem dX9_measure_76 : decode cX9_measure 76 = .ok (.ladd, 1) := by decide +kernel
theorem dX9_measure_77 : decode cX9_measure 77 = .ok (.lastore, 1) := by decide +kernel
theorem dX9_measure_78 : decode cX9_measure 78 = .ok (.iinc 3 1, 3) := by decide +kernel
theorem dX9_measure_81 : decode cX9_measure 81 = .ok (.goto (-65), 3) := by decide +kernel
theorem dX9_measure_84 : decode cX9_measure 84 = .ok (.return_, 1) := by decide +kernel
theorem dX9_isBefore_0 : decode cX9_isBefore 0 = .ok (.aload_n 0, 1) := by decide +kernel
theorem dX9_isBefore_1 : decode cX9_isBefore 1 = .ok (.getfield 56, 3) := by decide +kernel
theorem dX9_isBefore_4 : decode cX9_isBefore 4 = .ok (.iload_n 1, 1) := by decide +kernel
theorem dX9_isBefore_5 : decode cX9_isBefore 5 = .ok (.iaload, 1) := by decide +kernel
theorem dX9_isBefore_6 : decode cX9_isBefore 6 = .ok (.ifCond .ne 39, 3) := by decide +kernel
theorem dX9_isBefore_9 : decode cX9_isBefore 9 = .ok (.aload_n 0, 1) := by decide +kernel
theorem dX9_isBefore_10 : decode cX9_isBefore 10 = .ok (.getfield 71, 3) := by decide +kernel
theorem dX9_isBefore_13 : decode cX9_isBefore 13 = .ok (.iload_n 2, 1) := by decide +kernel
theorem dX9_isBefore_14 : decode cX9_isBefore 14 = .ok (.iaload, 1) := by decide +kernel
theorem dX9_isBefore_15 : decode cX9_isBefore 15 = .ok (.aload_n 0, 1) := by decide +kernel
theorem dX9_isBefore_16 : decode cX9_isBefore 16 = .ok (.getfield 71, 3) := by decide +kernel
theorem dX9_isBefore_19 : decode cX9_isBefore 19 = .ok (.iload_n 3, 1) := by decide +kernel
theorem dX9_isBefore_20 : decode cX9_isBefore 20 = .ok (.iaload, 1) := by decide +kernel
theorem dX9_isBefore_21 : decode cX9_isBefore 21 = .ok (.if_icmp .eq 24, 3) := by decide +kernel
theorem dX9_isBefore_24 : decode cX9_isBefore 24 = .ok (.aload_n 0, 1) := by decide +kernel
theorem dX9_isBefore_25 : decode cX9_isBefore 25 = .ok (.getfield 71, 3) := by decide +kernel
theorem dX9_isBefore_28 : decode cX9_isBefore 28 = .ok (.iload_n 2, 1) := by decide +kernel
theorem dX9_isBefore_29 : decode cX9_isBefore 29 = .ok (.iaload, 1) := by decide +kernel
theorem dX9_isBefore_30 : decode cX9_isBefore 30 = .ok (.aload_n 0, 1) := by decide +kernel
theorem dX9_isBefore_31 : decode cX9_isBefore 31 = .ok (.getfield 71, 3) := by decide +kernel
theorem dX9_isBefore_34 : decode cX9_isBefore 34 = .ok (.iload_n 3, 1) := by decide +kernel
theorem dX9_isBefore_35 : decode cX9_isBefore 35 = .ok (.iaload, 1) := by decide +kernel
theorem dX9_isBefore_36 : decode cX9_isBefore 36 = .ok (.if_icmp .le 7, 3) := by decide +kernel
theorem dX9_isBefore_39 : decode cX9_isBefore 39 = .ok (.iconst 1, 1) := by decide +kernel
theorem dX9_isBefore_40 : decode cX9_isBefore 40 = .ok (.goto 4, 3) := by decide +kernel
theorem dX9_isBefore_43 : decode cX9_isBefore 43 = .ok (.iconst 0, 1) := by decide +kernel
theorem dX9_isBefore_44 : decode cX9_isBefore 44 = .ok (.ireturn, 1) := by decide +kernel
theorem dX9_isBefore_45 : decode cX9_isBefore 45 = .ok (.aload_n 0, 1) := by decide +kernel
theorem dX9_isBefore_46 : decode cX9_isBefore 46 = .ok (.getfield 56, 3) := by decide +kernel
theorem dX9_isBefore_49 : decode cX9_isBefore 49 = .ok (.iload_n 1, 1) := by decide +kernel
theorem dX9_isBefore_50 : decode cX9_isBefore 50 = .ok (.iaload, 1) := by decide +kernel
theorem dX9_isBefore_51 : decode cX9_isBefore 51 = .ok (.iconst 2, 1) := by decide +kernel
theorem dX9_isBefore_52 : decode cX9_isBefore 52 = .ok (.if_icmp .ne 41, 3) := by decide +kernel
theorem dX9_isBefore_55 : decode cX9_isBefore 55 = .ok (.aload_n 0, 1) := by decide +kernel
theorem dX9_isBefore_56 : decode cX9_isBefore 56 = .ok (.getfield 74, 3) := by decide +kernel
theorem dX9_isBefore_59 : decode cX9_isBefore 59 = .ok (.iload_n 2, 1) := by decide +kernel
theorem dX9_isBefore_60 : decode cX9_isBefore 60 = .ok (.laload, 1) := by decide +kernel
theorem dX9_isBefore_61 : decode cX9_isBefore 61 = .ok (.aload_n 0, 1) := by decide +kernel
theorem dX9_isBefore_62 : decode cX9_isBefore 62 = .ok (.getfield 74, 3) := by decide +kernel
theorem dX9_isBefore_65 : decode cX9_isBefore 65 = .ok (.iload_n 3, 1) := by decide +kernel
theorem dX9_isBefore_66 : decode cX9_isBefore 66 = .ok (.laload, 1) := by decide +kernel
theorem dX9_isBefore_67 : decode cX9_isBefore 67 = .ok (.lcmp, 1) := by decide +kernel
theorem dX9_isBefore_68 : decode cX9_isBefore 68 = .ok (.ifCond .eq 25, 3) := by decide +kernel
theorem dX9_isBefore_71 : decode cX9_isBefore 71 = .ok (.aload_n 0, 1) := by decide +kernel
theorem dX9_isBefore_72 : decode cX9_isBefore 72 = .ok (.getfield 74, 3) := by decide +kernel
theorem dX9_isBefore_75 : decode cX9_isBefore 75 = .ok (.iload_n 2, 1) := by decide +kernel
theorem dX9_isBefore_76 : decode cX9_isBefore 76 = .ok (.laload, 1) := by decide +kernel
theorem dX9_isBefore_77 : decode cX9_isBefore 77 = .ok (.aload_n 0, 1) := by decide +kernel
theorem dX9_isBefore_78 : decode cX9_isBefore 78 = .ok (.getfield 74, 3) := by decide +kernel
theorem dX9_isBefore_81 : decode cX9_isBefore 81 = .ok (.iload_n 3, 1) := by decide +kernel
theorem dX9_isBefore_82 : decode cX9_isBefore 82 = .ok (.laload, 1) := by decide +kernel
theorem dX9_isBefore_83 : decode cX9_isBefore 83 = .ok (.lcmp, 1) := by decide +kernel
theorem dX9_isBefore_84 : decode cX9_isBefore 84 = .ok (.ifCond .le 7, 3) := by decide +kernel
theorem dX9_isBefore_87 : decode cX9_isBefore 87 = .ok (.iconst 1, 1) := by decide +kernel
theorem dX9_isBefore_88 : decode cX9_isBefore 88 = .ok (.goto 4, 3) := by decide +kernel
theorem dX9_isBefore_91 : decode cX9_isBefore 91 = .ok (.iconst 0, 1) := by decide +kernel
theorem dX9_isBefore_92 : decode cX9_isBefore 92 = .ok (.ireturn, 1) := by decide +kernel
theorem dX9_isBefore_93 : decode cX9_isBefore 93 = .ok (.aload_n 0, 1) := by decide +kernel
theorem dX9_isBefore_94 : decode cX9_isBefore 94 = .ok (.getfield 68, 3) := by decide +kernel
theorem dX9_isBefore_97 : decode cX9_isBefore 97 = .ok (.iload_n 2, 1) := by decide +kernel
theorem dX9_isBefore_98 : decode cX9_isBefore 98 = .ok (.iaload, 1) := by decide +kernel
theorem dX9_isBefore_99 : decode cX9_isBefore 99 = .ok (.aload_n 0, 1) := by decide +kernel
theorem dX9_isBefore_100 : decode cX9_isBefore 100 = .ok (.getfield 68, 3) := by decide +kernel
theorem dX9_isBefore_103 : decode cX9_isBefore 103 = .ok (.iload_n 3, 1) := by decide +kernel
theorem dX9_isBefore_104 : decode cX9_isBefore 104 = .ok (.iaload, 1) := by decide +kernel
theorem dX9_isBefore_105 : decode cX9_isBefore 105 = .ok (.if_icmp .ge 7, 3) := by decide +kernel
theorem dX9_isBefore_108 : decode cX9_isBefore 108 = .ok (.iconst 1, 1) := by decide +kernel
theorem dX9_isBefore_109 : decode cX9_isBefore 109 = .ok (.goto 4, 3) := by decide +kernel
theorem dX9_isBefore_112 : decode cX9_isBefore 112 = .ok (.iconst 0, 1) := by decide +kernel
theorem dX9_isBefore_113 : decode cX9_isBefore 113 = .ok (.ireturn, 1) := by decide +kernel
theorem dX9_move_0 : decode cX9_move 0 = .ok (.aload_n 0, 1) := by decide +kernel
theorem dX9_move_1 : decode cX9_move 1 = .ok (.getfield 68, 3) := by decide +kernel
theorem dX9_move_4 : decode cX9_move 4 = .ok (.iload_n 2, 1) := by decide +kernel
theorem dX9_move_5 : decode cX9_move 5 = .ok (.aload_n 0, 1) := by decide +kernel
theorem dX9_move_6 : decode cX9_move 6 = .ok (.getfield 68, 3) := by decide +kernel
theorem dX9_move_9 : decode cX9_move 9 = .ok (.iload_n 1, 1) := by decide +kernel
theorem dX9_move_10 : decode cX9_move 10 = .ok (.iaload, 1) := by decide +kernel
theorem dX9_move_11 : decode cX9_move 11 = .ok (.iastore, 1) := by decide +kernel
theorem dX9_move_12 : decode cX9_move 12 = .ok (.aload_n 0, 1) := by decide +kernel
theorem dX9_move_13 : decode cX9_move 13 = .ok (.getfield 71, 3) := by decide +kernel
theorem dX9_move_16 : decode cX9_move 16 = .ok (.iload_n 2, 1) := by decide +kernel
theorem dX9_move_17 : decode cX9_move 17 = .ok (.aload_n 0, 1) := by decide +kernel
theorem dX9_move_18 : decode cX9_move 18 = .ok (.getfield 71, 3) := by decide +kernel
theorem dX9_move_21 : decode cX9_move 21 = .ok (.iload_n 1, 1) := by decide +kernel
theorem dX9_move_22 : decode cX9_move 22 = .ok (.iaload, 1) := by decide +kernel
theorem dX9_move_23 : decode cX9_move 23 = .ok (.iastore, 1) := by decide +kernel
theorem dX9_move_24 : decode cX9_move 24 = .ok (.aload_n 0, 1) := by decide +kernel
theorem dX9_move_25 : decode cX9_move 25 = .ok (.getfield 74, 3) := by decide +kernel
theorem dX9_move_28 : decode cX9_move 28 = .ok (.iload_n 2, 1) := by decide +kernel
theorem dX9_move_29 : decode cX9_move 29 = .ok (.aload_n 0, 1) := by decide +kernel
theorem dX9_move_30 : decode cX9_move 30 = .ok (.getfield 74, 3) := by decide +kernel
theorem dX9_move_33 : decode cX9_move 33 = .ok (.iload_n 1, 1) := by decide +kernel
theorem dX9_move_34 : decode cX9_move 34 = .ok (.laload, 1) := by decide +kernel
theorem dX9_move_35 : decode cX9_move 35 = .ok (.lastore, 1) := by decide +kernel
theorem dX9_move_36 : decode cX9_move 36 = .ok (.return_, 1) := by decide +kernel
theorem dX9_findGroups_0 : decode cX9_findGroups 0 = .ok (.aload_n 0, 1) := by decide +kernel
theorem dX9_findGroups_1 : decode cX9_findGroups 1 = .ok (.iconst 0, 1) := by decide +kernel
theorem dX9_findGroups_2 : decode cX9_findGroups 2 = .ok (.putfield 175, 3) := by decide +kernel
theorem dX9_findGroups_5 : decode cX9_findGroups 5 = .ok (.aload_n 0, 1) := by decide +kernel
theorem dX9_findGroups_6 : decode cX9_findGroups 6 = .ok (.iload_n 1, 1) := by decide +kernel
theorem dX9_findGroups_7 : decode cX9_findGroups 7 = .ok (.invokevirtual 189, 3) := by decide +kernel
theorem dX9_findGroups_10 : decode cX9_findGroups 10 = .ok (.aload_n 0, 1) := by decide +kernel
theorem dX9_findGroups_11 : decode cX9_findGroups 11 = .ok (.getfield 162, 3) := by decide +kernel
theorem dX9_findGroups_14 : decode cX9_findGroups 14 = .ok (.istore_n 2, 1) := by decide +kernel
theorem dX9_findGroups_15 : decode cX9_findGroups 15 = .ok (.iconst 0, 1) := by decide +kernel
theorem dX9_findGroups_16 : decode cX9_findGroups 16 = .ok (.istore_n 3, 1) := by decide +kernel
theorem dX9_findGroups_17 : decode cX9_findGroups 17 = .ok (.iconst 0, 1) := by decide +kernel
theorem dX9_findGroups_18 : decode cX9_findGroups 18 = .ok (.istore 4, 2) := by decide +kernel
theorem dX9_findGroups_20 : decode cX9_findGroups 20 = .ok (.iload 4, 2) := by decide +kernel
theorem dX9_findGroups_22 : decode cX9_findGroups 22 = .ok (.iload_n 2, 1) := by decide +kernel
theorem dX9_findGroups_23 : decode cX9_findGroups 23 = .ok (.if_icmp .ge 92, 3) := by decide +kernel
theorem dX9_findGroups_26 : decode cX9_findGroups 26 = .ok (.aload_n 0, 1) := by decide +kernel
theorem dX9_findGroups_27 : decode cX9_findGroups 27 = .ok (.iload_n 1, 1) := by decide +kernel
theorem dX9_findGroups_28 : decode cX9_findGroups 28 = .ok (.iload 4, 2) := by decide +kernel
theorem dX9_findGroups_30 : decode cX9_findGroups 30 = .ok (.invokevirtual 192, 3) := by decide +kernel
theorem dX9_findGroups_33 : decode cX9_findGroups 33 = .ok (.aload_n 0, 1) := by decide +kernel
theorem dX9_findGroups_34 : decode cX9_findGroups 34 = .ok (.getfield 71, 3) := by decide +kernel
theorem dX9_findGroups_37 : decode cX9_findGroups 37 = .ok (.iload 4, 2) := by decide +kernel
theorem dX9_findGroups_39 : decode cX9_findGroups 39 = .ok (.iaload, 1) := by decide +kernel
theorem dX9_findGroups_40 : decode cX9_findGroups 40 = .ok (.aload_n 0, 1) := by decide +kernel
theorem dX9_findGroups_41 : decode cX9_findGroups 41 = .ok (.getfield 50, 3) := by decide +kernel
theorem dX9_findGroups_44 : decode cX9_findGroups 44 = .ok (.iload_n 1, 1) := by decide +kernel
theorem dX9_findGroups_45 : decode cX9_findGroups 45 = .ok (.iaload, 1) := by decide +kernel
theorem dX9_findGroups_46 : decode cX9_findGroups 46 = .ok (.if_icmp .lt 63, 3) := by decide +kernel
theorem dX9_findGroups_49 : decode cX9_findGroups 49 = .ok (.aload_n 0, 1) := by decide +kernel
theorem dX9_findGroups_50 : decode cX9_findGroups 50 = .ok (.iload 4, 2) := by decide +kernel
theorem dX9_findGroups_52 : decode cX9_findGroups 52 = .ok (.sipush 1099, 3) := by decide +kernel
theorem dX9_findGroups_55 : decode cX9_findGroups 55 = .ok (.invokevirtual 195, 3) := by decide +kernel
theorem dX9_findGroups_58 : decode cX9_findGroups 58 = .ok (.iload_n 3, 1) := by decide +kernel
theorem dX9_findGroups_59 : decode cX9_findGroups 59 = .ok (.istore 5, 2) := by decide +kernel
theorem dX9_findGroups_61 : decode cX9_findGroups 61 = .ok (.iload 5, 2) := by decide +kernel
theorem dX9_findGroups_63 : decode cX9_findGroups 63 = .ok (.ifCond .le 34, 3) := by decide +kernel
theorem dX9_findGroups_66 : decode cX9_findGroups 66 = .ok (.aload_n 0, 1) := by decide +kernel
theorem dX9_findGroups_67 : decode cX9_findGroups 67 = .ok (.iload_n 1, 1) := by decide +kernel
theorem dX9_findGroups_68 : decode cX9_findGroups 68 = .ok (.sipush 1099, 3) := by decide +kernel
theorem dX9_findGroups_71 : decode cX9_findGroups 71 = .ok (.iload 5, 2) := by decide +kernel
theorem dX9_findGroups_73 : decode cX9_findGroups 73 = .ok (.iconst 1, 1) := by decide +kernel
theorem dX9_findGroups_74 : decode cX9_findGroups 74 = .ok (.isub, 1) := by decide +kernel
theorem dX9_findGroups_75 : decode cX9_findGroups 75 = .ok (.invokevirtual 198, 3) := by decide +kernel
theorem dX9_findGroups_78 : decode cX9_findGroups 78 = .ok (.ifCond .eq 19, 3) := by decide +kernel
theorem dX9_findGroups_81 : decode cX9_findGroups 81 = .ok (.aload_n 0, 1) := by decide +kernel
theorem dX9_findGroups_82 : decode cX9_findGroups 82 = .ok (.iload 5, 2) := by decide +kernel
theorem dX9_findGroups_84 : decode cX9_findGroups 84 = .ok (.iconst 1, 1) := by decide +kernel
theorem dX9_findGroups_85 : decode cX9_findGroups 85 = .ok (.isub, 1) := by decide +kernel
theorem dX9_findGroups_86 : decode cX9_findGroups 86 = .ok (.iload 5, 2) := by decide +kernel
theorem dX9_findGroups_88 : decode cX9_findGroups 88 = .ok (.invokevirtual 195, 3) := by decide +kernel
theorem dX9_findGroups_91 : decode cX9_findGroups 91 = .ok (.iinc 5 (-1), 3) := by decide +kernel
theorem dX9_findGroups_94 : decode cX9_findGroups 94 = .ok (.goto (-33), 3) := by decide +kernel
theorem dX9_findGroups_97 : decode cX9_findGroups 97 = .ok (.aload_n 0, 1) := by decide +kernel
theorem dX9_findGroups_98 : decode cX9_findGroups 98 = .ok (.sipush 1099, 3) := by decide +kernel
theorem dX9_findGroups_101 : decode cX9_findGroups 101 = .ok (.iload 5, 2) := by decide +kernel
theorem dX9_findGroups_103 : decode cX9_findGroups 103 = .ok (.invokevirtual 195, 3) := by decide +kernel
theorem dX9_findGroups_106 : decode cX9_findGroups 106 = .ok (.iinc 3 1, 3) := by decide +kernel
theorem dX9_findGroups_109 : decode cX9_findGroups 109 = .ok (.iinc 4 1, 3) := by decide +kernel
theorem dX9_findGroups_112 : decode cX9_findGroups 112 = .ok (.goto (-92), 3) := by decide +kernel
theorem dX9_findGroups_115 : decode cX9_findGroups 115 = .ok (.aload_n 0, 1) := by decide +kernel
theorem dX9_findGroups_116 : decode cX9_findGroups 116 = .ok (.iload_n 3, 1) := by decide +kernel
theorem dX9_findGroups_117 : decode cX9_findGroups 117 = .ok (.putfield 162, 3) := by decide +kernel
theorem dX9_findGroups_120 : decode cX9_findGroups 120 = .ok (.aload_n 0, 1) := by decide +kernel
theorem dX9_findGroups_121 : decode cX9_findGroups 121 = .ok (.getfield 53, 3) := by decide +kernel
theorem dX9_findGroups_124 : decode cX9_findGroups 124 = .ok (.iload_n 1, 1) := by decide +kernel
theorem dX9_findGroups_125 : decode cX9_findGroups 125 = .ok (.baload, 1) := by decide +kernel
theorem dX9_findGroups_126 : decode cX9_findGroups 126 = .ok (.ifCond .eq 84, 3) := by decide +kernel
theorem dX9_findGroups_129 : decode cX9_findGroups 129 = .ok (.aload_n 0, 1) := by decide +kernel
theorem dX9_findGroups_130 : decode cX9_findGroups 130 = .ok (.iconst 1, 1) := by decide +kernel
theorem dX9_findGroups_131 : decode cX9_findGroups 131 = .ok (.putfield 175, 3) := by decide +kernel
theorem dX9_findGroups_134 : decode cX9_findGroups 134 = .ok (.aload_n 0, 1) := by decide +kernel
theorem dX9_findGroups_135 : decode cX9_findGroups 135 = .ok (.dup, 1) := by decide +kernel
theorem dX9_findGroups_136 : decode cX9_findGroups 136 = .ok (.getfield 162, 3) := by decide +kernel
theorem dX9_findGroups_139 : decode cX9_findGroups 139 = .ok (.iconst 1, 1) := by decide +kernel
theorem dX9_findGroups_140 : decode cX9_findGroups 140 = .ok (.iadd, 1) := by decide +kernel
theorem dX9_findGroups_141 : decode cX9_findGroups 141 = .ok (.putfield 162, 3) := by decide +kernel
theorem dX9_findGroups_144 : decode cX9_findGroups 144 = .ok (.aload_n 0, 1) := by decide +kernel
theorem dX9_findGroups_145 : decode cX9_findGroups 145 = .ok (.getfield 68, 3) := by decide +kernel
theorem dX9_findGroups_148 : decode cX9_findGroups 148 = .ok (.iload_n 3, 1) := by decide +kernel
theorem dX9_findGroups_149 : decode cX9_findGroups 149 = .ok (.ldc 122, 2) := by decide +kernel
theorem dX9_findGroups_151 : decode cX9_findGroups 151 = .ok (.iastore, 1) := by decide +kernel
theorem dX9_findGroups_152 : decode cX9_findGroups 152 = .ok (.aload_n 0, 1) := by decide +kernel
theorem dX9_findGroups_153 : decode cX9_findGroups 153 = .ok (.iload_n 1, 1) := by decide +kernel
theorem dX9_findGroups_154 : decode cX9_findGroups 154 = .ok (.iload_n 3, 1) := by decide +kernel
theorem dX9_findGroups_155 : decode cX9_findGroups 155 = .ok (.invokevirtual 192, 3) := by decide +kernel
theorem dX9_findGroups_158 : decode cX9_findGroups 158 = .ok (.aload_n 0, 1) := by decide +kernel
theorem dX9_findGroups_159 : decode cX9_findGroups 159 = .ok (.aload_n 0, 1) := by decide +kernel
theorem dX9_findGroups_160 : decode cX9_findGroups 160 = .ok (.getfield 71, 3) := by decide +kernel
theorem dX9_findGroups_163 : decode cX9_findGroups 163 = .ok (.iload_n 3, 1) := by decide +kernel
theorem dX9_findGroups_164 : decode cX9_findGroups 164 = .ok (.iaload, 1) := by decide +kernel
theorem dX9_findGroups_165 : decode cX9_findGroups 165 = .ok (.ifCond .le 22, 3) := by decide +kernel
theorem dX9_findGroups_168 : decode cX9_findGroups 168 = .ok (.aload_n 0, 1) := by decide +kernel
theorem dX9_findGroups_169 : decode cX9_findGroups 169 = .ok (.getfield 71, 3) := by decide +kernel
theorem dX9_findGroups_172 : decode cX9_findGroups 172 = .ok (.iload_n 3, 1) := by decide +kernel
theorem dX9_findGroups_173 : decode cX9_findGroups 173 = .ok (.iaload, 1) := by decide +kernel
theorem dX9_findGroups_174 : decode cX9_findGroups 174 = .ok (.aload_n 0, 1) := by decide +kernel
theorem dX9_findGroups_175 : decode cX9_findGroups 175 = .ok (.getfield 50, 3) := by decide +kernel
theorem dX9_findGroups_178 : decode cX9_findGroups 178 = .ok (.iload_n 1, 1) := by decide +kernel
theorem dX9_findGroups_179 : decode cX9_findGroups 179 = .ok (.iaload, 1) := by decide +kernel
theorem dX9_findGroups_180 : decode cX9_findGroups 180 = .ok (.if_icmp .lt 7, 3) := by decide +kernel
theorem dX9_findGroups_183 : decode cX9_findGroups 183 = .ok (.iconst 1, 1) := by decide +kernel
theorem dX9_findGroups_184 : decode cX9_findGroups 184 = .ok (.goto 4, 3) := by decide +kernel
theorem dX9_findGroups_187 : decode cX9_findGroups 187 = .ok (.iconst 0, 1) := by decide +kernel
theorem dX9_findGroups_188 : decode cX9_findGroups 188 = .ok (.putfield 175, 3) := by decide +kernel
theorem dX9_findGroups_191 : decode cX9_findGroups 191 = .ok (.aload_n 0, 1) := by decide +kernel
theorem dX9_findGroups_192 : decode cX9_findGroups 192 = .ok (.aload_n 0, 1) := by decide +kernel
theorem dX9_findGroups_193 : decode cX9_findGroups 193 = .ok (.getfield 175, 3) := by decide +kernel
theorem dX9_findGroups_196 : decode cX9_findGroups 196 = .ok (.ifCond .eq 10, 3) := by decide +kernel
theorem dX9_findGroups_199 : decode cX9_findGroups 199 = .ok (.aload_n 0, 1) := by decide +kernel
theorem dX9_findGroups_200 : decode cX9_findGroups 200 = .ok (.getfield 162, 3) := by decide +kernel
theorem dX9_findGroups_203 : decode cX9_findGroups 203 = .ok (.goto 4, 3) := by decide +kernel
theorem dX9_findGroups_206 : decode cX9_findGroups 206 = .ok (.iload_n 3, 1) := by decide +kernel
theorem dX9_findGroups_207 : decode cX9_findGroups 207 = .ok (.putfield 162, 3) := by decide +kernel
theorem dX9_findGroups_210 : decode cX9_findGroups 210 = .ok (.return_, 1) := by decide +kernel
theorem dX9_isGroup_0 : decode cX9_isGroup 0 = .ok (.aload_n 0, 1) := by decide +kernel
theorem dX9_isGroup_1 : decode cX9_isGroup 1 = .ok (.iload_n 1, 1) := by decide +kernel
theorem dX9_isGroup_2 : decode cX9_isGroup 2 = .ok (.invokevirtual 123, 3) := by decide +kernel
theorem dX9_isGroup_5 : decode cX9_isGroup 5 = .ok (.ifCond .ne 5, 3) := by decide +kernel
theorem dX9_isGroup_8 : decode cX9_isGroup 8 = .ok (.iconst 0, 1) := by decide +kernel
theorem dX9_isGroup_9 : decode cX9_isGroup 9 = .ok (.ireturn, 1) := by decide +kernel
theorem dX9_isGroup_10 : decode cX9_isGroup 10 = .ok (.aload_n 0, 1) := by decide +kernel
theorem dX9_isGroup_11 : decode cX9_isGroup 11 = .ok (.iload_n 1, 1) := by decide +kernel
theorem dX9_isGroup_12 : decode cX9_isGroup 12 = .ok (.invokevirtual 201, 3) := by decide +kernel
theorem dX9_isGroup_15 : decode cX9_isGroup 15 = .ok (.iload_n 2, 1) := by decide +kernel
theorem dX9_isGroup_16 : decode cX9_isGroup 16 = .ok (.iconst 0, 1) := by decide +kernel
theorem dX9_isGroup_17 : decode cX9_isGroup 17 = .ok (.aload_n 0, 1) := by decide +kernel
theorem dX9_isGroup_18 : decode cX9_isGroup 18 = .ok (.getfield 162, 3) := by decide +kernel
theorem dX9_isGroup_21 : decode cX9_isGroup 21 = .ok (.iconst 1, 1) := by decide +kernel
theorem dX9_isGroup_22 : decode cX9_isGroup 22 = .ok (.isub, 1) := by decide +kernel
theorem dX9_isGroup_23 : decode cX9_isGroup 23 = .ok (.invokestatic 94, 3) := by decide +kernel
theorem dX9_isGroup_26 : decode cX9_isGroup 26 = .ok (.ireturn, 1) := by decide +kernel
theorem dX9_groups_0 : decode cX9_groups 0 = .ok (.aload_n 0, 1) := by decide +kernel
theorem dX9_groups_1 : decode cX9_groups 1 = .ok (.iload_n 1, 1) := by decide +kernel
theorem dX9_groups_2 : decode cX9_groups 2 = .ok (.invokevirtual 123, 3) := by decide +kernel
theorem dX9_groups_5 : decode cX9_groups 5 = .ok (.ifCond .ne 6, 3) := by decide +kernel
theorem dX9_groups_8 : decode cX9_groups 8 = .ok (.ldc 120, 2) := by decide +kernel
theorem dX9_groups_10 : decode cX9_groups 10 = .ok (.ireturn, 1) := by decide +kernel
theorem dX9_groups_11 : decode cX9_groups 11 = .ok (.aload_n 0, 1) := by decide +kernel
theorem dX9_groups_12 : decode cX9_groups 12 = .ok (.iload_n 1, 1) := by decide +kernel
theorem dX9_groups_13 : decode cX9_groups 13 = .ok (.invokevirtual 201, 3) := by decide +kernel
theorem dX9_groups_16 : decode cX9_groups 16 = .ok (.aload_n 0, 1) := by decide +kernel
theorem dX9_groups_17 : decode cX9_groups 17 = .ok (.getfield 162, 3) := by decide +kernel
theorem dX9_groups_20 : decode cX9_groups 20 = .ok (.ireturn, 1) := by decide +kernel
theorem dX9_group_0 : decode cX9_group 0 = .ok (.aload_n 0, 1) := by decide +kernel
theorem dX9_group_1 : decode cX9_group 1 = .ok (.iload_n 1, 1) := by decide +kernel
theorem dX9_group_2 : decode cX9_group 2 = .ok (.iload_n 2, 1) := by decide +kernel
theorem dX9_group_3 : decode cX9_group 3 = .ok (.invokevirtual 204, 3) := by decide +kernel
theorem dX9_group_6 : decode cX9_group 6 = .ok (.ifCond .eq 12, 3) := by decide +kernel
theorem dX9_group_9 : decode cX9_group 9 = .ok (.iload_n 3, 1) := by decide +kernel
theorem dX9_group_10 : decode cX9_group 10 = .ok (.iconst 0, 1) := by decide +kernel
theorem dX9_group_11 : decode cX9_group 11 = .ok (.iconst 2, 1) := by decide +kernel
theorem dX9_group_12 : decode cX9_group 12 = .ok (.invokestatic 94, 3) := by decide +kernel
theorem dX9_group_15 : decode cX9_group 15 = .ok (.ifCond .ne 6, 3) := by decide +kernel
theorem dX9_group_18 : decode cX9_group 18 = .ok (.ldc 120, 2) := by decide +kernel
theorem dX9_group_20 : decode cX9_group 20 = .ok (.ireturn, 1) := by decide +kernel
theorem dX9_group_21 : decode cX9_group 21 = .ok (.iload_n 3, 1) := by decide +kernel
theorem dX9_group_22 : decode cX9_group 22 = .ok (.ifCond .ne 12, 3) := by decide +kernel
theorem dX9_group_25 : decode cX9_group 25 = .ok (.aload_n 0, 1) := by decide +kernel
theorem dX9_group_26 : decode cX9_group 26 = .ok (.getfield 68, 3) := by decide +kernel
theorem dX9_group_29 : decode cX9_group 29 = .ok (.iload_n 2, 1) := by decide +kernel
theorem dX9_group_30 : decode cX9_group 30 = .ok (.iaload, 1) := by decide +kernel
theorem dX9_group_31 : decode cX9_group 31 = .ok (.goto 39, 3) := by decide +kernel
theorem dX9_group_34 : decode cX9_group 34 = .ok (.iload_n 3, 1) := by decide +kernel
theorem dX9_group_35 : decode cX9_group 35 = .ok (.iconst 1, 1) := by decide +kernel
theorem dX9_group_36 : decode cX9_group 36 = .ok (.if_icmp .ne 12, 3) := by decide +kernel
theorem dX9_group_39 : decode cX9_group 39 = .ok (.aload_n 0, 1) := by decide +kernel
theorem dX9_group_40 : decode cX9_group 40 = .ok (.getfield 71, 3) := by decide +kernel
theorem dX9_group_43 : decode cX9_group 43 = .ok (.iload_n 2, 1) := by decide +kernel
theorem dX9_group_44 : decode cX9_group 44 = .ok (.iaload, 1) := by decide +kernel
theorem dX9_group_45 : decode cX9_group 45 = .ok (.goto 25, 3) := by decide +kernel
theorem dX9_group_48 : decode cX9_group 48 = .ok (.aload_n 0, 1) := by decide +kernel
theorem dX9_group_49 : decode cX9_group 49 = .ok (.getfield 175, 3) := by decide +kernel
theorem dX9_group_52 : decode cX9_group 52 = .ok (.ifCond .eq 17, 3) := by decide +kernel
theorem dX9_group_55 : decode cX9_group 55 = .ok (.iload_n 2, 1) := by decide +kernel
theorem dX9_group_56 : decode cX9_group 56 = .ok (.aload_n 0, 1) := by decide +kernel
theorem dX9_group_57 : decode cX9_group 57 = .ok (.getfield 162, 3) := by decide +kernel
theorem dX9_group_60 : decode cX9_group 60 = .ok (.iconst 1, 1) := by decide +kernel
theorem dX9_group_61 : decode cX9_group 61 = .ok (.isub, 1) := by decide +kernel
theorem dX9_group_62 : decode cX9_group 62 = .ok (.if_icmp .ne 7, 3) := by decide +kernel
theorem dX9_group_65 : decode cX9_group 65 = .ok (.iconst 1, 1) := by decide +kernel
theorem dX9_group_66 : decode cX9_group 66 = .ok (.goto 4, 3) := by decide +kernel
theorem dX9_group_69 : decode cX9_group 69 = .ok (.iconst 0, 1) := by decide +kernel
theorem dX9_group_70 : decode cX9_group 70 = .ok (.ireturn, 1) := by decide +kernel
theorem dX9_find_0 : decode cX9_find 0 = .ok (.aload_n 0, 1) := by decide +kernel
theorem dX9_find_1 : decode cX9_find 1 = .ok (.iload_n 1, 1) := by decide +kernel
theorem dX9_find_2 : decode cX9_find 2 = .ok (.invokevirtual 123, 3) := by decide +kernel
theorem dX9_find_5 : decode cX9_find 5 = .ok (.ifCond .ne 6, 3) := by decide +kernel
theorem dX9_find_8 : decode cX9_find 8 = .ok (.ldc 120, 2) := by decide +kernel
theorem dX9_find_10 : decode cX9_find 10 = .ok (.ireturn, 1) := by decide +kernel
theorem dX9_find_11 : decode cX9_find 11 = .ok (.aload_n 0, 1) := by decide +kernel
theorem dX9_find_12 : decode cX9_find 12 = .ok (.iload_n 1, 1) := by decide +kernel
theorem dX9_find_13 : decode cX9_find 13 = .ok (.invokevirtual 201, 3) := by decide +kernel
theorem dX9_find_16 : decode cX9_find 16 = .ok (.iconst 0, 1) := by decide +kernel
theorem dX9_find_17 : decode cX9_find 17 = .ok (.istore_n 3, 1) := by decide +kernel
theorem dX9_find_18 : decode cX9_find 18 = .ok (.iload_n 3, 1) := by decide +kernel
theorem dX9_find_19 : decode cX9_find 19 = .ok (.aload_n 0, 1) := by decide +kernel
theorem dX9_find_20 : decode cX9_find 20 = .ok (.getfield 162, 3) := by decide +kernel
theorem dX9_find_23 : decode cX9_find 23 = .ok (.aload_n 0, 1) := by decide +kernel
theorem dX9_find_24 : decode cX9_find 24 = .ok (.getfield 175, 3) := by decide +kernel
theorem dX9_find_27 : decode cX9_find 27 = .ok (.ifCond .eq 7, 3) := by decide +kernel
theorem dX9_find_30 : decode cX9_find 30 = .ok (.iconst 1, 1) := by decide +kernel
theorem dX9_find_31 : decode cX9_find 31 = .ok (.goto 4, 3) := by decide +kernel
theorem dX9_find_34 : decode cX9_find 34 = .ok (.iconst 0, 1) := by decide +kernel
theorem dX9_find_35 : decode cX9_find 35 = .ok (.isub, 1) := by decide +kernel
theorem dX9_find_36 : decode cX9_find 36 = .ok (.if_icmp .ge 21, 3) := by decide +kernel
theorem dX9_find_39 : decode cX9_find 39 = .ok (.aload_n 0, 1) := by decide +kernel
theorem dX9_find_40 : decode cX9_find 40 = .ok (.getfield 68, 3) := by decide +kernel
theorem dX9_find_43 : decode cX9_find 43 = .ok (.iload_n 3, 1) := by decide +kernel
theorem dX9_find_44 : decode cX9_find 44 = .ok (.iaload, 1) := by decide +kernel
theorem dX9_find_45 : decode cX9_find 45 = .ok (.iload_n 2, 1) := by decide +kernel
theorem dX9_find_46 : decode cX9_find 46 = .ok (.if_icmp .ne 5, 3) := by decide +kernel
theorem dX9_find_49 : decode cX9_find 49 = .ok (.iload_n 3, 1) := by decide +kernel
theorem dX9_find_50 : decode cX9_find 50 = .ok (.ireturn, 1) := by decide +kernel
theorem dX9_find_51 : decode cX9_find 51 = .ok (.iinc 3 1, 3) := by decide +kernel
theorem dX9_find_54 : decode cX9_find 54 = .ok (.goto (-36), 3) := by decide +kernel
theorem dX9_find_57 : decode cX9_find 57 = .ok (.ldc 122, 2) := by decide +kernel
theorem dX9_find_59 : decode cX9_find 59 = .ok (.ireturn, 1) := by decide +kernel
theorem dX9_in_0 : decode cX9_in 0 = .ok (.aload_n 0, 1) := by decide +kernel
theorem dX9_in_1 : decode cX9_in 1 = .ok (.iload_n 3, 1) := by decide +kernel
theorem dX9_in_2 : decode cX9_in 2 = .ok (.invokevirtual 110, 3) := by decide +kernel
theorem dX9_in_5 : decode cX9_in 5 = .ok (.ifCond .eq 30, 3) := by decide +kernel
theorem dX9_in_8 : decode cX9_in 8 = .ok (.aload_n 0, 1) := by decide +kernel
theorem dX9_in_9 : decode cX9_in 9 = .ok (.iload_n 1, 1) := by decide +kernel
theorem dX9_in_10 : decode cX9_in 10 = .ok (.iload_n 2, 1) := by decide +kernel
theorem dX9_in_11 : decode cX9_in 11 = .ok (.invokevirtual 204, 3) := by decide +kernel
theorem dX9_in_14 : decode cX9_in 14 = .ok (.ifCond .eq 21, 3) := by decide +kernel
theorem dX9_in_17 : decode cX9_in 17 = .ok (.aload_n 0, 1) := by decide +kernel
theorem dX9_in_18 : decode cX9_in 18 = .ok (.iload_n 1, 1) := by decide +kernel
theorem dX9_in_19 : decode cX9_in 19 = .ok (.iload_n 2, 1) := by decide +kernel
theorem dX9_in_20 : decode cX9_in 20 = .ok (.iload_n 3, 1) := by decide +kernel
theorem dX9_in_21 : decode cX9_in 21 = .ok (.invokevirtual 182, 3) := by decide +kernel
theorem dX9_in_24 : decode cX9_in 24 = .ok (.ifCond .eq 7, 3) := by decide +kernel
theorem dX9_in_27 : decode cX9_in 27 = .ok (.iconst 1, 1) := by decide +kernel
theorem dX9_in_28 : decode cX9_in 28 = .ok (.goto 9, 3) := by decide +kernel
theorem dX9_in_31 : decode cX9_in 31 = .ok (.iconst 0, 1) := by decide +kernel
theorem dX9_in_32 : decode cX9_in 32 = .ok (.goto 5, 3) := by decide +kernel
theorem dX9_in_35 : decode cX9_in 35 = .ok (.ldc 120, 2) := by decide +kernel
theorem dX9_in_37 : decode cX9_in 37 = .ok (.ireturn, 1) := by decide +kernel
theorem dX9_enter_0 : decode cX9_enter 0 = .ok (.aload_n 0, 1) := by decide +kernel
theorem dX9_enter_1 : decode cX9_enter 1 = .ok (.iload_n 1, 1) := by decide +kernel
theorem dX9_enter_2 : decode cX9_enter 2 = .ok (.iload_n 2, 1) := by decide +kernel
theorem dX9_enter_3 : decode cX9_enter 3 = .ok (.invokevirtual 204, 3) := by decide +kernel
theorem dX9_enter_6 : decode cX9_enter 6 = .ok (.ifCond .ne 6, 3) := by decide +kernel
theorem dX9_enter_9 : decode cX9_enter 9 = .ok (.ldc 120, 2) := by decide +kernel
theorem dX9_enter_11 : decode cX9_enter 11 = .ok (.ireturn, 1) := by decide +kernel
theorem dX9_enter_12 : decode cX9_enter 12 = .ok (.aload_n 0, 1) := by decide +kernel
theorem dX9_enter_13 : decode cX9_enter 13 = .ok (.getfield 103, 3) := by decide +kernel
theorem dX9_enter_16 : decode cX9_enter 16 = .ok (.bipush 6, 2) := by decide +kernel
theorem dX9_enter_18 : decode cX9_enter 18 = .ok (.if_icmp .ne 6, 3) := by decide +kernel
theorem dX9_enter_21 : decode cX9_enter 21 = .ok (.ldc 106, 2) := by decide +kernel
theorem dX9_enter_23 : decode cX9_enter 23 = .ok (.ireturn, 1) := by decide +kernel
theorem dX9_enter_24 : decode cX9_enter 24 = .ok (.iconst 0, 1) := by decide +kernel
theorem dX9_enter_25 : decode cX9_enter 25 = .ok (.istore_n 3, 1) := by decide +kernel
theorem dX9_enter_26 : decode cX9_enter 26 = .ok (.iload_n 3, 1) := by decide +kernel
theorem dX9_enter_27 : decode cX9_enter 27 = .ok (.aload_n 0, 1) := by decide +kernel
theorem dX9_enter_28 : decode cX9_enter 28 = .ok (.getfield 90, 3) := by decide +kernel
theorem dX9_enter_31 : decode cX9_enter 31 = .ok (.if_icmp .ge 22, 3) := by decide +kernel
theorem dX9_enter_34 : decode cX9_enter 34 = .ok (.aload_n 0, 1) := by decide +kernel
theorem dX9_enter_35 : decode cX9_enter 35 = .ok (.getfield 84, 3) := by decide +kernel
theorem dX9_enter_38 : decode cX9_enter 38 = .ok (.iload_n 3, 1) := by decide +kernel
theorem dX9_enter_39 : decode cX9_enter 39 = .ok (.aload_n 0, 1) := by decide +kernel
theorem dX9_enter_40 : decode cX9_enter 40 = .ok (.iload_n 1, 1) := by decide +kernel
theorem dX9_enter_41 : decode cX9_enter 41 = .ok (.iload_n 2, 1) := by decide +kernel
theorem dX9_enter_42 : decode cX9_enter 42 = .ok (.iload_n 3, 1) := by decide +kernel
theorem dX9_enter_43 : decode cX9_enter 43 = .ok (.invokevirtual 182, 3) := by decide +kernel
theorem dX9_enter_46 : decode cX9_enter 46 = .ok (.bastore, 1) := by decide +kernel
theorem dX9_enter_47 : decode cX9_enter 47 = .ok (.iinc 3 1, 3) := by decide +kernel
theorem dX9_enter_50 : decode cX9_enter 50 = .ok (.goto (-24), 3) := by decide +kernel
theorem dX9_enter_53 : decode cX9_enter 53 = .ok (.iconst 0, 1) := by decide +kernel
theorem dX9_enter_54 : decode cX9_enter 54 = .ok (.istore_n 3, 1) := by decide +kernel
theorem dX9_enter_55 : decode cX9_enter 55 = .ok (.iload_n 3, 1) := by decide +kernel
theorem dX9_enter_56 : decode cX9_enter 56 = .ok (.aload_n 0, 1) := by decide +kernel
theorem dX9_enter_57 : decode cX9_enter 57 = .ok (.getfield 90, 3) := by decide +kernel
theorem dX9_enter_60 : decode cX9_enter 60 = .ok (.if_icmp .ge 29, 3) := by decide +kernel
theorem dX9_enter_63 : decode cX9_enter 63 = .ok (.aload_n 0, 1) := by decide +kernel
theorem dX9_enter_64 : decode cX9_enter 64 = .ok (.getfield 62, 3) := by decide +kernel
theorem dX9_enter_67 : decode cX9_enter 67 = .ok (.bipush 120, 2) := by decide +kernel
theorem dX9_enter_69 : decode cX9_enter 69 = .ok (.aload_n 0, 1) := by decide +kernel
theorem dX9_enter_70 : decode cX9_enter 70 = .ok (.getfield 103, 3) := by decide +kernel
theorem dX9_enter_73 : decode cX9_enter 73 = .ok (.imul, 1) := by decide +kernel
theorem dX9_enter_74 : decode cX9_enter 74 = .ok (.iload_n 3, 1) := by decide +kernel
theorem dX9_enter_75 : decode cX9_enter 75 = .ok (.iadd, 1) := by decide +kernel
theorem dX9_enter_76 : decode cX9_enter 76 = .ok (.aload_n 0, 1) := by decide +kernel
theorem dX9_enter_77 : decode cX9_enter 77 = .ok (.getfield 84, 3) := by decide +kernel
theorem dX9_enter_80 : decode cX9_enter 80 = .ok (.iload_n 3, 1) := by decide +kernel
theorem dX9_enter_81 : decode cX9_enter 81 = .ok (.baload, 1) := by decide +kernel
theorem dX9_enter_82 : decode cX9_enter 82 = .ok (.bastore, 1) := by decide +kernel
theorem dX9_enter_83 : decode cX9_enter 83 = .ok (.iinc 3 1, 3) := by decide +kernel
theorem dX9_enter_86 : decode cX9_enter 86 = .ok (.goto (-31), 3) := by decide +kernel
theorem dX9_enter_89 : decode cX9_enter 89 = .ok (.aload_n 0, 1) := by decide +kernel
theorem dX9_enter_90 : decode cX9_enter 90 = .ok (.dup, 1) := by decide +kernel
theorem dX9_enter_91 : decode cX9_enter 91 = .ok (.getfield 103, 3) := by decide +kernel
theorem dX9_enter_94 : decode cX9_enter 94 = .ok (.iconst 1, 1) := by decide +kernel
theorem dX9_enter_95 : decode cX9_enter 95 = .ok (.iadd, 1) := by decide +kernel
theorem dX9_enter_96 : decode cX9_enter 96 = .ok (.putfield 103, 3) := by decide +kernel
theorem dX9_enter_99 : decode cX9_enter 99 = .ok (.aload_n 0, 1) := by decide +kernel
theorem dX9_enter_100 : decode cX9_enter 100 = .ok (.invokevirtual 207, 3) := by decide +kernel
theorem dX9_enter_103 : decode cX9_enter 103 = .ok (.ireturn, 1) := by decide +kernel
theorem dX9_leave_0 : decode cX9_leave 0 = .ok (.aload_n 0, 1) := by decide +kernel
theorem dX9_leave_1 : decode cX9_leave 1 = .ok (.getfield 103, 3) := by decide +kernel
theorem dX9_leave_4 : decode cX9_leave 4 = .ok (.ifCond .ne 6, 3) := by decide +kernel
theorem dX9_leave_7 : decode cX9_leave 7 = .ok (.ldc 126, 2) := by decide +kernel
theorem dX9_leave_9 : decode cX9_leave 9 = .ok (.ireturn, 1) := by decide +kernel
theorem dX9_leave_10 : decode cX9_leave 10 = .ok (.aload_n 0, 1) := by decide +kernel
theorem dX9_leave_11 : decode cX9_leave 11 = .ok (.dup, 1) := by decide +kernel
theorem dX9_leave_12 : decode cX9_leave 12 = .ok (.getfield 103, 3) := by decide +kernel
theorem dX9_leave_15 : decode cX9_leave 15 = .ok (.iconst 1, 1) := by decide +kernel
theorem dX9_leave_16 : decode cX9_leave 16 = .ok (.isub, 1) := by decide +kernel
theorem dX9_leave_17 : decode cX9_leave 17 = .ok (.putfield 103, 3) := by decide +kernel
theorem dX9_leave_20 : decode cX9_leave 20 = .ok (.aload_n 0, 1) := by decide +kernel
theorem dX9_leave_21 : decode cX9_leave 21 = .ok (.getfield 103, 3) := by decide +kernel
theorem dX9_leave_24 : decode cX9_leave 24 = .ok (.ireturn, 1) := by decide +kernel
theorem dX9_hand_0 : decode cX9_hand 0 = .ok (.iconst 0, 1) := by decide +kernel
theorem dX9_hand_1 : decode cX9_hand 1 = .ok (.istore_n 1, 1) := by decide +kernel
theorem dX9_hand_2 : decode cX9_hand 2 = .ok (.iconst 0, 1) := by decide +kernel
theorem dX9_hand_3 : decode cX9_hand 3 = .ok (.istore_n 2, 1) := by decide +kernel
theorem dX9_hand_4 : decode cX9_hand 4 = .ok (.iload_n 2, 1) := by decide +kernel
theorem dX9_hand_5 : decode cX9_hand 5 = .ok (.aload_n 0, 1) := by decide +kernel
theorem dX9_hand_6 : decode cX9_hand 6 = .ok (.getfield 90, 3) := by decide +kernel
theorem dX9_hand_9 : decode cX9_hand 9 = .ok (.if_icmp .ge 25, 3) := by decide +kernel
theorem dX9_hand_12 : decode cX9_hand 12 = .ok (.iload_n 1, 1) := by decide +kernel
theorem dX9_hand_13 : decode cX9_hand 13 = .ok (.aload_n 0, 1) := by decide +kernel
theorem dX9_hand_14 : decode cX9_hand 14 = .ok (.iload_n 2, 1) := by decide +kernel
theorem dX9_hand_15 : decode cX9_hand 15 = .ok (.invokevirtual 156, 3) := by decide +kernel
theorem dX9_hand_18 : decode cX9_hand 18 = .ok (.ifCond .eq 7, 3) := by decide +kernel
theorem dX9_hand_21 : decode cX9_hand 21 = .ok (.iconst 1, 1) := by decide +kernel
theorem dX9_hand_22 : decode cX9_hand 22 = .ok (.goto 4, 3) := by decide +kernel
theorem dX9_hand_25 : decode cX9_hand 25 = .ok (.iconst 0, 1) := by decide +kernel
theorem dX9_hand_26 : decode cX9_hand 26 = .ok (.iadd, 1) := by decide +kernel
theorem dX9_hand_27 : decode cX9_hand 27 = .ok (.istore_n 1, 1) := by decide +kernel
theorem dX9_hand_28 : decode cX9_hand 28 = .ok (.iinc 2 1, 3) := by decide +kernel
theorem dX9_hand_31 : decode cX9_hand 31 = .ok (.goto (-27), 3) := by decide +kernel
theorem dX9_hand_34 : decode cX9_hand 34 = .ok (.iload_n 1, 1) := by decide +kernel
theorem dX9_hand_35 : decode cX9_hand 35 = .ok (.ireturn, 1) := by decide +kernel
theorem dX9_findRow_0 : decode cX9_findRow 0 = .ok (.iload_n 2, 1) := by decide +kernel
theorem dX9_findRow_1 : decode cX9_findRow 1 = .ok (.ldc 122, 2) := by decide +kernel
theorem dX9_findRow_3 : decode cX9_findRow 3 = .ok (.if_icmp .eq 14, 3) := by decide +kernel
theorem dX9_findRow_6 : decode cX9_findRow 6 = .ok (.aload_n 0, 1) := by decide +kernel
theorem dX9_findRow_7 : decode cX9_findRow 7 = .ok (.iload_n 1, 1) := by decide +kernel
theorem dX9_findRow_8 : decode cX9_findRow 8 = .ok (.iload_n 2, 1) := by decide +kernel
theorem dX9_findRow_9 : decode cX9_findRow 9 = .ok (.invokevirtual 204, 3) := by decide +kernel
theorem dX9_findRow_12 : decode cX9_findRow 12 = .ok (.ifCond .ne 5, 3) := by decide +kernel
theorem dX9_findRow_15 : decode cX9_findRow 15 = .ok (.iconst 0, 1) := by decide +kernel
theorem dX9_findRow_16 : decode cX9_findRow 16 = .ok (.ireturn, 1) := by decide +kernel
theorem dX9_findRow_17 : decode cX9_findRow 17 = .ok (.aload_n 0, 1) := by decide +kernel
theorem dX9_findRow_18 : decode cX9_findRow 18 = .ok (.iconst 0, 1) := by decide +kernel
theorem dX9_findRow_19 : decode cX9_findRow 19 = .ok (.putfield 211, 3) := by decide +kernel
theorem dX9_findRow_22 : decode cX9_findRow 22 = .ok (.iconst 0, 1) := by decide +kernel
theorem dX9_findRow_23 : decode cX9_findRow 23 = .ok (.istore 4, 2) := by decide +kernel
theorem dX9_findRow_25 : decode cX9_findRow 25 = .ok (.iload 4, 2) := by decide +kernel
theorem dX9_findRow_27 : decode cX9_findRow 27 = .ok (.aload_n 0, 1) := by decide +kernel
theorem dX9_findRow_28 : decode cX9_findRow 28 = .ok (.getfield 90, 3) := by decide +kernel
theorem dX9_findRow_31 : decode cX9_findRow 31 = .ok (.if_icmp .ge 86, 3) := by decide +kernel
theorem dX9_findRow_34 : decode cX9_findRow 34 = .ok (.iload_n 2, 1) := by decide +kernel
theorem dX9_findRow_35 : decode cX9_findRow 35 = .ok (.ldc 122, 2) := by decide +kernel
theorem dX9_findRow_37 : decode cX9_findRow 37 = .ok (.if_icmp .ne 12, 3) := by decide +kernel
theorem dX9_findRow_40 : decode cX9_findRow 40 = .ok (.aload_n 0, 1) := by decide +kernel
theorem dX9_findRow_41 : decode cX9_findRow 41 = .ok (.iload 4, 2) := by decide +kernel
theorem dX9_findRow_43 : decode cX9_findRow 43 = .ok (.invokevirtual 156, 3) := by decide +kernel
theorem dX9_findRow_46 : decode cX9_findRow 46 = .ok (.goto 11, 3) := by decide +kernel
theorem dX9_findRow_49 : decode cX9_findRow 49 = .ok (.aload_n 0, 1) := by decide +kernel
theorem dX9_findRow_50 : decode cX9_findRow 50 = .ok (.iload_n 1, 1) := by decide +kernel
theorem dX9_findRow_51 : decode cX9_findRow 51 = .ok (.iload_n 2, 1) := by decide +kernel
theorem dX9_findRow_52 : decode cX9_findRow 52 = .ok (.iload 4, 2) := by decide +kernel
theorem dX9_findRow_54 : decode cX9_findRow 54 = .ok (.invokevirtual 182, 3) := by decide +kernel
theorem dX9_findRow_57 : decode cX9_findRow 57 = .ok (.istore 5, 2) := by decide +kernel
theorem dX9_findRow_59 : decode cX9_findRow 59 = .ok (.iconst 0, 1) := by decide +kernel
theorem dX9_findRow_60 : decode cX9_findRow 60 = .ok (.istore 6, 2) := by decide +kernel
theorem dX9_findRow_62 : decode cX9_findRow 62 = .ok (.iload 6, 2) := by decide +kernel
theorem dX9_findRow_64 : decode cX9_findRow 64 = .ok (.aload_n 0, 1) := by decide +kernel
theorem dX9_findRow_65 : decode cX9_findRow 65 = .ok (.getfield 7, 3) := by decide +kernel
theorem dX9_findRow_68 : decode cX9_findRow 68 = .ok (.bipush 6, 2) := by decide +kernel
theorem dX9_findRow_70 : decode cX9_findRow 70 = .ok (.iload 4, 2) := by decide +kernel
theorem dX9_findRow_72 : decode cX9_findRow 72 = .ok (.imul, 1) := by decide +kernel
theorem dX9_findRow_73 : decode cX9_findRow 73 = .ok (.iload_n 3, 1) := by decide +kernel
theorem dX9_findRow_74 : decode cX9_findRow 74 = .ok (.iadd, 1) := by decide +kernel
theorem dX9_findRow_75 : decode cX9_findRow 75 = .ok (.iaload, 1) := by decide +kernel
theorem dX9_findRow_76 : decode cX9_findRow 76 = .ok (.if_icmp .ge 35, 3) := by decide +kernel
theorem dX9_findRow_79 : decode cX9_findRow 79 = .ok (.iload 5, 2) := by decide +kernel
theorem dX9_findRow_81 : decode cX9_findRow 81 = .ok (.ifCond .eq 30, 3) := by decide +kernel
theorem dX9_findRow_84 : decode cX9_findRow 84 = .ok (.aload_n 0, 1) := by decide +kernel
theorem dX9_findRow_85 : decode cX9_findRow 85 = .ok (.aload_n 0, 1) := by decide +kernel
theorem dX9_findRow_86 : decode cX9_findRow 86 = .ok (.getfield 13, 3) := by decide +kernel
theorem dX9_findRow_89 : decode cX9_findRow 89 = .ok (.iconst 3, 1) := by decide +kernel
theorem dX9_findRow_90 : decode cX9_findRow 90 = .ok (.bipush 6, 2) := by decide +kernel
theorem dX9_findRow_92 : decode cX9_findRow 92 = .ok (.iload 4, 2) := by decide +kernel
theorem dX9_findRow_94 : decode cX9_findRow 94 = .ok (.imul, 1) := by decide +kernel
theorem dX9_findRow_95 : decode cX9_findRow 95 = .ok (.iload_n 3, 1) := by decide +kernel
theorem dX9_findRow_96 : decode cX9_findRow 96 = .ok (.iadd, 1) := by decide +kernel
theorem dX9_findRow_97 : decode cX9_findRow 97 = .ok (.imul, 1) := by decide +kernel
theorem dX9_findRow_98 : decode cX9_findRow 98 = .ok (.iload 6, 2) := by decide +kernel
theorem dX9_findRow_100 : decode cX9_findRow 100 = .ok (.iadd, 1) := by decide +kernel
theorem dX9_findRow_101 : decode cX9_findRow 101 = .ok (.iaload, 1) := by decide +kernel
theorem dX9_findRow_102 : decode cX9_findRow 102 = .ok (.invokevirtual 214, 3) := by decide +kernel
theorem dX9_findRow_105 : decode cX9_findRow 105 = .ok (.iinc 6 1, 3) := by decide +kernel
theorem dX9_findRow_108 : decode cX9_findRow 108 = .ok (.goto (-46), 3) := by decide +kernel
theorem dX9_findRow_111 : decode cX9_findRow 111 = .ok (.iinc 4 1, 3) := by decide +kernel
theorem dX9_findRow_114 : decode cX9_findRow 114 = .ok (.goto (-89), 3) := by decide +kernel
theorem dX9_findRow_117 : decode cX9_findRow 117 = .ok (.iconst 1, 1) := by decide +kernel
theorem dX9_findRow_118 : decode cX9_findRow 118 = .ok (.ireturn, 1) := by decide +kernel
theorem dX9_lay_0 : decode cX9_lay 0 = .ok (.aload_n 0, 1) := by decide +kernel
theorem dX9_lay_1 : decode cX9_lay 1 = .ok (.getfield 211, 3) := by decide +kernel
theorem dX9_lay_4 : decode cX9_lay 4 = .ok (.istore_n 2, 1) := by decide +kernel
theorem dX9_lay_5 : decode cX9_lay 5 = .ok (.iload_n 2, 1) := by decide +kernel
theorem dX9_lay_6 : decode cX9_lay 6 = .ok (.ifCond .le 35, 3) := by decide +kernel
theorem dX9_lay_9 : decode cX9_lay 9 = .ok (.aload_n 0, 1) := by decide +kernel
theorem dX9_lay_10 : decode cX9_lay 10 = .ok (.getfield 87, 3) := by decide +kernel
theorem dX9_lay_13 : decode cX9_lay 13 = .ok (.iload_n 2, 1) := by decide +kernel
theorem dX9_lay_14 : decode cX9_lay 14 = .ok (.iconst 1, 1) := by decide +kernel
theorem dX9_lay_15 : decode cX9_lay 15 = .ok (.isub, 1) := by decide +kernel
theorem dX9_lay_16 : decode cX9_lay 16 = .ok (.iaload, 1) := by decide +kernel
theorem dX9_lay_17 : decode cX9_lay 17 = .ok (.iload_n 1, 1) := by decide +kernel
theorem dX9_lay_18 : decode cX9_lay 18 = .ok (.if_icmp .le 23, 3) := by decide +kernel
theorem dX9_lay_21 : decode cX9_lay 21 = .ok (.aload_n 0, 1) := by decide +kernel
theorem dX9_lay_22 : decode cX9_lay 22 = .ok (.getfield 87, 3) := by decide +kernel
theorem dX9_lay_25 : decode cX9_lay 25 = .ok (.iload_n 2, 1) := by decide +kernel
theorem dX9_lay_26 : decode cX9_lay 26 = .ok (.aload_n 0, 1) := by decide +kernel
theorem dX9_lay_27 : decode cX9_lay 27 = .ok (.getfield 87, 3) := by decide +kernel
theorem dX9_lay_30 : decode cX9_lay 30 = .ok (.iload_n 2, 1) := by decide +kernel
theorem dX9_lay_31 : decode cX9_lay 31 = .ok (.iconst 1, 1) := by decide +kernel
theorem dX9_lay_32 : decode cX9_lay 32 = .ok (.isub, 1) := by decide +kernel
theorem dX9_lay_33 : decode cX9_lay 33 = .ok (.iaload, 1) := by decide +kernel
theorem dX9_lay_34 : decode cX9_lay 34 = .ok (.iastore, 1) := by decide +kernel
theorem dX9_lay_35 : decode cX9_lay 35 = .ok (.iinc 2 (-1), 3) := by decide +kernel
theorem dX9_lay_38 : decode cX9_lay 38 = .ok (.goto (-33), 3) := by decide +kernel
theorem dX9_lay_41 : decode cX9_lay 41 = .ok (.aload_n 0, 1) := by decide +kernel
theorem dX9_lay_42 : decode cX9_lay 42 = .ok (.getfield 87, 3) := by decide +kernel
theorem dX9_lay_45 : decode cX9_lay 45 = .ok (.iload_n 2, 1) := by decide +kernel
theorem dX9_lay_46 : decode cX9_lay 46 = .ok (.iload_n 1, 1) := by decide +kernel
theorem dX9_lay_47 : decode cX9_lay 47 = .ok (.iastore, 1) := by decide +kernel
theorem dX9_lay_48 : decode cX9_lay 48 = .ok (.aload_n 0, 1) := by decide +kernel
theorem dX9_lay_49 : decode cX9_lay 49 = .ok (.dup, 1) := by decide +kernel
theorem dX9_lay_50 : decode cX9_lay 50 = .ok (.getfield 211, 3) := by decide +kernel
theorem dX9_lay_53 : decode cX9_lay 53 = .ok (.iconst 1, 1) := by decide +kernel
theorem dX9_lay_54 : decode cX9_lay 54 = .ok (.iadd, 1) := by decide +kernel
theorem dX9_lay_55 : decode cX9_lay 55 = .ok (.putfield 211, 3) := by decide +kernel
theorem dX9_lay_58 : decode cX9_lay 58 = .ok (.return_, 1) := by decide +kernel
theorem dX9_figure_0 : decode cX9_figure 0 = .ok (.iload_n 3, 1) := by decide +kernel
theorem dX9_figure_1 : decode cX9_figure 1 = .ok (.invokestatic 114, 3) := by decide +kernel
theorem dX9_figure_4 : decode cX9_figure 4 = .ok (.ifCond .eq 23, 3) := by decide +kernel
theorem dX9_figure_7 : decode cX9_figure 7 = .ok (.iload 4, 2) := by decide +kernel
theorem dX9_figure_9 : decode cX9_figure 9 = .ok (.iconst 0, 1) := by decide +kernel
theorem dX9_figure_10 : decode cX9_figure 10 = .ok (.iconst 4, 1) := by decide +kernel
theorem dX9_figure_11 : decode cX9_figure 11 = .ok (.invokestatic 94, 3) := by decide +kernel
theorem dX9_figure_14 : decode cX9_figure 14 = .ok (.ifCond .eq 13, 3) := by decide +kernel
theorem dX9_figure_17 : decode cX9_figure 17 = .ok (.aload_n 0, 1) := by decide +kernel
theorem dX9_figure_18 : decode cX9_figure 18 = .ok (.iload_n 1, 1) := by decide +kernel
theorem dX9_figure_19 : decode cX9_figure 19 = .ok (.iload_n 2, 1) := by decide +kernel
theorem dX9_figure_20 : decode cX9_figure 20 = .ok (.iload_n 3, 1) := by decide +kernel
theorem dX9_figure_21 : decode cX9_figure 21 = .ok (.invokevirtual 217, 3) := by decide +kernel
theorem dX9_figure_24 : decode cX9_figure 24 = .ok (.ifCond .ne 7, 3) := by decide +kernel
theorem dX9_figure_27 : decode cX9_figure 27 = .ok (.ldc2_w 220, 3) := by decide +kernel
theorem dX9_figure_30 : decode cX9_figure 30 = .ok (.lreturn, 1) := by decide +kernel
theorem dX9_figure_31 : decode cX9_figure 31 = .ok (.lconst 0, 1) := by decide +kernel
theorem dX9_figure_32 : decode cX9_figure 32 = .ok (.lstore 5, 2) := by decide +kernel
theorem dX9_figure_34 : decode cX9_figure 34 = .ok (.iconst 0, 1) := by decide +kernel
theorem dX9_figure_35 : decode cX9_figure 35 = .ok (.istore 7, 2) := by decide +kernel
theorem dX9_figure_37 : decode cX9_figure 37 = .ok (.iconst 0, 1) := by decide +kernel
theorem dX9_figure_38 : decode cX9_figure 38 = .ok (.istore 8, 2) := by decide +kernel
theorem dX9_figure_40 : decode cX9_figure 40 = .ok (.iload 8, 2) := by decide +kernel
theorem dX9_figure_42 : decode cX9_figure 42 = .ok (.aload_n 0, 1) := by decide +kernel
theorem dX9_figure_43 : decode cX9_figure 43 = .ok (.getfield 211, 3) := by decide +kernel
theorem dX9_figure_46 : decode cX9_figure 46 = .ok (.if_icmp .ge 56, 3) := by decide +kernel
theorem dX9_figure_49 : decode cX9_figure 49 = .ok (.lload 5, 2) := by decide +kernel
theorem dX9_figure_51 : decode cX9_figure 51 = .ok (.aload_n 0, 1) := by decide +kernel
theorem dX9_figure_52 : decode cX9_figure 52 = .ok (.getfield 87, 3) := by decide +kernel
theorem dX9_figure_55 : decode cX9_figure 55 = .ok (.iload 8, 2) := by decide +kernel
theorem dX9_figure_57 : decode cX9_figure 57 = .ok (.iaload, 1) := by decide +kernel
theorem dX9_figure_58 : decode cX9_figure 58 = .ok (.i2l, 1) := by decide +kernel
theorem dX9_figure_59 : decode cX9_figure 59 = .ok (.ladd, 1) := by decide +kernel
theorem dX9_figure_60 : decode cX9_figure 60 = .ok (.lstore 5, 2) := by decide +kernel
theorem dX9_figure_62 : decode cX9_figure 62 = .ok (.iload 7, 2) := by decide +kernel
theorem dX9_figure_64 : decode cX9_figure 64 = .ok (.iload 8, 2) := by decide +kernel
theorem dX9_figure_66 : decode cX9_figure 66 = .ok (.ifCond .eq 22, 3) := by decide +kernel
theorem dX9_figure_69 : decode cX9_figure 69 = .ok (.aload_n 0, 1) := by decide +kernel
theorem dX9_figure_70 : decode cX9_figure 70 = .ok (.getfield 87, 3) := by decide +kernel
theorem dX9_figure_73 : decode cX9_figure 73 = .ok (.iload 8, 2) := by decide +kernel
theorem dX9_figure_75 : decode cX9_figure 75 = .ok (.iaload, 1) := by decide +kernel
theorem dX9_figure_76 : decode cX9_figure 76 = .ok (.aload_n 0, 1) := by decide +kernel
theorem dX9_figure_77 : decode cX9_figure 77 = .ok (.getfield 87, 3) := by decide +kernel
theorem dX9_figure_80 : decode cX9_figure 80 = .ok (.iload 8, 2) := by decide +kernel
theorem dX9_figure_82 : decode cX9_figure 82 = .ok (.iconst 1, 1) := by decide +kernel
theorem dX9_figure_83 : decode cX9_figure 83 = .ok (.isub, 1) := by decide +kernel
theorem dX9_figure_84 : decode cX9_figure 84 = .ok (.iaload, 1) := by decide +kernel
theorem dX9_figure_85 : decode cX9_figure 85 = .ok (.if_icmp .eq 7, 3) := by decide +kernel
theorem dX9_figure_88 : decode cX9_figure 88 = .ok (.iconst 1, 1) := by decide +kernel
theorem dX9_figure_89 : decode cX9_figure 89 = .ok (.goto 4, 3) := by decide +kernel
theorem dX9_figure_92 : decode cX9_figure 92 = .ok (.iconst 0, 1) := by decide +kernel
theorem dX9_figure_93 : decode cX9_figure 93 = .ok (.iadd, 1) := by decide +kernel
theorem dX9_figure_94 : decode cX9_figure 94 = .ok (.istore 7, 2) := by decide +kernel
theorem dX9_figure_96 : decode cX9_figure 96 = .ok (.iinc 8 1, 3) := by decide +kernel
theorem dX9_figure_99 : decode cX9_figure 99 = .ok (.goto (-59), 3) := by decide +kernel
theorem dX9_figure_102 : decode cX9_figure 102 = .ok (.iload 4, 2) := by decide +kernel
theorem dX9_figure_104 : decode cX9_figure 104 = .ok (.ifCond .ne 9, 3) := by decide +kernel
theorem dX9_figure_107 : decode cX9_figure 107 = .ok (.aload_n 0, 1) := by decide +kernel
theorem dX9_figure_108 : decode cX9_figure 108 = .ok (.getfield 211, 3) := by decide +kernel
theorem dX9_figure_111 : decode cX9_figure 111 = .ok (.i2l, 1) := by decide +kernel
theorem dX9_figure_112 : decode cX9_figure 112 = .ok (.lreturn, 1) := by decide +kernel
theorem dX9_figure_113 : decode cX9_figure 113 = .ok (.iload 4, 2) := by decide +kernel
theorem dX9_figure_115 : decode cX9_figure 115 = .ok (.iconst 1, 1) := by decide +kernel
theorem dX9_figure_116 : decode cX9_figure 116 = .ok (.if_icmp .ne 6, 3) := by decide +kernel
theorem dX9_figure_119 : decode cX9_figure 119 = .ok (.lload 5, 2) := by decide +kernel
theorem dX9_figure_121 : decode cX9_figure 121 = .ok (.lreturn, 1) := by decide +kernel
theorem dX9_figure_122 : decode cX9_figure 122 = .ok (.iload 4, 2) := by decide +kernel
theorem dX9_figure_124 : decode cX9_figure 124 = .ok (.iconst 4, 1) := by decide +kernel
theorem dX9_figure_125 : decode cX9_figure 125 = .ok (.if_icmp .ne 9, 3) := by decide +kernel
theorem dX9_figure_128 : decode cX9_figure 128 = .ok (.iload 7, 2) := by decide +kernel
theorem dX9_figure_130 : decode cX9_figure 130 = .ok (.i2l, 1) := by decide +kernel
theorem dX9_figure_131 : decode cX9_figure 131 = .ok (.goto 44, 3) := by decide +kernel
theorem dX9_figure_134 : decode cX9_figure 134 = .ok (.aload_n 0, 1) := by decide +kernel
theorem dX9_figure_135 : decode cX9_figure 135 = .ok (.getfield 211, 3) := by decide +kernel
theorem dX9_figure_138 : decode cX9_figure 138 = .ok (.ifCond .ne 9, 3) := by decide +kernel
theorem dX9_figure_141 : decode cX9_figure 141 = .ok (.ldc2_w 222, 3) := by decide +kernel
theorem dX9_figure_144 : decode cX9_figure 144 = .ok (.goto 31, 3) := by decide +kernel
theorem dX9_figure_147 : decode cX9_figure 147 = .ok (.iload 4, 2) := by decide +kernel
theorem dX9_figure_149 : decode cX9_figure 149 = .ok (.iconst 2, 1) := by decide +kernel
theorem dX9_figure_150 : decode cX9_figure 150 = .ok (.if_icmp .ne 13, 3) := by decide +kernel
theorem dX9_figure_153 : decode cX9_figure 153 = .ok (.aload_n 0, 1) := by decide +kernel
theorem dX9_figure_154 : decode cX9_figure 154 = .ok (.getfield 87, 3) := by decide +kernel
theorem dX9_figure_157 : decode cX9_figure 157 = .ok (.iconst 0, 1) := by decide +kernel
theorem dX9_figure_158 : decode cX9_figure 158 = .ok (.iaload, 1) := by decide +kernel
theorem dX9_figure_159 : decode cX9_figure 159 = .ok (.i2l, 1) := by decide +kernel
theorem dX9_figure_160 : decode cX9_figure 160 = .ok (.goto 15, 3) := by decide +kernel
theorem dX9_figure_163 : decode cX9_figure 163 = .ok (.aload_n 0, 1) := by decide +kernel
theorem dX9_figure_164 : decode cX9_figure 164 = .ok (.getfield 87, 3) := by decide +kernel
theorem dX9_figure_167 : decode cX9_figure 167 = .ok (.aload_n 0, 1) := by decide +kernel
theorem dX9_figure_168 : decode cX9_figure 168 = .ok (.getfield 211, 3) := by decide +kernel
theorem dX9_figure_171 : decode cX9_figure 171 = .ok (.iconst 1, 1) := by decide +kernel
theorem dX9_figure_172 : decode cX9_figure 172 = .ok (.isub, 1) := by decide +kernel
theorem dX9_figure_173 : decode cX9_figure 173 = .ok (.iaload, 1) := by decide +kernel
theorem dX9_figure_174 : decode cX9_figure 174 = .ok (.i2l, 1) := by decide +kernel
theorem dX9_figure_175 : decode cX9_figure 175 = .ok (.lreturn, 1) := by decide +kernel
theorem dX9_place_0 : decode cX9_place 0 = .ok (.iload_n 3, 1) := by decide +kernel
theorem dX9_place_1 : decode cX9_place 1 = .ok (.invokestatic 114, 3) := by decide +kernel
theorem dX9_place_4 : decode cX9_place 4 = .ok (.ifCond .eq 24, 3) := by decide +kernel
theorem dX9_place_7 : decode cX9_place 7 = .ok (.iload 4, 2) := by decide +kernel
theorem dX9_place_9 : decode cX9_place 9 = .ok (.iconst 0, 1) := by decide +kernel
theorem dX9_place_10 : decode cX9_place 10 = .ok (.bipush 100, 2) := by decide +kernel
theorem dX9_place_12 : decode cX9_place 12 = .ok (.invokestatic 94, 3) := by decide +kernel
theorem dX9_place_15 : decode cX9_place 15 = .ok (.ifCond .eq 13, 3) := by decide +kernel
theorem dX9_place_18 : decode cX9_place 18 = .ok (.aload_n 0, 1) := by decide +kernel
theorem dX9_place_19 : decode cX9_place 19 = .ok (.iload_n 1, 1) := by decide +kernel
theorem dX9_place_20 : decode cX9_place 20 = .ok (.iload_n 2, 1) := by decide +kernel
theorem dX9_place_21 : decode cX9_place 21 = .ok (.iload_n 3, 1) := by decide +kernel
theorem dX9_place_22 : decode cX9_place 22 = .ok (.invokevirtual 217, 3) := by decide +kernel
theorem dX9_place_25 : decode cX9_place 25 = .ok (.ifCond .ne 6, 3) := by decide +kernel
theorem dX9_place_28 : decode cX9_place 28 = .ok (.ldc 120, 2) := by decide +kernel
theorem dX9_place_30 : decode cX9_place 30 = .ok (.ireturn, 1) := by decide +kernel
theorem dX9_place_31 : decode cX9_place 31 = .ok (.iload 4, 2) := by decide +kernel
theorem dX9_place_33 : decode cX9_place 33 = .ok (.aload_n 0, 1) := by decide +kernel
theorem dX9_place_34 : decode cX9_place 34 = .ok (.getfield 211, 3) := by decide +kernel
theorem dX9_place_37 : decode cX9_place 37 = .ok (.imul, 1) := by decide +kernel
theorem dX9_place_38 : decode cX9_place 38 = .ok (.bipush 99, 2) := by decide +kernel
theorem dX9_place_40 : decode cX9_place 40 = .ok (.iadd, 1) := by decide +kernel
theorem dX9_place_41 : decode cX9_place 41 = .ok (.bipush 100, 2) := by decide +kernel
theorem dX9_place_43 : decode cX9_place 43 = .ok (.idiv, 1) := by decide +kernel
theorem dX9_place_44 : decode cX9_place 44 = .ok (.istore 5, 2) := by decide +kernel
theorem dX9_place_46 : decode cX9_place 46 = .ok (.aload_n 0, 1) := by decide +kernel
theorem dX9_place_47 : decode cX9_place 47 = .ok (.getfield 211, 3) := by decide +kernel
theorem dX9_place_50 : decode cX9_place 50 = .ok (.ifCond .ne 8, 3) := by decide +kernel
theorem dX9_place_53 : decode cX9_place 53 = .ok (.ldc 122, 2) := by decide +kernel
theorem dX9_place_55 : decode cX9_place 55 = .ok (.goto 21, 3) := by decide +kernel
theorem dX9_place_58 : decode cX9_place 58 = .ok (.aload_n 0, 1) := by decide +kernel
theorem dX9_place_59 : decode cX9_place 59 = .ok (.getfield 87, 3) := by decide +kernel
theorem dX9_place_62 : decode cX9_place 62 = .ok (.iload 5, 2) := by decide +kernel
theorem dX9_place_64 : decode cX9_place 64 = .ok (.ifCond .ne 7, 3) := by decide +kernel
theorem dX9_place_67 : decode cX9_place 67 = .ok (.iconst 0, 1) := by decide +kernel
theorem dX9_place_68 : decode cX9_place 68 = .ok (.goto 7, 3) := by decide +kernel
theorem dX9_place_71 : decode cX9_place 71 = .ok (.iload 5, 2) := by decide +kernel
theorem dX9_place_73 : decode cX9_place 73 = .ok (.iconst 1, 1) := by decide +kernel
theorem dX9_place_74 : decode cX9_place 74 = .ok (.isub, 1) := by decide +kernel
theorem dX9_place_75 : decode cX9_place 75 = .ok (.iaload, 1) := by decide +kernel
theorem dX9_place_76 : decode cX9_place 76 = .ok (.ireturn, 1) := by decide +kernel
theorem dX9_told_0 : decode cX9_told 0 = .ok (.iconst 0, 1) := by decide +kernel
theorem dX9_told_1 : decode cX9_told 1 = .ok (.istore_n 2, 1) := by decide +kernel
theorem dX9_told_2 : decode cX9_told 2 = .ok (.iconst 0, 1) := by decide +kernel
theorem dX9_told_3 : decode cX9_told 3 = .ok (.istore_n 3, 1) := by decide +kernel
theorem dX9_told_4 : decode cX9_told 4 = .ok (.iload_n 3, 1) := by decide +kernel
theorem dX9_told_5 : decode cX9_told 5 = .ok (.aload_n 0, 1) := by decide +kernel
theorem dX9_told_6 : decode cX9_told 6 = .ok (.getfield 90, 3) := by decide +kernel
theorem dX9_told_9 : decode cX9_told 9 = .ok (.if_icmp .ge 26, 3) := by decide +kernel
theorem dX9_told_12 : decode cX9_told 12 = .ok (.iload_n 2, 1) := by decide +kernel
theorem dX9_told_13 : decode cX9_told 13 = .ok (.aload_n 0, 1) := by decide +kernel
theorem dX9_told_14 : decode cX9_told 14 = .ok (.getfield 16, 3) := by decide +kernel
theorem dX9_told_17 : decode cX9_told 17 = .ok (.iload_n 3, 1) := by decide +kernel
theorem dX9_told_18 : decode cX9_told 18 = .ok (.baload, 1) := by decide +kernel
theorem dX9_told_19 : decode cX9_told 19 = .ok (.ifCond .eq 7, 3) := by decide +kernel
theorem dX9_told_22 : decode cX9_told 22 = .ok (.iconst 1, 1) := by decide +kernel
theorem dX9_told_23 : decode cX9_told 23 = .ok (.goto 4, 3) := by decide +kernel
theorem dX9_told_26 : decode cX9_told 26 = .ok (.iconst 0, 1) := by decide +kernel
theorem dX9_told_27 : decode cX9_told 27 = .ok (.iadd, 1) := by decide +kernel
theorem dX9_told_28 : decode cX9_told 28 = .ok (.istore_n 2, 1) := by decide +kernel
theorem dX9_told_29 : decode cX9_told 29 = .ok (.iinc 3 1, 3) := by decide +kernel
theorem dX9_told_32 : decode cX9_told 32 = .ok (.goto (-28), 3) := by decide +kernel
theorem dX9_told_35 : decode cX9_told 35 = .ok (.iload_n 1, 1) := by decide +kernel
theorem dX9_told_36 : decode cX9_told 36 = .ok (.ifCond .ne 10, 3) := by decide +kernel
theorem dX9_told_39 : decode cX9_told 39 = .ok (.aload_n 0, 1) := by decide +kernel
theorem dX9_told_40 : decode cX9_told 40 = .ok (.getfield 90, 3) := by decide +kernel
theorem dX9_told_43 : decode cX9_told 43 = .ok (.goto 38, 3) := by decide +kernel
theorem dX9_told_46 : decode cX9_told 46 = .ok (.iload_n 1, 1) := by decide +kernel
theorem dX9_told_47 : decode cX9_told 47 = .ok (.iconst 1, 1) := by decide +kernel
theorem dX9_told_48 : decode cX9_told 48 = .ok (.if_icmp .ne 7, 3) := by decide +kernel
theorem dX9_told_51 : decode cX9_told 51 = .ok (.iload_n 2, 1) := by decide +kernel
theorem dX9_told_52 : decode cX9_told 52 = .ok (.goto 29, 3) := by decide +kernel
theorem dX9_told_55 : decode cX9_told 55 = .ok (.iload_n 1, 1) := by decide +kernel
theorem dX9_told_56 : decode cX9_told 56 = .ok (.iconst 2, 1) := by decide +kernel
theorem dX9_told_57 : decode cX9_told 57 = .ok (.if_icmp .ne 10, 3) := by decide +kernel
theorem dX9_told_60 : decode cX9_told 60 = .ok (.aload_n 0, 1) := by decide +kernel
theorem dX9_told_61 : decode cX9_told 61 = .ok (.getfield 98, 3) := by decide +kernel
theorem dX9_told_64 : decode cX9_told 64 = .ok (.goto 17, 3) := by decide +kernel
theorem dX9_told_67 : decode cX9_told 67 = .ok (.iload_n 1, 1) := by decide +kernel
theorem dX9_told_68 : decode cX9_told 68 = .ok (.iconst 3, 1) := by decide +kernel
theorem dX9_told_69 : decode cX9_told 69 = .ok (.if_icmp .ne 10, 3) := by decide +kernel
theorem dX9_told_72 : decode cX9_told 72 = .ok (.aload_n 0, 1) := by decide +kernel
theorem dX9_told_73 : decode cX9_told 73 = .ok (.getfield 103, 3) := by decide +kernel
theorem dX9_told_76 : decode cX9_told 76 = .ok (.goto 5, 3) := by decide +kernel
theorem dX9_told_79 : decode cX9_told 79 = .ok (.ldc 120, 2) := by decide +kernel
theorem dX9_told_81 : decode cX9_told 81 = .ok (.ireturn, 1) := by decide +kernel
end
section
theorem dX0_firstDay_0 : decode cX0_firstDay 0 = .ok (.iload_n 1, 1) := by decide +kernel
theorem dX0_firstDay_1 : decode cX0_firstDay 1 = .ok (.ifCond .ne 5, 3) := by decide +kernel
theorem dX0_firstDay_4 : decode cX0_firstDay 4 = .ok (.iload_n 0, 1) := by decide +kernel
theorem dX0_firstDay_5 : decode cX0_firstDay 5 = .ok (.ireturn, 1) := by decide +kernel
theorem dX0_firstDay_6 : decode cX0_firstDay 6 = .ok (.iload_n 1, 1) := by decide +kernel
theorem dX0_firstDay_7 : decode cX0_firstDay 7 = .ok (.iconst 1, 1) := by decide +kernel
theorem dX0_firstDay_8 : decode cX0_firstDay 8 = .ok (.if_icmp .ne 14, 3) := by decide +kernel
theorem dX0_firstDay_11 : decode cX0_firstDay 11 = .ok (.iload_n 0, 1) := by decide +kernel
theorem dX0_firstDay_12 : decode cX0_firstDay 12 = .ok (.iload_n 0, 1) := by decide +kernel
theorem dX0_firstDay_13 : decode cX0_firstDay 13 = .ok (.iconst 3, 1) := by decide +kernel
theorem dX0_firstDay_14 : decode cX0_firstDay 14 = .ok (.iadd, 1) := by decide +kernel
theorem dX0_firstDay_15 : decode cX0_firstDay 15 = .ok (.bipush 7, 2) := by decide +kernel
theorem dX0_firstDay_17 : decode cX0_firstDay 17 = .ok (.invokestatic 9, 3) := by decide +kernel
theorem dX0_firstDay_20 : decode cX0_firstDay 20 = .ok (.isub, 1) := by decide +kernel
theorem dX0_firstDay_21 : decode cX0_firstDay 21 = .ok (.ireturn, 1) := by decide +kernel
theorem dX0_firstDay_22 : decode cX0_firstDay 22 = .ok (.iload_n 0, 1) := by decide +kernel
theorem dX0_firstDay_23 : decode cX0_firstDay 23 = .ok (.ldc 15, 2) := by decide +kernel
theorem dX0_firstDay_25 : decode cX0_firstDay 25 = .ok (.iadd, 1) := by decide +kernel
theorem dX0_firstDay_26 : decode cX0_firstDay 26 = .ok (.ldc 16, 2) := by decide +kernel
theorem dX0_firstDay_28 : decode cX0_firstDay 28 = .ok (.invokestatic 9, 3) := by decide +kernel
theorem dX0_firstDay_31 : decode cX0_firstDay 31 = .ok (.istore_n 2, 1) := by decide +kernel
theorem dX0_firstDay_32 : decode cX0_firstDay 32 = .ok (.iload_n 2, 1) := by decide +kernel
theorem dX0_firstDay_33 : decode cX0_firstDay 33 = .ok (.i2l, 1) := by decide +kernel
theorem dX0_firstDay_34 : decode cX0_firstDay 34 = .ok (.ldc2_w 17, 3) := by decide +kernel
theorem dX0_firstDay_37 : decode cX0_firstDay 37 = .ok (.lmul, 1) := by decide +kernel
theorem dX0_firstDay_38 : decode cX0_firstDay 38 = .ok (.ldc2_w 19, 3) := by decide +kernel
theorem dX0_firstDay_41 : decode cX0_firstDay 41 = .ok (.ldiv, 1) := by decide +kernel
theorem dX0_firstDay_42 : decode cX0_firstDay 42 = .ok (.l2i, 1) := by decide +kernel
theorem dX0_firstDay_43 : decode cX0_firstDay 43 = .ok (.istore_n 3, 1) := by decide +kernel
theorem dX0_firstDay_44 : decode cX0_firstDay 44 = .ok (.iload_n 3, 1) := by decide +kernel
theorem dX0_firstDay_45 : decode cX0_firstDay 45 = .ok (.invokestatic 21, 3) := by decide +kernel
theorem dX0_firstDay_48 : decode cX0_firstDay 48 = .ok (.iload_n 2, 1) := by decide +kernel
theorem dX0_firstDay_49 : decode cX0_firstDay 49 = .ok (.if_icmp .le 9, 3) := by decide +kernel
theorem dX0_firstDay_52 : decode cX0_firstDay 52 = .ok (.iinc 3 (-1), 3) := by decide +kernel
theorem dX0_firstDay_55 : decode cX0_firstDay 55 = .ok (.goto 16, 3) := by decide +kernel
theorem dX0_firstDay_58 : decode cX0_firstDay 58 = .ok (.iload_n 3, 1) := by decide +kernel
theorem dX0_firstDay_59 : decode cX0_firstDay 59 = .ok (.iconst 1, 1) := by decide +kernel
theorem dX0_firstDay_60 : decode cX0_firstDay 60 = .ok (.iadd, 1) := by decide +kernel
theorem dX0_firstDay_61 : decode cX0_firstDay 61 = .ok (.invokestatic 21, 3) := by decide +kernel
theorem dX0_firstDay_64 : decode cX0_firstDay 64 = .ok (.iload_n 2, 1) := by decide +kernel
theorem dX0_firstDay_65 : decode cX0_firstDay 65 = .ok (.if_icmp .gt 6, 3) := by decide +kernel
theorem dX0_firstDay_68 : decode cX0_firstDay 68 = .ok (.iinc 3 1, 3) := by decide +kernel
theorem dX0_firstDay_71 : decode cX0_firstDay 71 = .ok (.iload_n 2, 1) := by decide +kernel
theorem dX0_firstDay_72 : decode cX0_firstDay 72 = .ok (.iload_n 3, 1) := by decide +kernel
theorem dX0_firstDay_73 : decode cX0_firstDay 73 = .ok (.invokestatic 21, 3) := by decide +kernel
theorem dX0_firstDay_76 : decode cX0_firstDay 76 = .ok (.isub, 1) := by decide +kernel
theorem dX0_firstDay_77 : decode cX0_firstDay 77 = .ok (.istore 4, 2) := by decide +kernel
theorem dX0_firstDay_79 : decode cX0_firstDay 79 = .ok (.iload_n 1, 1) := by decide +kernel
theorem dX0_firstDay_80 : decode cX0_firstDay 80 = .ok (.iconst 4, 1) := by decide +kernel
theorem dX0_firstDay_81 : decode cX0_firstDay 81 = .ok (.if_icmp .ne 8, 3) := by decide +kernel
theorem dX0_firstDay_84 : decode cX0_firstDay 84 = .ok (.iload_n 0, 1) := by decide +kernel
theorem dX0_firstDay_85 : decode cX0_firstDay 85 = .ok (.iload 4, 2) := by decide +kernel
theorem dX0_firstDay_87 : decode cX0_firstDay 87 = .ok (.isub, 1) := by decide +kernel
theorem dX0_firstDay_88 : decode cX0_firstDay 88 = .ok (.ireturn, 1) := by decide +kernel
theorem dX0_firstDay_89 : decode cX0_firstDay 89 = .ok (.iload_n 3, 1) := by decide +kernel
theorem dX0_firstDay_90 : decode cX0_firstDay 90 = .ok (.iconst 1, 1) := by decide +kernel
theorem dX0_firstDay_91 : decode cX0_firstDay 91 = .ok (.iadd, 1) := by decide +kernel
theorem dX0_firstDay_92 : decode cX0_firstDay 92 = .ok (.invokestatic 21, 3) := by decide +kernel
theorem dX0_firstDay_95 : decode cX0_firstDay 95 = .ok (.iload_n 3, 1) := by decide +kernel
theorem dX0_firstDay_96 : decode cX0_firstDay 96 = .ok (.invokestatic 21, 3) := by decide +kernel
theorem dX0_firstDay_99 : decode cX0_firstDay 99 = .ok (.isub, 1) := by decide +kernel
theorem dX0_firstDay_100 : decode cX0_firstDay 100 = .ok (.sipush 366, 3) := by decide +kernel
theorem dX0_firstDay_103 : decode cX0_firstDay 103 = .ok (.if_icmp .ne 7, 3) := by decide +kernel
theorem dX0_firstDay_106 : decode cX0_firstDay 106 = .ok (.iconst 1, 1) := by decide +kernel
theorem dX0_firstDay_107 : decode cX0_firstDay 107 = .ok (.goto 4, 3) := by decide +kernel
theorem dX0_firstDay_110 : decode cX0_firstDay 110 = .ok (.iconst 0, 1) := by decide +kernel
theorem dX0_firstDay_111 : decode cX0_firstDay 111 = .ok (.istore 5, 2) := by decide +kernel
theorem dX0_firstDay_113 : decode cX0_firstDay 113 = .ok (.iload_n 0, 1) := by decide +kernel
theorem dX0_firstDay_114 : decode cX0_firstDay 114 = .ok (.iload 4, 2) := by decide +kernel
theorem dX0_firstDay_116 : decode cX0_firstDay 116 = .ok (.isub, 1) := by decide +kernel
theorem dX0_firstDay_117 : decode cX0_firstDay 117 = .ok (.iload 4, 2) := by decide +kernel
theorem dX0_firstDay_119 : decode cX0_firstDay 119 = .ok (.iload 5, 2) := by decide +kernel
theorem dX0_firstDay_121 : decode cX0_firstDay 121 = .ok (.iload_n 1, 1) := by decide +kernel
theorem dX0_firstDay_122 : decode cX0_firstDay 122 = .ok (.iconst 3, 1) := by decide +kernel
theorem dX0_firstDay_123 : decode cX0_firstDay 123 = .ok (.if_icmp .ne 7, 3) := by decide +kernel
theorem dX0_firstDay_126 : decode cX0_firstDay 126 = .ok (.iconst 3, 1) := by decide +kernel
theorem dX0_firstDay_127 : decode cX0_firstDay 127 = .ok (.goto 4, 3) := by decide +kernel
theorem dX0_firstDay_130 : decode cX0_firstDay 130 = .ok (.iconst 1, 1) := by decide +kernel
theorem dX0_firstDay_131 : decode cX0_firstDay 131 = .ok (.invokestatic 25, 3) := by decide +kernel
theorem dX0_firstDay_134 : decode cX0_firstDay 134 = .ok (.iadd, 1) := by decide +kernel
theorem dX0_firstDay_135 : decode cX0_firstDay 135 = .ok (.ireturn, 1) := by decide +kernel
theorem dX0_yearStart_0 : decode cX0_yearStart 0 = .ok (.sipush 365, 3) := by decide +kernel
theorem dX0_yearStart_3 : decode cX0_yearStart 3 = .ok (.iload_n 0, 1) := by decide +kernel
theorem dX0_yearStart_4 : decode cX0_yearStart 4 = .ok (.imul, 1) := by decide +kernel
theorem dX0_yearStart_5 : decode cX0_yearStart 5 = .ok (.iload_n 0, 1) := by decide +kernel
theorem dX0_yearStart_6 : decode cX0_yearStart 6 = .ok (.iconst 3, 1) := by decide +kernel
theorem dX0_yearStart_7 : decode cX0_yearStart 7 = .ok (.iadd, 1) := by decide +kernel
theorem dX0_yearStart_8 : decode cX0_yearStart 8 = .ok (.iconst 4, 1) := by decide +kernel
theorem dX0_yearStart_9 : decode cX0_yearStart 9 = .ok (.idiv, 1) := by decide +kernel
theorem dX0_yearStart_10 : decode cX0_yearStart 10 = .ok (.iadd, 1) := by decide +kernel
theorem dX0_yearStart_11 : decode cX0_yearStart 11 = .ok (.iload_n 0, 1) := by decide +kernel
theorem dX0_yearStart_12 : decode cX0_yearStart 12 = .ok (.bipush 99, 2) := by decide +kernel
theorem dX0_yearStart_14 : decode cX0_yearStart 14 = .ok (.iadd, 1) := by decide +kernel
theorem dX0_yearStart_15 : decode cX0_yearStart 15 = .ok (.bipush 100, 2) := by decide +kernel
theorem dX0_yearStart_17 : decode cX0_yearStart 17 = .ok (.idiv, 1) := by decide +kernel
theorem dX0_yearStart_18 : decode cX0_yearStart 18 = .ok (.isub, 1) := by decide +kernel
theorem dX0_yearStart_19 : decode cX0_yearStart 19 = .ok (.iload_n 0, 1) := by decide +kernel
theorem dX0_yearStart_20 : decode cX0_yearStart 20 = .ok (.sipush 399, 3) := by decide +kernel
theorem dX0_yearStart_23 : decode cX0_yearStart 23 = .ok (.iadd, 1) := by decide +kernel
theorem dX0_yearStart_24 : decode cX0_yearStart 24 = .ok (.sipush 400, 3) := by decide +kernel
theorem dX0_yearStart_27 : decode cX0_yearStart 27 = .ok (.idiv, 1) := by decide +kernel
theorem dX0_yearStart_28 : decode cX0_yearStart 28 = .ok (.iadd, 1) := by decide +kernel
theorem dX0_yearStart_29 : decode cX0_yearStart 29 = .ok (.ireturn, 1) := by decide +kernel
theorem dX0_partStart_0 : decode cX0_partStart 0 = .ok (.iconst 0, 1) := by decide +kernel
theorem dX0_partStart_1 : decode cX0_partStart 1 = .ok (.istore_n 3, 1) := by decide +kernel
theorem dX0_partStart_2 : decode cX0_partStart 2 = .ok (.iconst 0, 1) := by decide +kernel
theorem dX0_partStart_3 : decode cX0_partStart 3 = .ok (.istore 4, 2) := by decide +kernel
theorem dX0_partStart_5 : decode cX0_partStart 5 = .ok (.iload 4, 2) := by decide +kernel
theorem dX0_partStart_7 : decode cX0_partStart 7 = .ok (.getstatic 29, 3) := by decide +kernel
theorem dX0_partStart_10 : decode cX0_partStart 10 = .ok (.arraylength, 1) := by decide +kernel
theorem dX0_partStart_11 : decode cX0_partStart 11 = .ok (.if_icmp .ge 49, 3) := by decide +kernel
theorem dX0_partStart_14 : decode cX0_partStart 14 = .ok (.getstatic 29, 3) := by decide +kernel
theorem dX0_partStart_17 : decode cX0_partStart 17 = .ok (.iload 4, 2) := by decide +kernel
theorem dX0_partStart_19 : decode cX0_partStart 19 = .ok (.iaload, 1) := by decide +kernel
theorem dX0_partStart_20 : decode cX0_partStart 20 = .ok (.iload_n 1, 1) := by decide +kernel
theorem dX0_partStart_21 : decode cX0_partStart 21 = .ok (.ifCond .eq 13, 3) := by decide +kernel
theorem dX0_partStart_24 : decode cX0_partStart 24 = .ok (.iload 4, 2) := by decide +kernel
theorem dX0_partStart_26 : decode cX0_partStart 26 = .ok (.iconst 1, 1) := by decide +kernel
theorem dX0_partStart_27 : decode cX0_partStart 27 = .ok (.if_icmp .le 7, 3) := by decide +kernel
theorem dX0_partStart_30 : decode cX0_partStart 30 = .ok (.iconst 1, 1) := by decide +kernel
theorem dX0_partStart_31 : decode cX0_partStart 31 = .ok (.goto 4, 3) := by decide +kernel
theorem dX0_partStart_34 : decode cX0_partStart 34 = .ok (.iconst 0, 1) := by decide +kernel
theorem dX0_partStart_35 : decode cX0_partStart 35 = .ok (.iadd, 1) := by decide +kernel
theorem dX0_partStart_36 : decode cX0_partStart 36 = .ok (.istore 5, 2) := by decide +kernel
theorem dX0_partStart_38 : decode cX0_partStart 38 = .ok (.iload 5, 2) := by decide +kernel
theorem dX0_partStart_40 : decode cX0_partStart 40 = .ok (.iload_n 0, 1) := by decide +kernel
theorem dX0_partStart_41 : decode cX0_partStart 41 = .ok (.if_icmp .gt 13, 3) := by decide +kernel
theorem dX0_partStart_44 : decode cX0_partStart 44 = .ok (.iload 4, 2) := by decide +kernel
theorem dX0_partStart_46 : decode cX0_partStart 46 = .ok (.iload_n 2, 1) := by decide +kernel
theorem dX0_partStart_47 : decode cX0_partStart 47 = .ok (.irem, 1) := by decide +kernel
theorem dX0_partStart_48 : decode cX0_partStart 48 = .ok (.ifCond .ne 6, 3) := by decide +kernel
theorem dX0_partStart_51 : decode cX0_partStart 51 = .ok (.iload 5, 2) := by decide +kernel
theorem dX0_partStart_53 : decode cX0_partStart 53 = .ok (.istore_n 3, 1) := by decide +kernel
theorem dX0_partStart_54 : decode cX0_partStart 54 = .ok (.iinc 4 1, 3) := by decide +kernel
theorem dX0_partStart_57 : decode cX0_partStart 57 = .ok (.goto (-52), 3) := by decide +kernel
theorem dX0_partStart_60 : decode cX0_partStart 60 = .ok (.iload_n 3, 1) := by decide +kernel
theorem dX0_partStart_61 : decode cX0_partStart 61 = .ok (.ireturn, 1) := by decide +kernel
theorem dX1_init_0 : decode cX1_init 0 = .ok (.aload_n 0, 1) := by decide +kernel
theorem dX1_init_1 : decode cX1_init 1 = .ok (.invokespecial 3, 3) := by decide +kernel
theorem dX1_init_4 : decode cX1_init 4 = .ok (.aload_n 0, 1) := by decide +kernel
theorem dX1_init_5 : decode cX1_init 5 = .ok (.bipush 6, 2) := by decide +kernel
theorem dX1_init_7 : decode cX1_init 7 = .ok (.newarray .int, 2) := by decide +kernel
theorem dX1_init_9 : decode cX1_init 9 = .ok (.putfield 9, 3) := by decide +kernel
theorem dX1_init_12 : decode cX1_init 12 = .ok (.aload_n 0, 1) := by decide +kernel
theorem dX1_init_13 : decode cX1_init 13 = .ok (.bipush 6, 2) := by decide +kernel
theorem dX1_init_15 : decode cX1_init 15 = .ok (.newarray .int, 2) := by decide +kernel
theorem dX1_init_17 : decode cX1_init 17 = .ok (.putfield 15, 3) := by decide +kernel
theorem dX1_init_20 : decode cX1_init 20 = .ok (.return_, 1) := by decide +kernel
theorem dX1_startOver_0 : decode cX1_startOver 0 = .ok (.aload_n 0, 1) := by decide +kernel
theorem dX1_startOver_1 : decode cX1_startOver 1 = .ok (.iload_n 1, 1) := by decide +kernel
theorem dX1_startOver_2 : decode cX1_startOver 2 = .ok (.putfield 18, 3) := by decide +kernel
theorem dX1_startOver_5 : decode cX1_startOver 5 = .ok (.aload_n 0, 1) := by decide +kernel
theorem dX1_startOver_6 : decode cX1_startOver 6 = .ok (.iload_n 2, 1) := by decide +kernel
theorem dX1_startOver_7 : decode cX1_startOver 7 = .ok (.putfield 22, 3) := by decide +kernel
theorem dX1_startOver_10 : decode cX1_startOver 10 = .ok (.aload_n 0, 1) := by decide +kernel
theorem dX1_startOver_11 : decode cX1_startOver 11 = .ok (.iload_n 3, 1) := by decide +kernel
theorem dX1_startOver_12 : decode cX1_startOver 12 = .ok (.putfield 25, 3) := by decide +kernel
theorem dX1_startOver_15 : decode cX1_startOver 15 = .ok (.aload_n 0, 1) := by decide +kernel
theorem dX1_startOver_16 : decode cX1_startOver 16 = .ok (.iload 4, 2) := by decide +kernel
theorem dX1_startOver_18 : decode cX1_startOver 18 = .ok (.putfield 28, 3) := by decide +kernel
theorem dX1_startOver_21 : decode cX1_startOver 21 = .ok (.aload_n 0, 1) := by decide +kernel
theorem dX1_startOver_22 : decode cX1_startOver 22 = .ok (.ldc 31, 2) := by decide +kernel
theorem dX1_startOver_24 : decode cX1_startOver 24 = .ok (.putfield 32, 3) := by decide +kernel
theorem dX1_startOver_27 : decode cX1_startOver 27 = .ok (.aload_n 0, 1) := by decide +kernel
theorem dX1_startOver_28 : decode cX1_startOver 28 = .ok (.iconst 0, 1) := by decide +kernel
theorem dX1_startOver_29 : decode cX1_startOver 29 = .ok (.putfield 35, 3) := by decide +kernel
theorem dX1_startOver_32 : decode cX1_startOver 32 = .ok (.aload_n 0, 1) := by decide +kernel
theorem dX1_startOver_33 : decode cX1_startOver 33 = .ok (.iconst 0, 1) := by decide +kernel
theorem dX1_startOver_34 : decode cX1_startOver 34 = .ok (.putfield 38, 3) := by decide +kernel
theorem dX1_startOver_37 : decode cX1_startOver 37 = .ok (.aload_n 0, 1) := by decide +kernel
theorem dX1_startOver_38 : decode cX1_startOver 38 = .ok (.iconst 1, 1) := by decide +kernel
theorem dX1_startOver_39 : decode cX1_startOver 39 = .ok (.putfield 41, 3) := by decide +kernel
theorem dX1_startOver_42 : decode cX1_startOver 42 = .ok (.aload_n 0, 1) := by decide +kernel
theorem dX1_startOver_43 : decode cX1_startOver 43 = .ok (.iconst 0, 1) := by decide +kernel
theorem dX1_startOver_44 : decode cX1_startOver 44 = .ok (.putfield 44, 3) := by decide +kernel
theorem dX1_startOver_47 : decode cX1_startOver 47 = .ok (.aload_n 0, 1) := by decide +kernel
theorem dX1_startOver_48 : decode cX1_startOver 48 = .ok (.iconst 0, 1) := by decide +kernel
theorem dX1_startOver_49 : decode cX1_startOver 49 = .ok (.putfield 48, 3) := by decide +kernel
theorem dX1_startOver_52 : decode cX1_startOver 52 = .ok (.aload_n 0, 1) := by decide +kernel
theorem dX1_startOver_53 : decode cX1_startOver 53 = .ok (.iconst 0, 1) := by decide +kernel
theorem dX1_startOver_54 : decode cX1_startOver 54 = .ok (.putfield 51, 3) := by decide +kernel
theorem dX1_startOver_57 : decode cX1_startOver 57 = .ok (.aload_n 0, 1) := by decide +kernel
theorem dX1_startOver_58 : decode cX1_startOver 58 = .ok (.iconst 0, 1) := by decide +kernel
theorem dX1_startOver_59 : decode cX1_startOver 59 = .ok (.putfield 54, 3) := by decide +kernel
theorem dX1_startOver_62 : decode cX1_startOver 62 = .ok (.return_, 1) := by decide +kernel
theorem dX1_addRange_0 : decode cX1_addRange 0 = .ok (.aload_n 0, 1) := by decide +kernel
theorem dX1_addRange_1 : decode cX1_addRange 1 = .ok (.getfield 9, 3) := by decide +kernel
theorem dX1_addRange_4 : decode cX1_addRange 4 = .ok (.aload_n 0, 1) := by decide +kernel
theorem dX1_addRange_5 : decode cX1_addRange 5 = .ok (.getfield 54, 3) := by decide +kernel
theorem dX1_addRange_8 : decode cX1_addRange 8 = .ok (.iload_n 1, 1) := by decide +kernel
theorem dX1_addRange_9 : decode cX1_addRange 9 = .ok (.iastore, 1) := by decide +kernel
theorem dX1_addRange_10 : decode cX1_addRange 10 = .ok (.aload_n 0, 1) := by decide +kernel
theorem dX1_addRange_11 : decode cX1_addRange 11 = .ok (.getfield 15, 3) := by decide +kernel
theorem dX1_addRange_14 : decode cX1_addRange 14 = .ok (.aload_n 0, 1) := by decide +kernel
theorem dX1_addRange_15 : decode cX1_addRange 15 = .ok (.getfield 54, 3) := by decide +kernel
theorem dX1_addRange_18 : decode cX1_addRange 18 = .ok (.iload_n 2, 1) := by decide +kernel
theorem dX1_addRange_19 : decode cX1_addRange 19 = .ok (.iastore, 1) := by decide +kernel
theorem dX1_addRange_20 : decode cX1_addRange 20 = .ok (.aload_n 0, 1) := by decide +kernel
theorem dX1_addRange_21 : decode cX1_addRange 21 = .ok (.dup, 1) := by decide +kernel
theorem dX1_addRange_22 : decode cX1_addRange 22 = .ok (.getfield 54, 3) := by decide +kernel
theorem dX1_addRange_25 : decode cX1_addRange 25 = .ok (.iconst 1, 1) := by decide +kernel
theorem dX1_addRange_26 : decode cX1_addRange 26 = .ok (.iadd, 1) := by decide +kernel
theorem dX1_addRange_27 : decode cX1_addRange 27 = .ok (.putfield 54, 3) := by decide +kernel
theorem dX1_addRange_30 : decode cX1_addRange 30 = .ok (.aload_n 0, 1) := by decide +kernel
theorem dX1_addRange_31 : decode cX1_addRange 31 = .ok (.getfield 54, 3) := by decide +kernel
theorem dX1_addRange_34 : decode cX1_addRange 34 = .ok (.iconst 1, 1) := by decide +kernel
theorem dX1_addRange_35 : decode cX1_addRange 35 = .ok (.isub, 1) := by decide +kernel
theorem dX1_addRange_36 : decode cX1_addRange 36 = .ok (.ireturn, 1) := by decide +kernel
theorem dX1_counts_0 : decode cX1_counts 0 = .ok (.aload_n 0, 1) := by decide +kernel
theorem dX1_counts_1 : decode cX1_counts 1 = .ok (.getfield 32, 3) := by decide +kernel
theorem dX1_counts_4 : decode cX1_counts 4 = .ok (.ldc 31, 2) := by decide +kernel
theorem dX1_counts_6 : decode cX1_counts 6 = .ok (.if_icmp .eq 23, 3) := by decide +kernel
theorem dX1_counts_9 : decode cX1_counts 9 = .ok (.aload_n 1, 1) := by decide +kernel
theorem dX1_counts_10 : decode cX1_counts 10 = .ok (.iload_n 2, 1) := by decide +kernel
theorem dX1_counts_11 : decode cX1_counts 11 = .ok (.aload_n 0, 1) := by decide +kernel
theorem dX1_counts_12 : decode cX1_counts 12 = .ok (.getfield 32, 3) := by decide +kernel
theorem dX1_counts_15 : decode cX1_counts 15 = .ok (.aload_n 0, 1) := by decide +kernel
theorem dX1_counts_16 : decode cX1_counts 16 = .ok (.getfield 35, 3) := by decide +kernel
theorem dX1_counts_19 : decode cX1_counts 19 = .ok (.aload_n 0, 1) := by decide +kernel
theorem dX1_counts_20 : decode cX1_counts 20 = .ok (.getfield 38, 3) := by decide +kernel
theorem dX1_counts_23 : decode cX1_counts 23 = .ok (.invokevirtual 57, 3) := by decide +kernel
theorem dX1_counts_26 : decode cX1_counts 26 = .ok (.ifCond .eq 7, 3) := by decide +kernel
theorem dX1_counts_29 : decode cX1_counts 29 = .ok (.iconst 1, 1) := by decide +kernel
theorem dX1_counts_30 : decode cX1_counts 30 = .ok (.goto 4, 3) := by decide +kernel
theorem dX1_counts_33 : decode cX1_counts 33 = .ok (.iconst 0, 1) := by decide +kernel
theorem dX1_counts_34 : decode cX1_counts 34 = .ok (.ireturn, 1) := by decide +kernel
theorem dX1_collectKeys_0 : decode cX1_collectKeys 0 = .ok (.aload_n 3, 1) := by decide +kernel
theorem dX1_collectKeys_1 : decode cX1_collectKeys 1 = .ok (.invokevirtual 63, 3) := by decide +kernel
theorem dX1_collectKeys_4 : decode cX1_collectKeys 4 = .ok (.aload_n 1, 1) := by decide +kernel
theorem dX1_collectKeys_5 : decode cX1_collectKeys 5 = .ok (.iload_n 2, 1) := by decide +kernel
theorem dX1_collectKeys_6 : decode cX1_collectKeys 6 = .ok (.aload_n 0, 1) := by decide +kernel
theorem dX1_collectKeys_7 : decode cX1_collectKeys 7 = .ok (.getfield 22, 3) := by decide +kernel
theorem dX1_collectKeys_10 : decode cX1_collectKeys 10 = .ok (.invokevirtual 68, 3) := by decide +kernel
theorem dX1_collectKeys_13 : decode cX1_collectKeys 13 = .ok (.istore 4, 2) := by decide +kernel
theorem dX1_collectKeys_15 : decode cX1_collectKeys 15 = .ok (.iconst 0, 1) := by decide +kernel
theorem dX1_collectKeys_16 : decode cX1_collectKeys 16 = .ok (.istore 5, 2) := by decide +kernel
theorem dX1_collectKeys_18 : decode cX1_collectKeys 18 = .ok (.iload 5, 2) := by decide +kernel
theorem dX1_collectKeys_20 : decode cX1_collectKeys 20 = .ok (.iload 4, 2) := by decide +kernel
theorem dX1_collectKeys_22 : decode cX1_collectKeys 22 = .ok (.if_icmp .ge 25, 3) := by decide +kernel
theorem dX1_collectKeys_25 : decode cX1_collectKeys 25 = .ok (.aload_n 0, 1) := by decide +kernel
theorem dX1_collectKeys_26 : decode cX1_collectKeys 26 = .ok (.aload_n 1, 1) := by decide +kernel
theorem dX1_collectKeys_27 : decode cX1_collectKeys 27 = .ok (.iload_n 2, 1) := by decide +kernel
theorem dX1_collectKeys_28 : decode cX1_collectKeys 28 = .ok (.aload_n 0, 1) := by decide +kernel
theorem dX1_collectKeys_29 : decode cX1_collectKeys 29 = .ok (.getfield 22, 3) := by decide +kernel
theorem dX1_collectKeys_32 : decode cX1_collectKeys 32 = .ok (.iload 5, 2) := by decide +kernel
theorem dX1_collectKeys_34 : decode cX1_collectKeys 34 = .ok (.invokevirtual 72, 3) := by decide +kernel
theorem dX1_collectKeys_37 : decode cX1_collectKeys 37 = .ok (.aload_n 3, 1) := by decide +kernel
theorem dX1_collectKeys_38 : decode cX1_collectKeys 38 = .ok (.invokevirtual 76, 3) := by decide +kernel
theorem dX1_collectKeys_41 : decode cX1_collectKeys 41 = .ok (.iinc 5 1, 3) := by decide +kernel
theorem dX1_collectKeys_44 : decode cX1_collectKeys 44 = .ok (.goto (-26), 3) := by decide +kernel
theorem dX1_collectKeys_47 : decode cX1_collectKeys 47 = .ok (.return_, 1) := by decide +kernel
theorem dX1_addKeysOf_0 : decode cX1_addKeysOf 0 = .ok (.aload_n 0, 1) := by decide +kernel
theorem dX1_addKeysOf_1 : decode cX1_addKeysOf 1 = .ok (.getfield 18, 3) := by decide +kernel
theorem dX1_addKeysOf_4 : decode cX1_addKeysOf 4 = .ok (.tableswitch 117 0 4 #[36, 44, 52, 61, 90], 36) := by decide +kernel
theorem dX1_addKeysOf_40 : decode cX1_addKeysOf 40 = .ok (.aload_n 2, 1) := by decide +kernel
theorem dX1_addKeysOf_41 : decode cX1_addKeysOf 41 = .ok (.iload_n 1, 1) := by decide +kernel
theorem dX1_addKeysOf_42 : decode cX1_addKeysOf 42 = .ok (.invokevirtual 80, 3) := by decide +kernel
theorem dX1_addKeysOf_45 : decode cX1_addKeysOf 45 = .ok (.goto 76, 3) := by decide +kernel
theorem dX1_addKeysOf_48 : decode cX1_addKeysOf 48 = .ok (.iload_n 1, 1) := by decide +kernel
theorem dX1_addKeysOf_49 : decode cX1_addKeysOf 49 = .ok (.aload_n 2, 1) := by decide +kernel
theorem dX1_addKeysOf_50 : decode cX1_addKeysOf 50 = .ok (.invokestatic 84, 3) := by decide +kernel
theorem dX1_addKeysOf_53 : decode cX1_addKeysOf 53 = .ok (.goto 68, 3) := by decide +kernel
theorem dX1_addKeysOf_56 : decode cX1_addKeysOf 56 = .ok (.aload_n 0, 1) := by decide +kernel
theorem dX1_addKeysOf_57 : decode cX1_addKeysOf 57 = .ok (.iload_n 1, 1) := by decide +kernel
theorem dX1_addKeysOf_58 : decode cX1_addKeysOf 58 = .ok (.aload_n 2, 1) := by decide +kernel
theorem dX1_addKeysOf_59 : decode cX1_addKeysOf 59 = .ok (.invokevirtual 87, 3) := by decide +kernel
theorem dX1_addKeysOf_62 : decode cX1_addKeysOf 62 = .ok (.goto 59, 3) := by decide +kernel
theorem dX1_addKeysOf_65 : decode cX1_addKeysOf 65 = .ok (.aload_n 0, 1) := by decide +kernel
theorem dX1_addKeysOf_66 : decode cX1_addKeysOf 66 = .ok (.getfield 25, 3) := by decide +kernel
theorem dX1_addKeysOf_69 : decode cX1_addKeysOf 69 = .ok (.ifCond .le 52, 3) := by decide +kernel
theorem dX1_addKeysOf_72 : decode cX1_addKeysOf 72 = .ok (.aload_n 2, 1) := by decide +kernel
theorem dX1_addKeysOf_73 : decode cX1_addKeysOf 73 = .ok (.iload_n 1, 1) := by decide +kernel
theorem dX1_addKeysOf_74 : decode cX1_addKeysOf 74 = .ok (.iload_n 1, 1) := by decide +kernel
theorem dX1_addKeysOf_75 : decode cX1_addKeysOf 75 = .ok (.aload_n 0, 1) := by decide +kernel
theorem dX1_addKeysOf_76 : decode cX1_addKeysOf 76 = .ok (.getfield 28, 3) := by decide +kernel
theorem dX1_addKeysOf_79 : decode cX1_addKeysOf 79 = .ok (.isub, 1) := by decide +kernel
theorem dX1_addKeysOf_80 : decode cX1_addKeysOf 80 = .ok (.aload_n 0, 1) := by decide +kernel
theorem dX1_addKeysOf_81 : decode cX1_addKeysOf 81 = .ok (.getfield 25, 3) := by decide +kernel
theorem dX1_addKeysOf_84 : decode cX1_addKeysOf 84 = .ok (.invokestatic 90, 3) := by decide +kernel
theorem dX1_addKeysOf_87 : decode cX1_addKeysOf 87 = .ok (.isub, 1) := by decide +kernel
theorem dX1_addKeysOf_88 : decode cX1_addKeysOf 88 = .ok (.invokevirtual 80, 3) := by decide +kernel
theorem dX1_addKeysOf_91 : decode cX1_addKeysOf 91 = .ok (.goto 30, 3) := by decide +kernel
theorem dX1_addKeysOf_94 : decode cX1_addKeysOf 94 = .ok (.iload_n 1, 1) := by decide +kernel
theorem dX1_addKeysOf_95 : decode cX1_addKeysOf 95 = .ok (.ldc 95, 2) := by decide +kernel
theorem dX1_addKeysOf_97 : decode cX1_addKeysOf 97 = .ok (.if_icmp .lt 24, 3) := by decide +kernel
theorem dX1_addKeysOf_100 : decode cX1_addKeysOf 100 = .ok (.iload_n 1, 1) := by decide +kernel
theorem dX1_addKeysOf_101 : decode cX1_addKeysOf 101 = .ok (.ldc 96, 2) := by decide +kernel
theorem dX1_addKeysOf_103 : decode cX1_addKeysOf 103 = .ok (.if_icmp .gt 18, 3) := by decide +kernel
theorem dX1_addKeysOf_106 : decode cX1_addKeysOf 106 = .ok (.aload_n 2, 1) := by decide +kernel
theorem dX1_addKeysOf_107 : decode cX1_addKeysOf 107 = .ok (.iload_n 1, 1) := by decide +kernel
theorem dX1_addKeysOf_108 : decode cX1_addKeysOf 108 = .ok (.aload_n 0, 1) := by decide +kernel
theorem dX1_addKeysOf_109 : decode cX1_addKeysOf 109 = .ok (.getfield 25, 3) := by decide +kernel
theorem dX1_addKeysOf_112 : decode cX1_addKeysOf 112 = .ok (.invokestatic 97, 3) := by decide +kernel
theorem dX1_addKeysOf_115 : decode cX1_addKeysOf 115 = .ok (.invokevirtual 80, 3) := by decide +kernel
theorem dX1_addKeysOf_118 : decode cX1_addKeysOf 118 = .ok (.goto 3, 3) := by decide +kernel
theorem dX1_addKeysOf_121 : decode cX1_addKeysOf 121 = .ok (.return_, 1) := by decide +kernel
theorem dX1_addPathKeys_0 : decode cX1_addPathKeys 0 = .ok (.iload_n 0, 1) := by decide +kernel
theorem dX1_addPathKeys_1 : decode cX1_addPathKeys 1 = .ok (.sipush 10000, 3) := by decide +kernel
theorem dX1_addPathKeys_4 : decode cX1_addPathKeys 4 = .ok (.if_icmp .lt 9, 3) := by decide +kernel
theorem dX1_addPathKeys_7 : decode cX1_addPathKeys 7 = .ok (.iload_n 0, 1) := by decide +kernel
theorem dX1_addPathKeys_8 : decode cX1_addPathKeys 8 = .ok (.ldc 102, 2) := by decide +kernel
theorem dX1_addPathKeys_10 : decode cX1_addPathKeys 10 = .ok (.if_icmp .le 4, 3) := by decide +kernel
theorem dX1_addPathKeys_13 : decode cX1_addPathKeys 13 = .ok (.return_, 1) := by decide +kernel
theorem dX1_addPathKeys_14 : decode cX1_addPathKeys 14 = .ok (.iload_n 0, 1) := by decide +kernel
theorem dX1_addPathKeys_15 : decode cX1_addPathKeys 15 = .ok (.bipush 100, 2) := by decide +kernel
theorem dX1_addPathKeys_17 : decode cX1_addPathKeys 17 = .ok (.idiv, 1) := by decide +kernel
theorem dX1_addPathKeys_18 : decode cX1_addPathKeys 18 = .ok (.bipush 100, 2) := by decide +kernel
theorem dX1_addPathKeys_20 : decode cX1_addPathKeys 20 = .ok (.irem, 1) := by decide +kernel
theorem dX1_addPathKeys_21 : decode cX1_addPathKeys 21 = .ok (.ifCond .eq 7, 3) := by decide +kernel
theorem dX1_addPathKeys_24 : decode cX1_addPathKeys 24 = .ok (.iconst 1, 1) := by decide +kernel
theorem dX1_addPathKeys_25 : decode cX1_addPathKeys 25 = .ok (.goto 4, 3) := by decide +kernel
theorem dX1_addPathKeys_28 : decode cX1_addPathKeys 28 = .ok (.iconst 0, 1) := by decide +kernel
theorem dX1_addPathKeys_29 : decode cX1_addPathKeys 29 = .ok (.istore_n 2, 1) := by decide +kernel
theorem dX1_addPathKeys_30 : decode cX1_addPathKeys 30 = .ok (.iload_n 0, 1) := by decide +kernel
theorem dX1_addPathKeys_31 : decode cX1_addPathKeys 31 = .ok (.bipush 100, 2) := by decide +kernel
theorem dX1_addPathKeys_33 : decode cX1_addPathKeys 33 = .ok (.irem, 1) := by decide +kernel
theorem dX1_addPathKeys_34 : decode cX1_addPathKeys 34 = .ok (.ifCond .eq 7, 3) := by decide +kernel
theorem dX1_addPathKeys_37 : decode cX1_addPathKeys 37 = .ok (.iconst 1, 1) := by decide +kernel
theorem dX1_addPathKeys_38 : decode cX1_addPathKeys 38 = .ok (.goto 4, 3) := by decide +kernel
theorem dX1_addPathKeys_41 : decode cX1_addPathKeys 41 = .ok (.iconst 0, 1) := by decide +kernel
theorem dX1_addPathKeys_42 : decode cX1_addPathKeys 42 = .ok (.istore_n 3, 1) := by decide +kernel
theorem dX1_addPathKeys_43 : decode cX1_addPathKeys 43 = .ok (.iload_n 3, 1) := by decide +kernel
theorem dX1_addPathKeys_44 : decode cX1_addPathKeys 44 = .ok (.ifCond .eq 8, 3) := by decide +kernel
theorem dX1_addPathKeys_47 : decode cX1_addPathKeys 47 = .ok (.iload_n 2, 1) := by decide +kernel
theorem dX1_addPathKeys_48 : decode cX1_addPathKeys 48 = .ok (.ifCond .ne 4, 3) := by decide +kernel
theorem dX1_addPathKeys_51 : decode cX1_addPathKeys 51 = .ok (.return_, 1) := by decide +kernel
theorem dX1_addPathKeys_52 : decode cX1_addPathKeys 52 = .ok (.aload_n 1, 1) := by decide +kernel
theorem dX1_addPathKeys_53 : decode cX1_addPathKeys 53 = .ok (.iload_n 0, 1) := by decide +kernel
theorem dX1_addPathKeys_54 : decode cX1_addPathKeys 54 = .ok (.iload_n 0, 1) := by decide +kernel
theorem dX1_addPathKeys_55 : decode cX1_addPathKeys 55 = .ok (.sipush 10000, 3) := by decide +kernel
theorem dX1_addPathKeys_58 : decode cX1_addPathKeys 58 = .ok (.irem, 1) := by decide +kernel
theorem dX1_addPathKeys_59 : decode cX1_addPathKeys 59 = .ok (.isub, 1) := by decide +kernel
theorem dX1_addPathKeys_60 : decode cX1_addPathKeys 60 = .ok (.invokevirtual 80, 3) := by decide +kernel
theorem dX1_addPathKeys_63 : decode cX1_addPathKeys 63 = .ok (.iload_n 2, 1) := by decide +kernel
theorem dX1_addPathKeys_64 : decode cX1_addPathKeys 64 = .ok (.ifCond .eq 13, 3) := by decide +kernel
theorem dX1_addPathKeys_67 : decode cX1_addPathKeys 67 = .ok (.aload_n 1, 1) := by decide +kernel
theorem dX1_addPathKeys_68 : decode cX1_addPathKeys 68 = .ok (.iload_n 0, 1) := by decide +kernel
theorem dX1_addPathKeys_69 : decode cX1_addPathKeys 69 = .ok (.iload_n 0, 1) := by decide +kernel
theorem dX1_addPathKeys_70 : decode cX1_addPathKeys 70 = .ok (.bipush 100, 2) := by decide +kernel
theorem dX1_addPathKeys_72 : decode cX1_addPathKeys 72 = .ok (.irem, 1) := by decide +kernel
theorem dX1_addPathKeys_73 : decode cX1_addPathKeys 73 = .ok (.isub, 1) := by decide +kernel
theorem dX1_addPathKeys_74 : decode cX1_addPathKeys 74 = .ok (.invokevirtual 80, 3) := by decide +kernel
theorem dX1_addPathKeys_77 : decode cX1_addPathKeys 77 = .ok (.iload_n 3, 1) := by decide +kernel
theorem dX1_addPathKeys_78 : decode cX1_addPathKeys 78 = .ok (.ifCond .eq 8, 3) := by decide +kernel
theorem dX1_addPathKeys_81 : decode cX1_addPathKeys 81 = .ok (.aload_n 1, 1) := by decide +kernel
theorem dX1_addPathKeys_82 : decode cX1_addPathKeys 82 = .ok (.iload_n 0, 1) := by decide +kernel
theorem dX1_addPathKeys_83 : decode cX1_addPathKeys 83 = .ok (.invokevirtual 80, 3) := by decide +kernel
theorem dX1_addPathKeys_86 : decode cX1_addPathKeys 86 = .ok (.return_, 1) := by decide +kernel
theorem dX1_addRangeKeys_0 : decode cX1_addRangeKeys 0 = .ok (.iconst 0, 1) := by decide +kernel
theorem dX1_addRangeKeys_1 : decode cX1_addRangeKeys 1 = .ok (.istore_n 3, 1) := by decide +kernel
theorem dX1_addRangeKeys_2 : decode cX1_addRangeKeys 2 = .ok (.iload_n 3, 1) := by decide +kernel
theorem dX1_addRangeKeys_3 : decode cX1_addRangeKeys 3 = .ok (.aload_n 0, 1) := by decide +kernel
theorem dX1_addRangeKeys_4 : decode cX1_addRangeKeys 4 = .ok (.getfield 54, 3) := by decide +kernel
theorem dX1_addRangeKeys_7 : decode cX1_addRangeKeys 7 = .ok (.if_icmp .ge 34, 3) := by decide +kernel
theorem dX1_addRangeKeys_10 : decode cX1_addRangeKeys 10 = .ok (.iload_n 1, 1) := by decide +kernel
theorem dX1_addRangeKeys_11 : decode cX1_addRangeKeys 11 = .ok (.aload_n 0, 1) := by decide +kernel
theorem dX1_addRangeKeys_12 : decode cX1_addRangeKeys 12 = .ok (.getfield 9, 3) := by decide +kernel
theorem dX1_addRangeKeys_15 : decode cX1_addRangeKeys 15 = .ok (.iload_n 3, 1) := by decide +kernel
theorem dX1_addRangeKeys_16 : decode cX1_addRangeKeys 16 = .ok (.iaload, 1) := by decide +kernel
theorem dX1_addRangeKeys_17 : decode cX1_addRangeKeys 17 = .ok (.if_icmp .lt 18, 3) := by decide +kernel
theorem dX1_addRangeKeys_20 : decode cX1_addRangeKeys 20 = .ok (.iload_n 1, 1) := by decide +kernel
theorem dX1_addRangeKeys_21 : decode cX1_addRangeKeys 21 = .ok (.aload_n 0, 1) := by decide +kernel
theorem dX1_addRangeKeys_22 : decode cX1_addRangeKeys 22 = .ok (.getfield 15, 3) := by decide +kernel
theorem dX1_addRangeKeys_25 : decode cX1_addRangeKeys 25 = .ok (.iload_n 3, 1) := by decide +kernel
theorem dX1_addRangeKeys_26 : decode cX1_addRangeKeys 26 = .ok (.iaload, 1) := by decide +kernel
theorem dX1_addRangeKeys_27 : decode cX1_addRangeKeys 27 = .ok (.if_icmp .gt 8, 3) := by decide +kernel
theorem dX1_addRangeKeys_30 : decode cX1_addRangeKeys 30 = .ok (.aload_n 2, 1) := by decide +kernel
theorem dX1_addRangeKeys_31 : decode cX1_addRangeKeys 31 = .ok (.iload_n 3, 1) := by decide +kernel
theorem dX1_addRangeKeys_32 : decode cX1_addRangeKeys 32 = .ok (.invokevirtual 80, 3) := by decide +kernel
theorem dX1_addRangeKeys_35 : decode cX1_addRangeKeys 35 = .ok (.iinc 3 1, 3) := by decide +kernel
theorem dX1_addRangeKeys_38 : decode cX1_addRangeKeys 38 = .ok (.goto (-36), 3) := by decide +kernel
theorem dX1_addRangeKeys_41 : decode cX1_addRangeKeys 41 = .ok (.return_, 1) := by decide +kernel
theorem dX2_init_0 : decode cX2_init 0 = .ok (.aload_n 0, 1) := by decide +kernel
theorem dX2_init_1 : decode cX2_init 1 = .ok (.invokespecial 3, 3) := by decide +kernel
theorem dX2_init_4 : decode cX2_init 4 = .ok (.aload_n 0, 1) := by decide +kernel
theorem dX2_init_5 : decode cX2_init 5 = .ok (.aload_n 1, 1) := by decide +kernel
theorem dX2_init_6 : decode cX2_init 6 = .ok (.putfield 9, 3) := by decide +kernel
theorem dX2_init_9 : decode cX2_init 9 = .ok (.aload_n 0, 1) := by decide +kernel
theorem dX2_init_10 : decode cX2_init 10 = .ok (.new 15, 3) := by decide +kernel
theorem dX2_init_13 : decode cX2_init 13 = .ok (.dup, 1) := by decide +kernel
theorem dX2_init_14 : decode cX2_init 14 = .ok (.invokespecial 17, 3) := by decide +kernel
theorem dX2_init_17 : decode cX2_init 17 = .ok (.putfield 18, 3) := by decide +kernel
theorem dX2_init_20 : decode cX2_init 20 = .ok (.aload_n 0, 1) := by decide +kernel
theorem dX2_init_21 : decode cX2_init 21 = .ok (.sipush 1080, 3) := by decide +kernel
theorem dX2_init_24 : decode cX2_init 24 = .ok (.newarray .long, 2) := by decide +kernel
theorem dX2_init_26 : decode cX2_init 26 = .ok (.putfield 22, 3) := by decide +kernel
theorem dX2_init_29 : decode cX2_init 29 = .ok (.aload_n 0, 1) := by decide +kernel
theorem dX2_init_30 : decode cX2_init 30 = .ok (.sipush 1080, 3) := by decide +kernel
theorem dX2_init_33 : decode cX2_init 33 = .ok (.newarray .int, 2) := by decide +kernel
theorem dX2_init_35 : decode cX2_init 35 = .ok (.putfield 26, 3) := by decide +kernel
theorem dX2_init_38 : decode cX2_init 38 = .ok (.aload_n 0, 1) := by decide +kernel
theorem dX2_init_39 : decode cX2_init 39 = .ok (.sipush 1080, 3) := by decide +kernel
theorem dX2_init_42 : decode cX2_init 42 = .ok (.newarray .int, 2) := by decide +kernel
theorem dX2_init_44 : decode cX2_init 44 = .ok (.putfield 30, 3) := by decide +kernel
theorem dX2_init_47 : decode cX2_init 47 = .ok (.aload_n 0, 1) := by decide +kernel
theorem dX2_init_48 : decode cX2_init 48 = .ok (.sipush 1080, 3) := by decide +kernel
theorem dX2_init_51 : decode cX2_init 51 = .ok (.newarray .int, 2) := by decide +kernel
theorem dX2_init_53 : decode cX2_init 53 = .ok (.putfield 33, 3) := by decide +kernel
theorem dX2_init_56 : decode cX2_init 56 = .ok (.aload_n 0, 1) := by decide +kernel
theorem dX2_init_57 : decode cX2_init 57 = .ok (.sipush 1080, 3) := by decide +kernel
theorem dX2_init_60 : decode cX2_init 60 = .ok (.newarray .long, 2) := by decide +kernel
theorem dX2_init_62 : decode cX2_init 62 = .ok (.putfield 36, 3) := by decide +kernel
theorem dX2_init_65 : decode cX2_init 65 = .ok (.aload_n 0, 1) := by decide +kernel
theorem dX2_init_66 : decode cX2_init 66 = .ok (.iconst 0, 1) := by decide +kernel
theorem dX2_init_67 : decode cX2_init 67 = .ok (.putfield 39, 3) := by decide +kernel
theorem dX2_init_70 : decode cX2_init 70 = .ok (.aload_n 0, 1) := by decide +kernel
theorem dX2_init_71 : decode cX2_init 71 = .ok (.iconst 0, 1) := by decide +kernel
theorem dX2_init_72 : decode cX2_init 72 = .ok (.putfield 43, 3) := by decide +kernel
theorem dX2_init_75 : decode cX2_init 75 = .ok (.return_, 1) := by decide +kernel
theorem dX2_gather_0 : decode cX2_gather 0 = .ok (.aload_n 0, 1) := by decide +kernel
theorem dX2_gather_1 : decode cX2_gather 1 = .ok (.iconst 0, 1) := by decide +kernel
theorem dX2_gather_2 : decode cX2_gather 2 = .ok (.putfield 43, 3) := by decide +kernel
theorem dX2_gather_5 : decode cX2_gather 5 = .ok (.iconst 0, 1) := by decide +kernel
theorem dX2_gather_6 : decode cX2_gather 6 = .ok (.istore 4, 2) := by decide +kernel
theorem dX2_gather_8 : decode cX2_gather 8 = .ok (.iload 4, 2) := by decide +kernel
theorem dX2_gather_10 : decode cX2_gather 10 = .ok (.aload_n 2, 1) := by decide +kernel
theorem dX2_gather_11 : decode cX2_gather 11 = .ok (.getfield 46, 3) := by decide +kernel
theorem dX2_gather_14 : decode cX2_gather 14 = .ok (.if_icmp .ge 101, 3) := by decide +kernel
theorem dX2_gather_17 : decode cX2_gather 17 = .ok (.aload_n 3, 1) := by decide +kernel
theorem dX2_gather_18 : decode cX2_gather 18 = .ok (.iload 4, 2) := by decide +kernel
theorem dX2_gather_20 : decode cX2_gather 20 = .ok (.invokevirtual 49, 3) := by decide +kernel
theorem dX2_gather_23 : decode cX2_gather 23 = .ok (.ifCond .eq 86, 3) := by decide +kernel
theorem dX2_gather_26 : decode cX2_gather 26 = .ok (.aload_n 1, 1) := by decide +kernel
theorem dX2_gather_27 : decode cX2_gather 27 = .ok (.aload_n 2, 1) := by decide +kernel
theorem dX2_gather_28 : decode cX2_gather 28 = .ok (.iload 4, 2) := by decide +kernel
theorem dX2_gather_30 : decode cX2_gather 30 = .ok (.invokevirtual 55, 3) := by decide +kernel
theorem dX2_gather_33 : decode cX2_gather 33 = .ok (.ifCond .eq 76, 3) := by decide +kernel
theorem dX2_gather_36 : decode cX2_gather 36 = .ok (.aload_n 1, 1) := by decide +kernel
theorem dX2_gather_37 : decode cX2_gather 37 = .ok (.aload_n 2, 1) := by decide +kernel
theorem dX2_gather_38 : decode cX2_gather 38 = .ok (.iload 4, 2) := by decide +kernel
theorem dX2_gather_40 : decode cX2_gather 40 = .ok (.aload_n 0, 1) := by decide +kernel
theorem dX2_gather_41 : decode cX2_gather 41 = .ok (.getfield 18, 3) := by decide +kernel
theorem dX2_gather_44 : decode cX2_gather 44 = .ok (.invokevirtual 61, 3) := by decide +kernel
theorem dX2_gather_47 : decode cX2_gather 47 = .ok (.iconst 0, 1) := by decide +kernel
theorem dX2_gather_48 : decode cX2_gather 48 = .ok (.istore 5, 2) := by decide +kernel
theorem dX2_gather_50 : decode cX2_gather 50 = .ok (.iload 5, 2) := by decide +kernel
theorem dX2_gather_52 : decode cX2_gather 52 = .ok (.aload_n 0, 1) := by decide +kernel
theorem dX2_gather_53 : decode cX2_gather 53 = .ok (.getfield 18, 3) := by decide +kernel
theorem dX2_gather_56 : decode cX2_gather 56 = .ok (.getfield 65, 3) := by decide +kernel
theorem dX2_gather_59 : decode cX2_gather 59 = .ok (.if_icmp .ge 25, 3) := by decide +kernel
theorem dX2_gather_62 : decode cX2_gather 62 = .ok (.aload_n 0, 1) := by decide +kernel
theorem dX2_gather_63 : decode cX2_gather 63 = .ok (.aload_n 0, 1) := by decide +kernel
theorem dX2_gather_64 : decode cX2_gather 64 = .ok (.getfield 18, 3) := by decide +kernel
theorem dX2_gather_67 : decode cX2_gather 67 = .ok (.getfield 66, 3) := by decide +kernel
theorem dX2_gather_70 : decode cX2_gather 70 = .ok (.iload 5, 2) := by decide +kernel
theorem dX2_gather_72 : decode cX2_gather 72 = .ok (.iaload, 1) := by decide +kernel
theorem dX2_gather_73 : decode cX2_gather 73 = .ok (.iload 4, 2) := by decide +kernel
theorem dX2_gather_75 : decode cX2_gather 75 = .ok (.invokevirtual 67, 3) := by decide +kernel
theorem dX2_gather_78 : decode cX2_gather 78 = .ok (.iinc 5 1, 3) := by decide +kernel
theorem dX2_gather_81 : decode cX2_gather 81 = .ok (.goto (-31), 3) := by decide +kernel
theorem dX2_gather_84 : decode cX2_gather 84 = .ok (.aload_n 0, 1) := by decide +kernel
theorem dX2_gather_85 : decode cX2_gather 85 = .ok (.getfield 18, 3) := by decide +kernel
theorem dX2_gather_88 : decode cX2_gather 88 = .ok (.getfield 65, 3) := by decide +kernel
theorem dX2_gather_91 : decode cX2_gather 91 = .ok (.ifCond .ne 18, 3) := by decide +kernel
theorem dX2_gather_94 : decode cX2_gather 94 = .ok (.aload_n 1, 1) := by decide +kernel
theorem dX2_gather_95 : decode cX2_gather 95 = .ok (.getfield 71, 3) := by decide +kernel
theorem dX2_gather_98 : decode cX2_gather 98 = .ok (.ifCond .eq 11, 3) := by decide +kernel
theorem dX2_gather_101 : decode cX2_gather 101 = .ok (.aload_n 0, 1) := by decide +kernel
theorem dX2_gather_102 : decode cX2_gather 102 = .ok (.ldc 75, 2) := by decide +kernel
theorem dX2_gather_104 : decode cX2_gather 104 = .ok (.iload 4, 2) := by decide +kernel
theorem dX2_gather_106 : decode cX2_gather 106 = .ok (.invokevirtual 67, 3) := by decide +kernel
theorem dX2_gather_109 : decode cX2_gather 109 = .ok (.iinc 4 1, 3) := by decide +kernel
theorem dX2_gather_112 : decode cX2_gather 112 = .ok (.goto (-104), 3) := by decide +kernel
theorem dX2_gather_115 : decode cX2_gather 115 = .ok (.aload_n 0, 1) := by decide +kernel
theorem dX2_gather_116 : decode cX2_gather 116 = .ok (.getfield 9, 3) := by decide +kernel
theorem dX2_gather_119 : decode cX2_gather 119 = .ok (.aload_n 0, 1) := by decide +kernel
theorem dX2_gather_120 : decode cX2_gather 120 = .ok (.getfield 22, 3) := by decide +kernel
theorem dX2_gather_123 : decode cX2_gather 123 = .ok (.aload_n 0, 1) := by decide +kernel
theorem dX2_gather_124 : decode cX2_gather 124 = .ok (.getfield 43, 3) := by decide +kernel
theorem dX2_gather_127 : decode cX2_gather 127 = .ok (.invokevirtual 76, 3) := by decide +kernel
theorem dX2_gather_130 : decode cX2_gather 130 = .ok (.return_, 1) := by decide +kernel
theorem dX2_addPair_0 : decode cX2_addPair 0 = .ok (.aload_n 0, 1) := by decide +kernel
theorem dX2_addPair_1 : decode cX2_addPair 1 = .ok (.getfield 43, 3) := by decide +kernel
theorem dX2_addPair_4 : decode cX2_addPair 4 = .ok (.sipush 1080, 3) := by decide +kernel
theorem dX2_addPair_7 : decode cX2_addPair 7 = .ok (.if_icmp .ge 30, 3) := by decide +kernel
theorem dX2_addPair_10 : decode cX2_addPair 10 = .ok (.aload_n 0, 1) := by decide +kernel
theorem dX2_addPair_11 : decode cX2_addPair 11 = .ok (.getfield 22, 3) := by decide +kernel
theorem dX2_addPair_14 : decode cX2_addPair 14 = .ok (.aload_n 0, 1) := by decide +kernel
theorem dX2_addPair_15 : decode cX2_addPair 15 = .ok (.getfield 43, 3) := by decide +kernel
theorem dX2_addPair_18 : decode cX2_addPair 18 = .ok (.iload_n 1, 1) := by decide +kernel
theorem dX2_addPair_19 : decode cX2_addPair 19 = .ok (.i2l, 1) := by decide +kernel
theorem dX2_addPair_20 : decode cX2_addPair 20 = .ok (.bipush 7, 2) := by decide +kernel
theorem dX2_addPair_22 : decode cX2_addPair 22 = .ok (.lshl, 1) := by decide +kernel
theorem dX2_addPair_23 : decode cX2_addPair 23 = .ok (.iload_n 2, 1) := by decide +kernel
theorem dX2_addPair_24 : decode cX2_addPair 24 = .ok (.i2l, 1) := by decide +kernel
theorem dX2_addPair_25 : decode cX2_addPair 25 = .ok (.ladd, 1) := by decide +kernel
theorem dX2_addPair_26 : decode cX2_addPair 26 = .ok (.lastore, 1) := by decide +kernel
theorem dX2_addPair_27 : decode cX2_addPair 27 = .ok (.aload_n 0, 1) := by decide +kernel
theorem dX2_addPair_28 : decode cX2_addPair 28 = .ok (.dup, 1) := by decide +kernel
theorem dX2_addPair_29 : decode cX2_addPair 29 = .ok (.getfield 43, 3) := by decide +kernel
theorem dX2_addPair_32 : decode cX2_addPair 32 = .ok (.iconst 1, 1) := by decide +kernel
theorem dX2_addPair_33 : decode cX2_addPair 33 = .ok (.iadd, 1) := by decide +kernel
theorem dX2_addPair_34 : decode cX2_addPair 34 = .ok (.putfield 43, 3) := by decide +kernel
theorem dX2_addPair_37 : decode cX2_addPair 37 = .ok (.return_, 1) := by decide +kernel
theorem dX2_cut_0 : decode cX2_cut 0 = .ok (.aload_n 0, 1) := by decide +kernel
theorem dX2_cut_1 : decode cX2_cut 1 = .ok (.iconst 0, 1) := by decide +kernel
theorem dX2_cut_2 : decode cX2_cut 2 = .ok (.putfield 39, 3) := by decide +kernel
theorem dX2_cut_5 : decode cX2_cut 5 = .ok (.iconst 0, 1) := by decide +kernel
theorem dX2_cut_6 : decode cX2_cut 6 = .ok (.istore_n 2, 1) := by decide +kernel
theorem dX2_cut_7 : decode cX2_cut 7 = .ok (.iconst 0, 1) := by decide +kernel
theorem dX2_cut_8 : decode cX2_cut 8 = .ok (.istore_n 3, 1) := by decide +kernel
theorem dX2_cut_9 : decode cX2_cut 9 = .ok (.iload_n 3, 1) := by decide +kernel
theorem dX2_cut_10 : decode cX2_cut 10 = .ok (.aload_n 1, 1) := by decide +kernel
theorem dX2_cut_11 : decode cX2_cut 11 = .ok (.getfield 82, 3) := by decide +kernel
theorem dX2_cut_14 : decode cX2_cut 14 = .ok (.if_icmp .ge 17, 3) := by decide +kernel
theorem dX2_cut_17 : decode cX2_cut 17 = .ok (.aload_n 0, 1) := by decide +kernel
theorem dX2_cut_18 : decode cX2_cut 18 = .ok (.aload_n 1, 1) := by decide +kernel
theorem dX2_cut_19 : decode cX2_cut 19 = .ok (.iload_n 3, 1) := by decide +kernel
theorem dX2_cut_20 : decode cX2_cut 20 = .ok (.iload_n 2, 1) := by decide +kernel
theorem dX2_cut_21 : decode cX2_cut 21 = .ok (.invokevirtual 85, 3) := by decide +kernel
theorem dX2_cut_24 : decode cX2_cut 24 = .ok (.istore_n 2, 1) := by decide +kernel
theorem dX2_cut_25 : decode cX2_cut 25 = .ok (.iinc 3 1, 3) := by decide +kernel
theorem dX2_cut_28 : decode cX2_cut 28 = .ok (.goto (-19), 3) := by decide +kernel
theorem dX2_cut_31 : decode cX2_cut 31 = .ok (.iload_n 2, 1) := by decide +kernel
theorem dX2_cut_32 : decode cX2_cut 32 = .ok (.istore_n 3, 1) := by decide +kernel
theorem dX2_cut_33 : decode cX2_cut 33 = .ok (.iload_n 3, 1) := by decide +kernel
theorem dX2_cut_34 : decode cX2_cut 34 = .ok (.aload_n 0, 1) := by decide +kernel
theorem dX2_cut_35 : decode cX2_cut 35 = .ok (.getfield 43, 3) := by decide +kernel
theorem dX2_cut_38 : decode cX2_cut 38 = .ok (.if_icmp .ge 26, 3) := by decide +kernel
theorem dX2_cut_41 : decode cX2_cut 41 = .ok (.iload_n 3, 1) := by decide +kernel
theorem dX2_cut_42 : decode cX2_cut 42 = .ok (.iload_n 2, 1) := by decide +kernel
theorem dX2_cut_43 : decode cX2_cut 43 = .ok (.if_icmp .ne 15, 3) := by decide +kernel
theorem dX2_cut_46 : decode cX2_cut 46 = .ok (.aload_n 0, 1) := by decide +kernel
theorem dX2_cut_47 : decode cX2_cut 47 = .ok (.aload_n 1, 1) := by decide +kernel
theorem dX2_cut_48 : decode cX2_cut 48 = .ok (.aload_n 0, 1) := by decide +kernel
theorem dX2_cut_49 : decode cX2_cut 49 = .ok (.iload_n 3, 1) := by decide +kernel
theorem dX2_cut_50 : decode cX2_cut 50 = .ok (.invokevirtual 89, 3) := by decide +kernel
theorem dX2_cut_53 : decode cX2_cut 53 = .ok (.iload_n 2, 1) := by decide +kernel
theorem dX2_cut_54 : decode cX2_cut 54 = .ok (.invokevirtual 85, 3) := by decide +kernel
theorem dX2_cut_57 : decode cX2_cut 57 = .ok (.istore_n 2, 1) := by decide +kernel
theorem dX2_cut_58 : decode cX2_cut 58 = .ok (.iinc 3 1, 3) := by decide +kernel
theorem dX2_cut_61 : decode cX2_cut 61 = .ok (.goto (-28), 3) := by decide +kernel
theorem dX2_cut_64 : decode cX2_cut 64 = .ok (.return_, 1) := by decide +kernel
theorem dX2_cutRun_0 : decode cX2_cutRun 0 = .ok (.iload_n 3, 1) := by decide +kernel
theorem dX2_cutRun_1 : decode cX2_cutRun 1 = .ok (.istore 4, 2) := by decide +kernel
theorem dX2_cutRun_3 : decode cX2_cutRun 3 = .ok (.iload 4, 2) := by decide +kernel
theorem dX2_cutRun_5 : decode cX2_cutRun 5 = .ok (.aload_n 0, 1) := by decide +kernel
theorem dX2_cutRun_6 : decode cX2_cutRun 6 = .ok (.getfield 43, 3) := by decide +kernel
theorem dX2_cutRun_9 : decode cX2_cutRun 9 = .ok (.if_icmp .ge 19, 3) := by decide +kernel
theorem dX2_cutRun_12 : decode cX2_cutRun 12 = .ok (.aload_n 0, 1) := by decide +kernel
theorem dX2_cutRun_13 : decode cX2_cutRun 13 = .ok (.iload 4, 2) := by decide +kernel
theorem dX2_cutRun_15 : decode cX2_cutRun 15 = .ok (.invokevirtual 89, 3) := by decide +kernel
theorem dX2_cutRun_18 : decode cX2_cutRun 18 = .ok (.iload_n 2, 1) := by decide +kernel
theorem dX2_cutRun_19 : decode cX2_cutRun 19 = .ok (.if_icmp .ne 9, 3) := by decide +kernel
theorem dX2_cutRun_22 : decode cX2_cutRun 22 = .ok (.iinc 4 1, 3) := by decide +kernel
theorem dX2_cutRun_25 : decode cX2_cutRun 25 = .ok (.goto (-22), 3) := by decide +kernel
theorem dX2_cutRun_28 : decode cX2_cutRun 28 = .ok (.iload 4, 2) := by decide +kernel
theorem dX2_cutRun_30 : decode cX2_cutRun 30 = .ok (.iload_n 3, 1) := by decide +kernel
theorem dX2_cutRun_31 : decode cX2_cutRun 31 = .ok (.isub, 1) := by decide +kernel
theorem dX2_cutRun_32 : decode cX2_cutRun 32 = .ok (.aload_n 1, 1) := by decide +kernel
theorem dX2_cutRun_33 : decode cX2_cutRun 33 = .ok (.getfield 93, 3) := by decide +kernel
theorem dX2_cutRun_36 : decode cX2_cutRun 36 = .ok (.if_icmp .lt 54, 3) := by decide +kernel
theorem dX2_cutRun_39 : decode cX2_cutRun 39 = .ok (.aload_n 0, 1) := by decide +kernel
theorem dX2_cutRun_40 : decode cX2_cutRun 40 = .ok (.getfield 39, 3) := by decide +kernel
theorem dX2_cutRun_43 : decode cX2_cutRun 43 = .ok (.sipush 1080, 3) := by decide +kernel
theorem dX2_cutRun_46 : decode cX2_cutRun 46 = .ok (.if_icmp .ge 44, 3) := by decide +kernel
theorem dX2_cutRun_49 : decode cX2_cutRun 49 = .ok (.aload_n 0, 1) := by decide +kernel
theorem dX2_cutRun_50 : decode cX2_cutRun 50 = .ok (.getfield 26, 3) := by decide +kernel
theorem dX2_cutRun_53 : decode cX2_cutRun 53 = .ok (.aload_n 0, 1) := by decide +kernel
theorem dX2_cutRun_54 : decode cX2_cutRun 54 = .ok (.getfield 39, 3) := by decide +kernel
theorem dX2_cutRun_57 : decode cX2_cutRun 57 = .ok (.iload_n 2, 1) := by decide +kernel
theorem dX2_cutRun_58 : decode cX2_cutRun 58 = .ok (.iastore, 1) := by decide +kernel
theorem dX2_cutRun_59 : decode cX2_cutRun 59 = .ok (.aload_n 0, 1) := by decide +kernel
theorem dX2_cutRun_60 : decode cX2_cutRun 60 = .ok (.getfield 30, 3) := by decide +kernel
theorem dX2_cutRun_63 : decode cX2_cutRun 63 = .ok (.aload_n 0, 1) := by decide +kernel
theorem dX2_cutRun_64 : decode cX2_cutRun 64 = .ok (.getfield 39, 3) := by decide +kernel
theorem dX2_cutRun_67 : decode cX2_cutRun 67 = .ok (.iload_n 3, 1) := by decide +kernel
theorem dX2_cutRun_68 : decode cX2_cutRun 68 = .ok (.iastore, 1) := by decide +kernel
theorem dX2_cutRun_69 : decode cX2_cutRun 69 = .ok (.aload_n 0, 1) := by decide +kernel
theorem dX2_cutRun_70 : decode cX2_cutRun 70 = .ok (.getfield 33, 3) := by decide +kernel
theorem dX2_cutRun_73 : decode cX2_cutRun 73 = .ok (.aload_n 0, 1) := by decide +kernel
theorem dX2_cutRun_74 : decode cX2_cutRun 74 = .ok (.getfield 39, 3) := by decide +kernel
theorem dX2_cutRun_77 : decode cX2_cutRun 77 = .ok (.iload 4, 2) := by decide +kernel
theorem dX2_cutRun_79 : decode cX2_cutRun 79 = .ok (.iastore, 1) := by decide +kernel
theorem dX2_cutRun_80 : decode cX2_cutRun 80 = .ok (.aload_n 0, 1) := by decide +kernel
theorem dX2_cutRun_81 : decode cX2_cutRun 81 = .ok (.dup, 1) := by decide +kernel
theorem dX2_cutRun_82 : decode cX2_cutRun 82 = .ok (.getfield 39, 3) := by decide +kernel
theorem dX2_cutRun_85 : decode cX2_cutRun 85 = .ok (.iconst 1, 1) := by decide +kernel
theorem dX2_cutRun_86 : decode cX2_cutRun 86 = .ok (.iadd, 1) := by decide +kernel
theorem dX2_cutRun_87 : decode cX2_cutRun 87 = .ok (.putfield 39, 3) := by decide +kernel
theorem dX2_cutRun_90 : decode cX2_cutRun 90 = .ok (.iload 4, 2) := by decide +kernel
theorem dX2_cutRun_92 : decode cX2_cutRun 92 = .ok (.ireturn, 1) := by decide +kernel
theorem dX2_rank_0 : decode cX2_rank 0 = .ok (.iconst 0, 1) := by decide +kernel
theorem dX2_rank_1 : decode cX2_rank 1 = .ok (.istore_n 3, 1) := by decide +kernel
theorem dX2_rank_2 : decode cX2_rank 2 = .ok (.iload_n 3, 1) := by decide +kernel
theorem dX2_rank_3 : decode cX2_rank 3 = .ok (.aload_n 0, 1) := by decide +kernel
theorem dX2_rank_4 : decode cX2_rank 4 = .ok (.getfield 39, 3) := by decide +kernel
theorem dX2_rank_7 : decode cX2_rank 7 = .ok (.if_icmp .ge 28, 3) := by decide +kernel
theorem dX2_rank_10 : decode cX2_rank 10 = .ok (.aload_n 0, 1) := by decide +kernel
theorem dX2_rank_11 : decode cX2_rank 11 = .ok (.getfield 36, 3) := by decide +kernel
theorem dX2_rank_14 : decode cX2_rank 14 = .ok (.iload_n 3, 1) := by decide +kernel
theorem dX2_rank_15 : decode cX2_rank 15 = .ok (.iload_n 3, 1) := by decide +kernel
theorem dX2_rank_16 : decode cX2_rank 16 = .ok (.i2l, 1) := by decide +kernel
theorem dX2_rank_17 : decode cX2_rank 17 = .ok (.aload_n 0, 1) := by decide +kernel
theorem dX2_rank_18 : decode cX2_rank 18 = .ok (.aload_n 1, 1) := by decide +kernel
theorem dX2_rank_19 : decode cX2_rank 19 = .ok (.aload_n 2, 1) := by decide +kernel
theorem dX2_rank_20 : decode cX2_rank 20 = .ok (.iload_n 3, 1) := by decide +kernel
theorem dX2_rank_21 : decode cX2_rank 21 = .ok (.invokevirtual 96, 3) := by decide +kernel
theorem dX2_rank_24 : decode cX2_rank 24 = .ok (.bipush 11, 2) := by decide +kernel
theorem dX2_rank_26 : decode cX2_rank 26 = .ok (.lshl, 1) := by decide +kernel
theorem dX2_rank_27 : decode cX2_rank 27 = .ok (.lsub, 1) := by decide +kernel
theorem dX2_rank_28 : decode cX2_rank 28 = .ok (.lastore, 1) := by decide +kernel
theorem dX2_rank_29 : decode cX2_rank 29 = .ok (.iinc 3 1, 3) := by decide +kernel
theorem dX2_rank_32 : decode cX2_rank 32 = .ok (.goto (-30), 3) := by decide +kernel
theorem dX2_rank_35 : decode cX2_rank 35 = .ok (.aload_n 0, 1) := by decide +kernel
theorem dX2_rank_36 : decode cX2_rank 36 = .ok (.getfield 39, 3) := by decide +kernel
theorem dX2_rank_39 : decode cX2_rank 39 = .ok (.ifCond .le 23, 3) := by decide +kernel
theorem dX2_rank_42 : decode cX2_rank 42 = .ok (.aload_n 0, 1) := by decide +kernel
theorem dX2_rank_43 : decode cX2_rank 43 = .ok (.getfield 26, 3) := by decide +kernel
theorem dX2_rank_46 : decode cX2_rank 46 = .ok (.aload_n 0, 1) := by decide +kernel
theorem dX2_rank_47 : decode cX2_rank 47 = .ok (.getfield 39, 3) := by decide +kernel
theorem dX2_rank_50 : decode cX2_rank 50 = .ok (.iconst 1, 1) := by decide +kernel
theorem dX2_rank_51 : decode cX2_rank 51 = .ok (.isub, 1) := by decide +kernel
theorem dX2_rank_52 : decode cX2_rank 52 = .ok (.iaload, 1) := by decide +kernel
theorem dX2_rank_53 : decode cX2_rank 53 = .ok (.ldc 75, 2) := by decide +kernel
theorem dX2_rank_55 : decode cX2_rank 55 = .ok (.if_icmp .ne 7, 3) := by decide +kernel
theorem dX2_rank_58 : decode cX2_rank 58 = .ok (.iconst 1, 1) := by decide +kernel
theorem dX2_rank_59 : decode cX2_rank 59 = .ok (.goto 4, 3) := by decide +kernel
theorem dX2_rank_62 : decode cX2_rank 62 = .ok (.iconst 0, 1) := by decide +kernel
theorem dX2_rank_63 : decode cX2_rank 63 = .ok (.istore_n 3, 1) := by decide +kernel
theorem dX2_rank_64 : decode cX2_rank 64 = .ok (.aload_n 0, 1) := by decide +kernel
theorem dX2_rank_65 : decode cX2_rank 65 = .ok (.getfield 9, 3) := by decide +kernel
theorem dX2_rank_68 : decode cX2_rank 68 = .ok (.aload_n 0, 1) := by decide +kernel
theorem dX2_rank_69 : decode cX2_rank 69 = .ok (.getfield 36, 3) := by decide +kernel
theorem dX2_rank_72 : decode cX2_rank 72 = .ok (.iload_n 3, 1) := by decide +kernel
theorem dX2_rank_73 : decode cX2_rank 73 = .ok (.ifCond .eq 12, 3) := by decide +kernel
theorem dX2_rank_76 : decode cX2_rank 76 = .ok (.aload_n 0, 1) := by decide +kernel
theorem dX2_rank_77 : decode cX2_rank 77 = .ok (.getfield 39, 3) := by decide +kernel
theorem dX2_rank_80 : decode cX2_rank 80 = .ok (.iconst 1, 1) := by decide +kernel
theorem dX2_rank_81 : decode cX2_rank 81 = .ok (.isub, 1) := by decide +kernel
theorem dX2_rank_82 : decode cX2_rank 82 = .ok (.goto 7, 3) := by decide +kernel
theorem dX2_rank_85 : decode cX2_rank 85 = .ok (.aload_n 0, 1) := by decide +kernel
theorem dX2_rank_86 : decode cX2_rank 86 = .ok (.getfield 39, 3) := by decide +kernel
theorem dX2_rank_89 : decode cX2_rank 89 = .ok (.invokevirtual 76, 3) := by decide +kernel
theorem dX2_rank_92 : decode cX2_rank 92 = .ok (.return_, 1) := by decide +kernel
theorem dX2_weight_0 : decode cX2_weight 0 = .ok (.aload_n 1, 1) := by decide +kernel
theorem dX2_weight_1 : decode cX2_weight 1 = .ok (.getfield 100, 3) := by decide +kernel
theorem dX2_weight_4 : decode cX2_weight 4 = .ok (.ifCond .ne 18, 3) := by decide +kernel
theorem dX2_weight_7 : decode cX2_weight 7 = .ok (.aload_n 0, 1) := by decide +kernel
theorem dX2_weight_8 : decode cX2_weight 8 = .ok (.getfield 33, 3) := by decide +kernel
theorem dX2_weight_11 : decode cX2_weight 11 = .ok (.iload_n 3, 1) := by decide +kernel
theorem dX2_weight_12 : decode cX2_weight 12 = .ok (.iaload, 1) := by decide +kernel
theorem dX2_weight_13 : decode cX2_weight 13 = .ok (.aload_n 0, 1) := by decide +kernel
theorem dX2_weight_14 : decode cX2_weight 14 = .ok (.getfield 30, 3) := by decide +kernel
theorem dX2_weight_17 : decode cX2_weight 17 = .ok (.iload_n 3, 1) := by decide +kernel
theorem dX2_weight_18 : decode cX2_weight 18 = .ok (.iaload, 1) := by decide +kernel
theorem dX2_weight_19 : decode cX2_weight 19 = .ok (.isub, 1) := by decide +kernel
theorem dX2_weight_20 : decode cX2_weight 20 = .ok (.i2l, 1) := by decide +kernel
theorem dX2_weight_21 : decode cX2_weight 21 = .ok (.lreturn, 1) := by decide +kernel
theorem dX2_weight_22 : decode cX2_weight 22 = .ok (.lconst 0, 1) := by decide +kernel
theorem dX2_weight_23 : decode cX2_weight 23 = .ok (.lstore 4, 2) := by decide +kernel
theorem dX2_weight_25 : decode cX2_weight 25 = .ok (.aload_n 1, 1) := by decide +kernel
theorem dX2_weight_26 : decode cX2_weight 26 = .ok (.getfield 100, 3) := by decide +kernel
theorem dX2_weight_29 : decode cX2_weight 29 = .ok (.iconst 2, 1) := by decide +kernel
theorem dX2_weight_30 : decode cX2_weight 30 = .ok (.if_icmp .ne 47, 3) := by decide +kernel
theorem dX2_weight_33 : decode cX2_weight 33 = .ok (.aload_n 0, 1) := by decide +kernel
theorem dX2_weight_34 : decode cX2_weight 34 = .ok (.getfield 30, 3) := by decide +kernel
theorem dX2_weight_37 : decode cX2_weight 37 = .ok (.iload_n 3, 1) := by decide +kernel
theorem dX2_weight_38 : decode cX2_weight 38 = .ok (.iaload, 1) := by decide +kernel
theorem dX2_weight_39 : decode cX2_weight 39 = .ok (.istore 6, 2) := by decide +kernel
theorem dX2_weight_41 : decode cX2_weight 41 = .ok (.iload 6, 2) := by decide +kernel
theorem dX2_weight_43 : decode cX2_weight 43 = .ok (.aload_n 0, 1) := by decide +kernel
theorem dX2_weight_44 : decode cX2_weight 44 = .ok (.getfield 33, 3) := by decide +kernel
theorem dX2_weight_47 : decode cX2_weight 47 = .ok (.iload_n 3, 1) := by decide +kernel
theorem dX2_weight_48 : decode cX2_weight 48 = .ok (.iaload, 1) := by decide +kernel
theorem dX2_weight_49 : decode cX2_weight 49 = .ok (.if_icmp .ge 28, 3) := by decide +kernel
theorem dX2_weight_52 : decode cX2_weight 52 = .ok (.lload 4, 2) := by decide +kernel
theorem dX2_weight_54 : decode cX2_weight 54 = .ok (.aload_n 2, 1) := by decide +kernel
theorem dX2_weight_55 : decode cX2_weight 55 = .ok (.aload_n 0, 1) := by decide +kernel
theorem dX2_weight_56 : decode cX2_weight 56 = .ok (.iload 6, 2) := by decide +kernel
theorem dX2_weight_58 : decode cX2_weight 58 = .ok (.invokevirtual 103, 3) := by decide +kernel
theorem dX2_weight_61 : decode cX2_weight 61 = .ok (.aload_n 1, 1) := by decide +kernel
theorem dX2_weight_62 : decode cX2_weight 62 = .ok (.getfield 106, 3) := by decide +kernel
theorem dX2_weight_65 : decode cX2_weight 65 = .ok (.invokevirtual 109, 3) := by decide +kernel
theorem dX2_weight_68 : decode cX2_weight 68 = .ok (.ladd, 1) := by decide +kernel
theorem dX2_weight_69 : decode cX2_weight 69 = .ok (.lstore 4, 2) := by decide +kernel
theorem dX2_weight_71 : decode cX2_weight 71 = .ok (.iinc 6 1, 3) := by decide +kernel
theorem dX2_weight_74 : decode cX2_weight 74 = .ok (.goto (-33), 3) := by decide +kernel
theorem dX2_weight_77 : decode cX2_weight 77 = .ok (.lload 4, 2) := by decide +kernel
theorem dX2_weight_79 : decode cX2_weight 79 = .ok (.lreturn, 1) := by decide +kernel
theorem dX2_pairKey_0 : decode cX2_pairKey 0 = .ok (.aload_n 0, 1) := by decide +kernel
theorem dX2_pairKey_1 : decode cX2_pairKey 1 = .ok (.getfield 22, 3) := by decide +kernel
theorem dX2_pairKey_4 : decode cX2_pairKey 4 = .ok (.iload_n 1, 1) := by decide +kernel
theorem dX2_pairKey_5 : decode cX2_pairKey 5 = .ok (.laload, 1) := by decide +kernel
theorem dX2_pairKey_6 : decode cX2_pairKey 6 = .ok (.bipush 7, 2) := by decide +kernel
theorem dX2_pairKey_8 : decode cX2_pairKey 8 = .ok (.lshr, 1) := by decide +kernel
theorem dX2_pairKey_9 : decode cX2_pairKey 9 = .ok (.l2i, 1) := by decide +kernel
theorem dX2_pairKey_10 : decode cX2_pairKey 10 = .ok (.ireturn, 1) := by decide +kernel
theorem dX2_pairObject_0 : decode cX2_pairObject 0 = .ok (.aload_n 0, 1) := by decide +kernel
theorem dX2_pairObject_1 : decode cX2_pairObject 1 = .ok (.getfield 22, 3) := by decide +kernel
theorem dX2_pairObject_4 : decode cX2_pairObject 4 = .ok (.iload_n 1, 1) := by decide +kernel
theorem dX2_pairObject_5 : decode cX2_pairObject 5 = .ok (.laload, 1) := by decide +kernel
theorem dX2_pairObject_6 : decode cX2_pairObject 6 = .ok (.ldc2_w 113, 3) := by decide +kernel
theorem dX2_pairObject_9 : decode cX2_pairObject 9 = .ok (.land, 1) := by decide +kernel
theorem dX2_pairObject_10 : decode cX2_pairObject 10 = .ok (.l2i, 1) := by decide +kernel
theorem dX2_pairObject_11 : decode cX2_pairObject 11 = .ok (.ireturn, 1) := by decide +kernel
theorem dX2_groupAt_0 : decode cX2_groupAt 0 = .ok (.aload_n 0, 1) := by decide +kernel
theorem dX2_groupAt_1 : decode cX2_groupAt 1 = .ok (.getfield 36, 3) := by decide +kernel
theorem dX2_groupAt_4 : decode cX2_groupAt 4 = .ok (.iload_n 1, 1) := by decide +kernel
theorem dX2_groupAt_5 : decode cX2_groupAt 5 = .ok (.laload, 1) := by decide +kernel
theorem dX2_groupAt_6 : decode cX2_groupAt 6 = .ok (.ldc2_w 115, 3) := by decide +kernel
theorem dX2_groupAt_9 : decode cX2_groupAt 9 = .ok (.land, 1) := by decide +kernel
theorem dX2_groupAt_10 : decode cX2_groupAt 10 = .ok (.l2i, 1) := by decide +kernel
theorem dX2_groupAt_11 : decode cX2_groupAt 11 = .ok (.ireturn, 1) := by decide +kernel
theorem dX2_has_0 : decode cX2_has 0 = .ok (.iload_n 1, 1) := by decide +kernel
theorem dX2_has_1 : decode cX2_has 1 = .ok (.ifCond .lt 15, 3) := by decide +kernel
theorem dX2_has_4 : decode cX2_has 4 = .ok (.iload_n 1, 1) := by decide +kernel
theorem dX2_has_5 : decode cX2_has 5 = .ok (.aload_n 0, 1) := by decide +kernel
theorem dX2_has_6 : decode cX2_has 6 = .ok (.getfield 39, 3) := by decide +kernel
theorem dX2_has_9 : decode cX2_has 9 = .ok (.if_icmp .ge 7, 3) := by decide +kernel
theorem dX2_has_12 : decode cX2_has 12 = .ok (.iconst 1, 1) := by decide +kernel
theorem dX2_has_13 : decode cX2_has 13 = .ok (.goto 4, 3) := by decide +kernel
theorem dX2_has_16 : decode cX2_has 16 = .ok (.iconst 0, 1) := by decide +kernel
theorem dX2_has_17 : decode cX2_has 17 = .ok (.ireturn, 1) := by decide +kernel
theorem dX2_isMissing_0 : decode cX2_isMissing 0 = .ok (.aload_n 0, 1) := by decide +kernel
theorem dX2_isMissing_1 : decode cX2_isMissing 1 = .ok (.getfield 26, 3) := by decide +kernel
theorem dX2_isMissing_4 : decode cX2_isMissing 4 = .ok (.aload_n 0, 1) := by decide +kernel
theorem dX2_isMissing_5 : decode cX2_isMissing 5 = .ok (.iload_n 1, 1) := by decide +kernel
theorem dX2_isMissing_6 : decode cX2_isMissing 6 = .ok (.invokevirtual 117, 3) := by decide +kernel
theorem dX2_isMissing_9 : decode cX2_isMissing 9 = .ok (.iaload, 1) := by decide +kernel
theorem dX2_isMissing_10 : decode cX2_isMissing 10 = .ok (.ldc 75, 2) := by decide +kernel
theorem dX2_isMissing_12 : decode cX2_isMissing 12 = .ok (.if_icmp .ne 7, 3) := by decide +kernel
theorem dX2_isMissing_15 : decode cX2_isMissing 15 = .ok (.iconst 1, 1) := by decide +kernel
theorem dX2_isMissing_16 : decode cX2_isMissing 16 = .ok (.goto 4, 3) := by decide +kernel
theorem dX2_isMissing_19 : decode cX2_isMissing 19 = .ok (.iconst 0, 1) := by decide +kernel
theorem dX2_isMissing_20 : decode cX2_isMissing 20 = .ok (.ireturn, 1) := by decide +kernel
theorem dX2_keyOf_0 : decode cX2_keyOf 0 = .ok (.aload_n 0, 1) := by decide +kernel
theorem dX2_keyOf_1 : decode cX2_keyOf 1 = .ok (.iload_n 1, 1) := by decide +kernel
theorem dX2_keyOf_2 : decode cX2_keyOf 2 = .ok (.invokevirtual 120, 3) := by decide +kernel
theorem dX2_keyOf_5 : decode cX2_keyOf 5 = .ok (.ifCond .eq 8, 3) := by decide +kernel
theorem dX2_keyOf_8 : decode cX2_keyOf 8 = .ok (.ldc 123, 2) := by decide +kernel
theorem dX2_keyOf_10 : decode cX2_keyOf 10 = .ok (.goto 13, 3) := by decide +kernel
theorem dX2_keyOf_13 : decode cX2_keyOf 13 = .ok (.aload_n 0, 1) := by decide +kernel
theorem dX2_keyOf_14 : decode cX2_keyOf 14 = .ok (.getfield 26, 3) := by decide +kernel
theorem dX2_keyOf_17 : decode cX2_keyOf 17 = .ok (.aload_n 0, 1) := by decide +kernel
theorem dX2_keyOf_18 : decode cX2_keyOf 18 = .ok (.iload_n 1, 1) := by decide +kernel
theorem dX2_keyOf_19 : decode cX2_keyOf 19 = .ok (.invokevirtual 117, 3) := by decide +kernel
theorem dX2_keyOf_22 : decode cX2_keyOf 22 = .ok (.iaload, 1) := by decide +kernel
theorem dX2_keyOf_23 : decode cX2_keyOf 23 = .ok (.ireturn, 1) := by decide +kernel
theorem dX2_sizeOf_0 : decode cX2_sizeOf 0 = .ok (.aload_n 0, 1) := by decide +kernel
theorem dX2_sizeOf_1 : decode cX2_sizeOf 1 = .ok (.iload_n 1, 1) := by decide +kernel
theorem dX2_sizeOf_2 : decode cX2_sizeOf 2 = .ok (.invokevirtual 117, 3) := by decide +kernel
theorem dX2_sizeOf_5 : decode cX2_sizeOf 5 = .ok (.istore_n 2, 1) := by decide +kernel
theorem dX2_sizeOf_6 : decode cX2_sizeOf 6 = .ok (.aload_n 0, 1) := by decide +kernel
theorem dX2_sizeOf_7 : decode cX2_sizeOf 7 = .ok (.getfield 33, 3) := by decide +kernel
theorem dX2_sizeOf_10 : decode cX2_sizeOf 10 = .ok (.iload_n 2, 1) := by decide +kernel
theorem dX2_sizeOf_11 : decode cX2_sizeOf 11 = .ok (.iaload, 1) := by decide +kernel
theorem dX2_sizeOf_12 : decode cX2_sizeOf 12 = .ok (.aload_n 0, 1) := by decide +kernel
theorem dX2_sizeOf_13 : decode cX2_sizeOf 13 = .ok (.getfield 30, 3) := by decide +kernel
theorem dX2_sizeOf_16 : decode cX2_sizeOf 16 = .ok (.iload_n 2, 1) := by decide +kernel
theorem dX2_sizeOf_17 : decode cX2_sizeOf 17 = .ok (.iaload, 1) := by decide +kernel
theorem dX2_sizeOf_18 : decode cX2_sizeOf 18 = .ok (.isub, 1) := by decide +kernel
theorem dX2_sizeOf_19 : decode cX2_sizeOf 19 = .ok (.ireturn, 1) := by decide +kernel
theorem dX2_memberOf_0 : decode cX2_memberOf 0 = .ok (.aload_n 0, 1) := by decide +kernel
theorem dX2_memberOf_1 : decode cX2_memberOf 1 = .ok (.aload_n 0, 1) := by decide +kernel
theorem dX2_memberOf_2 : decode cX2_memberOf 2 = .ok (.getfield 30, 3) := by decide +kernel
theorem dX2_memberOf_5 : decode cX2_memberOf 5 = .ok (.aload_n 0, 1) := by decide +kernel
theorem dX2_memberOf_6 : decode cX2_memberOf 6 = .ok (.iload_n 1, 1) := by decide +kernel
theorem dX2_memberOf_7 : decode cX2_memberOf 7 = .ok (.invokevirtual 117, 3) := by decide +kernel
theorem dX2_memberOf_10 : decode cX2_memberOf 10 = .ok (.iaload, 1) := by decide +kernel
theorem dX2_memberOf_11 : decode cX2_memberOf 11 = .ok (.iload_n 2, 1) := by decide +kernel
theorem dX2_memberOf_12 : decode cX2_memberOf 12 = .ok (.iadd, 1) := by decide +kernel
theorem dX2_memberOf_13 : decode cX2_memberOf 13 = .ok (.invokevirtual 103, 3) := by decide +kernel
theorem dX2_memberOf_16 : decode cX2_memberOf 16 = .ok (.ireturn, 1) := by decide +kernel
theorem dX2_holds_0 : decode cX2_holds 0 = .ok (.aload_n 0, 1) := by decide +kernel
theorem dX2_holds_1 : decode cX2_holds 1 = .ok (.iload_n 1, 1) := by decide +kernel
theorem dX2_holds_2 : decode cX2_holds 2 = .ok (.invokevirtual 124, 3) := by decide +kernel
theorem dX2_holds_5 : decode cX2_holds 5 = .ok (.istore_n 3, 1) := by decide +kernel
theorem dX2_holds_6 : decode cX2_holds 6 = .ok (.iconst 0, 1) := by decide +kernel
theorem dX2_holds_7 : decode cX2_holds 7 = .ok (.istore 4, 2) := by decide +kernel
theorem dX2_holds_9 : decode cX2_holds 9 = .ok (.iload 4, 2) := by decide +kernel
theorem dX2_holds_11 : decode cX2_holds 11 = .ok (.iload_n 3, 1) := by decide +kernel
theorem dX2_holds_12 : decode cX2_holds 12 = .ok (.if_icmp .ge 22, 3) := by decide +kernel
theorem dX2_holds_15 : decode cX2_holds 15 = .ok (.aload_n 0, 1) := by decide +kernel
theorem dX2_holds_16 : decode cX2_holds 16 = .ok (.iload_n 1, 1) := by decide +kernel
theorem dX2_holds_17 : decode cX2_holds 17 = .ok (.iload 4, 2) := by decide +kernel
theorem dX2_holds_19 : decode cX2_holds 19 = .ok (.invokevirtual 127, 3) := by decide +kernel
theorem dX2_holds_22 : decode cX2_holds 22 = .ok (.iload_n 2, 1) := by decide +kernel
theorem dX2_holds_23 : decode cX2_holds 23 = .ok (.if_icmp .ne 5, 3) := by decide +kernel
theorem dX2_holds_26 : decode cX2_holds 26 = .ok (.iconst 1, 1) := by decide +kernel
theorem dX2_holds_27 : decode cX2_holds 27 = .ok (.ireturn, 1) := by decide +kernel
theorem dX2_holds_28 : decode cX2_holds 28 = .ok (.iinc 4 1, 3) := by decide +kernel
theorem dX2_holds_31 : decode cX2_holds 31 = .ok (.goto (-22), 3) := by decide +kernel
theorem dX2_holds_34 : decode cX2_holds 34 = .ok (.iconst 0, 1) := by decide +kernel
theorem dX2_holds_35 : decode cX2_holds 35 = .ok (.ireturn, 1) := by decide +kernel
theorem dX2_numberOf_0 : decode cX2_numberOf 0 = .ok (.iconst 0, 1) := by decide +kernel
theorem dX2_numberOf_1 : decode cX2_numberOf 1 = .ok (.istore_n 2, 1) := by decide +kernel
theorem dX2_numberOf_2 : decode cX2_numberOf 2 = .ok (.iload_n 2, 1) := by decide +kernel
theorem dX2_numberOf_3 : decode cX2_numberOf 3 = .ok (.aload_n 0, 1) := by decide +kernel
theorem dX2_numberOf_4 : decode cX2_numberOf 4 = .ok (.getfield 39, 3) := by decide +kernel
theorem dX2_numberOf_7 : decode cX2_numberOf 7 = .ok (.if_icmp .ge 28, 3) := by decide +kernel
theorem dX2_numberOf_10 : decode cX2_numberOf 10 = .ok (.aload_n 0, 1) := by decide +kernel
theorem dX2_numberOf_11 : decode cX2_numberOf 11 = .ok (.iload_n 2, 1) := by decide +kernel
theorem dX2_numberOf_12 : decode cX2_numberOf 12 = .ok (.invokevirtual 120, 3) := by decide +kernel
theorem dX2_numberOf_15 : decode cX2_numberOf 15 = .ok (.ifCond .ne 14, 3) := by decide +kernel
theorem dX2_numberOf_18 : decode cX2_numberOf 18 = .ok (.aload_n 0, 1) := by decide +kernel
theorem dX2_numberOf_19 : decode cX2_numberOf 19 = .ok (.iload_n 2, 1) := by decide +kernel
theorem dX2_numberOf_20 : decode cX2_numberOf 20 = .ok (.invokevirtual 131, 3) := by decide +kernel
theorem dX2_numberOf_23 : decode cX2_numberOf 23 = .ok (.iload_n 1, 1) := by decide +kernel
theorem dX2_numberOf_24 : decode cX2_numberOf 24 = .ok (.if_icmp .ne 5, 3) := by decide +kernel
theorem dX2_numberOf_27 : decode cX2_numberOf 27 = .ok (.iload_n 2, 1) := by decide +kernel
theorem dX2_numberOf_28 : decode cX2_numberOf 28 = .ok (.ireturn, 1) := by decide +kernel
theorem dX2_numberOf_29 : decode cX2_numberOf 29 = .ok (.iinc 2 1, 3) := by decide +kernel
theorem dX2_numberOf_32 : decode cX2_numberOf 32 = .ok (.goto (-30), 3) := by decide +kernel
theorem dX2_numberOf_35 : decode cX2_numberOf 35 = .ok (.ldc 123, 2) := by decide +kernel
theorem dX2_numberOf_37 : decode cX2_numberOf 37 = .ok (.ireturn, 1) := by decide +kernel
theorem dX3_init_0 : decode cX3_init 0 = .ok (.aload_n 0, 1) := by decide +kernel
theorem dX3_init_1 : decode cX3_init 1 = .ok (.invokespecial 3, 3) := by decide +kernel
theorem dX3_init_4 : decode cX3_init 4 = .ok (.aload_n 0, 1) := by decide +kernel
theorem dX3_init_5 : decode cX3_init 5 = .ok (.aload_n 1, 1) := by decide +kernel
theorem dX3_init_6 : decode cX3_init 6 = .ok (.putfield 9, 3) := by decide +kernel
theorem dX3_init_9 : decode cX3_init 9 = .ok (.aload_n 0, 1) := by decide +kernel
theorem dX3_init_10 : decode cX3_init 10 = .ok (.iconst 0, 1) := by decide +kernel
theorem dX3_init_11 : decode cX3_init 11 = .ok (.putfield 15, 3) := by decide +kernel
theorem dX3_init_14 : decode cX3_init 14 = .ok (.aload_n 0, 1) := by decide +kernel
theorem dX3_init_15 : decode cX3_init 15 = .ok (.bipush 120, 2) := by decide +kernel
theorem dX3_init_17 : decode cX3_init 17 = .ok (.newarray .int, 2) := by decide +kernel
theorem dX3_init_19 : decode cX3_init 19 = .ok (.putfield 19, 3) := by decide +kernel
theorem dX3_init_22 : decode cX3_init 22 = .ok (.return_, 1) := by decide +kernel
theorem dX3_has_0 : decode cX3_has 0 = .ok (.aload_n 0, 1) := by decide +kernel
theorem dX3_has_1 : decode cX3_has 1 = .ok (.getfield 9, 3) := by decide +kernel
theorem dX3_has_4 : decode cX3_has 4 = .ok (.getfield 23, 3) := by decide +kernel
theorem dX3_has_7 : decode cX3_has 7 = .ok (.iload_n 1, 1) := by decide +kernel
theorem dX3_has_8 : decode cX3_has 8 = .ok (.baload, 1) := by decide +kernel
theorem dX3_has_9 : decode cX3_has 9 = .ok (.ifCond .eq 20, 3) := by decide +kernel
theorem dX3_has_12 : decode cX3_has 12 = .ok (.aload_n 0, 1) := by decide +kernel
theorem dX3_has_13 : decode cX3_has 13 = .ok (.getfield 19, 3) := by decide +kernel
theorem dX3_has_16 : decode cX3_has 16 = .ok (.iload_n 1, 1) := by decide +kernel
theorem dX3_has_17 : decode cX3_has 17 = .ok (.iaload, 1) := by decide +kernel
theorem dX3_has_18 : decode cX3_has 18 = .ok (.aload_n 0, 1) := by decide +kernel
theorem dX3_has_19 : decode cX3_has 19 = .ok (.getfield 15, 3) := by decide +kernel
theorem dX3_has_22 : decode cX3_has 22 = .ok (.if_icmp .lt 7, 3) := by decide +kernel
theorem dX3_has_25 : decode cX3_has 25 = .ok (.iconst 1, 1) := by decide +kernel
theorem dX3_has_26 : decode cX3_has 26 = .ok (.goto 4, 3) := by decide +kernel
theorem dX3_has_29 : decode cX3_has 29 = .ok (.iconst 0, 1) := by decide +kernel
theorem dX3_has_30 : decode cX3_has 30 = .ok (.ireturn, 1) := by decide +kernel
theorem dX3_startNarrowing_0 : decode cX3_startNarrowing 0 = .ok (.aload_n 0, 1) := by decide +kernel
theorem dX3_startNarrowing_1 : decode cX3_startNarrowing 1 = .ok (.dup, 1) := by decide +kernel
theorem dX3_startNarrowing_2 : decode cX3_startNarrowing 2 = .ok (.getfield 15, 3) := by decide +kernel
theorem dX3_startNarrowing_5 : decode cX3_startNarrowing 5 = .ok (.iconst 1, 1) := by decide +kernel
theorem dX3_startNarrowing_6 : decode cX3_startNarrowing 6 = .ok (.iadd, 1) := by decide +kernel
theorem dX3_startNarrowing_7 : decode cX3_startNarrowing 7 = .ok (.putfield 15, 3) := by decide +kernel
theorem dX3_startNarrowing_10 : decode cX3_startNarrowing 10 = .ok (.return_, 1) := by decide +kernel
theorem dX3_keep_0 : decode cX3_keep 0 = .ok (.aload_n 0, 1) := by decide +kernel
theorem dX3_keep_1 : decode cX3_keep 1 = .ok (.getfield 19, 3) := by decide +kernel
theorem dX3_keep_4 : decode cX3_keep 4 = .ok (.iload_n 1, 1) := by decide +kernel
theorem dX3_keep_5 : decode cX3_keep 5 = .ok (.aload_n 0, 1) := by decide +kernel
theorem dX3_keep_6 : decode cX3_keep 6 = .ok (.getfield 15, 3) := by decide +kernel
theorem dX3_keep_9 : decode cX3_keep 9 = .ok (.iastore, 1) := by decide +kernel
theorem dX3_keep_10 : decode cX3_keep 10 = .ok (.return_, 1) := by decide +kernel
theorem dX3_widen_0 : decode cX3_widen 0 = .ok (.aload_n 0, 1) := by decide +kernel
theorem dX3_widen_1 : decode cX3_widen 1 = .ok (.getfield 15, 3) := by decide +kernel
theorem dX3_widen_4 : decode cX3_widen 4 = .ok (.ifCond .le 13, 3) := by decide +kernel
theorem dX3_widen_7 : decode cX3_widen 7 = .ok (.aload_n 0, 1) := by decide +kernel
theorem dX3_widen_8 : decode cX3_widen 8 = .ok (.aload_n 0, 1) := by decide +kernel
theorem dX3_widen_9 : decode cX3_widen 9 = .ok (.getfield 15, 3) := by decide +kernel
theorem dX3_widen_12 : decode cX3_widen 12 = .ok (.iconst 1, 1) := by decide +kernel
theorem dX3_widen_13 : decode cX3_widen 13 = .ok (.isub, 1) := by decide +kernel
theorem dX3_widen_14 : decode cX3_widen 14 = .ok (.invokevirtual 29, 3) := by decide +kernel
theorem dX3_widen_17 : decode cX3_widen 17 = .ok (.return_, 1) := by decide +kernel
theorem dX3_widenWholly_0 : decode cX3_widenWholly 0 = .ok (.aload_n 0, 1) := by decide +kernel
theorem dX3_widenWholly_1 : decode cX3_widenWholly 1 = .ok (.getfield 15, 3) := by decide +kernel
theorem dX3_widenWholly_4 : decode cX3_widenWholly 4 = .ok (.ifCond .le 8, 3) := by decide +kernel
theorem dX3_widenWholly_7 : decode cX3_widenWholly 7 = .ok (.aload_n 0, 1) := by decide +kernel
theorem dX3_widenWholly_8 : decode cX3_widenWholly 8 = .ok (.iconst 0, 1) := by decide +kernel
theorem dX3_widenWholly_9 : decode cX3_widenWholly 9 = .ok (.invokevirtual 29, 3) := by decide +kernel
theorem dX3_widenWholly_12 : decode cX3_widenWholly 12 = .ok (.return_, 1) := by decide +kernel
theorem dX3_shrinkTo_0 : decode cX3_shrinkTo 0 = .ok (.aload_n 0, 1) := by decide +kernel
theorem dX3_shrinkTo_1 : decode cX3_shrinkTo 1 = .ok (.iload_n 1, 1) := by decide +kernel
theorem dX3_shrinkTo_2 : decode cX3_shrinkTo 2 = .ok (.putfield 15, 3) := by decide +kernel
theorem dX3_shrinkTo_5 : decode cX3_shrinkTo 5 = .ok (.iconst 0, 1) := by decide +kernel
theorem dX3_shrinkTo_6 : decode cX3_shrinkTo 6 = .ok (.istore_n 2, 1) := by decide +kernel
theorem dX3_shrinkTo_7 : decode cX3_shrinkTo 7 = .ok (.iload_n 2, 1) := by decide +kernel
theorem dX3_shrinkTo_8 : decode cX3_shrinkTo 8 = .ok (.bipush 120, 2) := by decide +kernel
theorem dX3_shrinkTo_10 : decode cX3_shrinkTo 10 = .ok (.if_icmp .ge 25, 3) := by decide +kernel
theorem dX3_shrinkTo_13 : decode cX3_shrinkTo 13 = .ok (.aload_n 0, 1) := by decide +kernel
theorem dX3_shrinkTo_14 : decode cX3_shrinkTo 14 = .ok (.getfield 19, 3) := by decide +kernel
theorem dX3_shrinkTo_17 : decode cX3_shrinkTo 17 = .ok (.iload_n 2, 1) := by decide +kernel
theorem dX3_shrinkTo_18 : decode cX3_shrinkTo 18 = .ok (.aload_n 0, 1) := by decide +kernel
theorem dX3_shrinkTo_19 : decode cX3_shrinkTo 19 = .ok (.getfield 19, 3) := by decide +kernel
theorem dX3_shrinkTo_22 : decode cX3_shrinkTo 22 = .ok (.iload_n 2, 1) := by decide +kernel
theorem dX3_shrinkTo_23 : decode cX3_shrinkTo 23 = .ok (.iaload, 1) := by decide +kernel
theorem dX3_shrinkTo_24 : decode cX3_shrinkTo 24 = .ok (.iload_n 1, 1) := by decide +kernel
theorem dX3_shrinkTo_25 : decode cX3_shrinkTo 25 = .ok (.invokestatic 33, 3) := by decide +kernel
theorem dX3_shrinkTo_28 : decode cX3_shrinkTo 28 = .ok (.iastore, 1) := by decide +kernel
theorem dX3_shrinkTo_29 : decode cX3_shrinkTo 29 = .ok (.iinc 2 1, 3) := by decide +kernel
theorem dX3_shrinkTo_32 : decode cX3_shrinkTo 32 = .ok (.goto (-25), 3) := by decide +kernel
theorem dX3_shrinkTo_35 : decode cX3_shrinkTo 35 = .ok (.return_, 1) := by decide +kernel
theorem dX4_init_0 : decode cX4_init 0 = .ok (.aload_n 0, 1) := by decide +kernel
theorem dX4_init_1 : decode cX4_init 1 = .ok (.invokespecial 3, 3) := by decide +kernel
theorem dX4_init_4 : decode cX4_init 4 = .ok (.aload_n 0, 1) := by decide +kernel
theorem dX4_init_5 : decode cX4_init 5 = .ok (.iconst 0, 1) := by decide +kernel
theorem dX4_init_6 : decode cX4_init 6 = .ok (.putfield 9, 3) := by decide +kernel
theorem dX4_init_9 : decode cX4_init 9 = .ok (.aload_n 0, 1) := by decide +kernel
theorem dX4_init_10 : decode cX4_init 10 = .ok (.bipush 18, 2) := by decide +kernel
theorem dX4_init_12 : decode cX4_init 12 = .ok (.newarray .int, 2) := by decide +kernel
theorem dX4_init_14 : decode cX4_init 14 = .ok (.putfield 15, 3) := by decide +kernel
theorem dX4_init_17 : decode cX4_init 17 = .ok (.return_, 1) := by decide +kernel
theorem dX4_startOver_0 : decode cX4_startOver 0 = .ok (.aload_n 0, 1) := by decide +kernel
theorem dX4_startOver_1 : decode cX4_startOver 1 = .ok (.iconst 0, 1) := by decide +kernel
theorem dX4_startOver_2 : decode cX4_startOver 2 = .ok (.putfield 9, 3) := by decide +kernel
theorem dX4_startOver_5 : decode cX4_startOver 5 = .ok (.return_, 1) := by decide +kernel
theorem dX4_add_0 : decode cX4_add 0 = .ok (.iconst 0, 1) := by decide +kernel
theorem dX4_add_1 : decode cX4_add 1 = .ok (.istore_n 2, 1) := by decide +kernel
theorem dX4_add_2 : decode cX4_add 2 = .ok (.iload_n 2, 1) := by decide +kernel
theorem dX4_add_3 : decode cX4_add 3 = .ok (.aload_n 0, 1) := by decide +kernel
theorem dX4_add_4 : decode cX4_add 4 = .ok (.getfield 9, 3) := by decide +kernel
theorem dX4_add_7 : decode cX4_add 7 = .ok (.if_icmp .ge 20, 3) := by decide +kernel
theorem dX4_add_10 : decode cX4_add 10 = .ok (.aload_n 0, 1) := by decide +kernel
theorem dX4_add_11 : decode cX4_add 11 = .ok (.getfield 15, 3) := by decide +kernel
theorem dX4_add_14 : decode cX4_add 14 = .ok (.iload_n 2, 1) := by decide +kernel
theorem dX4_add_15 : decode cX4_add 15 = .ok (.iaload, 1) := by decide +kernel
theorem dX4_add_16 : decode cX4_add 16 = .ok (.iload_n 1, 1) := by decide +kernel
theorem dX4_add_17 : decode cX4_add 17 = .ok (.if_icmp .ne 4, 3) := by decide +kernel
theorem dX4_add_20 : decode cX4_add 20 = .ok (.return_, 1) := by decide +kernel
theorem dX4_add_21 : decode cX4_add 21 = .ok (.iinc 2 1, 3) := by decide +kernel
theorem dX4_add_24 : decode cX4_add 24 = .ok (.goto (-22), 3) := by decide +kernel
theorem dX4_add_27 : decode cX4_add 27 = .ok (.aload_n 0, 1) := by decide +kernel
theorem dX4_add_28 : decode cX4_add 28 = .ok (.getfield 9, 3) := by decide +kernel
theorem dX4_add_31 : decode cX4_add 31 = .ok (.bipush 18, 2) := by decide +kernel
theorem dX4_add_33 : decode cX4_add 33 = .ok (.if_icmp .ge 23, 3) := by decide +kernel
theorem dX4_add_36 : decode cX4_add 36 = .ok (.aload_n 0, 1) := by decide +kernel
theorem dX4_add_37 : decode cX4_add 37 = .ok (.getfield 15, 3) := by decide +kernel
theorem dX4_add_40 : decode cX4_add 40 = .ok (.aload_n 0, 1) := by decide +kernel
theorem dX4_add_41 : decode cX4_add 41 = .ok (.getfield 9, 3) := by decide +kernel
theorem dX4_add_44 : decode cX4_add 44 = .ok (.iload_n 1, 1) := by decide +kernel
theorem dX4_add_45 : decode cX4_add 45 = .ok (.iastore, 1) := by decide +kernel
theorem dX4_add_46 : decode cX4_add 46 = .ok (.aload_n 0, 1) := by decide +kernel
theorem dX4_add_47 : decode cX4_add 47 = .ok (.dup, 1) := by decide +kernel
theorem dX4_add_48 : decode cX4_add 48 = .ok (.getfield 9, 3) := by decide +kernel
theorem dX4_add_51 : decode cX4_add 51 = .ok (.iconst 1, 1) := by decide +kernel
theorem dX4_add_52 : decode cX4_add 52 = .ok (.iadd, 1) := by decide +kernel
theorem dX4_add_53 : decode cX4_add 53 = .ok (.putfield 9, 3) := by decide +kernel
theorem dX4_add_56 : decode cX4_add 56 = .ok (.return_, 1) := by decide +kernel
theorem dX5_init_0 : decode cX5_init 0 = .ok (.aload_n 0, 1) := by decide +kernel
theorem dX5_init_1 : decode cX5_init 1 = .ok (.invokespecial 1, 3) := by decide +kernel
theorem dX5_init_4 : decode cX5_init 4 = .ok (.aload_n 0, 1) := by decide +kernel
theorem dX5_init_5 : decode cX5_init 5 = .ok (.sipush 1080, 3) := by decide +kernel
theorem dX5_init_8 : decode cX5_init 8 = .ok (.newarray .long, 2) := by decide +kernel
theorem dX5_init_10 : decode cX5_init 10 = .ok (.putfield 9, 3) := by decide +kernel
theorem dX5_init_13 : decode cX5_init 13 = .ok (.return_, 1) := by decide +kernel
theorem dX5_sort_0 : decode cX5_sort 0 = .ok (.iload_n 2, 1) := by decide +kernel
theorem dX5_sort_1 : decode cX5_sort 1 = .ok (.aload_n 1, 1) := by decide +kernel
theorem dX5_sort_2 : decode cX5_sort 2 = .ok (.arraylength, 1) := by decide +kernel
theorem dX5_sort_3 : decode cX5_sort 3 = .ok (.aload_n 0, 1) := by decide +kernel
theorem dX5_sort_4 : decode cX5_sort 4 = .ok (.getfield 9, 3) := by decide +kernel
theorem dX5_sort_7 : decode cX5_sort 7 = .ok (.arraylength, 1) := by decide +kernel
theorem dX5_sort_8 : decode cX5_sort 8 = .ok (.invokestatic 15, 3) := by decide +kernel
theorem dX5_sort_11 : decode cX5_sort 11 = .ok (.invokestatic 15, 3) := by decide +kernel
theorem dX5_sort_14 : decode cX5_sort 14 = .ok (.istore_n 3, 1) := by decide +kernel
theorem dX5_sort_15 : decode cX5_sort 15 = .ok (.iconst 1, 1) := by decide +kernel
theorem dX5_sort_16 : decode cX5_sort 16 = .ok (.istore 4, 2) := by decide +kernel
theorem dX5_sort_18 : decode cX5_sort 18 = .ok (.iload 4, 2) := by decide +kernel
theorem dX5_sort_20 : decode cX5_sort 20 = .ok (.iload_n 3, 1) := by decide +kernel
theorem dX5_sort_21 : decode cX5_sort 21 = .ok (.if_icmp .ge 71, 3) := by decide +kernel
theorem dX5_sort_24 : decode cX5_sort 24 = .ok (.iconst 0, 1) := by decide +kernel
theorem dX5_sort_25 : decode cX5_sort 25 = .ok (.istore 5, 2) := by decide +kernel
theorem dX5_sort_27 : decode cX5_sort 27 = .ok (.iload 5, 2) := by decide +kernel
theorem dX5_sort_29 : decode cX5_sort 29 = .ok (.iload_n 3, 1) := by decide +kernel
theorem dX5_sort_30 : decode cX5_sort 30 = .ok (.if_icmp .ge 42, 3) := by decide +kernel
theorem dX5_sort_33 : decode cX5_sort 33 = .ok (.aload_n 0, 1) := by decide +kernel
theorem dX5_sort_34 : decode cX5_sort 34 = .ok (.aload_n 1, 1) := by decide +kernel
theorem dX5_sort_35 : decode cX5_sort 35 = .ok (.iload 5, 2) := by decide +kernel
theorem dX5_sort_37 : decode cX5_sort 37 = .ok (.iload 5, 2) := by decide +kernel
theorem dX5_sort_39 : decode cX5_sort 39 = .ok (.iload 4, 2) := by decide +kernel
theorem dX5_sort_41 : decode cX5_sort 41 = .ok (.iadd, 1) := by decide +kernel
theorem dX5_sort_42 : decode cX5_sort 42 = .ok (.iload_n 3, 1) := by decide +kernel
theorem dX5_sort_43 : decode cX5_sort 43 = .ok (.invokestatic 15, 3) := by decide +kernel
theorem dX5_sort_46 : decode cX5_sort 46 = .ok (.iload 5, 2) := by decide +kernel
theorem dX5_sort_48 : decode cX5_sort 48 = .ok (.iconst 2, 1) := by decide +kernel
theorem dX5_sort_49 : decode cX5_sort 49 = .ok (.iload 4, 2) := by decide +kernel
theorem dX5_sort_51 : decode cX5_sort 51 = .ok (.imul, 1) := by decide +kernel
theorem dX5_sort_52 : decode cX5_sort 52 = .ok (.iadd, 1) := by decide +kernel
theorem dX5_sort_53 : decode cX5_sort 53 = .ok (.iload_n 3, 1) := by decide +kernel
theorem dX5_sort_54 : decode cX5_sort 54 = .ok (.invokestatic 15, 3) := by decide +kernel
theorem dX5_sort_57 : decode cX5_sort 57 = .ok (.invokevirtual 21, 3) := by decide +kernel
theorem dX5_sort_60 : decode cX5_sort 60 = .ok (.iload 5, 2) := by decide +kernel
theorem dX5_sort_62 : decode cX5_sort 62 = .ok (.iconst 2, 1) := by decide +kernel
theorem dX5_sort_63 : decode cX5_sort 63 = .ok (.iload 4, 2) := by decide +kernel
theorem dX5_sort_65 : decode cX5_sort 65 = .ok (.imul, 1) := by decide +kernel
theorem dX5_sort_66 : decode cX5_sort 66 = .ok (.iadd, 1) := by decide +kernel
theorem dX5_sort_67 : decode cX5_sort 67 = .ok (.istore 5, 2) := by decide +kernel
theorem dX5_sort_69 : decode cX5_sort 69 = .ok (.goto (-42), 3) := by decide +kernel
theorem dX5_sort_72 : decode cX5_sort 72 = .ok (.aload_n 0, 1) := by decide +kernel
theorem dX5_sort_73 : decode cX5_sort 73 = .ok (.getfield 9, 3) := by decide +kernel
theorem dX5_sort_76 : decode cX5_sort 76 = .ok (.iconst 0, 1) := by decide +kernel
theorem dX5_sort_77 : decode cX5_sort 77 = .ok (.aload_n 1, 1) := by decide +kernel
theorem dX5_sort_78 : decode cX5_sort 78 = .ok (.iconst 0, 1) := by decide +kernel
theorem dX5_sort_79 : decode cX5_sort 79 = .ok (.iload_n 3, 1) := by decide +kernel
theorem dX5_sort_80 : decode cX5_sort 80 = .ok (.invokestatic 25, 3) := by decide +kernel
theorem dX5_sort_83 : decode cX5_sort 83 = .ok (.iload 4, 2) := by decide +kernel
theorem dX5_sort_85 : decode cX5_sort 85 = .ok (.iconst 2, 1) := by decide +kernel
theorem dX5_sort_86 : decode cX5_sort 86 = .ok (.imul, 1) := by decide +kernel
theorem dX5_sort_87 : decode cX5_sort 87 = .ok (.istore 4, 2) := by decide +kernel
theorem dX5_sort_89 : decode cX5_sort 89 = .ok (.goto (-71), 3) := by decide +kernel
theorem dX5_sort_92 : decode cX5_sort 92 = .ok (.return_, 1) := by decide +kernel
theorem dX5_merge_0 : decode cX5_merge 0 = .ok (.iload_n 2, 1) := by decide +kernel
theorem dX5_merge_1 : decode cX5_merge 1 = .ok (.istore 5, 2) := by decide +kernel
theorem dX5_merge_3 : decode cX5_merge 3 = .ok (.iload_n 3, 1) := by decide +kernel
theorem dX5_merge_4 : decode cX5_merge 4 = .ok (.istore 6, 2) := by decide +kernel
theorem dX5_merge_6 : decode cX5_merge 6 = .ok (.iload_n 2, 1) := by decide +kernel
theorem dX5_merge_7 : decode cX5_merge 7 = .ok (.istore 7, 2) := by decide +kernel
theorem dX5_merge_9 : decode cX5_merge 9 = .ok (.iload 7, 2) := by decide +kernel
theorem dX5_merge_11 : decode cX5_merge 11 = .ok (.iload 4, 2) := by decide +kernel
theorem dX5_merge_13 : decode cX5_merge 13 = .ok (.if_icmp .ge 65, 3) := by decide +kernel
theorem dX5_merge_16 : decode cX5_merge 16 = .ok (.iload 5, 2) := by decide +kernel
theorem dX5_merge_18 : decode cX5_merge 18 = .ok (.iload_n 3, 1) := by decide +kernel
theorem dX5_merge_19 : decode cX5_merge 19 = .ok (.if_icmp .ge 39, 3) := by decide +kernel
theorem dX5_merge_22 : decode cX5_merge 22 = .ok (.iload 6, 2) := by decide +kernel
theorem dX5_merge_24 : decode cX5_merge 24 = .ok (.iload 4, 2) := by decide +kernel
theorem dX5_merge_26 : decode cX5_merge 26 = .ok (.if_icmp .ge 15, 3) := by decide +kernel
theorem dX5_merge_29 : decode cX5_merge 29 = .ok (.aload_n 1, 1) := by decide +kernel
theorem dX5_merge_30 : decode cX5_merge 30 = .ok (.iload 5, 2) := by decide +kernel
theorem dX5_merge_32 : decode cX5_merge 32 = .ok (.laload, 1) := by decide +kernel
theorem dX5_merge_33 : decode cX5_merge 33 = .ok (.aload_n 1, 1) := by decide +kernel
theorem dX5_merge_34 : decode cX5_merge 34 = .ok (.iload 6, 2) := by decide +kernel
theorem dX5_merge_36 : decode cX5_merge 36 = .ok (.laload, 1) := by decide +kernel
theorem dX5_merge_37 : decode cX5_merge 37 = .ok (.lcmp, 1) := by decide +kernel
theorem dX5_merge_38 : decode cX5_merge 38 = .ok (.ifCond .gt 20, 3) := by decide +kernel
theorem dX5_merge_41 : decode cX5_merge 41 = .ok (.aload_n 0, 1) := by decide +kernel
theorem dX5_merge_42 : decode cX5_merge 42 = .ok (.getfield 9, 3) := by decide +kernel
theorem dX5_merge_45 : decode cX5_merge 45 = .ok (.iload 7, 2) := by decide +kernel
theorem dX5_merge_47 : decode cX5_merge 47 = .ok (.aload_n 1, 1) := by decide +kernel
theorem dX5_merge_48 : decode cX5_merge 48 = .ok (.iload 5, 2) := by decide +kernel
theorem dX5_merge_50 : decode cX5_merge 50 = .ok (.laload, 1) := by decide +kernel
theorem dX5_merge_51 : decode cX5_merge 51 = .ok (.lastore, 1) := by decide +kernel
theorem dX5_merge_52 : decode cX5_merge 52 = .ok (.iinc 5 1, 3) := by decide +kernel
theorem dX5_merge_55 : decode cX5_merge 55 = .ok (.goto 17, 3) := by decide +kernel
theorem dX5_merge_58 : decode cX5_merge 58 = .ok (.aload_n 0, 1) := by decide +kernel
theorem dX5_merge_59 : decode cX5_merge 59 = .ok (.getfield 9, 3) := by decide +kernel
theorem dX5_merge_62 : decode cX5_merge 62 = .ok (.iload 7, 2) := by decide +kernel
theorem dX5_merge_64 : decode cX5_merge 64 = .ok (.aload_n 1, 1) := by decide +kernel
theorem dX5_merge_65 : decode cX5_merge 65 = .ok (.iload 6, 2) := by decide +kernel
theorem dX5_merge_67 : decode cX5_merge 67 = .ok (.laload, 1) := by decide +kernel
theorem dX5_merge_68 : decode cX5_merge 68 = .ok (.lastore, 1) := by decide +kernel
theorem dX5_merge_69 : decode cX5_merge 69 = .ok (.iinc 6 1, 3) := by decide +kernel
theorem dX5_merge_72 : decode cX5_merge 72 = .ok (.iinc 7 1, 3) := by decide +kernel
theorem dX5_merge_75 : decode cX5_merge 75 = .ok (.goto (-66), 3) := by decide +kernel
theorem dX5_merge_78 : decode cX5_merge 78 = .ok (.return_, 1) := by decide +kernel
theorem dX6_init_0 : decode cX6_init 0 = .ok (.aload_n 0, 1) := by decide +kernel
theorem dX6_init_1 : decode cX6_init 1 = .ok (.invokespecial 3, 3) := by decide +kernel
theorem dX6_init_4 : decode cX6_init 4 = .ok (.aload_n 0, 1) := by decide +kernel
theorem dX6_init_5 : decode cX6_init 5 = .ok (.iconst 0, 1) := by decide +kernel
theorem dX6_init_6 : decode cX6_init 6 = .ok (.putfield 9, 3) := by decide +kernel
theorem dX6_init_9 : decode cX6_init 9 = .ok (.aload_n 0, 1) := by decide +kernel
theorem dX6_init_10 : decode cX6_init 10 = .ok (.bipush 120, 2) := by decide +kernel
theorem dX6_init_12 : decode cX6_init 12 = .ok (.newarray .boolean, 2) := by decide +kernel
theorem dX6_init_14 : decode cX6_init 14 = .ok (.putfield 15, 3) := by decide +kernel
theorem dX6_init_17 : decode cX6_init 17 = .ok (.aload_n 0, 1) := by decide +kernel
theorem dX6_init_18 : decode cX6_init 18 = .ok (.sipush 2160, 3) := by decide +kernel
theorem dX6_init_21 : decode cX6_init 21 = .ok (.newarray .int, 2) := by decide +kernel
theorem dX6_init_23 : decode cX6_init 23 = .ok (.putfield 19, 3) := by decide +kernel
theorem dX6_init_26 : decode cX6_init 26 = .ok (.aload_n 0, 1) := by decide +kernel
theorem dX6_init_27 : decode cX6_init 27 = .ok (.sipush 720, 3) := by decide +kernel
theorem dX6_init_30 : decode cX6_init 30 = .ok (.newarray .int, 2) := by decide +kernel
theorem dX6_init_32 : decode cX6_init 32 = .ok (.putfield 23, 3) := by decide +kernel
theorem dX6_init_35 : decode cX6_init 35 = .ok (.return_, 1) := by decide +kernel
theorem dX6_has_0 : decode cX6_has 0 = .ok (.iload_n 1, 1) := by decide +kernel
theorem dX6_has_1 : decode cX6_has 1 = .ok (.ifCond .lt 15, 3) := by decide +kernel
theorem dX6_has_4 : decode cX6_has 4 = .ok (.iload_n 1, 1) := by decide +kernel
theorem dX6_has_5 : decode cX6_has 5 = .ok (.aload_n 0, 1) := by decide +kernel
theorem dX6_has_6 : decode cX6_has 6 = .ok (.getfield 9, 3) := by decide +kernel
theorem dX6_has_9 : decode cX6_has 9 = .ok (.if_icmp .ge 7, 3) := by decide +kernel
theorem dX6_has_12 : decode cX6_has 12 = .ok (.iconst 1, 1) := by decide +kernel
theorem dX6_has_13 : decode cX6_has 13 = .ok (.goto 4, 3) := by decide +kernel
theorem dX6_has_16 : decode cX6_has 16 = .ok (.iconst 0, 1) := by decide +kernel
theorem dX6_has_17 : decode cX6_has 17 = .ok (.ireturn, 1) := by decide +kernel
theorem dX6_addObject_0 : decode cX6_addObject 0 = .ok (.aload_n 0, 1) := by decide +kernel
theorem dX6_addObject_1 : decode cX6_addObject 1 = .ok (.getfield 9, 3) := by decide +kernel
theorem dX6_addObject_4 : decode cX6_addObject 4 = .ok (.istore_n 1, 1) := by decide +kernel
theorem dX6_addObject_5 : decode cX6_addObject 5 = .ok (.aload_n 0, 1) := by decide +kernel
theorem dX6_addObject_6 : decode cX6_addObject 6 = .ok (.getfield 15, 3) := by decide +kernel
theorem dX6_addObject_9 : decode cX6_addObject 9 = .ok (.iload_n 1, 1) := by decide +kernel
theorem dX6_addObject_10 : decode cX6_addObject 10 = .ok (.iconst 0, 1) := by decide +kernel
theorem dX6_addObject_11 : decode cX6_addObject 11 = .ok (.bastore, 1) := by decide +kernel
theorem dX6_addObject_12 : decode cX6_addObject 12 = .ok (.iconst 0, 1) := by decide +kernel
theorem dX6_addObject_13 : decode cX6_addObject 13 = .ok (.istore_n 2, 1) := by decide +kernel
theorem dX6_addObject_14 : decode cX6_addObject 14 = .ok (.iload_n 2, 1) := by decide +kernel
theorem dX6_addObject_15 : decode cX6_addObject 15 = .ok (.bipush 6, 2) := by decide +kernel
theorem dX6_addObject_17 : decode cX6_addObject 17 = .ok (.if_icmp .ge 21, 3) := by decide +kernel
theorem dX6_addObject_20 : decode cX6_addObject 20 = .ok (.aload_n 0, 1) := by decide +kernel
theorem dX6_addObject_21 : decode cX6_addObject 21 = .ok (.getfield 23, 3) := by decide +kernel
theorem dX6_addObject_24 : decode cX6_addObject 24 = .ok (.iload_n 1, 1) := by decide +kernel
theorem dX6_addObject_25 : decode cX6_addObject 25 = .ok (.bipush 6, 2) := by decide +kernel
theorem dX6_addObject_27 : decode cX6_addObject 27 = .ok (.imul, 1) := by decide +kernel
theorem dX6_addObject_28 : decode cX6_addObject 28 = .ok (.iload_n 2, 1) := by decide +kernel
theorem dX6_addObject_29 : decode cX6_addObject 29 = .ok (.iadd, 1) := by decide +kernel
theorem dX6_addObject_30 : decode cX6_addObject 30 = .ok (.iconst 0, 1) := by decide +kernel
theorem dX6_addObject_31 : decode cX6_addObject 31 = .ok (.iastore, 1) := by decide +kernel
theorem dX6_addObject_32 : decode cX6_addObject 32 = .ok (.iinc 2 1, 3) := by decide +kernel
theorem dX6_addObject_35 : decode cX6_addObject 35 = .ok (.goto (-21), 3) := by decide +kernel
theorem dX6_addObject_38 : decode cX6_addObject 38 = .ok (.aload_n 0, 1) := by decide +kernel
theorem dX6_addObject_39 : decode cX6_addObject 39 = .ok (.dup, 1) := by decide +kernel
theorem dX6_addObject_40 : decode cX6_addObject 40 = .ok (.getfield 9, 3) := by decide +kernel
theorem dX6_addObject_43 : decode cX6_addObject 43 = .ok (.iconst 1, 1) := by decide +kernel
theorem dX6_addObject_44 : decode cX6_addObject 44 = .ok (.iadd, 1) := by decide +kernel
theorem dX6_addObject_45 : decode cX6_addObject 45 = .ok (.putfield 9, 3) := by decide +kernel
theorem dX6_addObject_48 : decode cX6_addObject 48 = .ok (.iload_n 1, 1) := by decide +kernel
theorem dX6_addObject_49 : decode cX6_addObject 49 = .ok (.ireturn, 1) := by decide +kernel
theorem dX6_addValue_0 : decode cX6_addValue 0 = .ok (.iload_n 1, 1) := by decide +kernel
theorem dX6_addValue_1 : decode cX6_addValue 1 = .ok (.bipush 6, 2) := by decide +kernel
theorem dX6_addValue_3 : decode cX6_addValue 3 = .ok (.imul, 1) := by decide +kernel
theorem dX6_addValue_4 : decode cX6_addValue 4 = .ok (.iload_n 2, 1) := by decide +kernel
theorem dX6_addValue_5 : decode cX6_addValue 5 = .ok (.iadd, 1) := by decide +kernel
theorem dX6_addValue_6 : decode cX6_addValue 6 = .ok (.istore 4, 2) := by decide +kernel
theorem dX6_addValue_8 : decode cX6_addValue 8 = .ok (.aload_n 0, 1) := by decide +kernel
theorem dX6_addValue_9 : decode cX6_addValue 9 = .ok (.getfield 19, 3) := by decide +kernel
theorem dX6_addValue_12 : decode cX6_addValue 12 = .ok (.iload 4, 2) := by decide +kernel
theorem dX6_addValue_14 : decode cX6_addValue 14 = .ok (.iconst 3, 1) := by decide +kernel
theorem dX6_addValue_15 : decode cX6_addValue 15 = .ok (.imul, 1) := by decide +kernel
theorem dX6_addValue_16 : decode cX6_addValue 16 = .ok (.aload_n 0, 1) := by decide +kernel
theorem dX6_addValue_17 : decode cX6_addValue 17 = .ok (.getfield 23, 3) := by decide +kernel
theorem dX6_addValue_20 : decode cX6_addValue 20 = .ok (.iload 4, 2) := by decide +kernel
theorem dX6_addValue_22 : decode cX6_addValue 22 = .ok (.iaload, 1) := by decide +kernel
theorem dX6_addValue_23 : decode cX6_addValue 23 = .ok (.iadd, 1) := by decide +kernel
theorem dX6_addValue_24 : decode cX6_addValue 24 = .ok (.iload_n 3, 1) := by decide +kernel
theorem dX6_addValue_25 : decode cX6_addValue 25 = .ok (.iastore, 1) := by decide +kernel
theorem dX6_addValue_26 : decode cX6_addValue 26 = .ok (.aload_n 0, 1) := by decide +kernel
theorem dX6_addValue_27 : decode cX6_addValue 27 = .ok (.getfield 23, 3) := by decide +kernel
theorem dX6_addValue_30 : decode cX6_addValue 30 = .ok (.iload 4, 2) := by decide +kernel
theorem dX6_addValue_32 : decode cX6_addValue 32 = .ok (.dup2, 1) := by decide +kernel
theorem dX6_addValue_33 : decode cX6_addValue 33 = .ok (.iaload, 1) := by decide +kernel
theorem dX6_addValue_34 : decode cX6_addValue 34 = .ok (.iconst 1, 1) := by decide +kernel
theorem dX6_addValue_35 : decode cX6_addValue 35 = .ok (.iadd, 1) := by decide +kernel
theorem dX6_addValue_36 : decode cX6_addValue 36 = .ok (.iastore, 1) := by decide +kernel
theorem dX6_addValue_37 : decode cX6_addValue 37 = .ok (.aload_n 0, 1) := by decide +kernel
theorem dX6_addValue_38 : decode cX6_addValue 38 = .ok (.getfield 23, 3) := by decide +kernel
theorem dX6_addValue_41 : decode cX6_addValue 41 = .ok (.iload 4, 2) := by decide +kernel
theorem dX6_addValue_43 : decode cX6_addValue 43 = .ok (.iaload, 1) := by decide +kernel
theorem dX6_addValue_44 : decode cX6_addValue 44 = .ok (.ireturn, 1) := by decide +kernel
theorem dX6_valueCount_0 : decode cX6_valueCount 0 = .ok (.aload_n 0, 1) := by decide +kernel
theorem dX6_valueCount_1 : decode cX6_valueCount 1 = .ok (.getfield 23, 3) := by decide +kernel
theorem dX6_valueCount_4 : decode cX6_valueCount 4 = .ok (.iload_n 1, 1) := by decide +kernel
theorem dX6_valueCount_5 : decode cX6_valueCount 5 = .ok (.bipush 6, 2) := by decide +kernel
theorem dX6_valueCount_7 : decode cX6_valueCount 7 = .ok (.imul, 1) := by decide +kernel
theorem dX6_valueCount_8 : decode cX6_valueCount 8 = .ok (.iload_n 2, 1) := by decide +kernel
theorem dX6_valueCount_9 : decode cX6_valueCount 9 = .ok (.iadd, 1) := by decide +kernel
theorem dX6_valueCount_10 : decode cX6_valueCount 10 = .ok (.iaload, 1) := by decide +kernel
theorem dX6_valueCount_11 : decode cX6_valueCount 11 = .ok (.ireturn, 1) := by decide +kernel
theorem dX6_valueAt_0 : decode cX6_valueAt 0 = .ok (.aload_n 0, 1) := by decide +kernel
theorem dX6_valueAt_1 : decode cX6_valueAt 1 = .ok (.getfield 19, 3) := by decide +kernel
theorem dX6_valueAt_4 : decode cX6_valueAt 4 = .ok (.iload_n 1, 1) := by decide +kernel
theorem dX6_valueAt_5 : decode cX6_valueAt 5 = .ok (.bipush 6, 2) := by decide +kernel
theorem dX6_valueAt_7 : decode cX6_valueAt 7 = .ok (.imul, 1) := by decide +kernel
theorem dX6_valueAt_8 : decode cX6_valueAt 8 = .ok (.iload_n 2, 1) := by decide +kernel
theorem dX6_valueAt_9 : decode cX6_valueAt 9 = .ok (.iadd, 1) := by decide +kernel
theorem dX6_valueAt_10 : decode cX6_valueAt 10 = .ok (.iconst 3, 1) := by decide +kernel
theorem dX6_valueAt_11 : decode cX6_valueAt 11 = .ok (.imul, 1) := by decide +kernel
theorem dX6_valueAt_12 : decode cX6_valueAt 12 = .ok (.iload_n 3, 1) := by decide +kernel
theorem dX6_valueAt_13 : decode cX6_valueAt 13 = .ok (.iadd, 1) := by decide +kernel
theorem dX6_valueAt_14 : decode cX6_valueAt 14 = .ok (.iaload, 1) := by decide +kernel
theorem dX6_valueAt_15 : decode cX6_valueAt 15 = .ok (.ireturn, 1) := by decide +kernel
theorem dX6_matching_0 : decode cX6_matching 0 = .ok (.iconst 0, 1) := by decide +kernel
theorem dX6_matching_1 : decode cX6_matching 1 = .ok (.istore_n 1, 1) := by decide +kernel
theorem dX6_matching_2 : decode cX6_matching 2 = .ok (.iconst 0, 1) := by decide +kernel
theorem dX6_matching_3 : decode cX6_matching 3 = .ok (.istore_n 2, 1) := by decide +kernel
theorem dX6_matching_4 : decode cX6_matching 4 = .ok (.iload_n 2, 1) := by decide +kernel
theorem dX6_matching_5 : decode cX6_matching 5 = .ok (.aload_n 0, 1) := by decide +kernel
theorem dX6_matching_6 : decode cX6_matching 6 = .ok (.getfield 9, 3) := by decide +kernel
theorem dX6_matching_9 : decode cX6_matching 9 = .ok (.if_icmp .ge 21, 3) := by decide +kernel
theorem dX6_matching_12 : decode cX6_matching 12 = .ok (.aload_n 0, 1) := by decide +kernel
theorem dX6_matching_13 : decode cX6_matching 13 = .ok (.getfield 15, 3) := by decide +kernel
theorem dX6_matching_16 : decode cX6_matching 16 = .ok (.iload_n 2, 1) := by decide +kernel
theorem dX6_matching_17 : decode cX6_matching 17 = .ok (.baload, 1) := by decide +kernel
theorem dX6_matching_18 : decode cX6_matching 18 = .ok (.ifCond .eq 6, 3) := by decide +kernel
theorem dX6_matching_21 : decode cX6_matching 21 = .ok (.iinc 1 1, 3) := by decide +kernel
theorem dX6_matching_24 : decode cX6_matching 24 = .ok (.iinc 2 1, 3) := by decide +kernel
theorem dX6_matching_27 : decode cX6_matching 27 = .ok (.goto (-23), 3) := by decide +kernel
theorem dX6_matching_30 : decode cX6_matching 30 = .ok (.iload_n 1, 1) := by decide +kernel
theorem dX6_matching_31 : decode cX6_matching 31 = .ok (.ireturn, 1) := by decide +kernel
theorem dX6_hasWithin_0 : decode cX6_hasWithin 0 = .ok (.aload_n 0, 1) := by decide +kernel
theorem dX6_hasWithin_1 : decode cX6_hasWithin 1 = .ok (.iload_n 1, 1) := by decide +kernel
theorem dX6_hasWithin_2 : decode cX6_hasWithin 2 = .ok (.iload_n 2, 1) := by decide +kernel
theorem dX6_hasWithin_3 : decode cX6_hasWithin 3 = .ok (.invokevirtual 26, 3) := by decide +kernel
theorem dX6_hasWithin_6 : decode cX6_hasWithin 6 = .ok (.istore 5, 2) := by decide +kernel
theorem dX6_hasWithin_8 : decode cX6_hasWithin 8 = .ok (.iconst 0, 1) := by decide +kernel
theorem dX6_hasWithin_9 : decode cX6_hasWithin 9 = .ok (.istore 6, 2) := by decide +kernel
theorem dX6_hasWithin_11 : decode cX6_hasWithin 11 = .ok (.iload 6, 2) := by decide +kernel
theorem dX6_hasWithin_13 : decode cX6_hasWithin 13 = .ok (.iload 5, 2) := by decide +kernel
theorem dX6_hasWithin_15 : decode cX6_hasWithin 15 = .ok (.if_icmp .ge 34, 3) := by decide +kernel
theorem dX6_hasWithin_18 : decode cX6_hasWithin 18 = .ok (.aload_n 0, 1) := by decide +kernel
theorem dX6_hasWithin_19 : decode cX6_hasWithin 19 = .ok (.iload_n 1, 1) := by decide +kernel
theorem dX6_hasWithin_20 : decode cX6_hasWithin 20 = .ok (.iload_n 2, 1) := by decide +kernel
theorem dX6_hasWithin_21 : decode cX6_hasWithin 21 = .ok (.iload 6, 2) := by decide +kernel
theorem dX6_hasWithin_23 : decode cX6_hasWithin 23 = .ok (.invokevirtual 30, 3) := by decide +kernel
theorem dX6_hasWithin_26 : decode cX6_hasWithin 26 = .ok (.istore 7, 2) := by decide +kernel
theorem dX6_hasWithin_28 : decode cX6_hasWithin 28 = .ok (.iload 7, 2) := by decide +kernel
theorem dX6_hasWithin_30 : decode cX6_hasWithin 30 = .ok (.iload_n 3, 1) := by decide +kernel
theorem dX6_hasWithin_31 : decode cX6_hasWithin 31 = .ok (.if_icmp .lt 12, 3) := by decide +kernel
theorem dX6_hasWithin_34 : decode cX6_hasWithin 34 = .ok (.iload 7, 2) := by decide +kernel
theorem dX6_hasWithin_36 : decode cX6_hasWithin 36 = .ok (.iload 4, 2) := by decide +kernel
theorem dX6_hasWithin_38 : decode cX6_hasWithin 38 = .ok (.if_icmp .gt 5, 3) := by decide +kernel
theorem dX6_hasWithin_41 : decode cX6_hasWithin 41 = .ok (.iconst 1, 1) := by decide +kernel
theorem dX6_hasWithin_42 : decode cX6_hasWithin 42 = .ok (.ireturn, 1) := by decide +kernel
theorem dX6_hasWithin_43 : decode cX6_hasWithin 43 = .ok (.iinc 6 1, 3) := by decide +kernel
theorem dX6_hasWithin_46 : decode cX6_hasWithin 46 = .ok (.goto (-35), 3) := by decide +kernel
theorem dX6_hasWithin_49 : decode cX6_hasWithin 49 = .ok (.iconst 0, 1) := by decide +kernel
theorem dX6_hasWithin_50 : decode cX6_hasWithin 50 = .ok (.ireturn, 1) := by decide +kernel
theorem dX6_sumOf_0 : decode cX6_sumOf 0 = .ok (.lconst 0, 1) := by decide +kernel
theorem dX6_sumOf_1 : decode cX6_sumOf 1 = .ok (.lstore_n 3, 1) := by decide +kernel
theorem dX6_sumOf_2 : decode cX6_sumOf 2 = .ok (.aload_n 0, 1) := by decide +kernel
theorem dX6_sumOf_3 : decode cX6_sumOf 3 = .ok (.iload_n 1, 1) := by decide +kernel
theorem dX6_sumOf_4 : decode cX6_sumOf 4 = .ok (.iload_n 2, 1) := by decide +kernel
theorem dX6_sumOf_5 : decode cX6_sumOf 5 = .ok (.invokevirtual 26, 3) := by decide +kernel
theorem dX6_sumOf_8 : decode cX6_sumOf 8 = .ok (.istore 5, 2) := by decide +kernel
theorem dX6_sumOf_10 : decode cX6_sumOf 10 = .ok (.iconst 0, 1) := by decide +kernel
theorem dX6_sumOf_11 : decode cX6_sumOf 11 = .ok (.istore 6, 2) := by decide +kernel
theorem dX6_sumOf_13 : decode cX6_sumOf 13 = .ok (.iload 6, 2) := by decide +kernel
theorem dX6_sumOf_15 : decode cX6_sumOf 15 = .ok (.iload 5, 2) := by decide +kernel
theorem dX6_sumOf_17 : decode cX6_sumOf 17 = .ok (.if_icmp .ge 21, 3) := by decide +kernel
theorem dX6_sumOf_20 : decode cX6_sumOf 20 = .ok (.lload_n 3, 1) := by decide +kernel
theorem dX6_sumOf_21 : decode cX6_sumOf 21 = .ok (.aload_n 0, 1) := by decide +kernel
theorem dX6_sumOf_22 : decode cX6_sumOf 22 = .ok (.iload_n 1, 1) := by decide +kernel
theorem dX6_sumOf_23 : decode cX6_sumOf 23 = .ok (.iload_n 2, 1) := by decide +kernel
theorem dX6_sumOf_24 : decode cX6_sumOf 24 = .ok (.iload 6, 2) := by decide +kernel
theorem dX6_sumOf_26 : decode cX6_sumOf 26 = .ok (.invokevirtual 30, 3) := by decide +kernel
theorem dX6_sumOf_29 : decode cX6_sumOf 29 = .ok (.i2l, 1) := by decide +kernel
theorem dX6_sumOf_30 : decode cX6_sumOf 30 = .ok (.ladd, 1) := by decide +kernel
theorem dX6_sumOf_31 : decode cX6_sumOf 31 = .ok (.lstore_n 3, 1) := by decide +kernel
theorem dX6_sumOf_32 : decode cX6_sumOf 32 = .ok (.iinc 6 1, 3) := by decide +kernel
theorem dX6_sumOf_35 : decode cX6_sumOf 35 = .ok (.goto (-22), 3) := by decide +kernel
theorem dX6_sumOf_38 : decode cX6_sumOf 38 = .ok (.lload_n 3, 1) := by decide +kernel
theorem dX6_sumOf_39 : decode cX6_sumOf 39 = .ok (.lreturn, 1) := by decide +kernel
theorem dX7_init_0 : decode cX7_init 0 = .ok (.aload_n 0, 1) := by decide +kernel
theorem dX7_init_1 : decode cX7_init 1 = .ok (.invokespecial 3, 3) := by decide +kernel
theorem dX7_init_4 : decode cX7_init 4 = .ok (.aload_n 0, 1) := by decide +kernel
theorem dX7_init_5 : decode cX7_init 5 = .ok (.aload_n 1, 1) := by decide +kernel
theorem dX7_init_6 : decode cX7_init 6 = .ok (.putfield 9, 3) := by decide +kernel
theorem dX7_init_9 : decode cX7_init 9 = .ok (.aload_n 0, 1) := by decide +kernel
theorem dX7_init_10 : decode cX7_init 10 = .ok (.iconst 0, 1) := by decide +kernel
theorem dX7_init_11 : decode cX7_init 11 = .ok (.putfield 15, 3) := by decide +kernel
theorem dX7_init_14 : decode cX7_init 14 = .ok (.aload_n 0, 1) := by decide +kernel
theorem dX7_init_15 : decode cX7_init 15 = .ok (.sipush 360, 3) := by decide +kernel
theorem dX7_init_18 : decode cX7_init 18 = .ok (.newarray .long, 2) := by decide +kernel
theorem dX7_init_20 : decode cX7_init 20 = .ok (.putfield 19, 3) := by decide +kernel
theorem dX7_init_23 : decode cX7_init 23 = .ok (.return_, 1) := by decide +kernel
theorem dX7_startOver_0 : decode cX7_startOver 0 = .ok (.aload_n 0, 1) := by decide +kernel
theorem dX7_startOver_1 : decode cX7_startOver 1 = .ok (.iconst 0, 1) := by decide +kernel
theorem dX7_startOver_2 : decode cX7_startOver 2 = .ok (.putfield 15, 3) := by decide +kernel
theorem dX7_startOver_5 : decode cX7_startOver 5 = .ok (.return_, 1) := by decide +kernel
theorem dX7_take_0 : decode cX7_take 0 = .ok (.aload_n 1, 1) := by decide +kernel
theorem dX7_take_1 : decode cX7_take 1 = .ok (.iload_n 2, 1) := by decide +kernel
theorem dX7_take_2 : decode cX7_take 2 = .ok (.iload_n 3, 1) := by decide +kernel
theorem dX7_take_3 : decode cX7_take 3 = .ok (.invokevirtual 23, 3) := by decide +kernel
theorem dX7_take_6 : decode cX7_take 6 = .ok (.istore 4, 2) := by decide +kernel
theorem dX7_take_8 : decode cX7_take 8 = .ok (.iconst 0, 1) := by decide +kernel
theorem dX7_take_9 : decode cX7_take 9 = .ok (.istore 5, 2) := by decide +kernel
theorem dX7_take_11 : decode cX7_take 11 = .ok (.iload 5, 2) := by decide +kernel
theorem dX7_take_13 : decode cX7_take 13 = .ok (.iload 4, 2) := by decide +kernel
theorem dX7_take_15 : decode cX7_take 15 = .ok (.if_icmp .ge 47, 3) := by decide +kernel
theorem dX7_take_18 : decode cX7_take 18 = .ok (.aload_n 0, 1) := by decide +kernel
theorem dX7_take_19 : decode cX7_take 19 = .ok (.getfield 15, 3) := by decide +kernel
theorem dX7_take_22 : decode cX7_take 22 = .ok (.sipush 360, 3) := by decide +kernel
theorem dX7_take_25 : decode cX7_take 25 = .ok (.if_icmp .ge 37, 3) := by decide +kernel
theorem dX7_take_28 : decode cX7_take 28 = .ok (.aload_n 0, 1) := by decide +kernel
theorem dX7_take_29 : decode cX7_take 29 = .ok (.getfield 19, 3) := by decide +kernel
theorem dX7_take_32 : decode cX7_take 32 = .ok (.aload_n 0, 1) := by decide +kernel
theorem dX7_take_33 : decode cX7_take 33 = .ok (.getfield 15, 3) := by decide +kernel
theorem dX7_take_36 : decode cX7_take 36 = .ok (.aload_n 1, 1) := by decide +kernel
theorem dX7_take_37 : decode cX7_take 37 = .ok (.iload_n 2, 1) := by decide +kernel
theorem dX7_take_38 : decode cX7_take 38 = .ok (.iload_n 3, 1) := by decide +kernel
theorem dX7_take_39 : decode cX7_take 39 = .ok (.iload 5, 2) := by decide +kernel
theorem dX7_take_41 : decode cX7_take 41 = .ok (.invokevirtual 29, 3) := by decide +kernel
theorem dX7_take_44 : decode cX7_take 44 = .ok (.i2l, 1) := by decide +kernel
theorem dX7_take_45 : decode cX7_take 45 = .ok (.lastore, 1) := by decide +kernel
theorem dX7_take_46 : decode cX7_take 46 = .ok (.aload_n 0, 1) := by decide +kernel
theorem dX7_take_47 : decode cX7_take 47 = .ok (.dup, 1) := by decide +kernel
theorem dX7_take_48 : decode cX7_take 48 = .ok (.getfield 15, 3) := by decide +kernel
theorem dX7_take_51 : decode cX7_take 51 = .ok (.iconst 1, 1) := by decide +kernel
theorem dX7_take_52 : decode cX7_take 52 = .ok (.iadd, 1) := by decide +kernel
theorem dX7_take_53 : decode cX7_take 53 = .ok (.putfield 15, 3) := by decide +kernel
theorem dX7_take_56 : decode cX7_take 56 = .ok (.iinc 5 1, 3) := by decide +kernel
theorem dX7_take_59 : decode cX7_take 59 = .ok (.goto (-48), 3) := by decide +kernel
theorem dX7_take_62 : decode cX7_take 62 = .ok (.return_, 1) := by decide +kernel
theorem dX7_tell_0 : decode cX7_tell 0 = .ok (.iload_n 1, 1) := by decide +kernel
theorem dX7_tell_1 : decode cX7_tell 1 = .ok (.tableswitch 69 0 4 #[35, 41, 46, 53, 63], 35) := by decide +kernel
theorem dX7_tell_36 : decode cX7_tell 36 = .ok (.aload_n 0, 1) := by decide +kernel
theorem dX7_tell_37 : decode cX7_tell 37 = .ok (.getfield 15, 3) := by decide +kernel
theorem dX7_tell_40 : decode cX7_tell 40 = .ok (.i2l, 1) := by decide +kernel
theorem dX7_tell_41 : decode cX7_tell 41 = .ok (.lreturn, 1) := by decide +kernel
theorem dX7_tell_42 : decode cX7_tell 42 = .ok (.aload_n 0, 1) := by decide +kernel
theorem dX7_tell_43 : decode cX7_tell 43 = .ok (.invokevirtual 33, 3) := by decide +kernel
theorem dX7_tell_46 : decode cX7_tell 46 = .ok (.lreturn, 1) := by decide +kernel
theorem dX7_tell_47 : decode cX7_tell 47 = .ok (.aload_n 0, 1) := by decide +kernel
theorem dX7_tell_48 : decode cX7_tell 48 = .ok (.iconst 1, 1) := by decide +kernel
theorem dX7_tell_49 : decode cX7_tell 49 = .ok (.invokevirtual 37, 3) := by decide +kernel
theorem dX7_tell_52 : decode cX7_tell 52 = .ok (.i2l, 1) := by decide +kernel
theorem dX7_tell_53 : decode cX7_tell 53 = .ok (.lreturn, 1) := by decide +kernel
theorem dX7_tell_54 : decode cX7_tell 54 = .ok (.aload_n 0, 1) := by decide +kernel
theorem dX7_tell_55 : decode cX7_tell 55 = .ok (.aload_n 0, 1) := by decide +kernel
theorem dX7_tell_56 : decode cX7_tell 56 = .ok (.getfield 15, 3) := by decide +kernel
theorem dX7_tell_59 : decode cX7_tell 59 = .ok (.invokevirtual 37, 3) := by decide +kernel
theorem dX7_tell_62 : decode cX7_tell 62 = .ok (.i2l, 1) := by decide +kernel
theorem dX7_tell_63 : decode cX7_tell 63 = .ok (.lreturn, 1) := by decide +kernel
theorem dX7_tell_64 : decode cX7_tell 64 = .ok (.aload_n 0, 1) := by decide +kernel
theorem dX7_tell_65 : decode cX7_tell 65 = .ok (.invokevirtual 41, 3) := by decide +kernel
theorem dX7_tell_68 : decode cX7_tell 68 = .ok (.i2l, 1) := by decide +kernel
theorem dX7_tell_69 : decode cX7_tell 69 = .ok (.lreturn, 1) := by decide +kernel
theorem dX7_tell_70 : decode cX7_tell 70 = .ok (.ldc2_w 45, 3) := by decide +kernel
theorem dX7_tell_73 : decode cX7_tell 73 = .ok (.lreturn, 1) := by decide +kernel
theorem dX7_atPercent_0 : decode cX7_atPercent 0 = .ok (.aload_n 0, 1) := by decide +kernel
theorem dX7_atPercent_1 : decode cX7_atPercent 1 = .ok (.iconst 1, 1) := by decide +kernel
theorem dX7_atPercent_2 : decode cX7_atPercent 2 = .ok (.iload_n 1, 1) := by decide +kernel
theorem dX7_atPercent_3 : decode cX7_atPercent 3 = .ok (.aload_n 0, 1) := by decide +kernel
theorem dX7_atPercent_4 : decode cX7_atPercent 4 = .ok (.getfield 15, 3) := by decide +kernel
theorem dX7_atPercent_7 : decode cX7_atPercent 7 = .ok (.imul, 1) := by decide +kernel
theorem dX7_atPercent_8 : decode cX7_atPercent 8 = .ok (.bipush 99, 2) := by decide +kernel
theorem dX7_atPercent_10 : decode cX7_atPercent 10 = .ok (.iadd, 1) := by decide +kernel
theorem dX7_atPercent_11 : decode cX7_atPercent 11 = .ok (.bipush 100, 2) := by decide +kernel
theorem dX7_atPercent_13 : decode cX7_atPercent 13 = .ok (.idiv, 1) := by decide +kernel
theorem dX7_atPercent_14 : decode cX7_atPercent 14 = .ok (.invokestatic 47, 3) := by decide +kernel
theorem dX7_atPercent_17 : decode cX7_atPercent 17 = .ok (.invokevirtual 37, 3) := by decide +kernel
theorem dX7_atPercent_20 : decode cX7_atPercent 20 = .ok (.ireturn, 1) := by decide +kernel
theorem dX7_atPlace_0 : decode cX7_atPlace 0 = .ok (.iload_n 1, 1) := by decide +kernel
theorem dX7_atPlace_1 : decode cX7_atPlace 1 = .ok (.iconst 1, 1) := by decide +kernel
theorem dX7_atPlace_2 : decode cX7_atPlace 2 = .ok (.if_icmp .lt 11, 3) := by decide +kernel
theorem dX7_atPlace_5 : decode cX7_atPlace 5 = .ok (.iload_n 1, 1) := by decide +kernel
theorem dX7_atPlace_6 : decode cX7_atPlace 6 = .ok (.aload_n 0, 1) := by decide +kernel
theorem dX7_atPlace_7 : decode cX7_atPlace 7 = .ok (.getfield 15, 3) := by decide +kernel
theorem dX7_atPlace_10 : decode cX7_atPlace 10 = .ok (.if_icmp .le 6, 3) := by decide +kernel
theorem dX7_atPlace_13 : decode cX7_atPlace 13 = .ok (.ldc 52, 2) := by decide +kernel
theorem dX7_atPlace_15 : decode cX7_atPlace 15 = .ok (.ireturn, 1) := by decide +kernel
theorem dX7_atPlace_16 : decode cX7_atPlace 16 = .ok (.aload_n 0, 1) := by decide +kernel
theorem dX7_atPlace_17 : decode cX7_atPlace 17 = .ok (.getfield 9, 3) := by decide +kernel
theorem dX7_atPlace_20 : decode cX7_atPlace 20 = .ok (.aload_n 0, 1) := by decide +kernel
theorem dX7_atPlace_21 : decode cX7_atPlace 21 = .ok (.getfield 19, 3) := by decide +kernel
theorem dX7_atPlace_24 : decode cX7_atPlace 24 = .ok (.aload_n 0, 1) := by decide +kernel
theorem dX7_atPlace_25 : decode cX7_atPlace 25 = .ok (.getfield 15, 3) := by decide +kernel
theorem dX7_atPlace_28 : decode cX7_atPlace 28 = .ok (.invokevirtual 53, 3) := by decide +kernel
theorem dX7_atPlace_31 : decode cX7_atPlace 31 = .ok (.aload_n 0, 1) := by decide +kernel
theorem dX7_atPlace_32 : decode cX7_atPlace 32 = .ok (.getfield 19, 3) := by decide +kernel
theorem dX7_atPlace_35 : decode cX7_atPlace 35 = .ok (.iload_n 1, 1) := by decide +kernel
theorem dX7_atPlace_36 : decode cX7_atPlace 36 = .ok (.iconst 1, 1) := by decide +kernel
theorem dX7_atPlace_37 : decode cX7_atPlace 37 = .ok (.isub, 1) := by decide +kernel
theorem dX7_atPlace_38 : decode cX7_atPlace 38 = .ok (.laload, 1) := by decide +kernel
theorem dX7_atPlace_39 : decode cX7_atPlace 39 = .ok (.l2i, 1) := by decide +kernel
theorem dX7_atPlace_40 : decode cX7_atPlace 40 = .ok (.ireturn, 1) := by decide +kernel
theorem dX7_sum_0 : decode cX7_sum 0 = .ok (.lconst 0, 1) := by decide +kernel
theorem dX7_sum_1 : decode cX7_sum 1 = .ok (.lstore_n 1, 1) := by decide +kernel
theorem dX7_sum_2 : decode cX7_sum 2 = .ok (.iconst 0, 1) := by decide +kernel
theorem dX7_sum_3 : decode cX7_sum 3 = .ok (.istore_n 3, 1) := by decide +kernel
theorem dX7_sum_4 : decode cX7_sum 4 = .ok (.iload_n 3, 1) := by decide +kernel
theorem dX7_sum_5 : decode cX7_sum 5 = .ok (.aload_n 0, 1) := by decide +kernel
theorem dX7_sum_6 : decode cX7_sum 6 = .ok (.getfield 15, 3) := by decide +kernel
theorem dX7_sum_9 : decode cX7_sum 9 = .ok (.if_icmp .ge 18, 3) := by decide +kernel
theorem dX7_sum_12 : decode cX7_sum 12 = .ok (.lload_n 1, 1) := by decide +kernel
theorem dX7_sum_13 : decode cX7_sum 13 = .ok (.aload_n 0, 1) := by decide +kernel
theorem dX7_sum_14 : decode cX7_sum 14 = .ok (.getfield 19, 3) := by decide +kernel
theorem dX7_sum_17 : decode cX7_sum 17 = .ok (.iload_n 3, 1) := by decide +kernel
theorem dX7_sum_18 : decode cX7_sum 18 = .ok (.laload, 1) := by decide +kernel
theorem dX7_sum_19 : decode cX7_sum 19 = .ok (.ladd, 1) := by decide +kernel
theorem dX7_sum_20 : decode cX7_sum 20 = .ok (.lstore_n 1, 1) := by decide +kernel
theorem dX7_sum_21 : decode cX7_sum 21 = .ok (.iinc 3 1, 3) := by decide +kernel
theorem dX7_sum_24 : decode cX7_sum 24 = .ok (.goto (-20), 3) := by decide +kernel
theorem dX7_sum_27 : decode cX7_sum 27 = .ok (.lload_n 1, 1) := by decide +kernel
theorem dX7_sum_28 : decode cX7_sum 28 = .ok (.lreturn, 1) := by decide +kernel
theorem dX7_different_0 : decode cX7_different 0 = .ok (.aload_n 0, 1) := by decide +kernel
theorem dX7_different_1 : decode cX7_different 1 = .ok (.getfield 9, 3) := by decide +kernel
theorem dX7_different_4 : decode cX7_different 4 = .ok (.aload_n 0, 1) := by decide +kernel
theorem dX7_different_5 : decode cX7_different 5 = .ok (.getfield 19, 3) := by decide +kernel
theorem dX7_different_8 : decode cX7_different 8 = .ok (.aload_n 0, 1) := by decide +kernel
theorem dX7_different_9 : decode cX7_different 9 = .ok (.getfield 15, 3) := by decide +kernel
theorem dX7_different_12 : decode cX7_different 12 = .ok (.invokevirtual 53, 3) := by decide +kernel
theorem dX7_different_15 : decode cX7_different 15 = .ok (.iconst 0, 1) := by decide +kernel
theorem dX7_different_16 : decode cX7_different 16 = .ok (.istore_n 1, 1) := by decide +kernel
theorem dX7_different_17 : decode cX7_different 17 = .ok (.iconst 0, 1) := by decide +kernel
theorem dX7_different_18 : decode cX7_different 18 = .ok (.istore_n 2, 1) := by decide +kernel
theorem dX7_different_19 : decode cX7_different 19 = .ok (.iload_n 2, 1) := by decide +kernel
theorem dX7_different_20 : decode cX7_different 20 = .ok (.aload_n 0, 1) := by decide +kernel
theorem dX7_different_21 : decode cX7_different 21 = .ok (.getfield 15, 3) := by decide +kernel
theorem dX7_different_24 : decode cX7_different 24 = .ok (.if_icmp .ge 34, 3) := by decide +kernel
theorem dX7_different_27 : decode cX7_different 27 = .ok (.iload_n 2, 1) := by decide +kernel
theorem dX7_different_28 : decode cX7_different 28 = .ok (.ifCond .eq 21, 3) := by decide +kernel
theorem dX7_different_31 : decode cX7_different 31 = .ok (.aload_n 0, 1) := by decide +kernel
theorem dX7_different_32 : decode cX7_different 32 = .ok (.getfield 19, 3) := by decide +kernel
theorem dX7_different_35 : decode cX7_different 35 = .ok (.iload_n 2, 1) := by decide +kernel
theorem dX7_different_36 : decode cX7_different 36 = .ok (.laload, 1) := by decide +kernel
theorem dX7_different_37 : decode cX7_different 37 = .ok (.aload_n 0, 1) := by decide +kernel
theorem dX7_different_38 : decode cX7_different 38 = .ok (.getfield 19, 3) := by decide +kernel
theorem dX7_different_41 : decode cX7_different 41 = .ok (.iload_n 2, 1) := by decide +kernel
theorem dX7_different_42 : decode cX7_different 42 = .ok (.iconst 1, 1) := by decide +kernel
theorem dX7_different_43 : decode cX7_different 43 = .ok (.isub, 1) := by decide +kernel
theorem dX7_different_44 : decode cX7_different 44 = .ok (.laload, 1) := by decide +kernel
theorem dX7_different_45 : decode cX7_different 45 = .ok (.lcmp, 1) := by decide +kernel
theorem dX7_different_46 : decode cX7_different 46 = .ok (.ifCond .eq 6, 3) := by decide +kernel
theorem dX7_different_49 : decode cX7_different 49 = .ok (.iinc 1 1, 3) := by decide +kernel
theorem dX7_different_52 : decode cX7_different 52 = .ok (.iinc 2 1, 3) := by decide +kernel
theorem dX7_different_55 : decode cX7_different 55 = .ok (.goto (-36), 3) := by decide +kernel
theorem dX7_different_58 : decode cX7_different 58 = .ok (.iload_n 1, 1) := by decide +kernel
theorem dX7_different_59 : decode cX7_different 59 = .ok (.ireturn, 1) := by decide +kernel
theorem dJ9_floorMod_7cf53_0 : decode cJ9_floorMod_7cf53 0 = .ok (.iload_n 0, 1) := by decide +kernel
theorem dJ9_floorMod_7cf53_1 : decode cJ9_floorMod_7cf53 1 = .ok (.iload_n 1, 1) := by decide +kernel
theorem dJ9_floorMod_7cf53_2 : decode cJ9_floorMod_7cf53 2 = .ok (.irem, 1) := by decide +kernel
theorem dJ9_floorMod_7cf53_3 : decode cJ9_floorMod_7cf53 3 = .ok (.istore_n 2, 1) := by decide +kernel
theorem dJ9_floorMod_7cf53_4 : decode cJ9_floorMod_7cf53 4 = .ok (.iload_n 0, 1) := by decide +kernel
theorem dJ9_floorMod_7cf53_5 : decode cJ9_floorMod_7cf53 5 = .ok (.iload_n 1, 1) := by decide +kernel
theorem dJ9_floorMod_7cf53_6 : decode cJ9_floorMod_7cf53 6 = .ok (.ixor, 1) := by decide +kernel
theorem dJ9_floorMod_7cf53_7 : decode cJ9_floorMod_7cf53 7 = .ok (.ifCond .ge 11, 3) := by decide +kernel
theorem dJ9_floorMod_7cf53_10 : decode cJ9_floorMod_7cf53 10 = .ok (.iload_n 2, 1) := by decide +kernel
theorem dJ9_floorMod_7cf53_11 : decode cJ9_floorMod_7cf53 11 = .ok (.ifCond .eq 7, 3) := by decide +kernel
theorem dJ9_floorMod_7cf53_14 : decode cJ9_floorMod_7cf53 14 = .ok (.iload_n 2, 1) := by decide +kernel
theorem dJ9_floorMod_7cf53_15 : decode cJ9_floorMod_7cf53 15 = .ok (.iload_n 1, 1) := by decide +kernel
theorem dJ9_floorMod_7cf53_16 : decode cJ9_floorMod_7cf53 16 = .ok (.iadd, 1) := by decide +kernel
theorem dJ9_floorMod_7cf53_17 : decode cJ9_floorMod_7cf53 17 = .ok (.ireturn, 1) := by decide +kernel
theorem dJ9_floorMod_7cf53_18 : decode cJ9_floorMod_7cf53 18 = .ok (.iload_n 2, 1) := by decide +kernel
theorem dJ9_floorMod_7cf53_19 : decode cJ9_floorMod_7cf53 19 = .ok (.ireturn, 1) := by decide +kernel
theorem dJ9_max_7cf53_0 : decode cJ9_max_7cf53 0 = .ok (.iload_n 0, 1) := by decide +kernel
theorem dJ9_max_7cf53_1 : decode cJ9_max_7cf53 1 = .ok (.iload_n 1, 1) := by decide +kernel
theorem dJ9_max_7cf53_2 : decode cJ9_max_7cf53 2 = .ok (.if_icmp .lt 7, 3) := by decide +kernel
theorem dJ9_max_7cf53_5 : decode cJ9_max_7cf53 5 = .ok (.iload_n 0, 1) := by decide +kernel
theorem dJ9_max_7cf53_6 : decode cJ9_max_7cf53 6 = .ok (.goto 4, 3) := by decide +kernel
theorem dJ9_max_7cf53_9 : decode cJ9_max_7cf53 9 = .ok (.iload_n 1, 1) := by decide +kernel
theorem dJ9_max_7cf53_10 : decode cJ9_max_7cf53 10 = .ok (.ireturn, 1) := by decide +kernel
theorem dJ9_min_7cf53_0 : decode cJ9_min_7cf53 0 = .ok (.iload_n 0, 1) := by decide +kernel
theorem dJ9_min_7cf53_1 : decode cJ9_min_7cf53 1 = .ok (.iload_n 1, 1) := by decide +kernel
theorem dJ9_min_7cf53_2 : decode cJ9_min_7cf53 2 = .ok (.if_icmp .gt 7, 3) := by decide +kernel
theorem dJ9_min_7cf53_5 : decode cJ9_min_7cf53 5 = .ok (.iload_n 0, 1) := by decide +kernel
theorem dJ9_min_7cf53_6 : decode cJ9_min_7cf53 6 = .ok (.goto 4, 3) := by decide +kernel
theorem dJ9_min_7cf53_9 : decode cJ9_min_7cf53 9 = .ok (.iload_n 1, 1) := by decide +kernel
theorem dJ9_min_7cf53_10 : decode cJ9_min_7cf53 10 = .ok (.ireturn, 1) := by decide +kernel
end
section
theorem dX8_init_0 : decode cX8_init 0 = .ok (.aload_n 0, 1) := by decide +kernel
theorem dX8_init_1 : decode cX8_init 1 = .ok (.invokespecial 1, 3) := by decide +kernel
theorem dX8_init_4 : decode cX8_init 4 = .ok (.new 7, 3) := by decide +kernel
theorem dX8_init_7 : decode cX8_init 7 = .ok (.dup, 1) := by decide +kernel
theorem dX8_init_8 : decode cX8_init 8 = .ok (.invokespecial 9, 3) := by decide +kernel
theorem dX8_init_11 : decode cX8_init 11 = .ok (.astore_n 1, 1) := by decide +kernel
theorem dX8_init_12 : decode cX8_init 12 = .ok (.aload_n 0, 1) := by decide +kernel
theorem dX8_init_13 : decode cX8_init 13 = .ok (.new 10, 3) := by decide +kernel
theorem dX8_init_16 : decode cX8_init 16 = .ok (.dup, 1) := by decide +kernel
theorem dX8_init_17 : decode cX8_init 17 = .ok (.invokespecial 12, 3) := by decide +kernel
theorem dX8_init_20 : decode cX8_init 20 = .ok (.putfield 13, 3) := by decide +kernel
theorem dX8_init_23 : decode cX8_init 23 = .ok (.aload_n 0, 1) := by decide +kernel
theorem dX8_init_24 : decode cX8_init 24 = .ok (.new 19, 3) := by decide +kernel
theorem dX8_init_27 : decode cX8_init 27 = .ok (.dup, 1) := by decide +kernel
theorem dX8_init_28 : decode cX8_init 28 = .ok (.aload_n 0, 1) := by decide +kernel
theorem dX8_init_29 : decode cX8_init 29 = .ok (.getfield 13, 3) := by decide +kernel
theorem dX8_init_32 : decode cX8_init 32 = .ok (.invokespecial 21, 3) := by decide +kernel
theorem dX8_init_35 : decode cX8_init 35 = .ok (.putfield 24, 3) := by decide +kernel
theorem dX8_init_38 : decode cX8_init 38 = .ok (.aload_n 0, 1) := by decide +kernel
theorem dX8_init_39 : decode cX8_init 39 = .ok (.bipush 10, 2) := by decide +kernel
theorem dX8_init_41 : decode cX8_init 41 = .ok (.anewarray 28, 3) := by decide +kernel
theorem dX8_init_44 : decode cX8_init 44 = .ok (.putfield 30, 3) := by decide +kernel
theorem dX8_init_47 : decode cX8_init 47 = .ok (.iconst 0, 1) := by decide +kernel
theorem dX8_init_48 : decode cX8_init 48 = .ok (.istore_n 2, 1) := by decide +kernel
theorem dX8_init_49 : decode cX8_init 49 = .ok (.iload_n 2, 1) := by decide +kernel
theorem dX8_init_50 : decode cX8_init 50 = .ok (.bipush 10, 2) := by decide +kernel
theorem dX8_init_52 : decode cX8_init 52 = .ok (.if_icmp .ge 22, 3) := by decide +kernel
theorem dX8_init_55 : decode cX8_init 55 = .ok (.aload_n 0, 1) := by decide +kernel
theorem dX8_init_56 : decode cX8_init 56 = .ok (.getfield 30, 3) := by decide +kernel
theorem dX8_init_59 : decode cX8_init 59 = .ok (.iload_n 2, 1) := by decide +kernel
theorem dX8_init_60 : decode cX8_init 60 = .ok (.new 28, 3) := by decide +kernel
theorem dX8_init_63 : decode cX8_init 63 = .ok (.dup, 1) := by decide +kernel
theorem dX8_init_64 : decode cX8_init 64 = .ok (.invokespecial 34, 3) := by decide +kernel
theorem dX8_init_67 : decode cX8_init 67 = .ok (.aastore, 1) := by decide +kernel
theorem dX8_init_68 : decode cX8_init 68 = .ok (.iinc 2 1, 3) := by decide +kernel
theorem dX8_init_71 : decode cX8_init 71 = .ok (.goto (-22), 3) := by decide +kernel
theorem dX8_init_74 : decode cX8_init 74 = .ok (.aload_n 0, 1) := by decide +kernel
theorem dX8_init_75 : decode cX8_init 75 = .ok (.new 35, 3) := by decide +kernel
theorem dX8_init_78 : decode cX8_init 78 = .ok (.dup, 1) := by decide +kernel
theorem dX8_init_79 : decode cX8_init 79 = .ok (.aload_n 1, 1) := by decide +kernel
theorem dX8_init_80 : decode cX8_init 80 = .ok (.invokespecial 37, 3) := by decide +kernel
theorem dX8_init_83 : decode cX8_init 83 = .ok (.putfield 40, 3) := by decide +kernel
theorem dX8_init_86 : decode cX8_init 86 = .ok (.aload_n 0, 1) := by decide +kernel
theorem dX8_init_87 : decode cX8_init 87 = .ok (.new 44, 3) := by decide +kernel
theorem dX8_init_90 : decode cX8_init 90 = .ok (.dup, 1) := by decide +kernel
theorem dX8_init_91 : decode cX8_init 91 = .ok (.aload_n 1, 1) := by decide +kernel
theorem dX8_init_92 : decode cX8_init 92 = .ok (.invokespecial 46, 3) := by decide +kernel
theorem dX8_init_95 : decode cX8_init 95 = .ok (.putfield 47, 3) := by decide +kernel
theorem dX8_init_98 : decode cX8_init 98 = .ok (.aload_n 0, 1) := by decide +kernel
theorem dX8_init_99 : decode cX8_init 99 = .ok (.iconst 0, 1) := by decide +kernel
theorem dX8_init_100 : decode cX8_init 100 = .ok (.putfield 51, 3) := by decide +kernel
theorem dX8_init_103 : decode cX8_init 103 = .ok (.aload_n 0, 1) := by decide +kernel
theorem dX8_init_104 : decode cX8_init 104 = .ok (.ldc 55, 2) := by decide +kernel
theorem dX8_init_106 : decode cX8_init 106 = .ok (.putfield 56, 3) := by decide +kernel
theorem dX8_init_109 : decode cX8_init 109 = .ok (.return_, 1) := by decide +kernel
theorem dX8_object_0 : decode cX8_object 0 = .ok (.aload_n 0, 1) := by decide +kernel
theorem dX8_object_1 : decode cX8_object 1 = .ok (.getfield 13, 3) := by decide +kernel
theorem dX8_object_4 : decode cX8_object 4 = .ok (.getfield 59, 3) := by decide +kernel
theorem dX8_object_7 : decode cX8_object 7 = .ok (.bipush 120, 2) := by decide +kernel
theorem dX8_object_9 : decode cX8_object 9 = .ok (.if_icmp .lt 6, 3) := by decide +kernel
theorem dX8_object_12 : decode cX8_object 12 = .ok (.ldc 62, 2) := by decide +kernel
theorem dX8_object_14 : decode cX8_object 14 = .ok (.ireturn, 1) := by decide +kernel
theorem dX8_object_15 : decode cX8_object 15 = .ok (.aload_n 0, 1) := by decide +kernel
theorem dX8_object_16 : decode cX8_object 16 = .ok (.invokevirtual 63, 3) := by decide +kernel
theorem dX8_object_19 : decode cX8_object 19 = .ok (.aload_n 0, 1) := by decide +kernel
theorem dX8_object_20 : decode cX8_object 20 = .ok (.getfield 13, 3) := by decide +kernel
theorem dX8_object_23 : decode cX8_object 23 = .ok (.invokevirtual 66, 3) := by decide +kernel
theorem dX8_object_26 : decode cX8_object 26 = .ok (.ireturn, 1) := by decide +kernel
theorem dX8_value_0 : decode cX8_value 0 = .ok (.aload_n 0, 1) := by decide +kernel
theorem dX8_value_1 : decode cX8_value 1 = .ok (.getfield 13, 3) := by decide +kernel
theorem dX8_value_4 : decode cX8_value 4 = .ok (.iload_n 1, 1) := by decide +kernel
theorem dX8_value_5 : decode cX8_value 5 = .ok (.invokevirtual 70, 3) := by decide +kernel
theorem dX8_value_8 : decode cX8_value 8 = .ok (.ifCond .eq 17, 3) := by decide +kernel
theorem dX8_value_11 : decode cX8_value 11 = .ok (.iload_n 2, 1) := by decide +kernel
theorem dX8_value_12 : decode cX8_value 12 = .ok (.invokestatic 74, 3) := by decide +kernel
theorem dX8_value_15 : decode cX8_value 15 = .ok (.ifCond .eq 10, 3) := by decide +kernel
theorem dX8_value_18 : decode cX8_value 18 = .ok (.iload_n 3, 1) := by decide +kernel
theorem dX8_value_19 : decode cX8_value 19 = .ok (.invokestatic 77, 3) := by decide +kernel
theorem dX8_value_22 : decode cX8_value 22 = .ok (.ifCond .ne 6, 3) := by decide +kernel
theorem dX8_value_25 : decode cX8_value 25 = .ok (.ldc 80, 2) := by decide +kernel
theorem dX8_value_27 : decode cX8_value 27 = .ok (.ireturn, 1) := by decide +kernel
theorem dX8_value_28 : decode cX8_value 28 = .ok (.aload_n 0, 1) := by decide +kernel
theorem dX8_value_29 : decode cX8_value 29 = .ok (.getfield 13, 3) := by decide +kernel
theorem dX8_value_32 : decode cX8_value 32 = .ok (.iload_n 1, 1) := by decide +kernel
theorem dX8_value_33 : decode cX8_value 33 = .ok (.iload_n 2, 1) := by decide +kernel
theorem dX8_value_34 : decode cX8_value 34 = .ok (.invokevirtual 81, 3) := by decide +kernel
theorem dX8_value_37 : decode cX8_value 37 = .ok (.iconst 3, 1) := by decide +kernel
theorem dX8_value_38 : decode cX8_value 38 = .ok (.if_icmp .lt 6, 3) := by decide +kernel
theorem dX8_value_41 : decode cX8_value 41 = .ok (.ldc 62, 2) := by decide +kernel
theorem dX8_value_43 : decode cX8_value 43 = .ok (.ireturn, 1) := by decide +kernel
theorem dX8_value_44 : decode cX8_value 44 = .ok (.aload_n 0, 1) := by decide +kernel
theorem dX8_value_45 : decode cX8_value 45 = .ok (.invokevirtual 63, 3) := by decide +kernel
theorem dX8_value_48 : decode cX8_value 48 = .ok (.aload_n 0, 1) := by decide +kernel
theorem dX8_value_49 : decode cX8_value 49 = .ok (.getfield 13, 3) := by decide +kernel
theorem dX8_value_52 : decode cX8_value 52 = .ok (.iload_n 1, 1) := by decide +kernel
theorem dX8_value_53 : decode cX8_value 53 = .ok (.iload_n 2, 1) := by decide +kernel
theorem dX8_value_54 : decode cX8_value 54 = .ok (.iload_n 3, 1) := by decide +kernel
theorem dX8_value_55 : decode cX8_value 55 = .ok (.invokevirtual 85, 3) := by decide +kernel
theorem dX8_value_58 : decode cX8_value 58 = .ok (.ireturn, 1) := by decide +kernel
theorem dX8_match_0 : decode cX8_match 0 = .ok (.aload_n 0, 1) := by decide +kernel
theorem dX8_match_1 : decode cX8_match 1 = .ok (.getfield 13, 3) := by decide +kernel
theorem dX8_match_4 : decode cX8_match 4 = .ok (.iload_n 1, 1) := by decide +kernel
theorem dX8_match_5 : decode cX8_match 5 = .ok (.invokevirtual 70, 3) := by decide +kernel
theorem dX8_match_8 : decode cX8_match 8 = .ok (.ifCond .ne 6, 3) := by decide +kernel
theorem dX8_match_11 : decode cX8_match 11 = .ok (.ldc 80, 2) := by decide +kernel
theorem dX8_match_13 : decode cX8_match 13 = .ok (.ireturn, 1) := by decide +kernel
theorem dX8_match_14 : decode cX8_match 14 = .ok (.aload_n 0, 1) := by decide +kernel
theorem dX8_match_15 : decode cX8_match 15 = .ok (.invokevirtual 63, 3) := by decide +kernel
theorem dX8_match_18 : decode cX8_match 18 = .ok (.aload_n 0, 1) := by decide +kernel
theorem dX8_match_19 : decode cX8_match 19 = .ok (.getfield 13, 3) := by decide +kernel
theorem dX8_match_22 : decode cX8_match 22 = .ok (.getfield 89, 3) := by decide +kernel
theorem dX8_match_25 : decode cX8_match 25 = .ok (.iload_n 1, 1) := by decide +kernel
theorem dX8_match_26 : decode cX8_match 26 = .ok (.baload, 1) := by decide +kernel
theorem dX8_match_27 : decode cX8_match 27 = .ok (.istore_n 3, 1) := by decide +kernel
theorem dX8_match_28 : decode cX8_match 28 = .ok (.aload_n 0, 1) := by decide +kernel
theorem dX8_match_29 : decode cX8_match 29 = .ok (.getfield 13, 3) := by decide +kernel
theorem dX8_match_32 : decode cX8_match 32 = .ok (.getfield 89, 3) := by decide +kernel
theorem dX8_match_35 : decode cX8_match 35 = .ok (.iload_n 1, 1) := by decide +kernel
theorem dX8_match_36 : decode cX8_match 36 = .ok (.iload_n 2, 1) := by decide +kernel
theorem dX8_match_37 : decode cX8_match 37 = .ok (.bastore, 1) := by decide +kernel
theorem dX8_match_38 : decode cX8_match 38 = .ok (.iload_n 3, 1) := by decide +kernel
theorem dX8_match_39 : decode cX8_match 39 = .ok (.ifCond .eq 7, 3) := by decide +kernel
theorem dX8_match_42 : decode cX8_match 42 = .ok (.iconst 1, 1) := by decide +kernel
theorem dX8_match_43 : decode cX8_match 43 = .ok (.goto 4, 3) := by decide +kernel
theorem dX8_match_46 : decode cX8_match 46 = .ok (.iconst 0, 1) := by decide +kernel
theorem dX8_match_47 : decode cX8_match 47 = .ok (.ireturn, 1) := by decide +kernel
theorem dX8_clear_0 : decode cX8_clear 0 = .ok (.aload_n 0, 1) := by decide +kernel
theorem dX8_clear_1 : decode cX8_clear 1 = .ok (.getfield 13, 3) := by decide +kernel
theorem dX8_clear_4 : decode cX8_clear 4 = .ok (.getfield 59, 3) := by decide +kernel
theorem dX8_clear_7 : decode cX8_clear 7 = .ok (.istore_n 1, 1) := by decide +kernel
theorem dX8_clear_8 : decode cX8_clear 8 = .ok (.aload_n 0, 1) := by decide +kernel
theorem dX8_clear_9 : decode cX8_clear 9 = .ok (.invokevirtual 63, 3) := by decide +kernel
theorem dX8_clear_12 : decode cX8_clear 12 = .ok (.aload_n 0, 1) := by decide +kernel
theorem dX8_clear_13 : decode cX8_clear 13 = .ok (.getfield 13, 3) := by decide +kernel
theorem dX8_clear_16 : decode cX8_clear 16 = .ok (.iconst 0, 1) := by decide +kernel
theorem dX8_clear_17 : decode cX8_clear 17 = .ok (.putfield 59, 3) := by decide +kernel
theorem dX8_clear_20 : decode cX8_clear 20 = .ok (.aload_n 0, 1) := by decide +kernel
theorem dX8_clear_21 : decode cX8_clear 21 = .ok (.iconst 0, 1) := by decide +kernel
theorem dX8_clear_22 : decode cX8_clear 22 = .ok (.putfield 51, 3) := by decide +kernel
theorem dX8_clear_25 : decode cX8_clear 25 = .ok (.iload_n 1, 1) := by decide +kernel
theorem dX8_clear_26 : decode cX8_clear 26 = .ok (.ireturn, 1) := by decide +kernel
theorem dX8_facet_0 : decode cX8_facet 0 = .ok (.iload_n 1, 1) := by decide +kernel
theorem dX8_facet_1 : decode cX8_facet 1 = .ok (.ifCond .lt 15, 3) := by decide +kernel
theorem dX8_facet_4 : decode cX8_facet 4 = .ok (.iload_n 1, 1) := by decide +kernel
theorem dX8_facet_5 : decode cX8_facet 5 = .ok (.iconst 4, 1) := by decide +kernel
theorem dX8_facet_6 : decode cX8_facet 6 = .ok (.if_icmp .gt 10, 3) := by decide +kernel
theorem dX8_facet_9 : decode cX8_facet 9 = .ok (.iload_n 2, 1) := by decide +kernel
theorem dX8_facet_10 : decode cX8_facet 10 = .ok (.invokestatic 74, 3) := by decide +kernel
theorem dX8_facet_13 : decode cX8_facet 13 = .ok (.ifCond .ne 6, 3) := by decide +kernel
theorem dX8_facet_16 : decode cX8_facet 16 = .ok (.ldc 80, 2) := by decide +kernel
theorem dX8_facet_18 : decode cX8_facet 18 = .ok (.ireturn, 1) := by decide +kernel
theorem dX8_facet_19 : decode cX8_facet 19 = .ok (.iload_n 1, 1) := by decide +kernel
theorem dX8_facet_20 : decode cX8_facet 20 = .ok (.iconst 3, 1) := by decide +kernel
theorem dX8_facet_21 : decode cX8_facet 21 = .ok (.if_icmp .ne 28, 3) := by decide +kernel
theorem dX8_facet_24 : decode cX8_facet 24 = .ok (.iload_n 3, 1) := by decide +kernel
theorem dX8_facet_25 : decode cX8_facet 25 = .ok (.iconst 1, 1) := by decide +kernel
theorem dX8_facet_26 : decode cX8_facet 26 = .ok (.if_icmp .lt 20, 3) := by decide +kernel
theorem dX8_facet_29 : decode cX8_facet 29 = .ok (.iload_n 3, 1) := by decide +kernel
theorem dX8_facet_30 : decode cX8_facet 30 = .ok (.ldc 93, 2) := by decide +kernel
theorem dX8_facet_32 : decode cX8_facet 32 = .ok (.if_icmp .gt 14, 3) := by decide +kernel
theorem dX8_facet_35 : decode cX8_facet 35 = .ok (.iload 4, 2) := by decide +kernel
theorem dX8_facet_37 : decode cX8_facet 37 = .ok (.ifCond .lt 9, 3) := by decide +kernel
theorem dX8_facet_40 : decode cX8_facet 40 = .ok (.iload 4, 2) := by decide +kernel
theorem dX8_facet_42 : decode cX8_facet 42 = .ok (.iload_n 3, 1) := by decide +kernel
theorem dX8_facet_43 : decode cX8_facet 43 = .ok (.if_icmp .lt 6, 3) := by decide +kernel
theorem dX8_facet_46 : decode cX8_facet 46 = .ok (.ldc 80, 2) := by decide +kernel
theorem dX8_facet_48 : decode cX8_facet 48 = .ok (.ireturn, 1) := by decide +kernel
theorem dX8_facet_49 : decode cX8_facet 49 = .ok (.iload_n 1, 1) := by decide +kernel
theorem dX8_facet_50 : decode cX8_facet 50 = .ok (.iconst 4, 1) := by decide +kernel
theorem dX8_facet_51 : decode cX8_facet 51 = .ok (.if_icmp .ne 15, 3) := by decide +kernel
theorem dX8_facet_54 : decode cX8_facet 54 = .ok (.iload_n 3, 1) := by decide +kernel
theorem dX8_facet_55 : decode cX8_facet 55 = .ok (.ifCond .lt 8, 3) := by decide +kernel
theorem dX8_facet_58 : decode cX8_facet 58 = .ok (.iload_n 3, 1) := by decide +kernel
theorem dX8_facet_59 : decode cX8_facet 59 = .ok (.iconst 4, 1) := by decide +kernel
theorem dX8_facet_60 : decode cX8_facet 60 = .ok (.if_icmp .le 6, 3) := by decide +kernel
theorem dX8_facet_63 : decode cX8_facet 63 = .ok (.ldc 80, 2) := by decide +kernel
theorem dX8_facet_65 : decode cX8_facet 65 = .ok (.ireturn, 1) := by decide +kernel
theorem dX8_facet_66 : decode cX8_facet 66 = .ok (.aload_n 0, 1) := by decide +kernel
theorem dX8_facet_67 : decode cX8_facet 67 = .ok (.getfield 51, 3) := by decide +kernel
theorem dX8_facet_70 : decode cX8_facet 70 = .ok (.bipush 10, 2) := by decide +kernel
theorem dX8_facet_72 : decode cX8_facet 72 = .ok (.if_icmp .lt 6, 3) := by decide +kernel
theorem dX8_facet_75 : decode cX8_facet 75 = .ok (.ldc 62, 2) := by decide +kernel
theorem dX8_facet_77 : decode cX8_facet 77 = .ok (.ireturn, 1) := by decide +kernel
theorem dX8_facet_78 : decode cX8_facet 78 = .ok (.aload_n 0, 1) := by decide +kernel
theorem dX8_facet_79 : decode cX8_facet 79 = .ok (.invokevirtual 63, 3) := by decide +kernel
theorem dX8_facet_82 : decode cX8_facet 82 = .ok (.aload_n 0, 1) := by decide +kernel
theorem dX8_facet_83 : decode cX8_facet 83 = .ok (.getfield 30, 3) := by decide +kernel
theorem dX8_facet_86 : decode cX8_facet 86 = .ok (.aload_n 0, 1) := by decide +kernel
theorem dX8_facet_87 : decode cX8_facet 87 = .ok (.getfield 51, 3) := by decide +kernel
theorem dX8_facet_90 : decode cX8_facet 90 = .ok (.aaload, 1) := by decide +kernel
theorem dX8_facet_91 : decode cX8_facet 91 = .ok (.iload_n 1, 1) := by decide +kernel
theorem dX8_facet_92 : decode cX8_facet 92 = .ok (.iload_n 2, 1) := by decide +kernel
theorem dX8_facet_93 : decode cX8_facet 93 = .ok (.iload_n 3, 1) := by decide +kernel
theorem dX8_facet_94 : decode cX8_facet 94 = .ok (.iload 4, 2) := by decide +kernel
theorem dX8_facet_96 : decode cX8_facet 96 = .ok (.invokevirtual 96, 3) := by decide +kernel
theorem dX8_facet_99 : decode cX8_facet 99 = .ok (.aload_n 0, 1) := by decide +kernel
theorem dX8_facet_100 : decode cX8_facet 100 = .ok (.dup, 1) := by decide +kernel
theorem dX8_facet_101 : decode cX8_facet 101 = .ok (.getfield 51, 3) := by decide +kernel
theorem dX8_facet_104 : decode cX8_facet 104 = .ok (.iconst 1, 1) := by decide +kernel
theorem dX8_facet_105 : decode cX8_facet 105 = .ok (.iadd, 1) := by decide +kernel
theorem dX8_facet_106 : decode cX8_facet 106 = .ok (.putfield 51, 3) := by decide +kernel
theorem dX8_facet_109 : decode cX8_facet 109 = .ok (.aload_n 0, 1) := by decide +kernel
theorem dX8_facet_110 : decode cX8_facet 110 = .ok (.getfield 51, 3) := by decide +kernel
theorem dX8_facet_113 : decode cX8_facet 113 = .ok (.iconst 1, 1) := by decide +kernel
theorem dX8_facet_114 : decode cX8_facet 114 = .ok (.isub, 1) := by decide +kernel
theorem dX8_facet_115 : decode cX8_facet 115 = .ok (.ireturn, 1) := by decide +kernel
theorem dX8_range_0 : decode cX8_range 0 = .ok (.aload_n 0, 1) := by decide +kernel
theorem dX8_range_1 : decode cX8_range 1 = .ok (.iload_n 1, 1) := by decide +kernel
theorem dX8_range_2 : decode cX8_range 2 = .ok (.invokevirtual 100, 3) := by decide +kernel
theorem dX8_range_5 : decode cX8_range 5 = .ok (.astore 4, 2) := by decide +kernel
theorem dX8_range_7 : decode cX8_range 7 = .ok (.aload 4, 2) := by decide +kernel
theorem dX8_range_9 : decode cX8_range 9 = .ok (.ifnull 22, 3) := by decide +kernel
theorem dX8_range_12 : decode cX8_range 12 = .ok (.iload_n 2, 1) := by decide +kernel
theorem dX8_range_13 : decode cX8_range 13 = .ok (.invokestatic 77, 3) := by decide +kernel
theorem dX8_range_16 : decode cX8_range 16 = .ok (.ifCond .eq 15, 3) := by decide +kernel
theorem dX8_range_19 : decode cX8_range 19 = .ok (.iload_n 3, 1) := by decide +kernel
theorem dX8_range_20 : decode cX8_range 20 = .ok (.invokestatic 77, 3) := by decide +kernel
theorem dX8_range_23 : decode cX8_range 23 = .ok (.ifCond .eq 8, 3) := by decide +kernel
theorem dX8_range_26 : decode cX8_range 26 = .ok (.iload_n 2, 1) := by decide +kernel
theorem dX8_range_27 : decode cX8_range 27 = .ok (.iload_n 3, 1) := by decide +kernel
theorem dX8_range_28 : decode cX8_range 28 = .ok (.if_icmp .le 6, 3) := by decide +kernel
theorem dX8_range_31 : decode cX8_range 31 = .ok (.ldc 80, 2) := by decide +kernel
theorem dX8_range_33 : decode cX8_range 33 = .ok (.ireturn, 1) := by decide +kernel
theorem dX8_range_34 : decode cX8_range 34 = .ok (.aload 4, 2) := by decide +kernel
theorem dX8_range_36 : decode cX8_range 36 = .ok (.getfield 104, 3) := by decide +kernel
theorem dX8_range_39 : decode cX8_range 39 = .ok (.iconst 2, 1) := by decide +kernel
theorem dX8_range_40 : decode cX8_range 40 = .ok (.if_icmp .eq 6, 3) := by decide +kernel
theorem dX8_range_43 : decode cX8_range 43 = .ok (.ldc 107, 2) := by decide +kernel
theorem dX8_range_45 : decode cX8_range 45 = .ok (.ireturn, 1) := by decide +kernel
theorem dX8_range_46 : decode cX8_range 46 = .ok (.aload 4, 2) := by decide +kernel
theorem dX8_range_48 : decode cX8_range 48 = .ok (.getfield 108, 3) := by decide +kernel
theorem dX8_range_51 : decode cX8_range 51 = .ok (.bipush 6, 2) := by decide +kernel
theorem dX8_range_53 : decode cX8_range 53 = .ok (.if_icmp .lt 6, 3) := by decide +kernel
theorem dX8_range_56 : decode cX8_range 56 = .ok (.ldc 62, 2) := by decide +kernel
theorem dX8_range_58 : decode cX8_range 58 = .ok (.ireturn, 1) := by decide +kernel
theorem dX8_range_59 : decode cX8_range 59 = .ok (.aload_n 0, 1) := by decide +kernel
theorem dX8_range_60 : decode cX8_range 60 = .ok (.invokevirtual 63, 3) := by decide +kernel
theorem dX8_range_63 : decode cX8_range 63 = .ok (.aload 4, 2) := by decide +kernel
theorem dX8_range_65 : decode cX8_range 65 = .ok (.iload_n 2, 1) := by decide +kernel
theorem dX8_range_66 : decode cX8_range 66 = .ok (.iload_n 3, 1) := by decide +kernel
theorem dX8_range_67 : decode cX8_range 67 = .ok (.invokevirtual 111, 3) := by decide +kernel
theorem dX8_range_70 : decode cX8_range 70 = .ok (.ireturn, 1) := by decide +kernel
theorem dX8_filter_0 : decode cX8_filter 0 = .ok (.aload_n 0, 1) := by decide +kernel
theorem dX8_filter_1 : decode cX8_filter 1 = .ok (.iload_n 1, 1) := by decide +kernel
theorem dX8_filter_2 : decode cX8_filter 2 = .ok (.invokevirtual 100, 3) := by decide +kernel
theorem dX8_filter_5 : decode cX8_filter 5 = .ok (.astore 5, 2) := by decide +kernel
theorem dX8_filter_7 : decode cX8_filter 7 = .ok (.aload 5, 2) := by decide +kernel
theorem dX8_filter_9 : decode cX8_filter 9 = .ok (.ifnull 22, 3) := by decide +kernel
theorem dX8_filter_12 : decode cX8_filter 12 = .ok (.iload_n 2, 1) := by decide +kernel
theorem dX8_filter_13 : decode cX8_filter 13 = .ok (.ldc 55, 2) := by decide +kernel
theorem dX8_filter_15 : decode cX8_filter 15 = .ok (.if_icmp .eq 19, 3) := by decide +kernel
theorem dX8_filter_18 : decode cX8_filter 18 = .ok (.iload_n 2, 1) := by decide +kernel
theorem dX8_filter_19 : decode cX8_filter 19 = .ok (.invokestatic 74, 3) := by decide +kernel
theorem dX8_filter_22 : decode cX8_filter 22 = .ok (.ifCond .eq 9, 3) := by decide +kernel
theorem dX8_filter_25 : decode cX8_filter 25 = .ok (.iload_n 3, 1) := by decide +kernel
theorem dX8_filter_26 : decode cX8_filter 26 = .ok (.iload 4, 2) := by decide +kernel
theorem dX8_filter_28 : decode cX8_filter 28 = .ok (.if_icmp .le 6, 3) := by decide +kernel
theorem dX8_filter_31 : decode cX8_filter 31 = .ok (.ldc 80, 2) := by decide +kernel
theorem dX8_filter_33 : decode cX8_filter 33 = .ok (.ireturn, 1) := by decide +kernel
theorem dX8_filter_34 : decode cX8_filter 34 = .ok (.aload_n 0, 1) := by decide +kernel
theorem dX8_filter_35 : decode cX8_filter 35 = .ok (.invokevirtual 63, 3) := by decide +kernel
theorem dX8_filter_38 : decode cX8_filter 38 = .ok (.aload 5, 2) := by decide +kernel
theorem dX8_filter_40 : decode cX8_filter 40 = .ok (.getfield 114, 3) := by decide +kernel
theorem dX8_filter_43 : decode cX8_filter 43 = .ok (.ldc 55, 2) := by decide +kernel
theorem dX8_filter_45 : decode cX8_filter 45 = .ok (.if_icmp .eq 7, 3) := by decide +kernel
theorem dX8_filter_48 : decode cX8_filter 48 = .ok (.iconst 1, 1) := by decide +kernel
theorem dX8_filter_49 : decode cX8_filter 49 = .ok (.goto 4, 3) := by decide +kernel
theorem dX8_filter_52 : decode cX8_filter 52 = .ok (.iconst 0, 1) := by decide +kernel
theorem dX8_filter_53 : decode cX8_filter 53 = .ok (.istore 6, 2) := by decide +kernel
theorem dX8_filter_55 : decode cX8_filter 55 = .ok (.aload 5, 2) := by decide +kernel
theorem dX8_filter_57 : decode cX8_filter 57 = .ok (.iload_n 2, 1) := by decide +kernel
theorem dX8_filter_58 : decode cX8_filter 58 = .ok (.putfield 114, 3) := by decide +kernel
theorem dX8_filter_61 : decode cX8_filter 61 = .ok (.aload 5, 2) := by decide +kernel
theorem dX8_filter_63 : decode cX8_filter 63 = .ok (.iload_n 3, 1) := by decide +kernel
theorem dX8_filter_64 : decode cX8_filter 64 = .ok (.putfield 117, 3) := by decide +kernel
theorem dX8_filter_67 : decode cX8_filter 67 = .ok (.aload 5, 2) := by decide +kernel
theorem dX8_filter_69 : decode cX8_filter 69 = .ok (.iload 4, 2) := by decide +kernel
theorem dX8_filter_71 : decode cX8_filter 71 = .ok (.putfield 120, 3) := by decide +kernel
theorem dX8_filter_74 : decode cX8_filter 74 = .ok (.iload 6, 2) := by decide +kernel
theorem dX8_filter_76 : decode cX8_filter 76 = .ok (.ireturn, 1) := by decide +kernel
theorem dX8_least_0 : decode cX8_least 0 = .ok (.aload_n 0, 1) := by decide +kernel
theorem dX8_least_1 : decode cX8_least 1 = .ok (.iload_n 1, 1) := by decide +kernel
theorem dX8_least_2 : decode cX8_least 2 = .ok (.invokevirtual 100, 3) := by decide +kernel
theorem dX8_least_5 : decode cX8_least 5 = .ok (.astore_n 3, 1) := by decide +kernel
theorem dX8_least_6 : decode cX8_least 6 = .ok (.aload_n 3, 1) := by decide +kernel
theorem dX8_least_7 : decode cX8_least 7 = .ok (.ifnull 13, 3) := by decide +kernel
theorem dX8_least_10 : decode cX8_least 10 = .ok (.iload_n 2, 1) := by decide +kernel
theorem dX8_least_11 : decode cX8_least 11 = .ok (.ifCond .lt 9, 3) := by decide +kernel
theorem dX8_least_14 : decode cX8_least 14 = .ok (.iload_n 2, 1) := by decide +kernel
theorem dX8_least_15 : decode cX8_least 15 = .ok (.bipush 120, 2) := by decide +kernel
theorem dX8_least_17 : decode cX8_least 17 = .ok (.if_icmp .le 6, 3) := by decide +kernel
theorem dX8_least_20 : decode cX8_least 20 = .ok (.ldc 80, 2) := by decide +kernel
theorem dX8_least_22 : decode cX8_least 22 = .ok (.ireturn, 1) := by decide +kernel
theorem dX8_least_23 : decode cX8_least 23 = .ok (.aload_n 0, 1) := by decide +kernel
theorem dX8_least_24 : decode cX8_least 24 = .ok (.invokevirtual 63, 3) := by decide +kernel
theorem dX8_least_27 : decode cX8_least 27 = .ok (.aload_n 3, 1) := by decide +kernel
theorem dX8_least_28 : decode cX8_least 28 = .ok (.getfield 123, 3) := by decide +kernel
theorem dX8_least_31 : decode cX8_least 31 = .ok (.istore 4, 2) := by decide +kernel
theorem dX8_least_33 : decode cX8_least 33 = .ok (.aload_n 3, 1) := by decide +kernel
theorem dX8_least_34 : decode cX8_least 34 = .ok (.iload_n 2, 1) := by decide +kernel
theorem dX8_least_35 : decode cX8_least 35 = .ok (.putfield 123, 3) := by decide +kernel
theorem dX8_least_38 : decode cX8_least 38 = .ok (.iload 4, 2) := by decide +kernel
theorem dX8_least_40 : decode cX8_least 40 = .ok (.ireturn, 1) := by decide +kernel
theorem dX8_missing_0 : decode cX8_missing 0 = .ok (.aload_n 0, 1) := by decide +kernel
theorem dX8_missing_1 : decode cX8_missing 1 = .ok (.iload_n 1, 1) := by decide +kernel
theorem dX8_missing_2 : decode cX8_missing 2 = .ok (.invokevirtual 100, 3) := by decide +kernel
theorem dX8_missing_5 : decode cX8_missing 5 = .ok (.astore_n 3, 1) := by decide +kernel
theorem dX8_missing_6 : decode cX8_missing 6 = .ok (.aload_n 3, 1) := by decide +kernel
theorem dX8_missing_7 : decode cX8_missing 7 = .ok (.ifnonnull 6, 3) := by decide +kernel
theorem dX8_missing_10 : decode cX8_missing 10 = .ok (.ldc 80, 2) := by decide +kernel
theorem dX8_missing_12 : decode cX8_missing 12 = .ok (.ireturn, 1) := by decide +kernel
theorem dX8_missing_13 : decode cX8_missing 13 = .ok (.aload_n 0, 1) := by decide +kernel
theorem dX8_missing_14 : decode cX8_missing 14 = .ok (.invokevirtual 63, 3) := by decide +kernel
theorem dX8_missing_17 : decode cX8_missing 17 = .ok (.aload_n 3, 1) := by decide +kernel
theorem dX8_missing_18 : decode cX8_missing 18 = .ok (.getfield 126, 3) := by decide +kernel
theorem dX8_missing_21 : decode cX8_missing 21 = .ok (.istore 4, 2) := by decide +kernel
theorem dX8_missing_23 : decode cX8_missing 23 = .ok (.aload_n 3, 1) := by decide +kernel
theorem dX8_missing_24 : decode cX8_missing 24 = .ok (.iload_n 2, 1) := by decide +kernel
theorem dX8_missing_25 : decode cX8_missing 25 = .ok (.putfield 126, 3) := by decide +kernel
theorem dX8_missing_28 : decode cX8_missing 28 = .ok (.iload 4, 2) := by decide +kernel
theorem dX8_missing_30 : decode cX8_missing 30 = .ok (.ifCond .eq 7, 3) := by decide +kernel
theorem dX8_missing_33 : decode cX8_missing 33 = .ok (.iconst 1, 1) := by decide +kernel
theorem dX8_missing_34 : decode cX8_missing 34 = .ok (.goto 4, 3) := by decide +kernel
theorem dX8_missing_37 : decode cX8_missing 37 = .ok (.iconst 0, 1) := by decide +kernel
theorem dX8_missing_38 : decode cX8_missing 38 = .ok (.ireturn, 1) := by decide +kernel
theorem dX8_order_0 : decode cX8_order 0 = .ok (.aload_n 0, 1) := by decide +kernel
theorem dX8_order_1 : decode cX8_order 1 = .ok (.iload_n 1, 1) := by decide +kernel
theorem dX8_order_2 : decode cX8_order 2 = .ok (.invokevirtual 100, 3) := by decide +kernel
theorem dX8_order_5 : decode cX8_order 5 = .ok (.astore 4, 2) := by decide +kernel
theorem dX8_order_7 : decode cX8_order 7 = .ok (.aload 4, 2) := by decide +kernel
theorem dX8_order_9 : decode cX8_order 9 = .ok (.ifnull 24, 3) := by decide +kernel
theorem dX8_order_12 : decode cX8_order 12 = .ok (.iload_n 2, 1) := by decide +kernel
theorem dX8_order_13 : decode cX8_order 13 = .ok (.ifCond .lt 20, 3) := by decide +kernel
theorem dX8_order_16 : decode cX8_order 16 = .ok (.iload_n 2, 1) := by decide +kernel
theorem dX8_order_17 : decode cX8_order 17 = .ok (.iconst 2, 1) := by decide +kernel
theorem dX8_order_18 : decode cX8_order 18 = .ok (.if_icmp .gt 15, 3) := by decide +kernel
theorem dX8_order_21 : decode cX8_order 21 = .ok (.iload_n 2, 1) := by decide +kernel
theorem dX8_order_22 : decode cX8_order 22 = .ok (.iconst 2, 1) := by decide +kernel
theorem dX8_order_23 : decode cX8_order 23 = .ok (.if_icmp .ne 13, 3) := by decide +kernel
theorem dX8_order_26 : decode cX8_order 26 = .ok (.iload_n 3, 1) := by decide +kernel
theorem dX8_order_27 : decode cX8_order 27 = .ok (.invokestatic 74, 3) := by decide +kernel
theorem dX8_order_30 : decode cX8_order 30 = .ok (.ifCond .ne 6, 3) := by decide +kernel
theorem dX8_order_33 : decode cX8_order 33 = .ok (.ldc 80, 2) := by decide +kernel
theorem dX8_order_35 : decode cX8_order 35 = .ok (.ireturn, 1) := by decide +kernel
theorem dX8_order_36 : decode cX8_order 36 = .ok (.aload_n 0, 1) := by decide +kernel
theorem dX8_order_37 : decode cX8_order 37 = .ok (.invokevirtual 63, 3) := by decide +kernel
theorem dX8_order_40 : decode cX8_order 40 = .ok (.aload 4, 2) := by decide +kernel
theorem dX8_order_42 : decode cX8_order 42 = .ok (.getfield 130, 3) := by decide +kernel
theorem dX8_order_45 : decode cX8_order 45 = .ok (.istore 5, 2) := by decide +kernel
theorem dX8_order_47 : decode cX8_order 47 = .ok (.aload 4, 2) := by decide +kernel
theorem dX8_order_49 : decode cX8_order 49 = .ok (.iload_n 2, 1) := by decide +kernel
theorem dX8_order_50 : decode cX8_order 50 = .ok (.putfield 130, 3) := by decide +kernel
theorem dX8_order_53 : decode cX8_order 53 = .ok (.aload 4, 2) := by decide +kernel
theorem dX8_order_55 : decode cX8_order 55 = .ok (.iload_n 2, 1) := by decide +kernel
theorem dX8_order_56 : decode cX8_order 56 = .ok (.iconst 2, 1) := by decide +kernel
theorem dX8_order_57 : decode cX8_order 57 = .ok (.if_icmp .ne 7, 3) := by decide +kernel
theorem dX8_order_60 : decode cX8_order 60 = .ok (.iload_n 3, 1) := by decide +kernel
theorem dX8_order_61 : decode cX8_order 61 = .ok (.goto 4, 3) := by decide +kernel
theorem dX8_order_64 : decode cX8_order 64 = .ok (.iconst 0, 1) := by decide +kernel
theorem dX8_order_65 : decode cX8_order 65 = .ok (.putfield 133, 3) := by decide +kernel
theorem dX8_order_68 : decode cX8_order 68 = .ok (.iload 5, 2) := by decide +kernel
theorem dX8_order_70 : decode cX8_order 70 = .ok (.ireturn, 1) := by decide +kernel
theorem dX8_groups_0 : decode cX8_groups 0 = .ok (.aload_n 0, 1) := by decide +kernel
theorem dX8_groups_1 : decode cX8_groups 1 = .ok (.iload_n 1, 1) := by decide +kernel
theorem dX8_groups_2 : decode cX8_groups 2 = .ok (.invokevirtual 136, 3) := by decide +kernel
theorem dX8_groups_5 : decode cX8_groups 5 = .ok (.astore_n 2, 1) := by decide +kernel
theorem dX8_groups_6 : decode cX8_groups 6 = .ok (.aload_n 2, 1) := by decide +kernel
theorem dX8_groups_7 : decode cX8_groups 7 = .ok (.ifnonnull 8, 3) := by decide +kernel
theorem dX8_groups_10 : decode cX8_groups 10 = .ok (.ldc 80, 2) := by decide +kernel
theorem dX8_groups_12 : decode cX8_groups 12 = .ok (.goto 7, 3) := by decide +kernel
theorem dX8_groups_15 : decode cX8_groups 15 = .ok (.aload_n 2, 1) := by decide +kernel
theorem dX8_groups_16 : decode cX8_groups 16 = .ok (.getfield 140, 3) := by decide +kernel
theorem dX8_groups_19 : decode cX8_groups 19 = .ok (.ireturn, 1) := by decide +kernel
theorem dX8_group_0 : decode cX8_group 0 = .ok (.aload_n 0, 1) := by decide +kernel
theorem dX8_group_1 : decode cX8_group 1 = .ok (.iload_n 1, 1) := by decide +kernel
theorem dX8_group_2 : decode cX8_group 2 = .ok (.invokevirtual 136, 3) := by decide +kernel
theorem dX8_group_5 : decode cX8_group 5 = .ok (.astore 4, 2) := by decide +kernel
theorem dX8_group_7 : decode cX8_group 7 = .ok (.aload 4, 2) := by decide +kernel
theorem dX8_group_9 : decode cX8_group 9 = .ok (.ifnull 12, 3) := by decide +kernel
theorem dX8_group_12 : decode cX8_group 12 = .ok (.aload 4, 2) := by decide +kernel
theorem dX8_group_14 : decode cX8_group 14 = .ok (.iload_n 2, 1) := by decide +kernel
theorem dX8_group_15 : decode cX8_group 15 = .ok (.invokevirtual 141, 3) := by decide +kernel
theorem dX8_group_18 : decode cX8_group 18 = .ok (.ifCond .ne 6, 3) := by decide +kernel
theorem dX8_group_21 : decode cX8_group 21 = .ok (.ldc 80, 2) := by decide +kernel
theorem dX8_group_23 : decode cX8_group 23 = .ok (.ireturn, 1) := by decide +kernel
theorem dX8_group_24 : decode cX8_group 24 = .ok (.iload_n 3, 1) := by decide +kernel
theorem dX8_group_25 : decode cX8_group 25 = .ok (.tableswitch 56 0 2 #[27, 34, 41], 27) := by decide +kernel
theorem dX8_group_52 : decode cX8_group 52 = .ok (.aload 4, 2) := by decide +kernel
theorem dX8_group_54 : decode cX8_group 54 = .ok (.iload_n 2, 1) := by decide +kernel
theorem dX8_group_55 : decode cX8_group 55 = .ok (.invokevirtual 142, 3) := by decide +kernel
theorem dX8_group_58 : decode cX8_group 58 = .ok (.ireturn, 1) := by decide +kernel
theorem dX8_group_59 : decode cX8_group 59 = .ok (.aload 4, 2) := by decide +kernel
theorem dX8_group_61 : decode cX8_group 61 = .ok (.iload_n 2, 1) := by decide +kernel
theorem dX8_group_62 : decode cX8_group 62 = .ok (.invokevirtual 146, 3) := by decide +kernel
theorem dX8_group_65 : decode cX8_group 65 = .ok (.ireturn, 1) := by decide +kernel
theorem dX8_group_66 : decode cX8_group 66 = .ok (.aload 4, 2) := by decide +kernel
theorem dX8_group_68 : decode cX8_group 68 = .ok (.iload_n 2, 1) := by decide +kernel
theorem dX8_group_69 : decode cX8_group 69 = .ok (.invokevirtual 149, 3) := by decide +kernel
theorem dX8_group_72 : decode cX8_group 72 = .ok (.ifCond .eq 7, 3) := by decide +kernel
theorem dX8_group_75 : decode cX8_group 75 = .ok (.iconst 1, 1) := by decide +kernel
theorem dX8_group_76 : decode cX8_group 76 = .ok (.goto 4, 3) := by decide +kernel
theorem dX8_group_79 : decode cX8_group 79 = .ok (.iconst 0, 1) := by decide +kernel
theorem dX8_group_80 : decode cX8_group 80 = .ok (.ireturn, 1) := by decide +kernel
theorem dX8_group_81 : decode cX8_group 81 = .ok (.ldc 80, 2) := by decide +kernel
theorem dX8_group_83 : decode cX8_group 83 = .ok (.ireturn, 1) := by decide +kernel
theorem dX8_find_0 : decode cX8_find 0 = .ok (.aload_n 0, 1) := by decide +kernel
theorem dX8_find_1 : decode cX8_find 1 = .ok (.iload_n 1, 1) := by decide +kernel
theorem dX8_find_2 : decode cX8_find 2 = .ok (.invokevirtual 136, 3) := by decide +kernel
theorem dX8_find_5 : decode cX8_find 5 = .ok (.astore_n 3, 1) := by decide +kernel
theorem dX8_find_6 : decode cX8_find 6 = .ok (.aload_n 3, 1) := by decide +kernel
theorem dX8_find_7 : decode cX8_find 7 = .ok (.ifnonnull 8, 3) := by decide +kernel
theorem dX8_find_10 : decode cX8_find 10 = .ok (.ldc 80, 2) := by decide +kernel
theorem dX8_find_12 : decode cX8_find 12 = .ok (.goto 8, 3) := by decide +kernel
theorem dX8_find_15 : decode cX8_find 15 = .ok (.aload_n 3, 1) := by decide +kernel
theorem dX8_find_16 : decode cX8_find 16 = .ok (.iload_n 2, 1) := by decide +kernel
theorem dX8_find_17 : decode cX8_find 17 = .ok (.invokevirtual 152, 3) := by decide +kernel
theorem dX8_find_20 : decode cX8_find 20 = .ok (.ireturn, 1) := by decide +kernel
theorem dX8_in_0 : decode cX8_in 0 = .ok (.aload_n 0, 1) := by decide +kernel
theorem dX8_in_1 : decode cX8_in 1 = .ok (.iload_n 1, 1) := by decide +kernel
theorem dX8_in_2 : decode cX8_in 2 = .ok (.invokevirtual 136, 3) := by decide +kernel
theorem dX8_in_5 : decode cX8_in 5 = .ok (.astore 4, 2) := by decide +kernel
theorem dX8_in_7 : decode cX8_in 7 = .ok (.aload 4, 2) := by decide +kernel
theorem dX8_in_9 : decode cX8_in 9 = .ok (.ifnull 23, 3) := by decide +kernel
theorem dX8_in_12 : decode cX8_in 12 = .ok (.aload 4, 2) := by decide +kernel
theorem dX8_in_14 : decode cX8_in 14 = .ok (.iload_n 2, 1) := by decide +kernel
theorem dX8_in_15 : decode cX8_in 15 = .ok (.invokevirtual 141, 3) := by decide +kernel
theorem dX8_in_18 : decode cX8_in 18 = .ok (.ifCond .eq 14, 3) := by decide +kernel
theorem dX8_in_21 : decode cX8_in 21 = .ok (.aload_n 0, 1) := by decide +kernel
theorem dX8_in_22 : decode cX8_in 22 = .ok (.getfield 13, 3) := by decide +kernel
theorem dX8_in_25 : decode cX8_in 25 = .ok (.iload_n 3, 1) := by decide +kernel
theorem dX8_in_26 : decode cX8_in 26 = .ok (.invokevirtual 70, 3) := by decide +kernel
theorem dX8_in_29 : decode cX8_in 29 = .ok (.ifCond .ne 6, 3) := by decide +kernel
theorem dX8_in_32 : decode cX8_in 32 = .ok (.ldc 80, 2) := by decide +kernel
theorem dX8_in_34 : decode cX8_in 34 = .ok (.ireturn, 1) := by decide +kernel
theorem dX8_in_35 : decode cX8_in 35 = .ok (.aload 4, 2) := by decide +kernel
theorem dX8_in_37 : decode cX8_in 37 = .ok (.iload_n 2, 1) := by decide +kernel
theorem dX8_in_38 : decode cX8_in 38 = .ok (.iload_n 3, 1) := by decide +kernel
theorem dX8_in_39 : decode cX8_in 39 = .ok (.invokevirtual 155, 3) := by decide +kernel
theorem dX8_in_42 : decode cX8_in 42 = .ok (.ifCond .eq 7, 3) := by decide +kernel
theorem dX8_in_45 : decode cX8_in 45 = .ok (.iconst 1, 1) := by decide +kernel
theorem dX8_in_46 : decode cX8_in 46 = .ok (.goto 4, 3) := by decide +kernel
theorem dX8_in_49 : decode cX8_in 49 = .ok (.iconst 0, 1) := by decide +kernel
theorem dX8_in_50 : decode cX8_in 50 = .ok (.ireturn, 1) := by decide +kernel
theorem dX8_enter_0 : decode cX8_enter 0 = .ok (.aload_n 0, 1) := by decide +kernel
theorem dX8_enter_1 : decode cX8_enter 1 = .ok (.iload_n 1, 1) := by decide +kernel
theorem dX8_enter_2 : decode cX8_enter 2 = .ok (.invokevirtual 136, 3) := by decide +kernel
theorem dX8_enter_5 : decode cX8_enter 5 = .ok (.astore_n 3, 1) := by decide +kernel
theorem dX8_enter_6 : decode cX8_enter 6 = .ok (.aload_n 3, 1) := by decide +kernel
theorem dX8_enter_7 : decode cX8_enter 7 = .ok (.ifnull 11, 3) := by decide +kernel
theorem dX8_enter_10 : decode cX8_enter 10 = .ok (.aload_n 3, 1) := by decide +kernel
theorem dX8_enter_11 : decode cX8_enter 11 = .ok (.iload_n 2, 1) := by decide +kernel
theorem dX8_enter_12 : decode cX8_enter 12 = .ok (.invokevirtual 141, 3) := by decide +kernel
theorem dX8_enter_15 : decode cX8_enter 15 = .ok (.ifCond .ne 6, 3) := by decide +kernel
theorem dX8_enter_18 : decode cX8_enter 18 = .ok (.ldc 80, 2) := by decide +kernel
theorem dX8_enter_20 : decode cX8_enter 20 = .ok (.ireturn, 1) := by decide +kernel
theorem dX8_enter_21 : decode cX8_enter 21 = .ok (.aload_n 0, 1) := by decide +kernel
theorem dX8_enter_22 : decode cX8_enter 22 = .ok (.getfield 24, 3) := by decide +kernel
theorem dX8_enter_25 : decode cX8_enter 25 = .ok (.getfield 159, 3) := by decide +kernel
theorem dX8_enter_28 : decode cX8_enter 28 = .ok (.bipush 6, 2) := by decide +kernel
theorem dX8_enter_30 : decode cX8_enter 30 = .ok (.if_icmp .lt 6, 3) := by decide +kernel
theorem dX8_enter_33 : decode cX8_enter 33 = .ok (.ldc 62, 2) := by decide +kernel
theorem dX8_enter_35 : decode cX8_enter 35 = .ok (.ireturn, 1) := by decide +kernel
theorem dX8_enter_36 : decode cX8_enter 36 = .ok (.aload_n 3, 1) := by decide +kernel
theorem dX8_enter_37 : decode cX8_enter 37 = .ok (.iload_n 2, 1) := by decide +kernel
theorem dX8_enter_38 : decode cX8_enter 38 = .ok (.invokevirtual 146, 3) := by decide +kernel
theorem dX8_enter_41 : decode cX8_enter 41 = .ok (.istore 4, 2) := by decide +kernel
theorem dX8_enter_43 : decode cX8_enter 43 = .ok (.aload_n 0, 1) := by decide +kernel
theorem dX8_enter_44 : decode cX8_enter 44 = .ok (.getfield 24, 3) := by decide +kernel
theorem dX8_enter_47 : decode cX8_enter 47 = .ok (.invokevirtual 162, 3) := by decide +kernel
theorem dX8_enter_50 : decode cX8_enter 50 = .ok (.iconst 0, 1) := by decide +kernel
theorem dX8_enter_51 : decode cX8_enter 51 = .ok (.istore 5, 2) := by decide +kernel
theorem dX8_enter_53 : decode cX8_enter 53 = .ok (.iload 5, 2) := by decide +kernel
theorem dX8_enter_55 : decode cX8_enter 55 = .ok (.iload 4, 2) := by decide +kernel
theorem dX8_enter_57 : decode cX8_enter 57 = .ok (.if_icmp .ge 23, 3) := by decide +kernel
theorem dX8_enter_60 : decode cX8_enter 60 = .ok (.aload_n 0, 1) := by decide +kernel
theorem dX8_enter_61 : decode cX8_enter 61 = .ok (.getfield 24, 3) := by decide +kernel
theorem dX8_enter_64 : decode cX8_enter 64 = .ok (.aload_n 3, 1) := by decide +kernel
theorem dX8_enter_65 : decode cX8_enter 65 = .ok (.iload_n 2, 1) := by decide +kernel
theorem dX8_enter_66 : decode cX8_enter 66 = .ok (.iload 5, 2) := by decide +kernel
theorem dX8_enter_68 : decode cX8_enter 68 = .ok (.invokevirtual 165, 3) := by decide +kernel
theorem dX8_enter_71 : decode cX8_enter 71 = .ok (.invokevirtual 168, 3) := by decide +kernel
theorem dX8_enter_74 : decode cX8_enter 74 = .ok (.iinc 5 1, 3) := by decide +kernel
theorem dX8_enter_77 : decode cX8_enter 77 = .ok (.goto (-24), 3) := by decide +kernel
theorem dX8_enter_80 : decode cX8_enter 80 = .ok (.aload_n 0, 1) := by decide +kernel
theorem dX8_enter_81 : decode cX8_enter 81 = .ok (.ldc 55, 2) := by decide +kernel
theorem dX8_enter_83 : decode cX8_enter 83 = .ok (.putfield 56, 3) := by decide +kernel
theorem dX8_enter_86 : decode cX8_enter 86 = .ok (.iload 4, 2) := by decide +kernel
theorem dX8_enter_88 : decode cX8_enter 88 = .ok (.ireturn, 1) := by decide +kernel
theorem dX8_leave_0 : decode cX8_leave 0 = .ok (.aload_n 0, 1) := by decide +kernel
theorem dX8_leave_1 : decode cX8_leave 1 = .ok (.getfield 24, 3) := by decide +kernel
theorem dX8_leave_4 : decode cX8_leave 4 = .ok (.getfield 159, 3) := by decide +kernel
theorem dX8_leave_7 : decode cX8_leave 7 = .ok (.ifCond .ne 6, 3) := by decide +kernel
theorem dX8_leave_10 : decode cX8_leave 10 = .ok (.ldc 107, 2) := by decide +kernel
theorem dX8_leave_12 : decode cX8_leave 12 = .ok (.ireturn, 1) := by decide +kernel
theorem dX8_leave_13 : decode cX8_leave 13 = .ok (.aload_n 0, 1) := by decide +kernel
theorem dX8_leave_14 : decode cX8_leave 14 = .ok (.getfield 24, 3) := by decide +kernel
theorem dX8_leave_17 : decode cX8_leave 17 = .ok (.invokevirtual 172, 3) := by decide +kernel
theorem dX8_leave_20 : decode cX8_leave 20 = .ok (.aload_n 0, 1) := by decide +kernel
theorem dX8_leave_21 : decode cX8_leave 21 = .ok (.ldc 55, 2) := by decide +kernel
theorem dX8_leave_23 : decode cX8_leave 23 = .ok (.putfield 56, 3) := by decide +kernel
theorem dX8_leave_26 : decode cX8_leave 26 = .ok (.aload_n 0, 1) := by decide +kernel
theorem dX8_leave_27 : decode cX8_leave 27 = .ok (.getfield 24, 3) := by decide +kernel
theorem dX8_leave_30 : decode cX8_leave 30 = .ok (.getfield 159, 3) := by decide +kernel
theorem dX8_leave_33 : decode cX8_leave 33 = .ok (.ireturn, 1) := by decide +kernel
theorem dX8_hand_0 : decode cX8_hand 0 = .ok (.iconst 0, 1) := by decide +kernel
theorem dX8_hand_1 : decode cX8_hand 1 = .ok (.istore_n 1, 1) := by decide +kernel
theorem dX8_hand_2 : decode cX8_hand 2 = .ok (.iconst 0, 1) := by decide +kernel
theorem dX8_hand_3 : decode cX8_hand 3 = .ok (.istore_n 2, 1) := by decide +kernel
theorem dX8_hand_4 : decode cX8_hand 4 = .ok (.iload_n 2, 1) := by decide +kernel
theorem dX8_hand_5 : decode cX8_hand 5 = .ok (.aload_n 0, 1) := by decide +kernel
theorem dX8_hand_6 : decode cX8_hand 6 = .ok (.getfield 13, 3) := by decide +kernel
theorem dX8_hand_9 : decode cX8_hand 9 = .ok (.getfield 59, 3) := by decide +kernel
theorem dX8_hand_12 : decode cX8_hand 12 = .ok (.if_icmp .ge 23, 3) := by decide +kernel
theorem dX8_hand_15 : decode cX8_hand 15 = .ok (.aload_n 0, 1) := by decide +kernel
theorem dX8_hand_16 : decode cX8_hand 16 = .ok (.getfield 24, 3) := by decide +kernel
theorem dX8_hand_19 : decode cX8_hand 19 = .ok (.iload_n 2, 1) := by decide +kernel
theorem dX8_hand_20 : decode cX8_hand 20 = .ok (.invokevirtual 175, 3) := by decide +kernel
theorem dX8_hand_23 : decode cX8_hand 23 = .ok (.ifCond .eq 6, 3) := by decide +kernel
theorem dX8_hand_26 : decode cX8_hand 26 = .ok (.iinc 1 1, 3) := by decide +kernel
theorem dX8_hand_29 : decode cX8_hand 29 = .ok (.iinc 2 1, 3) := by decide +kernel
theorem dX8_hand_32 : decode cX8_hand 32 = .ok (.goto (-28), 3) := by decide +kernel
theorem dX8_hand_35 : decode cX8_hand 35 = .ok (.iload_n 1, 1) := by decide +kernel
theorem dX8_hand_36 : decode cX8_hand 36 = .ok (.ireturn, 1) := by decide +kernel
theorem dX8_figure_0 : decode cX8_figure 0 = .ok (.aload_n 0, 1) := by decide +kernel
theorem dX8_figure_1 : decode cX8_figure 1 = .ok (.iload_n 1, 1) := by decide +kernel
theorem dX8_figure_2 : decode cX8_figure 2 = .ok (.iload_n 2, 1) := by decide +kernel
theorem dX8_figure_3 : decode cX8_figure 3 = .ok (.iload_n 3, 1) := by decide +kernel
theorem dX8_figure_4 : decode cX8_figure 4 = .ok (.invokevirtual 176, 3) := by decide +kernel
theorem dX8_figure_7 : decode cX8_figure 7 = .ok (.ifCond .eq 15, 3) := by decide +kernel
theorem dX8_figure_10 : decode cX8_figure 10 = .ok (.aload_n 0, 1) := by decide +kernel
theorem dX8_figure_11 : decode cX8_figure 11 = .ok (.getfield 47, 3) := by decide +kernel
theorem dX8_figure_14 : decode cX8_figure 14 = .ok (.iload 4, 2) := by decide +kernel
theorem dX8_figure_16 : decode cX8_figure 16 = .ok (.invokevirtual 180, 3) := by decide +kernel
theorem dX8_figure_19 : decode cX8_figure 19 = .ok (.goto 6, 3) := by decide +kernel
theorem dX8_figure_22 : decode cX8_figure 22 = .ok (.ldc2_w 184, 3) := by decide +kernel
theorem dX8_figure_25 : decode cX8_figure 25 = .ok (.lreturn, 1) := by decide +kernel
theorem dX8_place_0 : decode cX8_place 0 = .ok (.iload 4, 2) := by decide +kernel
theorem dX8_place_2 : decode cX8_place 2 = .ok (.ifCond .lt 20, 3) := by decide +kernel
theorem dX8_place_5 : decode cX8_place 5 = .ok (.iload 4, 2) := by decide +kernel
theorem dX8_place_7 : decode cX8_place 7 = .ok (.bipush 100, 2) := by decide +kernel
theorem dX8_place_9 : decode cX8_place 9 = .ok (.if_icmp .gt 13, 3) := by decide +kernel
theorem dX8_place_12 : decode cX8_place 12 = .ok (.aload_n 0, 1) := by decide +kernel
theorem dX8_place_13 : decode cX8_place 13 = .ok (.iload_n 1, 1) := by decide +kernel
theorem dX8_place_14 : decode cX8_place 14 = .ok (.iload_n 2, 1) := by decide +kernel
theorem dX8_place_15 : decode cX8_place 15 = .ok (.iload_n 3, 1) := by decide +kernel
theorem dX8_place_16 : decode cX8_place 16 = .ok (.invokevirtual 176, 3) := by decide +kernel
theorem dX8_place_19 : decode cX8_place 19 = .ok (.ifCond .ne 6, 3) := by decide +kernel
theorem dX8_place_22 : decode cX8_place 22 = .ok (.ldc 80, 2) := by decide +kernel
theorem dX8_place_24 : decode cX8_place 24 = .ok (.ireturn, 1) := by decide +kernel
theorem dX8_place_25 : decode cX8_place 25 = .ok (.aload_n 0, 1) := by decide +kernel
theorem dX8_place_26 : decode cX8_place 26 = .ok (.getfield 47, 3) := by decide +kernel
theorem dX8_place_29 : decode cX8_place 29 = .ok (.iload 4, 2) := by decide +kernel
theorem dX8_place_31 : decode cX8_place 31 = .ok (.invokevirtual 186, 3) := by decide +kernel
theorem dX8_place_34 : decode cX8_place 34 = .ok (.ireturn, 1) := by decide +kernel
theorem dX8_told_0 : decode cX8_told 0 = .ok (.iload_n 1, 1) := by decide +kernel
theorem dX8_told_1 : decode cX8_told 1 = .ok (.tableswitch 60 0 3 #[31, 39, 47, 52], 31) := by decide +kernel
theorem dX8_told_32 : decode cX8_told 32 = .ok (.aload_n 0, 1) := by decide +kernel
theorem dX8_told_33 : decode cX8_told 33 = .ok (.getfield 13, 3) := by decide +kernel
theorem dX8_told_36 : decode cX8_told 36 = .ok (.getfield 59, 3) := by decide +kernel
theorem dX8_told_39 : decode cX8_told 39 = .ok (.ireturn, 1) := by decide +kernel
theorem dX8_told_40 : decode cX8_told 40 = .ok (.aload_n 0, 1) := by decide +kernel
theorem dX8_told_41 : decode cX8_told 41 = .ok (.getfield 13, 3) := by decide +kernel
theorem dX8_told_44 : decode cX8_told 44 = .ok (.invokevirtual 189, 3) := by decide +kernel
theorem dX8_told_47 : decode cX8_told 47 = .ok (.ireturn, 1) := by decide +kernel
theorem dX8_told_48 : decode cX8_told 48 = .ok (.aload_n 0, 1) := by decide +kernel
theorem dX8_told_49 : decode cX8_told 49 = .ok (.getfield 51, 3) := by decide +kernel
theorem dX8_told_52 : decode cX8_told 52 = .ok (.ireturn, 1) := by decide +kernel
theorem dX8_told_53 : decode cX8_told 53 = .ok (.aload_n 0, 1) := by decide +kernel
theorem dX8_told_54 : decode cX8_told 54 = .ok (.getfield 24, 3) := by decide +kernel
theorem dX8_told_57 : decode cX8_told 57 = .ok (.getfield 159, 3) := by decide +kernel
theorem dX8_told_60 : decode cX8_told 60 = .ok (.ireturn, 1) := by decide +kernel
theorem dX8_told_61 : decode cX8_told 61 = .ok (.ldc 80, 2) := by decide +kernel
theorem dX8_told_63 : decode cX8_told 63 = .ok (.ireturn, 1) := by decide +kernel
theorem dX8_isColumn_0 : decode cX8_isColumn 0 = .ok (.iload_n 0, 1) := by decide +kernel
theorem dX8_isColumn_1 : decode cX8_isColumn 1 = .ok (.ifCond .lt 13, 3) := by decide +kernel
theorem dX8_isColumn_4 : decode cX8_isColumn 4 = .ok (.iload_n 0, 1) := by decide +kernel
theorem dX8_isColumn_5 : decode cX8_isColumn 5 = .ok (.bipush 6, 2) := by decide +kernel
theorem dX8_isColumn_7 : decode cX8_isColumn 7 = .ok (.if_icmp .ge 7, 3) := by decide +kernel
theorem dX8_isColumn_10 : decode cX8_isColumn 10 = .ok (.iconst 1, 1) := by decide +kernel
theorem dX8_isColumn_11 : decode cX8_isColumn 11 = .ok (.goto 4, 3) := by decide +kernel
theorem dX8_isColumn_14 : decode cX8_isColumn 14 = .ok (.iconst 0, 1) := by decide +kernel
theorem dX8_isColumn_15 : decode cX8_isColumn 15 = .ok (.ireturn, 1) := by decide +kernel
theorem dX8_isValue_0 : decode cX8_isValue 0 = .ok (.iload_n 0, 1) := by decide +kernel
theorem dX8_isValue_1 : decode cX8_isValue 1 = .ok (.ldc 192, 2) := by decide +kernel
theorem dX8_isValue_3 : decode cX8_isValue 3 = .ok (.if_icmp .lt 13, 3) := by decide +kernel
theorem dX8_isValue_6 : decode cX8_isValue 6 = .ok (.iload_n 0, 1) := by decide +kernel
theorem dX8_isValue_7 : decode cX8_isValue 7 = .ok (.ldc 193, 2) := by decide +kernel
theorem dX8_isValue_9 : decode cX8_isValue 9 = .ok (.if_icmp .gt 7, 3) := by decide +kernel
theorem dX8_isValue_12 : decode cX8_isValue 12 = .ok (.iconst 1, 1) := by decide +kernel
theorem dX8_isValue_13 : decode cX8_isValue 13 = .ok (.goto 4, 3) := by decide +kernel
theorem dX8_isValue_16 : decode cX8_isValue 16 = .ok (.iconst 0, 1) := by decide +kernel
theorem dX8_isValue_17 : decode cX8_isValue 17 = .ok (.ireturn, 1) := by decide +kernel
theorem dX8_facetAt_0 : decode cX8_facetAt 0 = .ok (.iload_n 1, 1) := by decide +kernel
theorem dX8_facetAt_1 : decode cX8_facetAt 1 = .ok (.ifCond .lt 20, 3) := by decide +kernel
theorem dX8_facetAt_4 : decode cX8_facetAt 4 = .ok (.iload_n 1, 1) := by decide +kernel
theorem dX8_facetAt_5 : decode cX8_facetAt 5 = .ok (.aload_n 0, 1) := by decide +kernel
theorem dX8_facetAt_6 : decode cX8_facetAt 6 = .ok (.getfield 51, 3) := by decide +kernel
theorem dX8_facetAt_9 : decode cX8_facetAt 9 = .ok (.if_icmp .ge 12, 3) := by decide +kernel
theorem dX8_facetAt_12 : decode cX8_facetAt 12 = .ok (.aload_n 0, 1) := by decide +kernel
theorem dX8_facetAt_13 : decode cX8_facetAt 13 = .ok (.getfield 30, 3) := by decide +kernel
theorem dX8_facetAt_16 : decode cX8_facetAt 16 = .ok (.iload_n 1, 1) := by decide +kernel
theorem dX8_facetAt_17 : decode cX8_facetAt 17 = .ok (.aaload, 1) := by decide +kernel
theorem dX8_facetAt_18 : decode cX8_facetAt 18 = .ok (.goto 4, 3) := by decide +kernel
theorem dX8_facetAt_21 : decode cX8_facetAt 21 = .ok (.aconst_null, 1) := by decide +kernel
theorem dX8_facetAt_22 : decode cX8_facetAt 22 = .ok (.areturn, 1) := by decide +kernel
theorem dX8_leaveAll_0 : decode cX8_leaveAll 0 = .ok (.aload_n 0, 1) := by decide +kernel
theorem dX8_leaveAll_1 : decode cX8_leaveAll 1 = .ok (.getfield 24, 3) := by decide +kernel
theorem dX8_leaveAll_4 : decode cX8_leaveAll 4 = .ok (.invokevirtual 194, 3) := by decide +kernel
theorem dX8_leaveAll_7 : decode cX8_leaveAll 7 = .ok (.aload_n 0, 1) := by decide +kernel
theorem dX8_leaveAll_8 : decode cX8_leaveAll 8 = .ok (.ldc 55, 2) := by decide +kernel
theorem dX8_leaveAll_10 : decode cX8_leaveAll 10 = .ok (.putfield 56, 3) := by decide +kernel
theorem dX8_leaveAll_13 : decode cX8_leaveAll 13 = .ok (.return_, 1) := by decide +kernel
theorem dX8_groupsOf_0 : decode cX8_groupsOf 0 = .ok (.aload_n 0, 1) := by decide +kernel
theorem dX8_groupsOf_1 : decode cX8_groupsOf 1 = .ok (.iload_n 1, 1) := by decide +kernel
theorem dX8_groupsOf_2 : decode cX8_groupsOf 2 = .ok (.invokevirtual 100, 3) := by decide +kernel
theorem dX8_groupsOf_5 : decode cX8_groupsOf 5 = .ok (.astore_n 2, 1) := by decide +kernel
theorem dX8_groupsOf_6 : decode cX8_groupsOf 6 = .ok (.aload_n 2, 1) := by decide +kernel
theorem dX8_groupsOf_7 : decode cX8_groupsOf 7 = .ok (.ifnull 52, 3) := by decide +kernel
theorem dX8_groupsOf_10 : decode cX8_groupsOf 10 = .ok (.aload_n 0, 1) := by decide +kernel
theorem dX8_groupsOf_11 : decode cX8_groupsOf 11 = .ok (.getfield 56, 3) := by decide +kernel
theorem dX8_groupsOf_14 : decode cX8_groupsOf 14 = .ok (.iload_n 1, 1) := by decide +kernel
theorem dX8_groupsOf_15 : decode cX8_groupsOf 15 = .ok (.if_icmp .eq 44, 3) := by decide +kernel
theorem dX8_groupsOf_18 : decode cX8_groupsOf 18 = .ok (.aload_n 0, 1) := by decide +kernel
theorem dX8_groupsOf_19 : decode cX8_groupsOf 19 = .ok (.getfield 40, 3) := by decide +kernel
theorem dX8_groupsOf_22 : decode cX8_groupsOf 22 = .ok (.aload_n 2, 1) := by decide +kernel
theorem dX8_groupsOf_23 : decode cX8_groupsOf 23 = .ok (.aload_n 0, 1) := by decide +kernel
theorem dX8_groupsOf_24 : decode cX8_groupsOf 24 = .ok (.getfield 13, 3) := by decide +kernel
theorem dX8_groupsOf_27 : decode cX8_groupsOf 27 = .ok (.aload_n 0, 1) := by decide +kernel
theorem dX8_groupsOf_28 : decode cX8_groupsOf 28 = .ok (.getfield 24, 3) := by decide +kernel
theorem dX8_groupsOf_31 : decode cX8_groupsOf 31 = .ok (.invokevirtual 197, 3) := by decide +kernel
theorem dX8_groupsOf_34 : decode cX8_groupsOf 34 = .ok (.aload_n 0, 1) := by decide +kernel
theorem dX8_groupsOf_35 : decode cX8_groupsOf 35 = .ok (.getfield 40, 3) := by decide +kernel
theorem dX8_groupsOf_38 : decode cX8_groupsOf 38 = .ok (.aload_n 2, 1) := by decide +kernel
theorem dX8_groupsOf_39 : decode cX8_groupsOf 39 = .ok (.invokevirtual 201, 3) := by decide +kernel
theorem dX8_groupsOf_42 : decode cX8_groupsOf 42 = .ok (.aload_n 0, 1) := by decide +kernel
theorem dX8_groupsOf_43 : decode cX8_groupsOf 43 = .ok (.getfield 40, 3) := by decide +kernel
theorem dX8_groupsOf_46 : decode cX8_groupsOf 46 = .ok (.aload_n 2, 1) := by decide +kernel
theorem dX8_groupsOf_47 : decode cX8_groupsOf 47 = .ok (.aload_n 0, 1) := by decide +kernel
theorem dX8_groupsOf_48 : decode cX8_groupsOf 48 = .ok (.getfield 13, 3) := by decide +kernel
theorem dX8_groupsOf_51 : decode cX8_groupsOf 51 = .ok (.invokevirtual 205, 3) := by decide +kernel
theorem dX8_groupsOf_54 : decode cX8_groupsOf 54 = .ok (.aload_n 0, 1) := by decide +kernel
theorem dX8_groupsOf_55 : decode cX8_groupsOf 55 = .ok (.iload_n 1, 1) := by decide +kernel
theorem dX8_groupsOf_56 : decode cX8_groupsOf 56 = .ok (.putfield 56, 3) := by decide +kernel
theorem dX8_groupsOf_59 : decode cX8_groupsOf 59 = .ok (.aload_n 2, 1) := by decide +kernel
theorem dX8_groupsOf_60 : decode cX8_groupsOf 60 = .ok (.ifnonnull 7, 3) := by decide +kernel
theorem dX8_groupsOf_63 : decode cX8_groupsOf 63 = .ok (.aconst_null, 1) := by decide +kernel
theorem dX8_groupsOf_64 : decode cX8_groupsOf 64 = .ok (.goto 7, 3) := by decide +kernel
theorem dX8_groupsOf_67 : decode cX8_groupsOf 67 = .ok (.aload_n 0, 1) := by decide +kernel
theorem dX8_groupsOf_68 : decode cX8_groupsOf 68 = .ok (.getfield 40, 3) := by decide +kernel
theorem dX8_groupsOf_71 : decode cX8_groupsOf 71 = .ok (.areturn, 1) := by decide +kernel
theorem dX8_sampleIsTaken_0 : decode cX8_sampleIsTaken 0 = .ok (.iload_n 3, 1) := by decide +kernel
theorem dX8_sampleIsTaken_1 : decode cX8_sampleIsTaken 1 = .ok (.invokestatic 74, 3) := by decide +kernel
theorem dX8_sampleIsTaken_4 : decode cX8_sampleIsTaken 4 = .ok (.ifCond .ne 5, 3) := by decide +kernel
theorem dX8_sampleIsTaken_7 : decode cX8_sampleIsTaken 7 = .ok (.iconst 0, 1) := by decide +kernel
theorem dX8_sampleIsTaken_8 : decode cX8_sampleIsTaken 8 = .ok (.ireturn, 1) := by decide +kernel
theorem dX8_sampleIsTaken_9 : decode cX8_sampleIsTaken 9 = .ok (.aload_n 0, 1) := by decide +kernel
theorem dX8_sampleIsTaken_10 : decode cX8_sampleIsTaken 10 = .ok (.getfield 47, 3) := by decide +kernel
theorem dX8_sampleIsTaken_13 : decode cX8_sampleIsTaken 13 = .ok (.invokevirtual 209, 3) := by decide +kernel
theorem dX8_sampleIsTaken_16 : decode cX8_sampleIsTaken 16 = .ok (.iload_n 2, 1) := by decide +kernel
theorem dX8_sampleIsTaken_17 : decode cX8_sampleIsTaken 17 = .ok (.ldc 55, 2) := by decide +kernel
theorem dX8_sampleIsTaken_19 : decode cX8_sampleIsTaken 19 = .ok (.if_icmp .ne 52, 3) := by decide +kernel
theorem dX8_sampleIsTaken_22 : decode cX8_sampleIsTaken 22 = .ok (.iconst 0, 1) := by decide +kernel
theorem dX8_sampleIsTaken_23 : decode cX8_sampleIsTaken 23 = .ok (.istore 4, 2) := by decide +kernel
theorem dX8_sampleIsTaken_25 : decode cX8_sampleIsTaken 25 = .ok (.iload 4, 2) := by decide +kernel
theorem dX8_sampleIsTaken_27 : decode cX8_sampleIsTaken 27 = .ok (.aload_n 0, 1) := by decide +kernel
theorem dX8_sampleIsTaken_28 : decode cX8_sampleIsTaken 28 = .ok (.getfield 13, 3) := by decide +kernel
theorem dX8_sampleIsTaken_31 : decode cX8_sampleIsTaken 31 = .ok (.getfield 59, 3) := by decide +kernel
theorem dX8_sampleIsTaken_34 : decode cX8_sampleIsTaken 34 = .ok (.if_icmp .ge 35, 3) := by decide +kernel
theorem dX8_sampleIsTaken_37 : decode cX8_sampleIsTaken 37 = .ok (.aload_n 0, 1) := by decide +kernel
theorem dX8_sampleIsTaken_38 : decode cX8_sampleIsTaken 38 = .ok (.getfield 24, 3) := by decide +kernel
theorem dX8_sampleIsTaken_41 : decode cX8_sampleIsTaken 41 = .ok (.iload 4, 2) := by decide +kernel
theorem dX8_sampleIsTaken_43 : decode cX8_sampleIsTaken 43 = .ok (.invokevirtual 175, 3) := by decide +kernel
theorem dX8_sampleIsTaken_46 : decode cX8_sampleIsTaken 46 = .ok (.ifCond .eq 17, 3) := by decide +kernel
theorem dX8_sampleIsTaken_49 : decode cX8_sampleIsTaken 49 = .ok (.aload_n 0, 1) := by decide +kernel
theorem dX8_sampleIsTaken_50 : decode cX8_sampleIsTaken 50 = .ok (.getfield 47, 3) := by decide +kernel
theorem dX8_sampleIsTaken_53 : decode cX8_sampleIsTaken 53 = .ok (.aload_n 0, 1) := by decide +kernel
theorem dX8_sampleIsTaken_54 : decode cX8_sampleIsTaken 54 = .ok (.getfield 13, 3) := by decide +kernel
theorem dX8_sampleIsTaken_57 : decode cX8_sampleIsTaken 57 = .ok (.iload 4, 2) := by decide +kernel
theorem dX8_sampleIsTaken_59 : decode cX8_sampleIsTaken 59 = .ok (.iload_n 3, 1) := by decide +kernel
theorem dX8_sampleIsTaken_60 : decode cX8_sampleIsTaken 60 = .ok (.invokevirtual 211, 3) := by decide +kernel
theorem dX8_sampleIsTaken_63 : decode cX8_sampleIsTaken 63 = .ok (.iinc 4 1, 3) := by decide +kernel
theorem dX8_sampleIsTaken_66 : decode cX8_sampleIsTaken 66 = .ok (.goto (-41), 3) := by decide +kernel
theorem dX8_sampleIsTaken_69 : decode cX8_sampleIsTaken 69 = .ok (.iconst 1, 1) := by decide +kernel
theorem dX8_sampleIsTaken_70 : decode cX8_sampleIsTaken 70 = .ok (.ireturn, 1) := by decide +kernel
theorem dX8_sampleIsTaken_71 : decode cX8_sampleIsTaken 71 = .ok (.aload_n 0, 1) := by decide +kernel
theorem dX8_sampleIsTaken_72 : decode cX8_sampleIsTaken 72 = .ok (.iload_n 1, 1) := by decide +kernel
theorem dX8_sampleIsTaken_73 : decode cX8_sampleIsTaken 73 = .ok (.invokevirtual 136, 3) := by decide +kernel
theorem dX8_sampleIsTaken_76 : decode cX8_sampleIsTaken 76 = .ok (.astore 4, 2) := by decide +kernel
theorem dX8_sampleIsTaken_78 : decode cX8_sampleIsTaken 78 = .ok (.aload 4, 2) := by decide +kernel
theorem dX8_sampleIsTaken_80 : decode cX8_sampleIsTaken 80 = .ok (.ifnull 12, 3) := by decide +kernel
theorem dX8_sampleIsTaken_83 : decode cX8_sampleIsTaken 83 = .ok (.aload 4, 2) := by decide +kernel
theorem dX8_sampleIsTaken_85 : decode cX8_sampleIsTaken 85 = .ok (.iload_n 2, 1) := by decide +kernel
theorem dX8_sampleIsTaken_86 : decode cX8_sampleIsTaken 86 = .ok (.invokevirtual 141, 3) := by decide +kernel
theorem dX8_sampleIsTaken_89 : decode cX8_sampleIsTaken 89 = .ok (.ifCond .ne 5, 3) := by decide +kernel
theorem dX8_sampleIsTaken_92 : decode cX8_sampleIsTaken 92 = .ok (.iconst 0, 1) := by decide +kernel
theorem dX8_sampleIsTaken_93 : decode cX8_sampleIsTaken 93 = .ok (.ireturn, 1) := by decide +kernel
theorem dX8_sampleIsTaken_94 : decode cX8_sampleIsTaken 94 = .ok (.aload 4, 2) := by decide +kernel
theorem dX8_sampleIsTaken_96 : decode cX8_sampleIsTaken 96 = .ok (.iload_n 2, 1) := by decide +kernel
theorem dX8_sampleIsTaken_97 : decode cX8_sampleIsTaken 97 = .ok (.invokevirtual 146, 3) := by decide +kernel
theorem dX8_sampleIsTaken_100 : decode cX8_sampleIsTaken 100 = .ok (.istore 5, 2) := by decide +kernel
theorem dX8_sampleIsTaken_102 : decode cX8_sampleIsTaken 102 = .ok (.iconst 0, 1) := by decide +kernel
theorem dX8_sampleIsTaken_103 : decode cX8_sampleIsTaken 103 = .ok (.istore 6, 2) := by decide +kernel
theorem dX8_sampleIsTaken_105 : decode cX8_sampleIsTaken 105 = .ok (.iload 6, 2) := by decide +kernel
theorem dX8_sampleIsTaken_107 : decode cX8_sampleIsTaken 107 = .ok (.iload 5, 2) := by decide +kernel
theorem dX8_sampleIsTaken_109 : decode cX8_sampleIsTaken 109 = .ok (.if_icmp .ge 29, 3) := by decide +kernel
theorem dX8_sampleIsTaken_112 : decode cX8_sampleIsTaken 112 = .ok (.aload_n 0, 1) := by decide +kernel
theorem dX8_sampleIsTaken_113 : decode cX8_sampleIsTaken 113 = .ok (.getfield 47, 3) := by decide +kernel
theorem dX8_sampleIsTaken_116 : decode cX8_sampleIsTaken 116 = .ok (.aload_n 0, 1) := by decide +kernel
theorem dX8_sampleIsTaken_117 : decode cX8_sampleIsTaken 117 = .ok (.getfield 13, 3) := by decide +kernel
theorem dX8_sampleIsTaken_120 : decode cX8_sampleIsTaken 120 = .ok (.aload 4, 2) := by decide +kernel
theorem dX8_sampleIsTaken_122 : decode cX8_sampleIsTaken 122 = .ok (.iload_n 2, 1) := by decide +kernel
theorem dX8_sampleIsTaken_123 : decode cX8_sampleIsTaken 123 = .ok (.iload 6, 2) := by decide +kernel
theorem dX8_sampleIsTaken_125 : decode cX8_sampleIsTaken 125 = .ok (.invokevirtual 165, 3) := by decide +kernel
theorem dX8_sampleIsTaken_128 : decode cX8_sampleIsTaken 128 = .ok (.iload_n 3, 1) := by decide +kernel
theorem dX8_sampleIsTaken_129 : decode cX8_sampleIsTaken 129 = .ok (.invokevirtual 211, 3) := by decide +kernel
theorem dX8_sampleIsTaken_132 : decode cX8_sampleIsTaken 132 = .ok (.iinc 6 1, 3) := by decide +kernel
theorem dX8_sampleIsTaken_135 : decode cX8_sampleIsTaken 135 = .ok (.goto (-30), 3) := by decide +kernel
theorem dX8_sampleIsTaken_138 : decode cX8_sampleIsTaken 138 = .ok (.iconst 1, 1) := by decide +kernel
theorem dX8_sampleIsTaken_139 : decode cX8_sampleIsTaken 139 = .ok (.ireturn, 1) := by decide +kernel
end
section
theorem dL_law_0 : decode cL_law 0 = .ok (.new 7, 3) := by decide +kernel
theorem dL_law_3 : decode cL_law 3 = .ok (.dup, 1) := by decide +kernel
theorem dL_law_4 : decode cL_law 4 = .ok (.invokespecial 9, 3) := by decide +kernel
theorem dL_law_7 : decode cL_law 7 = .ok (.astore_n 1, 1) := by decide +kernel
theorem dL_law_8 : decode cL_law 8 = .ok (.new 10, 3) := by decide +kernel
theorem dL_law_11 : decode cL_law 11 = .ok (.dup, 1) := by decide +kernel
theorem dL_law_12 : decode cL_law 12 = .ok (.invokespecial 12, 3) := by decide +kernel
theorem dL_law_15 : decode cL_law 15 = .ok (.astore_n 2, 1) := by decide +kernel
theorem dL_law_16 : decode cL_law 16 = .ok (.iconst 0, 1) := by decide +kernel
theorem dL_law_17 : decode cL_law 17 = .ok (.istore_n 3, 1) := by decide +kernel
theorem dL_law_18 : decode cL_law 18 = .ok (.iload_n 3, 1) := by decide +kernel
theorem dL_law_19 : decode cL_law 19 = .ok (.aload_n 0, 1) := by decide +kernel
theorem dL_law_20 : decode cL_law 20 = .ok (.arraylength, 1) := by decide +kernel
theorem dL_law_21 : decode cL_law 21 = .ok (.iconst 5, 1) := by decide +kernel
theorem dL_law_22 : decode cL_law 22 = .ok (.isub, 1) := by decide +kernel
theorem dL_law_23 : decode cL_law 23 = .ok (.if_icmp .gt 834, 3) := by decide +kernel
theorem dL_law_26 : decode cL_law 26 = .ok (.aload_n 0, 1) := by decide +kernel
theorem dL_law_27 : decode cL_law 27 = .ok (.iload_n 3, 1) := by decide +kernel
theorem dL_law_28 : decode cL_law 28 = .ok (.iaload, 1) := by decide +kernel
theorem dL_law_29 : decode cL_law 29 = .ok (.bipush 31, 2) := by decide +kernel
theorem dL_law_31 : decode cL_law 31 = .ok (.iand, 1) := by decide +kernel
theorem dL_law_32 : decode cL_law 32 = .ok (.tableswitch 819 0 19 #[96, 109, 152, 201, 214, 267, 310, 363, 396, 445, 488, 511, 554, 587, 630, 663, 676, 689, 743, 796], 96) := by decide +kernel
theorem dL_law_128 : decode cL_law 128 = .ok (.aload_n 1, 1) := by decide +kernel
theorem dL_law_129 : decode cL_law 129 = .ok (.invokevirtual 13, 3) := by decide +kernel
theorem dL_law_132 : decode cL_law 132 = .ok (.aload_n 2, 1) := by decide +kernel
theorem dL_law_133 : decode cL_law 133 = .ok (.invokevirtual 17, 3) := by decide +kernel
theorem dL_law_136 : decode cL_law 136 = .ok (.if_icmp .eq 715, 3) := by decide +kernel
theorem dL_law_139 : decode cL_law 139 = .ok (.iconst 0, 1) := by decide +kernel
theorem dL_law_140 : decode cL_law 140 = .ok (.ireturn, 1) := by decide +kernel
theorem dL_law_141 : decode cL_law 141 = .ok (.aload_n 1, 1) := by decide +kernel
theorem dL_law_142 : decode cL_law 142 = .ok (.aload_n 0, 1) := by decide +kernel
theorem dL_law_143 : decode cL_law 143 = .ok (.iload_n 3, 1) := by decide +kernel
theorem dL_law_144 : decode cL_law 144 = .ok (.iconst 1, 1) := by decide +kernel
theorem dL_law_145 : decode cL_law 145 = .ok (.iadd, 1) := by decide +kernel
theorem dL_law_146 : decode cL_law 146 = .ok (.iaload, 1) := by decide +kernel
theorem dL_law_147 : decode cL_law 147 = .ok (.aload_n 0, 1) := by decide +kernel
theorem dL_law_148 : decode cL_law 148 = .ok (.iload_n 3, 1) := by decide +kernel
theorem dL_law_149 : decode cL_law 149 = .ok (.iconst 2, 1) := by decide +kernel
theorem dL_law_150 : decode cL_law 150 = .ok (.iadd, 1) := by decide +kernel
theorem dL_law_151 : decode cL_law 151 = .ok (.iaload, 1) := by decide +kernel
theorem dL_law_152 : decode cL_law 152 = .ok (.aload_n 0, 1) := by decide +kernel
theorem dL_law_153 : decode cL_law 153 = .ok (.iload_n 3, 1) := by decide +kernel
theorem dL_law_154 : decode cL_law 154 = .ok (.iconst 3, 1) := by decide +kernel
theorem dL_law_155 : decode cL_law 155 = .ok (.iadd, 1) := by decide +kernel
theorem dL_law_156 : decode cL_law 156 = .ok (.iaload, 1) := by decide +kernel
theorem dL_law_157 : decode cL_law 157 = .ok (.invokevirtual 18, 3) := by decide +kernel
theorem dL_law_160 : decode cL_law 160 = .ok (.aload_n 2, 1) := by decide +kernel
theorem dL_law_161 : decode cL_law 161 = .ok (.aload_n 0, 1) := by decide +kernel
theorem dL_law_162 : decode cL_law 162 = .ok (.iload_n 3, 1) := by decide +kernel
theorem dL_law_163 : decode cL_law 163 = .ok (.iconst 1, 1) := by decide +kernel
theorem dL_law_164 : decode cL_law 164 = .ok (.iadd, 1) := by decide +kernel
theorem dL_law_165 : decode cL_law 165 = .ok (.iaload, 1) := by decide +kernel
theorem dL_law_166 : decode cL_law 166 = .ok (.aload_n 0, 1) := by decide +kernel
theorem dL_law_167 : decode cL_law 167 = .ok (.iload_n 3, 1) := by decide +kernel
theorem dL_law_168 : decode cL_law 168 = .ok (.iconst 2, 1) := by decide +kernel
theorem dL_law_169 : decode cL_law 169 = .ok (.iadd, 1) := by decide +kernel
theorem dL_law_170 : decode cL_law 170 = .ok (.iaload, 1) := by decide +kernel
theorem dL_law_171 : decode cL_law 171 = .ok (.aload_n 0, 1) := by decide +kernel
theorem dL_law_172 : decode cL_law 172 = .ok (.iload_n 3, 1) := by decide +kernel
theorem dL_law_173 : decode cL_law 173 = .ok (.iconst 3, 1) := by decide +kernel
theorem dL_law_174 : decode cL_law 174 = .ok (.iadd, 1) := by decide +kernel
theorem dL_law_175 : decode cL_law 175 = .ok (.iaload, 1) := by decide +kernel
theorem dL_law_176 : decode cL_law 176 = .ok (.invokevirtual 22, 3) := by decide +kernel
theorem dL_law_179 : decode cL_law 179 = .ok (.if_icmp .eq 672, 3) := by decide +kernel
theorem dL_law_182 : decode cL_law 182 = .ok (.iconst 0, 1) := by decide +kernel
theorem dL_law_183 : decode cL_law 183 = .ok (.ireturn, 1) := by decide +kernel
theorem dL_law_184 : decode cL_law 184 = .ok (.aload_n 1, 1) := by decide +kernel
theorem dL_law_185 : decode cL_law 185 = .ok (.aload_n 0, 1) := by decide +kernel
theorem dL_law_186 : decode cL_law 186 = .ok (.iload_n 3, 1) := by decide +kernel
theorem dL_law_187 : decode cL_law 187 = .ok (.iconst 1, 1) := by decide +kernel
theorem dL_law_188 : decode cL_law 188 = .ok (.iadd, 1) := by decide +kernel
theorem dL_law_189 : decode cL_law 189 = .ok (.iaload, 1) := by decide +kernel
theorem dL_law_190 : decode cL_law 190 = .ok (.aload_n 0, 1) := by decide +kernel
theorem dL_law_191 : decode cL_law 191 = .ok (.iload_n 3, 1) := by decide +kernel
theorem dL_law_192 : decode cL_law 192 = .ok (.iconst 2, 1) := by decide +kernel
theorem dL_law_193 : decode cL_law 193 = .ok (.iadd, 1) := by decide +kernel
theorem dL_law_194 : decode cL_law 194 = .ok (.iaload, 1) := by decide +kernel
theorem dL_law_195 : decode cL_law 195 = .ok (.ifCond .eq 7, 3) := by decide +kernel
theorem dL_law_198 : decode cL_law 198 = .ok (.iconst 1, 1) := by decide +kernel
theorem dL_law_199 : decode cL_law 199 = .ok (.goto 4, 3) := by decide +kernel
theorem dL_law_202 : decode cL_law 202 = .ok (.iconst 0, 1) := by decide +kernel
theorem dL_law_203 : decode cL_law 203 = .ok (.invokevirtual 23, 3) := by decide +kernel
theorem dL_law_206 : decode cL_law 206 = .ok (.aload_n 2, 1) := by decide +kernel
theorem dL_law_207 : decode cL_law 207 = .ok (.aload_n 0, 1) := by decide +kernel
theorem dL_law_208 : decode cL_law 208 = .ok (.iload_n 3, 1) := by decide +kernel
theorem dL_law_209 : decode cL_law 209 = .ok (.iconst 1, 1) := by decide +kernel
theorem dL_law_210 : decode cL_law 210 = .ok (.iadd, 1) := by decide +kernel
theorem dL_law_211 : decode cL_law 211 = .ok (.iaload, 1) := by decide +kernel
theorem dL_law_212 : decode cL_law 212 = .ok (.aload_n 0, 1) := by decide +kernel
theorem dL_law_213 : decode cL_law 213 = .ok (.iload_n 3, 1) := by decide +kernel
theorem dL_law_214 : decode cL_law 214 = .ok (.iconst 2, 1) := by decide +kernel
theorem dL_law_215 : decode cL_law 215 = .ok (.iadd, 1) := by decide +kernel
theorem dL_law_216 : decode cL_law 216 = .ok (.iaload, 1) := by decide +kernel
theorem dL_law_217 : decode cL_law 217 = .ok (.ifCond .eq 7, 3) := by decide +kernel
theorem dL_law_220 : decode cL_law 220 = .ok (.iconst 1, 1) := by decide +kernel
theorem dL_law_221 : decode cL_law 221 = .ok (.goto 4, 3) := by decide +kernel
theorem dL_law_224 : decode cL_law 224 = .ok (.iconst 0, 1) := by decide +kernel
theorem dL_law_225 : decode cL_law 225 = .ok (.invokevirtual 27, 3) := by decide +kernel
theorem dL_law_228 : decode cL_law 228 = .ok (.if_icmp .eq 623, 3) := by decide +kernel
theorem dL_law_231 : decode cL_law 231 = .ok (.iconst 0, 1) := by decide +kernel
theorem dL_law_232 : decode cL_law 232 = .ok (.ireturn, 1) := by decide +kernel
theorem dL_law_233 : decode cL_law 233 = .ok (.aload_n 1, 1) := by decide +kernel
theorem dL_law_234 : decode cL_law 234 = .ok (.invokevirtual 28, 3) := by decide +kernel
theorem dL_law_237 : decode cL_law 237 = .ok (.aload_n 2, 1) := by decide +kernel
theorem dL_law_238 : decode cL_law 238 = .ok (.invokevirtual 31, 3) := by decide +kernel
theorem dL_law_241 : decode cL_law 241 = .ok (.if_icmp .eq 610, 3) := by decide +kernel
theorem dL_law_244 : decode cL_law 244 = .ok (.iconst 0, 1) := by decide +kernel
theorem dL_law_245 : decode cL_law 245 = .ok (.ireturn, 1) := by decide +kernel
theorem dL_law_246 : decode cL_law 246 = .ok (.aload_n 1, 1) := by decide +kernel
theorem dL_law_247 : decode cL_law 247 = .ok (.aload_n 0, 1) := by decide +kernel
theorem dL_law_248 : decode cL_law 248 = .ok (.iload_n 3, 1) := by decide +kernel
theorem dL_law_249 : decode cL_law 249 = .ok (.iconst 1, 1) := by decide +kernel
theorem dL_law_250 : decode cL_law 250 = .ok (.iadd, 1) := by decide +kernel
theorem dL_law_251 : decode cL_law 251 = .ok (.iaload, 1) := by decide +kernel
theorem dL_law_252 : decode cL_law 252 = .ok (.aload_n 0, 1) := by decide +kernel
theorem dL_law_253 : decode cL_law 253 = .ok (.iload_n 3, 1) := by decide +kernel
theorem dL_law_254 : decode cL_law 254 = .ok (.iconst 2, 1) := by decide +kernel
theorem dL_law_255 : decode cL_law 255 = .ok (.iadd, 1) := by decide +kernel
theorem dL_law_256 : decode cL_law 256 = .ok (.iaload, 1) := by decide +kernel
theorem dL_law_257 : decode cL_law 257 = .ok (.aload_n 0, 1) := by decide +kernel
theorem dL_law_258 : decode cL_law 258 = .ok (.iload_n 3, 1) := by decide +kernel
theorem dL_law_259 : decode cL_law 259 = .ok (.iconst 3, 1) := by decide +kernel
theorem dL_law_260 : decode cL_law 260 = .ok (.iadd, 1) := by decide +kernel
theorem dL_law_261 : decode cL_law 261 = .ok (.iaload, 1) := by decide +kernel
theorem dL_law_262 : decode cL_law 262 = .ok (.aload_n 0, 1) := by decide +kernel
theorem dL_law_263 : decode cL_law 263 = .ok (.iload_n 3, 1) := by decide +kernel
theorem dL_law_264 : decode cL_law 264 = .ok (.iconst 4, 1) := by decide +kernel
theorem dL_law_265 : decode cL_law 265 = .ok (.iadd, 1) := by decide +kernel
theorem dL_law_266 : decode cL_law 266 = .ok (.iaload, 1) := by decide +kernel
theorem dL_law_267 : decode cL_law 267 = .ok (.invokevirtual 32, 3) := by decide +kernel
theorem dL_law_270 : decode cL_law 270 = .ok (.aload_n 2, 1) := by decide +kernel
theorem dL_law_271 : decode cL_law 271 = .ok (.aload_n 0, 1) := by decide +kernel
theorem dL_law_272 : decode cL_law 272 = .ok (.iload_n 3, 1) := by decide +kernel
theorem dL_law_273 : decode cL_law 273 = .ok (.iconst 1, 1) := by decide +kernel
theorem dL_law_274 : decode cL_law 274 = .ok (.iadd, 1) := by decide +kernel
theorem dL_law_275 : decode cL_law 275 = .ok (.iaload, 1) := by decide +kernel
theorem dL_law_276 : decode cL_law 276 = .ok (.aload_n 0, 1) := by decide +kernel
theorem dL_law_277 : decode cL_law 277 = .ok (.iload_n 3, 1) := by decide +kernel
theorem dL_law_278 : decode cL_law 278 = .ok (.iconst 2, 1) := by decide +kernel
theorem dL_law_279 : decode cL_law 279 = .ok (.iadd, 1) := by decide +kernel
theorem dL_law_280 : decode cL_law 280 = .ok (.iaload, 1) := by decide +kernel
theorem dL_law_281 : decode cL_law 281 = .ok (.aload_n 0, 1) := by decide +kernel
theorem dL_law_282 : decode cL_law 282 = .ok (.iload_n 3, 1) := by decide +kernel
theorem dL_law_283 : decode cL_law 283 = .ok (.iconst 3, 1) := by decide +kernel
theorem dL_law_284 : decode cL_law 284 = .ok (.iadd, 1) := by decide +kernel
theorem dL_law_285 : decode cL_law 285 = .ok (.iaload, 1) := by decide +kernel
theorem dL_law_286 : decode cL_law 286 = .ok (.aload_n 0, 1) := by decide +kernel
theorem dL_law_287 : decode cL_law 287 = .ok (.iload_n 3, 1) := by decide +kernel
theorem dL_law_288 : decode cL_law 288 = .ok (.iconst 4, 1) := by decide +kernel
theorem dL_law_289 : decode cL_law 289 = .ok (.iadd, 1) := by decide +kernel
theorem dL_law_290 : decode cL_law 290 = .ok (.iaload, 1) := by decide +kernel
theorem dL_law_291 : decode cL_law 291 = .ok (.invokevirtual 36, 3) := by decide +kernel
theorem dL_law_294 : decode cL_law 294 = .ok (.if_icmp .eq 557, 3) := by decide +kernel
theorem dL_law_297 : decode cL_law 297 = .ok (.iconst 0, 1) := by decide +kernel
theorem dL_law_298 : decode cL_law 298 = .ok (.ireturn, 1) := by decide +kernel
theorem dL_law_299 : decode cL_law 299 = .ok (.aload_n 1, 1) := by decide +kernel
theorem dL_law_300 : decode cL_law 300 = .ok (.aload_n 0, 1) := by decide +kernel
theorem dL_law_301 : decode cL_law 301 = .ok (.iload_n 3, 1) := by decide +kernel
theorem dL_law_302 : decode cL_law 302 = .ok (.iconst 1, 1) := by decide +kernel
theorem dL_law_303 : decode cL_law 303 = .ok (.iadd, 1) := by decide +kernel
theorem dL_law_304 : decode cL_law 304 = .ok (.iaload, 1) := by decide +kernel
theorem dL_law_305 : decode cL_law 305 = .ok (.aload_n 0, 1) := by decide +kernel
theorem dL_law_306 : decode cL_law 306 = .ok (.iload_n 3, 1) := by decide +kernel
theorem dL_law_307 : decode cL_law 307 = .ok (.iconst 2, 1) := by decide +kernel
theorem dL_law_308 : decode cL_law 308 = .ok (.iadd, 1) := by decide +kernel
theorem dL_law_309 : decode cL_law 309 = .ok (.iaload, 1) := by decide +kernel
theorem dL_law_310 : decode cL_law 310 = .ok (.aload_n 0, 1) := by decide +kernel
theorem dL_law_311 : decode cL_law 311 = .ok (.iload_n 3, 1) := by decide +kernel
theorem dL_law_312 : decode cL_law 312 = .ok (.iconst 3, 1) := by decide +kernel
theorem dL_law_313 : decode cL_law 313 = .ok (.iadd, 1) := by decide +kernel
theorem dL_law_314 : decode cL_law 314 = .ok (.iaload, 1) := by decide +kernel
theorem dL_law_315 : decode cL_law 315 = .ok (.invokevirtual 37, 3) := by decide +kernel
theorem dL_law_318 : decode cL_law 318 = .ok (.aload_n 2, 1) := by decide +kernel
theorem dL_law_319 : decode cL_law 319 = .ok (.aload_n 0, 1) := by decide +kernel
theorem dL_law_320 : decode cL_law 320 = .ok (.iload_n 3, 1) := by decide +kernel
theorem dL_law_321 : decode cL_law 321 = .ok (.iconst 1, 1) := by decide +kernel
theorem dL_law_322 : decode cL_law 322 = .ok (.iadd, 1) := by decide +kernel
theorem dL_law_323 : decode cL_law 323 = .ok (.iaload, 1) := by decide +kernel
theorem dL_law_324 : decode cL_law 324 = .ok (.aload_n 0, 1) := by decide +kernel
theorem dL_law_325 : decode cL_law 325 = .ok (.iload_n 3, 1) := by decide +kernel
theorem dL_law_326 : decode cL_law 326 = .ok (.iconst 2, 1) := by decide +kernel
theorem dL_law_327 : decode cL_law 327 = .ok (.iadd, 1) := by decide +kernel
theorem dL_law_328 : decode cL_law 328 = .ok (.iaload, 1) := by decide +kernel
theorem dL_law_329 : decode cL_law 329 = .ok (.aload_n 0, 1) := by decide +kernel
theorem dL_law_330 : decode cL_law 330 = .ok (.iload_n 3, 1) := by decide +kernel
theorem dL_law_331 : decode cL_law 331 = .ok (.iconst 3, 1) := by decide +kernel
theorem dL_law_332 : decode cL_law 332 = .ok (.iadd, 1) := by decide +kernel
theorem dL_law_333 : decode cL_law 333 = .ok (.iaload, 1) := by decide +kernel
theorem dL_law_334 : decode cL_law 334 = .ok (.invokevirtual 40, 3) := by decide +kernel
theorem dL_law_337 : decode cL_law 337 = .ok (.if_icmp .eq 514, 3) := by decide +kernel
theorem dL_law_340 : decode cL_law 340 = .ok (.iconst 0, 1) := by decide +kernel
theorem dL_law_341 : decode cL_law 341 = .ok (.ireturn, 1) := by decide +kernel
theorem dL_law_342 : decode cL_law 342 = .ok (.aload_n 1, 1) := by decide +kernel
theorem dL_law_343 : decode cL_law 343 = .ok (.aload_n 0, 1) := by decide +kernel
theorem dL_law_344 : decode cL_law 344 = .ok (.iload_n 3, 1) := by decide +kernel
theorem dL_law_345 : decode cL_law 345 = .ok (.iconst 1, 1) := by decide +kernel
theorem dL_law_346 : decode cL_law 346 = .ok (.iadd, 1) := by decide +kernel
theorem dL_law_347 : decode cL_law 347 = .ok (.iaload, 1) := by decide +kernel
theorem dL_law_348 : decode cL_law 348 = .ok (.aload_n 0, 1) := by decide +kernel
theorem dL_law_349 : decode cL_law 349 = .ok (.iload_n 3, 1) := by decide +kernel
theorem dL_law_350 : decode cL_law 350 = .ok (.iconst 2, 1) := by decide +kernel
theorem dL_law_351 : decode cL_law 351 = .ok (.iadd, 1) := by decide +kernel
theorem dL_law_352 : decode cL_law 352 = .ok (.iaload, 1) := by decide +kernel
theorem dL_law_353 : decode cL_law 353 = .ok (.aload_n 0, 1) := by decide +kernel
theorem dL_law_354 : decode cL_law 354 = .ok (.iload_n 3, 1) := by decide +kernel
theorem dL_law_355 : decode cL_law 355 = .ok (.iconst 3, 1) := by decide +kernel
theorem dL_law_356 : decode cL_law 356 = .ok (.iadd, 1) := by decide +kernel
theorem dL_law_357 : decode cL_law 357 = .ok (.iaload, 1) := by decide +kernel
theorem dL_law_358 : decode cL_law 358 = .ok (.aload_n 0, 1) := by decide +kernel
theorem dL_law_359 : decode cL_law 359 = .ok (.iload_n 3, 1) := by decide +kernel
theorem dL_law_360 : decode cL_law 360 = .ok (.iconst 4, 1) := by decide +kernel
theorem dL_law_361 : decode cL_law 361 = .ok (.iadd, 1) := by decide +kernel
theorem dL_law_362 : decode cL_law 362 = .ok (.iaload, 1) := by decide +kernel
theorem dL_law_363 : decode cL_law 363 = .ok (.invokevirtual 41, 3) := by decide +kernel
theorem dL_law_366 : decode cL_law 366 = .ok (.aload_n 2, 1) := by decide +kernel
theorem dL_law_367 : decode cL_law 367 = .ok (.aload_n 0, 1) := by decide +kernel
theorem dL_law_368 : decode cL_law 368 = .ok (.iload_n 3, 1) := by decide +kernel
theorem dL_law_369 : decode cL_law 369 = .ok (.iconst 1, 1) := by decide +kernel
theorem dL_law_370 : decode cL_law 370 = .ok (.iadd, 1) := by decide +kernel
theorem dL_law_371 : decode cL_law 371 = .ok (.iaload, 1) := by decide +kernel
theorem dL_law_372 : decode cL_law 372 = .ok (.aload_n 0, 1) := by decide +kernel
theorem dL_law_373 : decode cL_law 373 = .ok (.iload_n 3, 1) := by decide +kernel
theorem dL_law_374 : decode cL_law 374 = .ok (.iconst 2, 1) := by decide +kernel
theorem dL_law_375 : decode cL_law 375 = .ok (.iadd, 1) := by decide +kernel
theorem dL_law_376 : decode cL_law 376 = .ok (.iaload, 1) := by decide +kernel
theorem dL_law_377 : decode cL_law 377 = .ok (.aload_n 0, 1) := by decide +kernel
theorem dL_law_378 : decode cL_law 378 = .ok (.iload_n 3, 1) := by decide +kernel
theorem dL_law_379 : decode cL_law 379 = .ok (.iconst 3, 1) := by decide +kernel
theorem dL_law_380 : decode cL_law 380 = .ok (.iadd, 1) := by decide +kernel
theorem dL_law_381 : decode cL_law 381 = .ok (.iaload, 1) := by decide +kernel
theorem dL_law_382 : decode cL_law 382 = .ok (.aload_n 0, 1) := by decide +kernel
theorem dL_law_383 : decode cL_law 383 = .ok (.iload_n 3, 1) := by decide +kernel
theorem dL_law_384 : decode cL_law 384 = .ok (.iconst 4, 1) := by decide +kernel
theorem dL_law_385 : decode cL_law 385 = .ok (.iadd, 1) := by decide +kernel
theorem dL_law_386 : decode cL_law 386 = .ok (.iaload, 1) := by decide +kernel
theorem dL_law_387 : decode cL_law 387 = .ok (.invokevirtual 44, 3) := by decide +kernel
theorem dL_law_390 : decode cL_law 390 = .ok (.if_icmp .eq 461, 3) := by decide +kernel
theorem dL_law_393 : decode cL_law 393 = .ok (.iconst 0, 1) := by decide +kernel
theorem dL_law_394 : decode cL_law 394 = .ok (.ireturn, 1) := by decide +kernel
theorem dL_law_395 : decode cL_law 395 = .ok (.aload_n 1, 1) := by decide +kernel
theorem dL_law_396 : decode cL_law 396 = .ok (.aload_n 0, 1) := by decide +kernel
theorem dL_law_397 : decode cL_law 397 = .ok (.iload_n 3, 1) := by decide +kernel
theorem dL_law_398 : decode cL_law 398 = .ok (.iconst 1, 1) := by decide +kernel
theorem dL_law_399 : decode cL_law 399 = .ok (.iadd, 1) := by decide +kernel
theorem dL_law_400 : decode cL_law 400 = .ok (.iaload, 1) := by decide +kernel
theorem dL_law_401 : decode cL_law 401 = .ok (.aload_n 0, 1) := by decide +kernel
theorem dL_law_402 : decode cL_law 402 = .ok (.iload_n 3, 1) := by decide +kernel
theorem dL_law_403 : decode cL_law 403 = .ok (.iconst 2, 1) := by decide +kernel
theorem dL_law_404 : decode cL_law 404 = .ok (.iadd, 1) := by decide +kernel
theorem dL_law_405 : decode cL_law 405 = .ok (.iaload, 1) := by decide +kernel
theorem dL_law_406 : decode cL_law 406 = .ok (.invokevirtual 45, 3) := by decide +kernel
theorem dL_law_409 : decode cL_law 409 = .ok (.aload_n 2, 1) := by decide +kernel
theorem dL_law_410 : decode cL_law 410 = .ok (.aload_n 0, 1) := by decide +kernel
theorem dL_law_411 : decode cL_law 411 = .ok (.iload_n 3, 1) := by decide +kernel
theorem dL_law_412 : decode cL_law 412 = .ok (.iconst 1, 1) := by decide +kernel
theorem dL_law_413 : decode cL_law 413 = .ok (.iadd, 1) := by decide +kernel
theorem dL_law_414 : decode cL_law 414 = .ok (.iaload, 1) := by decide +kernel
theorem dL_law_415 : decode cL_law 415 = .ok (.aload_n 0, 1) := by decide +kernel
theorem dL_law_416 : decode cL_law 416 = .ok (.iload_n 3, 1) := by decide +kernel
theorem dL_law_417 : decode cL_law 417 = .ok (.iconst 2, 1) := by decide +kernel
theorem dL_law_418 : decode cL_law 418 = .ok (.iadd, 1) := by decide +kernel
theorem dL_law_419 : decode cL_law 419 = .ok (.iaload, 1) := by decide +kernel
theorem dL_law_420 : decode cL_law 420 = .ok (.invokevirtual 49, 3) := by decide +kernel
theorem dL_law_423 : decode cL_law 423 = .ok (.if_icmp .eq 428, 3) := by decide +kernel
theorem dL_law_426 : decode cL_law 426 = .ok (.iconst 0, 1) := by decide +kernel
theorem dL_law_427 : decode cL_law 427 = .ok (.ireturn, 1) := by decide +kernel
theorem dL_law_428 : decode cL_law 428 = .ok (.aload_n 1, 1) := by decide +kernel
theorem dL_law_429 : decode cL_law 429 = .ok (.aload_n 0, 1) := by decide +kernel
theorem dL_law_430 : decode cL_law 430 = .ok (.iload_n 3, 1) := by decide +kernel
theorem dL_law_431 : decode cL_law 431 = .ok (.iconst 1, 1) := by decide +kernel
theorem dL_law_432 : decode cL_law 432 = .ok (.iadd, 1) := by decide +kernel
theorem dL_law_433 : decode cL_law 433 = .ok (.iaload, 1) := by decide +kernel
theorem dL_law_434 : decode cL_law 434 = .ok (.aload_n 0, 1) := by decide +kernel
theorem dL_law_435 : decode cL_law 435 = .ok (.iload_n 3, 1) := by decide +kernel
theorem dL_law_436 : decode cL_law 436 = .ok (.iconst 2, 1) := by decide +kernel
theorem dL_law_437 : decode cL_law 437 = .ok (.iadd, 1) := by decide +kernel
theorem dL_law_438 : decode cL_law 438 = .ok (.iaload, 1) := by decide +kernel
theorem dL_law_439 : decode cL_law 439 = .ok (.ifCond .eq 7, 3) := by decide +kernel
theorem dL_law_442 : decode cL_law 442 = .ok (.iconst 1, 1) := by decide +kernel
theorem dL_law_443 : decode cL_law 443 = .ok (.goto 4, 3) := by decide +kernel
theorem dL_law_446 : decode cL_law 446 = .ok (.iconst 0, 1) := by decide +kernel
theorem dL_law_447 : decode cL_law 447 = .ok (.invokevirtual 50, 3) := by decide +kernel
theorem dL_law_450 : decode cL_law 450 = .ok (.aload_n 2, 1) := by decide +kernel
theorem dL_law_451 : decode cL_law 451 = .ok (.aload_n 0, 1) := by decide +kernel
theorem dL_law_452 : decode cL_law 452 = .ok (.iload_n 3, 1) := by decide +kernel
theorem dL_law_453 : decode cL_law 453 = .ok (.iconst 1, 1) := by decide +kernel
theorem dL_law_454 : decode cL_law 454 = .ok (.iadd, 1) := by decide +kernel
theorem dL_law_455 : decode cL_law 455 = .ok (.iaload, 1) := by decide +kernel
theorem dL_law_456 : decode cL_law 456 = .ok (.aload_n 0, 1) := by decide +kernel
theorem dL_law_457 : decode cL_law 457 = .ok (.iload_n 3, 1) := by decide +kernel
theorem dL_law_458 : decode cL_law 458 = .ok (.iconst 2, 1) := by decide +kernel
theorem dL_law_459 : decode cL_law 459 = .ok (.iadd, 1) := by decide +kernel
theorem dL_law_460 : decode cL_law 460 = .ok (.iaload, 1) := by decide +kernel
theorem dL_law_461 : decode cL_law 461 = .ok (.ifCond .eq 7, 3) := by decide +kernel
theorem dL_law_464 : decode cL_law 464 = .ok (.iconst 1, 1) := by decide +kernel
theorem dL_law_465 : decode cL_law 465 = .ok (.goto 4, 3) := by decide +kernel
theorem dL_law_468 : decode cL_law 468 = .ok (.iconst 0, 1) := by decide +kernel
theorem dL_law_469 : decode cL_law 469 = .ok (.invokevirtual 53, 3) := by decide +kernel
theorem dL_law_472 : decode cL_law 472 = .ok (.if_icmp .eq 379, 3) := by decide +kernel
theorem dL_law_475 : decode cL_law 475 = .ok (.iconst 0, 1) := by decide +kernel
theorem dL_law_476 : decode cL_law 476 = .ok (.ireturn, 1) := by decide +kernel
theorem dL_law_477 : decode cL_law 477 = .ok (.aload_n 1, 1) := by decide +kernel
theorem dL_law_478 : decode cL_law 478 = .ok (.aload_n 0, 1) := by decide +kernel
theorem dL_law_479 : decode cL_law 479 = .ok (.iload_n 3, 1) := by decide +kernel
theorem dL_law_480 : decode cL_law 480 = .ok (.iconst 1, 1) := by decide +kernel
theorem dL_law_481 : decode cL_law 481 = .ok (.iadd, 1) := by decide +kernel
theorem dL_law_482 : decode cL_law 482 = .ok (.iaload, 1) := by decide +kernel
theorem dL_law_483 : decode cL_law 483 = .ok (.aload_n 0, 1) := by decide +kernel
theorem dL_law_484 : decode cL_law 484 = .ok (.iload_n 3, 1) := by decide +kernel
theorem dL_law_485 : decode cL_law 485 = .ok (.iconst 2, 1) := by decide +kernel
theorem dL_law_486 : decode cL_law 486 = .ok (.iadd, 1) := by decide +kernel
theorem dL_law_487 : decode cL_law 487 = .ok (.iaload, 1) := by decide +kernel
theorem dL_law_488 : decode cL_law 488 = .ok (.aload_n 0, 1) := by decide +kernel
theorem dL_law_489 : decode cL_law 489 = .ok (.iload_n 3, 1) := by decide +kernel
theorem dL_law_490 : decode cL_law 490 = .ok (.iconst 3, 1) := by decide +kernel
theorem dL_law_491 : decode cL_law 491 = .ok (.iadd, 1) := by decide +kernel
theorem dL_law_492 : decode cL_law 492 = .ok (.iaload, 1) := by decide +kernel
theorem dL_law_493 : decode cL_law 493 = .ok (.invokevirtual 54, 3) := by decide +kernel
theorem dL_law_496 : decode cL_law 496 = .ok (.aload_n 2, 1) := by decide +kernel
theorem dL_law_497 : decode cL_law 497 = .ok (.aload_n 0, 1) := by decide +kernel
theorem dL_law_498 : decode cL_law 498 = .ok (.iload_n 3, 1) := by decide +kernel
theorem dL_law_499 : decode cL_law 499 = .ok (.iconst 1, 1) := by decide +kernel
theorem dL_law_500 : decode cL_law 500 = .ok (.iadd, 1) := by decide +kernel
theorem dL_law_501 : decode cL_law 501 = .ok (.iaload, 1) := by decide +kernel
theorem dL_law_502 : decode cL_law 502 = .ok (.aload_n 0, 1) := by decide +kernel
theorem dL_law_503 : decode cL_law 503 = .ok (.iload_n 3, 1) := by decide +kernel
theorem dL_law_504 : decode cL_law 504 = .ok (.iconst 2, 1) := by decide +kernel
theorem dL_law_505 : decode cL_law 505 = .ok (.iadd, 1) := by decide +kernel
theorem dL_law_506 : decode cL_law 506 = .ok (.iaload, 1) := by decide +kernel
theorem dL_law_507 : decode cL_law 507 = .ok (.aload_n 0, 1) := by decide +kernel
theorem dL_law_508 : decode cL_law 508 = .ok (.iload_n 3, 1) := by decide +kernel
theorem dL_law_509 : decode cL_law 509 = .ok (.iconst 3, 1) := by decide +kernel
theorem dL_law_510 : decode cL_law 510 = .ok (.iadd, 1) := by decide +kernel
theorem dL_law_511 : decode cL_law 511 = .ok (.iaload, 1) := by decide +kernel
theorem dL_law_512 : decode cL_law 512 = .ok (.invokevirtual 57, 3) := by decide +kernel
theorem dL_law_515 : decode cL_law 515 = .ok (.if_icmp .eq 336, 3) := by decide +kernel
theorem dL_law_518 : decode cL_law 518 = .ok (.iconst 0, 1) := by decide +kernel
theorem dL_law_519 : decode cL_law 519 = .ok (.ireturn, 1) := by decide +kernel
theorem dL_law_520 : decode cL_law 520 = .ok (.aload_n 1, 1) := by decide +kernel
theorem dL_law_521 : decode cL_law 521 = .ok (.aload_n 0, 1) := by decide +kernel
theorem dL_law_522 : decode cL_law 522 = .ok (.iload_n 3, 1) := by decide +kernel
theorem dL_law_523 : decode cL_law 523 = .ok (.iconst 1, 1) := by decide +kernel
theorem dL_law_524 : decode cL_law 524 = .ok (.iadd, 1) := by decide +kernel
theorem dL_law_525 : decode cL_law 525 = .ok (.iaload, 1) := by decide +kernel
theorem dL_law_526 : decode cL_law 526 = .ok (.invokevirtual 58, 3) := by decide +kernel
theorem dL_law_529 : decode cL_law 529 = .ok (.aload_n 2, 1) := by decide +kernel
theorem dL_law_530 : decode cL_law 530 = .ok (.aload_n 0, 1) := by decide +kernel
theorem dL_law_531 : decode cL_law 531 = .ok (.iload_n 3, 1) := by decide +kernel
theorem dL_law_532 : decode cL_law 532 = .ok (.iconst 1, 1) := by decide +kernel
theorem dL_law_533 : decode cL_law 533 = .ok (.iadd, 1) := by decide +kernel
theorem dL_law_534 : decode cL_law 534 = .ok (.iaload, 1) := by decide +kernel
theorem dL_law_535 : decode cL_law 535 = .ok (.invokevirtual 62, 3) := by decide +kernel
theorem dL_law_538 : decode cL_law 538 = .ok (.if_icmp .eq 313, 3) := by decide +kernel
theorem dL_law_541 : decode cL_law 541 = .ok (.iconst 0, 1) := by decide +kernel
theorem dL_law_542 : decode cL_law 542 = .ok (.ireturn, 1) := by decide +kernel
theorem dL_law_543 : decode cL_law 543 = .ok (.aload_n 1, 1) := by decide +kernel
theorem dL_law_544 : decode cL_law 544 = .ok (.aload_n 0, 1) := by decide +kernel
theorem dL_law_545 : decode cL_law 545 = .ok (.iload_n 3, 1) := by decide +kernel
theorem dL_law_546 : decode cL_law 546 = .ok (.iconst 1, 1) := by decide +kernel
theorem dL_law_547 : decode cL_law 547 = .ok (.iadd, 1) := by decide +kernel
theorem dL_law_548 : decode cL_law 548 = .ok (.iaload, 1) := by decide +kernel
theorem dL_law_549 : decode cL_law 549 = .ok (.aload_n 0, 1) := by decide +kernel
theorem dL_law_550 : decode cL_law 550 = .ok (.iload_n 3, 1) := by decide +kernel
theorem dL_law_551 : decode cL_law 551 = .ok (.iconst 2, 1) := by decide +kernel
theorem dL_law_552 : decode cL_law 552 = .ok (.iadd, 1) := by decide +kernel
theorem dL_law_553 : decode cL_law 553 = .ok (.iaload, 1) := by decide +kernel
theorem dL_law_554 : decode cL_law 554 = .ok (.aload_n 0, 1) := by decide +kernel
theorem dL_law_555 : decode cL_law 555 = .ok (.iload_n 3, 1) := by decide +kernel
theorem dL_law_556 : decode cL_law 556 = .ok (.iconst 3, 1) := by decide +kernel
theorem dL_law_557 : decode cL_law 557 = .ok (.iadd, 1) := by decide +kernel
theorem dL_law_558 : decode cL_law 558 = .ok (.iaload, 1) := by decide +kernel
theorem dL_law_559 : decode cL_law 559 = .ok (.invokevirtual 63, 3) := by decide +kernel
theorem dL_law_562 : decode cL_law 562 = .ok (.aload_n 2, 1) := by decide +kernel
theorem dL_law_563 : decode cL_law 563 = .ok (.aload_n 0, 1) := by decide +kernel
theorem dL_law_564 : decode cL_law 564 = .ok (.iload_n 3, 1) := by decide +kernel
theorem dL_law_565 : decode cL_law 565 = .ok (.iconst 1, 1) := by decide +kernel
theorem dL_law_566 : decode cL_law 566 = .ok (.iadd, 1) := by decide +kernel
theorem dL_law_567 : decode cL_law 567 = .ok (.iaload, 1) := by decide +kernel
theorem dL_law_568 : decode cL_law 568 = .ok (.aload_n 0, 1) := by decide +kernel
theorem dL_law_569 : decode cL_law 569 = .ok (.iload_n 3, 1) := by decide +kernel
theorem dL_law_570 : decode cL_law 570 = .ok (.iconst 2, 1) := by decide +kernel
theorem dL_law_571 : decode cL_law 571 = .ok (.iadd, 1) := by decide +kernel
theorem dL_law_572 : decode cL_law 572 = .ok (.iaload, 1) := by decide +kernel
theorem dL_law_573 : decode cL_law 573 = .ok (.aload_n 0, 1) := by decide +kernel
theorem dL_law_574 : decode cL_law 574 = .ok (.iload_n 3, 1) := by decide +kernel
theorem dL_law_575 : decode cL_law 575 = .ok (.iconst 3, 1) := by decide +kernel
theorem dL_law_576 : decode cL_law 576 = .ok (.iadd, 1) := by decide +kernel
theorem dL_law_577 : decode cL_law 577 = .ok (.iaload, 1) := by decide +kernel
theorem dL_law_578 : decode cL_law 578 = .ok (.invokevirtual 66, 3) := by decide +kernel
theorem dL_law_581 : decode cL_law 581 = .ok (.if_icmp .eq 270, 3) := by decide +kernel
theorem dL_law_584 : decode cL_law 584 = .ok (.iconst 0, 1) := by decide +kernel
theorem dL_law_585 : decode cL_law 585 = .ok (.ireturn, 1) := by decide +kernel
theorem dL_law_586 : decode cL_law 586 = .ok (.aload_n 1, 1) := by decide +kernel
theorem dL_law_587 : decode cL_law 587 = .ok (.aload_n 0, 1) := by decide +kernel
theorem dL_law_588 : decode cL_law 588 = .ok (.iload_n 3, 1) := by decide +kernel
theorem dL_law_589 : decode cL_law 589 = .ok (.iconst 1, 1) := by decide +kernel
theorem dL_law_590 : decode cL_law 590 = .ok (.iadd, 1) := by decide +kernel
theorem dL_law_591 : decode cL_law 591 = .ok (.iaload, 1) := by decide +kernel
theorem dL_law_592 : decode cL_law 592 = .ok (.aload_n 0, 1) := by decide +kernel
theorem dL_law_593 : decode cL_law 593 = .ok (.iload_n 3, 1) := by decide +kernel
theorem dL_law_594 : decode cL_law 594 = .ok (.iconst 2, 1) := by decide +kernel
theorem dL_law_595 : decode cL_law 595 = .ok (.iadd, 1) := by decide +kernel
theorem dL_law_596 : decode cL_law 596 = .ok (.iaload, 1) := by decide +kernel
theorem dL_law_597 : decode cL_law 597 = .ok (.invokevirtual 67, 3) := by decide +kernel
theorem dL_law_600 : decode cL_law 600 = .ok (.aload_n 2, 1) := by decide +kernel
theorem dL_law_601 : decode cL_law 601 = .ok (.aload_n 0, 1) := by decide +kernel
theorem dL_law_602 : decode cL_law 602 = .ok (.iload_n 3, 1) := by decide +kernel
theorem dL_law_603 : decode cL_law 603 = .ok (.iconst 1, 1) := by decide +kernel
theorem dL_law_604 : decode cL_law 604 = .ok (.iadd, 1) := by decide +kernel
theorem dL_law_605 : decode cL_law 605 = .ok (.iaload, 1) := by decide +kernel
theorem dL_law_606 : decode cL_law 606 = .ok (.aload_n 0, 1) := by decide +kernel
theorem dL_law_607 : decode cL_law 607 = .ok (.iload_n 3, 1) := by decide +kernel
theorem dL_law_608 : decode cL_law 608 = .ok (.iconst 2, 1) := by decide +kernel
theorem dL_law_609 : decode cL_law 609 = .ok (.iadd, 1) := by decide +kernel
theorem dL_law_610 : decode cL_law 610 = .ok (.iaload, 1) := by decide +kernel
theorem dL_law_611 : decode cL_law 611 = .ok (.invokevirtual 70, 3) := by decide +kernel
theorem dL_law_614 : decode cL_law 614 = .ok (.if_icmp .eq 237, 3) := by decide +kernel
theorem dL_law_617 : decode cL_law 617 = .ok (.iconst 0, 1) := by decide +kernel
theorem dL_law_618 : decode cL_law 618 = .ok (.ireturn, 1) := by decide +kernel
theorem dL_law_619 : decode cL_law 619 = .ok (.aload_n 1, 1) := by decide +kernel
theorem dL_law_620 : decode cL_law 620 = .ok (.aload_n 0, 1) := by decide +kernel
theorem dL_law_621 : decode cL_law 621 = .ok (.iload_n 3, 1) := by decide +kernel
theorem dL_law_622 : decode cL_law 622 = .ok (.iconst 1, 1) := by decide +kernel
theorem dL_law_623 : decode cL_law 623 = .ok (.iadd, 1) := by decide +kernel
theorem dL_law_624 : decode cL_law 624 = .ok (.iaload, 1) := by decide +kernel
theorem dL_law_625 : decode cL_law 625 = .ok (.aload_n 0, 1) := by decide +kernel
theorem dL_law_626 : decode cL_law 626 = .ok (.iload_n 3, 1) := by decide +kernel
theorem dL_law_627 : decode cL_law 627 = .ok (.iconst 2, 1) := by decide +kernel
theorem dL_law_628 : decode cL_law 628 = .ok (.iadd, 1) := by decide +kernel
theorem dL_law_629 : decode cL_law 629 = .ok (.iaload, 1) := by decide +kernel
theorem dL_law_630 : decode cL_law 630 = .ok (.aload_n 0, 1) := by decide +kernel
theorem dL_law_631 : decode cL_law 631 = .ok (.iload_n 3, 1) := by decide +kernel
theorem dL_law_632 : decode cL_law 632 = .ok (.iconst 3, 1) := by decide +kernel
theorem dL_law_633 : decode cL_law 633 = .ok (.iadd, 1) := by decide +kernel
theorem dL_law_634 : decode cL_law 634 = .ok (.iaload, 1) := by decide +kernel
theorem dL_law_635 : decode cL_law 635 = .ok (.invokevirtual 71, 3) := by decide +kernel
theorem dL_law_638 : decode cL_law 638 = .ok (.aload_n 2, 1) := by decide +kernel
theorem dL_law_639 : decode cL_law 639 = .ok (.aload_n 0, 1) := by decide +kernel
theorem dL_law_640 : decode cL_law 640 = .ok (.iload_n 3, 1) := by decide +kernel
theorem dL_law_641 : decode cL_law 641 = .ok (.iconst 1, 1) := by decide +kernel
theorem dL_law_642 : decode cL_law 642 = .ok (.iadd, 1) := by decide +kernel
theorem dL_law_643 : decode cL_law 643 = .ok (.iaload, 1) := by decide +kernel
theorem dL_law_644 : decode cL_law 644 = .ok (.aload_n 0, 1) := by decide +kernel
theorem dL_law_645 : decode cL_law 645 = .ok (.iload_n 3, 1) := by decide +kernel
theorem dL_law_646 : decode cL_law 646 = .ok (.iconst 2, 1) := by decide +kernel
theorem dL_law_647 : decode cL_law 647 = .ok (.iadd, 1) := by decide +kernel
theorem dL_law_648 : decode cL_law 648 = .ok (.iaload, 1) := by decide +kernel
theorem dL_law_649 : decode cL_law 649 = .ok (.aload_n 0, 1) := by decide +kernel
theorem dL_law_650 : decode cL_law 650 = .ok (.iload_n 3, 1) := by decide +kernel
theorem dL_law_651 : decode cL_law 651 = .ok (.iconst 3, 1) := by decide +kernel
theorem dL_law_652 : decode cL_law 652 = .ok (.iadd, 1) := by decide +kernel
theorem dL_law_653 : decode cL_law 653 = .ok (.iaload, 1) := by decide +kernel
theorem dL_law_654 : decode cL_law 654 = .ok (.invokevirtual 74, 3) := by decide +kernel
theorem dL_law_657 : decode cL_law 657 = .ok (.if_icmp .eq 194, 3) := by decide +kernel
theorem dL_law_660 : decode cL_law 660 = .ok (.iconst 0, 1) := by decide +kernel
theorem dL_law_661 : decode cL_law 661 = .ok (.ireturn, 1) := by decide +kernel
theorem dL_law_662 : decode cL_law 662 = .ok (.aload_n 1, 1) := by decide +kernel
theorem dL_law_663 : decode cL_law 663 = .ok (.aload_n 0, 1) := by decide +kernel
theorem dL_law_664 : decode cL_law 664 = .ok (.iload_n 3, 1) := by decide +kernel
theorem dL_law_665 : decode cL_law 665 = .ok (.iconst 1, 1) := by decide +kernel
theorem dL_law_666 : decode cL_law 666 = .ok (.iadd, 1) := by decide +kernel
theorem dL_law_667 : decode cL_law 667 = .ok (.iaload, 1) := by decide +kernel
theorem dL_law_668 : decode cL_law 668 = .ok (.aload_n 0, 1) := by decide +kernel
theorem dL_law_669 : decode cL_law 669 = .ok (.iload_n 3, 1) := by decide +kernel
theorem dL_law_670 : decode cL_law 670 = .ok (.iconst 2, 1) := by decide +kernel
theorem dL_law_671 : decode cL_law 671 = .ok (.iadd, 1) := by decide +kernel
theorem dL_law_672 : decode cL_law 672 = .ok (.iaload, 1) := by decide +kernel
theorem dL_law_673 : decode cL_law 673 = .ok (.invokevirtual 75, 3) := by decide +kernel
theorem dL_law_676 : decode cL_law 676 = .ok (.aload_n 2, 1) := by decide +kernel
theorem dL_law_677 : decode cL_law 677 = .ok (.aload_n 0, 1) := by decide +kernel
theorem dL_law_678 : decode cL_law 678 = .ok (.iload_n 3, 1) := by decide +kernel
theorem dL_law_679 : decode cL_law 679 = .ok (.iconst 1, 1) := by decide +kernel
theorem dL_law_680 : decode cL_law 680 = .ok (.iadd, 1) := by decide +kernel
theorem dL_law_681 : decode cL_law 681 = .ok (.iaload, 1) := by decide +kernel
theorem dL_law_682 : decode cL_law 682 = .ok (.aload_n 0, 1) := by decide +kernel
theorem dL_law_683 : decode cL_law 683 = .ok (.iload_n 3, 1) := by decide +kernel
theorem dL_law_684 : decode cL_law 684 = .ok (.iconst 2, 1) := by decide +kernel
theorem dL_law_685 : decode cL_law 685 = .ok (.iadd, 1) := by decide +kernel
theorem dL_law_686 : decode cL_law 686 = .ok (.iaload, 1) := by decide +kernel
theorem dL_law_687 : decode cL_law 687 = .ok (.invokevirtual 78, 3) := by decide +kernel
theorem dL_law_690 : decode cL_law 690 = .ok (.if_icmp .eq 161, 3) := by decide +kernel
theorem dL_law_693 : decode cL_law 693 = .ok (.iconst 0, 1) := by decide +kernel
theorem dL_law_694 : decode cL_law 694 = .ok (.ireturn, 1) := by decide +kernel
theorem dL_law_695 : decode cL_law 695 = .ok (.aload_n 1, 1) := by decide +kernel
theorem dL_law_696 : decode cL_law 696 = .ok (.invokevirtual 79, 3) := by decide +kernel
theorem dL_law_699 : decode cL_law 699 = .ok (.aload_n 2, 1) := by decide +kernel
theorem dL_law_700 : decode cL_law 700 = .ok (.invokevirtual 82, 3) := by decide +kernel
theorem dL_law_703 : decode cL_law 703 = .ok (.if_icmp .eq 148, 3) := by decide +kernel
theorem dL_law_706 : decode cL_law 706 = .ok (.iconst 0, 1) := by decide +kernel
theorem dL_law_707 : decode cL_law 707 = .ok (.ireturn, 1) := by decide +kernel
theorem dL_law_708 : decode cL_law 708 = .ok (.aload_n 1, 1) := by decide +kernel
theorem dL_law_709 : decode cL_law 709 = .ok (.invokevirtual 83, 3) := by decide +kernel
theorem dL_law_712 : decode cL_law 712 = .ok (.aload_n 2, 1) := by decide +kernel
theorem dL_law_713 : decode cL_law 713 = .ok (.invokevirtual 86, 3) := by decide +kernel
theorem dL_law_716 : decode cL_law 716 = .ok (.if_icmp .eq 135, 3) := by decide +kernel
theorem dL_law_719 : decode cL_law 719 = .ok (.iconst 0, 1) := by decide +kernel
theorem dL_law_720 : decode cL_law 720 = .ok (.ireturn, 1) := by decide +kernel
theorem dL_law_721 : decode cL_law 721 = .ok (.aload_n 1, 1) := by decide +kernel
theorem dL_law_722 : decode cL_law 722 = .ok (.aload_n 0, 1) := by decide +kernel
theorem dL_law_723 : decode cL_law 723 = .ok (.iload_n 3, 1) := by decide +kernel
theorem dL_law_724 : decode cL_law 724 = .ok (.iconst 1, 1) := by decide +kernel
theorem dL_law_725 : decode cL_law 725 = .ok (.iadd, 1) := by decide +kernel
theorem dL_law_726 : decode cL_law 726 = .ok (.iaload, 1) := by decide +kernel
theorem dL_law_727 : decode cL_law 727 = .ok (.aload_n 0, 1) := by decide +kernel
theorem dL_law_728 : decode cL_law 728 = .ok (.iload_n 3, 1) := by decide +kernel
theorem dL_law_729 : decode cL_law 729 = .ok (.iconst 2, 1) := by decide +kernel
theorem dL_law_730 : decode cL_law 730 = .ok (.iadd, 1) := by decide +kernel
theorem dL_law_731 : decode cL_law 731 = .ok (.iaload, 1) := by decide +kernel
theorem dL_law_732 : decode cL_law 732 = .ok (.aload_n 0, 1) := by decide +kernel
theorem dL_law_733 : decode cL_law 733 = .ok (.iload_n 3, 1) := by decide +kernel
theorem dL_law_734 : decode cL_law 734 = .ok (.iconst 3, 1) := by decide +kernel
theorem dL_law_735 : decode cL_law 735 = .ok (.iadd, 1) := by decide +kernel
theorem dL_law_736 : decode cL_law 736 = .ok (.iaload, 1) := by decide +kernel
theorem dL_law_737 : decode cL_law 737 = .ok (.aload_n 0, 1) := by decide +kernel
theorem dL_law_738 : decode cL_law 738 = .ok (.iload_n 3, 1) := by decide +kernel
theorem dL_law_739 : decode cL_law 739 = .ok (.iconst 4, 1) := by decide +kernel
theorem dL_law_740 : decode cL_law 740 = .ok (.iadd, 1) := by decide +kernel
theorem dL_law_741 : decode cL_law 741 = .ok (.iaload, 1) := by decide +kernel
theorem dL_law_742 : decode cL_law 742 = .ok (.invokevirtual 87, 3) := by decide +kernel
theorem dL_law_745 : decode cL_law 745 = .ok (.aload_n 2, 1) := by decide +kernel
theorem dL_law_746 : decode cL_law 746 = .ok (.aload_n 0, 1) := by decide +kernel
theorem dL_law_747 : decode cL_law 747 = .ok (.iload_n 3, 1) := by decide +kernel
theorem dL_law_748 : decode cL_law 748 = .ok (.iconst 1, 1) := by decide +kernel
theorem dL_law_749 : decode cL_law 749 = .ok (.iadd, 1) := by decide +kernel
theorem dL_law_750 : decode cL_law 750 = .ok (.iaload, 1) := by decide +kernel
theorem dL_law_751 : decode cL_law 751 = .ok (.aload_n 0, 1) := by decide +kernel
theorem dL_law_752 : decode cL_law 752 = .ok (.iload_n 3, 1) := by decide +kernel
theorem dL_law_753 : decode cL_law 753 = .ok (.iconst 2, 1) := by decide +kernel
theorem dL_law_754 : decode cL_law 754 = .ok (.iadd, 1) := by decide +kernel
theorem dL_law_755 : decode cL_law 755 = .ok (.iaload, 1) := by decide +kernel
theorem dL_law_756 : decode cL_law 756 = .ok (.aload_n 0, 1) := by decide +kernel
theorem dL_law_757 : decode cL_law 757 = .ok (.iload_n 3, 1) := by decide +kernel
theorem dL_law_758 : decode cL_law 758 = .ok (.iconst 3, 1) := by decide +kernel
theorem dL_law_759 : decode cL_law 759 = .ok (.iadd, 1) := by decide +kernel
theorem dL_law_760 : decode cL_law 760 = .ok (.iaload, 1) := by decide +kernel
theorem dL_law_761 : decode cL_law 761 = .ok (.aload_n 0, 1) := by decide +kernel
theorem dL_law_762 : decode cL_law 762 = .ok (.iload_n 3, 1) := by decide +kernel
theorem dL_law_763 : decode cL_law 763 = .ok (.iconst 4, 1) := by decide +kernel
theorem dL_law_764 : decode cL_law 764 = .ok (.iadd, 1) := by decide +kernel
theorem dL_law_765 : decode cL_law 765 = .ok (.iaload, 1) := by decide +kernel
theorem dL_law_766 : decode cL_law 766 = .ok (.invokevirtual 91, 3) := by decide +kernel
theorem dL_law_769 : decode cL_law 769 = .ok (.lcmp, 1) := by decide +kernel
theorem dL_law_770 : decode cL_law 770 = .ok (.ifCond .eq 81, 3) := by decide +kernel
theorem dL_law_773 : decode cL_law 773 = .ok (.iconst 0, 1) := by decide +kernel
theorem dL_law_774 : decode cL_law 774 = .ok (.ireturn, 1) := by decide +kernel
theorem dL_law_775 : decode cL_law 775 = .ok (.aload_n 1, 1) := by decide +kernel
theorem dL_law_776 : decode cL_law 776 = .ok (.aload_n 0, 1) := by decide +kernel
theorem dL_law_777 : decode cL_law 777 = .ok (.iload_n 3, 1) := by decide +kernel
theorem dL_law_778 : decode cL_law 778 = .ok (.iconst 1, 1) := by decide +kernel
theorem dL_law_779 : decode cL_law 779 = .ok (.iadd, 1) := by decide +kernel
theorem dL_law_780 : decode cL_law 780 = .ok (.iaload, 1) := by decide +kernel
theorem dL_law_781 : decode cL_law 781 = .ok (.aload_n 0, 1) := by decide +kernel
theorem dL_law_782 : decode cL_law 782 = .ok (.iload_n 3, 1) := by decide +kernel
theorem dL_law_783 : decode cL_law 783 = .ok (.iconst 2, 1) := by decide +kernel
theorem dL_law_784 : decode cL_law 784 = .ok (.iadd, 1) := by decide +kernel
theorem dL_law_785 : decode cL_law 785 = .ok (.iaload, 1) := by decide +kernel
theorem dL_law_786 : decode cL_law 786 = .ok (.aload_n 0, 1) := by decide +kernel
theorem dL_law_787 : decode cL_law 787 = .ok (.iload_n 3, 1) := by decide +kernel
theorem dL_law_788 : decode cL_law 788 = .ok (.iconst 3, 1) := by decide +kernel
theorem dL_law_789 : decode cL_law 789 = .ok (.iadd, 1) := by decide +kernel
theorem dL_law_790 : decode cL_law 790 = .ok (.iaload, 1) := by decide +kernel
theorem dL_law_791 : decode cL_law 791 = .ok (.aload_n 0, 1) := by decide +kernel
theorem dL_law_792 : decode cL_law 792 = .ok (.iload_n 3, 1) := by decide +kernel
theorem dL_law_793 : decode cL_law 793 = .ok (.iconst 4, 1) := by decide +kernel
theorem dL_law_794 : decode cL_law 794 = .ok (.iadd, 1) := by decide +kernel
theorem dL_law_795 : decode cL_law 795 = .ok (.iaload, 1) := by decide +kernel
theorem dL_law_796 : decode cL_law 796 = .ok (.invokevirtual 92, 3) := by decide +kernel
theorem dL_law_799 : decode cL_law 799 = .ok (.aload_n 2, 1) := by decide +kernel
theorem dL_law_800 : decode cL_law 800 = .ok (.aload_n 0, 1) := by decide +kernel
theorem dL_law_801 : decode cL_law 801 = .ok (.iload_n 3, 1) := by decide +kernel
theorem dL_law_802 : decode cL_law 802 = .ok (.iconst 1, 1) := by decide +kernel
theorem dL_law_803 : decode cL_law 803 = .ok (.iadd, 1) := by decide +kernel
theorem dL_law_804 : decode cL_law 804 = .ok (.iaload, 1) := by decide +kernel
theorem dL_law_805 : decode cL_law 805 = .ok (.aload_n 0, 1) := by decide +kernel
theorem dL_law_806 : decode cL_law 806 = .ok (.iload_n 3, 1) := by decide +kernel
theorem dL_law_807 : decode cL_law 807 = .ok (.iconst 2, 1) := by decide +kernel
theorem dL_law_808 : decode cL_law 808 = .ok (.iadd, 1) := by decide +kernel
theorem dL_law_809 : decode cL_law 809 = .ok (.iaload, 1) := by decide +kernel
theorem dL_law_810 : decode cL_law 810 = .ok (.aload_n 0, 1) := by decide +kernel
theorem dL_law_811 : decode cL_law 811 = .ok (.iload_n 3, 1) := by decide +kernel
theorem dL_law_812 : decode cL_law 812 = .ok (.iconst 3, 1) := by decide +kernel
theorem dL_law_813 : decode cL_law 813 = .ok (.iadd, 1) := by decide +kernel
theorem dL_law_814 : decode cL_law 814 = .ok (.iaload, 1) := by decide +kernel
theorem dL_law_815 : decode cL_law 815 = .ok (.aload_n 0, 1) := by decide +kernel
theorem dL_law_816 : decode cL_law 816 = .ok (.iload_n 3, 1) := by decide +kernel
theorem dL_law_817 : decode cL_law 817 = .ok (.iconst 4, 1) := by decide +kernel
theorem dL_law_818 : decode cL_law 818 = .ok (.iadd, 1) := by decide +kernel
theorem dL_law_819 : decode cL_law 819 = .ok (.iaload, 1) := by decide +kernel
theorem dL_law_820 : decode cL_law 820 = .ok (.invokevirtual 95, 3) := by decide +kernel
theorem dL_law_823 : decode cL_law 823 = .ok (.if_icmp .eq 28, 3) := by decide +kernel
theorem dL_law_826 : decode cL_law 826 = .ok (.iconst 0, 1) := by decide +kernel
theorem dL_law_827 : decode cL_law 827 = .ok (.ireturn, 1) := by decide +kernel
theorem dL_law_828 : decode cL_law 828 = .ok (.aload_n 1, 1) := by decide +kernel
theorem dL_law_829 : decode cL_law 829 = .ok (.aload_n 0, 1) := by decide +kernel
theorem dL_law_830 : decode cL_law 830 = .ok (.iload_n 3, 1) := by decide +kernel
theorem dL_law_831 : decode cL_law 831 = .ok (.iconst 1, 1) := by decide +kernel
theorem dL_law_832 : decode cL_law 832 = .ok (.iadd, 1) := by decide +kernel
theorem dL_law_833 : decode cL_law 833 = .ok (.iaload, 1) := by decide +kernel
theorem dL_law_834 : decode cL_law 834 = .ok (.invokevirtual 96, 3) := by decide +kernel
theorem dL_law_837 : decode cL_law 837 = .ok (.aload_n 2, 1) := by decide +kernel
theorem dL_law_838 : decode cL_law 838 = .ok (.aload_n 0, 1) := by decide +kernel
theorem dL_law_839 : decode cL_law 839 = .ok (.iload_n 3, 1) := by decide +kernel
theorem dL_law_840 : decode cL_law 840 = .ok (.iconst 1, 1) := by decide +kernel
theorem dL_law_841 : decode cL_law 841 = .ok (.iadd, 1) := by decide +kernel
theorem dL_law_842 : decode cL_law 842 = .ok (.iaload, 1) := by decide +kernel
theorem dL_law_843 : decode cL_law 843 = .ok (.invokevirtual 99, 3) := by decide +kernel
theorem dL_law_846 : decode cL_law 846 = .ok (.if_icmp .eq 5, 3) := by decide +kernel
theorem dL_law_849 : decode cL_law 849 = .ok (.iconst 0, 1) := by decide +kernel
theorem dL_law_850 : decode cL_law 850 = .ok (.ireturn, 1) := by decide +kernel
theorem dL_law_851 : decode cL_law 851 = .ok (.iinc 3 5, 3) := by decide +kernel
theorem dL_law_854 : decode cL_law 854 = .ok (.goto (-836), 3) := by decide +kernel
theorem dL_law_857 : decode cL_law 857 = .ok (.iconst 1, 1) := by decide +kernel
theorem dL_law_858 : decode cL_law 858 = .ok (.ireturn, 1) := by decide +kernel
end
section
abbrev zty (cI cJ cZ cO : ClassId) : List (ClassId × FieldType) := [(cI, .int), (cJ, .long), (cZ, .boolean), (cO, .object "FacetFigures$Facet")]
abbrev zclX : List vw_C := [(RX8, TX8, 7), (RX6, TX6, 4), (RX3, TX3, 3), (RX2, TX2, 9), (RX7, TX7, 3), (RX4, TX4, 2), (RX5, TX5, 1), (RX1, TX1, 14)]
abbrev zclM : List vw_C := [(RX9, TX9, 33)]
set_option maxRecDepth 100000 in
theorem zinX8 : ∀ w ∈ u_ws RX8 TX8 7, w ∈ zbg := by decide +kernel
set_option maxRecDepth 100000 in
theorem zinX6 : ∀ w ∈ u_ws RX6 TX6 4, w ∈ zbg := by decide +kernel
set_option maxRecDepth 100000 in
theorem zinX3 : ∀ w ∈ u_ws RX3 TX3 3, w ∈ zbg := by decide +kernel
set_option maxRecDepth 100000 in
theorem zinX2 : ∀ w ∈ u_ws RX2 TX2 9, w ∈ zbg := by decide +kernel
set_option maxRecDepth 100000 in
theorem zinX7 : ∀ w ∈ u_ws RX7 TX7 3, w ∈ zbg := by decide +kernel
set_option maxRecDepth 100000 in
theorem zinX4 : ∀ w ∈ u_ws RX4 TX4 2, w ∈ zbg := by decide +kernel
set_option maxRecDepth 100000 in
theorem zinX5 : ∀ w ∈ u_ws RX5 TX5 1, w ∈ zbg := by decide +kernel
set_option maxRecDepth 100000 in
theorem zinX1 : ∀ w ∈ u_ws RX1 TX1 14, w ∈ zbg := by decide +kernel
set_option maxRecDepth 100000 in
theorem zinX9 : ∀ w ∈ u_ws RX9 TX9 33, w ∈ zbg := by decide +kernel
def zFo (ad : Nat → Nat) (σ : zS) (k : Nat) : Nat × va_E := (ad (20 + k), .inr (7, [.int (σ.1 (8 + 12 * k)), .int (σ.1 (9 + 12 * k)), .int (σ.1 (10 + 12 * k)), .int (σ.1 (11 + 12 * k)), .int (σ.1 (12 + 12 * k)), .int (σ.1 (13 + 12 * k)), .int (σ.1 (14 + 12 * k)), .int (σ.1 (15 + 12 * k)), .int (σ.1 (16 + 12 * k)), .int (σ.1 (17 + 12 * k)), .int (σ.1 (18 + 12 * k)), .int (σ.1 (19 + 12 * k)), .ref (ad (30 + k)), .ref (ad (40 + k))]))
def zFf (ad : Nat → Nat) (cI : ClassId) (σ : zS) (k : Nat) : Nat × va_E := (ad (30 + k), .inl (cI, 6, .inl (σ.2.1 (8 + k))))
def zFt (ad : Nat → Nat) (cI : ClassId) (σ : zS) (k : Nat) : Nat × va_E := (ad (40 + k), .inl (cI, 6, .inl (σ.2.1 (18 + k))))
def zwX (ad : Nat → Nat) (cI cJ cZ cO : ClassId) (σ : zS) : va_W := [
  (ad 0, .inr (0, [.ref (ad 1), .ref (ad 2), .ref (ad 3), .ref (ad 4), .ref (ad 5), .int (σ.1 0), .int (σ.1 1)])),
  (ad 1, .inr (1, [.int (σ.1 2), .ref (ad 8), .ref (ad 9), .ref (ad 10)])),
  (ad 2, .inr (2, [.int (σ.1 3), .ref (ad 1), .ref (ad 11)])),
  (ad 3, .inl (cO, 10, .inr (.inr (.inr (.inr (fun k => some (ad (20 + k)))))))),
  (ad 4, .inr (3, [.int (σ.1 5), .int (σ.1 6), .ref (ad 7), .ref (ad 6), .ref (ad 13), .ref (ad 14), .ref (ad 15), .ref (ad 16), .ref (ad 17)])),
  (ad 5, .inr (4, [.int (σ.1 7), .ref (ad 7), .ref (ad 18)])),
  (ad 6, .inr (5, [.int (σ.1 4), .ref (ad 12)])),
  (ad 7, .inr (6, [.ref (ad 19)])),
  (ad 8, .inl (cZ, 120, .inl (σ.2.1 0))),
  (ad 9, .inl (cI, 2160, .inl (σ.2.1 1))),
  (ad 10, .inl (cI, 720, .inl (σ.2.1 2))),
  (ad 11, .inl (cI, 120, .inl (σ.2.1 3))),
  (ad 12, .inl (cI, 18, .inl (σ.2.1 4))),
  (ad 13, .inl (cJ, 1080, .inr (.inl (σ.2.2 1)))),
  (ad 14, .inl (cI, 1080, .inl (σ.2.1 5))),
  (ad 15, .inl (cI, 1080, .inl (σ.2.1 6))),
  (ad 16, .inl (cI, 1080, .inl (σ.2.1 7))),
  (ad 17, .inl (cJ, 1080, .inr (.inl (σ.2.2 2)))),
  (ad 18, .inl (cJ, 360, .inr (.inl (σ.2.2 3)))),
  (ad 19, .inl (cJ, 1080, .inr (.inl (σ.2.2 0)))),
  zFo ad σ 0,
  zFo ad σ 1,
  zFo ad σ 2,
  zFo ad σ 3,
  zFo ad σ 4,
  zFo ad σ 5,
  zFo ad σ 6,
  zFo ad σ 7,
  zFo ad σ 8,
  zFo ad σ 9,
  zFf ad cI σ 0,
  zFf ad cI σ 1,
  zFf ad cI σ 2,
  zFf ad cI σ 3,
  zFf ad cI σ 4,
  zFf ad cI σ 5,
  zFf ad cI σ 6,
  zFf ad cI σ 7,
  zFf ad cI σ 8,
  zFf ad cI σ 9,
  zFt ad cI σ 0,
  zFt ad cI σ 1,
  zFt ad cI σ 2,
  zFt ad cI σ 3,
  zFt ad cI σ 4,
  zFt ad cI σ 5,
  zFt ad cI σ 6,
  zFt ad cI σ 7,
  zFt ad cI σ 8,
  zFt ad cI σ 9]
def zwM (ad : Nat → Nat) (cI cJ cZ cO : ClassId) (σ : zS) : va_W := [
  (ad 0, .inr (0, [.int (σ.1 0), .ref (ad 1), .ref (ad 2), .ref (ad 3), .int (σ.1 1), .ref (ad 4), .ref (ad 5), .ref (ad 6), .ref (ad 7), .ref (ad 8), .ref (ad 9), .ref (ad 10), .ref (ad 11), .ref (ad 12), .ref (ad 13), .ref (ad 14), .ref (ad 15), .ref (ad 16), .ref (ad 17), .int (σ.1 2), .ref (ad 18), .int (σ.1 3), .ref (ad 19), .int (σ.1 4), .ref (ad 20), .ref (ad 21), .ref (ad 22), .int (σ.1 5), .ref (ad 23), .ref (ad 24), .ref (ad 25), .int (σ.1 6), .ref (ad 26)])),
  (ad 1, .inl (cI, 720, .inl (σ.2.1 0))),
  (ad 2, .inl (cI, 2160, .inl (σ.2.1 1))),
  (ad 3, .inl (cZ, 120, .inl (σ.2.1 2))),
  (ad 4, .inl (cI, 10, .inl (σ.2.1 3))),
  (ad 5, .inl (cI, 10, .inl (σ.2.1 4))),
  (ad 6, .inl (cI, 10, .inl (σ.2.1 5))),
  (ad 7, .inl (cI, 10, .inl (σ.2.1 6))),
  (ad 8, .inl (cI, 10, .inl (σ.2.1 7))),
  (ad 9, .inl (cI, 60, .inl (σ.2.1 8))),
  (ad 10, .inl (cI, 60, .inl (σ.2.1 9))),
  (ad 11, .inl (cI, 10, .inl (σ.2.1 10))),
  (ad 12, .inl (cI, 10, .inl (σ.2.1 11))),
  (ad 13, .inl (cI, 10, .inl (σ.2.1 12))),
  (ad 14, .inl (cI, 10, .inl (σ.2.1 13))),
  (ad 15, .inl (cZ, 10, .inl (σ.2.1 14))),
  (ad 16, .inl (cI, 10, .inl (σ.2.1 15))),
  (ad 17, .inl (cI, 10, .inl (σ.2.1 16))),
  (ad 18, .inl (cZ, 840, .inl (σ.2.1 17))),
  (ad 19, .inl (cI, 6, .inl (σ.2.1 18))),
  (ad 20, .inl (cI, 1100, .inl (σ.2.1 19))),
  (ad 21, .inl (cI, 1100, .inl (σ.2.1 20))),
  (ad 22, .inl (cJ, 1100, .inr (.inl (σ.2.2 0)))),
  (ad 23, .inl (cI, 120, .inl (σ.2.1 21))),
  (ad 24, .inl (cI, 2160, .inl (σ.2.1 22))),
  (ad 25, .inl (cZ, 120, .inl (σ.2.1 23))),
  (ad 26, .inl (cI, 360, .inl (σ.2.1 24)))]
theorem z10 {P : Nat → Prop} (h : P 0 ∧ P 1 ∧ P 2 ∧ P 3 ∧ P 4 ∧ P 5 ∧ P 6 ∧ P 7 ∧ P 8 ∧ P 9) {k : Nat} (hk : k < 10) : P k := by
  obtain ⟨h0, h1, h2, h3, h4, h5, h6, h7, h8, h9⟩ := h
  match k, hk with
  | 0, _ => exact h0
  | 1, _ => exact h1
  | 2, _ => exact h2
  | 3, _ => exact h3
  | 4, _ => exact h4
  | 5, _ => exact h5
  | 6, _ => exact h6
  | 7, _ => exact h7
  | 8, _ => exact h8
  | 9, _ => exact h9
  | n + 10, h => exact absurd h (by omega)
section ZF
variable {ad : Nat → Nat} {cI cJ cZ cO : ClassId} {σ : zS}
theorem zF_obj {k : Nat} (hk : k < 10) : (zwX ad cI cJ cZ cO σ)[20 + k]? = some (ad (20 + k), .inr (7, [.int (σ.1 (8 + 12 * k)), .int (σ.1 (9 + 12 * k)), .int (σ.1 (10 + 12 * k)), .int (σ.1 (11 + 12 * k)), .int (σ.1 (12 + 12 * k)), .int (σ.1 (13 + 12 * k)), .int (σ.1 (14 + 12 * k)), .int (σ.1 (15 + 12 * k)), .int (σ.1 (16 + 12 * k)), .int (σ.1 (17 + 12 * k)), .int (σ.1 (18 + 12 * k)), .int (σ.1 (19 + 12 * k)), .ref (ad (30 + k)), .ref (ad (40 + k))])) := z10 (P := fun k => (zwX ad cI cJ cZ cO σ)[20 + k]? = some (ad (20 + k), .inr (7, [.int (σ.1 (8 + 12 * k)), .int (σ.1 (9 + 12 * k)), .int (σ.1 (10 + 12 * k)), .int (σ.1 (11 + 12 * k)), .int (σ.1 (12 + 12 * k)), .int (σ.1 (13 + 12 * k)), .int (σ.1 (14 + 12 * k)), .int (σ.1 (15 + 12 * k)), .int (σ.1 (16 + 12 * k)), .int (σ.1 (17 + 12 * k)), .int (σ.1 (18 + 12 * k)), .int (σ.1 (19 + 12 * k)), .ref (ad (30 + k)), .ref (ad (40 + k))]))) ⟨rfl, rfl, rfl, rfl, rfl, rfl, rfl, rfl, rfl, rfl⟩ hk
theorem zF_froms {k : Nat} (hk : k < 10) : (zwX ad cI cJ cZ cO σ)[30 + k]? = some (ad (30 + k), .inl (cI, 6, .inl (σ.2.1 (8 + k)))) := z10 (P := fun k => (zwX ad cI cJ cZ cO σ)[30 + k]? = some (ad (30 + k), .inl (cI, 6, .inl (σ.2.1 (8 + k))))) ⟨rfl, rfl, rfl, rfl, rfl, rfl, rfl, rfl, rfl, rfl⟩ hk
theorem zF_tos {k : Nat} (hk : k < 10) : (zwX ad cI cJ cZ cO σ)[40 + k]? = some (ad (40 + k), .inl (cI, 6, .inl (σ.2.1 (18 + k)))) := z10 (P := fun k => (zwX ad cI cJ cZ cO σ)[40 + k]? = some (ad (40 + k), .inl (cI, 6, .inl (σ.2.1 (18 + k))))) ⟨rfl, rfl, rfl, rfl, rfl, rfl, rfl, rfl, rfl, rfl⟩ hk
theorem zF_fset {k : Nat} (hk : k < 10) : ∀ f : Nat → Int32, (zwX ad cI cJ cZ cO σ).set (30 + k) (ad (30 + k), .inl (cI, 6, .inl f)) = zwX ad cI cJ cZ cO (zsA σ (8 + k) f) := z10 (P := fun k => ∀ f : Nat → Int32, (zwX ad cI cJ cZ cO σ).set (30 + k) (ad (30 + k), .inl (cI, 6, .inl f)) = zwX ad cI cJ cZ cO (zsA σ (8 + k) f)) ⟨fun _ => rfl, fun _ => rfl, fun _ => rfl, fun _ => rfl, fun _ => rfl, fun _ => rfl, fun _ => rfl, fun _ => rfl, fun _ => rfl, fun _ => rfl⟩ hk
theorem zF_tset {k : Nat} (hk : k < 10) : ∀ f : Nat → Int32, (zwX ad cI cJ cZ cO σ).set (40 + k) (ad (40 + k), .inl (cI, 6, .inl f)) = zwX ad cI cJ cZ cO (zsA σ (18 + k) f) := z10 (P := fun k => ∀ f : Nat → Int32, (zwX ad cI cJ cZ cO σ).set (40 + k) (ad (40 + k), .inl (cI, 6, .inl f)) = zwX ad cI cJ cZ cO (zsA σ (18 + k) f)) ⟨fun _ => rfl, fun _ => rfl, fun _ => rfl, fun _ => rfl, fun _ => rfl, fun _ => rfl, fun _ => rfl, fun _ => rfl, fun _ => rfl, fun _ => rfl⟩ hk
theorem zF_set0 {k : Nat} (hk : k < 10) (v : Int32) : (zwX ad cI cJ cZ cO σ).set (20 + k) (ad (20 + k), .inr (7, ([.int (σ.1 (8 + 12 * k)), .int (σ.1 (9 + 12 * k)), .int (σ.1 (10 + 12 * k)), .int (σ.1 (11 + 12 * k)), .int (σ.1 (12 + 12 * k)), .int (σ.1 (13 + 12 * k)), .int (σ.1 (14 + 12 * k)), .int (σ.1 (15 + 12 * k)), .int (σ.1 (16 + 12 * k)), .int (σ.1 (17 + 12 * k)), .int (σ.1 (18 + 12 * k)), .int (σ.1 (19 + 12 * k)), .ref (ad (30 + k)), .ref (ad (40 + k))] : List Value).set 0 (.int v))) = zwX ad cI cJ cZ cO (zsI σ (8 + 12 * k) v) := z10 (P := fun k => (zwX ad cI cJ cZ cO σ).set (20 + k) (ad (20 + k), .inr (7, ([.int (σ.1 (8 + 12 * k)), .int (σ.1 (9 + 12 * k)), .int (σ.1 (10 + 12 * k)), .int (σ.1 (11 + 12 * k)), .int (σ.1 (12 + 12 * k)), .int (σ.1 (13 + 12 * k)), .int (σ.1 (14 + 12 * k)), .int (σ.1 (15 + 12 * k)), .int (σ.1 (16 + 12 * k)), .int (σ.1 (17 + 12 * k)), .int (σ.1 (18 + 12 * k)), .int (σ.1 (19 + 12 * k)), .ref (ad (30 + k)), .ref (ad (40 + k))] : List Value).set 0 (.int v))) = zwX ad cI cJ cZ cO (zsI σ (8 + 12 * k) v)) ⟨rfl, rfl, rfl, rfl, rfl, rfl, rfl, rfl, rfl, rfl⟩ hk
theorem zF_set1 {k : Nat} (hk : k < 10) (v : Int32) : (zwX ad cI cJ cZ cO σ).set (20 + k) (ad (20 + k), .inr (7, ([.int (σ.1 (8 + 12 * k)), .int (σ.1 (9 + 12 * k)), .int (σ.1 (10 + 12 * k)), .int (σ.1 (11 + 12 * k)), .int (σ.1 (12 + 12 * k)), .int (σ.1 (13 + 12 * k)), .int (σ.1 (14 + 12 * k)), .int (σ.1 (15 + 12 * k)), .int (σ.1 (16 + 12 * k)), .int (σ.1 (17 + 12 * k)), .int (σ.1 (18 + 12 * k)), .int (σ.1 (19 + 12 * k)), .ref (ad (30 + k)), .ref (ad (40 + k))] : List Value).set 1 (.int v))) = zwX ad cI cJ cZ cO (zsI σ (9 + 12 * k) v) := z10 (P := fun k => (zwX ad cI cJ cZ cO σ).set (20 + k) (ad (20 + k), .inr (7, ([.int (σ.1 (8 + 12 * k)), .int (σ.1 (9 + 12 * k)), .int (σ.1 (10 + 12 * k)), .int (σ.1 (11 + 12 * k)), .int (σ.1 (12 + 12 * k)), .int (σ.1 (13 + 12 * k)), .int (σ.1 (14 + 12 * k)), .int (σ.1 (15 + 12 * k)), .int (σ.1 (16 + 12 * k)), .int (σ.1 (17 + 12 * k)), .int (σ.1 (18 + 12 * k)), .int (σ.1 (19 + 12 * k)), .ref (ad (30 + k)), .ref (ad (40 + k))] : List Value).set 1 (.int v))) = zwX ad cI cJ cZ cO (zsI σ (9 + 12 * k) v)) ⟨rfl, rfl, rfl, rfl, rfl, rfl, rfl, rfl, rfl, rfl⟩ hk
theorem zF_set2 {k : Nat} (hk : k < 10) (v : Int32) : (zwX ad cI cJ cZ cO σ).set (20 + k) (ad (20 + k), .inr (7, ([.int (σ.1 (8 + 12 * k)), .int (σ.1 (9 + 12 * k)), .int (σ.1 (10 + 12 * k)), .int (σ.1 (11 + 12 * k)), .int (σ.1 (12 + 12 * k)), .int (σ.1 (13 + 12 * k)), .int (σ.1 (14 + 12 * k)), .int (σ.1 (15 + 12 * k)), .int (σ.1 (16 + 12 * k)), .int (σ.1 (17 + 12 * k)), .int (σ.1 (18 + 12 * k)), .int (σ.1 (19 + 12 * k)), .ref (ad (30 + k)), .ref (ad (40 + k))] : List Value).set 2 (.int v))) = zwX ad cI cJ cZ cO (zsI σ (10 + 12 * k) v) := z10 (P := fun k => (zwX ad cI cJ cZ cO σ).set (20 + k) (ad (20 + k), .inr (7, ([.int (σ.1 (8 + 12 * k)), .int (σ.1 (9 + 12 * k)), .int (σ.1 (10 + 12 * k)), .int (σ.1 (11 + 12 * k)), .int (σ.1 (12 + 12 * k)), .int (σ.1 (13 + 12 * k)), .int (σ.1 (14 + 12 * k)), .int (σ.1 (15 + 12 * k)), .int (σ.1 (16 + 12 * k)), .int (σ.1 (17 + 12 * k)), .int (σ.1 (18 + 12 * k)), .int (σ.1 (19 + 12 * k)), .ref (ad (30 + k)), .ref (ad (40 + k))] : List Value).set 2 (.int v))) = zwX ad cI cJ cZ cO (zsI σ (10 + 12 * k) v)) ⟨rfl, rfl, rfl, rfl, rfl, rfl, rfl, rfl, rfl, rfl⟩ hk
theorem zF_set3 {k : Nat} (hk : k < 10) (v : Int32) : (zwX ad cI cJ cZ cO σ).set (20 + k) (ad (20 + k), .inr (7, ([.int (σ.1 (8 + 12 * k)), .int (σ.1 (9 + 12 * k)), .int (σ.1 (10 + 12 * k)), .int (σ.1 (11 + 12 * k)), .int (σ.1 (12 + 12 * k)), .int (σ.1 (13 + 12 * k)), .int (σ.1 (14 + 12 * k)), .int (σ.1 (15 + 12 * k)), .int (σ.1 (16 + 12 * k)), .int (σ.1 (17 + 12 * k)), .int (σ.1 (18 + 12 * k)), .int (σ.1 (19 + 12 * k)), .ref (ad (30 + k)), .ref (ad (40 + k))] : List Value).set 3 (.int v))) = zwX ad cI cJ cZ cO (zsI σ (11 + 12 * k) v) := z10 (P := fun k => (zwX ad cI cJ cZ cO σ).set (20 + k) (ad (20 + k), .inr (7, ([.int (σ.1 (8 + 12 * k)), .int (σ.1 (9 + 12 * k)), .int (σ.1 (10 + 12 * k)), .int (σ.1 (11 + 12 * k)), .int (σ.1 (12 + 12 * k)), .int (σ.1 (13 + 12 * k)), .int (σ.1 (14 + 12 * k)), .int (σ.1 (15 + 12 * k)), .int (σ.1 (16 + 12 * k)), .int (σ.1 (17 + 12 * k)), .int (σ.1 (18 + 12 * k)), .int (σ.1 (19 + 12 * k)), .ref (ad (30 + k)), .ref (ad (40 + k))] : List Value).set 3 (.int v))) = zwX ad cI cJ cZ cO (zsI σ (11 + 12 * k) v)) ⟨rfl, rfl, rfl, rfl, rfl, rfl, rfl, rfl, rfl, rfl⟩ hk
theorem zF_set4 {k : Nat} (hk : k < 10) (v : Int32) : (zwX ad cI cJ cZ cO σ).set (20 + k) (ad (20 + k), .inr (7, ([.int (σ.1 (8 + 12 * k)), .int (σ.1 (9 + 12 * k)), .int (σ.1 (10 + 12 * k)), .int (σ.1 (11 + 12 * k)), .int (σ.1 (12 + 12 * k)), .int (σ.1 (13 + 12 * k)), .int (σ.1 (14 + 12 * k)), .int (σ.1 (15 + 12 * k)), .int (σ.1 (16 + 12 * k)), .int (σ.1 (17 + 12 * k)), .int (σ.1 (18 + 12 * k)), .int (σ.1 (19 + 12 * k)), .ref (ad (30 + k)), .ref (ad (40 + k))] : List Value).set 4 (.int v))) = zwX ad cI cJ cZ cO (zsI σ (12 + 12 * k) v) := z10 (P := fun k => (zwX ad cI cJ cZ cO σ).set (20 + k) (ad (20 + k), .inr (7, ([.int (σ.1 (8 + 12 * k)), .int (σ.1 (9 + 12 * k)), .int (σ.1 (10 + 12 * k)), .int (σ.1 (11 + 12 * k)), .int (σ.1 (12 + 12 * k)), .int (σ.1 (13 + 12 * k)), .int (σ.1 (14 + 12 * k)), .int (σ.1 (15 + 12 * k)), .int (σ.1 (16 + 12 * k)), .int (σ.1 (17 + 12 * k)), .int (σ.1 (18 + 12 * k)), .int (σ.1 (19 + 12 * k)), .ref (ad (30 + k)), .ref (ad (40 + k))] : List Value).set 4 (.int v))) = zwX ad cI cJ cZ cO (zsI σ (12 + 12 * k) v)) ⟨rfl, rfl, rfl, rfl, rfl, rfl, rfl, rfl, rfl, rfl⟩ hk
theorem zF_set5 {k : Nat} (hk : k < 10) (v : Int32) : (zwX ad cI cJ cZ cO σ).set (20 + k) (ad (20 + k), .inr (7, ([.int (σ.1 (8 + 12 * k)), .int (σ.1 (9 + 12 * k)), .int (σ.1 (10 + 12 * k)), .int (σ.1 (11 + 12 * k)), .int (σ.1 (12 + 12 * k)), .int (σ.1 (13 + 12 * k)), .int (σ.1 (14 + 12 * k)), .int (σ.1 (15 + 12 * k)), .int (σ.1 (16 + 12 * k)), .int (σ.1 (17 + 12 * k)), .int (σ.1 (18 + 12 * k)), .int (σ.1 (19 + 12 * k)), .ref (ad (30 + k)), .ref (ad (40 + k))] : List Value).set 5 (.int v))) = zwX ad cI cJ cZ cO (zsI σ (13 + 12 * k) v) := z10 (P := fun k => (zwX ad cI cJ cZ cO σ).set (20 + k) (ad (20 + k), .inr (7, ([.int (σ.1 (8 + 12 * k)), .int (σ.1 (9 + 12 * k)), .int (σ.1 (10 + 12 * k)), .int (σ.1 (11 + 12 * k)), .int (σ.1 (12 + 12 * k)), .int (σ.1 (13 + 12 * k)), .int (σ.1 (14 + 12 * k)), .int (σ.1 (15 + 12 * k)), .int (σ.1 (16 + 12 * k)), .int (σ.1 (17 + 12 * k)), .int (σ.1 (18 + 12 * k)), .int (σ.1 (19 + 12 * k)), .ref (ad (30 + k)), .ref (ad (40 + k))] : List Value).set 5 (.int v))) = zwX ad cI cJ cZ cO (zsI σ (13 + 12 * k) v)) ⟨rfl, rfl, rfl, rfl, rfl, rfl, rfl, rfl, rfl, rfl⟩ hk
theorem zF_set6 {k : Nat} (hk : k < 10) (v : Int32) : (zwX ad cI cJ cZ cO σ).set (20 + k) (ad (20 + k), .inr (7, ([.int (σ.1 (8 + 12 * k)), .int (σ.1 (9 + 12 * k)), .int (σ.1 (10 + 12 * k)), .int (σ.1 (11 + 12 * k)), .int (σ.1 (12 + 12 * k)), .int (σ.1 (13 + 12 * k)), .int (σ.1 (14 + 12 * k)), .int (σ.1 (15 + 12 * k)), .int (σ.1 (16 + 12 * k)), .int (σ.1 (17 + 12 * k)), .int (σ.1 (18 + 12 * k)), .int (σ.1 (19 + 12 * k)), .ref (ad (30 + k)), .ref (ad (40 + k))] : List Value).set 6 (.int v))) = zwX ad cI cJ cZ cO (zsI σ (14 + 12 * k) v) := z10 (P := fun k => (zwX ad cI cJ cZ cO σ).set (20 + k) (ad (20 + k), .inr (7, ([.int (σ.1 (8 + 12 * k)), .int (σ.1 (9 + 12 * k)), .int (σ.1 (10 + 12 * k)), .int (σ.1 (11 + 12 * k)), .int (σ.1 (12 + 12 * k)), .int (σ.1 (13 + 12 * k)), .int (σ.1 (14 + 12 * k)), .int (σ.1 (15 + 12 * k)), .int (σ.1 (16 + 12 * k)), .int (σ.1 (17 + 12 * k)), .int (σ.1 (18 + 12 * k)), .int (σ.1 (19 + 12 * k)), .ref (ad (30 + k)), .ref (ad (40 + k))] : List Value).set 6 (.int v))) = zwX ad cI cJ cZ cO (zsI σ (14 + 12 * k) v)) ⟨rfl, rfl, rfl, rfl, rfl, rfl, rfl, rfl, rfl, rfl⟩ hk
theorem zF_set7 {k : Nat} (hk : k < 10) (v : Int32) : (zwX ad cI cJ cZ cO σ).set (20 + k) (ad (20 + k), .inr (7, ([.int (σ.1 (8 + 12 * k)), .int (σ.1 (9 + 12 * k)), .int (σ.1 (10 + 12 * k)), .int (σ.1 (11 + 12 * k)), .int (σ.1 (12 + 12 * k)), .int (σ.1 (13 + 12 * k)), .int (σ.1 (14 + 12 * k)), .int (σ.1 (15 + 12 * k)), .int (σ.1 (16 + 12 * k)), .int (σ.1 (17 + 12 * k)), .int (σ.1 (18 + 12 * k)), .int (σ.1 (19 + 12 * k)), .ref (ad (30 + k)), .ref (ad (40 + k))] : List Value).set 7 (.int v))) = zwX ad cI cJ cZ cO (zsI σ (15 + 12 * k) v) := z10 (P := fun k => (zwX ad cI cJ cZ cO σ).set (20 + k) (ad (20 + k), .inr (7, ([.int (σ.1 (8 + 12 * k)), .int (σ.1 (9 + 12 * k)), .int (σ.1 (10 + 12 * k)), .int (σ.1 (11 + 12 * k)), .int (σ.1 (12 + 12 * k)), .int (σ.1 (13 + 12 * k)), .int (σ.1 (14 + 12 * k)), .int (σ.1 (15 + 12 * k)), .int (σ.1 (16 + 12 * k)), .int (σ.1 (17 + 12 * k)), .int (σ.1 (18 + 12 * k)), .int (σ.1 (19 + 12 * k)), .ref (ad (30 + k)), .ref (ad (40 + k))] : List Value).set 7 (.int v))) = zwX ad cI cJ cZ cO (zsI σ (15 + 12 * k) v)) ⟨rfl, rfl, rfl, rfl, rfl, rfl, rfl, rfl, rfl, rfl⟩ hk
theorem zF_set8 {k : Nat} (hk : k < 10) (v : Int32) : (zwX ad cI cJ cZ cO σ).set (20 + k) (ad (20 + k), .inr (7, ([.int (σ.1 (8 + 12 * k)), .int (σ.1 (9 + 12 * k)), .int (σ.1 (10 + 12 * k)), .int (σ.1 (11 + 12 * k)), .int (σ.1 (12 + 12 * k)), .int (σ.1 (13 + 12 * k)), .int (σ.1 (14 + 12 * k)), .int (σ.1 (15 + 12 * k)), .int (σ.1 (16 + 12 * k)), .int (σ.1 (17 + 12 * k)), .int (σ.1 (18 + 12 * k)), .int (σ.1 (19 + 12 * k)), .ref (ad (30 + k)), .ref (ad (40 + k))] : List Value).set 8 (.int v))) = zwX ad cI cJ cZ cO (zsI σ (16 + 12 * k) v) := z10 (P := fun k => (zwX ad cI cJ cZ cO σ).set (20 + k) (ad (20 + k), .inr (7, ([.int (σ.1 (8 + 12 * k)), .int (σ.1 (9 + 12 * k)), .int (σ.1 (10 + 12 * k)), .int (σ.1 (11 + 12 * k)), .int (σ.1 (12 + 12 * k)), .int (σ.1 (13 + 12 * k)), .int (σ.1 (14 + 12 * k)), .int (σ.1 (15 + 12 * k)), .int (σ.1 (16 + 12 * k)), .int (σ.1 (17 + 12 * k)), .int (σ.1 (18 + 12 * k)), .int (σ.1 (19 + 12 * k)), .ref (ad (30 + k)), .ref (ad (40 + k))] : List Value).set 8 (.int v))) = zwX ad cI cJ cZ cO (zsI σ (16 + 12 * k) v)) ⟨rfl, rfl, rfl, rfl, rfl, rfl, rfl, rfl, rfl, rfl⟩ hk
theorem zF_set9 {k : Nat} (hk : k < 10) (v : Int32) : (zwX ad cI cJ cZ cO σ).set (20 + k) (ad (20 + k), .inr (7, ([.int (σ.1 (8 + 12 * k)), .int (σ.1 (9 + 12 * k)), .int (σ.1 (10 + 12 * k)), .int (σ.1 (11 + 12 * k)), .int (σ.1 (12 + 12 * k)), .int (σ.1 (13 + 12 * k)), .int (σ.1 (14 + 12 * k)), .int (σ.1 (15 + 12 * k)), .int (σ.1 (16 + 12 * k)), .int (σ.1 (17 + 12 * k)), .int (σ.1 (18 + 12 * k)), .int (σ.1 (19 + 12 * k)), .ref (ad (30 + k)), .ref (ad (40 + k))] : List Value).set 9 (.int v))) = zwX ad cI cJ cZ cO (zsI σ (17 + 12 * k) v) := z10 (P := fun k => (zwX ad cI cJ cZ cO σ).set (20 + k) (ad (20 + k), .inr (7, ([.int (σ.1 (8 + 12 * k)), .int (σ.1 (9 + 12 * k)), .int (σ.1 (10 + 12 * k)), .int (σ.1 (11 + 12 * k)), .int (σ.1 (12 + 12 * k)), .int (σ.1 (13 + 12 * k)), .int (σ.1 (14 + 12 * k)), .int (σ.1 (15 + 12 * k)), .int (σ.1 (16 + 12 * k)), .int (σ.1 (17 + 12 * k)), .int (σ.1 (18 + 12 * k)), .int (σ.1 (19 + 12 * k)), .ref (ad (30 + k)), .ref (ad (40 + k))] : List Value).set 9 (.int v))) = zwX ad cI cJ cZ cO (zsI σ (17 + 12 * k) v)) ⟨rfl, rfl, rfl, rfl, rfl, rfl, rfl, rfl, rfl, rfl⟩ hk
theorem zF_set10 {k : Nat} (hk : k < 10) (v : Int32) : (zwX ad cI cJ cZ cO σ).set (20 + k) (ad (20 + k), .inr (7, ([.int (σ.1 (8 + 12 * k)), .int (σ.1 (9 + 12 * k)), .int (σ.1 (10 + 12 * k)), .int (σ.1 (11 + 12 * k)), .int (σ.1 (12 + 12 * k)), .int (σ.1 (13 + 12 * k)), .int (σ.1 (14 + 12 * k)), .int (σ.1 (15 + 12 * k)), .int (σ.1 (16 + 12 * k)), .int (σ.1 (17 + 12 * k)), .int (σ.1 (18 + 12 * k)), .int (σ.1 (19 + 12 * k)), .ref (ad (30 + k)), .ref (ad (40 + k))] : List Value).set 10 (.int v))) = zwX ad cI cJ cZ cO (zsI σ (18 + 12 * k) v) := z10 (P := fun k => (zwX ad cI cJ cZ cO σ).set (20 + k) (ad (20 + k), .inr (7, ([.int (σ.1 (8 + 12 * k)), .int (σ.1 (9 + 12 * k)), .int (σ.1 (10 + 12 * k)), .int (σ.1 (11 + 12 * k)), .int (σ.1 (12 + 12 * k)), .int (σ.1 (13 + 12 * k)), .int (σ.1 (14 + 12 * k)), .int (σ.1 (15 + 12 * k)), .int (σ.1 (16 + 12 * k)), .int (σ.1 (17 + 12 * k)), .int (σ.1 (18 + 12 * k)), .int (σ.1 (19 + 12 * k)), .ref (ad (30 + k)), .ref (ad (40 + k))] : List Value).set 10 (.int v))) = zwX ad cI cJ cZ cO (zsI σ (18 + 12 * k) v)) ⟨rfl, rfl, rfl, rfl, rfl, rfl, rfl, rfl, rfl, rfl⟩ hk
theorem zF_set11 {k : Nat} (hk : k < 10) (v : Int32) : (zwX ad cI cJ cZ cO σ).set (20 + k) (ad (20 + k), .inr (7, ([.int (σ.1 (8 + 12 * k)), .int (σ.1 (9 + 12 * k)), .int (σ.1 (10 + 12 * k)), .int (σ.1 (11 + 12 * k)), .int (σ.1 (12 + 12 * k)), .int (σ.1 (13 + 12 * k)), .int (σ.1 (14 + 12 * k)), .int (σ.1 (15 + 12 * k)), .int (σ.1 (16 + 12 * k)), .int (σ.1 (17 + 12 * k)), .int (σ.1 (18 + 12 * k)), .int (σ.1 (19 + 12 * k)), .ref (ad (30 + k)), .ref (ad (40 + k))] : List Value).set 11 (.int v))) = zwX ad cI cJ cZ cO (zsI σ (19 + 12 * k) v) := z10 (P := fun k => (zwX ad cI cJ cZ cO σ).set (20 + k) (ad (20 + k), .inr (7, ([.int (σ.1 (8 + 12 * k)), .int (σ.1 (9 + 12 * k)), .int (σ.1 (10 + 12 * k)), .int (σ.1 (11 + 12 * k)), .int (σ.1 (12 + 12 * k)), .int (σ.1 (13 + 12 * k)), .int (σ.1 (14 + 12 * k)), .int (σ.1 (15 + 12 * k)), .int (σ.1 (16 + 12 * k)), .int (σ.1 (17 + 12 * k)), .int (σ.1 (18 + 12 * k)), .int (σ.1 (19 + 12 * k)), .ref (ad (30 + k)), .ref (ad (40 + k))] : List Value).set 11 (.int v))) = zwX ad cI cJ cZ cO (zsI σ (19 + 12 * k) v)) ⟨rfl, rfl, rfl, rfl, rfl, rfl, rfl, rfl, rfl, rfl⟩ hk
def zpl (j : Nat) : Nat := match j with
  | 1 => 13
  | 2 => 17
  | 3 => 18
  | _ => 19
def zln (j : Nat) : Nat := match j with
  | 3 => 360
  | _ => 1080
theorem zrow_at {j : Nat} (hj : j = 1 ∨ j = 2 ∨ j = 3) : (zwX ad cI cJ cZ cO σ)[zpl j]? = some (ad (zpl j), .inl (cJ, zln j, .inr (.inl (σ.2.2 j)))) := by rcases hj with rfl | rfl | rfl <;> rfl
theorem zrow_set {j : Nat} (hj : j = 1 ∨ j = 2 ∨ j = 3) : ∀ f : Nat → Int64, (zwX ad cI cJ cZ cO σ).set (zpl j) (ad (zpl j), .inl (cJ, zln j, .inr (.inl f))) = zwX ad cI cJ cZ cO (zsL σ j f) := by rcases hj with rfl | rfl | rfl <;> exact fun _ => rfl
end ZF
end
section
set_option maxRecDepth 100000 in
theorem zw17 : Cond.selects RX9 yX9_changes yX9_changes ∈ zbg := zin 17 rfl rfl
set_option maxRecDepth 100000 in
theorem zw18 : Cond.selects RX9 yX9_isObject yX9_isObject ∈ zbg := zin 18 rfl rfl
set_option maxRecDepth 100000 in
theorem zw19 : Cond.selects RX9 yX9_isFacet yX9_isFacet ∈ zbg := zin 19 rfl rfl
set_option maxRecDepth 100000 in
theorem zw20 : Cond.selects RX9 yX9_findGroups yX9_findGroups ∈ zbg := zin 20 rfl rfl
set_option maxRecDepth 100000 in
theorem zw21 : Cond.selects RX9 yX9_findKeys yX9_findKeys ∈ zbg := zin 21 rfl rfl
set_option maxRecDepth 100000 in
theorem zw22 : Cond.selects RX9 yX9_findKeysOf yX9_findKeysOf ∈ zbg := zin 22 rfl rfl
set_option maxRecDepth 100000 in
theorem zw23 : Cond.selects RX9 yX9_giveKeys yX9_giveKeys ∈ zbg := zin 23 rfl rfl
set_option maxRecDepth 100000 in
theorem zw24 : Cond.selects RX9 yX9_give yX9_give ∈ zbg := zin 24 rfl rfl
set_option maxRecDepth 100000 in
theorem zw25 : Cond.selects RX9 yX9_givePaths yX9_givePaths ∈ zbg := zin 25 rfl rfl
set_option maxRecDepth 100000 in
theorem zw26 : Cond.selects RX9 yX9_giveDays yX9_giveDays ∈ zbg := zin 26 rfl rfl
set_option maxRecDepth 100000 in
theorem zw27 : Cond.selects RX9 yX9_counts yX9_counts ∈ zbg := zin 27 rfl rfl
set_option maxRecDepth 100000 in
theorem zw28 : Cond.selects RX9 yX9_atHand yX9_atHand ∈ zbg := zin 28 rfl rfl
set_option maxRecDepth 100000 in
theorem zw29 : Cond.selects RX9 yX9_isNew yX9_isNew ∈ zbg := zin 29 rfl rfl
set_option maxRecDepth 100000 in
theorem zw30 : Cond.selects RX9 yX9_measure yX9_measure ∈ zbg := zin 30 rfl rfl
set_option maxRecDepth 100000 in
theorem zw31 : Cond.selects RX9 yX9_isIn yX9_isIn ∈ zbg := zin 31 rfl rfl
set_option maxRecDepth 100000 in
theorem zw32 : Cond.selects RX9 yX9_hasKey yX9_hasKey ∈ zbg := zin 32 rfl rfl
set_option maxRecDepth 100000 in
theorem zw33 : Cond.selects RX9 yX9_sumOf yX9_sumOf ∈ zbg := zin 33 rfl rfl
set_option maxRecDepth 100000 in
theorem zw34 : Cond.selects RX9 yX9_move yX9_move ∈ zbg := zin 34 rfl rfl
set_option maxRecDepth 100000 in
theorem zw35 : Cond.selects RX9 yX9_isBefore yX9_isBefore ∈ zbg := zin 35 rfl rfl
set_option maxRecDepth 100000 in
theorem zw36 : Cond.selects RX9 yX9_isGroup yX9_isGroup ∈ zbg := zin 36 rfl rfl
set_option maxRecDepth 100000 in
theorem zw37 : Cond.selects RX9 yX9_findRow yX9_findRow ∈ zbg := zin 37 rfl rfl
set_option maxRecDepth 100000 in
theorem zw38 : Cond.selects RX9 yX9_lay yX9_lay ∈ zbg := zin 38 rfl rfl
set_option maxRecDepth 100000 in
theorem zw48 : Cond.initialized RX9 ∈ zbg := zin 48 rfl rfl
set_option maxRecDepth 100000 in
theorem zw622 : Cond.fieldLink RX9 90 "FacetFiguresModel" "objects" "I" ∈ zbg := zin 622 rfl rfl
set_option maxRecDepth 100000 in
theorem zw623 : Cond.fieldLink RX9 7 "FacetFiguresModel" "many" "[I" ∈ zbg := zin 623 rfl rfl
set_option maxRecDepth 100000 in
theorem zw624 : Cond.fieldLink RX9 13 "FacetFiguresModel" "values" "[I" ∈ zbg := zin 624 rfl rfl
set_option maxRecDepth 100000 in
theorem zw625 : Cond.fieldLink RX9 16 "FacetFiguresModel" "matches" "[Z" ∈ zbg := zin 625 rfl rfl
set_option maxRecDepth 100000 in
theorem zw626 : Cond.fieldLink RX9 98 "FacetFiguresModel" "facets" "I" ∈ zbg := zin 626 rfl rfl
set_option maxRecDepth 100000 in
theorem zw627 : Cond.fieldLink RX9 20 "FacetFiguresModel" "kinds" "[I" ∈ zbg := zin 627 rfl rfl
set_option maxRecDepth 100000 in
theorem zw628 : Cond.fieldLink RX9 23 "FacetFiguresModel" "columns" "[I" ∈ zbg := zin 628 rfl rfl
set_option maxRecDepth 100000 in
theorem zw629 : Cond.fieldLink RX9 26 "FacetFiguresModel" "as" "[I" ∈ zbg := zin 629 rfl rfl
set_option maxRecDepth 100000 in
theorem zw630 : Cond.fieldLink RX9 29 "FacetFiguresModel" "bs" "[I" ∈ zbg := zin 630 rfl rfl
set_option maxRecDepth 100000 in
theorem zw631 : Cond.fieldLink RX9 32 "FacetFiguresModel" "ranges" "[I" ∈ zbg := zin 631 rfl rfl
set_option maxRecDepth 100000 in
theorem zw632 : Cond.fieldLink RX9 35 "FacetFiguresModel" "froms" "[I" ∈ zbg := zin 632 rfl rfl
set_option maxRecDepth 100000 in
theorem zw633 : Cond.fieldLink RX9 38 "FacetFiguresModel" "tos" "[I" ∈ zbg := zin 633 rfl rfl
set_option maxRecDepth 100000 in
theorem zw634 : Cond.fieldLink RX9 41 "FacetFiguresModel" "filters" "[I" ∈ zbg := zin 634 rfl rfl
set_option maxRecDepth 100000 in
theorem zw635 : Cond.fieldLink RX9 44 "FacetFiguresModel" "filterFrom" "[I" ∈ zbg := zin 635 rfl rfl
set_option maxRecDepth 100000 in
theorem zw636 : Cond.fieldLink RX9 47 "FacetFiguresModel" "filterTo" "[I" ∈ zbg := zin 636 rfl rfl
set_option maxRecDepth 100000 in
theorem zw637 : Cond.fieldLink RX9 50 "FacetFiguresModel" "leasts" "[I" ∈ zbg := zin 637 rfl rfl
set_option maxRecDepth 100000 in
theorem zw638 : Cond.fieldLink RX9 53 "FacetFiguresModel" "areAsked" "[Z" ∈ zbg := zin 638 rfl rfl
set_option maxRecDepth 100000 in
theorem zw639 : Cond.fieldLink RX9 56 "FacetFiguresModel" "orders" "[I" ∈ zbg := zin 639 rfl rfl
set_option maxRecDepth 100000 in
theorem zw640 : Cond.fieldLink RX9 59 "FacetFiguresModel" "orderColumns" "[I" ∈ zbg := zin 640 rfl rfl
set_option maxRecDepth 100000 in
theorem zw641 : Cond.fieldLink RX9 103 "FacetFiguresModel" "deep" "I" ∈ zbg := zin 641 rfl rfl
set_option maxRecDepth 100000 in
theorem zw642 : Cond.fieldLink RX9 62 "FacetFiguresModel" "hands" "[Z" ∈ zbg := zin 642 rfl rfl
set_option maxRecDepth 100000 in
theorem zw643 : Cond.fieldLink RX9 127 "FacetFiguresModel" "given" "I" ∈ zbg := zin 643 rfl rfl
set_option maxRecDepth 100000 in
theorem zw644 : Cond.fieldLink RX9 65 "FacetFiguresModel" "keys" "[I" ∈ zbg := zin 644 rfl rfl
set_option maxRecDepth 100000 in
theorem zw645 : Cond.fieldLink RX9 162 "FacetFiguresModel" "groups" "I" ∈ zbg := zin 645 rfl rfl
set_option maxRecDepth 100000 in
theorem zw646 : Cond.fieldLink RX9 68 "FacetFiguresModel" "groupKey" "[I" ∈ zbg := zin 646 rfl rfl
set_option maxRecDepth 100000 in
theorem zw647 : Cond.fieldLink RX9 71 "FacetFiguresModel" "groupSize" "[I" ∈ zbg := zin 647 rfl rfl
set_option maxRecDepth 100000 in
theorem zw648 : Cond.fieldLink RX9 74 "FacetFiguresModel" "groupSum" "[J" ∈ zbg := zin 648 rfl rfl
set_option maxRecDepth 100000 in
theorem zw649 : Cond.fieldLink RX9 175 "FacetFiguresModel" "hasMissing" "Z" ∈ zbg := zin 649 rfl rfl
set_option maxRecDepth 100000 in
theorem zw650 : Cond.fieldLink RX9 78 "FacetFiguresModel" "keyMany" "[I" ∈ zbg := zin 650 rfl rfl
set_option maxRecDepth 100000 in
theorem zw651 : Cond.fieldLink RX9 81 "FacetFiguresModel" "keyOf" "[I" ∈ zbg := zin 651 rfl rfl
set_option maxRecDepth 100000 in
theorem zw652 : Cond.fieldLink RX9 84 "FacetFiguresModel" "next" "[Z" ∈ zbg := zin 652 rfl rfl
set_option maxRecDepth 100000 in
theorem zw653 : Cond.fieldLink RX9 211 "FacetFiguresModel" "rows" "I" ∈ zbg := zin 653 rfl rfl
set_option maxRecDepth 100000 in
theorem zw654 : Cond.fieldLink RX9 87 "FacetFiguresModel" "row" "[I" ∈ zbg := zin 654 rfl rfl
set_option maxRecDepth 100000 in
theorem zw726 : Cond.constant RX9 106 (-2000000003 : Int32) ∈ zbg := zin 726 rfl rfl
set_option maxRecDepth 100000 in
theorem zw727 : Cond.methodLink RX9 107 yX9_changes ∈ zbg := zin 727 rfl rfl
set_option maxRecDepth 100000 in
theorem zw729 : Cond.instanceMethod yX9_changes ∈ zbg := zin 729 rfl rfl
set_option maxRecDepth 100000 in
theorem zw730 : Cond.code yX9_changes prog_11_method_7_code 1 none ∈ zbg := zin 730 rfl rfl
set_option maxRecDepth 100000 in
theorem zw735 : Cond.methodLink RX9 110 yX9_isObject ∈ zbg := zin 735 rfl rfl
set_option maxRecDepth 100000 in
theorem zw737 : Cond.instanceMethod yX9_isObject ∈ zbg := zin 737 rfl rfl
set_option maxRecDepth 100000 in
theorem zw738 : Cond.code yX9_isObject prog_11_method_3_code 2 (some .boolean) ∈ zbg := zin 738 rfl rfl
set_option maxRecDepth 100000 in
theorem zw739 : Cond.methodLink RX9 94 yX9_within ∈ zbg := zin 739 rfl rfl
set_option maxRecDepth 100000 in
theorem zw740 : Cond.static yX9_within ∈ zbg := zin 740 rfl rfl
set_option maxRecDepth 100000 in
theorem zw741 : Cond.code yX9_within prog_11_method_2_code 3 (some .boolean) ∈ zbg := zin 741 rfl rfl
set_option maxRecDepth 100000 in
theorem zw742 : Cond.methodLink RX9 114 yX9_isColumn ∈ zbg := zin 742 rfl rfl
set_option maxRecDepth 100000 in
theorem zw743 : Cond.static yX9_isColumn ∈ zbg := zin 743 rfl rfl
set_option maxRecDepth 100000 in
theorem zw744 : Cond.code yX9_isColumn prog_11_method_5_code 1 (some .boolean) ∈ zbg := zin 744 rfl rfl
set_option maxRecDepth 100000 in
theorem zw745 : Cond.methodLink RX9 117 yX9_isValue ∈ zbg := zin 745 rfl rfl
set_option maxRecDepth 100000 in
theorem zw746 : Cond.static yX9_isValue ∈ zbg := zin 746 rfl rfl
set_option maxRecDepth 100000 in
theorem zw747 : Cond.code yX9_isValue prog_11_method_6_code 1 (some .boolean) ∈ zbg := zin 747 rfl rfl
set_option maxRecDepth 100000 in
theorem zw748 : Cond.constant RX9 101 (-1000000000 : Int32) ∈ zbg := zin 748 rfl rfl
set_option maxRecDepth 100000 in
theorem zw749 : Cond.constant RX9 102 (1000000000 : Int32) ∈ zbg := zin 749 rfl rfl
set_option maxRecDepth 100000 in
theorem zw750 : Cond.constant RX9 120 (-2000000001 : Int32) ∈ zbg := zin 750 rfl rfl
set_option maxRecDepth 100000 in
theorem zw763 : Cond.constant RX9 121 (1000000 : Int32) ∈ zbg := zin 763 rfl rfl
set_option maxRecDepth 100000 in
theorem zw764 : Cond.constant RX9 122 (-2000000000 : Int32) ∈ zbg := zin 764 rfl rfl
set_option maxRecDepth 100000 in
theorem zw769 : Cond.methodLink RX9 123 yX9_isFacet ∈ zbg := zin 769 rfl rfl
set_option maxRecDepth 100000 in
theorem zw771 : Cond.instanceMethod yX9_isFacet ∈ zbg := zin 771 rfl rfl
set_option maxRecDepth 100000 in
theorem zw772 : Cond.code yX9_isFacet prog_11_method_4_code 2 (some .boolean) ∈ zbg := zin 772 rfl rfl
set_option maxRecDepth 100000 in
theorem zw773 : Cond.constant RX9 126 (-2000000002 : Int32) ∈ zbg := zin 773 rfl rfl
set_option maxRecDepth 100000 in
theorem zw794 : Cond.methodLink RX9 201 yX9_findGroups ∈ zbg := zin 794 rfl rfl
set_option maxRecDepth 100000 in
theorem zw796 : Cond.instanceMethod yX9_findGroups ∈ zbg := zin 796 rfl rfl
set_option maxRecDepth 100000 in
theorem zw797 : Cond.code yX9_findGroups prog_11_method_37_code 6 none ∈ zbg := zin 797 rfl rfl
set_option maxRecDepth 100000 in
theorem zw798 : Cond.methodLink RX9 189 yX9_findKeys ∈ zbg := zin 798 rfl rfl
set_option maxRecDepth 100000 in
theorem zw800 : Cond.instanceMethod yX9_findKeys ∈ zbg := zin 800 rfl rfl
set_option maxRecDepth 100000 in
theorem zw801 : Cond.code yX9_findKeys prog_11_method_32_code 5 none ∈ zbg := zin 801 rfl rfl
set_option maxRecDepth 100000 in
theorem zw802 : Cond.methodLink RX9 165 yX9_findKeysOf ∈ zbg := zin 802 rfl rfl
set_option maxRecDepth 100000 in
theorem zw804 : Cond.instanceMethod yX9_findKeysOf ∈ zbg := zin 804 rfl rfl
set_option maxRecDepth 100000 in
theorem zw805 : Cond.code yX9_findKeysOf prog_11_method_28_code 6 none ∈ zbg := zin 805 rfl rfl
set_option maxRecDepth 100000 in
theorem zw806 : Cond.methodLink RX9 159 yX9_giveKeys ∈ zbg := zin 806 rfl rfl
set_option maxRecDepth 100000 in
theorem zw808 : Cond.instanceMethod yX9_giveKeys ∈ zbg := zin 808 rfl rfl
set_option maxRecDepth 100000 in
theorem zw809 : Cond.code yX9_giveKeys prog_11_method_25_code 4 none ∈ zbg := zin 809 rfl rfl
set_option maxRecDepth 100000 in
theorem zw810 : Cond.methodLink RX9 131 yX9_give ∈ zbg := zin 810 rfl rfl
set_option maxRecDepth 100000 in
theorem zw812 : Cond.instanceMethod yX9_give ∈ zbg := zin 812 rfl rfl
set_option maxRecDepth 100000 in
theorem zw813 : Cond.code yX9_give prog_11_method_18_code 2 none ∈ zbg := zin 813 rfl rfl
set_option maxRecDepth 100000 in
theorem zw814 : Cond.methodLink RX9 149 yX9_givePaths ∈ zbg := zin 814 rfl rfl
set_option maxRecDepth 100000 in
theorem zw816 : Cond.instanceMethod yX9_givePaths ∈ zbg := zin 816 rfl rfl
set_option maxRecDepth 100000 in
theorem zw817 : Cond.code yX9_givePaths prog_11_method_19_code 4 none ∈ zbg := zin 817 rfl rfl
set_option maxRecDepth 100000 in
theorem zw818 : Cond.constant RX9 130 (999999 : Int32) ∈ zbg := zin 818 rfl rfl
set_option maxRecDepth 100000 in
theorem zw819 : Cond.methodLink RX9 143 yX9_modulo ∈ zbg := zin 819 rfl rfl
set_option maxRecDepth 100000 in
theorem zw820 : Cond.static yX9_modulo ∈ zbg := zin 820 rfl rfl
set_option maxRecDepth 100000 in
theorem zw821 : Cond.code yX9_modulo prog_11_method_23_code 3 (some .int) ∈ zbg := zin 821 rfl rfl
set_option maxRecDepth 100000 in
theorem zw822 : Cond.methodLink RX9 152 yX9_giveDays ∈ zbg := zin 822 rfl rfl
set_option maxRecDepth 100000 in
theorem zw824 : Cond.instanceMethod yX9_giveDays ∈ zbg := zin 824 rfl rfl
set_option maxRecDepth 100000 in
theorem zw825 : Cond.code yX9_giveDays prog_11_method_24_code 3 none ∈ zbg := zin 825 rfl rfl
set_option maxRecDepth 100000 in
theorem zw826 : Cond.constant RX9 142 (-1000000 : Int32) ∈ zbg := zin 826 rfl rfl
set_option maxRecDepth 100000 in
theorem zw827 : Cond.methodLink RX9 146 yX9_behind ∈ zbg := zin 827 rfl rfl
set_option maxRecDepth 100000 in
theorem zw828 : Cond.static yX9_behind ∈ zbg := zin 828 rfl rfl
set_option maxRecDepth 100000 in
theorem zw829 : Cond.code yX9_behind prog_11_method_22_code 7 (some .int) ∈ zbg := zin 829 rfl rfl
set_option maxRecDepth 100000 in
theorem zw830 : Cond.methodLink RX9 135 yX9_isLeap ∈ zbg := zin 830 rfl rfl
set_option maxRecDepth 100000 in
theorem zw831 : Cond.static yX9_isLeap ∈ zbg := zin 831 rfl rfl
set_option maxRecDepth 100000 in
theorem zw832 : Cond.code yX9_isLeap prog_11_method_20_code 1 (some .boolean) ∈ zbg := zin 832 rfl rfl
set_option maxRecDepth 100000 in
theorem zw833 : Cond.methodLink RX9 138 yX9_daysOf ∈ zbg := zin 833 rfl rfl
set_option maxRecDepth 100000 in
theorem zw834 : Cond.static yX9_daysOf ∈ zbg := zin 834 rfl rfl
set_option maxRecDepth 100000 in
theorem zw835 : Cond.code yX9_daysOf prog_11_method_21_code 2 (some .int) ∈ zbg := zin 835 rfl rfl
set_option maxRecDepth 100000 in
theorem zw836 : Cond.methodLink RX9 168 yX9_counts ∈ zbg := zin 836 rfl rfl
set_option maxRecDepth 100000 in
theorem zw838 : Cond.instanceMethod yX9_counts ∈ zbg := zin 838 rfl rfl
set_option maxRecDepth 100000 in
theorem zw839 : Cond.code yX9_counts prog_11_method_27_code 6 (some .boolean) ∈ zbg := zin 839 rfl rfl
set_option maxRecDepth 100000 in
theorem zw840 : Cond.methodLink RX9 156 yX9_atHand ∈ zbg := zin 840 rfl rfl
set_option maxRecDepth 100000 in
theorem zw842 : Cond.instanceMethod yX9_atHand ∈ zbg := zin 842 rfl rfl
set_option maxRecDepth 100000 in
theorem zw843 : Cond.code yX9_atHand prog_11_method_26_code 2 (some .boolean) ∈ zbg := zin 843 rfl rfl
set_option maxRecDepth 100000 in
theorem zw844 : Cond.methodLink RX9 172 yX9_isNew ∈ zbg := zin 844 rfl rfl
set_option maxRecDepth 100000 in
theorem zw846 : Cond.instanceMethod yX9_isNew ∈ zbg := zin 846 rfl rfl
set_option maxRecDepth 100000 in
theorem zw847 : Cond.code yX9_isNew prog_11_method_31_code 4 (some .boolean) ∈ zbg := zin 847 rfl rfl
set_option maxRecDepth 100000 in
theorem zw848 : Cond.methodLink RX9 192 yX9_measure ∈ zbg := zin 848 rfl rfl
set_option maxRecDepth 100000 in
theorem zw850 : Cond.instanceMethod yX9_measure ∈ zbg := zin 850 rfl rfl
set_option maxRecDepth 100000 in
theorem zw851 : Cond.code yX9_measure prog_11_method_34_code 4 none ∈ zbg := zin 851 rfl rfl
set_option maxRecDepth 100000 in
theorem zw852 : Cond.methodLink RX9 182 yX9_isIn ∈ zbg := zin 852 rfl rfl
set_option maxRecDepth 100000 in
theorem zw854 : Cond.instanceMethod yX9_isIn ∈ zbg := zin 854 rfl rfl
set_option maxRecDepth 100000 in
theorem zw855 : Cond.code yX9_isIn prog_11_method_33_code 5 (some .boolean) ∈ zbg := zin 855 rfl rfl
set_option maxRecDepth 100000 in
theorem zw856 : Cond.methodLink RX9 179 yX9_hasKey ∈ zbg := zin 856 rfl rfl
set_option maxRecDepth 100000 in
theorem zw858 : Cond.instanceMethod yX9_hasKey ∈ zbg := zin 858 rfl rfl
set_option maxRecDepth 100000 in
theorem zw859 : Cond.code yX9_hasKey prog_11_method_29_code 5 (some .boolean) ∈ zbg := zin 859 rfl rfl
set_option maxRecDepth 100000 in
theorem zw860 : Cond.methodLink RX9 185 yX9_sumOf ∈ zbg := zin 860 rfl rfl
set_option maxRecDepth 100000 in
theorem zw862 : Cond.instanceMethod yX9_sumOf ∈ zbg := zin 862 rfl rfl
set_option maxRecDepth 100000 in
theorem zw863 : Cond.code yX9_sumOf prog_11_method_30_code 6 (some .long) ∈ zbg := zin 863 rfl rfl
set_option maxRecDepth 100000 in
theorem zw864 : Cond.methodLink RX9 195 yX9_move ∈ zbg := zin 864 rfl rfl
set_option maxRecDepth 100000 in
theorem zw866 : Cond.instanceMethod yX9_move ∈ zbg := zin 866 rfl rfl
set_option maxRecDepth 100000 in
theorem zw867 : Cond.code yX9_move prog_11_method_36_code 3 none ∈ zbg := zin 867 rfl rfl
set_option maxRecDepth 100000 in
theorem zw868 : Cond.methodLink RX9 198 yX9_isBefore ∈ zbg := zin 868 rfl rfl
set_option maxRecDepth 100000 in
theorem zw870 : Cond.instanceMethod yX9_isBefore ∈ zbg := zin 870 rfl rfl
set_option maxRecDepth 100000 in
theorem zw871 : Cond.code yX9_isBefore prog_11_method_35_code 4 (some .boolean) ∈ zbg := zin 871 rfl rfl
set_option maxRecDepth 100000 in
theorem zw876 : Cond.methodLink RX9 204 yX9_isGroup ∈ zbg := zin 876 rfl rfl
set_option maxRecDepth 100000 in
theorem zw878 : Cond.instanceMethod yX9_isGroup ∈ zbg := zin 878 rfl rfl
set_option maxRecDepth 100000 in
theorem zw879 : Cond.code yX9_isGroup prog_11_method_38_code 3 (some .boolean) ∈ zbg := zin 879 rfl rfl
set_option maxRecDepth 100000 in
theorem zw892 : Cond.methodLink RX9 207 yX9_hand ∈ zbg := zin 892 rfl rfl
set_option maxRecDepth 100000 in
theorem zw893 : Cond.instanceMethod yX9_hand ∈ zbg := zin 893 rfl rfl
set_option maxRecDepth 100000 in
theorem zw894 : Cond.selects RX9 yX9_hand yX9_hand ∈ zbg := zin 894 rfl rfl
set_option maxRecDepth 100000 in
theorem zw895 : Cond.code yX9_hand prog_11_method_45_code 3 (some .int) ∈ zbg := zin 895 rfl rfl
set_option maxRecDepth 100000 in
theorem zw905 : Cond.methodLink RX9 217 yX9_findRow ∈ zbg := zin 905 rfl rfl
set_option maxRecDepth 100000 in
theorem zw907 : Cond.instanceMethod yX9_findRow ∈ zbg := zin 907 rfl rfl
set_option maxRecDepth 100000 in
theorem zw908 : Cond.code yX9_findRow prog_11_method_46_code 7 (some .boolean) ∈ zbg := zin 908 rfl rfl
set_option maxRecDepth 100000 in
theorem zw909 : Cond.methodLink RX9 214 yX9_lay ∈ zbg := zin 909 rfl rfl
set_option maxRecDepth 100000 in
theorem zw911 : Cond.instanceMethod yX9_lay ∈ zbg := zin 911 rfl rfl
set_option maxRecDepth 100000 in
theorem zw912 : Cond.code yX9_lay prog_11_method_47_code 3 none ∈ zbg := zin 912 rfl rfl
set_option maxRecDepth 100000 in
theorem zw913 : Cond.constantLong RX9 220 (-2000000001 : Int64) ∈ zbg := zin 913 rfl rfl
set_option maxRecDepth 100000 in
theorem zw914 : Cond.constantLong RX9 222 (-2000000000 : Int64) ∈ zbg := zin 914 rfl rfl
set_option maxRecDepth 100000 in
theorem zkX9_within : zkS yX9_within cX9_within 3 (some .boolean) 3 := ⟨zw740, zw48, zw741, by decide, by decide, by decide +kernel⟩
set_option maxRecDepth 100000 in
theorem zkX9_changes : zkV RX9 yX9_changes cX9_changes 1 (none) 0 := ⟨zw729, zw17, zw48, zw730, rfl, by decide, by decide, by decide +kernel⟩
set_option maxRecDepth 100000 in
theorem zkX9_isObject : zkV RX9 yX9_isObject cX9_isObject 2 (some .boolean) 1 := ⟨zw737, zw18, zw48, zw738, rfl, by decide, by decide, by decide +kernel⟩
set_option maxRecDepth 100000 in
theorem zkX9_isColumn : zkS yX9_isColumn cX9_isColumn 1 (some .boolean) 1 := ⟨zw743, zw48, zw744, by decide, by decide, by decide +kernel⟩
set_option maxRecDepth 100000 in
theorem zkX9_isValue : zkS yX9_isValue cX9_isValue 1 (some .boolean) 1 := ⟨zw746, zw48, zw747, by decide, by decide, by decide +kernel⟩
set_option maxRecDepth 100000 in
theorem zkX9_isFacet : zkV RX9 yX9_isFacet cX9_isFacet 2 (some .boolean) 1 := ⟨zw771, zw19, zw48, zw772, rfl, by decide, by decide, by decide +kernel⟩
set_option maxRecDepth 100000 in
theorem zkX9_give : zkV RX9 yX9_give cX9_give 2 (none) 1 := ⟨zw812, zw24, zw48, zw813, rfl, by decide, by decide, by decide +kernel⟩
set_option maxRecDepth 100000 in
theorem zkX9_isLeap : zkS yX9_isLeap cX9_isLeap 1 (some .boolean) 1 := ⟨zw831, zw48, zw832, by decide, by decide, by decide +kernel⟩
set_option maxRecDepth 100000 in
theorem zkX9_daysOf : zkS yX9_daysOf cX9_daysOf 2 (some .int) 2 := ⟨zw834, zw48, zw835, by decide, by decide, by decide +kernel⟩
set_option maxRecDepth 100000 in
theorem zkX9_behind : zkS yX9_behind cX9_behind 7 (some .int) 2 := ⟨zw828, zw48, zw829, by decide, by decide, by decide +kernel⟩
set_option maxRecDepth 100000 in
theorem zkX9_modulo : zkS yX9_modulo cX9_modulo 3 (some .int) 2 := ⟨zw820, zw48, zw821, by decide, by decide, by decide +kernel⟩
set_option maxRecDepth 100000 in
theorem zkX9_givePaths : zkV RX9 yX9_givePaths cX9_givePaths 4 (none) 1 := ⟨zw816, zw25, zw48, zw817, rfl, by decide, by decide, by decide +kernel⟩
set_option maxRecDepth 100000 in
theorem zkX9_giveDays : zkV RX9 yX9_giveDays cX9_giveDays 3 (none) 2 := ⟨zw824, zw26, zw48, zw825, rfl, by decide, by decide, by decide +kernel⟩
set_option maxRecDepth 100000 in
theorem zkX9_atHand : zkV RX9 yX9_atHand cX9_atHand 2 (some .boolean) 1 := ⟨zw842, zw28, zw48, zw843, rfl, by decide, by decide, by decide +kernel⟩
set_option maxRecDepth 100000 in
theorem zkX9_giveKeys : zkV RX9 yX9_giveKeys cX9_giveKeys 4 (none) 2 := ⟨zw808, zw23, zw48, zw809, rfl, by decide, by decide, by decide +kernel⟩
set_option maxRecDepth 100000 in
theorem zkX9_findKeysOf : zkV RX9 yX9_findKeysOf cX9_findKeysOf 6 (none) 2 := ⟨zw804, zw22, zw48, zw805, rfl, by decide, by decide, by decide +kernel⟩
set_option maxRecDepth 100000 in
theorem zkX9_counts : zkV RX9 yX9_counts cX9_counts 6 (some .boolean) 2 := ⟨zw838, zw27, zw48, zw839, rfl, by decide, by decide, by decide +kernel⟩
set_option maxRecDepth 100000 in
theorem zkX9_isNew : zkV RX9 yX9_isNew cX9_isNew 4 (some .boolean) 1 := ⟨zw846, zw29, zw48, zw847, rfl, by decide, by decide, by decide +kernel⟩
set_option maxRecDepth 100000 in
theorem zkX9_hasKey : zkV RX9 yX9_hasKey cX9_hasKey 5 (some .boolean) 2 := ⟨zw858, zw32, zw48, zw859, rfl, by decide, by decide, by decide +kernel⟩
set_option maxRecDepth 100000 in
theorem zkX9_isIn : zkV RX9 yX9_isIn cX9_isIn 5 (some .boolean) 3 := ⟨zw854, zw31, zw48, zw855, rfl, by decide, by decide, by decide +kernel⟩
set_option maxRecDepth 100000 in
theorem zkX9_sumOf : zkV RX9 yX9_sumOf cX9_sumOf 6 (some .long) 2 := ⟨zw862, zw33, zw48, zw863, rfl, by decide, by decide, by decide +kernel⟩
set_option maxRecDepth 100000 in
theorem zkX9_findKeys : zkV RX9 yX9_findKeys cX9_findKeys 5 (none) 1 := ⟨zw800, zw21, zw48, zw801, rfl, by decide, by decide, by decide +kernel⟩
set_option maxRecDepth 100000 in
theorem zkX9_measure : zkV RX9 yX9_measure cX9_measure 4 (none) 2 := ⟨zw850, zw30, zw48, zw851, rfl, by decide, by decide, by decide +kernel⟩
set_option maxRecDepth 100000 in
theorem zkX9_move : zkV RX9 yX9_move cX9_move 3 (none) 2 := ⟨zw866, zw34, zw48, zw867, rfl, by decide, by decide, by decide +kernel⟩
set_option maxRecDepth 100000 in
theorem zkX9_isBefore : zkV RX9 yX9_isBefore cX9_isBefore 4 (some .boolean) 3 := ⟨zw870, zw35, zw48, zw871, rfl, by decide, by decide, by decide +kernel⟩
set_option maxRecDepth 100000 in
theorem zkX9_findGroups : zkV RX9 yX9_findGroups cX9_findGroups 6 (none) 1 := ⟨zw796, zw20, zw48, zw797, rfl, by decide, by decide, by decide +kernel⟩
set_option maxRecDepth 100000 in
theorem zkX9_isGroup : zkV RX9 yX9_isGroup cX9_isGroup 3 (some .boolean) 2 := ⟨zw878, zw36, zw48, zw879, rfl, by decide, by decide, by decide +kernel⟩
set_option maxRecDepth 100000 in
theorem zkX9_hand : zkV RX9 yX9_hand cX9_hand 3 (some .int) 0 := ⟨zw893, zw894, zw48, zw895, rfl, by decide, by decide, by decide +kernel⟩
set_option maxRecDepth 100000 in
theorem zkX9_lay : zkV RX9 yX9_lay cX9_lay 3 (none) 1 := ⟨zw911, zw38, zw48, zw912, rfl, by decide, by decide, by decide +kernel⟩
set_option maxRecDepth 100000 in
theorem zkX9_findRow : zkV RX9 yX9_findRow cX9_findRow 7 (some .boolean) 3 := ⟨zw907, zw37, zw48, zw908, rfl, by decide, by decide, by decide +kernel⟩
end
section
theorem zcz_all {v w : Int32} (h : zcz v = some w) : v = w ∧ narrow .boolean (.int v) = .int v ∧ vp_nar .boolean v = v ∧ fits .boolean (.int v) = true := by
  unfold zcz at h
  by_cases c : v = 0 ∨ v = 1
  · rw [if_pos c] at h
    refine ⟨Option.some.inj h, ?_⟩
    rcases c with rfl | rfl <;> exact ⟨by decide, by decide, by decide⟩
  · rw [if_neg c] at h; cases h
def zmi : Nat → Int32 := fun j => ([0, 31, 59, 90, 120, 151, 181, 212, 243, 273, 304, 334] : List Int32).getD j 0
theorem zms_of {i v : Int32} (h : zrd 12 zmi i = some v) : zms i.toNatClampNeg = .int v := by
  obtain ⟨-, h2⟩ := zrd_some h
  rw [← h2]; rfl
theorem zrd_lt {n : Nat} {i : Int32} {k : Nat} (h : zrd n (fun n => n) i = some k) : k < n := by
  obtain ⟨h1, h2⟩ := zrd_some h
  subst h2
  exact Nat.not_le.mp fun q => h1 (Or.inr q)
def zcpy (n0 n1 j0 j1 : Nat) (σ : zS) (n : Int32) : Option zS := if n < 0 ∨ n0 < n.toNatClampNeg ∨ n1 < n.toNatClampNeg then none else some (zsL σ j1 (va_cpy (σ.2.2 j0) (σ.2.2 j1) 0 0 n.toNatClampNeg))
section ZM
variable {p : Program} {l : Launch} {e : Env} {R : Room} {s : State} {m : MethodId} {args : Array Value} {below : List Frame} {meth : Method} {c : Code} {H : Heap} {locs : List Loc} {cells slots : Nat} {Q : State → Prop}
variable {cc : ByteArray} {pc : Nat} {ls : Array Slot} {rest : List Value} {A : Nat → Prop} {H0 : Heap} {D : va_G} {cl : List vw_C} {tys : List (ClassId × FieldType)} {a : Nat}
theorem zaald {ws : va_W} {ad : Nat → Nat} (hx : p.tables.exec = Jvm.exec) (hb : c.code = cc) (hK : va_K D cl tys s) (hP : va_P D cl ws H) (q0 t0 : Nat) {cA : ClassId} {C : String} {n k : Nat} (ha : ws[q0]? = some (a, .inl (cA, n, .inr (.inr (.inr (.inr (fun k => some (ad (20 + k))))))))) (ht : tys[t0]? = some (cA, .object C)) {i : Int32} (hv : zrd n (fun n => n) i = some k) (hdg : decode cc pc = .ok (.aaload, 1))
    (kk : W p l e R s m args below meth c H locs cells slots Q (F0 m (pc + 1) ls (.ref (ad (20 + k)) :: rest))) : W p l e R s m args below meth c H locs cells slots Q (F0 m pc ls (.int i :: .ref a :: rest)) := by
  obtain ⟨h1, h2⟩ := zrd_some hv
  subst h2
  exact va_aldq hx hb hK hP q0 t0 ha ht h1 hdg kk
theorem zacopy {nL : Nat} {wd : zS → va_W} {σ σ' : zS} {j0 j1 n0 n1 : Nat} (hx : p.tables.exec = Jvm.exec) (hb : c.code = cc) (hml : c.maxLocals = nL) (hls : ls.size = nL) {own : String} {index : Nat} (hown : s.vm.findClass own = some m.cls) (hlink : (Cond.methodLink own index arraycopyName).before args s = true) (hnat : (Cond.native arraycopyName).before args s = true) (hstat : (Cond.static arraycopyName).before args s = true) (hini : (Cond.initialized "java/lang/System").before args s = true)
    (hK : va_K D cl tys s) (hP : va_P D cl (wd σ) H) (hD : va_D A (wd σ)) (hS : va_S A H0 H locs) (q0 q1 : Nat) {a0 : Nat} {c0 : ClassId} (ha0 : (wd σ)[q0]? = some (a0, .inl (c0, n0, .inr (.inl (σ.2.2 j0))))) (ha1 : (wd σ)[q1]? = some (a, .inl (c0, n1, .inr (.inl (σ.2.2 j1))))) (ht0 : tys[1]? = some (c0, .long)) {n : Int32} (hv : zcpy n0 n1 j0 j1 σ n = some σ') (hset : ∀ f : Nat → Int64, (wd σ).set q1 (a, .inl (c0, n1, .inr (.inl f))) = wd (zsL σ j1 f))
    (hframes : 1 ≤ R.frames) (hlocals : (rest.map fun v => v.category).sum + (nativeFrameWords "java/lang/System" "arraycopy" 5 + 11) ≤ R.locals) (hdg : decode cc pc = .ok (.invokestatic index, 3))
    (kk : ∀ (H1 : Heap) (locs1 : List Loc), va_P D cl (wd σ') H1 → va_D A (wd σ') → va_S A H0 H1 locs1 → W p l e R s m args below meth c H1 locs1 cells slots Q (F0 m (pc + 3) ls rest)) : W p l e R s m args below meth c H locs cells slots Q (F0 m pc ls (.int n :: .int 0 :: .ref a :: .int 0 :: .ref a0 :: rest)) := by
  unfold zcpy at hv
  by_cases h : n < 0 ∨ n0 < n.toNatClampNeg ∨ n1 < n.toNatClampNeg
  · rw [if_pos h] at hv; cases hv
  rw [if_neg h] at hv
  cases Option.some.inj hv
  have h1 : ¬ n < 0 := fun q => h (Or.inl q)
  have h2 : n.toNatClampNeg ≤ n0 := Nat.not_lt.mp fun q => h (Or.inr (Or.inl q))
  have h3 : n.toNatClampNeg ≤ n1 := Nat.not_lt.mp fun q => h (Or.inr (Or.inr q))
  have z : (0 : Int32).toNatClampNeg = 0 := by decide
  refine va_copyl hx hb (by rw [hml, hls]) hown hlink hnat hstat hini hK hP hD hS q0 q1 1 1 ha0 ha1 ht0 ht0 rfl (by decide) (by decide) h1 (by rw [z]; omega) (by rw [z]; omega) (fun _ _ => rfl) hframes hlocals hdg (fun H1 locs1 p1 d1 s1 => ?_)
  rw [hset] at p1 d1
  exact kk H1 locs1 p1 d1 s1
end ZM
end
section
def m_X9_within (N : Nat) (σ : zS) (v0 : Int32) (v1 : Int32) (v2 : Int32) : Option Int32 :=
  if v0 < v1 then
  (some (0 : Int32))
  else
  (if v2 < v0 then
  (some (0 : Int32))
  else
  (some (1 : Int32)))
def m_X9_isObject (N : Nat) (σ : zS) (v1 : Int32) : Option Int32 :=
  (m_X9_within N σ v1 (0 : Int32) ((σ.1 0) - (1 : Int32))).bind fun b1 =>
  (zcz b1).bind fun b2 =>
  some b2
def m_X9_isFacet (N : Nat) (σ : zS) (v1 : Int32) : Option Int32 :=
  (m_X9_within N σ v1 (0 : Int32) ((σ.1 1) - (1 : Int32))).bind fun b1 =>
  (zcz b1).bind fun b2 =>
  some b2
def m_X9_isColumn (N : Nat) (σ : zS) (v0 : Int32) : Option Int32 :=
  (m_X9_within N σ v0 (0 : Int32) (5 : Int32)).bind fun b1 =>
  (zcz b1).bind fun b2 =>
  some b2
def m_X9_isValue (N : Nat) (σ : zS) (v0 : Int32) : Option Int32 :=
  (m_X9_within N σ v0 (-1000000000 : Int32) (1000000000 : Int32)).bind fun b1 =>
  (zcz b1).bind fun b2 =>
  some b2
def m_X9_changes (N : Nat) (σ : zS)  : Option zS :=
  (some (zsI σ 2 (0 : Int32))).bind fun σ1 =>
  some σ1
def m_X9_object_L14 (N : Nat) (σ2 : zS) (v1_2 : Int32) : Option ((zS × Int32) ⊕ (zS)) :=
  if (6 : Int32) ≤ v1_2 then
  (some (.inr σ2))
  else
  ((zwA 720 0 σ2 (((6 : Int32) * (σ2.1 0)) + v1_2) (0 : Int32)).bind fun σ4 =>
  some (.inl (σ4, (v1_2 + (1 : Int32)))))
def m_X9_object_41 (N : Nat) (σ7 : zS) : Option (Int32 × zS) :=
  (zwA 120 2 σ7 (σ7.1 0) (0 : Int32)).bind fun σ8 =>
  (some (zsI σ8 0 ((σ8.1 0) + (1 : Int32)))).bind fun σ9 =>
  (m_X9_changes N σ9 ).bind fun σ10 =>
  some (((σ10.1 0) - (1 : Int32)), σ10)
def m_X9_object (N : Nat) (σ : zS)  : Option (Int32 × zS) :=
  if (σ.1 0) = (120 : Int32) then
  (some ((-2000000003 : Int32), σ))
  else
  ((ziter (fun q : zS × Int32 => m_X9_object_L14 N q.1 q.2) N (σ, (0 : Int32))).bind (fun y : zS => m_X9_object_41 N y))
def m_X9_value (N : Nat) (σ : zS) (v1 : Int32) (v2 : Int32) (v3 : Int32) : Option (Int32 × zS) :=
  (m_X9_isObject N σ v1).bind fun b1 =>
  if b1 = (0 : Int32) then
  (some ((-2000000001 : Int32), σ))
  else
  ((m_X9_isColumn N σ v2).bind fun b3 =>
  if b3 = (0 : Int32) then
  (some ((-2000000001 : Int32), σ))
  else
  ((m_X9_isValue N σ v3).bind fun b5 =>
  if b5 = (0 : Int32) then
  (some ((-2000000001 : Int32), σ))
  else
  ((zrd 720 (σ.2.1 0) (((6 : Int32) * v1) + v2)).bind fun b7 =>
  if b7 = (3 : Int32) then
  (some ((-2000000003 : Int32), σ))
  else
  ((zrd 720 (σ.2.1 0) (((6 : Int32) * v1) + v2)).bind fun b9 =>
  (zwA 2160 1 σ (((3 : Int32) * (((6 : Int32) * v1) + v2)) + b9) v3).bind fun σ10 =>
  (zrd 720 (σ10.2.1 0) (((6 : Int32) * v1) + v2)).bind fun b11 =>
  (zwA 720 0 σ10 (((6 : Int32) * v1) + v2) (b11 + (1 : Int32))).bind fun σ12 =>
  (m_X9_changes N σ12 ).bind fun σ13 =>
  (zrd 720 (σ13.2.1 0) (((6 : Int32) * v1) + v2)).bind fun b14 =>
  some (b14, σ13)))))
def m_X9_match_25 (N : Nat) (v1 : Int32) (v2 : Int32) (σ5 : zS) (x0_5 : Int32) : Option (Int32 × zS) :=
  (zcz v2).bind fun b6 =>
  (zwA 120 2 σ5 v1 b6).bind fun σ7 =>
  (m_X9_changes N σ7 ).bind fun σ8 =>
  some (x0_5, σ8)
def m_X9_match (N : Nat) (σ : zS) (v1 : Int32) (v2 : Int32) : Option (Int32 × zS) :=
  (m_X9_isObject N σ v1).bind fun b1 =>
  if b1 = (0 : Int32) then
  (some ((-2000000001 : Int32), σ))
  else
  ((zrd 120 (σ.2.1 2) v1).bind fun b3 =>
  if b3 = (0 : Int32) then
  (m_X9_match_25 N v1 v2 σ (0 : Int32))
  else
  (m_X9_match_25 N v1 v2 σ (1 : Int32)))
def m_X9_clear (N : Nat) (σ : zS)  : Option (Int32 × zS) :=
  (some (zsI σ 0 (0 : Int32))).bind fun σ1 =>
  (some (zsI σ1 1 (0 : Int32))).bind fun σ2 =>
  (m_X9_changes N σ2 ).bind fun σ3 =>
  some ((σ.1 0), σ3)
def m_X9_facet_72 (N : Nat) (v1 : Int32) (v2 : Int32) (v3 : Int32) (v4 : Int32) (σ10 : zS) : Option (Int32 × zS) :=
  if (σ10.1 1) = (10 : Int32) then
  (some ((-2000000003 : Int32), σ10))
  else
  ((zwA 10 3 σ10 (σ10.1 1) v1).bind fun σ12 =>
  (zwA 10 4 σ12 (σ12.1 1) v2).bind fun σ13 =>
  (zwA 10 5 σ13 (σ13.1 1) v3).bind fun σ14 =>
  (zwA 10 6 σ14 (σ14.1 1) v4).bind fun σ15 =>
  (zwA 10 7 σ15 (σ15.1 1) (0 : Int32)).bind fun σ16 =>
  (zwA 10 10 σ16 (σ16.1 1) (-2000000000 : Int32)).bind fun σ17 =>
  (zwA 10 13 σ17 (σ17.1 1) (1 : Int32)).bind fun σ18 =>
  (zwA 10 14 σ18 (σ18.1 1) (0 : Int32)).bind fun σ19 =>
  (zwA 10 15 σ19 (σ19.1 1) (0 : Int32)).bind fun σ20 =>
  (some (zsI σ20 1 ((σ20.1 1) + (1 : Int32)))).bind fun σ21 =>
  (m_X9_changes N σ21 ).bind fun σ22 =>
  some (((σ22.1 1) - (1 : Int32)), σ22))
def m_X9_facet_32 (N : Nat) (v1 : Int32) (v2 : Int32) (v3 : Int32) (v4 : Int32) (σ3 : zS) (x0_3 : Int32) : Option (Int32 × zS) :=
  (m_X9_within N σ3 v1 (0 : Int32) (4 : Int32)).bind fun b4 =>
  if b4 = (0 : Int32) then
  (some ((-2000000001 : Int32), σ3))
  else
  ((m_X9_isColumn N σ3 v2).bind fun b6 =>
  if b6 = (0 : Int32) then
  (some ((-2000000001 : Int32), σ3))
  else
  (if x0_3 = (0 : Int32) then
  (some ((-2000000001 : Int32), σ3))
  else
  (if v1 = (4 : Int32) then
  ((m_X9_within N σ3 v3 (0 : Int32) (4 : Int32)).bind fun b23 =>
  if b23 = (0 : Int32) then
  (some ((-2000000001 : Int32), σ3))
  else
  (m_X9_facet_72 N v1 v2 v3 v4 σ3))
  else
  (m_X9_facet_72 N v1 v2 v3 v4 σ3))))
def m_X9_facet_27 (N : Nat) (v1 : Int32) (v2 : Int32) (v3 : Int32) (v4 : Int32) (σ2 : zS) : Option (Int32 × zS) :=
  m_X9_facet_32 N v1 v2 v3 v4 σ2 (1 : Int32)
def m_X9_facet_31 (N : Nat) (v1 : Int32) (v2 : Int32) (v3 : Int32) (v4 : Int32) (σ27 : zS) : Option (Int32 × zS) :=
  m_X9_facet_32 N v1 v2 v3 v4 σ27 (0 : Int32)
def m_X9_facet (N : Nat) (σ : zS) (v1 : Int32) (v2 : Int32) (v3 : Int32) (v4 : Int32) : Option (Int32 × zS) :=
  if v1 = (3 : Int32) then
  ((m_X9_within N σ v3 (1 : Int32) (1000000 : Int32)).bind fun b25 =>
  if b25 = (0 : Int32) then
  (m_X9_facet_31 N v1 v2 v3 v4 σ)
  else
  ((m_X9_within N σ v4 (0 : Int32) (v3 - (1 : Int32))).bind fun b28 =>
  if b28 = (0 : Int32) then
  (m_X9_facet_31 N v1 v2 v3 v4 σ)
  else
  (m_X9_facet_27 N v1 v2 v3 v4 σ)))
  else
  (m_X9_facet_27 N v1 v2 v3 v4 σ)
def m_X9_range (N : Nat) (σ : zS) (v1 : Int32) (v2 : Int32) (v3 : Int32) : Option (Int32 × zS) :=
  (m_X9_isFacet N σ v1).bind fun b1 =>
  if b1 = (0 : Int32) then
  (some ((-2000000001 : Int32), σ))
  else
  ((m_X9_isValue N σ v2).bind fun b3 =>
  if b3 = (0 : Int32) then
  (some ((-2000000001 : Int32), σ))
  else
  ((m_X9_isValue N σ v3).bind fun b5 =>
  if b5 = (0 : Int32) then
  (some ((-2000000001 : Int32), σ))
  else
  (if v2 ≤ v3 then
  ((zrd 10 (σ.2.1 3) v1).bind fun b8 =>
  if b8 = (2 : Int32) then
  ((zrd 10 (σ.2.1 7) v1).bind fun b10 =>
  if b10 = (6 : Int32) then
  (some ((-2000000003 : Int32), σ))
  else
  ((zrd 10 (σ.2.1 7) v1).bind fun b12 =>
  (zwA 60 8 σ (((6 : Int32) * v1) + b12) v2).bind fun σ13 =>
  (zrd 10 (σ13.2.1 7) v1).bind fun b14 =>
  (zwA 60 9 σ13 (((6 : Int32) * v1) + b14) v3).bind fun σ15 =>
  (zrd 10 (σ15.2.1 7) v1).bind fun b16 =>
  (zwA 10 7 σ15 v1 (b16 + (1 : Int32))).bind fun σ17 =>
  (m_X9_changes N σ17 ).bind fun σ18 =>
  (zrd 10 (σ18.2.1 7) v1).bind fun b19 =>
  some ((b19 - (1 : Int32)), σ18)))
  else
  (some ((-2000000002 : Int32), σ)))
  else
  (some ((-2000000001 : Int32), σ)))))
def m_X9_filter_46 (N : Nat) (v1 : Int32) (v2 : Int32) (v3 : Int32) (v4 : Int32) (σ7 : zS) (x0_7 : Int32) : Option (Int32 × zS) :=
  (zwA 10 10 σ7 v1 v2).bind fun σ8 =>
  (zwA 10 11 σ8 v1 v3).bind fun σ9 =>
  (zwA 10 12 σ9 v1 v4).bind fun σ10 =>
  (m_X9_changes N σ10 ).bind fun σ11 =>
  some (x0_7, σ11)
def m_X9_filter_30 (N : Nat) (v1 : Int32) (v2 : Int32) (v3 : Int32) (v4 : Int32) (σ4 : zS) : Option (Int32 × zS) :=
  (zrd 10 (σ4.2.1 10) v1).bind fun b5 =>
  if b5 = (-2000000000 : Int32) then
  (m_X9_filter_46 N v1 v2 v3 v4 σ4 (0 : Int32))
  else
  (m_X9_filter_46 N v1 v2 v3 v4 σ4 (1 : Int32))
def m_X9_filter (N : Nat) (σ : zS) (v1 : Int32) (v2 : Int32) (v3 : Int32) (v4 : Int32) : Option (Int32 × zS) :=
  (m_X9_isFacet N σ v1).bind fun b1 =>
  if b1 = (0 : Int32) then
  (some ((-2000000001 : Int32), σ))
  else
  (if v2 = (-2000000000 : Int32) then
  (m_X9_filter_30 N v1 v2 v3 v4 σ)
  else
  ((m_X9_isColumn N σ v2).bind fun b12 =>
  if b12 = (0 : Int32) then
  (some ((-2000000001 : Int32), σ))
  else
  (if v3 ≤ v4 then
  (m_X9_filter_30 N v1 v2 v3 v4 σ)
  else
  (some ((-2000000001 : Int32), σ)))))
def m_X9_least (N : Nat) (σ : zS) (v1 : Int32) (v2 : Int32) : Option (Int32 × zS) :=
  (m_X9_isFacet N σ v1).bind fun b1 =>
  if b1 = (0 : Int32) then
  (some ((-2000000001 : Int32), σ))
  else
  ((m_X9_within N σ v2 (0 : Int32) (120 : Int32)).bind fun b3 =>
  if b3 = (0 : Int32) then
  (some ((-2000000001 : Int32), σ))
  else
  ((zrd 10 (σ.2.1 13) v1).bind fun b5 =>
  (zwA 10 13 σ v1 v2).bind fun σ6 =>
  (m_X9_changes N σ6 ).bind fun σ7 =>
  some (b5, σ7)))
def m_X9_missing_25 (N : Nat) (v1 : Int32) (v2 : Int32) (σ5 : zS) (x0_5 : Int32) : Option (Int32 × zS) :=
  (zcz v2).bind fun b6 =>
  (zwA 10 14 σ5 v1 b6).bind fun σ7 =>
  (m_X9_changes N σ7 ).bind fun σ8 =>
  some (x0_5, σ8)
def m_X9_missing (N : Nat) (σ : zS) (v1 : Int32) (v2 : Int32) : Option (Int32 × zS) :=
  (m_X9_isFacet N σ v1).bind fun b1 =>
  if b1 = (0 : Int32) then
  (some ((-2000000001 : Int32), σ))
  else
  ((zrd 10 (σ.2.1 14) v1).bind fun b3 =>
  if b3 = (0 : Int32) then
  (m_X9_missing_25 N v1 v2 σ (0 : Int32))
  else
  (m_X9_missing_25 N v1 v2 σ (1 : Int32)))
def m_X9_order_32 (N : Nat) (v1 : Int32) (v2 : Int32) (v3 : Int32) (σ6 : zS) : Option (Int32 × zS) :=
  (zrd 10 (σ6.2.1 15) v1).bind fun b7 =>
  (zwA 10 15 σ6 v1 v2).bind fun σ8 =>
  (zwA 10 16 σ8 v1 v3).bind fun σ9 =>
  (m_X9_changes N σ9 ).bind fun σ10 =>
  some (b7, σ10)
def m_X9_order (N : Nat) (σ : zS) (v1 : Int32) (v2 : Int32) (v3 : Int32) : Option (Int32 × zS) :=
  (m_X9_isFacet N σ v1).bind fun b1 =>
  if b1 = (0 : Int32) then
  (some ((-2000000001 : Int32), σ))
  else
  ((m_X9_within N σ v2 (0 : Int32) (2 : Int32)).bind fun b3 =>
  if b3 = (0 : Int32) then
  (some ((-2000000001 : Int32), σ))
  else
  (if v2 = (2 : Int32) then
  ((m_X9_isColumn N σ v3).bind fun b11 =>
  if b11 = (0 : Int32) then
  (some ((-2000000001 : Int32), σ))
  else
  (m_X9_order_32 N v1 v2 v3 σ))
  else
  (m_X9_order_32 N v1 v2 v3 σ)))
def m_X9_give (N : Nat) (σ : zS) (v1 : Int32) : Option zS :=
  (zwA 6 18 σ (σ.1 3) v1).bind fun σ1 =>
  (some (zsI σ1 3 ((σ1.1 3) + (1 : Int32)))).bind fun σ2 =>
  some σ2
def m_X9_givePaths_63 (N : Nat) (v1 : Int32) (σ7 : zS) (v3_7 : Int32) : Option zS :=
  if v3_7 = (0 : Int32) then
  (some σ7)
  else
  ((m_X9_give N σ7 v1).bind fun σ9 =>
  some σ9)
def m_X9_givePaths_35 (N : Nat) (v1 : Int32) (σ4 : zS) (v2_4 : Int32) (v3_4 : Int32) : Option zS :=
  (m_X9_give N σ4 ((v1 / (10000 : Int32)) * (10000 : Int32))).bind fun σ5 =>
  if v2_4 = (0 : Int32) then
  (m_X9_givePaths_63 N v1 σ5 v3_4)
  else
  ((m_X9_give N σ5 ((v1 / (100 : Int32)) * (100 : Int32))).bind fun σ10 =>
  m_X9_givePaths_63 N v1 σ10 v3_4)
def m_X9_givePaths (N : Nat) (σ : zS) (v1 : Int32) : Option zS :=
  (m_X9_within N σ v1 (10000 : Int32) (999999 : Int32)).bind fun b1 =>
  if b1 = (0 : Int32) then
  (some σ)
  else
  (if ((v1 / (100 : Int32)) - (v1 / (100 : Int32)) / (100 : Int32) * (100 : Int32)) = (0 : Int32) then
  (if (v1 - v1 / (100 : Int32) * (100 : Int32)) = (0 : Int32) then
  (m_X9_givePaths_35 N v1 σ ((v1 / (100 : Int32)) - (v1 / (100 : Int32)) / (100 : Int32) * (100 : Int32)) (v1 - v1 / (100 : Int32) * (100 : Int32)))
  else
  (some σ))
  else
  (m_X9_givePaths_35 N v1 σ ((v1 / (100 : Int32)) - (v1 / (100 : Int32)) / (100 : Int32) * (100 : Int32)) (v1 - v1 / (100 : Int32) * (100 : Int32))))
def m_X9_isLeap (N : Nat) (σ : zS) (v0 : Int32) : Option Int32 :=
  if (v0 - v0 / (4 : Int32) * (4 : Int32)) = (0 : Int32) then
  (if (v0 - v0 / (100 : Int32) * (100 : Int32)) = (0 : Int32) then
  (if (v0 - v0 / (400 : Int32) * (400 : Int32)) = (0 : Int32) then
  (some (1 : Int32))
  else
  (some (0 : Int32)))
  else
  (some (1 : Int32)))
  else
  (some (0 : Int32))
def m_X9_daysOf (N : Nat) (σ : zS) (v0 : Int32) (v1 : Int32) : Option Int32 :=
  if v1 = (2 : Int32) then
  ((m_X9_isLeap N σ v0).bind fun b6 =>
  if b6 = (0 : Int32) then
  (some (28 : Int32))
  else
  (some (29 : Int32)))
  else
  (if v1 = (4 : Int32) then
  (some (30 : Int32))
  else
  (if v1 = (6 : Int32) then
  (some (30 : Int32))
  else
  (if v1 = (9 : Int32) then
  (some (30 : Int32))
  else
  (if v1 = (11 : Int32) then
  (some (30 : Int32))
  else
  (some (31 : Int32))))))
def m_X9_behind_30_in6 (N : Nat) (σ : zS) (v0 : Int32) (v1 : Int32) (v3_5 : Int32) (x0_5 : Int32) (x1_5 : Int32) : Option ((Int32 × Int32) ⊕ (Int32 × Int32)) :=
  some (.inl ((x0_5 + x1_5), v3_5))
def m_X9_behind_L6 (N : Nat) (σ : zS) (v0 : Int32) (v1 : Int32) (v2_1 : Int32) (v3_1 : Int32) : Option ((Int32 × Int32) ⊕ (Int32 × Int32)) :=
  if (0 : Int32) ≤ v2_1 then
  (some (.inr (v2_1, v3_1)))
  else
  ((m_X9_isLeap N σ (v3_1 + (-1 : Int32))).bind fun b3 =>
  if b3 = (0 : Int32) then
  (m_X9_behind_30_in6 N σ v0 v1 (v3_1 + (-1 : Int32)) v2_1 (365 : Int32))
  else
  (m_X9_behind_30_in6 N σ v0 v1 (v3_1 + (-1 : Int32)) v2_1 (366 : Int32)))
def m_X9_behind_72_in35 (N : Nat) (σ : zS) (v0 : Int32) (v1 : Int32) (v3_15 : Int32) (x0_15 : Int32) (x1_15 : Int32) : Option ((Int32 × Int32) ⊕ (Int32 × Int32)) :=
  some (.inl ((x0_15 - x1_15), (v3_15 + (1 : Int32))))
def m_X9_behind_52_in35 (N : Nat) (σ : zS) (v0 : Int32) (v1 : Int32) (v2_11 : Int32) (v3_11 : Int32) (x0_11 : Int32) (x1_11 : Int32) : Option ((Int32 × Int32) ⊕ (Int32 × Int32)) :=
  if x0_11 < x1_11 then
  (some (.inr (v2_11, v3_11)))
  else
  ((m_X9_isLeap N σ v3_11).bind fun b13 =>
  if b13 = (0 : Int32) then
  (m_X9_behind_72_in35 N σ v0 v1 v3_11 v2_11 (365 : Int32))
  else
  (m_X9_behind_72_in35 N σ v0 v1 v3_11 v2_11 (366 : Int32)))
def m_X9_behind_L35 (N : Nat) (σ : zS) (v0 : Int32) (v1 : Int32) (v2_8 : Int32) (v3_8 : Int32) : Option ((Int32 × Int32) ⊕ (Int32 × Int32)) :=
  (m_X9_isLeap N σ v3_8).bind fun b9 =>
  if b9 = (0 : Int32) then
  (m_X9_behind_52_in35 N σ v0 v1 v2_8 v3_8 v2_8 (365 : Int32))
  else
  (m_X9_behind_52_in35 N σ v0 v1 v2_8 v3_8 v2_8 (366 : Int32))
def m_X9_behind_135_in89 (N : Nat) (σ : zS) (v0 : Int32) (v1 : Int32) (v2_19 : Int32) (v3_19 : Int32) (v4_25 : Int32) (v5_25 : Int32) (x0_25 : Int32) : Option ((Int32 × Int32 × Int32) ⊕ (Int32 × Int32)) :=
  some (.inl (v4_25, (v5_25 + (1 : Int32)), x0_25))
def m_X9_behind_L89 (N : Nat) (σ : zS) (v0 : Int32) (v1 : Int32) (v2_19 : Int32) (v3_19 : Int32) (v4_19 : Int32) (v5_19 : Int32) (v6_19 : Int32) : Option ((Int32 × Int32 × Int32) ⊕ (Int32 × Int32)) :=
  (m_X9_daysOf N σ v3_19 v5_19).bind fun b20 =>
  if v4_19 < b20 then
  (some (.inr (v4_19, v6_19)))
  else
  ((m_X9_daysOf N σ v3_19 v5_19).bind fun b22 =>
  (m_X9_daysOf N σ v3_19 v5_19).bind fun b23 =>
  if (v5_19 - v5_19 / (3 : Int32) * (3 : Int32)) = (0 : Int32) then
  (m_X9_behind_135_in89 N σ v0 v1 v2_19 v3_19 (v4_19 - b22) v5_19 (0 : Int32))
  else
  (m_X9_behind_135_in89 N σ v0 v1 v2_19 v3_19 (v4_19 - b22) v5_19 (v6_19 + b23)))
def m_X9_behind_143 (N : Nat) (σ : zS) (v0 : Int32) (v1 : Int32) (v2_28 : Int32) (v4_28 : Int32) (v6_28 : Int32) : Option Int32 :=
  if v1 = (2 : Int32) then
  (some v4_28)
  else
  (if v1 = (3 : Int32) then
  (some (v4_28 + v6_28))
  else
  (some v2_28))
def m_X9_behind_80 (N : Nat) (σ : zS) (v0 : Int32) (v1 : Int32) (v2_18 : Int32) (v3_18 : Int32) : Option Int32 :=
  (ziter (fun q : Int32 × Int32 × Int32 => m_X9_behind_L89 N σ v0 v1 v2_18 v3_18 q.1 q.2.1 q.2.2) N (v2_18, (1 : Int32), (0 : Int32))).bind (fun y : Int32 × Int32 => m_X9_behind_143 N σ v0 v1 v2_18 y.1 y.2)
def m_X9_behind (N : Nat) (σ : zS) (v0 : Int32) (v1 : Int32) : Option Int32 :=
  (ziter (fun q : Int32 × Int32 => m_X9_behind_L6 N σ v0 v1 q.1 q.2) N (v0, (1970 : Int32))).bind (fun y : Int32 × Int32 => (ziter (fun q : Int32 × Int32 => m_X9_behind_L35 N σ v0 v1 q.1 q.2) N (y.1, y.2)).bind (fun y : Int32 × Int32 => m_X9_behind_80 N σ v0 v1 y.1 y.2))
def m_X9_modulo (N : Nat) (σ : zS) (v0 : Int32) (v1 : Int32) : Option Int32 :=
  (zrm v0 v1).bind fun b1 =>
  if (0 : Int32) ≤ b1 then
  (some b1)
  else
  (some (b1 + v1))
def m_X9_giveDays (N : Nat) (σ : zS) (v1 : Int32) (v2 : Int32) : Option zS :=
  (m_X9_within N σ v1 (-1000000 : Int32) (1000000 : Int32)).bind fun b1 =>
  if b1 = (0 : Int32) then
  (some σ)
  else
  (if v2 = (0 : Int32) then
  ((m_X9_give N σ v1).bind fun σ9 =>
  some σ9)
  else
  (if v2 = (1 : Int32) then
  ((m_X9_modulo N σ (v1 + (3 : Int32)) (7 : Int32)).bind fun b7 =>
  (m_X9_give N σ (v1 - b7)).bind fun σ8 =>
  some σ8)
  else
  ((m_X9_behind N σ v1 v2).bind fun b5 =>
  (m_X9_give N σ (v1 - b5)).bind fun σ6 =>
  some σ6)))
def m_X9_giveKeys_102_in58 (N : Nat) (v1 : Int32) (v2 : Int32) (σ15 : zS) (v3_15 : Int32) : Option ((zS × Int32) ⊕ (zS)) :=
  some (.inl (σ15, (v3_15 + (1 : Int32))))
def m_X9_giveKeys_L58 (N : Nat) (v1 : Int32) (v2 : Int32) (σ8 : zS) (v3_8 : Int32) : Option ((zS × Int32) ⊕ (zS)) :=
  (zrd 10 (σ8.2.1 7) v1).bind fun b9 =>
  if b9 ≤ v3_8 then
  (some (.inr σ8))
  else
  ((zrd 60 (σ8.2.1 8) (((6 : Int32) * v1) + v3_8)).bind fun b11 =>
  (zrd 60 (σ8.2.1 9) (((6 : Int32) * v1) + v3_8)).bind fun b12 =>
  (m_X9_within N σ8 v2 b11 b12).bind fun b13 =>
  if b13 = (0 : Int32) then
  (m_X9_giveKeys_102_in58 N v1 v2 σ8 v3_8)
  else
  ((m_X9_give N σ8 v3_8).bind fun σ16 =>
  m_X9_giveKeys_102_in58 N v1 v2 σ16 v3_8))
def m_X9_giveKeys_108 (N : Nat) (v1 : Int32) (v2 : Int32) (σ19 : zS) : Option zS :=
  some σ19
def m_X9_giveKeys (N : Nat) (σ : zS) (v1 : Int32) (v2 : Int32) : Option zS :=
  (some (zsI σ 3 (0 : Int32))).bind fun σ1 =>
  (zrd 10 (σ1.2.1 3) v1).bind fun b2 =>
  if b2 = (0 : Int32) then
  ((m_X9_give N σ1 v2).bind fun σ4 =>
  some σ4)
  else
  if b2 = (1 : Int32) then
  ((m_X9_givePaths N σ1 v2).bind fun σ6 =>
  some σ6)
  else
  if b2 = (2 : Int32) then
  ((ziter (fun q : zS × Int32 => m_X9_giveKeys_L58 N v1 v2 q.1 q.2) N (σ1, (0 : Int32))).bind (fun y : zS => m_X9_giveKeys_108 N v1 v2 y))
  else
  if b2 = (3 : Int32) then
  ((zrd 10 (σ1.2.1 6) v1).bind fun b22 =>
  (zrd 10 (σ1.2.1 5) v1).bind fun b23 =>
  (m_X9_modulo N σ1 (v2 - b22) b23).bind fun b24 =>
  (m_X9_give N σ1 (v2 - b24)).bind fun σ25 =>
  some σ25)
  else
  ((zrd 10 (σ1.2.1 5) v1).bind fun b26 =>
  (m_X9_giveDays N σ1 v2 b26).bind fun σ27 =>
  some σ27)
def m_X9_atHand (N : Nat) (σ : zS) (v1 : Int32) : Option Int32 :=
  if (σ.1 2) = (0 : Int32) then
  ((zrd 120 (σ.2.1 2) v1).bind fun b4 =>
  (zcz b4).bind fun b5 =>
  some b5)
  else
  ((zrd 840 (σ.2.1 17) (((120 : Int32) * ((σ.1 2) - (1 : Int32))) + v1)).bind fun b2 =>
  (zcz b2).bind fun b3 =>
  some b3)
def m_X9_counts_L51 (N : Nat) (σ : zS) (v1 : Int32) (v2 : Int32) (v4_9 : Int32) (v3_9 : Int32) (v5_9 : Int32) : Option ((Int32 × Int32) ⊕ (Int32)) :=
  (zrd 720 (σ.2.1 0) v4_9).bind fun b10 =>
  if b10 ≤ v5_9 then
  (some (.inr v3_9))
  else
  (if v3_9 = (0 : Int32) then
  ((zrd 2160 (σ.2.1 1) (((3 : Int32) * v4_9) + v5_9)).bind fun b13 =>
  (zrd 10 (σ.2.1 11) v1).bind fun b14 =>
  (zrd 10 (σ.2.1 12) v1).bind fun b15 =>
  (m_X9_within N σ b13 b14 b15).bind fun b16 =>
  some (.inl (b16, (v5_9 + (1 : Int32)))))
  else
  (some (.inr v3_9)))
def m_X9_counts_101 (N : Nat) (σ : zS) (v1 : Int32) (v2 : Int32) (v3_19 : Int32) : Option Int32 :=
  (zcz v3_19).bind fun b20 =>
  some b20
def m_X9_counts_45 (N : Nat) (σ : zS) (v1 : Int32) (v2 : Int32) (v3_8 : Int32) (x0_8 : Int32) (x1_8 : Int32) : Option Int32 :=
  (ziter (fun q : Int32 × Int32 => m_X9_counts_L51 N σ v1 v2 (x0_8 + x1_8) q.1 q.2) N (v3_8, (0 : Int32))).bind (fun y : Int32 => m_X9_counts_101 N σ v1 v2 y)
def m_X9_counts_26 (N : Nat) (σ : zS) (v1 : Int32) (v2 : Int32) (x0_5 : Int32) : Option Int32 :=
  if x0_5 = (0 : Int32) then
  ((zrd 10 (σ.2.1 10) v1).bind fun b7 =>
  m_X9_counts_45 N σ v1 v2 x0_5 ((6 : Int32) * v2) b7)
  else
  (m_X9_counts_45 N σ v1 v2 x0_5 ((6 : Int32) * v2) (0 : Int32))
def m_X9_counts (N : Nat) (σ : zS) (v1 : Int32) (v2 : Int32) : Option Int32 :=
  (m_X9_atHand N σ v2).bind fun b1 =>
  if b1 = (0 : Int32) then
  (some (0 : Int32))
  else
  ((zrd 10 (σ.2.1 10) v1).bind fun b3 =>
  if b3 = (-2000000000 : Int32) then
  (m_X9_counts_26 N σ v1 v2 (1 : Int32))
  else
  (m_X9_counts_26 N σ v1 v2 (0 : Int32)))
def m_X9_findKeysOf_L52 (N : Nat) (v1 : Int32) (v2 : Int32) (v3_3 : Int32) (v4_8 : Int32) (σ8 : zS) (v5_8 : Int32) : Option ((zS × Int32) ⊕ (zS)) :=
  if (σ8.1 3) ≤ v5_8 then
  (some (.inr σ8))
  else
  ((zrd 120 (σ8.2.1 21) v2).bind fun b10 =>
  (zrd 6 (σ8.2.1 18) v5_8).bind fun b11 =>
  (zwA 2160 22 σ8 (((18 : Int32) * v2) + b10) b11).bind fun σ12 =>
  (zrd 120 (σ12.2.1 21) v2).bind fun b13 =>
  (zwA 120 21 σ12 v2 (b13 + (1 : Int32))).bind fun σ14 =>
  some (.inl (σ14, (v5_8 + (1 : Int32)))))
def m_X9_findKeysOf_100_in22 (N : Nat) (v1 : Int32) (v2 : Int32) (v3_3 : Int32) (σ17 : zS) (v4_17 : Int32) : Option ((zS × Int32) ⊕ (zS)) :=
  some (.inl (σ17, (v4_17 + (1 : Int32))))
def m_X9_findKeysOf_L22 (N : Nat) (v1 : Int32) (v2 : Int32) (v3_3 : Int32) (σ3 : zS) (v4_3 : Int32) : Option ((zS × Int32) ⊕ (zS)) :=
  (zrd 720 (σ3.2.1 0) v3_3).bind fun b4 =>
  if b4 ≤ v4_3 then
  (some (.inr σ3))
  else
  ((zrd 2160 (σ3.2.1 1) (((3 : Int32) * v3_3) + v4_3)).bind fun b6 =>
  (m_X9_giveKeys N σ3 v1 b6).bind fun σ7 =>
  (ziter (fun q : zS × Int32 => m_X9_findKeysOf_L52 N v1 v2 v3_3 v4_3 q.1 q.2) N (σ7, (0 : Int32))).bind (fun y : zS => m_X9_findKeysOf_100_in22 N v1 v2 v3_3 y v4_3))
def m_X9_findKeysOf_106 (N : Nat) (v1 : Int32) (v2 : Int32) (σ21 : zS) : Option zS :=
  some σ21
def m_X9_findKeysOf (N : Nat) (σ : zS) (v1 : Int32) (v2 : Int32) : Option zS :=
  (zrd 10 (σ.2.1 4) v1).bind fun b1 =>
  (zwA 120 21 σ v2 (0 : Int32)).bind fun σ2 =>
  (ziter (fun q : zS × Int32 => m_X9_findKeysOf_L22 N v1 v2 (((6 : Int32) * v2) + b1) q.1 q.2) N (σ2, (0 : Int32))).bind (fun y : zS => m_X9_findKeysOf_106 N v1 v2 y)
def m_X9_hasKey_41_in5 (N : Nat) (σ : zS) (v1 : Int32) (v2 : Int32) (v4_6 : Int32) (x0_6 : Int32) : Option ((Int32 × Int32) ⊕ (Int32)) :=
  some (.inl (x0_6, (v4_6 + (1 : Int32))))
def m_X9_hasKey_36_in5 (N : Nat) (σ : zS) (v1 : Int32) (v2 : Int32) (v4_5 : Int32) : Option ((Int32 × Int32) ⊕ (Int32)) :=
  m_X9_hasKey_41_in5 N σ v1 v2 v4_5 (1 : Int32)
def m_X9_hasKey_L5 (N : Nat) (σ : zS) (v1 : Int32) (v2 : Int32) (v3_1 : Int32) (v4_1 : Int32) : Option ((Int32 × Int32) ⊕ (Int32)) :=
  (zrd 120 (σ.2.1 21) v1).bind fun b2 =>
  if b2 ≤ v4_1 then
  (some (.inr v3_1))
  else
  (if v3_1 = (0 : Int32) then
  ((zrd 2160 (σ.2.1 22) (((18 : Int32) * v1) + v4_1)).bind fun b7 =>
  if b7 = v2 then
  (m_X9_hasKey_36_in5 N σ v1 v2 v4_1)
  else
  (m_X9_hasKey_41_in5 N σ v1 v2 v4_1 (0 : Int32)))
  else
  (m_X9_hasKey_36_in5 N σ v1 v2 v4_1))
def m_X9_hasKey_48 (N : Nat) (σ : zS) (v1 : Int32) (v2 : Int32) (v3_11 : Int32) : Option Int32 :=
  (zcz v3_11).bind fun b12 =>
  some b12
def m_X9_hasKey (N : Nat) (σ : zS) (v1 : Int32) (v2 : Int32) : Option Int32 :=
  (ziter (fun q : Int32 × Int32 => m_X9_hasKey_L5 N σ v1 v2 q.1 q.2) N ((0 : Int32), (0 : Int32))).bind (fun y : Int32 => m_X9_hasKey_48 N σ v1 v2 y)
def m_X9_sumOf_L5 (N : Nat) (σ : zS) (v1 : Int32) (v2 : Int32) (v3_1 : Int64) (v5_1 : Int32) : Option ((Int64 × Int32) ⊕ (Int64)) :=
  (zrd 720 (σ.2.1 0) (((6 : Int32) * v1) + v2)).bind fun b2 =>
  if b2 ≤ v5_1 then
  (some (.inr v3_1))
  else
  ((zrd 2160 (σ.2.1 1) (((3 : Int32) * (((6 : Int32) * v1) + v2)) + v5_1)).bind fun b4 =>
  some (.inl ((v3_1 + b4.toInt64), (v5_1 + (1 : Int32)))))
def m_X9_sumOf_47 (N : Nat) (σ : zS) (v1 : Int32) (v2 : Int32) (v3_7 : Int64) : Option Int64 :=
  some v3_7
def m_X9_sumOf (N : Nat) (σ : zS) (v1 : Int32) (v2 : Int32) : Option Int64 :=
  (ziter (fun q : Int64 × Int32 => m_X9_sumOf_L5 N σ v1 v2 q.1 q.2) N ((0 : Int64), (0 : Int32))).bind (fun y : Int64 => m_X9_sumOf_47 N σ v1 v2 y)
def m_X9_isNew_31_in4 (N : Nat) (σ : zS) (v1 : Int32) (v3_5 : Int32) (x0_5 : Int32) : Option ((Int32 × Int32) ⊕ (Int32)) :=
  some (.inl (x0_5, (v3_5 + (1 : Int32))))
def m_X9_isNew_30_in4 (N : Nat) (σ : zS) (v1 : Int32) (v3_4 : Int32) : Option ((Int32 × Int32) ⊕ (Int32)) :=
  m_X9_isNew_31_in4 N σ v1 v3_4 (0 : Int32)
def m_X9_isNew_L4 (N : Nat) (σ : zS) (v1 : Int32) (v2_1 : Int32) (v3_1 : Int32) : Option ((Int32 × Int32) ⊕ (Int32)) :=
  if (σ.1 4) ≤ v3_1 then
  (some (.inr v2_1))
  else
  (if v2_1 = (0 : Int32) then
  (m_X9_isNew_30_in4 N σ v1 v3_1)
  else
  ((zrd 1100 (σ.2.1 19) v3_1).bind fun b6 =>
  if b6 = v1 then
  (m_X9_isNew_30_in4 N σ v1 v3_1)
  else
  (m_X9_isNew_31_in4 N σ v1 v3_1 (1 : Int32))))
def m_X9_isNew_38 (N : Nat) (σ : zS) (v1 : Int32) (v2_10 : Int32) : Option Int32 :=
  (zcz v2_10).bind fun b11 =>
  some b11
def m_X9_isNew (N : Nat) (σ : zS) (v1 : Int32) : Option Int32 :=
  (ziter (fun q : Int32 × Int32 => m_X9_isNew_L4 N σ v1 q.1 q.2) N ((1 : Int32), (0 : Int32))).bind (fun y : Int32 => m_X9_isNew_38 N σ v1 y)
def m_X9_findKeys_L7 (N : Nat) (v1 : Int32) (σ2 : zS) (v2_2 : Int32) : Option ((zS × Int32) ⊕ (zS)) :=
  (zrd 10 (σ2.2.1 7) v1).bind fun b3 =>
  if b3 ≤ v2_2 then
  (some (.inr σ2))
  else
  ((zwA 1100 19 σ2 (σ2.1 4) v2_2).bind fun σ5 =>
  (some (zsI σ5 4 ((σ5.1 4) + (1 : Int32)))).bind fun σ6 =>
  some (.inl (σ6, (v2_2 + (1 : Int32)))))
def m_X9_findKeys_134_in69 (N : Nat) (v1 : Int32) (v2_14 : Int32) (v3_14 : Int32) (σ21 : zS) (v4_21 : Int32) : Option ((zS × Int32) ⊕ (zS)) :=
  some (.inl (σ21, (v4_21 + (1 : Int32))))
def m_X9_findKeys_L69 (N : Nat) (v1 : Int32) (v2_14 : Int32) (v3_14 : Int32) (σ14 : zS) (v4_14 : Int32) : Option ((zS × Int32) ⊕ (zS)) :=
  (zrd 120 (σ14.2.1 21) v2_14).bind fun b15 =>
  if b15 ≤ v4_14 then
  (some (.inr σ14))
  else
  (if v3_14 = (0 : Int32) then
  (some (.inr σ14))
  else
  ((zrd 2160 (σ14.2.1 22) (((18 : Int32) * v2_14) + v4_14)).bind fun b18 =>
  (m_X9_isNew N σ14 b18).bind fun b19 =>
  if b19 = (0 : Int32) then
  (m_X9_findKeys_134_in69 N v1 v2_14 v3_14 σ14 v4_14)
  else
  ((zrd 2160 (σ14.2.1 22) (((18 : Int32) * v2_14) + v4_14)).bind fun b22 =>
  (zwA 1100 19 σ14 (σ14.1 4) b22).bind fun σ23 =>
  (some (zsI σ23 4 ((σ23.1 4) + (1 : Int32)))).bind fun σ24 =>
  m_X9_findKeys_134_in69 N v1 v2_14 v3_14 σ24 v4_14)))
def m_X9_findKeys_140_in45 (N : Nat) (v1 : Int32) (σ27 : zS) (v2_27 : Int32) : Option ((zS × Int32) ⊕ (zS)) :=
  some (.inl (σ27, (v2_27 + (1 : Int32))))
def m_X9_findKeys_L45 (N : Nat) (v1 : Int32) (σ10 : zS) (v2_10 : Int32) : Option ((zS × Int32) ⊕ (zS)) :=
  if (σ10.1 0) ≤ v2_10 then
  (some (.inr σ10))
  else
  ((m_X9_findKeysOf N σ10 v1 v2_10).bind fun σ12 =>
  (m_X9_counts N σ12 v1 v2_10).bind fun b13 =>
  (ziter (fun q : zS × Int32 => m_X9_findKeys_L69 N v1 v2_10 b13 q.1 q.2) N (σ12, (0 : Int32))).bind (fun y : zS => m_X9_findKeys_140_in45 N v1 y v2_10))
def m_X9_findKeys_146 (N : Nat) (v1 : Int32) (σ31 : zS) : Option zS :=
  some σ31
def m_X9_findKeys_43 (N : Nat) (v1 : Int32) (σ9 : zS) : Option zS :=
  (ziter (fun q : zS × Int32 => m_X9_findKeys_L45 N v1 q.1 q.2) N (σ9, (0 : Int32))).bind (fun y : zS => m_X9_findKeys_146 N v1 y)
def m_X9_findKeys (N : Nat) (σ : zS) (v1 : Int32) : Option zS :=
  (some (zsI σ 4 (0 : Int32))).bind fun σ1 =>
  (ziter (fun q : zS × Int32 => m_X9_findKeys_L7 N v1 q.1 q.2) N (σ1, (0 : Int32))).bind (fun y : zS => m_X9_findKeys_43 N v1 y)
def m_X9_isIn_22 (N : Nat) (σ : zS) (v1 : Int32) (v2 : Int32) (v3 : Int32) (x0_3 : Int32) : Option Int32 :=
  (m_X9_counts N σ v1 v3).bind fun b4 =>
  if b4 = (0 : Int32) then
  (some (0 : Int32))
  else
  (if x0_3 = (0 : Int32) then
  ((zrd 1100 (σ.2.1 19) v2).bind fun b7 =>
  (m_X9_hasKey N σ v3 b7).bind fun b8 =>
  if b8 = (0 : Int32) then
  (some (0 : Int32))
  else
  (some (1 : Int32)))
  else
  ((zrd 120 (σ.2.1 21) v3).bind fun b10 =>
  if b10 = (0 : Int32) then
  (some (1 : Int32))
  else
  (some (0 : Int32))))
def m_X9_isIn_21 (N : Nat) (σ : zS) (v1 : Int32) (v2 : Int32) (v3 : Int32)  : Option Int32 :=
  m_X9_isIn_22 N σ v1 v2 v3 (0 : Int32)
def m_X9_isIn (N : Nat) (σ : zS) (v1 : Int32) (v2 : Int32) (v3 : Int32) : Option Int32 :=
  if (σ.1 5) = (0 : Int32) then
  (m_X9_isIn_21 N σ v1 v2 v3)
  else
  (if v2 = ((σ.1 4) - (1 : Int32)) then
  (m_X9_isIn_22 N σ v1 v2 v3 (1 : Int32))
  else
  (m_X9_isIn_21 N σ v1 v2 v3))
def m_X9_measure_78_in16 (N : Nat) (v1 : Int32) (v2 : Int32) (σ7 : zS) (v3_7 : Int32) : Option ((zS × Int32) ⊕ (zS)) :=
  some (.inl (σ7, (v3_7 + (1 : Int32))))
def m_X9_measure_76_in16 (N : Nat) (v1 : Int32) (v2 : Int32) (σ13 : zS) (v3_13 : Int32) (x1_13 : Int32) (x2_13 : Int64) (x3_13 : Int64) : Option ((zS × Int32) ⊕ (zS)) :=
  (zwL 1100 0 σ13 x1_13 (x2_13 + x3_13)).bind fun σ14 =>
  m_X9_measure_78_in16 N v1 v2 σ14 v3_13
def m_X9_measure_L16 (N : Nat) (v1 : Int32) (v2 : Int32) (σ3 : zS) (v3_3 : Int32) : Option ((zS × Int32) ⊕ (zS)) :=
  if (σ3.1 0) ≤ v3_3 then
  (some (.inr σ3))
  else
  ((m_X9_isIn N σ3 v1 v2 v3_3).bind fun b5 =>
  if b5 = (0 : Int32) then
  (m_X9_measure_78_in16 N v1 v2 σ3 v3_3)
  else
  ((zrd 1100 (σ3.2.1 20) v2).bind fun b8 =>
  (zwA 1100 20 σ3 v2 (b8 + (1 : Int32))).bind fun σ9 =>
  (zrd 1100 (σ9.2.2 0) v2).bind fun b10 =>
  (zrd 10 (σ9.2.1 15) v1).bind fun b11 =>
  if b11 = (2 : Int32) then
  ((zrd 10 (σ9.2.1 16) v1).bind fun b15 =>
  (m_X9_sumOf N σ9 v3_3 b15).bind fun b16 =>
  m_X9_measure_76_in16 N v1 v2 σ9 v3_3 v2 b10 b16)
  else
  (m_X9_measure_76_in16 N v1 v2 σ9 v3_3 v2 b10 (0 : Int64))))
def m_X9_measure_84 (N : Nat) (v1 : Int32) (v2 : Int32) (σ19 : zS) : Option zS :=
  some σ19
def m_X9_measure (N : Nat) (σ : zS) (v1 : Int32) (v2 : Int32) : Option zS :=
  (zwA 1100 20 σ v2 (0 : Int32)).bind fun σ1 =>
  (zwL 1100 0 σ1 v2 (0 : Int64)).bind fun σ2 =>
  (ziter (fun q : zS × Int32 => m_X9_measure_L16 N v1 v2 q.1 q.2) N (σ2, (0 : Int32))).bind (fun y : zS => m_X9_measure_84 N v1 v2 y)
def m_X9_isBefore_93 (N : Nat) (σ : zS) (v1 : Int32) (v2 : Int32) (v3 : Int32)  : Option Int32 :=
  (zrd 1100 (σ.2.1 19) v2).bind fun b7 =>
  (zrd 1100 (σ.2.1 19) v3).bind fun b8 =>
  if b8 ≤ b7 then
  (some (0 : Int32))
  else
  (some (1 : Int32))
def m_X9_isBefore_45 (N : Nat) (σ : zS) (v1 : Int32) (v2 : Int32) (v3 : Int32)  : Option Int32 :=
  (zrd 10 (σ.2.1 15) v1).bind fun b4 =>
  if b4 = (2 : Int32) then
  ((zrd 1100 (σ.2.2 0) v2).bind fun b10 =>
  (zrd 1100 (σ.2.2 0) v3).bind fun b11 =>
  if (lg_cmp b10 b11) = (0 : Int32) then
  (m_X9_isBefore_93 N σ v1 v2 v3)
  else
  ((zrd 1100 (σ.2.2 0) v2).bind fun b13 =>
  (zrd 1100 (σ.2.2 0) v3).bind fun b14 =>
  if (lg_cmp b13 b14) ≤ (0 : Int32) then
  (some (0 : Int32))
  else
  (some (1 : Int32))))
  else
  (m_X9_isBefore_93 N σ v1 v2 v3)
def m_X9_isBefore (N : Nat) (σ : zS) (v1 : Int32) (v2 : Int32) (v3 : Int32) : Option Int32 :=
  (zrd 10 (σ.2.1 15) v1).bind fun b1 =>
  if b1 = (0 : Int32) then
  ((zrd 1100 (σ.2.1 20) v2).bind fun b16 =>
  (zrd 1100 (σ.2.1 20) v3).bind fun b17 =>
  if b16 = b17 then
  (m_X9_isBefore_45 N σ v1 v2 v3)
  else
  ((zrd 1100 (σ.2.1 20) v2).bind fun b19 =>
  (zrd 1100 (σ.2.1 20) v3).bind fun b20 =>
  if b19 ≤ b20 then
  (some (0 : Int32))
  else
  (some (1 : Int32))))
  else
  (m_X9_isBefore_45 N σ v1 v2 v3)
def m_X9_move (N : Nat) (σ : zS) (v1 : Int32) (v2 : Int32) : Option zS :=
  (zrd 1100 (σ.2.1 19) v1).bind fun b1 =>
  (zwA 1100 19 σ v2 b1).bind fun σ2 =>
  (zrd 1100 (σ2.2.1 20) v1).bind fun b3 =>
  (zwA 1100 20 σ2 v2 b3).bind fun σ4 =>
  (zrd 1100 (σ4.2.2 0) v1).bind fun b5 =>
  (zwL 1100 0 σ4 v2 b5).bind fun σ6 =>
  some σ6
def m_X9_findGroups_109_in20 (N : Nat) (v1 : Int32) (v2_3 : Int32) (σ9 : zS) (v3_9 : Int32) (v4_9 : Int32) : Option ((zS × Int32 × Int32) ⊕ (zS × Int32)) :=
  some (.inl (σ9, v3_9, (v4_9 + (1 : Int32))))
def m_X9_findGroups_L61 (N : Nat) (v1 : Int32) (v2_3 : Int32) (v3_11 : Int32) (v4_11 : Int32) (σ11 : zS) (v5_11 : Int32) : Option ((zS × Int32) ⊕ (zS × Int32)) :=
  if v5_11 ≤ (0 : Int32) then
  (some (.inr (σ11, v5_11)))
  else
  ((m_X9_isBefore N σ11 v1 (1099 : Int32) (v5_11 - (1 : Int32))).bind fun b13 =>
  if b13 = (0 : Int32) then
  (some (.inr (σ11, v5_11)))
  else
  ((m_X9_move N σ11 (v5_11 - (1 : Int32)) v5_11).bind fun σ15 =>
  some (.inl (σ15, (v5_11 + (-1 : Int32))))))
def m_X9_findGroups_97_in20 (N : Nat) (v1 : Int32) (v2_3 : Int32) (σ18 : zS) (v3_18 : Int32) (v4_18 : Int32) (v5_18 : Int32) : Option ((zS × Int32 × Int32) ⊕ (zS × Int32)) :=
  (m_X9_move N σ18 (1099 : Int32) v5_18).bind fun σ19 =>
  m_X9_findGroups_109_in20 N v1 v2_3 σ19 (v3_18 + (1 : Int32)) v4_18
def m_X9_findGroups_L20 (N : Nat) (v1 : Int32) (v2_3 : Int32) (σ3 : zS) (v3_3 : Int32) (v4_3 : Int32) : Option ((zS × Int32 × Int32) ⊕ (zS × Int32)) :=
  if v2_3 ≤ v4_3 then
  (some (.inr (σ3, v3_3)))
  else
  ((m_X9_measure N σ3 v1 v4_3).bind fun σ5 =>
  (zrd 1100 (σ5.2.1 20) v4_3).bind fun b6 =>
  (zrd 10 (σ5.2.1 13) v1).bind fun b7 =>
  if b6 < b7 then
  (m_X9_findGroups_109_in20 N v1 v2_3 σ5 v3_3 v4_3)
  else
  ((m_X9_move N σ5 v4_3 (1099 : Int32)).bind fun σ10 =>
  (ziter (fun q : zS × Int32 => m_X9_findGroups_L61 N v1 v2_3 v3_3 v4_3 q.1 q.2) N (σ10, v3_3)).bind (fun y : zS × Int32 => m_X9_findGroups_97_in20 N v1 v2_3 y.1 v3_3 v4_3 y.2)))
def m_X9_findGroups_188 (N : Nat) (v1 : Int32) (σ34 : zS) (v3_34 : Int32) (x1_34 : Int32) : Option zS :=
  (zcz x1_34).bind fun b35 =>
  (some (zsI σ34 5 b35)).bind fun σ36 =>
  if (σ36.1 5) = (0 : Int32) then
  ((some (zsI σ36 4 v3_34)).bind fun σ38 =>
  some σ38)
  else
  ((some (zsI σ36 4 (σ36.1 4))).bind fun σ39 =>
  some σ39)
def m_X9_findGroups_187 (N : Nat) (v1 : Int32) (σ33 : zS) (v3_33 : Int32) : Option zS :=
  m_X9_findGroups_188 N v1 σ33 v3_33 (0 : Int32)
def m_X9_findGroups_115 (N : Nat) (v1 : Int32) (σ23 : zS) (v3_23 : Int32) : Option zS :=
  (some (zsI σ23 4 v3_23)).bind fun σ24 =>
  (zrd 10 (σ24.2.1 14) v1).bind fun b25 =>
  if b25 = (0 : Int32) then
  (some σ24)
  else
  ((some (zsI σ24 5 (1 : Int32))).bind fun σ27 =>
  (some (zsI σ27 4 ((σ27.1 4) + (1 : Int32)))).bind fun σ28 =>
  (zwA 1100 19 σ28 v3_23 (-2000000000 : Int32)).bind fun σ29 =>
  (m_X9_measure N σ29 v1 v3_23).bind fun σ30 =>
  (zrd 1100 (σ30.2.1 20) v3_23).bind fun b31 =>
  if b31 ≤ (0 : Int32) then
  (m_X9_findGroups_187 N v1 σ30 v3_23)
  else
  ((zrd 1100 (σ30.2.1 20) v3_23).bind fun b40 =>
  (zrd 10 (σ30.2.1 13) v1).bind fun b41 =>
  if b40 < b41 then
  (m_X9_findGroups_187 N v1 σ30 v3_23)
  else
  (m_X9_findGroups_188 N v1 σ30 v3_23 (1 : Int32))))
def m_X9_findGroups (N : Nat) (σ : zS) (v1 : Int32) : Option zS :=
  (some (zsI σ 5 (0 : Int32))).bind fun σ1 =>
  (m_X9_findKeys N σ1 v1).bind fun σ2 =>
  (ziter (fun q : zS × Int32 × Int32 => m_X9_findGroups_L20 N v1 (σ2.1 4) q.1 q.2.1 q.2.2) N (σ2, (0 : Int32), (0 : Int32))).bind (fun y : zS × Int32 => m_X9_findGroups_115 N v1 y.1 y.2)
def m_X9_isGroup (N : Nat) (σ : zS) (v1 : Int32) (v2 : Int32) : Option (Int32 × zS) :=
  (m_X9_isFacet N σ v1).bind fun b1 =>
  if b1 = (0 : Int32) then
  (some ((0 : Int32), σ))
  else
  ((m_X9_findGroups N σ v1).bind fun σ3 =>
  (m_X9_within N σ3 v2 (0 : Int32) ((σ3.1 4) - (1 : Int32))).bind fun b4 =>
  (zcz b4).bind fun b5 =>
  some (b5, σ3))
def m_X9_groups (N : Nat) (σ : zS) (v1 : Int32) : Option (Int32 × zS) :=
  (m_X9_isFacet N σ v1).bind fun b1 =>
  if b1 = (0 : Int32) then
  (some ((-2000000001 : Int32), σ))
  else
  ((m_X9_findGroups N σ v1).bind fun σ3 =>
  some ((σ3.1 4), σ3))
def m_X9_group (N : Nat) (σ : zS) (v1 : Int32) (v2 : Int32) (v3 : Int32) : Option (Int32 × zS) :=
  (m_X9_isGroup N σ v1 v2).bind fun p2 =>
  if p2.1 = (0 : Int32) then
  (some ((-2000000001 : Int32), p2.2))
  else
  ((m_X9_within N p2.2 v3 (0 : Int32) (2 : Int32)).bind fun b5 =>
  if b5 = (0 : Int32) then
  (some ((-2000000001 : Int32), p2.2))
  else
  (if v3 = (0 : Int32) then
  ((zrd 1100 (p2.2.2.1 19) v2).bind fun b12 =>
  some (b12, p2.2))
  else
  (if v3 = (1 : Int32) then
  ((zrd 1100 (p2.2.2.1 20) v2).bind fun b11 =>
  some (b11, p2.2))
  else
  (if (p2.2.1 5) = (0 : Int32) then
  (some ((0 : Int32), p2.2))
  else
  (if v2 = ((p2.2.1 4) - (1 : Int32)) then
  (some ((1 : Int32), p2.2))
  else
  (some ((0 : Int32), p2.2)))))))
def m_X9_find_35_in18 (N : Nat) (v1 : Int32) (v2 : Int32) (σ4 : zS) (v3_6 : Int32) (x0_6 : Int32) (x1_6 : Int32) (x2_6 : Int32) : Option ((Int32) ⊕ ((Int32) ⊕ (Unit))) :=
  if (x1_6 - x2_6) ≤ x0_6 then
  (some (.inr (.inr ())))
  else
  ((zrd 1100 (σ4.2.1 19) v3_6).bind fun b8 =>
  if b8 = v2 then
  (some (.inr (.inl v3_6)))
  else
  (some (.inl (v3_6 + (1 : Int32)))))
def m_X9_find_L18 (N : Nat) (v1 : Int32) (v2 : Int32) (σ4 : zS) (v3_4 : Int32) : Option ((Int32) ⊕ ((Int32) ⊕ (Unit))) :=
  if (σ4.1 5) = (0 : Int32) then
  (m_X9_find_35_in18 N v1 v2 σ4 v3_4 v3_4 (σ4.1 4) (0 : Int32))
  else
  (m_X9_find_35_in18 N v1 v2 σ4 v3_4 v3_4 (σ4.1 4) (1 : Int32))
def m_X9_find_49 (N : Nat) (v1 : Int32) (v2 : Int32) (σ12 : zS) (v3_12 : Int32) : Option (Int32 × zS) :=
  some (v3_12, σ12)
def m_X9_find_57 (N : Nat) (v1 : Int32) (v2 : Int32) (σ14 : zS) : Option (Int32 × zS) :=
  some ((-2000000000 : Int32), σ14)
def m_X9_find (N : Nat) (σ : zS) (v1 : Int32) (v2 : Int32) : Option (Int32 × zS) :=
  (m_X9_isFacet N σ v1).bind fun b1 =>
  if b1 = (0 : Int32) then
  (some ((-2000000001 : Int32), σ))
  else
  ((m_X9_findGroups N σ v1).bind fun σ3 =>
  (ziter (fun q : Int32 => m_X9_find_L18 N v1 v2 σ3 q) N (0 : Int32)).bind (Sum.elim (fun y : Int32 => m_X9_find_49 N v1 v2 σ3 y) (fun _ => m_X9_find_57 N v1 v2 σ3)))
def m_X9_in (N : Nat) (σ : zS) (v1 : Int32) (v2 : Int32) (v3 : Int32) : Option (Int32 × zS) :=
  (m_X9_isObject N σ v3).bind fun b1 =>
  if b1 = (0 : Int32) then
  (some ((-2000000001 : Int32), σ))
  else
  ((m_X9_isGroup N σ v1 v2).bind fun p4 =>
  if p4.1 = (0 : Int32) then
  (some ((-2000000001 : Int32), p4.2))
  else
  ((m_X9_isIn N p4.2 v1 v2 v3).bind fun b7 =>
  if b7 = (0 : Int32) then
  (some ((0 : Int32), p4.2))
  else
  (some ((1 : Int32), p4.2))))
def m_X9_hand_26_in4 (N : Nat) (σ : zS) (v2_5 : Int32) (x0_5 : Int32) (x1_5 : Int32) : Option ((Int32 × Int32) ⊕ (Int32)) :=
  some (.inl ((x0_5 + x1_5), (v2_5 + (1 : Int32))))
def m_X9_hand_L4 (N : Nat) (σ : zS) (v1_1 : Int32) (v2_1 : Int32) : Option ((Int32 × Int32) ⊕ (Int32)) :=
  if (σ.1 0) ≤ v2_1 then
  (some (.inr v1_1))
  else
  ((m_X9_atHand N σ v2_1).bind fun b3 =>
  if b3 = (0 : Int32) then
  (m_X9_hand_26_in4 N σ v2_1 v1_1 (0 : Int32))
  else
  (m_X9_hand_26_in4 N σ v2_1 v1_1 (1 : Int32)))
def m_X9_hand_34 (N : Nat) (σ : zS) (v1_8 : Int32) : Option Int32 :=
  some v1_8
def m_X9_hand (N : Nat) (σ : zS)  : Option Int32 :=
  (ziter (fun q : Int32 × Int32 => m_X9_hand_L4 N σ q.1 q.2) N ((0 : Int32), (0 : Int32))).bind (fun y : Int32 => m_X9_hand_34 N σ y)
def m_X9_enter_L26 (N : Nat) (v1 : Int32) (v2 : Int32) (σ6 : zS) (v3_6 : Int32) : Option ((zS × Int32) ⊕ (zS)) :=
  if (σ6.1 0) ≤ v3_6 then
  (some (.inr σ6))
  else
  ((m_X9_isIn N σ6 v1 v2 v3_6).bind fun b8 =>
  (zcz b8).bind fun b9 =>
  (zwA 120 23 σ6 v3_6 b9).bind fun σ10 =>
  some (.inl (σ10, (v3_6 + (1 : Int32)))))
def m_X9_enter_L55 (N : Nat) (v1 : Int32) (v2 : Int32) (σ14 : zS) (v3_14 : Int32) : Option ((zS × Int32) ⊕ (zS)) :=
  if (σ14.1 0) ≤ v3_14 then
  (some (.inr σ14))
  else
  ((zrd 120 (σ14.2.1 23) v3_14).bind fun b16 =>
  (zcz b16).bind fun b17 =>
  (zwA 840 17 σ14 (((120 : Int32) * (σ14.1 2)) + v3_14) b17).bind fun σ18 =>
  some (.inl (σ18, (v3_14 + (1 : Int32)))))
def m_X9_enter_89 (N : Nat) (v1 : Int32) (v2 : Int32) (σ21 : zS) : Option (Int32 × zS) :=
  (some (zsI σ21 2 ((σ21.1 2) + (1 : Int32)))).bind fun σ22 =>
  (m_X9_hand N σ22 ).bind fun b23 =>
  some (b23, σ22)
def m_X9_enter_53 (N : Nat) (v1 : Int32) (v2 : Int32) (σ13 : zS) : Option (Int32 × zS) :=
  (ziter (fun q : zS × Int32 => m_X9_enter_L55 N v1 v2 q.1 q.2) N (σ13, (0 : Int32))).bind (fun y : zS => m_X9_enter_89 N v1 v2 y)
def m_X9_enter (N : Nat) (σ : zS) (v1 : Int32) (v2 : Int32) : Option (Int32 × zS) :=
  (m_X9_isGroup N σ v1 v2).bind fun p2 =>
  if p2.1 = (0 : Int32) then
  (some ((-2000000001 : Int32), p2.2))
  else
  (if (p2.2.1 2) = (6 : Int32) then
  (some ((-2000000003 : Int32), p2.2))
  else
  ((ziter (fun q : zS × Int32 => m_X9_enter_L26 N v1 v2 q.1 q.2) N (p2.2, (0 : Int32))).bind (fun y : zS => m_X9_enter_53 N v1 v2 y)))
def m_X9_leave (N : Nat) (σ : zS)  : Option (Int32 × zS) :=
  if (σ.1 2) = (0 : Int32) then
  (some ((-2000000002 : Int32), σ))
  else
  ((some (zsI σ 2 ((σ.1 2) - (1 : Int32)))).bind fun σ2 =>
  some ((σ2.1 2), σ2))
def m_X9_lay_L5 (N : Nat) (v1 : Int32) (σ1 : zS) (v2_1 : Int32) : Option ((zS × Int32) ⊕ (zS × Int32)) :=
  if v2_1 ≤ (0 : Int32) then
  (some (.inr (σ1, v2_1)))
  else
  ((zrd 360 (σ1.2.1 24) (v2_1 - (1 : Int32))).bind fun b3 =>
  if b3 ≤ v1 then
  (some (.inr (σ1, v2_1)))
  else
  ((zrd 360 (σ1.2.1 24) (v2_1 - (1 : Int32))).bind fun b5 =>
  (zwA 360 24 σ1 v2_1 b5).bind fun σ6 =>
  some (.inl (σ6, (v2_1 + (-1 : Int32))))))
def m_X9_lay_41 (N : Nat) (v1 : Int32) (σ9 : zS) (v2_9 : Int32) : Option zS :=
  (zwA 360 24 σ9 v2_9 v1).bind fun σ10 =>
  (some (zsI σ10 6 ((σ10.1 6) + (1 : Int32)))).bind fun σ11 =>
  some σ11
def m_X9_lay (N : Nat) (σ : zS) (v1 : Int32) : Option zS :=
  (ziter (fun q : zS × Int32 => m_X9_lay_L5 N v1 q.1 q.2) N (σ, (σ.1 6))).bind (fun y : zS × Int32 => m_X9_lay_41 N v1 y.1 y.2)
def m_X9_findRow_L62 (N : Nat) (v1 : Int32) (v2 : Int32) (v3 : Int32) (v4_9 : Int32) (v5_9 : Int32) (σ9 : zS) (v6_9 : Int32) : Option ((zS × Int32) ⊕ (zS)) :=
  (zrd 720 (σ9.2.1 0) (((6 : Int32) * v4_9) + v3)).bind fun b10 =>
  if b10 ≤ v6_9 then
  (some (.inr σ9))
  else
  (if v5_9 = (0 : Int32) then
  (some (.inr σ9))
  else
  ((zrd 2160 (σ9.2.1 1) (((3 : Int32) * (((6 : Int32) * v4_9) + v3)) + v6_9)).bind fun b13 =>
  (m_X9_lay N σ9 b13).bind fun σ14 =>
  some (.inl (σ14, (v6_9 + (1 : Int32))))))
def m_X9_findRow_111_in25 (N : Nat) (v1 : Int32) (v2 : Int32) (v3 : Int32) (σ17 : zS) (v4_17 : Int32) : Option ((zS × Int32) ⊕ (zS)) :=
  some (.inl (σ17, (v4_17 + (1 : Int32))))
def m_X9_findRow_57_in25 (N : Nat) (v1 : Int32) (v2 : Int32) (v3 : Int32) (σ8 : zS) (v4_8 : Int32) (x0_8 : Int32) : Option ((zS × Int32) ⊕ (zS)) :=
  (ziter (fun q : zS × Int32 => m_X9_findRow_L62 N v1 v2 v3 v4_8 x0_8 q.1 q.2) N (σ8, (0 : Int32))).bind (fun y : zS => m_X9_findRow_111_in25 N v1 v2 v3 y v4_8)
def m_X9_findRow_L25 (N : Nat) (v1 : Int32) (v2 : Int32) (v3 : Int32) (σ4 : zS) (v4_4 : Int32) : Option ((zS × Int32) ⊕ (zS)) :=
  if (σ4.1 0) ≤ v4_4 then
  (some (.inr σ4))
  else
  (if v2 = (-2000000000 : Int32) then
  ((m_X9_atHand N σ4 v4_4).bind fun b19 =>
  m_X9_findRow_57_in25 N v1 v2 v3 σ4 v4_4 b19)
  else
  ((m_X9_isIn N σ4 v1 v2 v4_4).bind fun b7 =>
  m_X9_findRow_57_in25 N v1 v2 v3 σ4 v4_4 b7))
def m_X9_findRow_117 (N : Nat) (v1 : Int32) (v2 : Int32) (v3 : Int32) (σ22 : zS) : Option (Int32 × zS) :=
  some ((1 : Int32), σ22)
def m_X9_findRow_17 (N : Nat) (v1 : Int32) (v2 : Int32) (v3 : Int32) (σ2 : zS) : Option (Int32 × zS) :=
  (some (zsI σ2 6 (0 : Int32))).bind fun σ3 =>
  (ziter (fun q : zS × Int32 => m_X9_findRow_L25 N v1 v2 v3 q.1 q.2) N (σ3, (0 : Int32))).bind (fun y : zS => m_X9_findRow_117 N v1 v2 v3 y)
def m_X9_findRow (N : Nat) (σ : zS) (v1 : Int32) (v2 : Int32) (v3 : Int32) : Option (Int32 × zS) :=
  if v2 = (-2000000000 : Int32) then
  (m_X9_findRow_17 N v1 v2 v3 σ)
  else
  ((m_X9_isGroup N σ v1 v2).bind fun p25 =>
  if p25.1 = (0 : Int32) then
  (some ((0 : Int32), p25.2))
  else
  (m_X9_findRow_17 N v1 v2 v3 p25.2))
def m_X9_figure_93_in40 (N : Nat) (v1 : Int32) (v2 : Int32) (v3 : Int32) (v4 : Int32) (σ9 : zS) (v5_14 : Int64) (v8_14 : Int32) (x0_14 : Int32) (x1_14 : Int32) : Option ((Int64 × Int32 × Int32) ⊕ (Int64 × Int32)) :=
  some (.inl (v5_14, (x0_14 + x1_14), (v8_14 + (1 : Int32))))
def m_X9_figure_88_in40 (N : Nat) (v1 : Int32) (v2 : Int32) (v3 : Int32) (v4 : Int32) (σ9 : zS) (v5_13 : Int64) (v8_13 : Int32) (x0_13 : Int32) : Option ((Int64 × Int32 × Int32) ⊕ (Int64 × Int32)) :=
  m_X9_figure_93_in40 N v1 v2 v3 v4 σ9 v5_13 v8_13 x0_13 (1 : Int32)
def m_X9_figure_L40 (N : Nat) (v1 : Int32) (v2 : Int32) (v3 : Int32) (v4 : Int32) (σ9 : zS) (v5_9 : Int64) (v7_9 : Int32) (v8_9 : Int32) : Option ((Int64 × Int32 × Int32) ⊕ (Int64 × Int32)) :=
  if (σ9.1 6) ≤ v8_9 then
  (some (.inr (v5_9, v7_9)))
  else
  ((zrd 360 (σ9.2.1 24) v8_9).bind fun b11 =>
  if v8_9 = (0 : Int32) then
  (m_X9_figure_88_in40 N v1 v2 v3 v4 σ9 (v5_9 + b11.toInt64) v8_9 v7_9)
  else
  ((zrd 360 (σ9.2.1 24) v8_9).bind fun b15 =>
  (zrd 360 (σ9.2.1 24) (v8_9 - (1 : Int32))).bind fun b16 =>
  if b15 = b16 then
  (m_X9_figure_93_in40 N v1 v2 v3 v4 σ9 (v5_9 + b11.toInt64) v8_9 v7_9 (0 : Int32))
  else
  (m_X9_figure_88_in40 N v1 v2 v3 v4 σ9 (v5_9 + b11.toInt64) v8_9 v7_9)))
def m_X9_figure_102 (N : Nat) (v1 : Int32) (v2 : Int32) (v3 : Int32) (v4 : Int32) (σ20 : zS) (v5_20 : Int64) (v7_20 : Int32) : Option (Int64 × zS) :=
  if v4 = (0 : Int32) then
  (some ((σ20.1 6).toInt64, σ20))
  else
  (if v4 = (1 : Int32) then
  (some (v5_20, σ20))
  else
  (if v4 = (4 : Int32) then
  (some (v7_20.toInt64, σ20))
  else
  (if (σ20.1 6) = (0 : Int32) then
  (some ((-2000000000 : Int64), σ20))
  else
  (if v4 = (2 : Int32) then
  ((zrd 360 (σ20.2.1 24) (0 : Int32)).bind fun b27 =>
  some (b27.toInt64, σ20))
  else
  ((zrd 360 (σ20.2.1 24) ((σ20.1 6) - (1 : Int32))).bind fun b26 =>
  some (b26.toInt64, σ20))))))
def m_X9_figure (N : Nat) (σ : zS) (v1 : Int32) (v2 : Int32) (v3 : Int32) (v4 : Int32) : Option (Int64 × zS) :=
  (m_X9_isColumn N σ v3).bind fun b1 =>
  if b1 = (0 : Int32) then
  (some ((-2000000001 : Int64), σ))
  else
  ((m_X9_within N σ v4 (0 : Int32) (4 : Int32)).bind fun b3 =>
  if b3 = (0 : Int32) then
  (some ((-2000000001 : Int64), σ))
  else
  ((m_X9_findRow N σ v1 v2 v3).bind fun p6 =>
  if p6.1 = (0 : Int32) then
  (some ((-2000000001 : Int64), p6.2))
  else
  ((ziter (fun q : Int64 × Int32 × Int32 => m_X9_figure_L40 N v1 v2 v3 v4 p6.2 q.1 q.2.1 q.2.2) N ((0 : Int64), (0 : Int32), (0 : Int32))).bind (fun y : Int64 × Int32 => m_X9_figure_102 N v1 v2 v3 v4 p6.2 y.1 y.2))))
def m_X9_place (N : Nat) (σ : zS) (v1 : Int32) (v2 : Int32) (v3 : Int32) (v4 : Int32) : Option (Int32 × zS) :=
  (m_X9_isColumn N σ v3).bind fun b1 =>
  if b1 = (0 : Int32) then
  (some ((-2000000001 : Int32), σ))
  else
  ((m_X9_within N σ v4 (0 : Int32) (100 : Int32)).bind fun b3 =>
  if b3 = (0 : Int32) then
  (some ((-2000000001 : Int32), σ))
  else
  ((m_X9_findRow N σ v1 v2 v3).bind fun p6 =>
  if p6.1 = (0 : Int32) then
  (some ((-2000000001 : Int32), p6.2))
  else
  (if (p6.2.1 6) = (0 : Int32) then
  (some ((-2000000000 : Int32), p6.2))
  else
  (if (((v4 * (p6.2.1 6)) + (99 : Int32)) / (100 : Int32)) = (0 : Int32) then
  ((zrd 360 (p6.2.2.1 24) (0 : Int32)).bind fun b12 =>
  some (b12, p6.2))
  else
  ((zrd 360 (p6.2.2.1 24) ((((v4 * (p6.2.1 6)) + (99 : Int32)) / (100 : Int32)) - (1 : Int32))).bind fun b11 =>
  some (b11, p6.2))))))
def m_X9_told_27_in4 (N : Nat) (σ : zS) (v1 : Int32) (v3_5 : Int32) (x0_5 : Int32) (x1_5 : Int32) : Option ((Int32 × Int32) ⊕ (Int32)) :=
  some (.inl ((x0_5 + x1_5), (v3_5 + (1 : Int32))))
def m_X9_told_L4 (N : Nat) (σ : zS) (v1 : Int32) (v2_1 : Int32) (v3_1 : Int32) : Option ((Int32 × Int32) ⊕ (Int32)) :=
  if (σ.1 0) ≤ v3_1 then
  (some (.inr v2_1))
  else
  ((zrd 120 (σ.2.1 2) v3_1).bind fun b3 =>
  if b3 = (0 : Int32) then
  (m_X9_told_27_in4 N σ v1 v3_1 v2_1 (0 : Int32))
  else
  (m_X9_told_27_in4 N σ v1 v3_1 v2_1 (1 : Int32)))
def m_X9_told_35 (N : Nat) (σ : zS) (v1 : Int32) (v2_8 : Int32) : Option Int32 :=
  if v1 = (0 : Int32) then
  (some (σ.1 0))
  else
  (if v1 = (1 : Int32) then
  (some v2_8)
  else
  (if v1 = (2 : Int32) then
  (some (σ.1 1))
  else
  (if v1 = (3 : Int32) then
  (some (σ.1 2))
  else
  (some (-2000000001 : Int32)))))
def m_X9_told (N : Nat) (σ : zS) (v1 : Int32) : Option Int32 :=
  (ziter (fun q : Int32 × Int32 => m_X9_told_L4 N σ v1 q.1 q.2) N ((0 : Int32), (0 : Int32))).bind (fun y : Int32 => m_X9_told_35 N σ v1 y)
end
section
set_option maxHeartbeats 4000000 in
set_option maxRecDepth 100000 in
theorem k_X9_within {l : Launch} {D : va_G} {ad : Nat → Nat} {cI cJ cZ cO : ClassId} {t : Nat} {A : Nat → Prop} {N : Nat} {σ : zS} {v0 : Int32} {v1 : Int32} {v2 : Int32} {r : Int32}  (hm : m_X9_within N σ v0 v1 v2 = some r) : zCi l yX9_within cX9_within 3 (some .boolean) (zR 0 0) D zclM (zty cI cJ cZ cO) t A (zwM ad cI cJ cZ cO) [.int v0, .int v1, .int v2] σ σ r := by
  refine zMz (by decide) (Nat.le_of_ble_eq_true rfl) ?_
  intro p e s m args below meth c Q hx hb hml hown hT hK hZ hret hP hD hS ls hl
  replace hown : s.vm.findClass RX9 = some m.cls := hown
  replace hl : lv_has ls 3 [(0, .int v0), (1, .int v1), (2, .int v2)] := hl
  unfold m_X9_within at hm
  refine lv_iload_n hx hb dX9_within_0 rfl (lv_at hl 0 rfl) ?_
  refine lv_iload_n hx hb dX9_within_1 rfl (lv_at hl 1 rfl) ?_
  refine lv_icmp_lt (tgt := 14) hx hb dX9_within_2 (by decide) (fun h1 => ?_) (fun h1 => ?_)
  · rw [if_pos h1] at hm
    refine lv_iconst (v := (0 : Int32)) hx hb dX9_within_14 (by decide) ?_
    cases hm
    exact hret _ _ _ _ (by decide) dX9_within_15 hP hD hS
  · rw [if_neg h1] at hm
    refine lv_iload_n hx hb dX9_within_5 rfl (lv_at hl 0 rfl) ?_
    refine lv_iload_n hx hb dX9_within_6 rfl (lv_at hl 2 rfl) ?_
    refine lv_icmp_gt (tgt := 14) hx hb dX9_within_7 (by decide) (fun h2 => ?_) (fun h2 => ?_)
    · rw [if_pos h2] at hm
      refine lv_iconst (v := (0 : Int32)) hx hb dX9_within_14 (by decide) ?_
      cases hm
      exact hret _ _ _ _ (by decide) dX9_within_15 hP hD hS
    · rw [if_neg h2] at hm
      refine lv_iconst (v := (1 : Int32)) hx hb dX9_within_10 (by decide) ?_
      refine lv_goto (tgt := 15) hx hb dX9_within_11 (by decide) ?_
      cases hm
      exact hret _ _ _ _ (by decide) dX9_within_15 hP hD hS
set_option maxHeartbeats 4000000 in
set_option maxRecDepth 100000 in
theorem k_X9_isObject {l : Launch} {D : va_G} {ad : Nat → Nat} {cI cJ cZ cO : ClassId} {t : Nat} {A : Nat → Prop} {N : Nat} {σ : zS} {v1 : Int32} {r : Int32}  (hm : m_X9_isObject N σ v1 = some r) : zCi l yX9_isObject cX9_isObject 2 (some .boolean) (zR 1 22) D zclM (zty cI cJ cZ cO) t A (zwM ad cI cJ cZ cO) [.ref (ad 0), .int v1] σ σ r := by
  refine zMz (by decide) (Nat.le_of_ble_eq_true rfl) ?_
  intro p e s m args below meth c Q hx hb hml hown hT hK hZ hret hP hD hS ls hl
  replace hown : s.vm.findClass RX9 = some m.cls := hown
  replace hl : lv_has ls 2 [(0, .ref (ad 0)), (1, .int v1)] := hl
  unfold m_X9_isObject at hm
  refine lv_iload_n hx hb dX9_isObject_0 rfl (lv_at hl 1 rfl) ?_
  refine lv_iconst (v := (0 : Int32)) hx hb dX9_isObject_1 (by decide) ?_
  refine lv_aload_n hx hb dX9_isObject_2 rfl (lv_at hl 0 rfl) ?_
  refine zget (v := .int (σ.1 0)) hx hb hT zinX9 hown hK hP 0 rfl rfl 0 (by decide) zw622 rfl dX9_isObject_3 ?_
  refine lv_iconst (v := (1 : Int32)) hx hb dX9_isObject_6 (by decide) ?_
  refine lv_isub hx hb dX9_isObject_7 ?_
  obtain ⟨b1, eb1, hm⟩ := Option.bind_eq_some_iff.mp hm
  refine zSi (rest := []) [.int v1, .int (0 : Int32), .int ((σ.1 0) - (1 : Int32))] hx hb hml hl.1 hown hT (k_X9_within eb1) zkX9_within zw739 ⟨by decide, by decide⟩ rfl rfl hK hZ hP hD hS rfl rfl (Nat.le_of_ble_eq_true rfl) ⟨Nat.zero_le _, Nat.zero_le _⟩ dX9_isObject_8 (fun H locs hP hD hS => ?_)
  obtain ⟨b2, eb2, hm⟩ := Option.bind_eq_some_iff.mp hm
  obtain ⟨rfl, hzb2, hwb2, hfb2⟩ := zcz_all eb2
  cases hm
  exact hret _ _ _ _ hzb2 dX9_isObject_11 hP hD hS
set_option maxHeartbeats 4000000 in
set_option maxRecDepth 100000 in
theorem k_X9_isFacet {l : Launch} {D : va_G} {ad : Nat → Nat} {cI cJ cZ cO : ClassId} {t : Nat} {A : Nat → Prop} {N : Nat} {σ : zS} {v1 : Int32} {r : Int32}  (hm : m_X9_isFacet N σ v1 = some r) : zCi l yX9_isFacet cX9_isFacet 2 (some .boolean) (zR 1 22) D zclM (zty cI cJ cZ cO) t A (zwM ad cI cJ cZ cO) [.ref (ad 0), .int v1] σ σ r := by
  refine zMz (by decide) (Nat.le_of_ble_eq_true rfl) ?_
  intro p e s m args below meth c Q hx hb hml hown hT hK hZ hret hP hD hS ls hl
  replace hown : s.vm.findClass RX9 = some m.cls := hown
  replace hl : lv_has ls 2 [(0, .ref (ad 0)), (1, .int v1)] := hl
  unfold m_X9_isFacet at hm
  refine lv_iload_n hx hb dX9_isFacet_0 rfl (lv_at hl 1 rfl) ?_
  refine lv_iconst (v := (0 : Int32)) hx hb dX9_isFacet_1 (by decide) ?_
  refine lv_aload_n hx hb dX9_isFacet_2 rfl (lv_at hl 0 rfl) ?_
  refine zget (v := .int (σ.1 1)) hx hb hT zinX9 hown hK hP 0 rfl rfl 4 (by decide) zw626 rfl dX9_isFacet_3 ?_
  refine lv_iconst (v := (1 : Int32)) hx hb dX9_isFacet_6 (by decide) ?_
  refine lv_isub hx hb dX9_isFacet_7 ?_
  obtain ⟨b1, eb1, hm⟩ := Option.bind_eq_some_iff.mp hm
  refine zSi (rest := []) [.int v1, .int (0 : Int32), .int ((σ.1 1) - (1 : Int32))] hx hb hml hl.1 hown hT (k_X9_within eb1) zkX9_within zw739 ⟨by decide, by decide⟩ rfl rfl hK hZ hP hD hS rfl rfl (Nat.le_of_ble_eq_true rfl) ⟨Nat.zero_le _, Nat.zero_le _⟩ dX9_isFacet_8 (fun H locs hP hD hS => ?_)
  obtain ⟨b2, eb2, hm⟩ := Option.bind_eq_some_iff.mp hm
  obtain ⟨rfl, hzb2, hwb2, hfb2⟩ := zcz_all eb2
  cases hm
  exact hret _ _ _ _ hzb2 dX9_isFacet_11 hP hD hS
set_option maxHeartbeats 4000000 in
set_option maxRecDepth 100000 in
theorem k_X9_isColumn {l : Launch} {D : va_G} {ad : Nat → Nat} {cI cJ cZ cO : ClassId} {t : Nat} {A : Nat → Prop} {N : Nat} {σ : zS} {v0 : Int32} {r : Int32}  (hm : m_X9_isColumn N σ v0 = some r) : zCi l yX9_isColumn cX9_isColumn 1 (some .boolean) (zR 1 22) D zclM (zty cI cJ cZ cO) t A (zwM ad cI cJ cZ cO) [.int v0] σ σ r := by
  refine zMz (by decide) (Nat.le_of_ble_eq_true rfl) ?_
  intro p e s m args below meth c Q hx hb hml hown hT hK hZ hret hP hD hS ls hl
  replace hown : s.vm.findClass RX9 = some m.cls := hown
  replace hl : lv_has ls 1 [(0, .int v0)] := hl
  unfold m_X9_isColumn at hm
  refine lv_iload_n hx hb dX9_isColumn_0 rfl (lv_at hl 0 rfl) ?_
  refine lv_iconst (v := (0 : Int32)) hx hb dX9_isColumn_1 (by decide) ?_
  refine lv_iconst (v := (5 : Int32)) hx hb dX9_isColumn_2 (by decide) ?_
  obtain ⟨b1, eb1, hm⟩ := Option.bind_eq_some_iff.mp hm
  refine zSi (rest := []) [.int v0, .int (0 : Int32), .int (5 : Int32)] hx hb hml hl.1 hown hT (k_X9_within eb1) zkX9_within zw739 ⟨by decide, by decide⟩ rfl rfl hK hZ hP hD hS rfl rfl (Nat.le_of_ble_eq_true rfl) ⟨Nat.zero_le _, Nat.zero_le _⟩ dX9_isColumn_3 (fun H locs hP hD hS => ?_)
  obtain ⟨b2, eb2, hm⟩ := Option.bind_eq_some_iff.mp hm
  obtain ⟨rfl, hzb2, hwb2, hfb2⟩ := zcz_all eb2
  cases hm
  exact hret _ _ _ _ hzb2 dX9_isColumn_6 hP hD hS
set_option maxHeartbeats 4000000 in
set_option maxRecDepth 100000 in
theorem k_X9_isValue {l : Launch} {D : va_G} {ad : Nat → Nat} {cI cJ cZ cO : ClassId} {t : Nat} {A : Nat → Prop} {N : Nat} {σ : zS} {v0 : Int32} {r : Int32}  (hm : m_X9_isValue N σ v0 = some r) : zCi l yX9_isValue cX9_isValue 1 (some .boolean) (zR 1 22) D zclM (zty cI cJ cZ cO) t A (zwM ad cI cJ cZ cO) [.int v0] σ σ r := by
  refine zMz (by decide) (Nat.le_of_ble_eq_true rfl) ?_
  intro p e s m args below meth c Q hx hb hml hown hT hK hZ hret hP hD hS ls hl
  replace hown : s.vm.findClass RX9 = some m.cls := hown
  replace hl : lv_has ls 1 [(0, .int v0)] := hl
  unfold m_X9_isValue at hm
  refine lv_iload_n hx hb dX9_isValue_0 rfl (lv_at hl 0 rfl) ?_
  refine lv_ldc hx hb hown (hT _ zw748) dX9_isValue_1 ?_
  refine lv_ldc hx hb hown (hT _ zw749) dX9_isValue_3 ?_
  obtain ⟨b1, eb1, hm⟩ := Option.bind_eq_some_iff.mp hm
  refine zSi (rest := []) [.int v0, .int (-1000000000 : Int32), .int (1000000000 : Int32)] hx hb hml hl.1 hown hT (k_X9_within eb1) zkX9_within zw739 ⟨by decide, by decide⟩ rfl rfl hK hZ hP hD hS rfl rfl (Nat.le_of_ble_eq_true rfl) ⟨Nat.zero_le _, Nat.zero_le _⟩ dX9_isValue_5 (fun H locs hP hD hS => ?_)
  obtain ⟨b2, eb2, hm⟩ := Option.bind_eq_some_iff.mp hm
  obtain ⟨rfl, hzb2, hwb2, hfb2⟩ := zcz_all eb2
  cases hm
  exact hret _ _ _ _ hzb2 dX9_isValue_8 hP hD hS
set_option maxHeartbeats 4000000 in
set_option maxRecDepth 100000 in
theorem k_X9_changes {l : Launch} {D : va_G} {ad : Nat → Nat} {cI cJ cZ cO : ClassId} {t : Nat} {A : Nat → Prop} {N : Nat} {σ σ' : zS}    (hm : m_X9_changes N σ = some σ') : zCv l yX9_changes cX9_changes 1 (none) (zR 0 0) D zclM (zty cI cJ cZ cO) t A (zwM ad cI cJ cZ cO) [.ref (ad 0)] σ σ' := by
  refine zMv (by decide) (Nat.le_of_ble_eq_true rfl) ?_
  intro p e s m args below meth c Q hx hb hml hown hT hK hZ hret hP hD hS ls hl
  replace hown : s.vm.findClass RX9 = some m.cls := hown
  replace hl : lv_has ls 1 [(0, .ref (ad 0))] := hl
  unfold m_X9_changes at hm
  refine lv_aload_n hx hb dX9_changes_0 rfl (lv_at hl 0 rfl) ?_
  refine lv_iconst (v := (0 : Int32)) hx hb dX9_changes_1 (by decide) ?_
  obtain ⟨σ1, eσ1, hm⟩ := Option.bind_eq_some_iff.mp hm
  refine zput (j := 2) (ty := .int) hx hb hT zinX9 tyX9 tyX9_ok nmX9 hown hK hP hD hS 0 rfl rfl 19 (by decide) zw641 rfl (by decide +kernel) rfl rfl (Nat.le_of_ble_eq_true rfl) eσ1 rfl dX9_changes_2 (fun H locs hP hD hS => ?_)
  cases hm
  exact hret _ _ _ _ dX9_changes_5 hP hD hS
set_option maxHeartbeats 4000000 in
set_option maxRecDepth 100000 in
theorem k_X9_object {l : Launch} {D : va_G} {ad : Nat → Nat} {cI cJ cZ cO : ClassId} {t : Nat} {A : Nat → Prop} {N : Nat} {σ σ' : zS}  {r : Int32}  (hm : m_X9_object N σ = some (r, σ')) : zCi l yX9_object cX9_object 2 (some .int) (zR 1 20) D zclM (zty cI cJ cZ cO) t A (zwM ad cI cJ cZ cO) [.ref (ad 0)] σ σ' r := by
  refine zMi (by decide) (Nat.le_of_ble_eq_true rfl) ?_
  intro p e s m args below meth c Q hx hb hml hown hT hK hZ hret hP hD hS ls hl
  replace hown : s.vm.findClass RX9 = some m.cls := hown
  replace hl : lv_has ls 2 [(0, .ref (ad 0))] := hl
  have hL14 : ∀ (q : zS × Int32) (r : zS), ziter (fun q : zS × Int32 => m_X9_object_L14 N q.1 q.2) N q = some r → (∀ (H : Heap) (locs : List Loc) (ls : Array Slot), va_P D zclM (zwM ad cI cJ cZ cO r) H → va_D A (zwM ad cI cJ cZ cO r) → va_S A s.heap H locs → lv_has ls 2 [(0, .ref (ad 0))] → W p l e (zR 1 20) s m args below meth c H locs 0 0 Q (F0 m 41 ls [])) → ∀ (H : Heap) (locs : List Loc) (ls : Array Slot), va_P D zclM (zwM ad cI cJ cZ cO q.1) H → va_D A (zwM ad cI cJ cZ cO q.1) → va_S A s.heap H locs → lv_has ls 2 [(0, .ref (ad 0)), (1, .int q.2)] → W p l e (zR 1 20) s m args below meth c H locs 0 0 Q (F0 m 14 ls []) := by
    intro q r
    refine ziter_W (Hd := fun q : zS × Int32 => ∀ (H : Heap) (locs : List Loc) (ls : Array Slot), va_P D zclM (zwM ad cI cJ cZ cO q.1) H → va_D A (zwM ad cI cJ cZ cO q.1) → va_S A s.heap H locs → lv_has ls 2 [(0, .ref (ad 0)), (1, .int q.2)] → W p l e (zR 1 20) s m args below meth c H locs 0 0 Q (F0 m 14 ls [])) (Ex := fun r : zS => ∀ (H : Heap) (locs : List Loc) (ls : Array Slot), va_P D zclM (zwM ad cI cJ cZ cO r) H → va_D A (zwM ad cI cJ cZ cO r) → va_S A s.heap H locs → lv_has ls 2 [(0, .ref (ad 0))] → W p l e (zR 1 20) s m args below meth c H locs 0 0 Q (F0 m 41 ls [])) ?_ N q r
    rintro ⟨σ2, v1_2⟩ res hm hk H locs ls hP hD hS hl
    try dsimp only at hP hD hl
    replace hm : m_X9_object_L14 N σ2 v1_2 = some res := hm
    unfold m_X9_object_L14 at hm
    refine lv_iload_n hx hb dX9_object_14 rfl (lv_at hl 1 rfl) ?_
    refine lv_bipush (v := (6 : Int32)) hx hb dX9_object_15 (by decide) ?_
    refine lv_icmp_ge (tgt := 41) hx hb dX9_object_17 (by decide) (fun h3 => ?_) (fun h3 => ?_)
    · rw [if_pos h3] at hm
      cases hm
      exact hk _ _ _ hP hD hS (lv_sub hl [0] rfl)
    · rw [if_neg h3] at hm
      refine lv_aload_n hx hb dX9_object_20 rfl (lv_at hl 0 rfl) ?_
      refine zget (v := .ref (ad 1)) hx hb hT zinX9 hown hK hP 0 rfl rfl 1 (by decide) zw623 rfl dX9_object_21 ?_
      refine lv_bipush (v := (6 : Int32)) hx hb dX9_object_24 (by decide) ?_
      refine lv_aload_n hx hb dX9_object_26 rfl (lv_at hl 0 rfl) ?_
      refine zget (v := .int (σ2.1 0)) hx hb hT zinX9 hown hK hP 0 rfl rfl 0 (by decide) zw622 rfl dX9_object_27 ?_
      refine lv_imul hx hb dX9_object_30 ?_
      refine lv_iload_n hx hb dX9_object_31 rfl (lv_at hl 1 rfl) ?_
      refine lv_iadd hx hb dX9_object_32 ?_
      refine lv_iconst (v := (0 : Int32)) hx hb dX9_object_33 (by decide) ?_
      obtain ⟨σ4, eσ4, hm⟩ := Option.bind_eq_some_iff.mp hm
      refine ziast (j := 0) hx hb hK hP hD hS 1 0 rfl rfl eσ4 (fun _ => rfl) dX9_object_34 (fun H locs hP hD hS => ?_)
      refine lv_iinc (v := (v1_2 + (1 : Int32))) (lv' := [(1, .int (v1_2 + (1 : Int32))), (0, .ref (ad 0))]) hx hb dX9_object_35 hl (k := 1) rfl rfl (by decide) rfl (fun ls hl => ?_)
      refine lv_goto (tgt := 14) hx hb dX9_object_38 (by decide) ?_
      cases hm
      exact hk _ _ _ hP hD hS (lv_sub hl [1, 0] rfl)
  have h41 : ∀ (σ7 : zS), m_X9_object_41 N σ7 = some (r, σ') → ∀ (H : Heap) (locs : List Loc) (ls : Array Slot), va_P D zclM (zwM ad cI cJ cZ cO σ7) H → va_D A (zwM ad cI cJ cZ cO σ7) → va_S A s.heap H locs → lv_has ls 2 [(0, .ref (ad 0))] → W p l e (zR 1 20) s m args below meth c H locs 0 0 Q (F0 m 41 ls []) := by
    intro σ7 hm H locs ls hP hD hS hl
    unfold m_X9_object_41 at hm
    refine lv_aload_n hx hb dX9_object_41 rfl (lv_at hl 0 rfl) ?_
    refine zget (v := .ref (ad 3)) hx hb hT zinX9 hown hK hP 0 rfl rfl 3 (by decide) zw625 rfl dX9_object_42 ?_
    refine lv_aload_n hx hb dX9_object_45 rfl (lv_at hl 0 rfl) ?_
    refine zget (v := .int (σ7.1 0)) hx hb hT zinX9 hown hK hP 0 rfl rfl 0 (by decide) zw622 rfl dX9_object_46 ?_
    refine lv_iconst (v := (0 : Int32)) hx hb dX9_object_49 (by decide) ?_
    obtain ⟨σ8, eσ8, hm⟩ := Option.bind_eq_some_iff.mp hm
    refine zzast (j := 2) hx hb hK hP hD hS 3 2 rfl rfl eσ8 (by decide) (fun _ => rfl) dX9_object_50 (fun H locs hP hD hS => ?_)
    refine lv_aload_n hx hb dX9_object_51 rfl (lv_at hl 0 rfl) ?_
    refine lv_dup hx hb dX9_object_52 rfl ?_
    refine zget (v := .int (σ8.1 0)) hx hb hT zinX9 hown hK hP 0 rfl rfl 0 (by decide) zw622 rfl dX9_object_53 ?_
    refine lv_iconst (v := (1 : Int32)) hx hb dX9_object_56 (by decide) ?_
    refine lv_iadd hx hb dX9_object_57 ?_
    obtain ⟨σ9, eσ9, hm⟩ := Option.bind_eq_some_iff.mp hm
    refine zput (j := 0) (ty := .int) hx hb hT zinX9 tyX9 tyX9_ok nmX9 hown hK hP hD hS 0 rfl rfl 0 (by decide) zw622 rfl (by decide +kernel) rfl rfl (Nat.le_of_ble_eq_true rfl) eσ9 rfl dX9_object_58 (fun H locs hP hD hS => ?_)
    refine lv_aload_n hx hb dX9_object_61 rfl (lv_at hl 0 rfl) ?_
    obtain ⟨σ10, eσ10, hm⟩ := Option.bind_eq_some_iff.mp hm
    refine zVv (rest := []) [] hx hb hml hl.1 hown hT (k_X9_changes eσ10) zkX9_changes zw727 ⟨by decide, by decide⟩ rfl rfl hK hZ hP hD hS 0 rfl rfl rfl rfl (Nat.le_of_ble_eq_true rfl) ⟨Nat.zero_le _, Nat.zero_le _⟩ dX9_object_62 (fun H locs hP hD hS => ?_)
    refine lv_aload_n hx hb dX9_object_65 rfl (lv_at hl 0 rfl) ?_
    refine zget (v := .int (σ10.1 0)) hx hb hT zinX9 hown hK hP 0 rfl rfl 0 (by decide) zw622 rfl dX9_object_66 ?_
    refine lv_iconst (v := (1 : Int32)) hx hb dX9_object_69 (by decide) ?_
    refine lv_isub hx hb dX9_object_70 ?_
    cases hm
    exact hret _ _ _ _ dX9_object_71 hP hD hS
  unfold m_X9_object at hm
  refine lv_aload_n hx hb dX9_object_0 rfl (lv_at hl 0 rfl) ?_
  refine zget (v := .int (σ.1 0)) hx hb hT zinX9 hown hK hP 0 rfl rfl 0 (by decide) zw622 rfl dX9_object_1 ?_
  refine lv_bipush (v := (120 : Int32)) hx hb dX9_object_4 (by decide) ?_
  refine lv_icmp_ne (tgt := 12) hx hb dX9_object_6 (by decide) (fun h1 => ?_) (fun h1 => ?_)
  · rw [if_neg h1] at hm
    refine lv_iconst (v := (0 : Int32)) hx hb dX9_object_12 (by decide) ?_
    refine lv_istore_n (lv' := [(1, .int (0 : Int32)), (0, .ref (ad 0))]) hx hb dX9_object_13 rfl hl (by decide) rfl (fun ls hl => ?_)
    obtain ⟨σ6, e11, hm⟩ := Option.bind_eq_some_iff.mp hm
    refine hL14  _ σ6 e11 ?_ _ _ _ hP hD hS (lv_sub hl [1, 0] rfl)
    intro H locs ls hP hD hS hl
    try dsimp only at hP hD hl
    replace hm : m_X9_object_41 N σ6 = some (r, σ') := hm
    exact h41 σ6 hm _ _ _ hP hD hS (lv_sub hl [0] rfl)
  · rw [if_pos h1] at hm
    refine lv_ldc hx hb hown (hT _ zw726) dX9_object_9 ?_
    cases hm
    exact hret _ _ _ _ dX9_object_11 hP hD hS
set_option maxHeartbeats 4000000 in
set_option maxRecDepth 100000 in
theorem k_X9_value {l : Launch} {D : va_G} {ad : Nat → Nat} {cI cJ cZ cO : ClassId} {t : Nat} {A : Nat → Prop} {N : Nat} {σ σ' : zS} {v1 : Int32} {v2 : Int32} {v3 : Int32} {r : Int32}  (hm : m_X9_value N σ v1 v2 v3 = some (r, σ')) : zCi l yX9_value cX9_value 5 (some .int) (zR 2 43) D zclM (zty cI cJ cZ cO) t A (zwM ad cI cJ cZ cO) [.ref (ad 0), .int v1, .int v2, .int v3] σ σ' r := by
  refine zMi (by decide) (Nat.le_of_ble_eq_true rfl) ?_
  intro p e s m args below meth c Q hx hb hml hown hT hK hZ hret hP hD hS ls hl
  replace hown : s.vm.findClass RX9 = some m.cls := hown
  replace hl : lv_has ls 5 [(0, .ref (ad 0)), (1, .int v1), (2, .int v2), (3, .int v3)] := hl
  unfold m_X9_value at hm
  refine lv_aload_n hx hb dX9_value_0 rfl (lv_at hl 0 rfl) ?_
  refine lv_iload_n hx hb dX9_value_1 rfl (lv_at hl 1 rfl) ?_
  obtain ⟨b1, eb1, hm⟩ := Option.bind_eq_some_iff.mp hm
  refine zVi (rest := []) [.int v1] hx hb hml hl.1 hown hT (k_X9_isObject eb1) zkX9_isObject zw735 ⟨by decide, by decide⟩ rfl rfl hK hZ hP hD hS 0 rfl rfl rfl rfl (Nat.le_of_ble_eq_true rfl) ⟨Nat.zero_le _, Nat.zero_le _⟩ dX9_value_2 (fun H locs hP hD hS => ?_)
  refine lv_if_eq (tgt := 22) hx hb dX9_value_5 (by decide) (fun h2 => ?_) (fun h2 => ?_)
  · rw [if_pos h2] at hm
    refine lv_ldc hx hb hown (hT _ zw750) dX9_value_22 ?_
    cases hm
    exact hret _ _ _ _ dX9_value_24 hP hD hS
  · rw [if_neg h2] at hm
    refine lv_iload_n hx hb dX9_value_8 rfl (lv_at hl 2 rfl) ?_
    obtain ⟨b3, eb3, hm⟩ := Option.bind_eq_some_iff.mp hm
    refine zSi (rest := []) [.int v2] hx hb hml hl.1 hown hT (k_X9_isColumn eb3) zkX9_isColumn zw742 ⟨by decide, by decide⟩ rfl rfl hK hZ hP hD hS rfl rfl (Nat.le_of_ble_eq_true rfl) ⟨Nat.zero_le _, Nat.zero_le _⟩ dX9_value_9 (fun H locs hP hD hS => ?_)
    refine lv_if_eq (tgt := 22) hx hb dX9_value_12 (by decide) (fun h4 => ?_) (fun h4 => ?_)
    · rw [if_pos h4] at hm
      refine lv_ldc hx hb hown (hT _ zw750) dX9_value_22 ?_
      cases hm
      exact hret _ _ _ _ dX9_value_24 hP hD hS
    · rw [if_neg h4] at hm
      refine lv_iload_n hx hb dX9_value_15 rfl (lv_at hl 3 rfl) ?_
      obtain ⟨b5, eb5, hm⟩ := Option.bind_eq_some_iff.mp hm
      refine zSi (rest := []) [.int v3] hx hb hml hl.1 hown hT (k_X9_isValue eb5) zkX9_isValue zw745 ⟨by decide, by decide⟩ rfl rfl hK hZ hP hD hS rfl rfl (Nat.le_of_ble_eq_true rfl) ⟨Nat.zero_le _, Nat.zero_le _⟩ dX9_value_16 (fun H locs hP hD hS => ?_)
      refine lv_if_ne (tgt := 25) hx hb dX9_value_19 (by decide) (fun h6 => ?_) (fun h6 => ?_)
      · rw [if_neg h6] at hm
        refine lv_bipush (v := (6 : Int32)) hx hb dX9_value_25 (by decide) ?_
        refine lv_iload_n hx hb dX9_value_27 rfl (lv_at hl 1 rfl) ?_
        refine lv_imul hx hb dX9_value_28 ?_
        refine lv_iload_n hx hb dX9_value_29 rfl (lv_at hl 2 rfl) ?_
        refine lv_iadd hx hb dX9_value_30 ?_
        refine lv_istore (lv' := [(4, .int (((6 : Int32) * v1) + v2)), (0, .ref (ad 0)), (1, .int v1), (2, .int v2), (3, .int v3)]) hx hb dX9_value_31 hl (by decide) rfl (fun ls hl => ?_)
        refine lv_aload_n hx hb dX9_value_33 rfl (lv_at hl 1 rfl) ?_
        refine zget (v := .ref (ad 1)) hx hb hT zinX9 hown hK hP 0 rfl rfl 1 (by decide) zw623 rfl dX9_value_34 ?_
        refine lv_iload hx hb dX9_value_37 (lv_at hl 0 rfl) ?_
        obtain ⟨b7, eb7, hm⟩ := Option.bind_eq_some_iff.mp hm
        refine ziald hx hb hK hP 1 0 rfl rfl eb7 dX9_value_39 ?_
        refine lv_iconst (v := (3 : Int32)) hx hb dX9_value_40 (by decide) ?_
        refine lv_icmp_ne (tgt := 47) hx hb dX9_value_41 (by decide) (fun h8 => ?_) (fun h8 => ?_)
        · rw [if_neg h8] at hm
          refine lv_aload_n hx hb dX9_value_47 rfl (lv_at hl 1 rfl) ?_
          refine zget (v := .ref (ad 2)) hx hb hT zinX9 hown hK hP 0 rfl rfl 2 (by decide) zw624 rfl dX9_value_48 ?_
          refine lv_iconst (v := (3 : Int32)) hx hb dX9_value_51 (by decide) ?_
          refine lv_iload hx hb dX9_value_52 (lv_at hl 0 rfl) ?_
          refine lv_imul hx hb dX9_value_54 ?_
          refine lv_aload_n hx hb dX9_value_55 rfl (lv_at hl 1 rfl) ?_
          refine zget (v := .ref (ad 1)) hx hb hT zinX9 hown hK hP 0 rfl rfl 1 (by decide) zw623 rfl dX9_value_56 ?_
          refine lv_iload hx hb dX9_value_59 (lv_at hl 0 rfl) ?_
          obtain ⟨b9, eb9, hm⟩ := Option.bind_eq_some_iff.mp hm
          refine ziald hx hb hK hP 1 0 rfl rfl eb9 dX9_value_61 ?_
          refine lv_iadd hx hb dX9_value_62 ?_
          refine lv_iload_n hx hb dX9_value_63 rfl (lv_at hl 4 rfl) ?_
          obtain ⟨σ10, eσ10, hm⟩ := Option.bind_eq_some_iff.mp hm
          refine ziast (j := 1) hx hb hK hP hD hS 2 0 rfl rfl eσ10 (fun _ => rfl) dX9_value_64 (fun H locs hP hD hS => ?_)
          refine lv_aload_n hx hb dX9_value_65 rfl (lv_at hl 1 rfl) ?_
          refine zget (v := .ref (ad 1)) hx hb hT zinX9 hown hK hP 0 rfl rfl 1 (by decide) zw623 rfl dX9_value_66 ?_
          refine lv_iload hx hb dX9_value_69 (lv_at hl 0 rfl) ?_
          refine lv_dup2_11 hx hb dX9_value_71 rfl rfl ?_
          obtain ⟨b11, eb11, hm⟩ := Option.bind_eq_some_iff.mp hm
          refine ziald hx hb hK hP 1 0 rfl rfl eb11 dX9_value_72 ?_
          refine lv_iconst (v := (1 : Int32)) hx hb dX9_value_73 (by decide) ?_
          refine lv_iadd hx hb dX9_value_74 ?_
          obtain ⟨σ12, eσ12, hm⟩ := Option.bind_eq_some_iff.mp hm
          refine ziast (j := 0) hx hb hK hP hD hS 1 0 rfl rfl eσ12 (fun _ => rfl) dX9_value_75 (fun H locs hP hD hS => ?_)
          refine lv_aload_n hx hb dX9_value_76 rfl (lv_at hl 1 rfl) ?_
          obtain ⟨σ13, eσ13, hm⟩ := Option.bind_eq_some_iff.mp hm
          refine zVv (rest := []) [] hx hb hml hl.1 hown hT (k_X9_changes eσ13) zkX9_changes zw727 ⟨by decide, by decide⟩ rfl rfl hK hZ hP hD hS 0 rfl rfl rfl rfl (Nat.le_of_ble_eq_true rfl) ⟨Nat.zero_le _, Nat.zero_le _⟩ dX9_value_77 (fun H locs hP hD hS => ?_)
          refine lv_aload_n hx hb dX9_value_80 rfl (lv_at hl 1 rfl) ?_
          refine zget (v := .ref (ad 1)) hx hb hT zinX9 hown hK hP 0 rfl rfl 1 (by decide) zw623 rfl dX9_value_81 ?_
          refine lv_iload hx hb dX9_value_84 (lv_at hl 0 rfl) ?_
          obtain ⟨b14, eb14, hm⟩ := Option.bind_eq_some_iff.mp hm
          refine ziald hx hb hK hP 1 0 rfl rfl eb14 dX9_value_86 ?_
          cases hm
          exact hret _ _ _ _ dX9_value_87 hP hD hS
        · rw [if_pos h8] at hm
          refine lv_ldc hx hb hown (hT _ zw726) dX9_value_44 ?_
          cases hm
          exact hret _ _ _ _ dX9_value_46 hP hD hS
      · rw [if_pos h6] at hm
        refine lv_ldc hx hb hown (hT _ zw750) dX9_value_22 ?_
        cases hm
        exact hret _ _ _ _ dX9_value_24 hP hD hS
set_option maxHeartbeats 4000000 in
set_option maxRecDepth 100000 in
theorem k_X9_match {l : Launch} {D : va_G} {ad : Nat → Nat} {cI cJ cZ cO : ClassId} {t : Nat} {A : Nat → Prop} {N : Nat} {σ σ' : zS} {v1 : Int32} {v2 : Int32} {r : Int32}  (hm : m_X9_match N σ v1 v2 = some (r, σ')) : zCi l yX9_match cX9_match 4 (some .int) (zR 2 43) D zclM (zty cI cJ cZ cO) t A (zwM ad cI cJ cZ cO) [.ref (ad 0), .int v1, .int v2] σ σ' r := by
  refine zMi (by decide) (Nat.le_of_ble_eq_true rfl) ?_
  intro p e s m args below meth c Q hx hb hml hown hT hK hZ hret hP hD hS ls hl
  replace hown : s.vm.findClass RX9 = some m.cls := hown
  replace hl : lv_has ls 4 [(0, .ref (ad 0)), (1, .int v1), (2, .int v2)] := hl
  have h25 : ∀ (σ5 : zS) (x0_5 : Int32), m_X9_match_25 N v1 v2 σ5 x0_5 = some (r, σ') → ∀ (H : Heap) (locs : List Loc) (ls : Array Slot), va_P D zclM (zwM ad cI cJ cZ cO σ5) H → va_D A (zwM ad cI cJ cZ cO σ5) → va_S A s.heap H locs → lv_has ls 4 [(0, .ref (ad 0)), (1, .int v1), (2, .int v2)] → W p l e (zR 2 43) s m args below meth c H locs 0 0 Q (F0 m 25 ls [.int x0_5]) := by
    intro σ5 x0_5 hm H locs ls hP hD hS hl
    unfold m_X9_match_25 at hm
    refine lv_istore_n (lv' := [(3, .int x0_5), (0, .ref (ad 0)), (1, .int v1), (2, .int v2)]) hx hb dX9_match_25 rfl hl (by decide) rfl (fun ls hl => ?_)
    refine lv_aload_n hx hb dX9_match_26 rfl (lv_at hl 1 rfl) ?_
    refine zget (v := .ref (ad 3)) hx hb hT zinX9 hown hK hP 0 rfl rfl 3 (by decide) zw625 rfl dX9_match_27 ?_
    refine lv_iload_n hx hb dX9_match_30 rfl (lv_at hl 2 rfl) ?_
    refine lv_iload_n hx hb dX9_match_31 rfl (lv_at hl 3 rfl) ?_
    obtain ⟨b6, eb6, hm⟩ := Option.bind_eq_some_iff.mp hm
    obtain ⟨rfl, hzb6, hwb6, hfb6⟩ := zcz_all eb6
    obtain ⟨σ7, eσ7, hm⟩ := Option.bind_eq_some_iff.mp hm
    refine zzast (j := 2) hx hb hK hP hD hS 3 2 rfl rfl eσ7 hwb6 (fun _ => rfl) dX9_match_32 (fun H locs hP hD hS => ?_)
    refine lv_aload_n hx hb dX9_match_33 rfl (lv_at hl 1 rfl) ?_
    obtain ⟨σ8, eσ8, hm⟩ := Option.bind_eq_some_iff.mp hm
    refine zVv (rest := []) [] hx hb hml hl.1 hown hT (k_X9_changes eσ8) zkX9_changes zw727 ⟨by decide, by decide⟩ rfl rfl hK hZ hP hD hS 0 rfl rfl rfl rfl (Nat.le_of_ble_eq_true rfl) ⟨Nat.zero_le _, Nat.zero_le _⟩ dX9_match_34 (fun H locs hP hD hS => ?_)
    refine lv_iload_n hx hb dX9_match_37 rfl (lv_at hl 0 rfl) ?_
    cases hm
    exact hret _ _ _ _ dX9_match_38 hP hD hS
  unfold m_X9_match at hm
  refine lv_aload_n hx hb dX9_match_0 rfl (lv_at hl 0 rfl) ?_
  refine lv_iload_n hx hb dX9_match_1 rfl (lv_at hl 1 rfl) ?_
  obtain ⟨b1, eb1, hm⟩ := Option.bind_eq_some_iff.mp hm
  refine zVi (rest := []) [.int v1] hx hb hml hl.1 hown hT (k_X9_isObject eb1) zkX9_isObject zw735 ⟨by decide, by decide⟩ rfl rfl hK hZ hP hD hS 0 rfl rfl rfl rfl (Nat.le_of_ble_eq_true rfl) ⟨Nat.zero_le _, Nat.zero_le _⟩ dX9_match_2 (fun H locs hP hD hS => ?_)
  refine lv_if_ne (tgt := 11) hx hb dX9_match_5 (by decide) (fun h2 => ?_) (fun h2 => ?_)
  · rw [if_neg h2] at hm
    refine lv_aload_n hx hb dX9_match_11 rfl (lv_at hl 0 rfl) ?_
    refine zget (v := .ref (ad 3)) hx hb hT zinX9 hown hK hP 0 rfl rfl 3 (by decide) zw625 rfl dX9_match_12 ?_
    refine lv_iload_n hx hb dX9_match_15 rfl (lv_at hl 1 rfl) ?_
    obtain ⟨b3, eb3, hm⟩ := Option.bind_eq_some_iff.mp hm
    refine zzald hx hb hK hP 3 2 rfl rfl eb3 dX9_match_16 ?_
    refine lv_if_eq (tgt := 24) hx hb dX9_match_17 (by decide) (fun h4 => ?_) (fun h4 => ?_)
    · rw [if_pos h4] at hm
      refine lv_iconst (v := (0 : Int32)) hx hb dX9_match_24 (by decide) ?_
      exact h25 σ (0 : Int32) hm _ _ _ hP hD hS (lv_sub hl [0, 1, 2] rfl)
    · rw [if_neg h4] at hm
      refine lv_iconst (v := (1 : Int32)) hx hb dX9_match_20 (by decide) ?_
      refine lv_goto (tgt := 25) hx hb dX9_match_21 (by decide) ?_
      exact h25 σ (1 : Int32) hm _ _ _ hP hD hS (lv_sub hl [0, 1, 2] rfl)
  · rw [if_pos h2] at hm
    refine lv_ldc hx hb hown (hT _ zw750) dX9_match_8 ?_
    cases hm
    exact hret _ _ _ _ dX9_match_10 hP hD hS
set_option maxHeartbeats 4000000 in
set_option maxRecDepth 100000 in
theorem k_X9_clear {l : Launch} {D : va_G} {ad : Nat → Nat} {cI cJ cZ cO : ClassId} {t : Nat} {A : Nat → Prop} {N : Nat} {σ σ' : zS}  {r : Int32}  (hm : m_X9_clear N σ = some (r, σ')) : zCi l yX9_clear cX9_clear 2 (some .int) (zR 1 20) D zclM (zty cI cJ cZ cO) t A (zwM ad cI cJ cZ cO) [.ref (ad 0)] σ σ' r := by
  refine zMi (by decide) (Nat.le_of_ble_eq_true rfl) ?_
  intro p e s m args below meth c Q hx hb hml hown hT hK hZ hret hP hD hS ls hl
  replace hown : s.vm.findClass RX9 = some m.cls := hown
  replace hl : lv_has ls 2 [(0, .ref (ad 0))] := hl
  unfold m_X9_clear at hm
  refine lv_aload_n hx hb dX9_clear_0 rfl (lv_at hl 0 rfl) ?_
  refine zget (v := .int (σ.1 0)) hx hb hT zinX9 hown hK hP 0 rfl rfl 0 (by decide) zw622 rfl dX9_clear_1 ?_
  refine lv_istore_n (lv' := [(1, .int (σ.1 0)), (0, .ref (ad 0))]) hx hb dX9_clear_4 rfl hl (by decide) rfl (fun ls hl => ?_)
  refine lv_aload_n hx hb dX9_clear_5 rfl (lv_at hl 1 rfl) ?_
  refine lv_iconst (v := (0 : Int32)) hx hb dX9_clear_6 (by decide) ?_
  obtain ⟨σ1, eσ1, hm⟩ := Option.bind_eq_some_iff.mp hm
  refine zput (j := 0) (ty := .int) hx hb hT zinX9 tyX9 tyX9_ok nmX9 hown hK hP hD hS 0 rfl rfl 0 (by decide) zw622 rfl (by decide +kernel) rfl rfl (Nat.le_of_ble_eq_true rfl) eσ1 rfl dX9_clear_7 (fun H locs hP hD hS => ?_)
  refine lv_aload_n hx hb dX9_clear_10 rfl (lv_at hl 1 rfl) ?_
  refine lv_iconst (v := (0 : Int32)) hx hb dX9_clear_11 (by decide) ?_
  obtain ⟨σ2, eσ2, hm⟩ := Option.bind_eq_some_iff.mp hm
  refine zput (j := 1) (ty := .int) hx hb hT zinX9 tyX9 tyX9_ok nmX9 hown hK hP hD hS 0 rfl rfl 4 (by decide) zw626 rfl (by decide +kernel) rfl rfl (Nat.le_of_ble_eq_true rfl) eσ2 rfl dX9_clear_12 (fun H locs hP hD hS => ?_)
  refine lv_aload_n hx hb dX9_clear_15 rfl (lv_at hl 1 rfl) ?_
  obtain ⟨σ3, eσ3, hm⟩ := Option.bind_eq_some_iff.mp hm
  refine zVv (rest := []) [] hx hb hml hl.1 hown hT (k_X9_changes eσ3) zkX9_changes zw727 ⟨by decide, by decide⟩ rfl rfl hK hZ hP hD hS 0 rfl rfl rfl rfl (Nat.le_of_ble_eq_true rfl) ⟨Nat.zero_le _, Nat.zero_le _⟩ dX9_clear_16 (fun H locs hP hD hS => ?_)
  refine lv_iload_n hx hb dX9_clear_19 rfl (lv_at hl 0 rfl) ?_
  cases hm
  exact hret _ _ _ _ dX9_clear_20 hP hD hS
set_option maxHeartbeats 4000000 in
set_option maxRecDepth 100000 in
theorem k_X9_facet {l : Launch} {D : va_G} {ad : Nat → Nat} {cI cJ cZ cO : ClassId} {t : Nat} {A : Nat → Prop} {N : Nat} {σ σ' : zS} {v1 : Int32} {v2 : Int32} {v3 : Int32} {v4 : Int32} {r : Int32}  (hm : m_X9_facet N σ v1 v2 v3 v4 = some (r, σ')) : zCi l yX9_facet cX9_facet 6 (some .int) (zR 2 42) D zclM (zty cI cJ cZ cO) t A (zwM ad cI cJ cZ cO) [.ref (ad 0), .int v1, .int v2, .int v3, .int v4] σ σ' r := by
  refine zMi (by decide) (Nat.le_of_ble_eq_true rfl) ?_
  intro p e s m args below meth c Q hx hb hml hown hT hK hZ hret hP hD hS ls hl
  replace hown : s.vm.findClass RX9 = some m.cls := hown
  replace hl : lv_has ls 6 [(0, .ref (ad 0)), (1, .int v1), (2, .int v2), (3, .int v3), (4, .int v4)] := hl
  have h72 : ∀ (σ10 : zS), m_X9_facet_72 N v1 v2 v3 v4 σ10 = some (r, σ') → ∀ (H : Heap) (locs : List Loc) (ls : Array Slot), va_P D zclM (zwM ad cI cJ cZ cO σ10) H → va_D A (zwM ad cI cJ cZ cO σ10) → va_S A s.heap H locs → lv_has ls 6 [(0, .ref (ad 0)), (1, .int v1), (2, .int v2), (3, .int v3), (4, .int v4)] → W p l e (zR 2 42) s m args below meth c H locs 0 0 Q (F0 m 72 ls []) := by
    intro σ10 hm H locs ls hP hD hS hl
    unfold m_X9_facet_72 at hm
    refine lv_aload_n hx hb dX9_facet_72 rfl (lv_at hl 0 rfl) ?_
    refine zget (v := .int (σ10.1 1)) hx hb hT zinX9 hown hK hP 0 rfl rfl 4 (by decide) zw626 rfl dX9_facet_73 ?_
    refine lv_bipush (v := (10 : Int32)) hx hb dX9_facet_76 (by decide) ?_
    refine lv_icmp_ne (tgt := 84) hx hb dX9_facet_78 (by decide) (fun h11 => ?_) (fun h11 => ?_)
    · rw [if_neg h11] at hm
      refine lv_aload_n hx hb dX9_facet_84 rfl (lv_at hl 0 rfl) ?_
      refine zget (v := .ref (ad 4)) hx hb hT zinX9 hown hK hP 0 rfl rfl 5 (by decide) zw627 rfl dX9_facet_85 ?_
      refine lv_aload_n hx hb dX9_facet_88 rfl (lv_at hl 0 rfl) ?_
      refine zget (v := .int (σ10.1 1)) hx hb hT zinX9 hown hK hP 0 rfl rfl 4 (by decide) zw626 rfl dX9_facet_89 ?_
      refine lv_iload_n hx hb dX9_facet_92 rfl (lv_at hl 1 rfl) ?_
      obtain ⟨σ12, eσ12, hm⟩ := Option.bind_eq_some_iff.mp hm
      refine ziast (j := 3) hx hb hK hP hD hS 4 0 rfl rfl eσ12 (fun _ => rfl) dX9_facet_93 (fun H locs hP hD hS => ?_)
      refine lv_aload_n hx hb dX9_facet_94 rfl (lv_at hl 0 rfl) ?_
      refine zget (v := .ref (ad 5)) hx hb hT zinX9 hown hK hP 0 rfl rfl 6 (by decide) zw628 rfl dX9_facet_95 ?_
      refine lv_aload_n hx hb dX9_facet_98 rfl (lv_at hl 0 rfl) ?_
      refine zget (v := .int (σ12.1 1)) hx hb hT zinX9 hown hK hP 0 rfl rfl 4 (by decide) zw626 rfl dX9_facet_99 ?_
      refine lv_iload_n hx hb dX9_facet_102 rfl (lv_at hl 2 rfl) ?_
      obtain ⟨σ13, eσ13, hm⟩ := Option.bind_eq_some_iff.mp hm
      refine ziast (j := 4) hx hb hK hP hD hS 5 0 rfl rfl eσ13 (fun _ => rfl) dX9_facet_103 (fun H locs hP hD hS => ?_)
      refine lv_aload_n hx hb dX9_facet_104 rfl (lv_at hl 0 rfl) ?_
      refine zget (v := .ref (ad 6)) hx hb hT zinX9 hown hK hP 0 rfl rfl 7 (by decide) zw629 rfl dX9_facet_105 ?_
      refine lv_aload_n hx hb dX9_facet_108 rfl (lv_at hl 0 rfl) ?_
      refine zget (v := .int (σ13.1 1)) hx hb hT zinX9 hown hK hP 0 rfl rfl 4 (by decide) zw626 rfl dX9_facet_109 ?_
      refine lv_iload_n hx hb dX9_facet_112 rfl (lv_at hl 3 rfl) ?_
      obtain ⟨σ14, eσ14, hm⟩ := Option.bind_eq_some_iff.mp hm
      refine ziast (j := 5) hx hb hK hP hD hS 6 0 rfl rfl eσ14 (fun _ => rfl) dX9_facet_113 (fun H locs hP hD hS => ?_)
      refine lv_aload_n hx hb dX9_facet_114 rfl (lv_at hl 0 rfl) ?_
      refine zget (v := .ref (ad 7)) hx hb hT zinX9 hown hK hP 0 rfl rfl 8 (by decide) zw630 rfl dX9_facet_115 ?_
      refine lv_aload_n hx hb dX9_facet_118 rfl (lv_at hl 0 rfl) ?_
      refine zget (v := .int (σ14.1 1)) hx hb hT zinX9 hown hK hP 0 rfl rfl 4 (by decide) zw626 rfl dX9_facet_119 ?_
      refine lv_iload hx hb dX9_facet_122 (lv_at hl 4 rfl) ?_
      obtain ⟨σ15, eσ15, hm⟩ := Option.bind_eq_some_iff.mp hm
      refine ziast (j := 6) hx hb hK hP hD hS 7 0 rfl rfl eσ15 (fun _ => rfl) dX9_facet_124 (fun H locs hP hD hS => ?_)
      refine lv_aload_n hx hb dX9_facet_125 rfl (lv_at hl 0 rfl) ?_
      refine zget (v := .ref (ad 8)) hx hb hT zinX9 hown hK hP 0 rfl rfl 9 (by decide) zw631 rfl dX9_facet_126 ?_
      refine lv_aload_n hx hb dX9_facet_129 rfl (lv_at hl 0 rfl) ?_
      refine zget (v := .int (σ15.1 1)) hx hb hT zinX9 hown hK hP 0 rfl rfl 4 (by decide) zw626 rfl dX9_facet_130 ?_
      refine lv_iconst (v := (0 : Int32)) hx hb dX9_facet_133 (by decide) ?_
      obtain ⟨σ16, eσ16, hm⟩ := Option.bind_eq_some_iff.mp hm
      refine ziast (j := 7) hx hb hK hP hD hS 8 0 rfl rfl eσ16 (fun _ => rfl) dX9_facet_134 (fun H locs hP hD hS => ?_)
      refine lv_aload_n hx hb dX9_facet_135 rfl (lv_at hl 0 rfl) ?_
      refine zget (v := .ref (ad 11)) hx hb hT zinX9 hown hK hP 0 rfl rfl 12 (by decide) zw634 rfl dX9_facet_136 ?_
      refine lv_aload_n hx hb dX9_facet_139 rfl (lv_at hl 0 rfl) ?_
      refine zget (v := .int (σ16.1 1)) hx hb hT zinX9 hown hK hP 0 rfl rfl 4 (by decide) zw626 rfl dX9_facet_140 ?_
      refine lv_ldc hx hb hown (hT _ zw764) dX9_facet_143 ?_
      obtain ⟨σ17, eσ17, hm⟩ := Option.bind_eq_some_iff.mp hm
      refine ziast (j := 10) hx hb hK hP hD hS 11 0 rfl rfl eσ17 (fun _ => rfl) dX9_facet_145 (fun H locs hP hD hS => ?_)
      refine lv_aload_n hx hb dX9_facet_146 rfl (lv_at hl 0 rfl) ?_
      refine zget (v := .ref (ad 14)) hx hb hT zinX9 hown hK hP 0 rfl rfl 15 (by decide) zw637 rfl dX9_facet_147 ?_
      refine lv_aload_n hx hb dX9_facet_150 rfl (lv_at hl 0 rfl) ?_
      refine zget (v := .int (σ17.1 1)) hx hb hT zinX9 hown hK hP 0 rfl rfl 4 (by decide) zw626 rfl dX9_facet_151 ?_
      refine lv_iconst (v := (1 : Int32)) hx hb dX9_facet_154 (by decide) ?_
      obtain ⟨σ18, eσ18, hm⟩ := Option.bind_eq_some_iff.mp hm
      refine ziast (j := 13) hx hb hK hP hD hS 14 0 rfl rfl eσ18 (fun _ => rfl) dX9_facet_155 (fun H locs hP hD hS => ?_)
      refine lv_aload_n hx hb dX9_facet_156 rfl (lv_at hl 0 rfl) ?_
      refine zget (v := .ref (ad 15)) hx hb hT zinX9 hown hK hP 0 rfl rfl 16 (by decide) zw638 rfl dX9_facet_157 ?_
      refine lv_aload_n hx hb dX9_facet_160 rfl (lv_at hl 0 rfl) ?_
      refine zget (v := .int (σ18.1 1)) hx hb hT zinX9 hown hK hP 0 rfl rfl 4 (by decide) zw626 rfl dX9_facet_161 ?_
      refine lv_iconst (v := (0 : Int32)) hx hb dX9_facet_164 (by decide) ?_
      obtain ⟨σ19, eσ19, hm⟩ := Option.bind_eq_some_iff.mp hm
      refine zzast (j := 14) hx hb hK hP hD hS 15 2 rfl rfl eσ19 (by decide) (fun _ => rfl) dX9_facet_165 (fun H locs hP hD hS => ?_)
      refine lv_aload_n hx hb dX9_facet_166 rfl (lv_at hl 0 rfl) ?_
      refine zget (v := .ref (ad 16)) hx hb hT zinX9 hown hK hP 0 rfl rfl 17 (by decide) zw639 rfl dX9_facet_167 ?_
      refine lv_aload_n hx hb dX9_facet_170 rfl (lv_at hl 0 rfl) ?_
      refine zget (v := .int (σ19.1 1)) hx hb hT zinX9 hown hK hP 0 rfl rfl 4 (by decide) zw626 rfl dX9_facet_171 ?_
      refine lv_iconst (v := (0 : Int32)) hx hb dX9_facet_174 (by decide) ?_
      obtain ⟨σ20, eσ20, hm⟩ := Option.bind_eq_some_iff.mp hm
      refine ziast (j := 15) hx hb hK hP hD hS 16 0 rfl rfl eσ20 (fun _ => rfl) dX9_facet_175 (fun H locs hP hD hS => ?_)
      refine lv_aload_n hx hb dX9_facet_176 rfl (lv_at hl 0 rfl) ?_
      refine lv_dup hx hb dX9_facet_177 rfl ?_
      refine zget (v := .int (σ20.1 1)) hx hb hT zinX9 hown hK hP 0 rfl rfl 4 (by decide) zw626 rfl dX9_facet_178 ?_
      refine lv_iconst (v := (1 : Int32)) hx hb dX9_facet_181 (by decide) ?_
      refine lv_iadd hx hb dX9_facet_182 ?_
      obtain ⟨σ21, eσ21, hm⟩ := Option.bind_eq_some_iff.mp hm
      refine zput (j := 1) (ty := .int) hx hb hT zinX9 tyX9 tyX9_ok nmX9 hown hK hP hD hS 0 rfl rfl 4 (by decide) zw626 rfl (by decide +kernel) rfl rfl (Nat.le_of_ble_eq_true rfl) eσ21 rfl dX9_facet_183 (fun H locs hP hD hS => ?_)
      refine lv_aload_n hx hb dX9_facet_186 rfl (lv_at hl 0 rfl) ?_
      obtain ⟨σ22, eσ22, hm⟩ := Option.bind_eq_some_iff.mp hm
      refine zVv (rest := []) [] hx hb hml hl.1 hown hT (k_X9_changes eσ22) zkX9_changes zw727 ⟨by decide, by decide⟩ rfl rfl hK hZ hP hD hS 0 rfl rfl rfl rfl (Nat.le_of_ble_eq_true rfl) ⟨Nat.zero_le _, Nat.zero_le _⟩ dX9_facet_187 (fun H locs hP hD hS => ?_)
      refine lv_aload_n hx hb dX9_facet_190 rfl (lv_at hl 0 rfl) ?_
      refine zget (v := .int (σ22.1 1)) hx hb hT zinX9 hown hK hP 0 rfl rfl 4 (by decide) zw626 rfl dX9_facet_191 ?_
      refine lv_iconst (v := (1 : Int32)) hx hb dX9_facet_194 (by decide) ?_
      refine lv_isub hx hb dX9_facet_195 ?_
      cases hm
      exact hret _ _ _ _ dX9_facet_196 hP hD hS
    · rw [if_pos h11] at hm
      refine lv_ldc hx hb hown (hT _ zw726) dX9_facet_81 ?_
      cases hm
      exact hret _ _ _ _ dX9_facet_83 hP hD hS
  have h32 : ∀ (σ3 : zS) (x0_3 : Int32), m_X9_facet_32 N v1 v2 v3 v4 σ3 x0_3 = some (r, σ') → ∀ (H : Heap) (locs : List Loc) (ls : Array Slot), va_P D zclM (zwM ad cI cJ cZ cO σ3) H → va_D A (zwM ad cI cJ cZ cO σ3) → va_S A s.heap H locs → lv_has ls 6 [(0, .ref (ad 0)), (1, .int v1), (2, .int v2), (3, .int v3), (4, .int v4)] → W p l e (zR 2 42) s m args below meth c H locs 0 0 Q (F0 m 32 ls [.int x0_3]) := by
    intro σ3 x0_3 hm H locs ls hP hD hS hl
    unfold m_X9_facet_32 at hm
    refine lv_istore (lv' := [(5, .int x0_3), (0, .ref (ad 0)), (1, .int v1), (2, .int v2), (3, .int v3), (4, .int v4)]) hx hb dX9_facet_32 hl (by decide) rfl (fun ls hl => ?_)
    refine lv_iload_n hx hb dX9_facet_34 rfl (lv_at hl 2 rfl) ?_
    refine lv_iconst (v := (0 : Int32)) hx hb dX9_facet_35 (by decide) ?_
    refine lv_iconst (v := (4 : Int32)) hx hb dX9_facet_36 (by decide) ?_
    obtain ⟨b4, eb4, hm⟩ := Option.bind_eq_some_iff.mp hm
    refine zSi (rest := []) [.int v1, .int (0 : Int32), .int (4 : Int32)] hx hb hml hl.1 hown hT (k_X9_within eb4) zkX9_within zw739 ⟨by decide, by decide⟩ rfl rfl hK hZ hP hD hS rfl rfl (Nat.le_of_ble_eq_true rfl) ⟨Nat.zero_le _, Nat.zero_le _⟩ dX9_facet_37 (fun H locs hP hD hS => ?_)
    refine lv_if_eq (tgt := 69) hx hb dX9_facet_40 (by decide) (fun h5 => ?_) (fun h5 => ?_)
    · rw [if_pos h5] at hm
      refine lv_ldc hx hb hown (hT _ zw750) dX9_facet_69 ?_
      cases hm
      exact hret _ _ _ _ dX9_facet_71 hP hD hS
    · rw [if_neg h5] at hm
      refine lv_iload_n hx hb dX9_facet_43 rfl (lv_at hl 3 rfl) ?_
      obtain ⟨b6, eb6, hm⟩ := Option.bind_eq_some_iff.mp hm
      refine zSi (rest := []) [.int v2] hx hb hml hl.1 hown hT (k_X9_isColumn eb6) zkX9_isColumn zw742 ⟨by decide, by decide⟩ rfl rfl hK hZ hP hD hS rfl rfl (Nat.le_of_ble_eq_true rfl) ⟨Nat.zero_le _, Nat.zero_le _⟩ dX9_facet_44 (fun H locs hP hD hS => ?_)
      refine lv_if_eq (tgt := 69) hx hb dX9_facet_47 (by decide) (fun h7 => ?_) (fun h7 => ?_)
      · rw [if_pos h7] at hm
        refine lv_ldc hx hb hown (hT _ zw750) dX9_facet_69 ?_
        cases hm
        exact hret _ _ _ _ dX9_facet_71 hP hD hS
      · rw [if_neg h7] at hm
        refine lv_iload hx hb dX9_facet_50 (lv_at hl 0 rfl) ?_
        refine lv_if_eq (tgt := 69) hx hb dX9_facet_52 (by decide) (fun h8 => ?_) (fun h8 => ?_)
        · rw [if_pos h8] at hm
          refine lv_ldc hx hb hown (hT _ zw750) dX9_facet_69 ?_
          cases hm
          exact hret _ _ _ _ dX9_facet_71 hP hD hS
        · rw [if_neg h8] at hm
          refine lv_iload_n hx hb dX9_facet_55 rfl (lv_at hl 2 rfl) ?_
          refine lv_iconst (v := (4 : Int32)) hx hb dX9_facet_56 (by decide) ?_
          refine lv_icmp_ne (tgt := 72) hx hb dX9_facet_57 (by decide) (fun h9 => ?_) (fun h9 => ?_)
          · rw [if_neg h9] at hm
            exact h72 σ3 hm _ _ _ hP hD hS (lv_sub hl [1, 2, 3, 4, 5] rfl)
          · rw [if_pos h9] at hm
            refine lv_iload_n hx hb dX9_facet_60 rfl (lv_at hl 4 rfl) ?_
            refine lv_iconst (v := (0 : Int32)) hx hb dX9_facet_61 (by decide) ?_
            refine lv_iconst (v := (4 : Int32)) hx hb dX9_facet_62 (by decide) ?_
            obtain ⟨b23, eb23, hm⟩ := Option.bind_eq_some_iff.mp hm
            refine zSi (rest := []) [.int v3, .int (0 : Int32), .int (4 : Int32)] hx hb hml hl.1 hown hT (k_X9_within eb23) zkX9_within zw739 ⟨by decide, by decide⟩ rfl rfl hK hZ hP hD hS rfl rfl (Nat.le_of_ble_eq_true rfl) ⟨Nat.zero_le _, Nat.zero_le _⟩ dX9_facet_63 (fun H locs hP hD hS => ?_)
            refine lv_if_ne (tgt := 72) hx hb dX9_facet_66 (by decide) (fun h24 => ?_) (fun h24 => ?_)
            · rw [if_neg h24] at hm
              exact h72 σ3 hm _ _ _ hP hD hS (lv_sub hl [1, 2, 3, 4, 5] rfl)
            · rw [if_pos h24] at hm
              refine lv_ldc hx hb hown (hT _ zw750) dX9_facet_69 ?_
              cases hm
              exact hret _ _ _ _ dX9_facet_71 hP hD hS
  have h27 : ∀ (σ2 : zS), m_X9_facet_27 N v1 v2 v3 v4 σ2 = some (r, σ') → ∀ (H : Heap) (locs : List Loc) (ls : Array Slot), va_P D zclM (zwM ad cI cJ cZ cO σ2) H → va_D A (zwM ad cI cJ cZ cO σ2) → va_S A s.heap H locs → lv_has ls 6 [(0, .ref (ad 0)), (1, .int v1), (2, .int v2), (3, .int v3), (4, .int v4)] → W p l e (zR 2 42) s m args below meth c H locs 0 0 Q (F0 m 27 ls []) := by
    intro σ2 hm H locs ls hP hD hS hl
    unfold m_X9_facet_27 at hm
    refine lv_iconst (v := (1 : Int32)) hx hb dX9_facet_27 (by decide) ?_
    refine lv_goto (tgt := 32) hx hb dX9_facet_28 (by decide) ?_
    exact h32 σ2 (1 : Int32) hm _ _ _ hP hD hS (lv_sub hl [0, 1, 2, 3, 4] rfl)
  have h31 : ∀ (σ27 : zS), m_X9_facet_31 N v1 v2 v3 v4 σ27 = some (r, σ') → ∀ (H : Heap) (locs : List Loc) (ls : Array Slot), va_P D zclM (zwM ad cI cJ cZ cO σ27) H → va_D A (zwM ad cI cJ cZ cO σ27) → va_S A s.heap H locs → lv_has ls 6 [(0, .ref (ad 0)), (1, .int v1), (2, .int v2), (3, .int v3), (4, .int v4)] → W p l e (zR 2 42) s m args below meth c H locs 0 0 Q (F0 m 31 ls []) := by
    intro σ27 hm H locs ls hP hD hS hl
    unfold m_X9_facet_31 at hm
    refine lv_iconst (v := (0 : Int32)) hx hb dX9_facet_31 (by decide) ?_
    exact h32 σ27 (0 : Int32) hm _ _ _ hP hD hS (lv_sub hl [0, 1, 2, 3, 4] rfl)
  unfold m_X9_facet at hm
  refine lv_iload_n hx hb dX9_facet_0 rfl (lv_at hl 1 rfl) ?_
  refine lv_iconst (v := (3 : Int32)) hx hb dX9_facet_1 (by decide) ?_
  refine lv_icmp_ne (tgt := 27) hx hb dX9_facet_2 (by decide) (fun h1 => ?_) (fun h1 => ?_)
  · rw [if_neg h1] at hm
    exact h27 σ hm _ _ _ hP hD hS (lv_sub hl [0, 1, 2, 3, 4] rfl)
  · rw [if_pos h1] at hm
    refine lv_iload_n hx hb dX9_facet_5 rfl (lv_at hl 3 rfl) ?_
    refine lv_iconst (v := (1 : Int32)) hx hb dX9_facet_6 (by decide) ?_
    refine lv_ldc hx hb hown (hT _ zw763) dX9_facet_7 ?_
    obtain ⟨b25, eb25, hm⟩ := Option.bind_eq_some_iff.mp hm
    refine zSi (rest := []) [.int v3, .int (1 : Int32), .int (1000000 : Int32)] hx hb hml hl.1 hown hT (k_X9_within eb25) zkX9_within zw739 ⟨by decide, by decide⟩ rfl rfl hK hZ hP hD hS rfl rfl (Nat.le_of_ble_eq_true rfl) ⟨Nat.zero_le _, Nat.zero_le _⟩ dX9_facet_9 (fun H locs hP hD hS => ?_)
    refine lv_if_eq (tgt := 31) hx hb dX9_facet_12 (by decide) (fun h26 => ?_) (fun h26 => ?_)
    · rw [if_pos h26] at hm
      exact h31 σ hm _ _ _ hP hD hS (lv_sub hl [0, 1, 2, 3, 4] rfl)
    · rw [if_neg h26] at hm
      refine lv_iload hx hb dX9_facet_15 (lv_at hl 4 rfl) ?_
      refine lv_iconst (v := (0 : Int32)) hx hb dX9_facet_17 (by decide) ?_
      refine lv_iload_n hx hb dX9_facet_18 rfl (lv_at hl 3 rfl) ?_
      refine lv_iconst (v := (1 : Int32)) hx hb dX9_facet_19 (by decide) ?_
      refine lv_isub hx hb dX9_facet_20 ?_
      obtain ⟨b28, eb28, hm⟩ := Option.bind_eq_some_iff.mp hm
      refine zSi (rest := []) [.int v4, .int (0 : Int32), .int (v3 - (1 : Int32))] hx hb hml hl.1 hown hT (k_X9_within eb28) zkX9_within zw739 ⟨by decide, by decide⟩ rfl rfl hK hZ hP hD hS rfl rfl (Nat.le_of_ble_eq_true rfl) ⟨Nat.zero_le _, Nat.zero_le _⟩ dX9_facet_21 (fun H locs hP hD hS => ?_)
      refine lv_if_eq (tgt := 31) hx hb dX9_facet_24 (by decide) (fun h29 => ?_) (fun h29 => ?_)
      · rw [if_pos h29] at hm
        exact h31 σ hm _ _ _ hP hD hS (lv_sub hl [0, 1, 2, 3, 4] rfl)
      · rw [if_neg h29] at hm
        exact h27 σ hm _ _ _ hP hD hS (lv_sub hl [0, 1, 2, 3, 4] rfl)
set_option maxHeartbeats 4000000 in
set_option maxRecDepth 100000 in
theorem k_X9_range {l : Launch} {D : va_G} {ad : Nat → Nat} {cI cJ cZ cO : ClassId} {t : Nat} {A : Nat → Prop} {N : Nat} {σ σ' : zS} {v1 : Int32} {v2 : Int32} {v3 : Int32} {r : Int32}  (hm : m_X9_range N σ v1 v2 v3 = some (r, σ')) : zCi l yX9_range cX9_range 4 (some .int) (zR 2 43) D zclM (zty cI cJ cZ cO) t A (zwM ad cI cJ cZ cO) [.ref (ad 0), .int v1, .int v2, .int v3] σ σ' r := by
  refine zMi (by decide) (Nat.le_of_ble_eq_true rfl) ?_
  intro p e s m args below meth c Q hx hb hml hown hT hK hZ hret hP hD hS ls hl
  replace hown : s.vm.findClass RX9 = some m.cls := hown
  replace hl : lv_has ls 4 [(0, .ref (ad 0)), (1, .int v1), (2, .int v2), (3, .int v3)] := hl
  unfold m_X9_range at hm
  refine lv_aload_n hx hb dX9_range_0 rfl (lv_at hl 0 rfl) ?_
  refine lv_iload_n hx hb dX9_range_1 rfl (lv_at hl 1 rfl) ?_
  obtain ⟨b1, eb1, hm⟩ := Option.bind_eq_some_iff.mp hm
  refine zVi (rest := []) [.int v1] hx hb hml hl.1 hown hT (k_X9_isFacet eb1) zkX9_isFacet zw769 ⟨by decide, by decide⟩ rfl rfl hK hZ hP hD hS 0 rfl rfl rfl rfl (Nat.le_of_ble_eq_true rfl) ⟨Nat.zero_le _, Nat.zero_le _⟩ dX9_range_2 (fun H locs hP hD hS => ?_)
  refine lv_if_eq (tgt := 27) hx hb dX9_range_5 (by decide) (fun h2 => ?_) (fun h2 => ?_)
  · rw [if_pos h2] at hm
    refine lv_ldc hx hb hown (hT _ zw750) dX9_range_27 ?_
    cases hm
    exact hret _ _ _ _ dX9_range_29 hP hD hS
  · rw [if_neg h2] at hm
    refine lv_iload_n hx hb dX9_range_8 rfl (lv_at hl 2 rfl) ?_
    obtain ⟨b3, eb3, hm⟩ := Option.bind_eq_some_iff.mp hm
    refine zSi (rest := []) [.int v2] hx hb hml hl.1 hown hT (k_X9_isValue eb3) zkX9_isValue zw745 ⟨by decide, by decide⟩ rfl rfl hK hZ hP hD hS rfl rfl (Nat.le_of_ble_eq_true rfl) ⟨Nat.zero_le _, Nat.zero_le _⟩ dX9_range_9 (fun H locs hP hD hS => ?_)
    refine lv_if_eq (tgt := 27) hx hb dX9_range_12 (by decide) (fun h4 => ?_) (fun h4 => ?_)
    · rw [if_pos h4] at hm
      refine lv_ldc hx hb hown (hT _ zw750) dX9_range_27 ?_
      cases hm
      exact hret _ _ _ _ dX9_range_29 hP hD hS
    · rw [if_neg h4] at hm
      refine lv_iload_n hx hb dX9_range_15 rfl (lv_at hl 3 rfl) ?_
      obtain ⟨b5, eb5, hm⟩ := Option.bind_eq_some_iff.mp hm
      refine zSi (rest := []) [.int v3] hx hb hml hl.1 hown hT (k_X9_isValue eb5) zkX9_isValue zw745 ⟨by decide, by decide⟩ rfl rfl hK hZ hP hD hS rfl rfl (Nat.le_of_ble_eq_true rfl) ⟨Nat.zero_le _, Nat.zero_le _⟩ dX9_range_16 (fun H locs hP hD hS => ?_)
      refine lv_if_eq (tgt := 27) hx hb dX9_range_19 (by decide) (fun h6 => ?_) (fun h6 => ?_)
      · rw [if_pos h6] at hm
        refine lv_ldc hx hb hown (hT _ zw750) dX9_range_27 ?_
        cases hm
        exact hret _ _ _ _ dX9_range_29 hP hD hS
      · rw [if_neg h6] at hm
        refine lv_iload_n hx hb dX9_range_22 rfl (lv_at hl 2 rfl) ?_
        refine lv_iload_n hx hb dX9_range_23 rfl (lv_at hl 3 rfl) ?_
        refine lv_icmp_le (tgt := 30) hx hb dX9_range_24 (by decide) (fun h7 => ?_) (fun h7 => ?_)
        · rw [if_pos h7] at hm
          refine lv_aload_n hx hb dX9_range_30 rfl (lv_at hl 0 rfl) ?_
          refine zget (v := .ref (ad 4)) hx hb hT zinX9 hown hK hP 0 rfl rfl 5 (by decide) zw627 rfl dX9_range_31 ?_
          refine lv_iload_n hx hb dX9_range_34 rfl (lv_at hl 1 rfl) ?_
          obtain ⟨b8, eb8, hm⟩ := Option.bind_eq_some_iff.mp hm
          refine ziald hx hb hK hP 4 0 rfl rfl eb8 dX9_range_35 ?_
          refine lv_iconst (v := (2 : Int32)) hx hb dX9_range_36 (by decide) ?_
          refine lv_icmp_eq (tgt := 43) hx hb dX9_range_37 (by decide) (fun h9 => ?_) (fun h9 => ?_)
          · rw [if_pos h9] at hm
            refine lv_aload_n hx hb dX9_range_43 rfl (lv_at hl 0 rfl) ?_
            refine zget (v := .ref (ad 8)) hx hb hT zinX9 hown hK hP 0 rfl rfl 9 (by decide) zw631 rfl dX9_range_44 ?_
            refine lv_iload_n hx hb dX9_range_47 rfl (lv_at hl 1 rfl) ?_
            obtain ⟨b10, eb10, hm⟩ := Option.bind_eq_some_iff.mp hm
            refine ziald hx hb hK hP 8 0 rfl rfl eb10 dX9_range_48 ?_
            refine lv_bipush (v := (6 : Int32)) hx hb dX9_range_49 (by decide) ?_
            refine lv_icmp_ne (tgt := 57) hx hb dX9_range_51 (by decide) (fun h11 => ?_) (fun h11 => ?_)
            · rw [if_neg h11] at hm
              refine lv_aload_n hx hb dX9_range_57 rfl (lv_at hl 0 rfl) ?_
              refine zget (v := .ref (ad 9)) hx hb hT zinX9 hown hK hP 0 rfl rfl 10 (by decide) zw632 rfl dX9_range_58 ?_
              refine lv_bipush (v := (6 : Int32)) hx hb dX9_range_61 (by decide) ?_
              refine lv_iload_n hx hb dX9_range_63 rfl (lv_at hl 1 rfl) ?_
              refine lv_imul hx hb dX9_range_64 ?_
              refine lv_aload_n hx hb dX9_range_65 rfl (lv_at hl 0 rfl) ?_
              refine zget (v := .ref (ad 8)) hx hb hT zinX9 hown hK hP 0 rfl rfl 9 (by decide) zw631 rfl dX9_range_66 ?_
              refine lv_iload_n hx hb dX9_range_69 rfl (lv_at hl 1 rfl) ?_
              obtain ⟨b12, eb12, hm⟩ := Option.bind_eq_some_iff.mp hm
              refine ziald hx hb hK hP 8 0 rfl rfl eb12 dX9_range_70 ?_
              refine lv_iadd hx hb dX9_range_71 ?_
              refine lv_iload_n hx hb dX9_range_72 rfl (lv_at hl 2 rfl) ?_
              obtain ⟨σ13, eσ13, hm⟩ := Option.bind_eq_some_iff.mp hm
              refine ziast (j := 8) hx hb hK hP hD hS 9 0 rfl rfl eσ13 (fun _ => rfl) dX9_range_73 (fun H locs hP hD hS => ?_)
              refine lv_aload_n hx hb dX9_range_74 rfl (lv_at hl 0 rfl) ?_
              refine zget (v := .ref (ad 10)) hx hb hT zinX9 hown hK hP 0 rfl rfl 11 (by decide) zw633 rfl dX9_range_75 ?_
              refine lv_bipush (v := (6 : Int32)) hx hb dX9_range_78 (by decide) ?_
              refine lv_iload_n hx hb dX9_range_80 rfl (lv_at hl 1 rfl) ?_
              refine lv_imul hx hb dX9_range_81 ?_
              refine lv_aload_n hx hb dX9_range_82 rfl (lv_at hl 0 rfl) ?_
              refine zget (v := .ref (ad 8)) hx hb hT zinX9 hown hK hP 0 rfl rfl 9 (by decide) zw631 rfl dX9_range_83 ?_
              refine lv_iload_n hx hb dX9_range_86 rfl (lv_at hl 1 rfl) ?_
              obtain ⟨b14, eb14, hm⟩ := Option.bind_eq_some_iff.mp hm
              refine ziald hx hb hK hP 8 0 rfl rfl eb14 dX9_range_87 ?_
              refine lv_iadd hx hb dX9_range_88 ?_
              refine lv_iload_n hx hb dX9_range_89 rfl (lv_at hl 3 rfl) ?_
              obtain ⟨σ15, eσ15, hm⟩ := Option.bind_eq_some_iff.mp hm
              refine ziast (j := 9) hx hb hK hP hD hS 10 0 rfl rfl eσ15 (fun _ => rfl) dX9_range_90 (fun H locs hP hD hS => ?_)
              refine lv_aload_n hx hb dX9_range_91 rfl (lv_at hl 0 rfl) ?_
              refine zget (v := .ref (ad 8)) hx hb hT zinX9 hown hK hP 0 rfl rfl 9 (by decide) zw631 rfl dX9_range_92 ?_
              refine lv_iload_n hx hb dX9_range_95 rfl (lv_at hl 1 rfl) ?_
              refine lv_dup2_11 hx hb dX9_range_96 rfl rfl ?_
              obtain ⟨b16, eb16, hm⟩ := Option.bind_eq_some_iff.mp hm
              refine ziald hx hb hK hP 8 0 rfl rfl eb16 dX9_range_97 ?_
              refine lv_iconst (v := (1 : Int32)) hx hb dX9_range_98 (by decide) ?_
              refine lv_iadd hx hb dX9_range_99 ?_
              obtain ⟨σ17, eσ17, hm⟩ := Option.bind_eq_some_iff.mp hm
              refine ziast (j := 7) hx hb hK hP hD hS 8 0 rfl rfl eσ17 (fun _ => rfl) dX9_range_100 (fun H locs hP hD hS => ?_)
              refine lv_aload_n hx hb dX9_range_101 rfl (lv_at hl 0 rfl) ?_
              obtain ⟨σ18, eσ18, hm⟩ := Option.bind_eq_some_iff.mp hm
              refine zVv (rest := []) [] hx hb hml hl.1 hown hT (k_X9_changes eσ18) zkX9_changes zw727 ⟨by decide, by decide⟩ rfl rfl hK hZ hP hD hS 0 rfl rfl rfl rfl (Nat.le_of_ble_eq_true rfl) ⟨Nat.zero_le _, Nat.zero_le _⟩ dX9_range_102 (fun H locs hP hD hS => ?_)
              refine lv_aload_n hx hb dX9_range_105 rfl (lv_at hl 0 rfl) ?_
              refine zget (v := .ref (ad 8)) hx hb hT zinX9 hown hK hP 0 rfl rfl 9 (by decide) zw631 rfl dX9_range_106 ?_
              refine lv_iload_n hx hb dX9_range_109 rfl (lv_at hl 1 rfl) ?_
              obtain ⟨b19, eb19, hm⟩ := Option.bind_eq_some_iff.mp hm
              refine ziald hx hb hK hP 8 0 rfl rfl eb19 dX9_range_110 ?_
              refine lv_iconst (v := (1 : Int32)) hx hb dX9_range_111 (by decide) ?_
              refine lv_isub hx hb dX9_range_112 ?_
              cases hm
              exact hret _ _ _ _ dX9_range_113 hP hD hS
            · rw [if_pos h11] at hm
              refine lv_ldc hx hb hown (hT _ zw726) dX9_range_54 ?_
              cases hm
              exact hret _ _ _ _ dX9_range_56 hP hD hS
          · rw [if_neg h9] at hm
            refine lv_ldc hx hb hown (hT _ zw773) dX9_range_40 ?_
            cases hm
            exact hret _ _ _ _ dX9_range_42 hP hD hS
        · rw [if_neg h7] at hm
          refine lv_ldc hx hb hown (hT _ zw750) dX9_range_27 ?_
          cases hm
          exact hret _ _ _ _ dX9_range_29 hP hD hS
set_option maxHeartbeats 4000000 in
set_option maxRecDepth 100000 in
theorem k_X9_filter {l : Launch} {D : va_G} {ad : Nat → Nat} {cI cJ cZ cO : ClassId} {t : Nat} {A : Nat → Prop} {N : Nat} {σ σ' : zS} {v1 : Int32} {v2 : Int32} {v3 : Int32} {v4 : Int32} {r : Int32}  (hm : m_X9_filter N σ v1 v2 v3 v4 = some (r, σ')) : zCi l yX9_filter cX9_filter 6 (some .int) (zR 2 43) D zclM (zty cI cJ cZ cO) t A (zwM ad cI cJ cZ cO) [.ref (ad 0), .int v1, .int v2, .int v3, .int v4] σ σ' r := by
  refine zMi (by decide) (Nat.le_of_ble_eq_true rfl) ?_
  intro p e s m args below meth c Q hx hb hml hown hT hK hZ hret hP hD hS ls hl
  replace hown : s.vm.findClass RX9 = some m.cls := hown
  replace hl : lv_has ls 6 [(0, .ref (ad 0)), (1, .int v1), (2, .int v2), (3, .int v3), (4, .int v4)] := hl
  have h46 : ∀ (σ7 : zS) (x0_7 : Int32), m_X9_filter_46 N v1 v2 v3 v4 σ7 x0_7 = some (r, σ') → ∀ (H : Heap) (locs : List Loc) (ls : Array Slot), va_P D zclM (zwM ad cI cJ cZ cO σ7) H → va_D A (zwM ad cI cJ cZ cO σ7) → va_S A s.heap H locs → lv_has ls 6 [(0, .ref (ad 0)), (1, .int v1), (2, .int v2), (3, .int v3), (4, .int v4)] → W p l e (zR 2 43) s m args below meth c H locs 0 0 Q (F0 m 46 ls [.int x0_7]) := by
    intro σ7 x0_7 hm H locs ls hP hD hS hl
    unfold m_X9_filter_46 at hm
    refine lv_istore (lv' := [(5, .int x0_7), (0, .ref (ad 0)), (1, .int v1), (2, .int v2), (3, .int v3), (4, .int v4)]) hx hb dX9_filter_46 hl (by decide) rfl (fun ls hl => ?_)
    refine lv_aload_n hx hb dX9_filter_48 rfl (lv_at hl 1 rfl) ?_
    refine zget (v := .ref (ad 11)) hx hb hT zinX9 hown hK hP 0 rfl rfl 12 (by decide) zw634 rfl dX9_filter_49 ?_
    refine lv_iload_n hx hb dX9_filter_52 rfl (lv_at hl 2 rfl) ?_
    refine lv_iload_n hx hb dX9_filter_53 rfl (lv_at hl 3 rfl) ?_
    obtain ⟨σ8, eσ8, hm⟩ := Option.bind_eq_some_iff.mp hm
    refine ziast (j := 10) hx hb hK hP hD hS 11 0 rfl rfl eσ8 (fun _ => rfl) dX9_filter_54 (fun H locs hP hD hS => ?_)
    refine lv_aload_n hx hb dX9_filter_55 rfl (lv_at hl 1 rfl) ?_
    refine zget (v := .ref (ad 12)) hx hb hT zinX9 hown hK hP 0 rfl rfl 13 (by decide) zw635 rfl dX9_filter_56 ?_
    refine lv_iload_n hx hb dX9_filter_59 rfl (lv_at hl 2 rfl) ?_
    refine lv_iload_n hx hb dX9_filter_60 rfl (lv_at hl 4 rfl) ?_
    obtain ⟨σ9, eσ9, hm⟩ := Option.bind_eq_some_iff.mp hm
    refine ziast (j := 11) hx hb hK hP hD hS 12 0 rfl rfl eσ9 (fun _ => rfl) dX9_filter_61 (fun H locs hP hD hS => ?_)
    refine lv_aload_n hx hb dX9_filter_62 rfl (lv_at hl 1 rfl) ?_
    refine zget (v := .ref (ad 13)) hx hb hT zinX9 hown hK hP 0 rfl rfl 14 (by decide) zw636 rfl dX9_filter_63 ?_
    refine lv_iload_n hx hb dX9_filter_66 rfl (lv_at hl 2 rfl) ?_
    refine lv_iload hx hb dX9_filter_67 (lv_at hl 5 rfl) ?_
    obtain ⟨σ10, eσ10, hm⟩ := Option.bind_eq_some_iff.mp hm
    refine ziast (j := 12) hx hb hK hP hD hS 13 0 rfl rfl eσ10 (fun _ => rfl) dX9_filter_69 (fun H locs hP hD hS => ?_)
    refine lv_aload_n hx hb dX9_filter_70 rfl (lv_at hl 1 rfl) ?_
    obtain ⟨σ11, eσ11, hm⟩ := Option.bind_eq_some_iff.mp hm
    refine zVv (rest := []) [] hx hb hml hl.1 hown hT (k_X9_changes eσ11) zkX9_changes zw727 ⟨by decide, by decide⟩ rfl rfl hK hZ hP hD hS 0 rfl rfl rfl rfl (Nat.le_of_ble_eq_true rfl) ⟨Nat.zero_le _, Nat.zero_le _⟩ dX9_filter_71 (fun H locs hP hD hS => ?_)
    refine lv_iload hx hb dX9_filter_74 (lv_at hl 0 rfl) ?_
    cases hm
    exact hret _ _ _ _ dX9_filter_76 hP hD hS
  have h30 : ∀ (σ4 : zS), m_X9_filter_30 N v1 v2 v3 v4 σ4 = some (r, σ') → ∀ (H : Heap) (locs : List Loc) (ls : Array Slot), va_P D zclM (zwM ad cI cJ cZ cO σ4) H → va_D A (zwM ad cI cJ cZ cO σ4) → va_S A s.heap H locs → lv_has ls 6 [(0, .ref (ad 0)), (1, .int v1), (2, .int v2), (3, .int v3), (4, .int v4)] → W p l e (zR 2 43) s m args below meth c H locs 0 0 Q (F0 m 30 ls []) := by
    intro σ4 hm H locs ls hP hD hS hl
    unfold m_X9_filter_30 at hm
    refine lv_aload_n hx hb dX9_filter_30 rfl (lv_at hl 0 rfl) ?_
    refine zget (v := .ref (ad 11)) hx hb hT zinX9 hown hK hP 0 rfl rfl 12 (by decide) zw634 rfl dX9_filter_31 ?_
    refine lv_iload_n hx hb dX9_filter_34 rfl (lv_at hl 1 rfl) ?_
    obtain ⟨b5, eb5, hm⟩ := Option.bind_eq_some_iff.mp hm
    refine ziald hx hb hK hP 11 0 rfl rfl eb5 dX9_filter_35 ?_
    refine lv_ldc hx hb hown (hT _ zw764) dX9_filter_36 ?_
    refine lv_icmp_ne (tgt := 45) hx hb dX9_filter_38 (by decide) (fun h6 => ?_) (fun h6 => ?_)
    · rw [if_neg h6] at hm
      refine lv_iconst (v := (1 : Int32)) hx hb dX9_filter_45 (by decide) ?_
      exact h46 σ4 (1 : Int32) hm _ _ _ hP hD hS (lv_sub hl [0, 1, 2, 3, 4] rfl)
    · rw [if_pos h6] at hm
      refine lv_iconst (v := (0 : Int32)) hx hb dX9_filter_41 (by decide) ?_
      refine lv_goto (tgt := 46) hx hb dX9_filter_42 (by decide) ?_
      exact h46 σ4 (0 : Int32) hm _ _ _ hP hD hS (lv_sub hl [0, 1, 2, 3, 4] rfl)
  unfold m_X9_filter at hm
  refine lv_aload_n hx hb dX9_filter_0 rfl (lv_at hl 0 rfl) ?_
  refine lv_iload_n hx hb dX9_filter_1 rfl (lv_at hl 1 rfl) ?_
  obtain ⟨b1, eb1, hm⟩ := Option.bind_eq_some_iff.mp hm
  refine zVi (rest := []) [.int v1] hx hb hml hl.1 hown hT (k_X9_isFacet eb1) zkX9_isFacet zw769 ⟨by decide, by decide⟩ rfl rfl hK hZ hP hD hS 0 rfl rfl rfl rfl (Nat.le_of_ble_eq_true rfl) ⟨Nat.zero_le _, Nat.zero_le _⟩ dX9_filter_2 (fun H locs hP hD hS => ?_)
  refine lv_if_eq (tgt := 27) hx hb dX9_filter_5 (by decide) (fun h2 => ?_) (fun h2 => ?_)
  · rw [if_pos h2] at hm
    refine lv_ldc hx hb hown (hT _ zw750) dX9_filter_27 ?_
    cases hm
    exact hret _ _ _ _ dX9_filter_29 hP hD hS
  · rw [if_neg h2] at hm
    refine lv_iload_n hx hb dX9_filter_8 rfl (lv_at hl 2 rfl) ?_
    refine lv_ldc hx hb hown (hT _ zw764) dX9_filter_9 ?_
    refine lv_icmp_eq (tgt := 30) hx hb dX9_filter_11 (by decide) (fun h3 => ?_) (fun h3 => ?_)
    · rw [if_pos h3] at hm
      exact h30 σ hm _ _ _ hP hD hS (lv_sub hl [0, 1, 2, 3, 4] rfl)
    · rw [if_neg h3] at hm
      refine lv_iload_n hx hb dX9_filter_14 rfl (lv_at hl 2 rfl) ?_
      obtain ⟨b12, eb12, hm⟩ := Option.bind_eq_some_iff.mp hm
      refine zSi (rest := []) [.int v2] hx hb hml hl.1 hown hT (k_X9_isColumn eb12) zkX9_isColumn zw742 ⟨by decide, by decide⟩ rfl rfl hK hZ hP hD hS rfl rfl (Nat.le_of_ble_eq_true rfl) ⟨Nat.zero_le _, Nat.zero_le _⟩ dX9_filter_15 (fun H locs hP hD hS => ?_)
      refine lv_if_eq (tgt := 27) hx hb dX9_filter_18 (by decide) (fun h13 => ?_) (fun h13 => ?_)
      · rw [if_pos h13] at hm
        refine lv_ldc hx hb hown (hT _ zw750) dX9_filter_27 ?_
        cases hm
        exact hret _ _ _ _ dX9_filter_29 hP hD hS
      · rw [if_neg h13] at hm
        refine lv_iload_n hx hb dX9_filter_21 rfl (lv_at hl 3 rfl) ?_
        refine lv_iload hx hb dX9_filter_22 (lv_at hl 4 rfl) ?_
        refine lv_icmp_le (tgt := 30) hx hb dX9_filter_24 (by decide) (fun h14 => ?_) (fun h14 => ?_)
        · rw [if_pos h14] at hm
          exact h30 σ hm _ _ _ hP hD hS (lv_sub hl [0, 1, 2, 3, 4] rfl)
        · rw [if_neg h14] at hm
          refine lv_ldc hx hb hown (hT _ zw750) dX9_filter_27 ?_
          cases hm
          exact hret _ _ _ _ dX9_filter_29 hP hD hS
set_option maxHeartbeats 4000000 in
set_option maxRecDepth 100000 in
theorem k_X9_least {l : Launch} {D : va_G} {ad : Nat → Nat} {cI cJ cZ cO : ClassId} {t : Nat} {A : Nat → Prop} {N : Nat} {σ σ' : zS} {v1 : Int32} {v2 : Int32} {r : Int32}  (hm : m_X9_least N σ v1 v2 = some (r, σ')) : zCi l yX9_least cX9_least 4 (some .int) (zR 2 43) D zclM (zty cI cJ cZ cO) t A (zwM ad cI cJ cZ cO) [.ref (ad 0), .int v1, .int v2] σ σ' r := by
  refine zMi (by decide) (Nat.le_of_ble_eq_true rfl) ?_
  intro p e s m args below meth c Q hx hb hml hown hT hK hZ hret hP hD hS ls hl
  replace hown : s.vm.findClass RX9 = some m.cls := hown
  replace hl : lv_has ls 4 [(0, .ref (ad 0)), (1, .int v1), (2, .int v2)] := hl
  unfold m_X9_least at hm
  refine lv_aload_n hx hb dX9_least_0 rfl (lv_at hl 0 rfl) ?_
  refine lv_iload_n hx hb dX9_least_1 rfl (lv_at hl 1 rfl) ?_
  obtain ⟨b1, eb1, hm⟩ := Option.bind_eq_some_iff.mp hm
  refine zVi (rest := []) [.int v1] hx hb hml hl.1 hown hT (k_X9_isFacet eb1) zkX9_isFacet zw769 ⟨by decide, by decide⟩ rfl rfl hK hZ hP hD hS 0 rfl rfl rfl rfl (Nat.le_of_ble_eq_true rfl) ⟨Nat.zero_le _, Nat.zero_le _⟩ dX9_least_2 (fun H locs hP hD hS => ?_)
  refine lv_if_eq (tgt := 18) hx hb dX9_least_5 (by decide) (fun h2 => ?_) (fun h2 => ?_)
  · rw [if_pos h2] at hm
    refine lv_ldc hx hb hown (hT _ zw750) dX9_least_18 ?_
    cases hm
    exact hret _ _ _ _ dX9_least_20 hP hD hS
  · rw [if_neg h2] at hm
    refine lv_iload_n hx hb dX9_least_8 rfl (lv_at hl 2 rfl) ?_
    refine lv_iconst (v := (0 : Int32)) hx hb dX9_least_9 (by decide) ?_
    refine lv_bipush (v := (120 : Int32)) hx hb dX9_least_10 (by decide) ?_
    obtain ⟨b3, eb3, hm⟩ := Option.bind_eq_some_iff.mp hm
    refine zSi (rest := []) [.int v2, .int (0 : Int32), .int (120 : Int32)] hx hb hml hl.1 hown hT (k_X9_within eb3) zkX9_within zw739 ⟨by decide, by decide⟩ rfl rfl hK hZ hP hD hS rfl rfl (Nat.le_of_ble_eq_true rfl) ⟨Nat.zero_le _, Nat.zero_le _⟩ dX9_least_12 (fun H locs hP hD hS => ?_)
    refine lv_if_ne (tgt := 21) hx hb dX9_least_15 (by decide) (fun h4 => ?_) (fun h4 => ?_)
    · rw [if_neg h4] at hm
      refine lv_aload_n hx hb dX9_least_21 rfl (lv_at hl 0 rfl) ?_
      refine zget (v := .ref (ad 14)) hx hb hT zinX9 hown hK hP 0 rfl rfl 15 (by decide) zw637 rfl dX9_least_22 ?_
      refine lv_iload_n hx hb dX9_least_25 rfl (lv_at hl 1 rfl) ?_
      obtain ⟨b5, eb5, hm⟩ := Option.bind_eq_some_iff.mp hm
      refine ziald hx hb hK hP 14 0 rfl rfl eb5 dX9_least_26 ?_
      refine lv_istore_n (lv' := [(3, .int b5), (0, .ref (ad 0)), (1, .int v1), (2, .int v2)]) hx hb dX9_least_27 rfl hl (by decide) rfl (fun ls hl => ?_)
      refine lv_aload_n hx hb dX9_least_28 rfl (lv_at hl 1 rfl) ?_
      refine zget (v := .ref (ad 14)) hx hb hT zinX9 hown hK hP 0 rfl rfl 15 (by decide) zw637 rfl dX9_least_29 ?_
      refine lv_iload_n hx hb dX9_least_32 rfl (lv_at hl 2 rfl) ?_
      refine lv_iload_n hx hb dX9_least_33 rfl (lv_at hl 3 rfl) ?_
      obtain ⟨σ6, eσ6, hm⟩ := Option.bind_eq_some_iff.mp hm
      refine ziast (j := 13) hx hb hK hP hD hS 14 0 rfl rfl eσ6 (fun _ => rfl) dX9_least_34 (fun H locs hP hD hS => ?_)
      refine lv_aload_n hx hb dX9_least_35 rfl (lv_at hl 1 rfl) ?_
      obtain ⟨σ7, eσ7, hm⟩ := Option.bind_eq_some_iff.mp hm
      refine zVv (rest := []) [] hx hb hml hl.1 hown hT (k_X9_changes eσ7) zkX9_changes zw727 ⟨by decide, by decide⟩ rfl rfl hK hZ hP hD hS 0 rfl rfl rfl rfl (Nat.le_of_ble_eq_true rfl) ⟨Nat.zero_le _, Nat.zero_le _⟩ dX9_least_36 (fun H locs hP hD hS => ?_)
      refine lv_iload_n hx hb dX9_least_39 rfl (lv_at hl 0 rfl) ?_
      cases hm
      exact hret _ _ _ _ dX9_least_40 hP hD hS
    · rw [if_pos h4] at hm
      refine lv_ldc hx hb hown (hT _ zw750) dX9_least_18 ?_
      cases hm
      exact hret _ _ _ _ dX9_least_20 hP hD hS
set_option maxHeartbeats 4000000 in
set_option maxRecDepth 100000 in
theorem k_X9_missing {l : Launch} {D : va_G} {ad : Nat → Nat} {cI cJ cZ cO : ClassId} {t : Nat} {A : Nat → Prop} {N : Nat} {σ σ' : zS} {v1 : Int32} {v2 : Int32} {r : Int32}  (hm : m_X9_missing N σ v1 v2 = some (r, σ')) : zCi l yX9_missing cX9_missing 4 (some .int) (zR 2 43) D zclM (zty cI cJ cZ cO) t A (zwM ad cI cJ cZ cO) [.ref (ad 0), .int v1, .int v2] σ σ' r := by
  refine zMi (by decide) (Nat.le_of_ble_eq_true rfl) ?_
  intro p e s m args below meth c Q hx hb hml hown hT hK hZ hret hP hD hS ls hl
  replace hown : s.vm.findClass RX9 = some m.cls := hown
  replace hl : lv_has ls 4 [(0, .ref (ad 0)), (1, .int v1), (2, .int v2)] := hl
  have h25 : ∀ (σ5 : zS) (x0_5 : Int32), m_X9_missing_25 N v1 v2 σ5 x0_5 = some (r, σ') → ∀ (H : Heap) (locs : List Loc) (ls : Array Slot), va_P D zclM (zwM ad cI cJ cZ cO σ5) H → va_D A (zwM ad cI cJ cZ cO σ5) → va_S A s.heap H locs → lv_has ls 4 [(0, .ref (ad 0)), (1, .int v1), (2, .int v2)] → W p l e (zR 2 43) s m args below meth c H locs 0 0 Q (F0 m 25 ls [.int x0_5]) := by
    intro σ5 x0_5 hm H locs ls hP hD hS hl
    unfold m_X9_missing_25 at hm
    refine lv_istore_n (lv' := [(3, .int x0_5), (0, .ref (ad 0)), (1, .int v1), (2, .int v2)]) hx hb dX9_missing_25 rfl hl (by decide) rfl (fun ls hl => ?_)
    refine lv_aload_n hx hb dX9_missing_26 rfl (lv_at hl 1 rfl) ?_
    refine zget (v := .ref (ad 15)) hx hb hT zinX9 hown hK hP 0 rfl rfl 16 (by decide) zw638 rfl dX9_missing_27 ?_
    refine lv_iload_n hx hb dX9_missing_30 rfl (lv_at hl 2 rfl) ?_
    refine lv_iload_n hx hb dX9_missing_31 rfl (lv_at hl 3 rfl) ?_
    obtain ⟨b6, eb6, hm⟩ := Option.bind_eq_some_iff.mp hm
    obtain ⟨rfl, hzb6, hwb6, hfb6⟩ := zcz_all eb6
    obtain ⟨σ7, eσ7, hm⟩ := Option.bind_eq_some_iff.mp hm
    refine zzast (j := 14) hx hb hK hP hD hS 15 2 rfl rfl eσ7 hwb6 (fun _ => rfl) dX9_missing_32 (fun H locs hP hD hS => ?_)
    refine lv_aload_n hx hb dX9_missing_33 rfl (lv_at hl 1 rfl) ?_
    obtain ⟨σ8, eσ8, hm⟩ := Option.bind_eq_some_iff.mp hm
    refine zVv (rest := []) [] hx hb hml hl.1 hown hT (k_X9_changes eσ8) zkX9_changes zw727 ⟨by decide, by decide⟩ rfl rfl hK hZ hP hD hS 0 rfl rfl rfl rfl (Nat.le_of_ble_eq_true rfl) ⟨Nat.zero_le _, Nat.zero_le _⟩ dX9_missing_34 (fun H locs hP hD hS => ?_)
    refine lv_iload_n hx hb dX9_missing_37 rfl (lv_at hl 0 rfl) ?_
    cases hm
    exact hret _ _ _ _ dX9_missing_38 hP hD hS
  unfold m_X9_missing at hm
  refine lv_aload_n hx hb dX9_missing_0 rfl (lv_at hl 0 rfl) ?_
  refine lv_iload_n hx hb dX9_missing_1 rfl (lv_at hl 1 rfl) ?_
  obtain ⟨b1, eb1, hm⟩ := Option.bind_eq_some_iff.mp hm
  refine zVi (rest := []) [.int v1] hx hb hml hl.1 hown hT (k_X9_isFacet eb1) zkX9_isFacet zw769 ⟨by decide, by decide⟩ rfl rfl hK hZ hP hD hS 0 rfl rfl rfl rfl (Nat.le_of_ble_eq_true rfl) ⟨Nat.zero_le _, Nat.zero_le _⟩ dX9_missing_2 (fun H locs hP hD hS => ?_)
  refine lv_if_ne (tgt := 11) hx hb dX9_missing_5 (by decide) (fun h2 => ?_) (fun h2 => ?_)
  · rw [if_neg h2] at hm
    refine lv_aload_n hx hb dX9_missing_11 rfl (lv_at hl 0 rfl) ?_
    refine zget (v := .ref (ad 15)) hx hb hT zinX9 hown hK hP 0 rfl rfl 16 (by decide) zw638 rfl dX9_missing_12 ?_
    refine lv_iload_n hx hb dX9_missing_15 rfl (lv_at hl 1 rfl) ?_
    obtain ⟨b3, eb3, hm⟩ := Option.bind_eq_some_iff.mp hm
    refine zzald hx hb hK hP 15 2 rfl rfl eb3 dX9_missing_16 ?_
    refine lv_if_eq (tgt := 24) hx hb dX9_missing_17 (by decide) (fun h4 => ?_) (fun h4 => ?_)
    · rw [if_pos h4] at hm
      refine lv_iconst (v := (0 : Int32)) hx hb dX9_missing_24 (by decide) ?_
      exact h25 σ (0 : Int32) hm _ _ _ hP hD hS (lv_sub hl [0, 1, 2] rfl)
    · rw [if_neg h4] at hm
      refine lv_iconst (v := (1 : Int32)) hx hb dX9_missing_20 (by decide) ?_
      refine lv_goto (tgt := 25) hx hb dX9_missing_21 (by decide) ?_
      exact h25 σ (1 : Int32) hm _ _ _ hP hD hS (lv_sub hl [0, 1, 2] rfl)
  · rw [if_pos h2] at hm
    refine lv_ldc hx hb hown (hT _ zw750) dX9_missing_8 ?_
    cases hm
    exact hret _ _ _ _ dX9_missing_10 hP hD hS
set_option maxHeartbeats 4000000 in
set_option maxRecDepth 100000 in
theorem k_X9_order {l : Launch} {D : va_G} {ad : Nat → Nat} {cI cJ cZ cO : ClassId} {t : Nat} {A : Nat → Prop} {N : Nat} {σ σ' : zS} {v1 : Int32} {v2 : Int32} {v3 : Int32} {r : Int32}  (hm : m_X9_order N σ v1 v2 v3 = some (r, σ')) : zCi l yX9_order cX9_order 5 (some .int) (zR 2 43) D zclM (zty cI cJ cZ cO) t A (zwM ad cI cJ cZ cO) [.ref (ad 0), .int v1, .int v2, .int v3] σ σ' r := by
  refine zMi (by decide) (Nat.le_of_ble_eq_true rfl) ?_
  intro p e s m args below meth c Q hx hb hml hown hT hK hZ hret hP hD hS ls hl
  replace hown : s.vm.findClass RX9 = some m.cls := hown
  replace hl : lv_has ls 5 [(0, .ref (ad 0)), (1, .int v1), (2, .int v2), (3, .int v3)] := hl
  have h32 : ∀ (σ6 : zS), m_X9_order_32 N v1 v2 v3 σ6 = some (r, σ') → ∀ (H : Heap) (locs : List Loc) (ls : Array Slot), va_P D zclM (zwM ad cI cJ cZ cO σ6) H → va_D A (zwM ad cI cJ cZ cO σ6) → va_S A s.heap H locs → lv_has ls 5 [(0, .ref (ad 0)), (1, .int v1), (2, .int v2), (3, .int v3)] → W p l e (zR 2 43) s m args below meth c H locs 0 0 Q (F0 m 32 ls []) := by
    intro σ6 hm H locs ls hP hD hS hl
    unfold m_X9_order_32 at hm
    refine lv_aload_n hx hb dX9_order_32 rfl (lv_at hl 0 rfl) ?_
    refine zget (v := .ref (ad 16)) hx hb hT zinX9 hown hK hP 0 rfl rfl 17 (by decide) zw639 rfl dX9_order_33 ?_
    refine lv_iload_n hx hb dX9_order_36 rfl (lv_at hl 1 rfl) ?_
    obtain ⟨b7, eb7, hm⟩ := Option.bind_eq_some_iff.mp hm
    refine ziald hx hb hK hP 16 0 rfl rfl eb7 dX9_order_37 ?_
    refine lv_istore (lv' := [(4, .int b7), (0, .ref (ad 0)), (1, .int v1), (2, .int v2), (3, .int v3)]) hx hb dX9_order_38 hl (by decide) rfl (fun ls hl => ?_)
    refine lv_aload_n hx hb dX9_order_40 rfl (lv_at hl 1 rfl) ?_
    refine zget (v := .ref (ad 16)) hx hb hT zinX9 hown hK hP 0 rfl rfl 17 (by decide) zw639 rfl dX9_order_41 ?_
    refine lv_iload_n hx hb dX9_order_44 rfl (lv_at hl 2 rfl) ?_
    refine lv_iload_n hx hb dX9_order_45 rfl (lv_at hl 3 rfl) ?_
    obtain ⟨σ8, eσ8, hm⟩ := Option.bind_eq_some_iff.mp hm
    refine ziast (j := 15) hx hb hK hP hD hS 16 0 rfl rfl eσ8 (fun _ => rfl) dX9_order_46 (fun H locs hP hD hS => ?_)
    refine lv_aload_n hx hb dX9_order_47 rfl (lv_at hl 1 rfl) ?_
    refine zget (v := .ref (ad 17)) hx hb hT zinX9 hown hK hP 0 rfl rfl 18 (by decide) zw640 rfl dX9_order_48 ?_
    refine lv_iload_n hx hb dX9_order_51 rfl (lv_at hl 2 rfl) ?_
    refine lv_iload_n hx hb dX9_order_52 rfl (lv_at hl 4 rfl) ?_
    obtain ⟨σ9, eσ9, hm⟩ := Option.bind_eq_some_iff.mp hm
    refine ziast (j := 16) hx hb hK hP hD hS 17 0 rfl rfl eσ9 (fun _ => rfl) dX9_order_53 (fun H locs hP hD hS => ?_)
    refine lv_aload_n hx hb dX9_order_54 rfl (lv_at hl 1 rfl) ?_
    obtain ⟨σ10, eσ10, hm⟩ := Option.bind_eq_some_iff.mp hm
    refine zVv (rest := []) [] hx hb hml hl.1 hown hT (k_X9_changes eσ10) zkX9_changes zw727 ⟨by decide, by decide⟩ rfl rfl hK hZ hP hD hS 0 rfl rfl rfl rfl (Nat.le_of_ble_eq_true rfl) ⟨Nat.zero_le _, Nat.zero_le _⟩ dX9_order_55 (fun H locs hP hD hS => ?_)
    refine lv_iload hx hb dX9_order_58 (lv_at hl 0 rfl) ?_
    cases hm
    exact hret _ _ _ _ dX9_order_60 hP hD hS
  unfold m_X9_order at hm
  refine lv_aload_n hx hb dX9_order_0 rfl (lv_at hl 0 rfl) ?_
  refine lv_iload_n hx hb dX9_order_1 rfl (lv_at hl 1 rfl) ?_
  obtain ⟨b1, eb1, hm⟩ := Option.bind_eq_some_iff.mp hm
  refine zVi (rest := []) [.int v1] hx hb hml hl.1 hown hT (k_X9_isFacet eb1) zkX9_isFacet zw769 ⟨by decide, by decide⟩ rfl rfl hK hZ hP hD hS 0 rfl rfl rfl rfl (Nat.le_of_ble_eq_true rfl) ⟨Nat.zero_le _, Nat.zero_le _⟩ dX9_order_2 (fun H locs hP hD hS => ?_)
  refine lv_if_eq (tgt := 29) hx hb dX9_order_5 (by decide) (fun h2 => ?_) (fun h2 => ?_)
  · rw [if_pos h2] at hm
    refine lv_ldc hx hb hown (hT _ zw750) dX9_order_29 ?_
    cases hm
    exact hret _ _ _ _ dX9_order_31 hP hD hS
  · rw [if_neg h2] at hm
    refine lv_iload_n hx hb dX9_order_8 rfl (lv_at hl 2 rfl) ?_
    refine lv_iconst (v := (0 : Int32)) hx hb dX9_order_9 (by decide) ?_
    refine lv_iconst (v := (2 : Int32)) hx hb dX9_order_10 (by decide) ?_
    obtain ⟨b3, eb3, hm⟩ := Option.bind_eq_some_iff.mp hm
    refine zSi (rest := []) [.int v2, .int (0 : Int32), .int (2 : Int32)] hx hb hml hl.1 hown hT (k_X9_within eb3) zkX9_within zw739 ⟨by decide, by decide⟩ rfl rfl hK hZ hP hD hS rfl rfl (Nat.le_of_ble_eq_true rfl) ⟨Nat.zero_le _, Nat.zero_le _⟩ dX9_order_11 (fun H locs hP hD hS => ?_)
    refine lv_if_eq (tgt := 29) hx hb dX9_order_14 (by decide) (fun h4 => ?_) (fun h4 => ?_)
    · rw [if_pos h4] at hm
      refine lv_ldc hx hb hown (hT _ zw750) dX9_order_29 ?_
      cases hm
      exact hret _ _ _ _ dX9_order_31 hP hD hS
    · rw [if_neg h4] at hm
      refine lv_iload_n hx hb dX9_order_17 rfl (lv_at hl 2 rfl) ?_
      refine lv_iconst (v := (2 : Int32)) hx hb dX9_order_18 (by decide) ?_
      refine lv_icmp_ne (tgt := 32) hx hb dX9_order_19 (by decide) (fun h5 => ?_) (fun h5 => ?_)
      · rw [if_neg h5] at hm
        exact h32 σ hm _ _ _ hP hD hS (lv_sub hl [0, 1, 2, 3] rfl)
      · rw [if_pos h5] at hm
        refine lv_iload_n hx hb dX9_order_22 rfl (lv_at hl 3 rfl) ?_
        obtain ⟨b11, eb11, hm⟩ := Option.bind_eq_some_iff.mp hm
        refine zSi (rest := []) [.int v3] hx hb hml hl.1 hown hT (k_X9_isColumn eb11) zkX9_isColumn zw742 ⟨by decide, by decide⟩ rfl rfl hK hZ hP hD hS rfl rfl (Nat.le_of_ble_eq_true rfl) ⟨Nat.zero_le _, Nat.zero_le _⟩ dX9_order_23 (fun H locs hP hD hS => ?_)
        refine lv_if_ne (tgt := 32) hx hb dX9_order_26 (by decide) (fun h12 => ?_) (fun h12 => ?_)
        · rw [if_neg h12] at hm
          exact h32 σ hm _ _ _ hP hD hS (lv_sub hl [0, 1, 2, 3] rfl)
        · rw [if_pos h12] at hm
          refine lv_ldc hx hb hown (hT _ zw750) dX9_order_29 ?_
          cases hm
          exact hret _ _ _ _ dX9_order_31 hP hD hS
set_option maxHeartbeats 4000000 in
set_option maxRecDepth 100000 in
theorem k_X9_give {l : Launch} {D : va_G} {ad : Nat → Nat} {cI cJ cZ cO : ClassId} {t : Nat} {A : Nat → Prop} {N : Nat} {σ σ' : zS} {v1 : Int32}   (hm : m_X9_give N σ v1 = some σ') : zCv l yX9_give cX9_give 2 (none) (zR 0 0) D zclM (zty cI cJ cZ cO) t A (zwM ad cI cJ cZ cO) [.ref (ad 0), .int v1] σ σ' := by
  refine zMv (by decide) (Nat.le_of_ble_eq_true rfl) ?_
  intro p e s m args below meth c Q hx hb hml hown hT hK hZ hret hP hD hS ls hl
  replace hown : s.vm.findClass RX9 = some m.cls := hown
  replace hl : lv_has ls 2 [(0, .ref (ad 0)), (1, .int v1)] := hl
  unfold m_X9_give at hm
  refine lv_aload_n hx hb dX9_give_0 rfl (lv_at hl 0 rfl) ?_
  refine zget (v := .ref (ad 19)) hx hb hT zinX9 hown hK hP 0 rfl rfl 22 (by decide) zw644 rfl dX9_give_1 ?_
  refine lv_aload_n hx hb dX9_give_4 rfl (lv_at hl 0 rfl) ?_
  refine zget (v := .int (σ.1 3)) hx hb hT zinX9 hown hK hP 0 rfl rfl 21 (by decide) zw643 rfl dX9_give_5 ?_
  refine lv_iload_n hx hb dX9_give_8 rfl (lv_at hl 1 rfl) ?_
  obtain ⟨σ1, eσ1, hm⟩ := Option.bind_eq_some_iff.mp hm
  refine ziast (j := 18) hx hb hK hP hD hS 19 0 rfl rfl eσ1 (fun _ => rfl) dX9_give_9 (fun H locs hP hD hS => ?_)
  refine lv_aload_n hx hb dX9_give_10 rfl (lv_at hl 0 rfl) ?_
  refine lv_dup hx hb dX9_give_11 rfl ?_
  refine zget (v := .int (σ1.1 3)) hx hb hT zinX9 hown hK hP 0 rfl rfl 21 (by decide) zw643 rfl dX9_give_12 ?_
  refine lv_iconst (v := (1 : Int32)) hx hb dX9_give_15 (by decide) ?_
  refine lv_iadd hx hb dX9_give_16 ?_
  obtain ⟨σ2, eσ2, hm⟩ := Option.bind_eq_some_iff.mp hm
  refine zput (j := 3) (ty := .int) hx hb hT zinX9 tyX9 tyX9_ok nmX9 hown hK hP hD hS 0 rfl rfl 21 (by decide) zw643 rfl (by decide +kernel) rfl rfl (Nat.le_of_ble_eq_true rfl) eσ2 rfl dX9_give_17 (fun H locs hP hD hS => ?_)
  cases hm
  exact hret _ _ _ _ dX9_give_20 hP hD hS
set_option maxHeartbeats 4000000 in
set_option maxRecDepth 100000 in
theorem k_X9_givePaths {l : Launch} {D : va_G} {ad : Nat → Nat} {cI cJ cZ cO : ClassId} {t : Nat} {A : Nat → Prop} {N : Nat} {σ σ' : zS} {v1 : Int32}   (hm : m_X9_givePaths N σ v1 = some σ') : zCv l yX9_givePaths cX9_givePaths 4 (none) (zR 1 22) D zclM (zty cI cJ cZ cO) t A (zwM ad cI cJ cZ cO) [.ref (ad 0), .int v1] σ σ' := by
  refine zMv (by decide) (Nat.le_of_ble_eq_true rfl) ?_
  intro p e s m args below meth c Q hx hb hml hown hT hK hZ hret hP hD hS ls hl
  replace hown : s.vm.findClass RX9 = some m.cls := hown
  replace hl : lv_has ls 4 [(0, .ref (ad 0)), (1, .int v1)] := hl
  have h63 : ∀ (σ7 : zS) (v3_7 : Int32), m_X9_givePaths_63 N v1 σ7 v3_7 = some σ' → ∀ (H : Heap) (locs : List Loc) (ls : Array Slot), va_P D zclM (zwM ad cI cJ cZ cO σ7) H → va_D A (zwM ad cI cJ cZ cO σ7) → va_S A s.heap H locs → lv_has ls 4 [(0, .ref (ad 0)), (1, .int v1), (3, .int v3_7)] → W p l e (zR 1 22) s m args below meth c H locs 0 0 Q (F0 m 63 ls []) := by
    intro σ7 v3_7 hm H locs ls hP hD hS hl
    unfold m_X9_givePaths_63 at hm
    refine lv_iload_n hx hb dX9_givePaths_63 rfl (lv_at hl 2 rfl) ?_
    refine lv_if_eq (tgt := 72) hx hb dX9_givePaths_64 (by decide) (fun h8 => ?_) (fun h8 => ?_)
    · rw [if_pos h8] at hm
      cases hm
      exact hret _ _ _ _ dX9_givePaths_72 hP hD hS
    · rw [if_neg h8] at hm
      refine lv_aload_n hx hb dX9_givePaths_67 rfl (lv_at hl 0 rfl) ?_
      refine lv_iload_n hx hb dX9_givePaths_68 rfl (lv_at hl 1 rfl) ?_
      obtain ⟨σ9, eσ9, hm⟩ := Option.bind_eq_some_iff.mp hm
      refine zVv (rest := []) [.int v1] hx hb hml hl.1 hown hT (k_X9_give eσ9) zkX9_give zw810 ⟨by decide, by decide⟩ rfl rfl hK hZ hP hD hS 0 rfl rfl rfl rfl (Nat.le_of_ble_eq_true rfl) ⟨Nat.zero_le _, Nat.zero_le _⟩ dX9_givePaths_69 (fun H locs hP hD hS => ?_)
      cases hm
      exact hret _ _ _ _ dX9_givePaths_72 hP hD hS
  have h35 : ∀ (σ4 : zS) (v2_4 : Int32) (v3_4 : Int32), m_X9_givePaths_35 N v1 σ4 v2_4 v3_4 = some σ' → ∀ (H : Heap) (locs : List Loc) (ls : Array Slot), va_P D zclM (zwM ad cI cJ cZ cO σ4) H → va_D A (zwM ad cI cJ cZ cO σ4) → va_S A s.heap H locs → lv_has ls 4 [(0, .ref (ad 0)), (1, .int v1), (2, .int v2_4), (3, .int v3_4)] → W p l e (zR 1 22) s m args below meth c H locs 0 0 Q (F0 m 35 ls []) := by
    intro σ4 v2_4 v3_4 hm H locs ls hP hD hS hl
    unfold m_X9_givePaths_35 at hm
    refine lv_aload_n hx hb dX9_givePaths_35 rfl (lv_at hl 0 rfl) ?_
    refine lv_iload_n hx hb dX9_givePaths_36 rfl (lv_at hl 1 rfl) ?_
    refine lv_sipush (v := (10000 : Int32)) hx hb dX9_givePaths_37 (by decide) ?_
    refine lv_idiv hx hb dX9_givePaths_40 (by decide) ?_
    refine lv_sipush (v := (10000 : Int32)) hx hb dX9_givePaths_41 (by decide) ?_
    refine lv_imul hx hb dX9_givePaths_44 ?_
    obtain ⟨σ5, eσ5, hm⟩ := Option.bind_eq_some_iff.mp hm
    refine zVv (rest := []) [.int ((v1 / (10000 : Int32)) * (10000 : Int32))] hx hb hml hl.1 hown hT (k_X9_give eσ5) zkX9_give zw810 ⟨by decide, by decide⟩ rfl rfl hK hZ hP hD hS 0 rfl rfl rfl rfl (Nat.le_of_ble_eq_true rfl) ⟨Nat.zero_le _, Nat.zero_le _⟩ dX9_givePaths_45 (fun H locs hP hD hS => ?_)
    refine lv_iload_n hx hb dX9_givePaths_48 rfl (lv_at hl 2 rfl) ?_
    refine lv_if_eq (tgt := 63) hx hb dX9_givePaths_49 (by decide) (fun h6 => ?_) (fun h6 => ?_)
    · rw [if_pos h6] at hm
      exact h63 σ5 v3_4 hm _ _ _ hP hD hS (lv_sub hl [0, 1, 3] rfl)
    · rw [if_neg h6] at hm
      refine lv_aload_n hx hb dX9_givePaths_52 rfl (lv_at hl 0 rfl) ?_
      refine lv_iload_n hx hb dX9_givePaths_53 rfl (lv_at hl 1 rfl) ?_
      refine lv_bipush (v := (100 : Int32)) hx hb dX9_givePaths_54 (by decide) ?_
      refine lv_idiv hx hb dX9_givePaths_56 (by decide) ?_
      refine lv_bipush (v := (100 : Int32)) hx hb dX9_givePaths_57 (by decide) ?_
      refine lv_imul hx hb dX9_givePaths_59 ?_
      obtain ⟨σ10, eσ10, hm⟩ := Option.bind_eq_some_iff.mp hm
      refine zVv (rest := []) [.int ((v1 / (100 : Int32)) * (100 : Int32))] hx hb hml hl.1 hown hT (k_X9_give eσ10) zkX9_give zw810 ⟨by decide, by decide⟩ rfl rfl hK hZ hP hD hS 0 rfl rfl rfl rfl (Nat.le_of_ble_eq_true rfl) ⟨Nat.zero_le _, Nat.zero_le _⟩ dX9_givePaths_60 (fun H locs hP hD hS => ?_)
      exact h63 σ10 v3_4 hm _ _ _ hP hD hS (lv_sub hl [0, 1, 3] rfl)
  unfold m_X9_givePaths at hm
  refine lv_iload_n hx hb dX9_givePaths_0 rfl (lv_at hl 1 rfl) ?_
  refine lv_sipush (v := (10000 : Int32)) hx hb dX9_givePaths_1 (by decide) ?_
  refine lv_ldc hx hb hown (hT _ zw818) dX9_givePaths_4 ?_
  obtain ⟨b1, eb1, hm⟩ := Option.bind_eq_some_iff.mp hm
  refine zSi (rest := []) [.int v1, .int (10000 : Int32), .int (999999 : Int32)] hx hb hml hl.1 hown hT (k_X9_within eb1) zkX9_within zw739 ⟨by decide, by decide⟩ rfl rfl hK hZ hP hD hS rfl rfl (Nat.le_of_ble_eq_true rfl) ⟨Nat.zero_le _, Nat.zero_le _⟩ dX9_givePaths_6 (fun H locs hP hD hS => ?_)
  refine lv_if_ne (tgt := 13) hx hb dX9_givePaths_9 (by decide) (fun h2 => ?_) (fun h2 => ?_)
  · rw [if_neg h2] at hm
    refine lv_iload_n hx hb dX9_givePaths_13 rfl (lv_at hl 1 rfl) ?_
    refine lv_bipush (v := (100 : Int32)) hx hb dX9_givePaths_14 (by decide) ?_
    refine lv_idiv hx hb dX9_givePaths_16 (by decide) ?_
    refine lv_bipush (v := (100 : Int32)) hx hb dX9_givePaths_17 (by decide) ?_
    refine lv_irem hx hb dX9_givePaths_19 (by decide) ?_
    refine lv_istore_n (lv' := [(2, .int ((v1 / (100 : Int32)) - (v1 / (100 : Int32)) / (100 : Int32) * (100 : Int32))), (0, .ref (ad 0)), (1, .int v1)]) hx hb dX9_givePaths_20 rfl hl (by decide) rfl (fun ls hl => ?_)
    refine lv_iload_n hx hb dX9_givePaths_21 rfl (lv_at hl 2 rfl) ?_
    refine lv_bipush (v := (100 : Int32)) hx hb dX9_givePaths_22 (by decide) ?_
    refine lv_irem hx hb dX9_givePaths_24 (by decide) ?_
    refine lv_istore_n (lv' := [(3, .int (v1 - v1 / (100 : Int32) * (100 : Int32))), (2, .int ((v1 / (100 : Int32)) - (v1 / (100 : Int32)) / (100 : Int32) * (100 : Int32))), (0, .ref (ad 0)), (1, .int v1)]) hx hb dX9_givePaths_25 rfl hl (by decide) rfl (fun ls hl => ?_)
    refine lv_iload_n hx hb dX9_givePaths_26 rfl (lv_at hl 1 rfl) ?_
    refine lv_if_ne (tgt := 35) hx hb dX9_givePaths_27 (by decide) (fun h3 => ?_) (fun h3 => ?_)
    · rw [if_neg h3] at hm
      exact h35 σ ((v1 / (100 : Int32)) - (v1 / (100 : Int32)) / (100 : Int32) * (100 : Int32)) (v1 - v1 / (100 : Int32) * (100 : Int32)) hm _ _ _ hP hD hS (lv_sub hl [2, 3, 1, 0] rfl)
    · rw [if_pos h3] at hm
      refine lv_iload_n hx hb dX9_givePaths_30 rfl (lv_at hl 0 rfl) ?_
      refine lv_if_eq (tgt := 35) hx hb dX9_givePaths_31 (by decide) (fun h11 => ?_) (fun h11 => ?_)
      · rw [if_pos h11] at hm
        exact h35 σ ((v1 / (100 : Int32)) - (v1 / (100 : Int32)) / (100 : Int32) * (100 : Int32)) (v1 - v1 / (100 : Int32) * (100 : Int32)) hm _ _ _ hP hD hS (lv_sub hl [2, 3, 1, 0] rfl)
      · rw [if_neg h11] at hm
        cases hm
        exact hret _ _ _ _ dX9_givePaths_34 hP hD hS
  · rw [if_pos h2] at hm
    cases hm
    exact hret _ _ _ _ dX9_givePaths_12 hP hD hS
set_option maxHeartbeats 4000000 in
set_option maxRecDepth 100000 in
theorem k_X9_isLeap {l : Launch} {D : va_G} {ad : Nat → Nat} {cI cJ cZ cO : ClassId} {t : Nat} {A : Nat → Prop} {N : Nat} {σ : zS} {v0 : Int32} {r : Int32}  (hm : m_X9_isLeap N σ v0 = some r) : zCi l yX9_isLeap cX9_isLeap 1 (some .boolean) (zR 0 0) D zclM (zty cI cJ cZ cO) t A (zwM ad cI cJ cZ cO) [.int v0] σ σ r := by
  refine zMz (by decide) (Nat.le_of_ble_eq_true rfl) ?_
  intro p e s m args below meth c Q hx hb hml hown hT hK hZ hret hP hD hS ls hl
  replace hown : s.vm.findClass RX9 = some m.cls := hown
  replace hl : lv_has ls 1 [(0, .int v0)] := hl
  unfold m_X9_isLeap at hm
  refine lv_iload_n hx hb dX9_isLeap_0 rfl (lv_at hl 0 rfl) ?_
  refine lv_iconst (v := (4 : Int32)) hx hb dX9_isLeap_1 (by decide) ?_
  refine lv_irem hx hb dX9_isLeap_2 (by decide) ?_
  refine lv_if_ne (tgt := 25) hx hb dX9_isLeap_3 (by decide) (fun h1 => ?_) (fun h1 => ?_)
  · rw [if_neg h1] at hm
    refine lv_iconst (v := (0 : Int32)) hx hb dX9_isLeap_25 (by decide) ?_
    cases hm
    exact hret _ _ _ _ (by decide) dX9_isLeap_26 hP hD hS
  · rw [if_pos h1] at hm
    refine lv_iload_n hx hb dX9_isLeap_6 rfl (lv_at hl 0 rfl) ?_
    refine lv_bipush (v := (100 : Int32)) hx hb dX9_isLeap_7 (by decide) ?_
    refine lv_irem hx hb dX9_isLeap_9 (by decide) ?_
    refine lv_if_ne (tgt := 21) hx hb dX9_isLeap_10 (by decide) (fun h2 => ?_) (fun h2 => ?_)
    · rw [if_neg h2] at hm
      refine lv_iconst (v := (1 : Int32)) hx hb dX9_isLeap_21 (by decide) ?_
      refine lv_goto (tgt := 26) hx hb dX9_isLeap_22 (by decide) ?_
      cases hm
      exact hret _ _ _ _ (by decide) dX9_isLeap_26 hP hD hS
    · rw [if_pos h2] at hm
      refine lv_iload_n hx hb dX9_isLeap_13 rfl (lv_at hl 0 rfl) ?_
      refine lv_sipush (v := (400 : Int32)) hx hb dX9_isLeap_14 (by decide) ?_
      refine lv_irem hx hb dX9_isLeap_17 (by decide) ?_
      refine lv_if_ne (tgt := 25) hx hb dX9_isLeap_18 (by decide) (fun h3 => ?_) (fun h3 => ?_)
      · rw [if_neg h3] at hm
        refine lv_iconst (v := (0 : Int32)) hx hb dX9_isLeap_25 (by decide) ?_
        cases hm
        exact hret _ _ _ _ (by decide) dX9_isLeap_26 hP hD hS
      · rw [if_pos h3] at hm
        refine lv_iconst (v := (1 : Int32)) hx hb dX9_isLeap_21 (by decide) ?_
        refine lv_goto (tgt := 26) hx hb dX9_isLeap_22 (by decide) ?_
        cases hm
        exact hret _ _ _ _ (by decide) dX9_isLeap_26 hP hD hS
set_option maxHeartbeats 4000000 in
set_option maxRecDepth 100000 in
theorem k_X9_daysOf {l : Launch} {D : va_G} {ad : Nat → Nat} {cI cJ cZ cO : ClassId} {t : Nat} {A : Nat → Prop} {N : Nat} {σ : zS} {v0 : Int32} {v1 : Int32} {r : Int32}  (hm : m_X9_daysOf N σ v0 v1 = some r) : zCi l yX9_daysOf cX9_daysOf 2 (some .int) (zR 1 20) D zclM (zty cI cJ cZ cO) t A (zwM ad cI cJ cZ cO) [.int v0, .int v1] σ σ r := by
  refine zMi (by decide) (Nat.le_of_ble_eq_true rfl) ?_
  intro p e s m args below meth c Q hx hb hml hown hT hK hZ hret hP hD hS ls hl
  replace hown : s.vm.findClass RX9 = some m.cls := hown
  replace hl : lv_has ls 2 [(0, .int v0), (1, .int v1)] := hl
  unfold m_X9_daysOf at hm
  refine lv_iload_n hx hb dX9_daysOf_0 rfl (lv_at hl 1 rfl) ?_
  refine lv_iconst (v := (2 : Int32)) hx hb dX9_daysOf_1 (by decide) ?_
  refine lv_icmp_ne (tgt := 22) hx hb dX9_daysOf_2 (by decide) (fun h1 => ?_) (fun h1 => ?_)
  · rw [if_neg h1] at hm
    refine lv_iload_n hx hb dX9_daysOf_22 rfl (lv_at hl 1 rfl) ?_
    refine lv_iconst (v := (4 : Int32)) hx hb dX9_daysOf_23 (by decide) ?_
    refine lv_icmp_eq (tgt := 45) hx hb dX9_daysOf_24 (by decide) (fun h2 => ?_) (fun h2 => ?_)
    · rw [if_pos h2] at hm
      refine lv_bipush (v := (30 : Int32)) hx hb dX9_daysOf_45 (by decide) ?_
      refine lv_goto (tgt := 52) hx hb dX9_daysOf_47 (by decide) ?_
      cases hm
      exact hret _ _ _ _ dX9_daysOf_52 hP hD hS
    · rw [if_neg h2] at hm
      refine lv_iload_n hx hb dX9_daysOf_27 rfl (lv_at hl 1 rfl) ?_
      refine lv_bipush (v := (6 : Int32)) hx hb dX9_daysOf_28 (by decide) ?_
      refine lv_icmp_eq (tgt := 45) hx hb dX9_daysOf_30 (by decide) (fun h3 => ?_) (fun h3 => ?_)
      · rw [if_pos h3] at hm
        refine lv_bipush (v := (30 : Int32)) hx hb dX9_daysOf_45 (by decide) ?_
        refine lv_goto (tgt := 52) hx hb dX9_daysOf_47 (by decide) ?_
        cases hm
        exact hret _ _ _ _ dX9_daysOf_52 hP hD hS
      · rw [if_neg h3] at hm
        refine lv_iload_n hx hb dX9_daysOf_33 rfl (lv_at hl 1 rfl) ?_
        refine lv_bipush (v := (9 : Int32)) hx hb dX9_daysOf_34 (by decide) ?_
        refine lv_icmp_eq (tgt := 45) hx hb dX9_daysOf_36 (by decide) (fun h4 => ?_) (fun h4 => ?_)
        · rw [if_pos h4] at hm
          refine lv_bipush (v := (30 : Int32)) hx hb dX9_daysOf_45 (by decide) ?_
          refine lv_goto (tgt := 52) hx hb dX9_daysOf_47 (by decide) ?_
          cases hm
          exact hret _ _ _ _ dX9_daysOf_52 hP hD hS
        · rw [if_neg h4] at hm
          refine lv_iload_n hx hb dX9_daysOf_39 rfl (lv_at hl 1 rfl) ?_
          refine lv_bipush (v := (11 : Int32)) hx hb dX9_daysOf_40 (by decide) ?_
          refine lv_icmp_ne (tgt := 50) hx hb dX9_daysOf_42 (by decide) (fun h5 => ?_) (fun h5 => ?_)
          · rw [if_neg h5] at hm
            refine lv_bipush (v := (31 : Int32)) hx hb dX9_daysOf_50 (by decide) ?_
            cases hm
            exact hret _ _ _ _ dX9_daysOf_52 hP hD hS
          · rw [if_pos h5] at hm
            refine lv_bipush (v := (30 : Int32)) hx hb dX9_daysOf_45 (by decide) ?_
            refine lv_goto (tgt := 52) hx hb dX9_daysOf_47 (by decide) ?_
            cases hm
            exact hret _ _ _ _ dX9_daysOf_52 hP hD hS
  · rw [if_pos h1] at hm
    refine lv_iload_n hx hb dX9_daysOf_5 rfl (lv_at hl 0 rfl) ?_
    obtain ⟨b6, eb6, hm⟩ := Option.bind_eq_some_iff.mp hm
    refine zSi (rest := []) [.int v0] hx hb hml hl.1 hown hT (k_X9_isLeap eb6) zkX9_isLeap zw830 ⟨by decide, by decide⟩ rfl rfl hK hZ hP hD hS rfl rfl (Nat.le_of_ble_eq_true rfl) ⟨Nat.zero_le _, Nat.zero_le _⟩ dX9_daysOf_6 (fun H locs hP hD hS => ?_)
    refine lv_if_eq (tgt := 17) hx hb dX9_daysOf_9 (by decide) (fun h7 => ?_) (fun h7 => ?_)
    · rw [if_pos h7] at hm
      refine lv_bipush (v := (28 : Int32)) hx hb dX9_daysOf_17 (by decide) ?_
      refine lv_goto (tgt := 52) hx hb dX9_daysOf_19 (by decide) ?_
      cases hm
      exact hret _ _ _ _ dX9_daysOf_52 hP hD hS
    · rw [if_neg h7] at hm
      refine lv_bipush (v := (29 : Int32)) hx hb dX9_daysOf_12 (by decide) ?_
      refine lv_goto (tgt := 52) hx hb dX9_daysOf_14 (by decide) ?_
      cases hm
      exact hret _ _ _ _ dX9_daysOf_52 hP hD hS
set_option maxHeartbeats 4000000 in
set_option maxRecDepth 100000 in
theorem k_X9_behind {l : Launch} {D : va_G} {ad : Nat → Nat} {cI cJ cZ cO : ClassId} {t : Nat} {A : Nat → Prop} {N : Nat} {σ : zS} {v0 : Int32} {v1 : Int32} {r : Int32}  (hm : m_X9_behind N σ v0 v1 = some r) : zCi l yX9_behind cX9_behind 7 (some .int) (zR 2 41) D zclM (zty cI cJ cZ cO) t A (zwM ad cI cJ cZ cO) [.int v0, .int v1] σ σ r := by
  refine zMi (by decide) (Nat.le_of_ble_eq_true rfl) ?_
  intro p e s m args below meth c Q hx hb hml hown hT hK hZ hret hP hD hS ls hl
  replace hown : s.vm.findClass RX9 = some m.cls := hown
  replace hl : lv_has ls 7 [(0, .int v0), (1, .int v1)] := hl
  have hL6 : ∀ (q : Int32 × Int32) (r : Int32 × Int32), ziter (fun q : Int32 × Int32 => m_X9_behind_L6 N σ v0 v1 q.1 q.2) N q = some r → (∀ (H : Heap) (locs : List Loc) (ls : Array Slot), va_P D zclM (zwM ad cI cJ cZ cO σ) H → va_D A (zwM ad cI cJ cZ cO σ) → va_S A s.heap H locs → lv_has ls 7 [(1, .int v1), (2, .int r.1), (3, .int r.2)] → W p l e (zR 2 41) s m args below meth c H locs 0 0 Q (F0 m 35 ls [])) → ∀ (H : Heap) (locs : List Loc) (ls : Array Slot), va_P D zclM (zwM ad cI cJ cZ cO σ) H → va_D A (zwM ad cI cJ cZ cO σ) → va_S A s.heap H locs → lv_has ls 7 [(1, .int v1), (2, .int q.1), (3, .int q.2)] → W p l e (zR 2 41) s m args below meth c H locs 0 0 Q (F0 m 6 ls []) := by
    intro q r
    refine ziter_W (Hd := fun q : Int32 × Int32 => ∀ (H : Heap) (locs : List Loc) (ls : Array Slot), va_P D zclM (zwM ad cI cJ cZ cO σ) H → va_D A (zwM ad cI cJ cZ cO σ) → va_S A s.heap H locs → lv_has ls 7 [(1, .int v1), (2, .int q.1), (3, .int q.2)] → W p l e (zR 2 41) s m args below meth c H locs 0 0 Q (F0 m 6 ls [])) (Ex := fun r : Int32 × Int32 => ∀ (H : Heap) (locs : List Loc) (ls : Array Slot), va_P D zclM (zwM ad cI cJ cZ cO σ) H → va_D A (zwM ad cI cJ cZ cO σ) → va_S A s.heap H locs → lv_has ls 7 [(1, .int v1), (2, .int r.1), (3, .int r.2)] → W p l e (zR 2 41) s m args below meth c H locs 0 0 Q (F0 m 35 ls [])) ?_ N q r
    rintro ⟨v2_1, v3_1⟩ res hm hk H locs ls hP hD hS hl
    try dsimp only at hP hD hl
    replace hm : m_X9_behind_L6 N σ v0 v1 v2_1 v3_1 = some res := hm
    have h30 : ∀ (v3_5 : Int32) (x0_5 : Int32) (x1_5 : Int32), m_X9_behind_30_in6 N σ v0 v1 v3_5 x0_5 x1_5 = some res → ∀ (H : Heap) (locs : List Loc) (ls : Array Slot), va_P D zclM (zwM ad cI cJ cZ cO σ) H → va_D A (zwM ad cI cJ cZ cO σ) → va_S A s.heap H locs → lv_has ls 7 [(1, .int v1), (3, .int v3_5)] → W p l e (zR 2 41) s m args below meth c H locs 0 0 Q (F0 m 30 ls [.int x1_5, .int x0_5]) := by
      intro v3_5 x0_5 x1_5 hm H locs ls hP hD hS hl
      unfold m_X9_behind_30_in6 at hm
      refine lv_iadd hx hb dX9_behind_30 ?_
      refine lv_istore_n (lv' := [(2, .int (x0_5 + x1_5)), (1, .int v1), (3, .int v3_5)]) hx hb dX9_behind_31 rfl hl (by decide) rfl (fun ls hl => ?_)
      refine lv_goto (tgt := 6) hx hb dX9_behind_32 (by decide) ?_
      cases hm
      exact hk _ _ _ hP hD hS (lv_sub hl [1, 0, 2] rfl)
    unfold m_X9_behind_L6 at hm
    refine lv_iload_n hx hb dX9_behind_6 rfl (lv_at hl 1 rfl) ?_
    refine lv_if_ge (tgt := 35) hx hb dX9_behind_7 (by decide) (fun h2 => ?_) (fun h2 => ?_)
    · rw [if_pos h2] at hm
      cases hm
      exact hk _ _ _ hP hD hS (lv_sub hl [0, 1, 2] rfl)
    · rw [if_neg h2] at hm
      refine lv_iinc (v := (v3_1 + (-1 : Int32))) (lv' := [(3, .int (v3_1 + (-1 : Int32))), (1, .int v1), (2, .int v2_1)]) hx hb dX9_behind_10 hl (k := 2) rfl rfl (by decide) rfl (fun ls hl => ?_)
      refine lv_iload_n hx hb dX9_behind_13 rfl (lv_at hl 2 rfl) ?_
      refine lv_iload_n hx hb dX9_behind_14 rfl (lv_at hl 0 rfl) ?_
      obtain ⟨b3, eb3, hm⟩ := Option.bind_eq_some_iff.mp hm
      refine zSi (rest := [.int v2_1]) [.int (v3_1 + (-1 : Int32))] hx hb hml hl.1 hown hT (k_X9_isLeap eb3) zkX9_isLeap zw830 ⟨by decide, by decide⟩ rfl rfl hK hZ hP hD hS rfl rfl (Nat.le_of_ble_eq_true rfl) ⟨Nat.zero_le _, Nat.zero_le _⟩ dX9_behind_15 (fun H locs hP hD hS => ?_)
      refine lv_if_eq (tgt := 27) hx hb dX9_behind_18 (by decide) (fun h4 => ?_) (fun h4 => ?_)
      · rw [if_pos h4] at hm
        refine lv_sipush (v := (365 : Int32)) hx hb dX9_behind_27 (by decide) ?_
        exact h30 (v3_1 + (-1 : Int32)) v2_1 (365 : Int32) hm _ _ _ hP hD hS (lv_sub hl [1, 0] rfl)
      · rw [if_neg h4] at hm
        refine lv_sipush (v := (366 : Int32)) hx hb dX9_behind_21 (by decide) ?_
        refine lv_goto (tgt := 30) hx hb dX9_behind_24 (by decide) ?_
        exact h30 (v3_1 + (-1 : Int32)) v2_1 (366 : Int32) hm _ _ _ hP hD hS (lv_sub hl [1, 0] rfl)
  have hL35 : ∀ (q : Int32 × Int32) (r : Int32 × Int32), ziter (fun q : Int32 × Int32 => m_X9_behind_L35 N σ v0 v1 q.1 q.2) N q = some r → (∀ (H : Heap) (locs : List Loc) (ls : Array Slot), va_P D zclM (zwM ad cI cJ cZ cO σ) H → va_D A (zwM ad cI cJ cZ cO σ) → va_S A s.heap H locs → lv_has ls 7 [(1, .int v1), (2, .int r.1), (3, .int r.2)] → W p l e (zR 2 41) s m args below meth c H locs 0 0 Q (F0 m 80 ls [])) → ∀ (H : Heap) (locs : List Loc) (ls : Array Slot), va_P D zclM (zwM ad cI cJ cZ cO σ) H → va_D A (zwM ad cI cJ cZ cO σ) → va_S A s.heap H locs → lv_has ls 7 [(1, .int v1), (2, .int q.1), (3, .int q.2)] → W p l e (zR 2 41) s m args below meth c H locs 0 0 Q (F0 m 35 ls []) := by
    intro q r
    refine ziter_W (Hd := fun q : Int32 × Int32 => ∀ (H : Heap) (locs : List Loc) (ls : Array Slot), va_P D zclM (zwM ad cI cJ cZ cO σ) H → va_D A (zwM ad cI cJ cZ cO σ) → va_S A s.heap H locs → lv_has ls 7 [(1, .int v1), (2, .int q.1), (3, .int q.2)] → W p l e (zR 2 41) s m args below meth c H locs 0 0 Q (F0 m 35 ls [])) (Ex := fun r : Int32 × Int32 => ∀ (H : Heap) (locs : List Loc) (ls : Array Slot), va_P D zclM (zwM ad cI cJ cZ cO σ) H → va_D A (zwM ad cI cJ cZ cO σ) → va_S A s.heap H locs → lv_has ls 7 [(1, .int v1), (2, .int r.1), (3, .int r.2)] → W p l e (zR 2 41) s m args below meth c H locs 0 0 Q (F0 m 80 ls [])) ?_ N q r
    rintro ⟨v2_8, v3_8⟩ res hm hk H locs ls hP hD hS hl
    try dsimp only at hP hD hl
    replace hm : m_X9_behind_L35 N σ v0 v1 v2_8 v3_8 = some res := hm
    have h72 : ∀ (v3_15 : Int32) (x0_15 : Int32) (x1_15 : Int32), m_X9_behind_72_in35 N σ v0 v1 v3_15 x0_15 x1_15 = some res → ∀ (H : Heap) (locs : List Loc) (ls : Array Slot), va_P D zclM (zwM ad cI cJ cZ cO σ) H → va_D A (zwM ad cI cJ cZ cO σ) → va_S A s.heap H locs → lv_has ls 7 [(1, .int v1), (3, .int v3_15)] → W p l e (zR 2 41) s m args below meth c H locs 0 0 Q (F0 m 72 ls [.int x1_15, .int x0_15]) := by
      intro v3_15 x0_15 x1_15 hm H locs ls hP hD hS hl
      unfold m_X9_behind_72_in35 at hm
      refine lv_isub hx hb dX9_behind_72 ?_
      refine lv_istore_n (lv' := [(2, .int (x0_15 - x1_15)), (1, .int v1), (3, .int v3_15)]) hx hb dX9_behind_73 rfl hl (by decide) rfl (fun ls hl => ?_)
      refine lv_iinc (v := (v3_15 + (1 : Int32))) (lv' := [(3, .int (v3_15 + (1 : Int32))), (2, .int (x0_15 - x1_15)), (1, .int v1)]) hx hb dX9_behind_74 hl (k := 2) rfl rfl (by decide) rfl (fun ls hl => ?_)
      refine lv_goto (tgt := 35) hx hb dX9_behind_77 (by decide) ?_
      cases hm
      exact hk _ _ _ hP hD hS (lv_sub hl [2, 1, 0] rfl)
    have h52 : ∀ (v2_11 : Int32) (v3_11 : Int32) (x0_11 : Int32) (x1_11 : Int32), m_X9_behind_52_in35 N σ v0 v1 v2_11 v3_11 x0_11 x1_11 = some res → ∀ (H : Heap) (locs : List Loc) (ls : Array Slot), va_P D zclM (zwM ad cI cJ cZ cO σ) H → va_D A (zwM ad cI cJ cZ cO σ) → va_S A s.heap H locs → lv_has ls 7 [(1, .int v1), (2, .int v2_11), (3, .int v3_11)] → W p l e (zR 2 41) s m args below meth c H locs 0 0 Q (F0 m 52 ls [.int x1_11, .int x0_11]) := by
      intro v2_11 v3_11 x0_11 x1_11 hm H locs ls hP hD hS hl
      unfold m_X9_behind_52_in35 at hm
      refine lv_icmp_lt (tgt := 80) hx hb dX9_behind_52 (by decide) (fun h12 => ?_) (fun h12 => ?_)
      · rw [if_pos h12] at hm
        cases hm
        exact hk _ _ _ hP hD hS (lv_sub hl [0, 1, 2] rfl)
      · rw [if_neg h12] at hm
        refine lv_iload_n hx hb dX9_behind_55 rfl (lv_at hl 1 rfl) ?_
        refine lv_iload_n hx hb dX9_behind_56 rfl (lv_at hl 2 rfl) ?_
        obtain ⟨b13, eb13, hm⟩ := Option.bind_eq_some_iff.mp hm
        refine zSi (rest := [.int v2_11]) [.int v3_11] hx hb hml hl.1 hown hT (k_X9_isLeap eb13) zkX9_isLeap zw830 ⟨by decide, by decide⟩ rfl rfl hK hZ hP hD hS rfl rfl (Nat.le_of_ble_eq_true rfl) ⟨Nat.zero_le _, Nat.zero_le _⟩ dX9_behind_57 (fun H locs hP hD hS => ?_)
        refine lv_if_eq (tgt := 69) hx hb dX9_behind_60 (by decide) (fun h14 => ?_) (fun h14 => ?_)
        · rw [if_pos h14] at hm
          refine lv_sipush (v := (365 : Int32)) hx hb dX9_behind_69 (by decide) ?_
          exact h72 v3_11 v2_11 (365 : Int32) hm _ _ _ hP hD hS (lv_sub hl [0, 2] rfl)
        · rw [if_neg h14] at hm
          refine lv_sipush (v := (366 : Int32)) hx hb dX9_behind_63 (by decide) ?_
          refine lv_goto (tgt := 72) hx hb dX9_behind_66 (by decide) ?_
          exact h72 v3_11 v2_11 (366 : Int32) hm _ _ _ hP hD hS (lv_sub hl [0, 2] rfl)
    unfold m_X9_behind_L35 at hm
    refine lv_iload_n hx hb dX9_behind_35 rfl (lv_at hl 1 rfl) ?_
    refine lv_iload_n hx hb dX9_behind_36 rfl (lv_at hl 2 rfl) ?_
    obtain ⟨b9, eb9, hm⟩ := Option.bind_eq_some_iff.mp hm
    refine zSi (rest := [.int v2_8]) [.int v3_8] hx hb hml hl.1 hown hT (k_X9_isLeap eb9) zkX9_isLeap zw830 ⟨by decide, by decide⟩ rfl rfl hK hZ hP hD hS rfl rfl (Nat.le_of_ble_eq_true rfl) ⟨Nat.zero_le _, Nat.zero_le _⟩ dX9_behind_37 (fun H locs hP hD hS => ?_)
    refine lv_if_eq (tgt := 49) hx hb dX9_behind_40 (by decide) (fun h10 => ?_) (fun h10 => ?_)
    · rw [if_pos h10] at hm
      refine lv_sipush (v := (365 : Int32)) hx hb dX9_behind_49 (by decide) ?_
      exact h52 v2_8 v3_8 v2_8 (365 : Int32) hm _ _ _ hP hD hS (lv_sub hl [0, 1, 2] rfl)
    · rw [if_neg h10] at hm
      refine lv_sipush (v := (366 : Int32)) hx hb dX9_behind_43 (by decide) ?_
      refine lv_goto (tgt := 52) hx hb dX9_behind_46 (by decide) ?_
      exact h52 v2_8 v3_8 v2_8 (366 : Int32) hm _ _ _ hP hD hS (lv_sub hl [0, 1, 2] rfl)
  have hL89 : ∀ (v2_19 : Int32) (v3_19 : Int32), ∀ (q : Int32 × Int32 × Int32) (r : Int32 × Int32), ziter (fun q : Int32 × Int32 × Int32 => m_X9_behind_L89 N σ v0 v1 v2_19 v3_19 q.1 q.2.1 q.2.2) N q = some r → (∀ (H : Heap) (locs : List Loc) (ls : Array Slot), va_P D zclM (zwM ad cI cJ cZ cO σ) H → va_D A (zwM ad cI cJ cZ cO σ) → va_S A s.heap H locs → lv_has ls 7 [(1, .int v1), (2, .int v2_19), (4, .int r.1), (6, .int r.2)] → W p l e (zR 2 41) s m args below meth c H locs 0 0 Q (F0 m 143 ls [])) → ∀ (H : Heap) (locs : List Loc) (ls : Array Slot), va_P D zclM (zwM ad cI cJ cZ cO σ) H → va_D A (zwM ad cI cJ cZ cO σ) → va_S A s.heap H locs → lv_has ls 7 [(1, .int v1), (2, .int v2_19), (3, .int v3_19), (4, .int q.1), (5, .int q.2.1), (6, .int q.2.2)] → W p l e (zR 2 41) s m args below meth c H locs 0 0 Q (F0 m 89 ls []) := by
    intro v2_19 v3_19
    intro q r
    refine ziter_W (Hd := fun q : Int32 × Int32 × Int32 => ∀ (H : Heap) (locs : List Loc) (ls : Array Slot), va_P D zclM (zwM ad cI cJ cZ cO σ) H → va_D A (zwM ad cI cJ cZ cO σ) → va_S A s.heap H locs → lv_has ls 7 [(1, .int v1), (2, .int v2_19), (3, .int v3_19), (4, .int q.1), (5, .int q.2.1), (6, .int q.2.2)] → W p l e (zR 2 41) s m args below meth c H locs 0 0 Q (F0 m 89 ls [])) (Ex := fun r : Int32 × Int32 => ∀ (H : Heap) (locs : List Loc) (ls : Array Slot), va_P D zclM (zwM ad cI cJ cZ cO σ) H → va_D A (zwM ad cI cJ cZ cO σ) → va_S A s.heap H locs → lv_has ls 7 [(1, .int v1), (2, .int v2_19), (4, .int r.1), (6, .int r.2)] → W p l e (zR 2 41) s m args below meth c H locs 0 0 Q (F0 m 143 ls [])) ?_ N q r
    rintro ⟨v4_19, v5_19, v6_19⟩ res hm hk H locs ls hP hD hS hl
    try dsimp only at hP hD hl
    replace hm : m_X9_behind_L89 N σ v0 v1 v2_19 v3_19 v4_19 v5_19 v6_19 = some res := hm
    have h135 : ∀ (v4_25 : Int32) (v5_25 : Int32) (x0_25 : Int32), m_X9_behind_135_in89 N σ v0 v1 v2_19 v3_19 v4_25 v5_25 x0_25 = some res → ∀ (H : Heap) (locs : List Loc) (ls : Array Slot), va_P D zclM (zwM ad cI cJ cZ cO σ) H → va_D A (zwM ad cI cJ cZ cO σ) → va_S A s.heap H locs → lv_has ls 7 [(1, .int v1), (2, .int v2_19), (3, .int v3_19), (4, .int v4_25), (5, .int v5_25)] → W p l e (zR 2 41) s m args below meth c H locs 0 0 Q (F0 m 135 ls [.int x0_25]) := by
      intro v4_25 v5_25 x0_25 hm H locs ls hP hD hS hl
      unfold m_X9_behind_135_in89 at hm
      refine lv_istore (lv' := [(6, .int x0_25), (1, .int v1), (2, .int v2_19), (3, .int v3_19), (4, .int v4_25), (5, .int v5_25)]) hx hb dX9_behind_135 hl (by decide) rfl (fun ls hl => ?_)
      refine lv_iinc (v := (v5_25 + (1 : Int32))) (lv' := [(5, .int (v5_25 + (1 : Int32))), (6, .int x0_25), (1, .int v1), (2, .int v2_19), (3, .int v3_19), (4, .int v4_25)]) hx hb dX9_behind_137 hl (k := 5) rfl rfl (by decide) rfl (fun ls hl => ?_)
      refine lv_goto (tgt := 89) hx hb dX9_behind_140 (by decide) ?_
      cases hm
      exact hk _ _ _ hP hD hS (lv_sub hl [2, 3, 4, 5, 0, 1] rfl)
    unfold m_X9_behind_L89 at hm
    refine lv_iload hx hb dX9_behind_89 (lv_at hl 3 rfl) ?_
    refine lv_iload_n hx hb dX9_behind_91 rfl (lv_at hl 2 rfl) ?_
    refine lv_iload hx hb dX9_behind_92 (lv_at hl 4 rfl) ?_
    obtain ⟨b20, eb20, hm⟩ := Option.bind_eq_some_iff.mp hm
    refine zSi (rest := [.int v4_19]) [.int v3_19, .int v5_19] hx hb hml hl.1 hown hT (k_X9_daysOf eb20) zkX9_daysOf zw833 ⟨by decide, by decide⟩ rfl rfl hK hZ hP hD hS rfl rfl (Nat.le_of_ble_eq_true rfl) ⟨Nat.zero_le _, Nat.zero_le _⟩ dX9_behind_94 (fun H locs hP hD hS => ?_)
    refine lv_icmp_lt (tgt := 143) hx hb dX9_behind_97 (by decide) (fun h21 => ?_) (fun h21 => ?_)
    · rw [if_pos h21] at hm
      cases hm
      exact hk _ _ _ hP hD hS (lv_sub hl [0, 1, 3, 5] rfl)
    · rw [if_neg h21] at hm
      refine lv_iload hx hb dX9_behind_100 (lv_at hl 3 rfl) ?_
      refine lv_iload_n hx hb dX9_behind_102 rfl (lv_at hl 2 rfl) ?_
      refine lv_iload hx hb dX9_behind_103 (lv_at hl 4 rfl) ?_
      obtain ⟨b22, eb22, hm⟩ := Option.bind_eq_some_iff.mp hm
      refine zSi (rest := [.int v4_19]) [.int v3_19, .int v5_19] hx hb hml hl.1 hown hT (k_X9_daysOf eb22) zkX9_daysOf zw833 ⟨by decide, by decide⟩ rfl rfl hK hZ hP hD hS rfl rfl (Nat.le_of_ble_eq_true rfl) ⟨Nat.zero_le _, Nat.zero_le _⟩ dX9_behind_105 (fun H locs hP hD hS => ?_)
      refine lv_isub hx hb dX9_behind_108 ?_
      refine lv_istore (lv' := [(4, .int (v4_19 - b22)), (1, .int v1), (2, .int v2_19), (3, .int v3_19), (5, .int v5_19), (6, .int v6_19)]) hx hb dX9_behind_109 hl (by decide) rfl (fun ls hl => ?_)
      refine lv_iload hx hb dX9_behind_111 (lv_at hl 5 rfl) ?_
      refine lv_iload_n hx hb dX9_behind_113 rfl (lv_at hl 3 rfl) ?_
      refine lv_iload hx hb dX9_behind_114 (lv_at hl 4 rfl) ?_
      obtain ⟨b23, eb23, hm⟩ := Option.bind_eq_some_iff.mp hm
      refine zSi (rest := [.int v6_19]) [.int v3_19, .int v5_19] hx hb hml hl.1 hown hT (k_X9_daysOf eb23) zkX9_daysOf zw833 ⟨by decide, by decide⟩ rfl rfl hK hZ hP hD hS rfl rfl (Nat.le_of_ble_eq_true rfl) ⟨Nat.zero_le _, Nat.zero_le _⟩ dX9_behind_116 (fun H locs hP hD hS => ?_)
      refine lv_iadd hx hb dX9_behind_119 ?_
      refine lv_istore (lv' := [(6, .int (v6_19 + b23)), (4, .int (v4_19 - b22)), (1, .int v1), (2, .int v2_19), (3, .int v3_19), (5, .int v5_19)]) hx hb dX9_behind_120 hl (by decide) rfl (fun ls hl => ?_)
      refine lv_iload hx hb dX9_behind_122 (lv_at hl 5 rfl) ?_
      refine lv_iconst (v := (3 : Int32)) hx hb dX9_behind_124 (by decide) ?_
      refine lv_irem hx hb dX9_behind_125 (by decide) ?_
      refine lv_if_ne (tgt := 133) hx hb dX9_behind_126 (by decide) (fun h24 => ?_) (fun h24 => ?_)
      · rw [if_neg h24] at hm
        refine lv_iload hx hb dX9_behind_133 (lv_at hl 0 rfl) ?_
        exact h135 (v4_19 - b22) v5_19 (v6_19 + b23) hm _ _ _ hP hD hS (lv_sub hl [2, 3, 4, 1, 5] rfl)
      · rw [if_pos h24] at hm
        refine lv_iconst (v := (0 : Int32)) hx hb dX9_behind_129 (by decide) ?_
        refine lv_goto (tgt := 135) hx hb dX9_behind_130 (by decide) ?_
        exact h135 (v4_19 - b22) v5_19 (0 : Int32) hm _ _ _ hP hD hS (lv_sub hl [2, 3, 4, 1, 5] rfl)
  have h143 : ∀ (v2_28 : Int32) (v4_28 : Int32) (v6_28 : Int32), m_X9_behind_143 N σ v0 v1 v2_28 v4_28 v6_28 = some r → ∀ (H : Heap) (locs : List Loc) (ls : Array Slot), va_P D zclM (zwM ad cI cJ cZ cO σ) H → va_D A (zwM ad cI cJ cZ cO σ) → va_S A s.heap H locs → lv_has ls 7 [(1, .int v1), (2, .int v2_28), (4, .int v4_28), (6, .int v6_28)] → W p l e (zR 2 41) s m args below meth c H locs 0 0 Q (F0 m 143 ls []) := by
    intro v2_28 v4_28 v6_28 hm H locs ls hP hD hS hl
    unfold m_X9_behind_143 at hm
    refine lv_iload_n hx hb dX9_behind_143 rfl (lv_at hl 0 rfl) ?_
    refine lv_iconst (v := (2 : Int32)) hx hb dX9_behind_144 (by decide) ?_
    refine lv_icmp_ne (tgt := 153) hx hb dX9_behind_145 (by decide) (fun h29 => ?_) (fun h29 => ?_)
    · rw [if_neg h29] at hm
      refine lv_iload_n hx hb dX9_behind_153 rfl (lv_at hl 0 rfl) ?_
      refine lv_iconst (v := (3 : Int32)) hx hb dX9_behind_154 (by decide) ?_
      refine lv_icmp_ne (tgt := 166) hx hb dX9_behind_155 (by decide) (fun h30 => ?_) (fun h30 => ?_)
      · rw [if_neg h30] at hm
        refine lv_iload_n hx hb dX9_behind_166 rfl (lv_at hl 1 rfl) ?_
        cases hm
        exact hret _ _ _ _ dX9_behind_167 hP hD hS
      · rw [if_pos h30] at hm
        refine lv_iload hx hb dX9_behind_158 (lv_at hl 2 rfl) ?_
        refine lv_iload hx hb dX9_behind_160 (lv_at hl 3 rfl) ?_
        refine lv_iadd hx hb dX9_behind_162 ?_
        refine lv_goto (tgt := 167) hx hb dX9_behind_163 (by decide) ?_
        cases hm
        exact hret _ _ _ _ dX9_behind_167 hP hD hS
    · rw [if_pos h29] at hm
      refine lv_iload hx hb dX9_behind_148 (lv_at hl 2 rfl) ?_
      refine lv_goto (tgt := 167) hx hb dX9_behind_150 (by decide) ?_
      cases hm
      exact hret _ _ _ _ dX9_behind_167 hP hD hS
  have h80 : ∀ (v2_18 : Int32) (v3_18 : Int32), m_X9_behind_80 N σ v0 v1 v2_18 v3_18 = some r → ∀ (H : Heap) (locs : List Loc) (ls : Array Slot), va_P D zclM (zwM ad cI cJ cZ cO σ) H → va_D A (zwM ad cI cJ cZ cO σ) → va_S A s.heap H locs → lv_has ls 7 [(1, .int v1), (2, .int v2_18), (3, .int v3_18)] → W p l e (zR 2 41) s m args below meth c H locs 0 0 Q (F0 m 80 ls []) := by
    intro v2_18 v3_18 hm H locs ls hP hD hS hl
    unfold m_X9_behind_80 at hm
    refine lv_iload_n hx hb dX9_behind_80 rfl (lv_at hl 1 rfl) ?_
    refine lv_istore (lv' := [(4, .int v2_18), (1, .int v1), (2, .int v2_18), (3, .int v3_18)]) hx hb dX9_behind_81 hl (by decide) rfl (fun ls hl => ?_)
    refine lv_iconst (v := (1 : Int32)) hx hb dX9_behind_83 (by decide) ?_
    refine lv_istore (lv' := [(5, .int (1 : Int32)), (4, .int v2_18), (1, .int v1), (2, .int v2_18), (3, .int v3_18)]) hx hb dX9_behind_84 hl (by decide) rfl (fun ls hl => ?_)
    refine lv_iconst (v := (0 : Int32)) hx hb dX9_behind_86 (by decide) ?_
    refine lv_istore (lv' := [(6, .int (0 : Int32)), (5, .int (1 : Int32)), (4, .int v2_18), (1, .int v1), (2, .int v2_18), (3, .int v3_18)]) hx hb dX9_behind_87 hl (by decide) rfl (fun ls hl => ?_)
    obtain ⟨r26, e31, hm⟩ := Option.bind_eq_some_iff.mp hm
    refine hL89 v2_18 v3_18 _ r26 e31 ?_ _ _ _ hP hD hS (lv_sub hl [3, 4, 5, 2, 1, 0] rfl)
    obtain ⟨v4_27, v6_27⟩ := r26
    intro H locs ls hP hD hS hl
    try dsimp only at hP hD hl
    replace hm : m_X9_behind_143 N σ v0 v1 v2_18 v4_27 v6_27 = some r := hm
    exact h143 v2_18 v4_27 v6_27 hm _ _ _ hP hD hS (lv_sub hl [0, 1, 2, 3] rfl)
  unfold m_X9_behind at hm
  refine lv_iload_n hx hb dX9_behind_0 rfl (lv_at hl 0 rfl) ?_
  refine lv_istore_n (lv' := [(2, .int v0), (0, .int v0), (1, .int v1)]) hx hb dX9_behind_1 rfl hl (by decide) rfl (fun ls hl => ?_)
  refine lv_sipush (v := (1970 : Int32)) hx hb dX9_behind_2 (by decide) ?_
  refine lv_istore_n (lv' := [(3, .int (1970 : Int32)), (2, .int v0), (0, .int v0), (1, .int v1)]) hx hb dX9_behind_5 rfl hl (by decide) rfl (fun ls hl => ?_)
  obtain ⟨r6, e33, hm⟩ := Option.bind_eq_some_iff.mp hm
  refine hL6  _ r6 e33 ?_ _ _ _ hP hD hS (lv_sub hl [3, 1, 0] rfl)
  obtain ⟨v2_7, v3_7⟩ := r6
  intro H locs ls hP hD hS hl
  try dsimp only at hP hD hl
  replace hm : (ziter (fun q : Int32 × Int32 => m_X9_behind_L35 N σ v0 v1 q.1 q.2) N (v2_7, v3_7)).bind (fun y : Int32 × Int32 => m_X9_behind_80 N σ v0 v1 y.1 y.2) = some r := hm
  obtain ⟨r16, e32, hm⟩ := Option.bind_eq_some_iff.mp hm
  refine hL35  _ r16 e32 ?_ _ _ _ hP hD hS (lv_sub hl [0, 1, 2] rfl)
  obtain ⟨v2_17, v3_17⟩ := r16
  intro H locs ls hP hD hS hl
  try dsimp only at hP hD hl
  replace hm : m_X9_behind_80 N σ v0 v1 v2_17 v3_17 = some r := hm
  exact h80 v2_17 v3_17 hm _ _ _ hP hD hS (lv_sub hl [0, 1, 2] rfl)
set_option maxHeartbeats 4000000 in
set_option maxRecDepth 100000 in
theorem k_X9_modulo {l : Launch} {D : va_G} {ad : Nat → Nat} {cI cJ cZ cO : ClassId} {t : Nat} {A : Nat → Prop} {N : Nat} {σ : zS} {v0 : Int32} {v1 : Int32} {r : Int32}  (hm : m_X9_modulo N σ v0 v1 = some r) : zCi l yX9_modulo cX9_modulo 3 (some .int) (zR 0 0) D zclM (zty cI cJ cZ cO) t A (zwM ad cI cJ cZ cO) [.int v0, .int v1] σ σ r := by
  refine zMi (by decide) (Nat.le_of_ble_eq_true rfl) ?_
  intro p e s m args below meth c Q hx hb hml hown hT hK hZ hret hP hD hS ls hl
  replace hown : s.vm.findClass RX9 = some m.cls := hown
  replace hl : lv_has ls 3 [(0, .int v0), (1, .int v1)] := hl
  unfold m_X9_modulo at hm
  refine lv_iload_n hx hb dX9_modulo_0 rfl (lv_at hl 0 rfl) ?_
  refine lv_iload_n hx hb dX9_modulo_1 rfl (lv_at hl 1 rfl) ?_
  obtain ⟨b1, eb1, hm⟩ := Option.bind_eq_some_iff.mp hm
  refine lv_irem hx hb dX9_modulo_2 (zrm_some eb1).1 ?_
  rw [(zrm_some eb1).2]
  refine lv_istore_n (lv' := [(2, .int b1), (0, .int v0), (1, .int v1)]) hx hb dX9_modulo_3 rfl hl (by decide) rfl (fun ls hl => ?_)
  refine lv_iload_n hx hb dX9_modulo_4 rfl (lv_at hl 0 rfl) ?_
  refine lv_if_ge (tgt := 14) hx hb dX9_modulo_5 (by decide) (fun h2 => ?_) (fun h2 => ?_)
  · rw [if_pos h2] at hm
    refine lv_iload_n hx hb dX9_modulo_14 rfl (lv_at hl 0 rfl) ?_
    cases hm
    exact hret _ _ _ _ dX9_modulo_15 hP hD hS
  · rw [if_neg h2] at hm
    refine lv_iload_n hx hb dX9_modulo_8 rfl (lv_at hl 0 rfl) ?_
    refine lv_iload_n hx hb dX9_modulo_9 rfl (lv_at hl 2 rfl) ?_
    refine lv_iadd hx hb dX9_modulo_10 ?_
    refine lv_goto (tgt := 15) hx hb dX9_modulo_11 (by decide) ?_
    cases hm
    exact hret _ _ _ _ dX9_modulo_15 hP hD hS
set_option maxHeartbeats 4000000 in
set_option maxRecDepth 100000 in
theorem k_X9_giveDays {l : Launch} {D : va_G} {ad : Nat → Nat} {cI cJ cZ cO : ClassId} {t : Nat} {A : Nat → Prop} {N : Nat} {σ σ' : zS} {v1 : Int32} {v2 : Int32}   (hm : m_X9_giveDays N σ v1 v2 = some σ') : zCv l yX9_giveDays cX9_giveDays 3 (none) (zR 3 67) D zclM (zty cI cJ cZ cO) t A (zwM ad cI cJ cZ cO) [.ref (ad 0), .int v1, .int v2] σ σ' := by
  refine zMv (by decide) (Nat.le_of_ble_eq_true rfl) ?_
  intro p e s m args below meth c Q hx hb hml hown hT hK hZ hret hP hD hS ls hl
  replace hown : s.vm.findClass RX9 = some m.cls := hown
  replace hl : lv_has ls 3 [(0, .ref (ad 0)), (1, .int v1), (2, .int v2)] := hl
  unfold m_X9_giveDays at hm
  refine lv_iload_n hx hb dX9_giveDays_0 rfl (lv_at hl 1 rfl) ?_
  refine lv_ldc hx hb hown (hT _ zw826) dX9_giveDays_1 ?_
  refine lv_ldc hx hb hown (hT _ zw763) dX9_giveDays_3 ?_
  obtain ⟨b1, eb1, hm⟩ := Option.bind_eq_some_iff.mp hm
  refine zSi (rest := []) [.int v1, .int (-1000000 : Int32), .int (1000000 : Int32)] hx hb hml hl.1 hown hT (k_X9_within eb1) zkX9_within zw739 ⟨by decide, by decide⟩ rfl rfl hK hZ hP hD hS rfl rfl (Nat.le_of_ble_eq_true rfl) ⟨Nat.zero_le _, Nat.zero_le _⟩ dX9_giveDays_5 (fun H locs hP hD hS => ?_)
  refine lv_if_eq (tgt := 48) hx hb dX9_giveDays_8 (by decide) (fun h2 => ?_) (fun h2 => ?_)
  · rw [if_pos h2] at hm
    cases hm
    exact hret _ _ _ _ dX9_giveDays_48 hP hD hS
  · rw [if_neg h2] at hm
    refine lv_aload_n hx hb dX9_giveDays_11 rfl (lv_at hl 0 rfl) ?_
    refine lv_iload_n hx hb dX9_giveDays_12 rfl (lv_at hl 2 rfl) ?_
    refine lv_if_ne (tgt := 20) hx hb dX9_giveDays_13 (by decide) (fun h3 => ?_) (fun h3 => ?_)
    · rw [if_neg h3] at hm
      refine lv_iload_n hx hb dX9_giveDays_20 rfl (lv_at hl 2 rfl) ?_
      refine lv_iconst (v := (1 : Int32)) hx hb dX9_giveDays_21 (by decide) ?_
      refine lv_icmp_ne (tgt := 38) hx hb dX9_giveDays_22 (by decide) (fun h4 => ?_) (fun h4 => ?_)
      · rw [if_neg h4] at hm
        refine lv_iload_n hx hb dX9_giveDays_38 rfl (lv_at hl 1 rfl) ?_
        refine lv_iload_n hx hb dX9_giveDays_39 rfl (lv_at hl 1 rfl) ?_
        refine lv_iload_n hx hb dX9_giveDays_40 rfl (lv_at hl 2 rfl) ?_
        obtain ⟨b5, eb5, hm⟩ := Option.bind_eq_some_iff.mp hm
        refine zSi (rest := [.int v1, .ref (ad 0)]) [.int v1, .int v2] hx hb hml hl.1 hown hT (k_X9_behind eb5) zkX9_behind zw827 ⟨by decide, by decide⟩ rfl rfl hK hZ hP hD hS rfl rfl (Nat.le_of_ble_eq_true rfl) ⟨Nat.zero_le _, Nat.zero_le _⟩ dX9_giveDays_41 (fun H locs hP hD hS => ?_)
        refine lv_isub hx hb dX9_giveDays_44 ?_
        obtain ⟨σ6, eσ6, hm⟩ := Option.bind_eq_some_iff.mp hm
        refine zVv (rest := []) [.int (v1 - b5)] hx hb hml hl.1 hown hT (k_X9_give eσ6) zkX9_give zw810 ⟨by decide, by decide⟩ rfl rfl hK hZ hP hD hS 0 rfl rfl rfl rfl (Nat.le_of_ble_eq_true rfl) ⟨Nat.zero_le _, Nat.zero_le _⟩ dX9_giveDays_45 (fun H locs hP hD hS => ?_)
        cases hm
        exact hret _ _ _ _ dX9_giveDays_48 hP hD hS
      · rw [if_pos h4] at hm
        refine lv_iload_n hx hb dX9_giveDays_25 rfl (lv_at hl 1 rfl) ?_
        refine lv_iload_n hx hb dX9_giveDays_26 rfl (lv_at hl 1 rfl) ?_
        refine lv_iconst (v := (3 : Int32)) hx hb dX9_giveDays_27 (by decide) ?_
        refine lv_iadd hx hb dX9_giveDays_28 ?_
        refine lv_bipush (v := (7 : Int32)) hx hb dX9_giveDays_29 (by decide) ?_
        obtain ⟨b7, eb7, hm⟩ := Option.bind_eq_some_iff.mp hm
        refine zSi (rest := [.int v1, .ref (ad 0)]) [.int (v1 + (3 : Int32)), .int (7 : Int32)] hx hb hml hl.1 hown hT (k_X9_modulo eb7) zkX9_modulo zw819 ⟨by decide, by decide⟩ rfl rfl hK hZ hP hD hS rfl rfl (Nat.le_of_ble_eq_true rfl) ⟨Nat.zero_le _, Nat.zero_le _⟩ dX9_giveDays_31 (fun H locs hP hD hS => ?_)
        refine lv_isub hx hb dX9_giveDays_34 ?_
        refine lv_goto (tgt := 45) hx hb dX9_giveDays_35 (by decide) ?_
        obtain ⟨σ8, eσ8, hm⟩ := Option.bind_eq_some_iff.mp hm
        refine zVv (rest := []) [.int (v1 - b7)] hx hb hml hl.1 hown hT (k_X9_give eσ8) zkX9_give zw810 ⟨by decide, by decide⟩ rfl rfl hK hZ hP hD hS 0 rfl rfl rfl rfl (Nat.le_of_ble_eq_true rfl) ⟨Nat.zero_le _, Nat.zero_le _⟩ dX9_giveDays_45 (fun H locs hP hD hS => ?_)
        cases hm
        exact hret _ _ _ _ dX9_giveDays_48 hP hD hS
    · rw [if_pos h3] at hm
      refine lv_iload_n hx hb dX9_giveDays_16 rfl (lv_at hl 1 rfl) ?_
      refine lv_goto (tgt := 45) hx hb dX9_giveDays_17 (by decide) ?_
      obtain ⟨σ9, eσ9, hm⟩ := Option.bind_eq_some_iff.mp hm
      refine zVv (rest := []) [.int v1] hx hb hml hl.1 hown hT (k_X9_give eσ9) zkX9_give zw810 ⟨by decide, by decide⟩ rfl rfl hK hZ hP hD hS 0 rfl rfl rfl rfl (Nat.le_of_ble_eq_true rfl) ⟨Nat.zero_le _, Nat.zero_le _⟩ dX9_giveDays_45 (fun H locs hP hD hS => ?_)
      cases hm
      exact hret _ _ _ _ dX9_giveDays_48 hP hD hS
set_option maxHeartbeats 4000000 in
set_option maxRecDepth 100000 in
theorem k_X9_giveKeys {l : Launch} {D : va_G} {ad : Nat → Nat} {cI cJ cZ cO : ClassId} {t : Nat} {A : Nat → Prop} {N : Nat} {σ σ' : zS} {v1 : Int32} {v2 : Int32}   (hm : m_X9_giveKeys N σ v1 v2 = some σ') : zCv l yX9_giveKeys cX9_giveKeys 4 (none) (zR 4 89) D zclM (zty cI cJ cZ cO) t A (zwM ad cI cJ cZ cO) [.ref (ad 0), .int v1, .int v2] σ σ' := by
  refine zMv (by decide) (Nat.le_of_ble_eq_true rfl) ?_
  intro p e s m args below meth c Q hx hb hml hown hT hK hZ hret hP hD hS ls hl
  replace hown : s.vm.findClass RX9 = some m.cls := hown
  replace hl : lv_has ls 4 [(0, .ref (ad 0)), (1, .int v1), (2, .int v2)] := hl
  have hL58 : ∀ (q : zS × Int32) (r : zS), ziter (fun q : zS × Int32 => m_X9_giveKeys_L58 N v1 v2 q.1 q.2) N q = some r → (∀ (H : Heap) (locs : List Loc) (ls : Array Slot), va_P D zclM (zwM ad cI cJ cZ cO r) H → va_D A (zwM ad cI cJ cZ cO r) → va_S A s.heap H locs → lv_has ls 4 [] → W p l e (zR 4 89) s m args below meth c H locs 0 0 Q (F0 m 108 ls [])) → ∀ (H : Heap) (locs : List Loc) (ls : Array Slot), va_P D zclM (zwM ad cI cJ cZ cO q.1) H → va_D A (zwM ad cI cJ cZ cO q.1) → va_S A s.heap H locs → lv_has ls 4 [(0, .ref (ad 0)), (1, .int v1), (2, .int v2), (3, .int q.2)] → W p l e (zR 4 89) s m args below meth c H locs 0 0 Q (F0 m 58 ls []) := by
    intro q r
    refine ziter_W (Hd := fun q : zS × Int32 => ∀ (H : Heap) (locs : List Loc) (ls : Array Slot), va_P D zclM (zwM ad cI cJ cZ cO q.1) H → va_D A (zwM ad cI cJ cZ cO q.1) → va_S A s.heap H locs → lv_has ls 4 [(0, .ref (ad 0)), (1, .int v1), (2, .int v2), (3, .int q.2)] → W p l e (zR 4 89) s m args below meth c H locs 0 0 Q (F0 m 58 ls [])) (Ex := fun r : zS => ∀ (H : Heap) (locs : List Loc) (ls : Array Slot), va_P D zclM (zwM ad cI cJ cZ cO r) H → va_D A (zwM ad cI cJ cZ cO r) → va_S A s.heap H locs → lv_has ls 4 [] → W p l e (zR 4 89) s m args below meth c H locs 0 0 Q (F0 m 108 ls [])) ?_ N q r
    rintro ⟨σ8, v3_8⟩ res hm hk H locs ls hP hD hS hl
    try dsimp only at hP hD hl
    replace hm : m_X9_giveKeys_L58 N v1 v2 σ8 v3_8 = some res := hm
    have h102 : ∀ (σ15 : zS) (v3_15 : Int32), m_X9_giveKeys_102_in58 N v1 v2 σ15 v3_15 = some res → ∀ (H : Heap) (locs : List Loc) (ls : Array Slot), va_P D zclM (zwM ad cI cJ cZ cO σ15) H → va_D A (zwM ad cI cJ cZ cO σ15) → va_S A s.heap H locs → lv_has ls 4 [(0, .ref (ad 0)), (1, .int v1), (2, .int v2), (3, .int v3_15)] → W p l e (zR 4 89) s m args below meth c H locs 0 0 Q (F0 m 102 ls []) := by
      intro σ15 v3_15 hm H locs ls hP hD hS hl
      unfold m_X9_giveKeys_102_in58 at hm
      refine lv_iinc (v := (v3_15 + (1 : Int32))) (lv' := [(3, .int (v3_15 + (1 : Int32))), (0, .ref (ad 0)), (1, .int v1), (2, .int v2)]) hx hb dX9_giveKeys_102 hl (k := 3) rfl rfl (by decide) rfl (fun ls hl => ?_)
      refine lv_goto (tgt := 58) hx hb dX9_giveKeys_105 (by decide) ?_
      cases hm
      exact hk _ _ _ hP hD hS (lv_sub hl [1, 2, 3, 0] rfl)
    unfold m_X9_giveKeys_L58 at hm
    refine lv_iload_n hx hb dX9_giveKeys_58 rfl (lv_at hl 3 rfl) ?_
    refine lv_aload_n hx hb dX9_giveKeys_59 rfl (lv_at hl 0 rfl) ?_
    refine zget (v := .ref (ad 8)) hx hb hT zinX9 hown hK hP 0 rfl rfl 9 (by decide) zw631 rfl dX9_giveKeys_60 ?_
    refine lv_iload_n hx hb dX9_giveKeys_63 rfl (lv_at hl 1 rfl) ?_
    obtain ⟨b9, eb9, hm⟩ := Option.bind_eq_some_iff.mp hm
    refine ziald hx hb hK hP 8 0 rfl rfl eb9 dX9_giveKeys_64 ?_
    refine lv_icmp_ge (tgt := 108) hx hb dX9_giveKeys_65 (by decide) (fun h10 => ?_) (fun h10 => ?_)
    · rw [if_pos h10] at hm
      cases hm
      exact hk _ _ _ hP hD hS (lv_sub hl [] rfl)
    · rw [if_neg h10] at hm
      refine lv_iload_n hx hb dX9_giveKeys_68 rfl (lv_at hl 2 rfl) ?_
      refine lv_aload_n hx hb dX9_giveKeys_69 rfl (lv_at hl 0 rfl) ?_
      refine zget (v := .ref (ad 9)) hx hb hT zinX9 hown hK hP 0 rfl rfl 10 (by decide) zw632 rfl dX9_giveKeys_70 ?_
      refine lv_bipush (v := (6 : Int32)) hx hb dX9_giveKeys_73 (by decide) ?_
      refine lv_iload_n hx hb dX9_giveKeys_75 rfl (lv_at hl 1 rfl) ?_
      refine lv_imul hx hb dX9_giveKeys_76 ?_
      refine lv_iload_n hx hb dX9_giveKeys_77 rfl (lv_at hl 3 rfl) ?_
      refine lv_iadd hx hb dX9_giveKeys_78 ?_
      obtain ⟨b11, eb11, hm⟩ := Option.bind_eq_some_iff.mp hm
      refine ziald hx hb hK hP 9 0 rfl rfl eb11 dX9_giveKeys_79 ?_
      refine lv_aload_n hx hb dX9_giveKeys_80 rfl (lv_at hl 0 rfl) ?_
      refine zget (v := .ref (ad 10)) hx hb hT zinX9 hown hK hP 0 rfl rfl 11 (by decide) zw633 rfl dX9_giveKeys_81 ?_
      refine lv_bipush (v := (6 : Int32)) hx hb dX9_giveKeys_84 (by decide) ?_
      refine lv_iload_n hx hb dX9_giveKeys_86 rfl (lv_at hl 1 rfl) ?_
      refine lv_imul hx hb dX9_giveKeys_87 ?_
      refine lv_iload_n hx hb dX9_giveKeys_88 rfl (lv_at hl 3 rfl) ?_
      refine lv_iadd hx hb dX9_giveKeys_89 ?_
      obtain ⟨b12, eb12, hm⟩ := Option.bind_eq_some_iff.mp hm
      refine ziald hx hb hK hP 10 0 rfl rfl eb12 dX9_giveKeys_90 ?_
      obtain ⟨b13, eb13, hm⟩ := Option.bind_eq_some_iff.mp hm
      refine zSi (rest := []) [.int v2, .int b11, .int b12] hx hb hml hl.1 hown hT (k_X9_within eb13) zkX9_within zw739 ⟨by decide, by decide⟩ rfl rfl hK hZ hP hD hS rfl rfl (Nat.le_of_ble_eq_true rfl) ⟨Nat.zero_le _, Nat.zero_le _⟩ dX9_giveKeys_91 (fun H locs hP hD hS => ?_)
      refine lv_if_eq (tgt := 102) hx hb dX9_giveKeys_94 (by decide) (fun h14 => ?_) (fun h14 => ?_)
      · rw [if_pos h14] at hm
        exact h102 σ8 v3_8 hm _ _ _ hP hD hS (lv_sub hl [0, 1, 2, 3] rfl)
      · rw [if_neg h14] at hm
        refine lv_aload_n hx hb dX9_giveKeys_97 rfl (lv_at hl 0 rfl) ?_
        refine lv_iload_n hx hb dX9_giveKeys_98 rfl (lv_at hl 3 rfl) ?_
        obtain ⟨σ16, eσ16, hm⟩ := Option.bind_eq_some_iff.mp hm
        refine zVv (rest := []) [.int v3_8] hx hb hml hl.1 hown hT (k_X9_give eσ16) zkX9_give zw810 ⟨by decide, by decide⟩ rfl rfl hK hZ hP hD hS 0 rfl rfl rfl rfl (Nat.le_of_ble_eq_true rfl) ⟨Nat.zero_le _, Nat.zero_le _⟩ dX9_giveKeys_99 (fun H locs hP hD hS => ?_)
        exact h102 σ16 v3_8 hm _ _ _ hP hD hS (lv_sub hl [0, 1, 2, 3] rfl)
  have h108 : ∀ (σ19 : zS), m_X9_giveKeys_108 N v1 v2 σ19 = some σ' → ∀ (H : Heap) (locs : List Loc) (ls : Array Slot), va_P D zclM (zwM ad cI cJ cZ cO σ19) H → va_D A (zwM ad cI cJ cZ cO σ19) → va_S A s.heap H locs → lv_has ls 4 [] → W p l e (zR 4 89) s m args below meth c H locs 0 0 Q (F0 m 108 ls []) := by
    intro σ19 hm H locs ls hP hD hS hl
    unfold m_X9_giveKeys_108 at hm
    refine lv_goto (tgt := 148) hx hb dX9_giveKeys_108 (by decide) ?_
    cases hm
    exact hret _ _ _ _ dX9_giveKeys_148 hP hD hS
  unfold m_X9_giveKeys at hm
  refine lv_aload_n hx hb dX9_giveKeys_0 rfl (lv_at hl 0 rfl) ?_
  refine lv_iconst (v := (0 : Int32)) hx hb dX9_giveKeys_1 (by decide) ?_
  obtain ⟨σ1, eσ1, hm⟩ := Option.bind_eq_some_iff.mp hm
  refine zput (j := 3) (ty := .int) hx hb hT zinX9 tyX9 tyX9_ok nmX9 hown hK hP hD hS 0 rfl rfl 21 (by decide) zw643 rfl (by decide +kernel) rfl rfl (Nat.le_of_ble_eq_true rfl) eσ1 rfl dX9_giveKeys_2 (fun H locs hP hD hS => ?_)
  refine lv_aload_n hx hb dX9_giveKeys_5 rfl (lv_at hl 0 rfl) ?_
  refine zget (v := .ref (ad 4)) hx hb hT zinX9 hown hK hP 0 rfl rfl 5 (by decide) zw627 rfl dX9_giveKeys_6 ?_
  refine lv_iload_n hx hb dX9_giveKeys_9 rfl (lv_at hl 1 rfl) ?_
  obtain ⟨b2, eb2, hm⟩ := Option.bind_eq_some_iff.mp hm
  refine ziald hx hb hK hP 4 0 rfl rfl eb2 dX9_giveKeys_10 ?_
  by_cases h3 : b2 = (0 : Int32)
  · rw [if_pos h3] at hm
    refine lv_tableIn (off := 29) (tgt := 40) hx hb dX9_giveKeys_11 (by rw [h3]; decide) (by rw [h3]; decide) (by rw [h3]; rfl) (by decide) ?_
    refine lv_aload_n hx hb dX9_giveKeys_40 rfl (lv_at hl 0 rfl) ?_
    refine lv_iload_n hx hb dX9_giveKeys_41 rfl (lv_at hl 2 rfl) ?_
    obtain ⟨σ4, eσ4, hm⟩ := Option.bind_eq_some_iff.mp hm
    refine zVv (rest := []) [.int v2] hx hb hml hl.1 hown hT (k_X9_give eσ4) zkX9_give zw810 ⟨by decide, by decide⟩ rfl rfl hK hZ hP hD hS 0 rfl rfl rfl rfl (Nat.le_of_ble_eq_true rfl) ⟨Nat.zero_le _, Nat.zero_le _⟩ dX9_giveKeys_42 (fun H locs hP hD hS => ?_)
    refine lv_goto (tgt := 148) hx hb dX9_giveKeys_45 (by decide) ?_
    cases hm
    exact hret _ _ _ _ dX9_giveKeys_148 hP hD hS
  · rw [if_neg h3] at hm
    by_cases h5 : b2 = (1 : Int32)
    · rw [if_pos h5] at hm
      refine lv_tableIn (off := 37) (tgt := 48) hx hb dX9_giveKeys_11 (by rw [h5]; decide) (by rw [h5]; decide) (by rw [h5]; rfl) (by decide) ?_
      refine lv_aload_n hx hb dX9_giveKeys_48 rfl (lv_at hl 0 rfl) ?_
      refine lv_iload_n hx hb dX9_giveKeys_49 rfl (lv_at hl 2 rfl) ?_
      obtain ⟨σ6, eσ6, hm⟩ := Option.bind_eq_some_iff.mp hm
      refine zVv (rest := []) [.int v2] hx hb hml hl.1 hown hT (k_X9_givePaths eσ6) zkX9_givePaths zw814 ⟨by decide, by decide⟩ rfl rfl hK hZ hP hD hS 0 rfl rfl rfl rfl (Nat.le_of_ble_eq_true rfl) ⟨Nat.zero_le _, Nat.zero_le _⟩ dX9_giveKeys_50 (fun H locs hP hD hS => ?_)
      refine lv_goto (tgt := 148) hx hb dX9_giveKeys_53 (by decide) ?_
      cases hm
      exact hret _ _ _ _ dX9_giveKeys_148 hP hD hS
    · rw [if_neg h5] at hm
      by_cases h7 : b2 = (2 : Int32)
      · rw [if_pos h7] at hm
        refine lv_tableIn (off := 45) (tgt := 56) hx hb dX9_giveKeys_11 (by rw [h7]; decide) (by rw [h7]; decide) (by rw [h7]; rfl) (by decide) ?_
        refine lv_iconst (v := (0 : Int32)) hx hb dX9_giveKeys_56 (by decide) ?_
        refine lv_istore_n (lv' := [(3, .int (0 : Int32)), (0, .ref (ad 0)), (1, .int v1), (2, .int v2)]) hx hb dX9_giveKeys_57 rfl hl (by decide) rfl (fun ls hl => ?_)
        obtain ⟨σ18, e20, hm⟩ := Option.bind_eq_some_iff.mp hm
        refine hL58  _ σ18 e20 ?_ _ _ _ hP hD hS (lv_sub hl [1, 2, 3, 0] rfl)
        intro H locs ls hP hD hS hl
        try dsimp only at hP hD hl
        replace hm : m_X9_giveKeys_108 N v1 v2 σ18 = some σ' := hm
        exact h108 σ18 hm _ _ _ hP hD hS (lv_sub hl [] rfl)
      · rw [if_neg h7] at hm
        by_cases h21 : b2 = (3 : Int32)
        · rw [if_pos h21] at hm
          refine lv_tableIn (off := 100) (tgt := 111) hx hb dX9_giveKeys_11 (by rw [h21]; decide) (by rw [h21]; decide) (by rw [h21]; rfl) (by decide) ?_
          refine lv_aload_n hx hb dX9_giveKeys_111 rfl (lv_at hl 0 rfl) ?_
          refine lv_iload_n hx hb dX9_giveKeys_112 rfl (lv_at hl 2 rfl) ?_
          refine lv_iload_n hx hb dX9_giveKeys_113 rfl (lv_at hl 2 rfl) ?_
          refine lv_aload_n hx hb dX9_giveKeys_114 rfl (lv_at hl 0 rfl) ?_
          refine zget (v := .ref (ad 7)) hx hb hT zinX9 hown hK hP 0 rfl rfl 8 (by decide) zw630 rfl dX9_giveKeys_115 ?_
          refine lv_iload_n hx hb dX9_giveKeys_118 rfl (lv_at hl 1 rfl) ?_
          obtain ⟨b22, eb22, hm⟩ := Option.bind_eq_some_iff.mp hm
          refine ziald hx hb hK hP 7 0 rfl rfl eb22 dX9_giveKeys_119 ?_
          refine lv_isub hx hb dX9_giveKeys_120 ?_
          refine lv_aload_n hx hb dX9_giveKeys_121 rfl (lv_at hl 0 rfl) ?_
          refine zget (v := .ref (ad 6)) hx hb hT zinX9 hown hK hP 0 rfl rfl 7 (by decide) zw629 rfl dX9_giveKeys_122 ?_
          refine lv_iload_n hx hb dX9_giveKeys_125 rfl (lv_at hl 1 rfl) ?_
          obtain ⟨b23, eb23, hm⟩ := Option.bind_eq_some_iff.mp hm
          refine ziald hx hb hK hP 6 0 rfl rfl eb23 dX9_giveKeys_126 ?_
          obtain ⟨b24, eb24, hm⟩ := Option.bind_eq_some_iff.mp hm
          refine zSi (rest := [.int v2, .ref (ad 0)]) [.int (v2 - b22), .int b23] hx hb hml hl.1 hown hT (k_X9_modulo eb24) zkX9_modulo zw819 ⟨by decide, by decide⟩ rfl rfl hK hZ hP hD hS rfl rfl (Nat.le_of_ble_eq_true rfl) ⟨Nat.zero_le _, Nat.zero_le _⟩ dX9_giveKeys_127 (fun H locs hP hD hS => ?_)
          refine lv_isub hx hb dX9_giveKeys_130 ?_
          obtain ⟨σ25, eσ25, hm⟩ := Option.bind_eq_some_iff.mp hm
          refine zVv (rest := []) [.int (v2 - b24)] hx hb hml hl.1 hown hT (k_X9_give eσ25) zkX9_give zw810 ⟨by decide, by decide⟩ rfl rfl hK hZ hP hD hS 0 rfl rfl rfl rfl (Nat.le_of_ble_eq_true rfl) ⟨Nat.zero_le _, Nat.zero_le _⟩ dX9_giveKeys_131 (fun H locs hP hD hS => ?_)
          refine lv_goto (tgt := 148) hx hb dX9_giveKeys_134 (by decide) ?_
          cases hm
          exact hret _ _ _ _ dX9_giveKeys_148 hP hD hS
        · rw [if_neg h21] at hm
          have ah3 := lv_neT (a := 0) h3 (by decide)
          have ah5 := lv_neT (a := 1) h5 (by decide)
          have ah7 := lv_neT (a := 2) h7 (by decide)
          have ah21 := lv_neT (a := 3) h21 (by decide)
          refine lv_tableOut (tgt := 137) hx hb dX9_giveKeys_11 (by omega) (by decide) ?_
          refine lv_aload_n hx hb dX9_giveKeys_137 rfl (lv_at hl 0 rfl) ?_
          refine lv_iload_n hx hb dX9_giveKeys_138 rfl (lv_at hl 2 rfl) ?_
          refine lv_aload_n hx hb dX9_giveKeys_139 rfl (lv_at hl 0 rfl) ?_
          refine zget (v := .ref (ad 6)) hx hb hT zinX9 hown hK hP 0 rfl rfl 7 (by decide) zw629 rfl dX9_giveKeys_140 ?_
          refine lv_iload_n hx hb dX9_giveKeys_143 rfl (lv_at hl 1 rfl) ?_
          obtain ⟨b26, eb26, hm⟩ := Option.bind_eq_some_iff.mp hm
          refine ziald hx hb hK hP 6 0 rfl rfl eb26 dX9_giveKeys_144 ?_
          obtain ⟨σ27, eσ27, hm⟩ := Option.bind_eq_some_iff.mp hm
          refine zVv (rest := []) [.int v2, .int b26] hx hb hml hl.1 hown hT (k_X9_giveDays eσ27) zkX9_giveDays zw822 ⟨by decide, by decide⟩ rfl rfl hK hZ hP hD hS 0 rfl rfl rfl rfl (Nat.le_of_ble_eq_true rfl) ⟨Nat.zero_le _, Nat.zero_le _⟩ dX9_giveKeys_145 (fun H locs hP hD hS => ?_)
          cases hm
          exact hret _ _ _ _ dX9_giveKeys_148 hP hD hS
set_option maxHeartbeats 4000000 in
set_option maxRecDepth 100000 in
theorem k_X9_atHand {l : Launch} {D : va_G} {ad : Nat → Nat} {cI cJ cZ cO : ClassId} {t : Nat} {A : Nat → Prop} {N : Nat} {σ : zS} {v1 : Int32} {r : Int32}  (hm : m_X9_atHand N σ v1 = some r) : zCi l yX9_atHand cX9_atHand 2 (some .boolean) (zR 0 0) D zclM (zty cI cJ cZ cO) t A (zwM ad cI cJ cZ cO) [.ref (ad 0), .int v1] σ σ r := by
  refine zMz (by decide) (Nat.le_of_ble_eq_true rfl) ?_
  intro p e s m args below meth c Q hx hb hml hown hT hK hZ hret hP hD hS ls hl
  replace hown : s.vm.findClass RX9 = some m.cls := hown
  replace hl : lv_has ls 2 [(0, .ref (ad 0)), (1, .int v1)] := hl
  unfold m_X9_atHand at hm
  refine lv_aload_n hx hb dX9_atHand_0 rfl (lv_at hl 0 rfl) ?_
  refine zget (v := .int (σ.1 2)) hx hb hT zinX9 hown hK hP 0 rfl rfl 19 (by decide) zw641 rfl dX9_atHand_1 ?_
  refine lv_if_ne (tgt := 16) hx hb dX9_atHand_4 (by decide) (fun h1 => ?_) (fun h1 => ?_)
  · rw [if_neg h1] at hm
    refine lv_aload_n hx hb dX9_atHand_16 rfl (lv_at hl 0 rfl) ?_
    refine zget (v := .ref (ad 18)) hx hb hT zinX9 hown hK hP 0 rfl rfl 20 (by decide) zw642 rfl dX9_atHand_17 ?_
    refine lv_bipush (v := (120 : Int32)) hx hb dX9_atHand_20 (by decide) ?_
    refine lv_aload_n hx hb dX9_atHand_22 rfl (lv_at hl 0 rfl) ?_
    refine zget (v := .int (σ.1 2)) hx hb hT zinX9 hown hK hP 0 rfl rfl 19 (by decide) zw641 rfl dX9_atHand_23 ?_
    refine lv_iconst (v := (1 : Int32)) hx hb dX9_atHand_26 (by decide) ?_
    refine lv_isub hx hb dX9_atHand_27 ?_
    refine lv_imul hx hb dX9_atHand_28 ?_
    refine lv_iload_n hx hb dX9_atHand_29 rfl (lv_at hl 1 rfl) ?_
    refine lv_iadd hx hb dX9_atHand_30 ?_
    obtain ⟨b2, eb2, hm⟩ := Option.bind_eq_some_iff.mp hm
    refine zzald hx hb hK hP 18 2 rfl rfl eb2 dX9_atHand_31 ?_
    obtain ⟨b3, eb3, hm⟩ := Option.bind_eq_some_iff.mp hm
    obtain ⟨rfl, hzb3, hwb3, hfb3⟩ := zcz_all eb3
    cases hm
    exact hret _ _ _ _ hzb3 dX9_atHand_32 hP hD hS
  · rw [if_pos h1] at hm
    refine lv_aload_n hx hb dX9_atHand_7 rfl (lv_at hl 0 rfl) ?_
    refine zget (v := .ref (ad 3)) hx hb hT zinX9 hown hK hP 0 rfl rfl 3 (by decide) zw625 rfl dX9_atHand_8 ?_
    refine lv_iload_n hx hb dX9_atHand_11 rfl (lv_at hl 1 rfl) ?_
    obtain ⟨b4, eb4, hm⟩ := Option.bind_eq_some_iff.mp hm
    refine zzald hx hb hK hP 3 2 rfl rfl eb4 dX9_atHand_12 ?_
    refine lv_goto (tgt := 32) hx hb dX9_atHand_13 (by decide) ?_
    obtain ⟨b5, eb5, hm⟩ := Option.bind_eq_some_iff.mp hm
    obtain ⟨rfl, hzb5, hwb5, hfb5⟩ := zcz_all eb5
    cases hm
    exact hret _ _ _ _ hzb5 dX9_atHand_32 hP hD hS
set_option maxHeartbeats 4000000 in
set_option maxRecDepth 100000 in
theorem k_X9_counts {l : Launch} {D : va_G} {ad : Nat → Nat} {cI cJ cZ cO : ClassId} {t : Nat} {A : Nat → Prop} {N : Nat} {σ : zS} {v1 : Int32} {v2 : Int32} {r : Int32}  (hm : m_X9_counts N σ v1 v2 = some r) : zCi l yX9_counts cX9_counts 6 (some .boolean) (zR 1 22) D zclM (zty cI cJ cZ cO) t A (zwM ad cI cJ cZ cO) [.ref (ad 0), .int v1, .int v2] σ σ r := by
  refine zMz (by decide) (Nat.le_of_ble_eq_true rfl) ?_
  intro p e s m args below meth c Q hx hb hml hown hT hK hZ hret hP hD hS ls hl
  replace hown : s.vm.findClass RX9 = some m.cls := hown
  replace hl : lv_has ls 6 [(0, .ref (ad 0)), (1, .int v1), (2, .int v2)] := hl
  have hL51 : ∀ (v4_9 : Int32), ∀ (q : Int32 × Int32) (r : Int32), ziter (fun q : Int32 × Int32 => m_X9_counts_L51 N σ v1 v2 v4_9 q.1 q.2) N q = some r → (∀ (H : Heap) (locs : List Loc) (ls : Array Slot), va_P D zclM (zwM ad cI cJ cZ cO σ) H → va_D A (zwM ad cI cJ cZ cO σ) → va_S A s.heap H locs → lv_has ls 6 [(3, .int r)] → W p l e (zR 1 22) s m args below meth c H locs 0 0 Q (F0 m 101 ls [])) → ∀ (H : Heap) (locs : List Loc) (ls : Array Slot), va_P D zclM (zwM ad cI cJ cZ cO σ) H → va_D A (zwM ad cI cJ cZ cO σ) → va_S A s.heap H locs → lv_has ls 6 [(0, .ref (ad 0)), (1, .int v1), (3, .int q.1), (4, .int v4_9), (5, .int q.2)] → W p l e (zR 1 22) s m args below meth c H locs 0 0 Q (F0 m 51 ls []) := by
    intro v4_9
    intro q r
    refine ziter_W (Hd := fun q : Int32 × Int32 => ∀ (H : Heap) (locs : List Loc) (ls : Array Slot), va_P D zclM (zwM ad cI cJ cZ cO σ) H → va_D A (zwM ad cI cJ cZ cO σ) → va_S A s.heap H locs → lv_has ls 6 [(0, .ref (ad 0)), (1, .int v1), (3, .int q.1), (4, .int v4_9), (5, .int q.2)] → W p l e (zR 1 22) s m args below meth c H locs 0 0 Q (F0 m 51 ls [])) (Ex := fun r : Int32 => ∀ (H : Heap) (locs : List Loc) (ls : Array Slot), va_P D zclM (zwM ad cI cJ cZ cO σ) H → va_D A (zwM ad cI cJ cZ cO σ) → va_S A s.heap H locs → lv_has ls 6 [(3, .int r)] → W p l e (zR 1 22) s m args below meth c H locs 0 0 Q (F0 m 101 ls [])) ?_ N q r
    rintro ⟨v3_9, v5_9⟩ res hm hk H locs ls hP hD hS hl
    try dsimp only at hP hD hl
    replace hm : m_X9_counts_L51 N σ v1 v2 v4_9 v3_9 v5_9 = some res := hm
    unfold m_X9_counts_L51 at hm
    refine lv_iload hx hb dX9_counts_51 (lv_at hl 4 rfl) ?_
    refine lv_aload_n hx hb dX9_counts_53 rfl (lv_at hl 0 rfl) ?_
    refine zget (v := .ref (ad 1)) hx hb hT zinX9 hown hK hP 0 rfl rfl 1 (by decide) zw623 rfl dX9_counts_54 ?_
    refine lv_iload hx hb dX9_counts_57 (lv_at hl 3 rfl) ?_
    obtain ⟨b10, eb10, hm⟩ := Option.bind_eq_some_iff.mp hm
    refine ziald hx hb hK hP 1 0 rfl rfl eb10 dX9_counts_59 ?_
    refine lv_icmp_ge (tgt := 101) hx hb dX9_counts_60 (by decide) (fun h11 => ?_) (fun h11 => ?_)
    · rw [if_pos h11] at hm
      cases hm
      exact hk _ _ _ hP hD hS (lv_sub hl [2] rfl)
    · rw [if_neg h11] at hm
      refine lv_iload_n hx hb dX9_counts_63 rfl (lv_at hl 2 rfl) ?_
      refine lv_if_ne (tgt := 101) hx hb dX9_counts_64 (by decide) (fun h12 => ?_) (fun h12 => ?_)
      · rw [if_neg h12] at hm
        cases hm
        exact hk _ _ _ hP hD hS (lv_sub hl [2] rfl)
      · rw [if_pos h12] at hm
        refine lv_aload_n hx hb dX9_counts_67 rfl (lv_at hl 0 rfl) ?_
        refine zget (v := .ref (ad 2)) hx hb hT zinX9 hown hK hP 0 rfl rfl 2 (by decide) zw624 rfl dX9_counts_68 ?_
        refine lv_iconst (v := (3 : Int32)) hx hb dX9_counts_71 (by decide) ?_
        refine lv_iload hx hb dX9_counts_72 (lv_at hl 3 rfl) ?_
        refine lv_imul hx hb dX9_counts_74 ?_
        refine lv_iload hx hb dX9_counts_75 (lv_at hl 4 rfl) ?_
        refine lv_iadd hx hb dX9_counts_77 ?_
        obtain ⟨b13, eb13, hm⟩ := Option.bind_eq_some_iff.mp hm
        refine ziald hx hb hK hP 2 0 rfl rfl eb13 dX9_counts_78 ?_
        refine lv_aload_n hx hb dX9_counts_79 rfl (lv_at hl 0 rfl) ?_
        refine zget (v := .ref (ad 12)) hx hb hT zinX9 hown hK hP 0 rfl rfl 13 (by decide) zw635 rfl dX9_counts_80 ?_
        refine lv_iload_n hx hb dX9_counts_83 rfl (lv_at hl 1 rfl) ?_
        obtain ⟨b14, eb14, hm⟩ := Option.bind_eq_some_iff.mp hm
        refine ziald hx hb hK hP 12 0 rfl rfl eb14 dX9_counts_84 ?_
        refine lv_aload_n hx hb dX9_counts_85 rfl (lv_at hl 0 rfl) ?_
        refine zget (v := .ref (ad 13)) hx hb hT zinX9 hown hK hP 0 rfl rfl 14 (by decide) zw636 rfl dX9_counts_86 ?_
        refine lv_iload_n hx hb dX9_counts_89 rfl (lv_at hl 1 rfl) ?_
        obtain ⟨b15, eb15, hm⟩ := Option.bind_eq_some_iff.mp hm
        refine ziald hx hb hK hP 13 0 rfl rfl eb15 dX9_counts_90 ?_
        obtain ⟨b16, eb16, hm⟩ := Option.bind_eq_some_iff.mp hm
        refine zSi (rest := []) [.int b13, .int b14, .int b15] hx hb hml hl.1 hown hT (k_X9_within eb16) zkX9_within zw739 ⟨by decide, by decide⟩ rfl rfl hK hZ hP hD hS rfl rfl (Nat.le_of_ble_eq_true rfl) ⟨Nat.zero_le _, Nat.zero_le _⟩ dX9_counts_91 (fun H locs hP hD hS => ?_)
        refine lv_istore_n (lv' := [(3, .int b16), (0, .ref (ad 0)), (1, .int v1), (4, .int v4_9), (5, .int v5_9)]) hx hb dX9_counts_94 rfl hl (by decide) rfl (fun ls hl => ?_)
        refine lv_iinc (v := (v5_9 + (1 : Int32))) (lv' := [(5, .int (v5_9 + (1 : Int32))), (3, .int b16), (0, .ref (ad 0)), (1, .int v1), (4, .int v4_9)]) hx hb dX9_counts_95 hl (k := 4) rfl rfl (by decide) rfl (fun ls hl => ?_)
        refine lv_goto (tgt := 51) hx hb dX9_counts_98 (by decide) ?_
        cases hm
        exact hk _ _ _ hP hD hS (lv_sub hl [2, 3, 1, 4, 0] rfl)
  have h101 : ∀ (v3_19 : Int32), m_X9_counts_101 N σ v1 v2 v3_19 = some r → ∀ (H : Heap) (locs : List Loc) (ls : Array Slot), va_P D zclM (zwM ad cI cJ cZ cO σ) H → va_D A (zwM ad cI cJ cZ cO σ) → va_S A s.heap H locs → lv_has ls 6 [(3, .int v3_19)] → W p l e (zR 1 22) s m args below meth c H locs 0 0 Q (F0 m 101 ls []) := by
    intro v3_19 hm H locs ls hP hD hS hl
    unfold m_X9_counts_101 at hm
    refine lv_iload_n hx hb dX9_counts_101 rfl (lv_at hl 0 rfl) ?_
    obtain ⟨b20, eb20, hm⟩ := Option.bind_eq_some_iff.mp hm
    obtain ⟨rfl, hzb20, hwb20, hfb20⟩ := zcz_all eb20
    cases hm
    exact hret _ _ _ _ hzb20 dX9_counts_102 hP hD hS
  have h45 : ∀ (v3_8 : Int32) (x0_8 : Int32) (x1_8 : Int32), m_X9_counts_45 N σ v1 v2 v3_8 x0_8 x1_8 = some r → ∀ (H : Heap) (locs : List Loc) (ls : Array Slot), va_P D zclM (zwM ad cI cJ cZ cO σ) H → va_D A (zwM ad cI cJ cZ cO σ) → va_S A s.heap H locs → lv_has ls 6 [(0, .ref (ad 0)), (1, .int v1), (3, .int v3_8)] → W p l e (zR 1 22) s m args below meth c H locs 0 0 Q (F0 m 45 ls [.int x1_8, .int x0_8]) := by
    intro v3_8 x0_8 x1_8 hm H locs ls hP hD hS hl
    unfold m_X9_counts_45 at hm
    refine lv_iadd hx hb dX9_counts_45 ?_
    refine lv_istore (lv' := [(4, .int (x0_8 + x1_8)), (0, .ref (ad 0)), (1, .int v1), (3, .int v3_8)]) hx hb dX9_counts_46 hl (by decide) rfl (fun ls hl => ?_)
    refine lv_iconst (v := (0 : Int32)) hx hb dX9_counts_48 (by decide) ?_
    refine lv_istore (lv' := [(5, .int (0 : Int32)), (4, .int (x0_8 + x1_8)), (0, .ref (ad 0)), (1, .int v1), (3, .int v3_8)]) hx hb dX9_counts_49 hl (by decide) rfl (fun ls hl => ?_)
    obtain ⟨v3_18, e21, hm⟩ := Option.bind_eq_some_iff.mp hm
    refine hL51 (x0_8 + x1_8) _ v3_18 e21 ?_ _ _ _ hP hD hS (lv_sub hl [2, 3, 4, 1, 0] rfl)
    intro H locs ls hP hD hS hl
    try dsimp only at hP hD hl
    replace hm : m_X9_counts_101 N σ v1 v2 v3_18 = some r := hm
    exact h101 v3_18 hm _ _ _ hP hD hS (lv_sub hl [0] rfl)
  have h26 : ∀ (x0_5 : Int32), m_X9_counts_26 N σ v1 v2 x0_5 = some r → ∀ (H : Heap) (locs : List Loc) (ls : Array Slot), va_P D zclM (zwM ad cI cJ cZ cO σ) H → va_D A (zwM ad cI cJ cZ cO σ) → va_S A s.heap H locs → lv_has ls 6 [(0, .ref (ad 0)), (1, .int v1), (2, .int v2)] → W p l e (zR 1 22) s m args below meth c H locs 0 0 Q (F0 m 26 ls [.int x0_5]) := by
    intro x0_5 hm H locs ls hP hD hS hl
    unfold m_X9_counts_26 at hm
    refine lv_istore_n (lv' := [(3, .int x0_5), (0, .ref (ad 0)), (1, .int v1), (2, .int v2)]) hx hb dX9_counts_26 rfl hl (by decide) rfl (fun ls hl => ?_)
    refine lv_bipush (v := (6 : Int32)) hx hb dX9_counts_27 (by decide) ?_
    refine lv_iload_n hx hb dX9_counts_29 rfl (lv_at hl 3 rfl) ?_
    refine lv_imul hx hb dX9_counts_30 ?_
    refine lv_iload_n hx hb dX9_counts_31 rfl (lv_at hl 0 rfl) ?_
    refine lv_if_eq (tgt := 39) hx hb dX9_counts_32 (by decide) (fun h6 => ?_) (fun h6 => ?_)
    · rw [if_pos h6] at hm
      refine lv_aload_n hx hb dX9_counts_39 rfl (lv_at hl 1 rfl) ?_
      refine zget (v := .ref (ad 11)) hx hb hT zinX9 hown hK hP 0 rfl rfl 12 (by decide) zw634 rfl dX9_counts_40 ?_
      refine lv_iload_n hx hb dX9_counts_43 rfl (lv_at hl 2 rfl) ?_
      obtain ⟨b7, eb7, hm⟩ := Option.bind_eq_some_iff.mp hm
      refine ziald hx hb hK hP 11 0 rfl rfl eb7 dX9_counts_44 ?_
      exact h45 x0_5 ((6 : Int32) * v2) b7 hm _ _ _ hP hD hS (lv_sub hl [1, 2, 0] rfl)
    · rw [if_neg h6] at hm
      refine lv_iconst (v := (0 : Int32)) hx hb dX9_counts_35 (by decide) ?_
      refine lv_goto (tgt := 45) hx hb dX9_counts_36 (by decide) ?_
      exact h45 x0_5 ((6 : Int32) * v2) (0 : Int32) hm _ _ _ hP hD hS (lv_sub hl [1, 2, 0] rfl)
  unfold m_X9_counts at hm
  refine lv_aload_n hx hb dX9_counts_0 rfl (lv_at hl 0 rfl) ?_
  refine lv_iload_n hx hb dX9_counts_1 rfl (lv_at hl 2 rfl) ?_
  obtain ⟨b1, eb1, hm⟩ := Option.bind_eq_some_iff.mp hm
  refine zVi (rest := []) [.int v2] hx hb hml hl.1 hown hT (k_X9_atHand eb1) zkX9_atHand zw840 ⟨by decide, by decide⟩ rfl rfl hK hZ hP hD hS 0 rfl rfl rfl rfl (Nat.le_of_ble_eq_true rfl) ⟨Nat.zero_le _, Nat.zero_le _⟩ dX9_counts_2 (fun H locs hP hD hS => ?_)
  refine lv_if_ne (tgt := 10) hx hb dX9_counts_5 (by decide) (fun h2 => ?_) (fun h2 => ?_)
  · rw [if_neg h2] at hm
    refine lv_aload_n hx hb dX9_counts_10 rfl (lv_at hl 0 rfl) ?_
    refine zget (v := .ref (ad 11)) hx hb hT zinX9 hown hK hP 0 rfl rfl 12 (by decide) zw634 rfl dX9_counts_11 ?_
    refine lv_iload_n hx hb dX9_counts_14 rfl (lv_at hl 1 rfl) ?_
    obtain ⟨b3, eb3, hm⟩ := Option.bind_eq_some_iff.mp hm
    refine ziald hx hb hK hP 11 0 rfl rfl eb3 dX9_counts_15 ?_
    refine lv_ldc hx hb hown (hT _ zw764) dX9_counts_16 ?_
    refine lv_icmp_ne (tgt := 25) hx hb dX9_counts_18 (by decide) (fun h4 => ?_) (fun h4 => ?_)
    · rw [if_neg h4] at hm
      refine lv_iconst (v := (0 : Int32)) hx hb dX9_counts_25 (by decide) ?_
      exact h26 (0 : Int32) hm _ _ _ hP hD hS (lv_sub hl [0, 1, 2] rfl)
    · rw [if_pos h4] at hm
      refine lv_iconst (v := (1 : Int32)) hx hb dX9_counts_21 (by decide) ?_
      refine lv_goto (tgt := 26) hx hb dX9_counts_22 (by decide) ?_
      exact h26 (1 : Int32) hm _ _ _ hP hD hS (lv_sub hl [0, 1, 2] rfl)
  · rw [if_pos h2] at hm
    refine lv_iconst (v := (0 : Int32)) hx hb dX9_counts_8 (by decide) ?_
    cases hm
    exact hret _ _ _ _ (by decide) dX9_counts_9 hP hD hS
set_option maxHeartbeats 4000000 in
set_option maxRecDepth 100000 in
theorem k_X9_findKeysOf {l : Launch} {D : va_G} {ad : Nat → Nat} {cI cJ cZ cO : ClassId} {t : Nat} {A : Nat → Prop} {N : Nat} {σ σ' : zS} {v1 : Int32} {v2 : Int32}   (hm : m_X9_findKeysOf N σ v1 v2 = some σ') : zCv l yX9_findKeysOf cX9_findKeysOf 6 (none) (zR 5 112) D zclM (zty cI cJ cZ cO) t A (zwM ad cI cJ cZ cO) [.ref (ad 0), .int v1, .int v2] σ σ' := by
  refine zMv (by decide) (Nat.le_of_ble_eq_true rfl) ?_
  intro p e s m args below meth c Q hx hb hml hown hT hK hZ hret hP hD hS ls hl
  replace hown : s.vm.findClass RX9 = some m.cls := hown
  replace hl : lv_has ls 6 [(0, .ref (ad 0)), (1, .int v1), (2, .int v2)] := hl
  have hL22 : ∀ (v3_3 : Int32), ∀ (q : zS × Int32) (r : zS), ziter (fun q : zS × Int32 => m_X9_findKeysOf_L22 N v1 v2 v3_3 q.1 q.2) N q = some r → (∀ (H : Heap) (locs : List Loc) (ls : Array Slot), va_P D zclM (zwM ad cI cJ cZ cO r) H → va_D A (zwM ad cI cJ cZ cO r) → va_S A s.heap H locs → lv_has ls 6 [] → W p l e (zR 5 112) s m args below meth c H locs 0 0 Q (F0 m 106 ls [])) → ∀ (H : Heap) (locs : List Loc) (ls : Array Slot), va_P D zclM (zwM ad cI cJ cZ cO q.1) H → va_D A (zwM ad cI cJ cZ cO q.1) → va_S A s.heap H locs → lv_has ls 6 [(0, .ref (ad 0)), (1, .int v1), (2, .int v2), (3, .int v3_3), (4, .int q.2)] → W p l e (zR 5 112) s m args below meth c H locs 0 0 Q (F0 m 22 ls []) := by
    intro v3_3
    intro q r
    refine ziter_W (Hd := fun q : zS × Int32 => ∀ (H : Heap) (locs : List Loc) (ls : Array Slot), va_P D zclM (zwM ad cI cJ cZ cO q.1) H → va_D A (zwM ad cI cJ cZ cO q.1) → va_S A s.heap H locs → lv_has ls 6 [(0, .ref (ad 0)), (1, .int v1), (2, .int v2), (3, .int v3_3), (4, .int q.2)] → W p l e (zR 5 112) s m args below meth c H locs 0 0 Q (F0 m 22 ls [])) (Ex := fun r : zS => ∀ (H : Heap) (locs : List Loc) (ls : Array Slot), va_P D zclM (zwM ad cI cJ cZ cO r) H → va_D A (zwM ad cI cJ cZ cO r) → va_S A s.heap H locs → lv_has ls 6 [] → W p l e (zR 5 112) s m args below meth c H locs 0 0 Q (F0 m 106 ls [])) ?_ N q r
    rintro ⟨σ3, v4_3⟩ res hm hk H locs ls hP hD hS hl
    try dsimp only at hP hD hl
    replace hm : m_X9_findKeysOf_L22 N v1 v2 v3_3 σ3 v4_3 = some res := hm
    have hL52 : ∀ (v4_8 : Int32), ∀ (q : zS × Int32) (r : zS), ziter (fun q : zS × Int32 => m_X9_findKeysOf_L52 N v1 v2 v3_3 v4_8 q.1 q.2) N q = some r → (∀ (H : Heap) (locs : List Loc) (ls : Array Slot), va_P D zclM (zwM ad cI cJ cZ cO r) H → va_D A (zwM ad cI cJ cZ cO r) → va_S A s.heap H locs → lv_has ls 6 [(0, .ref (ad 0)), (1, .int v1), (2, .int v2), (3, .int v3_3), (4, .int v4_8)] → W p l e (zR 5 112) s m args below meth c H locs 0 0 Q (F0 m 100 ls [])) → ∀ (H : Heap) (locs : List Loc) (ls : Array Slot), va_P D zclM (zwM ad cI cJ cZ cO q.1) H → va_D A (zwM ad cI cJ cZ cO q.1) → va_S A s.heap H locs → lv_has ls 6 [(0, .ref (ad 0)), (1, .int v1), (2, .int v2), (3, .int v3_3), (4, .int v4_8), (5, .int q.2)] → W p l e (zR 5 112) s m args below meth c H locs 0 0 Q (F0 m 52 ls []) := by
      intro v4_8
      intro q r
      refine ziter_W (Hd := fun q : zS × Int32 => ∀ (H : Heap) (locs : List Loc) (ls : Array Slot), va_P D zclM (zwM ad cI cJ cZ cO q.1) H → va_D A (zwM ad cI cJ cZ cO q.1) → va_S A s.heap H locs → lv_has ls 6 [(0, .ref (ad 0)), (1, .int v1), (2, .int v2), (3, .int v3_3), (4, .int v4_8), (5, .int q.2)] → W p l e (zR 5 112) s m args below meth c H locs 0 0 Q (F0 m 52 ls [])) (Ex := fun r : zS => ∀ (H : Heap) (locs : List Loc) (ls : Array Slot), va_P D zclM (zwM ad cI cJ cZ cO r) H → va_D A (zwM ad cI cJ cZ cO r) → va_S A s.heap H locs → lv_has ls 6 [(0, .ref (ad 0)), (1, .int v1), (2, .int v2), (3, .int v3_3), (4, .int v4_8)] → W p l e (zR 5 112) s m args below meth c H locs 0 0 Q (F0 m 100 ls [])) ?_ N q r
      rintro ⟨σ8, v5_8⟩ res hm hk H locs ls hP hD hS hl
      try dsimp only at hP hD hl
      replace hm : m_X9_findKeysOf_L52 N v1 v2 v3_3 v4_8 σ8 v5_8 = some res := hm
      unfold m_X9_findKeysOf_L52 at hm
      refine lv_iload hx hb dX9_findKeysOf_52 (lv_at hl 5 rfl) ?_
      refine lv_aload_n hx hb dX9_findKeysOf_54 rfl (lv_at hl 0 rfl) ?_
      refine zget (v := .int (σ8.1 3)) hx hb hT zinX9 hown hK hP 0 rfl rfl 21 (by decide) zw643 rfl dX9_findKeysOf_55 ?_
      refine lv_icmp_ge (tgt := 100) hx hb dX9_findKeysOf_58 (by decide) (fun h9 => ?_) (fun h9 => ?_)
      · rw [if_pos h9] at hm
        cases hm
        exact hk _ _ _ hP hD hS (lv_sub hl [0, 1, 2, 3, 4] rfl)
      · rw [if_neg h9] at hm
        refine lv_aload_n hx hb dX9_findKeysOf_61 rfl (lv_at hl 0 rfl) ?_
        refine zget (v := .ref (ad 24)) hx hb hT zinX9 hown hK hP 0 rfl rfl 29 (by decide) zw651 rfl dX9_findKeysOf_62 ?_
        refine lv_bipush (v := (18 : Int32)) hx hb dX9_findKeysOf_65 (by decide) ?_
        refine lv_iload_n hx hb dX9_findKeysOf_67 rfl (lv_at hl 2 rfl) ?_
        refine lv_imul hx hb dX9_findKeysOf_68 ?_
        refine lv_aload_n hx hb dX9_findKeysOf_69 rfl (lv_at hl 0 rfl) ?_
        refine zget (v := .ref (ad 23)) hx hb hT zinX9 hown hK hP 0 rfl rfl 28 (by decide) zw650 rfl dX9_findKeysOf_70 ?_
        refine lv_iload_n hx hb dX9_findKeysOf_73 rfl (lv_at hl 2 rfl) ?_
        obtain ⟨b10, eb10, hm⟩ := Option.bind_eq_some_iff.mp hm
        refine ziald hx hb hK hP 23 0 rfl rfl eb10 dX9_findKeysOf_74 ?_
        refine lv_iadd hx hb dX9_findKeysOf_75 ?_
        refine lv_aload_n hx hb dX9_findKeysOf_76 rfl (lv_at hl 0 rfl) ?_
        refine zget (v := .ref (ad 19)) hx hb hT zinX9 hown hK hP 0 rfl rfl 22 (by decide) zw644 rfl dX9_findKeysOf_77 ?_
        refine lv_iload hx hb dX9_findKeysOf_80 (lv_at hl 5 rfl) ?_
        obtain ⟨b11, eb11, hm⟩ := Option.bind_eq_some_iff.mp hm
        refine ziald hx hb hK hP 19 0 rfl rfl eb11 dX9_findKeysOf_82 ?_
        obtain ⟨σ12, eσ12, hm⟩ := Option.bind_eq_some_iff.mp hm
        refine ziast (j := 22) hx hb hK hP hD hS 24 0 rfl rfl eσ12 (fun _ => rfl) dX9_findKeysOf_83 (fun H locs hP hD hS => ?_)
        refine lv_aload_n hx hb dX9_findKeysOf_84 rfl (lv_at hl 0 rfl) ?_
        refine zget (v := .ref (ad 23)) hx hb hT zinX9 hown hK hP 0 rfl rfl 28 (by decide) zw650 rfl dX9_findKeysOf_85 ?_
        refine lv_iload_n hx hb dX9_findKeysOf_88 rfl (lv_at hl 2 rfl) ?_
        refine lv_dup2_11 hx hb dX9_findKeysOf_89 rfl rfl ?_
        obtain ⟨b13, eb13, hm⟩ := Option.bind_eq_some_iff.mp hm
        refine ziald hx hb hK hP 23 0 rfl rfl eb13 dX9_findKeysOf_90 ?_
        refine lv_iconst (v := (1 : Int32)) hx hb dX9_findKeysOf_91 (by decide) ?_
        refine lv_iadd hx hb dX9_findKeysOf_92 ?_
        obtain ⟨σ14, eσ14, hm⟩ := Option.bind_eq_some_iff.mp hm
        refine ziast (j := 21) hx hb hK hP hD hS 23 0 rfl rfl eσ14 (fun _ => rfl) dX9_findKeysOf_93 (fun H locs hP hD hS => ?_)
        refine lv_iinc (v := (v5_8 + (1 : Int32))) (lv' := [(5, .int (v5_8 + (1 : Int32))), (0, .ref (ad 0)), (1, .int v1), (2, .int v2), (3, .int v3_3), (4, .int v4_8)]) hx hb dX9_findKeysOf_94 hl (k := 5) rfl rfl (by decide) rfl (fun ls hl => ?_)
        refine lv_goto (tgt := 52) hx hb dX9_findKeysOf_97 (by decide) ?_
        cases hm
        exact hk _ _ _ hP hD hS (lv_sub hl [1, 2, 3, 4, 5, 0] rfl)
    have h100 : ∀ (σ17 : zS) (v4_17 : Int32), m_X9_findKeysOf_100_in22 N v1 v2 v3_3 σ17 v4_17 = some res → ∀ (H : Heap) (locs : List Loc) (ls : Array Slot), va_P D zclM (zwM ad cI cJ cZ cO σ17) H → va_D A (zwM ad cI cJ cZ cO σ17) → va_S A s.heap H locs → lv_has ls 6 [(0, .ref (ad 0)), (1, .int v1), (2, .int v2), (3, .int v3_3), (4, .int v4_17)] → W p l e (zR 5 112) s m args below meth c H locs 0 0 Q (F0 m 100 ls []) := by
      intro σ17 v4_17 hm H locs ls hP hD hS hl
      unfold m_X9_findKeysOf_100_in22 at hm
      refine lv_iinc (v := (v4_17 + (1 : Int32))) (lv' := [(4, .int (v4_17 + (1 : Int32))), (0, .ref (ad 0)), (1, .int v1), (2, .int v2), (3, .int v3_3)]) hx hb dX9_findKeysOf_100 hl (k := 4) rfl rfl (by decide) rfl (fun ls hl => ?_)
      refine lv_goto (tgt := 22) hx hb dX9_findKeysOf_103 (by decide) ?_
      cases hm
      exact hk _ _ _ hP hD hS (lv_sub hl [1, 2, 3, 4, 0] rfl)
    unfold m_X9_findKeysOf_L22 at hm
    refine lv_iload hx hb dX9_findKeysOf_22 (lv_at hl 4 rfl) ?_
    refine lv_aload_n hx hb dX9_findKeysOf_24 rfl (lv_at hl 0 rfl) ?_
    refine zget (v := .ref (ad 1)) hx hb hT zinX9 hown hK hP 0 rfl rfl 1 (by decide) zw623 rfl dX9_findKeysOf_25 ?_
    refine lv_iload_n hx hb dX9_findKeysOf_28 rfl (lv_at hl 3 rfl) ?_
    obtain ⟨b4, eb4, hm⟩ := Option.bind_eq_some_iff.mp hm
    refine ziald hx hb hK hP 1 0 rfl rfl eb4 dX9_findKeysOf_29 ?_
    refine lv_icmp_ge (tgt := 106) hx hb dX9_findKeysOf_30 (by decide) (fun h5 => ?_) (fun h5 => ?_)
    · rw [if_pos h5] at hm
      cases hm
      exact hk _ _ _ hP hD hS (lv_sub hl [] rfl)
    · rw [if_neg h5] at hm
      refine lv_aload_n hx hb dX9_findKeysOf_33 rfl (lv_at hl 0 rfl) ?_
      refine lv_iload_n hx hb dX9_findKeysOf_34 rfl (lv_at hl 1 rfl) ?_
      refine lv_aload_n hx hb dX9_findKeysOf_35 rfl (lv_at hl 0 rfl) ?_
      refine zget (v := .ref (ad 2)) hx hb hT zinX9 hown hK hP 0 rfl rfl 2 (by decide) zw624 rfl dX9_findKeysOf_36 ?_
      refine lv_iconst (v := (3 : Int32)) hx hb dX9_findKeysOf_39 (by decide) ?_
      refine lv_iload_n hx hb dX9_findKeysOf_40 rfl (lv_at hl 3 rfl) ?_
      refine lv_imul hx hb dX9_findKeysOf_41 ?_
      refine lv_iload hx hb dX9_findKeysOf_42 (lv_at hl 4 rfl) ?_
      refine lv_iadd hx hb dX9_findKeysOf_44 ?_
      obtain ⟨b6, eb6, hm⟩ := Option.bind_eq_some_iff.mp hm
      refine ziald hx hb hK hP 2 0 rfl rfl eb6 dX9_findKeysOf_45 ?_
      obtain ⟨σ7, eσ7, hm⟩ := Option.bind_eq_some_iff.mp hm
      refine zVv (rest := []) [.int v1, .int b6] hx hb hml hl.1 hown hT (k_X9_giveKeys eσ7) zkX9_giveKeys zw806 ⟨by decide, by decide⟩ rfl rfl hK hZ hP hD hS 0 rfl rfl rfl rfl (Nat.le_of_ble_eq_true rfl) ⟨Nat.zero_le _, Nat.zero_le _⟩ dX9_findKeysOf_46 (fun H locs hP hD hS => ?_)
      refine lv_iconst (v := (0 : Int32)) hx hb dX9_findKeysOf_49 (by decide) ?_
      refine lv_istore (lv' := [(5, .int (0 : Int32)), (0, .ref (ad 0)), (1, .int v1), (2, .int v2), (3, .int v3_3), (4, .int v4_3)]) hx hb dX9_findKeysOf_50 hl (by decide) rfl (fun ls hl => ?_)
      obtain ⟨σ16, e18, hm⟩ := Option.bind_eq_some_iff.mp hm
      refine hL52 v4_3 _ σ16 e18 ?_ _ _ _ hP hD hS (lv_sub hl [1, 2, 3, 4, 5, 0] rfl)
      intro H locs ls hP hD hS hl
      try dsimp only at hP hD hl
      replace hm : m_X9_findKeysOf_100_in22 N v1 v2 v3_3 σ16 v4_3 = some res := hm
      exact h100 σ16 v4_3 hm _ _ _ hP hD hS (lv_sub hl [0, 1, 2, 3, 4] rfl)
  have h106 : ∀ (σ21 : zS), m_X9_findKeysOf_106 N v1 v2 σ21 = some σ' → ∀ (H : Heap) (locs : List Loc) (ls : Array Slot), va_P D zclM (zwM ad cI cJ cZ cO σ21) H → va_D A (zwM ad cI cJ cZ cO σ21) → va_S A s.heap H locs → lv_has ls 6 [] → W p l e (zR 5 112) s m args below meth c H locs 0 0 Q (F0 m 106 ls []) := by
    intro σ21 hm H locs ls hP hD hS hl
    unfold m_X9_findKeysOf_106 at hm
    cases hm
    exact hret _ _ _ _ dX9_findKeysOf_106 hP hD hS
  unfold m_X9_findKeysOf at hm
  refine lv_bipush (v := (6 : Int32)) hx hb dX9_findKeysOf_0 (by decide) ?_
  refine lv_iload_n hx hb dX9_findKeysOf_2 rfl (lv_at hl 2 rfl) ?_
  refine lv_imul hx hb dX9_findKeysOf_3 ?_
  refine lv_aload_n hx hb dX9_findKeysOf_4 rfl (lv_at hl 0 rfl) ?_
  refine zget (v := .ref (ad 5)) hx hb hT zinX9 hown hK hP 0 rfl rfl 6 (by decide) zw628 rfl dX9_findKeysOf_5 ?_
  refine lv_iload_n hx hb dX9_findKeysOf_8 rfl (lv_at hl 1 rfl) ?_
  obtain ⟨b1, eb1, hm⟩ := Option.bind_eq_some_iff.mp hm
  refine ziald hx hb hK hP 5 0 rfl rfl eb1 dX9_findKeysOf_9 ?_
  refine lv_iadd hx hb dX9_findKeysOf_10 ?_
  refine lv_istore_n (lv' := [(3, .int (((6 : Int32) * v2) + b1)), (0, .ref (ad 0)), (1, .int v1), (2, .int v2)]) hx hb dX9_findKeysOf_11 rfl hl (by decide) rfl (fun ls hl => ?_)
  refine lv_aload_n hx hb dX9_findKeysOf_12 rfl (lv_at hl 1 rfl) ?_
  refine zget (v := .ref (ad 23)) hx hb hT zinX9 hown hK hP 0 rfl rfl 28 (by decide) zw650 rfl dX9_findKeysOf_13 ?_
  refine lv_iload_n hx hb dX9_findKeysOf_16 rfl (lv_at hl 3 rfl) ?_
  refine lv_iconst (v := (0 : Int32)) hx hb dX9_findKeysOf_17 (by decide) ?_
  obtain ⟨σ2, eσ2, hm⟩ := Option.bind_eq_some_iff.mp hm
  refine ziast (j := 21) hx hb hK hP hD hS 23 0 rfl rfl eσ2 (fun _ => rfl) dX9_findKeysOf_18 (fun H locs hP hD hS => ?_)
  refine lv_iconst (v := (0 : Int32)) hx hb dX9_findKeysOf_19 (by decide) ?_
  refine lv_istore (lv' := [(4, .int (0 : Int32)), (3, .int (((6 : Int32) * v2) + b1)), (0, .ref (ad 0)), (1, .int v1), (2, .int v2)]) hx hb dX9_findKeysOf_20 hl (by decide) rfl (fun ls hl => ?_)
  obtain ⟨σ20, e22, hm⟩ := Option.bind_eq_some_iff.mp hm
  refine hL22 (((6 : Int32) * v2) + b1) _ σ20 e22 ?_ _ _ _ hP hD hS (lv_sub hl [2, 3, 4, 1, 0] rfl)
  intro H locs ls hP hD hS hl
  try dsimp only at hP hD hl
  replace hm : m_X9_findKeysOf_106 N v1 v2 σ20 = some σ' := hm
  exact h106 σ20 hm _ _ _ hP hD hS (lv_sub hl [] rfl)
set_option maxHeartbeats 4000000 in
set_option maxRecDepth 100000 in
theorem k_X9_hasKey {l : Launch} {D : va_G} {ad : Nat → Nat} {cI cJ cZ cO : ClassId} {t : Nat} {A : Nat → Prop} {N : Nat} {σ : zS} {v1 : Int32} {v2 : Int32} {r : Int32}  (hm : m_X9_hasKey N σ v1 v2 = some r) : zCi l yX9_hasKey cX9_hasKey 5 (some .boolean) (zR 0 0) D zclM (zty cI cJ cZ cO) t A (zwM ad cI cJ cZ cO) [.ref (ad 0), .int v1, .int v2] σ σ r := by
  refine zMz (by decide) (Nat.le_of_ble_eq_true rfl) ?_
  intro p e s m args below meth c Q hx hb hml hown hT hK hZ hret hP hD hS ls hl
  replace hown : s.vm.findClass RX9 = some m.cls := hown
  replace hl : lv_has ls 5 [(0, .ref (ad 0)), (1, .int v1), (2, .int v2)] := hl
  have hL5 : ∀ (q : Int32 × Int32) (r : Int32), ziter (fun q : Int32 × Int32 => m_X9_hasKey_L5 N σ v1 v2 q.1 q.2) N q = some r → (∀ (H : Heap) (locs : List Loc) (ls : Array Slot), va_P D zclM (zwM ad cI cJ cZ cO σ) H → va_D A (zwM ad cI cJ cZ cO σ) → va_S A s.heap H locs → lv_has ls 5 [(3, .int r)] → W p l e (zR 0 0) s m args below meth c H locs 0 0 Q (F0 m 48 ls [])) → ∀ (H : Heap) (locs : List Loc) (ls : Array Slot), va_P D zclM (zwM ad cI cJ cZ cO σ) H → va_D A (zwM ad cI cJ cZ cO σ) → va_S A s.heap H locs → lv_has ls 5 [(0, .ref (ad 0)), (1, .int v1), (2, .int v2), (3, .int q.1), (4, .int q.2)] → W p l e (zR 0 0) s m args below meth c H locs 0 0 Q (F0 m 5 ls []) := by
    intro q r
    refine ziter_W (Hd := fun q : Int32 × Int32 => ∀ (H : Heap) (locs : List Loc) (ls : Array Slot), va_P D zclM (zwM ad cI cJ cZ cO σ) H → va_D A (zwM ad cI cJ cZ cO σ) → va_S A s.heap H locs → lv_has ls 5 [(0, .ref (ad 0)), (1, .int v1), (2, .int v2), (3, .int q.1), (4, .int q.2)] → W p l e (zR 0 0) s m args below meth c H locs 0 0 Q (F0 m 5 ls [])) (Ex := fun r : Int32 => ∀ (H : Heap) (locs : List Loc) (ls : Array Slot), va_P D zclM (zwM ad cI cJ cZ cO σ) H → va_D A (zwM ad cI cJ cZ cO σ) → va_S A s.heap H locs → lv_has ls 5 [(3, .int r)] → W p l e (zR 0 0) s m args below meth c H locs 0 0 Q (F0 m 48 ls [])) ?_ N q r
    rintro ⟨v3_1, v4_1⟩ res hm hk H locs ls hP hD hS hl
    try dsimp only at hP hD hl
    replace hm : m_X9_hasKey_L5 N σ v1 v2 v3_1 v4_1 = some res := hm
    have h41 : ∀ (v4_6 : Int32) (x0_6 : Int32), m_X9_hasKey_41_in5 N σ v1 v2 v4_6 x0_6 = some res → ∀ (H : Heap) (locs : List Loc) (ls : Array Slot), va_P D zclM (zwM ad cI cJ cZ cO σ) H → va_D A (zwM ad cI cJ cZ cO σ) → va_S A s.heap H locs → lv_has ls 5 [(0, .ref (ad 0)), (1, .int v1), (2, .int v2), (4, .int v4_6)] → W p l e (zR 0 0) s m args below meth c H locs 0 0 Q (F0 m 41 ls [.int x0_6]) := by
      intro v4_6 x0_6 hm H locs ls hP hD hS hl
      unfold m_X9_hasKey_41_in5 at hm
      refine lv_istore_n (lv' := [(3, .int x0_6), (0, .ref (ad 0)), (1, .int v1), (2, .int v2), (4, .int v4_6)]) hx hb dX9_hasKey_41 rfl hl (by decide) rfl (fun ls hl => ?_)
      refine lv_iinc (v := (v4_6 + (1 : Int32))) (lv' := [(4, .int (v4_6 + (1 : Int32))), (3, .int x0_6), (0, .ref (ad 0)), (1, .int v1), (2, .int v2)]) hx hb dX9_hasKey_42 hl (k := 4) rfl rfl (by decide) rfl (fun ls hl => ?_)
      refine lv_goto (tgt := 5) hx hb dX9_hasKey_45 (by decide) ?_
      cases hm
      exact hk _ _ _ hP hD hS (lv_sub hl [2, 3, 4, 1, 0] rfl)
    have h36 : ∀ (v4_5 : Int32), m_X9_hasKey_36_in5 N σ v1 v2 v4_5 = some res → ∀ (H : Heap) (locs : List Loc) (ls : Array Slot), va_P D zclM (zwM ad cI cJ cZ cO σ) H → va_D A (zwM ad cI cJ cZ cO σ) → va_S A s.heap H locs → lv_has ls 5 [(0, .ref (ad 0)), (1, .int v1), (2, .int v2), (4, .int v4_5)] → W p l e (zR 0 0) s m args below meth c H locs 0 0 Q (F0 m 36 ls []) := by
      intro v4_5 hm H locs ls hP hD hS hl
      unfold m_X9_hasKey_36_in5 at hm
      refine lv_iconst (v := (1 : Int32)) hx hb dX9_hasKey_36 (by decide) ?_
      refine lv_goto (tgt := 41) hx hb dX9_hasKey_37 (by decide) ?_
      exact h41 v4_5 (1 : Int32) hm _ _ _ hP hD hS (lv_sub hl [0, 1, 2, 3] rfl)
    unfold m_X9_hasKey_L5 at hm
    refine lv_iload hx hb dX9_hasKey_5 (lv_at hl 4 rfl) ?_
    refine lv_aload_n hx hb dX9_hasKey_7 rfl (lv_at hl 0 rfl) ?_
    refine zget (v := .ref (ad 23)) hx hb hT zinX9 hown hK hP 0 rfl rfl 28 (by decide) zw650 rfl dX9_hasKey_8 ?_
    refine lv_iload_n hx hb dX9_hasKey_11 rfl (lv_at hl 1 rfl) ?_
    obtain ⟨b2, eb2, hm⟩ := Option.bind_eq_some_iff.mp hm
    refine ziald hx hb hK hP 23 0 rfl rfl eb2 dX9_hasKey_12 ?_
    refine lv_icmp_ge (tgt := 48) hx hb dX9_hasKey_13 (by decide) (fun h3 => ?_) (fun h3 => ?_)
    · rw [if_pos h3] at hm
      cases hm
      exact hk _ _ _ hP hD hS (lv_sub hl [3] rfl)
    · rw [if_neg h3] at hm
      refine lv_iload_n hx hb dX9_hasKey_16 rfl (lv_at hl 3 rfl) ?_
      refine lv_if_ne (tgt := 36) hx hb dX9_hasKey_17 (by decide) (fun h4 => ?_) (fun h4 => ?_)
      · rw [if_neg h4] at hm
        exact h36 v4_1 hm _ _ _ hP hD hS (lv_sub hl [0, 1, 2, 4] rfl)
      · rw [if_pos h4] at hm
        refine lv_aload_n hx hb dX9_hasKey_20 rfl (lv_at hl 0 rfl) ?_
        refine zget (v := .ref (ad 24)) hx hb hT zinX9 hown hK hP 0 rfl rfl 29 (by decide) zw651 rfl dX9_hasKey_21 ?_
        refine lv_bipush (v := (18 : Int32)) hx hb dX9_hasKey_24 (by decide) ?_
        refine lv_iload_n hx hb dX9_hasKey_26 rfl (lv_at hl 1 rfl) ?_
        refine lv_imul hx hb dX9_hasKey_27 ?_
        refine lv_iload hx hb dX9_hasKey_28 (lv_at hl 4 rfl) ?_
        refine lv_iadd hx hb dX9_hasKey_30 ?_
        obtain ⟨b7, eb7, hm⟩ := Option.bind_eq_some_iff.mp hm
        refine ziald hx hb hK hP 24 0 rfl rfl eb7 dX9_hasKey_31 ?_
        refine lv_iload_n hx hb dX9_hasKey_32 rfl (lv_at hl 2 rfl) ?_
        refine lv_icmp_ne (tgt := 40) hx hb dX9_hasKey_33 (by decide) (fun h8 => ?_) (fun h8 => ?_)
        · rw [if_neg h8] at hm
          refine lv_iconst (v := (0 : Int32)) hx hb dX9_hasKey_40 (by decide) ?_
          exact h41 v4_1 (0 : Int32) hm _ _ _ hP hD hS (lv_sub hl [0, 1, 2, 4] rfl)
        · rw [if_pos h8] at hm
          exact h36 v4_1 hm _ _ _ hP hD hS (lv_sub hl [0, 1, 2, 4] rfl)
  have h48 : ∀ (v3_11 : Int32), m_X9_hasKey_48 N σ v1 v2 v3_11 = some r → ∀ (H : Heap) (locs : List Loc) (ls : Array Slot), va_P D zclM (zwM ad cI cJ cZ cO σ) H → va_D A (zwM ad cI cJ cZ cO σ) → va_S A s.heap H locs → lv_has ls 5 [(3, .int v3_11)] → W p l e (zR 0 0) s m args below meth c H locs 0 0 Q (F0 m 48 ls []) := by
    intro v3_11 hm H locs ls hP hD hS hl
    unfold m_X9_hasKey_48 at hm
    refine lv_iload_n hx hb dX9_hasKey_48 rfl (lv_at hl 0 rfl) ?_
    obtain ⟨b12, eb12, hm⟩ := Option.bind_eq_some_iff.mp hm
    obtain ⟨rfl, hzb12, hwb12, hfb12⟩ := zcz_all eb12
    cases hm
    exact hret _ _ _ _ hzb12 dX9_hasKey_49 hP hD hS
  unfold m_X9_hasKey at hm
  refine lv_iconst (v := (0 : Int32)) hx hb dX9_hasKey_0 (by decide) ?_
  refine lv_istore_n (lv' := [(3, .int (0 : Int32)), (0, .ref (ad 0)), (1, .int v1), (2, .int v2)]) hx hb dX9_hasKey_1 rfl hl (by decide) rfl (fun ls hl => ?_)
  refine lv_iconst (v := (0 : Int32)) hx hb dX9_hasKey_2 (by decide) ?_
  refine lv_istore (lv' := [(4, .int (0 : Int32)), (3, .int (0 : Int32)), (0, .ref (ad 0)), (1, .int v1), (2, .int v2)]) hx hb dX9_hasKey_3 hl (by decide) rfl (fun ls hl => ?_)
  obtain ⟨v3_10, e13, hm⟩ := Option.bind_eq_some_iff.mp hm
  refine hL5  _ v3_10 e13 ?_ _ _ _ hP hD hS (lv_sub hl [2, 3, 4, 1, 0] rfl)
  intro H locs ls hP hD hS hl
  try dsimp only at hP hD hl
  replace hm : m_X9_hasKey_48 N σ v1 v2 v3_10 = some r := hm
  exact h48 v3_10 hm _ _ _ hP hD hS (lv_sub hl [0] rfl)
set_option maxHeartbeats 4000000 in
set_option maxRecDepth 100000 in
theorem k_X9_sumOf {l : Launch} {D : va_G} {ad : Nat → Nat} {cI cJ cZ cO : ClassId} {t : Nat} {A : Nat → Prop} {N : Nat} {σ : zS} {v1 : Int32} {v2 : Int32} {r : Int64}  (hm : m_X9_sumOf N σ v1 v2 = some r) : zCl l yX9_sumOf cX9_sumOf 6 (some .long) (zR 0 0) D zclM (zty cI cJ cZ cO) t A (zwM ad cI cJ cZ cO) [.ref (ad 0), .int v1, .int v2] σ σ r := by
  refine zMl (by decide) (Nat.le_of_ble_eq_true rfl) ?_
  intro p e s m args below meth c Q hx hb hml hown hT hK hZ hret hP hD hS ls hl
  replace hown : s.vm.findClass RX9 = some m.cls := hown
  replace hl : lv_has ls 6 [(0, .ref (ad 0)), (1, .int v1), (2, .int v2)] := hl
  have hL5 : ∀ (q : Int64 × Int32) (r : Int64), ziter (fun q : Int64 × Int32 => m_X9_sumOf_L5 N σ v1 v2 q.1 q.2) N q = some r → (∀ (H : Heap) (locs : List Loc) (ls : Array Slot), va_P D zclM (zwM ad cI cJ cZ cO σ) H → va_D A (zwM ad cI cJ cZ cO σ) → va_S A s.heap H locs → lv_has ls 6 [(3, .long r)] → W p l e (zR 0 0) s m args below meth c H locs 0 0 Q (F0 m 47 ls [])) → ∀ (H : Heap) (locs : List Loc) (ls : Array Slot), va_P D zclM (zwM ad cI cJ cZ cO σ) H → va_D A (zwM ad cI cJ cZ cO σ) → va_S A s.heap H locs → lv_has ls 6 [(0, .ref (ad 0)), (1, .int v1), (2, .int v2), (3, .long q.1), (5, .int q.2)] → W p l e (zR 0 0) s m args below meth c H locs 0 0 Q (F0 m 5 ls []) := by
    intro q r
    refine ziter_W (Hd := fun q : Int64 × Int32 => ∀ (H : Heap) (locs : List Loc) (ls : Array Slot), va_P D zclM (zwM ad cI cJ cZ cO σ) H → va_D A (zwM ad cI cJ cZ cO σ) → va_S A s.heap H locs → lv_has ls 6 [(0, .ref (ad 0)), (1, .int v1), (2, .int v2), (3, .long q.1), (5, .int q.2)] → W p l e (zR 0 0) s m args below meth c H locs 0 0 Q (F0 m 5 ls [])) (Ex := fun r : Int64 => ∀ (H : Heap) (locs : List Loc) (ls : Array Slot), va_P D zclM (zwM ad cI cJ cZ cO σ) H → va_D A (zwM ad cI cJ cZ cO σ) → va_S A s.heap H locs → lv_has ls 6 [(3, .long r)] → W p l e (zR 0 0) s m args below meth c H locs 0 0 Q (F0 m 47 ls [])) ?_ N q r
    rintro ⟨v3_1, v5_1⟩ res hm hk H locs ls hP hD hS hl
    try dsimp only at hP hD hl
    replace hm : m_X9_sumOf_L5 N σ v1 v2 v3_1 v5_1 = some res := hm
    unfold m_X9_sumOf_L5 at hm
    refine lv_iload hx hb dX9_sumOf_5 (lv_at hl 4 rfl) ?_
    refine lv_aload_n hx hb dX9_sumOf_7 rfl (lv_at hl 0 rfl) ?_
    refine zget (v := .ref (ad 1)) hx hb hT zinX9 hown hK hP 0 rfl rfl 1 (by decide) zw623 rfl dX9_sumOf_8 ?_
    refine lv_bipush (v := (6 : Int32)) hx hb dX9_sumOf_11 (by decide) ?_
    refine lv_iload_n hx hb dX9_sumOf_13 rfl (lv_at hl 1 rfl) ?_
    refine lv_imul hx hb dX9_sumOf_14 ?_
    refine lv_iload_n hx hb dX9_sumOf_15 rfl (lv_at hl 2 rfl) ?_
    refine lv_iadd hx hb dX9_sumOf_16 ?_
    obtain ⟨b2, eb2, hm⟩ := Option.bind_eq_some_iff.mp hm
    refine ziald hx hb hK hP 1 0 rfl rfl eb2 dX9_sumOf_17 ?_
    refine lv_icmp_ge (tgt := 47) hx hb dX9_sumOf_18 (by decide) (fun h3 => ?_) (fun h3 => ?_)
    · rw [if_pos h3] at hm
      cases hm
      exact hk _ _ _ hP hD hS (lv_sub hl [3] rfl)
    · rw [if_neg h3] at hm
      refine lv_lload_n hx hb dX9_sumOf_21 rfl (lv_at hl 3 rfl) ?_
      refine lv_aload_n hx hb dX9_sumOf_22 rfl (lv_at hl 0 rfl) ?_
      refine zget (v := .ref (ad 2)) hx hb hT zinX9 hown hK hP 0 rfl rfl 2 (by decide) zw624 rfl dX9_sumOf_23 ?_
      refine lv_iconst (v := (3 : Int32)) hx hb dX9_sumOf_26 (by decide) ?_
      refine lv_bipush (v := (6 : Int32)) hx hb dX9_sumOf_27 (by decide) ?_
      refine lv_iload_n hx hb dX9_sumOf_29 rfl (lv_at hl 1 rfl) ?_
      refine lv_imul hx hb dX9_sumOf_30 ?_
      refine lv_iload_n hx hb dX9_sumOf_31 rfl (lv_at hl 2 rfl) ?_
      refine lv_iadd hx hb dX9_sumOf_32 ?_
      refine lv_imul hx hb dX9_sumOf_33 ?_
      refine lv_iload hx hb dX9_sumOf_34 (lv_at hl 4 rfl) ?_
      refine lv_iadd hx hb dX9_sumOf_36 ?_
      obtain ⟨b4, eb4, hm⟩ := Option.bind_eq_some_iff.mp hm
      refine ziald hx hb hK hP 2 0 rfl rfl eb4 dX9_sumOf_37 ?_
      refine lv_i2l (v := b4.toInt64) hx hb dX9_sumOf_38 rfl ?_
      refine lv_ladd hx hb dX9_sumOf_39 ?_
      refine lv_lstore_n (lv' := [(3, .long (v3_1 + b4.toInt64)), (0, .ref (ad 0)), (1, .int v1), (2, .int v2), (5, .int v5_1)]) hx hb dX9_sumOf_40 rfl hl (by decide) rfl (fun ls hl => ?_)
      refine lv_iinc (v := (v5_1 + (1 : Int32))) (lv' := [(5, .int (v5_1 + (1 : Int32))), (3, .long (v3_1 + b4.toInt64)), (0, .ref (ad 0)), (1, .int v1), (2, .int v2)]) hx hb dX9_sumOf_41 hl (k := 4) rfl rfl (by decide) rfl (fun ls hl => ?_)
      refine lv_goto (tgt := 5) hx hb dX9_sumOf_44 (by decide) ?_
      cases hm
      exact hk _ _ _ hP hD hS (lv_sub hl [2, 3, 4, 1, 0] rfl)
  have h47 : ∀ (v3_7 : Int64), m_X9_sumOf_47 N σ v1 v2 v3_7 = some r → ∀ (H : Heap) (locs : List Loc) (ls : Array Slot), va_P D zclM (zwM ad cI cJ cZ cO σ) H → va_D A (zwM ad cI cJ cZ cO σ) → va_S A s.heap H locs → lv_has ls 6 [(3, .long v3_7)] → W p l e (zR 0 0) s m args below meth c H locs 0 0 Q (F0 m 47 ls []) := by
    intro v3_7 hm H locs ls hP hD hS hl
    unfold m_X9_sumOf_47 at hm
    refine lv_lload_n hx hb dX9_sumOf_47 rfl (lv_at hl 0 rfl) ?_
    cases hm
    exact hret _ _ _ _ dX9_sumOf_48 hP hD hS
  unfold m_X9_sumOf at hm
  refine lv_lconst (v := (0 : Int64)) hx hb dX9_sumOf_0 (by decide) ?_
  refine lv_lstore_n (lv' := [(3, .long (0 : Int64)), (0, .ref (ad 0)), (1, .int v1), (2, .int v2)]) hx hb dX9_sumOf_1 rfl hl (by decide) rfl (fun ls hl => ?_)
  refine lv_iconst (v := (0 : Int32)) hx hb dX9_sumOf_2 (by decide) ?_
  refine lv_istore (lv' := [(5, .int (0 : Int32)), (3, .long (0 : Int64)), (0, .ref (ad 0)), (1, .int v1), (2, .int v2)]) hx hb dX9_sumOf_3 hl (by decide) rfl (fun ls hl => ?_)
  obtain ⟨v3_6, e8, hm⟩ := Option.bind_eq_some_iff.mp hm
  refine hL5  _ v3_6 e8 ?_ _ _ _ hP hD hS (lv_sub hl [2, 3, 4, 1, 0] rfl)
  intro H locs ls hP hD hS hl
  try dsimp only at hP hD hl
  replace hm : m_X9_sumOf_47 N σ v1 v2 v3_6 = some r := hm
  exact h47 v3_6 hm _ _ _ hP hD hS (lv_sub hl [0] rfl)
set_option maxHeartbeats 4000000 in
set_option maxRecDepth 100000 in
theorem k_X9_isNew {l : Launch} {D : va_G} {ad : Nat → Nat} {cI cJ cZ cO : ClassId} {t : Nat} {A : Nat → Prop} {N : Nat} {σ : zS} {v1 : Int32} {r : Int32}  (hm : m_X9_isNew N σ v1 = some r) : zCi l yX9_isNew cX9_isNew 4 (some .boolean) (zR 0 0) D zclM (zty cI cJ cZ cO) t A (zwM ad cI cJ cZ cO) [.ref (ad 0), .int v1] σ σ r := by
  refine zMz (by decide) (Nat.le_of_ble_eq_true rfl) ?_
  intro p e s m args below meth c Q hx hb hml hown hT hK hZ hret hP hD hS ls hl
  replace hown : s.vm.findClass RX9 = some m.cls := hown
  replace hl : lv_has ls 4 [(0, .ref (ad 0)), (1, .int v1)] := hl
  have hL4 : ∀ (q : Int32 × Int32) (r : Int32), ziter (fun q : Int32 × Int32 => m_X9_isNew_L4 N σ v1 q.1 q.2) N q = some r → (∀ (H : Heap) (locs : List Loc) (ls : Array Slot), va_P D zclM (zwM ad cI cJ cZ cO σ) H → va_D A (zwM ad cI cJ cZ cO σ) → va_S A s.heap H locs → lv_has ls 4 [(2, .int r)] → W p l e (zR 0 0) s m args below meth c H locs 0 0 Q (F0 m 38 ls [])) → ∀ (H : Heap) (locs : List Loc) (ls : Array Slot), va_P D zclM (zwM ad cI cJ cZ cO σ) H → va_D A (zwM ad cI cJ cZ cO σ) → va_S A s.heap H locs → lv_has ls 4 [(0, .ref (ad 0)), (1, .int v1), (2, .int q.1), (3, .int q.2)] → W p l e (zR 0 0) s m args below meth c H locs 0 0 Q (F0 m 4 ls []) := by
    intro q r
    refine ziter_W (Hd := fun q : Int32 × Int32 => ∀ (H : Heap) (locs : List Loc) (ls : Array Slot), va_P D zclM (zwM ad cI cJ cZ cO σ) H → va_D A (zwM ad cI cJ cZ cO σ) → va_S A s.heap H locs → lv_has ls 4 [(0, .ref (ad 0)), (1, .int v1), (2, .int q.1), (3, .int q.2)] → W p l e (zR 0 0) s m args below meth c H locs 0 0 Q (F0 m 4 ls [])) (Ex := fun r : Int32 => ∀ (H : Heap) (locs : List Loc) (ls : Array Slot), va_P D zclM (zwM ad cI cJ cZ cO σ) H → va_D A (zwM ad cI cJ cZ cO σ) → va_S A s.heap H locs → lv_has ls 4 [(2, .int r)] → W p l e (zR 0 0) s m args below meth c H locs 0 0 Q (F0 m 38 ls [])) ?_ N q r
    rintro ⟨v2_1, v3_1⟩ res hm hk H locs ls hP hD hS hl
    try dsimp only at hP hD hl
    replace hm : m_X9_isNew_L4 N σ v1 v2_1 v3_1 = some res := hm
    have h31 : ∀ (v3_5 : Int32) (x0_5 : Int32), m_X9_isNew_31_in4 N σ v1 v3_5 x0_5 = some res → ∀ (H : Heap) (locs : List Loc) (ls : Array Slot), va_P D zclM (zwM ad cI cJ cZ cO σ) H → va_D A (zwM ad cI cJ cZ cO σ) → va_S A s.heap H locs → lv_has ls 4 [(0, .ref (ad 0)), (1, .int v1), (3, .int v3_5)] → W p l e (zR 0 0) s m args below meth c H locs 0 0 Q (F0 m 31 ls [.int x0_5]) := by
      intro v3_5 x0_5 hm H locs ls hP hD hS hl
      unfold m_X9_isNew_31_in4 at hm
      refine lv_istore_n (lv' := [(2, .int x0_5), (0, .ref (ad 0)), (1, .int v1), (3, .int v3_5)]) hx hb dX9_isNew_31 rfl hl (by decide) rfl (fun ls hl => ?_)
      refine lv_iinc (v := (v3_5 + (1 : Int32))) (lv' := [(3, .int (v3_5 + (1 : Int32))), (2, .int x0_5), (0, .ref (ad 0)), (1, .int v1)]) hx hb dX9_isNew_32 hl (k := 3) rfl rfl (by decide) rfl (fun ls hl => ?_)
      refine lv_goto (tgt := 4) hx hb dX9_isNew_35 (by decide) ?_
      cases hm
      exact hk _ _ _ hP hD hS (lv_sub hl [2, 3, 1, 0] rfl)
    have h30 : ∀ (v3_4 : Int32), m_X9_isNew_30_in4 N σ v1 v3_4 = some res → ∀ (H : Heap) (locs : List Loc) (ls : Array Slot), va_P D zclM (zwM ad cI cJ cZ cO σ) H → va_D A (zwM ad cI cJ cZ cO σ) → va_S A s.heap H locs → lv_has ls 4 [(0, .ref (ad 0)), (1, .int v1), (3, .int v3_4)] → W p l e (zR 0 0) s m args below meth c H locs 0 0 Q (F0 m 30 ls []) := by
      intro v3_4 hm H locs ls hP hD hS hl
      unfold m_X9_isNew_30_in4 at hm
      refine lv_iconst (v := (0 : Int32)) hx hb dX9_isNew_30 (by decide) ?_
      exact h31 v3_4 (0 : Int32) hm _ _ _ hP hD hS (lv_sub hl [0, 1, 2] rfl)
    unfold m_X9_isNew_L4 at hm
    refine lv_iload_n hx hb dX9_isNew_4 rfl (lv_at hl 3 rfl) ?_
    refine lv_aload_n hx hb dX9_isNew_5 rfl (lv_at hl 0 rfl) ?_
    refine zget (v := .int (σ.1 4)) hx hb hT zinX9 hown hK hP 0 rfl rfl 23 (by decide) zw645 rfl dX9_isNew_6 ?_
    refine lv_icmp_ge (tgt := 38) hx hb dX9_isNew_9 (by decide) (fun h2 => ?_) (fun h2 => ?_)
    · rw [if_pos h2] at hm
      cases hm
      exact hk _ _ _ hP hD hS (lv_sub hl [2] rfl)
    · rw [if_neg h2] at hm
      refine lv_iload_n hx hb dX9_isNew_12 rfl (lv_at hl 2 rfl) ?_
      refine lv_if_eq (tgt := 30) hx hb dX9_isNew_13 (by decide) (fun h3 => ?_) (fun h3 => ?_)
      · rw [if_pos h3] at hm
        exact h30 v3_1 hm _ _ _ hP hD hS (lv_sub hl [0, 1, 3] rfl)
      · rw [if_neg h3] at hm
        refine lv_aload_n hx hb dX9_isNew_16 rfl (lv_at hl 0 rfl) ?_
        refine zget (v := .ref (ad 20)) hx hb hT zinX9 hown hK hP 0 rfl rfl 24 (by decide) zw646 rfl dX9_isNew_17 ?_
        refine lv_iload_n hx hb dX9_isNew_20 rfl (lv_at hl 3 rfl) ?_
        obtain ⟨b6, eb6, hm⟩ := Option.bind_eq_some_iff.mp hm
        refine ziald hx hb hK hP 20 0 rfl rfl eb6 dX9_isNew_21 ?_
        refine lv_iload_n hx hb dX9_isNew_22 rfl (lv_at hl 1 rfl) ?_
        refine lv_icmp_eq (tgt := 30) hx hb dX9_isNew_23 (by decide) (fun h7 => ?_) (fun h7 => ?_)
        · rw [if_pos h7] at hm
          exact h30 v3_1 hm _ _ _ hP hD hS (lv_sub hl [0, 1, 3] rfl)
        · rw [if_neg h7] at hm
          refine lv_iconst (v := (1 : Int32)) hx hb dX9_isNew_26 (by decide) ?_
          refine lv_goto (tgt := 31) hx hb dX9_isNew_27 (by decide) ?_
          exact h31 v3_1 (1 : Int32) hm _ _ _ hP hD hS (lv_sub hl [0, 1, 3] rfl)
  have h38 : ∀ (v2_10 : Int32), m_X9_isNew_38 N σ v1 v2_10 = some r → ∀ (H : Heap) (locs : List Loc) (ls : Array Slot), va_P D zclM (zwM ad cI cJ cZ cO σ) H → va_D A (zwM ad cI cJ cZ cO σ) → va_S A s.heap H locs → lv_has ls 4 [(2, .int v2_10)] → W p l e (zR 0 0) s m args below meth c H locs 0 0 Q (F0 m 38 ls []) := by
    intro v2_10 hm H locs ls hP hD hS hl
    unfold m_X9_isNew_38 at hm
    refine lv_iload_n hx hb dX9_isNew_38 rfl (lv_at hl 0 rfl) ?_
    obtain ⟨b11, eb11, hm⟩ := Option.bind_eq_some_iff.mp hm
    obtain ⟨rfl, hzb11, hwb11, hfb11⟩ := zcz_all eb11
    cases hm
    exact hret _ _ _ _ hzb11 dX9_isNew_39 hP hD hS
  unfold m_X9_isNew at hm
  refine lv_iconst (v := (1 : Int32)) hx hb dX9_isNew_0 (by decide) ?_
  refine lv_istore_n (lv' := [(2, .int (1 : Int32)), (0, .ref (ad 0)), (1, .int v1)]) hx hb dX9_isNew_1 rfl hl (by decide) rfl (fun ls hl => ?_)
  refine lv_iconst (v := (0 : Int32)) hx hb dX9_isNew_2 (by decide) ?_
  refine lv_istore_n (lv' := [(3, .int (0 : Int32)), (2, .int (1 : Int32)), (0, .ref (ad 0)), (1, .int v1)]) hx hb dX9_isNew_3 rfl hl (by decide) rfl (fun ls hl => ?_)
  obtain ⟨v2_9, e12, hm⟩ := Option.bind_eq_some_iff.mp hm
  refine hL4  _ v2_9 e12 ?_ _ _ _ hP hD hS (lv_sub hl [2, 3, 1, 0] rfl)
  intro H locs ls hP hD hS hl
  try dsimp only at hP hD hl
  replace hm : m_X9_isNew_38 N σ v1 v2_9 = some r := hm
  exact h38 v2_9 hm _ _ _ hP hD hS (lv_sub hl [0] rfl)
set_option maxHeartbeats 4000000 in
set_option maxRecDepth 100000 in
theorem k_X9_findKeys {l : Launch} {D : va_G} {ad : Nat → Nat} {cI cJ cZ cO : ClassId} {t : Nat} {A : Nat → Prop} {N : Nat} {σ σ' : zS} {v1 : Int32}   (hm : m_X9_findKeys N σ v1 = some σ') : zCv l yX9_findKeys cX9_findKeys 5 (none) (zR 6 137) D zclM (zty cI cJ cZ cO) t A (zwM ad cI cJ cZ cO) [.ref (ad 0), .int v1] σ σ' := by
  refine zMv (by decide) (Nat.le_of_ble_eq_true rfl) ?_
  intro p e s m args below meth c Q hx hb hml hown hT hK hZ hret hP hD hS ls hl
  replace hown : s.vm.findClass RX9 = some m.cls := hown
  replace hl : lv_has ls 5 [(0, .ref (ad 0)), (1, .int v1)] := hl
  have hL7 : ∀ (q : zS × Int32) (r : zS), ziter (fun q : zS × Int32 => m_X9_findKeys_L7 N v1 q.1 q.2) N q = some r → (∀ (H : Heap) (locs : List Loc) (ls : Array Slot), va_P D zclM (zwM ad cI cJ cZ cO r) H → va_D A (zwM ad cI cJ cZ cO r) → va_S A s.heap H locs → lv_has ls 5 [(0, .ref (ad 0)), (1, .int v1)] → W p l e (zR 6 137) s m args below meth c H locs 0 0 Q (F0 m 43 ls [])) → ∀ (H : Heap) (locs : List Loc) (ls : Array Slot), va_P D zclM (zwM ad cI cJ cZ cO q.1) H → va_D A (zwM ad cI cJ cZ cO q.1) → va_S A s.heap H locs → lv_has ls 5 [(0, .ref (ad 0)), (1, .int v1), (2, .int q.2)] → W p l e (zR 6 137) s m args below meth c H locs 0 0 Q (F0 m 7 ls []) := by
    intro q r
    refine ziter_W (Hd := fun q : zS × Int32 => ∀ (H : Heap) (locs : List Loc) (ls : Array Slot), va_P D zclM (zwM ad cI cJ cZ cO q.1) H → va_D A (zwM ad cI cJ cZ cO q.1) → va_S A s.heap H locs → lv_has ls 5 [(0, .ref (ad 0)), (1, .int v1), (2, .int q.2)] → W p l e (zR 6 137) s m args below meth c H locs 0 0 Q (F0 m 7 ls [])) (Ex := fun r : zS => ∀ (H : Heap) (locs : List Loc) (ls : Array Slot), va_P D zclM (zwM ad cI cJ cZ cO r) H → va_D A (zwM ad cI cJ cZ cO r) → va_S A s.heap H locs → lv_has ls 5 [(0, .ref (ad 0)), (1, .int v1)] → W p l e (zR 6 137) s m args below meth c H locs 0 0 Q (F0 m 43 ls [])) ?_ N q r
    rintro ⟨σ2, v2_2⟩ res hm hk H locs ls hP hD hS hl
    try dsimp only at hP hD hl
    replace hm : m_X9_findKeys_L7 N v1 σ2 v2_2 = some res := hm
    unfold m_X9_findKeys_L7 at hm
    refine lv_iload_n hx hb dX9_findKeys_7 rfl (lv_at hl 2 rfl) ?_
    refine lv_aload_n hx hb dX9_findKeys_8 rfl (lv_at hl 0 rfl) ?_
    refine zget (v := .ref (ad 8)) hx hb hT zinX9 hown hK hP 0 rfl rfl 9 (by decide) zw631 rfl dX9_findKeys_9 ?_
    refine lv_iload_n hx hb dX9_findKeys_12 rfl (lv_at hl 1 rfl) ?_
    obtain ⟨b3, eb3, hm⟩ := Option.bind_eq_some_iff.mp hm
    refine ziald hx hb hK hP 8 0 rfl rfl eb3 dX9_findKeys_13 ?_
    refine lv_icmp_ge (tgt := 43) hx hb dX9_findKeys_14 (by decide) (fun h4 => ?_) (fun h4 => ?_)
    · rw [if_pos h4] at hm
      cases hm
      exact hk _ _ _ hP hD hS (lv_sub hl [0, 1] rfl)
    · rw [if_neg h4] at hm
      refine lv_aload_n hx hb dX9_findKeys_17 rfl (lv_at hl 0 rfl) ?_
      refine zget (v := .ref (ad 20)) hx hb hT zinX9 hown hK hP 0 rfl rfl 24 (by decide) zw646 rfl dX9_findKeys_18 ?_
      refine lv_aload_n hx hb dX9_findKeys_21 rfl (lv_at hl 0 rfl) ?_
      refine zget (v := .int (σ2.1 4)) hx hb hT zinX9 hown hK hP 0 rfl rfl 23 (by decide) zw645 rfl dX9_findKeys_22 ?_
      refine lv_iload_n hx hb dX9_findKeys_25 rfl (lv_at hl 2 rfl) ?_
      obtain ⟨σ5, eσ5, hm⟩ := Option.bind_eq_some_iff.mp hm
      refine ziast (j := 19) hx hb hK hP hD hS 20 0 rfl rfl eσ5 (fun _ => rfl) dX9_findKeys_26 (fun H locs hP hD hS => ?_)
      refine lv_aload_n hx hb dX9_findKeys_27 rfl (lv_at hl 0 rfl) ?_
      refine lv_dup hx hb dX9_findKeys_28 rfl ?_
      refine zget (v := .int (σ5.1 4)) hx hb hT zinX9 hown hK hP 0 rfl rfl 23 (by decide) zw645 rfl dX9_findKeys_29 ?_
      refine lv_iconst (v := (1 : Int32)) hx hb dX9_findKeys_32 (by decide) ?_
      refine lv_iadd hx hb dX9_findKeys_33 ?_
      obtain ⟨σ6, eσ6, hm⟩ := Option.bind_eq_some_iff.mp hm
      refine zput (j := 4) (ty := .int) hx hb hT zinX9 tyX9 tyX9_ok nmX9 hown hK hP hD hS 0 rfl rfl 23 (by decide) zw645 rfl (by decide +kernel) rfl rfl (Nat.le_of_ble_eq_true rfl) eσ6 rfl dX9_findKeys_34 (fun H locs hP hD hS => ?_)
      refine lv_iinc (v := (v2_2 + (1 : Int32))) (lv' := [(2, .int (v2_2 + (1 : Int32))), (0, .ref (ad 0)), (1, .int v1)]) hx hb dX9_findKeys_37 hl (k := 2) rfl rfl (by decide) rfl (fun ls hl => ?_)
      refine lv_goto (tgt := 7) hx hb dX9_findKeys_40 (by decide) ?_
      cases hm
      exact hk _ _ _ hP hD hS (lv_sub hl [1, 2, 0] rfl)
  have hL45 : ∀ (q : zS × Int32) (r : zS), ziter (fun q : zS × Int32 => m_X9_findKeys_L45 N v1 q.1 q.2) N q = some r → (∀ (H : Heap) (locs : List Loc) (ls : Array Slot), va_P D zclM (zwM ad cI cJ cZ cO r) H → va_D A (zwM ad cI cJ cZ cO r) → va_S A s.heap H locs → lv_has ls 5 [] → W p l e (zR 6 137) s m args below meth c H locs 0 0 Q (F0 m 146 ls [])) → ∀ (H : Heap) (locs : List Loc) (ls : Array Slot), va_P D zclM (zwM ad cI cJ cZ cO q.1) H → va_D A (zwM ad cI cJ cZ cO q.1) → va_S A s.heap H locs → lv_has ls 5 [(0, .ref (ad 0)), (1, .int v1), (2, .int q.2)] → W p l e (zR 6 137) s m args below meth c H locs 0 0 Q (F0 m 45 ls []) := by
    intro q r
    refine ziter_W (Hd := fun q : zS × Int32 => ∀ (H : Heap) (locs : List Loc) (ls : Array Slot), va_P D zclM (zwM ad cI cJ cZ cO q.1) H → va_D A (zwM ad cI cJ cZ cO q.1) → va_S A s.heap H locs → lv_has ls 5 [(0, .ref (ad 0)), (1, .int v1), (2, .int q.2)] → W p l e (zR 6 137) s m args below meth c H locs 0 0 Q (F0 m 45 ls [])) (Ex := fun r : zS => ∀ (H : Heap) (locs : List Loc) (ls : Array Slot), va_P D zclM (zwM ad cI cJ cZ cO r) H → va_D A (zwM ad cI cJ cZ cO r) → va_S A s.heap H locs → lv_has ls 5 [] → W p l e (zR 6 137) s m args below meth c H locs 0 0 Q (F0 m 146 ls [])) ?_ N q r
    rintro ⟨σ10, v2_10⟩ res hm hk H locs ls hP hD hS hl
    try dsimp only at hP hD hl
    replace hm : m_X9_findKeys_L45 N v1 σ10 v2_10 = some res := hm
    have hL69 : ∀ (v2_14 : Int32) (v3_14 : Int32), ∀ (q : zS × Int32) (r : zS), ziter (fun q : zS × Int32 => m_X9_findKeys_L69 N v1 v2_14 v3_14 q.1 q.2) N q = some r → (∀ (H : Heap) (locs : List Loc) (ls : Array Slot), va_P D zclM (zwM ad cI cJ cZ cO r) H → va_D A (zwM ad cI cJ cZ cO r) → va_S A s.heap H locs → lv_has ls 5 [(0, .ref (ad 0)), (1, .int v1), (2, .int v2_14)] → W p l e (zR 6 137) s m args below meth c H locs 0 0 Q (F0 m 140 ls [])) → ∀ (H : Heap) (locs : List Loc) (ls : Array Slot), va_P D zclM (zwM ad cI cJ cZ cO q.1) H → va_D A (zwM ad cI cJ cZ cO q.1) → va_S A s.heap H locs → lv_has ls 5 [(0, .ref (ad 0)), (1, .int v1), (2, .int v2_14), (3, .int v3_14), (4, .int q.2)] → W p l e (zR 6 137) s m args below meth c H locs 0 0 Q (F0 m 69 ls []) := by
      intro v2_14 v3_14
      intro q r
      refine ziter_W (Hd := fun q : zS × Int32 => ∀ (H : Heap) (locs : List Loc) (ls : Array Slot), va_P D zclM (zwM ad cI cJ cZ cO q.1) H → va_D A (zwM ad cI cJ cZ cO q.1) → va_S A s.heap H locs → lv_has ls 5 [(0, .ref (ad 0)), (1, .int v1), (2, .int v2_14), (3, .int v3_14), (4, .int q.2)] → W p l e (zR 6 137) s m args below meth c H locs 0 0 Q (F0 m 69 ls [])) (Ex := fun r : zS => ∀ (H : Heap) (locs : List Loc) (ls : Array Slot), va_P D zclM (zwM ad cI cJ cZ cO r) H → va_D A (zwM ad cI cJ cZ cO r) → va_S A s.heap H locs → lv_has ls 5 [(0, .ref (ad 0)), (1, .int v1), (2, .int v2_14)] → W p l e (zR 6 137) s m args below meth c H locs 0 0 Q (F0 m 140 ls [])) ?_ N q r
      rintro ⟨σ14, v4_14⟩ res hm hk H locs ls hP hD hS hl
      try dsimp only at hP hD hl
      replace hm : m_X9_findKeys_L69 N v1 v2_14 v3_14 σ14 v4_14 = some res := hm
      have h134 : ∀ (σ21 : zS) (v4_21 : Int32), m_X9_findKeys_134_in69 N v1 v2_14 v3_14 σ21 v4_21 = some res → ∀ (H : Heap) (locs : List Loc) (ls : Array Slot), va_P D zclM (zwM ad cI cJ cZ cO σ21) H → va_D A (zwM ad cI cJ cZ cO σ21) → va_S A s.heap H locs → lv_has ls 5 [(0, .ref (ad 0)), (1, .int v1), (2, .int v2_14), (3, .int v3_14), (4, .int v4_21)] → W p l e (zR 6 137) s m args below meth c H locs 0 0 Q (F0 m 134 ls []) := by
        intro σ21 v4_21 hm H locs ls hP hD hS hl
        unfold m_X9_findKeys_134_in69 at hm
        refine lv_iinc (v := (v4_21 + (1 : Int32))) (lv' := [(4, .int (v4_21 + (1 : Int32))), (0, .ref (ad 0)), (1, .int v1), (2, .int v2_14), (3, .int v3_14)]) hx hb dX9_findKeys_134 hl (k := 4) rfl rfl (by decide) rfl (fun ls hl => ?_)
        refine lv_goto (tgt := 69) hx hb dX9_findKeys_137 (by decide) ?_
        cases hm
        exact hk _ _ _ hP hD hS (lv_sub hl [1, 2, 3, 4, 0] rfl)
      unfold m_X9_findKeys_L69 at hm
      refine lv_iload hx hb dX9_findKeys_69 (lv_at hl 4 rfl) ?_
      refine lv_aload_n hx hb dX9_findKeys_71 rfl (lv_at hl 0 rfl) ?_
      refine zget (v := .ref (ad 23)) hx hb hT zinX9 hown hK hP 0 rfl rfl 28 (by decide) zw650 rfl dX9_findKeys_72 ?_
      refine lv_iload_n hx hb dX9_findKeys_75 rfl (lv_at hl 2 rfl) ?_
      obtain ⟨b15, eb15, hm⟩ := Option.bind_eq_some_iff.mp hm
      refine ziald hx hb hK hP 23 0 rfl rfl eb15 dX9_findKeys_76 ?_
      refine lv_icmp_ge (tgt := 140) hx hb dX9_findKeys_77 (by decide) (fun h16 => ?_) (fun h16 => ?_)
      · rw [if_pos h16] at hm
        cases hm
        exact hk _ _ _ hP hD hS (lv_sub hl [0, 1, 2] rfl)
      · rw [if_neg h16] at hm
        refine lv_iload_n hx hb dX9_findKeys_80 rfl (lv_at hl 3 rfl) ?_
        refine lv_if_eq (tgt := 140) hx hb dX9_findKeys_81 (by decide) (fun h17 => ?_) (fun h17 => ?_)
        · rw [if_pos h17] at hm
          cases hm
          exact hk _ _ _ hP hD hS (lv_sub hl [0, 1, 2] rfl)
        · rw [if_neg h17] at hm
          refine lv_aload_n hx hb dX9_findKeys_84 rfl (lv_at hl 0 rfl) ?_
          refine lv_aload_n hx hb dX9_findKeys_85 rfl (lv_at hl 0 rfl) ?_
          refine zget (v := .ref (ad 24)) hx hb hT zinX9 hown hK hP 0 rfl rfl 29 (by decide) zw651 rfl dX9_findKeys_86 ?_
          refine lv_bipush (v := (18 : Int32)) hx hb dX9_findKeys_89 (by decide) ?_
          refine lv_iload_n hx hb dX9_findKeys_91 rfl (lv_at hl 2 rfl) ?_
          refine lv_imul hx hb dX9_findKeys_92 ?_
          refine lv_iload hx hb dX9_findKeys_93 (lv_at hl 4 rfl) ?_
          refine lv_iadd hx hb dX9_findKeys_95 ?_
          obtain ⟨b18, eb18, hm⟩ := Option.bind_eq_some_iff.mp hm
          refine ziald hx hb hK hP 24 0 rfl rfl eb18 dX9_findKeys_96 ?_
          obtain ⟨b19, eb19, hm⟩ := Option.bind_eq_some_iff.mp hm
          refine zVi (rest := []) [.int b18] hx hb hml hl.1 hown hT (k_X9_isNew eb19) zkX9_isNew zw844 ⟨by decide, by decide⟩ rfl rfl hK hZ hP hD hS 0 rfl rfl rfl rfl (Nat.le_of_ble_eq_true rfl) ⟨Nat.zero_le _, Nat.zero_le _⟩ dX9_findKeys_97 (fun H locs hP hD hS => ?_)
          refine lv_if_eq (tgt := 134) hx hb dX9_findKeys_100 (by decide) (fun h20 => ?_) (fun h20 => ?_)
          · rw [if_pos h20] at hm
            exact h134 σ14 v4_14 hm _ _ _ hP hD hS (lv_sub hl [0, 1, 2, 3, 4] rfl)
          · rw [if_neg h20] at hm
            refine lv_aload_n hx hb dX9_findKeys_103 rfl (lv_at hl 0 rfl) ?_
            refine zget (v := .ref (ad 20)) hx hb hT zinX9 hown hK hP 0 rfl rfl 24 (by decide) zw646 rfl dX9_findKeys_104 ?_
            refine lv_aload_n hx hb dX9_findKeys_107 rfl (lv_at hl 0 rfl) ?_
            refine zget (v := .int (σ14.1 4)) hx hb hT zinX9 hown hK hP 0 rfl rfl 23 (by decide) zw645 rfl dX9_findKeys_108 ?_
            refine lv_aload_n hx hb dX9_findKeys_111 rfl (lv_at hl 0 rfl) ?_
            refine zget (v := .ref (ad 24)) hx hb hT zinX9 hown hK hP 0 rfl rfl 29 (by decide) zw651 rfl dX9_findKeys_112 ?_
            refine lv_bipush (v := (18 : Int32)) hx hb dX9_findKeys_115 (by decide) ?_
            refine lv_iload_n hx hb dX9_findKeys_117 rfl (lv_at hl 2 rfl) ?_
            refine lv_imul hx hb dX9_findKeys_118 ?_
            refine lv_iload hx hb dX9_findKeys_119 (lv_at hl 4 rfl) ?_
            refine lv_iadd hx hb dX9_findKeys_121 ?_
            obtain ⟨b22, eb22, hm⟩ := Option.bind_eq_some_iff.mp hm
            refine ziald hx hb hK hP 24 0 rfl rfl eb22 dX9_findKeys_122 ?_
            obtain ⟨σ23, eσ23, hm⟩ := Option.bind_eq_some_iff.mp hm
            refine ziast (j := 19) hx hb hK hP hD hS 20 0 rfl rfl eσ23 (fun _ => rfl) dX9_findKeys_123 (fun H locs hP hD hS => ?_)
            refine lv_aload_n hx hb dX9_findKeys_124 rfl (lv_at hl 0 rfl) ?_
            refine lv_dup hx hb dX9_findKeys_125 rfl ?_
            refine zget (v := .int (σ23.1 4)) hx hb hT zinX9 hown hK hP 0 rfl rfl 23 (by decide) zw645 rfl dX9_findKeys_126 ?_
            refine lv_iconst (v := (1 : Int32)) hx hb dX9_findKeys_129 (by decide) ?_
            refine lv_iadd hx hb dX9_findKeys_130 ?_
            obtain ⟨σ24, eσ24, hm⟩ := Option.bind_eq_some_iff.mp hm
            refine zput (j := 4) (ty := .int) hx hb hT zinX9 tyX9 tyX9_ok nmX9 hown hK hP hD hS 0 rfl rfl 23 (by decide) zw645 rfl (by decide +kernel) rfl rfl (Nat.le_of_ble_eq_true rfl) eσ24 rfl dX9_findKeys_131 (fun H locs hP hD hS => ?_)
            exact h134 σ24 v4_14 hm _ _ _ hP hD hS (lv_sub hl [0, 1, 2, 3, 4] rfl)
    have h140 : ∀ (σ27 : zS) (v2_27 : Int32), m_X9_findKeys_140_in45 N v1 σ27 v2_27 = some res → ∀ (H : Heap) (locs : List Loc) (ls : Array Slot), va_P D zclM (zwM ad cI cJ cZ cO σ27) H → va_D A (zwM ad cI cJ cZ cO σ27) → va_S A s.heap H locs → lv_has ls 5 [(0, .ref (ad 0)), (1, .int v1), (2, .int v2_27)] → W p l e (zR 6 137) s m args below meth c H locs 0 0 Q (F0 m 140 ls []) := by
      intro σ27 v2_27 hm H locs ls hP hD hS hl
      unfold m_X9_findKeys_140_in45 at hm
      refine lv_iinc (v := (v2_27 + (1 : Int32))) (lv' := [(2, .int (v2_27 + (1 : Int32))), (0, .ref (ad 0)), (1, .int v1)]) hx hb dX9_findKeys_140 hl (k := 2) rfl rfl (by decide) rfl (fun ls hl => ?_)
      refine lv_goto (tgt := 45) hx hb dX9_findKeys_143 (by decide) ?_
      cases hm
      exact hk _ _ _ hP hD hS (lv_sub hl [1, 2, 0] rfl)
    unfold m_X9_findKeys_L45 at hm
    refine lv_iload_n hx hb dX9_findKeys_45 rfl (lv_at hl 2 rfl) ?_
    refine lv_aload_n hx hb dX9_findKeys_46 rfl (lv_at hl 0 rfl) ?_
    refine zget (v := .int (σ10.1 0)) hx hb hT zinX9 hown hK hP 0 rfl rfl 0 (by decide) zw622 rfl dX9_findKeys_47 ?_
    refine lv_icmp_ge (tgt := 146) hx hb dX9_findKeys_50 (by decide) (fun h11 => ?_) (fun h11 => ?_)
    · rw [if_pos h11] at hm
      cases hm
      exact hk _ _ _ hP hD hS (lv_sub hl [] rfl)
    · rw [if_neg h11] at hm
      refine lv_aload_n hx hb dX9_findKeys_53 rfl (lv_at hl 0 rfl) ?_
      refine lv_iload_n hx hb dX9_findKeys_54 rfl (lv_at hl 1 rfl) ?_
      refine lv_iload_n hx hb dX9_findKeys_55 rfl (lv_at hl 2 rfl) ?_
      obtain ⟨σ12, eσ12, hm⟩ := Option.bind_eq_some_iff.mp hm
      refine zVv (rest := []) [.int v1, .int v2_10] hx hb hml hl.1 hown hT (k_X9_findKeysOf eσ12) zkX9_findKeysOf zw802 ⟨by decide, by decide⟩ rfl rfl hK hZ hP hD hS 0 rfl rfl rfl rfl (Nat.le_of_ble_eq_true rfl) ⟨Nat.zero_le _, Nat.zero_le _⟩ dX9_findKeys_56 (fun H locs hP hD hS => ?_)
      refine lv_aload_n hx hb dX9_findKeys_59 rfl (lv_at hl 0 rfl) ?_
      refine lv_iload_n hx hb dX9_findKeys_60 rfl (lv_at hl 1 rfl) ?_
      refine lv_iload_n hx hb dX9_findKeys_61 rfl (lv_at hl 2 rfl) ?_
      obtain ⟨b13, eb13, hm⟩ := Option.bind_eq_some_iff.mp hm
      refine zVi (rest := []) [.int v1, .int v2_10] hx hb hml hl.1 hown hT (k_X9_counts eb13) zkX9_counts zw836 ⟨by decide, by decide⟩ rfl rfl hK hZ hP hD hS 0 rfl rfl rfl rfl (Nat.le_of_ble_eq_true rfl) ⟨Nat.zero_le _, Nat.zero_le _⟩ dX9_findKeys_62 (fun H locs hP hD hS => ?_)
      refine lv_istore_n (lv' := [(3, .int b13), (0, .ref (ad 0)), (1, .int v1), (2, .int v2_10)]) hx hb dX9_findKeys_65 rfl hl (by decide) rfl (fun ls hl => ?_)
      refine lv_iconst (v := (0 : Int32)) hx hb dX9_findKeys_66 (by decide) ?_
      refine lv_istore (lv' := [(4, .int (0 : Int32)), (3, .int b13), (0, .ref (ad 0)), (1, .int v1), (2, .int v2_10)]) hx hb dX9_findKeys_67 hl (by decide) rfl (fun ls hl => ?_)
      obtain ⟨σ26, e28, hm⟩ := Option.bind_eq_some_iff.mp hm
      refine hL69 v2_10 b13 _ σ26 e28 ?_ _ _ _ hP hD hS (lv_sub hl [2, 3, 4, 1, 0] rfl)
      intro H locs ls hP hD hS hl
      try dsimp only at hP hD hl
      replace hm : m_X9_findKeys_140_in45 N v1 σ26 v2_10 = some res := hm
      exact h140 σ26 v2_10 hm _ _ _ hP hD hS (lv_sub hl [0, 1, 2] rfl)
  have h146 : ∀ (σ31 : zS), m_X9_findKeys_146 N v1 σ31 = some σ' → ∀ (H : Heap) (locs : List Loc) (ls : Array Slot), va_P D zclM (zwM ad cI cJ cZ cO σ31) H → va_D A (zwM ad cI cJ cZ cO σ31) → va_S A s.heap H locs → lv_has ls 5 [] → W p l e (zR 6 137) s m args below meth c H locs 0 0 Q (F0 m 146 ls []) := by
    intro σ31 hm H locs ls hP hD hS hl
    unfold m_X9_findKeys_146 at hm
    cases hm
    exact hret _ _ _ _ dX9_findKeys_146 hP hD hS
  have h43 : ∀ (σ9 : zS), m_X9_findKeys_43 N v1 σ9 = some σ' → ∀ (H : Heap) (locs : List Loc) (ls : Array Slot), va_P D zclM (zwM ad cI cJ cZ cO σ9) H → va_D A (zwM ad cI cJ cZ cO σ9) → va_S A s.heap H locs → lv_has ls 5 [(0, .ref (ad 0)), (1, .int v1)] → W p l e (zR 6 137) s m args below meth c H locs 0 0 Q (F0 m 43 ls []) := by
    intro σ9 hm H locs ls hP hD hS hl
    unfold m_X9_findKeys_43 at hm
    refine lv_iconst (v := (0 : Int32)) hx hb dX9_findKeys_43 (by decide) ?_
    refine lv_istore_n (lv' := [(2, .int (0 : Int32)), (0, .ref (ad 0)), (1, .int v1)]) hx hb dX9_findKeys_44 rfl hl (by decide) rfl (fun ls hl => ?_)
    obtain ⟨σ30, e32, hm⟩ := Option.bind_eq_some_iff.mp hm
    refine hL45  _ σ30 e32 ?_ _ _ _ hP hD hS (lv_sub hl [1, 2, 0] rfl)
    intro H locs ls hP hD hS hl
    try dsimp only at hP hD hl
    replace hm : m_X9_findKeys_146 N v1 σ30 = some σ' := hm
    exact h146 σ30 hm _ _ _ hP hD hS (lv_sub hl [] rfl)
  unfold m_X9_findKeys at hm
  refine lv_aload_n hx hb dX9_findKeys_0 rfl (lv_at hl 0 rfl) ?_
  refine lv_iconst (v := (0 : Int32)) hx hb dX9_findKeys_1 (by decide) ?_
  obtain ⟨σ1, eσ1, hm⟩ := Option.bind_eq_some_iff.mp hm
  refine zput (j := 4) (ty := .int) hx hb hT zinX9 tyX9 tyX9_ok nmX9 hown hK hP hD hS 0 rfl rfl 23 (by decide) zw645 rfl (by decide +kernel) rfl rfl (Nat.le_of_ble_eq_true rfl) eσ1 rfl dX9_findKeys_2 (fun H locs hP hD hS => ?_)
  refine lv_iconst (v := (0 : Int32)) hx hb dX9_findKeys_5 (by decide) ?_
  refine lv_istore_n (lv' := [(2, .int (0 : Int32)), (0, .ref (ad 0)), (1, .int v1)]) hx hb dX9_findKeys_6 rfl hl (by decide) rfl (fun ls hl => ?_)
  obtain ⟨σ8, e33, hm⟩ := Option.bind_eq_some_iff.mp hm
  refine hL7  _ σ8 e33 ?_ _ _ _ hP hD hS (lv_sub hl [1, 2, 0] rfl)
  intro H locs ls hP hD hS hl
  try dsimp only at hP hD hl
  replace hm : m_X9_findKeys_43 N v1 σ8 = some σ' := hm
  exact h43 σ8 hm _ _ _ hP hD hS (lv_sub hl [0, 1] rfl)
set_option maxHeartbeats 4000000 in
set_option maxRecDepth 100000 in
theorem k_X9_isIn {l : Launch} {D : va_G} {ad : Nat → Nat} {cI cJ cZ cO : ClassId} {t : Nat} {A : Nat → Prop} {N : Nat} {σ : zS} {v1 : Int32} {v2 : Int32} {v3 : Int32} {r : Int32}  (hm : m_X9_isIn N σ v1 v2 v3 = some r) : zCi l yX9_isIn cX9_isIn 5 (some .boolean) (zR 2 47) D zclM (zty cI cJ cZ cO) t A (zwM ad cI cJ cZ cO) [.ref (ad 0), .int v1, .int v2, .int v3] σ σ r := by
  refine zMz (by decide) (Nat.le_of_ble_eq_true rfl) ?_
  intro p e s m args below meth c Q hx hb hml hown hT hK hZ hret hP hD hS ls hl
  replace hown : s.vm.findClass RX9 = some m.cls := hown
  replace hl : lv_has ls 5 [(0, .ref (ad 0)), (1, .int v1), (2, .int v2), (3, .int v3)] := hl
  have h22 : ∀ (x0_3 : Int32), m_X9_isIn_22 N σ v1 v2 v3 x0_3 = some r → ∀ (H : Heap) (locs : List Loc) (ls : Array Slot), va_P D zclM (zwM ad cI cJ cZ cO σ) H → va_D A (zwM ad cI cJ cZ cO σ) → va_S A s.heap H locs → lv_has ls 5 [(0, .ref (ad 0)), (1, .int v1), (2, .int v2), (3, .int v3)] → W p l e (zR 2 47) s m args below meth c H locs 0 0 Q (F0 m 22 ls [.int x0_3]) := by
    intro x0_3 hm H locs ls hP hD hS hl
    unfold m_X9_isIn_22 at hm
    refine lv_istore (lv' := [(4, .int x0_3), (0, .ref (ad 0)), (1, .int v1), (2, .int v2), (3, .int v3)]) hx hb dX9_isIn_22 hl (by decide) rfl (fun ls hl => ?_)
    refine lv_aload_n hx hb dX9_isIn_24 rfl (lv_at hl 1 rfl) ?_
    refine lv_iload_n hx hb dX9_isIn_25 rfl (lv_at hl 2 rfl) ?_
    refine lv_iload_n hx hb dX9_isIn_26 rfl (lv_at hl 4 rfl) ?_
    obtain ⟨b4, eb4, hm⟩ := Option.bind_eq_some_iff.mp hm
    refine zVi (rest := []) [.int v1, .int v3] hx hb hml hl.1 hown hT (k_X9_counts eb4) zkX9_counts zw836 ⟨by decide, by decide⟩ rfl rfl hK hZ hP hD hS 0 rfl rfl rfl rfl (Nat.le_of_ble_eq_true rfl) ⟨Nat.zero_le _, Nat.zero_le _⟩ dX9_isIn_27 (fun H locs hP hD hS => ?_)
    refine lv_if_eq (tgt := 68) hx hb dX9_isIn_30 (by decide) (fun h5 => ?_) (fun h5 => ?_)
    · rw [if_pos h5] at hm
      refine lv_iconst (v := (0 : Int32)) hx hb dX9_isIn_68 (by decide) ?_
      cases hm
      exact hret _ _ _ _ (by decide) dX9_isIn_69 hP hD hS
    · rw [if_neg h5] at hm
      refine lv_iload hx hb dX9_isIn_33 (lv_at hl 0 rfl) ?_
      refine lv_if_eq (tgt := 50) hx hb dX9_isIn_35 (by decide) (fun h6 => ?_) (fun h6 => ?_)
      · rw [if_pos h6] at hm
        refine lv_aload_n hx hb dX9_isIn_50 rfl (lv_at hl 1 rfl) ?_
        refine lv_iload_n hx hb dX9_isIn_51 rfl (lv_at hl 4 rfl) ?_
        refine lv_aload_n hx hb dX9_isIn_52 rfl (lv_at hl 1 rfl) ?_
        refine zget (v := .ref (ad 20)) hx hb hT zinX9 hown hK hP 0 rfl rfl 24 (by decide) zw646 rfl dX9_isIn_53 ?_
        refine lv_iload_n hx hb dX9_isIn_56 rfl (lv_at hl 3 rfl) ?_
        obtain ⟨b7, eb7, hm⟩ := Option.bind_eq_some_iff.mp hm
        refine ziald hx hb hK hP 20 0 rfl rfl eb7 dX9_isIn_57 ?_
        obtain ⟨b8, eb8, hm⟩ := Option.bind_eq_some_iff.mp hm
        refine zVi (rest := []) [.int v3, .int b7] hx hb hml hl.1 hown hT (k_X9_hasKey eb8) zkX9_hasKey zw856 ⟨by decide, by decide⟩ rfl rfl hK hZ hP hD hS 0 rfl rfl rfl rfl (Nat.le_of_ble_eq_true rfl) ⟨Nat.zero_le _, Nat.zero_le _⟩ dX9_isIn_58 (fun H locs hP hD hS => ?_)
        refine lv_if_eq (tgt := 68) hx hb dX9_isIn_61 (by decide) (fun h9 => ?_) (fun h9 => ?_)
        · rw [if_pos h9] at hm
          refine lv_iconst (v := (0 : Int32)) hx hb dX9_isIn_68 (by decide) ?_
          cases hm
          exact hret _ _ _ _ (by decide) dX9_isIn_69 hP hD hS
        · rw [if_neg h9] at hm
          refine lv_iconst (v := (1 : Int32)) hx hb dX9_isIn_64 (by decide) ?_
          refine lv_goto (tgt := 69) hx hb dX9_isIn_65 (by decide) ?_
          cases hm
          exact hret _ _ _ _ (by decide) dX9_isIn_69 hP hD hS
      · rw [if_neg h6] at hm
        refine lv_aload_n hx hb dX9_isIn_38 rfl (lv_at hl 1 rfl) ?_
        refine zget (v := .ref (ad 23)) hx hb hT zinX9 hown hK hP 0 rfl rfl 28 (by decide) zw650 rfl dX9_isIn_39 ?_
        refine lv_iload_n hx hb dX9_isIn_42 rfl (lv_at hl 4 rfl) ?_
        obtain ⟨b10, eb10, hm⟩ := Option.bind_eq_some_iff.mp hm
        refine ziald hx hb hK hP 23 0 rfl rfl eb10 dX9_isIn_43 ?_
        refine lv_if_ne (tgt := 68) hx hb dX9_isIn_44 (by decide) (fun h11 => ?_) (fun h11 => ?_)
        · rw [if_neg h11] at hm
          refine lv_iconst (v := (0 : Int32)) hx hb dX9_isIn_68 (by decide) ?_
          cases hm
          exact hret _ _ _ _ (by decide) dX9_isIn_69 hP hD hS
        · rw [if_pos h11] at hm
          refine lv_goto (tgt := 64) hx hb dX9_isIn_47 (by decide) ?_
          refine lv_iconst (v := (1 : Int32)) hx hb dX9_isIn_64 (by decide) ?_
          refine lv_goto (tgt := 69) hx hb dX9_isIn_65 (by decide) ?_
          cases hm
          exact hret _ _ _ _ (by decide) dX9_isIn_69 hP hD hS
  have h21 : m_X9_isIn_21 N σ v1 v2 v3 = some r → ∀ (H : Heap) (locs : List Loc) (ls : Array Slot), va_P D zclM (zwM ad cI cJ cZ cO σ) H → va_D A (zwM ad cI cJ cZ cO σ) → va_S A s.heap H locs → lv_has ls 5 [(0, .ref (ad 0)), (1, .int v1), (2, .int v2), (3, .int v3)] → W p l e (zR 2 47) s m args below meth c H locs 0 0 Q (F0 m 21 ls []) := by
    intro  hm H locs ls hP hD hS hl
    unfold m_X9_isIn_21 at hm
    refine lv_iconst (v := (0 : Int32)) hx hb dX9_isIn_21 (by decide) ?_
    exact h22 (0 : Int32) hm _ _ _ hP hD hS (lv_sub hl [0, 1, 2, 3] rfl)
  unfold m_X9_isIn at hm
  refine lv_aload_n hx hb dX9_isIn_0 rfl (lv_at hl 0 rfl) ?_
  refine zget (v := .int (σ.1 5)) hx hb hT zinX9 hown hK hP 0 rfl rfl 27 (by decide) zw649 rfl dX9_isIn_1 ?_
  refine lv_if_eq (tgt := 21) hx hb dX9_isIn_4 (by decide) (fun h1 => ?_) (fun h1 => ?_)
  · rw [if_pos h1] at hm
    exact h21  hm _ _ _ hP hD hS (lv_sub hl [0, 1, 2, 3] rfl)
  · rw [if_neg h1] at hm
    refine lv_iload_n hx hb dX9_isIn_7 rfl (lv_at hl 2 rfl) ?_
    refine lv_aload_n hx hb dX9_isIn_8 rfl (lv_at hl 0 rfl) ?_
    refine zget (v := .int (σ.1 4)) hx hb hT zinX9 hown hK hP 0 rfl rfl 23 (by decide) zw645 rfl dX9_isIn_9 ?_
    refine lv_iconst (v := (1 : Int32)) hx hb dX9_isIn_12 (by decide) ?_
    refine lv_isub hx hb dX9_isIn_13 ?_
    refine lv_icmp_ne (tgt := 21) hx hb dX9_isIn_14 (by decide) (fun h12 => ?_) (fun h12 => ?_)
    · rw [if_neg h12] at hm
      exact h21  hm _ _ _ hP hD hS (lv_sub hl [0, 1, 2, 3] rfl)
    · rw [if_pos h12] at hm
      refine lv_iconst (v := (1 : Int32)) hx hb dX9_isIn_17 (by decide) ?_
      refine lv_goto (tgt := 22) hx hb dX9_isIn_18 (by decide) ?_
      exact h22 (1 : Int32) hm _ _ _ hP hD hS (lv_sub hl [0, 1, 2, 3] rfl)
set_option maxHeartbeats 4000000 in
set_option maxRecDepth 100000 in
theorem k_X9_measure {l : Launch} {D : va_G} {ad : Nat → Nat} {cI cJ cZ cO : ClassId} {t : Nat} {A : Nat → Prop} {N : Nat} {σ σ' : zS} {v1 : Int32} {v2 : Int32}   (hm : m_X9_measure N σ v1 v2 = some σ') : zCv l yX9_measure cX9_measure 4 (none) (zR 3 71) D zclM (zty cI cJ cZ cO) t A (zwM ad cI cJ cZ cO) [.ref (ad 0), .int v1, .int v2] σ σ' := by
  refine zMv (by decide) (Nat.le_of_ble_eq_true rfl) ?_
  intro p e s m args below meth c Q hx hb hml hown hT hK hZ hret hP hD hS ls hl
  replace hown : s.vm.findClass RX9 = some m.cls := hown
  replace hl : lv_has ls 4 [(0, .ref (ad 0)), (1, .int v1), (2, .int v2)] := hl
  have hL16 : ∀ (q : zS × Int32) (r : zS), ziter (fun q : zS × Int32 => m_X9_measure_L16 N v1 v2 q.1 q.2) N q = some r → (∀ (H : Heap) (locs : List Loc) (ls : Array Slot), va_P D zclM (zwM ad cI cJ cZ cO r) H → va_D A (zwM ad cI cJ cZ cO r) → va_S A s.heap H locs → lv_has ls 4 [] → W p l e (zR 3 71) s m args below meth c H locs 0 0 Q (F0 m 84 ls [])) → ∀ (H : Heap) (locs : List Loc) (ls : Array Slot), va_P D zclM (zwM ad cI cJ cZ cO q.1) H → va_D A (zwM ad cI cJ cZ cO q.1) → va_S A s.heap H locs → lv_has ls 4 [(0, .ref (ad 0)), (1, .int v1), (2, .int v2), (3, .int q.2)] → W p l e (zR 3 71) s m args below meth c H locs 0 0 Q (F0 m 16 ls []) := by
    intro q r
    refine ziter_W (Hd := fun q : zS × Int32 => ∀ (H : Heap) (locs : List Loc) (ls : Array Slot), va_P D zclM (zwM ad cI cJ cZ cO q.1) H → va_D A (zwM ad cI cJ cZ cO q.1) → va_S A s.heap H locs → lv_has ls 4 [(0, .ref (ad 0)), (1, .int v1), (2, .int v2), (3, .int q.2)] → W p l e (zR 3 71) s m args below meth c H locs 0 0 Q (F0 m 16 ls [])) (Ex := fun r : zS => ∀ (H : Heap) (locs : List Loc) (ls : Array Slot), va_P D zclM (zwM ad cI cJ cZ cO r) H → va_D A (zwM ad cI cJ cZ cO r) → va_S A s.heap H locs → lv_has ls 4 [] → W p l e (zR 3 71) s m args below meth c H locs 0 0 Q (F0 m 84 ls [])) ?_ N q r
    rintro ⟨σ3, v3_3⟩ res hm hk H locs ls hP hD hS hl
    try dsimp only at hP hD hl
    replace hm : m_X9_measure_L16 N v1 v2 σ3 v3_3 = some res := hm
    have h78 : ∀ (σ7 : zS) (v3_7 : Int32), m_X9_measure_78_in16 N v1 v2 σ7 v3_7 = some res → ∀ (H : Heap) (locs : List Loc) (ls : Array Slot), va_P D zclM (zwM ad cI cJ cZ cO σ7) H → va_D A (zwM ad cI cJ cZ cO σ7) → va_S A s.heap H locs → lv_has ls 4 [(0, .ref (ad 0)), (1, .int v1), (2, .int v2), (3, .int v3_7)] → W p l e (zR 3 71) s m args below meth c H locs 0 0 Q (F0 m 78 ls []) := by
      intro σ7 v3_7 hm H locs ls hP hD hS hl
      unfold m_X9_measure_78_in16 at hm
      refine lv_iinc (v := (v3_7 + (1 : Int32))) (lv' := [(3, .int (v3_7 + (1 : Int32))), (0, .ref (ad 0)), (1, .int v1), (2, .int v2)]) hx hb dX9_measure_78 hl (k := 3) rfl rfl (by decide) rfl (fun ls hl => ?_)
      refine lv_goto (tgt := 16) hx hb dX9_measure_81 (by decide) ?_
      cases hm
      exact hk _ _ _ hP hD hS (lv_sub hl [1, 2, 3, 0] rfl)
    have h76 : ∀ (σ13 : zS) (v3_13 : Int32) (x1_13 : Int32) (x2_13 : Int64) (x3_13 : Int64), m_X9_measure_76_in16 N v1 v2 σ13 v3_13 x1_13 x2_13 x3_13 = some res → ∀ (H : Heap) (locs : List Loc) (ls : Array Slot), va_P D zclM (zwM ad cI cJ cZ cO σ13) H → va_D A (zwM ad cI cJ cZ cO σ13) → va_S A s.heap H locs → lv_has ls 4 [(0, .ref (ad 0)), (1, .int v1), (2, .int v2), (3, .int v3_13)] → W p l e (zR 3 71) s m args below meth c H locs 0 0 Q (F0 m 76 ls [.long x3_13, .long x2_13, .int x1_13, .ref (ad 22)]) := by
      intro σ13 v3_13 x1_13 x2_13 x3_13 hm H locs ls hP hD hS hl
      unfold m_X9_measure_76_in16 at hm
      refine lv_ladd hx hb dX9_measure_76 ?_
      obtain ⟨σ14, eσ14, hm⟩ := Option.bind_eq_some_iff.mp hm
      refine zlast (j := 0) hx hb hK hP hD hS 22 1 rfl rfl eσ14 (fun _ => rfl) dX9_measure_77 (fun H locs hP hD hS => ?_)
      exact h78 σ14 v3_13 hm _ _ _ hP hD hS (lv_sub hl [0, 1, 2, 3] rfl)
    unfold m_X9_measure_L16 at hm
    refine lv_iload_n hx hb dX9_measure_16 rfl (lv_at hl 3 rfl) ?_
    refine lv_aload_n hx hb dX9_measure_17 rfl (lv_at hl 0 rfl) ?_
    refine zget (v := .int (σ3.1 0)) hx hb hT zinX9 hown hK hP 0 rfl rfl 0 (by decide) zw622 rfl dX9_measure_18 ?_
    refine lv_icmp_ge (tgt := 84) hx hb dX9_measure_21 (by decide) (fun h4 => ?_) (fun h4 => ?_)
    · rw [if_pos h4] at hm
      cases hm
      exact hk _ _ _ hP hD hS (lv_sub hl [] rfl)
    · rw [if_neg h4] at hm
      refine lv_aload_n hx hb dX9_measure_24 rfl (lv_at hl 0 rfl) ?_
      refine lv_iload_n hx hb dX9_measure_25 rfl (lv_at hl 1 rfl) ?_
      refine lv_iload_n hx hb dX9_measure_26 rfl (lv_at hl 2 rfl) ?_
      refine lv_iload_n hx hb dX9_measure_27 rfl (lv_at hl 3 rfl) ?_
      obtain ⟨b5, eb5, hm⟩ := Option.bind_eq_some_iff.mp hm
      refine zVi (rest := []) [.int v1, .int v2, .int v3_3] hx hb hml hl.1 hown hT (k_X9_isIn eb5) zkX9_isIn zw852 ⟨by decide, by decide⟩ rfl rfl hK hZ hP hD hS 0 rfl rfl rfl rfl (Nat.le_of_ble_eq_true rfl) ⟨Nat.zero_le _, Nat.zero_le _⟩ dX9_measure_28 (fun H locs hP hD hS => ?_)
      refine lv_if_eq (tgt := 78) hx hb dX9_measure_31 (by decide) (fun h6 => ?_) (fun h6 => ?_)
      · rw [if_pos h6] at hm
        exact h78 σ3 v3_3 hm _ _ _ hP hD hS (lv_sub hl [0, 1, 2, 3] rfl)
      · rw [if_neg h6] at hm
        refine lv_aload_n hx hb dX9_measure_34 rfl (lv_at hl 0 rfl) ?_
        refine zget (v := .ref (ad 21)) hx hb hT zinX9 hown hK hP 0 rfl rfl 25 (by decide) zw647 rfl dX9_measure_35 ?_
        refine lv_iload_n hx hb dX9_measure_38 rfl (lv_at hl 2 rfl) ?_
        refine lv_dup2_11 hx hb dX9_measure_39 rfl rfl ?_
        obtain ⟨b8, eb8, hm⟩ := Option.bind_eq_some_iff.mp hm
        refine ziald hx hb hK hP 21 0 rfl rfl eb8 dX9_measure_40 ?_
        refine lv_iconst (v := (1 : Int32)) hx hb dX9_measure_41 (by decide) ?_
        refine lv_iadd hx hb dX9_measure_42 ?_
        obtain ⟨σ9, eσ9, hm⟩ := Option.bind_eq_some_iff.mp hm
        refine ziast (j := 20) hx hb hK hP hD hS 21 0 rfl rfl eσ9 (fun _ => rfl) dX9_measure_43 (fun H locs hP hD hS => ?_)
        refine lv_aload_n hx hb dX9_measure_44 rfl (lv_at hl 0 rfl) ?_
        refine zget (v := .ref (ad 22)) hx hb hT zinX9 hown hK hP 0 rfl rfl 26 (by decide) zw648 rfl dX9_measure_45 ?_
        refine lv_iload_n hx hb dX9_measure_48 rfl (lv_at hl 2 rfl) ?_
        refine lv_dup2_11 hx hb dX9_measure_49 rfl rfl ?_
        obtain ⟨b10, eb10, hm⟩ := Option.bind_eq_some_iff.mp hm
        refine zlald hx hb hK hP 22 1 rfl rfl eb10 dX9_measure_50 ?_
        refine lv_aload_n hx hb dX9_measure_51 rfl (lv_at hl 0 rfl) ?_
        refine zget (v := .ref (ad 16)) hx hb hT zinX9 hown hK hP 0 rfl rfl 17 (by decide) zw639 rfl dX9_measure_52 ?_
        refine lv_iload_n hx hb dX9_measure_55 rfl (lv_at hl 1 rfl) ?_
        obtain ⟨b11, eb11, hm⟩ := Option.bind_eq_some_iff.mp hm
        refine ziald hx hb hK hP 16 0 rfl rfl eb11 dX9_measure_56 ?_
        refine lv_iconst (v := (2 : Int32)) hx hb dX9_measure_57 (by decide) ?_
        refine lv_icmp_ne (tgt := 75) hx hb dX9_measure_58 (by decide) (fun h12 => ?_) (fun h12 => ?_)
        · rw [if_neg h12] at hm
          refine lv_lconst (v := (0 : Int64)) hx hb dX9_measure_75 (by decide) ?_
          exact h76 σ9 v3_3 v2 b10 (0 : Int64) hm _ _ _ hP hD hS (lv_sub hl [0, 1, 2, 3] rfl)
        · rw [if_pos h12] at hm
          refine lv_aload_n hx hb dX9_measure_61 rfl (lv_at hl 0 rfl) ?_
          refine lv_iload_n hx hb dX9_measure_62 rfl (lv_at hl 3 rfl) ?_
          refine lv_aload_n hx hb dX9_measure_63 rfl (lv_at hl 0 rfl) ?_
          refine zget (v := .ref (ad 17)) hx hb hT zinX9 hown hK hP 0 rfl rfl 18 (by decide) zw640 rfl dX9_measure_64 ?_
          refine lv_iload_n hx hb dX9_measure_67 rfl (lv_at hl 1 rfl) ?_
          obtain ⟨b15, eb15, hm⟩ := Option.bind_eq_some_iff.mp hm
          refine ziald hx hb hK hP 17 0 rfl rfl eb15 dX9_measure_68 ?_
          obtain ⟨b16, eb16, hm⟩ := Option.bind_eq_some_iff.mp hm
          refine zVl (rest := [.long b10, .int v2, .ref (ad 22)]) [.int v3_3, .int b15] hx hb hml hl.1 hown hT (k_X9_sumOf eb16) zkX9_sumOf zw860 ⟨by decide, by decide⟩ rfl rfl hK hZ hP hD hS 0 rfl rfl rfl rfl (Nat.le_of_ble_eq_true rfl) ⟨Nat.zero_le _, Nat.zero_le _⟩ dX9_measure_69 (fun H locs hP hD hS => ?_)
          refine lv_goto (tgt := 76) hx hb dX9_measure_72 (by decide) ?_
          exact h76 σ9 v3_3 v2 b10 b16 hm _ _ _ hP hD hS (lv_sub hl [0, 1, 2, 3] rfl)
  have h84 : ∀ (σ19 : zS), m_X9_measure_84 N v1 v2 σ19 = some σ' → ∀ (H : Heap) (locs : List Loc) (ls : Array Slot), va_P D zclM (zwM ad cI cJ cZ cO σ19) H → va_D A (zwM ad cI cJ cZ cO σ19) → va_S A s.heap H locs → lv_has ls 4 [] → W p l e (zR 3 71) s m args below meth c H locs 0 0 Q (F0 m 84 ls []) := by
    intro σ19 hm H locs ls hP hD hS hl
    unfold m_X9_measure_84 at hm
    cases hm
    exact hret _ _ _ _ dX9_measure_84 hP hD hS
  unfold m_X9_measure at hm
  refine lv_aload_n hx hb dX9_measure_0 rfl (lv_at hl 0 rfl) ?_
  refine zget (v := .ref (ad 21)) hx hb hT zinX9 hown hK hP 0 rfl rfl 25 (by decide) zw647 rfl dX9_measure_1 ?_
  refine lv_iload_n hx hb dX9_measure_4 rfl (lv_at hl 2 rfl) ?_
  refine lv_iconst (v := (0 : Int32)) hx hb dX9_measure_5 (by decide) ?_
  obtain ⟨σ1, eσ1, hm⟩ := Option.bind_eq_some_iff.mp hm
  refine ziast (j := 20) hx hb hK hP hD hS 21 0 rfl rfl eσ1 (fun _ => rfl) dX9_measure_6 (fun H locs hP hD hS => ?_)
  refine lv_aload_n hx hb dX9_measure_7 rfl (lv_at hl 0 rfl) ?_
  refine zget (v := .ref (ad 22)) hx hb hT zinX9 hown hK hP 0 rfl rfl 26 (by decide) zw648 rfl dX9_measure_8 ?_
  refine lv_iload_n hx hb dX9_measure_11 rfl (lv_at hl 2 rfl) ?_
  refine lv_lconst (v := (0 : Int64)) hx hb dX9_measure_12 (by decide) ?_
  obtain ⟨σ2, eσ2, hm⟩ := Option.bind_eq_some_iff.mp hm
  refine zlast (j := 0) hx hb hK hP hD hS 22 1 rfl rfl eσ2 (fun _ => rfl) dX9_measure_13 (fun H locs hP hD hS => ?_)
  refine lv_iconst (v := (0 : Int32)) hx hb dX9_measure_14 (by decide) ?_
  refine lv_istore_n (lv' := [(3, .int (0 : Int32)), (0, .ref (ad 0)), (1, .int v1), (2, .int v2)]) hx hb dX9_measure_15 rfl hl (by decide) rfl (fun ls hl => ?_)
  obtain ⟨σ18, e20, hm⟩ := Option.bind_eq_some_iff.mp hm
  refine hL16  _ σ18 e20 ?_ _ _ _ hP hD hS (lv_sub hl [1, 2, 3, 0] rfl)
  intro H locs ls hP hD hS hl
  try dsimp only at hP hD hl
  replace hm : m_X9_measure_84 N v1 v2 σ18 = some σ' := hm
  exact h84 σ18 hm _ _ _ hP hD hS (lv_sub hl [] rfl)
set_option maxHeartbeats 4000000 in
set_option maxRecDepth 100000 in
theorem k_X9_isBefore {l : Launch} {D : va_G} {ad : Nat → Nat} {cI cJ cZ cO : ClassId} {t : Nat} {A : Nat → Prop} {N : Nat} {σ : zS} {v1 : Int32} {v2 : Int32} {v3 : Int32} {r : Int32}  (hm : m_X9_isBefore N σ v1 v2 v3 = some r) : zCi l yX9_isBefore cX9_isBefore 4 (some .boolean) (zR 0 0) D zclM (zty cI cJ cZ cO) t A (zwM ad cI cJ cZ cO) [.ref (ad 0), .int v1, .int v2, .int v3] σ σ r := by
  refine zMz (by decide) (Nat.le_of_ble_eq_true rfl) ?_
  intro p e s m args below meth c Q hx hb hml hown hT hK hZ hret hP hD hS ls hl
  replace hown : s.vm.findClass RX9 = some m.cls := hown
  replace hl : lv_has ls 4 [(0, .ref (ad 0)), (1, .int v1), (2, .int v2), (3, .int v3)] := hl
  have h93 : m_X9_isBefore_93 N σ v1 v2 v3 = some r → ∀ (H : Heap) (locs : List Loc) (ls : Array Slot), va_P D zclM (zwM ad cI cJ cZ cO σ) H → va_D A (zwM ad cI cJ cZ cO σ) → va_S A s.heap H locs → lv_has ls 4 [(0, .ref (ad 0)), (2, .int v2), (3, .int v3)] → W p l e (zR 0 0) s m args below meth c H locs 0 0 Q (F0 m 93 ls []) := by
    intro  hm H locs ls hP hD hS hl
    unfold m_X9_isBefore_93 at hm
    refine lv_aload_n hx hb dX9_isBefore_93 rfl (lv_at hl 0 rfl) ?_
    refine zget (v := .ref (ad 20)) hx hb hT zinX9 hown hK hP 0 rfl rfl 24 (by decide) zw646 rfl dX9_isBefore_94 ?_
    refine lv_iload_n hx hb dX9_isBefore_97 rfl (lv_at hl 1 rfl) ?_
    obtain ⟨b7, eb7, hm⟩ := Option.bind_eq_some_iff.mp hm
    refine ziald hx hb hK hP 20 0 rfl rfl eb7 dX9_isBefore_98 ?_
    refine lv_aload_n hx hb dX9_isBefore_99 rfl (lv_at hl 0 rfl) ?_
    refine zget (v := .ref (ad 20)) hx hb hT zinX9 hown hK hP 0 rfl rfl 24 (by decide) zw646 rfl dX9_isBefore_100 ?_
    refine lv_iload_n hx hb dX9_isBefore_103 rfl (lv_at hl 2 rfl) ?_
    obtain ⟨b8, eb8, hm⟩ := Option.bind_eq_some_iff.mp hm
    refine ziald hx hb hK hP 20 0 rfl rfl eb8 dX9_isBefore_104 ?_
    refine lv_icmp_ge (tgt := 112) hx hb dX9_isBefore_105 (by decide) (fun h9 => ?_) (fun h9 => ?_)
    · rw [if_pos h9] at hm
      refine lv_iconst (v := (0 : Int32)) hx hb dX9_isBefore_112 (by decide) ?_
      cases hm
      exact hret _ _ _ _ (by decide) dX9_isBefore_113 hP hD hS
    · rw [if_neg h9] at hm
      refine lv_iconst (v := (1 : Int32)) hx hb dX9_isBefore_108 (by decide) ?_
      refine lv_goto (tgt := 113) hx hb dX9_isBefore_109 (by decide) ?_
      cases hm
      exact hret _ _ _ _ (by decide) dX9_isBefore_113 hP hD hS
  have h45 : m_X9_isBefore_45 N σ v1 v2 v3 = some r → ∀ (H : Heap) (locs : List Loc) (ls : Array Slot), va_P D zclM (zwM ad cI cJ cZ cO σ) H → va_D A (zwM ad cI cJ cZ cO σ) → va_S A s.heap H locs → lv_has ls 4 [(0, .ref (ad 0)), (1, .int v1), (2, .int v2), (3, .int v3)] → W p l e (zR 0 0) s m args below meth c H locs 0 0 Q (F0 m 45 ls []) := by
    intro  hm H locs ls hP hD hS hl
    unfold m_X9_isBefore_45 at hm
    refine lv_aload_n hx hb dX9_isBefore_45 rfl (lv_at hl 0 rfl) ?_
    refine zget (v := .ref (ad 16)) hx hb hT zinX9 hown hK hP 0 rfl rfl 17 (by decide) zw639 rfl dX9_isBefore_46 ?_
    refine lv_iload_n hx hb dX9_isBefore_49 rfl (lv_at hl 1 rfl) ?_
    obtain ⟨b4, eb4, hm⟩ := Option.bind_eq_some_iff.mp hm
    refine ziald hx hb hK hP 16 0 rfl rfl eb4 dX9_isBefore_50 ?_
    refine lv_iconst (v := (2 : Int32)) hx hb dX9_isBefore_51 (by decide) ?_
    refine lv_icmp_ne (tgt := 93) hx hb dX9_isBefore_52 (by decide) (fun h5 => ?_) (fun h5 => ?_)
    · rw [if_neg h5] at hm
      exact h93  hm _ _ _ hP hD hS (lv_sub hl [0, 2, 3] rfl)
    · rw [if_pos h5] at hm
      refine lv_aload_n hx hb dX9_isBefore_55 rfl (lv_at hl 0 rfl) ?_
      refine zget (v := .ref (ad 22)) hx hb hT zinX9 hown hK hP 0 rfl rfl 26 (by decide) zw648 rfl dX9_isBefore_56 ?_
      refine lv_iload_n hx hb dX9_isBefore_59 rfl (lv_at hl 2 rfl) ?_
      obtain ⟨b10, eb10, hm⟩ := Option.bind_eq_some_iff.mp hm
      refine zlald hx hb hK hP 22 1 rfl rfl eb10 dX9_isBefore_60 ?_
      refine lv_aload_n hx hb dX9_isBefore_61 rfl (lv_at hl 0 rfl) ?_
      refine zget (v := .ref (ad 22)) hx hb hT zinX9 hown hK hP 0 rfl rfl 26 (by decide) zw648 rfl dX9_isBefore_62 ?_
      refine lv_iload_n hx hb dX9_isBefore_65 rfl (lv_at hl 3 rfl) ?_
      obtain ⟨b11, eb11, hm⟩ := Option.bind_eq_some_iff.mp hm
      refine zlald hx hb hK hP 22 1 rfl rfl eb11 dX9_isBefore_66 ?_
      refine W.lcmp hx hb dX9_isBefore_67 ?_
      refine lv_if_eq (tgt := 93) hx hb dX9_isBefore_68 (by decide) (fun h12 => ?_) (fun h12 => ?_)
      · rw [if_pos h12] at hm
        exact h93  hm _ _ _ hP hD hS (lv_sub hl [0, 2, 3] rfl)
      · rw [if_neg h12] at hm
        refine lv_aload_n hx hb dX9_isBefore_71 rfl (lv_at hl 0 rfl) ?_
        refine zget (v := .ref (ad 22)) hx hb hT zinX9 hown hK hP 0 rfl rfl 26 (by decide) zw648 rfl dX9_isBefore_72 ?_
        refine lv_iload_n hx hb dX9_isBefore_75 rfl (lv_at hl 2 rfl) ?_
        obtain ⟨b13, eb13, hm⟩ := Option.bind_eq_some_iff.mp hm
        refine zlald hx hb hK hP 22 1 rfl rfl eb13 dX9_isBefore_76 ?_
        refine lv_aload_n hx hb dX9_isBefore_77 rfl (lv_at hl 0 rfl) ?_
        refine zget (v := .ref (ad 22)) hx hb hT zinX9 hown hK hP 0 rfl rfl 26 (by decide) zw648 rfl dX9_isBefore_78 ?_
        refine lv_iload_n hx hb dX9_isBefore_81 rfl (lv_at hl 3 rfl) ?_
        obtain ⟨b14, eb14, hm⟩ := Option.bind_eq_some_iff.mp hm
        refine zlald hx hb hK hP 22 1 rfl rfl eb14 dX9_isBefore_82 ?_
        refine W.lcmp hx hb dX9_isBefore_83 ?_
        refine lv_if_le (tgt := 91) hx hb dX9_isBefore_84 (by decide) (fun h15 => ?_) (fun h15 => ?_)
        · rw [if_pos h15] at hm
          refine lv_iconst (v := (0 : Int32)) hx hb dX9_isBefore_91 (by decide) ?_
          cases hm
          exact hret _ _ _ _ (by decide) dX9_isBefore_92 hP hD hS
        · rw [if_neg h15] at hm
          refine lv_iconst (v := (1 : Int32)) hx hb dX9_isBefore_87 (by decide) ?_
          refine lv_goto (tgt := 92) hx hb dX9_isBefore_88 (by decide) ?_
          cases hm
          exact hret _ _ _ _ (by decide) dX9_isBefore_92 hP hD hS
  unfold m_X9_isBefore at hm
  refine lv_aload_n hx hb dX9_isBefore_0 rfl (lv_at hl 0 rfl) ?_
  refine zget (v := .ref (ad 16)) hx hb hT zinX9 hown hK hP 0 rfl rfl 17 (by decide) zw639 rfl dX9_isBefore_1 ?_
  refine lv_iload_n hx hb dX9_isBefore_4 rfl (lv_at hl 1 rfl) ?_
  obtain ⟨b1, eb1, hm⟩ := Option.bind_eq_some_iff.mp hm
  refine ziald hx hb hK hP 16 0 rfl rfl eb1 dX9_isBefore_5 ?_
  refine lv_if_ne (tgt := 45) hx hb dX9_isBefore_6 (by decide) (fun h2 => ?_) (fun h2 => ?_)
  · rw [if_neg h2] at hm
    exact h45  hm _ _ _ hP hD hS (lv_sub hl [0, 1, 2, 3] rfl)
  · rw [if_pos h2] at hm
    refine lv_aload_n hx hb dX9_isBefore_9 rfl (lv_at hl 0 rfl) ?_
    refine zget (v := .ref (ad 21)) hx hb hT zinX9 hown hK hP 0 rfl rfl 25 (by decide) zw647 rfl dX9_isBefore_10 ?_
    refine lv_iload_n hx hb dX9_isBefore_13 rfl (lv_at hl 2 rfl) ?_
    obtain ⟨b16, eb16, hm⟩ := Option.bind_eq_some_iff.mp hm
    refine ziald hx hb hK hP 21 0 rfl rfl eb16 dX9_isBefore_14 ?_
    refine lv_aload_n hx hb dX9_isBefore_15 rfl (lv_at hl 0 rfl) ?_
    refine zget (v := .ref (ad 21)) hx hb hT zinX9 hown hK hP 0 rfl rfl 25 (by decide) zw647 rfl dX9_isBefore_16 ?_
    refine lv_iload_n hx hb dX9_isBefore_19 rfl (lv_at hl 3 rfl) ?_
    obtain ⟨b17, eb17, hm⟩ := Option.bind_eq_some_iff.mp hm
    refine ziald hx hb hK hP 21 0 rfl rfl eb17 dX9_isBefore_20 ?_
    refine lv_icmp_eq (tgt := 45) hx hb dX9_isBefore_21 (by decide) (fun h18 => ?_) (fun h18 => ?_)
    · rw [if_pos h18] at hm
      exact h45  hm _ _ _ hP hD hS (lv_sub hl [0, 1, 2, 3] rfl)
    · rw [if_neg h18] at hm
      refine lv_aload_n hx hb dX9_isBefore_24 rfl (lv_at hl 0 rfl) ?_
      refine zget (v := .ref (ad 21)) hx hb hT zinX9 hown hK hP 0 rfl rfl 25 (by decide) zw647 rfl dX9_isBefore_25 ?_
      refine lv_iload_n hx hb dX9_isBefore_28 rfl (lv_at hl 2 rfl) ?_
      obtain ⟨b19, eb19, hm⟩ := Option.bind_eq_some_iff.mp hm
      refine ziald hx hb hK hP 21 0 rfl rfl eb19 dX9_isBefore_29 ?_
      refine lv_aload_n hx hb dX9_isBefore_30 rfl (lv_at hl 0 rfl) ?_
      refine zget (v := .ref (ad 21)) hx hb hT zinX9 hown hK hP 0 rfl rfl 25 (by decide) zw647 rfl dX9_isBefore_31 ?_
      refine lv_iload_n hx hb dX9_isBefore_34 rfl (lv_at hl 3 rfl) ?_
      obtain ⟨b20, eb20, hm⟩ := Option.bind_eq_some_iff.mp hm
      refine ziald hx hb hK hP 21 0 rfl rfl eb20 dX9_isBefore_35 ?_
      refine lv_icmp_le (tgt := 43) hx hb dX9_isBefore_36 (by decide) (fun h21 => ?_) (fun h21 => ?_)
      · rw [if_pos h21] at hm
        refine lv_iconst (v := (0 : Int32)) hx hb dX9_isBefore_43 (by decide) ?_
        cases hm
        exact hret _ _ _ _ (by decide) dX9_isBefore_44 hP hD hS
      · rw [if_neg h21] at hm
        refine lv_iconst (v := (1 : Int32)) hx hb dX9_isBefore_39 (by decide) ?_
        refine lv_goto (tgt := 44) hx hb dX9_isBefore_40 (by decide) ?_
        cases hm
        exact hret _ _ _ _ (by decide) dX9_isBefore_44 hP hD hS
set_option maxHeartbeats 4000000 in
set_option maxRecDepth 100000 in
theorem k_X9_move {l : Launch} {D : va_G} {ad : Nat → Nat} {cI cJ cZ cO : ClassId} {t : Nat} {A : Nat → Prop} {N : Nat} {σ σ' : zS} {v1 : Int32} {v2 : Int32}   (hm : m_X9_move N σ v1 v2 = some σ') : zCv l yX9_move cX9_move 3 (none) (zR 0 0) D zclM (zty cI cJ cZ cO) t A (zwM ad cI cJ cZ cO) [.ref (ad 0), .int v1, .int v2] σ σ' := by
  refine zMv (by decide) (Nat.le_of_ble_eq_true rfl) ?_
  intro p e s m args below meth c Q hx hb hml hown hT hK hZ hret hP hD hS ls hl
  replace hown : s.vm.findClass RX9 = some m.cls := hown
  replace hl : lv_has ls 3 [(0, .ref (ad 0)), (1, .int v1), (2, .int v2)] := hl
  unfold m_X9_move at hm
  refine lv_aload_n hx hb dX9_move_0 rfl (lv_at hl 0 rfl) ?_
  refine zget (v := .ref (ad 20)) hx hb hT zinX9 hown hK hP 0 rfl rfl 24 (by decide) zw646 rfl dX9_move_1 ?_
  refine lv_iload_n hx hb dX9_move_4 rfl (lv_at hl 2 rfl) ?_
  refine lv_aload_n hx hb dX9_move_5 rfl (lv_at hl 0 rfl) ?_
  refine zget (v := .ref (ad 20)) hx hb hT zinX9 hown hK hP 0 rfl rfl 24 (by decide) zw646 rfl dX9_move_6 ?_
  refine lv_iload_n hx hb dX9_move_9 rfl (lv_at hl 1 rfl) ?_
  obtain ⟨b1, eb1, hm⟩ := Option.bind_eq_some_iff.mp hm
  refine ziald hx hb hK hP 20 0 rfl rfl eb1 dX9_move_10 ?_
  obtain ⟨σ2, eσ2, hm⟩ := Option.bind_eq_some_iff.mp hm
  refine ziast (j := 19) hx hb hK hP hD hS 20 0 rfl rfl eσ2 (fun _ => rfl) dX9_move_11 (fun H locs hP hD hS => ?_)
  refine lv_aload_n hx hb dX9_move_12 rfl (lv_at hl 0 rfl) ?_
  refine zget (v := .ref (ad 21)) hx hb hT zinX9 hown hK hP 0 rfl rfl 25 (by decide) zw647 rfl dX9_move_13 ?_
  refine lv_iload_n hx hb dX9_move_16 rfl (lv_at hl 2 rfl) ?_
  refine lv_aload_n hx hb dX9_move_17 rfl (lv_at hl 0 rfl) ?_
  refine zget (v := .ref (ad 21)) hx hb hT zinX9 hown hK hP 0 rfl rfl 25 (by decide) zw647 rfl dX9_move_18 ?_
  refine lv_iload_n hx hb dX9_move_21 rfl (lv_at hl 1 rfl) ?_
  obtain ⟨b3, eb3, hm⟩ := Option.bind_eq_some_iff.mp hm
  refine ziald hx hb hK hP 21 0 rfl rfl eb3 dX9_move_22 ?_
  obtain ⟨σ4, eσ4, hm⟩ := Option.bind_eq_some_iff.mp hm
  refine ziast (j := 20) hx hb hK hP hD hS 21 0 rfl rfl eσ4 (fun _ => rfl) dX9_move_23 (fun H locs hP hD hS => ?_)
  refine lv_aload_n hx hb dX9_move_24 rfl (lv_at hl 0 rfl) ?_
  refine zget (v := .ref (ad 22)) hx hb hT zinX9 hown hK hP 0 rfl rfl 26 (by decide) zw648 rfl dX9_move_25 ?_
  refine lv_iload_n hx hb dX9_move_28 rfl (lv_at hl 2 rfl) ?_
  refine lv_aload_n hx hb dX9_move_29 rfl (lv_at hl 0 rfl) ?_
  refine zget (v := .ref (ad 22)) hx hb hT zinX9 hown hK hP 0 rfl rfl 26 (by decide) zw648 rfl dX9_move_30 ?_
  refine lv_iload_n hx hb dX9_move_33 rfl (lv_at hl 1 rfl) ?_
  obtain ⟨b5, eb5, hm⟩ := Option.bind_eq_some_iff.mp hm
  refine zlald hx hb hK hP 22 1 rfl rfl eb5 dX9_move_34 ?_
  obtain ⟨σ6, eσ6, hm⟩ := Option.bind_eq_some_iff.mp hm
  refine zlast (j := 0) hx hb hK hP hD hS 22 1 rfl rfl eσ6 (fun _ => rfl) dX9_move_35 (fun H locs hP hD hS => ?_)
  cases hm
  exact hret _ _ _ _ dX9_move_36 hP hD hS
set_option maxHeartbeats 4000000 in
set_option maxRecDepth 100000 in
theorem k_X9_findGroups {l : Launch} {D : va_G} {ad : Nat → Nat} {cI cJ cZ cO : ClassId} {t : Nat} {A : Nat → Prop} {N : Nat} {σ σ' : zS} {v1 : Int32}   (hm : m_X9_findGroups N σ v1 = some σ') : zCv l yX9_findGroups cX9_findGroups 6 (none) (zR 7 161) D zclM (zty cI cJ cZ cO) t A (zwM ad cI cJ cZ cO) [.ref (ad 0), .int v1] σ σ' := by
  refine zMv (by decide) (Nat.le_of_ble_eq_true rfl) ?_
  intro p e s m args below meth c Q hx hb hml hown hT hK hZ hret hP hD hS ls hl
  replace hown : s.vm.findClass RX9 = some m.cls := hown
  replace hl : lv_has ls 6 [(0, .ref (ad 0)), (1, .int v1)] := hl
  have hL20 : ∀ (v2_3 : Int32), ∀ (q : zS × Int32 × Int32) (r : zS × Int32), ziter (fun q : zS × Int32 × Int32 => m_X9_findGroups_L20 N v1 v2_3 q.1 q.2.1 q.2.2) N q = some r → (∀ (H : Heap) (locs : List Loc) (ls : Array Slot), va_P D zclM (zwM ad cI cJ cZ cO r.1) H → va_D A (zwM ad cI cJ cZ cO r.1) → va_S A s.heap H locs → lv_has ls 6 [(0, .ref (ad 0)), (1, .int v1), (3, .int r.2)] → W p l e (zR 7 161) s m args below meth c H locs 0 0 Q (F0 m 115 ls [])) → ∀ (H : Heap) (locs : List Loc) (ls : Array Slot), va_P D zclM (zwM ad cI cJ cZ cO q.1) H → va_D A (zwM ad cI cJ cZ cO q.1) → va_S A s.heap H locs → lv_has ls 6 [(0, .ref (ad 0)), (1, .int v1), (2, .int v2_3), (3, .int q.2.1), (4, .int q.2.2)] → W p l e (zR 7 161) s m args below meth c H locs 0 0 Q (F0 m 20 ls []) := by
    intro v2_3
    intro q r
    refine ziter_W (Hd := fun q : zS × Int32 × Int32 => ∀ (H : Heap) (locs : List Loc) (ls : Array Slot), va_P D zclM (zwM ad cI cJ cZ cO q.1) H → va_D A (zwM ad cI cJ cZ cO q.1) → va_S A s.heap H locs → lv_has ls 6 [(0, .ref (ad 0)), (1, .int v1), (2, .int v2_3), (3, .int q.2.1), (4, .int q.2.2)] → W p l e (zR 7 161) s m args below meth c H locs 0 0 Q (F0 m 20 ls [])) (Ex := fun r : zS × Int32 => ∀ (H : Heap) (locs : List Loc) (ls : Array Slot), va_P D zclM (zwM ad cI cJ cZ cO r.1) H → va_D A (zwM ad cI cJ cZ cO r.1) → va_S A s.heap H locs → lv_has ls 6 [(0, .ref (ad 0)), (1, .int v1), (3, .int r.2)] → W p l e (zR 7 161) s m args below meth c H locs 0 0 Q (F0 m 115 ls [])) ?_ N q r
    rintro ⟨σ3, v3_3, v4_3⟩ res hm hk H locs ls hP hD hS hl
    try dsimp only at hP hD hl
    replace hm : m_X9_findGroups_L20 N v1 v2_3 σ3 v3_3 v4_3 = some res := hm
    have h109 : ∀ (σ9 : zS) (v3_9 : Int32) (v4_9 : Int32), m_X9_findGroups_109_in20 N v1 v2_3 σ9 v3_9 v4_9 = some res → ∀ (H : Heap) (locs : List Loc) (ls : Array Slot), va_P D zclM (zwM ad cI cJ cZ cO σ9) H → va_D A (zwM ad cI cJ cZ cO σ9) → va_S A s.heap H locs → lv_has ls 6 [(0, .ref (ad 0)), (1, .int v1), (2, .int v2_3), (3, .int v3_9), (4, .int v4_9)] → W p l e (zR 7 161) s m args below meth c H locs 0 0 Q (F0 m 109 ls []) := by
      intro σ9 v3_9 v4_9 hm H locs ls hP hD hS hl
      unfold m_X9_findGroups_109_in20 at hm
      refine lv_iinc (v := (v4_9 + (1 : Int32))) (lv' := [(4, .int (v4_9 + (1 : Int32))), (0, .ref (ad 0)), (1, .int v1), (2, .int v2_3), (3, .int v3_9)]) hx hb dX9_findGroups_109 hl (k := 4) rfl rfl (by decide) rfl (fun ls hl => ?_)
      refine lv_goto (tgt := 20) hx hb dX9_findGroups_112 (by decide) ?_
      cases hm
      exact hk _ _ _ hP hD hS (lv_sub hl [1, 2, 3, 4, 0] rfl)
    have hL61 : ∀ (v3_11 : Int32) (v4_11 : Int32), ∀ (q : zS × Int32) (r : zS × Int32), ziter (fun q : zS × Int32 => m_X9_findGroups_L61 N v1 v2_3 v3_11 v4_11 q.1 q.2) N q = some r → (∀ (H : Heap) (locs : List Loc) (ls : Array Slot), va_P D zclM (zwM ad cI cJ cZ cO r.1) H → va_D A (zwM ad cI cJ cZ cO r.1) → va_S A s.heap H locs → lv_has ls 6 [(0, .ref (ad 0)), (1, .int v1), (2, .int v2_3), (3, .int v3_11), (4, .int v4_11), (5, .int r.2)] → W p l e (zR 7 161) s m args below meth c H locs 0 0 Q (F0 m 97 ls [])) → ∀ (H : Heap) (locs : List Loc) (ls : Array Slot), va_P D zclM (zwM ad cI cJ cZ cO q.1) H → va_D A (zwM ad cI cJ cZ cO q.1) → va_S A s.heap H locs → lv_has ls 6 [(0, .ref (ad 0)), (1, .int v1), (2, .int v2_3), (3, .int v3_11), (4, .int v4_11), (5, .int q.2)] → W p l e (zR 7 161) s m args below meth c H locs 0 0 Q (F0 m 61 ls []) := by
      intro v3_11 v4_11
      intro q r
      refine ziter_W (Hd := fun q : zS × Int32 => ∀ (H : Heap) (locs : List Loc) (ls : Array Slot), va_P D zclM (zwM ad cI cJ cZ cO q.1) H → va_D A (zwM ad cI cJ cZ cO q.1) → va_S A s.heap H locs → lv_has ls 6 [(0, .ref (ad 0)), (1, .int v1), (2, .int v2_3), (3, .int v3_11), (4, .int v4_11), (5, .int q.2)] → W p l e (zR 7 161) s m args below meth c H locs 0 0 Q (F0 m 61 ls [])) (Ex := fun r : zS × Int32 => ∀ (H : Heap) (locs : List Loc) (ls : Array Slot), va_P D zclM (zwM ad cI cJ cZ cO r.1) H → va_D A (zwM ad cI cJ cZ cO r.1) → va_S A s.heap H locs → lv_has ls 6 [(0, .ref (ad 0)), (1, .int v1), (2, .int v2_3), (3, .int v3_11), (4, .int v4_11), (5, .int r.2)] → W p l e (zR 7 161) s m args below meth c H locs 0 0 Q (F0 m 97 ls [])) ?_ N q r
      rintro ⟨σ11, v5_11⟩ res hm hk H locs ls hP hD hS hl
      try dsimp only at hP hD hl
      replace hm : m_X9_findGroups_L61 N v1 v2_3 v3_11 v4_11 σ11 v5_11 = some res := hm
      unfold m_X9_findGroups_L61 at hm
      refine lv_iload hx hb dX9_findGroups_61 (lv_at hl 5 rfl) ?_
      refine lv_if_le (tgt := 97) hx hb dX9_findGroups_63 (by decide) (fun h12 => ?_) (fun h12 => ?_)
      · rw [if_pos h12] at hm
        cases hm
        exact hk _ _ _ hP hD hS (lv_sub hl [0, 1, 2, 3, 4, 5] rfl)
      · rw [if_neg h12] at hm
        refine lv_aload_n hx hb dX9_findGroups_66 rfl (lv_at hl 0 rfl) ?_
        refine lv_iload_n hx hb dX9_findGroups_67 rfl (lv_at hl 1 rfl) ?_
        refine lv_sipush (v := (1099 : Int32)) hx hb dX9_findGroups_68 (by decide) ?_
        refine lv_iload hx hb dX9_findGroups_71 (lv_at hl 5 rfl) ?_
        refine lv_iconst (v := (1 : Int32)) hx hb dX9_findGroups_73 (by decide) ?_
        refine lv_isub hx hb dX9_findGroups_74 ?_
        obtain ⟨b13, eb13, hm⟩ := Option.bind_eq_some_iff.mp hm
        refine zVi (rest := []) [.int v1, .int (1099 : Int32), .int (v5_11 - (1 : Int32))] hx hb hml hl.1 hown hT (k_X9_isBefore eb13) zkX9_isBefore zw868 ⟨by decide, by decide⟩ rfl rfl hK hZ hP hD hS 0 rfl rfl rfl rfl (Nat.le_of_ble_eq_true rfl) ⟨Nat.zero_le _, Nat.zero_le _⟩ dX9_findGroups_75 (fun H locs hP hD hS => ?_)
        refine lv_if_eq (tgt := 97) hx hb dX9_findGroups_78 (by decide) (fun h14 => ?_) (fun h14 => ?_)
        · rw [if_pos h14] at hm
          cases hm
          exact hk _ _ _ hP hD hS (lv_sub hl [0, 1, 2, 3, 4, 5] rfl)
        · rw [if_neg h14] at hm
          refine lv_aload_n hx hb dX9_findGroups_81 rfl (lv_at hl 0 rfl) ?_
          refine lv_iload hx hb dX9_findGroups_82 (lv_at hl 5 rfl) ?_
          refine lv_iconst (v := (1 : Int32)) hx hb dX9_findGroups_84 (by decide) ?_
          refine lv_isub hx hb dX9_findGroups_85 ?_
          refine lv_iload hx hb dX9_findGroups_86 (lv_at hl 5 rfl) ?_
          obtain ⟨σ15, eσ15, hm⟩ := Option.bind_eq_some_iff.mp hm
          refine zVv (rest := []) [.int (v5_11 - (1 : Int32)), .int v5_11] hx hb hml hl.1 hown hT (k_X9_move eσ15) zkX9_move zw864 ⟨by decide, by decide⟩ rfl rfl hK hZ hP hD hS 0 rfl rfl rfl rfl (Nat.le_of_ble_eq_true rfl) ⟨Nat.zero_le _, Nat.zero_le _⟩ dX9_findGroups_88 (fun H locs hP hD hS => ?_)
          refine lv_iinc (v := (v5_11 + (-1 : Int32))) (lv' := [(5, .int (v5_11 + (-1 : Int32))), (0, .ref (ad 0)), (1, .int v1), (2, .int v2_3), (3, .int v3_11), (4, .int v4_11)]) hx hb dX9_findGroups_91 hl (k := 5) rfl rfl (by decide) rfl (fun ls hl => ?_)
          refine lv_goto (tgt := 61) hx hb dX9_findGroups_94 (by decide) ?_
          cases hm
          exact hk _ _ _ hP hD hS (lv_sub hl [1, 2, 3, 4, 5, 0] rfl)
    have h97 : ∀ (σ18 : zS) (v3_18 : Int32) (v4_18 : Int32) (v5_18 : Int32), m_X9_findGroups_97_in20 N v1 v2_3 σ18 v3_18 v4_18 v5_18 = some res → ∀ (H : Heap) (locs : List Loc) (ls : Array Slot), va_P D zclM (zwM ad cI cJ cZ cO σ18) H → va_D A (zwM ad cI cJ cZ cO σ18) → va_S A s.heap H locs → lv_has ls 6 [(0, .ref (ad 0)), (1, .int v1), (2, .int v2_3), (3, .int v3_18), (4, .int v4_18), (5, .int v5_18)] → W p l e (zR 7 161) s m args below meth c H locs 0 0 Q (F0 m 97 ls []) := by
      intro σ18 v3_18 v4_18 v5_18 hm H locs ls hP hD hS hl
      unfold m_X9_findGroups_97_in20 at hm
      refine lv_aload_n hx hb dX9_findGroups_97 rfl (lv_at hl 0 rfl) ?_
      refine lv_sipush (v := (1099 : Int32)) hx hb dX9_findGroups_98 (by decide) ?_
      refine lv_iload hx hb dX9_findGroups_101 (lv_at hl 5 rfl) ?_
      obtain ⟨σ19, eσ19, hm⟩ := Option.bind_eq_some_iff.mp hm
      refine zVv (rest := []) [.int (1099 : Int32), .int v5_18] hx hb hml hl.1 hown hT (k_X9_move eσ19) zkX9_move zw864 ⟨by decide, by decide⟩ rfl rfl hK hZ hP hD hS 0 rfl rfl rfl rfl (Nat.le_of_ble_eq_true rfl) ⟨Nat.zero_le _, Nat.zero_le _⟩ dX9_findGroups_103 (fun H locs hP hD hS => ?_)
      refine lv_iinc (v := (v3_18 + (1 : Int32))) (lv' := [(3, .int (v3_18 + (1 : Int32))), (0, .ref (ad 0)), (1, .int v1), (2, .int v2_3), (4, .int v4_18), (5, .int v5_18)]) hx hb dX9_findGroups_106 hl (k := 3) rfl rfl (by decide) rfl (fun ls hl => ?_)
      exact h109 σ19 (v3_18 + (1 : Int32)) v4_18 hm _ _ _ hP hD hS (lv_sub hl [1, 2, 3, 0, 4] rfl)
    unfold m_X9_findGroups_L20 at hm
    refine lv_iload hx hb dX9_findGroups_20 (lv_at hl 4 rfl) ?_
    refine lv_iload_n hx hb dX9_findGroups_22 rfl (lv_at hl 2 rfl) ?_
    refine lv_icmp_ge (tgt := 115) hx hb dX9_findGroups_23 (by decide) (fun h4 => ?_) (fun h4 => ?_)
    · rw [if_pos h4] at hm
      cases hm
      exact hk _ _ _ hP hD hS (lv_sub hl [0, 1, 3] rfl)
    · rw [if_neg h4] at hm
      refine lv_aload_n hx hb dX9_findGroups_26 rfl (lv_at hl 0 rfl) ?_
      refine lv_iload_n hx hb dX9_findGroups_27 rfl (lv_at hl 1 rfl) ?_
      refine lv_iload hx hb dX9_findGroups_28 (lv_at hl 4 rfl) ?_
      obtain ⟨σ5, eσ5, hm⟩ := Option.bind_eq_some_iff.mp hm
      refine zVv (rest := []) [.int v1, .int v4_3] hx hb hml hl.1 hown hT (k_X9_measure eσ5) zkX9_measure zw848 ⟨by decide, by decide⟩ rfl rfl hK hZ hP hD hS 0 rfl rfl rfl rfl (Nat.le_of_ble_eq_true rfl) ⟨Nat.zero_le _, Nat.zero_le _⟩ dX9_findGroups_30 (fun H locs hP hD hS => ?_)
      refine lv_aload_n hx hb dX9_findGroups_33 rfl (lv_at hl 0 rfl) ?_
      refine zget (v := .ref (ad 21)) hx hb hT zinX9 hown hK hP 0 rfl rfl 25 (by decide) zw647 rfl dX9_findGroups_34 ?_
      refine lv_iload hx hb dX9_findGroups_37 (lv_at hl 4 rfl) ?_
      obtain ⟨b6, eb6, hm⟩ := Option.bind_eq_some_iff.mp hm
      refine ziald hx hb hK hP 21 0 rfl rfl eb6 dX9_findGroups_39 ?_
      refine lv_aload_n hx hb dX9_findGroups_40 rfl (lv_at hl 0 rfl) ?_
      refine zget (v := .ref (ad 14)) hx hb hT zinX9 hown hK hP 0 rfl rfl 15 (by decide) zw637 rfl dX9_findGroups_41 ?_
      refine lv_iload_n hx hb dX9_findGroups_44 rfl (lv_at hl 1 rfl) ?_
      obtain ⟨b7, eb7, hm⟩ := Option.bind_eq_some_iff.mp hm
      refine ziald hx hb hK hP 14 0 rfl rfl eb7 dX9_findGroups_45 ?_
      refine lv_icmp_lt (tgt := 109) hx hb dX9_findGroups_46 (by decide) (fun h8 => ?_) (fun h8 => ?_)
      · rw [if_pos h8] at hm
        exact h109 σ5 v3_3 v4_3 hm _ _ _ hP hD hS (lv_sub hl [0, 1, 2, 3, 4] rfl)
      · rw [if_neg h8] at hm
        refine lv_aload_n hx hb dX9_findGroups_49 rfl (lv_at hl 0 rfl) ?_
        refine lv_iload hx hb dX9_findGroups_50 (lv_at hl 4 rfl) ?_
        refine lv_sipush (v := (1099 : Int32)) hx hb dX9_findGroups_52 (by decide) ?_
        obtain ⟨σ10, eσ10, hm⟩ := Option.bind_eq_some_iff.mp hm
        refine zVv (rest := []) [.int v4_3, .int (1099 : Int32)] hx hb hml hl.1 hown hT (k_X9_move eσ10) zkX9_move zw864 ⟨by decide, by decide⟩ rfl rfl hK hZ hP hD hS 0 rfl rfl rfl rfl (Nat.le_of_ble_eq_true rfl) ⟨Nat.zero_le _, Nat.zero_le _⟩ dX9_findGroups_55 (fun H locs hP hD hS => ?_)
        refine lv_iload_n hx hb dX9_findGroups_58 rfl (lv_at hl 3 rfl) ?_
        refine lv_istore (lv' := [(5, .int v3_3), (0, .ref (ad 0)), (1, .int v1), (2, .int v2_3), (3, .int v3_3), (4, .int v4_3)]) hx hb dX9_findGroups_59 hl (by decide) rfl (fun ls hl => ?_)
        obtain ⟨r16, e20, hm⟩ := Option.bind_eq_some_iff.mp hm
        refine hL61 v3_3 v4_3 _ r16 e20 ?_ _ _ _ hP hD hS (lv_sub hl [1, 2, 3, 4, 5, 0] rfl)
        obtain ⟨σ17, v5_17⟩ := r16
        intro H locs ls hP hD hS hl
        try dsimp only at hP hD hl
        replace hm : m_X9_findGroups_97_in20 N v1 v2_3 σ17 v3_3 v4_3 v5_17 = some res := hm
        exact h97 σ17 v3_3 v4_3 v5_17 hm _ _ _ hP hD hS (lv_sub hl [0, 1, 2, 3, 4, 5] rfl)
  have h188 : ∀ (σ34 : zS) (v3_34 : Int32) (x1_34 : Int32), m_X9_findGroups_188 N v1 σ34 v3_34 x1_34 = some σ' → ∀ (H : Heap) (locs : List Loc) (ls : Array Slot), va_P D zclM (zwM ad cI cJ cZ cO σ34) H → va_D A (zwM ad cI cJ cZ cO σ34) → va_S A s.heap H locs → lv_has ls 6 [(0, .ref (ad 0)), (3, .int v3_34)] → W p l e (zR 7 161) s m args below meth c H locs 0 0 Q (F0 m 188 ls [.int x1_34, .ref (ad 0)]) := by
    intro σ34 v3_34 x1_34 hm H locs ls hP hD hS hl
    unfold m_X9_findGroups_188 at hm
    obtain ⟨b35, eb35, hm⟩ := Option.bind_eq_some_iff.mp hm
    obtain ⟨rfl, hzb35, hwb35, hfb35⟩ := zcz_all eb35
    obtain ⟨σ36, eσ36, hm⟩ := Option.bind_eq_some_iff.mp hm
    refine zput (j := 5) (ty := .boolean) hx hb hT zinX9 tyX9 tyX9_ok nmX9 hown hK hP hD hS 0 rfl rfl 27 (by decide) zw649 rfl (by decide +kernel) hzb35 hfb35 (Nat.le_of_ble_eq_true rfl) eσ36 rfl dX9_findGroups_188 (fun H locs hP hD hS => ?_)
    refine lv_aload_n hx hb dX9_findGroups_191 rfl (lv_at hl 0 rfl) ?_
    refine lv_aload_n hx hb dX9_findGroups_192 rfl (lv_at hl 0 rfl) ?_
    refine zget (v := .int (σ36.1 5)) hx hb hT zinX9 hown hK hP 0 rfl rfl 27 (by decide) zw649 rfl dX9_findGroups_193 ?_
    refine lv_if_eq (tgt := 206) hx hb dX9_findGroups_196 (by decide) (fun h37 => ?_) (fun h37 => ?_)
    · rw [if_pos h37] at hm
      refine lv_iload_n hx hb dX9_findGroups_206 rfl (lv_at hl 1 rfl) ?_
      obtain ⟨σ38, eσ38, hm⟩ := Option.bind_eq_some_iff.mp hm
      refine zput (j := 4) (ty := .int) hx hb hT zinX9 tyX9 tyX9_ok nmX9 hown hK hP hD hS 0 rfl rfl 23 (by decide) zw645 rfl (by decide +kernel) rfl rfl (Nat.le_of_ble_eq_true rfl) eσ38 rfl dX9_findGroups_207 (fun H locs hP hD hS => ?_)
      cases hm
      exact hret _ _ _ _ dX9_findGroups_210 hP hD hS
    · rw [if_neg h37] at hm
      refine lv_aload_n hx hb dX9_findGroups_199 rfl (lv_at hl 0 rfl) ?_
      refine zget (v := .int (σ36.1 4)) hx hb hT zinX9 hown hK hP 0 rfl rfl 23 (by decide) zw645 rfl dX9_findGroups_200 ?_
      refine lv_goto (tgt := 207) hx hb dX9_findGroups_203 (by decide) ?_
      obtain ⟨σ39, eσ39, hm⟩ := Option.bind_eq_some_iff.mp hm
      refine zput (j := 4) (ty := .int) hx hb hT zinX9 tyX9 tyX9_ok nmX9 hown hK hP hD hS 0 rfl rfl 23 (by decide) zw645 rfl (by decide +kernel) rfl rfl (Nat.le_of_ble_eq_true rfl) eσ39 rfl dX9_findGroups_207 (fun H locs hP hD hS => ?_)
      cases hm
      exact hret _ _ _ _ dX9_findGroups_210 hP hD hS
  have h187 : ∀ (σ33 : zS) (v3_33 : Int32), m_X9_findGroups_187 N v1 σ33 v3_33 = some σ' → ∀ (H : Heap) (locs : List Loc) (ls : Array Slot), va_P D zclM (zwM ad cI cJ cZ cO σ33) H → va_D A (zwM ad cI cJ cZ cO σ33) → va_S A s.heap H locs → lv_has ls 6 [(0, .ref (ad 0)), (3, .int v3_33)] → W p l e (zR 7 161) s m args below meth c H locs 0 0 Q (F0 m 187 ls [.ref (ad 0)]) := by
    intro σ33 v3_33 hm H locs ls hP hD hS hl
    unfold m_X9_findGroups_187 at hm
    refine lv_iconst (v := (0 : Int32)) hx hb dX9_findGroups_187 (by decide) ?_
    exact h188 σ33 v3_33 (0 : Int32) hm _ _ _ hP hD hS (lv_sub hl [0, 1] rfl)
  have h115 : ∀ (σ23 : zS) (v3_23 : Int32), m_X9_findGroups_115 N v1 σ23 v3_23 = some σ' → ∀ (H : Heap) (locs : List Loc) (ls : Array Slot), va_P D zclM (zwM ad cI cJ cZ cO σ23) H → va_D A (zwM ad cI cJ cZ cO σ23) → va_S A s.heap H locs → lv_has ls 6 [(0, .ref (ad 0)), (1, .int v1), (3, .int v3_23)] → W p l e (zR 7 161) s m args below meth c H locs 0 0 Q (F0 m 115 ls []) := by
    intro σ23 v3_23 hm H locs ls hP hD hS hl
    unfold m_X9_findGroups_115 at hm
    refine lv_aload_n hx hb dX9_findGroups_115 rfl (lv_at hl 0 rfl) ?_
    refine lv_iload_n hx hb dX9_findGroups_116 rfl (lv_at hl 2 rfl) ?_
    obtain ⟨σ24, eσ24, hm⟩ := Option.bind_eq_some_iff.mp hm
    refine zput (j := 4) (ty := .int) hx hb hT zinX9 tyX9 tyX9_ok nmX9 hown hK hP hD hS 0 rfl rfl 23 (by decide) zw645 rfl (by decide +kernel) rfl rfl (Nat.le_of_ble_eq_true rfl) eσ24 rfl dX9_findGroups_117 (fun H locs hP hD hS => ?_)
    refine lv_aload_n hx hb dX9_findGroups_120 rfl (lv_at hl 0 rfl) ?_
    refine zget (v := .ref (ad 15)) hx hb hT zinX9 hown hK hP 0 rfl rfl 16 (by decide) zw638 rfl dX9_findGroups_121 ?_
    refine lv_iload_n hx hb dX9_findGroups_124 rfl (lv_at hl 1 rfl) ?_
    obtain ⟨b25, eb25, hm⟩ := Option.bind_eq_some_iff.mp hm
    refine zzald hx hb hK hP 15 2 rfl rfl eb25 dX9_findGroups_125 ?_
    refine lv_if_eq (tgt := 210) hx hb dX9_findGroups_126 (by decide) (fun h26 => ?_) (fun h26 => ?_)
    · rw [if_pos h26] at hm
      cases hm
      exact hret _ _ _ _ dX9_findGroups_210 hP hD hS
    · rw [if_neg h26] at hm
      refine lv_aload_n hx hb dX9_findGroups_129 rfl (lv_at hl 0 rfl) ?_
      refine lv_iconst (v := (1 : Int32)) hx hb dX9_findGroups_130 (by decide) ?_
      obtain ⟨σ27, eσ27, hm⟩ := Option.bind_eq_some_iff.mp hm
      refine zput (j := 5) (ty := .boolean) hx hb hT zinX9 tyX9 tyX9_ok nmX9 hown hK hP hD hS 0 rfl rfl 27 (by decide) zw649 rfl (by decide +kernel) (by decide) (by decide) (Nat.le_of_ble_eq_true rfl) eσ27 rfl dX9_findGroups_131 (fun H locs hP hD hS => ?_)
      refine lv_aload_n hx hb dX9_findGroups_134 rfl (lv_at hl 0 rfl) ?_
      refine lv_dup hx hb dX9_findGroups_135 rfl ?_
      refine zget (v := .int (σ27.1 4)) hx hb hT zinX9 hown hK hP 0 rfl rfl 23 (by decide) zw645 rfl dX9_findGroups_136 ?_
      refine lv_iconst (v := (1 : Int32)) hx hb dX9_findGroups_139 (by decide) ?_
      refine lv_iadd hx hb dX9_findGroups_140 ?_
      obtain ⟨σ28, eσ28, hm⟩ := Option.bind_eq_some_iff.mp hm
      refine zput (j := 4) (ty := .int) hx hb hT zinX9 tyX9 tyX9_ok nmX9 hown hK hP hD hS 0 rfl rfl 23 (by decide) zw645 rfl (by decide +kernel) rfl rfl (Nat.le_of_ble_eq_true rfl) eσ28 rfl dX9_findGroups_141 (fun H locs hP hD hS => ?_)
      refine lv_aload_n hx hb dX9_findGroups_144 rfl (lv_at hl 0 rfl) ?_
      refine zget (v := .ref (ad 20)) hx hb hT zinX9 hown hK hP 0 rfl rfl 24 (by decide) zw646 rfl dX9_findGroups_145 ?_
      refine lv_iload_n hx hb dX9_findGroups_148 rfl (lv_at hl 2 rfl) ?_
      refine lv_ldc hx hb hown (hT _ zw764) dX9_findGroups_149 ?_
      obtain ⟨σ29, eσ29, hm⟩ := Option.bind_eq_some_iff.mp hm
      refine ziast (j := 19) hx hb hK hP hD hS 20 0 rfl rfl eσ29 (fun _ => rfl) dX9_findGroups_151 (fun H locs hP hD hS => ?_)
      refine lv_aload_n hx hb dX9_findGroups_152 rfl (lv_at hl 0 rfl) ?_
      refine lv_iload_n hx hb dX9_findGroups_153 rfl (lv_at hl 1 rfl) ?_
      refine lv_iload_n hx hb dX9_findGroups_154 rfl (lv_at hl 2 rfl) ?_
      obtain ⟨σ30, eσ30, hm⟩ := Option.bind_eq_some_iff.mp hm
      refine zVv (rest := []) [.int v1, .int v3_23] hx hb hml hl.1 hown hT (k_X9_measure eσ30) zkX9_measure zw848 ⟨by decide, by decide⟩ rfl rfl hK hZ hP hD hS 0 rfl rfl rfl rfl (Nat.le_of_ble_eq_true rfl) ⟨Nat.zero_le _, Nat.zero_le _⟩ dX9_findGroups_155 (fun H locs hP hD hS => ?_)
      refine lv_aload_n hx hb dX9_findGroups_158 rfl (lv_at hl 0 rfl) ?_
      refine lv_aload_n hx hb dX9_findGroups_159 rfl (lv_at hl 0 rfl) ?_
      refine zget (v := .ref (ad 21)) hx hb hT zinX9 hown hK hP 0 rfl rfl 25 (by decide) zw647 rfl dX9_findGroups_160 ?_
      refine lv_iload_n hx hb dX9_findGroups_163 rfl (lv_at hl 2 rfl) ?_
      obtain ⟨b31, eb31, hm⟩ := Option.bind_eq_some_iff.mp hm
      refine ziald hx hb hK hP 21 0 rfl rfl eb31 dX9_findGroups_164 ?_
      refine lv_if_le (tgt := 187) hx hb dX9_findGroups_165 (by decide) (fun h32 => ?_) (fun h32 => ?_)
      · rw [if_pos h32] at hm
        exact h187 σ30 v3_23 hm _ _ _ hP hD hS (lv_sub hl [0, 2] rfl)
      · rw [if_neg h32] at hm
        refine lv_aload_n hx hb dX9_findGroups_168 rfl (lv_at hl 0 rfl) ?_
        refine zget (v := .ref (ad 21)) hx hb hT zinX9 hown hK hP 0 rfl rfl 25 (by decide) zw647 rfl dX9_findGroups_169 ?_
        refine lv_iload_n hx hb dX9_findGroups_172 rfl (lv_at hl 2 rfl) ?_
        obtain ⟨b40, eb40, hm⟩ := Option.bind_eq_some_iff.mp hm
        refine ziald hx hb hK hP 21 0 rfl rfl eb40 dX9_findGroups_173 ?_
        refine lv_aload_n hx hb dX9_findGroups_174 rfl (lv_at hl 0 rfl) ?_
        refine zget (v := .ref (ad 14)) hx hb hT zinX9 hown hK hP 0 rfl rfl 15 (by decide) zw637 rfl dX9_findGroups_175 ?_
        refine lv_iload_n hx hb dX9_findGroups_178 rfl (lv_at hl 1 rfl) ?_
        obtain ⟨b41, eb41, hm⟩ := Option.bind_eq_some_iff.mp hm
        refine ziald hx hb hK hP 14 0 rfl rfl eb41 dX9_findGroups_179 ?_
        refine lv_icmp_lt (tgt := 187) hx hb dX9_findGroups_180 (by decide) (fun h42 => ?_) (fun h42 => ?_)
        · rw [if_pos h42] at hm
          exact h187 σ30 v3_23 hm _ _ _ hP hD hS (lv_sub hl [0, 2] rfl)
        · rw [if_neg h42] at hm
          refine lv_iconst (v := (1 : Int32)) hx hb dX9_findGroups_183 (by decide) ?_
          refine lv_goto (tgt := 188) hx hb dX9_findGroups_184 (by decide) ?_
          exact h188 σ30 v3_23 (1 : Int32) hm _ _ _ hP hD hS (lv_sub hl [0, 2] rfl)
  unfold m_X9_findGroups at hm
  refine lv_aload_n hx hb dX9_findGroups_0 rfl (lv_at hl 0 rfl) ?_
  refine lv_iconst (v := (0 : Int32)) hx hb dX9_findGroups_1 (by decide) ?_
  obtain ⟨σ1, eσ1, hm⟩ := Option.bind_eq_some_iff.mp hm
  refine zput (j := 5) (ty := .boolean) hx hb hT zinX9 tyX9 tyX9_ok nmX9 hown hK hP hD hS 0 rfl rfl 27 (by decide) zw649 rfl (by decide +kernel) (by decide) (by decide) (Nat.le_of_ble_eq_true rfl) eσ1 rfl dX9_findGroups_2 (fun H locs hP hD hS => ?_)
  refine lv_aload_n hx hb dX9_findGroups_5 rfl (lv_at hl 0 rfl) ?_
  refine lv_iload_n hx hb dX9_findGroups_6 rfl (lv_at hl 1 rfl) ?_
  obtain ⟨σ2, eσ2, hm⟩ := Option.bind_eq_some_iff.mp hm
  refine zVv (rest := []) [.int v1] hx hb hml hl.1 hown hT (k_X9_findKeys eσ2) zkX9_findKeys zw798 ⟨by decide, by decide⟩ rfl rfl hK hZ hP hD hS 0 rfl rfl rfl rfl (Nat.le_of_ble_eq_true rfl) ⟨Nat.zero_le _, Nat.zero_le _⟩ dX9_findGroups_7 (fun H locs hP hD hS => ?_)
  refine lv_aload_n hx hb dX9_findGroups_10 rfl (lv_at hl 0 rfl) ?_
  refine zget (v := .int (σ2.1 4)) hx hb hT zinX9 hown hK hP 0 rfl rfl 23 (by decide) zw645 rfl dX9_findGroups_11 ?_
  refine lv_istore_n (lv' := [(2, .int (σ2.1 4)), (0, .ref (ad 0)), (1, .int v1)]) hx hb dX9_findGroups_14 rfl hl (by decide) rfl (fun ls hl => ?_)
  refine lv_iconst (v := (0 : Int32)) hx hb dX9_findGroups_15 (by decide) ?_
  refine lv_istore_n (lv' := [(3, .int (0 : Int32)), (2, .int (σ2.1 4)), (0, .ref (ad 0)), (1, .int v1)]) hx hb dX9_findGroups_16 rfl hl (by decide) rfl (fun ls hl => ?_)
  refine lv_iconst (v := (0 : Int32)) hx hb dX9_findGroups_17 (by decide) ?_
  refine lv_istore (lv' := [(4, .int (0 : Int32)), (3, .int (0 : Int32)), (2, .int (σ2.1 4)), (0, .ref (ad 0)), (1, .int v1)]) hx hb dX9_findGroups_18 hl (by decide) rfl (fun ls hl => ?_)
  obtain ⟨r21, e43, hm⟩ := Option.bind_eq_some_iff.mp hm
  refine hL20 (σ2.1 4) _ r21 e43 ?_ _ _ _ hP hD hS (lv_sub hl [3, 4, 2, 1, 0] rfl)
  obtain ⟨σ22, v3_22⟩ := r21
  intro H locs ls hP hD hS hl
  try dsimp only at hP hD hl
  replace hm : m_X9_findGroups_115 N v1 σ22 v3_22 = some σ' := hm
  exact h115 σ22 v3_22 hm _ _ _ hP hD hS (lv_sub hl [0, 1, 2] rfl)
set_option maxHeartbeats 4000000 in
set_option maxRecDepth 100000 in
theorem k_X9_isGroup {l : Launch} {D : va_G} {ad : Nat → Nat} {cI cJ cZ cO : ClassId} {t : Nat} {A : Nat → Prop} {N : Nat} {σ σ' : zS} {v1 : Int32} {v2 : Int32} {r : Int32}  (hm : m_X9_isGroup N σ v1 v2 = some (r, σ')) : zCi l yX9_isGroup cX9_isGroup 3 (some .boolean) (zR 8 186) D zclM (zty cI cJ cZ cO) t A (zwM ad cI cJ cZ cO) [.ref (ad 0), .int v1, .int v2] σ σ' r := by
  refine zMz (by decide) (Nat.le_of_ble_eq_true rfl) ?_
  intro p e s m args below meth c Q hx hb hml hown hT hK hZ hret hP hD hS ls hl
  replace hown : s.vm.findClass RX9 = some m.cls := hown
  replace hl : lv_has ls 3 [(0, .ref (ad 0)), (1, .int v1), (2, .int v2)] := hl
  unfold m_X9_isGroup at hm
  refine lv_aload_n hx hb dX9_isGroup_0 rfl (lv_at hl 0 rfl) ?_
  refine lv_iload_n hx hb dX9_isGroup_1 rfl (lv_at hl 1 rfl) ?_
  obtain ⟨b1, eb1, hm⟩ := Option.bind_eq_some_iff.mp hm
  refine zVi (rest := []) [.int v1] hx hb hml hl.1 hown hT (k_X9_isFacet eb1) zkX9_isFacet zw769 ⟨by decide, by decide⟩ rfl rfl hK hZ hP hD hS 0 rfl rfl rfl rfl (Nat.le_of_ble_eq_true rfl) ⟨Nat.zero_le _, Nat.zero_le _⟩ dX9_isGroup_2 (fun H locs hP hD hS => ?_)
  refine lv_if_ne (tgt := 10) hx hb dX9_isGroup_5 (by decide) (fun h2 => ?_) (fun h2 => ?_)
  · rw [if_neg h2] at hm
    refine lv_aload_n hx hb dX9_isGroup_10 rfl (lv_at hl 0 rfl) ?_
    refine lv_iload_n hx hb dX9_isGroup_11 rfl (lv_at hl 1 rfl) ?_
    obtain ⟨σ3, eσ3, hm⟩ := Option.bind_eq_some_iff.mp hm
    refine zVv (rest := []) [.int v1] hx hb hml hl.1 hown hT (k_X9_findGroups eσ3) zkX9_findGroups zw794 ⟨by decide, by decide⟩ rfl rfl hK hZ hP hD hS 0 rfl rfl rfl rfl (Nat.le_of_ble_eq_true rfl) ⟨Nat.zero_le _, Nat.zero_le _⟩ dX9_isGroup_12 (fun H locs hP hD hS => ?_)
    refine lv_iload_n hx hb dX9_isGroup_15 rfl (lv_at hl 2 rfl) ?_
    refine lv_iconst (v := (0 : Int32)) hx hb dX9_isGroup_16 (by decide) ?_
    refine lv_aload_n hx hb dX9_isGroup_17 rfl (lv_at hl 0 rfl) ?_
    refine zget (v := .int (σ3.1 4)) hx hb hT zinX9 hown hK hP 0 rfl rfl 23 (by decide) zw645 rfl dX9_isGroup_18 ?_
    refine lv_iconst (v := (1 : Int32)) hx hb dX9_isGroup_21 (by decide) ?_
    refine lv_isub hx hb dX9_isGroup_22 ?_
    obtain ⟨b4, eb4, hm⟩ := Option.bind_eq_some_iff.mp hm
    refine zSi (rest := []) [.int v2, .int (0 : Int32), .int ((σ3.1 4) - (1 : Int32))] hx hb hml hl.1 hown hT (k_X9_within eb4) zkX9_within zw739 ⟨by decide, by decide⟩ rfl rfl hK hZ hP hD hS rfl rfl (Nat.le_of_ble_eq_true rfl) ⟨Nat.zero_le _, Nat.zero_le _⟩ dX9_isGroup_23 (fun H locs hP hD hS => ?_)
    obtain ⟨b5, eb5, hm⟩ := Option.bind_eq_some_iff.mp hm
    obtain ⟨rfl, hzb5, hwb5, hfb5⟩ := zcz_all eb5
    cases hm
    exact hret _ _ _ _ hzb5 dX9_isGroup_26 hP hD hS
  · rw [if_pos h2] at hm
    refine lv_iconst (v := (0 : Int32)) hx hb dX9_isGroup_8 (by decide) ?_
    cases hm
    exact hret _ _ _ _ (by decide) dX9_isGroup_9 hP hD hS
set_option maxHeartbeats 4000000 in
set_option maxRecDepth 100000 in
theorem k_X9_groups {l : Launch} {D : va_G} {ad : Nat → Nat} {cI cJ cZ cO : ClassId} {t : Nat} {A : Nat → Prop} {N : Nat} {σ σ' : zS} {v1 : Int32} {r : Int32}  (hm : m_X9_groups N σ v1 = some (r, σ')) : zCi l yX9_groups cX9_groups 2 (some .int) (zR 8 186) D zclM (zty cI cJ cZ cO) t A (zwM ad cI cJ cZ cO) [.ref (ad 0), .int v1] σ σ' r := by
  refine zMi (by decide) (Nat.le_of_ble_eq_true rfl) ?_
  intro p e s m args below meth c Q hx hb hml hown hT hK hZ hret hP hD hS ls hl
  replace hown : s.vm.findClass RX9 = some m.cls := hown
  replace hl : lv_has ls 2 [(0, .ref (ad 0)), (1, .int v1)] := hl
  unfold m_X9_groups at hm
  refine lv_aload_n hx hb dX9_groups_0 rfl (lv_at hl 0 rfl) ?_
  refine lv_iload_n hx hb dX9_groups_1 rfl (lv_at hl 1 rfl) ?_
  obtain ⟨b1, eb1, hm⟩ := Option.bind_eq_some_iff.mp hm
  refine zVi (rest := []) [.int v1] hx hb hml hl.1 hown hT (k_X9_isFacet eb1) zkX9_isFacet zw769 ⟨by decide, by decide⟩ rfl rfl hK hZ hP hD hS 0 rfl rfl rfl rfl (Nat.le_of_ble_eq_true rfl) ⟨Nat.zero_le _, Nat.zero_le _⟩ dX9_groups_2 (fun H locs hP hD hS => ?_)
  refine lv_if_ne (tgt := 11) hx hb dX9_groups_5 (by decide) (fun h2 => ?_) (fun h2 => ?_)
  · rw [if_neg h2] at hm
    refine lv_aload_n hx hb dX9_groups_11 rfl (lv_at hl 0 rfl) ?_
    refine lv_iload_n hx hb dX9_groups_12 rfl (lv_at hl 1 rfl) ?_
    obtain ⟨σ3, eσ3, hm⟩ := Option.bind_eq_some_iff.mp hm
    refine zVv (rest := []) [.int v1] hx hb hml hl.1 hown hT (k_X9_findGroups eσ3) zkX9_findGroups zw794 ⟨by decide, by decide⟩ rfl rfl hK hZ hP hD hS 0 rfl rfl rfl rfl (Nat.le_of_ble_eq_true rfl) ⟨Nat.zero_le _, Nat.zero_le _⟩ dX9_groups_13 (fun H locs hP hD hS => ?_)
    refine lv_aload_n hx hb dX9_groups_16 rfl (lv_at hl 0 rfl) ?_
    refine zget (v := .int (σ3.1 4)) hx hb hT zinX9 hown hK hP 0 rfl rfl 23 (by decide) zw645 rfl dX9_groups_17 ?_
    cases hm
    exact hret _ _ _ _ dX9_groups_20 hP hD hS
  · rw [if_pos h2] at hm
    refine lv_ldc hx hb hown (hT _ zw750) dX9_groups_8 ?_
    cases hm
    exact hret _ _ _ _ dX9_groups_10 hP hD hS
set_option maxHeartbeats 4000000 in
set_option maxRecDepth 100000 in
theorem k_X9_group {l : Launch} {D : va_G} {ad : Nat → Nat} {cI cJ cZ cO : ClassId} {t : Nat} {A : Nat → Prop} {N : Nat} {σ σ' : zS} {v1 : Int32} {v2 : Int32} {v3 : Int32} {r : Int32}  (hm : m_X9_group N σ v1 v2 v3 = some (r, σ')) : zCi l yX9_group cX9_group 4 (some .int) (zR 9 208) D zclM (zty cI cJ cZ cO) t A (zwM ad cI cJ cZ cO) [.ref (ad 0), .int v1, .int v2, .int v3] σ σ' r := by
  refine zMi (by decide) (Nat.le_of_ble_eq_true rfl) ?_
  intro p e s m args below meth c Q hx hb hml hown hT hK hZ hret hP hD hS ls hl
  replace hown : s.vm.findClass RX9 = some m.cls := hown
  replace hl : lv_has ls 4 [(0, .ref (ad 0)), (1, .int v1), (2, .int v2), (3, .int v3)] := hl
  unfold m_X9_group at hm
  refine lv_aload_n hx hb dX9_group_0 rfl (lv_at hl 0 rfl) ?_
  refine lv_iload_n hx hb dX9_group_1 rfl (lv_at hl 1 rfl) ?_
  refine lv_iload_n hx hb dX9_group_2 rfl (lv_at hl 2 rfl) ?_
  obtain ⟨⟨b1, σ3⟩, eb1, hm⟩ := Option.bind_eq_some_iff.mp hm
  try dsimp only at hm
  refine zVi (rest := []) [.int v1, .int v2] hx hb hml hl.1 hown hT (k_X9_isGroup eb1) zkX9_isGroup zw876 ⟨by decide, by decide⟩ rfl rfl hK hZ hP hD hS 0 rfl rfl rfl rfl (Nat.le_of_ble_eq_true rfl) ⟨Nat.zero_le _, Nat.zero_le _⟩ dX9_group_3 (fun H locs hP hD hS => ?_)
  refine lv_if_eq (tgt := 18) hx hb dX9_group_6 (by decide) (fun h4 => ?_) (fun h4 => ?_)
  · rw [if_pos h4] at hm
    refine lv_ldc hx hb hown (hT _ zw750) dX9_group_18 ?_
    cases hm
    exact hret _ _ _ _ dX9_group_20 hP hD hS
  · rw [if_neg h4] at hm
    refine lv_iload_n hx hb dX9_group_9 rfl (lv_at hl 3 rfl) ?_
    refine lv_iconst (v := (0 : Int32)) hx hb dX9_group_10 (by decide) ?_
    refine lv_iconst (v := (2 : Int32)) hx hb dX9_group_11 (by decide) ?_
    obtain ⟨b5, eb5, hm⟩ := Option.bind_eq_some_iff.mp hm
    refine zSi (rest := []) [.int v3, .int (0 : Int32), .int (2 : Int32)] hx hb hml hl.1 hown hT (k_X9_within eb5) zkX9_within zw739 ⟨by decide, by decide⟩ rfl rfl hK hZ hP hD hS rfl rfl (Nat.le_of_ble_eq_true rfl) ⟨Nat.zero_le _, Nat.zero_le _⟩ dX9_group_12 (fun H locs hP hD hS => ?_)
    refine lv_if_ne (tgt := 21) hx hb dX9_group_15 (by decide) (fun h6 => ?_) (fun h6 => ?_)
    · rw [if_neg h6] at hm
      refine lv_iload_n hx hb dX9_group_21 rfl (lv_at hl 3 rfl) ?_
      refine lv_if_ne (tgt := 34) hx hb dX9_group_22 (by decide) (fun h7 => ?_) (fun h7 => ?_)
      · rw [if_neg h7] at hm
        refine lv_iload_n hx hb dX9_group_34 rfl (lv_at hl 3 rfl) ?_
        refine lv_iconst (v := (1 : Int32)) hx hb dX9_group_35 (by decide) ?_
        refine lv_icmp_ne (tgt := 48) hx hb dX9_group_36 (by decide) (fun h8 => ?_) (fun h8 => ?_)
        · rw [if_neg h8] at hm
          refine lv_aload_n hx hb dX9_group_48 rfl (lv_at hl 0 rfl) ?_
          refine zget (v := .int (σ3.1 5)) hx hb hT zinX9 hown hK hP 0 rfl rfl 27 (by decide) zw649 rfl dX9_group_49 ?_
          refine lv_if_eq (tgt := 69) hx hb dX9_group_52 (by decide) (fun h9 => ?_) (fun h9 => ?_)
          · rw [if_pos h9] at hm
            refine lv_iconst (v := (0 : Int32)) hx hb dX9_group_69 (by decide) ?_
            cases hm
            exact hret _ _ _ _ dX9_group_70 hP hD hS
          · rw [if_neg h9] at hm
            refine lv_iload_n hx hb dX9_group_55 rfl (lv_at hl 2 rfl) ?_
            refine lv_aload_n hx hb dX9_group_56 rfl (lv_at hl 0 rfl) ?_
            refine zget (v := .int (σ3.1 4)) hx hb hT zinX9 hown hK hP 0 rfl rfl 23 (by decide) zw645 rfl dX9_group_57 ?_
            refine lv_iconst (v := (1 : Int32)) hx hb dX9_group_60 (by decide) ?_
            refine lv_isub hx hb dX9_group_61 ?_
            refine lv_icmp_ne (tgt := 69) hx hb dX9_group_62 (by decide) (fun h10 => ?_) (fun h10 => ?_)
            · rw [if_neg h10] at hm
              refine lv_iconst (v := (0 : Int32)) hx hb dX9_group_69 (by decide) ?_
              cases hm
              exact hret _ _ _ _ dX9_group_70 hP hD hS
            · rw [if_pos h10] at hm
              refine lv_iconst (v := (1 : Int32)) hx hb dX9_group_65 (by decide) ?_
              refine lv_goto (tgt := 70) hx hb dX9_group_66 (by decide) ?_
              cases hm
              exact hret _ _ _ _ dX9_group_70 hP hD hS
        · rw [if_pos h8] at hm
          refine lv_aload_n hx hb dX9_group_39 rfl (lv_at hl 0 rfl) ?_
          refine zget (v := .ref (ad 21)) hx hb hT zinX9 hown hK hP 0 rfl rfl 25 (by decide) zw647 rfl dX9_group_40 ?_
          refine lv_iload_n hx hb dX9_group_43 rfl (lv_at hl 2 rfl) ?_
          obtain ⟨b11, eb11, hm⟩ := Option.bind_eq_some_iff.mp hm
          refine ziald hx hb hK hP 21 0 rfl rfl eb11 dX9_group_44 ?_
          refine lv_goto (tgt := 70) hx hb dX9_group_45 (by decide) ?_
          cases hm
          exact hret _ _ _ _ dX9_group_70 hP hD hS
      · rw [if_pos h7] at hm
        refine lv_aload_n hx hb dX9_group_25 rfl (lv_at hl 0 rfl) ?_
        refine zget (v := .ref (ad 20)) hx hb hT zinX9 hown hK hP 0 rfl rfl 24 (by decide) zw646 rfl dX9_group_26 ?_
        refine lv_iload_n hx hb dX9_group_29 rfl (lv_at hl 2 rfl) ?_
        obtain ⟨b12, eb12, hm⟩ := Option.bind_eq_some_iff.mp hm
        refine ziald hx hb hK hP 20 0 rfl rfl eb12 dX9_group_30 ?_
        refine lv_goto (tgt := 70) hx hb dX9_group_31 (by decide) ?_
        cases hm
        exact hret _ _ _ _ dX9_group_70 hP hD hS
    · rw [if_pos h6] at hm
      refine lv_ldc hx hb hown (hT _ zw750) dX9_group_18 ?_
      cases hm
      exact hret _ _ _ _ dX9_group_20 hP hD hS
set_option maxHeartbeats 4000000 in
set_option maxRecDepth 100000 in
theorem k_X9_find {l : Launch} {D : va_G} {ad : Nat → Nat} {cI cJ cZ cO : ClassId} {t : Nat} {A : Nat → Prop} {N : Nat} {σ σ' : zS} {v1 : Int32} {v2 : Int32} {r : Int32}  (hm : m_X9_find N σ v1 v2 = some (r, σ')) : zCi l yX9_find cX9_find 4 (some .int) (zR 8 186) D zclM (zty cI cJ cZ cO) t A (zwM ad cI cJ cZ cO) [.ref (ad 0), .int v1, .int v2] σ σ' r := by
  refine zMi (by decide) (Nat.le_of_ble_eq_true rfl) ?_
  intro p e s m args below meth c Q hx hb hml hown hT hK hZ hret hP hD hS ls hl
  replace hown : s.vm.findClass RX9 = some m.cls := hown
  replace hl : lv_has ls 4 [(0, .ref (ad 0)), (1, .int v1), (2, .int v2)] := hl
  have hL18 : ∀ (σ4 : zS), ∀ (q : Int32) (r : (Int32) ⊕ (Unit)), ziter (fun q : Int32 => m_X9_find_L18 N v1 v2 σ4 q) N q = some r → (Sum.elim (fun r : Int32 => ∀ (H : Heap) (locs : List Loc) (ls : Array Slot), va_P D zclM (zwM ad cI cJ cZ cO σ4) H → va_D A (zwM ad cI cJ cZ cO σ4) → va_S A s.heap H locs → lv_has ls 4 [(3, .int r)] → W p l e (zR 8 186) s m args below meth c H locs 0 0 Q (F0 m 49 ls [])) (fun r : Unit => ∀ (H : Heap) (locs : List Loc) (ls : Array Slot), va_P D zclM (zwM ad cI cJ cZ cO σ4) H → va_D A (zwM ad cI cJ cZ cO σ4) → va_S A s.heap H locs → lv_has ls 4 [] → W p l e (zR 8 186) s m args below meth c H locs 0 0 Q (F0 m 57 ls [])) r) → ∀ (H : Heap) (locs : List Loc) (ls : Array Slot), va_P D zclM (zwM ad cI cJ cZ cO σ4) H → va_D A (zwM ad cI cJ cZ cO σ4) → va_S A s.heap H locs → lv_has ls 4 [(0, .ref (ad 0)), (2, .int v2), (3, .int q)] → W p l e (zR 8 186) s m args below meth c H locs 0 0 Q (F0 m 18 ls []) := by
    intro σ4
    intro q r
    refine ziter_W (Hd := fun q : Int32 => ∀ (H : Heap) (locs : List Loc) (ls : Array Slot), va_P D zclM (zwM ad cI cJ cZ cO σ4) H → va_D A (zwM ad cI cJ cZ cO σ4) → va_S A s.heap H locs → lv_has ls 4 [(0, .ref (ad 0)), (2, .int v2), (3, .int q)] → W p l e (zR 8 186) s m args below meth c H locs 0 0 Q (F0 m 18 ls [])) (Ex := fun r : (Int32) ⊕ (Unit) => Sum.elim (fun r : Int32 => ∀ (H : Heap) (locs : List Loc) (ls : Array Slot), va_P D zclM (zwM ad cI cJ cZ cO σ4) H → va_D A (zwM ad cI cJ cZ cO σ4) → va_S A s.heap H locs → lv_has ls 4 [(3, .int r)] → W p l e (zR 8 186) s m args below meth c H locs 0 0 Q (F0 m 49 ls [])) (fun r : Unit => ∀ (H : Heap) (locs : List Loc) (ls : Array Slot), va_P D zclM (zwM ad cI cJ cZ cO σ4) H → va_D A (zwM ad cI cJ cZ cO σ4) → va_S A s.heap H locs → lv_has ls 4 [] → W p l e (zR 8 186) s m args below meth c H locs 0 0 Q (F0 m 57 ls [])) r) ?_ N q r
    rintro v3_4 res hm hk H locs ls hP hD hS hl
    try dsimp only at hP hD hl
    replace hm : m_X9_find_L18 N v1 v2 σ4 v3_4 = some res := hm
    have h35 : ∀ (v3_6 : Int32) (x0_6 : Int32) (x1_6 : Int32) (x2_6 : Int32), m_X9_find_35_in18 N v1 v2 σ4 v3_6 x0_6 x1_6 x2_6 = some res → ∀ (H : Heap) (locs : List Loc) (ls : Array Slot), va_P D zclM (zwM ad cI cJ cZ cO σ4) H → va_D A (zwM ad cI cJ cZ cO σ4) → va_S A s.heap H locs → lv_has ls 4 [(0, .ref (ad 0)), (2, .int v2), (3, .int v3_6)] → W p l e (zR 8 186) s m args below meth c H locs 0 0 Q (F0 m 35 ls [.int x2_6, .int x1_6, .int x0_6]) := by
      intro v3_6 x0_6 x1_6 x2_6 hm H locs ls hP hD hS hl
      unfold m_X9_find_35_in18 at hm
      refine lv_isub hx hb dX9_find_35 ?_
      refine lv_icmp_ge (tgt := 57) hx hb dX9_find_36 (by decide) (fun h7 => ?_) (fun h7 => ?_)
      · rw [if_pos h7] at hm
        cases hm
        exact hk _ _ _ hP hD hS (lv_sub hl [] rfl)
      · rw [if_neg h7] at hm
        refine lv_aload_n hx hb dX9_find_39 rfl (lv_at hl 0 rfl) ?_
        refine zget (v := .ref (ad 20)) hx hb hT zinX9 hown hK hP 0 rfl rfl 24 (by decide) zw646 rfl dX9_find_40 ?_
        refine lv_iload_n hx hb dX9_find_43 rfl (lv_at hl 2 rfl) ?_
        obtain ⟨b8, eb8, hm⟩ := Option.bind_eq_some_iff.mp hm
        refine ziald hx hb hK hP 20 0 rfl rfl eb8 dX9_find_44 ?_
        refine lv_iload_n hx hb dX9_find_45 rfl (lv_at hl 1 rfl) ?_
        refine lv_icmp_ne (tgt := 51) hx hb dX9_find_46 (by decide) (fun h9 => ?_) (fun h9 => ?_)
        · rw [if_neg h9] at hm
          refine lv_iinc (v := (v3_6 + (1 : Int32))) (lv' := [(3, .int (v3_6 + (1 : Int32))), (0, .ref (ad 0)), (2, .int v2)]) hx hb dX9_find_51 hl (k := 2) rfl rfl (by decide) rfl (fun ls hl => ?_)
          refine lv_goto (tgt := 18) hx hb dX9_find_54 (by decide) ?_
          cases hm
          exact hk _ _ _ hP hD hS (lv_sub hl [1, 2, 0] rfl)
        · rw [if_pos h9] at hm
          cases hm
          exact hk _ _ _ hP hD hS (lv_sub hl [2] rfl)
    unfold m_X9_find_L18 at hm
    refine lv_iload_n hx hb dX9_find_18 rfl (lv_at hl 2 rfl) ?_
    refine lv_aload_n hx hb dX9_find_19 rfl (lv_at hl 0 rfl) ?_
    refine zget (v := .int (σ4.1 4)) hx hb hT zinX9 hown hK hP 0 rfl rfl 23 (by decide) zw645 rfl dX9_find_20 ?_
    refine lv_aload_n hx hb dX9_find_23 rfl (lv_at hl 0 rfl) ?_
    refine zget (v := .int (σ4.1 5)) hx hb hT zinX9 hown hK hP 0 rfl rfl 27 (by decide) zw649 rfl dX9_find_24 ?_
    refine lv_if_eq (tgt := 34) hx hb dX9_find_27 (by decide) (fun h5 => ?_) (fun h5 => ?_)
    · rw [if_pos h5] at hm
      refine lv_iconst (v := (0 : Int32)) hx hb dX9_find_34 (by decide) ?_
      exact h35 v3_4 v3_4 (σ4.1 4) (0 : Int32) hm _ _ _ hP hD hS (lv_sub hl [0, 1, 2] rfl)
    · rw [if_neg h5] at hm
      refine lv_iconst (v := (1 : Int32)) hx hb dX9_find_30 (by decide) ?_
      refine lv_goto (tgt := 35) hx hb dX9_find_31 (by decide) ?_
      exact h35 v3_4 v3_4 (σ4.1 4) (1 : Int32) hm _ _ _ hP hD hS (lv_sub hl [0, 1, 2] rfl)
  have h49 : ∀ (σ12 : zS) (v3_12 : Int32), m_X9_find_49 N v1 v2 σ12 v3_12 = some (r, σ') → ∀ (H : Heap) (locs : List Loc) (ls : Array Slot), va_P D zclM (zwM ad cI cJ cZ cO σ12) H → va_D A (zwM ad cI cJ cZ cO σ12) → va_S A s.heap H locs → lv_has ls 4 [(3, .int v3_12)] → W p l e (zR 8 186) s m args below meth c H locs 0 0 Q (F0 m 49 ls []) := by
    intro σ12 v3_12 hm H locs ls hP hD hS hl
    unfold m_X9_find_49 at hm
    refine lv_iload_n hx hb dX9_find_49 rfl (lv_at hl 0 rfl) ?_
    cases hm
    exact hret _ _ _ _ dX9_find_50 hP hD hS
  have h57 : ∀ (σ14 : zS), m_X9_find_57 N v1 v2 σ14 = some (r, σ') → ∀ (H : Heap) (locs : List Loc) (ls : Array Slot), va_P D zclM (zwM ad cI cJ cZ cO σ14) H → va_D A (zwM ad cI cJ cZ cO σ14) → va_S A s.heap H locs → lv_has ls 4 [] → W p l e (zR 8 186) s m args below meth c H locs 0 0 Q (F0 m 57 ls []) := by
    intro σ14 hm H locs ls hP hD hS hl
    unfold m_X9_find_57 at hm
    refine lv_ldc hx hb hown (hT _ zw764) dX9_find_57 ?_
    cases hm
    exact hret _ _ _ _ dX9_find_59 hP hD hS
  unfold m_X9_find at hm
  refine lv_aload_n hx hb dX9_find_0 rfl (lv_at hl 0 rfl) ?_
  refine lv_iload_n hx hb dX9_find_1 rfl (lv_at hl 1 rfl) ?_
  obtain ⟨b1, eb1, hm⟩ := Option.bind_eq_some_iff.mp hm
  refine zVi (rest := []) [.int v1] hx hb hml hl.1 hown hT (k_X9_isFacet eb1) zkX9_isFacet zw769 ⟨by decide, by decide⟩ rfl rfl hK hZ hP hD hS 0 rfl rfl rfl rfl (Nat.le_of_ble_eq_true rfl) ⟨Nat.zero_le _, Nat.zero_le _⟩ dX9_find_2 (fun H locs hP hD hS => ?_)
  refine lv_if_ne (tgt := 11) hx hb dX9_find_5 (by decide) (fun h2 => ?_) (fun h2 => ?_)
  · rw [if_neg h2] at hm
    refine lv_aload_n hx hb dX9_find_11 rfl (lv_at hl 0 rfl) ?_
    refine lv_iload_n hx hb dX9_find_12 rfl (lv_at hl 1 rfl) ?_
    obtain ⟨σ3, eσ3, hm⟩ := Option.bind_eq_some_iff.mp hm
    refine zVv (rest := []) [.int v1] hx hb hml hl.1 hown hT (k_X9_findGroups eσ3) zkX9_findGroups zw794 ⟨by decide, by decide⟩ rfl rfl hK hZ hP hD hS 0 rfl rfl rfl rfl (Nat.le_of_ble_eq_true rfl) ⟨Nat.zero_le _, Nat.zero_le _⟩ dX9_find_13 (fun H locs hP hD hS => ?_)
    refine lv_iconst (v := (0 : Int32)) hx hb dX9_find_16 (by decide) ?_
    refine lv_istore_n (lv' := [(3, .int (0 : Int32)), (0, .ref (ad 0)), (1, .int v1), (2, .int v2)]) hx hb dX9_find_17 rfl hl (by decide) rfl (fun ls hl => ?_)
    obtain ⟨r10, e15, hm⟩ := Option.bind_eq_some_iff.mp hm
    refine hL18 σ3 _ r10 e15 ?_ _ _ _ hP hD hS (lv_sub hl [1, 3, 0] rfl)
    rcases r10 with v3_11 | _
    · intro H locs ls hP hD hS hl
      try dsimp only at hP hD hl
      replace hm : m_X9_find_49 N v1 v2 σ3 v3_11 = some (r, σ') := hm
      exact h49 σ3 v3_11 hm _ _ _ hP hD hS (lv_sub hl [0] rfl)
    · intro H locs ls hP hD hS hl
      try dsimp only at hP hD hl
      replace hm : m_X9_find_57 N v1 v2 σ3 = some (r, σ') := hm
      exact h57 σ3 hm _ _ _ hP hD hS (lv_sub hl [] rfl)
  · rw [if_pos h2] at hm
    refine lv_ldc hx hb hown (hT _ zw750) dX9_find_8 ?_
    cases hm
    exact hret _ _ _ _ dX9_find_10 hP hD hS
set_option maxHeartbeats 4000000 in
set_option maxRecDepth 100000 in
theorem k_X9_in {l : Launch} {D : va_G} {ad : Nat → Nat} {cI cJ cZ cO : ClassId} {t : Nat} {A : Nat → Prop} {N : Nat} {σ σ' : zS} {v1 : Int32} {v2 : Int32} {v3 : Int32} {r : Int32}  (hm : m_X9_in N σ v1 v2 v3 = some (r, σ')) : zCi l yX9_in cX9_in 4 (some .int) (zR 9 208) D zclM (zty cI cJ cZ cO) t A (zwM ad cI cJ cZ cO) [.ref (ad 0), .int v1, .int v2, .int v3] σ σ' r := by
  refine zMi (by decide) (Nat.le_of_ble_eq_true rfl) ?_
  intro p e s m args below meth c Q hx hb hml hown hT hK hZ hret hP hD hS ls hl
  replace hown : s.vm.findClass RX9 = some m.cls := hown
  replace hl : lv_has ls 4 [(0, .ref (ad 0)), (1, .int v1), (2, .int v2), (3, .int v3)] := hl
  unfold m_X9_in at hm
  refine lv_aload_n hx hb dX9_in_0 rfl (lv_at hl 0 rfl) ?_
  refine lv_iload_n hx hb dX9_in_1 rfl (lv_at hl 3 rfl) ?_
  obtain ⟨b1, eb1, hm⟩ := Option.bind_eq_some_iff.mp hm
  refine zVi (rest := []) [.int v3] hx hb hml hl.1 hown hT (k_X9_isObject eb1) zkX9_isObject zw735 ⟨by decide, by decide⟩ rfl rfl hK hZ hP hD hS 0 rfl rfl rfl rfl (Nat.le_of_ble_eq_true rfl) ⟨Nat.zero_le _, Nat.zero_le _⟩ dX9_in_2 (fun H locs hP hD hS => ?_)
  refine lv_if_eq (tgt := 35) hx hb dX9_in_5 (by decide) (fun h2 => ?_) (fun h2 => ?_)
  · rw [if_pos h2] at hm
    refine lv_ldc hx hb hown (hT _ zw750) dX9_in_35 ?_
    cases hm
    exact hret _ _ _ _ dX9_in_37 hP hD hS
  · rw [if_neg h2] at hm
    refine lv_aload_n hx hb dX9_in_8 rfl (lv_at hl 0 rfl) ?_
    refine lv_iload_n hx hb dX9_in_9 rfl (lv_at hl 1 rfl) ?_
    refine lv_iload_n hx hb dX9_in_10 rfl (lv_at hl 2 rfl) ?_
    obtain ⟨⟨b3, σ5⟩, eb3, hm⟩ := Option.bind_eq_some_iff.mp hm
    try dsimp only at hm
    refine zVi (rest := []) [.int v1, .int v2] hx hb hml hl.1 hown hT (k_X9_isGroup eb3) zkX9_isGroup zw876 ⟨by decide, by decide⟩ rfl rfl hK hZ hP hD hS 0 rfl rfl rfl rfl (Nat.le_of_ble_eq_true rfl) ⟨Nat.zero_le _, Nat.zero_le _⟩ dX9_in_11 (fun H locs hP hD hS => ?_)
    refine lv_if_eq (tgt := 35) hx hb dX9_in_14 (by decide) (fun h6 => ?_) (fun h6 => ?_)
    · rw [if_pos h6] at hm
      refine lv_ldc hx hb hown (hT _ zw750) dX9_in_35 ?_
      cases hm
      exact hret _ _ _ _ dX9_in_37 hP hD hS
    · rw [if_neg h6] at hm
      refine lv_aload_n hx hb dX9_in_17 rfl (lv_at hl 0 rfl) ?_
      refine lv_iload_n hx hb dX9_in_18 rfl (lv_at hl 1 rfl) ?_
      refine lv_iload_n hx hb dX9_in_19 rfl (lv_at hl 2 rfl) ?_
      refine lv_iload_n hx hb dX9_in_20 rfl (lv_at hl 3 rfl) ?_
      obtain ⟨b7, eb7, hm⟩ := Option.bind_eq_some_iff.mp hm
      refine zVi (rest := []) [.int v1, .int v2, .int v3] hx hb hml hl.1 hown hT (k_X9_isIn eb7) zkX9_isIn zw852 ⟨by decide, by decide⟩ rfl rfl hK hZ hP hD hS 0 rfl rfl rfl rfl (Nat.le_of_ble_eq_true rfl) ⟨Nat.zero_le _, Nat.zero_le _⟩ dX9_in_21 (fun H locs hP hD hS => ?_)
      refine lv_if_eq (tgt := 31) hx hb dX9_in_24 (by decide) (fun h8 => ?_) (fun h8 => ?_)
      · rw [if_pos h8] at hm
        refine lv_iconst (v := (0 : Int32)) hx hb dX9_in_31 (by decide) ?_
        refine lv_goto (tgt := 37) hx hb dX9_in_32 (by decide) ?_
        cases hm
        exact hret _ _ _ _ dX9_in_37 hP hD hS
      · rw [if_neg h8] at hm
        refine lv_iconst (v := (1 : Int32)) hx hb dX9_in_27 (by decide) ?_
        refine lv_goto (tgt := 37) hx hb dX9_in_28 (by decide) ?_
        cases hm
        exact hret _ _ _ _ dX9_in_37 hP hD hS
set_option maxHeartbeats 4000000 in
set_option maxRecDepth 100000 in
theorem k_X9_hand {l : Launch} {D : va_G} {ad : Nat → Nat} {cI cJ cZ cO : ClassId} {t : Nat} {A : Nat → Prop} {N : Nat} {σ : zS}  {r : Int32}  (hm : m_X9_hand N σ = some r) : zCi l yX9_hand cX9_hand 3 (some .int) (zR 1 21) D zclM (zty cI cJ cZ cO) t A (zwM ad cI cJ cZ cO) [.ref (ad 0)] σ σ r := by
  refine zMi (by decide) (Nat.le_of_ble_eq_true rfl) ?_
  intro p e s m args below meth c Q hx hb hml hown hT hK hZ hret hP hD hS ls hl
  replace hown : s.vm.findClass RX9 = some m.cls := hown
  replace hl : lv_has ls 3 [(0, .ref (ad 0))] := hl
  have hL4 : ∀ (q : Int32 × Int32) (r : Int32), ziter (fun q : Int32 × Int32 => m_X9_hand_L4 N σ q.1 q.2) N q = some r → (∀ (H : Heap) (locs : List Loc) (ls : Array Slot), va_P D zclM (zwM ad cI cJ cZ cO σ) H → va_D A (zwM ad cI cJ cZ cO σ) → va_S A s.heap H locs → lv_has ls 3 [(1, .int r)] → W p l e (zR 1 21) s m args below meth c H locs 0 0 Q (F0 m 34 ls [])) → ∀ (H : Heap) (locs : List Loc) (ls : Array Slot), va_P D zclM (zwM ad cI cJ cZ cO σ) H → va_D A (zwM ad cI cJ cZ cO σ) → va_S A s.heap H locs → lv_has ls 3 [(0, .ref (ad 0)), (1, .int q.1), (2, .int q.2)] → W p l e (zR 1 21) s m args below meth c H locs 0 0 Q (F0 m 4 ls []) := by
    intro q r
    refine ziter_W (Hd := fun q : Int32 × Int32 => ∀ (H : Heap) (locs : List Loc) (ls : Array Slot), va_P D zclM (zwM ad cI cJ cZ cO σ) H → va_D A (zwM ad cI cJ cZ cO σ) → va_S A s.heap H locs → lv_has ls 3 [(0, .ref (ad 0)), (1, .int q.1), (2, .int q.2)] → W p l e (zR 1 21) s m args below meth c H locs 0 0 Q (F0 m 4 ls [])) (Ex := fun r : Int32 => ∀ (H : Heap) (locs : List Loc) (ls : Array Slot), va_P D zclM (zwM ad cI cJ cZ cO σ) H → va_D A (zwM ad cI cJ cZ cO σ) → va_S A s.heap H locs → lv_has ls 3 [(1, .int r)] → W p l e (zR 1 21) s m args below meth c H locs 0 0 Q (F0 m 34 ls [])) ?_ N q r
    rintro ⟨v1_1, v2_1⟩ res hm hk H locs ls hP hD hS hl
    try dsimp only at hP hD hl
    replace hm : m_X9_hand_L4 N σ v1_1 v2_1 = some res := hm
    have h26 : ∀ (v2_5 : Int32) (x0_5 : Int32) (x1_5 : Int32), m_X9_hand_26_in4 N σ v2_5 x0_5 x1_5 = some res → ∀ (H : Heap) (locs : List Loc) (ls : Array Slot), va_P D zclM (zwM ad cI cJ cZ cO σ) H → va_D A (zwM ad cI cJ cZ cO σ) → va_S A s.heap H locs → lv_has ls 3 [(0, .ref (ad 0)), (2, .int v2_5)] → W p l e (zR 1 21) s m args below meth c H locs 0 0 Q (F0 m 26 ls [.int x1_5, .int x0_5]) := by
      intro v2_5 x0_5 x1_5 hm H locs ls hP hD hS hl
      unfold m_X9_hand_26_in4 at hm
      refine lv_iadd hx hb dX9_hand_26 ?_
      refine lv_istore_n (lv' := [(1, .int (x0_5 + x1_5)), (0, .ref (ad 0)), (2, .int v2_5)]) hx hb dX9_hand_27 rfl hl (by decide) rfl (fun ls hl => ?_)
      refine lv_iinc (v := (v2_5 + (1 : Int32))) (lv' := [(2, .int (v2_5 + (1 : Int32))), (1, .int (x0_5 + x1_5)), (0, .ref (ad 0))]) hx hb dX9_hand_28 hl (k := 2) rfl rfl (by decide) rfl (fun ls hl => ?_)
      refine lv_goto (tgt := 4) hx hb dX9_hand_31 (by decide) ?_
      cases hm
      exact hk _ _ _ hP hD hS (lv_sub hl [2, 1, 0] rfl)
    unfold m_X9_hand_L4 at hm
    refine lv_iload_n hx hb dX9_hand_4 rfl (lv_at hl 2 rfl) ?_
    refine lv_aload_n hx hb dX9_hand_5 rfl (lv_at hl 0 rfl) ?_
    refine zget (v := .int (σ.1 0)) hx hb hT zinX9 hown hK hP 0 rfl rfl 0 (by decide) zw622 rfl dX9_hand_6 ?_
    refine lv_icmp_ge (tgt := 34) hx hb dX9_hand_9 (by decide) (fun h2 => ?_) (fun h2 => ?_)
    · rw [if_pos h2] at hm
      cases hm
      exact hk _ _ _ hP hD hS (lv_sub hl [1] rfl)
    · rw [if_neg h2] at hm
      refine lv_iload_n hx hb dX9_hand_12 rfl (lv_at hl 1 rfl) ?_
      refine lv_aload_n hx hb dX9_hand_13 rfl (lv_at hl 0 rfl) ?_
      refine lv_iload_n hx hb dX9_hand_14 rfl (lv_at hl 2 rfl) ?_
      obtain ⟨b3, eb3, hm⟩ := Option.bind_eq_some_iff.mp hm
      refine zVi (rest := [.int v1_1]) [.int v2_1] hx hb hml hl.1 hown hT (k_X9_atHand eb3) zkX9_atHand zw840 ⟨by decide, by decide⟩ rfl rfl hK hZ hP hD hS 0 rfl rfl rfl rfl (Nat.le_of_ble_eq_true rfl) ⟨Nat.zero_le _, Nat.zero_le _⟩ dX9_hand_15 (fun H locs hP hD hS => ?_)
      refine lv_if_eq (tgt := 25) hx hb dX9_hand_18 (by decide) (fun h4 => ?_) (fun h4 => ?_)
      · rw [if_pos h4] at hm
        refine lv_iconst (v := (0 : Int32)) hx hb dX9_hand_25 (by decide) ?_
        exact h26 v2_1 v1_1 (0 : Int32) hm _ _ _ hP hD hS (lv_sub hl [0, 2] rfl)
      · rw [if_neg h4] at hm
        refine lv_iconst (v := (1 : Int32)) hx hb dX9_hand_21 (by decide) ?_
        refine lv_goto (tgt := 26) hx hb dX9_hand_22 (by decide) ?_
        exact h26 v2_1 v1_1 (1 : Int32) hm _ _ _ hP hD hS (lv_sub hl [0, 2] rfl)
  have h34 : ∀ (v1_8 : Int32), m_X9_hand_34 N σ v1_8 = some r → ∀ (H : Heap) (locs : List Loc) (ls : Array Slot), va_P D zclM (zwM ad cI cJ cZ cO σ) H → va_D A (zwM ad cI cJ cZ cO σ) → va_S A s.heap H locs → lv_has ls 3 [(1, .int v1_8)] → W p l e (zR 1 21) s m args below meth c H locs 0 0 Q (F0 m 34 ls []) := by
    intro v1_8 hm H locs ls hP hD hS hl
    unfold m_X9_hand_34 at hm
    refine lv_iload_n hx hb dX9_hand_34 rfl (lv_at hl 0 rfl) ?_
    cases hm
    exact hret _ _ _ _ dX9_hand_35 hP hD hS
  unfold m_X9_hand at hm
  refine lv_iconst (v := (0 : Int32)) hx hb dX9_hand_0 (by decide) ?_
  refine lv_istore_n (lv' := [(1, .int (0 : Int32)), (0, .ref (ad 0))]) hx hb dX9_hand_1 rfl hl (by decide) rfl (fun ls hl => ?_)
  refine lv_iconst (v := (0 : Int32)) hx hb dX9_hand_2 (by decide) ?_
  refine lv_istore_n (lv' := [(2, .int (0 : Int32)), (1, .int (0 : Int32)), (0, .ref (ad 0))]) hx hb dX9_hand_3 rfl hl (by decide) rfl (fun ls hl => ?_)
  obtain ⟨v1_7, e9, hm⟩ := Option.bind_eq_some_iff.mp hm
  refine hL4  _ v1_7 e9 ?_ _ _ _ hP hD hS (lv_sub hl [2, 1, 0] rfl)
  intro H locs ls hP hD hS hl
  try dsimp only at hP hD hl
  replace hm : m_X9_hand_34 N σ v1_7 = some r := hm
  exact h34 v1_7 hm _ _ _ hP hD hS (lv_sub hl [0] rfl)
set_option maxHeartbeats 4000000 in
set_option maxRecDepth 100000 in
theorem k_X9_enter {l : Launch} {D : va_G} {ad : Nat → Nat} {cI cJ cZ cO : ClassId} {t : Nat} {A : Nat → Prop} {N : Nat} {σ σ' : zS} {v1 : Int32} {v2 : Int32} {r : Int32}  (hm : m_X9_enter N σ v1 v2 = some (r, σ')) : zCi l yX9_enter cX9_enter 4 (some .int) (zR 9 208) D zclM (zty cI cJ cZ cO) t A (zwM ad cI cJ cZ cO) [.ref (ad 0), .int v1, .int v2] σ σ' r := by
  refine zMi (by decide) (Nat.le_of_ble_eq_true rfl) ?_
  intro p e s m args below meth c Q hx hb hml hown hT hK hZ hret hP hD hS ls hl
  replace hown : s.vm.findClass RX9 = some m.cls := hown
  replace hl : lv_has ls 4 [(0, .ref (ad 0)), (1, .int v1), (2, .int v2)] := hl
  have hL26 : ∀ (q : zS × Int32) (r : zS), ziter (fun q : zS × Int32 => m_X9_enter_L26 N v1 v2 q.1 q.2) N q = some r → (∀ (H : Heap) (locs : List Loc) (ls : Array Slot), va_P D zclM (zwM ad cI cJ cZ cO r) H → va_D A (zwM ad cI cJ cZ cO r) → va_S A s.heap H locs → lv_has ls 4 [(0, .ref (ad 0))] → W p l e (zR 9 208) s m args below meth c H locs 0 0 Q (F0 m 53 ls [])) → ∀ (H : Heap) (locs : List Loc) (ls : Array Slot), va_P D zclM (zwM ad cI cJ cZ cO q.1) H → va_D A (zwM ad cI cJ cZ cO q.1) → va_S A s.heap H locs → lv_has ls 4 [(0, .ref (ad 0)), (1, .int v1), (2, .int v2), (3, .int q.2)] → W p l e (zR 9 208) s m args below meth c H locs 0 0 Q (F0 m 26 ls []) := by
    intro q r
    refine ziter_W (Hd := fun q : zS × Int32 => ∀ (H : Heap) (locs : List Loc) (ls : Array Slot), va_P D zclM (zwM ad cI cJ cZ cO q.1) H → va_D A (zwM ad cI cJ cZ cO q.1) → va_S A s.heap H locs → lv_has ls 4 [(0, .ref (ad 0)), (1, .int v1), (2, .int v2), (3, .int q.2)] → W p l e (zR 9 208) s m args below meth c H locs 0 0 Q (F0 m 26 ls [])) (Ex := fun r : zS => ∀ (H : Heap) (locs : List Loc) (ls : Array Slot), va_P D zclM (zwM ad cI cJ cZ cO r) H → va_D A (zwM ad cI cJ cZ cO r) → va_S A s.heap H locs → lv_has ls 4 [(0, .ref (ad 0))] → W p l e (zR 9 208) s m args below meth c H locs 0 0 Q (F0 m 53 ls [])) ?_ N q r
    rintro ⟨σ6, v3_6⟩ res hm hk H locs ls hP hD hS hl
    try dsimp only at hP hD hl
    replace hm : m_X9_enter_L26 N v1 v2 σ6 v3_6 = some res := hm
    unfold m_X9_enter_L26 at hm
    refine lv_iload_n hx hb dX9_enter_26 rfl (lv_at hl 3 rfl) ?_
    refine lv_aload_n hx hb dX9_enter_27 rfl (lv_at hl 0 rfl) ?_
    refine zget (v := .int (σ6.1 0)) hx hb hT zinX9 hown hK hP 0 rfl rfl 0 (by decide) zw622 rfl dX9_enter_28 ?_
    refine lv_icmp_ge (tgt := 53) hx hb dX9_enter_31 (by decide) (fun h7 => ?_) (fun h7 => ?_)
    · rw [if_pos h7] at hm
      cases hm
      exact hk _ _ _ hP hD hS (lv_sub hl [0] rfl)
    · rw [if_neg h7] at hm
      refine lv_aload_n hx hb dX9_enter_34 rfl (lv_at hl 0 rfl) ?_
      refine zget (v := .ref (ad 25)) hx hb hT zinX9 hown hK hP 0 rfl rfl 30 (by decide) zw652 rfl dX9_enter_35 ?_
      refine lv_iload_n hx hb dX9_enter_38 rfl (lv_at hl 3 rfl) ?_
      refine lv_aload_n hx hb dX9_enter_39 rfl (lv_at hl 0 rfl) ?_
      refine lv_iload_n hx hb dX9_enter_40 rfl (lv_at hl 1 rfl) ?_
      refine lv_iload_n hx hb dX9_enter_41 rfl (lv_at hl 2 rfl) ?_
      refine lv_iload_n hx hb dX9_enter_42 rfl (lv_at hl 3 rfl) ?_
      obtain ⟨b8, eb8, hm⟩ := Option.bind_eq_some_iff.mp hm
      refine zVi (rest := [.int v3_6, .ref (ad 25)]) [.int v1, .int v2, .int v3_6] hx hb hml hl.1 hown hT (k_X9_isIn eb8) zkX9_isIn zw852 ⟨by decide, by decide⟩ rfl rfl hK hZ hP hD hS 0 rfl rfl rfl rfl (Nat.le_of_ble_eq_true rfl) ⟨Nat.zero_le _, Nat.zero_le _⟩ dX9_enter_43 (fun H locs hP hD hS => ?_)
      obtain ⟨b9, eb9, hm⟩ := Option.bind_eq_some_iff.mp hm
      obtain ⟨rfl, hzb9, hwb9, hfb9⟩ := zcz_all eb9
      obtain ⟨σ10, eσ10, hm⟩ := Option.bind_eq_some_iff.mp hm
      refine zzast (j := 23) hx hb hK hP hD hS 25 2 rfl rfl eσ10 hwb9 (fun _ => rfl) dX9_enter_46 (fun H locs hP hD hS => ?_)
      refine lv_iinc (v := (v3_6 + (1 : Int32))) (lv' := [(3, .int (v3_6 + (1 : Int32))), (0, .ref (ad 0)), (1, .int v1), (2, .int v2)]) hx hb dX9_enter_47 hl (k := 3) rfl rfl (by decide) rfl (fun ls hl => ?_)
      refine lv_goto (tgt := 26) hx hb dX9_enter_50 (by decide) ?_
      cases hm
      exact hk _ _ _ hP hD hS (lv_sub hl [1, 2, 3, 0] rfl)
  have hL55 : ∀ (q : zS × Int32) (r : zS), ziter (fun q : zS × Int32 => m_X9_enter_L55 N v1 v2 q.1 q.2) N q = some r → (∀ (H : Heap) (locs : List Loc) (ls : Array Slot), va_P D zclM (zwM ad cI cJ cZ cO r) H → va_D A (zwM ad cI cJ cZ cO r) → va_S A s.heap H locs → lv_has ls 4 [(0, .ref (ad 0))] → W p l e (zR 9 208) s m args below meth c H locs 0 0 Q (F0 m 89 ls [])) → ∀ (H : Heap) (locs : List Loc) (ls : Array Slot), va_P D zclM (zwM ad cI cJ cZ cO q.1) H → va_D A (zwM ad cI cJ cZ cO q.1) → va_S A s.heap H locs → lv_has ls 4 [(0, .ref (ad 0)), (3, .int q.2)] → W p l e (zR 9 208) s m args below meth c H locs 0 0 Q (F0 m 55 ls []) := by
    intro q r
    refine ziter_W (Hd := fun q : zS × Int32 => ∀ (H : Heap) (locs : List Loc) (ls : Array Slot), va_P D zclM (zwM ad cI cJ cZ cO q.1) H → va_D A (zwM ad cI cJ cZ cO q.1) → va_S A s.heap H locs → lv_has ls 4 [(0, .ref (ad 0)), (3, .int q.2)] → W p l e (zR 9 208) s m args below meth c H locs 0 0 Q (F0 m 55 ls [])) (Ex := fun r : zS => ∀ (H : Heap) (locs : List Loc) (ls : Array Slot), va_P D zclM (zwM ad cI cJ cZ cO r) H → va_D A (zwM ad cI cJ cZ cO r) → va_S A s.heap H locs → lv_has ls 4 [(0, .ref (ad 0))] → W p l e (zR 9 208) s m args below meth c H locs 0 0 Q (F0 m 89 ls [])) ?_ N q r
    rintro ⟨σ14, v3_14⟩ res hm hk H locs ls hP hD hS hl
    try dsimp only at hP hD hl
    replace hm : m_X9_enter_L55 N v1 v2 σ14 v3_14 = some res := hm
    unfold m_X9_enter_L55 at hm
    refine lv_iload_n hx hb dX9_enter_55 rfl (lv_at hl 1 rfl) ?_
    refine lv_aload_n hx hb dX9_enter_56 rfl (lv_at hl 0 rfl) ?_
    refine zget (v := .int (σ14.1 0)) hx hb hT zinX9 hown hK hP 0 rfl rfl 0 (by decide) zw622 rfl dX9_enter_57 ?_
    refine lv_icmp_ge (tgt := 89) hx hb dX9_enter_60 (by decide) (fun h15 => ?_) (fun h15 => ?_)
    · rw [if_pos h15] at hm
      cases hm
      exact hk _ _ _ hP hD hS (lv_sub hl [0] rfl)
    · rw [if_neg h15] at hm
      refine lv_aload_n hx hb dX9_enter_63 rfl (lv_at hl 0 rfl) ?_
      refine zget (v := .ref (ad 18)) hx hb hT zinX9 hown hK hP 0 rfl rfl 20 (by decide) zw642 rfl dX9_enter_64 ?_
      refine lv_bipush (v := (120 : Int32)) hx hb dX9_enter_67 (by decide) ?_
      refine lv_aload_n hx hb dX9_enter_69 rfl (lv_at hl 0 rfl) ?_
      refine zget (v := .int (σ14.1 2)) hx hb hT zinX9 hown hK hP 0 rfl rfl 19 (by decide) zw641 rfl dX9_enter_70 ?_
      refine lv_imul hx hb dX9_enter_73 ?_
      refine lv_iload_n hx hb dX9_enter_74 rfl (lv_at hl 1 rfl) ?_
      refine lv_iadd hx hb dX9_enter_75 ?_
      refine lv_aload_n hx hb dX9_enter_76 rfl (lv_at hl 0 rfl) ?_
      refine zget (v := .ref (ad 25)) hx hb hT zinX9 hown hK hP 0 rfl rfl 30 (by decide) zw652 rfl dX9_enter_77 ?_
      refine lv_iload_n hx hb dX9_enter_80 rfl (lv_at hl 1 rfl) ?_
      obtain ⟨b16, eb16, hm⟩ := Option.bind_eq_some_iff.mp hm
      refine zzald hx hb hK hP 25 2 rfl rfl eb16 dX9_enter_81 ?_
      obtain ⟨b17, eb17, hm⟩ := Option.bind_eq_some_iff.mp hm
      obtain ⟨rfl, hzb17, hwb17, hfb17⟩ := zcz_all eb17
      obtain ⟨σ18, eσ18, hm⟩ := Option.bind_eq_some_iff.mp hm
      refine zzast (j := 17) hx hb hK hP hD hS 18 2 rfl rfl eσ18 hwb17 (fun _ => rfl) dX9_enter_82 (fun H locs hP hD hS => ?_)
      refine lv_iinc (v := (v3_14 + (1 : Int32))) (lv' := [(3, .int (v3_14 + (1 : Int32))), (0, .ref (ad 0))]) hx hb dX9_enter_83 hl (k := 1) rfl rfl (by decide) rfl (fun ls hl => ?_)
      refine lv_goto (tgt := 55) hx hb dX9_enter_86 (by decide) ?_
      cases hm
      exact hk _ _ _ hP hD hS (lv_sub hl [1, 0] rfl)
  have h89 : ∀ (σ21 : zS), m_X9_enter_89 N v1 v2 σ21 = some (r, σ') → ∀ (H : Heap) (locs : List Loc) (ls : Array Slot), va_P D zclM (zwM ad cI cJ cZ cO σ21) H → va_D A (zwM ad cI cJ cZ cO σ21) → va_S A s.heap H locs → lv_has ls 4 [(0, .ref (ad 0))] → W p l e (zR 9 208) s m args below meth c H locs 0 0 Q (F0 m 89 ls []) := by
    intro σ21 hm H locs ls hP hD hS hl
    unfold m_X9_enter_89 at hm
    refine lv_aload_n hx hb dX9_enter_89 rfl (lv_at hl 0 rfl) ?_
    refine lv_dup hx hb dX9_enter_90 rfl ?_
    refine zget (v := .int (σ21.1 2)) hx hb hT zinX9 hown hK hP 0 rfl rfl 19 (by decide) zw641 rfl dX9_enter_91 ?_
    refine lv_iconst (v := (1 : Int32)) hx hb dX9_enter_94 (by decide) ?_
    refine lv_iadd hx hb dX9_enter_95 ?_
    obtain ⟨σ22, eσ22, hm⟩ := Option.bind_eq_some_iff.mp hm
    refine zput (j := 2) (ty := .int) hx hb hT zinX9 tyX9 tyX9_ok nmX9 hown hK hP hD hS 0 rfl rfl 19 (by decide) zw641 rfl (by decide +kernel) rfl rfl (Nat.le_of_ble_eq_true rfl) eσ22 rfl dX9_enter_96 (fun H locs hP hD hS => ?_)
    refine lv_aload_n hx hb dX9_enter_99 rfl (lv_at hl 0 rfl) ?_
    obtain ⟨b23, eb23, hm⟩ := Option.bind_eq_some_iff.mp hm
    refine zVi (rest := []) [] hx hb hml hl.1 hown hT (k_X9_hand eb23) zkX9_hand zw892 ⟨by decide, by decide⟩ rfl rfl hK hZ hP hD hS 0 rfl rfl rfl rfl (Nat.le_of_ble_eq_true rfl) ⟨Nat.zero_le _, Nat.zero_le _⟩ dX9_enter_100 (fun H locs hP hD hS => ?_)
    cases hm
    exact hret _ _ _ _ dX9_enter_103 hP hD hS
  have h53 : ∀ (σ13 : zS), m_X9_enter_53 N v1 v2 σ13 = some (r, σ') → ∀ (H : Heap) (locs : List Loc) (ls : Array Slot), va_P D zclM (zwM ad cI cJ cZ cO σ13) H → va_D A (zwM ad cI cJ cZ cO σ13) → va_S A s.heap H locs → lv_has ls 4 [(0, .ref (ad 0))] → W p l e (zR 9 208) s m args below meth c H locs 0 0 Q (F0 m 53 ls []) := by
    intro σ13 hm H locs ls hP hD hS hl
    unfold m_X9_enter_53 at hm
    refine lv_iconst (v := (0 : Int32)) hx hb dX9_enter_53 (by decide) ?_
    refine lv_istore_n (lv' := [(3, .int (0 : Int32)), (0, .ref (ad 0))]) hx hb dX9_enter_54 rfl hl (by decide) rfl (fun ls hl => ?_)
    obtain ⟨σ20, e24, hm⟩ := Option.bind_eq_some_iff.mp hm
    refine hL55  _ σ20 e24 ?_ _ _ _ hP hD hS (lv_sub hl [1, 0] rfl)
    intro H locs ls hP hD hS hl
    try dsimp only at hP hD hl
    replace hm : m_X9_enter_89 N v1 v2 σ20 = some (r, σ') := hm
    exact h89 σ20 hm _ _ _ hP hD hS (lv_sub hl [0] rfl)
  unfold m_X9_enter at hm
  refine lv_aload_n hx hb dX9_enter_0 rfl (lv_at hl 0 rfl) ?_
  refine lv_iload_n hx hb dX9_enter_1 rfl (lv_at hl 1 rfl) ?_
  refine lv_iload_n hx hb dX9_enter_2 rfl (lv_at hl 2 rfl) ?_
  obtain ⟨⟨b1, σ3⟩, eb1, hm⟩ := Option.bind_eq_some_iff.mp hm
  try dsimp only at hm
  refine zVi (rest := []) [.int v1, .int v2] hx hb hml hl.1 hown hT (k_X9_isGroup eb1) zkX9_isGroup zw876 ⟨by decide, by decide⟩ rfl rfl hK hZ hP hD hS 0 rfl rfl rfl rfl (Nat.le_of_ble_eq_true rfl) ⟨Nat.zero_le _, Nat.zero_le _⟩ dX9_enter_3 (fun H locs hP hD hS => ?_)
  refine lv_if_ne (tgt := 12) hx hb dX9_enter_6 (by decide) (fun h4 => ?_) (fun h4 => ?_)
  · rw [if_neg h4] at hm
    refine lv_aload_n hx hb dX9_enter_12 rfl (lv_at hl 0 rfl) ?_
    refine zget (v := .int (σ3.1 2)) hx hb hT zinX9 hown hK hP 0 rfl rfl 19 (by decide) zw641 rfl dX9_enter_13 ?_
    refine lv_bipush (v := (6 : Int32)) hx hb dX9_enter_16 (by decide) ?_
    refine lv_icmp_ne (tgt := 24) hx hb dX9_enter_18 (by decide) (fun h5 => ?_) (fun h5 => ?_)
    · rw [if_neg h5] at hm
      refine lv_iconst (v := (0 : Int32)) hx hb dX9_enter_24 (by decide) ?_
      refine lv_istore_n (lv' := [(3, .int (0 : Int32)), (0, .ref (ad 0)), (1, .int v1), (2, .int v2)]) hx hb dX9_enter_25 rfl hl (by decide) rfl (fun ls hl => ?_)
      obtain ⟨σ12, e25, hm⟩ := Option.bind_eq_some_iff.mp hm
      refine hL26  _ σ12 e25 ?_ _ _ _ hP hD hS (lv_sub hl [1, 2, 3, 0] rfl)
      intro H locs ls hP hD hS hl
      try dsimp only at hP hD hl
      replace hm : m_X9_enter_53 N v1 v2 σ12 = some (r, σ') := hm
      exact h53 σ12 hm _ _ _ hP hD hS (lv_sub hl [0] rfl)
    · rw [if_pos h5] at hm
      refine lv_ldc hx hb hown (hT _ zw726) dX9_enter_21 ?_
      cases hm
      exact hret _ _ _ _ dX9_enter_23 hP hD hS
  · rw [if_pos h4] at hm
    refine lv_ldc hx hb hown (hT _ zw750) dX9_enter_9 ?_
    cases hm
    exact hret _ _ _ _ dX9_enter_11 hP hD hS
set_option maxHeartbeats 4000000 in
set_option maxRecDepth 100000 in
theorem k_X9_leave {l : Launch} {D : va_G} {ad : Nat → Nat} {cI cJ cZ cO : ClassId} {t : Nat} {A : Nat → Prop} {N : Nat} {σ σ' : zS}  {r : Int32}  (hm : m_X9_leave N σ = some (r, σ')) : zCi l yX9_leave cX9_leave 1 (some .int) (zR 0 0) D zclM (zty cI cJ cZ cO) t A (zwM ad cI cJ cZ cO) [.ref (ad 0)] σ σ' r := by
  refine zMi (by decide) (Nat.le_of_ble_eq_true rfl) ?_
  intro p e s m args below meth c Q hx hb hml hown hT hK hZ hret hP hD hS ls hl
  replace hown : s.vm.findClass RX9 = some m.cls := hown
  replace hl : lv_has ls 1 [(0, .ref (ad 0))] := hl
  unfold m_X9_leave at hm
  refine lv_aload_n hx hb dX9_leave_0 rfl (lv_at hl 0 rfl) ?_
  refine zget (v := .int (σ.1 2)) hx hb hT zinX9 hown hK hP 0 rfl rfl 19 (by decide) zw641 rfl dX9_leave_1 ?_
  refine lv_if_ne (tgt := 10) hx hb dX9_leave_4 (by decide) (fun h1 => ?_) (fun h1 => ?_)
  · rw [if_neg h1] at hm
    refine lv_aload_n hx hb dX9_leave_10 rfl (lv_at hl 0 rfl) ?_
    refine lv_dup hx hb dX9_leave_11 rfl ?_
    refine zget (v := .int (σ.1 2)) hx hb hT zinX9 hown hK hP 0 rfl rfl 19 (by decide) zw641 rfl dX9_leave_12 ?_
    refine lv_iconst (v := (1 : Int32)) hx hb dX9_leave_15 (by decide) ?_
    refine lv_isub hx hb dX9_leave_16 ?_
    obtain ⟨σ2, eσ2, hm⟩ := Option.bind_eq_some_iff.mp hm
    refine zput (j := 2) (ty := .int) hx hb hT zinX9 tyX9 tyX9_ok nmX9 hown hK hP hD hS 0 rfl rfl 19 (by decide) zw641 rfl (by decide +kernel) rfl rfl (Nat.le_of_ble_eq_true rfl) eσ2 rfl dX9_leave_17 (fun H locs hP hD hS => ?_)
    refine lv_aload_n hx hb dX9_leave_20 rfl (lv_at hl 0 rfl) ?_
    refine zget (v := .int (σ2.1 2)) hx hb hT zinX9 hown hK hP 0 rfl rfl 19 (by decide) zw641 rfl dX9_leave_21 ?_
    cases hm
    exact hret _ _ _ _ dX9_leave_24 hP hD hS
  · rw [if_pos h1] at hm
    refine lv_ldc hx hb hown (hT _ zw773) dX9_leave_7 ?_
    cases hm
    exact hret _ _ _ _ dX9_leave_9 hP hD hS
set_option maxHeartbeats 4000000 in
set_option maxRecDepth 100000 in
theorem k_X9_lay {l : Launch} {D : va_G} {ad : Nat → Nat} {cI cJ cZ cO : ClassId} {t : Nat} {A : Nat → Prop} {N : Nat} {σ σ' : zS} {v1 : Int32}   (hm : m_X9_lay N σ v1 = some σ') : zCv l yX9_lay cX9_lay 3 (none) (zR 0 0) D zclM (zty cI cJ cZ cO) t A (zwM ad cI cJ cZ cO) [.ref (ad 0), .int v1] σ σ' := by
  refine zMv (by decide) (Nat.le_of_ble_eq_true rfl) ?_
  intro p e s m args below meth c Q hx hb hml hown hT hK hZ hret hP hD hS ls hl
  replace hown : s.vm.findClass RX9 = some m.cls := hown
  replace hl : lv_has ls 3 [(0, .ref (ad 0)), (1, .int v1)] := hl
  have hL5 : ∀ (q : zS × Int32) (r : zS × Int32), ziter (fun q : zS × Int32 => m_X9_lay_L5 N v1 q.1 q.2) N q = some r → (∀ (H : Heap) (locs : List Loc) (ls : Array Slot), va_P D zclM (zwM ad cI cJ cZ cO r.1) H → va_D A (zwM ad cI cJ cZ cO r.1) → va_S A s.heap H locs → lv_has ls 3 [(0, .ref (ad 0)), (1, .int v1), (2, .int r.2)] → W p l e (zR 0 0) s m args below meth c H locs 0 0 Q (F0 m 41 ls [])) → ∀ (H : Heap) (locs : List Loc) (ls : Array Slot), va_P D zclM (zwM ad cI cJ cZ cO q.1) H → va_D A (zwM ad cI cJ cZ cO q.1) → va_S A s.heap H locs → lv_has ls 3 [(0, .ref (ad 0)), (1, .int v1), (2, .int q.2)] → W p l e (zR 0 0) s m args below meth c H locs 0 0 Q (F0 m 5 ls []) := by
    intro q r
    refine ziter_W (Hd := fun q : zS × Int32 => ∀ (H : Heap) (locs : List Loc) (ls : Array Slot), va_P D zclM (zwM ad cI cJ cZ cO q.1) H → va_D A (zwM ad cI cJ cZ cO q.1) → va_S A s.heap H locs → lv_has ls 3 [(0, .ref (ad 0)), (1, .int v1), (2, .int q.2)] → W p l e (zR 0 0) s m args below meth c H locs 0 0 Q (F0 m 5 ls [])) (Ex := fun r : zS × Int32 => ∀ (H : Heap) (locs : List Loc) (ls : Array Slot), va_P D zclM (zwM ad cI cJ cZ cO r.1) H → va_D A (zwM ad cI cJ cZ cO r.1) → va_S A s.heap H locs → lv_has ls 3 [(0, .ref (ad 0)), (1, .int v1), (2, .int r.2)] → W p l e (zR 0 0) s m args below meth c H locs 0 0 Q (F0 m 41 ls [])) ?_ N q r
    rintro ⟨σ1, v2_1⟩ res hm hk H locs ls hP hD hS hl
    try dsimp only at hP hD hl
    replace hm : m_X9_lay_L5 N v1 σ1 v2_1 = some res := hm
    unfold m_X9_lay_L5 at hm
    refine lv_iload_n hx hb dX9_lay_5 rfl (lv_at hl 2 rfl) ?_
    refine lv_if_le (tgt := 41) hx hb dX9_lay_6 (by decide) (fun h2 => ?_) (fun h2 => ?_)
    · rw [if_pos h2] at hm
      cases hm
      exact hk _ _ _ hP hD hS (lv_sub hl [0, 1, 2] rfl)
    · rw [if_neg h2] at hm
      refine lv_aload_n hx hb dX9_lay_9 rfl (lv_at hl 0 rfl) ?_
      refine zget (v := .ref (ad 26)) hx hb hT zinX9 hown hK hP 0 rfl rfl 32 (by decide) zw654 rfl dX9_lay_10 ?_
      refine lv_iload_n hx hb dX9_lay_13 rfl (lv_at hl 2 rfl) ?_
      refine lv_iconst (v := (1 : Int32)) hx hb dX9_lay_14 (by decide) ?_
      refine lv_isub hx hb dX9_lay_15 ?_
      obtain ⟨b3, eb3, hm⟩ := Option.bind_eq_some_iff.mp hm
      refine ziald hx hb hK hP 26 0 rfl rfl eb3 dX9_lay_16 ?_
      refine lv_iload_n hx hb dX9_lay_17 rfl (lv_at hl 1 rfl) ?_
      refine lv_icmp_le (tgt := 41) hx hb dX9_lay_18 (by decide) (fun h4 => ?_) (fun h4 => ?_)
      · rw [if_pos h4] at hm
        cases hm
        exact hk _ _ _ hP hD hS (lv_sub hl [0, 1, 2] rfl)
      · rw [if_neg h4] at hm
        refine lv_aload_n hx hb dX9_lay_21 rfl (lv_at hl 0 rfl) ?_
        refine zget (v := .ref (ad 26)) hx hb hT zinX9 hown hK hP 0 rfl rfl 32 (by decide) zw654 rfl dX9_lay_22 ?_
        refine lv_iload_n hx hb dX9_lay_25 rfl (lv_at hl 2 rfl) ?_
        refine lv_aload_n hx hb dX9_lay_26 rfl (lv_at hl 0 rfl) ?_
        refine zget (v := .ref (ad 26)) hx hb hT zinX9 hown hK hP 0 rfl rfl 32 (by decide) zw654 rfl dX9_lay_27 ?_
        refine lv_iload_n hx hb dX9_lay_30 rfl (lv_at hl 2 rfl) ?_
        refine lv_iconst (v := (1 : Int32)) hx hb dX9_lay_31 (by decide) ?_
        refine lv_isub hx hb dX9_lay_32 ?_
        obtain ⟨b5, eb5, hm⟩ := Option.bind_eq_some_iff.mp hm
        refine ziald hx hb hK hP 26 0 rfl rfl eb5 dX9_lay_33 ?_
        obtain ⟨σ6, eσ6, hm⟩ := Option.bind_eq_some_iff.mp hm
        refine ziast (j := 24) hx hb hK hP hD hS 26 0 rfl rfl eσ6 (fun _ => rfl) dX9_lay_34 (fun H locs hP hD hS => ?_)
        refine lv_iinc (v := (v2_1 + (-1 : Int32))) (lv' := [(2, .int (v2_1 + (-1 : Int32))), (0, .ref (ad 0)), (1, .int v1)]) hx hb dX9_lay_35 hl (k := 2) rfl rfl (by decide) rfl (fun ls hl => ?_)
        refine lv_goto (tgt := 5) hx hb dX9_lay_38 (by decide) ?_
        cases hm
        exact hk _ _ _ hP hD hS (lv_sub hl [1, 2, 0] rfl)
  have h41 : ∀ (σ9 : zS) (v2_9 : Int32), m_X9_lay_41 N v1 σ9 v2_9 = some σ' → ∀ (H : Heap) (locs : List Loc) (ls : Array Slot), va_P D zclM (zwM ad cI cJ cZ cO σ9) H → va_D A (zwM ad cI cJ cZ cO σ9) → va_S A s.heap H locs → lv_has ls 3 [(0, .ref (ad 0)), (1, .int v1), (2, .int v2_9)] → W p l e (zR 0 0) s m args below meth c H locs 0 0 Q (F0 m 41 ls []) := by
    intro σ9 v2_9 hm H locs ls hP hD hS hl
    unfold m_X9_lay_41 at hm
    refine lv_aload_n hx hb dX9_lay_41 rfl (lv_at hl 0 rfl) ?_
    refine zget (v := .ref (ad 26)) hx hb hT zinX9 hown hK hP 0 rfl rfl 32 (by decide) zw654 rfl dX9_lay_42 ?_
    refine lv_iload_n hx hb dX9_lay_45 rfl (lv_at hl 2 rfl) ?_
    refine lv_iload_n hx hb dX9_lay_46 rfl (lv_at hl 1 rfl) ?_
    obtain ⟨σ10, eσ10, hm⟩ := Option.bind_eq_some_iff.mp hm
    refine ziast (j := 24) hx hb hK hP hD hS 26 0 rfl rfl eσ10 (fun _ => rfl) dX9_lay_47 (fun H locs hP hD hS => ?_)
    refine lv_aload_n hx hb dX9_lay_48 rfl (lv_at hl 0 rfl) ?_
    refine lv_dup hx hb dX9_lay_49 rfl ?_
    refine zget (v := .int (σ10.1 6)) hx hb hT zinX9 hown hK hP 0 rfl rfl 31 (by decide) zw653 rfl dX9_lay_50 ?_
    refine lv_iconst (v := (1 : Int32)) hx hb dX9_lay_53 (by decide) ?_
    refine lv_iadd hx hb dX9_lay_54 ?_
    obtain ⟨σ11, eσ11, hm⟩ := Option.bind_eq_some_iff.mp hm
    refine zput (j := 6) (ty := .int) hx hb hT zinX9 tyX9 tyX9_ok nmX9 hown hK hP hD hS 0 rfl rfl 31 (by decide) zw653 rfl (by decide +kernel) rfl rfl (Nat.le_of_ble_eq_true rfl) eσ11 rfl dX9_lay_55 (fun H locs hP hD hS => ?_)
    cases hm
    exact hret _ _ _ _ dX9_lay_58 hP hD hS
  unfold m_X9_lay at hm
  refine lv_aload_n hx hb dX9_lay_0 rfl (lv_at hl 0 rfl) ?_
  refine zget (v := .int (σ.1 6)) hx hb hT zinX9 hown hK hP 0 rfl rfl 31 (by decide) zw653 rfl dX9_lay_1 ?_
  refine lv_istore_n (lv' := [(2, .int (σ.1 6)), (0, .ref (ad 0)), (1, .int v1)]) hx hb dX9_lay_4 rfl hl (by decide) rfl (fun ls hl => ?_)
  obtain ⟨r7, e12, hm⟩ := Option.bind_eq_some_iff.mp hm
  refine hL5  _ r7 e12 ?_ _ _ _ hP hD hS (lv_sub hl [1, 2, 0] rfl)
  obtain ⟨σ8, v2_8⟩ := r7
  intro H locs ls hP hD hS hl
  try dsimp only at hP hD hl
  replace hm : m_X9_lay_41 N v1 σ8 v2_8 = some σ' := hm
  exact h41 σ8 v2_8 hm _ _ _ hP hD hS (lv_sub hl [0, 1, 2] rfl)
set_option maxHeartbeats 4000000 in
set_option maxRecDepth 100000 in
theorem k_X9_findRow {l : Launch} {D : va_G} {ad : Nat → Nat} {cI cJ cZ cO : ClassId} {t : Nat} {A : Nat → Prop} {N : Nat} {σ σ' : zS} {v1 : Int32} {v2 : Int32} {v3 : Int32} {r : Int32}  (hm : m_X9_findRow N σ v1 v2 v3 = some (r, σ')) : zCi l yX9_findRow cX9_findRow 7 (some .boolean) (zR 9 208) D zclM (zty cI cJ cZ cO) t A (zwM ad cI cJ cZ cO) [.ref (ad 0), .int v1, .int v2, .int v3] σ σ' r := by
  refine zMz (by decide) (Nat.le_of_ble_eq_true rfl) ?_
  intro p e s m args below meth c Q hx hb hml hown hT hK hZ hret hP hD hS ls hl
  replace hown : s.vm.findClass RX9 = some m.cls := hown
  replace hl : lv_has ls 7 [(0, .ref (ad 0)), (1, .int v1), (2, .int v2), (3, .int v3)] := hl
  have hL25 : ∀ (q : zS × Int32) (r : zS), ziter (fun q : zS × Int32 => m_X9_findRow_L25 N v1 v2 v3 q.1 q.2) N q = some r → (∀ (H : Heap) (locs : List Loc) (ls : Array Slot), va_P D zclM (zwM ad cI cJ cZ cO r) H → va_D A (zwM ad cI cJ cZ cO r) → va_S A s.heap H locs → lv_has ls 7 [] → W p l e (zR 9 208) s m args below meth c H locs 0 0 Q (F0 m 117 ls [])) → ∀ (H : Heap) (locs : List Loc) (ls : Array Slot), va_P D zclM (zwM ad cI cJ cZ cO q.1) H → va_D A (zwM ad cI cJ cZ cO q.1) → va_S A s.heap H locs → lv_has ls 7 [(0, .ref (ad 0)), (1, .int v1), (2, .int v2), (3, .int v3), (4, .int q.2)] → W p l e (zR 9 208) s m args below meth c H locs 0 0 Q (F0 m 25 ls []) := by
    intro q r
    refine ziter_W (Hd := fun q : zS × Int32 => ∀ (H : Heap) (locs : List Loc) (ls : Array Slot), va_P D zclM (zwM ad cI cJ cZ cO q.1) H → va_D A (zwM ad cI cJ cZ cO q.1) → va_S A s.heap H locs → lv_has ls 7 [(0, .ref (ad 0)), (1, .int v1), (2, .int v2), (3, .int v3), (4, .int q.2)] → W p l e (zR 9 208) s m args below meth c H locs 0 0 Q (F0 m 25 ls [])) (Ex := fun r : zS => ∀ (H : Heap) (locs : List Loc) (ls : Array Slot), va_P D zclM (zwM ad cI cJ cZ cO r) H → va_D A (zwM ad cI cJ cZ cO r) → va_S A s.heap H locs → lv_has ls 7 [] → W p l e (zR 9 208) s m args below meth c H locs 0 0 Q (F0 m 117 ls [])) ?_ N q r
    rintro ⟨σ4, v4_4⟩ res hm hk H locs ls hP hD hS hl
    try dsimp only at hP hD hl
    replace hm : m_X9_findRow_L25 N v1 v2 v3 σ4 v4_4 = some res := hm
    have hL62 : ∀ (v4_9 : Int32) (v5_9 : Int32), ∀ (q : zS × Int32) (r : zS), ziter (fun q : zS × Int32 => m_X9_findRow_L62 N v1 v2 v3 v4_9 v5_9 q.1 q.2) N q = some r → (∀ (H : Heap) (locs : List Loc) (ls : Array Slot), va_P D zclM (zwM ad cI cJ cZ cO r) H → va_D A (zwM ad cI cJ cZ cO r) → va_S A s.heap H locs → lv_has ls 7 [(0, .ref (ad 0)), (1, .int v1), (2, .int v2), (3, .int v3), (4, .int v4_9)] → W p l e (zR 9 208) s m args below meth c H locs 0 0 Q (F0 m 111 ls [])) → ∀ (H : Heap) (locs : List Loc) (ls : Array Slot), va_P D zclM (zwM ad cI cJ cZ cO q.1) H → va_D A (zwM ad cI cJ cZ cO q.1) → va_S A s.heap H locs → lv_has ls 7 [(0, .ref (ad 0)), (1, .int v1), (2, .int v2), (3, .int v3), (4, .int v4_9), (5, .int v5_9), (6, .int q.2)] → W p l e (zR 9 208) s m args below meth c H locs 0 0 Q (F0 m 62 ls []) := by
      intro v4_9 v5_9
      intro q r
      refine ziter_W (Hd := fun q : zS × Int32 => ∀ (H : Heap) (locs : List Loc) (ls : Array Slot), va_P D zclM (zwM ad cI cJ cZ cO q.1) H → va_D A (zwM ad cI cJ cZ cO q.1) → va_S A s.heap H locs → lv_has ls 7 [(0, .ref (ad 0)), (1, .int v1), (2, .int v2), (3, .int v3), (4, .int v4_9), (5, .int v5_9), (6, .int q.2)] → W p l e (zR 9 208) s m args below meth c H locs 0 0 Q (F0 m 62 ls [])) (Ex := fun r : zS => ∀ (H : Heap) (locs : List Loc) (ls : Array Slot), va_P D zclM (zwM ad cI cJ cZ cO r) H → va_D A (zwM ad cI cJ cZ cO r) → va_S A s.heap H locs → lv_has ls 7 [(0, .ref (ad 0)), (1, .int v1), (2, .int v2), (3, .int v3), (4, .int v4_9)] → W p l e (zR 9 208) s m args below meth c H locs 0 0 Q (F0 m 111 ls [])) ?_ N q r
      rintro ⟨σ9, v6_9⟩ res hm hk H locs ls hP hD hS hl
      try dsimp only at hP hD hl
      replace hm : m_X9_findRow_L62 N v1 v2 v3 v4_9 v5_9 σ9 v6_9 = some res := hm
      unfold m_X9_findRow_L62 at hm
      refine lv_iload hx hb dX9_findRow_62 (lv_at hl 6 rfl) ?_
      refine lv_aload_n hx hb dX9_findRow_64 rfl (lv_at hl 0 rfl) ?_
      refine zget (v := .ref (ad 1)) hx hb hT zinX9 hown hK hP 0 rfl rfl 1 (by decide) zw623 rfl dX9_findRow_65 ?_
      refine lv_bipush (v := (6 : Int32)) hx hb dX9_findRow_68 (by decide) ?_
      refine lv_iload hx hb dX9_findRow_70 (lv_at hl 4 rfl) ?_
      refine lv_imul hx hb dX9_findRow_72 ?_
      refine lv_iload_n hx hb dX9_findRow_73 rfl (lv_at hl 3 rfl) ?_
      refine lv_iadd hx hb dX9_findRow_74 ?_
      obtain ⟨b10, eb10, hm⟩ := Option.bind_eq_some_iff.mp hm
      refine ziald hx hb hK hP 1 0 rfl rfl eb10 dX9_findRow_75 ?_
      refine lv_icmp_ge (tgt := 111) hx hb dX9_findRow_76 (by decide) (fun h11 => ?_) (fun h11 => ?_)
      · rw [if_pos h11] at hm
        cases hm
        exact hk _ _ _ hP hD hS (lv_sub hl [0, 1, 2, 3, 4] rfl)
      · rw [if_neg h11] at hm
        refine lv_iload hx hb dX9_findRow_79 (lv_at hl 5 rfl) ?_
        refine lv_if_eq (tgt := 111) hx hb dX9_findRow_81 (by decide) (fun h12 => ?_) (fun h12 => ?_)
        · rw [if_pos h12] at hm
          cases hm
          exact hk _ _ _ hP hD hS (lv_sub hl [0, 1, 2, 3, 4] rfl)
        · rw [if_neg h12] at hm
          refine lv_aload_n hx hb dX9_findRow_84 rfl (lv_at hl 0 rfl) ?_
          refine lv_aload_n hx hb dX9_findRow_85 rfl (lv_at hl 0 rfl) ?_
          refine zget (v := .ref (ad 2)) hx hb hT zinX9 hown hK hP 0 rfl rfl 2 (by decide) zw624 rfl dX9_findRow_86 ?_
          refine lv_iconst (v := (3 : Int32)) hx hb dX9_findRow_89 (by decide) ?_
          refine lv_bipush (v := (6 : Int32)) hx hb dX9_findRow_90 (by decide) ?_
          refine lv_iload hx hb dX9_findRow_92 (lv_at hl 4 rfl) ?_
          refine lv_imul hx hb dX9_findRow_94 ?_
          refine lv_iload_n hx hb dX9_findRow_95 rfl (lv_at hl 3 rfl) ?_
          refine lv_iadd hx hb dX9_findRow_96 ?_
          refine lv_imul hx hb dX9_findRow_97 ?_
          refine lv_iload hx hb dX9_findRow_98 (lv_at hl 6 rfl) ?_
          refine lv_iadd hx hb dX9_findRow_100 ?_
          obtain ⟨b13, eb13, hm⟩ := Option.bind_eq_some_iff.mp hm
          refine ziald hx hb hK hP 2 0 rfl rfl eb13 dX9_findRow_101 ?_
          obtain ⟨σ14, eσ14, hm⟩ := Option.bind_eq_some_iff.mp hm
          refine zVv (rest := []) [.int b13] hx hb hml hl.1 hown hT (k_X9_lay eσ14) zkX9_lay zw909 ⟨by decide, by decide⟩ rfl rfl hK hZ hP hD hS 0 rfl rfl rfl rfl (Nat.le_of_ble_eq_true rfl) ⟨Nat.zero_le _, Nat.zero_le _⟩ dX9_findRow_102 (fun H locs hP hD hS => ?_)
          refine lv_iinc (v := (v6_9 + (1 : Int32))) (lv' := [(6, .int (v6_9 + (1 : Int32))), (0, .ref (ad 0)), (1, .int v1), (2, .int v2), (3, .int v3), (4, .int v4_9), (5, .int v5_9)]) hx hb dX9_findRow_105 hl (k := 6) rfl rfl (by decide) rfl (fun ls hl => ?_)
          refine lv_goto (tgt := 62) hx hb dX9_findRow_108 (by decide) ?_
          cases hm
          exact hk _ _ _ hP hD hS (lv_sub hl [1, 2, 3, 4, 5, 6, 0] rfl)
    have h111 : ∀ (σ17 : zS) (v4_17 : Int32), m_X9_findRow_111_in25 N v1 v2 v3 σ17 v4_17 = some res → ∀ (H : Heap) (locs : List Loc) (ls : Array Slot), va_P D zclM (zwM ad cI cJ cZ cO σ17) H → va_D A (zwM ad cI cJ cZ cO σ17) → va_S A s.heap H locs → lv_has ls 7 [(0, .ref (ad 0)), (1, .int v1), (2, .int v2), (3, .int v3), (4, .int v4_17)] → W p l e (zR 9 208) s m args below meth c H locs 0 0 Q (F0 m 111 ls []) := by
      intro σ17 v4_17 hm H locs ls hP hD hS hl
      unfold m_X9_findRow_111_in25 at hm
      refine lv_iinc (v := (v4_17 + (1 : Int32))) (lv' := [(4, .int (v4_17 + (1 : Int32))), (0, .ref (ad 0)), (1, .int v1), (2, .int v2), (3, .int v3)]) hx hb dX9_findRow_111 hl (k := 4) rfl rfl (by decide) rfl (fun ls hl => ?_)
      refine lv_goto (tgt := 25) hx hb dX9_findRow_114 (by decide) ?_
      cases hm
      exact hk _ _ _ hP hD hS (lv_sub hl [1, 2, 3, 4, 0] rfl)
    have h57 : ∀ (σ8 : zS) (v4_8 : Int32) (x0_8 : Int32), m_X9_findRow_57_in25 N v1 v2 v3 σ8 v4_8 x0_8 = some res → ∀ (H : Heap) (locs : List Loc) (ls : Array Slot), va_P D zclM (zwM ad cI cJ cZ cO σ8) H → va_D A (zwM ad cI cJ cZ cO σ8) → va_S A s.heap H locs → lv_has ls 7 [(0, .ref (ad 0)), (1, .int v1), (2, .int v2), (3, .int v3), (4, .int v4_8)] → W p l e (zR 9 208) s m args below meth c H locs 0 0 Q (F0 m 57 ls [.int x0_8]) := by
      intro σ8 v4_8 x0_8 hm H locs ls hP hD hS hl
      unfold m_X9_findRow_57_in25 at hm
      refine lv_istore (lv' := [(5, .int x0_8), (0, .ref (ad 0)), (1, .int v1), (2, .int v2), (3, .int v3), (4, .int v4_8)]) hx hb dX9_findRow_57 hl (by decide) rfl (fun ls hl => ?_)
      refine lv_iconst (v := (0 : Int32)) hx hb dX9_findRow_59 (by decide) ?_
      refine lv_istore (lv' := [(6, .int (0 : Int32)), (5, .int x0_8), (0, .ref (ad 0)), (1, .int v1), (2, .int v2), (3, .int v3), (4, .int v4_8)]) hx hb dX9_findRow_60 hl (by decide) rfl (fun ls hl => ?_)
      obtain ⟨σ16, e18, hm⟩ := Option.bind_eq_some_iff.mp hm
      refine hL62 v4_8 x0_8 _ σ16 e18 ?_ _ _ _ hP hD hS (lv_sub hl [2, 3, 4, 5, 6, 1, 0] rfl)
      intro H locs ls hP hD hS hl
      try dsimp only at hP hD hl
      replace hm : m_X9_findRow_111_in25 N v1 v2 v3 σ16 v4_8 = some res := hm
      exact h111 σ16 v4_8 hm _ _ _ hP hD hS (lv_sub hl [0, 1, 2, 3, 4] rfl)
    unfold m_X9_findRow_L25 at hm
    refine lv_iload hx hb dX9_findRow_25 (lv_at hl 4 rfl) ?_
    refine lv_aload_n hx hb dX9_findRow_27 rfl (lv_at hl 0 rfl) ?_
    refine zget (v := .int (σ4.1 0)) hx hb hT zinX9 hown hK hP 0 rfl rfl 0 (by decide) zw622 rfl dX9_findRow_28 ?_
    refine lv_icmp_ge (tgt := 117) hx hb dX9_findRow_31 (by decide) (fun h5 => ?_) (fun h5 => ?_)
    · rw [if_pos h5] at hm
      cases hm
      exact hk _ _ _ hP hD hS (lv_sub hl [] rfl)
    · rw [if_neg h5] at hm
      refine lv_iload_n hx hb dX9_findRow_34 rfl (lv_at hl 2 rfl) ?_
      refine lv_ldc hx hb hown (hT _ zw764) dX9_findRow_35 ?_
      refine lv_icmp_ne (tgt := 49) hx hb dX9_findRow_37 (by decide) (fun h6 => ?_) (fun h6 => ?_)
      · rw [if_neg h6] at hm
        refine lv_aload_n hx hb dX9_findRow_49 rfl (lv_at hl 0 rfl) ?_
        refine lv_iload_n hx hb dX9_findRow_50 rfl (lv_at hl 1 rfl) ?_
        refine lv_iload_n hx hb dX9_findRow_51 rfl (lv_at hl 2 rfl) ?_
        refine lv_iload hx hb dX9_findRow_52 (lv_at hl 4 rfl) ?_
        obtain ⟨b7, eb7, hm⟩ := Option.bind_eq_some_iff.mp hm
        refine zVi (rest := []) [.int v1, .int v2, .int v4_4] hx hb hml hl.1 hown hT (k_X9_isIn eb7) zkX9_isIn zw852 ⟨by decide, by decide⟩ rfl rfl hK hZ hP hD hS 0 rfl rfl rfl rfl (Nat.le_of_ble_eq_true rfl) ⟨Nat.zero_le _, Nat.zero_le _⟩ dX9_findRow_54 (fun H locs hP hD hS => ?_)
        exact h57 σ4 v4_4 b7 hm _ _ _ hP hD hS (lv_sub hl [0, 1, 2, 3, 4] rfl)
      · rw [if_pos h6] at hm
        refine lv_aload_n hx hb dX9_findRow_40 rfl (lv_at hl 0 rfl) ?_
        refine lv_iload hx hb dX9_findRow_41 (lv_at hl 4 rfl) ?_
        obtain ⟨b19, eb19, hm⟩ := Option.bind_eq_some_iff.mp hm
        refine zVi (rest := []) [.int v4_4] hx hb hml hl.1 hown hT (k_X9_atHand eb19) zkX9_atHand zw840 ⟨by decide, by decide⟩ rfl rfl hK hZ hP hD hS 0 rfl rfl rfl rfl (Nat.le_of_ble_eq_true rfl) ⟨Nat.zero_le _, Nat.zero_le _⟩ dX9_findRow_43 (fun H locs hP hD hS => ?_)
        refine lv_goto (tgt := 57) hx hb dX9_findRow_46 (by decide) ?_
        exact h57 σ4 v4_4 b19 hm _ _ _ hP hD hS (lv_sub hl [0, 1, 2, 3, 4] rfl)
  have h117 : ∀ (σ22 : zS), m_X9_findRow_117 N v1 v2 v3 σ22 = some (r, σ') → ∀ (H : Heap) (locs : List Loc) (ls : Array Slot), va_P D zclM (zwM ad cI cJ cZ cO σ22) H → va_D A (zwM ad cI cJ cZ cO σ22) → va_S A s.heap H locs → lv_has ls 7 [] → W p l e (zR 9 208) s m args below meth c H locs 0 0 Q (F0 m 117 ls []) := by
    intro σ22 hm H locs ls hP hD hS hl
    unfold m_X9_findRow_117 at hm
    refine lv_iconst (v := (1 : Int32)) hx hb dX9_findRow_117 (by decide) ?_
    cases hm
    exact hret _ _ _ _ (by decide) dX9_findRow_118 hP hD hS
  have h17 : ∀ (σ2 : zS), m_X9_findRow_17 N v1 v2 v3 σ2 = some (r, σ') → ∀ (H : Heap) (locs : List Loc) (ls : Array Slot), va_P D zclM (zwM ad cI cJ cZ cO σ2) H → va_D A (zwM ad cI cJ cZ cO σ2) → va_S A s.heap H locs → lv_has ls 7 [(0, .ref (ad 0)), (1, .int v1), (2, .int v2), (3, .int v3)] → W p l e (zR 9 208) s m args below meth c H locs 0 0 Q (F0 m 17 ls []) := by
    intro σ2 hm H locs ls hP hD hS hl
    unfold m_X9_findRow_17 at hm
    refine lv_aload_n hx hb dX9_findRow_17 rfl (lv_at hl 0 rfl) ?_
    refine lv_iconst (v := (0 : Int32)) hx hb dX9_findRow_18 (by decide) ?_
    obtain ⟨σ3, eσ3, hm⟩ := Option.bind_eq_some_iff.mp hm
    refine zput (j := 6) (ty := .int) hx hb hT zinX9 tyX9 tyX9_ok nmX9 hown hK hP hD hS 0 rfl rfl 31 (by decide) zw653 rfl (by decide +kernel) rfl rfl (Nat.le_of_ble_eq_true rfl) eσ3 rfl dX9_findRow_19 (fun H locs hP hD hS => ?_)
    refine lv_iconst (v := (0 : Int32)) hx hb dX9_findRow_22 (by decide) ?_
    refine lv_istore (lv' := [(4, .int (0 : Int32)), (0, .ref (ad 0)), (1, .int v1), (2, .int v2), (3, .int v3)]) hx hb dX9_findRow_23 hl (by decide) rfl (fun ls hl => ?_)
    obtain ⟨σ21, e23, hm⟩ := Option.bind_eq_some_iff.mp hm
    refine hL25  _ σ21 e23 ?_ _ _ _ hP hD hS (lv_sub hl [1, 2, 3, 4, 0] rfl)
    intro H locs ls hP hD hS hl
    try dsimp only at hP hD hl
    replace hm : m_X9_findRow_117 N v1 v2 v3 σ21 = some (r, σ') := hm
    exact h117 σ21 hm _ _ _ hP hD hS (lv_sub hl [] rfl)
  unfold m_X9_findRow at hm
  refine lv_iload_n hx hb dX9_findRow_0 rfl (lv_at hl 2 rfl) ?_
  refine lv_ldc hx hb hown (hT _ zw764) dX9_findRow_1 ?_
  refine lv_icmp_eq (tgt := 17) hx hb dX9_findRow_3 (by decide) (fun h1 => ?_) (fun h1 => ?_)
  · rw [if_pos h1] at hm
    exact h17 σ hm _ _ _ hP hD hS (lv_sub hl [0, 1, 2, 3] rfl)
  · rw [if_neg h1] at hm
    refine lv_aload_n hx hb dX9_findRow_6 rfl (lv_at hl 0 rfl) ?_
    refine lv_iload_n hx hb dX9_findRow_7 rfl (lv_at hl 1 rfl) ?_
    refine lv_iload_n hx hb dX9_findRow_8 rfl (lv_at hl 2 rfl) ?_
    obtain ⟨⟨b24, σ26⟩, eb24, hm⟩ := Option.bind_eq_some_iff.mp hm
    try dsimp only at hm
    refine zVi (rest := []) [.int v1, .int v2] hx hb hml hl.1 hown hT (k_X9_isGroup eb24) zkX9_isGroup zw876 ⟨by decide, by decide⟩ rfl rfl hK hZ hP hD hS 0 rfl rfl rfl rfl (Nat.le_of_ble_eq_true rfl) ⟨Nat.zero_le _, Nat.zero_le _⟩ dX9_findRow_9 (fun H locs hP hD hS => ?_)
    refine lv_if_ne (tgt := 17) hx hb dX9_findRow_12 (by decide) (fun h27 => ?_) (fun h27 => ?_)
    · rw [if_neg h27] at hm
      exact h17 σ26 hm _ _ _ hP hD hS (lv_sub hl [0, 1, 2, 3] rfl)
    · rw [if_pos h27] at hm
      refine lv_iconst (v := (0 : Int32)) hx hb dX9_findRow_15 (by decide) ?_
      cases hm
      exact hret _ _ _ _ (by decide) dX9_findRow_16 hP hD hS
set_option maxHeartbeats 4000000 in
set_option maxRecDepth 100000 in
theorem k_X9_figure {l : Launch} {D : va_G} {ad : Nat → Nat} {cI cJ cZ cO : ClassId} {t : Nat} {A : Nat → Prop} {N : Nat} {σ σ' : zS} {v1 : Int32} {v2 : Int32} {v3 : Int32} {v4 : Int32} {r : Int64}  (hm : m_X9_figure N σ v1 v2 v3 v4 = some (r, σ')) : zCl l yX9_figure cX9_figure 9 (some .long) (zR 10 234) D zclM (zty cI cJ cZ cO) t A (zwM ad cI cJ cZ cO) [.ref (ad 0), .int v1, .int v2, .int v3, .int v4] σ σ' r := by
  refine zMl (by decide) (Nat.le_of_ble_eq_true rfl) ?_
  intro p e s m args below meth c Q hx hb hml hown hT hK hZ hret hP hD hS ls hl
  replace hown : s.vm.findClass RX9 = some m.cls := hown
  replace hl : lv_has ls 9 [(0, .ref (ad 0)), (1, .int v1), (2, .int v2), (3, .int v3), (4, .int v4)] := hl
  have hL40 : ∀ (σ9 : zS), ∀ (q : Int64 × Int32 × Int32) (r : Int64 × Int32), ziter (fun q : Int64 × Int32 × Int32 => m_X9_figure_L40 N v1 v2 v3 v4 σ9 q.1 q.2.1 q.2.2) N q = some r → (∀ (H : Heap) (locs : List Loc) (ls : Array Slot), va_P D zclM (zwM ad cI cJ cZ cO σ9) H → va_D A (zwM ad cI cJ cZ cO σ9) → va_S A s.heap H locs → lv_has ls 9 [(0, .ref (ad 0)), (4, .int v4), (5, .long r.1), (7, .int r.2)] → W p l e (zR 10 234) s m args below meth c H locs 0 0 Q (F0 m 102 ls [])) → ∀ (H : Heap) (locs : List Loc) (ls : Array Slot), va_P D zclM (zwM ad cI cJ cZ cO σ9) H → va_D A (zwM ad cI cJ cZ cO σ9) → va_S A s.heap H locs → lv_has ls 9 [(0, .ref (ad 0)), (4, .int v4), (5, .long q.1), (7, .int q.2.1), (8, .int q.2.2)] → W p l e (zR 10 234) s m args below meth c H locs 0 0 Q (F0 m 40 ls []) := by
    intro σ9
    intro q r
    refine ziter_W (Hd := fun q : Int64 × Int32 × Int32 => ∀ (H : Heap) (locs : List Loc) (ls : Array Slot), va_P D zclM (zwM ad cI cJ cZ cO σ9) H → va_D A (zwM ad cI cJ cZ cO σ9) → va_S A s.heap H locs → lv_has ls 9 [(0, .ref (ad 0)), (4, .int v4), (5, .long q.1), (7, .int q.2.1), (8, .int q.2.2)] → W p l e (zR 10 234) s m args below meth c H locs 0 0 Q (F0 m 40 ls [])) (Ex := fun r : Int64 × Int32 => ∀ (H : Heap) (locs : List Loc) (ls : Array Slot), va_P D zclM (zwM ad cI cJ cZ cO σ9) H → va_D A (zwM ad cI cJ cZ cO σ9) → va_S A s.heap H locs → lv_has ls 9 [(0, .ref (ad 0)), (4, .int v4), (5, .long r.1), (7, .int r.2)] → W p l e (zR 10 234) s m args below meth c H locs 0 0 Q (F0 m 102 ls [])) ?_ N q r
    rintro ⟨v5_9, v7_9, v8_9⟩ res hm hk H locs ls hP hD hS hl
    try dsimp only at hP hD hl
    replace hm : m_X9_figure_L40 N v1 v2 v3 v4 σ9 v5_9 v7_9 v8_9 = some res := hm
    have h93 : ∀ (v5_14 : Int64) (v8_14 : Int32) (x0_14 : Int32) (x1_14 : Int32), m_X9_figure_93_in40 N v1 v2 v3 v4 σ9 v5_14 v8_14 x0_14 x1_14 = some res → ∀ (H : Heap) (locs : List Loc) (ls : Array Slot), va_P D zclM (zwM ad cI cJ cZ cO σ9) H → va_D A (zwM ad cI cJ cZ cO σ9) → va_S A s.heap H locs → lv_has ls 9 [(0, .ref (ad 0)), (4, .int v4), (5, .long v5_14), (8, .int v8_14)] → W p l e (zR 10 234) s m args below meth c H locs 0 0 Q (F0 m 93 ls [.int x1_14, .int x0_14]) := by
      intro v5_14 v8_14 x0_14 x1_14 hm H locs ls hP hD hS hl
      unfold m_X9_figure_93_in40 at hm
      refine lv_iadd hx hb dX9_figure_93 ?_
      refine lv_istore (lv' := [(7, .int (x0_14 + x1_14)), (0, .ref (ad 0)), (4, .int v4), (5, .long v5_14), (8, .int v8_14)]) hx hb dX9_figure_94 hl (by decide) rfl (fun ls hl => ?_)
      refine lv_iinc (v := (v8_14 + (1 : Int32))) (lv' := [(8, .int (v8_14 + (1 : Int32))), (7, .int (x0_14 + x1_14)), (0, .ref (ad 0)), (4, .int v4), (5, .long v5_14)]) hx hb dX9_figure_96 hl (k := 4) rfl rfl (by decide) rfl (fun ls hl => ?_)
      refine lv_goto (tgt := 40) hx hb dX9_figure_99 (by decide) ?_
      cases hm
      exact hk _ _ _ hP hD hS (lv_sub hl [2, 3, 4, 1, 0] rfl)
    have h88 : ∀ (v5_13 : Int64) (v8_13 : Int32) (x0_13 : Int32), m_X9_figure_88_in40 N v1 v2 v3 v4 σ9 v5_13 v8_13 x0_13 = some res → ∀ (H : Heap) (locs : List Loc) (ls : Array Slot), va_P D zclM (zwM ad cI cJ cZ cO σ9) H → va_D A (zwM ad cI cJ cZ cO σ9) → va_S A s.heap H locs → lv_has ls 9 [(0, .ref (ad 0)), (4, .int v4), (5, .long v5_13), (8, .int v8_13)] → W p l e (zR 10 234) s m args below meth c H locs 0 0 Q (F0 m 88 ls [.int x0_13]) := by
      intro v5_13 v8_13 x0_13 hm H locs ls hP hD hS hl
      unfold m_X9_figure_88_in40 at hm
      refine lv_iconst (v := (1 : Int32)) hx hb dX9_figure_88 (by decide) ?_
      refine lv_goto (tgt := 93) hx hb dX9_figure_89 (by decide) ?_
      exact h93 v5_13 v8_13 x0_13 (1 : Int32) hm _ _ _ hP hD hS (lv_sub hl [0, 1, 2, 3] rfl)
    unfold m_X9_figure_L40 at hm
    refine lv_iload hx hb dX9_figure_40 (lv_at hl 4 rfl) ?_
    refine lv_aload_n hx hb dX9_figure_42 rfl (lv_at hl 0 rfl) ?_
    refine zget (v := .int (σ9.1 6)) hx hb hT zinX9 hown hK hP 0 rfl rfl 31 (by decide) zw653 rfl dX9_figure_43 ?_
    refine lv_icmp_ge (tgt := 102) hx hb dX9_figure_46 (by decide) (fun h10 => ?_) (fun h10 => ?_)
    · rw [if_pos h10] at hm
      cases hm
      exact hk _ _ _ hP hD hS (lv_sub hl [0, 1, 2, 3] rfl)
    · rw [if_neg h10] at hm
      refine lv_lload hx hb dX9_figure_49 (lv_at hl 2 rfl) ?_
      refine lv_aload_n hx hb dX9_figure_51 rfl (lv_at hl 0 rfl) ?_
      refine zget (v := .ref (ad 26)) hx hb hT zinX9 hown hK hP 0 rfl rfl 32 (by decide) zw654 rfl dX9_figure_52 ?_
      refine lv_iload hx hb dX9_figure_55 (lv_at hl 4 rfl) ?_
      obtain ⟨b11, eb11, hm⟩ := Option.bind_eq_some_iff.mp hm
      refine ziald hx hb hK hP 26 0 rfl rfl eb11 dX9_figure_57 ?_
      refine lv_i2l (v := b11.toInt64) hx hb dX9_figure_58 rfl ?_
      refine lv_ladd hx hb dX9_figure_59 ?_
      refine lv_lstore (lv' := [(5, .long (v5_9 + b11.toInt64)), (0, .ref (ad 0)), (4, .int v4), (7, .int v7_9), (8, .int v8_9)]) hx hb dX9_figure_60 hl (by decide) rfl (fun ls hl => ?_)
      refine lv_iload hx hb dX9_figure_62 (lv_at hl 3 rfl) ?_
      refine lv_iload hx hb dX9_figure_64 (lv_at hl 4 rfl) ?_
      refine lv_if_eq (tgt := 88) hx hb dX9_figure_66 (by decide) (fun h12 => ?_) (fun h12 => ?_)
      · rw [if_pos h12] at hm
        exact h88 (v5_9 + b11.toInt64) v8_9 v7_9 hm _ _ _ hP hD hS (lv_sub hl [1, 2, 0, 4] rfl)
      · rw [if_neg h12] at hm
        refine lv_aload_n hx hb dX9_figure_69 rfl (lv_at hl 1 rfl) ?_
        refine zget (v := .ref (ad 26)) hx hb hT zinX9 hown hK hP 0 rfl rfl 32 (by decide) zw654 rfl dX9_figure_70 ?_
        refine lv_iload hx hb dX9_figure_73 (lv_at hl 4 rfl) ?_
        obtain ⟨b15, eb15, hm⟩ := Option.bind_eq_some_iff.mp hm
        refine ziald hx hb hK hP 26 0 rfl rfl eb15 dX9_figure_75 ?_
        refine lv_aload_n hx hb dX9_figure_76 rfl (lv_at hl 1 rfl) ?_
        refine zget (v := .ref (ad 26)) hx hb hT zinX9 hown hK hP 0 rfl rfl 32 (by decide) zw654 rfl dX9_figure_77 ?_
        refine lv_iload hx hb dX9_figure_80 (lv_at hl 4 rfl) ?_
        refine lv_iconst (v := (1 : Int32)) hx hb dX9_figure_82 (by decide) ?_
        refine lv_isub hx hb dX9_figure_83 ?_
        obtain ⟨b16, eb16, hm⟩ := Option.bind_eq_some_iff.mp hm
        refine ziald hx hb hK hP 26 0 rfl rfl eb16 dX9_figure_84 ?_
        refine lv_icmp_eq (tgt := 92) hx hb dX9_figure_85 (by decide) (fun h17 => ?_) (fun h17 => ?_)
        · rw [if_pos h17] at hm
          refine lv_iconst (v := (0 : Int32)) hx hb dX9_figure_92 (by decide) ?_
          exact h93 (v5_9 + b11.toInt64) v8_9 v7_9 (0 : Int32) hm _ _ _ hP hD hS (lv_sub hl [1, 2, 0, 4] rfl)
        · rw [if_neg h17] at hm
          exact h88 (v5_9 + b11.toInt64) v8_9 v7_9 hm _ _ _ hP hD hS (lv_sub hl [1, 2, 0, 4] rfl)
  have h102 : ∀ (σ20 : zS) (v5_20 : Int64) (v7_20 : Int32), m_X9_figure_102 N v1 v2 v3 v4 σ20 v5_20 v7_20 = some (r, σ') → ∀ (H : Heap) (locs : List Loc) (ls : Array Slot), va_P D zclM (zwM ad cI cJ cZ cO σ20) H → va_D A (zwM ad cI cJ cZ cO σ20) → va_S A s.heap H locs → lv_has ls 9 [(0, .ref (ad 0)), (4, .int v4), (5, .long v5_20), (7, .int v7_20)] → W p l e (zR 10 234) s m args below meth c H locs 0 0 Q (F0 m 102 ls []) := by
    intro σ20 v5_20 v7_20 hm H locs ls hP hD hS hl
    unfold m_X9_figure_102 at hm
    refine lv_iload hx hb dX9_figure_102 (lv_at hl 1 rfl) ?_
    refine lv_if_ne (tgt := 113) hx hb dX9_figure_104 (by decide) (fun h21 => ?_) (fun h21 => ?_)
    · rw [if_neg h21] at hm
      refine lv_iload hx hb dX9_figure_113 (lv_at hl 1 rfl) ?_
      refine lv_iconst (v := (1 : Int32)) hx hb dX9_figure_115 (by decide) ?_
      refine lv_icmp_ne (tgt := 122) hx hb dX9_figure_116 (by decide) (fun h22 => ?_) (fun h22 => ?_)
      · rw [if_neg h22] at hm
        refine lv_iload hx hb dX9_figure_122 (lv_at hl 1 rfl) ?_
        refine lv_iconst (v := (4 : Int32)) hx hb dX9_figure_124 (by decide) ?_
        refine lv_icmp_ne (tgt := 134) hx hb dX9_figure_125 (by decide) (fun h23 => ?_) (fun h23 => ?_)
        · rw [if_neg h23] at hm
          refine lv_aload_n hx hb dX9_figure_134 rfl (lv_at hl 0 rfl) ?_
          refine zget (v := .int (σ20.1 6)) hx hb hT zinX9 hown hK hP 0 rfl rfl 31 (by decide) zw653 rfl dX9_figure_135 ?_
          refine lv_if_ne (tgt := 147) hx hb dX9_figure_138 (by decide) (fun h24 => ?_) (fun h24 => ?_)
          · rw [if_neg h24] at hm
            refine lv_iload hx hb dX9_figure_147 (lv_at hl 1 rfl) ?_
            refine lv_iconst (v := (2 : Int32)) hx hb dX9_figure_149 (by decide) ?_
            refine lv_icmp_ne (tgt := 163) hx hb dX9_figure_150 (by decide) (fun h25 => ?_) (fun h25 => ?_)
            · rw [if_neg h25] at hm
              refine lv_aload_n hx hb dX9_figure_163 rfl (lv_at hl 0 rfl) ?_
              refine zget (v := .ref (ad 26)) hx hb hT zinX9 hown hK hP 0 rfl rfl 32 (by decide) zw654 rfl dX9_figure_164 ?_
              refine lv_aload_n hx hb dX9_figure_167 rfl (lv_at hl 0 rfl) ?_
              refine zget (v := .int (σ20.1 6)) hx hb hT zinX9 hown hK hP 0 rfl rfl 31 (by decide) zw653 rfl dX9_figure_168 ?_
              refine lv_iconst (v := (1 : Int32)) hx hb dX9_figure_171 (by decide) ?_
              refine lv_isub hx hb dX9_figure_172 ?_
              obtain ⟨b26, eb26, hm⟩ := Option.bind_eq_some_iff.mp hm
              refine ziald hx hb hK hP 26 0 rfl rfl eb26 dX9_figure_173 ?_
              refine lv_i2l (v := b26.toInt64) hx hb dX9_figure_174 rfl ?_
              cases hm
              exact hret _ _ _ _ dX9_figure_175 hP hD hS
            · rw [if_pos h25] at hm
              refine lv_aload_n hx hb dX9_figure_153 rfl (lv_at hl 0 rfl) ?_
              refine zget (v := .ref (ad 26)) hx hb hT zinX9 hown hK hP 0 rfl rfl 32 (by decide) zw654 rfl dX9_figure_154 ?_
              refine lv_iconst (v := (0 : Int32)) hx hb dX9_figure_157 (by decide) ?_
              obtain ⟨b27, eb27, hm⟩ := Option.bind_eq_some_iff.mp hm
              refine ziald hx hb hK hP 26 0 rfl rfl eb27 dX9_figure_158 ?_
              refine lv_i2l (v := b27.toInt64) hx hb dX9_figure_159 rfl ?_
              refine lv_goto (tgt := 175) hx hb dX9_figure_160 (by decide) ?_
              cases hm
              exact hret _ _ _ _ dX9_figure_175 hP hD hS
          · rw [if_pos h24] at hm
            refine lv_ldc2 hx hb hown (hT _ zw914) dX9_figure_141 ?_
            refine lv_goto (tgt := 175) hx hb dX9_figure_144 (by decide) ?_
            cases hm
            exact hret _ _ _ _ dX9_figure_175 hP hD hS
        · rw [if_pos h23] at hm
          refine lv_iload hx hb dX9_figure_128 (lv_at hl 3 rfl) ?_
          refine lv_i2l (v := v7_20.toInt64) hx hb dX9_figure_130 rfl ?_
          refine lv_goto (tgt := 175) hx hb dX9_figure_131 (by decide) ?_
          cases hm
          exact hret _ _ _ _ dX9_figure_175 hP hD hS
      · rw [if_pos h22] at hm
        refine lv_lload hx hb dX9_figure_119 (lv_at hl 2 rfl) ?_
        cases hm
        exact hret _ _ _ _ dX9_figure_121 hP hD hS
    · rw [if_pos h21] at hm
      refine lv_aload_n hx hb dX9_figure_107 rfl (lv_at hl 0 rfl) ?_
      refine zget (v := .int (σ20.1 6)) hx hb hT zinX9 hown hK hP 0 rfl rfl 31 (by decide) zw653 rfl dX9_figure_108 ?_
      refine lv_i2l (v := (σ20.1 6).toInt64) hx hb dX9_figure_111 rfl ?_
      cases hm
      exact hret _ _ _ _ dX9_figure_112 hP hD hS
  unfold m_X9_figure at hm
  refine lv_iload_n hx hb dX9_figure_0 rfl (lv_at hl 3 rfl) ?_
  obtain ⟨b1, eb1, hm⟩ := Option.bind_eq_some_iff.mp hm
  refine zSi (rest := []) [.int v3] hx hb hml hl.1 hown hT (k_X9_isColumn eb1) zkX9_isColumn zw742 ⟨by decide, by decide⟩ rfl rfl hK hZ hP hD hS rfl rfl (Nat.le_of_ble_eq_true rfl) ⟨Nat.zero_le _, Nat.zero_le _⟩ dX9_figure_1 (fun H locs hP hD hS => ?_)
  refine lv_if_eq (tgt := 27) hx hb dX9_figure_4 (by decide) (fun h2 => ?_) (fun h2 => ?_)
  · rw [if_pos h2] at hm
    refine lv_ldc2 hx hb hown (hT _ zw913) dX9_figure_27 ?_
    cases hm
    exact hret _ _ _ _ dX9_figure_30 hP hD hS
  · rw [if_neg h2] at hm
    refine lv_iload hx hb dX9_figure_7 (lv_at hl 4 rfl) ?_
    refine lv_iconst (v := (0 : Int32)) hx hb dX9_figure_9 (by decide) ?_
    refine lv_iconst (v := (4 : Int32)) hx hb dX9_figure_10 (by decide) ?_
    obtain ⟨b3, eb3, hm⟩ := Option.bind_eq_some_iff.mp hm
    refine zSi (rest := []) [.int v4, .int (0 : Int32), .int (4 : Int32)] hx hb hml hl.1 hown hT (k_X9_within eb3) zkX9_within zw739 ⟨by decide, by decide⟩ rfl rfl hK hZ hP hD hS rfl rfl (Nat.le_of_ble_eq_true rfl) ⟨Nat.zero_le _, Nat.zero_le _⟩ dX9_figure_11 (fun H locs hP hD hS => ?_)
    refine lv_if_eq (tgt := 27) hx hb dX9_figure_14 (by decide) (fun h4 => ?_) (fun h4 => ?_)
    · rw [if_pos h4] at hm
      refine lv_ldc2 hx hb hown (hT _ zw913) dX9_figure_27 ?_
      cases hm
      exact hret _ _ _ _ dX9_figure_30 hP hD hS
    · rw [if_neg h4] at hm
      refine lv_aload_n hx hb dX9_figure_17 rfl (lv_at hl 0 rfl) ?_
      refine lv_iload_n hx hb dX9_figure_18 rfl (lv_at hl 1 rfl) ?_
      refine lv_iload_n hx hb dX9_figure_19 rfl (lv_at hl 2 rfl) ?_
      refine lv_iload_n hx hb dX9_figure_20 rfl (lv_at hl 3 rfl) ?_
      obtain ⟨⟨b5, σ7⟩, eb5, hm⟩ := Option.bind_eq_some_iff.mp hm
      try dsimp only at hm
      refine zVi (rest := []) [.int v1, .int v2, .int v3] hx hb hml hl.1 hown hT (k_X9_findRow eb5) zkX9_findRow zw905 ⟨by decide, by decide⟩ rfl rfl hK hZ hP hD hS 0 rfl rfl rfl rfl (Nat.le_of_ble_eq_true rfl) ⟨Nat.zero_le _, Nat.zero_le _⟩ dX9_figure_21 (fun H locs hP hD hS => ?_)
      refine lv_if_ne (tgt := 31) hx hb dX9_figure_24 (by decide) (fun h8 => ?_) (fun h8 => ?_)
      · rw [if_neg h8] at hm
        refine lv_lconst (v := (0 : Int64)) hx hb dX9_figure_31 (by decide) ?_
        refine lv_lstore (lv' := [(5, .long (0 : Int64)), (0, .ref (ad 0)), (1, .int v1), (2, .int v2), (3, .int v3), (4, .int v4)]) hx hb dX9_figure_32 hl (by decide) rfl (fun ls hl => ?_)
        refine lv_iconst (v := (0 : Int32)) hx hb dX9_figure_34 (by decide) ?_
        refine lv_istore (lv' := [(7, .int (0 : Int32)), (5, .long (0 : Int64)), (0, .ref (ad 0)), (1, .int v1), (2, .int v2), (3, .int v3), (4, .int v4)]) hx hb dX9_figure_35 hl (by decide) rfl (fun ls hl => ?_)
        refine lv_iconst (v := (0 : Int32)) hx hb dX9_figure_37 (by decide) ?_
        refine lv_istore (lv' := [(8, .int (0 : Int32)), (7, .int (0 : Int32)), (5, .long (0 : Int64)), (0, .ref (ad 0)), (1, .int v1), (2, .int v2), (3, .int v3), (4, .int v4)]) hx hb dX9_figure_38 hl (by decide) rfl (fun ls hl => ?_)
        obtain ⟨r18, e28, hm⟩ := Option.bind_eq_some_iff.mp hm
        refine hL40 σ7 _ r18 e28 ?_ _ _ _ hP hD hS (lv_sub hl [3, 7, 2, 1, 0] rfl)
        obtain ⟨v5_19, v7_19⟩ := r18
        intro H locs ls hP hD hS hl
        try dsimp only at hP hD hl
        replace hm : m_X9_figure_102 N v1 v2 v3 v4 σ7 v5_19 v7_19 = some (r, σ') := hm
        exact h102 σ7 v5_19 v7_19 hm _ _ _ hP hD hS (lv_sub hl [0, 1, 2, 3] rfl)
      · rw [if_pos h8] at hm
        refine lv_ldc2 hx hb hown (hT _ zw913) dX9_figure_27 ?_
        cases hm
        exact hret _ _ _ _ dX9_figure_30 hP hD hS
set_option maxHeartbeats 4000000 in
set_option maxRecDepth 100000 in
theorem k_X9_place {l : Launch} {D : va_G} {ad : Nat → Nat} {cI cJ cZ cO : ClassId} {t : Nat} {A : Nat → Prop} {N : Nat} {σ σ' : zS} {v1 : Int32} {v2 : Int32} {v3 : Int32} {v4 : Int32} {r : Int32}  (hm : m_X9_place N σ v1 v2 v3 v4 = some (r, σ')) : zCi l yX9_place cX9_place 6 (some .int) (zR 10 234) D zclM (zty cI cJ cZ cO) t A (zwM ad cI cJ cZ cO) [.ref (ad 0), .int v1, .int v2, .int v3, .int v4] σ σ' r := by
  refine zMi (by decide) (Nat.le_of_ble_eq_true rfl) ?_
  intro p e s m args below meth c Q hx hb hml hown hT hK hZ hret hP hD hS ls hl
  replace hown : s.vm.findClass RX9 = some m.cls := hown
  replace hl : lv_has ls 6 [(0, .ref (ad 0)), (1, .int v1), (2, .int v2), (3, .int v3), (4, .int v4)] := hl
  unfold m_X9_place at hm
  refine lv_iload_n hx hb dX9_place_0 rfl (lv_at hl 3 rfl) ?_
  obtain ⟨b1, eb1, hm⟩ := Option.bind_eq_some_iff.mp hm
  refine zSi (rest := []) [.int v3] hx hb hml hl.1 hown hT (k_X9_isColumn eb1) zkX9_isColumn zw742 ⟨by decide, by decide⟩ rfl rfl hK hZ hP hD hS rfl rfl (Nat.le_of_ble_eq_true rfl) ⟨Nat.zero_le _, Nat.zero_le _⟩ dX9_place_1 (fun H locs hP hD hS => ?_)
  refine lv_if_eq (tgt := 28) hx hb dX9_place_4 (by decide) (fun h2 => ?_) (fun h2 => ?_)
  · rw [if_pos h2] at hm
    refine lv_ldc hx hb hown (hT _ zw750) dX9_place_28 ?_
    cases hm
    exact hret _ _ _ _ dX9_place_30 hP hD hS
  · rw [if_neg h2] at hm
    refine lv_iload hx hb dX9_place_7 (lv_at hl 4 rfl) ?_
    refine lv_iconst (v := (0 : Int32)) hx hb dX9_place_9 (by decide) ?_
    refine lv_bipush (v := (100 : Int32)) hx hb dX9_place_10 (by decide) ?_
    obtain ⟨b3, eb3, hm⟩ := Option.bind_eq_some_iff.mp hm
    refine zSi (rest := []) [.int v4, .int (0 : Int32), .int (100 : Int32)] hx hb hml hl.1 hown hT (k_X9_within eb3) zkX9_within zw739 ⟨by decide, by decide⟩ rfl rfl hK hZ hP hD hS rfl rfl (Nat.le_of_ble_eq_true rfl) ⟨Nat.zero_le _, Nat.zero_le _⟩ dX9_place_12 (fun H locs hP hD hS => ?_)
    refine lv_if_eq (tgt := 28) hx hb dX9_place_15 (by decide) (fun h4 => ?_) (fun h4 => ?_)
    · rw [if_pos h4] at hm
      refine lv_ldc hx hb hown (hT _ zw750) dX9_place_28 ?_
      cases hm
      exact hret _ _ _ _ dX9_place_30 hP hD hS
    · rw [if_neg h4] at hm
      refine lv_aload_n hx hb dX9_place_18 rfl (lv_at hl 0 rfl) ?_
      refine lv_iload_n hx hb dX9_place_19 rfl (lv_at hl 1 rfl) ?_
      refine lv_iload_n hx hb dX9_place_20 rfl (lv_at hl 2 rfl) ?_
      refine lv_iload_n hx hb dX9_place_21 rfl (lv_at hl 3 rfl) ?_
      obtain ⟨⟨b5, σ7⟩, eb5, hm⟩ := Option.bind_eq_some_iff.mp hm
      try dsimp only at hm
      refine zVi (rest := []) [.int v1, .int v2, .int v3] hx hb hml hl.1 hown hT (k_X9_findRow eb5) zkX9_findRow zw905 ⟨by decide, by decide⟩ rfl rfl hK hZ hP hD hS 0 rfl rfl rfl rfl (Nat.le_of_ble_eq_true rfl) ⟨Nat.zero_le _, Nat.zero_le _⟩ dX9_place_22 (fun H locs hP hD hS => ?_)
      refine lv_if_ne (tgt := 31) hx hb dX9_place_25 (by decide) (fun h8 => ?_) (fun h8 => ?_)
      · rw [if_neg h8] at hm
        refine lv_iload hx hb dX9_place_31 (lv_at hl 4 rfl) ?_
        refine lv_aload_n hx hb dX9_place_33 rfl (lv_at hl 0 rfl) ?_
        refine zget (v := .int (σ7.1 6)) hx hb hT zinX9 hown hK hP 0 rfl rfl 31 (by decide) zw653 rfl dX9_place_34 ?_
        refine lv_imul hx hb dX9_place_37 ?_
        refine lv_bipush (v := (99 : Int32)) hx hb dX9_place_38 (by decide) ?_
        refine lv_iadd hx hb dX9_place_40 ?_
        refine lv_bipush (v := (100 : Int32)) hx hb dX9_place_41 (by decide) ?_
        refine lv_idiv hx hb dX9_place_43 (by decide) ?_
        refine lv_istore (lv' := [(5, .int (((v4 * (σ7.1 6)) + (99 : Int32)) / (100 : Int32))), (0, .ref (ad 0)), (1, .int v1), (2, .int v2), (3, .int v3), (4, .int v4)]) hx hb dX9_place_44 hl (by decide) rfl (fun ls hl => ?_)
        refine lv_aload_n hx hb dX9_place_46 rfl (lv_at hl 1 rfl) ?_
        refine zget (v := .int (σ7.1 6)) hx hb hT zinX9 hown hK hP 0 rfl rfl 31 (by decide) zw653 rfl dX9_place_47 ?_
        refine lv_if_ne (tgt := 58) hx hb dX9_place_50 (by decide) (fun h9 => ?_) (fun h9 => ?_)
        · rw [if_neg h9] at hm
          refine lv_aload_n hx hb dX9_place_58 rfl (lv_at hl 1 rfl) ?_
          refine zget (v := .ref (ad 26)) hx hb hT zinX9 hown hK hP 0 rfl rfl 32 (by decide) zw654 rfl dX9_place_59 ?_
          refine lv_iload hx hb dX9_place_62 (lv_at hl 0 rfl) ?_
          refine lv_if_ne (tgt := 71) hx hb dX9_place_64 (by decide) (fun h10 => ?_) (fun h10 => ?_)
          · rw [if_neg h10] at hm
            refine lv_iload hx hb dX9_place_71 (lv_at hl 0 rfl) ?_
            refine lv_iconst (v := (1 : Int32)) hx hb dX9_place_73 (by decide) ?_
            refine lv_isub hx hb dX9_place_74 ?_
            obtain ⟨b11, eb11, hm⟩ := Option.bind_eq_some_iff.mp hm
            refine ziald hx hb hK hP 26 0 rfl rfl eb11 dX9_place_75 ?_
            cases hm
            exact hret _ _ _ _ dX9_place_76 hP hD hS
          · rw [if_pos h10] at hm
            refine lv_iconst (v := (0 : Int32)) hx hb dX9_place_67 (by decide) ?_
            refine lv_goto (tgt := 75) hx hb dX9_place_68 (by decide) ?_
            obtain ⟨b12, eb12, hm⟩ := Option.bind_eq_some_iff.mp hm
            refine ziald hx hb hK hP 26 0 rfl rfl eb12 dX9_place_75 ?_
            cases hm
            exact hret _ _ _ _ dX9_place_76 hP hD hS
        · rw [if_pos h9] at hm
          refine lv_ldc hx hb hown (hT _ zw764) dX9_place_53 ?_
          refine lv_goto (tgt := 76) hx hb dX9_place_55 (by decide) ?_
          cases hm
          exact hret _ _ _ _ dX9_place_76 hP hD hS
      · rw [if_pos h8] at hm
        refine lv_ldc hx hb hown (hT _ zw750) dX9_place_28 ?_
        cases hm
        exact hret _ _ _ _ dX9_place_30 hP hD hS
set_option maxHeartbeats 4000000 in
set_option maxRecDepth 100000 in
theorem k_X9_told {l : Launch} {D : va_G} {ad : Nat → Nat} {cI cJ cZ cO : ClassId} {t : Nat} {A : Nat → Prop} {N : Nat} {σ : zS} {v1 : Int32} {r : Int32}  (hm : m_X9_told N σ v1 = some r) : zCi l yX9_told cX9_told 4 (some .int) (zR 0 0) D zclM (zty cI cJ cZ cO) t A (zwM ad cI cJ cZ cO) [.ref (ad 0), .int v1] σ σ r := by
  refine zMi (by decide) (Nat.le_of_ble_eq_true rfl) ?_
  intro p e s m args below meth c Q hx hb hml hown hT hK hZ hret hP hD hS ls hl
  replace hown : s.vm.findClass RX9 = some m.cls := hown
  replace hl : lv_has ls 4 [(0, .ref (ad 0)), (1, .int v1)] := hl
  have hL4 : ∀ (q : Int32 × Int32) (r : Int32), ziter (fun q : Int32 × Int32 => m_X9_told_L4 N σ v1 q.1 q.2) N q = some r → (∀ (H : Heap) (locs : List Loc) (ls : Array Slot), va_P D zclM (zwM ad cI cJ cZ cO σ) H → va_D A (zwM ad cI cJ cZ cO σ) → va_S A s.heap H locs → lv_has ls 4 [(0, .ref (ad 0)), (1, .int v1), (2, .int r)] → W p l e (zR 0 0) s m args below meth c H locs 0 0 Q (F0 m 35 ls [])) → ∀ (H : Heap) (locs : List Loc) (ls : Array Slot), va_P D zclM (zwM ad cI cJ cZ cO σ) H → va_D A (zwM ad cI cJ cZ cO σ) → va_S A s.heap H locs → lv_has ls 4 [(0, .ref (ad 0)), (1, .int v1), (2, .int q.1), (3, .int q.2)] → W p l e (zR 0 0) s m args below meth c H locs 0 0 Q (F0 m 4 ls []) := by
    intro q r
    refine ziter_W (Hd := fun q : Int32 × Int32 => ∀ (H : Heap) (locs : List Loc) (ls : Array Slot), va_P D zclM (zwM ad cI cJ cZ cO σ) H → va_D A (zwM ad cI cJ cZ cO σ) → va_S A s.heap H locs → lv_has ls 4 [(0, .ref (ad 0)), (1, .int v1), (2, .int q.1), (3, .int q.2)] → W p l e (zR 0 0) s m args below meth c H locs 0 0 Q (F0 m 4 ls [])) (Ex := fun r : Int32 => ∀ (H : Heap) (locs : List Loc) (ls : Array Slot), va_P D zclM (zwM ad cI cJ cZ cO σ) H → va_D A (zwM ad cI cJ cZ cO σ) → va_S A s.heap H locs → lv_has ls 4 [(0, .ref (ad 0)), (1, .int v1), (2, .int r)] → W p l e (zR 0 0) s m args below meth c H locs 0 0 Q (F0 m 35 ls [])) ?_ N q r
    rintro ⟨v2_1, v3_1⟩ res hm hk H locs ls hP hD hS hl
    try dsimp only at hP hD hl
    replace hm : m_X9_told_L4 N σ v1 v2_1 v3_1 = some res := hm
    have h27 : ∀ (v3_5 : Int32) (x0_5 : Int32) (x1_5 : Int32), m_X9_told_27_in4 N σ v1 v3_5 x0_5 x1_5 = some res → ∀ (H : Heap) (locs : List Loc) (ls : Array Slot), va_P D zclM (zwM ad cI cJ cZ cO σ) H → va_D A (zwM ad cI cJ cZ cO σ) → va_S A s.heap H locs → lv_has ls 4 [(0, .ref (ad 0)), (1, .int v1), (3, .int v3_5)] → W p l e (zR 0 0) s m args below meth c H locs 0 0 Q (F0 m 27 ls [.int x1_5, .int x0_5]) := by
      intro v3_5 x0_5 x1_5 hm H locs ls hP hD hS hl
      unfold m_X9_told_27_in4 at hm
      refine lv_iadd hx hb dX9_told_27 ?_
      refine lv_istore_n (lv' := [(2, .int (x0_5 + x1_5)), (0, .ref (ad 0)), (1, .int v1), (3, .int v3_5)]) hx hb dX9_told_28 rfl hl (by decide) rfl (fun ls hl => ?_)
      refine lv_iinc (v := (v3_5 + (1 : Int32))) (lv' := [(3, .int (v3_5 + (1 : Int32))), (2, .int (x0_5 + x1_5)), (0, .ref (ad 0)), (1, .int v1)]) hx hb dX9_told_29 hl (k := 3) rfl rfl (by decide) rfl (fun ls hl => ?_)
      refine lv_goto (tgt := 4) hx hb dX9_told_32 (by decide) ?_
      cases hm
      exact hk _ _ _ hP hD hS (lv_sub hl [2, 3, 1, 0] rfl)
    unfold m_X9_told_L4 at hm
    refine lv_iload_n hx hb dX9_told_4 rfl (lv_at hl 3 rfl) ?_
    refine lv_aload_n hx hb dX9_told_5 rfl (lv_at hl 0 rfl) ?_
    refine zget (v := .int (σ.1 0)) hx hb hT zinX9 hown hK hP 0 rfl rfl 0 (by decide) zw622 rfl dX9_told_6 ?_
    refine lv_icmp_ge (tgt := 35) hx hb dX9_told_9 (by decide) (fun h2 => ?_) (fun h2 => ?_)
    · rw [if_pos h2] at hm
      cases hm
      exact hk _ _ _ hP hD hS (lv_sub hl [0, 1, 2] rfl)
    · rw [if_neg h2] at hm
      refine lv_iload_n hx hb dX9_told_12 rfl (lv_at hl 2 rfl) ?_
      refine lv_aload_n hx hb dX9_told_13 rfl (lv_at hl 0 rfl) ?_
      refine zget (v := .ref (ad 3)) hx hb hT zinX9 hown hK hP 0 rfl rfl 3 (by decide) zw625 rfl dX9_told_14 ?_
      refine lv_iload_n hx hb dX9_told_17 rfl (lv_at hl 3 rfl) ?_
      obtain ⟨b3, eb3, hm⟩ := Option.bind_eq_some_iff.mp hm
      refine zzald hx hb hK hP 3 2 rfl rfl eb3 dX9_told_18 ?_
      refine lv_if_eq (tgt := 26) hx hb dX9_told_19 (by decide) (fun h4 => ?_) (fun h4 => ?_)
      · rw [if_pos h4] at hm
        refine lv_iconst (v := (0 : Int32)) hx hb dX9_told_26 (by decide) ?_
        exact h27 v3_1 v2_1 (0 : Int32) hm _ _ _ hP hD hS (lv_sub hl [0, 1, 3] rfl)
      · rw [if_neg h4] at hm
        refine lv_iconst (v := (1 : Int32)) hx hb dX9_told_22 (by decide) ?_
        refine lv_goto (tgt := 27) hx hb dX9_told_23 (by decide) ?_
        exact h27 v3_1 v2_1 (1 : Int32) hm _ _ _ hP hD hS (lv_sub hl [0, 1, 3] rfl)
  have h35 : ∀ (v2_8 : Int32), m_X9_told_35 N σ v1 v2_8 = some r → ∀ (H : Heap) (locs : List Loc) (ls : Array Slot), va_P D zclM (zwM ad cI cJ cZ cO σ) H → va_D A (zwM ad cI cJ cZ cO σ) → va_S A s.heap H locs → lv_has ls 4 [(0, .ref (ad 0)), (1, .int v1), (2, .int v2_8)] → W p l e (zR 0 0) s m args below meth c H locs 0 0 Q (F0 m 35 ls []) := by
    intro v2_8 hm H locs ls hP hD hS hl
    unfold m_X9_told_35 at hm
    refine lv_iload_n hx hb dX9_told_35 rfl (lv_at hl 1 rfl) ?_
    refine lv_if_ne (tgt := 46) hx hb dX9_told_36 (by decide) (fun h9 => ?_) (fun h9 => ?_)
    · rw [if_neg h9] at hm
      refine lv_iload_n hx hb dX9_told_46 rfl (lv_at hl 1 rfl) ?_
      refine lv_iconst (v := (1 : Int32)) hx hb dX9_told_47 (by decide) ?_
      refine lv_icmp_ne (tgt := 55) hx hb dX9_told_48 (by decide) (fun h10 => ?_) (fun h10 => ?_)
      · rw [if_neg h10] at hm
        refine lv_iload_n hx hb dX9_told_55 rfl (lv_at hl 1 rfl) ?_
        refine lv_iconst (v := (2 : Int32)) hx hb dX9_told_56 (by decide) ?_
        refine lv_icmp_ne (tgt := 67) hx hb dX9_told_57 (by decide) (fun h11 => ?_) (fun h11 => ?_)
        · rw [if_neg h11] at hm
          refine lv_iload_n hx hb dX9_told_67 rfl (lv_at hl 1 rfl) ?_
          refine lv_iconst (v := (3 : Int32)) hx hb dX9_told_68 (by decide) ?_
          refine lv_icmp_ne (tgt := 79) hx hb dX9_told_69 (by decide) (fun h12 => ?_) (fun h12 => ?_)
          · rw [if_neg h12] at hm
            refine lv_ldc hx hb hown (hT _ zw750) dX9_told_79 ?_
            cases hm
            exact hret _ _ _ _ dX9_told_81 hP hD hS
          · rw [if_pos h12] at hm
            refine lv_aload_n hx hb dX9_told_72 rfl (lv_at hl 0 rfl) ?_
            refine zget (v := .int (σ.1 2)) hx hb hT zinX9 hown hK hP 0 rfl rfl 19 (by decide) zw641 rfl dX9_told_73 ?_
            refine lv_goto (tgt := 81) hx hb dX9_told_76 (by decide) ?_
            cases hm
            exact hret _ _ _ _ dX9_told_81 hP hD hS
        · rw [if_pos h11] at hm
          refine lv_aload_n hx hb dX9_told_60 rfl (lv_at hl 0 rfl) ?_
          refine zget (v := .int (σ.1 1)) hx hb hT zinX9 hown hK hP 0 rfl rfl 4 (by decide) zw626 rfl dX9_told_61 ?_
          refine lv_goto (tgt := 81) hx hb dX9_told_64 (by decide) ?_
          cases hm
          exact hret _ _ _ _ dX9_told_81 hP hD hS
      · rw [if_pos h10] at hm
        refine lv_iload_n hx hb dX9_told_51 rfl (lv_at hl 2 rfl) ?_
        refine lv_goto (tgt := 81) hx hb dX9_told_52 (by decide) ?_
        cases hm
        exact hret _ _ _ _ dX9_told_81 hP hD hS
    · rw [if_pos h9] at hm
      refine lv_aload_n hx hb dX9_told_39 rfl (lv_at hl 0 rfl) ?_
      refine zget (v := .int (σ.1 0)) hx hb hT zinX9 hown hK hP 0 rfl rfl 0 (by decide) zw622 rfl dX9_told_40 ?_
      refine lv_goto (tgt := 81) hx hb dX9_told_43 (by decide) ?_
      cases hm
      exact hret _ _ _ _ dX9_told_81 hP hD hS
  unfold m_X9_told at hm
  refine lv_iconst (v := (0 : Int32)) hx hb dX9_told_0 (by decide) ?_
  refine lv_istore_n (lv' := [(2, .int (0 : Int32)), (0, .ref (ad 0)), (1, .int v1)]) hx hb dX9_told_1 rfl hl (by decide) rfl (fun ls hl => ?_)
  refine lv_iconst (v := (0 : Int32)) hx hb dX9_told_2 (by decide) ?_
  refine lv_istore_n (lv' := [(3, .int (0 : Int32)), (2, .int (0 : Int32)), (0, .ref (ad 0)), (1, .int v1)]) hx hb dX9_told_3 rfl hl (by decide) rfl (fun ls hl => ?_)
  obtain ⟨v2_7, e13, hm⟩ := Option.bind_eq_some_iff.mp hm
  refine hL4  _ v2_7 e13 ?_ _ _ _ hP hD hS (lv_sub hl [2, 3, 1, 0] rfl)
  intro H locs ls hP hD hS hl
  try dsimp only at hP hD hl
  replace hm : m_X9_told_35 N σ v1 v2_7 = some r := hm
  exact h35 v2_7 hm _ _ _ hP hD hS (lv_sub hl [0, 1, 2] rfl)
end
