-- ===== PART A: goes FIRST, ahead of the names: the tables' words, and 'selects' of the private methods out of them =====
/-- a private method of a class that the tables say can be made, by its rows of tables_1 -/
def lw_okq (q : MethodName × Nat) : Prop := (q.1.cls ≠ "java/lang/invoke/MethodHandle" ∧ q.1.cls ≠ "java/lang/invoke/VarHandle") ∧ Cond.instantiable q.1.cls q.2 ∈ tables_1 ∧ Cond.privateMethod q.1 ∈ tables_1 ∧ Cond.instanceMethod q.1 ∈ tables_1
theorem lw_p0 : lw_okq (⟨"VectorPens$History", "discardOldest", "()V"⟩, 2) := ⟨⟨by decide +kernel, by decide +kernel⟩, List.mem_of_getElem? (i := 75) (by decide +kernel), List.mem_of_getElem? (i := 186) (by decide +kernel), List.mem_of_getElem? (i := 187) (by decide +kernel)⟩
theorem lw_p1 : lw_okq (⟨"VectorPens$Thinning", "setLevel", "(II)V"⟩, 1) := ⟨⟨by decide +kernel, by decide +kernel⟩, List.mem_of_getElem? (i := 92) (by decide +kernel), List.mem_of_getElem? (i := 255) (by decide +kernel), List.mem_of_getElem? (i := 256) (by decide +kernel)⟩
theorem lw_p2 : lw_okq (⟨"VectorPens$Thinning", "nextWithLevel", "(II)I"⟩, 1) := ⟨⟨by decide +kernel, by decide +kernel⟩, List.mem_of_getElem? (i := 92) (by decide +kernel), List.mem_of_getElem? (i := 276) (by decide +kernel), List.mem_of_getElem? (i := 277) (by decide +kernel)⟩
theorem lw_p3 : lw_okq (⟨"VectorPens$Thinning", "levelOf", "(I)I"⟩, 1) := ⟨⟨by decide +kernel, by decide +kernel⟩, List.mem_of_getElem? (i := 92) (by decide +kernel), List.mem_of_getElem? (i := 280) (by decide +kernel), List.mem_of_getElem? (i := 281) (by decide +kernel)⟩
theorem lw_p4 : lw_okq (⟨"VectorPens$Welding", "takeEnds", "(LVectorPens$Drawing;)V"⟩, 5) := ⟨⟨by decide +kernel, by decide +kernel⟩, List.mem_of_getElem? (i := 102) (by decide +kernel), List.mem_of_getElem? (i := 333) (by decide +kernel), List.mem_of_getElem? (i := 334) (by decide +kernel)⟩
theorem lw_p5 : lw_okq (⟨"VectorPens$Welding", "addEnd", "(III)V"⟩, 5) := ⟨⟨by decide +kernel, by decide +kernel⟩, List.mem_of_getElem? (i := 102) (by decide +kernel), List.mem_of_getElem? (i := 340) (by decide +kernel), List.mem_of_getElem? (i := 341) (by decide +kernel)⟩
theorem lw_p6 : lw_okq (⟨"VectorPens$Welding", "weldNearest", "(I)Z"⟩, 5) := ⟨⟨by decide +kernel, by decide +kernel⟩, List.mem_of_getElem? (i := 102) (by decide +kernel), List.mem_of_getElem? (i := 348) (by decide +kernel), List.mem_of_getElem? (i := 349) (by decide +kernel)⟩
theorem lw_p7 : lw_okq (⟨"VectorPens$Welding", "mayWeld", "(II)Z"⟩, 5) := ⟨⟨by decide +kernel, by decide +kernel⟩, List.mem_of_getElem? (i := 102) (by decide +kernel), List.mem_of_getElem? (i := 353) (by decide +kernel), List.mem_of_getElem? (i := 354) (by decide +kernel)⟩
theorem lw_p8 : lw_okq (⟨"VectorPens$Welding", "putEnd", "(III)V"⟩, 5) := ⟨⟨by decide +kernel, by decide +kernel⟩, List.mem_of_getElem? (i := 102) (by decide +kernel), List.mem_of_getElem? (i := 361) (by decide +kernel), List.mem_of_getElem? (i := 362) (by decide +kernel)⟩
theorem lw_p9 : lw_okq (⟨"VectorPens$Welding", "giveEnds", "(LVectorPens$Drawing;)V"⟩, 5) := ⟨⟨by decide +kernel, by decide +kernel⟩, List.mem_of_getElem? (i := 102) (by decide +kernel), List.mem_of_getElem? (i := 365) (by decide +kernel), List.mem_of_getElem? (i := 366) (by decide +kernel)⟩
theorem lw_p10 : lw_okq (⟨"VectorPens", "openAt", "(LVectorPens$Stroke;I)V"⟩, 10) := ⟨⟨by decide +kernel, by decide +kernel⟩, List.mem_of_getElem? (i := 15) (by decide +kernel), List.mem_of_getElem? (i := 448) (by decide +kernel), List.mem_of_getElem? (i := 449) (by decide +kernel)⟩
theorem lw_p11 : lw_okq (⟨"VectorPens", "cutAt", "(LVectorPens$Stroke;I)V"⟩, 10) := ⟨⟨by decide +kernel, by decide +kernel⟩, List.mem_of_getElem? (i := 15) (by decide +kernel), List.mem_of_getElem? (i := 452) (by decide +kernel), List.mem_of_getElem? (i := 453) (by decide +kernel)⟩
theorem lw_p12 : lw_okq (⟨"VectorPens$Text", "signAt", "(I)C"⟩, 3) := ⟨⟨by decide +kernel, by decide +kernel⟩, List.mem_of_getElem? (i := 124) (by decide +kernel), List.mem_of_getElem? (i := 575) (by decide +kernel), List.mem_of_getElem? (i := 576) (by decide +kernel)⟩
theorem lw_p13 : lw_okq (⟨"VectorPens", "fail", "(III)I"⟩, 10) := ⟨⟨by decide +kernel, by decide +kernel⟩, List.mem_of_getElem? (i := 15) (by decide +kernel), List.mem_of_getElem? (i := 589) (by decide +kernel), List.mem_of_getElem? (i := 590) (by decide +kernel)⟩
theorem lw_p14 : lw_okq (⟨"VectorPensModel", "record", "()V"⟩, 21) := ⟨⟨by decide +kernel, by decide +kernel⟩, List.mem_of_getElem? (i := 620) (by decide +kernel), List.mem_of_getElem? (i := 703) (by decide +kernel), List.mem_of_getElem? (i := 704) (by decide +kernel)⟩
theorem lw_p15 : lw_okq (⟨"VectorPensModel", "adds", "(Z)I"⟩, 21) := ⟨⟨by decide +kernel, by decide +kernel⟩, List.mem_of_getElem? (i := 620) (by decide +kernel), List.mem_of_getElem? (i := 721) (by decide +kernel), List.mem_of_getElem? (i := 722) (by decide +kernel)⟩
def lw_privs_1 : List (MethodName × Nat) := [(⟨"VectorPens$History", "discardOldest", "()V"⟩, 2), (⟨"VectorPens$Thinning", "setLevel", "(II)V"⟩, 1), (⟨"VectorPens$Thinning", "nextWithLevel", "(II)I"⟩, 1), (⟨"VectorPens$Thinning", "levelOf", "(I)I"⟩, 1), (⟨"VectorPens$Welding", "takeEnds", "(LVectorPens$Drawing;)V"⟩, 5), (⟨"VectorPens$Welding", "addEnd", "(III)V"⟩, 5), (⟨"VectorPens$Welding", "weldNearest", "(I)Z"⟩, 5), (⟨"VectorPens$Welding", "mayWeld", "(II)Z"⟩, 5), (⟨"VectorPens$Welding", "putEnd", "(III)V"⟩, 5), (⟨"VectorPens$Welding", "giveEnds", "(LVectorPens$Drawing;)V"⟩, 5), (⟨"VectorPens", "openAt", "(LVectorPens$Stroke;I)V"⟩, 10), (⟨"VectorPens", "cutAt", "(LVectorPens$Stroke;I)V"⟩, 10), (⟨"VectorPens$Text", "signAt", "(I)C"⟩, 3), (⟨"VectorPens", "fail", "(III)I"⟩, 10), (⟨"VectorPensModel", "record", "()V"⟩, 21), (⟨"VectorPensModel", "adds", "(Z)I"⟩, 21)]
theorem lw_r1 : ∀ q ∈ lw_privs_1, lw_okq q := List.forall_mem_cons.mpr ⟨lw_p0, List.forall_mem_cons.mpr ⟨lw_p1, List.forall_mem_cons.mpr ⟨lw_p2, List.forall_mem_cons.mpr ⟨lw_p3, List.forall_mem_cons.mpr ⟨lw_p4, List.forall_mem_cons.mpr ⟨lw_p5, List.forall_mem_cons.mpr ⟨lw_p6, List.forall_mem_cons.mpr ⟨lw_p7, List.forall_mem_cons.mpr ⟨lw_p8, List.forall_mem_cons.mpr ⟨lw_p9, List.forall_mem_cons.mpr ⟨lw_p10, List.forall_mem_cons.mpr ⟨lw_p11, List.forall_mem_cons.mpr ⟨lw_p12, List.forall_mem_cons.mpr ⟨lw_p13, List.forall_mem_cons.mpr ⟨lw_p14, List.forall_mem_cons.mpr ⟨lw_p15, fun _ h => absurd h List.not_mem_nil⟩⟩⟩⟩⟩⟩⟩⟩⟩⟩⟩⟩⟩⟩⟩⟩
theorem lw_p16 : lw_okq (⟨"VectorPensModel", "lays", "(IZ)V"⟩, 21) := ⟨⟨by decide +kernel, by decide +kernel⟩, List.mem_of_getElem? (i := 620) (by decide +kernel), List.mem_of_getElem? (i := 725) (by decide +kernel), List.mem_of_getElem? (i := 726) (by decide +kernel)⟩
theorem lw_p17 : lw_okq (⟨"VectorPensModel", "setPart", "(III)V"⟩, 21) := ⟨⟨by decide +kernel, by decide +kernel⟩, List.mem_of_getElem? (i := 620) (by decide +kernel), List.mem_of_getElem? (i := 729) (by decide +kernel), List.mem_of_getElem? (i := 730) (by decide +kernel)⟩
theorem lw_p18 : lw_okq (⟨"VectorPensModel", "isStroke", "(I)Z"⟩, 21) := ⟨⟨by decide +kernel, by decide +kernel⟩, List.mem_of_getElem? (i := 620) (by decide +kernel), List.mem_of_getElem? (i := 741) (by decide +kernel), List.mem_of_getElem? (i := 742) (by decide +kernel)⟩
theorem lw_p19 : lw_okq (⟨"VectorPensModel", "simplifies", "(II)V"⟩, 21) := ⟨⟨by decide +kernel, by decide +kernel⟩, List.mem_of_getElem? (i := 620) (by decide +kernel), List.mem_of_getElem? (i := 748) (by decide +kernel), List.mem_of_getElem? (i := 749) (by decide +kernel)⟩
theorem lw_p20 : lw_okq (⟨"VectorPensModel", "findKept", "(II)V"⟩, 21) := ⟨⟨by decide +kernel, by decide +kernel⟩, List.mem_of_getElem? (i := 620) (by decide +kernel), List.mem_of_getElem? (i := 752) (by decide +kernel), List.mem_of_getElem? (i := 753) (by decide +kernel)⟩
theorem lw_p21 : lw_okq (⟨"VectorPensModel", "isClosed", "(I)Z"⟩, 21) := ⟨⟨by decide +kernel, by decide +kernel⟩, List.mem_of_getElem? (i := 620) (by decide +kernel), List.mem_of_getElem? (i := 756) (by decide +kernel), List.mem_of_getElem? (i := 757) (by decide +kernel)⟩
theorem lw_p22 : lw_okq (⟨"VectorPensModel", "part", "(II)I"⟩, 21) := ⟨⟨by decide +kernel, by decide +kernel⟩, List.mem_of_getElem? (i := 620) (by decide +kernel), List.mem_of_getElem? (i := 760) (by decide +kernel), List.mem_of_getElem? (i := 761) (by decide +kernel)⟩
theorem lw_p23 : lw_okq (⟨"VectorPensModel", "farFromFirst", "(I)I"⟩, 21) := ⟨⟨by decide +kernel, by decide +kernel⟩, List.mem_of_getElem? (i := 620) (by decide +kernel), List.mem_of_getElem? (i := 764) (by decide +kernel), List.mem_of_getElem? (i := 765) (by decide +kernel)⟩
theorem lw_p24 : lw_okq (⟨"VectorPensModel", "many", "(I)I"⟩, 21) := ⟨⟨by decide +kernel, by decide +kernel⟩, List.mem_of_getElem? (i := 620) (by decide +kernel), List.mem_of_getElem? (i := 768) (by decide +kernel), List.mem_of_getElem? (i := 769) (by decide +kernel)⟩
theorem lw_p25 : lw_okq (⟨"VectorPensModel", "pointAt", "(II)I"⟩, 21) := ⟨⟨by decide +kernel, by decide +kernel⟩, List.mem_of_getElem? (i := 620) (by decide +kernel), List.mem_of_getElem? (i := 772) (by decide +kernel), List.mem_of_getElem? (i := 773) (by decide +kernel)⟩
theorem lw_p26 : lw_okq (⟨"VectorPensModel", "pushes", "(II)V"⟩, 21) := ⟨⟨by decide +kernel, by decide +kernel⟩, List.mem_of_getElem? (i := 620) (by decide +kernel), List.mem_of_getElem? (i := 785) (by decide +kernel), List.mem_of_getElem? (i := 786) (by decide +kernel)⟩
theorem lw_p27 : lw_okq (⟨"VectorPensModel", "farthest", "(IIII)I"⟩, 21) := ⟨⟨by decide +kernel, by decide +kernel⟩, List.mem_of_getElem? (i := 620) (by decide +kernel), List.mem_of_getElem? (i := 789) (by decide +kernel), List.mem_of_getElem? (i := 790) (by decide +kernel)⟩
theorem lw_p28 : lw_okq (⟨"VectorPensModel", "takes", "(IIII)V"⟩, 21) := ⟨⟨by decide +kernel, by decide +kernel⟩, List.mem_of_getElem? (i := 620) (by decide +kernel), List.mem_of_getElem? (i := 799) (by decide +kernel), List.mem_of_getElem? (i := 800) (by decide +kernel)⟩
theorem lw_p29 : lw_okq (⟨"VectorPensModel", "welds", "(I)I"⟩, 21) := ⟨⟨by decide +kernel, by decide +kernel⟩, List.mem_of_getElem? (i := 620) (by decide +kernel), List.mem_of_getElem? (i := 810) (by decide +kernel), List.mem_of_getElem? (i := 811) (by decide +kernel)⟩
theorem lw_p30 : lw_okq (⟨"VectorPensModel", "findWeld", "(I)Z"⟩, 21) := ⟨⟨by decide +kernel, by decide +kernel⟩, List.mem_of_getElem? (i := 620) (by decide +kernel), List.mem_of_getElem? (i := 814) (by decide +kernel), List.mem_of_getElem? (i := 815) (by decide +kernel)⟩
theorem lw_p31 : lw_okq (⟨"VectorPensModel", "isEnd", "(I)Z"⟩, 21) := ⟨⟨by decide +kernel, by decide +kernel⟩, List.mem_of_getElem? (i := 620) (by decide +kernel), List.mem_of_getElem? (i := 818) (by decide +kernel), List.mem_of_getElem? (i := 819) (by decide +kernel)⟩
def lw_privs_2 : List (MethodName × Nat) := [(⟨"VectorPensModel", "lays", "(IZ)V"⟩, 21), (⟨"VectorPensModel", "setPart", "(III)V"⟩, 21), (⟨"VectorPensModel", "isStroke", "(I)Z"⟩, 21), (⟨"VectorPensModel", "simplifies", "(II)V"⟩, 21), (⟨"VectorPensModel", "findKept", "(II)V"⟩, 21), (⟨"VectorPensModel", "isClosed", "(I)Z"⟩, 21), (⟨"VectorPensModel", "part", "(II)I"⟩, 21), (⟨"VectorPensModel", "farFromFirst", "(I)I"⟩, 21), (⟨"VectorPensModel", "many", "(I)I"⟩, 21), (⟨"VectorPensModel", "pointAt", "(II)I"⟩, 21), (⟨"VectorPensModel", "pushes", "(II)V"⟩, 21), (⟨"VectorPensModel", "farthest", "(IIII)I"⟩, 21), (⟨"VectorPensModel", "takes", "(IIII)V"⟩, 21), (⟨"VectorPensModel", "welds", "(I)I"⟩, 21), (⟨"VectorPensModel", "findWeld", "(I)Z"⟩, 21), (⟨"VectorPensModel", "isEnd", "(I)Z"⟩, 21)]
theorem lw_r2 : ∀ q ∈ lw_privs_2, lw_okq q := List.forall_mem_cons.mpr ⟨lw_p16, List.forall_mem_cons.mpr ⟨lw_p17, List.forall_mem_cons.mpr ⟨lw_p18, List.forall_mem_cons.mpr ⟨lw_p19, List.forall_mem_cons.mpr ⟨lw_p20, List.forall_mem_cons.mpr ⟨lw_p21, List.forall_mem_cons.mpr ⟨lw_p22, List.forall_mem_cons.mpr ⟨lw_p23, List.forall_mem_cons.mpr ⟨lw_p24, List.forall_mem_cons.mpr ⟨lw_p25, List.forall_mem_cons.mpr ⟨lw_p26, List.forall_mem_cons.mpr ⟨lw_p27, List.forall_mem_cons.mpr ⟨lw_p28, List.forall_mem_cons.mpr ⟨lw_p29, List.forall_mem_cons.mpr ⟨lw_p30, List.forall_mem_cons.mpr ⟨lw_p31, fun _ h => absurd h List.not_mem_nil⟩⟩⟩⟩⟩⟩⟩⟩⟩⟩⟩⟩⟩⟩⟩⟩
theorem lw_p32 : lw_okq (⟨"VectorPensModel", "mayWeld", "(III)Z"⟩, 21) := ⟨⟨by decide +kernel, by decide +kernel⟩, List.mem_of_getElem? (i := 620) (by decide +kernel), List.mem_of_getElem? (i := 822) (by decide +kernel), List.mem_of_getElem? (i := 823) (by decide +kernel)⟩
theorem lw_p33 : lw_okq (⟨"VectorPensModel", "endPoint", "(I)I"⟩, 21) := ⟨⟨by decide +kernel, by decide +kernel⟩, List.mem_of_getElem? (i := 620) (by decide +kernel), List.mem_of_getElem? (i := 826) (by decide +kernel), List.mem_of_getElem? (i := 827) (by decide +kernel)⟩
theorem lw_p34 : lw_okq (⟨"VectorPensModel", "endIndex", "(I)I"⟩, 21) := ⟨⟨by decide +kernel, by decide +kernel⟩, List.mem_of_getElem? (i := 620) (by decide +kernel), List.mem_of_getElem? (i := 830) (by decide +kernel), List.mem_of_getElem? (i := 831) (by decide +kernel)⟩
theorem lw_p35 : lw_okq (⟨"VectorPensModel", "mayBeOne", "(II)Z"⟩, 21) := ⟨⟨by decide +kernel, by decide +kernel⟩, List.mem_of_getElem? (i := 620) (by decide +kernel), List.mem_of_getElem? (i := 837) (by decide +kernel), List.mem_of_getElem? (i := 838) (by decide +kernel)⟩
theorem lw_p36 : lw_okq (⟨"VectorPensModel", "beside", "(I)I"⟩, 21) := ⟨⟨by decide +kernel, by decide +kernel⟩, List.mem_of_getElem? (i := 620) (by decide +kernel), List.mem_of_getElem? (i := 841) (by decide +kernel), List.mem_of_getElem? (i := 842) (by decide +kernel)⟩
theorem lw_p37 : lw_okq (⟨"VectorPensModel", "joins", "()V"⟩, 21) := ⟨⟨by decide +kernel, by decide +kernel⟩, List.mem_of_getElem? (i := 620) (by decide +kernel), List.mem_of_getElem? (i := 849) (by decide +kernel), List.mem_of_getElem? (i := 850) (by decide +kernel)⟩
theorem lw_p38 : lw_okq (⟨"VectorPensModel", "findJoin", "()Z"⟩, 21) := ⟨⟨by decide +kernel, by decide +kernel⟩, List.mem_of_getElem? (i := 620) (by decide +kernel), List.mem_of_getElem? (i := 853) (by decide +kernel), List.mem_of_getElem? (i := 854) (by decide +kernel)⟩
theorem lw_p39 : lw_okq (⟨"VectorPensModel", "mayJoin", "(II)Z"⟩, 21) := ⟨⟨by decide +kernel, by decide +kernel⟩, List.mem_of_getElem? (i := 620) (by decide +kernel), List.mem_of_getElem? (i := 857) (by decide +kernel), List.mem_of_getElem? (i := 858) (by decide +kernel)⟩
theorem lw_p40 : lw_okq (⟨"VectorPensModel", "takesOut", "(I)V"⟩, 21) := ⟨⟨by decide +kernel, by decide +kernel⟩, List.mem_of_getElem? (i := 620) (by decide +kernel), List.mem_of_getElem? (i := 861) (by decide +kernel), List.mem_of_getElem? (i := 862) (by decide +kernel)⟩
theorem lw_p41 : lw_okq (⟨"VectorPensModel", "mayMove", "(III)Z"⟩, 21) := ⟨⟨by decide +kernel, by decide +kernel⟩, List.mem_of_getElem? (i := 620) (by decide +kernel), List.mem_of_getElem? (i := 869) (by decide +kernel), List.mem_of_getElem? (i := 870) (by decide +kernel)⟩
theorem lw_p42 : lw_okq (⟨"VectorPensModel", "splitsClosed", "(II)I"⟩, 21) := ⟨⟨by decide +kernel, by decide +kernel⟩, List.mem_of_getElem? (i := 620) (by decide +kernel), List.mem_of_getElem? (i := 892) (by decide +kernel), List.mem_of_getElem? (i := 893) (by decide +kernel)⟩
theorem lw_p43 : lw_okq (⟨"VectorPensModel", "splitsOpen", "(II)I"⟩, 21) := ⟨⟨by decide +kernel, by decide +kernel⟩, List.mem_of_getElem? (i := 620) (by decide +kernel), List.mem_of_getElem? (i := 896) (by decide +kernel), List.mem_of_getElem? (i := 897) (by decide +kernel)⟩
theorem lw_p44 : lw_okq (⟨"VectorPensModel", "ofStroke", "(II)I"⟩, 21) := ⟨⟨by decide +kernel, by decide +kernel⟩, List.mem_of_getElem? (i := 620) (by decide +kernel), List.mem_of_getElem? (i := 916) (by decide +kernel), List.mem_of_getElem? (i := 917) (by decide +kernel)⟩
theorem lw_p45 : lw_okq (⟨"VectorPensModel", "lengthOf", "(I)I"⟩, 21) := ⟨⟨by decide +kernel, by decide +kernel⟩, List.mem_of_getElem? (i := 620) (by decide +kernel), List.mem_of_getElem? (i := 920) (by decide +kernel), List.mem_of_getElem? (i := 921) (by decide +kernel)⟩
theorem lw_p46 : lw_okq (⟨"VectorPensModel", "pieces", "(I)I"⟩, 21) := ⟨⟨by decide +kernel, by decide +kernel⟩, List.mem_of_getElem? (i := 620) (by decide +kernel), List.mem_of_getElem? (i := 924) (by decide +kernel), List.mem_of_getElem? (i := 925) (by decide +kernel)⟩
theorem lw_p47 : lw_okq (⟨"VectorPensModel", "areaOf", "(I)I"⟩, 21) := ⟨⟨by decide +kernel, by decide +kernel⟩, List.mem_of_getElem? (i := 620) (by decide +kernel), List.mem_of_getElem? (i := 931) (by decide +kernel), List.mem_of_getElem? (i := 932) (by decide +kernel)⟩
def lw_privs_3 : List (MethodName × Nat) := [(⟨"VectorPensModel", "mayWeld", "(III)Z"⟩, 21), (⟨"VectorPensModel", "endPoint", "(I)I"⟩, 21), (⟨"VectorPensModel", "endIndex", "(I)I"⟩, 21), (⟨"VectorPensModel", "mayBeOne", "(II)Z"⟩, 21), (⟨"VectorPensModel", "beside", "(I)I"⟩, 21), (⟨"VectorPensModel", "joins", "()V"⟩, 21), (⟨"VectorPensModel", "findJoin", "()Z"⟩, 21), (⟨"VectorPensModel", "mayJoin", "(II)Z"⟩, 21), (⟨"VectorPensModel", "takesOut", "(I)V"⟩, 21), (⟨"VectorPensModel", "mayMove", "(III)Z"⟩, 21), (⟨"VectorPensModel", "splitsClosed", "(II)I"⟩, 21), (⟨"VectorPensModel", "splitsOpen", "(II)I"⟩, 21), (⟨"VectorPensModel", "ofStroke", "(II)I"⟩, 21), (⟨"VectorPensModel", "lengthOf", "(I)I"⟩, 21), (⟨"VectorPensModel", "pieces", "(I)I"⟩, 21), (⟨"VectorPensModel", "areaOf", "(I)I"⟩, 21)]
theorem lw_r3 : ∀ q ∈ lw_privs_3, lw_okq q := List.forall_mem_cons.mpr ⟨lw_p32, List.forall_mem_cons.mpr ⟨lw_p33, List.forall_mem_cons.mpr ⟨lw_p34, List.forall_mem_cons.mpr ⟨lw_p35, List.forall_mem_cons.mpr ⟨lw_p36, List.forall_mem_cons.mpr ⟨lw_p37, List.forall_mem_cons.mpr ⟨lw_p38, List.forall_mem_cons.mpr ⟨lw_p39, List.forall_mem_cons.mpr ⟨lw_p40, List.forall_mem_cons.mpr ⟨lw_p41, List.forall_mem_cons.mpr ⟨lw_p42, List.forall_mem_cons.mpr ⟨lw_p43, List.forall_mem_cons.mpr ⟨lw_p44, List.forall_mem_cons.mpr ⟨lw_p45, List.forall_mem_cons.mpr ⟨lw_p46, List.forall_mem_cons.mpr ⟨lw_p47, fun _ h => absurd h List.not_mem_nil⟩⟩⟩⟩⟩⟩⟩⟩⟩⟩⟩⟩⟩⟩⟩⟩
theorem lw_p48 : lw_okq (⟨"VectorPensModel", "crossingsOf", "(I)I"⟩, 21) := ⟨⟨by decide +kernel, by decide +kernel⟩, List.mem_of_getElem? (i := 620) (by decide +kernel), List.mem_of_getElem? (i := 938) (by decide +kernel), List.mem_of_getElem? (i := 939) (by decide +kernel)⟩
theorem lw_p49 : lw_okq (⟨"VectorPensModel", "areCrossing", "(IIII)Z"⟩, 21) := ⟨⟨by decide +kernel, by decide +kernel⟩, List.mem_of_getElem? (i := 620) (by decide +kernel), List.mem_of_getElem? (i := 942) (by decide +kernel), List.mem_of_getElem? (i := 943) (by decide +kernel)⟩
theorem lw_p50 : lw_okq (⟨"VectorPensModel", "bound", "(IZZ)I"⟩, 21) := ⟨⟨by decide +kernel, by decide +kernel⟩, List.mem_of_getElem? (i := 620) (by decide +kernel), List.mem_of_getElem? (i := 949) (by decide +kernel), List.mem_of_getElem? (i := 950) (by decide +kernel)⟩
theorem lw_p51 : lw_okq (⟨"VectorPensModel", "crossingsOfBoth", "(II)I"⟩, 21) := ⟨⟨by decide +kernel, by decide +kernel⟩, List.mem_of_getElem? (i := 620) (by decide +kernel), List.mem_of_getElem? (i := 961) (by decide +kernel), List.mem_of_getElem? (i := 962) (by decide +kernel)⟩
theorem lw_p52 : lw_okq (⟨"VectorPensModel", "findError", "()I"⟩, 21) := ⟨⟨by decide +kernel, by decide +kernel⟩, List.mem_of_getElem? (i := 620) (by decide +kernel), List.mem_of_getElem? (i := 1000) (by decide +kernel), List.mem_of_getElem? (i := 1001) (by decide +kernel)⟩
theorem lw_p53 : lw_okq (⟨"VectorPensModel", "readsStroke", "()Z"⟩, 21) := ⟨⟨by decide +kernel, by decide +kernel⟩, List.mem_of_getElem? (i := 620) (by decide +kernel), List.mem_of_getElem? (i := 1004) (by decide +kernel), List.mem_of_getElem? (i := 1005) (by decide +kernel)⟩
theorem lw_p54 : lw_okq (⟨"VectorPensModel", "readsPoint", "()Z"⟩, 21) := ⟨⟨by decide +kernel, by decide +kernel⟩, List.mem_of_getElem? (i := 620) (by decide +kernel), List.mem_of_getElem? (i := 1008) (by decide +kernel), List.mem_of_getElem? (i := 1009) (by decide +kernel)⟩
theorem lw_p55 : lw_okq (⟨"VectorPensModel", "readsNumber", "()Z"⟩, 21) := ⟨⟨by decide +kernel, by decide +kernel⟩, List.mem_of_getElem? (i := 620) (by decide +kernel), List.mem_of_getElem? (i := 1012) (by decide +kernel), List.mem_of_getElem? (i := 1013) (by decide +kernel)⟩
theorem lw_p56 : lw_okq (⟨"VectorPensModel", "character", "(I)I"⟩, 21) := ⟨⟨by decide +kernel, by decide +kernel⟩, List.mem_of_getElem? (i := 620) (by decide +kernel), List.mem_of_getElem? (i := 1016) (by decide +kernel), List.mem_of_getElem? (i := 1017) (by decide +kernel)⟩
theorem lw_p57 : lw_okq (⟨"VectorPensModel", "isNext", "(I)Z"⟩, 21) := ⟨⟨by decide +kernel, by decide +kernel⟩, List.mem_of_getElem? (i := 620) (by decide +kernel), List.mem_of_getElem? (i := 1020) (by decide +kernel), List.mem_of_getElem? (i := 1021) (by decide +kernel)⟩
theorem lw_p58 : lw_okq (⟨"VectorPensModel", "marks", "(I)V"⟩, 21) := ⟨⟨by decide +kernel, by decide +kernel⟩, List.mem_of_getElem? (i := 620) (by decide +kernel), List.mem_of_getElem? (i := 1024) (by decide +kernel), List.mem_of_getElem? (i := 1025) (by decide +kernel)⟩
theorem lw_p59 : lw_okq (⟨"VectorPensModel", "readsClosing", "()Z"⟩, 21) := ⟨⟨by decide +kernel, by decide +kernel⟩, List.mem_of_getElem? (i := 620) (by decide +kernel), List.mem_of_getElem? (i := 1028) (by decide +kernel), List.mem_of_getElem? (i := 1029) (by decide +kernel)⟩
theorem lw_p60 : lw_okq (⟨"VectorPensModel", "fails", "(III)I"⟩, 21) := ⟨⟨by decide +kernel, by decide +kernel⟩, List.mem_of_getElem? (i := 620) (by decide +kernel), List.mem_of_getElem? (i := 1036) (by decide +kernel), List.mem_of_getElem? (i := 1037) (by decide +kernel)⟩
def lw_privs_4 : List (MethodName × Nat) := [(⟨"VectorPensModel", "crossingsOf", "(I)I"⟩, 21), (⟨"VectorPensModel", "areCrossing", "(IIII)Z"⟩, 21), (⟨"VectorPensModel", "bound", "(IZZ)I"⟩, 21), (⟨"VectorPensModel", "crossingsOfBoth", "(II)I"⟩, 21), (⟨"VectorPensModel", "findError", "()I"⟩, 21), (⟨"VectorPensModel", "readsStroke", "()Z"⟩, 21), (⟨"VectorPensModel", "readsPoint", "()Z"⟩, 21), (⟨"VectorPensModel", "readsNumber", "()Z"⟩, 21), (⟨"VectorPensModel", "character", "(I)I"⟩, 21), (⟨"VectorPensModel", "isNext", "(I)Z"⟩, 21), (⟨"VectorPensModel", "marks", "(I)V"⟩, 21), (⟨"VectorPensModel", "readsClosing", "()Z"⟩, 21), (⟨"VectorPensModel", "fails", "(III)I"⟩, 21)]
theorem lw_r4 : ∀ q ∈ lw_privs_4, lw_okq q := List.forall_mem_cons.mpr ⟨lw_p48, List.forall_mem_cons.mpr ⟨lw_p49, List.forall_mem_cons.mpr ⟨lw_p50, List.forall_mem_cons.mpr ⟨lw_p51, List.forall_mem_cons.mpr ⟨lw_p52, List.forall_mem_cons.mpr ⟨lw_p53, List.forall_mem_cons.mpr ⟨lw_p54, List.forall_mem_cons.mpr ⟨lw_p55, List.forall_mem_cons.mpr ⟨lw_p56, List.forall_mem_cons.mpr ⟨lw_p57, List.forall_mem_cons.mpr ⟨lw_p58, List.forall_mem_cons.mpr ⟨lw_p59, List.forall_mem_cons.mpr ⟨lw_p60, fun _ h => absurd h List.not_mem_nil⟩⟩⟩⟩⟩⟩⟩⟩⟩⟩⟩⟩⟩
def lw_privs : List (MethodName × Nat) := lw_privs_1 ++ (lw_privs_2 ++ (lw_privs_3 ++ (lw_privs_4)))
def lw_tbl : List Cond := k2_sels lw_privs ++ tables_1
theorem lw_privs_ok : ∀ q ∈ lw_privs, lw_okq q := by
  show ∀ q ∈ lw_privs_1 ++ (lw_privs_2 ++ (lw_privs_3 ++ (lw_privs_4))), lw_okq q
  exact List.forall_mem_append.mpr ⟨lw_r1, List.forall_mem_append.mpr ⟨lw_r2, List.forall_mem_append.mpr ⟨lw_r3, lw_r4⟩⟩⟩
-- ===== whole numbers: an int or a long is named by a whole number =====
def I (x : Int) : Int32 := Int32.ofInt x
def J (x : Int) : Int64 := Int64.ofInt x
-- ===== classes, fields =====
def F_Drawing : u_T := fun k => match k with
  | 0 => ("VectorPens$Drawing", "list", "[LVectorPens$Stroke;", true)
  | 1 => ("VectorPens$Drawing", "pen", "LVectorPens$Stroke;", true)
  | _ => ("VectorPens$Drawing", "count", "I", false)
def t_Drawing : Nat → FieldType := fun k => match k with
  | 0 => .array (.object "VectorPens$Stroke")
  | 1 => .object "VectorPens$Stroke"
  | _ => .int
theorem n_Drawing : ∀ a, a < 3 → ∀ b, b < 3 → a ≠ b → (F_Drawing a).2.1 ≠ (F_Drawing b).2.1 := by decide +kernel
theorem t_Drawing_ok : ∀ k, k < 3 → parseFieldDescriptor (F_Drawing k).2.2.1 = some (t_Drawing k) := by decide +kernel
def F_History : u_T := fun k => match k with
  | 0 => ("VectorPens$History", "saved", "[LVectorPens$Drawing;", true)
  | _ => ("VectorPens$History", "count", "I", false)
def t_History : Nat → FieldType := fun k => match k with
  | 0 => .array (.object "VectorPens$Drawing")
  | _ => .int
theorem n_History : ∀ a, a < 2 → ∀ b, b < 2 → a ≠ b → (F_History a).2.1 ≠ (F_History b).2.1 := by decide +kernel
theorem t_History_ok : ∀ k, k < 2 → parseFieldDescriptor (F_History k).2.2.1 = some (t_History k) := by decide +kernel
def F_Stroke : u_T := fun k => match k with
  | 0 => ("VectorPens$Stroke", "points", "[I", true)
  | 1 => ("VectorPens$Stroke", "count", "I", false)
  | _ => ("VectorPens$Stroke", "closed", "Z", false)
def t_Stroke : Nat → FieldType := fun k => match k with
  | 0 => .array .int
  | 1 => .int
  | _ => .boolean
theorem n_Stroke : ∀ a, a < 3 → ∀ b, b < 3 → a ≠ b → (F_Stroke a).2.1 ≠ (F_Stroke b).2.1 := by decide +kernel
theorem t_Stroke_ok : ∀ k, k < 3 → parseFieldDescriptor (F_Stroke k).2.2.1 = some (t_Stroke k) := by decide +kernel
def F_Text : u_T := fun k => match k with
  | 0 => ("VectorPens$Text", "signs", "[C", true)
  | 1 => ("VectorPens$Text", "reading", "LVectorPens$Stroke;", true)
  | _ => ("VectorPens$Text", "length", "I", false)
def t_Text : Nat → FieldType := fun k => match k with
  | 0 => .array .char
  | 1 => .object "VectorPens$Stroke"
  | _ => .int
theorem n_Text : ∀ a, a < 3 → ∀ b, b < 3 → a ≠ b → (F_Text a).2.1 ≠ (F_Text b).2.1 := by decide +kernel
theorem t_Text_ok : ∀ k, k < 3 → parseFieldDescriptor (F_Text k).2.2.1 = some (t_Text k) := by decide +kernel
def F_Thinning : u_T := fun k => match k with
  | _ => ("VectorPens$Thinning", "levels", "[I", true)
def t_Thinning : Nat → FieldType := fun k => match k with
  | _ => .array .int
theorem n_Thinning : ∀ a, a < 1 → ∀ b, b < 1 → a ≠ b → (F_Thinning a).2.1 ≠ (F_Thinning b).2.1 := by decide +kernel
theorem t_Thinning_ok : ∀ k, k < 1 → parseFieldDescriptor (F_Thinning k).2.2.1 = some (t_Thinning k) := by decide +kernel
def F_Welding : u_T := fun k => match k with
  | 0 => ("VectorPens$Welding", "xs", "[I", true)
  | 1 => ("VectorPens$Welding", "ys", "[I", true)
  | 2 => ("VectorPens$Welding", "besides", "[I", true)
  | 3 => ("VectorPens$Welding", "sizes", "[I", true)
  | _ => ("VectorPens$Welding", "count", "I", false)
def t_Welding : Nat → FieldType := fun k => match k with
  | 0 => .array .int
  | 1 => .array .int
  | 2 => .array .int
  | 3 => .array .int
  | _ => .int
theorem n_Welding : ∀ a, a < 5 → ∀ b, b < 5 → a ≠ b → (F_Welding a).2.1 ≠ (F_Welding b).2.1 := by decide +kernel
theorem t_Welding_ok : ∀ k, k < 5 → parseFieldDescriptor (F_Welding k).2.2.1 = some (t_Welding k) := by decide +kernel
def F_Pens : u_T := fun k => match k with
  | 0 => ("VectorPens", "now", "LVectorPens$Drawing;", true)
  | 1 => ("VectorPens", "trial", "LVectorPens$Drawing;", true)
  | 2 => ("VectorPens", "spare", "LVectorPens$Stroke;", true)
  | 3 => ("VectorPens", "history", "LVectorPens$History;", true)
  | 4 => ("VectorPens", "thinning", "LVectorPens$Thinning;", true)
  | 5 => ("VectorPens", "welding", "LVectorPens$Welding;", true)
  | 6 => ("VectorPens", "text", "LVectorPens$Text;", true)
  | 7 => ("VectorPens", "failure", "I", false)
  | 8 => ("VectorPens", "failedStroke", "I", false)
  | _ => ("VectorPens", "failedPoint", "I", false)
def t_Pens : Nat → FieldType := fun k => match k with
  | 0 => .object "VectorPens$Drawing"
  | 1 => .object "VectorPens$Drawing"
  | 2 => .object "VectorPens$Stroke"
  | 3 => .object "VectorPens$History"
  | 4 => .object "VectorPens$Thinning"
  | 5 => .object "VectorPens$Welding"
  | 6 => .object "VectorPens$Text"
  | 7 => .int
  | 8 => .int
  | _ => .int
theorem n_Pens : ∀ a, a < 10 → ∀ b, b < 10 → a ≠ b → (F_Pens a).2.1 ≠ (F_Pens b).2.1 := by decide +kernel
theorem t_Pens_ok : ∀ k, k < 10 → parseFieldDescriptor (F_Pens k).2.2.1 = some (t_Pens k) := by decide +kernel
def F_Model : u_T := fun k => match k with
  | 0 => ("VectorPensModel", "state", "[I", true)
  | 1 => ("VectorPensModel", "kept", "[I", true)
  | 2 => ("VectorPensModel", "history", "[I", true)
  | 3 => ("VectorPensModel", "recorded", "I", false)
  | 4 => ("VectorPensModel", "text", "[I", true)
  | 5 => ("VectorPensModel", "textLength", "I", false)
  | 6 => ("VectorPensModel", "latest", "[I", true)
  | 7 => ("VectorPensModel", "isKept", "[I", true)
  | 8 => ("VectorPensModel", "from", "[I", true)
  | 9 => ("VectorPensModel", "to", "[I", true)
  | 10 => ("VectorPensModel", "open", "I", false)
  | 11 => ("VectorPensModel", "points", "[I", true)
  | 12 => ("VectorPensModel", "pointsMany", "I", false)
  | 13 => ("VectorPensModel", "firstEnd", "I", false)
  | 14 => ("VectorPensModel", "secondEnd", "I", false)
  | 15 => ("VectorPensModel", "at", "I", false)
  | 16 => ("VectorPensModel", "pointRead", "I", false)
  | 17 => ("VectorPensModel", "number", "I", false)
  | 18 => ("VectorPensModel", "strokeRead", "I", false)
  | 19 => ("VectorPensModel", "badStroke", "I", false)
  | _ => ("VectorPensModel", "badPoint", "I", false)
def t_Model : Nat → FieldType := fun k => match k with
  | 0 => .array .int
  | 1 => .array .int
  | 2 => .array .int
  | 3 => .int
  | 4 => .array .int
  | 5 => .int
  | 6 => .array .int
  | 7 => .array .int
  | 8 => .array .int
  | 9 => .array .int
  | 10 => .int
  | 11 => .array .int
  | 12 => .int
  | 13 => .int
  | 14 => .int
  | 15 => .int
  | 16 => .int
  | 17 => .int
  | 18 => .int
  | 19 => .int
  | _ => .int
theorem n_Model : ∀ a, a < 21 → ∀ b, b < 21 → a ≠ b → (F_Model a).2.1 ≠ (F_Model b).2.1 := by decide +kernel
theorem t_Model_ok : ∀ k, k < 21 → parseFieldDescriptor (F_Model k).2.2.1 = some (t_Model k) := by decide +kernel
abbrev g_cls : List vw_C := [("VectorPens$Drawing", F_Drawing, 3), ("VectorPens$History", F_History, 2), ("VectorPens$Stroke", F_Stroke, 3), ("VectorPens$Text", F_Text, 3), ("VectorPens$Thinning", F_Thinning, 1), ("VectorPens$Welding", F_Welding, 5), ("VectorPens", F_Pens, 10), ("VectorPensModel", F_Model, 21)]
/-- the default fields of a new object -/
def g_dflt (ci : Nat) : List Value := match ci with
  | 0 => [.null, .null, .int (I 0)]
  | 1 => [.null, .int (I 0)]
  | 2 => [.null, .int (I 0), .int (I 0)]
  | 3 => [.null, .null, .int (I 0)]
  | 4 => [.null]
  | 5 => [.null, .null, .null, .null, .int (I 0)]
  | 6 => [.null, .null, .null, .null, .null, .null, .null, .int (I 0), .int (I 0), .int (I 0)]
  | _ => [.null, .null, .null, .int (I 0), .null, .int (I 0), .null, .null, .null, .null, .int (I 0), .null, .int (I 0), .int (I 0), .int (I 0), .int (I 0), .int (I 0), .int (I 0), .int (I 0), .int (I 0), .int (I 0)]
def g_fty (ci : Nat) : Nat → FieldType := match ci with
  | 0 => t_Drawing
  | 1 => t_History
  | 2 => t_Stroke
  | 3 => t_Text
  | 4 => t_Thinning
  | 5 => t_Welding
  | 6 => t_Pens
  | _ => t_Model
/-- the places of a class's lays words -/
def g_lay (ci k : Nat) : Nat := match ci with
  | 0 => [1065, 1067, 1069].getD k 0
  | 1 => [1086, 1088].getD k 0
  | 2 => [1049, 1051, 1053].getD k 0
  | 3 => [1135, 1137, 1139].getD k 0
  | 4 => [1098].getD k 0
  | 5 => [1112, 1114, 1116, 1118, 1120].getD k 0
  | 6 => [1153, 1155, 1157, 1159, 1161, 1163, 1165, 1167, 1169, 1171].getD k 0
  | _ => [3166, 3168, 3170, 3172, 3174, 3176, 3178, 3180, 3182, 3184, 3186, 3188, 3190, 3192, 3194, 3196, 3198, 3200, 3202, 3204, 3206].getD k 0
def g_ini (ci : Nat) : Nat := match ci with
  | 0 => 1002
  | 1 => 1004
  | 2 => 1003
  | 3 => 1007
  | 4 => 1005
  | 5 => 1006
  | 6 => 1001
  | _ => 1008
def g_ins (ci : Nat) : Nat := match ci with
  | 0 => 1023
  | 1 => 1075
  | 2 => 1030
  | 3 => 1124
  | 4 => 1092
  | 5 => 1102
  | 6 => 1015
  | _ => 3140
/-- the tables' word at a place: 1000 * (the list) + (the place in it) -/
def g_w (n : Nat) : Option Cond := match n / 1000 with
  | 0 => (k2_sels lw_privs)[n % 1000]?
  | 1 => tables_1_1[n % 1000]?
  | 2 => tables_1_2[n % 1000]?
  | 3 => tables_1_3[n % 1000]?
  | 4 => tables_1_4[n % 1000]?
  | 5 => tables_1_5[n % 1000]?
  | _ => none
theorem g_w_mem {n : Nat} {w : Cond} (h : g_w n = some w) : w ∈ lw_tbl := by
  unfold g_w at h
  have ht : ∀ w, w ∈ tables_1 → w ∈ lw_tbl := fun w hw => List.mem_append_right _ hw
  split at h
  · exact List.mem_append_left _ (List.mem_of_getElem? h)
  · exact ht _ (List.mem_append_left _ (List.mem_of_getElem? h))
  · exact ht _ (List.mem_append_right _ (List.mem_append_left _ (List.mem_of_getElem? h)))
  · exact ht _ (List.mem_append_right _ (List.mem_append_right _ (List.mem_append_left _ (List.mem_of_getElem? h))))
  · exact ht _ (List.mem_append_right _ (List.mem_append_right _ (List.mem_append_right _ (List.mem_append_left _ (List.mem_of_getElem? h)))))
  · exact ht _ (List.mem_append_right _ (List.mem_append_right _ (List.mem_append_right _ (List.mem_append_right _ (List.mem_of_getElem? h)))))
  · cases h
-- ===== methods: name, code, greatest number of locals, what it returns; places of its words: code, static or instance, selects, initialized =====
abbrev g_M : Type := MethodName × ByteArray × Nat × Option FieldType × Nat × Nat × Nat × Nat × Nat
abbrev Drawing_init : Nat := 0
def m_Drawing_init : g_M := (⟨"VectorPens$Drawing", "<init>", "()V"⟩, prog_2_method_1_code, 2, none, 1026, 1025, 0, 1002, 0)
abbrev Drawing_find : Nat := 1
def m_Drawing_find : g_M := (⟨"VectorPens$Drawing", "find", "(I)LVectorPens$Stroke;"⟩, prog_2_method_2_code, 2, (some (.object "VectorPens$Stroke")), 1196, 1194, 1195, 1002, 1)
abbrev Drawing_append : Nat := 2
def m_Drawing_append : g_M := (⟨"VectorPens$Drawing", "append", "(LVectorPens$Stroke;)V"⟩, prog_2_method_3_code, 3, none, 1200, 1198, 1199, 1002, 1)
abbrev Drawing_bringLast : Nat := 3
def m_Drawing_bringLast : g_M := (⟨"VectorPens$Drawing", "bringLast", "(I)V"⟩, prog_2_method_4_code, 4, none, 2175, 2173, 2174, 1002, 1)
abbrev Drawing_drop : Nat := 4
def m_Drawing_drop : g_M := (⟨"VectorPens$Drawing", "drop", "(I)V"⟩, prog_2_method_5_code, 2, none, 2171, 2169, 2170, 1002, 1)
abbrev Drawing_copyFrom : Nat := 5
def m_Drawing_copyFrom : g_M := (⟨"VectorPens$Drawing", "copyFrom", "(LVectorPens$Drawing;)V"⟩, prog_2_method_6_code, 4, none, 1192, 1190, 1191, 1002, 1)
abbrev History_init : Nat := 6
def m_History_init : g_M := (⟨"VectorPens$History", "<init>", "()V"⟩, prog_3_method_1_code, 2, none, 1078, 1077, 0, 1004, 0)
abbrev History_save : Nat := 7
def m_History_save : g_M := (⟨"VectorPens$History", "save", "(LVectorPens$Drawing;)V"⟩, prog_3_method_2_code, 3, none, 1184, 1182, 1183, 1004, 1)
abbrev History_discardOldest : Nat := 8
def m_History_discardOldest : g_M := (⟨"VectorPens$History", "discardOldest", "()V"⟩, prog_3_method_3_code, 3, none, 1188, 1187, 0, 1004, 0)
abbrev History_restore : Nat := 9
def m_History_restore : g_M := (⟨"VectorPens$History", "restore", "(LVectorPens$Drawing;)V"⟩, prog_3_method_4_code, 3, none, 3132, 3130, 3131, 1004, 1)
abbrev Joining_joinEnds : Nat := 10
def m_Joining_joinEnds : g_M := (⟨"VectorPens$Joining", "joinEnds", "(LVectorPens$Drawing;)V"⟩, prog_4_method_2_code, 2, none, 2135, 2134, 0, 1011, 1)
abbrev Joining_joinFirst : Nat := 11
def m_Joining_joinFirst : g_M := (⟨"VectorPens$Joining", "joinFirst", "(LVectorPens$Drawing;)Z"⟩, prog_4_method_3_code, 4, (some .boolean), 2138, 2137, 0, 1011, 1)
abbrev Joining_closeUp : Nat := 12
def m_Joining_closeUp : g_M := (⟨"VectorPens$Joining", "closeUp", "(LVectorPens$Drawing;I)Z"⟩, prog_4_method_4_code, 3, (some .boolean), 2150, 2149, 0, 1011, 2)
abbrev Joining_joinTwo : Nat := 13
def m_Joining_joinTwo : g_M := (⟨"VectorPens$Joining", "joinTwo", "(LVectorPens$Drawing;II)Z"⟩, prog_4_method_5_code, 6, (some .boolean), 2161, 2160, 0, 1011, 3)
abbrev Joining_isOpenEnd : Nat := 14
def m_Joining_isOpenEnd : g_M := (⟨"VectorPens$Joining", "isOpenEnd", "(LVectorPens$Drawing;I)Z"⟩, prog_4_method_6_code, 3, (some .boolean), 2141, 2140, 0, 1011, 2)
abbrev Joining_endOf : Nat := 15
def m_Joining_endOf : g_M := (⟨"VectorPens$Joining", "endOf", "(LVectorPens$Drawing;I)I"⟩, prog_4_method_7_code, 3, (some .int), 2145, 2144, 0, 1011, 2)
abbrev Measures_figure : Nat := 16
def m_Measures_figure : g_M := (⟨"VectorPens$Measures", "figure", "(LVectorPens$Stroke;I)I"⟩, prog_5_method_2_code, 2, (some .int), 2236, 2235, 0, 1012, 2)
abbrev Measures_lengthOf : Nat := 17
def m_Measures_lengthOf : g_M := (⟨"VectorPens$Measures", "lengthOf", "(LVectorPens$Stroke;)I"⟩, prog_5_method_3_code, 3, (some .int), 2239, 2238, 0, 1012, 1)
abbrev Measures_turningSum : Nat := 18
def m_Measures_turningSum : g_M := (⟨"VectorPens$Measures", "turningSum", "(LVectorPens$Stroke;)I"⟩, prog_5_method_4_code, 5, (some .int), 3008, 3007, 0, 1012, 1)
abbrev Measures_bound : Nat := 19
def m_Measures_bound : g_M := (⟨"VectorPens$Measures", "bound", "(LVectorPens$Stroke;ZZ)I"⟩, prog_5_method_5_code, 6, (some .int), 3029, 3028, 0, 1012, 3)
abbrev Measures_crossingsWithItself : Nat := 20
def m_Measures_crossingsWithItself : g_M := (⟨"VectorPens$Measures", "crossingsWithItself", "(LVectorPens$Stroke;)I"⟩, prog_5_method_6_code, 3, (some .int), 3019, 3018, 0, 1012, 1)
abbrev Measures_crossingsOfTwo : Nat := 21
def m_Measures_crossingsOfTwo : g_M := (⟨"VectorPens$Measures", "crossingsOfTwo", "(LVectorPens$Stroke;LVectorPens$Stroke;)I"⟩, prog_5_method_7_code, 4, (some .int), 3043, 3042, 0, 1012, 2)
abbrev Measures_crossingsOfPiece : Nat := 22
def m_Measures_crossingsOfPiece : g_M := (⟨"VectorPens$Measures", "crossingsOfPiece", "(IILVectorPens$Stroke;I)I"⟩, prog_5_method_8_code, 6, (some .int), 3022, 3021, 0, 1012, 4)
abbrev Measures_surrounds : Nat := 23
def m_Measures_surrounds : g_M := (⟨"VectorPens$Measures", "surrounds", "(LVectorPens$Stroke;II)Z"⟩, prog_5_method_9_code, 5, (some .boolean), 3055, 3054, 0, 1012, 3)
abbrev Measures_rayMeets : Nat := 24
def m_Measures_rayMeets : g_M := (⟨"VectorPens$Measures", "rayMeets", "(IIII)Z"⟩, prog_5_method_10_code, 6, (some .boolean), 3058, 3057, 0, 1012, 4)
abbrev Plane_isPlace : Nat := 25
def m_Plane_isPlace : g_M := (⟨"VectorPens$Plane", "isPlace", "(II)Z"⟩, prog_6_method_2_code, 2, (some .boolean), 1180, 1179, 0, 1009, 2)
abbrev Plane_told : Nat := 26
def m_Plane_told : g_M := (⟨"VectorPens$Plane", "told", "(II)I"⟩, prog_6_method_3_code, 2, (some .int), 1215, 1214, 0, 1009, 2)
abbrev Plane_xOf : Nat := 27
def m_Plane_xOf : g_M := (⟨"VectorPens$Plane", "xOf", "(I)I"⟩, prog_6_method_4_code, 1, (some .int), 2031, 2030, 0, 1009, 1)
abbrev Plane_yOf : Nat := 28
def m_Plane_yOf : g_M := (⟨"VectorPens$Plane", "yOf", "(I)I"⟩, prog_6_method_5_code, 1, (some .int), 2034, 2033, 0, 1009, 1)
abbrev Plane_squaredDistance : Nat := 29
def m_Plane_squaredDistance : g_M := (⟨"VectorPens$Plane", "squaredDistance", "(II)I"⟩, prog_6_method_6_code, 4, (some .int), 2028, 2027, 0, 1009, 2)
abbrev Plane_cross : Nat := 30
def m_Plane_cross : g_M := (⟨"VectorPens$Plane", "cross", "(III)I"⟩, prog_6_method_7_code, 5, (some .int), 2056, 2055, 0, 1009, 3)
abbrev Plane_piecesCross : Nat := 31
def m_Plane_piecesCross : g_M := (⟨"VectorPens$Plane", "piecesCross", "(IIII)Z"⟩, prog_6_method_8_code, 4, (some .boolean), 3025, 3024, 0, 1009, 4)
abbrev Plane_root : Nat := 32
def m_Plane_root : g_M := (⟨"VectorPens$Plane", "root", "(J)I"⟩, prog_6_method_9_code, 6, (some .int), 2068, 2067, 0, 1009, 1)
abbrev Stroke_init : Nat := 33
def m_Stroke_init : g_M := (⟨"VectorPens$Stroke", "<init>", "()V"⟩, prog_7_method_1_code, 1, none, 1033, 1032, 0, 1003, 0)
abbrev Stroke_at : Nat := 34
def m_Stroke_at : g_M := (⟨"VectorPens$Stroke", "at", "(I)I"⟩, prog_7_method_2_code, 2, (some .int), 1208, 1206, 1207, 1003, 1)
abbrev Stroke_put : Nat := 35
def m_Stroke_put : g_M := (⟨"VectorPens$Stroke", "put", "(II)V"⟩, prog_7_method_3_code, 3, none, 1212, 1210, 1211, 1003, 2)
abbrev Stroke_add : Nat := 36
def m_Stroke_add : g_M := (⟨"VectorPens$Stroke", "add", "(I)V"⟩, prog_7_method_4_code, 2, none, 1219, 1217, 1218, 1003, 1)
abbrev Stroke_empty : Nat := 37
def m_Stroke_empty : g_M := (⟨"VectorPens$Stroke", "empty", "()V"⟩, prog_7_method_5_code, 1, none, 1236, 1234, 1235, 1003, 0)
abbrev Stroke_shorten : Nat := 38
def m_Stroke_shorten : g_M := (⟨"VectorPens$Stroke", "shorten", "(I)V"⟩, prog_7_method_6_code, 2, none, 2154, 2152, 2153, 1003, 1)
abbrev Stroke_copyFrom : Nat := 39
def m_Stroke_copyFrom : g_M := (⟨"VectorPens$Stroke", "copyFrom", "(LVectorPens$Stroke;)V"⟩, prog_7_method_7_code, 3, none, 1204, 1202, 1203, 1003, 1)
abbrev Stroke_firstPoint : Nat := 40
def m_Stroke_firstPoint : g_M := (⟨"VectorPens$Stroke", "firstPoint", "()I"⟩, prog_7_method_8_code, 1, (some .int), 2024, 2022, 2023, 1003, 0)
abbrev Stroke_lastPoint : Nat := 41
def m_Stroke_lastPoint : g_M := (⟨"VectorPens$Stroke", "lastPoint", "()I"⟩, prog_7_method_9_code, 1, (some .int), 1227, 1225, 1226, 1003, 0)
abbrev Stroke_around : Nat := 42
def m_Stroke_around : g_M := (⟨"VectorPens$Stroke", "around", "(I)I"⟩, prog_7_method_10_code, 2, (some .int), 2050, 2048, 2049, 1003, 1)
abbrev Stroke_pieceCount : Nat := 43
def m_Stroke_pieceCount : g_M := (⟨"VectorPens$Stroke", "pieceCount", "()I"⟩, prog_7_method_11_code, 1, (some .int), 2013, 2011, 2012, 1003, 0)
abbrev Stroke_turnRound : Nat := 44
def m_Stroke_turnRound : g_M := (⟨"VectorPens$Stroke", "turnRound", "()V"⟩, prog_7_method_12_code, 4, none, 2165, 2163, 2164, 1003, 0)
abbrev Stroke_repeatedPoint : Nat := 45
def m_Stroke_repeatedPoint : g_M := (⟨"VectorPens$Stroke", "repeatedPoint", "()I"⟩, prog_7_method_13_code, 2, (some .int), 2079, 2077, 2078, 1003, 0)
abbrev Text_init : Nat := 46
def m_Text_init : g_M := (⟨"VectorPens$Text", "<init>", "()V"⟩, prog_8_method_1_code, 1, none, 1127, 1126, 0, 1007, 0)
abbrev Text_add : Nat := 47
def m_Text_add : g_M := (⟨"VectorPens$Text", "add", "(C)V"⟩, prog_8_method_2_code, 2, none, 3081, 3079, 3080, 1007, 1)
abbrev Text_signAt : Nat := 48
def m_Text_signAt : g_M := (⟨"VectorPens$Text", "signAt", "(I)C"⟩, prog_8_method_3_code, 2, (some .char), 3097, 3096, 12, 1007, 1)
abbrev Text_isDigit : Nat := 49
def m_Text_isDigit : g_M := (⟨"VectorPens$Text", "isDigit", "(C)Z"⟩, prog_8_method_4_code, 1, (some .boolean), 3103, 3102, 0, 1007, 1)
abbrev Text_firstError : Nat := 50
def m_Text_firstError : g_M := (⟨"VectorPens$Text", "firstError", "()I"⟩, prog_8_method_5_code, 5, (some .int), 3093, 3091, 3092, 1007, 0)
abbrev Text_nextState : Nat := 51
def m_Text_nextState : g_M := (⟨"VectorPens$Text", "nextState", "(ICI)I"⟩, prog_8_method_6_code, 3, (some .int), 3100, 3099, 0, 1007, 3)
abbrev Text_parseInto : Nat := 52
def m_Text_parseInto : g_M := (⟨"VectorPens$Text", "parseInto", "(LVectorPens$Drawing;)V"⟩, prog_8_method_7_code, 6, none, 3115, 3113, 3114, 1007, 1)
abbrev Thinning_init : Nat := 53
def m_Thinning_init : g_M := (⟨"VectorPens$Thinning", "<init>", "()V"⟩, prog_9_method_1_code, 1, none, 1095, 1094, 0, 1005, 0)
abbrev Thinning_measure : Nat := 54
def m_Thinning_measure : g_M := (⟨"VectorPens$Thinning", "measure", "(LVectorPens$Stroke;)V"⟩, prog_9_method_2_code, 8, none, 2009, 2007, 2008, 1005, 1)
abbrev Thinning_thin : Nat := 55
def m_Thinning_thin : g_M := (⟨"VectorPens$Thinning", "thin", "(LVectorPens$Stroke;ILVectorPens$Stroke;)V"⟩, prog_9_method_3_code, 5, none, 2073, 2071, 2072, 1005, 3)
abbrev Thinning_levelOf : Nat := 56
def m_Thinning_levelOf : g_M := (⟨"VectorPens$Thinning", "levelOf", "(I)I"⟩, prog_9_method_4_code, 2, (some .int), 2042, 2041, 3, 1005, 1)
abbrev Thinning_setLevel : Nat := 57
def m_Thinning_setLevel : g_M := (⟨"VectorPens$Thinning", "setLevel", "(II)V"⟩, prog_9_method_5_code, 3, none, 2017, 2016, 1, 1005, 2)
abbrev Thinning_nextWithLevel : Nat := 58
def m_Thinning_nextWithLevel : g_M := (⟨"VectorPens$Thinning", "nextWithLevel", "(II)I"⟩, prog_9_method_6_code, 4, (some .int), 2038, 2037, 2, 1005, 2)
abbrev Thinning_farthestFromFirst : Nat := 59
def m_Thinning_farthestFromFirst : g_M := (⟨"VectorPens$Thinning", "farthestFromFirst", "(LVectorPens$Stroke;)I"⟩, prog_9_method_7_code, 5, (some .int), 2020, 2019, 0, 1005, 1)
abbrev Thinning_farthestBetween : Nat := 60
def m_Thinning_farthestBetween : g_M := (⟨"VectorPens$Thinning", "farthestBetween", "(LVectorPens$Stroke;II)I"⟩, prog_9_method_8_code, 9, (some .int), 2045, 2044, 0, 1005, 3)
abbrev Thinning_squaredOffset : Nat := 61
def m_Thinning_squaredOffset : g_M := (⟨"VectorPens$Thinning", "squaredOffset", "(III)J"⟩, prog_9_method_9_code, 5, (some .long), 2053, 2052, 0, 1005, 3)
abbrev Thinning_scale : Nat := 62
def m_Thinning_scale : g_M := (⟨"VectorPens$Thinning", "scale", "(II)J"⟩, prog_9_method_10_code, 2, (some .long), 2065, 2064, 0, 1005, 2)
abbrev Thinning_ownLevel : Nat := 63
def m_Thinning_ownLevel : g_M := (⟨"VectorPens$Thinning", "ownLevel", "(LVectorPens$Stroke;III)I"⟩, prog_9_method_11_code, 8, (some .int), 2062, 2061, 0, 1005, 4)
abbrev Welding_init : Nat := 64
def m_Welding_init : g_M := (⟨"VectorPens$Welding", "<init>", "()V"⟩, prog_10_method_1_code, 1, none, 1105, 1104, 0, 1006, 0)
abbrev Welding_weldEnds : Nat := 65
def m_Welding_weldEnds : g_M := (⟨"VectorPens$Welding", "weldEnds", "(LVectorPens$Drawing;I)I"⟩, prog_10_method_2_code, 4, (some .int), 2091, 2089, 2090, 1006, 2)
abbrev Welding_takeEnds : Nat := 66
def m_Welding_takeEnds : g_M := (⟨"VectorPens$Welding", "takeEnds", "(LVectorPens$Drawing;)V"⟩, prog_10_method_3_code, 4, none, 2095, 2094, 4, 1006, 1)
abbrev Welding_addEnd : Nat := 67
def m_Welding_addEnd : g_M := (⟨"VectorPens$Welding", "addEnd", "(III)V"⟩, prog_10_method_4_code, 4, none, 2102, 2101, 5, 1006, 3)
abbrev Welding_giveEnds : Nat := 68
def m_Welding_giveEnds : g_M := (⟨"VectorPens$Welding", "giveEnds", "(LVectorPens$Drawing;)V"⟩, prog_10_method_5_code, 5, none, 2127, 2126, 9, 1006, 1)
abbrev Welding_weldNearest : Nat := 69
def m_Welding_weldNearest : g_M := (⟨"VectorPens$Welding", "weldNearest", "(I)Z"⟩, prog_10_method_6_code, 11, (some .boolean), 2110, 2109, 6, 1006, 1)
abbrev Welding_middle : Nat := 70
def m_Welding_middle : g_M := (⟨"VectorPens$Welding", "middle", "(II)I"⟩, prog_10_method_7_code, 2, (some .int), 2118, 2117, 0, 1006, 2)
abbrev Welding_mayWeld : Nat := 71
def m_Welding_mayWeld : g_M := (⟨"VectorPens$Welding", "mayWeld", "(II)Z"⟩, prog_10_method_8_code, 4, (some .boolean), 2115, 2114, 7, 1006, 2)
abbrev Welding_putEnd : Nat := 72
def m_Welding_putEnd : g_M := (⟨"VectorPens$Welding", "putEnd", "(III)V"⟩, prog_10_method_9_code, 5, none, 2123, 2122, 8, 1006, 3)
abbrev Pens_init : Nat := 73
def m_Pens_init : g_M := (⟨"VectorPens", "<init>", "()V"⟩, prog_1_method_1_code, 1, none, 1018, 1017, 0, 1001, 0)
abbrev Pens_down : Nat := 74
def m_Pens_down : g_M := (⟨"VectorPens", "down", "(II)I"⟩, prog_1_method_2_code, 3, (some .int), 1177, 1175, 1176, 1001, 2)
abbrev Pens_draw : Nat := 75
def m_Pens_draw : g_M := (⟨"VectorPens", "draw", "(II)I"⟩, prog_1_method_3_code, 3, (some .int), 1223, 1221, 1222, 1001, 2)
abbrev Pens_lift : Nat := 76
def m_Pens_lift : g_M := (⟨"VectorPens", "lift", "()I"⟩, prog_1_method_4_code, 3, (some .int), 1231, 1229, 1230, 1001, 0)
abbrev Pens_line : Nat := 77
def m_Pens_line : g_M := (⟨"VectorPens", "line", "()I"⟩, prog_1_method_5_code, 1, (some .int), 2000, 1238, 1239, 1001, 0)
abbrev Pens_simplify : Nat := 78
def m_Pens_simplify : g_M := (⟨"VectorPens", "simplify", "(II)I"⟩, prog_1_method_6_code, 4, (some .int), 2004, 2002, 2003, 1001, 2)
abbrev Pens_weld : Nat := 79
def m_Pens_weld : g_M := (⟨"VectorPens", "weld", "(I)I"⟩, prog_1_method_7_code, 2, (some .int), 2087, 2085, 2086, 1001, 1)
abbrev Pens_joinAll : Nat := 80
def m_Pens_joinAll : g_M := (⟨"VectorPens", "joinAll", "()I"⟩, prog_1_method_8_code, 1, (some .int), 2132, 2130, 2131, 1001, 0)
abbrev Pens_move : Nat := 81
def m_Pens_move : g_M := (⟨"VectorPens", "move", "(III)I"⟩, prog_1_method_9_code, 8, (some .int), 2180, 2178, 2179, 1001, 3)
abbrev Pens_turn : Nat := 82
def m_Pens_turn : g_M := (⟨"VectorPens", "turn", "(II)I"⟩, prog_1_method_10_code, 11, (some .int), 2193, 2191, 2192, 1001, 2)
abbrev Pens_reverse : Nat := 83
def m_Pens_reverse : g_M := (⟨"VectorPens", "reverse", "(I)I"⟩, prog_1_method_11_code, 3, (some .int), 2197, 2195, 2196, 1001, 1)
abbrev Pens_close : Nat := 84
def m_Pens_close : g_M := (⟨"VectorPens", "close", "(I)I"⟩, prog_1_method_12_code, 3, (some .int), 2202, 2200, 2201, 1001, 1)
abbrev Pens_split : Nat := 85
def m_Pens_split : g_M := (⟨"VectorPens", "split", "(II)I"⟩, prog_1_method_13_code, 4, (some .int), 2206, 2204, 2205, 1001, 2)
abbrev Pens_openAt : Nat := 86
def m_Pens_openAt : g_M := (⟨"VectorPens", "openAt", "(LVectorPens$Stroke;I)V"⟩, prog_1_method_14_code, 4, none, 2210, 2209, 10, 1001, 2)
abbrev Pens_cutAt : Nat := 87
def m_Pens_cutAt : g_M := (⟨"VectorPens", "cutAt", "(LVectorPens$Stroke;I)V"⟩, prog_1_method_15_code, 4, none, 2214, 2213, 11, 1001, 2)
abbrev Pens_remove : Nat := 88
def m_Pens_remove : g_M := (⟨"VectorPens", "remove", "(I)I"⟩, prog_1_method_16_code, 2, (some .int), 2219, 2217, 2218, 1001, 1)
abbrev Pens_toTop : Nat := 89
def m_Pens_toTop : g_M := (⟨"VectorPens", "toTop", "(I)I"⟩, prog_1_method_17_code, 2, (some .int), 2224, 2222, 2223, 1001, 1)
abbrev Pens_strokes : Nat := 90
def m_Pens_strokes : g_M := (⟨"VectorPens", "strokes", "()I"⟩, prog_1_method_18_code, 1, (some .int), 2229, 2227, 2228, 1001, 0)
abbrev Pens_of : Nat := 91
def m_Pens_of : g_M := (⟨"VectorPens", "of", "(II)I"⟩, prog_1_method_19_code, 4, (some .int), 2233, 2231, 2232, 1001, 2)
abbrev Pens_point : Nat := 92
def m_Pens_point : g_M := (⟨"VectorPens", "point", "(II)I"⟩, prog_1_method_20_code, 4, (some .int), 3036, 3034, 3035, 1001, 2)
abbrev Pens_crossings : Nat := 93
def m_Pens_crossings : g_M := (⟨"VectorPens", "crossings", "(II)I"⟩, prog_1_method_21_code, 5, (some .int), 3040, 3038, 3039, 1001, 2)
abbrev Pens_nearest : Nat := 94
def m_Pens_nearest : g_M := (⟨"VectorPens", "nearest", "(II)I"⟩, prog_1_method_22_code, 10, (some .int), 3047, 3045, 3046, 1001, 2)
abbrev Pens_isInside : Nat := 95
def m_Pens_isInside : g_M := (⟨"VectorPens", "isInside", "(III)I"⟩, prog_1_method_23_code, 5, (some .int), 3052, 3050, 3051, 1001, 3)
abbrev Pens_ifSimplified : Nat := 96
def m_Pens_ifSimplified : g_M := (⟨"VectorPens", "ifSimplified", "(II)I"⟩, prog_1_method_24_code, 4, (some .int), 3064, 3062, 3063, 1001, 2)
abbrev Pens_toleranceFor : Nat := 97
def m_Pens_toleranceFor : g_M := (⟨"VectorPens", "toleranceFor", "(II)I"⟩, prog_1_method_25_code, 5, (some .int), 3068, 3066, 3067, 1001, 2)
abbrev Pens_ifWelded : Nat := 98
def m_Pens_ifWelded : g_M := (⟨"VectorPens", "ifWelded", "(I)I"⟩, prog_1_method_26_code, 2, (some .int), 3072, 3070, 3071, 1001, 1)
abbrev Pens_type : Nat := 99
def m_Pens_type : g_M := (⟨"VectorPens", "type", "(I)I"⟩, prog_1_method_27_code, 2, (some .int), 3077, 3075, 3076, 1001, 1)
abbrev Pens_clearText : Nat := 100
def m_Pens_clearText : g_M := (⟨"VectorPens", "clearText", "()I"⟩, prog_1_method_28_code, 2, (some .int), 3085, 3083, 3084, 1001, 0)
abbrev Pens_syntaxError : Nat := 101
def m_Pens_syntaxError : g_M := (⟨"VectorPens", "syntaxError", "()I"⟩, prog_1_method_29_code, 1, (some .int), 3089, 3087, 3088, 1001, 0)
abbrev Pens_read : Nat := 102
def m_Pens_read : g_M := (⟨"VectorPens", "read", "()I"⟩, prog_1_method_30_code, 4, (some .int), 3107, 3105, 3106, 1001, 0)
abbrev Pens_fail : Nat := 103
def m_Pens_fail : g_M := (⟨"VectorPens", "fail", "(III)I"⟩, prog_1_method_31_code, 4, (some .int), 3111, 3110, 13, 1001, 3)
abbrev Pens_problem : Nat := 104
def m_Pens_problem : g_M := (⟨"VectorPens", "problem", "(I)I"⟩, prog_1_method_32_code, 2, (some .int), 3124, 3122, 3123, 1001, 1)
abbrev Pens_undo : Nat := 105
def m_Pens_undo : g_M := (⟨"VectorPens", "undo", "()I"⟩, prog_1_method_33_code, 1, (some .int), 3128, 3126, 3127, 1001, 0)
abbrev Pens_digest : Nat := 106
def m_Pens_digest : g_M := (⟨"VectorPens", "digest", "()J"⟩, prog_1_method_34_code, 7, (some .long), 3136, 3134, 3135, 1001, 0)
abbrev Model_init : Nat := 107
def m_Model_init : g_M := (⟨"VectorPensModel", "<init>", "()V"⟩, prog_12_method_1_code, 1, none, 3143, 3142, 0, 1008, 0)
abbrev Model_within : Nat := 108
def m_Model_within : g_M := (⟨"VectorPensModel", "within", "(III)Z"⟩, prog_12_method_3_code, 3, (some .boolean), 3221, 3220, 0, 1008, 3)
abbrev Model_copies : Nat := 109
def m_Model_copies : g_M := (⟨"VectorPensModel", "copies", "([II[II)V"⟩, prog_12_method_4_code, 5, none, 3228, 3227, 0, 1008, 4)
abbrev Model_record : Nat := 110
def m_Model_record : g_M := (⟨"VectorPensModel", "record", "()V"⟩, prog_12_method_5_code, 2, none, 3225, 3224, 14, 1008, 0)
abbrev Model_isCoordinate : Nat := 111
def m_Model_isCoordinate : g_M := (⟨"VectorPensModel", "isCoordinate", "(I)Z"⟩, prog_12_method_6_code, 1, (some .boolean), 3218, 3217, 0, 1008, 1)
abbrev Model_isPlace : Nat := 112
def m_Model_isPlace : g_M := (⟨"VectorPensModel", "isPlace", "(II)Z"⟩, prog_12_method_7_code, 2, (some .boolean), 3215, 3214, 0, 1008, 2)
abbrev Model_pointOf : Nat := 113
def m_Model_pointOf : g_M := (⟨"VectorPensModel", "pointOf", "(II)I"⟩, prog_12_method_8_code, 2, (some .int), 3231, 3230, 0, 1008, 2)
abbrev Model_xOf : Nat := 114
def m_Model_xOf : g_M := (⟨"VectorPensModel", "xOf", "(I)I"⟩, prog_12_method_9_code, 1, (some .int), 4060, 4059, 0, 1008, 1)
abbrev Model_yOf : Nat := 115
def m_Model_yOf : g_M := (⟨"VectorPensModel", "yOf", "(I)I"⟩, prog_12_method_10_code, 1, (some .int), 4063, 4062, 0, 1008, 1)
abbrev Model_isStroke : Nat := 116
def m_Model_isStroke : g_M := (⟨"VectorPensModel", "isStroke", "(I)Z"⟩, prog_12_method_11_code, 2, (some .boolean), 4023, 4022, 18, 1008, 1)
abbrev Model_part : Nat := 117
def m_Model_part : g_M := (⟨"VectorPensModel", "part", "(II)I"⟩, prog_12_method_12_code, 3, (some .int), 4042, 4041, 22, 1008, 2)
abbrev Model_setPart : Nat := 118
def m_Model_setPart : g_M := (⟨"VectorPensModel", "setPart", "(III)V"⟩, prog_12_method_13_code, 4, none, 4011, 4010, 17, 1008, 3)
abbrev Model_many : Nat := 119
def m_Model_many : g_M := (⟨"VectorPensModel", "many", "(I)I"⟩, prog_12_method_14_code, 2, (some .int), 4050, 4049, 24, 1008, 1)
abbrev Model_isClosed : Nat := 120
def m_Model_isClosed : g_M := (⟨"VectorPensModel", "isClosed", "(I)Z"⟩, prog_12_method_15_code, 2, (some .boolean), 4038, 4037, 21, 1008, 1)
abbrev Model_pointAt : Nat := 121
def m_Model_pointAt : g_M := (⟨"VectorPensModel", "pointAt", "(II)I"⟩, prog_12_method_16_code, 3, (some .int), 4054, 4053, 25, 1008, 2)
abbrev Model_pieces : Nat := 122
def m_Model_pieces : g_M := (⟨"VectorPensModel", "pieces", "(I)I"⟩, prog_12_method_17_code, 2, (some .int), 4206, 4205, 46, 1008, 1)
abbrev Model_squared : Nat := 123
def m_Model_squared : g_M := (⟨"VectorPensModel", "squared", "(II)I"⟩, prog_12_method_18_code, 4, (some .int), 4057, 4056, 0, 1008, 2)
abbrev Model_sizeOf : Nat := 124
def m_Model_sizeOf : g_M := (⟨"VectorPensModel", "sizeOf", "(I)I"⟩, prog_12_method_19_code, 1, (some .int), 4077, 4076, 0, 1008, 1)
abbrev Model_side : Nat := 125
def m_Model_side : g_M := (⟨"VectorPensModel", "side", "(III)I"⟩, prog_12_method_20_code, 3, (some .int), 4074, 4073, 0, 1008, 3)
abbrev Model_root : Nat := 126
def m_Model_root : g_M := (⟨"VectorPensModel", "root", "(I)I"⟩, prog_12_method_21_code, 3, (some .int), 4209, 4208, 0, 1008, 1)
abbrev Model_lays : Nat := 127
def m_Model_lays : g_M := (⟨"VectorPensModel", "lays", "(IZ)V"⟩, prog_12_method_22_code, 4, none, 4007, 4006, 16, 1008, 2)
abbrev Model_takes : Nat := 128
def m_Model_takes : g_M := (⟨"VectorPensModel", "takes", "(IIII)V"⟩, prog_12_method_23_code, 6, none, 4081, 4080, 28, 1008, 4)
abbrev Model_takesOut : Nat := 129
def m_Model_takesOut : g_M := (⟨"VectorPensModel", "takesOut", "(I)V"⟩, prog_12_method_24_code, 3, none, 4143, 4142, 40, 1008, 1)
abbrev Model_down : Nat := 130
def m_Model_down : g_M := (⟨"VectorPensModel", "down", "(II)I"⟩, prog_12_method_25_code, 3, (some .int), 3212, 3210, 3211, 1008, 2)
abbrev Model_draw : Nat := 131
def m_Model_draw : g_M := (⟨"VectorPensModel", "draw", "(II)I"⟩, prog_12_method_26_code, 4, (some .int), 3235, 3233, 3234, 1008, 2)
abbrev Model_adds : Nat := 132
def m_Model_adds : g_M := (⟨"VectorPensModel", "adds", "(Z)I"⟩, prog_12_method_27_code, 3, (some .int), 4003, 4002, 15, 1008, 1)
abbrev Model_lift : Nat := 133
def m_Model_lift : g_M := (⟨"VectorPensModel", "lift", "()I"⟩, prog_12_method_28_code, 2, (some .int), 3239, 3237, 3238, 1008, 0)
abbrev Model_line : Nat := 134
def m_Model_line : g_M := (⟨"VectorPensModel", "line", "()I"⟩, prog_12_method_29_code, 1, (some .int), 4015, 4013, 4014, 1008, 0)
abbrev Model_farthest : Nat := 135
def m_Model_farthest : g_M := (⟨"VectorPensModel", "farthest", "(IIII)I"⟩, prog_12_method_30_code, 13, (some .int), 4071, 4070, 27, 1008, 4)
abbrev Model_pushes : Nat := 136
def m_Model_pushes : g_M := (⟨"VectorPensModel", "pushes", "(II)V"⟩, prog_12_method_31_code, 3, none, 4067, 4066, 26, 1008, 2)
abbrev Model_farFromFirst : Nat := 137
def m_Model_farFromFirst : g_M := (⟨"VectorPensModel", "farFromFirst", "(I)I"⟩, prog_12_method_32_code, 4, (some .int), 4046, 4045, 23, 1008, 1)
abbrev Model_findKept : Nat := 138
def m_Model_findKept : g_M := (⟨"VectorPensModel", "findKept", "(II)V"⟩, prog_12_method_33_code, 6, none, 4034, 4033, 20, 1008, 2)
abbrev Model_simplifies : Nat := 139
def m_Model_simplifies : g_M := (⟨"VectorPensModel", "simplifies", "(II)V"⟩, prog_12_method_34_code, 5, none, 4030, 4029, 19, 1008, 2)
abbrev Model_isTolerance : Nat := 140
def m_Model_isTolerance : g_M := (⟨"VectorPensModel", "isTolerance", "(I)Z"⟩, prog_12_method_35_code, 1, (some .boolean), 4026, 4025, 0, 1008, 1)
abbrev Model_simplify : Nat := 141
def m_Model_simplify : g_M := (⟨"VectorPensModel", "simplify", "(II)I"⟩, prog_12_method_36_code, 3, (some .int), 4019, 4017, 4018, 1008, 2)
abbrev Model_isEnd : Nat := 142
def m_Model_isEnd : g_M := (⟨"VectorPensModel", "isEnd", "(I)Z"⟩, prog_12_method_37_code, 2, (some .boolean), 4100, 4099, 31, 1008, 1)
abbrev Model_endIndex : Nat := 143
def m_Model_endIndex : g_M := (⟨"VectorPensModel", "endIndex", "(I)I"⟩, prog_12_method_38_code, 2, (some .int), 4112, 4111, 34, 1008, 1)
abbrev Model_endPoint : Nat := 144
def m_Model_endPoint : g_M := (⟨"VectorPensModel", "endPoint", "(I)I"⟩, prog_12_method_39_code, 2, (some .int), 4108, 4107, 33, 1008, 1)
abbrev Model_beside : Nat := 145
def m_Model_beside : g_M := (⟨"VectorPensModel", "beside", "(I)I"⟩, prog_12_method_40_code, 2, (some .int), 4123, 4122, 36, 1008, 1)
abbrev Model_middle : Nat := 146
def m_Model_middle : g_M := (⟨"VectorPensModel", "middle", "(II)I"⟩, prog_12_method_41_code, 2, (some .int), 4115, 4114, 0, 1008, 2)
abbrev Model_mayBeOne : Nat := 147
def m_Model_mayBeOne : g_M := (⟨"VectorPensModel", "mayBeOne", "(II)Z"⟩, prog_12_method_42_code, 3, (some .boolean), 4119, 4118, 35, 1008, 2)
abbrev Model_mayWeld : Nat := 148
def m_Model_mayWeld : g_M := (⟨"VectorPensModel", "mayWeld", "(III)Z"⟩, prog_12_method_43_code, 6, (some .boolean), 4104, 4103, 32, 1008, 3)
abbrev Model_findWeld : Nat := 149
def m_Model_findWeld : g_M := (⟨"VectorPensModel", "findWeld", "(I)Z"⟩, prog_12_method_44_code, 6, (some .boolean), 4096, 4095, 30, 1008, 1)
abbrev Model_welds : Nat := 150
def m_Model_welds : g_M := (⟨"VectorPensModel", "welds", "(I)I"⟩, prog_12_method_45_code, 4, (some .int), 4092, 4091, 29, 1008, 1)
abbrev Model_isReach : Nat := 151
def m_Model_isReach : g_M := (⟨"VectorPensModel", "isReach", "(I)Z"⟩, prog_12_method_46_code, 1, (some .boolean), 4088, 4087, 0, 1008, 1)
abbrev Model_weld : Nat := 152
def m_Model_weld : g_M := (⟨"VectorPensModel", "weld", "(I)I"⟩, prog_12_method_47_code, 2, (some .int), 4085, 4083, 4084, 1008, 1)
abbrev Model_mayJoin : Nat := 153
def m_Model_mayJoin : g_M := (⟨"VectorPensModel", "mayJoin", "(II)Z"⟩, prog_12_method_48_code, 3, (some .boolean), 4139, 4138, 39, 1008, 2)
abbrev Model_findJoin : Nat := 154
def m_Model_findJoin : g_M := (⟨"VectorPensModel", "findJoin", "()Z"⟩, prog_12_method_49_code, 3, (some .boolean), 4135, 4134, 38, 1008, 0)
abbrev Model_joins : Nat := 155
def m_Model_joins : g_M := (⟨"VectorPensModel", "joins", "()V"⟩, prog_12_method_50_code, 5, none, 4131, 4130, 37, 1008, 0)
abbrev Model_joinAll : Nat := 156
def m_Model_joinAll : g_M := (⟨"VectorPensModel", "joinAll", "()I"⟩, prog_12_method_51_code, 1, (some .int), 4127, 4125, 4126, 1008, 0)
abbrev Model_mayMove : Nat := 157
def m_Model_mayMove : g_M := (⟨"VectorPensModel", "mayMove", "(III)Z"⟩, prog_12_method_52_code, 6, (some .boolean), 4151, 4150, 41, 1008, 3)
abbrev Model_move : Nat := 158
def m_Model_move : g_M := (⟨"VectorPensModel", "move", "(III)I"⟩, prog_12_method_53_code, 6, (some .int), 4147, 4145, 4146, 1008, 3)
abbrev Model_turned : Nat := 159
def m_Model_turned : g_M := (⟨"VectorPensModel", "turned", "(III)I"⟩, prog_12_method_54_code, 7, (some .int), 4158, 4157, 0, 1008, 3)
abbrev Model_turn : Nat := 160
def m_Model_turn : g_M := (⟨"VectorPensModel", "turn", "(II)I"⟩, prog_12_method_55_code, 6, (some .int), 4155, 4153, 4154, 1008, 2)
abbrev Model_reverse : Nat := 161
def m_Model_reverse : g_M := (⟨"VectorPensModel", "reverse", "(I)I"⟩, prog_12_method_56_code, 2, (some .int), 4162, 4160, 4161, 1008, 1)
abbrev Model_close : Nat := 162
def m_Model_close : g_M := (⟨"VectorPensModel", "close", "(I)I"⟩, prog_12_method_57_code, 2, (some .int), 4166, 4164, 4165, 1008, 1)
abbrev Model_splitsOpen : Nat := 163
def m_Model_splitsOpen : g_M := (⟨"VectorPensModel", "splitsOpen", "(II)I"⟩, prog_12_method_58_code, 3, (some .int), 4178, 4177, 43, 1008, 2)
abbrev Model_splitsClosed : Nat := 164
def m_Model_splitsClosed : g_M := (⟨"VectorPensModel", "splitsClosed", "(II)I"⟩, prog_12_method_59_code, 3, (some .int), 4174, 4173, 42, 1008, 2)
abbrev Model_split : Nat := 165
def m_Model_split : g_M := (⟨"VectorPensModel", "split", "(II)I"⟩, prog_12_method_60_code, 3, (some .int), 4170, 4168, 4169, 1008, 2)
abbrev Model_remove : Nat := 166
def m_Model_remove : g_M := (⟨"VectorPensModel", "remove", "(I)I"⟩, prog_12_method_61_code, 2, (some .int), 4182, 4180, 4181, 1008, 1)
abbrev Model_toTop : Nat := 167
def m_Model_toTop : g_M := (⟨"VectorPensModel", "toTop", "(I)I"⟩, prog_12_method_62_code, 3, (some .int), 4186, 4184, 4185, 1008, 1)
abbrev Model_strokes : Nat := 168
def m_Model_strokes : g_M := (⟨"VectorPensModel", "strokes", "()I"⟩, prog_12_method_63_code, 1, (some .int), 4190, 4188, 4189, 1008, 0)
abbrev Model_lengthOf : Nat := 169
def m_Model_lengthOf : g_M := (⟨"VectorPensModel", "lengthOf", "(I)I"⟩, prog_12_method_64_code, 4, (some .int), 4202, 4201, 45, 1008, 1)
abbrev Model_areaOf : Nat := 170
def m_Model_areaOf : g_M := (⟨"VectorPensModel", "areaOf", "(I)I"⟩, prog_12_method_65_code, 6, (some .int), 4213, 4212, 47, 1008, 1)
abbrev Model_sign : Nat := 171
def m_Model_sign : g_M := (⟨"VectorPensModel", "sign", "(I)I"⟩, prog_12_method_66_code, 1, (some .int), 4216, 4215, 0, 1008, 1)
abbrev Model_isCrossing : Nat := 172
def m_Model_isCrossing : g_M := (⟨"VectorPensModel", "isCrossing", "(IIII)Z"⟩, prog_12_method_67_code, 4, (some .boolean), 4227, 4226, 0, 1008, 4)
abbrev Model_areCrossing : Nat := 173
def m_Model_areCrossing : g_M := (⟨"VectorPensModel", "areCrossing", "(IIII)Z"⟩, prog_12_method_68_code, 5, (some .boolean), 4224, 4223, 49, 1008, 4)
abbrev Model_crossingsOf : Nat := 174
def m_Model_crossingsOf : g_M := (⟨"VectorPensModel", "crossingsOf", "(I)I"⟩, prog_12_method_69_code, 5, (some .int), 4220, 4219, 48, 1008, 1)
abbrev Model_crossingsOfBoth : Nat := 175
def m_Model_crossingsOfBoth : g_M := (⟨"VectorPensModel", "crossingsOfBoth", "(II)I"⟩, prog_12_method_70_code, 6, (some .int), 5003, 5002, 51, 1008, 2)
abbrev Model_bound : Nat := 176
def m_Model_bound : g_M := (⟨"VectorPensModel", "bound", "(IZZ)I"⟩, prog_12_method_71_code, 7, (some .int), 4231, 4230, 50, 1008, 3)
abbrev Model_ofStroke : Nat := 177
def m_Model_ofStroke : g_M := (⟨"VectorPensModel", "ofStroke", "(II)I"⟩, prog_12_method_72_code, 3, (some .int), 4198, 4197, 44, 1008, 2)
abbrev Model_of : Nat := 178
def m_Model_of : g_M := (⟨"VectorPensModel", "of", "(II)I"⟩, prog_12_method_73_code, 3, (some .int), 4194, 4192, 4193, 1008, 2)
abbrev Model_point : Nat := 179
def m_Model_point : g_M := (⟨"VectorPensModel", "point", "(II)I"⟩, prog_12_method_74_code, 3, (some .int), 4235, 4233, 4234, 1008, 2)
abbrev Model_crossings : Nat := 180
def m_Model_crossings : g_M := (⟨"VectorPensModel", "crossings", "(II)I"⟩, prog_12_method_75_code, 3, (some .int), 4239, 4237, 4238, 1008, 2)
abbrev Model_nearest : Nat := 181
def m_Model_nearest : g_M := (⟨"VectorPensModel", "nearest", "(II)I"⟩, prog_12_method_76_code, 8, (some .int), 5007, 5005, 5006, 1008, 2)
abbrev Model_isAhead : Nat := 182
def m_Model_isAhead : g_M := (⟨"VectorPensModel", "isAhead", "(IIII)Z"⟩, prog_12_method_77_code, 6, (some .boolean), 5014, 5013, 0, 1008, 4)
abbrev Model_isInside : Nat := 183
def m_Model_isInside : g_M := (⟨"VectorPensModel", "isInside", "(III)I"⟩, prog_12_method_78_code, 6, (some .int), 5011, 5009, 5010, 1008, 3)
abbrev Model_ifSimplified : Nat := 184
def m_Model_ifSimplified : g_M := (⟨"VectorPensModel", "ifSimplified", "(II)I"⟩, prog_12_method_79_code, 3, (some .int), 5018, 5016, 5017, 1008, 2)
abbrev Model_toleranceFor : Nat := 185
def m_Model_toleranceFor : g_M := (⟨"VectorPensModel", "toleranceFor", "(II)I"⟩, prog_12_method_80_code, 4, (some .int), 5022, 5020, 5021, 1008, 2)
abbrev Model_ifWelded : Nat := 186
def m_Model_ifWelded : g_M := (⟨"VectorPensModel", "ifWelded", "(I)I"⟩, prog_12_method_81_code, 3, (some .int), 5026, 5024, 5025, 1008, 1)
abbrev Model_type : Nat := 187
def m_Model_type : g_M := (⟨"VectorPensModel", "type", "(I)I"⟩, prog_12_method_82_code, 2, (some .int), 5030, 5028, 5029, 1008, 1)
abbrev Model_clearText : Nat := 188
def m_Model_clearText : g_M := (⟨"VectorPensModel", "clearText", "()I"⟩, prog_12_method_83_code, 2, (some .int), 5034, 5032, 5033, 1008, 0)
abbrev Model_character : Nat := 189
def m_Model_character : g_M := (⟨"VectorPensModel", "character", "(I)I"⟩, prog_12_method_84_code, 2, (some .int), 5058, 5057, 56, 1008, 1)
abbrev Model_isNext : Nat := 190
def m_Model_isNext : g_M := (⟨"VectorPensModel", "isNext", "(I)Z"⟩, prog_12_method_85_code, 3, (some .boolean), 5062, 5061, 57, 1008, 1)
abbrev Model_readsNumber : Nat := 191
def m_Model_readsNumber : g_M := (⟨"VectorPensModel", "readsNumber", "()Z"⟩, prog_12_method_86_code, 2, (some .boolean), 5054, 5053, 55, 1008, 0)
abbrev Model_readsPoint : Nat := 192
def m_Model_readsPoint : g_M := (⟨"VectorPensModel", "readsPoint", "()Z"⟩, prog_12_method_87_code, 3, (some .boolean), 5050, 5049, 54, 1008, 0)
abbrev Model_marks : Nat := 193
def m_Model_marks : g_M := (⟨"VectorPensModel", "marks", "(I)V"⟩, prog_12_method_88_code, 2, none, 5066, 5065, 58, 1008, 1)
abbrev Model_readsStroke : Nat := 194
def m_Model_readsStroke : g_M := (⟨"VectorPensModel", "readsStroke", "()Z"⟩, prog_12_method_89_code, 2, (some .boolean), 5046, 5045, 53, 1008, 0)
abbrev Model_readsClosing : Nat := 195
def m_Model_readsClosing : g_M := (⟨"VectorPensModel", "readsClosing", "()Z"⟩, prog_12_method_90_code, 2, (some .boolean), 5070, 5069, 59, 1008, 0)
abbrev Model_findError : Nat := 196
def m_Model_findError : g_M := (⟨"VectorPensModel", "findError", "()I"⟩, prog_12_method_91_code, 1, (some .int), 5042, 5041, 52, 1008, 0)
abbrev Model_syntaxError : Nat := 197
def m_Model_syntaxError : g_M := (⟨"VectorPensModel", "syntaxError", "()I"⟩, prog_12_method_92_code, 1, (some .int), 5038, 5036, 5037, 1008, 0)
abbrev Model_fails : Nat := 198
def m_Model_fails : g_M := (⟨"VectorPensModel", "fails", "(III)I"⟩, prog_12_method_93_code, 4, (some .int), 5078, 5077, 60, 1008, 3)
abbrev Model_read : Nat := 199
def m_Model_read : g_M := (⟨"VectorPensModel", "read", "()I"⟩, prog_12_method_94_code, 2, (some .int), 5074, 5072, 5073, 1008, 0)
abbrev Model_problem : Nat := 200
def m_Model_problem : g_M := (⟨"VectorPensModel", "problem", "(I)I"⟩, prog_12_method_95_code, 2, (some .int), 5082, 5080, 5081, 1008, 1)
abbrev Model_undo : Nat := 201
def m_Model_undo : g_M := (⟨"VectorPensModel", "undo", "()I"⟩, prog_12_method_96_code, 1, (some .int), 5086, 5084, 5085, 1008, 0)
abbrev Model_digest : Nat := 202
def m_Model_digest : g_M := (⟨"VectorPensModel", "digest", "()J"⟩, prog_12_method_97_code, 5, (some .long), 5090, 5088, 5089, 1008, 0)
abbrev Integer_compare : Nat := 203
def m_Integer_compare : g_M := (⟨"java/lang/Integer", "compare", "(II)I"⟩, prog_13_method_40_code, 2, (some .int), 3016, 3015, 0, 1013, 2)
abbrev Math_abs : Nat := 204
def m_Math_abs : g_M := (⟨"java/lang/Math", "abs", "(I)I"⟩, prog_14_method_59_code, 1, (some .int), 3013, 3012, 0, 1010, 1)
abbrev Math_labs : Nat := 205
def m_Math_labs : g_M := (⟨"java/lang/Math", "abs", "(J)J"⟩, prog_14_method_61_code, 2, (some .long), 2183, 2182, 0, 1010, 1)
abbrev Math_max : Nat := 206
def m_Math_max : g_M := (⟨"java/lang/Math", "max", "(II)I"⟩, prog_14_method_65_code, 2, (some .int), 2157, 2156, 0, 1010, 2)
abbrev Math_min : Nat := 207
def m_Math_min : g_M := (⟨"java/lang/Math", "min", "(II)I"⟩, prog_14_method_69_code, 2, (some .int), 2059, 2058, 0, 1010, 2)
abbrev g_E : Type := Nat × Nat × Nat × Nat × Nat × Int × Instr
def g_m (k : Nat) : g_M := match k with
  | 0 => m_Drawing_init
  | 1 => m_Drawing_find
  | 2 => m_Drawing_append
  | 3 => m_Drawing_bringLast
  | 4 => m_Drawing_drop
  | 5 => m_Drawing_copyFrom
  | 6 => m_History_init
  | 7 => m_History_save
  | 8 => m_History_discardOldest
  | 9 => m_History_restore
  | 10 => m_Joining_joinEnds
  | 11 => m_Joining_joinFirst
  | 12 => m_Joining_closeUp
  | 13 => m_Joining_joinTwo
  | 14 => m_Joining_isOpenEnd
  | 15 => m_Joining_endOf
  | 16 => m_Measures_figure
  | 17 => m_Measures_lengthOf
  | 18 => m_Measures_turningSum
  | 19 => m_Measures_bound
  | 20 => m_Measures_crossingsWithItself
  | 21 => m_Measures_crossingsOfTwo
  | 22 => m_Measures_crossingsOfPiece
  | 23 => m_Measures_surrounds
  | 24 => m_Measures_rayMeets
  | 25 => m_Plane_isPlace
  | 26 => m_Plane_told
  | 27 => m_Plane_xOf
  | 28 => m_Plane_yOf
  | 29 => m_Plane_squaredDistance
  | 30 => m_Plane_cross
  | 31 => m_Plane_piecesCross
  | 32 => m_Plane_root
  | 33 => m_Stroke_init
  | 34 => m_Stroke_at
  | 35 => m_Stroke_put
  | 36 => m_Stroke_add
  | 37 => m_Stroke_empty
  | 38 => m_Stroke_shorten
  | 39 => m_Stroke_copyFrom
  | 40 => m_Stroke_firstPoint
  | 41 => m_Stroke_lastPoint
  | 42 => m_Stroke_around
  | 43 => m_Stroke_pieceCount
  | 44 => m_Stroke_turnRound
  | 45 => m_Stroke_repeatedPoint
  | 46 => m_Text_init
  | 47 => m_Text_add
  | 48 => m_Text_signAt
  | 49 => m_Text_isDigit
  | 50 => m_Text_firstError
  | 51 => m_Text_nextState
  | 52 => m_Text_parseInto
  | 53 => m_Thinning_init
  | 54 => m_Thinning_measure
  | 55 => m_Thinning_thin
  | 56 => m_Thinning_levelOf
  | 57 => m_Thinning_setLevel
  | 58 => m_Thinning_nextWithLevel
  | 59 => m_Thinning_farthestFromFirst
  | 60 => m_Thinning_farthestBetween
  | 61 => m_Thinning_squaredOffset
  | 62 => m_Thinning_scale
  | 63 => m_Thinning_ownLevel
  | 64 => m_Welding_init
  | 65 => m_Welding_weldEnds
  | 66 => m_Welding_takeEnds
  | 67 => m_Welding_addEnd
  | 68 => m_Welding_giveEnds
  | 69 => m_Welding_weldNearest
  | 70 => m_Welding_middle
  | 71 => m_Welding_mayWeld
  | 72 => m_Welding_putEnd
  | 73 => m_Pens_init
  | 74 => m_Pens_down
  | 75 => m_Pens_draw
  | 76 => m_Pens_lift
  | 77 => m_Pens_line
  | 78 => m_Pens_simplify
  | 79 => m_Pens_weld
  | 80 => m_Pens_joinAll
  | 81 => m_Pens_move
  | 82 => m_Pens_turn
  | 83 => m_Pens_reverse
  | 84 => m_Pens_close
  | 85 => m_Pens_split
  | 86 => m_Pens_openAt
  | 87 => m_Pens_cutAt
  | 88 => m_Pens_remove
  | 89 => m_Pens_toTop
  | 90 => m_Pens_strokes
  | 91 => m_Pens_of
  | 92 => m_Pens_point
  | 93 => m_Pens_crossings
  | 94 => m_Pens_nearest
  | 95 => m_Pens_isInside
  | 96 => m_Pens_ifSimplified
  | 97 => m_Pens_toleranceFor
  | 98 => m_Pens_ifWelded
  | 99 => m_Pens_type
  | 100 => m_Pens_clearText
  | 101 => m_Pens_syntaxError
  | 102 => m_Pens_read
  | 103 => m_Pens_fail
  | 104 => m_Pens_problem
  | 105 => m_Pens_undo
  | 106 => m_Pens_digest
  | 107 => m_Model_init
  | 108 => m_Model_within
  | 109 => m_Model_copies
  | 110 => m_Model_record
  | 111 => m_Model_isCoordinate
  | 112 => m_Model_isPlace
  | 113 => m_Model_pointOf
  | 114 => m_Model_xOf
  | 115 => m_Model_yOf
  | 116 => m_Model_isStroke
  | 117 => m_Model_part
  | 118 => m_Model_setPart
  | 119 => m_Model_many
  | 120 => m_Model_isClosed
  | 121 => m_Model_pointAt
  | 122 => m_Model_pieces
  | 123 => m_Model_squared
  | 124 => m_Model_sizeOf
  | 125 => m_Model_side
  | 126 => m_Model_root
  | 127 => m_Model_lays
  | 128 => m_Model_takes
  | 129 => m_Model_takesOut
  | 130 => m_Model_down
  | 131 => m_Model_draw
  | 132 => m_Model_adds
  | 133 => m_Model_lift
  | 134 => m_Model_line
  | 135 => m_Model_farthest
  | 136 => m_Model_pushes
  | 137 => m_Model_farFromFirst
  | 138 => m_Model_findKept
  | 139 => m_Model_simplifies
  | 140 => m_Model_isTolerance
  | 141 => m_Model_simplify
  | 142 => m_Model_isEnd
  | 143 => m_Model_endIndex
  | 144 => m_Model_endPoint
  | 145 => m_Model_beside
  | 146 => m_Model_middle
  | 147 => m_Model_mayBeOne
  | 148 => m_Model_mayWeld
  | 149 => m_Model_findWeld
  | 150 => m_Model_welds
  | 151 => m_Model_isReach
  | 152 => m_Model_weld
  | 153 => m_Model_mayJoin
  | 154 => m_Model_findJoin
  | 155 => m_Model_joins
  | 156 => m_Model_joinAll
  | 157 => m_Model_mayMove
  | 158 => m_Model_move
  | 159 => m_Model_turned
  | 160 => m_Model_turn
  | 161 => m_Model_reverse
  | 162 => m_Model_close
  | 163 => m_Model_splitsOpen
  | 164 => m_Model_splitsClosed
  | 165 => m_Model_split
  | 166 => m_Model_remove
  | 167 => m_Model_toTop
  | 168 => m_Model_strokes
  | 169 => m_Model_lengthOf
  | 170 => m_Model_areaOf
  | 171 => m_Model_sign
  | 172 => m_Model_isCrossing
  | 173 => m_Model_areCrossing
  | 174 => m_Model_crossingsOf
  | 175 => m_Model_crossingsOfBoth
  | 176 => m_Model_bound
  | 177 => m_Model_ofStroke
  | 178 => m_Model_of
  | 179 => m_Model_point
  | 180 => m_Model_crossings
  | 181 => m_Model_nearest
  | 182 => m_Model_isAhead
  | 183 => m_Model_isInside
  | 184 => m_Model_ifSimplified
  | 185 => m_Model_toleranceFor
  | 186 => m_Model_ifWelded
  | 187 => m_Model_type
  | 188 => m_Model_clearText
  | 189 => m_Model_character
  | 190 => m_Model_isNext
  | 191 => m_Model_readsNumber
  | 192 => m_Model_readsPoint
  | 193 => m_Model_marks
  | 194 => m_Model_readsStroke
  | 195 => m_Model_readsClosing
  | 196 => m_Model_findError
  | 197 => m_Model_syntaxError
  | 198 => m_Model_fails
  | 199 => m_Model_read
  | 200 => m_Model_problem
  | 201 => m_Model_undo
  | 202 => m_Model_digest
  | 203 => m_Integer_compare
  | 204 => m_Math_abs
  | 205 => m_Math_labs
  | 206 => m_Math_max
  | _ => m_Math_min
