-- ===== PART A: goes FIRST, ahead of the names: the tables' words, and 'selects' of the private methods out of them =====
/-- a private method of a class that the tables say can be made, by its rows of tables_1 -/
def lw_okq (q : MethodName × Nat) : Prop := (q.1.cls ≠ "java/lang/invoke/MethodHandle" ∧ q.1.cls ≠ "java/lang/invoke/VarHandle") ∧ Cond.instantiable q.1.cls q.2 ∈ tables_1 ∧ Cond.privateMethod q.1 ∈ tables_1 ∧ Cond.instanceMethod q.1 ∈ tables_1
theorem lw_p0 : lw_okq (⟨"QlRewrite", "forgetFound", "()V"⟩, 9) := ⟨⟨by decide +kernel, by decide +kernel⟩, List.mem_of_getElem? (i := 14) (by decide +kernel), List.mem_of_getElem? (i := 260) (by decide +kernel), List.mem_of_getElem? (i := 261) (by decide +kernel)⟩
theorem lw_p1 : lw_okq (⟨"QlRewrite", "rewritten", "(I)I"⟩, 9) := ⟨⟨by decide +kernel, by decide +kernel⟩, List.mem_of_getElem? (i := 14) (by decide +kernel), List.mem_of_getElem? (i := 324) (by decide +kernel), List.mem_of_getElem? (i := 325) (by decide +kernel)⟩
theorem lw_p2 : lw_okq (⟨"QlRewrite$Namer", "gatherOthers", "(LQlRewrite$Form;)I"⟩, 3) := ⟨⟨by decide +kernel, by decide +kernel⟩, List.mem_of_getElem? (i := 166) (by decide +kernel), List.mem_of_getElem? (i := 357) (by decide +kernel), List.mem_of_getElem? (i := 358) (by decide +kernel)⟩
theorem lw_p3 : lw_okq (⟨"QlRewrite$Namer", "isGathered", "(II)Z"⟩, 3) := ⟨⟨by decide +kernel, by decide +kernel⟩, List.mem_of_getElem? (i := 166) (by decide +kernel), List.mem_of_getElem? (i := 361) (by decide +kernel), List.mem_of_getElem? (i := 362) (by decide +kernel)⟩
theorem lw_p4 : lw_okq (⟨"QlRewrite$Namer", "sortCodes", "(LQlRewrite$Form;)V"⟩, 3) := ⟨⟨by decide +kernel, by decide +kernel⟩, List.mem_of_getElem? (i := 166) (by decide +kernel), List.mem_of_getElem? (i := 369) (by decide +kernel), List.mem_of_getElem? (i := 370) (by decide +kernel)⟩
theorem lw_p5 : lw_okq (⟨"QlRewrite$Rewriter", "comes", "(LQlRewrite$Question;J)V"⟩, 4) := ⟨⟨by decide +kernel, by decide +kernel⟩, List.mem_of_getElem? (i := 160) (by decide +kernel), List.mem_of_getElem? (i := 378) (by decide +kernel), List.mem_of_getElem? (i := 379) (by decide +kernel)⟩
theorem lw_p6 : lw_okq (⟨"QlRewrite$Rewriter", "replaceAtoms", "(LQlRewrite$Question;)V"⟩, 4) := ⟨⟨by decide +kernel, by decide +kernel⟩, List.mem_of_getElem? (i := 160) (by decide +kernel), List.mem_of_getElem? (i := 398) (by decide +kernel), List.mem_of_getElem? (i := 399) (by decide +kernel)⟩
theorem lw_p7 : lw_okq (⟨"QlRewrite$Rewriter", "uniteAtoms", "(LQlRewrite$Question;)V"⟩, 4) := ⟨⟨by decide +kernel, by decide +kernel⟩, List.mem_of_getElem? (i := 160) (by decide +kernel), List.mem_of_getElem? (i := 418) (by decide +kernel), List.mem_of_getElem? (i := 419) (by decide +kernel)⟩
theorem lw_p8 : lw_okq (⟨"QlRewrite$Form", "rename", "(II)V"⟩, 4) := ⟨⟨by decide +kernel, by decide +kernel⟩, List.mem_of_getElem? (i := 82) (by decide +kernel), List.mem_of_getElem? (i := 429) (by decide +kernel), List.mem_of_getElem? (i := 430) (by decide +kernel)⟩
theorem lw_p9 : lw_okq (⟨"QlRewrite", "searched", "(I)LQlRewrite$Question;"⟩, 9) := ⟨⟨by decide +kernel, by decide +kernel⟩, List.mem_of_getElem? (i := 14) (by decide +kernel), List.mem_of_getElem? (i := 444) (by decide +kernel), List.mem_of_getElem? (i := 445) (by decide +kernel)⟩
theorem lw_p10 : lw_okq (⟨"QlRewrite$Finder", "holdsAnywhere", "()Z"⟩, 3) := ⟨⟨by decide +kernel, by decide +kernel⟩, List.mem_of_getElem? (i := 197) (by decide +kernel), List.mem_of_getElem? (i := 456) (by decide +kernel), List.mem_of_getElem? (i := 457) (by decide +kernel)⟩
theorem lw_p11 : lw_okq (⟨"QlRewrite$Finder", "collect", "(LQlRewrite$Question;I)V"⟩, 3) := ⟨⟨by decide +kernel, by decide +kernel⟩, List.mem_of_getElem? (i := 197) (by decide +kernel), List.mem_of_getElem? (i := 460) (by decide +kernel), List.mem_of_getElem? (i := 461) (by decide +kernel)⟩
theorem lw_p12 : lw_okq (⟨"QlRewrite$Finder", "fitting", "(I)I"⟩, 3) := ⟨⟨by decide +kernel, by decide +kernel⟩, List.mem_of_getElem? (i := 197) (by decide +kernel), List.mem_of_getElem? (i := 465) (by decide +kernel), List.mem_of_getElem? (i := 466) (by decide +kernel)⟩
theorem lw_p13 : lw_okq (⟨"QlRewrite$Finder", "thingOf", "(I)I"⟩, 3) := ⟨⟨by decide +kernel, by decide +kernel⟩, List.mem_of_getElem? (i := 197) (by decide +kernel), List.mem_of_getElem? (i := 473) (by decide +kernel), List.mem_of_getElem? (i := 474) (by decide +kernel)⟩
theorem lw_p14 : lw_okq (⟨"QlRewrite$Finder", "completes", "(I)Z"⟩, 3) := ⟨⟨by decide +kernel, by decide +kernel⟩, List.mem_of_getElem? (i := 197) (by decide +kernel), List.mem_of_getElem? (i := 478) (by decide +kernel), List.mem_of_getElem? (i := 479) (by decide +kernel)⟩
theorem lw_p15 : lw_okq (⟨"QlRewrite", "leastBreaking", "()I"⟩, 9) := ⟨⟨by decide +kernel, by decide +kernel⟩, List.mem_of_getElem? (i := 14) (by decide +kernel), List.mem_of_getElem? (i := 502) (by decide +kernel), List.mem_of_getElem? (i := 503) (by decide +kernel)⟩
def lw_privs_1 : List (MethodName × Nat) := [(⟨"QlRewrite", "forgetFound", "()V"⟩, 9), (⟨"QlRewrite", "rewritten", "(I)I"⟩, 9), (⟨"QlRewrite$Namer", "gatherOthers", "(LQlRewrite$Form;)I"⟩, 3), (⟨"QlRewrite$Namer", "isGathered", "(II)Z"⟩, 3), (⟨"QlRewrite$Namer", "sortCodes", "(LQlRewrite$Form;)V"⟩, 3), (⟨"QlRewrite$Rewriter", "comes", "(LQlRewrite$Question;J)V"⟩, 4), (⟨"QlRewrite$Rewriter", "replaceAtoms", "(LQlRewrite$Question;)V"⟩, 4), (⟨"QlRewrite$Rewriter", "uniteAtoms", "(LQlRewrite$Question;)V"⟩, 4), (⟨"QlRewrite$Form", "rename", "(II)V"⟩, 4), (⟨"QlRewrite", "searched", "(I)LQlRewrite$Question;"⟩, 9), (⟨"QlRewrite$Finder", "holdsAnywhere", "()Z"⟩, 3), (⟨"QlRewrite$Finder", "collect", "(LQlRewrite$Question;I)V"⟩, 3), (⟨"QlRewrite$Finder", "fitting", "(I)I"⟩, 3), (⟨"QlRewrite$Finder", "thingOf", "(I)I"⟩, 3), (⟨"QlRewrite$Finder", "completes", "(I)Z"⟩, 3), (⟨"QlRewrite", "leastBreaking", "()I"⟩, 9)]
theorem lw_r1 : ∀ q ∈ lw_privs_1, lw_okq q := List.forall_mem_cons.mpr ⟨lw_p0, List.forall_mem_cons.mpr ⟨lw_p1, List.forall_mem_cons.mpr ⟨lw_p2, List.forall_mem_cons.mpr ⟨lw_p3, List.forall_mem_cons.mpr ⟨lw_p4, List.forall_mem_cons.mpr ⟨lw_p5, List.forall_mem_cons.mpr ⟨lw_p6, List.forall_mem_cons.mpr ⟨lw_p7, List.forall_mem_cons.mpr ⟨lw_p8, List.forall_mem_cons.mpr ⟨lw_p9, List.forall_mem_cons.mpr ⟨lw_p10, List.forall_mem_cons.mpr ⟨lw_p11, List.forall_mem_cons.mpr ⟨lw_p12, List.forall_mem_cons.mpr ⟨lw_p13, List.forall_mem_cons.mpr ⟨lw_p14, List.forall_mem_cons.mpr ⟨lw_p15, fun _ h => absurd h List.not_mem_nil⟩⟩⟩⟩⟩⟩⟩⟩⟩⟩⟩⟩⟩⟩⟩⟩
theorem lw_p16 : lw_okq (⟨"QlRewriteModel", "factAt", "(III)I"⟩, 35) := ⟨⟨by decide +kernel, by decide +kernel⟩, List.mem_of_getElem? (i := 522) (by decide +kernel), List.mem_of_getElem? (i := 652) (by decide +kernel), List.mem_of_getElem? (i := 653) (by decide +kernel)⟩
theorem lw_p17 : lw_okq (⟨"QlRewriteModel", "makeFor", "(I)I"⟩, 35) := ⟨⟨by decide +kernel, by decide +kernel⟩, List.mem_of_getElem? (i := 522) (by decide +kernel), List.mem_of_getElem? (i := 672) (by decide +kernel), List.mem_of_getElem? (i := 673) (by decide +kernel)⟩
theorem lw_p18 : lw_okq (⟨"QlRewriteModel", "makeAll", "()V"⟩, 35) := ⟨⟨by decide +kernel, by decide +kernel⟩, List.mem_of_getElem? (i := 522) (by decide +kernel), List.mem_of_getElem? (i := 676) (by decide +kernel), List.mem_of_getElem? (i := 677) (by decide +kernel)⟩
theorem lw_p19 : lw_okq (⟨"QlRewriteModel", "come", "()V"⟩, 35) := ⟨⟨by decide +kernel, by decide +kernel⟩, List.mem_of_getElem? (i := 522) (by decide +kernel), List.mem_of_getElem? (i := 680) (by decide +kernel), List.mem_of_getElem? (i := 681) (by decide +kernel)⟩
theorem lw_p20 : lw_okq (⟨"QlRewriteModel", "settle", "()V"⟩, 35) := ⟨⟨by decide +kernel, by decide +kernel⟩, List.mem_of_getElem? (i := 522) (by decide +kernel), List.mem_of_getElem? (i := 684) (by decide +kernel), List.mem_of_getElem? (i := 685) (by decide +kernel)⟩
theorem lw_p21 : lw_okq (⟨"QlRewriteModel", "lessen", "()Z"⟩, 35) := ⟨⟨by decide +kernel, by decide +kernel⟩, List.mem_of_getElem? (i := 522) (by decide +kernel), List.mem_of_getElem? (i := 688) (by decide +kernel), List.mem_of_getElem? (i := 689) (by decide +kernel)⟩
theorem lw_p22 : lw_okq (⟨"QlRewriteModel", "take", "(I)V"⟩, 35) := ⟨⟨by decide +kernel, by decide +kernel⟩, List.mem_of_getElem? (i := 522) (by decide +kernel), List.mem_of_getElem? (i := 692) (by decide +kernel), List.mem_of_getElem? (i := 693) (by decide +kernel)⟩
theorem lw_p23 : lw_okq (⟨"QlRewriteModel", "isLone", "(I)Z"⟩, 35) := ⟨⟨by decide +kernel, by decide +kernel⟩, List.mem_of_getElem? (i := 522) (by decide +kernel), List.mem_of_getElem? (i := 696) (by decide +kernel), List.mem_of_getElem? (i := 697) (by decide +kernel)⟩
theorem lw_p24 : lw_okq (⟨"QlRewriteModel", "isHead", "(I)Z"⟩, 35) := ⟨⟨by decide +kernel, by decide +kernel⟩, List.mem_of_getElem? (i := 522) (by decide +kernel), List.mem_of_getElem? (i := 700) (by decide +kernel), List.mem_of_getElem? (i := 701) (by decide +kernel)⟩
theorem lw_p25 : lw_okq (⟨"QlRewriteModel", "standing", "(I)I"⟩, 35) := ⟨⟨by decide +kernel, by decide +kernel⟩, List.mem_of_getElem? (i := 522) (by decide +kernel), List.mem_of_getElem? (i := 704) (by decide +kernel), List.mem_of_getElem? (i := 705) (by decide +kernel)⟩
theorem lw_p26 : lw_okq (⟨"QlRewriteModel", "collect", "()I"⟩, 35) := ⟨⟨by decide +kernel, by decide +kernel⟩, List.mem_of_getElem? (i := 522) (by decide +kernel), List.mem_of_getElem? (i := 708) (by decide +kernel), List.mem_of_getElem? (i := 709) (by decide +kernel)⟩
theorem lw_p27 : lw_okq (⟨"QlRewriteModel", "ways", "(I)I"⟩, 35) := ⟨⟨by decide +kernel, by decide +kernel⟩, List.mem_of_getElem? (i := 522) (by decide +kernel), List.mem_of_getElem? (i := 712) (by decide +kernel), List.mem_of_getElem? (i := 713) (by decide +kernel)⟩
theorem lw_p28 : lw_okq (⟨"QlRewriteModel", "name", "(II)V"⟩, 35) := ⟨⟨by decide +kernel, by decide +kernel⟩, List.mem_of_getElem? (i := 522) (by decide +kernel), List.mem_of_getElem? (i := 716) (by decide +kernel), List.mem_of_getElem? (i := 717) (by decide +kernel)⟩
theorem lw_p29 : lw_okq (⟨"QlRewriteModel", "lay", "()V"⟩, 35) := ⟨⟨by decide +kernel, by decide +kernel⟩, List.mem_of_getElem? (i := 522) (by decide +kernel), List.mem_of_getElem? (i := 720) (by decide +kernel), List.mem_of_getElem? (i := 721) (by decide +kernel)⟩
theorem lw_p30 : lw_okq (⟨"QlRewriteModel", "isForm", "(I)Z"⟩, 35) := ⟨⟨by decide +kernel, by decide +kernel⟩, List.mem_of_getElem? (i := 522) (by decide +kernel), List.mem_of_getElem? (i := 724) (by decide +kernel), List.mem_of_getElem? (i := 725) (by decide +kernel)⟩
theorem lw_p31 : lw_okq (⟨"QlRewriteModel", "headName", "(I)I"⟩, 35) := ⟨⟨by decide +kernel, by decide +kernel⟩, List.mem_of_getElem? (i := 522) (by decide +kernel), List.mem_of_getElem? (i := 728) (by decide +kernel), List.mem_of_getElem? (i := 729) (by decide +kernel)⟩
def lw_privs_2 : List (MethodName × Nat) := [(⟨"QlRewriteModel", "factAt", "(III)I"⟩, 35), (⟨"QlRewriteModel", "makeFor", "(I)I"⟩, 35), (⟨"QlRewriteModel", "makeAll", "()V"⟩, 35), (⟨"QlRewriteModel", "come", "()V"⟩, 35), (⟨"QlRewriteModel", "settle", "()V"⟩, 35), (⟨"QlRewriteModel", "lessen", "()Z"⟩, 35), (⟨"QlRewriteModel", "take", "(I)V"⟩, 35), (⟨"QlRewriteModel", "isLone", "(I)Z"⟩, 35), (⟨"QlRewriteModel", "isHead", "(I)Z"⟩, 35), (⟨"QlRewriteModel", "standing", "(I)I"⟩, 35), (⟨"QlRewriteModel", "collect", "()I"⟩, 35), (⟨"QlRewriteModel", "ways", "(I)I"⟩, 35), (⟨"QlRewriteModel", "name", "(II)V"⟩, 35), (⟨"QlRewriteModel", "lay", "()V"⟩, 35), (⟨"QlRewriteModel", "isForm", "(I)Z"⟩, 35), (⟨"QlRewriteModel", "headName", "(I)I"⟩, 35)]
theorem lw_r2 : ∀ q ∈ lw_privs_2, lw_okq q := List.forall_mem_cons.mpr ⟨lw_p16, List.forall_mem_cons.mpr ⟨lw_p17, List.forall_mem_cons.mpr ⟨lw_p18, List.forall_mem_cons.mpr ⟨lw_p19, List.forall_mem_cons.mpr ⟨lw_p20, List.forall_mem_cons.mpr ⟨lw_p21, List.forall_mem_cons.mpr ⟨lw_p22, List.forall_mem_cons.mpr ⟨lw_p23, List.forall_mem_cons.mpr ⟨lw_p24, List.forall_mem_cons.mpr ⟨lw_p25, List.forall_mem_cons.mpr ⟨lw_p26, List.forall_mem_cons.mpr ⟨lw_p27, List.forall_mem_cons.mpr ⟨lw_p28, List.forall_mem_cons.mpr ⟨lw_p29, List.forall_mem_cons.mpr ⟨lw_p30, List.forall_mem_cons.mpr ⟨lw_p31, fun _ h => absurd h List.not_mem_nil⟩⟩⟩⟩⟩⟩⟩⟩⟩⟩⟩⟩⟩⟩⟩⟩
theorem lw_p32 : lw_okq (⟨"QlRewriteModel", "load", "(I)V"⟩, 35) := ⟨⟨by decide +kernel, by decide +kernel⟩, List.mem_of_getElem? (i := 522) (by decide +kernel), List.mem_of_getElem? (i := 732) (by decide +kernel), List.mem_of_getElem? (i := 733) (by decide +kernel)⟩
theorem lw_p33 : lw_okq (⟨"QlRewriteModel", "fits", "(II)Z"⟩, 35) := ⟨⟨by decide +kernel, by decide +kernel⟩, List.mem_of_getElem? (i := 522) (by decide +kernel), List.mem_of_getElem? (i := 736) (by decide +kernel), List.mem_of_getElem? (i := 737) (by decide +kernel)⟩
theorem lw_p34 : lw_okq (⟨"QlRewriteModel", "sortAt", "(III)V"⟩, 35) := ⟨⟨by decide +kernel, by decide +kernel⟩, List.mem_of_getElem? (i := 522) (by decide +kernel), List.mem_of_getElem? (i := 740) (by decide +kernel), List.mem_of_getElem? (i := 741) (by decide +kernel)⟩
theorem lw_p35 : lw_okq (⟨"QlRewriteModel", "meet", "(II)Z"⟩, 35) := ⟨⟨by decide +kernel, by decide +kernel⟩, List.mem_of_getElem? (i := 522) (by decide +kernel), List.mem_of_getElem? (i := 744) (by decide +kernel), List.mem_of_getElem? (i := 745) (by decide +kernel)⟩
theorem lw_p36 : lw_okq (⟨"QlRewriteModel", "join", "(II)I"⟩, 35) := ⟨⟨by decide +kernel, by decide +kernel⟩, List.mem_of_getElem? (i := 522) (by decide +kernel), List.mem_of_getElem? (i := 748) (by decide +kernel), List.mem_of_getElem? (i := 749) (by decide +kernel)⟩
theorem lw_p37 : lw_okq (⟨"QlRewriteModel", "findAll", "(I)I"⟩, 35) := ⟨⟨by decide +kernel, by decide +kernel⟩, List.mem_of_getElem? (i := 522) (by decide +kernel), List.mem_of_getElem? (i := 760) (by decide +kernel), List.mem_of_getElem? (i := 761) (by decide +kernel)⟩
theorem lw_p38 : lw_okq (⟨"QlRewriteModel", "blank", "()V"⟩, 35) := ⟨⟨by decide +kernel, by decide +kernel⟩, List.mem_of_getElem? (i := 522) (by decide +kernel), List.mem_of_getElem? (i := 764) (by decide +kernel), List.mem_of_getElem? (i := 765) (by decide +kernel)⟩
theorem lw_p39 : lw_okq (⟨"QlRewriteModel", "findBy", "(I)V"⟩, 35) := ⟨⟨by decide +kernel, by decide +kernel⟩, List.mem_of_getElem? (i := 522) (by decide +kernel), List.mem_of_getElem? (i := 768) (by decide +kernel), List.mem_of_getElem? (i := 769) (by decide +kernel)⟩
theorem lw_p40 : lw_okq (⟨"QlRewriteModel", "tell", "(I)V"⟩, 35) := ⟨⟨by decide +kernel, by decide +kernel⟩, List.mem_of_getElem? (i := 522) (by decide +kernel), List.mem_of_getElem? (i := 772) (by decide +kernel), List.mem_of_getElem? (i := 773) (by decide +kernel)⟩
theorem lw_p41 : lw_okq (⟨"QlRewriteModel", "binds", "(III)Z"⟩, 35) := ⟨⟨by decide +kernel, by decide +kernel⟩, List.mem_of_getElem? (i := 522) (by decide +kernel), List.mem_of_getElem? (i := 776) (by decide +kernel), List.mem_of_getElem? (i := 777) (by decide +kernel)⟩
theorem lw_p42 : lw_okq (⟨"QlRewriteModel", "wayAt", "(IIII)V"⟩, 35) := ⟨⟨by decide +kernel, by decide +kernel⟩, List.mem_of_getElem? (i := 522) (by decide +kernel), List.mem_of_getElem? (i := 792) (by decide +kernel), List.mem_of_getElem? (i := 793) (by decide +kernel)⟩
def lw_privs_3 : List (MethodName × Nat) := [(⟨"QlRewriteModel", "load", "(I)V"⟩, 35), (⟨"QlRewriteModel", "fits", "(II)Z"⟩, 35), (⟨"QlRewriteModel", "sortAt", "(III)V"⟩, 35), (⟨"QlRewriteModel", "meet", "(II)Z"⟩, 35), (⟨"QlRewriteModel", "join", "(II)I"⟩, 35), (⟨"QlRewriteModel", "findAll", "(I)I"⟩, 35), (⟨"QlRewriteModel", "blank", "()V"⟩, 35), (⟨"QlRewriteModel", "findBy", "(I)V"⟩, 35), (⟨"QlRewriteModel", "tell", "(I)V"⟩, 35), (⟨"QlRewriteModel", "binds", "(III)Z"⟩, 35), (⟨"QlRewriteModel", "wayAt", "(IIII)V"⟩, 35)]
theorem lw_r3 : ∀ q ∈ lw_privs_3, lw_okq q := List.forall_mem_cons.mpr ⟨lw_p32, List.forall_mem_cons.mpr ⟨lw_p33, List.forall_mem_cons.mpr ⟨lw_p34, List.forall_mem_cons.mpr ⟨lw_p35, List.forall_mem_cons.mpr ⟨lw_p36, List.forall_mem_cons.mpr ⟨lw_p37, List.forall_mem_cons.mpr ⟨lw_p38, List.forall_mem_cons.mpr ⟨lw_p39, List.forall_mem_cons.mpr ⟨lw_p40, List.forall_mem_cons.mpr ⟨lw_p41, List.forall_mem_cons.mpr ⟨lw_p42, fun _ h => absurd h List.not_mem_nil⟩⟩⟩⟩⟩⟩⟩⟩⟩⟩⟩
def lw_privs : List (MethodName × Nat) := lw_privs_1 ++ (lw_privs_2 ++ (lw_privs_3))
def lw_tbl : List Cond := k2_sels lw_privs ++ tables_1
theorem lw_privs_ok : ∀ q ∈ lw_privs, lw_okq q := by
  show ∀ q ∈ lw_privs_1 ++ (lw_privs_2 ++ (lw_privs_3)), lw_okq q
  exact List.forall_mem_append.mpr ⟨lw_r1, List.forall_mem_append.mpr ⟨lw_r2, lw_r3⟩⟩
def RX0 : String := "QlRewrite$Axioms"
def TX0 : u_T := fun k => match k with
  | 0 => ("QlRewrite$Axioms", "kinds", "[I", true)
  | 1 => ("QlRewrite$Axioms", "lefts", "[I", true)
  | 2 => ("QlRewrite$Axioms", "rights", "[I", true)
  | _ => ("QlRewrite$Axioms", "size", "I", false)
def tyX0 : Nat → FieldType := fun k => match k with
  | 0 => .array .int
  | 1 => .array .int
  | 2 => .array .int
  | _ => .int
theorem nmX0 : ∀ a, a < 4 → ∀ b, b < 4 → a ≠ b → (TX0 a).2.1 ≠ (TX0 b).2.1 := by decide +kernel
theorem tyX0_ok : ∀ k, k < 4 → parseFieldDescriptor (TX0 k).2.2.1 = some (tyX0 k) := by decide +kernel
def RX1 : String := "QlRewrite$Facts"
def TX1 : u_T := fun k => match k with
  | 0 => ("QlRewrite$Facts", "members", "[I", true)
  | 1 => ("QlRewrite$Facts", "targets", "[I", true)
  | 2 => ("QlRewrite$Facts", "sources", "[I", true)
  | 3 => ("QlRewrite$Facts", "starts", "[I", true)
  | 4 => ("QlRewrite$Facts", "ends", "[I", true)
  | _ => ("QlRewrite$Facts", "size", "I", false)
def tyX1 : Nat → FieldType := fun k => match k with
  | 0 => .array .int
  | 1 => .array .int
  | 2 => .array .int
  | 3 => .array .int
  | 4 => .array .int
  | _ => .int
theorem nmX1 : ∀ a, a < 6 → ∀ b, b < 6 → a ≠ b → (TX1 a).2.1 ≠ (TX1 b).2.1 := by decide +kernel
theorem tyX1_ok : ∀ k, k < 6 → parseFieldDescriptor (TX1 k).2.2.1 = some (tyX1 k) := by decide +kernel
def RX2 : String := "QlRewrite$Finder"
def TX2 : u_T := fun k => match k with
  | 0 => ("QlRewrite$Finder", "facts", "LQlRewrite$Facts;", true)
  | 1 => ("QlRewrite$Finder", "form", "LQlRewrite$Form;", true)
  | _ => ("QlRewrite$Finder", "things", "[I", true)
def tyX2 : Nat → FieldType := fun k => match k with
  | 0 => .object "QlRewrite$Facts"
  | 1 => .object "QlRewrite$Form"
  | _ => .array .int
theorem nmX2 : ∀ a, a < 3 → ∀ b, b < 3 → a ≠ b → (TX2 a).2.1 ≠ (TX2 b).2.1 := by decide +kernel
theorem tyX2_ok : ∀ k, k < 3 → parseFieldDescriptor (TX2 k).2.2.1 = some (tyX2 k) := by decide +kernel
def RX3 : String := "QlRewrite$Form"
def TX3 : u_T := fun k => match k with
  | 0 => ("QlRewrite$Form", "names", "[I", true)
  | 1 => ("QlRewrite$Form", "places", "[I", true)
  | 2 => ("QlRewrite$Form", "size", "I", false)
  | _ => ("QlRewrite$Form", "joined", "Z", false)
def tyX3 : Nat → FieldType := fun k => match k with
  | 0 => .array .int
  | 1 => .array .int
  | 2 => .int
  | _ => .boolean
theorem nmX3 : ∀ a, a < 4 → ∀ b, b < 4 → a ≠ b → (TX3 a).2.1 ≠ (TX3 b).2.1 := by decide +kernel
theorem tyX3_ok : ∀ k, k < 4 → parseFieldDescriptor (TX3 k).2.2.1 = some (tyX3 k) := by decide +kernel
def RX4 : String := "QlRewrite$Namer"
def TX4 : u_T := fun k => match k with
  | 0 => ("QlRewrite$Namer", "named", "[I", true)
  | 1 => ("QlRewrite$Namer", "others", "[I", true)
  | _ => ("QlRewrite$Namer", "codes", "[I", true)
def tyX4 : Nat → FieldType := fun k => match k with
  | 0 => .array .int
  | 1 => .array .int
  | _ => .array .int
theorem nmX4 : ∀ a, a < 3 → ∀ b, b < 3 → a ≠ b → (TX4 a).2.1 ≠ (TX4 b).2.1 := by decide +kernel
theorem tyX4_ok : ∀ k, k < 3 → parseFieldDescriptor (TX4 k).2.2.1 = some (tyX4 k) := by decide +kernel
def RX5 : String := "QlRewrite$Question"
def TX5 : u_T := fun k => match k with
  | 0 => ("QlRewrite$Question", "own", "LQlRewrite$Form;", true)
  | 1 => ("QlRewrite$Question", "answers", "I", false)
  | 2 => ("QlRewrite$Question", "rows", "[J", true)
  | 3 => ("QlRewrite$Question", "size", "I", false)
  | 4 => ("QlRewrite$Question", "large", "Z", false)
  | 5 => ("QlRewrite$Question", "rewritten", "Z", false)
  | 6 => ("QlRewrite$Question", "finders", "[I", true)
  | _ => ("QlRewrite$Question", "searched", "Z", false)
def tyX5 : Nat → FieldType := fun k => match k with
  | 0 => .object "QlRewrite$Form"
  | 1 => .int
  | 2 => .array .long
  | 3 => .int
  | 4 => .boolean
  | 5 => .boolean
  | 6 => .array .int
  | _ => .boolean
theorem nmX5 : ∀ a, a < 8 → ∀ b, b < 8 → a ≠ b → (TX5 a).2.1 ≠ (TX5 b).2.1 := by decide +kernel
theorem tyX5_ok : ∀ k, k < 8 → parseFieldDescriptor (TX5 k).2.2.1 = some (tyX5 k) := by decide +kernel
def RX6 : String := "QlRewrite$Rewriter"
def TX6 : u_T := fun k => match k with
  | 0 => ("QlRewrite$Rewriter", "axioms", "LQlRewrite$Axioms;", true)
  | 1 => ("QlRewrite$Rewriter", "namer", "LQlRewrite$Namer;", true)
  | 2 => ("QlRewrite$Rewriter", "form", "LQlRewrite$Form;", true)
  | _ => ("QlRewrite$Rewriter", "next", "LQlRewrite$Form;", true)
def tyX6 : Nat → FieldType := fun k => match k with
  | 0 => .object "QlRewrite$Axioms"
  | 1 => .object "QlRewrite$Namer"
  | 2 => .object "QlRewrite$Form"
  | _ => .object "QlRewrite$Form"
theorem nmX6 : ∀ a, a < 4 → ∀ b, b < 4 → a ≠ b → (TX6 a).2.1 ≠ (TX6 b).2.1 := by decide +kernel
theorem tyX6_ok : ∀ k, k < 4 → parseFieldDescriptor (TX6 k).2.2.1 = some (tyX6 k) := by decide +kernel
def RX7 : String := "QlRewrite"
def TX7 : u_T := fun k => match k with
  | 0 => ("QlRewrite", "axioms", "LQlRewrite$Axioms;", true)
  | 1 => ("QlRewrite", "facts", "LQlRewrite$Facts;", true)
  | 2 => ("QlRewrite", "asked", "[LQlRewrite$Question;", true)
  | 3 => ("QlRewrite", "questions", "I", false)
  | 4 => ("QlRewrite", "forbidden", "LQlRewrite$Question;", true)
  | 5 => ("QlRewrite", "rewriter", "LQlRewrite$Rewriter;", true)
  | 6 => ("QlRewrite", "finder", "LQlRewrite$Finder;", true)
  | 7 => ("QlRewrite", "breaking", "I", false)
  | _ => ("QlRewrite", "breakingKnown", "Z", false)
def tyX7 : Nat → FieldType := fun k => match k with
  | 0 => .object "QlRewrite$Axioms"
  | 1 => .object "QlRewrite$Facts"
  | 2 => .array (.object "QlRewrite$Question")
  | 3 => .int
  | 4 => .object "QlRewrite$Question"
  | 5 => .object "QlRewrite$Rewriter"
  | 6 => .object "QlRewrite$Finder"
  | 7 => .int
  | _ => .boolean
theorem nmX7 : ∀ a, a < 9 → ∀ b, b < 9 → a ≠ b → (TX7 a).2.1 ≠ (TX7 b).2.1 := by decide +kernel
theorem tyX7_ok : ∀ k, k < 9 → parseFieldDescriptor (TX7 k).2.2.1 = some (tyX7 k) := by decide +kernel
def RX8 : String := "QlRewriteModel"
def TX8 : u_T := fun k => match k with
  | 0 => ("QlRewriteModel", "axioms", "I", false)
  | 1 => ("QlRewriteModel", "kinds", "[I", true)
  | 2 => ("QlRewriteModel", "firsts", "[I", true)
  | 3 => ("QlRewriteModel", "seconds", "[I", true)
  | 4 => ("QlRewriteModel", "facts", "I", false)
  | 5 => ("QlRewriteModel", "names", "[I", true)
  | 6 => ("QlRewriteModel", "ones", "[I", true)
  | 7 => ("QlRewriteModel", "others", "[I", true)
  | 8 => ("QlRewriteModel", "questions", "I", false)
  | 9 => ("QlRewriteModel", "answersOf", "[I", true)
  | 10 => ("QlRewriteModel", "atomsOf", "[I", true)
  | 11 => ("QlRewriteModel", "atomNames", "[I", true)
  | 12 => ("QlRewriteModel", "atomFirsts", "[I", true)
  | 13 => ("QlRewriteModel", "atomSeconds", "[I", true)
  | 14 => ("QlRewriteModel", "hand", "I", false)
  | 15 => ("QlRewriteModel", "isLarge", "Z", false)
  | 16 => ("QlRewriteModel", "formCount", "I", false)
  | 17 => ("QlRewriteModel", "sizes", "[I", true)
  | 18 => ("QlRewriteModel", "codes", "[I", true)
  | 19 => ("QlRewriteModel", "heads", "[I", true)
  | 20 => ("QlRewriteModel", "made", "I", false)
  | 21 => ("QlRewriteModel", "p", "[I", true)
  | 22 => ("QlRewriteModel", "a", "[I", true)
  | 23 => ("QlRewriteModel", "b", "[I", true)
  | 24 => ("QlRewriteModel", "head", "[I", true)
  | 25 => ("QlRewriteModel", "headCount", "I", false)
  | 26 => ("QlRewriteModel", "named", "[I", true)
  | 27 => ("QlRewriteModel", "least", "[I", true)
  | 28 => ("QlRewriteModel", "row", "[I", true)
  | 29 => ("QlRewriteModel", "free", "[I", true)
  | 30 => ("QlRewriteModel", "places", "[I", true)
  | 31 => ("QlRewriteModel", "found", "[Z", true)
  | 32 => ("QlRewriteModel", "some", "Z", false)
  | 33 => ("QlRewriteModel", "bound", "[I", true)
  | _ => ("QlRewriteModel", "next", "[I", true)
def tyX8 : Nat → FieldType := fun k => match k with
  | 0 => .int
  | 1 => .array .int
  | 2 => .array .int
  | 3 => .array .int
  | 4 => .int
  | 5 => .array .int
  | 6 => .array .int
  | 7 => .array .int
  | 8 => .int
  | 9 => .array .int
  | 10 => .array .int
  | 11 => .array .int
  | 12 => .array .int
  | 13 => .array .int
  | 14 => .int
  | 15 => .boolean
  | 16 => .int
  | 17 => .array .int
  | 18 => .array .int
  | 19 => .array .int
  | 20 => .int
  | 21 => .array .int
  | 22 => .array .int
  | 23 => .array .int
  | 24 => .array .int
  | 25 => .int
  | 26 => .array .int
  | 27 => .array .int
  | 28 => .array .int
  | 29 => .array .int
  | 30 => .array .int
  | 31 => .array .boolean
  | 32 => .boolean
  | 33 => .array .int
  | _ => .array .int
theorem nmX8 : ∀ a, a < 35 → ∀ b, b < 35 → a ≠ b → (TX8 a).2.1 ≠ (TX8 b).2.1 := by decide +kernel
theorem tyX8_ok : ∀ k, k < 35 → parseFieldDescriptor (TX8 k).2.2.1 = some (tyX8 k) := by decide +kernel
abbrev qCl : List vw_C := [(RX0, TX0, 4), (RX1, TX1, 6), (RX2, TX2, 3), (RX3, TX3, 4), (RX4, TX4, 3), (RX5, TX5, 8), (RX6, TX6, 4), (RX7, TX7, 9), (RX8, TX8, 35)]
abbrev qT (cI cL cQ cZ : ClassId) : List (ClassId × FieldType) := [(cI, .int), (cL, .long), (cQ, .object "QlRewrite$Question"), (cZ, .boolean)]
def RJM : String := "java/lang/Math"
def RJA : String := "java/util/Arrays"
def qW : List Cond := lw_tbl.filter goodWord
theorem qw {w : Cond} (i : Nat) (h : lw_tbl[i]? = some w) (hg : goodWord w = true) : w ∈ qW := List.mem_filter.mpr ⟨List.mem_of_getElem? h, hg⟩
theorem uX0 : ∀ w ∈ u_ws RX0 TX0 4, w ∈ qW := by decide +kernel
set_option maxRecDepth 40000 in
theorem kiX0 : Cond.initialized RX0 ∈ qW := qw 45 rfl rfl
theorem uX1 : ∀ w ∈ u_ws RX1 TX1 6, w ∈ qW := by decide +kernel
set_option maxRecDepth 40000 in
theorem kiX1 : Cond.initialized RX1 ∈ qW := qw 46 rfl rfl
theorem uX2 : ∀ w ∈ u_ws RX2 TX2 3, w ∈ qW := by decide +kernel
set_option maxRecDepth 40000 in
theorem kiX2 : Cond.initialized RX2 ∈ qW := qw 51 rfl rfl
theorem uX3 : ∀ w ∈ u_ws RX3 TX3 4, w ∈ qW := by decide +kernel
set_option maxRecDepth 40000 in
theorem kiX3 : Cond.initialized RX3 ∈ qW := qw 48 rfl rfl
theorem uX4 : ∀ w ∈ u_ws RX4 TX4 3, w ∈ qW := by decide +kernel
set_option maxRecDepth 40000 in
theorem kiX4 : Cond.initialized RX4 ∈ qW := qw 50 rfl rfl
theorem uX5 : ∀ w ∈ u_ws RX5 TX5 8, w ∈ qW := by decide +kernel
set_option maxRecDepth 40000 in
theorem kiX5 : Cond.initialized RX5 ∈ qW := qw 47 rfl rfl
theorem uX6 : ∀ w ∈ u_ws RX6 TX6 4, w ∈ qW := by decide +kernel
set_option maxRecDepth 40000 in
theorem kiX6 : Cond.initialized RX6 ∈ qW := qw 49 rfl rfl
theorem uX7 : ∀ w ∈ u_ws RX7 TX7 9, w ∈ qW := by decide +kernel
set_option maxRecDepth 40000 in
theorem kiX7 : Cond.initialized RX7 ∈ qW := qw 44 rfl rfl
theorem uX8 : ∀ w ∈ u_ws RX8 TX8 35, w ∈ qW := by decide +kernel
set_option maxRecDepth 40000 in
theorem kiX8 : Cond.initialized RX8 ∈ qW := qw 52 rfl rfl
set_option maxRecDepth 40000 in
theorem kiJM : Cond.initialized RJM ∈ qW := qw 54 rfl rfl
set_option maxRecDepth 40000 in
theorem kiJA : Cond.initialized RJA ∈ qW := qw 55 rfl rfl
