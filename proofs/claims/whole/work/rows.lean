section
-- ===== PART A: goes FIRST, ahead of the names: the tables' words, and 'selects' of the private methods out of them =====
/-- a private method of a class that the tables say can be made, by its rows of tables_1 -/
def lw_okq (q : MethodName × Nat) : Prop := (q.1.cls ≠ "java/lang/invoke/MethodHandle" ∧ q.1.cls ≠ "java/lang/invoke/VarHandle") ∧ Cond.instantiable q.1.cls q.2 ∈ tables_1 ∧ Cond.privateMethod q.1 ∈ tables_1 ∧ Cond.instanceMethod q.1 ∈ tables_1
theorem lw_p0 : lw_okq (⟨"CaneRounds$Farms", "add", "()I"⟩, 5) := ⟨⟨by decide +kernel, by decide +kernel⟩, List.mem_of_getElem? (i := 23) (by decide +kernel), List.mem_of_getElem? (i := 245) (by decide +kernel), List.mem_of_getElem? (i := 246) (by decide +kernel)⟩
theorem lw_p1 : lw_okq (⟨"CaneRounds", "fieldCount", "()I"⟩, 19) := ⟨⟨by decide +kernel, by decide +kernel⟩, List.mem_of_getElem? (i := 15) (by decide +kernel), List.mem_of_getElem? (i := 253) (by decide +kernel), List.mem_of_getElem? (i := 254) (by decide +kernel)⟩
theorem lw_p2 : lw_okq (⟨"CaneRounds$Weather", "add", "(ZII)Z"⟩, 2) := ⟨⟨by decide +kernel, by decide +kernel⟩, List.mem_of_getElem? (i := 48) (by decide +kernel), List.mem_of_getElem? (i := 325) (by decide +kernel), List.mem_of_getElem? (i := 326) (by decide +kernel)⟩
theorem lw_p3 : lw_okq (⟨"CaneRounds$Farms", "drawLots", "(I)V"⟩, 5) := ⟨⟨by decide +kernel, by decide +kernel⟩, List.mem_of_getElem? (i := 23) (by decide +kernel), List.mem_of_getElem? (i := 356) (by decide +kernel), List.mem_of_getElem? (i := 357) (by decide +kernel)⟩
theorem lw_p4 : lw_okq (⟨"CaneRounds$Farms", "turn", "()I"⟩, 5) := ⟨⟨by decide +kernel, by decide +kernel⟩, List.mem_of_getElem? (i := 23) (by decide +kernel), List.mem_of_getElem? (i := 361) (by decide +kernel), List.mem_of_getElem? (i := 362) (by decide +kernel)⟩
theorem lw_p5 : lw_okq (⟨"CaneRounds$Farms", "inOrder", "(I)I"⟩, 5) := ⟨⟨by decide +kernel, by decide +kernel⟩, List.mem_of_getElem? (i := 23) (by decide +kernel), List.mem_of_getElem? (i := 365) (by decide +kernel), List.mem_of_getElem? (i := 366) (by decide +kernel)⟩
theorem lw_p6 : lw_okq (⟨"CaneRounds$Farms", "settleTurn", "()V"⟩, 5) := ⟨⟨by decide +kernel, by decide +kernel⟩, List.mem_of_getElem? (i := 23) (by decide +kernel), List.mem_of_getElem? (i := 374) (by decide +kernel), List.mem_of_getElem? (i := 375) (by decide +kernel)⟩
theorem lw_p7 : lw_okq (⟨"CaneRounds", "findField", "(I)LCaneRounds$Field;"⟩, 19) := ⟨⟨by decide +kernel, by decide +kernel⟩, List.mem_of_getElem? (i := 15) (by decide +kernel), List.mem_of_getElem? (i := 382) (by decide +kernel), List.mem_of_getElem? (i := 383) (by decide +kernel)⟩
theorem lw_p8 : lw_okq (⟨"CaneRounds", "freeGangs", "()I"⟩, 19) := ⟨⟨by decide +kernel, by decide +kernel⟩, List.mem_of_getElem? (i := 15) (by decide +kernel), List.mem_of_getElem? (i := 386) (by decide +kernel), List.mem_of_getElem? (i := 387) (by decide +kernel)⟩
theorem lw_p9 : lw_okq (⟨"CaneRounds$Field", "burn", "(I)V"⟩, 15) := ⟨⟨by decide +kernel, by decide +kernel⟩, List.mem_of_getElem? (i := 257) (by decide +kernel), List.mem_of_getElem? (i := 394) (by decide +kernel), List.mem_of_getElem? (i := 395) (by decide +kernel)⟩
theorem lw_p10 : lw_okq (⟨"CaneRounds$Field", "sweetAt", "(I)I"⟩, 15) := ⟨⟨by decide +kernel, by decide +kernel⟩, List.mem_of_getElem? (i := 257) (by decide +kernel), List.mem_of_getElem? (i := 398) (by decide +kernel), List.mem_of_getElem? (i := 399) (by decide +kernel)⟩
theorem lw_p11 : lw_okq (⟨"CaneRounds", "passHour", "()V"⟩, 19) := ⟨⟨by decide +kernel, by decide +kernel⟩, List.mem_of_getElem? (i := 15) (by decide +kernel), List.mem_of_getElem? (i := 415) (by decide +kernel), List.mem_of_getElem? (i := 416) (by decide +kernel)⟩
theorem lw_p12 : lw_okq (⟨"CaneRounds$Weather", "holds", "(ZI)Z"⟩, 2) := ⟨⟨by decide +kernel, by decide +kernel⟩, List.mem_of_getElem? (i := 48) (by decide +kernel), List.mem_of_getElem? (i := 419) (by decide +kernel), List.mem_of_getElem? (i := 420) (by decide +kernel)⟩
theorem lw_p13 : lw_okq (⟨"CaneRounds", "goOnCutting", "()V"⟩, 19) := ⟨⟨by decide +kernel, by decide +kernel⟩, List.mem_of_getElem? (i := 15) (by decide +kernel), List.mem_of_getElem? (i := 423) (by decide +kernel), List.mem_of_getElem? (i := 424) (by decide +kernel)⟩
theorem lw_p14 : lw_okq (⟨"CaneRounds$Field", "goOn", "(I)V"⟩, 15) := ⟨⟨by decide +kernel, by decide +kernel⟩, List.mem_of_getElem? (i := 257) (by decide +kernel), List.mem_of_getElem? (i := 427) (by decide +kernel), List.mem_of_getElem? (i := 428) (by decide +kernel)⟩
theorem lw_p15 : lw_okq (⟨"CaneRounds", "addLoad", "(LCaneRounds$Field;)V"⟩, 19) := ⟨⟨by decide +kernel, by decide +kernel⟩, List.mem_of_getElem? (i := 15) (by decide +kernel), List.mem_of_getElem? (i := 434) (by decide +kernel), List.mem_of_getElem? (i := 435) (by decide +kernel)⟩
def lw_privs_1 : List (MethodName × Nat) := [(⟨"CaneRounds$Farms", "add", "()I"⟩, 5), (⟨"CaneRounds", "fieldCount", "()I"⟩, 19), (⟨"CaneRounds$Weather", "add", "(ZII)Z"⟩, 2), (⟨"CaneRounds$Farms", "drawLots", "(I)V"⟩, 5), (⟨"CaneRounds$Farms", "turn", "()I"⟩, 5), (⟨"CaneRounds$Farms", "inOrder", "(I)I"⟩, 5), (⟨"CaneRounds$Farms", "settleTurn", "()V"⟩, 5), (⟨"CaneRounds", "findField", "(I)LCaneRounds$Field;"⟩, 19), (⟨"CaneRounds", "freeGangs", "()I"⟩, 19), (⟨"CaneRounds$Field", "burn", "(I)V"⟩, 15), (⟨"CaneRounds$Field", "sweetAt", "(I)I"⟩, 15), (⟨"CaneRounds", "passHour", "()V"⟩, 19), (⟨"CaneRounds$Weather", "holds", "(ZI)Z"⟩, 2), (⟨"CaneRounds", "goOnCutting", "()V"⟩, 19), (⟨"CaneRounds$Field", "goOn", "(I)V"⟩, 15), (⟨"CaneRounds", "addLoad", "(LCaneRounds$Field;)V"⟩, 19)]
theorem lw_r1 : ∀ q ∈ lw_privs_1, lw_okq q := List.forall_mem_cons.mpr ⟨lw_p0, List.forall_mem_cons.mpr ⟨lw_p1, List.forall_mem_cons.mpr ⟨lw_p2, List.forall_mem_cons.mpr ⟨lw_p3, List.forall_mem_cons.mpr ⟨lw_p4, List.forall_mem_cons.mpr ⟨lw_p5, List.forall_mem_cons.mpr ⟨lw_p6, List.forall_mem_cons.mpr ⟨lw_p7, List.forall_mem_cons.mpr ⟨lw_p8, List.forall_mem_cons.mpr ⟨lw_p9, List.forall_mem_cons.mpr ⟨lw_p10, List.forall_mem_cons.mpr ⟨lw_p11, List.forall_mem_cons.mpr ⟨lw_p12, List.forall_mem_cons.mpr ⟨lw_p13, List.forall_mem_cons.mpr ⟨lw_p14, List.forall_mem_cons.mpr ⟨lw_p15, fun _ h => absurd h List.not_mem_nil⟩⟩⟩⟩⟩⟩⟩⟩⟩⟩⟩⟩⟩⟩⟩⟩
theorem lw_p16 : lw_okq (⟨"CaneRounds", "loadCount", "()I"⟩, 19) := ⟨⟨by decide +kernel, by decide +kernel⟩, List.mem_of_getElem? (i := 15) (by decide +kernel), List.mem_of_getElem? (i := 440) (by decide +kernel), List.mem_of_getElem? (i := 441) (by decide +kernel)⟩
theorem lw_p17 : lw_okq (⟨"CaneRounds$Field", "hoursToDeath", "()I"⟩, 15) := ⟨⟨by decide +kernel, by decide +kernel⟩, List.mem_of_getElem? (i := 257) (by decide +kernel), List.mem_of_getElem? (i := 450) (by decide +kernel), List.mem_of_getElem? (i := 451) (by decide +kernel)⟩
theorem lw_p18 : lw_okq (⟨"CaneRounds", "sendTrucks", "()V"⟩, 19) := ⟨⟨by decide +kernel, by decide +kernel⟩, List.mem_of_getElem? (i := 15) (by decide +kernel), List.mem_of_getElem? (i := 502) (by decide +kernel), List.mem_of_getElem? (i := 503) (by decide +kernel)⟩
theorem lw_p19 : lw_okq (⟨"CaneRounds", "freeTrucks", "()I"⟩, 19) := ⟨⟨by decide +kernel, by decide +kernel⟩, List.mem_of_getElem? (i := 15) (by decide +kernel), List.mem_of_getElem? (i := 506) (by decide +kernel), List.mem_of_getElem? (i := 507) (by decide +kernel)⟩
theorem lw_p20 : lw_okq (⟨"CaneRounds$Load", "isOver", "()Z"⟩, 12) := ⟨⟨by decide +kernel, by decide +kernel⟩, List.mem_of_getElem? (i := 438) (by decide +kernel), List.mem_of_getElem? (i := 510) (by decide +kernel), List.mem_of_getElem? (i := 511) (by decide +kernel)⟩
theorem lw_p21 : lw_okq (⟨"CaneRounds$Load", "leave", "(I)V"⟩, 12) := ⟨⟨by decide +kernel, by decide +kernel⟩, List.mem_of_getElem? (i := 438) (by decide +kernel), List.mem_of_getElem? (i := 514) (by decide +kernel), List.mem_of_getElem? (i := 515) (by decide +kernel)⟩
theorem lw_p22 : lw_okq (⟨"CaneRounds$Field", "hoursToMill", "()I"⟩, 15) := ⟨⟨by decide +kernel, by decide +kernel⟩, List.mem_of_getElem? (i := 257) (by decide +kernel), List.mem_of_getElem? (i := 518) (by decide +kernel), List.mem_of_getElem? (i := 519) (by decide +kernel)⟩
theorem lw_p23 : lw_okq (⟨"CaneRounds", "crushLoads", "()V"⟩, 19) := ⟨⟨by decide +kernel, by decide +kernel⟩, List.mem_of_getElem? (i := 15) (by decide +kernel), List.mem_of_getElem? (i := 522) (by decide +kernel), List.mem_of_getElem? (i := 523) (by decide +kernel)⟩
theorem lw_p24 : lw_okq (⟨"CaneRounds", "nextToCrush", "()LCaneRounds$Load;"⟩, 19) := ⟨⟨by decide +kernel, by decide +kernel⟩, List.mem_of_getElem? (i := 15) (by decide +kernel), List.mem_of_getElem? (i := 526) (by decide +kernel), List.mem_of_getElem? (i := 527) (by decide +kernel)⟩
theorem lw_p25 : lw_okq (⟨"CaneRounds$Load", "isAtMill", "(I)Z"⟩, 12) := ⟨⟨by decide +kernel, by decide +kernel⟩, List.mem_of_getElem? (i := 438) (by decide +kernel), List.mem_of_getElem? (i := 530) (by decide +kernel), List.mem_of_getElem? (i := 531) (by decide +kernel)⟩
theorem lw_p26 : lw_okq (⟨"CaneRounds$Load", "tonsLeft", "()I"⟩, 12) := ⟨⟨by decide +kernel, by decide +kernel⟩, List.mem_of_getElem? (i := 438) (by decide +kernel), List.mem_of_getElem? (i := 534) (by decide +kernel), List.mem_of_getElem? (i := 535) (by decide +kernel)⟩
theorem lw_p27 : lw_okq (⟨"CaneRounds$Bundles", "add", "(II)V"⟩, 2) := ⟨⟨by decide +kernel, by decide +kernel⟩, List.mem_of_getElem? (i := 61) (by decide +kernel), List.mem_of_getElem? (i := 539) (by decide +kernel), List.mem_of_getElem? (i := 540) (by decide +kernel)⟩
theorem lw_p28 : lw_okq (⟨"CaneRounds$Bundles", "count", "()I"⟩, 2) := ⟨⟨by decide +kernel, by decide +kernel⟩, List.mem_of_getElem? (i := 61) (by decide +kernel), List.mem_of_getElem? (i := 543) (by decide +kernel), List.mem_of_getElem? (i := 544) (by decide +kernel)⟩
theorem lw_p29 : lw_okq (⟨"CaneRounds", "endLoads", "()V"⟩, 19) := ⟨⟨by decide +kernel, by decide +kernel⟩, List.mem_of_getElem? (i := 15) (by decide +kernel), List.mem_of_getElem? (i := 565) (by decide +kernel), List.mem_of_getElem? (i := 566) (by decide +kernel)⟩
theorem lw_p30 : lw_okq (⟨"CaneRounds", "endFires", "()V"⟩, 19) := ⟨⟨by decide +kernel, by decide +kernel⟩, List.mem_of_getElem? (i := 15) (by decide +kernel), List.mem_of_getElem? (i := 569) (by decide +kernel), List.mem_of_getElem? (i := 570) (by decide +kernel)⟩
theorem lw_p31 : lw_okq (⟨"CaneRounds", "payDay", "()V"⟩, 19) := ⟨⟨by decide +kernel, by decide +kernel⟩, List.mem_of_getElem? (i := 15) (by decide +kernel), List.mem_of_getElem? (i := 573) (by decide +kernel), List.mem_of_getElem? (i := 574) (by decide +kernel)⟩
def lw_privs_2 : List (MethodName × Nat) := [(⟨"CaneRounds", "loadCount", "()I"⟩, 19), (⟨"CaneRounds$Field", "hoursToDeath", "()I"⟩, 15), (⟨"CaneRounds", "sendTrucks", "()V"⟩, 19), (⟨"CaneRounds", "freeTrucks", "()I"⟩, 19), (⟨"CaneRounds$Load", "isOver", "()Z"⟩, 12), (⟨"CaneRounds$Load", "leave", "(I)V"⟩, 12), (⟨"CaneRounds$Field", "hoursToMill", "()I"⟩, 15), (⟨"CaneRounds", "crushLoads", "()V"⟩, 19), (⟨"CaneRounds", "nextToCrush", "()LCaneRounds$Load;"⟩, 19), (⟨"CaneRounds$Load", "isAtMill", "(I)Z"⟩, 12), (⟨"CaneRounds$Load", "tonsLeft", "()I"⟩, 12), (⟨"CaneRounds$Bundles", "add", "(II)V"⟩, 2), (⟨"CaneRounds$Bundles", "count", "()I"⟩, 2), (⟨"CaneRounds", "endLoads", "()V"⟩, 19), (⟨"CaneRounds", "endFires", "()V"⟩, 19), (⟨"CaneRounds", "payDay", "()V"⟩, 19)]
theorem lw_r2 : ∀ q ∈ lw_privs_2, lw_okq q := List.forall_mem_cons.mpr ⟨lw_p16, List.forall_mem_cons.mpr ⟨lw_p17, List.forall_mem_cons.mpr ⟨lw_p18, List.forall_mem_cons.mpr ⟨lw_p19, List.forall_mem_cons.mpr ⟨lw_p20, List.forall_mem_cons.mpr ⟨lw_p21, List.forall_mem_cons.mpr ⟨lw_p22, List.forall_mem_cons.mpr ⟨lw_p23, List.forall_mem_cons.mpr ⟨lw_p24, List.forall_mem_cons.mpr ⟨lw_p25, List.forall_mem_cons.mpr ⟨lw_p26, List.forall_mem_cons.mpr ⟨lw_p27, List.forall_mem_cons.mpr ⟨lw_p28, List.forall_mem_cons.mpr ⟨lw_p29, List.forall_mem_cons.mpr ⟨lw_p30, List.forall_mem_cons.mpr ⟨lw_p31, fun _ h => absurd h List.not_mem_nil⟩⟩⟩⟩⟩⟩⟩⟩⟩⟩⟩⟩⟩⟩⟩⟩
theorem lw_p32 : lw_okq (⟨"CaneRounds", "meanOfDay", "()I"⟩, 19) := ⟨⟨by decide +kernel, by decide +kernel⟩, List.mem_of_getElem? (i := 15) (by decide +kernel), List.mem_of_getElem? (i := 577) (by decide +kernel), List.mem_of_getElem? (i := 578) (by decide +kernel)⟩
theorem lw_p33 : lw_okq (⟨"CaneRounds$Load", "isToBePaid", "()Z"⟩, 12) := ⟨⟨by decide +kernel, by decide +kernel⟩, List.mem_of_getElem? (i := 438) (by decide +kernel), List.mem_of_getElem? (i := 581) (by decide +kernel), List.mem_of_getElem? (i := 582) (by decide +kernel)⟩
theorem lw_p34 : lw_okq (⟨"CaneRounds$Formula", "tell", "(IIIII)I"⟩, 11) := ⟨⟨by decide +kernel, by decide +kernel⟩, List.mem_of_getElem? (i := 134) (by decide +kernel), List.mem_of_getElem? (i := 587) (by decide +kernel), List.mem_of_getElem? (i := 588) (by decide +kernel)⟩
theorem lw_p35 : lw_okq (⟨"CaneRounds$Formula", "sum", "(I)I"⟩, 11) := ⟨⟨by decide +kernel, by decide +kernel⟩, List.mem_of_getElem? (i := 134) (by decide +kernel), List.mem_of_getElem? (i := 591) (by decide +kernel), List.mem_of_getElem? (i := 592) (by decide +kernel)⟩
theorem lw_p36 : lw_okq (⟨"CaneRounds$Formula", "product", "(I)I"⟩, 11) := ⟨⟨by decide +kernel, by decide +kernel⟩, List.mem_of_getElem? (i := 134) (by decide +kernel), List.mem_of_getElem? (i := 595) (by decide +kernel), List.mem_of_getElem? (i := 596) (by decide +kernel)⟩
theorem lw_p37 : lw_okq (⟨"CaneRounds$Formula", "one", "(I)I"⟩, 11) := ⟨⟨by decide +kernel, by decide +kernel⟩, List.mem_of_getElem? (i := 134) (by decide +kernel), List.mem_of_getElem? (i := 599) (by decide +kernel), List.mem_of_getElem? (i := 600) (by decide +kernel)⟩
theorem lw_p38 : lw_okq (⟨"CaneRounds$Formula", "token", "()I"⟩, 11) := ⟨⟨by decide +kernel, by decide +kernel⟩, List.mem_of_getElem? (i := 134) (by decide +kernel), List.mem_of_getElem? (i := 603) (by decide +kernel), List.mem_of_getElem? (i := 604) (by decide +kernel)⟩
theorem lw_p39 : lw_okq (⟨"CaneRounds$Formula", "number", "(I)I"⟩, 11) := ⟨⟨by decide +kernel, by decide +kernel⟩, List.mem_of_getElem? (i := 134) (by decide +kernel), List.mem_of_getElem? (i := 607) (by decide +kernel), List.mem_of_getElem? (i := 608) (by decide +kernel)⟩
theorem lw_p40 : lw_okq (⟨"CaneRounds$Formula", "stop", "(I)V"⟩, 11) := ⟨⟨by decide +kernel, by decide +kernel⟩, List.mem_of_getElem? (i := 134) (by decide +kernel), List.mem_of_getElem? (i := 611) (by decide +kernel), List.mem_of_getElem? (i := 612) (by decide +kernel)⟩
theorem lw_p41 : lw_okq (⟨"CaneRounds$Formula", "opens", "(II)Z"⟩, 11) := ⟨⟨by decide +kernel, by decide +kernel⟩, List.mem_of_getElem? (i := 134) (by decide +kernel), List.mem_of_getElem? (i := 615) (by decide +kernel), List.mem_of_getElem? (i := 616) (by decide +kernel)⟩
theorem lw_p42 : lw_okq (⟨"CaneRounds$Formula", "bracket", "(I)I"⟩, 11) := ⟨⟨by decide +kernel, by decide +kernel⟩, List.mem_of_getElem? (i := 134) (by decide +kernel), List.mem_of_getElem? (i := 619) (by decide +kernel), List.mem_of_getElem? (i := 620) (by decide +kernel)⟩
theorem lw_p43 : lw_okq (⟨"CaneRounds$Formula", "take", "(I)V"⟩, 11) := ⟨⟨by decide +kernel, by decide +kernel⟩, List.mem_of_getElem? (i := 134) (by decide +kernel), List.mem_of_getElem? (i := 623) (by decide +kernel), List.mem_of_getElem? (i := 624) (by decide +kernel)⟩
theorem lw_p44 : lw_okq (⟨"CaneRounds$Formula", "lesserOrGreater", "(ZI)I"⟩, 11) := ⟨⟨by decide +kernel, by decide +kernel⟩, List.mem_of_getElem? (i := 134) (by decide +kernel), List.mem_of_getElem? (i := 627) (by decide +kernel), List.mem_of_getElem? (i := 628) (by decide +kernel)⟩
theorem lw_p45 : lw_okq (⟨"CaneRounds$Formula", "letter", "(I)I"⟩, 11) := ⟨⟨by decide +kernel, by decide +kernel⟩, List.mem_of_getElem? (i := 134) (by decide +kernel), List.mem_of_getElem? (i := 633) (by decide +kernel), List.mem_of_getElem? (i := 634) (by decide +kernel)⟩
theorem lw_p46 : lw_okq (⟨"CaneRounds$Farms", "give", "(II)V"⟩, 5) := ⟨⟨by decide +kernel, by decide +kernel⟩, List.mem_of_getElem? (i := 23) (by decide +kernel), List.mem_of_getElem? (i := 649) (by decide +kernel), List.mem_of_getElem? (i := 650) (by decide +kernel)⟩
theorem lw_p47 : lw_okq (⟨"CaneRounds$Tape", "append", "(I)V"⟩, 2) := ⟨⟨by decide +kernel, by decide +kernel⟩, List.mem_of_getElem? (i := 118) (by decide +kernel), List.mem_of_getElem? (i := 657) (by decide +kernel), List.mem_of_getElem? (i := 658) (by decide +kernel)⟩
def lw_privs_3 : List (MethodName × Nat) := [(⟨"CaneRounds", "meanOfDay", "()I"⟩, 19), (⟨"CaneRounds$Load", "isToBePaid", "()Z"⟩, 12), (⟨"CaneRounds$Formula", "tell", "(IIIII)I"⟩, 11), (⟨"CaneRounds$Formula", "sum", "(I)I"⟩, 11), (⟨"CaneRounds$Formula", "product", "(I)I"⟩, 11), (⟨"CaneRounds$Formula", "one", "(I)I"⟩, 11), (⟨"CaneRounds$Formula", "token", "()I"⟩, 11), (⟨"CaneRounds$Formula", "number", "(I)I"⟩, 11), (⟨"CaneRounds$Formula", "stop", "(I)V"⟩, 11), (⟨"CaneRounds$Formula", "opens", "(II)Z"⟩, 11), (⟨"CaneRounds$Formula", "bracket", "(I)I"⟩, 11), (⟨"CaneRounds$Formula", "take", "(I)V"⟩, 11), (⟨"CaneRounds$Formula", "lesserOrGreater", "(ZI)I"⟩, 11), (⟨"CaneRounds$Formula", "letter", "(I)I"⟩, 11), (⟨"CaneRounds$Farms", "give", "(II)V"⟩, 5), (⟨"CaneRounds$Tape", "append", "(I)V"⟩, 2)]
theorem lw_r3 : ∀ q ∈ lw_privs_3, lw_okq q := List.forall_mem_cons.mpr ⟨lw_p32, List.forall_mem_cons.mpr ⟨lw_p33, List.forall_mem_cons.mpr ⟨lw_p34, List.forall_mem_cons.mpr ⟨lw_p35, List.forall_mem_cons.mpr ⟨lw_p36, List.forall_mem_cons.mpr ⟨lw_p37, List.forall_mem_cons.mpr ⟨lw_p38, List.forall_mem_cons.mpr ⟨lw_p39, List.forall_mem_cons.mpr ⟨lw_p40, List.forall_mem_cons.mpr ⟨lw_p41, List.forall_mem_cons.mpr ⟨lw_p42, List.forall_mem_cons.mpr ⟨lw_p43, List.forall_mem_cons.mpr ⟨lw_p44, List.forall_mem_cons.mpr ⟨lw_p45, List.forall_mem_cons.mpr ⟨lw_p46, List.forall_mem_cons.mpr ⟨lw_p47, fun _ h => absurd h List.not_mem_nil⟩⟩⟩⟩⟩⟩⟩⟩⟩⟩⟩⟩⟩⟩⟩⟩
theorem lw_p48 : lw_okq (⟨"CaneRounds$Formula", "split", "([BI)V"⟩, 11) := ⟨⟨by decide +kernel, by decide +kernel⟩, List.mem_of_getElem? (i := 134) (by decide +kernel), List.mem_of_getElem? (i := 669) (by decide +kernel), List.mem_of_getElem? (i := 670) (by decide +kernel)⟩
theorem lw_p49 : lw_okq (⟨"CaneRounds$Formula", "put", "(II)V"⟩, 11) := ⟨⟨by decide +kernel, by decide +kernel⟩, List.mem_of_getElem? (i := 134) (by decide +kernel), List.mem_of_getElem? (i := 680) (by decide +kernel), List.mem_of_getElem? (i := 681) (by decide +kernel)⟩
theorem lw_p50 : lw_okq (⟨"CaneRounds", "findLoad", "(I)LCaneRounds$Load;"⟩, 19) := ⟨⟨by decide +kernel, by decide +kernel⟩, List.mem_of_getElem? (i := 15) (by decide +kernel), List.mem_of_getElem? (i := 714) (by decide +kernel), List.mem_of_getElem? (i := 715) (by decide +kernel)⟩
theorem lw_p51 : lw_okq (⟨"CaneRounds$Bundles", "fieldOfTon", "(I)I"⟩, 2) := ⟨⟨by decide +kernel, by decide +kernel⟩, List.mem_of_getElem? (i := 61) (by decide +kernel), List.mem_of_getElem? (i := 722) (by decide +kernel), List.mem_of_getElem? (i := 723) (by decide +kernel)⟩
theorem lw_p52 : lw_okq (⟨"CaneRounds", "choose", "(II)Z"⟩, 19) := ⟨⟨by decide +kernel, by decide +kernel⟩, List.mem_of_getElem? (i := 15) (by decide +kernel), List.mem_of_getElem? (i := 730) (by decide +kernel), List.mem_of_getElem? (i := 731) (by decide +kernel)⟩
theorem lw_p53 : lw_okq (⟨"CaneRounds", "standingFields", "()I"⟩, 19) := ⟨⟨by decide +kernel, by decide +kernel⟩, List.mem_of_getElem? (i := 15) (by decide +kernel), List.mem_of_getElem? (i := 734) (by decide +kernel), List.mem_of_getElem? (i := 735) (by decide +kernel)⟩
theorem lw_p54 : lw_okq (⟨"CaneRounds$Chooser", "clear", "(I)V"⟩, 11) := ⟨⟨by decide +kernel, by decide +kernel⟩, List.mem_of_getElem? (i := 74) (by decide +kernel), List.mem_of_getElem? (i := 738) (by decide +kernel), List.mem_of_getElem? (i := 739) (by decide +kernel)⟩
theorem lw_p55 : lw_okq (⟨"CaneRounds$Chooser", "offer", "(LCaneRounds$Field;I)V"⟩, 11) := ⟨⟨by decide +kernel, by decide +kernel⟩, List.mem_of_getElem? (i := 74) (by decide +kernel), List.mem_of_getElem? (i := 745) (by decide +kernel), List.mem_of_getElem? (i := 746) (by decide +kernel)⟩
theorem lw_p56 : lw_okq (⟨"CaneRounds$Chooser", "decide", "(I)V"⟩, 11) := ⟨⟨by decide +kernel, by decide +kernel⟩, List.mem_of_getElem? (i := 74) (by decide +kernel), List.mem_of_getElem? (i := 757) (by decide +kernel), List.mem_of_getElem? (i := 758) (by decide +kernel)⟩
theorem lw_p57 : lw_okq (⟨"CaneRounds$Chooser", "sumDearest", "(I)V"⟩, 11) := ⟨⟨by decide +kernel, by decide +kernel⟩, List.mem_of_getElem? (i := 74) (by decide +kernel), List.mem_of_getElem? (i := 761) (by decide +kernel), List.mem_of_getElem? (i := 762) (by decide +kernel)⟩
theorem lw_p58 : lw_okq (⟨"CaneRounds$Chooser", "worthOfDearestThatFit", "(I)I"⟩, 11) := ⟨⟨by decide +kernel, by decide +kernel⟩, List.mem_of_getElem? (i := 74) (by decide +kernel), List.mem_of_getElem? (i := 765) (by decide +kernel), List.mem_of_getElem? (i := 766) (by decide +kernel)⟩
theorem lw_p59 : lw_okq (⟨"CaneRounds$Chooser", "fits", "(II)Z"⟩, 11) := ⟨⟨by decide +kernel, by decide +kernel⟩, List.mem_of_getElem? (i := 74) (by decide +kernel), List.mem_of_getElem? (i := 769) (by decide +kernel), List.mem_of_getElem? (i := 770) (by decide +kernel)⟩
theorem lw_p60 : lw_okq (⟨"CaneRounds$Chooser", "fitsFrom", "(II)Z"⟩, 11) := ⟨⟨by decide +kernel, by decide +kernel⟩, List.mem_of_getElem? (i := 74) (by decide +kernel), List.mem_of_getElem? (i := 774) (by decide +kernel), List.mem_of_getElem? (i := 775) (by decide +kernel)⟩
theorem lw_p61 : lw_okq (⟨"CaneRounds$Chooser", "search", "(IIII)V"⟩, 11) := ⟨⟨by decide +kernel, by decide +kernel⟩, List.mem_of_getElem? (i := 74) (by decide +kernel), List.mem_of_getElem? (i := 778) (by decide +kernel), List.mem_of_getElem? (i := 779) (by decide +kernel)⟩
theorem lw_p62 : lw_okq (⟨"CaneRounds$Farms", "earnedBy", "(I)J"⟩, 5) := ⟨⟨by decide +kernel, by decide +kernel⟩, List.mem_of_getElem? (i := 23) (by decide +kernel), List.mem_of_getElem? (i := 790) (by decide +kernel), List.mem_of_getElem? (i := 791) (by decide +kernel)⟩
theorem lw_p63 : lw_okq (⟨"CaneRounds", "tonsLost", "()I"⟩, 19) := ⟨⟨by decide +kernel, by decide +kernel⟩, List.mem_of_getElem? (i := 15) (by decide +kernel), List.mem_of_getElem? (i := 799) (by decide +kernel), List.mem_of_getElem? (i := 800) (by decide +kernel)⟩
def lw_privs_4 : List (MethodName × Nat) := [(⟨"CaneRounds$Formula", "split", "([BI)V"⟩, 11), (⟨"CaneRounds$Formula", "put", "(II)V"⟩, 11), (⟨"CaneRounds", "findLoad", "(I)LCaneRounds$Load;"⟩, 19), (⟨"CaneRounds$Bundles", "fieldOfTon", "(I)I"⟩, 2), (⟨"CaneRounds", "choose", "(II)Z"⟩, 19), (⟨"CaneRounds", "standingFields", "()I"⟩, 19), (⟨"CaneRounds$Chooser", "clear", "(I)V"⟩, 11), (⟨"CaneRounds$Chooser", "offer", "(LCaneRounds$Field;I)V"⟩, 11), (⟨"CaneRounds$Chooser", "decide", "(I)V"⟩, 11), (⟨"CaneRounds$Chooser", "sumDearest", "(I)V"⟩, 11), (⟨"CaneRounds$Chooser", "worthOfDearestThatFit", "(I)I"⟩, 11), (⟨"CaneRounds$Chooser", "fits", "(II)Z"⟩, 11), (⟨"CaneRounds$Chooser", "fitsFrom", "(II)Z"⟩, 11), (⟨"CaneRounds$Chooser", "search", "(IIII)V"⟩, 11), (⟨"CaneRounds$Farms", "earnedBy", "(I)J"⟩, 5), (⟨"CaneRounds", "tonsLost", "()I"⟩, 19)]
theorem lw_r4 : ∀ q ∈ lw_privs_4, lw_okq q := List.forall_mem_cons.mpr ⟨lw_p48, List.forall_mem_cons.mpr ⟨lw_p49, List.forall_mem_cons.mpr ⟨lw_p50, List.forall_mem_cons.mpr ⟨lw_p51, List.forall_mem_cons.mpr ⟨lw_p52, List.forall_mem_cons.mpr ⟨lw_p53, List.forall_mem_cons.mpr ⟨lw_p54, List.forall_mem_cons.mpr ⟨lw_p55, List.forall_mem_cons.mpr ⟨lw_p56, List.forall_mem_cons.mpr ⟨lw_p57, List.forall_mem_cons.mpr ⟨lw_p58, List.forall_mem_cons.mpr ⟨lw_p59, List.forall_mem_cons.mpr ⟨lw_p60, List.forall_mem_cons.mpr ⟨lw_p61, List.forall_mem_cons.mpr ⟨lw_p62, List.forall_mem_cons.mpr ⟨lw_p63, fun _ h => absurd h List.not_mem_nil⟩⟩⟩⟩⟩⟩⟩⟩⟩⟩⟩⟩⟩⟩⟩⟩
theorem lw_p64 : lw_okq (⟨"CaneRoundsModel", "isHour", "()Z"⟩, 64) := ⟨⟨by decide +kernel, by decide +kernel⟩, List.mem_of_getElem? (i := 804) (by decide +kernel), List.mem_of_getElem? (i := 1011) (by decide +kernel), List.mem_of_getElem? (i := 1012) (by decide +kernel)⟩
theorem lw_p65 : lw_okq (⟨"CaneRoundsModel", "turn", "()I"⟩, 64) := ⟨⟨by decide +kernel, by decide +kernel⟩, List.mem_of_getElem? (i := 804) (by decide +kernel), List.mem_of_getElem? (i := 1032) (by decide +kernel), List.mem_of_getElem? (i := 1033) (by decide +kernel)⟩
theorem lw_p66 : lw_okq (⟨"CaneRoundsModel", "isField", "(I)Z"⟩, 64) := ⟨⟨by decide +kernel, by decide +kernel⟩, List.mem_of_getElem? (i := 804) (by decide +kernel), List.mem_of_getElem? (i := 1044) (by decide +kernel), List.mem_of_getElem? (i := 1045) (by decide +kernel)⟩
theorem lw_p67 : lw_okq (⟨"CaneRoundsModel", "freeGangs", "()I"⟩, 64) := ⟨⟨by decide +kernel, by decide +kernel⟩, List.mem_of_getElem? (i := 804) (by decide +kernel), List.mem_of_getElem? (i := 1048) (by decide +kernel), List.mem_of_getElem? (i := 1049) (by decide +kernel)⟩
theorem lw_p68 : lw_okq (⟨"CaneRoundsModel", "sweetAt", "(II)I"⟩, 64) := ⟨⟨by decide +kernel, by decide +kernel⟩, List.mem_of_getElem? (i := 804) (by decide +kernel), List.mem_of_getElem? (i := 1056) (by decide +kernel), List.mem_of_getElem? (i := 1057) (by decide +kernel)⟩
theorem lw_p69 : lw_okq (⟨"CaneRoundsModel", "hour", "()V"⟩, 64) := ⟨⟨by decide +kernel, by decide +kernel⟩, List.mem_of_getElem? (i := 804) (by decide +kernel), List.mem_of_getElem? (i := 1064) (by decide +kernel), List.mem_of_getElem? (i := 1065) (by decide +kernel)⟩
theorem lw_p70 : lw_okq (⟨"CaneRoundsModel", "isHindered", "(ZI)Z"⟩, 64) := ⟨⟨by decide +kernel, by decide +kernel⟩, List.mem_of_getElem? (i := 804) (by decide +kernel), List.mem_of_getElem? (i := 1068) (by decide +kernel), List.mem_of_getElem? (i := 1069) (by decide +kernel)⟩
theorem lw_p71 : lw_okq (⟨"CaneRoundsModel", "cutOn", "(I)V"⟩, 64) := ⟨⟨by decide +kernel, by decide +kernel⟩, List.mem_of_getElem? (i := 804) (by decide +kernel), List.mem_of_getElem? (i := 1072) (by decide +kernel), List.mem_of_getElem? (i := 1073) (by decide +kernel)⟩
theorem lw_p72 : lw_okq (⟨"CaneRoundsModel", "send", "(I)V"⟩, 64) := ⟨⟨by decide +kernel, by decide +kernel⟩, List.mem_of_getElem? (i := 804) (by decide +kernel), List.mem_of_getElem? (i := 1077) (by decide +kernel), List.mem_of_getElem? (i := 1078) (by decide +kernel)⟩
theorem lw_p73 : lw_okq (⟨"CaneRoundsModel", "mill", "()V"⟩, 64) := ⟨⟨by decide +kernel, by decide +kernel⟩, List.mem_of_getElem? (i := 804) (by decide +kernel), List.mem_of_getElem? (i := 1084) (by decide +kernel), List.mem_of_getElem? (i := 1085) (by decide +kernel)⟩
theorem lw_p74 : lw_okq (⟨"CaneRoundsModel", "firstToDie", "()I"⟩, 64) := ⟨⟨by decide +kernel, by decide +kernel⟩, List.mem_of_getElem? (i := 804) (by decide +kernel), List.mem_of_getElem? (i := 1088) (by decide +kernel), List.mem_of_getElem? (i := 1089) (by decide +kernel)⟩
theorem lw_p75 : lw_okq (⟨"CaneRoundsModel", "left", "(I)I"⟩, 64) := ⟨⟨by decide +kernel, by decide +kernel⟩, List.mem_of_getElem? (i := 804) (by decide +kernel), List.mem_of_getElem? (i := 1092) (by decide +kernel), List.mem_of_getElem? (i := 1093) (by decide +kernel)⟩
theorem lw_p76 : lw_okq (⟨"CaneRoundsModel", "payDay", "()V"⟩, 64) := ⟨⟨by decide +kernel, by decide +kernel⟩, List.mem_of_getElem? (i := 804) (by decide +kernel), List.mem_of_getElem? (i := 1096) (by decide +kernel), List.mem_of_getElem? (i := 1097) (by decide +kernel)⟩
theorem lw_p77 : lw_okq (⟨"CaneRoundsModel", "work", "(IIIII)I"⟩, 64) := ⟨⟨by decide +kernel, by decide +kernel⟩, List.mem_of_getElem? (i := 804) (by decide +kernel), List.mem_of_getElem? (i := 1100) (by decide +kernel), List.mem_of_getElem? (i := 1101) (by decide +kernel)⟩
theorem lw_p78 : lw_okq (⟨"CaneRoundsModel", "four", "(I)V"⟩, 64) := ⟨⟨by decide +kernel, by decide +kernel⟩, List.mem_of_getElem? (i := 804) (by decide +kernel), List.mem_of_getElem? (i := 1116) (by decide +kernel), List.mem_of_getElem? (i := 1117) (by decide +kernel)⟩
theorem lw_p79 : lw_okq (⟨"CaneRoundsModel", "readText", "()I"⟩, 64) := ⟨⟨by decide +kernel, by decide +kernel⟩, List.mem_of_getElem? (i := 804) (by decide +kernel), List.mem_of_getElem? (i := 1128) (by decide +kernel), List.mem_of_getElem? (i := 1129) (by decide +kernel)⟩
def lw_privs_5 : List (MethodName × Nat) := [(⟨"CaneRoundsModel", "isHour", "()Z"⟩, 64), (⟨"CaneRoundsModel", "turn", "()I"⟩, 64), (⟨"CaneRoundsModel", "isField", "(I)Z"⟩, 64), (⟨"CaneRoundsModel", "freeGangs", "()I"⟩, 64), (⟨"CaneRoundsModel", "sweetAt", "(II)I"⟩, 64), (⟨"CaneRoundsModel", "hour", "()V"⟩, 64), (⟨"CaneRoundsModel", "isHindered", "(ZI)Z"⟩, 64), (⟨"CaneRoundsModel", "cutOn", "(I)V"⟩, 64), (⟨"CaneRoundsModel", "send", "(I)V"⟩, 64), (⟨"CaneRoundsModel", "mill", "()V"⟩, 64), (⟨"CaneRoundsModel", "firstToDie", "()I"⟩, 64), (⟨"CaneRoundsModel", "left", "(I)I"⟩, 64), (⟨"CaneRoundsModel", "payDay", "()V"⟩, 64), (⟨"CaneRoundsModel", "work", "(IIIII)I"⟩, 64), (⟨"CaneRoundsModel", "four", "(I)V"⟩, 64), (⟨"CaneRoundsModel", "readText", "()I"⟩, 64)]
theorem lw_r5 : ∀ q ∈ lw_privs_5, lw_okq q := List.forall_mem_cons.mpr ⟨lw_p64, List.forall_mem_cons.mpr ⟨lw_p65, List.forall_mem_cons.mpr ⟨lw_p66, List.forall_mem_cons.mpr ⟨lw_p67, List.forall_mem_cons.mpr ⟨lw_p68, List.forall_mem_cons.mpr ⟨lw_p69, List.forall_mem_cons.mpr ⟨lw_p70, List.forall_mem_cons.mpr ⟨lw_p71, List.forall_mem_cons.mpr ⟨lw_p72, List.forall_mem_cons.mpr ⟨lw_p73, List.forall_mem_cons.mpr ⟨lw_p74, List.forall_mem_cons.mpr ⟨lw_p75, List.forall_mem_cons.mpr ⟨lw_p76, List.forall_mem_cons.mpr ⟨lw_p77, List.forall_mem_cons.mpr ⟨lw_p78, List.forall_mem_cons.mpr ⟨lw_p79, fun _ h => absurd h List.not_mem_nil⟩⟩⟩⟩⟩⟩⟩⟩⟩⟩⟩⟩⟩⟩⟩⟩
theorem lw_p80 : lw_okq (⟨"CaneRoundsModel", "nextToken", "()V"⟩, 64) := ⟨⟨by decide +kernel, by decide +kernel⟩, List.mem_of_getElem? (i := 804) (by decide +kernel), List.mem_of_getElem? (i := 1132) (by decide +kernel), List.mem_of_getElem? (i := 1133) (by decide +kernel)⟩
theorem lw_p81 : lw_okq (⟨"CaneRoundsModel", "see", "(I)I"⟩, 64) := ⟨⟨by decide +kernel, by decide +kernel⟩, List.mem_of_getElem? (i := 804) (by decide +kernel), List.mem_of_getElem? (i := 1136) (by decide +kernel), List.mem_of_getElem? (i := 1137) (by decide +kernel)⟩
theorem lw_p82 : lw_okq (⟨"CaneRoundsModel", "behind", "()I"⟩, 64) := ⟨⟨by decide +kernel, by decide +kernel⟩, List.mem_of_getElem? (i := 804) (by decide +kernel), List.mem_of_getElem? (i := 1152) (by decide +kernel), List.mem_of_getElem? (i := 1153) (by decide +kernel)⟩
theorem lw_p83 : lw_okq (⟨"CaneRoundsModel", "settle", "(I)V"⟩, 64) := ⟨⟨by decide +kernel, by decide +kernel⟩, List.mem_of_getElem? (i := 804) (by decide +kernel), List.mem_of_getElem? (i := 1156) (by decide +kernel), List.mem_of_getElem? (i := 1157) (by decide +kernel)⟩
theorem lw_p84 : lw_okq (⟨"CaneRoundsModel", "emit", "(II)V"⟩, 64) := ⟨⟨by decide +kernel, by decide +kernel⟩, List.mem_of_getElem? (i := 804) (by decide +kernel), List.mem_of_getElem? (i := 1160) (by decide +kernel), List.mem_of_getElem? (i := 1161) (by decide +kernel)⟩
theorem lw_p85 : lw_okq (⟨"CaneRoundsModel", "push", "(I)V"⟩, 64) := ⟨⟨by decide +kernel, by decide +kernel⟩, List.mem_of_getElem? (i := 804) (by decide +kernel), List.mem_of_getElem? (i := 1164) (by decide +kernel), List.mem_of_getElem? (i := 1165) (by decide +kernel)⟩
theorem lw_p86 : lw_okq (⟨"CaneRoundsModel", "whole", "()V"⟩, 64) := ⟨⟨by decide +kernel, by decide +kernel⟩, List.mem_of_getElem? (i := 804) (by decide +kernel), List.mem_of_getElem? (i := 1168) (by decide +kernel), List.mem_of_getElem? (i := 1169) (by decide +kernel)⟩
theorem lw_p87 : lw_okq (⟨"CaneRoundsModel", "begin", "()I"⟩, 64) := ⟨⟨by decide +kernel, by decide +kernel⟩, List.mem_of_getElem? (i := 804) (by decide +kernel), List.mem_of_getElem? (i := 1172) (by decide +kernel), List.mem_of_getElem? (i := 1173) (by decide +kernel)⟩
theorem lw_p88 : lw_okq (⟨"CaneRoundsModel", "isSet", "(II)Z"⟩, 64) := ⟨⟨by decide +kernel, by decide +kernel⟩, List.mem_of_getElem? (i := 804) (by decide +kernel), List.mem_of_getElem? (i := 1209) (by decide +kernel), List.mem_of_getElem? (i := 1210) (by decide +kernel)⟩
theorem lw_p89 : lw_okq (⟨"CaneRoundsModel", "find", "(II)I"⟩, 64) := ⟨⟨by decide +kernel, by decide +kernel⟩, List.mem_of_getElem? (i := 804) (by decide +kernel), List.mem_of_getElem? (i := 1213) (by decide +kernel), List.mem_of_getElem? (i := 1214) (by decide +kernel)⟩
theorem lw_p90 : lw_okq (⟨"CaneRoundsModel", "could", "(I)Z"⟩, 64) := ⟨⟨by decide +kernel, by decide +kernel⟩, List.mem_of_getElem? (i := 804) (by decide +kernel), List.mem_of_getElem? (i := 1217) (by decide +kernel), List.mem_of_getElem? (i := 1218) (by decide +kernel)⟩
theorem lw_p91 : lw_okq (⟨"CaneRoundsModel", "dyingFirst", "(I)I"⟩, 64) := ⟨⟨by decide +kernel, by decide +kernel⟩, List.mem_of_getElem? (i := 804) (by decide +kernel), List.mem_of_getElem? (i := 1221) (by decide +kernel), List.mem_of_getElem? (i := 1222) (by decide +kernel)⟩
def lw_privs_6 : List (MethodName × Nat) := [(⟨"CaneRoundsModel", "nextToken", "()V"⟩, 64), (⟨"CaneRoundsModel", "see", "(I)I"⟩, 64), (⟨"CaneRoundsModel", "behind", "()I"⟩, 64), (⟨"CaneRoundsModel", "settle", "(I)V"⟩, 64), (⟨"CaneRoundsModel", "emit", "(II)V"⟩, 64), (⟨"CaneRoundsModel", "push", "(I)V"⟩, 64), (⟨"CaneRoundsModel", "whole", "()V"⟩, 64), (⟨"CaneRoundsModel", "begin", "()I"⟩, 64), (⟨"CaneRoundsModel", "isSet", "(II)Z"⟩, 64), (⟨"CaneRoundsModel", "find", "(II)I"⟩, 64), (⟨"CaneRoundsModel", "could", "(I)Z"⟩, 64), (⟨"CaneRoundsModel", "dyingFirst", "(I)I"⟩, 64)]
theorem lw_r6 : ∀ q ∈ lw_privs_6, lw_okq q := List.forall_mem_cons.mpr ⟨lw_p80, List.forall_mem_cons.mpr ⟨lw_p81, List.forall_mem_cons.mpr ⟨lw_p82, List.forall_mem_cons.mpr ⟨lw_p83, List.forall_mem_cons.mpr ⟨lw_p84, List.forall_mem_cons.mpr ⟨lw_p85, List.forall_mem_cons.mpr ⟨lw_p86, List.forall_mem_cons.mpr ⟨lw_p87, List.forall_mem_cons.mpr ⟨lw_p88, List.forall_mem_cons.mpr ⟨lw_p89, List.forall_mem_cons.mpr ⟨lw_p90, List.forall_mem_cons.mpr ⟨lw_p91, fun _ h => absurd h List.not_mem_nil⟩⟩⟩⟩⟩⟩⟩⟩⟩⟩⟩⟩
def lw_privs : List (MethodName × Nat) := lw_privs_1 ++ (lw_privs_2 ++ (lw_privs_3 ++ (lw_privs_4 ++ (lw_privs_5 ++ (lw_privs_6)))))
def lw_tbl : List Cond := k2_sels lw_privs ++ tables_1
theorem lw_privs_ok : ∀ q ∈ lw_privs, lw_okq q := by
  show ∀ q ∈ lw_privs_1 ++ (lw_privs_2 ++ (lw_privs_3 ++ (lw_privs_4 ++ (lw_privs_5 ++ (lw_privs_6))))), lw_okq q
  exact List.forall_mem_append.mpr ⟨lw_r1, List.forall_mem_append.mpr ⟨lw_r2, List.forall_mem_append.mpr ⟨lw_r3, List.forall_mem_append.mpr ⟨lw_r4, List.forall_mem_append.mpr ⟨lw_r5, lw_r6⟩⟩⟩⟩⟩
-- the words that are kept from state to state, and those of nest mates
def tt_g : List Cond := lw_tbl.filter goodWord
def tt_isN : Cond → Bool
  | .fieldLinkNest _ _ _ _ _ _ => true
  | .methodLinkNest _ _ _ _ => true
  | _ => false
def tt_n : List Cond := lw_tbl.filter tt_isN
def tt_chk (ws : List Cond) (ps : List Nat) : Bool := ws.length == ps.length && (ws.zip ps).all (fun q => decide (lw_tbl[q.2]? = some q.1) && goodWord q.1)
theorem tt_of {ws : List Cond} (ps : List Nat) (h : tt_chk ws ps = true) : ∀ w ∈ ws, w ∈ tt_g := by
  intro w hw
  simp only [tt_chk, Bool.and_eq_true, beq_iff_eq, List.all_eq_true] at h
  obtain ⟨k, hk, rfl⟩ := List.mem_iff_getElem.mp hw
  have hk2 : k < ps.length := by omega
  have hm : (ws[k], ps[k]) ∈ ws.zip ps := by
    rw [List.mem_iff_getElem]
    exact ⟨k, by rw [List.length_zip]; omega, by simp⟩
  have h2 := h.2 _ hm
  simp only [decide_eq_true_eq] at h2
  exact List.mem_filter.mpr ⟨List.mem_of_getElem? h2.1, h2.2⟩
theorem tt_ofN {w : Cond} (i : Nat) (h : decide (lw_tbl[i]? = some w) = true) (hn : tt_isN w = true) : w ∈ tt_n :=
  List.mem_filter.mpr ⟨List.mem_of_getElem? (of_decide_eq_true h), hn⟩
theorem tt_g1 {w : Cond} (i : Nat) (h : decide (lw_tbl[i]? = some w) = true) (hn : goodWord w = true) : w ∈ tt_g :=
  List.mem_filter.mpr ⟨List.mem_of_getElem? (of_decide_eq_true h), hn⟩

def cs_R0 : String := "CaneRounds$Batch"
def cs_T0 : u_T := fun k => match k with
  | 0 => ("CaneRounds$Batch", "field", "I", true)
  | 1 => ("CaneRounds$Batch", "end", "I", false)
  | _ => ("CaneRounds$Batch", "next", "LCaneRounds$Batch;", false)
def cs_y0 : Nat → FieldType := fun k => match k with
  | 0 => .int
  | 1 => .int
  | _ => .object "CaneRounds$Batch"
theorem cs_n0 : ∀ a, a < 3 → ∀ b, b < 3 → a ≠ b → (cs_T0 a).2.1 ≠ (cs_T0 b).2.1 := by decide +kernel
theorem cs_p0 : ∀ k, k < 3 → parseFieldDescriptor (cs_T0 k).2.2.1 = some (cs_y0 k) := by decide +kernel
theorem cs_w0 : ∀ w ∈ u_ws cs_R0 cs_T0 3, w ∈ tt_g := tt_of [649, 651, 653] (by decide +kernel)
def cs_R1 : String := "CaneRounds$Bundles"
def cs_T1 : u_T := fun k => match k with
  | 0 => ("CaneRounds$Bundles", "first", "LCaneRounds$Batch;", false)
  | _ => ("CaneRounds$Bundles", "last", "LCaneRounds$Batch;", false)
def cs_y1 : Nat → FieldType := fun k => match k with
  | 0 => .object "CaneRounds$Batch"
  | _ => .object "CaneRounds$Batch"
theorem cs_n1 : ∀ a, a < 2 → ∀ b, b < 2 → a ≠ b → (cs_T1 a).2.1 ≠ (cs_T1 b).2.1 := by decide +kernel
theorem cs_p1 : ∀ k, k < 2 → parseFieldDescriptor (cs_T1 k).2.2.1 = some (cs_y1 k) := by decide +kernel
theorem cs_w1 : ∀ w ∈ u_ws cs_R1 cs_T1 2, w ∈ tt_g := tt_of [160, 162] (by decide +kernel)
def cs_R2 : String := "CaneRounds$Chooser"
def cs_T2 : u_T := fun k => match k with
  | 0 => ("CaneRounds$Chooser", "tons", "[I", true)
  | 1 => ("CaneRounds$Chooser", "worth", "[I", true)
  | 2 => ("CaneRounds$Chooser", "arrives", "[I", true)
  | 3 => ("CaneRounds$Chooser", "byDeath", "[I", true)
  | 4 => ("CaneRounds$Chooser", "byWorth", "[I", true)
  | 5 => ("CaneRounds$Chooser", "most", "[[I", true)
  | 6 => ("CaneRounds$Chooser", "candidates", "I", false)
  | 7 => ("CaneRounds$Chooser", "count", "I", false)
  | 8 => ("CaneRounds$Chooser", "crush", "I", false)
  | 9 => ("CaneRounds$Chooser", "bestWorth", "I", false)
  | _ => ("CaneRounds$Chooser", "bestSet", "I", false)
def cs_y2 : Nat → FieldType := fun k => match k with
  | 0 => .array .int
  | 1 => .array .int
  | 2 => .array .int
  | 3 => .array .int
  | 4 => .array .int
  | 5 => .array (.array .int)
  | 6 => .int
  | 7 => .int
  | 8 => .int
  | 9 => .int
  | _ => .int
theorem cs_n2 : ∀ a, a < 11 → ∀ b, b < 11 → a ≠ b → (cs_T2 a).2.1 ≠ (cs_T2 b).2.1 := by decide +kernel
theorem cs_p2 : ∀ k, k < 11 → parseFieldDescriptor (cs_T2 k).2.2.1 = some (cs_y2 k) := by decide +kernel
theorem cs_w2 : ∀ w ∈ u_ws cs_R2 cs_T2 11, w ∈ tt_g := tt_of [186, 188, 190, 192, 194, 196, 198, 200, 202, 204, 206] (by decide +kernel)
def cs_R3 : String := "CaneRounds$Farms"
def cs_T3 : u_T := fun k => match k with
  | 0 => ("CaneRounds$Farms", "earned", "[J", true)
  | 1 => ("CaneRounds$Farms", "order", "[I", true)
  | 2 => ("CaneRounds$Farms", "count", "I", false)
  | 3 => ("CaneRounds$Farms", "ordered", "I", false)
  | _ => ("CaneRounds$Farms", "settled", "I", false)
def cs_y3 : Nat → FieldType := fun k => match k with
  | 0 => .array .long
  | 1 => .array .int
  | 2 => .int
  | 3 => .int
  | _ => .int
theorem cs_n3 : ∀ a, a < 5 → ∀ b, b < 5 → a ≠ b → (cs_T3 a).2.1 ≠ (cs_T3 b).2.1 := by decide +kernel
theorem cs_p3 : ∀ k, k < 5 → parseFieldDescriptor (cs_T3 k).2.2.1 = some (cs_y3 k) := by decide +kernel
theorem cs_w3 : ∀ w ∈ u_ws cs_R3 cs_T3 5, w ∈ tt_g := tt_of [126, 128, 130, 132, 134] (by decide +kernel)
def cs_R4 : String := "CaneRounds$Field"
def cs_T4 : u_T := fun k => match k with
  | 0 => ("CaneRounds$Field", "number", "I", true)
  | 1 => ("CaneRounds$Field", "farm", "I", true)
  | 2 => ("CaneRounds$Field", "tons", "I", true)
  | 3 => ("CaneRounds$Field", "km", "I", true)
  | 4 => ("CaneRounds$Field", "top", "I", true)
  | 5 => ("CaneRounds$Field", "ripe", "I", true)
  | 6 => ("CaneRounds$Field", "fades", "I", true)
  | 7 => ("CaneRounds$Field", "state", "I", false)
  | 8 => ("CaneRounds$Field", "tonsCut", "I", false)
  | 9 => ("CaneRounds$Field", "gangs", "I", false)
  | 10 => ("CaneRounds$Field", "burnt", "Z", false)
  | 11 => ("CaneRounds$Field", "burntAt", "I", false)
  | 12 => ("CaneRounds$Field", "burntSweet", "I", false)
  | 13 => ("CaneRounds$Field", "load", "I", false)
  | _ => ("CaneRounds$Field", "next", "LCaneRounds$Field;", false)
def cs_y4 : Nat → FieldType := fun k => match k with
  | 0 => .int
  | 1 => .int
  | 2 => .int
  | 3 => .int
  | 4 => .int
  | 5 => .int
  | 6 => .int
  | 7 => .int
  | 8 => .int
  | 9 => .int
  | 10 => .boolean
  | 11 => .int
  | 12 => .int
  | 13 => .int
  | _ => .object "CaneRounds$Field"
theorem cs_n4 : ∀ a, a < 15 → ∀ b, b < 15 → a ≠ b → (cs_T4 a).2.1 ≠ (cs_T4 b).2.1 := by decide +kernel
theorem cs_p4 : ∀ k, k < 15 → parseFieldDescriptor (cs_T4 k).2.2.1 = some (cs_y4 k) := by decide +kernel
theorem cs_w4 : ∀ w ∈ u_ws cs_R4 cs_T4 15, w ∈ tt_g := tt_of [381, 383, 385, 387, 389, 391, 393, 395, 397, 399, 401, 403, 405, 407, 409] (by decide +kernel)
def cs_R5 : String := "CaneRounds$Formula"
def cs_T5 : u_T := fun k => match k with
  | 0 => ("CaneRounds$Formula", "tokens", "[I", true)
  | 1 => ("CaneRounds$Formula", "places", "[I", true)
  | 2 => ("CaneRounds$Formula", "count", "I", false)
  | 3 => ("CaneRounds$Formula", "at", "I", false)
  | 4 => ("CaneRounds$Formula", "fault", "I", false)
  | 5 => ("CaneRounds$Formula", "place", "I", false)
  | 6 => ("CaneRounds$Formula", "t", "I", false)
  | 7 => ("CaneRounds$Formula", "s", "I", false)
  | 8 => ("CaneRounds$Formula", "m", "I", false)
  | 9 => ("CaneRounds$Formula", "b", "I", false)
  | _ => ("CaneRounds$Formula", "h", "I", false)
def cs_y5 : Nat → FieldType := fun k => match k with
  | 0 => .array .int
  | 1 => .array .int
  | 2 => .int
  | 3 => .int
  | 4 => .int
  | 5 => .int
  | 6 => .int
  | 7 => .int
  | 8 => .int
  | 9 => .int
  | _ => .int
theorem cs_n5 : ∀ a, a < 11 → ∀ b, b < 11 → a ≠ b → (cs_T5 a).2.1 ≠ (cs_T5 b).2.1 := by decide +kernel
theorem cs_p5 : ∀ k, k < 11 → parseFieldDescriptor (cs_T5 k).2.2.1 = some (cs_y5 k) := by decide +kernel
theorem cs_w5 : ∀ w ∈ u_ws cs_R5 cs_T5 11, w ∈ tt_g := tt_of [244, 246, 248, 250, 252, 254, 256, 258, 260, 262, 264] (by decide +kernel)
def cs_R6 : String := "CaneRounds$Load"
def cs_T6 : u_T := fun k => match k with
  | 0 => ("CaneRounds$Load", "number", "I", true)
  | 1 => ("CaneRounds$Load", "field", "LCaneRounds$Field;", true)
  | 2 => ("CaneRounds$Load", "cutAt", "I", true)
  | 3 => ("CaneRounds$Load", "sweet", "I", true)
  | 4 => ("CaneRounds$Load", "dies", "I", true)
  | 5 => ("CaneRounds$Load", "atMill", "I", false)
  | 6 => ("CaneRounds$Load", "truckFreeAt", "I", false)
  | 7 => ("CaneRounds$Load", "crushed", "I", false)
  | 8 => ("CaneRounds$Load", "lost", "I", false)
  | 9 => ("CaneRounds$Load", "overAt", "I", false)
  | 10 => ("CaneRounds$Load", "pay", "I", false)
  | _ => ("CaneRounds$Load", "next", "LCaneRounds$Load;", false)
def cs_y6 : Nat → FieldType := fun k => match k with
  | 0 => .int
  | 1 => .object "CaneRounds$Field"
  | 2 => .int
  | 3 => .int
  | 4 => .int
  | 5 => .int
  | 6 => .int
  | 7 => .int
  | 8 => .int
  | 9 => .int
  | 10 => .int
  | _ => .object "CaneRounds$Load"
theorem cs_n6 : ∀ a, a < 12 → ∀ b, b < 12 → a ≠ b → (cs_T6 a).2.1 ≠ (cs_T6 b).2.1 := by decide +kernel
theorem cs_p6 : ∀ k, k < 12 → parseFieldDescriptor (cs_T6 k).2.2.1 = some (cs_y6 k) := by decide +kernel
theorem cs_w6 : ∀ w ∈ u_ws cs_R6 cs_T6 12, w ∈ tt_g := tt_of [568, 570, 572, 574, 576, 578, 580, 582, 584, 586, 588, 590] (by decide +kernel)
def cs_R7 : String := "CaneRounds$Span"
def cs_T7 : u_T := fun k => match k with
  | 0 => ("CaneRounds$Span", "stops", "Z", true)
  | 1 => ("CaneRounds$Span", "from", "I", true)
  | 2 => ("CaneRounds$Span", "to", "I", true)
  | _ => ("CaneRounds$Span", "earlier", "LCaneRounds$Span;", true)
def cs_y7 : Nat → FieldType := fun k => match k with
  | 0 => .boolean
  | 1 => .int
  | 2 => .int
  | _ => .object "CaneRounds$Span"
theorem cs_n7 : ∀ a, a < 4 → ∀ b, b < 4 → a ≠ b → (cs_T7 a).2.1 ≠ (cs_T7 b).2.1 := by decide +kernel
theorem cs_p7 : ∀ k, k < 4 → parseFieldDescriptor (cs_T7 k).2.2.1 = some (cs_y7 k) := by decide +kernel
theorem cs_w7 : ∀ w ∈ u_ws cs_R7 cs_T7 4, w ∈ tt_g := tt_of [434, 436, 438, 440] (by decide +kernel)
def cs_R8 : String := "CaneRounds$Tape"
def cs_T8 : u_T := fun k => match k with
  | 0 => ("CaneRounds$Tape", "bytes", "[B", true)
  | _ => ("CaneRounds$Tape", "length", "I", false)
def cs_y8 : Nat → FieldType := fun k => match k with
  | 0 => .array .byte
  | _ => .int
theorem cs_n8 : ∀ a, a < 2 → ∀ b, b < 2 → a ≠ b → (cs_T8 a).2.1 ≠ (cs_T8 b).2.1 := by decide +kernel
theorem cs_p8 : ∀ k, k < 2 → parseFieldDescriptor (cs_T8 k).2.2.1 = some (cs_y8 k) := by decide +kernel
theorem cs_w8 : ∀ w ∈ u_ws cs_R8 cs_T8 2, w ∈ tt_g := tt_of [219, 221] (by decide +kernel)
def cs_R9 : String := "CaneRounds$Weather"
def cs_T9 : u_T := fun k => match k with
  | 0 => ("CaneRounds$Weather", "latest", "LCaneRounds$Span;", false)
  | _ => ("CaneRounds$Weather", "count", "I", false)
def cs_y9 : Nat → FieldType := fun k => match k with
  | 0 => .object "CaneRounds$Span"
  | _ => .int
theorem cs_n9 : ∀ a, a < 2 → ∀ b, b < 2 → a ≠ b → (cs_T9 a).2.1 ≠ (cs_T9 b).2.1 := by decide +kernel
theorem cs_p9 : ∀ k, k < 2 → parseFieldDescriptor (cs_T9 k).2.2.1 = some (cs_y9 k) := by decide +kernel
theorem cs_w9 : ∀ w ∈ u_ws cs_R9 cs_T9 2, w ∈ tt_g := tt_of [147, 149] (by decide +kernel)
def cs_R10 : String := "CaneRounds"
def cs_T10 : u_T := fun k => match k with
  | 0 => ("CaneRounds", "gangs", "I", false)
  | 1 => ("CaneRounds", "rate", "I", false)
  | 2 => ("CaneRounds", "trucks", "I", false)
  | 3 => ("CaneRounds", "crush", "I", false)
  | 4 => ("CaneRounds", "clock", "I", false)
  | 5 => ("CaneRounds", "mean", "I", false)
  | 6 => ("CaneRounds", "firstField", "LCaneRounds$Field;", false)
  | 7 => ("CaneRounds", "lastField", "LCaneRounds$Field;", false)
  | 8 => ("CaneRounds", "firstLoad", "LCaneRounds$Load;", false)
  | 9 => ("CaneRounds", "lastLoad", "LCaneRounds$Load;", false)
  | 10 => ("CaneRounds", "farms", "LCaneRounds$Farms;", true)
  | 11 => ("CaneRounds", "weather", "LCaneRounds$Weather;", true)
  | 12 => ("CaneRounds", "bundles", "LCaneRounds$Bundles;", true)
  | 13 => ("CaneRounds", "chooser", "LCaneRounds$Chooser;", true)
  | 14 => ("CaneRounds", "tape", "LCaneRounds$Tape;", true)
  | 15 => ("CaneRounds", "formula", "LCaneRounds$Formula;", false)
  | 16 => ("CaneRounds", "spareFormula", "LCaneRounds$Formula;", false)
  | 17 => ("CaneRounds", "latestFault", "I", false)
  | _ => ("CaneRounds", "latestPlace", "I", false)
def cs_y10 : Nat → FieldType := fun k => match k with
  | 0 => .int
  | 1 => .int
  | 2 => .int
  | 3 => .int
  | 4 => .int
  | 5 => .int
  | 6 => .object "CaneRounds$Field"
  | 7 => .object "CaneRounds$Field"
  | 8 => .object "CaneRounds$Load"
  | 9 => .object "CaneRounds$Load"
  | 10 => .object "CaneRounds$Farms"
  | 11 => .object "CaneRounds$Weather"
  | 12 => .object "CaneRounds$Bundles"
  | 13 => .object "CaneRounds$Chooser"
  | 14 => .object "CaneRounds$Tape"
  | 15 => .object "CaneRounds$Formula"
  | 16 => .object "CaneRounds$Formula"
  | 17 => .int
  | _ => .int
theorem cs_n10 : ∀ a, a < 19 → ∀ b, b < 19 → a ≠ b → (cs_T10 a).2.1 ≠ (cs_T10 b).2.1 := by decide +kernel
theorem cs_p10 : ∀ k, k < 19 → parseFieldDescriptor (cs_T10 k).2.2.1 = some (cs_y10 k) := by decide +kernel
theorem cs_w10 : ∀ w ∈ u_ws cs_R10 cs_T10 19, w ∈ tt_g := tt_of [286, 288, 290, 292, 294, 296, 298, 300, 302, 304, 306, 308, 310, 312, 314, 316, 318, 320, 322] (by decide +kernel)
def cs_R11 : String := "CaneRoundsModel"
def cs_T11 : u_T := fun k => match k with
  | 0 => ("CaneRoundsModel", "clock", "I", false)
  | 1 => ("CaneRoundsModel", "farms", "I", false)
  | 2 => ("CaneRoundsModel", "fields", "I", false)
  | 3 => ("CaneRoundsModel", "loads", "I", false)
  | 4 => ("CaneRoundsModel", "gangs", "I", false)
  | 5 => ("CaneRoundsModel", "rate", "I", false)
  | 6 => ("CaneRoundsModel", "trucks", "I", false)
  | 7 => ("CaneRoundsModel", "crush", "I", false)
  | 8 => ("CaneRoundsModel", "paid", "[J", true)
  | 9 => ("CaneRoundsModel", "farmOf", "[I", true)
  | 10 => ("CaneRoundsModel", "tons", "[I", true)
  | 11 => ("CaneRoundsModel", "km", "[I", true)
  | 12 => ("CaneRoundsModel", "top", "[I", true)
  | 13 => ("CaneRoundsModel", "ripe", "[I", true)
  | 14 => ("CaneRoundsModel", "fades", "[I", true)
  | 15 => ("CaneRoundsModel", "state", "[I", true)
  | 16 => ("CaneRoundsModel", "done", "[I", true)
  | 17 => ("CaneRoundsModel", "at", "[I", true)
  | 18 => ("CaneRoundsModel", "burnt", "[I", true)
  | 19 => ("CaneRoundsModel", "burntSweet", "[I", true)
  | 20 => ("CaneRoundsModel", "loadOf", "[I", true)
  | 21 => ("CaneRoundsModel", "weathers", "I", false)
  | 22 => ("CaneRoundsModel", "stops", "[Z", true)
  | 23 => ("CaneRoundsModel", "from", "[I", true)
  | 24 => ("CaneRoundsModel", "to", "[I", true)
  | 25 => ("CaneRoundsModel", "loadField", "[I", true)
  | 26 => ("CaneRoundsModel", "cutAt", "[I", true)
  | 27 => ("CaneRoundsModel", "sweet", "[I", true)
  | 28 => ("CaneRoundsModel", "dies", "[I", true)
  | 29 => ("CaneRoundsModel", "atMill", "[I", true)
  | 30 => ("CaneRoundsModel", "crushed", "[I", true)
  | 31 => ("CaneRoundsModel", "lost", "[I", true)
  | 32 => ("CaneRoundsModel", "over", "[I", true)
  | 33 => ("CaneRoundsModel", "pay", "[I", true)
  | 34 => ("CaneRoundsModel", "truckFree", "[I", true)
  | 35 => ("CaneRoundsModel", "bundles", "[B", true)
  | 36 => ("CaneRoundsModel", "allCrushed", "I", false)
  | 37 => ("CaneRoundsModel", "allLost", "I", false)
  | 38 => ("CaneRoundsModel", "mean", "I", false)
  | 39 => ("CaneRoundsModel", "roundMany", "I", false)
  | 40 => ("CaneRoundsModel", "order", "[I", true)
  | 41 => ("CaneRoundsModel", "isThrough", "[Z", true)
  | 42 => ("CaneRoundsModel", "tape", "[I", true)
  | 43 => ("CaneRoundsModel", "taped", "I", false)
  | 44 => ("CaneRoundsModel", "textMany", "I", false)
  | 45 => ("CaneRoundsModel", "op", "[I", true)
  | 46 => ("CaneRoundsModel", "number", "[I", true)
  | 47 => ("CaneRoundsModel", "fault", "I", false)
  | 48 => ("CaneRoundsModel", "faultPlace", "I", false)
  | 49 => ("CaneRoundsModel", "read", "I", false)
  | 50 => ("CaneRoundsModel", "place", "I", false)
  | 51 => ("CaneRoundsModel", "token", "I", false)
  | 52 => ("CaneRoundsModel", "told", "I", false)
  | 53 => ("CaneRoundsModel", "written", "I", false)
  | 54 => ("CaneRoundsModel", "opens", "I", false)
  | 55 => ("CaneRoundsModel", "piled", "I", false)
  | 56 => ("CaneRoundsModel", "pile", "[I", true)
  | 57 => ("CaneRoundsModel", "isWhole", "Z", false)
  | 58 => ("CaneRoundsModel", "values", "[J", true)
  | 59 => ("CaneRoundsModel", "wouldAt", "[I", true)
  | 60 => ("CaneRoundsModel", "wouldDie", "[I", true)
  | 61 => ("CaneRoundsModel", "wouldBe", "[I", true)
  | 62 => ("CaneRoundsModel", "rest", "[I", true)
  | _ => ("CaneRoundsModel", "bestWorth", "I", false)
def cs_y11 : Nat → FieldType := fun k => match k with
  | 0 => .int
  | 1 => .int
  | 2 => .int
  | 3 => .int
  | 4 => .int
  | 5 => .int
  | 6 => .int
  | 7 => .int
  | 8 => .array .long
  | 9 => .array .int
  | 10 => .array .int
  | 11 => .array .int
  | 12 => .array .int
  | 13 => .array .int
  | 14 => .array .int
  | 15 => .array .int
  | 16 => .array .int
  | 17 => .array .int
  | 18 => .array .int
  | 19 => .array .int
  | 20 => .array .int
  | 21 => .int
  | 22 => .array .boolean
  | 23 => .array .int
  | 24 => .array .int
  | 25 => .array .int
  | 26 => .array .int
  | 27 => .array .int
  | 28 => .array .int
  | 29 => .array .int
  | 30 => .array .int
  | 31 => .array .int
  | 32 => .array .int
  | 33 => .array .int
  | 34 => .array .int
  | 35 => .array .byte
  | 36 => .int
  | 37 => .int
  | 38 => .int
  | 39 => .int
  | 40 => .array .int
  | 41 => .array .boolean
  | 42 => .array .int
  | 43 => .int
  | 44 => .int
  | 45 => .array .int
  | 46 => .array .int
  | 47 => .int
  | 48 => .int
  | 49 => .int
  | 50 => .int
  | 51 => .int
  | 52 => .int
  | 53 => .int
  | 54 => .int
  | 55 => .int
  | 56 => .array .int
  | 57 => .boolean
  | 58 => .array .long
  | 59 => .array .int
  | 60 => .array .int
  | 61 => .array .int
  | 62 => .array .int
  | _ => .int
theorem cs_n11 : ∀ a, a < 64 → ∀ b, b < 64 → a ≠ b → (cs_T11 a).2.1 ≠ (cs_T11 b).2.1 := by decide +kernel
theorem cs_p11 : ∀ k, k < 64 → parseFieldDescriptor (cs_T11 k).2.2.1 = some (cs_y11 k) := by decide +kernel
theorem cs_w11 : ∀ w ∈ u_ws cs_R11 cs_T11 64, w ∈ tt_g := tt_of [965, 967, 969, 971, 973, 975, 977, 979, 981, 983, 985, 987, 989, 991, 993, 995, 997, 999, 1001, 1003, 1005, 1007, 1009, 1011, 1013, 1015, 1017, 1019, 1021, 1023, 1025, 1027, 1029, 1031, 1033, 1035, 1037, 1039, 1041, 1043, 1045, 1047, 1049, 1051, 1053, 1055, 1057, 1059, 1061, 1063, 1065, 1067, 1069, 1071, 1073, 1075, 1077, 1079, 1081, 1083, 1085, 1087, 1089, 1091] (by decide +kernel)
abbrev cs_all : List vw_C := [(cs_R0, cs_T0, 3), (cs_R1, cs_T1, 2), (cs_R2, cs_T2, 11), (cs_R3, cs_T3, 5), (cs_R4, cs_T4, 15), (cs_R5, cs_T5, 11), (cs_R6, cs_T6, 12), (cs_R7, cs_T7, 4), (cs_R8, cs_T8, 2), (cs_R9, cs_T9, 2), (cs_R10, cs_T10, 19), (cs_R11, cs_T11, 64)]
end
section
-- ===== values, cells, worlds of the abstract machine =====
abbrev av_T : Type := Int ⊕ (Int ⊕ (Option Nat ⊕ Unit))
abbrev av_i (a : Int) : av_T := Sum.inl a
abbrev av_l (a : Int) : av_T := Sum.inr (Sum.inl a)
abbrev av_q (q : Option Nat) : av_T := Sum.inr (Sum.inr (Sum.inl q))
abbrev av_r (k : Nat) : av_T := Sum.inr (Sum.inr (Sum.inl (some k)))
abbrev av_n : av_T := Sum.inr (Sum.inr (Sum.inl none))
abbrev av_s : av_T := Sum.inr (Sum.inr (Sum.inr ()))
/-- launch; the script's cell, length, ints; the first new address; class numbers, slots; array classes -/
abbrev aw_T : Type := Launch × (Nat × (Nat × ((Nat → Int32) × (Nat × ((Nat → ClassId) × ((Nat → Nat → Nat) × (Nat → ClassId)))))))
def aw_l (w : aw_T) : Launch := w.1
def aw_b (w : aw_T) : Nat := w.2.1
def aw_L (w : aw_T) : Nat := w.2.2.1
def aw_x (w : aw_T) : Nat → Int32 := w.2.2.2.1
def aw_o (w : aw_T) : Nat := w.2.2.2.2.1
def aw_D (w : aw_T) : va_G := (w.2.2.2.2.2.1, w.2.2.2.2.2.2.1)
def aw_A (w : aw_T) : Nat → ClassId := w.2.2.2.2.2.2.2
def av_v (w : aw_T) : av_T → Value
  | .inl a => .int (Int32.ofInt a)
  | .inr (.inl a) => .long (Int64.ofInt a)
  | .inr (.inr (.inl (some k))) => .ref (aw_o w + k)
  | .inr (.inr (.inl none)) => .null
  | .inr (.inr (.inr _)) => .ref (aw_b w)
def av_c : av_T → Nat
  | .inr (.inl _) => 2
  | _ => 1
theorem av_cat (w : aw_T) (v : av_T) : (av_v w v).category = av_c v := by
  rcases v with a | a | (_ | k) | u <;> rfl
theorem av_c1 (v : av_T) : av_c v ≤ 2 := by
  rcases v with a | a | (_ | k) | u <;> simp [av_c]
theorem av_sum (w : aw_T) (r : List av_T) : ((r.map (av_v w)).map fun v => v.category).sum ≤ 2 * r.length := by
  induction r with
  | nil => simp
  | cons v r ih =>
    have := av_c1 v
    simp only [List.map_cons, List.sum_cons, List.length_cons, av_cat]
    omega
abbrev ac_T : Type := (Nat × (Nat × (Nat → Int))) ⊕ ((Nat × (Nat → Int)) ⊕ ((Nat × (Nat → Option Nat)) ⊕ (Nat × List av_T)))
abbrev ac_a (t n : Nat) (f : Nat → Int) : ac_T := Sum.inl (t, n, f)
abbrev ac_l (n : Nat) (f : Nat → Int) : ac_T := Sum.inr (Sum.inl (n, f))
abbrev ac_q (n : Nat) (g : Nat → Option Nat) : ac_T := Sum.inr (Sum.inr (Sum.inl (n, g)))
abbrev ac_o (ci : Nat) (fs : List av_T) : ac_T := Sum.inr (Sum.inr (Sum.inr (ci, fs)))
def ac_E (w : aw_T) : ac_T → va_E
  | .inl (t, n, f) => .inl (aw_A w t, n, .inl (fun j => Int32.ofInt (f j)))
  | .inr (.inl (n, f)) => .inl (aw_A w 3, n, .inr (.inl (fun j => Int64.ofInt (f j))))
  | .inr (.inr (.inl (n, g))) => .inl (aw_A w 4, n, .inr (.inr (.inr (.inr (fun j => (g j).map (fun k => aw_o w + k))))))
  | .inr (.inr (.inr (ci, fs))) => .inr (ci, fs.map (av_v w))
abbrev ah_T : Type := List ac_T
def ah_R (w : aw_T) (h : ah_T) (H : Heap) : Prop := H.size = aw_o w + h.length ∧ ∀ (k : Nat) (c : ac_T), h[k]? = some c → va_at (aw_D w) cs_all (aw_o w + k, ac_E w c) H
theorem ah_set {w : aw_T} {h : ah_T} {H H1 : Heap} {k : Nat} {c c' : ac_T} (hR : ah_R w h H) (hk : h[k]? = some c) (hc : va_at (aw_D w) cs_all (aw_o w + k, ac_E w c') H1) (hz : H1.size = H.size) (ho : ∀ q : Nat, q ≠ aw_o w + k → H1[q]? = H[q]?) : ah_R w (h.set k c') H1 := by
  refine ⟨by rw [hz, hR.1, List.length_set], fun j x hj => ?_⟩
  by_cases e : j = k
  · subst e
    have hl : j < h.length := (List.getElem?_eq_some_iff.mp hk).1
    rw [List.getElem?_set_self hl] at hj
    cases hj
    exact hc
  · rw [List.getElem?_set_ne (fun q => e q.symm)] at hj
    exact (hR.2 j x hj).kept (ho _ (by show aw_o w + j ≠ aw_o w + k; omega))
theorem ah_push {w : aw_T} {h : ah_T} {H H1 : Heap} {c : ac_T} (hR : ah_R w h H) (hc : va_at (aw_D w) cs_all (aw_o w + h.length, ac_E w c) H1) (hz : H1.size = H.size + 1) (ho : ∀ q : Nat, q < H.size → H1[q]? = H[q]?) : ah_R w (h ++ [c]) H1 := by
  refine ⟨by rw [hz, hR.1, List.length_append]; simp; omega, fun j x hj => ?_⟩
  by_cases e : j < h.length
  · rw [List.getElem?_append_left e] at hj
    exact (hR.2 j x hj).kept (ho _ (by show aw_o w + j < H.size; rw [hR.1]; omega))
  · have hz : j < (h ++ [c]).length := (List.getElem?_eq_some_iff.mp hj).1
    rw [List.length_append] at hz
    simp at hz
    have e2 : j = h.length := by omega
    subst e2
    rw [List.getElem?_append_right (Nat.le_refl _)] at hj
    simp at hj
    subst hj
    exact hc
-- ===== locals =====
abbrev al_T : Type := List (Option av_T)
def al_lv (w : aw_T) (L : al_T) : List (Nat × Value) := (List.range L.length).filterMap (fun i => match L[i]? with
  | some (some v) => some (i, av_v w v)
  | _ => none)
theorem al_mem {w : aw_T} {L : al_T} {i : Nat} {x : Value} : (i, x) ∈ al_lv w L ↔ ∃ v, L[i]? = some (some v) ∧ x = av_v w v := by
  unfold al_lv
  rw [List.mem_filterMap]
  constructor
  · rintro ⟨j, -, hj⟩
    split at hj
    · rename_i v hv
      cases hj
      exact ⟨v, hv, rfl⟩
    · cases hj
  · rintro ⟨v, hv, rfl⟩
    refine ⟨i, List.mem_range.mpr (List.getElem?_eq_some_iff.mp hv).1, ?_⟩
    rw [hv]
def al_R (w : aw_T) (ls : Array Slot) (nL : Nat) (L : al_T) : Prop := L.length = nL ∧ lv_has ls nL (al_lv w L)
theorem al_get {w : aw_T} {ls : Array Slot} {nL : Nat} {L : al_T} (h : al_R w ls nL L) {i : Nat} {v : av_T} (hi : L[i]? = some (some v)) : ls[i]? = some (.val (av_v w v)) := h.2.2.2 (i, av_v w v) (al_mem.mpr ⟨v, hi, rfl⟩)
def al_ok (L : al_T) : Nat → Bool
  | 0 => true
  | j + 1 => match L[j]? with
    | some (some (.inr (.inl _))) => false
    | _ => true
theorem al_ok_spec {L : al_T} {i j : Nat} (h : al_ok L i = true) (hj : j + 1 = i) {v : av_T} (hv : L[j]? = some (some v)) : av_c v = 1 := by
  subst hj
  rcases v with a | a | (_ | k) | u
  · rfl
  · simp [al_ok, hv] at h
  · rfl
  · rfl
  · rfl
theorem al_put1 {w : aw_T} {ls : Array Slot} {nL i : Nat} {L L' : al_T} {v : av_T} (hn : L.length = nL) (ho : al_ok L i = true) (hl : L.set i (some v) = L') (h : lv_has ls nL ((i, av_v w v) :: (al_lv w L).filter (fun q => !(q.1 == i) && !(q.1 + 1 == i && q.2.category == 2)))) : al_R w ls nL L' := by
  subst hl
  refine ⟨by rw [List.length_set]; exact hn, h.1, h.2.1, fun q hq => h.2.2 q ?_⟩
  obtain ⟨j, x⟩ := q
  obtain ⟨u, hu, rfl⟩ := al_mem.mp hq
  by_cases e : j = i
  · subst e
    have hl : j < L.length := by
      have := (List.getElem?_eq_some_iff.mp hu).1
      rw [List.length_set] at this
      exact this
    rw [List.getElem?_set_self hl] at hu
    cases hu
    exact List.mem_cons_self
  · rw [List.getElem?_set_ne (fun q => e q.symm)] at hu
    refine List.mem_cons_of_mem _ (List.mem_filter.mpr ⟨al_mem.mpr ⟨u, hu, rfl⟩, ?_⟩)
    have : ¬ (j + 1 = i ∧ (av_v w u).category = 2) := by
      rintro ⟨e1, e2⟩
      rw [av_cat, al_ok_spec ho e1 hu] at e2
      cases e2
    simp only [Bool.and_eq_true, Bool.not_eq_true', beq_eq_false_iff_ne, ne_eq, e, not_false_eq_true, true_and, Bool.and_eq_false_iff]
    by_cases e1 : j + 1 = i
    · exact Or.inr (fun e2 => this ⟨e1, e2⟩)
    · exact Or.inl e1
theorem al_put2 {w : aw_T} {ls : Array Slot} {nL i : Nat} {L L' : al_T} {v : av_T} (hn : L.length = nL) (ho : al_ok L i = true) (hl : (L.set i (some v)).set (i + 1) none = L') (h : lv_has ls nL ((i, av_v w v) :: (al_lv w L).filter (fun q => !(q.1 == i) && (!(q.1 == i + 1) && !(q.1 + 1 == i && q.2.category == 2))))) : al_R w ls nL L' := by
  subst hl
  refine ⟨by rw [List.length_set, List.length_set]; exact hn, h.1, h.2.1, fun q hq => h.2.2 q ?_⟩
  obtain ⟨j, x⟩ := q
  obtain ⟨u, hu, rfl⟩ := al_mem.mp hq
  by_cases e0 : j = i + 1
  · subst e0
    have hl : i + 1 < (L.set i (some v)).length := by
      have := (List.getElem?_eq_some_iff.mp hu).1
      rw [List.length_set] at this
      exact this
    rw [List.getElem?_set_self hl] at hu
    cases hu
  · rw [List.getElem?_set_ne (fun q => e0 q.symm)] at hu
    by_cases e : j = i
    · subst e
      have hl : j < L.length := by
        have := (List.getElem?_eq_some_iff.mp hu).1
        rw [List.length_set] at this
        exact this
      rw [List.getElem?_set_self hl] at hu
      cases hu
      exact List.mem_cons_self
    · rw [List.getElem?_set_ne (fun q => e q.symm)] at hu
      refine List.mem_cons_of_mem _ (List.mem_filter.mpr ⟨al_mem.mpr ⟨u, hu, rfl⟩, ?_⟩)
      have : ¬ (j + 1 = i ∧ (av_v w u).category = 2) := by
        rintro ⟨e1, e2⟩
        rw [av_cat, al_ok_spec ho e1 hu] at e2
        cases e2
      simp only [Bool.and_eq_true, Bool.not_eq_true', beq_eq_false_iff_ne, ne_eq, e, e0, not_false_eq_true, true_and, Bool.and_eq_false_iff]
      by_cases e1 : j + 1 = i
      · exact Or.inr (fun e2 => this ⟨e1, e2⟩)
      · exact Or.inl e1
def al_sl (As : List av_T) : al_T := As.flatMap (fun v => if av_c v = 2 then [some v, none] else [some v])
def al_en (As : List av_T) (n : Nat) : al_T := al_sl As ++ List.replicate (n - (al_sl As).length) none
theorem al_sl_len (w : aw_T) (As : List av_T) : (lg_sl (As.map (av_v w))).length = (al_sl As).length := by
  induction As with
  | nil => rfl
  | cons v As ih =>
    simp only [lg_sl, al_sl, List.map_cons, List.flatMap_cons, List.length_append] at ih ⊢
    rw [ih, av_cat]
    by_cases e : av_c v = 2 <;> simp [e]
theorem al_arg (w : aw_T) : ∀ (As : List av_T) (o i : Nat) (v : av_T), (al_sl As)[i]? = some (some v) → (o + i, av_v w v) ∈ lv_args o (As.map (av_v w)) := by
  intro As
  induction As with
  | nil => intro o i v h; simp [al_sl] at h
  | cons u As ih =>
    intro o i v h
    have e : al_sl (u :: As) = (if av_c u = 2 then [some u, none] else [some u]) ++ al_sl As := by simp [al_sl]
    rw [e] at h
    simp only [List.map_cons, lv_args, av_cat]
    by_cases c2 : av_c u = 2
    · rw [if_pos c2] at h ⊢
      match i, h with
      | 0, h => simp at h; subst h; exact List.mem_cons_self
      | 1, h => simp at h
      | i + 2, h =>
        have h2 : (al_sl As)[i]? = some (some v) := by simpa using h
        have h3 := ih (o + 2) i v h2
        rw [show o + (i + 2) = o + 2 + i by omega]
        exact List.mem_cons_of_mem _ h3
    · rw [if_neg c2] at h ⊢
      match i, h with
      | 0, h => simp at h; subst h; exact List.mem_cons_self
      | i + 1, h =>
        have h2 : (al_sl As)[i]? = some (some v) := by simpa using h
        have h3 := ih (o + 1) i v h2
        rw [show o + (i + 1) = o + 1 + i by omega]
        exact List.mem_cons_of_mem _ h3
theorem al_entry (w : aw_T) (As : List av_T) {n : Nat} {L : al_T} (hn : (al_sl As).length ≤ n) (hL : al_en As n = L) : al_R w ((lg_sl (As.map (av_v w)) ++ List.replicate (n - (lg_sl (As.map (av_v w))).length) Slot.unset).toArray) n L := by
  subst hL
  have h := lv_entry (As.map (av_v w)) (n := n) (by rw [al_sl_len]; exact hn)
  refine ⟨by simp [al_en]; omega, h.1, h.2.1, fun q hq => h.2.2 q ?_⟩
  obtain ⟨j, x⟩ := q
  obtain ⟨u, hu, rfl⟩ := al_mem.mp hq
  have hj : (al_sl As)[j]? = some (some u) := by
    by_cases e : j < (al_sl As).length
    · rw [al_en, List.getElem?_append_left e] at hu
      exact hu
    · rw [al_en, List.getElem?_append_right (by omega)] at hu
      have := List.mem_of_getElem? hu
      rw [List.mem_replicate] at this
      cases this.2
  have := al_arg w As 0 j u hj
  simpa using this
-- ===== methods, the judgement =====
abbrev am_T : Type := MethodName × (ByteArray × (Nat × Option FieldType))
def ad_D (M : am_T) (pc : Nat) (i : Instr) (len n : Nat) : Prop := decode M.2.1 pc = .ok (i, len) ∧ n = pc + len
def aw_tys (w : aw_T) : List (ClassId × FieldType) := [(aw_A w 0, .int), (aw_A w 1, .byte), (aw_A w 2, .boolean), (aw_A w 3, .long), (aw_A w 4, .array .int)]
/-- int[][] stands over int[] -/
def aw_O (U : State) : Prop := (Cond.arrayOver (.array .int)).before #[] U = true
theorem aw_O.moved {u U : State} (hvm : u.vm.Alike U.vm) (h : aw_O u) : aw_O U := by
  have h5 := h
  unfold aw_O Cond.before at h
  simp only [Cond.holds, Cond.value, beq_iff_eq] at h
  obtain ⟨comp, c, k, h1, h3, h4, h5⟩ := Cond.arrayOver_specA h5
  rw [h1] at h
  simp only [Option.bind_some, Option.bind_eq_some_iff, Option.map_eq_some_iff] at h
  obtain ⟨c', hi', k2, hk2, hb⟩ := h
  have hcc : c' = c := by
    cases hkind : k2.kind with
    | array component ty =>
      rw [hkind] at hb
      simp at hb
      have := hb.2.symm.trans h5
      exact Option.some.inj this
    | _ => rw [hkind] at hb; simp at hb
  subst hcc
  obtain ⟨k', hk', he⟩ := hvm.2.2 _ _ h3
  have hi : (U.vm.classes.findIdx? fun (x : Class) => match x.kind with | .array component _ => component == comp | _ => false) = some c' := by
    refine (va_idx_bare U.vm comp).symm.trans ?_
    first | rw [hvm.bare_eq] | rw [← hvm.bare_eq]
    exact (va_idx_bare u.vm comp).trans hi'
  have hkind : k'.kind = .array comp (.array .int) := by rw [he]; exact h4
  have f1 : U.vm.findClass (FieldType.array FieldType.int).toString = some comp := by rw [hvm.findClass]; exact h1
  have f2 : U.vm.findClass ("[" ++ (FieldType.array FieldType.int).toString) = some c' := by rw [hvm.findClass]; exact h5
  unfold aw_O Cond.before Cond.holds
  simp only [Cond.value]
  rw [f1, Option.bind_some]
  refine (congrArg (fun o : Option Nat => (o.bind (fun c => (U.vm.classes[c]?).map fun (k : Class) => match k.kind with | .array _ ty => decide (ty = FieldType.array FieldType.int) && decide (U.vm.findClass ("[" ++ (FieldType.array FieldType.int).toString) = some c) | _ => false) == some true)) hi).trans ?_
  simp [hk', hkind, f2]
def aw_K (w : aw_T) (U : State) : Prop := va_K (aw_D w) cs_all (aw_tys w) U ∧ (∀ x ∈ tt_n, va_Nw x U) ∧ aw_O U
def aw_X (w : aw_T) (U : State) (H : Heap) : Prop := va_X (aw_b w) (aw_L w) (aw_x w) U H ∧ aw_b w < aw_o w
def aw_N (w : aw_T) : Nat → Prop := fun q => aw_o w ≤ q
theorem tt_isN_of {x : Cond} (h : x ∈ tt_n) : tt_isN x = true := (List.mem_filter.mp h).2
theorem tt_tab {x : Cond} (h : tt_isN x = true) : x.onTables = true := by
  cases x <;> first | rfl | (simp [tt_isN] at h)
theorem tt_warm {x : Cond} (h : tt_isN x = true) {s U : State} (hW : s.WarmedH U.vm) (hZ : va_Nw x s) : va_Nw x U := by
  cases x <;> first | exact va_Nw.warmF hW hZ | exact va_Nw.warmM hW hZ | (simp [tt_isN] at h)
theorem aw_K.warm {w : aw_T} {s U : State} (h : aw_K w s) (hW : s.WarmedH U.vm) : aw_K w U := ⟨va_K.moved hW.alike h.1, fun x hx => tt_warm (tt_isN_of hx) hW (h.2.1 x hx), h.2.2.moved hW.alike⟩
theorem aw_K.same {w : aw_T} {s U : State} (h : aw_K w s) (hvm : s.vm = U.vm) : aw_K w U := ⟨va_K.moved (by rw [hvm]; exact Vm.Alike.refl _) h.1, fun x hx => (h.2.1 x hx).same (tt_tab (tt_isN_of hx)) hvm, h.2.2.moved (by rw [hvm]; exact Vm.Alike.refl _)⟩
theorem aw_X.to {w : aw_T} {u U : State} {H : Heap} (h : aw_X w u H) (hvm : u.vm.Alike U.vm) : aw_X w U H := ⟨va_X.moved hvm h.1, h.2⟩
def aw_C (w : aw_T) (M : am_T) (d : Nat) (p : Program) (R : Room) (s : State) (m : MethodId) (args : Array Value) (meth : Method) (c : Code) : Prop :=
  p.tables.exec = Jvm.exec ∧ c.code = M.2.1 ∧ meth.sig.returnType = M.2.2.2 ∧ c.maxLocals = M.2.2.1 ∧ s.vm.findClass M.1.cls = some m.cls ∧ (∀ x ∈ tt_g, x.before args s = true) ∧ aw_K w s ∧ meth.locks = false ∧ meth.name = M.1.name ∧ d ≤ R.frames ∧ 60 * d + 20 ≤ R.locals ∧ aw_X w s s.heap ∧ aw_o w ≤ s.heap.size
def am_ret (M : am_T) (pc : Nat) (r : Option av_T) : Prop :=
  (∃ a : Int, r = some (av_i a) ∧ decode M.2.1 pc = .ok (.ireturn, 1) ∧ (M.2.2.2 = some .int ∨ (M.2.2.2 = some .boolean ∧ (a = 0 ∨ a = 1)))) ∨
  (∃ a : Int, r = some (av_l a) ∧ decode M.2.1 pc = .ok (.lreturn, 1) ∧ M.2.2.2 = some .long) ∨
  (∃ q : Option Nat, r = some (av_q q) ∧ decode M.2.1 pc = .ok (.areturn, 1) ∧ ∃ n, M.2.2.2 = some (.object n)) ∨
  (r = none ∧ decode M.2.1 pc = .ok (.return_, 1) ∧ M.2.2.2 = none)
abbrev ap_T : Type := Option av_T → ah_T → Prop
def aw_E (w : aw_T) (M : am_T) (P : ap_T) (p : Program) (e : Env) (R : Room) (s : State) (m : MethodId) (args : Array Value) (below : List Frame) (meth : Method) (c : Code) (Q : State → Prop) : Prop :=
  ∀ (H : Heap) (locs : List Loc) (cells slots : Nat) (ls : Array Slot) (pc : Nat) (r : Option av_T) (h : ah_T), ah_R w h H → va_S (aw_N w) s.heap H locs → P r h → cells ≤ R.cells → slots ≤ R.slots → am_ret M pc r →
    W p (aw_l w) e R s m args below meth c H locs cells slots Q (F0 m pc ls (r.toList.map (av_v w)))
/-- from pc on, with these locals, this stack and this heap, the method returns with P; it makes at most kc cells of ks slots more -/
def aw_W (w : aw_T) (M : am_T) (d : Nat) (P : ap_T) (pc : Nat) (L : al_T) (st : List av_T) (h : ah_T) (kc ks : Nat) : Prop :=
  ∀ (p : Program) (e : Env) (R : Room) (s : State) (m : MethodId) (args : Array Value) (below : List Frame) (meth : Method) (c : Code) (Q : State → Prop), aw_C w M d p R s m args meth c → aw_E w M P p e R s m args below meth c Q →
    ∀ (H : Heap) (locs : List Loc) (cells slots : Nat) (ls : Array Slot), ah_R w h H → va_S (aw_N w) s.heap H locs → al_R w ls M.2.2.1 L → cells + kc ≤ R.cells → slots + ks ≤ R.slots →
      W p (aw_l w) e R s m args below meth c H locs cells slots Q (F0 m pc ls (st.map (av_v w)))
def am_rm (d mc ms : Nat) : Room := { frames := d, cells := mc, slots := ms, locals := 60 * d + 20 }
def am_Pc (w : aw_T) (As : List av_T) (h : ah_T) : Array Value → State → Prop := fun v U => v = (As.map (av_v w)).toArray ∧ aw_K w U ∧ ah_R w h U.heap ∧ aw_X w U U.heap
def am_Qc (w : aw_T) (P : ap_T) : Array Value → State → Outcome → State → Prop := fun _ st oc t => (∃ (r : Option av_T) (h : ah_T), oc = .returned (r.map (av_v w)) ∧ P r h ∧ ah_R w h t.heap) ∧ va_F (aw_N w) st t
/-- the method's contract at these arguments and this heap -/
def am_M (w : aw_T) (M : am_T) (d : Nat) (As : List av_T) (h : ah_T) (mc ms : Nat) (P : ap_T) : Prop :=
  Met (aw_l w) M.1 (Cond.code M.1 M.2.1 M.2.2.1 M.2.2.2 :: tt_g) (am_rm d mc ms) (am_Pc w As h) (am_Qc w P) mc ms (aw_N w)
theorem aw_ret {w : aw_T} {M : am_T} {P : ap_T} {p : Program} {e : Env} {R : Room} {s : State} {m : MethodId} {args : Array Value} {below : List Frame} {meth : Method} {c : Code} {d : Nat} (hC : aw_C w M d p R s m args meth c) : aw_E w M P p e R s m args below meth c (MQ below (am_Qc w P) args s R.cells R.slots (aw_N w)) := by
  intro H locs cells slots ls pc r h hH hS hP hc hs hr
  obtain ⟨hx, hb, hrt, hml, hown, hts, hK, hlk, -⟩ := hC
  refine W.widen hc hs ?_
  have hq : ∀ t : State, t.heap = H → s.WarmedH t.vm → am_Qc w P args s (.returned (r.map (av_v w))) t := fun t ht _ => ⟨⟨r, h, rfl, hP, by rw [ht]; exact hH⟩, hS.F ht⟩
  have hf : ∀ q ∈ locs, aw_N w q.base := hS.2.2
  rcases hr with ⟨a, rfl, hd, hr | ⟨hr, ha⟩⟩ | ⟨a, rfl, hd, hr⟩ | ⟨q, rfl, hd, n, hr⟩ | ⟨rfl, hd, hr⟩
  · exact W.iret hx hb (hrt.trans hr) hq hf hd
  · refine W.zret hx hb (hrt.trans hr) ?_ hq hf hd
    rcases ha with rfl | rfl <;> rfl
  · exact W.lret hx hb (hrt.trans hr) hq hf hd
  · rcases q with _ | k
    · exact W.aret hx hb (hrt.trans hr) (Or.inl ⟨n, rfl⟩) (Or.inl rfl) hq hf hd
    · exact W.aret hx hb (hrt.trans hr) (Or.inl ⟨n, rfl⟩) (Or.inr ⟨_, rfl⟩) hq hf hd
  · exact W.vret hx hb (hrt.trans hr) hq hf hd
theorem am_intro {w : aw_T} {M : am_T} {d : Nat} {As : List av_T} {h : ah_T} {mc ms : Nat} {P : ap_T} (L : al_T) (hy : plainName M.1.cls = true) (hn : (al_sl As).length ≤ M.2.2.1) (hL : al_en As M.2.2.1 = L) (k : aw_W w M d P 0 L [] h mc ms) : am_M w M d As h mc ms P := by
  refine Met.ofW (cc := M.2.1) (maxL := M.2.2.1) (ret := M.2.2.2) hy rfl ?_
  intro p e s m args below meth c s₁ B hml hv
  obtain ⟨rfl, hK, hH, hX⟩ := hv
  have hts := atoms_spec (ws := Cond.code M.1 M.2.1 M.2.2.1 M.2.2.2 :: tt_g) B.pre
  have hC : aw_C w M d p (am_rm d mc ms) s m (As.map (av_v w)).toArray meth c := ⟨B.exec, B.bytes, B.returns, hml, findClass_of_methodNamed B.named, fun x hx => hts x (List.mem_cons_of_mem _ hx), hK, B.notSynchronized, (name_of_methodNamed B.named B.method).1, Nat.le_refl _, Nat.le_refl _, hX, by rw [hH.1]; omega⟩
  rw [lg_entry_eq]
  exact k p e (am_rm d mc ms) s m _ below meth c _ hC (aw_ret hC) s.heap [] 0 0 _ hH va_S.rf (al_entry w As hn hL) (by show 0 + mc ≤ mc; omega) (by show 0 + ms ≤ ms; omega)
-- ===== what the tables say of fields, new objects, calls =====
/-- getfield 'idx' of a method of class cls reads field k of a cell of class ci -/
def af_ok (cls : String) (idx ci k : Nat) : Prop := ∃ (C : String) (T : u_T) (N : Nat), cs_all[ci]? = some (C, T, N) ∧ k < N ∧ (∀ x ∈ u_ws C T N, x ∈ tt_g) ∧ ((Cond.fieldLink cls idx (T k).1 (T k).2.1 (T k).2.2.1 ∈ tt_g) ∨ ∃ host, Cond.fieldLinkNest cls idx (T k).1 (T k).2.1 (T k).2.2.1 host ∈ tt_n)
/-- putfield 'idx': the field's type, and whether it is final -/
def af_put (cls mname : String) (idx ci k : Nat) (ty : FieldType) : Prop := ∃ (C : String) (T : u_T) (N : Nat) (ty0 : Nat → FieldType), cs_all[ci]? = some (C, T, N) ∧ k < N ∧ (∀ x ∈ u_ws C T N, x ∈ tt_g) ∧ (∀ k, k < N → parseFieldDescriptor (T k).2.2.1 = some (ty0 k)) ∧ (∀ a, a < N → ∀ b, b < N → a ≠ b → (T a).2.1 ≠ (T b).2.1) ∧ ty0 k = ty ∧
  (((T k).2.2.2 = false ∧ ((Cond.fieldLink cls idx (T k).1 (T k).2.1 (T k).2.2.1 ∈ tt_g) ∨ ∃ host, Cond.fieldLinkNest cls idx (T k).1 (T k).2.1 (T k).2.2.1 host ∈ tt_n)) ∨
   ((T k).2.2.2 = true ∧ mname = "<init>" ∧ (T k).1 = cls ∧ (Cond.fieldLink cls idx (T k).1 (T k).2.1 (T k).2.2.1 ∈ tt_g)))
def an_ok (cls : String) (idx ci N : Nat) (fs : List av_T) : Prop := ∃ (C : String) (T : u_T) (ty : Nat → FieldType), cs_all[ci]? = some (C, T, N) ∧ (∀ x ∈ u_ws C T N, x ∈ tt_g) ∧ (∀ k, k < N → parseFieldDescriptor (T k).2.2.1 = some (ty k)) ∧ Cond.classLink cls idx C ∈ tt_g ∧ Cond.instantiable C N ∈ tt_g ∧ Cond.initialized C ∈ tt_g ∧ ∀ w : aw_T, ∀ j, j < N → defaultValue (ty j) = vp_V (fs.map (av_v w)) j
/-- what the tables say of a call site: the method called, by its words -/
def ai_B (cls : String) (idx : Nat) (M2 : am_T) (k : Nat) : Prop :=
  Cond.code M2.1 M2.2.1 M2.2.2.1 M2.2.2.2 ∈ tt_g ∧ Cond.initialized M2.1.cls ∈ tt_g ∧ (M2.1.cls ≠ "java/lang/invoke/MethodHandle" ∧ M2.1.cls ≠ "java/lang/invoke/VarHandle" ∧ (parseMethodDescriptor M2.1.desc).map (fun d => d.parameters.length) = some k) ∧ M2.2.2.1 ≤ 40 ∧
  ((Cond.methodLink cls idx M2.1 ∈ tt_g) ∨ ∃ host, Cond.methodLinkNest cls idx M2.1 host ∈ tt_n)
end
section
-- ===== int[n][k] =====
theorem aq_outer (c : ClassId) (N h0 : Nat) : ∀ i : Nat, Jvm.Free.Multi.outerC c N h0 i = arrV c N (fun j => if j < i then Value.ref (h0 + 1 + j) else Value.null) := by
  intro i
  induction i with
  | zero =>
    show ({ cls := c, slots := Array.replicate N .null, vm := .none } : Cell) = _
    rw [arrV_new]
    exact congrArg (arrV c N) (funext fun j => by simp)
  | succ i ih =>
    show (Jvm.Free.Multi.outerC c N h0 i).setSlot i (.ref (h0 + 1 + i)) = _
    rw [ih, arrV_store]
    refine congrArg (arrV c N) (funext fun j => ?_)
    by_cases e : j = i
    · subst e
      simp [updV]
    · by_cases q : j < i
      · simp [updV, e, q, Nat.lt_succ_of_lt q]
      · simp [updV, e, q, show ¬ j < i + 1 by omega]
theorem aq_clamp {x : Nat} (hx : x ≤ 1000000) : (¬ Int32.ofInt (x : Int) < 0) ∧ (Int32.ofInt (x : Int)).toNatClampNeg = x := by
  have h1 : (Int32.ofInt (x : Int)).toNatClampNeg = x := by
    rw [Int32.toNatClampNeg_ofInt_of_le (n := (x : Int)) (by omega) (by omega)]
    omega
  refine ⟨?_, h1⟩
  have h2 : (Int32.ofInt (x : Int)).toInt = x := Int32.toInt_ofInt_of_le (by omega) (by omega)
  rw [Int32.lt_iff_toInt_lt, h2]
  show ¬ (x : Int) < 0
  omega
theorem ag_mna {w : aw_T} {M : am_T} {d : Nat} {P : ap_T} {pc n : Nat} {L : al_T} {st : List av_T} {h : ah_T} {kc ks kc' ks' : Nat} {idx N K : Nat} (hd : ad_D M pc (.multianewarray idx 2) 4 n) (h1 : Cond.classLink M.1.cls idx ("[" ++ (FieldType.array .int).toString) ∈ tt_g) (h3 : Cond.arrayClass .int ∈ tt_g) (hN : N ≤ 1000000) (hK2 : K ≤ 1000000) (hkc : kc' + (1 + N) ≤ kc) (hks : ks' + (N + N * K) ≤ ks) (kk : aw_W w M d P n L (av_r h.length :: st) (h ++ (ac_q N (fun i => if i < N then some (h.length + 1 + i) else none) :: List.replicate N (ac_a 0 K (fun _ => 0)))) kc' ks') : aw_W w M d P pc L (av_i (K : Int) :: av_i (N : Int) :: st) h kc ks := by
  intro p e R s m args below meth c Q hC hQ H locs cells slots ls hH hS hL hk1 hk2
  obtain ⟨hd, rfl⟩ := hd
  have hC0 := hC
  obtain ⟨hx, hb, hr, hml, hown, hts, hK, -⟩ := hC
  obtain ⟨n1, n2⟩ := aq_clamp hN
  obtain ⟨k1, k2⟩ := aq_clamp hK2
  intro T hT Xs
  obtain ⟨vm₁, cA, comp, -, fA, fC, hO, -, X', step⟩ := Jvm.Stand.multianewarray2F Xs hx hown (hts _ h1) hK.2.2 (hts _ h3) (g := F0 m pc ls (.int (Int32.ofInt (K : Int)) :: .int (Int32.ofInt (N : Int)) :: st.map (av_v w))) rfl (by rw [hb]; exact hd) rfl n1 k1 (by rw [n2]; omega) (by rw [k2]; show K * 4 ≤ _; omega) (by rw [k2]; omega) rfl rfl (by rw [n2]; omega) (by rw [n2, k2]; omega)
  rw [n2, k2] at X' step
  have c4 : aw_A w 4 = cA := Option.some.inj ((hK.1.2 4 _ rfl).2.symm.trans fA)
  have c0 : aw_A w 0 = comp := Option.some.inj ((hK.1.2 0 _ rfl).2.symm.trans fC)
  generalize hF : Jvm.Free.Multi.fill (T.setVm vm₁) cA comp N K (defaultValue .int) N = F at X' step
  have hTh : (T.setVm vm₁).heap = H := hT
  obtain ⟨f1, f2, -, -⟩ := Jvm.Free.Multi.fill_facts (T.setVm vm₁) cA comp N K (defaultValue .int) N
  rw [hF, hTh] at f1 f2
  have hold : ∀ x : Nat, x < H.size → F.heap[x]? = H[x]? := fun x hx => by
    have := Jvm.Free.Multi.fill_old (T.setVm vm₁) cA comp N K (defaultValue .int) (a := x) (by rw [hTh]; exact hx) N
    rw [hF, hTh] at this
    exact this
  have hrow : ∀ j : Nat, j < N → F.heap[H.size + 1 + j]? = some (Jvm.Free.Multi.innerC comp K (defaultValue .int)) := fun j hj => by
    have := Jvm.Free.Multi.fill_inner (T.setVm vm₁) cA comp N K (defaultValue .int) N j hj
    rw [hF, hTh] at this
    exact this
  have hsz := hH.1
  have hR : ah_R w (h ++ (ac_q N (fun i => if i < N then some (h.length + 1 + i) else none) :: List.replicate N (ac_a 0 K (fun _ => 0)))) F.heap := by
    refine ⟨by rw [f1, hsz, List.length_append, List.length_cons, List.length_replicate]; omega, fun j x hj => ?_⟩
    by_cases e : j < h.length
    · rw [List.getElem?_append_left e] at hj
      exact (hH.2 j x hj).kept (hold _ (by show aw_o w + j < H.size; rw [hsz]; omega))
    · rw [List.getElem?_append_right (by omega)] at hj
      by_cases e2 : j = h.length
      · subst e2
        rw [Nat.sub_self] at hj
        cases hj
        show F.heap[aw_o w + h.length]? = some (vp_cell (aw_A w 4) (N, .inr (.inr (.inr (.inr (fun i => (if i < N then some (h.length + 1 + i) else none).map (fun k => aw_o w + k)))))))
        rw [← hsz, f2, aq_outer, vp_cell_q, c4]
        refine congrArg (fun q => some (arrV cA N q)) (funext fun i => ?_)
        by_cases q : i < N
        · rw [if_pos q, if_pos q]
          show Value.ref (H.size + 1 + i) = Value.ref (aw_o w + (h.length + 1 + i))
          have en : (H.size + 1 + i : Nat) = aw_o w + (h.length + 1 + i) := by omega
          rw [en]
        · rw [if_neg q, if_neg q]
          rfl
      · obtain ⟨i, hi⟩ : ∃ i, j - h.length = i + 1 := ⟨j - h.length - 1, by omega⟩
        rw [hi, List.getElem?_cons_succ] at hj
        have hm := List.mem_of_getElem? hj
        have hlt : i < N := by
          have := (List.getElem?_eq_some_iff.mp hj).1
          rw [List.length_replicate] at this
          exact this
        obtain rfl := (List.mem_replicate.mp hm).2
        show F.heap[aw_o w + j]? = some (vp_cell (aw_A w 0) (K, .inl (fun _ => Int32.ofInt 0)))
        rw [show aw_o w + j = H.size + 1 + i by rw [hsz]; omega, hrow i hlt, vp_cell_i, c0]
        show some ({ cls := comp, slots := Array.replicate K (defaultValue .int), vm := .none } : Cell) = _
        rw [arrV_new]
        rfl
  have hS2 : va_S (aw_N w) s.heap F.heap locs := ⟨Nat.le_trans hS.1 (by rw [f1]; omega), fun x q1 q2 => (hold x (Nat.lt_of_lt_of_le q1 hS.1)).trans (hS.2.1 x q1 q2), hS.2.2⟩
  obtain ⟨t, a1, b1⟩ := kk p e R s m args below meth c Q hC0 hQ F.heap locs (cells + 1 + N) (slots + N + N * K) ls hR hS2 hL (by omega) (by omega) F rfl X'
  refine ⟨t, step t ?_, b1⟩
  rw [hT, hsz]
  exact a1
end
