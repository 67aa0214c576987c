section
-- ===== PART A: goes FIRST, ahead of the names: the tables' words, and 'selects' of the private methods out of them =====
/-- a private method of a class that the tables say can be made, by its rows of tables_1 -/
def lw_okq (q : MethodName × Nat) : Prop := (q.1.cls ≠ "java/lang/invoke/MethodHandle" ∧ q.1.cls ≠ "java/lang/invoke/VarHandle") ∧ Cond.instantiable q.1.cls q.2 ∈ tables_1 ∧ Cond.privateMethod q.1 ∈ tables_1 ∧ Cond.instanceMethod q.1 ∈ tables_1
theorem lw_p0 : lw_okq (⟨"CaneRounds$Farms", "add", "()I"⟩, 5) := ⟨⟨by decide +kernel, by decide +kernel⟩, List.mem_of_getElem? (i := 23) (by decide +kernel), List.mem_of_getElem? (i := 245) (by decide +kernel), List.mem_of_getElem? (i := 246) (by decide +kernel)⟩
theorem lw_p1 : lw_okq (⟨"CaneRounds", "fieldCount", "()I"⟩, 19) := ⟨⟨by decide +kernel, by decide +kernel⟩, List.mem_of_getElem? (i := 15) (by decide +kernel), List.mem_of_getElem? (i := 253) (by decide +kernel), List.mem_of_getElem? (i := 254) (by decide +kernel)⟩
theorem lw_p2 : lw_okq (⟨"CaneRounds$Weather", "add", "(ZII)Z"⟩, 2) := ⟨⟨by decide +kernel, by decide +kernel⟩, List.mem_of_getElem? (i := 48) (by decide +kernel), List.mem_of_getElem? (i := 325) (by decide +kernel), List.mem_of_getElem? (i := 326) (by decide +kernel)⟩
theorem lw_p3 : lw_okq (⟨"CaneRounds$Farms", "drawLots", "(I)V"⟩, 5) := ⟨⟨by decide +kernel, by decide +kernel⟩, List.mem_of_getElem? (i := 23) (by decide +kernel), List.mem_of_getElem? (i := 356) (by decide +kernel), List.mem_of_getElem? (i := 357) (by decide +kernel)⟩
theorem lw_p4 : lw_okq (⟨"CaneRounds$Farms", "turn", "()I"⟩, 5) := ⟨⟨by decide +kernel, by decide +kernel⟩, List.mem_of_getElem? (i := 23) (by decide +kernel), List.mem_of_getElem? (i := 361) (by decide +kernel), List.mem_of_getElem? (i := 362) (by decide +kernel)⟩
theorem lw_p5 : lw_okq (⟨"CaneRounds$Farms", "inOrder", "(I)I"⟩, 5) := ⟨⟨by decide +kernel, by decide +kernel⟩, List.mem_of_getElem? (i := 23) (by decide +kernel), List.mem_of_getElem? (i := 365) (by decide +kernel), List.mem_of_getElem? (i := 366) (by decide +kernel)⟩
theorem lw_p6 : lw_okq (⟨"CaneRounds$Farms", "settleTurn", "()V"⟩, 5) := ⟨⟨by decide +kernel, by decide +kernel⟩, List.mem_of_getElem? (i := 23) (by decide +kernel), List.mem_of_getElem? (i := 374) (by decide +kernel), List.mem_of_getElem? (i := 375) (by decide +kernel)⟩
theorem lw_p7 : lw_okq (⟨"CaneRounds", "findField", "(I)LCaneRounds$Field;"⟩, 19) := ⟨⟨by decide +kernel, by decide +kernel⟩, List.mem_of_getElem? (i := 15) (by decide +kernel), List.mem_of_getElem? (i := 382) (by decide +kernel), List.mem_of_getElem? (i := 383) (by decide +kernel)⟩
theorem lw_p8 : lw_okq (⟨"CaneRounds", "freeGangs", "()I"⟩, 19) := ⟨⟨by decide +kernel, by decide +kernel⟩, List.mem_of_getElem? (i := 15) (by decide +kernel), List.mem_of_getElem? (i := 386) (by decide +kernel), List.mem_of_getElem? (i := 387) (by decide +kernel)⟩
theorem lw_p9 : lw_okq (⟨"CaneRounds$Field", "burn", "(I)V"⟩, 15) := ⟨⟨by decide +kernel, by decide +kernel⟩, List.mem_of_getElem? (i := 257) (by decide +kernel), List.mem_of_getElem? (i := 394) (by decide +kernel), List.mem_of_getElem? (i := 395) (by decide +kernel)⟩
theorem lw_p10 : lw_okq (⟨"CaneRounds$Field", "sweetAt", "(I)I"⟩, 15) := ⟨⟨by decide +kernel, by decide +kernel⟩, List.mem_of_getElem? (i := 257) (by decide +kernel), List.mem_of_getElem? (i := 398) (by decide +kernel), List.mem_of_getElem? (i := 399) (by decide +kernel)⟩
theorem lw_p11 : lw_okq (⟨"CaneRounds", "passHour", "()V"⟩, 19) := ⟨⟨by decide +kernel, by decide +kernel⟩, List.mem_of_getElem? (i := 15) (by decide +kernel), List.mem_of_getElem? (i := 415) (by decide +kernel), List.mem_of_getElem? (i := 416) (by decide +kernel)⟩
theorem lw_p12 : lw_okq (⟨"CaneRounds$Weather", "holds", "(ZI)Z"⟩, 2) := ⟨⟨by decide +kernel, by decide +kernel⟩, List.mem_of_getElem? (i := 48) (by decide +kernel), List.mem_of_getElem? (i := 419) (by decide +kernel), List.mem_of_getElem? (i := 420) (by decide +kernel)⟩
theorem lw_p13 : lw_okq (⟨"CaneRounds", "goOnCutting", "()V"⟩, 19) := ⟨⟨by decide +kernel, by decide +kernel⟩, List.mem_of_getElem? (i := 15) (by decide +kernel), List.mem_of_getElem? (i := 423) (by decide +kernel), List.mem_of_getElem? (i := 424) (by decide +kernel)⟩
theorem lw_p14 : lw_okq (⟨"CaneRounds$Field", "goOn", "(I)V"⟩, 15) := ⟨⟨by decide +kernel, by decide +kernel⟩, List.mem_of_getElem? (i := 257) (by decide +kernel), List.mem_of_getElem? (i := 427) (by decide +kernel), List.mem_of_getElem? (i := 428) (by decide +kernel)⟩
theorem lw_p15 : lw_okq (⟨"CaneRounds", "addLoad", "(LCaneRounds$Field;)V"⟩, 19) := ⟨⟨by decide +kernel, by decide +kernel⟩, List.mem_of_getElem? (i := 15) (by decide +kernel), List.mem_of_getElem? (i := 434) (by decide +kernel), List.mem_of_getElem? (i := 435) (by decide +kernel)⟩
def lw_privs_1 : List (MethodName × Nat) := [(⟨"CaneRounds$Farms", "add", "()I"⟩, 5), (⟨"CaneRounds", "fieldCount", "()I"⟩, 19), (⟨"CaneRounds$Weather", "add", "(ZII)Z"⟩, 2), (⟨"CaneRounds$Farms", "drawLots", "(I)V"⟩, 5), (⟨"CaneRounds$Farms", "turn", "()I"⟩, 5), (⟨"CaneRounds$Farms", "inOrder", "(I)I"⟩, 5), (⟨"CaneRounds$Farms", "settleTurn", "()V"⟩, 5), (⟨"CaneRounds", "findField", "(I)LCaneRounds$Field;"⟩, 19), (⟨"CaneRounds", "freeGangs", "()I"⟩, 19), (⟨"CaneRounds$Field", "burn", "(I)V"⟩, 15), (⟨"CaneRounds$Field", "sweetAt", "(I)I"⟩, 15), (⟨"CaneRounds", "passHour", "()V"⟩, 19), (⟨"CaneRounds$Weather", "holds", "(ZI)Z"⟩, 2), (⟨"CaneRounds", "goOnCutting", "()V"⟩, 19), (⟨"CaneRounds$Field", "goOn", "(I)V"⟩, 15), (⟨"CaneRounds", "addLoad", "(LCaneRounds$Field;)V"⟩, 19)]
theorem lw_r1 : ∀ q ∈ lw_privs_1, lw_okq q := List.forall_mem_cons.mpr ⟨lw_p0, List.forall_mem_cons.mpr ⟨lw_p1, List.forall_mem_cons.mpr ⟨lw_p2, List.forall_mem_cons.mpr ⟨lw_p3, List.forall_mem_cons.mpr ⟨lw_p4, List.forall_mem_cons.mpr ⟨lw_p5, List.forall_mem_cons.mpr ⟨lw_p6, List.forall_mem_cons.mpr ⟨lw_p7, List.forall_mem_cons.mpr ⟨lw_p8, List.forall_mem_cons.mpr ⟨lw_p9, List.forall_mem_cons.mpr ⟨lw_p10, List.forall_mem_cons.mpr ⟨lw_p11, List.forall_mem_cons.mpr ⟨lw_p12, List.forall_mem_cons.mpr ⟨lw_p13, List.forall_mem_cons.mpr ⟨lw_p14, List.forall_mem_cons.mpr ⟨lw_p15, fun _ h => absurd h List.not_mem_nil⟩⟩⟩⟩⟩⟩⟩⟩⟩⟩⟩⟩⟩⟩⟩⟩
theorem lw_p16 : lw_okq (⟨"CaneRounds", "loadCount", "()I"⟩, 19) := ⟨⟨by decide +kernel, by decide +kernel⟩, List.mem_of_getElem? (i := 15) (by decide +kernel), List.mem_of_getElem? (i := 440) (by decide +kernel), List.mem_of_getElem? (i := 441) (by decide +kernel)⟩
theorem lw_p17 : lw_okq (⟨"CaneRounds$Field", "hoursToDeath", "()I"⟩, 15) := ⟨⟨by decide +kernel, by decide +kernel⟩, List.mem_of_getElem? (i := 257) (by decide +kernel), List.mem_of_getElem? (i := 450) (by decide +kernel), List.mem_of_getElem? (i := 451) (by decide +kernel)⟩
theorem lw_p18 : lw_okq (⟨"CaneRounds", "sendTrucks", "()V"⟩, 19) := ⟨⟨by decide +kernel, by decide +kernel⟩, List.mem_of_getElem? (i := 15) (by decide +kernel), List.mem_of_getElem? (i := 502) (by decide +kernel), List.mem_of_getElem? (i := 503) (by decide +kernel)⟩
theorem lw_p19 : lw_okq (⟨"CaneRounds", "freeTrucks", "()I"⟩, 19) := ⟨⟨by decide +kernel, by decide +kernel⟩, List.mem_of_getElem? (i := 15) (by decide +kernel), List.mem_of_getElem? (i := 506) (by decide +kernel), List.mem_of_getElem? (i := 507) (by decide +kernel)⟩
theorem lw_p20 : lw_okq (⟨"CaneRounds$Load", "isOver", "()Z"⟩, 12) := ⟨⟨by decide +kernel, by decide +kernel⟩, List.mem_of_getElem? (i := 438) (by decide +kernel), List.mem_of_getElem? (i := 510) (by decide +kernel), List.mem_of_getElem? (i := 511) (by decide +kernel)⟩
theorem lw_p21 : lw_okq (⟨"CaneRounds$Load", "leave", "(I)V"⟩, 12) := ⟨⟨by decide +kernel, by decide +kernel⟩, List.mem_of_getElem? (i := 438) (by decide +kernel), List.mem_of_getElem? (i := 514) (by decide +kernel), List.mem_of_getElem? (i := 515) (by decide +kernel)⟩
theorem lw_p22 : lw_okq (⟨"CaneRounds$Field", "hoursToMill", "()I"⟩, 15) := ⟨⟨by decide +kernel, by decide +kernel⟩, List.mem_of_getElem? (i := 257) (by decide +kernel), List.mem_of_getElem? (i := 518) (by decide +kernel), List.mem_of_getElem? (i := 519) (by decide +kernel)⟩
theorem lw_p23 : lw_okq (⟨"CaneRounds", "crushLoads", "()V"⟩, 19) := ⟨⟨by decide +kernel, by decide +kernel⟩, List.mem_of_getElem? (i := 15) (by decide +kernel), List.mem_of_getElem? (i := 522) (by decide +kernel), List.mem_of_getElem? (i := 523) (by decide +kernel)⟩
theorem lw_p24 : lw_okq (⟨"CaneRounds", "nextToCrush", "()LCaneRounds$Load;"⟩, 19) := ⟨⟨by decide +kernel, by decide +kernel⟩, List.mem_of_getElem? (i := 15) (by decide +kernel), List.mem_of_getElem? (i := 526) (by decide +kernel), List.mem_of_getElem? (i := 527) (by decide +kernel)⟩
theorem lw_p25 : lw_okq (⟨"CaneRounds$Load", "isAtMill", "(I)Z"⟩, 12) := ⟨⟨by decide +kernel, by decide +kernel⟩, List.mem_of_getElem? (i := 438) (by decide +kernel), List.mem_of_getElem? (i := 530) (by decide +kernel), List.mem_of_getElem? (i := 531) (by decide +kernel)⟩
theorem lw_p26 : lw_okq (⟨"CaneRounds$Load", "tonsLeft", "()I"⟩, 12) := ⟨⟨by decide +kernel, by decide +kernel⟩, List.mem_of_getElem? (i := 438) (by decide +kernel), List.mem_of_getElem? (i := 534) (by decide +kernel), List.mem_of_getElem? (i := 535) (by decide +kernel)⟩
theorem lw_p27 : lw_okq (⟨"CaneRounds$Bundles", "add", "(II)V"⟩, 2) := ⟨⟨by decide +kernel, by decide +kernel⟩, List.mem_of_getElem? (i := 61) (by decide +kernel), List.mem_of_getElem? (i := 539) (by decide +kernel), List.mem_of_getElem? (i := 540) (by decide +kernel)⟩
theorem lw_p28 : lw_okq (⟨"CaneRounds$Bundles", "count", "()I"⟩, 2) := ⟨⟨by decide +kernel, by decide +kernel⟩, List.mem_of_getElem? (i := 61) (by decide +kernel), List.mem_of_getElem? (i := 543) (by decide +kernel), List.mem_of_getElem? (i := 544) (by decide +kernel)⟩
theorem lw_p29 : lw_okq (⟨"CaneRounds", "endLoads", "()V"⟩, 19) := ⟨⟨by decide +kernel, by decide +kernel⟩, List.mem_of_getElem? (i := 15) (by decide +kernel), List.mem_of_getElem? (i := 565) (by decide +kernel), List.mem_of_getElem? (i := 566) (by decide +kernel)⟩
theorem lw_p30 : lw_okq (⟨"CaneRounds", "endFires", "()V"⟩, 19) := ⟨⟨by decide +kernel, by decide +kernel⟩, List.mem_of_getElem? (i := 15) (by decide +kernel), List.mem_of_getElem? (i := 569) (by decide +kernel), List.mem_of_getElem? (i := 570) (by decide +kernel)⟩
theorem lw_p31 : lw_okq (⟨"CaneRounds", "payDay", "()V"⟩, 19) := ⟨⟨by decide +kernel, by decide +kernel⟩, List.mem_of_getElem? (i := 15) (by decide +kernel), List.mem_of_getElem? (i := 573) (by decide +kernel), List.mem_of_getElem? (i := 574) (by decide +kernel)⟩
def lw_privs_2 : List (MethodName × Nat) := [(⟨"CaneRounds", "loadCount", "()I"⟩, 19), (⟨"CaneRounds$Field", "hoursToDeath", "()I"⟩, 15), (⟨"CaneRounds", "sendTrucks", "()V"⟩, 19), (⟨"CaneRounds", "freeTrucks", "()I"⟩, 19), (⟨"CaneRounds$Load", "isOver", "()Z"⟩, 12), (⟨"CaneRounds$Load", "leave", "(I)V"⟩, 12), (⟨"CaneRounds$Field", "hoursToMill", "()I"⟩, 15), (⟨"CaneRounds", "crushLoads", "()V"⟩, 19), (⟨"CaneRounds", "nextToCrush", "()LCaneRounds$Load;"⟩, 19), (⟨"CaneRounds$Load", "isAtMill", "(I)Z"⟩, 12), (⟨"CaneRounds$Load", "tonsLeft", "()I"⟩, 12), (⟨"CaneRounds$Bundles", "add", "(II)V"⟩, 2), (⟨"CaneRounds$Bundles", "count", "()I"⟩, 2), (⟨"CaneRounds", "endLoads", "()V"⟩, 19), (⟨"CaneRounds", "endFires", "()V"⟩, 19), (⟨"CaneRounds", "payDay", "()V"⟩, 19)]
theorem lw_r2 : ∀ q ∈ lw_privs_2, lw_okq q := List.forall_mem_cons.mpr ⟨lw_p16, List.forall_mem_cons.mpr ⟨lw_p17, List.forall_mem_cons.mpr ⟨lw_p18, List.forall_mem_cons.mpr ⟨lw_p19, List.forall_mem_cons.mpr ⟨lw_p20, List.forall_mem_cons.mpr ⟨lw_p21, List.forall_mem_cons.mpr ⟨lw_p22, List.forall_mem_cons.mpr ⟨lw_p23, List.forall_mem_cons.mpr ⟨lw_p24, List.forall_mem_cons.mpr ⟨lw_p25, List.forall_mem_cons.mpr ⟨lw_p26, List.forall_mem_cons.mpr ⟨lw_p27, List.forall_mem_cons.mpr ⟨lw_p28, List.forall_mem_cons.mpr ⟨lw_p29, List.forall_mem_cons.mpr ⟨lw_p30, List.forall_mem_cons.mpr ⟨lw_p31, fun _ h => absurd h List.not_mem_nil⟩⟩⟩⟩⟩⟩⟩⟩⟩⟩⟩⟩⟩⟩⟩⟩
theorem lw_p32 : lw_okq (⟨"CaneRounds", "meanOfDay", "()I"⟩, 19) := ⟨⟨by decide +kernel, by decide +kernel⟩, List.mem_of_getElem? (i := 15) (by decide +kernel), List.mem_of_getElem? (i := 577) (by decide +kernel), List.mem_of_getElem? (i := 578) (by decide +kernel)⟩
theorem lw_p33 : lw_okq (⟨"CaneRounds$Load", "isToBePaid", "()Z"⟩, 12) := ⟨⟨by decide +kernel, by decide +kernel⟩, List.mem_of_getElem? (i := 438) (by decide +kernel), List.mem_of_getElem? (i := 581) (by decide +kernel), List.mem_of_getElem? (i := 582) (by decide +kernel)⟩
theorem lw_p34 : lw_okq (⟨"CaneRounds$Formula", "tell", "(IIIII)I"⟩, 11) := ⟨⟨by decide +kernel, by decide +kernel⟩, List.mem_of_getElem? (i := 134) (by decide +kernel), List.mem_of_getElem? (i := 587) (by decide +kernel), List.mem_of_getElem? (i := 588) (by decide +kernel)⟩
theorem lw_p35 : lw_okq (⟨"CaneRounds$Formula", "sum", "(I)I"⟩, 11) := ⟨⟨by decide +kernel, by decide +kernel⟩, List.mem_of_getElem? (i := 134) (by decide +kernel), List.mem_of_getElem? (i := 591) (by decide +kernel), List.mem_of_getElem? (i := 592) (by decide +kernel)⟩
theorem lw_p36 : lw_okq (⟨"CaneRounds$Formula", "product", "(I)I"⟩, 11) := ⟨⟨by decide +kernel, by decide +kernel⟩, List.mem_of_getElem? (i := 134) (by decide +kernel), List.mem_of_getElem? (i := 595) (by decide +kernel), List.mem_of_getElem? (i := 596) (by decide +kernel)⟩
theorem lw_p37 : lw_okq (⟨"CaneRounds$Formula", "one", "(I)I"⟩, 11) := ⟨⟨by decide +kernel, by decide +kernel⟩, List.mem_of_getElem? (i := 134) (by decide +kernel), List.mem_of_getElem? (i := 599) (by decide +kernel), List.mem_of_getElem? (i := 600) (by decide +kernel)⟩
theorem lw_p38 : lw_okq (⟨"CaneRounds$Formula", "token", "()I"⟩, 11) := ⟨⟨by decide +kernel, by decide +kernel⟩, List.mem_of_getElem? (i := 134) (by decide +kernel), List.mem_of_getElem? (i := 603) (by decide +kernel), List.mem_of_getElem? (i := 604) (by decide +kernel)⟩
theorem lw_p39 : lw_okq (⟨"CaneRounds$Formula", "number", "(I)I"⟩, 11) := ⟨⟨by decide +kernel, by decide +kernel⟩, List.mem_of_getElem? (i := 134) (by decide +kernel), List.mem_of_getElem? (i := 607) (by decide +kernel), List.mem_of_getElem? (i := 608) (by decide +kernel)⟩
theorem lw_p40 : lw_okq (⟨"CaneRounds$Formula", "stop", "(I)V"⟩, 11) := ⟨⟨by decide +kernel, by decide +kernel⟩, List.mem_of_getElem? (i := 134) (by decide +kernel), List.mem_of_getElem? (i := 611) (by decide +kernel), List.mem_of_getElem? (i := 612) (by decide +kernel)⟩
theorem lw_p41 : lw_okq (⟨"CaneRounds$Formula", "opens", "(II)Z"⟩, 11) := ⟨⟨by decide +kernel, by decide +kernel⟩, List.mem_of_getElem? (i := 134) (by decide +kernel), List.mem_of_getElem? (i := 615) (by decide +kernel), List.mem_of_getElem? (i := 616) (by decide +kernel)⟩
theorem lw_p42 : lw_okq (⟨"CaneRounds$Formula", "bracket", "(I)I"⟩, 11) := ⟨⟨by decide +kernel, by decide +kernel⟩, List.mem_of_getElem? (i := 134) (by decide +kernel), List.mem_of_getElem? (i := 619) (by decide +kernel), List.mem_of_getElem? (i := 620) (by decide +kernel)⟩
theorem lw_p43 : lw_okq (⟨"CaneRounds$Formula", "take", "(I)V"⟩, 11) := ⟨⟨by decide +kernel, by decide +kernel⟩, List.mem_of_getElem? (i := 134) (by decide +kernel), List.mem_of_getElem? (i := 623) (by decide +kernel), List.mem_of_getElem? (i := 624) (by decide +kernel)⟩
theorem lw_p44 : lw_okq (⟨"CaneRounds$Formula", "lesserOrGreater", "(ZI)I"⟩, 11) := ⟨⟨by decide +kernel, by decide +kernel⟩, List.mem_of_getElem? (i := 134) (by decide +kernel), List.mem_of_getElem? (i := 627) (by decide +kernel), List.mem_of_getElem? (i := 628) (by decide +kernel)⟩
theorem lw_p45 : lw_okq (⟨"CaneRounds$Formula", "letter", "(I)I"⟩, 11) := ⟨⟨by decide +kernel, by decide +kernel⟩, List.mem_of_getElem? (i := 134) (by decide +kernel), List.mem_of_getElem? (i := 633) (by decide +kernel), List.mem_of_getElem? (i := 634) (by decide +kernel)⟩
theorem lw_p46 : lw_okq (⟨"CaneRounds$Farms", "give", "(II)V"⟩, 5) := ⟨⟨by decide +kernel, by decide +kernel⟩, List.mem_of_getElem? (i := 23) (by decide +kernel), List.mem_of_getElem? (i := 649) (by decide +kernel), List.mem_of_getElem? (i := 650) (by decide +kernel)⟩
theorem lw_p47 : lw_okq (⟨"CaneRounds$Tape", "append", "(I)V"⟩, 2) := ⟨⟨by decide +kernel, by decide +kernel⟩, List.mem_of_getElem? (i := 118) (by decide +kernel), List.mem_of_getElem? (i := 657) (by decide +kernel), List.mem_of_getElem? (i := 658) (by decide +kernel)⟩
def lw_privs_3 : List (MethodName × Nat) := [(⟨"CaneRounds", "meanOfDay", "()I"⟩, 19), (⟨"CaneRounds$Load", "isToBePaid", "()Z"⟩, 12), (⟨"CaneRounds$Formula", "tell", "(IIIII)I"⟩, 11), (⟨"CaneRounds$Formula", "sum", "(I)I"⟩, 11), (⟨"CaneRounds$Formula", "product", "(I)I"⟩, 11), (⟨"CaneRounds$Formula", "one", "(I)I"⟩, 11), (⟨"CaneRounds$Formula", "token", "()I"⟩, 11), (⟨"CaneRounds$Formula", "number", "(I)I"⟩, 11), (⟨"CaneRounds$Formula", "stop", "(I)V"⟩, 11), (⟨"CaneRounds$Formula", "opens", "(II)Z"⟩, 11), (⟨"CaneRounds$Formula", "bracket", "(I)I"⟩, 11), (⟨"CaneRounds$Formula", "take", "(I)V"⟩, 11), (⟨"CaneRounds$Formula", "lesserOrGreater", "(ZI)I"⟩, 11), (⟨"CaneRounds$Formula", "letter", "(I)I"⟩, 11), (⟨"CaneRounds$Farms", "give", "(II)V"⟩, 5), (⟨"CaneRounds$Tape", "append", "(I)V"⟩, 2)]
theorem lw_r3 : ∀ q ∈ lw_privs_3, lw_okq q := List.forall_mem_cons.mpr ⟨lw_p32, List.forall_mem_cons.mpr ⟨lw_p33, List.forall_mem_cons.mpr ⟨lw_p34, List.forall_mem_cons.mpr ⟨lw_p35, List.forall_mem_cons.mpr ⟨lw_p36, List.forall_mem_cons.mpr ⟨lw_p37, List.forall_mem_cons.mpr ⟨lw_p38, List.forall_mem_cons.mpr ⟨lw_p39, List.forall_mem_cons.mpr ⟨lw_p40, List.forall_mem_cons.mpr ⟨lw_p41, List.forall_mem_cons.mpr ⟨lw_p42, List.forall_mem_cons.mpr ⟨lw_p43, List.forall_mem_cons.mpr ⟨lw_p44, List.forall_mem_cons.mpr ⟨lw_p45, List.forall_mem_cons.mpr ⟨lw_p46, List.forall_mem_cons.mpr ⟨lw_p47, fun _ h => absurd h List.not_mem_nil⟩⟩⟩⟩⟩⟩⟩⟩⟩⟩⟩⟩⟩⟩⟩⟩
theorem lw_p48 : lw_okq (⟨"CaneRounds$Formula", "split", "([BI)V"⟩, 11) := ⟨⟨by decide +kernel, by decide +kernel⟩, List.mem_of_getElem? (i := 134) (by decide +kernel), List.mem_of_getElem? (i := 669) (by decide +kernel), List.mem_of_getElem? (i := 670) (by decide +kernel)⟩
theorem lw_p49 : lw_okq (⟨"CaneRounds$Formula", "put", "(II)V"⟩, 11) := ⟨⟨by decide +kernel, by decide +kernel⟩, List.mem_of_getElem? (i := 134) (by decide +kernel), List.mem_of_getElem? (i := 680) (by decide +kernel), List.mem_of_getElem? (i := 681) (by decide +kernel)⟩
theorem lw_p50 : lw_okq (⟨"CaneRounds", "findLoad", "(I)LCaneRounds$Load;"⟩, 19) := ⟨⟨by decide +kernel, by decide +kernel⟩, List.mem_of_getElem? (i := 15) (by decide +kernel), List.mem_of_getElem? (i := 714) (by decide +kernel), List.mem_of_getElem? (i := 715) (by decide +kernel)⟩
theorem lw_p51 : lw_okq (⟨"CaneRounds$Bundles", "fieldOfTon", "(I)I"⟩, 2) := ⟨⟨by decide +kernel, by decide +kernel⟩, List.mem_of_getElem? (i := 61) (by decide +kernel), List.mem_of_getElem? (i := 722) (by decide +kernel), List.mem_of_getElem? (i := 723) (by decide +kernel)⟩
theorem lw_p52 : lw_okq (⟨"CaneRounds", "choose", "(II)Z"⟩, 19) := ⟨⟨by decide +kernel, by decide +kernel⟩, List.mem_of_getElem? (i := 15) (by decide +kernel), List.mem_of_getElem? (i := 730) (by decide +kernel), List.mem_of_getElem? (i := 731) (by decide +kernel)⟩
theorem lw_p53 : lw_okq (⟨"CaneRounds", "standingFields", "()I"⟩, 19) := ⟨⟨by decide +kernel, by decide +kernel⟩, List.mem_of_getElem? (i := 15) (by decide +kernel), List.mem_of_getElem? (i := 734) (by decide +kernel), List.mem_of_getElem? (i := 735) (by decide +kernel)⟩
theorem lw_p54 : lw_okq (⟨"CaneRounds$Chooser", "clear", "(I)V"⟩, 11) := ⟨⟨by decide +kernel, by decide +kernel⟩, List.mem_of_getElem? (i := 74) (by decide +kernel), List.mem_of_getElem? (i := 738) (by decide +kernel), List.mem_of_getElem? (i := 739) (by decide +kernel)⟩
theorem lw_p55 : lw_okq (⟨"CaneRounds$Chooser", "offer", "(LCaneRounds$Field;I)V"⟩, 11) := ⟨⟨by decide +kernel, by decide +kernel⟩, List.mem_of_getElem? (i := 74) (by decide +kernel), List.mem_of_getElem? (i := 745) (by decide +kernel), List.mem_of_getElem? (i := 746) (by decide +kernel)⟩
theorem lw_p56 : lw_okq (⟨"CaneRounds$Chooser", "decide", "(I)V"⟩, 11) := ⟨⟨by decide +kernel, by decide +kernel⟩, List.mem_of_getElem? (i := 74) (by decide +kernel), List.mem_of_getElem? (i := 757) (by decide +kernel), List.mem_of_getElem? (i := 758) (by decide +kernel)⟩
theorem lw_p57 : lw_okq (⟨"CaneRounds$Chooser", "sumDearest", "(I)V"⟩, 11) := ⟨⟨by decide +kernel, by decide +kernel⟩, List.mem_of_getElem? (i := 74) (by decide +kernel), List.mem_of_getElem? (i := 761) (by decide +kernel), List.mem_of_getElem? (i := 762) (by decide +kernel)⟩
theorem lw_p58 : lw_okq (⟨"CaneRounds$Chooser", "worthOfDearestThatFit", "(I)I"⟩, 11) := ⟨⟨by decide +kernel, by decide +kernel⟩, List.mem_of_getElem? (i := 74) (by decide +kernel), List.mem_of_getElem? (i := 765) (by decide +kernel), List.mem_of_getElem? (i := 766) (by decide +kernel)⟩
theorem lw_p59 : lw_okq (⟨"CaneRounds$Chooser", "fits", "(II)Z"⟩, 11) := ⟨⟨by decide +kernel, by decide +kernel⟩, List.mem_of_getElem? (i := 74) (by decide +kernel), List.mem_of_getElem? (i := 769) (by decide +kernel), List.mem_of_getElem? (i := 770) (by decide +kernel)⟩
theorem lw_p60 : lw_okq (⟨"CaneRounds$Chooser", "fitsFrom", "(II)Z"⟩, 11) := ⟨⟨by decide +kernel, by decide +kernel⟩, List.mem_of_getElem? (i := 74) (by decide +kernel), List.mem_of_getElem? (i := 774) (by decide +kernel), List.mem_of_getElem? (i := 775) (by decide +kernel)⟩
theorem lw_p61 : lw_okq (⟨"CaneRounds$Chooser", "search", "(IIII)V"⟩, 11) := ⟨⟨by decide +kernel, by decide +kernel⟩, List.mem_of_getElem? (i := 74) (by decide +kernel), List.mem_of_getElem? (i := 778) (by decide +kernel), List.mem_of_getElem? (i := 779) (by decide +kernel)⟩
theorem lw_p62 : lw_okq (⟨"CaneRounds$Farms", "earnedBy", "(I)J"⟩, 5) := ⟨⟨by decide +kernel, by decide +kernel⟩, List.mem_of_getElem? (i := 23) (by decide +kernel), List.mem_of_getElem? (i := 790) (by decide +kernel), List.mem_of_getElem? (i := 791) (by decide +kernel)⟩
theorem lw_p63 : lw_okq (⟨"CaneRounds", "tonsLost", "()I"⟩, 19) := ⟨⟨by decide +kernel, by decide +kernel⟩, List.mem_of_getElem? (i := 15) (by decide +kernel), List.mem_of_getElem? (i := 799) (by decide +kernel), List.mem_of_getElem? (i := 800) (by decide +kernel)⟩
def lw_privs_4 : List (MethodName × Nat) := [(⟨"CaneRounds$Formula", "split", "([BI)V"⟩, 11), (⟨"CaneRounds$Formula", "put", "(II)V"⟩, 11), (⟨"CaneRounds", "findLoad", "(I)LCaneRounds$Load;"⟩, 19), (⟨"CaneRounds$Bundles", "fieldOfTon", "(I)I"⟩, 2), (⟨"CaneRounds", "choose", "(II)Z"⟩, 19), (⟨"CaneRounds", "standingFields", "()I"⟩, 19), (⟨"CaneRounds$Chooser", "clear", "(I)V"⟩, 11), (⟨"CaneRounds$Chooser", "offer", "(LCaneRounds$Field;I)V"⟩, 11), (⟨"CaneRounds$Chooser", "decide", "(I)V"⟩, 11), (⟨"CaneRounds$Chooser", "sumDearest", "(I)V"⟩, 11), (⟨"CaneRounds$Chooser", "worthOfDearestThatFit", "(I)I"⟩, 11), (⟨"CaneRounds$Chooser", "fits", "(II)Z"⟩, 11), (⟨"CaneRounds$Chooser", "fitsFrom", "(II)Z"⟩, 11), (⟨"CaneRounds$Chooser", "search", "(IIII)V"⟩, 11), (⟨"CaneRounds$Farms", "earnedBy", "(I)J"⟩, 5), (⟨"CaneRounds", "tonsLost", "()I"⟩, 19)]
theorem lw_r4 : ∀ q ∈ lw_privs_4, lw_okq q := List.forall_mem_cons.mpr ⟨lw_p48, List.forall_mem_cons.mpr ⟨lw_p49, List.forall_mem_cons.mpr ⟨lw_p50, List.forall_mem_cons.mpr ⟨lw_p51, List.forall_mem_cons.mpr ⟨lw_p52, List.forall_mem_cons.mpr ⟨lw_p53, List.forall_mem_cons.mpr ⟨lw_p54, List.forall_mem_cons.mpr ⟨lw_p55, List.forall_mem_cons.mpr ⟨lw_p56, List.forall_mem_cons.mpr ⟨lw_p57, List.forall_mem_cons.mpr ⟨lw_p58, List.forall_mem_cons.mpr ⟨lw_p59, List.forall_mem_cons.mpr ⟨lw_p60, List.forall_mem_cons.mpr ⟨lw_p61, List.forall_mem_cons.mpr ⟨lw_p62, List.forall_mem_cons.mpr ⟨lw_p63, fun _ h => absurd h List.not_mem_nil⟩⟩⟩⟩⟩⟩⟩⟩⟩⟩⟩⟩⟩⟩⟩⟩
theorem lw_p64 : lw_okq (⟨"CaneRoundsModel", "isHour", "()Z"⟩, 64) := ⟨⟨by decide +kernel, by decide +kernel⟩, List.mem_of_getElem? (i := 804) (by decide +kernel), List.mem_of_getElem? (i := 1011) (by decide +kernel), List.mem_of_getElem? (i := 1012) (by decide +kernel)⟩
theorem lw_p65 : lw_okq (⟨"CaneRoundsModel", "turn", "()I"⟩, 64) := ⟨⟨by decide +kernel, by decide +kernel⟩, List.mem_of_getElem? (i := 804) (by decide +kernel), List.mem_of_getElem? (i := 1032) (by decide +kernel), List.mem_of_getElem? (i := 1033) (by decide +kernel)⟩
theorem lw_p66 : lw_okq (⟨"CaneRoundsModel", "isField", "(I)Z"⟩, 64) := ⟨⟨by decide +kernel, by decide +kernel⟩, List.mem_of_getElem? (i := 804) (by decide +kernel), List.mem_of_getElem? (i := 1044) (by decide +kernel), List.mem_of_getElem? (i := 1045) (by decide +kernel)⟩
theorem lw_p67 : lw_okq (⟨"CaneRoundsModel", "freeGangs", "()I"⟩, 64) := ⟨⟨by decide +kernel, by decide +kernel⟩, List.mem_of_getElem? (i := 804) (by decide +kernel), List.mem_of_getElem? (i := 1048) (by decide +kernel), List.mem_of_getElem? (i := 1049) (by decide +kernel)⟩
theorem lw_p68 : lw_okq (⟨"CaneRoundsModel", "sweetAt", "(II)I"⟩, 64) := ⟨⟨by decide +kernel, by decide +kernel⟩, List.mem_of_getElem? (i := 804) (by decide +kernel), List.mem_of_getElem? (i := 1056) (by decide +kernel), List.mem_of_getElem? (i := 1057) (by decide +kernel)⟩
theorem lw_p69 : lw_okq (⟨"CaneRoundsModel", "hour", "()V"⟩, 64) := ⟨⟨by decide +kernel, by decide +kernel⟩, List.mem_of_getElem? (i := 804) (by decide +kernel), List.mem_of_getElem? (i := 1064) (by decide +kernel), List.mem_of_getElem? (i := 1065) (by decide +kernel)⟩
theorem lw_p70 : lw_okq (⟨"CaneRoundsModel", "isHindered", "(ZI)Z"⟩, 64) := ⟨⟨by decide +kernel, by decide +kernel⟩, List.mem_of_getElem? (i := 804) (by decide +kernel), List.mem_of_getElem? (i := 1068) (by decide +kernel), List.mem_of_getElem? (i := 1069) (by decide +kernel)⟩
theorem lw_p71 : lw_okq (⟨"CaneRoundsModel", "cutOn", "(I)V"⟩, 64) := ⟨⟨by decide +kernel, by decide +kernel⟩, List.mem_of_getElem? (i := 804) (by decide +kernel), List.mem_of_getElem? (i := 1072) (by decide +kernel), List.mem_of_getElem? (i := 1073) (by decide +kernel)⟩
theorem lw_p72 : lw_okq (⟨"CaneRoundsModel", "send", "(I)V"⟩, 64) := ⟨⟨by decide +kernel, by decide +kernel⟩, List.mem_of_getElem? (i := 804) (by decide +kernel), List.mem_of_getElem? (i := 1077) (by decide +kernel), List.mem_of_getElem? (i := 1078) (by decide +kernel)⟩
theorem lw_p73 : lw_okq (⟨"CaneRoundsModel", "mill", "()V"⟩, 64) := ⟨⟨by decide +kernel, by decide +kernel⟩, List.mem_of_getElem? (i := 804) (by decide +kernel), List.mem_of_getElem? (i := 1084) (by decide +kernel), List.mem_of_getElem? (i := 1085) (by decide +kernel)⟩
theorem lw_p74 : lw_okq (⟨"CaneRoundsModel", "firstToDie", "()I"⟩, 64) := ⟨⟨by decide +kernel, by decide +kernel⟩, List.mem_of_getElem? (i := 804) (by decide +kernel), List.mem_of_getElem? (i := 1088) (by decide +kernel), List.mem_of_getElem? (i := 1089) (by decide +kernel)⟩
theorem lw_p75 : lw_okq (⟨"CaneRoundsModel", "left", "(I)I"⟩, 64) := ⟨⟨by decide +kernel, by decide +kernel⟩, List.mem_of_getElem? (i := 804) (by decide +kernel), List.mem_of_getElem? (i := 1092) (by decide +kernel), List.mem_of_getElem? (i := 1093) (by decide +kernel)⟩
theorem lw_p76 : lw_okq (⟨"CaneRoundsModel", "payDay", "()V"⟩, 64) := ⟨⟨by decide +kernel, by decide +kernel⟩, List.mem_of_getElem? (i := 804) (by decide +kernel), List.mem_of_getElem? (i := 1096) (by decide +kernel), List.mem_of_getElem? (i := 1097) (by decide +kernel)⟩
theorem lw_p77 : lw_okq (⟨"CaneRoundsModel", "work", "(IIIII)I"⟩, 64) := ⟨⟨by decide +kernel, by decide +kernel⟩, List.mem_of_getElem? (i := 804) (by decide +kernel), List.mem_of_getElem? (i := 1100) (by decide +kernel), List.mem_of_getElem? (i := 1101) (by decide +kernel)⟩
theorem lw_p78 : lw_okq (⟨"CaneRoundsModel", "four", "(I)V"⟩, 64) := ⟨⟨by decide +kernel, by decide +kernel⟩, List.mem_of_getElem? (i := 804) (by decide +kernel), List.mem_of_getElem? (i := 1116) (by decide +kernel), List.mem_of_getElem? (i := 1117) (by decide +kernel)⟩
theorem lw_p79 : lw_okq (⟨"CaneRoundsModel", "readText", "()I"⟩, 64) := ⟨⟨by decide +kernel, by decide +kernel⟩, List.mem_of_getElem? (i := 804) (by decide +kernel), List.mem_of_getElem? (i := 1128) (by decide +kernel), List.mem_of_getElem? (i := 1129) (by decide +kernel)⟩
def lw_privs_5 : List (MethodName × Nat) := [(⟨"CaneRoundsModel", "isHour", "()Z"⟩, 64), (⟨"CaneRoundsModel", "turn", "()I"⟩, 64), (⟨"CaneRoundsModel", "isField", "(I)Z"⟩, 64), (⟨"CaneRoundsModel", "freeGangs", "()I"⟩, 64), (⟨"CaneRoundsModel", "sweetAt", "(II)I"⟩, 64), (⟨"CaneRoundsModel", "hour", "()V"⟩, 64), (⟨"CaneRoundsModel", "isHindered", "(ZI)Z"⟩, 64), (⟨"CaneRoundsModel", "cutOn", "(I)V"⟩, 64), (⟨"CaneRoundsModel", "send", "(I)V"⟩, 64), (⟨"CaneRoundsModel", "mill", "()V"⟩, 64), (⟨"CaneRoundsModel", "firstToDie", "()I"⟩, 64), (⟨"CaneRoundsModel", "left", "(I)I"⟩, 64), (⟨"CaneRoundsModel", "payDay", "()V"⟩, 64), (⟨"CaneRoundsModel", "work", "(IIIII)I"⟩, 64), (⟨"CaneRoundsModel", "four", "(I)V"⟩, 64), (⟨"CaneRoundsModel", "readText", "()I"⟩, 64)]
theorem lw_r5 : ∀ q ∈ lw_privs_5, lw_okq q := List.forall_mem_cons.mpr ⟨lw_p64, List.forall_mem_cons.mpr ⟨lw_p65, List.forall_mem_cons.mpr ⟨lw_p66, List.forall_mem_cons.mpr ⟨lw_p67, List.forall_mem_cons.mpr ⟨lw_p68, List.forall_mem_cons.mpr ⟨lw_p69, List.forall_mem_cons.mpr ⟨lw_p70, List.forall_mem_cons.mpr ⟨lw_p71, List.forall_mem_cons.mpr ⟨lw_p72, List.forall_mem_cons.mpr ⟨lw_p73, List.forall_mem_cons.mpr ⟨lw_p74, List.forall_mem_cons.mpr ⟨lw_p75, List.forall_mem_cons.mpr ⟨lw_p76, List.forall_mem_cons.mpr ⟨lw_p77, List.forall_mem_cons.mpr ⟨lw_p78, List.forall_mem_cons.mpr ⟨lw_p79, fun _ h => absurd h List.not_mem_nil⟩⟩⟩⟩⟩⟩⟩⟩⟩⟩⟩⟩⟩⟩⟩⟩
theorem lw_p80 : lw_okq (⟨"CaneRoundsModel", "nextToken", "()V"⟩, 64) := ⟨⟨by decide +kernel, by decide +kernel⟩, List.mem_of_getElem? (i := 804) (by decide +kernel), List.mem_of_getElem? (i := 1132) (by decide +kernel), List.mem_of_getElem? (i := 1133) (by decide +kernel)⟩
theorem lw_p81 : lw_okq (⟨"CaneRoundsModel", "see", "(I)I"⟩, 64) := ⟨⟨by decide +kernel, by decide +kernel⟩, List.mem_of_getElem? (i := 804) (by decide +kernel), List.mem_of_getElem? (i := 1136) (by decide +kernel), List.mem_of_getElem? (i := 1137) (by decide +kernel)⟩
theorem lw_p82 : lw_okq (⟨"CaneRoundsModel", "behind", "()I"⟩, 64) := ⟨⟨by decide +kernel, by decide +kernel⟩, List.mem_of_getElem? (i := 804) (by decide +kernel), List.mem_of_getElem? (i := 1152) (by decide +kernel), List.mem_of_getElem? (i := 1153) (by decide +kernel)⟩
theorem lw_p83 : lw_okq (⟨"CaneRoundsModel", "settle", "(I)V"⟩, 64) := ⟨⟨by decide +kernel, by decide +kernel⟩, List.mem_of_getElem? (i := 804) (by decide +kernel), List.mem_of_getElem? (i := 1156) (by decide +kernel), List.mem_of_getElem? (i := 1157) (by decide +kernel)⟩
theorem lw_p84 : lw_okq (⟨"CaneRoundsModel", "emit", "(II)V"⟩, 64) := ⟨⟨by decide +kernel, by decide +kernel⟩, List.mem_of_getElem? (i := 804) (by decide +kernel), List.mem_of_getElem? (i := 1160) (by decide +kernel), List.mem_of_getElem? (i := 1161) (by decide +kernel)⟩
theorem lw_p85 : lw_okq (⟨"CaneRoundsModel", "push", "(I)V"⟩, 64) := ⟨⟨by decide +kernel, by decide +kernel⟩, List.mem_of_getElem? (i := 804) (by decide +kernel), List.mem_of_getElem? (i := 1164) (by decide +kernel), List.mem_of_getElem? (i := 1165) (by decide +kernel)⟩
theorem lw_p86 : lw_okq (⟨"CaneRoundsModel", "whole", "()V"⟩, 64) := ⟨⟨by decide +kernel, by decide +kernel⟩, List.mem_of_getElem? (i := 804) (by decide +kernel), List.mem_of_getElem? (i := 1168) (by decide +kernel), List.mem_of_getElem? (i := 1169) (by decide +kernel)⟩
theorem lw_p87 : lw_okq (⟨"CaneRoundsModel", "begin", "()I"⟩, 64) := ⟨⟨by decide +kernel, by decide +kernel⟩, List.mem_of_getElem? (i := 804) (by decide +kernel), List.mem_of_getElem? (i := 1172) (by decide +kernel), List.mem_of_getElem? (i := 1173) (by decide +kernel)⟩
theorem lw_p88 : lw_okq (⟨"CaneRoundsModel", "isSet", "(II)Z"⟩, 64) := ⟨⟨by decide +kernel, by decide +kernel⟩, List.mem_of_getElem? (i := 804) (by decide +kernel), List.mem_of_getElem? (i := 1209) (by decide +kernel), List.mem_of_getElem? (i := 1210) (by decide +kernel)⟩
theorem lw_p89 : lw_okq (⟨"CaneRoundsModel", "find", "(II)I"⟩, 64) := ⟨⟨by decide +kernel, by decide +kernel⟩, List.mem_of_getElem? (i := 804) (by decide +kernel), List.mem_of_getElem? (i := 1213) (by decide +kernel), List.mem_of_getElem? (i := 1214) (by decide +kernel)⟩
theorem lw_p90 : lw_okq (⟨"CaneRoundsModel", "could", "(I)Z"⟩, 64) := ⟨⟨by decide +kernel, by decide +kernel⟩, List.mem_of_getElem? (i := 804) (by decide +kernel), List.mem_of_getElem? (i := 1217) (by decide +kernel), List.mem_of_getElem? (i := 1218) (by decide +kernel)⟩
theorem lw_p91 : lw_okq (⟨"CaneRoundsModel", "dyingFirst", "(I)I"⟩, 64) := ⟨⟨by decide +kernel, by decide +kernel⟩, List.mem_of_getElem? (i := 804) (by decide +kernel), List.mem_of_getElem? (i := 1221) (by decide +kernel), List.mem_of_getElem? (i := 1222) (by decide +kernel)⟩
def lw_privs_6 : List (MethodName × Nat) := [(⟨"CaneRoundsModel", "nextToken", "()V"⟩, 64), (⟨"CaneRoundsModel", "see", "(I)I"⟩, 64), (⟨"CaneRoundsModel", "behind", "()I"⟩, 64), (⟨"CaneRoundsModel", "settle", "(I)V"⟩, 64), (⟨"CaneRoundsModel", "emit", "(II)V"⟩, 64), (⟨"CaneRoundsModel", "push", "(I)V"⟩, 64), (⟨"CaneRoundsModel", "whole", "()V"⟩, 64), (⟨"CaneRoundsModel", "begin", "()I"⟩, 64), (⟨"CaneRoundsModel", "isSet", "(II)Z"⟩, 64), (⟨"CaneRoundsModel", "find", "(II)I"⟩, 64), (⟨"CaneRoundsModel", "could", "(I)Z"⟩, 64), (⟨"CaneRoundsModel", "dyingFirst", "(I)I"⟩, 64)]
theorem lw_r6 : ∀ q ∈ lw_privs_6, lw_okq q := List.forall_mem_cons.mpr ⟨lw_p80, List.forall_mem_cons.mpr ⟨lw_p81, List.forall_mem_cons.mpr ⟨lw_p82, List.forall_mem_cons.mpr ⟨lw_p83, List.forall_mem_cons.mpr ⟨lw_p84, List.forall_mem_cons.mpr ⟨lw_p85, List.forall_mem_cons.mpr ⟨lw_p86, List.forall_mem_cons.mpr ⟨lw_p87, List.forall_mem_cons.mpr ⟨lw_p88, List.forall_mem_cons.mpr ⟨lw_p89, List.forall_mem_cons.mpr ⟨lw_p90, List.forall_mem_cons.mpr ⟨lw_p91, fun _ h => absurd h List.not_mem_nil⟩⟩⟩⟩⟩⟩⟩⟩⟩⟩⟩⟩
def lw_privs : List (MethodName × Nat) := lw_privs_1 ++ (lw_privs_2 ++ (lw_privs_3 ++ (lw_privs_4 ++ (lw_privs_5 ++ (lw_privs_6)))))
def lw_tbl : List Cond := k2_sels lw_privs ++ tables_1
theorem lw_privs_ok : ∀ q ∈ lw_privs, lw_okq q := by
  show ∀ q ∈ lw_privs_1 ++ (lw_privs_2 ++ (lw_privs_3 ++ (lw_privs_4 ++ (lw_privs_5 ++ (lw_privs_6))))), lw_okq q
  exact List.forall_mem_append.mpr ⟨lw_r1, List.forall_mem_append.mpr ⟨lw_r2, List.forall_mem_append.mpr ⟨lw_r3, List.forall_mem_append.mpr ⟨lw_r4, List.forall_mem_append.mpr ⟨lw_r5, lw_r6⟩⟩⟩⟩⟩
-- the words that are kept from state to state, and those of nest mates
def tt_g : List Cond := lw_tbl.filter goodWord
def tt_isN : Cond → Bool
  | .fieldLinkNest _ _ _ _ _ _ => true
  | .methodLinkNest _ _ _ _ => true
  | _ => false
def tt_n : List Cond := lw_tbl.filter tt_isN
def tt_chk (ws : List Cond) (ps : List Nat) : Bool := ws.length == ps.length && (ws.zip ps).all (fun q => decide (lw_tbl[q.2]? = some q.1) && goodWord q.1)
theorem tt_of {ws : List Cond} (ps : List Nat) (h : tt_chk ws ps = true) : ∀ w ∈ ws, w ∈ tt_g := by
  intro w hw
  simp only [tt_chk, Bool.and_eq_true, beq_iff_eq, List.all_eq_true] at h
  obtain ⟨k, hk, rfl⟩ := List.mem_iff_getElem.mp hw
  have hk2 : k < ps.length := by omega
  have hm : (ws[k], ps[k]) ∈ ws.zip ps := by
    rw [List.mem_iff_getElem]
    exact ⟨k, by rw [List.length_zip]; omega, by simp⟩
  have h2 := h.2 _ hm
  simp only [decide_eq_true_eq] at h2
  exact List.mem_filter.mpr ⟨List.mem_of_getElem? h2.1, h2.2⟩
theorem tt_ofN {w : Cond} (i : Nat) (h : decide (lw_tbl[i]? = some w) = true) (hn : tt_isN w = true) : w ∈ tt_n :=
  List.mem_filter.mpr ⟨List.mem_of_getElem? (of_decide_eq_true h), hn⟩
theorem tt_g1 {w : Cond} (i : Nat) (h : decide (lw_tbl[i]? = some w) = true) (hn : goodWord w = true) : w ∈ tt_g :=
  List.mem_filter.mpr ⟨List.mem_of_getElem? (of_decide_eq_true h), hn⟩

def cs_R0 : String := "CaneRounds$Batch"
def cs_T0 : u_T := fun k => match k with
  | 0 => ("CaneRounds$Batch", "field", "I", true)
  | 1 => ("CaneRounds$Batch", "end", "I", false)
  | _ => ("CaneRounds$Batch", "next", "LCaneRounds$Batch;", false)
def cs_y0 : Nat → FieldType := fun k => match k with
  | 0 => .int
  | 1 => .int
  | _ => .object "CaneRounds$Batch"
theorem cs_n0 : ∀ a, a < 3 → ∀ b, b < 3 → a ≠ b → (cs_T0 a).2.1 ≠ (cs_T0 b).2.1 := by decide +kernel
theorem cs_p0 : ∀ k, k < 3 → parseFieldDescriptor (cs_T0 k).2.2.1 = some (cs_y0 k) := by decide +kernel
theorem cs_w0 : ∀ w ∈ u_ws cs_R0 cs_T0 3, w ∈ tt_g := tt_of [649, 651, 653] (by decide +kernel)
def cs_R1 : String := "CaneRounds$Bundles"
def cs_T1 : u_T := fun k => match k with
  | 0 => ("CaneRounds$Bundles", "first", "LCaneRounds$Batch;", false)
  | _ => ("CaneRounds$Bundles", "last", "LCaneRounds$Batch;", false)
def cs_y1 : Nat → FieldType := fun k => match k with
  | 0 => .object "CaneRounds$Batch"
  | _ => .object "CaneRounds$Batch"
theorem cs_n1 : ∀ a, a < 2 → ∀ b, b < 2 → a ≠ b → (cs_T1 a).2.1 ≠ (cs_T1 b).2.1 := by decide +kernel
theorem cs_p1 : ∀ k, k < 2 → parseFieldDescriptor (cs_T1 k).2.2.1 = some (cs_y1 k) := by decide +kernel
theorem cs_w1 : ∀ w ∈ u_ws cs_R1 cs_T1 2, w ∈ tt_g := tt_of [160, 162] (by decide +kernel)
def cs_R2 : String := "CaneRounds$Chooser"
def cs_T2 : u_T := fun k => match k with
  | 0 => ("CaneRounds$Chooser", "tons", "[I", true)
  | 1 => ("CaneRounds$Chooser", "worth", "[I", true)
  | 2 => ("CaneRounds$Chooser", "arrives", "[I", true)
  | 3 => ("CaneRounds$Chooser", "byDeath", "[I", true)
  | 4 => ("CaneRounds$Chooser", "byWorth", "[I", true)
  | 5 => ("CaneRounds$Chooser", "most", "[[I", true)
  | 6 => ("CaneRounds$Chooser", "candidates", "I", false)
  | 7 => ("CaneRounds$Chooser", "count", "I", false)
  | 8 => ("CaneRounds$Chooser", "crush", "I", false)
  | 9 => ("CaneRounds$Chooser", "bestWorth", "I", false)
  | _ => ("CaneRounds$Chooser", "bestSet", "I", false)
def cs_y2 : Nat → FieldType := fun k => match k with
  | 0 => .array .int
  | 1 => .array .int
  | 2 => .array .int
  | 3 => .array .int
  | 4 => .array .int
  | 5 => .array (.array .int)
  | 6 => .int
  | 7 => .int
  | 8 => .int
  | 9 => .int
  | _ => .int
theorem cs_n2 : ∀ a, a < 11 → ∀ b, b < 11 → a ≠ b → (cs_T2 a).2.1 ≠ (cs_T2 b).2.1 := by decide +kernel
theorem cs_p2 : ∀ k, k < 11 → parseFieldDescriptor (cs_T2 k).2.2.1 = some (cs_y2 k) := by decide +kernel
theorem cs_w2 : ∀ w ∈ u_ws cs_R2 cs_T2 11, w ∈ tt_g := tt_of [186, 188, 190, 192, 194, 196, 198, 200, 202, 204, 206] (by decide +kernel)
def cs_R3 : String := "CaneRounds$Farms"
def cs_T3 : u_T := fun k => match k with
  | 0 => ("CaneRounds$Farms", "earned", "[J", true)
  | 1 => ("CaneRounds$Farms", "order", "[I", true)
  | 2 => ("CaneRounds$Farms", "count", "I", false)
  | 3 => ("CaneRounds$Farms", "ordered", "I", false)
  | _ => ("CaneRounds$Farms", "settled", "I", false)
def cs_y3 : Nat → FieldType := fun k => match k with
  | 0 => .array .long
  | 1 => .array .int
  | 2 => .int
  | 3 => .int
  | _ => .int
theorem cs_n3 : ∀ a, a < 5 → ∀ b, b < 5 → a ≠ b → (cs_T3 a).2.1 ≠ (cs_T3 b).2.1 := by decide +kernel
theorem cs_p3 : ∀ k, k < 5 → parseFieldDescriptor (cs_T3 k).2.2.1 = some (cs_y3 k) := by decide +kernel
theorem cs_w3 : ∀ w ∈ u_ws cs_R3 cs_T3 5, w ∈ tt_g := tt_of [126, 128, 130, 132, 134] (by decide +kernel)
def cs_R4 : String := "CaneRounds$Field"
def cs_T4 : u_T := fun k => match k with
  | 0 => ("CaneRounds$Field", "number", "I", true)
  | 1 => ("CaneRounds$Field", "farm", "I", true)
  | 2 => ("CaneRounds$Field", "tons", "I", true)
  | 3 => ("CaneRounds$Field", "km", "I", true)
  | 4 => ("CaneRounds$Field", "top", "I", true)
  | 5 => ("CaneRounds$Field", "ripe", "I", true)
  | 6 => ("CaneRounds$Field", "fades", "I", true)
  | 7 => ("CaneRounds$Field", "state", "I", false)
  | 8 => ("CaneRounds$Field", "tonsCut", "I", false)
  | 9 => ("CaneRounds$Field", "gangs", "I", false)
  | 10 => ("CaneRounds$Field", "burnt", "Z", false)
  | 11 => ("CaneRounds$Field", "burntAt", "I", false)
  | 12 => ("CaneRounds$Field", "burntSweet", "I", false)
  | 13 => ("CaneRounds$Field", "load", "I", false)
  | _ => ("CaneRounds$Field", "next", "LCaneRounds$Field;", false)
def cs_y4 : Nat → FieldType := fun k => match k with
  | 0 => .int
  | 1 => .int
  | 2 => .int
  | 3 => .int
  | 4 => .int
  | 5 => .int
  | 6 => .int
  | 7 => .int
  | 8 => .int
  | 9 => .int
  | 10 => .boolean
  | 11 => .int
  | 12 => .int
  | 13 => .int
  | _ => .object "CaneRounds$Field"
theorem cs_n4 : ∀ a, a < 15 → ∀ b, b < 15 → a ≠ b → (cs_T4 a).2.1 ≠ (cs_T4 b).2.1 := by decide +kernel
theorem cs_p4 : ∀ k, k < 15 → parseFieldDescriptor (cs_T4 k).2.2.1 = some (cs_y4 k) := by decide +kernel
theorem cs_w4 : ∀ w ∈ u_ws cs_R4 cs_T4 15, w ∈ tt_g := tt_of [381, 383, 385, 387, 389, 391, 393, 395, 397, 399, 401, 403, 405, 407, 409] (by decide +kernel)
def cs_R5 : String := "CaneRounds$Formula"
def cs_T5 : u_T := fun k => match k with
  | 0 => ("CaneRounds$Formula", "tokens", "[I", true)
  | 1 => ("CaneRounds$Formula", "places", "[I", true)
  | 2 => ("CaneRounds$Formula", "count", "I", false)
  | 3 => ("CaneRounds$Formula", "at", "I", false)
  | 4 => ("CaneRounds$Formula", "fault", "I", false)
  | 5 => ("CaneRounds$Formula", "place", "I", false)
  | 6 => ("CaneRounds$Formula", "t", "I", false)
  | 7 => ("CaneRounds$Formula", "s", "I", false)
  | 8 => ("CaneRounds$Formula", "m", "I", false)
  | 9 => ("CaneRounds$Formula", "b", "I", false)
  | _ => ("CaneRounds$Formula", "h", "I", false)
def cs_y5 : Nat → FieldType := fun k => match k with
  | 0 => .array .int
  | 1 => .array .int
  | 2 => .int
  | 3 => .int
  | 4 => .int
  | 5 => .int
  | 6 => .int
  | 7 => .int
  | 8 => .int
  | 9 => .int
  | _ => .int
theorem cs_n5 : ∀ a, a < 11 → ∀ b, b < 11 → a ≠ b → (cs_T5 a).2.1 ≠ (cs_T5 b).2.1 := by decide +kernel
theorem cs_p5 : ∀ k, k < 11 → parseFieldDescriptor (cs_T5 k).2.2.1 = some (cs_y5 k) := by decide +kernel
theorem cs_w5 : ∀ w ∈ u_ws cs_R5 cs_T5 11, w ∈ tt_g := tt_of [244, 246, 248, 250, 252, 254, 256, 258, 260, 262, 264] (by decide +kernel)
def cs_R6 : String := "CaneRounds$Load"
def cs_T6 : u_T := fun k => match k with
  | 0 => ("CaneRounds$Load", "number", "I", true)
  | 1 => ("CaneRounds$Load", "field", "LCaneRounds$Field;", true)
  | 2 => ("CaneRounds$Load", "cutAt", "I", true)
  | 3 => ("CaneRounds$Load", "sweet", "I", true)
  | 4 => ("CaneRounds$Load", "dies", "I", true)
  | 5 => ("CaneRounds$Load", "atMill", "I", false)
  | 6 => ("CaneRounds$Load", "truckFreeAt", "I", false)
  | 7 => ("CaneRounds$Load", "crushed", "I", false)
  | 8 => ("CaneRounds$Load", "lost", "I", false)
  | 9 => ("CaneRounds$Load", "overAt", "I", false)
  | 10 => ("CaneRounds$Load", "pay", "I", false)
  | _ => ("CaneRounds$Load", "next", "LCaneRounds$Load;", false)
def cs_y6 : Nat → FieldType := fun k => match k with
  | 0 => .int
  | 1 => .object "CaneRounds$Field"
  | 2 => .int
  | 3 => .int
  | 4 => .int
  | 5 => .int
  | 6 => .int
  | 7 => .int
  | 8 => .int
  | 9 => .int
  | 10 => .int
  | _ => .object "CaneRounds$Load"
theorem cs_n6 : ∀ a, a < 12 → ∀ b, b < 12 → a ≠ b → (cs_T6 a).2.1 ≠ (cs_T6 b).2.1 := by decide +kernel
theorem cs_p6 : ∀ k, k < 12 → parseFieldDescriptor (cs_T6 k).2.2.1 = some (cs_y6 k) := by decide +kernel
theorem cs_w6 : ∀ w ∈ u_ws cs_R6 cs_T6 12, w ∈ tt_g := tt_of [568, 570, 572, 574, 576, 578, 580, 582, 584, 586, 588, 590] (by decide +kernel)
def cs_R7 : String := "CaneRounds$Span"
def cs_T7 : u_T := fun k => match k with
  | 0 => ("CaneRounds$Span", "stops", "Z", true)
  | 1 => ("CaneRounds$Span", "from", "I", true)
  | 2 => ("CaneRounds$Span", "to", "I", true)
  | _ => ("CaneRounds$Span", "earlier", "LCaneRounds$Span;", true)
def cs_y7 : Nat → FieldType := fun k => match k with
  | 0 => .boolean
  | 1 => .int
  | 2 => .int
  | _ => .object "CaneRounds$Span"
theorem cs_n7 : ∀ a, a < 4 → ∀ b, b < 4 → a ≠ b → (cs_T7 a).2.1 ≠ (cs_T7 b).2.1 := by decide +kernel
theorem cs_p7 : ∀ k, k < 4 → parseFieldDescriptor (cs_T7 k).2.2.1 = some (cs_y7 k) := by decide +kernel
theorem cs_w7 : ∀ w ∈ u_ws cs_R7 cs_T7 4, w ∈ tt_g := tt_of [434, 436, 438, 440] (by decide +kernel)
def cs_R8 : String := "CaneRounds$Tape"
def cs_T8 : u_T := fun k => match k with
  | 0 => ("CaneRounds$Tape", "bytes", "[B", true)
  | _ => ("CaneRounds$Tape", "length", "I", false)
def cs_y8 : Nat → FieldType := fun k => match k with
  | 0 => .array .byte
  | _ => .int
theorem cs_n8 : ∀ a, a < 2 → ∀ b, b < 2 → a ≠ b → (cs_T8 a).2.1 ≠ (cs_T8 b).2.1 := by decide +kernel
theorem cs_p8 : ∀ k, k < 2 → parseFieldDescriptor (cs_T8 k).2.2.1 = some (cs_y8 k) := by decide +kernel
theorem cs_w8 : ∀ w ∈ u_ws cs_R8 cs_T8 2, w ∈ tt_g := tt_of [219, 221] (by decide +kernel)
def cs_R9 : String := "CaneRounds$Weather"
def cs_T9 : u_T := fun k => match k with
  | 0 => ("CaneRounds$Weather", "latest", "LCaneRounds$Span;", false)
  | _ => ("CaneRounds$Weather", "count", "I", false)
def cs_y9 : Nat → FieldType := fun k => match k with
  | 0 => .object "CaneRounds$Span"
  | _ => .int
theorem cs_n9 : ∀ a, a < 2 → ∀ b, b < 2 → a ≠ b → (cs_T9 a).2.1 ≠ (cs_T9 b).2.1 := by decide +kernel
theorem cs_p9 : ∀ k, k < 2 → parseFieldDescriptor (cs_T9 k).2.2.1 = some (cs_y9 k) := by decide +kernel
theorem cs_w9 : ∀ w ∈ u_ws cs_R9 cs_T9 2, w ∈ tt_g := tt_of [147, 149] (by decide +kernel)
def cs_R10 : String := "CaneRounds"
def cs_T10 : u_T := fun k => match k with
  | 0 => ("CaneRounds", "gangs", "I", false)
  | 1 => ("CaneRounds", "rate", "I", false)
  | 2 => ("CaneRounds", "trucks", "I", false)
  | 3 => ("CaneRounds", "crush", "I", false)
  | 4 => ("CaneRounds", "clock", "I", false)
  | 5 => ("CaneRounds", "mean", "I", false)
  | 6 => ("CaneRounds", "firstField", "LCaneRounds$Field;", false)
  | 7 => ("CaneRounds", "lastField", "LCaneRounds$Field;", false)
  | 8 => ("CaneRounds", "firstLoad", "LCaneRounds$Load;", false)
  | 9 => ("CaneRounds", "lastLoad", "LCaneRounds$Load;", false)
  | 10 => ("CaneRounds", "farms", "LCaneRounds$Farms;", true)
  | 11 => ("CaneRounds", "weather", "LCaneRounds$Weather;", true)
  | 12 => ("CaneRounds", "bundles", "LCaneRounds$Bundles;", true)
  | 13 => ("CaneRounds", "chooser", "LCaneRounds$Chooser;", true)
  | 14 => ("CaneRounds", "tape", "LCaneRounds$Tape;", true)
  | 15 => ("CaneRounds", "formula", "LCaneRounds$Formula;", false)
  | 16 => ("CaneRounds", "spareFormula", "LCaneRounds$Formula;", false)
  | 17 => ("CaneRounds", "latestFault", "I", false)
  | _ => ("CaneRounds", "latestPlace", "I", false)
def cs_y10 : Nat → FieldType := fun k => match k with
  | 0 => .int
  | 1 => .int
  | 2 => .int
  | 3 => .int
  | 4 => .int
  | 5 => .int
  | 6 => .object "CaneRounds$Field"
  | 7 => .object "CaneRounds$Field"
  | 8 => .object "CaneRounds$Load"
  | 9 => .object "CaneRounds$Load"
  | 10 => .object "CaneRounds$Farms"
  | 11 => .object "CaneRounds$Weather"
  | 12 => .object "CaneRounds$Bundles"
  | 13 => .object "CaneRounds$Chooser"
  | 14 => .object "CaneRounds$Tape"
  | 15 => .object "CaneRounds$Formula"
  | 16 => .object "CaneRounds$Formula"
  | 17 => .int
  | _ => .int
theorem cs_n10 : ∀ a, a < 19 → ∀ b, b < 19 → a ≠ b → (cs_T10 a).2.1 ≠ (cs_T10 b).2.1 := by decide +kernel
theorem cs_p10 : ∀ k, k < 19 → parseFieldDescriptor (cs_T10 k).2.2.1 = some (cs_y10 k) := by decide +kernel
theorem cs_w10 : ∀ w ∈ u_ws cs_R10 cs_T10 19, w ∈ tt_g := tt_of [286, 288, 290, 292, 294, 296, 298, 300, 302, 304, 306, 308, 310, 312, 314, 316, 318, 320, 322] (by decide +kernel)
def cs_R11 : String := "CaneRoundsModel"
def cs_T11 : u_T := fun k => match k with
  | 0 => ("CaneRoundsModel", "clock", "I", false)
  | 1 => ("CaneRoundsModel", "farms", "I", false)
  | 2 => ("CaneRoundsModel", "fields", "I", false)
  | 3 => ("CaneRoundsModel", "loads", "I", false)
  | 4 => ("CaneRoundsModel", "gangs", "I", false)
  | 5 => ("CaneRoundsModel", "rate", "I", false)
  | 6 => ("CaneRoundsModel", "trucks", "I", false)
  | 7 => ("CaneRoundsModel", "crush", "I", false)
  | 8 => ("CaneRoundsModel", "paid", "[J", true)
  | 9 => ("CaneRoundsModel", "farmOf", "[I", true)
  | 10 => ("CaneRoundsModel", "tons", "[I", true)
  | 11 => ("CaneRoundsModel", "km", "[I", true)
  | 12 => ("CaneRoundsModel", "top", "[I", true)
  | 13 => ("CaneRoundsModel", "ripe", "[I", true)
  | 14 => ("CaneRoundsModel", "fades", "[I", true)
  | 15 => ("CaneRoundsModel", "state", "[I", true)
  | 16 => ("CaneRoundsModel", "done", "[I", true)
  | 17 => ("CaneRoundsModel", "at", "[I", true)
  | 18 => ("CaneRoundsModel", "burnt", "[I", true)
  | 19 => ("CaneRoundsModel", "burntSweet", "[I", true)
  | 20 => ("CaneRoundsModel", "loadOf", "[I", true)
  | 21 => ("CaneRoundsModel", "weathers", "I", false)
  | 22 => ("CaneRoundsModel", "stops", "[Z", true)
  | 23 => ("CaneRoundsModel", "from", "[I", true)
  | 24 => ("CaneRoundsModel", "to", "[I", true)
  | 25 => ("CaneRoundsModel", "loadField", "[I", true)
  | 26 => ("CaneRoundsModel", "cutAt", "[I", true)
  | 27 => ("CaneRoundsModel", "sweet", "[I", true)
  | 28 => ("CaneRoundsModel", "dies", "[I", true)
  | 29 => ("CaneRoundsModel", "atMill", "[I", true)
  | 30 => ("CaneRoundsModel", "crushed", "[I", true)
  | 31 => ("CaneRoundsModel", "lost", "[I", true)
  | 32 => ("CaneRoundsModel", "over", "[I", true)
  | 33 => ("CaneRoundsModel", "pay", "[I", true)
  | 34 => ("CaneRoundsModel", "truckFree", "[I", true)
  | 35 => ("CaneRoundsModel", "bundles", "[B", true)
  | 36 => ("CaneRoundsModel", "allCrushed", "I", false)
  | 37 => ("CaneRoundsModel", "allLost", "I", false)
  | 38 => ("CaneRoundsModel", "mean", "I", false)
  | 39 => ("CaneRoundsModel", "roundMany", "I", false)
  | 40 => ("CaneRoundsModel", "order", "[I", true)
  | 41 => ("CaneRoundsModel", "isThrough", "[Z", true)
  | 42 => ("CaneRoundsModel", "tape", "[I", true)
  | 43 => ("CaneRoundsModel", "taped", "I", false)
  | 44 => ("CaneRoundsModel", "textMany", "I", false)
  | 45 => ("CaneRoundsModel", "op", "[I", true)
  | 46 => ("CaneRoundsModel", "number", "[I", true)
  | 47 => ("CaneRoundsModel", "fault", "I", false)
  | 48 => ("CaneRoundsModel", "faultPlace", "I", false)
  | 49 => ("CaneRoundsModel", "read", "I", false)
  | 50 => ("CaneRoundsModel", "place", "I", false)
  | 51 => ("CaneRoundsModel", "token", "I", false)
  | 52 => ("CaneRoundsModel", "told", "I", false)
  | 53 => ("CaneRoundsModel", "written", "I", false)
  | 54 => ("CaneRoundsModel", "opens", "I", false)
  | 55 => ("CaneRoundsModel", "piled", "I", false)
  | 56 => ("CaneRoundsModel", "pile", "[I", true)
  | 57 => ("CaneRoundsModel", "isWhole", "Z", false)
  | 58 => ("CaneRoundsModel", "values", "[J", true)
  | 59 => ("CaneRoundsModel", "wouldAt", "[I", true)
  | 60 => ("CaneRoundsModel", "wouldDie", "[I", true)
  | 61 => ("CaneRoundsModel", "wouldBe", "[I", true)
  | 62 => ("CaneRoundsModel", "rest", "[I", true)
  | _ => ("CaneRoundsModel", "bestWorth", "I", false)
def cs_y11 : Nat → FieldType := fun k => match k with
  | 0 => .int
  | 1 => .int
  | 2 => .int
  | 3 => .int
  | 4 => .int
  | 5 => .int
  | 6 => .int
  | 7 => .int
  | 8 => .array .long
  | 9 => .array .int
  | 10 => .array .int
  | 11 => .array .int
  | 12 => .array .int
  | 13 => .array .int
  | 14 => .array .int
  | 15 => .array .int
  | 16 => .array .int
  | 17 => .array .int
  | 18 => .array .int
  | 19 => .array .int
  | 20 => .array .int
  | 21 => .int
  | 22 => .array .boolean
  | 23 => .array .int
  | 24 => .array .int
  | 25 => .array .int
  | 26 => .array .int
  | 27 => .array .int
  | 28 => .array .int
  | 29 => .array .int
  | 30 => .array .int
  | 31 => .array .int
  | 32 => .array .int
  | 33 => .array .int
  | 34 => .array .int
  | 35 => .array .byte
  | 36 => .int
  | 37 => .int
  | 38 => .int
  | 39 => .int
  | 40 => .array .int
  | 41 => .array .boolean
  | 42 => .array .int
  | 43 => .int
  | 44 => .int
  | 45 => .array .int
  | 46 => .array .int
  | 47 => .int
  | 48 => .int
  | 49 => .int
  | 50 => .int
  | 51 => .int
  | 52 => .int
  | 53 => .int
  | 54 => .int
  | 55 => .int
  | 56 => .array .int
  | 57 => .boolean
  | 58 => .array .long
  | 59 => .array .int
  | 60 => .array .int
  | 61 => .array .int
  | 62 => .array .int
  | _ => .int
theorem cs_n11 : ∀ a, a < 64 → ∀ b, b < 64 → a ≠ b → (cs_T11 a).2.1 ≠ (cs_T11 b).2.1 := by decide +kernel
theorem cs_p11 : ∀ k, k < 64 → parseFieldDescriptor (cs_T11 k).2.2.1 = some (cs_y11 k) := by decide +kernel
theorem cs_w11 : ∀ w ∈ u_ws cs_R11 cs_T11 64, w ∈ tt_g := tt_of [965, 967, 969, 971, 973, 975, 977, 979, 981, 983, 985, 987, 989, 991, 993, 995, 997, 999, 1001, 1003, 1005, 1007, 1009, 1011, 1013, 1015, 1017, 1019, 1021, 1023, 1025, 1027, 1029, 1031, 1033, 1035, 1037, 1039, 1041, 1043, 1045, 1047, 1049, 1051, 1053, 1055, 1057, 1059, 1061, 1063, 1065, 1067, 1069, 1071, 1073, 1075, 1077, 1079, 1081, 1083, 1085, 1087, 1089, 1091] (by decide +kernel)
abbrev cs_all : List vw_C := [(cs_R0, cs_T0, 3), (cs_R1, cs_T1, 2), (cs_R2, cs_T2, 11), (cs_R3, cs_T3, 5), (cs_R4, cs_T4, 15), (cs_R5, cs_T5, 11), (cs_R6, cs_T6, 12), (cs_R7, cs_T7, 4), (cs_R8, cs_T8, 2), (cs_R9, cs_T9, 2), (cs_R10, cs_T10, 19), (cs_R11, cs_T11, 64)]
end
section
-- ===== values, cells, worlds of the abstract machine =====
abbrev av_T : Type := Int ⊕ (Int ⊕ (Option Nat ⊕ Unit))
abbrev av_i (a : Int) : av_T := Sum.inl a
abbrev av_l (a : Int) : av_T := Sum.inr (Sum.inl a)
abbrev av_q (q : Option Nat) : av_T := Sum.inr (Sum.inr (Sum.inl q))
abbrev av_r (k : Nat) : av_T := Sum.inr (Sum.inr (Sum.inl (some k)))
abbrev av_n : av_T := Sum.inr (Sum.inr (Sum.inl none))
abbrev av_s : av_T := Sum.inr (Sum.inr (Sum.inr ()))
/-- launch; the script's cell, length, ints; the first new address; class numbers, slots; array classes -/
abbrev aw_T : Type := Launch × (Nat × (Nat × ((Nat → Int32) × (Nat × ((Nat → ClassId) × ((Nat → Nat → Nat) × (Nat → ClassId)))))))
def aw_l (w : aw_T) : Launch := w.1
def aw_b (w : aw_T) : Nat := w.2.1
def aw_L (w : aw_T) : Nat := w.2.2.1
def aw_x (w : aw_T) : Nat → Int32 := w.2.2.2.1
def aw_o (w : aw_T) : Nat := w.2.2.2.2.1
def aw_D (w : aw_T) : va_G := (w.2.2.2.2.2.1, w.2.2.2.2.2.2.1)
def aw_A (w : aw_T) : Nat → ClassId := w.2.2.2.2.2.2.2
def av_v (w : aw_T) : av_T → Value
  | .inl a => .int (Int32.ofInt a)
  | .inr (.inl a) => .long (Int64.ofInt a)
  | .inr (.inr (.inl (some k))) => .ref (aw_o w + k)
  | .inr (.inr (.inl none)) => .null
  | .inr (.inr (.inr _)) => .ref (aw_b w)
def av_c : av_T → Nat
  | .inr (.inl _) => 2
  | _ => 1
theorem av_cat (w : aw_T) (v : av_T) : (av_v w v).category = av_c v := by
  rcases v with a | a | (_ | k) | u <;> rfl
theorem av_c1 (v : av_T) : av_c v ≤ 2 := by
  rcases v with a | a | (_ | k) | u <;> simp [av_c]
theorem av_sum (w : aw_T) (r : List av_T) : ((r.map (av_v w)).map fun v => v.category).sum ≤ 2 * r.length := by
  induction r with
  | nil => simp
  | cons v r ih =>
    have := av_c1 v
    simp only [List.map_cons, List.sum_cons, List.length_cons, av_cat]
    omega
abbrev ac_T : Type := (Nat × (Nat × (Nat → Int))) ⊕ ((Nat × (Nat → Int)) ⊕ ((Nat × (Nat → Option Nat)) ⊕ (Nat × List av_T)))
abbrev ac_a (t n : Nat) (f : Nat → Int) : ac_T := Sum.inl (t, n, f)
abbrev ac_l (n : Nat) (f : Nat → Int) : ac_T := Sum.inr (Sum.inl (n, f))
abbrev ac_q (n : Nat) (g : Nat → Option Nat) : ac_T := Sum.inr (Sum.inr (Sum.inl (n, g)))
abbrev ac_o (ci : Nat) (fs : List av_T) : ac_T := Sum.inr (Sum.inr (Sum.inr (ci, fs)))
def ac_E (w : aw_T) : ac_T → va_E
  | .inl (t, n, f) => .inl (aw_A w t, n, .inl (fun j => Int32.ofInt (f j)))
  | .inr (.inl (n, f)) => .inl (aw_A w 3, n, .inr (.inl (fun j => Int64.ofInt (f j))))
  | .inr (.inr (.inl (n, g))) => .inl (aw_A w 4, n, .inr (.inr (.inr (.inr (fun j => (g j).map (fun k => aw_o w + k))))))
  | .inr (.inr (.inr (ci, fs))) => .inr (ci, fs.map (av_v w))
abbrev ah_T : Type := List ac_T
def ah_R (w : aw_T) (h : ah_T) (H : Heap) : Prop := H.size = aw_o w + h.length ∧ ∀ (k : Nat) (c : ac_T), h[k]? = some c → va_at (aw_D w) cs_all (aw_o w + k, ac_E w c) H
theorem ah_set {w : aw_T} {h : ah_T} {H H1 : Heap} {k : Nat} {c c' : ac_T} (hR : ah_R w h H) (hk : h[k]? = some c) (hc : va_at (aw_D w) cs_all (aw_o w + k, ac_E w c') H1) (hz : H1.size = H.size) (ho : ∀ q : Nat, q ≠ aw_o w + k → H1[q]? = H[q]?) : ah_R w (h.set k c') H1 := by
  refine ⟨by rw [hz, hR.1, List.length_set], fun j x hj => ?_⟩
  by_cases e : j = k
  · subst e
    have hl : j < h.length := (List.getElem?_eq_some_iff.mp hk).1
    rw [List.getElem?_set_self hl] at hj
    cases hj
    exact hc
  · rw [List.getElem?_set_ne (fun q => e q.symm)] at hj
    exact (hR.2 j x hj).kept (ho _ (by show aw_o w + j ≠ aw_o w + k; omega))
theorem ah_push {w : aw_T} {h : ah_T} {H H1 : Heap} {c : ac_T} (hR : ah_R w h H) (hc : va_at (aw_D w) cs_all (aw_o w + h.length, ac_E w c) H1) (hz : H1.size = H.size + 1) (ho : ∀ q : Nat, q < H.size → H1[q]? = H[q]?) : ah_R w (h ++ [c]) H1 := by
  refine ⟨by rw [hz, hR.1, List.length_append]; simp; omega, fun j x hj => ?_⟩
  by_cases e : j < h.length
  · rw [List.getElem?_append_left e] at hj
    exact (hR.2 j x hj).kept (ho _ (by show aw_o w + j < H.size; rw [hR.1]; omega))
  · have hz : j < (h ++ [c]).length := (List.getElem?_eq_some_iff.mp hj).1
    rw [List.length_append] at hz
    simp at hz
    have e2 : j = h.length := by omega
    subst e2
    rw [List.getElem?_append_right (Nat.le_refl _)] at hj
    simp at hj
    subst hj
    exact hc
-- ===== locals =====
abbrev al_T : Type := List (Option av_T)
def al_lv (w : aw_T) (L : al_T) : List (Nat × Value) := (List.range L.length).filterMap (fun i => match L[i]? with
  | some (some v) => some (i, av_v w v)
  | _ => none)
theorem al_mem {w : aw_T} {L : al_T} {i : Nat} {x : Value} : (i, x) ∈ al_lv w L ↔ ∃ v, L[i]? = some (some v) ∧ x = av_v w v := by
  unfold al_lv
  rw [List.mem_filterMap]
  constructor
  · rintro ⟨j, -, hj⟩
    split at hj
    · rename_i v hv
      cases hj
      exact ⟨v, hv, rfl⟩
    · cases hj
  · rintro ⟨v, hv, rfl⟩
    refine ⟨i, List.mem_range.mpr (List.getElem?_eq_some_iff.mp hv).1, ?_⟩
    rw [hv]
def al_R (w : aw_T) (ls : Array Slot) (nL : Nat) (L : al_T) : Prop := L.length = nL ∧ lv_has ls nL (al_lv w L)
theorem al_get {w : aw_T} {ls : Array Slot} {nL : Nat} {L : al_T} (h : al_R w ls nL L) {i : Nat} {v : av_T} (hi : L[i]? = some (some v)) : ls[i]? = some (.val (av_v w v)) := h.2.2.2 (i, av_v w v) (al_mem.mpr ⟨v, hi, rfl⟩)
def al_ok (L : al_T) : Nat → Bool
  | 0 => true
  | j + 1 => match L[j]? with
    | some (some (.inr (.inl _))) => false
    | _ => true
theorem al_ok_spec {L : al_T} {i j : Nat} (h : al_ok L i = true) (hj : j + 1 = i) {v : av_T} (hv : L[j]? = some (some v)) : av_c v = 1 := by
  subst hj
  rcases v with a | a | (_ | k) | u
  · rfl
  · simp [al_ok, hv] at h
  · rfl
  · rfl
  · rfl
theorem al_put1 {w : aw_T} {ls : Array Slot} {nL i : Nat} {L L' : al_T} {v : av_T} (hn : L.length = nL) (ho : al_ok L i = true) (hl : L.set i (some v) = L') (h : lv_has ls nL ((i, av_v w v) :: (al_lv w L).filter (fun q => !(q.1 == i) && !(q.1 + 1 == i && q.2.category == 2)))) : al_R w ls nL L' := by
  subst hl
  refine ⟨by rw [List.length_set]; exact hn, h.1, h.2.1, fun q hq => h.2.2 q ?_⟩
  obtain ⟨j, x⟩ := q
  obtain ⟨u, hu, rfl⟩ := al_mem.mp hq
  by_cases e : j = i
  · subst e
    have hl : j < L.length := by
      have := (List.getElem?_eq_some_iff.mp hu).1
      rw [List.length_set] at this
      exact this
    rw [List.getElem?_set_self hl] at hu
    cases hu
    exact List.mem_cons_self
  · rw [List.getElem?_set_ne (fun q => e q.symm)] at hu
    refine List.mem_cons_of_mem _ (List.mem_filter.mpr ⟨al_mem.mpr ⟨u, hu, rfl⟩, ?_⟩)
    have : ¬ (j + 1 = i ∧ (av_v w u).category = 2) := by
      rintro ⟨e1, e2⟩
      rw [av_cat, al_ok_spec ho e1 hu] at e2
      cases e2
    simp only [Bool.and_eq_true, Bool.not_eq_true', beq_eq_false_iff_ne, ne_eq, e, not_false_eq_true, true_and, Bool.and_eq_false_iff]
    by_cases e1 : j + 1 = i
    · exact Or.inr (fun e2 => this ⟨e1, e2⟩)
    · exact Or.inl e1
theorem al_put2 {w : aw_T} {ls : Array Slot} {nL i : Nat} {L L' : al_T} {v : av_T} (hn : L.length = nL) (ho : al_ok L i = true) (hl : (L.set i (some v)).set (i + 1) none = L') (h : lv_has ls nL ((i, av_v w v) :: (al_lv w L).filter (fun q => !(q.1 == i) && (!(q.1 == i + 1) && !(q.1 + 1 == i && q.2.category == 2))))) : al_R w ls nL L' := by
  subst hl
  refine ⟨by rw [List.length_set, List.length_set]; exact hn, h.1, h.2.1, fun q hq => h.2.2 q ?_⟩
  obtain ⟨j, x⟩ := q
  obtain ⟨u, hu, rfl⟩ := al_mem.mp hq
  by_cases e0 : j = i + 1
  · subst e0
    have hl : i + 1 < (L.set i (some v)).length := by
      have := (List.getElem?_eq_some_iff.mp hu).1
      rw [List.length_set] at this
      exact this
    rw [List.getElem?_set_self hl] at hu
    cases hu
  · rw [List.getElem?_set_ne (fun q => e0 q.symm)] at hu
    by_cases e : j = i
    · subst e
      have hl : j < L.length := by
        have := (List.getElem?_eq_some_iff.mp hu).1
        rw [List.length_set] at this
        exact this
      rw [List.getElem?_set_self hl] at hu
      cases hu
      exact List.mem_cons_self
    · rw [List.getElem?_set_ne (fun q => e q.symm)] at hu
      refine List.mem_cons_of_mem _ (List.mem_filter.mpr ⟨al_mem.mpr ⟨u, hu, rfl⟩, ?_⟩)
      have : ¬ (j + 1 = i ∧ (av_v w u).category = 2) := by
        rintro ⟨e1, e2⟩
        rw [av_cat, al_ok_spec ho e1 hu] at e2
        cases e2
      simp only [Bool.and_eq_true, Bool.not_eq_true', beq_eq_false_iff_ne, ne_eq, e, e0, not_false_eq_true, true_and, Bool.and_eq_false_iff]
      by_cases e1 : j + 1 = i
      · exact Or.inr (fun e2 => this ⟨e1, e2⟩)
      · exact Or.inl e1
def al_sl (As : List av_T) : al_T := As.flatMap (fun v => if av_c v = 2 then [some v, none] else [some v])
def al_en (As : List av_T) (n : Nat) : al_T := al_sl As ++ List.replicate (n - (al_sl As).length) none
theorem al_sl_len (w : aw_T) (As : List av_T) : (lg_sl (As.map (av_v w))).length = (al_sl As).length := by
  induction As with
  | nil => rfl
  | cons v As ih =>
    simp only [lg_sl, al_sl, List.map_cons, List.flatMap_cons, List.length_append] at ih ⊢
    rw [ih, av_cat]
    by_cases e : av_c v = 2 <;> simp [e]
theorem al_arg (w : aw_T) : ∀ (As : List av_T) (o i : Nat) (v : av_T), (al_sl As)[i]? = some (some v) → (o + i, av_v w v) ∈ lv_args o (As.map (av_v w)) := by
  intro As
  induction As with
  | nil => intro o i v h; simp [al_sl] at h
  | cons u As ih =>
    intro o i v h
    have e : al_sl (u :: As) = (if av_c u = 2 then [some u, none] else [some u]) ++ al_sl As := by simp [al_sl]
    rw [e] at h
    simp only [List.map_cons, lv_args, av_cat]
    by_cases c2 : av_c u = 2
    · rw [if_pos c2] at h ⊢
      match i, h with
      | 0, h => simp at h; subst h; exact List.mem_cons_self
      | 1, h => simp at h
      | i + 2, h =>
        have h2 : (al_sl As)[i]? = some (some v) := by simpa using h
        have h3 := ih (o + 2) i v h2
        rw [show o + (i + 2) = o + 2 + i by omega]
        exact List.mem_cons_of_mem _ h3
    · rw [if_neg c2] at h ⊢
      match i, h with
      | 0, h => simp at h; subst h; exact List.mem_cons_self
      | i + 1, h =>
        have h2 : (al_sl As)[i]? = some (some v) := by simpa using h
        have h3 := ih (o + 1) i v h2
        rw [show o + (i + 1) = o + 1 + i by omega]
        exact List.mem_cons_of_mem _ h3
theorem al_entry (w : aw_T) (As : List av_T) {n : Nat} {L : al_T} (hn : (al_sl As).length ≤ n) (hL : al_en As n = L) : al_R w ((lg_sl (As.map (av_v w)) ++ List.replicate (n - (lg_sl (As.map (av_v w))).length) Slot.unset).toArray) n L := by
  subst hL
  have h := lv_entry (As.map (av_v w)) (n := n) (by rw [al_sl_len]; exact hn)
  refine ⟨by simp [al_en]; omega, h.1, h.2.1, fun q hq => h.2.2 q ?_⟩
  obtain ⟨j, x⟩ := q
  obtain ⟨u, hu, rfl⟩ := al_mem.mp hq
  have hj : (al_sl As)[j]? = some (some u) := by
    by_cases e : j < (al_sl As).length
    · rw [al_en, List.getElem?_append_left e] at hu
      exact hu
    · rw [al_en, List.getElem?_append_right (by omega)] at hu
      have := List.mem_of_getElem? hu
      rw [List.mem_replicate] at this
      cases this.2
  have := al_arg w As 0 j u hj
  simpa using this
-- ===== methods, the judgement =====
abbrev am_T : Type := MethodName × (ByteArray × (Nat × Option FieldType))
def ad_D (M : am_T) (pc : Nat) (i : Instr) (len n : Nat) : Prop := decode M.2.1 pc = .ok (i, len) ∧ n = pc + len
def aw_tys (w : aw_T) : List (ClassId × FieldType) := [(aw_A w 0, .int), (aw_A w 1, .byte), (aw_A w 2, .boolean), (aw_A w 3, .long), (aw_A w 4, .array .int)]
def aw_K (w : aw_T) (U : State) : Prop := va_K (aw_D w) cs_all (aw_tys w) U ∧ ∀ x ∈ tt_n, va_Nw x U
def aw_X (w : aw_T) (U : State) (H : Heap) : Prop := va_X (aw_b w) (aw_L w) (aw_x w) U H ∧ aw_b w < aw_o w
def aw_N (w : aw_T) : Nat → Prop := fun q => aw_o w ≤ q
theorem tt_isN_of {x : Cond} (h : x ∈ tt_n) : tt_isN x = true := (List.mem_filter.mp h).2
theorem tt_tab {x : Cond} (h : tt_isN x = true) : x.onTables = true := by
  cases x <;> first | rfl | (simp [tt_isN] at h)
theorem tt_warm {x : Cond} (h : tt_isN x = true) {s U : State} (hW : s.WarmedH U.vm) (hZ : va_Nw x s) : va_Nw x U := by
  cases x <;> first | exact va_Nw.warmF hW hZ | exact va_Nw.warmM hW hZ | (simp [tt_isN] at h)
theorem aw_K.warm {w : aw_T} {s U : State} (h : aw_K w s) (hW : s.WarmedH U.vm) : aw_K w U := ⟨va_K.moved hW.alike h.1, fun x hx => tt_warm (tt_isN_of hx) hW (h.2 x hx)⟩
theorem aw_K.same {w : aw_T} {s U : State} (h : aw_K w s) (hvm : s.vm = U.vm) : aw_K w U := ⟨va_K.moved (by rw [hvm]; exact Vm.Alike.refl _) h.1, fun x hx => (h.2 x hx).same (tt_tab (tt_isN_of hx)) hvm⟩
theorem aw_X.to {w : aw_T} {u U : State} {H : Heap} (h : aw_X w u H) (hvm : u.vm.Alike U.vm) : aw_X w U H := ⟨va_X.moved hvm h.1, h.2⟩
def aw_C (w : aw_T) (M : am_T) (d : Nat) (p : Program) (R : Room) (s : State) (m : MethodId) (args : Array Value) (meth : Method) (c : Code) : Prop :=
  p.tables.exec = Jvm.exec ∧ c.code = M.2.1 ∧ meth.sig.returnType = M.2.2.2 ∧ c.maxLocals = M.2.2.1 ∧ s.vm.findClass M.1.cls = some m.cls ∧ (∀ x ∈ tt_g, x.before args s = true) ∧ aw_K w s ∧ meth.locks = false ∧ meth.name = M.1.name ∧ d ≤ R.frames ∧ 60 * d + 20 ≤ R.locals ∧ aw_X w s s.heap ∧ aw_o w ≤ s.heap.size
def am_ret (M : am_T) (pc : Nat) (r : Option av_T) : Prop :=
  (∃ a : Int, r = some (av_i a) ∧ decode M.2.1 pc = .ok (.ireturn, 1) ∧ (M.2.2.2 = some .int ∨ (M.2.2.2 = some .boolean ∧ (a = 0 ∨ a = 1)))) ∨
  (∃ a : Int, r = some (av_l a) ∧ decode M.2.1 pc = .ok (.lreturn, 1) ∧ M.2.2.2 = some .long) ∨
  (∃ q : Option Nat, r = some (av_q q) ∧ decode M.2.1 pc = .ok (.areturn, 1) ∧ ∃ n, M.2.2.2 = some (.object n)) ∨
  (r = none ∧ decode M.2.1 pc = .ok (.return_, 1) ∧ M.2.2.2 = none)
abbrev ap_T : Type := Option av_T → ah_T → Prop
def aw_E (w : aw_T) (M : am_T) (P : ap_T) (p : Program) (e : Env) (R : Room) (s : State) (m : MethodId) (args : Array Value) (below : List Frame) (meth : Method) (c : Code) (Q : State → Prop) : Prop :=
  ∀ (H : Heap) (locs : List Loc) (cells slots : Nat) (ls : Array Slot) (pc : Nat) (r : Option av_T) (h : ah_T), ah_R w h H → va_S (aw_N w) s.heap H locs → P r h → cells ≤ R.cells → slots ≤ R.slots → am_ret M pc r →
    W p (aw_l w) e R s m args below meth c H locs cells slots Q (F0 m pc ls (r.toList.map (av_v w)))
/-- from pc on, with these locals, this stack and this heap, the method returns with P; it makes at most kc cells of ks slots more -/
def aw_W (w : aw_T) (M : am_T) (d : Nat) (P : ap_T) (pc : Nat) (L : al_T) (st : List av_T) (h : ah_T) (kc ks : Nat) : Prop :=
  ∀ (p : Program) (e : Env) (R : Room) (s : State) (m : MethodId) (args : Array Value) (below : List Frame) (meth : Method) (c : Code) (Q : State → Prop), aw_C w M d p R s m args meth c → aw_E w M P p e R s m args below meth c Q →
    ∀ (H : Heap) (locs : List Loc) (cells slots : Nat) (ls : Array Slot), ah_R w h H → va_S (aw_N w) s.heap H locs → al_R w ls M.2.2.1 L → cells + kc ≤ R.cells → slots + ks ≤ R.slots →
      W p (aw_l w) e R s m args below meth c H locs cells slots Q (F0 m pc ls (st.map (av_v w)))
def am_rm (d mc ms : Nat) : Room := { frames := d, cells := mc, slots := ms, locals := 60 * d + 20 }
def am_Pc (w : aw_T) (As : List av_T) (h : ah_T) : Array Value → State → Prop := fun v U => v = (As.map (av_v w)).toArray ∧ aw_K w U ∧ ah_R w h U.heap ∧ aw_X w U U.heap
def am_Qc (w : aw_T) (P : ap_T) : Array Value → State → Outcome → State → Prop := fun _ st oc t => (∃ (r : Option av_T) (h : ah_T), oc = .returned (r.map (av_v w)) ∧ P r h ∧ ah_R w h t.heap) ∧ va_F (aw_N w) st t
/-- the method's contract at these arguments and this heap -/
def am_M (w : aw_T) (M : am_T) (d : Nat) (As : List av_T) (h : ah_T) (mc ms : Nat) (P : ap_T) : Prop :=
  Met (aw_l w) M.1 (Cond.code M.1 M.2.1 M.2.2.1 M.2.2.2 :: tt_g) (am_rm d mc ms) (am_Pc w As h) (am_Qc w P) mc ms (aw_N w)
theorem aw_ret {w : aw_T} {M : am_T} {P : ap_T} {p : Program} {e : Env} {R : Room} {s : State} {m : MethodId} {args : Array Value} {below : List Frame} {meth : Method} {c : Code} {d : Nat} (hC : aw_C w M d p R s m args meth c) : aw_E w M P p e R s m args below meth c (MQ below (am_Qc w P) args s R.cells R.slots (aw_N w)) := by
  intro H locs cells slots ls pc r h hH hS hP hc hs hr
  obtain ⟨hx, hb, hrt, hml, hown, hts, hK, hlk, -⟩ := hC
  refine W.widen hc hs ?_
  have hq : ∀ t : State, t.heap = H → s.WarmedH t.vm → am_Qc w P args s (.returned (r.map (av_v w))) t := fun t ht _ => ⟨⟨r, h, rfl, hP, by rw [ht]; exact hH⟩, hS.F ht⟩
  have hf : ∀ q ∈ locs, aw_N w q.base := hS.2.2
  rcases hr with ⟨a, rfl, hd, hr | ⟨hr, ha⟩⟩ | ⟨a, rfl, hd, hr⟩ | ⟨q, rfl, hd, n, hr⟩ | ⟨rfl, hd, hr⟩
  · exact W.iret hx hb (hrt.trans hr) hq hf hd
  · refine W.zret hx hb (hrt.trans hr) ?_ hq hf hd
    rcases ha with rfl | rfl <;> rfl
  · exact W.lret hx hb (hrt.trans hr) hq hf hd
  · rcases q with _ | k
    · exact W.aret hx hb (hrt.trans hr) (Or.inl ⟨n, rfl⟩) (Or.inl rfl) hq hf hd
    · exact W.aret hx hb (hrt.trans hr) (Or.inl ⟨n, rfl⟩) (Or.inr ⟨_, rfl⟩) hq hf hd
  · exact W.vret hx hb (hrt.trans hr) hq hf hd
theorem am_intro {w : aw_T} {M : am_T} {d : Nat} {As : List av_T} {h : ah_T} {mc ms : Nat} {P : ap_T} (L : al_T) (hy : plainName M.1.cls = true) (hn : (al_sl As).length ≤ M.2.2.1) (hL : al_en As M.2.2.1 = L) (k : aw_W w M d P 0 L [] h mc ms) : am_M w M d As h mc ms P := by
  refine Met.ofW (cc := M.2.1) (maxL := M.2.2.1) (ret := M.2.2.2) hy rfl ?_
  intro p e s m args below meth c s₁ B hml hv
  obtain ⟨rfl, hK, hH, hX⟩ := hv
  have hts := atoms_spec (ws := Cond.code M.1 M.2.1 M.2.2.1 M.2.2.2 :: tt_g) B.pre
  have hC : aw_C w M d p (am_rm d mc ms) s m (As.map (av_v w)).toArray meth c := ⟨B.exec, B.bytes, B.returns, hml, findClass_of_methodNamed B.named, fun x hx => hts x (List.mem_cons_of_mem _ hx), hK, B.notSynchronized, (name_of_methodNamed B.named B.method).1, Nat.le_refl _, Nat.le_refl _, hX, by rw [hH.1]; omega⟩
  rw [lg_entry_eq]
  exact k p e (am_rm d mc ms) s m _ below meth c _ hC (aw_ret hC) s.heap [] 0 0 _ hH va_S.rf (al_entry w As hn hL) (by show 0 + mc ≤ mc; omega) (by show 0 + ms ≤ ms; omega)
end
section
theorem ai_t {a : Int} (h : -2147483648 ≤ a ∧ a < 2147483648) : (Int32.ofInt a).toInt = a := Int32.toInt_ofInt_of_le (by omega) (by omega)
theorem ai_lt {a b : Int} (ha : -2147483648 ≤ a ∧ a < 2147483648) (hb : -2147483648 ≤ b ∧ b < 2147483648) : Int32.ofInt a < Int32.ofInt b ↔ a < b := by rw [Int32.lt_iff_toInt_lt, ai_t ha, ai_t hb]
theorem ai_le {a b : Int} (ha : -2147483648 ≤ a ∧ a < 2147483648) (hb : -2147483648 ≤ b ∧ b < 2147483648) : Int32.ofInt a ≤ Int32.ofInt b ↔ a ≤ b := by rw [Int32.le_iff_toInt_le, ai_t ha, ai_t hb]
theorem ai_eq {a b : Int} (ha : -2147483648 ≤ a ∧ a < 2147483648) (hb : -2147483648 ≤ b ∧ b < 2147483648) : Int32.ofInt a = Int32.ofInt b ↔ a = b := by rw [← Int32.toInt_inj, ai_t ha, ai_t hb]
theorem ai_0 : Int32.ofInt 0 = 0 := rfl
theorem ai_div {a b : Int} (ha : -2147483648 ≤ a ∧ a < 2147483648) (hb : -2147483648 ≤ b ∧ b < 2147483648) : Int32.ofInt (a.tdiv b) = Int32.ofInt a / Int32.ofInt b := by
  rw [Int32.ofInt_eq_iff_bmod_eq_toInt, Int32.toInt_div, ai_t ha, ai_t hb]
theorem ai_ne0 {a : Int} (ha : -2147483648 ≤ a ∧ a < 2147483648) (h : a ≠ 0) : ¬ Int32.ofInt a = 0 := by
  rw [← ai_0, ai_eq ha (by omega)]
  exact h
theorem ai_rem {a b : Int} (ha : -2147483648 ≤ a ∧ a < 2147483648) (hb : -2147483648 ≤ b ∧ b < 2147483648) : Int32.ofInt (a.tmod b) = Int32.ofInt a - Int32.ofInt a / Int32.ofInt b * Int32.ofInt b := by
  rw [Int.tmod_def, Int32.ofInt_sub, Int32.ofInt_mul, ai_div ha hb, Int32.mul_comm]
theorem al_t {a : Int} (h : -9223372036854775808 ≤ a ∧ a < 9223372036854775808) : (Int64.ofInt a).toInt = a := Int64.toInt_ofInt_of_le (by omega) (by omega)
theorem al_div {a b : Int} (ha : -9223372036854775808 ≤ a ∧ a < 9223372036854775808) (hb : -9223372036854775808 ≤ b ∧ b < 9223372036854775808) : Int64.ofInt (a.tdiv b) = Int64.ofInt a / Int64.ofInt b := by
  rw [← Int64.ofInt_toInt (Int64.ofInt a / Int64.ofInt b), Int64.toInt_div, al_t ha, al_t hb]
  apply Int64.toInt_inj.mp
  rw [Int64.toInt_ofInt, Int64.toInt_ofInt]
  simp [Int64.size, Int.bmod_bmod]
theorem al_ne0 {a : Int} (ha : -9223372036854775808 ≤ a ∧ a < 9223372036854775808) (h : a ≠ 0) : ¬ Int64.ofInt a = 0 := by
  intro q
  have := congrArg Int64.toInt q
  rw [al_t ha] at this
  exact h this
theorem al_lt {a b : Int} (ha : -9223372036854775808 ≤ a ∧ a < 9223372036854775808) (hb : -9223372036854775808 ≤ b ∧ b < 9223372036854775808) : Int64.ofInt a < Int64.ofInt b ↔ a < b := by rw [Int64.lt_iff_toInt_lt, al_t ha, al_t hb]
theorem al_eq {a b : Int} (ha : -9223372036854775808 ≤ a ∧ a < 9223372036854775808) (hb : -9223372036854775808 ≤ b ∧ b < 9223372036854775808) : Int64.ofInt a = Int64.ofInt b ↔ a = b := by rw [← Int64.toInt_inj, al_t ha, al_t hb]
def ai_cmp (a b : Int) : Int := if b < a then 1 else if a = b then 0 else -1
theorem al_cmp {a b : Int} (ha : -9223372036854775808 ≤ a ∧ a < 9223372036854775808) (hb : -9223372036854775808 ≤ b ∧ b < 9223372036854775808) : lg_cmp (Int64.ofInt a) (Int64.ofInt b) = Int32.ofInt (ai_cmp a b) := by
  unfold lg_cmp ai_cmp
  simp only [al_lt hb ha, al_eq ha hb]
  by_cases h1 : b < a
  · simp [h1]
  · by_cases h2 : a = b
    · simp [h1, h2]
    · simp [h1, h2]
theorem ai_in {a : Int} {n : Nat} (h : 0 ≤ a ∧ a < n) (hn : n ≤ 2147483648) : vp_in (Int32.ofInt a) n ∧ (Int32.ofInt a).toNatClampNeg = a.toNat := by
  have h1 : (Int32.ofInt a).toNatClampNeg = a.toNat := Int32.toNatClampNeg_ofInt_of_le (by omega) (by omega)
  refine ⟨?_, h1⟩
  unfold vp_in
  rw [h1, ← ai_0, ai_lt (by omega) (by omega)]
  omega

theorem ag_iconst {w : aw_T} {M : am_T} {d : Nat} {P : ap_T} {pc n : Nat} {L : al_T} {st : List av_T} {h : ah_T} {kc ks : Nat} {a : Int} (hd : ad_D M pc (.iconst a) 1 n) (k : aw_W w M d P n L (av_i a :: st) h kc ks) : aw_W w M d P pc L (st) h kc ks := by
  intro p e R s m args below meth c Q hC hQ H locs cells slots ls hH hS hL hk1 hk2
  obtain ⟨hd, rfl⟩ := hd
  exact lv_iconst hC.1 hC.2.1 hd rfl (k p e R s m args below meth c Q hC hQ H locs cells slots ls hH hS hL hk1 hk2)
theorem ag_bipush {w : aw_T} {M : am_T} {d : Nat} {P : ap_T} {pc n : Nat} {L : al_T} {st : List av_T} {h : ah_T} {kc ks : Nat} {a : Int} (hv : (Int8.ofInt a).toInt32 = Int32.ofInt a) (hd : ad_D M pc (.bipush a) 2 n) (k : aw_W w M d P n L (av_i a :: st) h kc ks) : aw_W w M d P pc L (st) h kc ks := by
  intro p e R s m args below meth c Q hC hQ H locs cells slots ls hH hS hL hk1 hk2
  obtain ⟨hd, rfl⟩ := hd
  exact lv_bipush hC.1 hC.2.1 hd hv (k p e R s m args below meth c Q hC hQ H locs cells slots ls hH hS hL hk1 hk2)
theorem ag_sipush {w : aw_T} {M : am_T} {d : Nat} {P : ap_T} {pc n : Nat} {L : al_T} {st : List av_T} {h : ah_T} {kc ks : Nat} {a : Int} (hv : (Int16.ofInt a).toInt32 = Int32.ofInt a) (hd : ad_D M pc (.sipush a) 3 n) (k : aw_W w M d P n L (av_i a :: st) h kc ks) : aw_W w M d P pc L (st) h kc ks := by
  intro p e R s m args below meth c Q hC hQ H locs cells slots ls hH hS hL hk1 hk2
  obtain ⟨hd, rfl⟩ := hd
  exact lv_sipush hC.1 hC.2.1 hd hv (k p e R s m args below meth c Q hC hQ H locs cells slots ls hH hS hL hk1 hk2)
theorem ag_lconst {w : aw_T} {M : am_T} {d : Nat} {P : ap_T} {pc n : Nat} {L : al_T} {st : List av_T} {h : ah_T} {kc ks : Nat} {j : Fin 2} {a : Int} (hv : Int64.ofNat (j : Nat) = Int64.ofInt a) (hd : ad_D M pc (.lconst j) 1 n) (k : aw_W w M d P n L (av_l a :: st) h kc ks) : aw_W w M d P pc L (st) h kc ks := by
  intro p e R s m args below meth c Q hC hQ H locs cells slots ls hH hS hL hk1 hk2
  obtain ⟨hd, rfl⟩ := hd
  exact lv_lconst hC.1 hC.2.1 hd hv (k p e R s m args below meth c Q hC hQ H locs cells slots ls hH hS hL hk1 hk2)
theorem ag_null {w : aw_T} {M : am_T} {d : Nat} {P : ap_T} {pc n : Nat} {L : al_T} {st : List av_T} {h : ah_T} {kc ks : Nat}  (hd : ad_D M pc .aconst_null 1 n) (k : aw_W w M d P n L (av_n :: st) h kc ks) : aw_W w M d P pc L (st) h kc ks := by
  intro p e R s m args below meth c Q hC hQ H locs cells slots ls hH hS hL hk1 hk2
  obtain ⟨hd, rfl⟩ := hd
  exact lv_null hC.1 hC.2.1 hd (k p e R s m args below meth c Q hC hQ H locs cells slots ls hH hS hL hk1 hk2)
theorem ag_ldc {w : aw_T} {M : am_T} {d : Nat} {P : ap_T} {pc n : Nat} {L : al_T} {st : List av_T} {h : ah_T} {kc ks : Nat} {idx : Nat} {v : Int32} {a : Int} (hw : Cond.constant M.1.cls idx v ∈ tt_g) (hv : v = Int32.ofInt a) (hd : ad_D M pc (.ldc idx) 2 n) (k : aw_W w M d P n L (av_i a :: st) h kc ks) : aw_W w M d P pc L (st) h kc ks := by
  intro p e R s m args below meth c Q hC hQ H locs cells slots ls hH hS hL hk1 hk2
  obtain ⟨hd, rfl⟩ := hd
  subst hv
  exact lv_ldc hC.1 hC.2.1 hC.2.2.2.2.1 (hC.2.2.2.2.2.1 _ hw) hd (k p e R s m args below meth c Q hC hQ H locs cells slots ls hH hS hL hk1 hk2)
theorem ag_ldcw {w : aw_T} {M : am_T} {d : Nat} {P : ap_T} {pc n : Nat} {L : al_T} {st : List av_T} {h : ah_T} {kc ks : Nat} {idx : Nat} {v : Int32} {a : Int} (hw : Cond.constant M.1.cls idx v ∈ tt_g) (hv : v = Int32.ofInt a) (hd : ad_D M pc (.ldc_w idx) 3 n) (k : aw_W w M d P n L (av_i a :: st) h kc ks) : aw_W w M d P pc L (st) h kc ks := by
  intro p e R s m args below meth c Q hC hQ H locs cells slots ls hH hS hL hk1 hk2
  obtain ⟨hd, rfl⟩ := hd
  subst hv
  exact lv_ldcw hC.1 hC.2.1 hC.2.2.2.2.1 (hC.2.2.2.2.2.1 _ hw) hd (k p e R s m args below meth c Q hC hQ H locs cells slots ls hH hS hL hk1 hk2)
theorem ag_ldc2 {w : aw_T} {M : am_T} {d : Nat} {P : ap_T} {pc n : Nat} {L : al_T} {st : List av_T} {h : ah_T} {kc ks : Nat} {idx : Nat} {v : Int64} {a : Int} (hw : Cond.constantLong M.1.cls idx v ∈ tt_g) (hv : v = Int64.ofInt a) (hd : ad_D M pc (.ldc2_w idx) 3 n) (k : aw_W w M d P n L (av_l a :: st) h kc ks) : aw_W w M d P pc L (st) h kc ks := by
  intro p e R s m args below meth c Q hC hQ H locs cells slots ls hH hS hL hk1 hk2
  obtain ⟨hd, rfl⟩ := hd
  subst hv
  exact lv_ldc2 hC.1 hC.2.1 hC.2.2.2.2.1 (hC.2.2.2.2.2.1 _ hw) hd (k p e R s m args below meth c Q hC hQ H locs cells slots ls hH hS hL hk1 hk2)
theorem ag_iload_n {w : aw_T} {M : am_T} {d : Nat} {P : ap_T} {pc n : Nat} {L : al_T} {st : List av_T} {h : ah_T} {kc ks : Nat} {j : Fin 4} {a : Int} (hl : L[(j : Nat)]? = some (some (av_i a))) (hd : ad_D M pc (.iload_n j) 1 n) (k : aw_W w M d P n L (av_i a :: st) h kc ks) : aw_W w M d P pc L (st) h kc ks := by
  intro p e R s m args below meth c Q hC hQ H locs cells slots ls hH hS hL hk1 hk2
  obtain ⟨hd, rfl⟩ := hd
  exact lv_iload_n hC.1 hC.2.1 hd rfl (al_get hL hl) (k p e R s m args below meth c Q hC hQ H locs cells slots ls hH hS hL hk1 hk2)
theorem ag_iload {w : aw_T} {M : am_T} {d : Nat} {P : ap_T} {pc n : Nat} {L : al_T} {st : List av_T} {h : ah_T} {kc ks : Nat} {j : Nat} {a : Int} (hl : L[j]? = some (some (av_i a))) (hd : ad_D M pc (.iload j) 2 n) (k : aw_W w M d P n L (av_i a :: st) h kc ks) : aw_W w M d P pc L (st) h kc ks := by
  intro p e R s m args below meth c Q hC hQ H locs cells slots ls hH hS hL hk1 hk2
  obtain ⟨hd, rfl⟩ := hd
  exact lv_iload hC.1 hC.2.1 hd (al_get hL hl) (k p e R s m args below meth c Q hC hQ H locs cells slots ls hH hS hL hk1 hk2)
theorem ag_lload_n {w : aw_T} {M : am_T} {d : Nat} {P : ap_T} {pc n : Nat} {L : al_T} {st : List av_T} {h : ah_T} {kc ks : Nat} {j : Fin 4} {a : Int} (hl : L[(j : Nat)]? = some (some (av_l a))) (hd : ad_D M pc (.lload_n j) 1 n) (k : aw_W w M d P n L (av_l a :: st) h kc ks) : aw_W w M d P pc L (st) h kc ks := by
  intro p e R s m args below meth c Q hC hQ H locs cells slots ls hH hS hL hk1 hk2
  obtain ⟨hd, rfl⟩ := hd
  exact lv_lload_n hC.1 hC.2.1 hd rfl (al_get hL hl) (k p e R s m args below meth c Q hC hQ H locs cells slots ls hH hS hL hk1 hk2)
theorem ag_lload {w : aw_T} {M : am_T} {d : Nat} {P : ap_T} {pc n : Nat} {L : al_T} {st : List av_T} {h : ah_T} {kc ks : Nat} {j : Nat} {a : Int} (hl : L[j]? = some (some (av_l a))) (hd : ad_D M pc (.lload j) 2 n) (k : aw_W w M d P n L (av_l a :: st) h kc ks) : aw_W w M d P pc L (st) h kc ks := by
  intro p e R s m args below meth c Q hC hQ H locs cells slots ls hH hS hL hk1 hk2
  obtain ⟨hd, rfl⟩ := hd
  exact lv_lload hC.1 hC.2.1 hd (al_get hL hl) (k p e R s m args below meth c Q hC hQ H locs cells slots ls hH hS hL hk1 hk2)
theorem ag_aload_n {w : aw_T} {M : am_T} {d : Nat} {P : ap_T} {pc n : Nat} {L : al_T} {st : List av_T} {h : ah_T} {kc ks : Nat} {j : Fin 4} {q : Option Nat} (hl : L[(j : Nat)]? = some (some (av_q q))) (hd : ad_D M pc (.aload_n j) 1 n) (k : aw_W w M d P n L (av_q q :: st) h kc ks) : aw_W w M d P pc L (st) h kc ks := by
  intro p e R s m args below meth c Q hC hQ H locs cells slots ls hH hS hL hk1 hk2
  obtain ⟨hd, rfl⟩ := hd
  rcases q with _ | q
  · exact lv_aload_nN hC.1 hC.2.1 hd rfl (al_get hL hl) (k p e R s m args below meth c Q hC hQ H locs cells slots ls hH hS hL hk1 hk2)
  · exact lv_aload_n hC.1 hC.2.1 hd rfl (al_get hL hl) (k p e R s m args below meth c Q hC hQ H locs cells slots ls hH hS hL hk1 hk2)
theorem ag_aload {w : aw_T} {M : am_T} {d : Nat} {P : ap_T} {pc n : Nat} {L : al_T} {st : List av_T} {h : ah_T} {kc ks : Nat} {j : Nat} {q : Option Nat} (hl : L[j]? = some (some (av_q q))) (hd : ad_D M pc (.aload j) 2 n) (k : aw_W w M d P n L (av_q q :: st) h kc ks) : aw_W w M d P pc L (st) h kc ks := by
  intro p e R s m args below meth c Q hC hQ H locs cells slots ls hH hS hL hk1 hk2
  obtain ⟨hd, rfl⟩ := hd
  rcases q with _ | q
  · exact lv_aloadN hC.1 hC.2.1 hd (al_get hL hl) (k p e R s m args below meth c Q hC hQ H locs cells slots ls hH hS hL hk1 hk2)
  · exact lv_aload hC.1 hC.2.1 hd (al_get hL hl) (k p e R s m args below meth c Q hC hQ H locs cells slots ls hH hS hL hk1 hk2)
theorem ag_aload_s {w : aw_T} {M : am_T} {d : Nat} {P : ap_T} {pc n : Nat} {L : al_T} {st : List av_T} {h : ah_T} {kc ks : Nat} {j : Fin 4} (hl : L[(j : Nat)]? = some (some av_s)) (hd : ad_D M pc (.aload_n j) 1 n) (k : aw_W w M d P n L (av_s :: st) h kc ks) : aw_W w M d P pc L (st) h kc ks := by
  intro p e R s m args below meth c Q hC hQ H locs cells slots ls hH hS hL hk1 hk2
  obtain ⟨hd, rfl⟩ := hd
  exact lv_aload_n hC.1 hC.2.1 hd rfl (al_get hL hl) (k p e R s m args below meth c Q hC hQ H locs cells slots ls hH hS hL hk1 hk2)
theorem ag_istore_n {w : aw_T} {M : am_T} {d : Nat} {P : ap_T} {pc n : Nat} {L : al_T} {st : List av_T} {h : ah_T} {kc ks : Nat} {L' : al_T} {j : Fin 4} {a : Int} (hl : L.set (j : Nat) (some (av_i a)) = L') (ho : al_ok L (j : Nat) = true) (hi : (j : Nat) < M.2.2.1) (hd : ad_D M pc (.istore_n j) 1 n) (k : aw_W w M d P n L' st h kc ks) : aw_W w M d P pc L (av_i a :: st) h kc ks := by
  intro p e R s m args below meth c Q hC hQ H locs cells slots ls hH hS hL hk1 hk2
  obtain ⟨hd, rfl⟩ := hd
  exact lv_istore_n hC.1 hC.2.1 hd rfl hL.2 hi rfl (fun ls hl2 => k p e R s m args below meth c Q hC hQ H locs cells slots ls hH hS (al_put1 hL.1 ho hl hl2) hk1 hk2)
theorem ag_istore {w : aw_T} {M : am_T} {d : Nat} {P : ap_T} {pc n : Nat} {L : al_T} {st : List av_T} {h : ah_T} {kc ks : Nat} {L' : al_T} {j : Nat} {a : Int} (hl : L.set j (some (av_i a)) = L') (ho : al_ok L j = true) (hi : j < M.2.2.1) (hd : ad_D M pc (.istore j) 2 n) (k : aw_W w M d P n L' st h kc ks) : aw_W w M d P pc L (av_i a :: st) h kc ks := by
  intro p e R s m args below meth c Q hC hQ H locs cells slots ls hH hS hL hk1 hk2
  obtain ⟨hd, rfl⟩ := hd
  exact lv_istore hC.1 hC.2.1 hd hL.2 hi rfl (fun ls hl2 => k p e R s m args below meth c Q hC hQ H locs cells slots ls hH hS (al_put1 hL.1 ho hl hl2) hk1 hk2)
theorem ag_lstore_n {w : aw_T} {M : am_T} {d : Nat} {P : ap_T} {pc n : Nat} {L : al_T} {st : List av_T} {h : ah_T} {kc ks : Nat} {L' : al_T} {j : Fin 4} {a : Int} (hl : (L.set (j : Nat) (some (av_l a))).set ((j : Nat) + 1) none = L') (ho : al_ok L (j : Nat) = true) (hi : (j : Nat) + 1 < M.2.2.1) (hd : ad_D M pc (.lstore_n j) 1 n) (k : aw_W w M d P n L' st h kc ks) : aw_W w M d P pc L (av_l a :: st) h kc ks := by
  intro p e R s m args below meth c Q hC hQ H locs cells slots ls hH hS hL hk1 hk2
  obtain ⟨hd, rfl⟩ := hd
  exact lv_lstore_n hC.1 hC.2.1 hd rfl hL.2 hi rfl (fun ls hl2 => k p e R s m args below meth c Q hC hQ H locs cells slots ls hH hS (al_put2 hL.1 ho hl hl2) hk1 hk2)
theorem ag_lstore {w : aw_T} {M : am_T} {d : Nat} {P : ap_T} {pc n : Nat} {L : al_T} {st : List av_T} {h : ah_T} {kc ks : Nat} {L' : al_T} {j : Nat} {a : Int} (hl : (L.set j (some (av_l a))).set (j + 1) none = L') (ho : al_ok L j = true) (hi : j + 1 < M.2.2.1) (hd : ad_D M pc (.lstore j) 2 n) (k : aw_W w M d P n L' st h kc ks) : aw_W w M d P pc L (av_l a :: st) h kc ks := by
  intro p e R s m args below meth c Q hC hQ H locs cells slots ls hH hS hL hk1 hk2
  obtain ⟨hd, rfl⟩ := hd
  exact lv_lstore hC.1 hC.2.1 hd hL.2 hi rfl (fun ls hl2 => k p e R s m args below meth c Q hC hQ H locs cells slots ls hH hS (al_put2 hL.1 ho hl hl2) hk1 hk2)
theorem ag_astore_n {w : aw_T} {M : am_T} {d : Nat} {P : ap_T} {pc n : Nat} {L : al_T} {st : List av_T} {h : ah_T} {kc ks : Nat} {L' : al_T} {j : Fin 4} {q : Option Nat} (hl : L.set (j : Nat) (some (av_q q)) = L') (ho : al_ok L (j : Nat) = true) (hi : (j : Nat) < M.2.2.1) (hd : ad_D M pc (.astore_n j) 1 n) (k : aw_W w M d P n L' st h kc ks) : aw_W w M d P pc L (av_q q :: st) h kc ks := by
  intro p e R s m args below meth c Q hC hQ H locs cells slots ls hH hS hL hk1 hk2
  obtain ⟨hd, rfl⟩ := hd
  rcases q with _ | q
  · exact lv_astore_nN hC.1 hC.2.1 hd rfl hL.2 hi rfl (fun ls hl2 => k p e R s m args below meth c Q hC hQ H locs cells slots ls hH hS (al_put1 hL.1 ho hl hl2) hk1 hk2)
  · exact lv_astore_n hC.1 hC.2.1 hd rfl hL.2 hi rfl (fun ls hl2 => k p e R s m args below meth c Q hC hQ H locs cells slots ls hH hS (al_put1 hL.1 ho hl hl2) hk1 hk2)
theorem ag_astore {w : aw_T} {M : am_T} {d : Nat} {P : ap_T} {pc n : Nat} {L : al_T} {st : List av_T} {h : ah_T} {kc ks : Nat} {L' : al_T} {j : Nat} {q : Option Nat} (hl : L.set j (some (av_q q)) = L') (ho : al_ok L j = true) (hi : j < M.2.2.1) (hd : ad_D M pc (.astore j) 2 n) (k : aw_W w M d P n L' st h kc ks) : aw_W w M d P pc L (av_q q :: st) h kc ks := by
  intro p e R s m args below meth c Q hC hQ H locs cells slots ls hH hS hL hk1 hk2
  obtain ⟨hd, rfl⟩ := hd
  rcases q with _ | q
  · exact lv_astoreN hC.1 hC.2.1 hd hL.2 hi rfl (fun ls hl2 => k p e R s m args below meth c Q hC hQ H locs cells slots ls hH hS (al_put1 hL.1 ho hl hl2) hk1 hk2)
  · exact lv_astore hC.1 hC.2.1 hd hL.2 hi rfl (fun ls hl2 => k p e R s m args below meth c Q hC hQ H locs cells slots ls hH hS (al_put1 hL.1 ho hl hl2) hk1 hk2)
theorem ag_iinc {w : aw_T} {M : am_T} {d : Nat} {P : ap_T} {pc n : Nat} {L : al_T} {st : List av_T} {h : ah_T} {kc ks : Nat} {L' : al_T} {j : Nat} {a b : Int} (hg : L[j]? = some (some (av_i a))) (hl : L.set j (some (av_i (a + b))) = L') (ho : al_ok L j = true) (hi : j < M.2.2.1) (hd : ad_D M pc (.iinc j b) 3 n) (k : aw_W w M d P n L' st h kc ks) : aw_W w M d P pc L st h kc ks := by
  intro p e R s m args below meth c Q hC hQ H locs cells slots ls hH hS hL hk1 hk2
  obtain ⟨hd, rfl⟩ := hd
  obtain ⟨q, hq⟩ := List.mem_iff_getElem?.mp (al_mem.mpr ⟨_, hg, rfl⟩ : (j, av_v w (av_i a)) ∈ al_lv w L)
  exact lv_iinc hC.1 hC.2.1 hd hL.2 (k := q) (x := Int32.ofInt a) hq (Int32.ofInt_add a b).symm hi rfl (fun ls hl2 => k p e R s m args below meth c Q hC hQ H locs cells slots ls hH hS (al_put1 hL.1 ho hl hl2) hk1 hk2)
theorem ag_iadd {w : aw_T} {M : am_T} {d : Nat} {P : ap_T} {pc n : Nat} {L : al_T} {st : List av_T} {h : ah_T} {kc ks : Nat} {a b : Int} (hd : ad_D M pc .iadd 1 n) (k : aw_W w M d P n L (av_i (a + b) :: st) h kc ks) : aw_W w M d P pc L (av_i b :: av_i a :: st) h kc ks := by
  intro p e R s m args below meth c Q hC hQ H locs cells slots ls hH hS hL hk1 hk2
  obtain ⟨hd, rfl⟩ := hd
  refine lv_iadd hC.1 hC.2.1 hd ?_
  have kk := k p e R s m args below meth c Q hC hQ H locs cells slots ls hH hS hL hk1 hk2
  simp only [List.map_cons, av_v, Int32.ofInt_add] at kk
  exact kk
theorem ag_isub {w : aw_T} {M : am_T} {d : Nat} {P : ap_T} {pc n : Nat} {L : al_T} {st : List av_T} {h : ah_T} {kc ks : Nat} {a b : Int} (hd : ad_D M pc .isub 1 n) (k : aw_W w M d P n L (av_i (a - b) :: st) h kc ks) : aw_W w M d P pc L (av_i b :: av_i a :: st) h kc ks := by
  intro p e R s m args below meth c Q hC hQ H locs cells slots ls hH hS hL hk1 hk2
  obtain ⟨hd, rfl⟩ := hd
  refine lv_isub hC.1 hC.2.1 hd ?_
  have kk := k p e R s m args below meth c Q hC hQ H locs cells slots ls hH hS hL hk1 hk2
  simp only [List.map_cons, av_v, Int32.ofInt_sub] at kk
  exact kk
theorem ag_imul {w : aw_T} {M : am_T} {d : Nat} {P : ap_T} {pc n : Nat} {L : al_T} {st : List av_T} {h : ah_T} {kc ks : Nat} {a b : Int} (hd : ad_D M pc .imul 1 n) (k : aw_W w M d P n L (av_i (a * b) :: st) h kc ks) : aw_W w M d P pc L (av_i b :: av_i a :: st) h kc ks := by
  intro p e R s m args below meth c Q hC hQ H locs cells slots ls hH hS hL hk1 hk2
  obtain ⟨hd, rfl⟩ := hd
  refine lv_imul hC.1 hC.2.1 hd ?_
  have kk := k p e R s m args below meth c Q hC hQ H locs cells slots ls hH hS hL hk1 hk2
  simp only [List.map_cons, av_v, Int32.ofInt_mul] at kk
  exact kk
theorem ag_idiv {w : aw_T} {M : am_T} {d : Nat} {P : ap_T} {pc n : Nat} {L : al_T} {st : List av_T} {h : ah_T} {kc ks : Nat} {a b : Int} (ha : -2147483648 ≤ a ∧ a < 2147483648) (hb : -2147483648 ≤ b ∧ b < 2147483648) (h0 : b ≠ 0) (hd : ad_D M pc .idiv 1 n) (k : aw_W w M d P n L (av_i (a.tdiv b) :: st) h kc ks) : aw_W w M d P pc L (av_i b :: av_i a :: st) h kc ks := by
  intro p e R s m args below meth c Q hC hQ H locs cells slots ls hH hS hL hk1 hk2
  obtain ⟨hd, rfl⟩ := hd
  refine lv_idiv hC.1 hC.2.1 hd (ai_ne0 hb h0) ?_
  have kk := k p e R s m args below meth c Q hC hQ H locs cells slots ls hH hS hL hk1 hk2
  simp only [List.map_cons, av_v, ai_div ha hb] at kk
  exact kk
theorem ag_irem {w : aw_T} {M : am_T} {d : Nat} {P : ap_T} {pc n : Nat} {L : al_T} {st : List av_T} {h : ah_T} {kc ks : Nat} {a b : Int} (ha : -2147483648 ≤ a ∧ a < 2147483648) (hb : -2147483648 ≤ b ∧ b < 2147483648) (h0 : b ≠ 0) (hd : ad_D M pc .irem 1 n) (k : aw_W w M d P n L (av_i (a.tmod b) :: st) h kc ks) : aw_W w M d P pc L (av_i b :: av_i a :: st) h kc ks := by
  intro p e R s m args below meth c Q hC hQ H locs cells slots ls hH hS hL hk1 hk2
  obtain ⟨hd, rfl⟩ := hd
  refine lv_irem hC.1 hC.2.1 hd (ai_ne0 hb h0) ?_
  have kk := k p e R s m args below meth c Q hC hQ H locs cells slots ls hH hS hL hk1 hk2
  simp only [List.map_cons, av_v, ai_rem ha hb] at kk
  exact kk
theorem ag_iand {w : aw_T} {M : am_T} {d : Nat} {P : ap_T} {pc n : Nat} {L : al_T} {st : List av_T} {h : ah_T} {kc ks : Nat} {a b : Int} (hd : ad_D M pc .iand 1 n) (k : aw_W w M d P n L (av_i ((Int32.ofInt a &&& Int32.ofInt b).toInt) :: st) h kc ks) : aw_W w M d P pc L (av_i b :: av_i a :: st) h kc ks := by
  intro p e R s m args below meth c Q hC hQ H locs cells slots ls hH hS hL hk1 hk2
  obtain ⟨hd, rfl⟩ := hd
  refine lv_iand hC.1 hC.2.1 hd ?_
  have kk := k p e R s m args below meth c Q hC hQ H locs cells slots ls hH hS hL hk1 hk2
  simp only [List.map_cons, av_v, Int32.ofInt_toInt] at kk
  exact kk
theorem ag_ior {w : aw_T} {M : am_T} {d : Nat} {P : ap_T} {pc n : Nat} {L : al_T} {st : List av_T} {h : ah_T} {kc ks : Nat} {a b : Int} (hd : ad_D M pc .ior 1 n) (k : aw_W w M d P n L (av_i ((Int32.ofInt a ||| Int32.ofInt b).toInt) :: st) h kc ks) : aw_W w M d P pc L (av_i b :: av_i a :: st) h kc ks := by
  intro p e R s m args below meth c Q hC hQ H locs cells slots ls hH hS hL hk1 hk2
  obtain ⟨hd, rfl⟩ := hd
  refine lv_ior hC.1 hC.2.1 hd ?_
  have kk := k p e R s m args below meth c Q hC hQ H locs cells slots ls hH hS hL hk1 hk2
  simp only [List.map_cons, av_v, Int32.ofInt_toInt] at kk
  exact kk
theorem ag_ixor {w : aw_T} {M : am_T} {d : Nat} {P : ap_T} {pc n : Nat} {L : al_T} {st : List av_T} {h : ah_T} {kc ks : Nat} {a b : Int} (hd : ad_D M pc .ixor 1 n) (k : aw_W w M d P n L (av_i ((Int32.ofInt a ^^^ Int32.ofInt b).toInt) :: st) h kc ks) : aw_W w M d P pc L (av_i b :: av_i a :: st) h kc ks := by
  intro p e R s m args below meth c Q hC hQ H locs cells slots ls hH hS hL hk1 hk2
  obtain ⟨hd, rfl⟩ := hd
  refine lv_ixor hC.1 hC.2.1 hd ?_
  have kk := k p e R s m args below meth c Q hC hQ H locs cells slots ls hH hS hL hk1 hk2
  simp only [List.map_cons, av_v, Int32.ofInt_toInt] at kk
  exact kk
theorem ag_ishl {w : aw_T} {M : am_T} {d : Nat} {P : ap_T} {pc n : Nat} {L : al_T} {st : List av_T} {h : ah_T} {kc ks : Nat} {a b : Int} (hd : ad_D M pc .ishl 1 n) (k : aw_W w M d P n L (av_i ((Int32.ofInt a <<< (Int32.ofInt b &&& 31)).toInt) :: st) h kc ks) : aw_W w M d P pc L (av_i b :: av_i a :: st) h kc ks := by
  intro p e R s m args below meth c Q hC hQ H locs cells slots ls hH hS hL hk1 hk2
  obtain ⟨hd, rfl⟩ := hd
  refine lv_ishl hC.1 hC.2.1 hd ?_
  have kk := k p e R s m args below meth c Q hC hQ H locs cells slots ls hH hS hL hk1 hk2
  simp only [List.map_cons, av_v, Int32.ofInt_toInt] at kk
  exact kk
theorem ag_ishr {w : aw_T} {M : am_T} {d : Nat} {P : ap_T} {pc n : Nat} {L : al_T} {st : List av_T} {h : ah_T} {kc ks : Nat} {a b : Int} (hd : ad_D M pc .ishr 1 n) (k : aw_W w M d P n L (av_i ((Int32.ofInt a >>> (Int32.ofInt b &&& 31)).toInt) :: st) h kc ks) : aw_W w M d P pc L (av_i b :: av_i a :: st) h kc ks := by
  intro p e R s m args below meth c Q hC hQ H locs cells slots ls hH hS hL hk1 hk2
  obtain ⟨hd, rfl⟩ := hd
  refine lv_ishr hC.1 hC.2.1 hd ?_
  have kk := k p e R s m args below meth c Q hC hQ H locs cells slots ls hH hS hL hk1 hk2
  simp only [List.map_cons, av_v, Int32.ofInt_toInt] at kk
  exact kk
theorem ag_iushr {w : aw_T} {M : am_T} {d : Nat} {P : ap_T} {pc n : Nat} {L : al_T} {st : List av_T} {h : ah_T} {kc ks : Nat} {a b : Int} (hd : ad_D M pc .iushr 1 n) (k : aw_W w M d P n L (av_i ((Int32.ofInt a).toUInt32 >>> ((Int32.ofInt b).toUInt32 &&& Int32.toUInt32 31)).toInt32.toInt :: st) h kc ks) : aw_W w M d P pc L (av_i b :: av_i a :: st) h kc ks := by
  intro p e R s m args below meth c Q hC hQ H locs cells slots ls hH hS hL hk1 hk2
  obtain ⟨hd, rfl⟩ := hd
  refine lv_iushr hC.1 hC.2.1 hd rfl ?_
  have kk := k p e R s m args below meth c Q hC hQ H locs cells slots ls hH hS hL hk1 hk2
  simp only [List.map_cons, av_v, Int32.ofInt_toInt] at kk
  exact kk
theorem ag_ineg {w : aw_T} {M : am_T} {d : Nat} {P : ap_T} {pc n : Nat} {L : al_T} {st : List av_T} {h : ah_T} {kc ks : Nat} {a : Int} (hd : ad_D M pc .ineg 1 n) (k : aw_W w M d P n L (av_i (-a) :: st) h kc ks) : aw_W w M d P pc L (av_i a :: st) h kc ks := by
  intro p e R s m args below meth c Q hC hQ H locs cells slots ls hH hS hL hk1 hk2
  obtain ⟨hd, rfl⟩ := hd
  refine lv_ineg hC.1 hC.2.1 hd ?_
  have kk := k p e R s m args below meth c Q hC hQ H locs cells slots ls hH hS hL hk1 hk2
  simp only [List.map_cons, av_v, Int32.ofInt_neg] at kk
  exact kk
theorem ag_i2b {w : aw_T} {M : am_T} {d : Nat} {P : ap_T} {pc n : Nat} {L : al_T} {st : List av_T} {h : ah_T} {kc ks : Nat} {a : Int} (hd : ad_D M pc .i2b 1 n) (k : aw_W w M d P n L (av_i (Int32.ofInt a).toInt8.toInt32.toInt :: st) h kc ks) : aw_W w M d P pc L (av_i a :: st) h kc ks := by
  intro p e R s m args below meth c Q hC hQ H locs cells slots ls hH hS hL hk1 hk2
  obtain ⟨hd, rfl⟩ := hd
  refine lv_i2b hC.1 hC.2.1 hd rfl ?_
  have kk := k p e R s m args below meth c Q hC hQ H locs cells slots ls hH hS hL hk1 hk2
  simp only [List.map_cons, av_v, Int32.ofInt_toInt] at kk
  exact kk
theorem ag_i2l {w : aw_T} {M : am_T} {d : Nat} {P : ap_T} {pc n : Nat} {L : al_T} {st : List av_T} {h : ah_T} {kc ks : Nat} {a : Int} (ha : -2147483648 ≤ a ∧ a < 2147483648) (hd : ad_D M pc .i2l 1 n) (k : aw_W w M d P n L (av_l a :: st) h kc ks) : aw_W w M d P pc L (av_i a :: st) h kc ks := by
  intro p e R s m args below meth c Q hC hQ H locs cells slots ls hH hS hL hk1 hk2
  obtain ⟨hd, rfl⟩ := hd
  exact lv_i2l hC.1 hC.2.1 hd (Int32.toInt64_ofInt (by show (-2147483648 : Int) ≤ a; omega) (by show a ≤ (2147483647 : Int); omega)) (k p e R s m args below meth c Q hC hQ H locs cells slots ls hH hS hL hk1 hk2)
theorem ag_l2i {w : aw_T} {M : am_T} {d : Nat} {P : ap_T} {pc n : Nat} {L : al_T} {st : List av_T} {h : ah_T} {kc ks : Nat} {a : Int} (hd : ad_D M pc .l2i 1 n) (k : aw_W w M d P n L (av_i a :: st) h kc ks) : aw_W w M d P pc L (av_l a :: st) h kc ks := by
  intro p e R s m args below meth c Q hC hQ H locs cells slots ls hH hS hL hk1 hk2
  obtain ⟨hd, rfl⟩ := hd
  exact lv_l2i hC.1 hC.2.1 hd Int64.toInt32_ofInt (k p e R s m args below meth c Q hC hQ H locs cells slots ls hH hS hL hk1 hk2)
theorem ag_ladd {w : aw_T} {M : am_T} {d : Nat} {P : ap_T} {pc n : Nat} {L : al_T} {st : List av_T} {h : ah_T} {kc ks : Nat} {a b : Int} (hd : ad_D M pc .ladd 1 n) (k : aw_W w M d P n L (av_l (a + b) :: st) h kc ks) : aw_W w M d P pc L (av_l b :: av_l a :: st) h kc ks := by
  intro p e R s m args below meth c Q hC hQ H locs cells slots ls hH hS hL hk1 hk2
  obtain ⟨hd, rfl⟩ := hd
  refine lv_ladd hC.1 hC.2.1 hd ?_
  have kk := k p e R s m args below meth c Q hC hQ H locs cells slots ls hH hS hL hk1 hk2
  simp only [List.map_cons, av_v, Int64.ofInt_add] at kk
  exact kk
theorem ag_lsub {w : aw_T} {M : am_T} {d : Nat} {P : ap_T} {pc n : Nat} {L : al_T} {st : List av_T} {h : ah_T} {kc ks : Nat} {a b : Int} (hd : ad_D M pc .lsub 1 n) (k : aw_W w M d P n L (av_l (a - b) :: st) h kc ks) : aw_W w M d P pc L (av_l b :: av_l a :: st) h kc ks := by
  intro p e R s m args below meth c Q hC hQ H locs cells slots ls hH hS hL hk1 hk2
  obtain ⟨hd, rfl⟩ := hd
  refine lv_lsub hC.1 hC.2.1 hd ?_
  have kk := k p e R s m args below meth c Q hC hQ H locs cells slots ls hH hS hL hk1 hk2
  simp only [List.map_cons, av_v, Int64.ofInt_sub] at kk
  exact kk
theorem ag_lmul {w : aw_T} {M : am_T} {d : Nat} {P : ap_T} {pc n : Nat} {L : al_T} {st : List av_T} {h : ah_T} {kc ks : Nat} {a b : Int} (hd : ad_D M pc .lmul 1 n) (k : aw_W w M d P n L (av_l (a * b) :: st) h kc ks) : aw_W w M d P pc L (av_l b :: av_l a :: st) h kc ks := by
  intro p e R s m args below meth c Q hC hQ H locs cells slots ls hH hS hL hk1 hk2
  obtain ⟨hd, rfl⟩ := hd
  refine lv_lmul hC.1 hC.2.1 hd ?_
  have kk := k p e R s m args below meth c Q hC hQ H locs cells slots ls hH hS hL hk1 hk2
  simp only [List.map_cons, av_v, Int64.ofInt_mul] at kk
  exact kk
theorem ag_ldiv {w : aw_T} {M : am_T} {d : Nat} {P : ap_T} {pc n : Nat} {L : al_T} {st : List av_T} {h : ah_T} {kc ks : Nat} {a b : Int} (ha : -9223372036854775808 ≤ a ∧ a < 9223372036854775808) (hb : -9223372036854775808 ≤ b ∧ b < 9223372036854775808) (h0 : b ≠ 0) (hd : ad_D M pc .ldiv 1 n) (k : aw_W w M d P n L (av_l (a.tdiv b) :: st) h kc ks) : aw_W w M d P pc L (av_l b :: av_l a :: st) h kc ks := by
  intro p e R s m args below meth c Q hC hQ H locs cells slots ls hH hS hL hk1 hk2
  obtain ⟨hd, rfl⟩ := hd
  refine lv_ldiv hC.1 hC.2.1 hd (al_ne0 hb h0) ?_
  have kk := k p e R s m args below meth c Q hC hQ H locs cells slots ls hH hS hL hk1 hk2
  simp only [List.map_cons, av_v, al_div ha hb] at kk
  exact kk
theorem ag_lneg {w : aw_T} {M : am_T} {d : Nat} {P : ap_T} {pc n : Nat} {L : al_T} {st : List av_T} {h : ah_T} {kc ks : Nat} {a : Int} (hd : ad_D M pc .lneg 1 n) (k : aw_W w M d P n L (av_l (-a) :: st) h kc ks) : aw_W w M d P pc L (av_l a :: st) h kc ks := by
  intro p e R s m args below meth c Q hC hQ H locs cells slots ls hH hS hL hk1 hk2
  obtain ⟨hd, rfl⟩ := hd
  refine lv_lneg hC.1 hC.2.1 hd ?_
  have kk := k p e R s m args below meth c Q hC hQ H locs cells slots ls hH hS hL hk1 hk2
  simp only [List.map_cons, av_v, Int64.ofInt_neg] at kk
  exact kk
theorem ag_lcmp {w : aw_T} {M : am_T} {d : Nat} {P : ap_T} {pc n : Nat} {L : al_T} {st : List av_T} {h : ah_T} {kc ks : Nat} {a b : Int} (ha : -9223372036854775808 ≤ a ∧ a < 9223372036854775808) (hb : -9223372036854775808 ≤ b ∧ b < 9223372036854775808) (hd : ad_D M pc .lcmp 1 n) (k : aw_W w M d P n L (av_i (ai_cmp a b) :: st) h kc ks) : aw_W w M d P pc L (av_l b :: av_l a :: st) h kc ks := by
  intro p e R s m args below meth c Q hC hQ H locs cells slots ls hH hS hL hk1 hk2
  obtain ⟨hd, rfl⟩ := hd
  refine W.lcmp hC.1 hC.2.1 hd ?_
  rw [al_cmp ha hb]
  exact k p e R s m args below meth c Q hC hQ H locs cells slots ls hH hS hL hk1 hk2
theorem ag_dup {w : aw_T} {M : am_T} {d : Nat} {P : ap_T} {pc n : Nat} {L : al_T} {st : List av_T} {h : ah_T} {kc ks : Nat} {v : av_T} (hv : av_c v = 1) (hd : ad_D M pc .dup 1 n) (k : aw_W w M d P n L (v :: v :: st) h kc ks) : aw_W w M d P pc L (v :: st) h kc ks := by
  intro p e R s m args below meth c Q hC hQ H locs cells slots ls hH hS hL hk1 hk2
  obtain ⟨hd, rfl⟩ := hd
  exact lv_dup hC.1 hC.2.1 hd (by rw [av_cat]; exact hv) (k p e R s m args below meth c Q hC hQ H locs cells slots ls hH hS hL hk1 hk2)
theorem ag_pop {w : aw_T} {M : am_T} {d : Nat} {P : ap_T} {pc n : Nat} {L : al_T} {st : List av_T} {h : ah_T} {kc ks : Nat} {v : av_T} (hv : av_c v = 1) (hd : ad_D M pc .pop 1 n) (k : aw_W w M d P n L (st) h kc ks) : aw_W w M d P pc L (v :: st) h kc ks := by
  intro p e R s m args below meth c Q hC hQ H locs cells slots ls hH hS hL hk1 hk2
  obtain ⟨hd, rfl⟩ := hd
  exact lv_pop hC.1 hC.2.1 hd (by rw [av_cat]; exact hv) (k p e R s m args below meth c Q hC hQ H locs cells slots ls hH hS hL hk1 hk2)
theorem ag_dup2 {w : aw_T} {M : am_T} {d : Nat} {P : ap_T} {pc n : Nat} {L : al_T} {st : List av_T} {h : ah_T} {kc ks : Nat} {v u : av_T} (hv : av_c v = 1) (hu : av_c u = 1) (hd : ad_D M pc .dup2 1 n) (k : aw_W w M d P n L (v :: u :: v :: u :: st) h kc ks) : aw_W w M d P pc L (v :: u :: st) h kc ks := by
  intro p e R s m args below meth c Q hC hQ H locs cells slots ls hH hS hL hk1 hk2
  obtain ⟨hd, rfl⟩ := hd
  exact lv_dup2_11 hC.1 hC.2.1 hd (by rw [av_cat]; exact hv) (by rw [av_cat]; exact hu) (k p e R s m args below meth c Q hC hQ H locs cells slots ls hH hS hL hk1 hk2)
theorem ag_icmp_eq {w : aw_T} {M : am_T} {d : Nat} {P : ap_T} {pc n : Nat} {L : al_T} {st : List av_T} {h : ah_T} {kc ks : Nat} {a b off : Int} {tgt : Nat} (hd : ad_D M pc (.if_icmp .eq off) 3 n) (ht : (pc : Int) + off = (tgt : Int)) (ha : -2147483648 ≤ a ∧ a < 2147483648) (hb : -2147483648 ≤ b ∧ b < 2147483648) (kt : a = b → aw_W w M d P tgt L st h kc ks) (kf : a ≠ b → aw_W w M d P n L st h kc ks) : aw_W w M d P pc L (av_i b :: av_i a :: st) h kc ks := by
  intro p e R s m args below meth c Q hC hQ H locs cells slots ls hH hS hL hk1 hk2
  obtain ⟨hd, rfl⟩ := hd
  exact lv_icmp_eq hC.1 hC.2.1 hd ht (fun hc => kt ((ai_eq ha hb).mp hc) p e R s m args below meth c Q hC hQ H locs cells slots ls hH hS hL hk1 hk2) (fun hc => kf (fun q => hc ((ai_eq ha hb).mpr q)) p e R s m args below meth c Q hC hQ H locs cells slots ls hH hS hL hk1 hk2)
theorem ag_if_eq {w : aw_T} {M : am_T} {d : Nat} {P : ap_T} {pc n : Nat} {L : al_T} {st : List av_T} {h : ah_T} {kc ks : Nat} {a off : Int} {tgt : Nat} (hd : ad_D M pc (.ifCond .eq off) 3 n) (ht : (pc : Int) + off = (tgt : Int)) (ha : -2147483648 ≤ a ∧ a < 2147483648) (kt : a = 0 → aw_W w M d P tgt L st h kc ks) (kf : a ≠ 0 → aw_W w M d P n L st h kc ks) : aw_W w M d P pc L (av_i a :: st) h kc ks := by
  intro p e R s m args below meth c Q hC hQ H locs cells slots ls hH hS hL hk1 hk2
  obtain ⟨hd, rfl⟩ := hd
  have hb : (-2147483648 : Int) ≤ 0 ∧ (0 : Int) < 2147483648 := by omega
  exact lv_if_eq hC.1 hC.2.1 hd ht (fun hc => kt ((ai_eq ha hb).mp hc) p e R s m args below meth c Q hC hQ H locs cells slots ls hH hS hL hk1 hk2) (fun hc => kf (fun q => hc ((ai_eq ha hb).mpr q)) p e R s m args below meth c Q hC hQ H locs cells slots ls hH hS hL hk1 hk2)
theorem ag_icmp_ne {w : aw_T} {M : am_T} {d : Nat} {P : ap_T} {pc n : Nat} {L : al_T} {st : List av_T} {h : ah_T} {kc ks : Nat} {a b off : Int} {tgt : Nat} (hd : ad_D M pc (.if_icmp .ne off) 3 n) (ht : (pc : Int) + off = (tgt : Int)) (ha : -2147483648 ≤ a ∧ a < 2147483648) (hb : -2147483648 ≤ b ∧ b < 2147483648) (kt : a ≠ b → aw_W w M d P tgt L st h kc ks) (kf : a = b → aw_W w M d P n L st h kc ks) : aw_W w M d P pc L (av_i b :: av_i a :: st) h kc ks := by
  intro p e R s m args below meth c Q hC hQ H locs cells slots ls hH hS hL hk1 hk2
  obtain ⟨hd, rfl⟩ := hd
  exact lv_icmp_ne hC.1 hC.2.1 hd ht (fun hc => kt (fun q => hc ((ai_eq ha hb).mpr q)) p e R s m args below meth c Q hC hQ H locs cells slots ls hH hS hL hk1 hk2) (fun hc => kf ((ai_eq ha hb).mp hc) p e R s m args below meth c Q hC hQ H locs cells slots ls hH hS hL hk1 hk2)
theorem ag_if_ne {w : aw_T} {M : am_T} {d : Nat} {P : ap_T} {pc n : Nat} {L : al_T} {st : List av_T} {h : ah_T} {kc ks : Nat} {a off : Int} {tgt : Nat} (hd : ad_D M pc (.ifCond .ne off) 3 n) (ht : (pc : Int) + off = (tgt : Int)) (ha : -2147483648 ≤ a ∧ a < 2147483648) (kt : a ≠ 0 → aw_W w M d P tgt L st h kc ks) (kf : a = 0 → aw_W w M d P n L st h kc ks) : aw_W w M d P pc L (av_i a :: st) h kc ks := by
  intro p e R s m args below meth c Q hC hQ H locs cells slots ls hH hS hL hk1 hk2
  obtain ⟨hd, rfl⟩ := hd
  have hb : (-2147483648 : Int) ≤ 0 ∧ (0 : Int) < 2147483648 := by omega
  exact lv_if_ne hC.1 hC.2.1 hd ht (fun hc => kt (fun q => hc ((ai_eq ha hb).mpr q)) p e R s m args below meth c Q hC hQ H locs cells slots ls hH hS hL hk1 hk2) (fun hc => kf ((ai_eq ha hb).mp hc) p e R s m args below meth c Q hC hQ H locs cells slots ls hH hS hL hk1 hk2)
theorem ag_icmp_lt {w : aw_T} {M : am_T} {d : Nat} {P : ap_T} {pc n : Nat} {L : al_T} {st : List av_T} {h : ah_T} {kc ks : Nat} {a b off : Int} {tgt : Nat} (hd : ad_D M pc (.if_icmp .lt off) 3 n) (ht : (pc : Int) + off = (tgt : Int)) (ha : -2147483648 ≤ a ∧ a < 2147483648) (hb : -2147483648 ≤ b ∧ b < 2147483648) (kt : a < b → aw_W w M d P tgt L st h kc ks) (kf : b ≤ a → aw_W w M d P n L st h kc ks) : aw_W w M d P pc L (av_i b :: av_i a :: st) h kc ks := by
  intro p e R s m args below meth c Q hC hQ H locs cells slots ls hH hS hL hk1 hk2
  obtain ⟨hd, rfl⟩ := hd
  exact lv_icmp_lt hC.1 hC.2.1 hd ht (fun hc => kt ((ai_lt ha hb).mp hc) p e R s m args below meth c Q hC hQ H locs cells slots ls hH hS hL hk1 hk2) (fun hc => kf (Int.not_lt.mp (fun q => hc ((ai_lt ha hb).mpr q))) p e R s m args below meth c Q hC hQ H locs cells slots ls hH hS hL hk1 hk2)
theorem ag_if_lt {w : aw_T} {M : am_T} {d : Nat} {P : ap_T} {pc n : Nat} {L : al_T} {st : List av_T} {h : ah_T} {kc ks : Nat} {a off : Int} {tgt : Nat} (hd : ad_D M pc (.ifCond .lt off) 3 n) (ht : (pc : Int) + off = (tgt : Int)) (ha : -2147483648 ≤ a ∧ a < 2147483648) (kt : a < 0 → aw_W w M d P tgt L st h kc ks) (kf : 0 ≤ a → aw_W w M d P n L st h kc ks) : aw_W w M d P pc L (av_i a :: st) h kc ks := by
  intro p e R s m args below meth c Q hC hQ H locs cells slots ls hH hS hL hk1 hk2
  obtain ⟨hd, rfl⟩ := hd
  have hb : (-2147483648 : Int) ≤ 0 ∧ (0 : Int) < 2147483648 := by omega
  exact lv_if_lt hC.1 hC.2.1 hd ht (fun hc => kt ((ai_lt ha hb).mp hc) p e R s m args below meth c Q hC hQ H locs cells slots ls hH hS hL hk1 hk2) (fun hc => kf (Int.not_lt.mp (fun q => hc ((ai_lt ha hb).mpr q))) p e R s m args below meth c Q hC hQ H locs cells slots ls hH hS hL hk1 hk2)
theorem ag_icmp_ge {w : aw_T} {M : am_T} {d : Nat} {P : ap_T} {pc n : Nat} {L : al_T} {st : List av_T} {h : ah_T} {kc ks : Nat} {a b off : Int} {tgt : Nat} (hd : ad_D M pc (.if_icmp .ge off) 3 n) (ht : (pc : Int) + off = (tgt : Int)) (ha : -2147483648 ≤ a ∧ a < 2147483648) (hb : -2147483648 ≤ b ∧ b < 2147483648) (kt : b ≤ a → aw_W w M d P tgt L st h kc ks) (kf : a < b → aw_W w M d P n L st h kc ks) : aw_W w M d P pc L (av_i b :: av_i a :: st) h kc ks := by
  intro p e R s m args below meth c Q hC hQ H locs cells slots ls hH hS hL hk1 hk2
  obtain ⟨hd, rfl⟩ := hd
  exact lv_icmp_ge hC.1 hC.2.1 hd ht (fun hc => kt ((ai_le hb ha).mp hc) p e R s m args below meth c Q hC hQ H locs cells slots ls hH hS hL hk1 hk2) (fun hc => kf (Int.not_le.mp (fun q => hc ((ai_le hb ha).mpr q))) p e R s m args below meth c Q hC hQ H locs cells slots ls hH hS hL hk1 hk2)
theorem ag_if_ge {w : aw_T} {M : am_T} {d : Nat} {P : ap_T} {pc n : Nat} {L : al_T} {st : List av_T} {h : ah_T} {kc ks : Nat} {a off : Int} {tgt : Nat} (hd : ad_D M pc (.ifCond .ge off) 3 n) (ht : (pc : Int) + off = (tgt : Int)) (ha : -2147483648 ≤ a ∧ a < 2147483648) (kt : 0 ≤ a → aw_W w M d P tgt L st h kc ks) (kf : a < 0 → aw_W w M d P n L st h kc ks) : aw_W w M d P pc L (av_i a :: st) h kc ks := by
  intro p e R s m args below meth c Q hC hQ H locs cells slots ls hH hS hL hk1 hk2
  obtain ⟨hd, rfl⟩ := hd
  have hb : (-2147483648 : Int) ≤ 0 ∧ (0 : Int) < 2147483648 := by omega
  exact lv_if_ge hC.1 hC.2.1 hd ht (fun hc => kt ((ai_le hb ha).mp hc) p e R s m args below meth c Q hC hQ H locs cells slots ls hH hS hL hk1 hk2) (fun hc => kf (Int.not_le.mp (fun q => hc ((ai_le hb ha).mpr q))) p e R s m args below meth c Q hC hQ H locs cells slots ls hH hS hL hk1 hk2)
theorem ag_icmp_gt {w : aw_T} {M : am_T} {d : Nat} {P : ap_T} {pc n : Nat} {L : al_T} {st : List av_T} {h : ah_T} {kc ks : Nat} {a b off : Int} {tgt : Nat} (hd : ad_D M pc (.if_icmp .gt off) 3 n) (ht : (pc : Int) + off = (tgt : Int)) (ha : -2147483648 ≤ a ∧ a < 2147483648) (hb : -2147483648 ≤ b ∧ b < 2147483648) (kt : b < a → aw_W w M d P tgt L st h kc ks) (kf : a ≤ b → aw_W w M d P n L st h kc ks) : aw_W w M d P pc L (av_i b :: av_i a :: st) h kc ks := by
  intro p e R s m args below meth c Q hC hQ H locs cells slots ls hH hS hL hk1 hk2
  obtain ⟨hd, rfl⟩ := hd
  exact lv_icmp_gt hC.1 hC.2.1 hd ht (fun hc => kt ((ai_lt hb ha).mp hc) p e R s m args below meth c Q hC hQ H locs cells slots ls hH hS hL hk1 hk2) (fun hc => kf (Int.not_lt.mp (fun q => hc ((ai_lt hb ha).mpr q))) p e R s m args below meth c Q hC hQ H locs cells slots ls hH hS hL hk1 hk2)
theorem ag_if_gt {w : aw_T} {M : am_T} {d : Nat} {P : ap_T} {pc n : Nat} {L : al_T} {st : List av_T} {h : ah_T} {kc ks : Nat} {a off : Int} {tgt : Nat} (hd : ad_D M pc (.ifCond .gt off) 3 n) (ht : (pc : Int) + off = (tgt : Int)) (ha : -2147483648 ≤ a ∧ a < 2147483648) (kt : 0 < a → aw_W w M d P tgt L st h kc ks) (kf : a ≤ 0 → aw_W w M d P n L st h kc ks) : aw_W w M d P pc L (av_i a :: st) h kc ks := by
  intro p e R s m args below meth c Q hC hQ H locs cells slots ls hH hS hL hk1 hk2
  obtain ⟨hd, rfl⟩ := hd
  have hb : (-2147483648 : Int) ≤ 0 ∧ (0 : Int) < 2147483648 := by omega
  exact lv_if_gt hC.1 hC.2.1 hd ht (fun hc => kt ((ai_lt hb ha).mp hc) p e R s m args below meth c Q hC hQ H locs cells slots ls hH hS hL hk1 hk2) (fun hc => kf (Int.not_lt.mp (fun q => hc ((ai_lt hb ha).mpr q))) p e R s m args below meth c Q hC hQ H locs cells slots ls hH hS hL hk1 hk2)
theorem ag_icmp_le {w : aw_T} {M : am_T} {d : Nat} {P : ap_T} {pc n : Nat} {L : al_T} {st : List av_T} {h : ah_T} {kc ks : Nat} {a b off : Int} {tgt : Nat} (hd : ad_D M pc (.if_icmp .le off) 3 n) (ht : (pc : Int) + off = (tgt : Int)) (ha : -2147483648 ≤ a ∧ a < 2147483648) (hb : -2147483648 ≤ b ∧ b < 2147483648) (kt : a ≤ b → aw_W w M d P tgt L st h kc ks) (kf : b < a → aw_W w M d P n L st h kc ks) : aw_W w M d P pc L (av_i b :: av_i a :: st) h kc ks := by
  intro p e R s m args below meth c Q hC hQ H locs cells slots ls hH hS hL hk1 hk2
  obtain ⟨hd, rfl⟩ := hd
  exact lv_icmp_le hC.1 hC.2.1 hd ht (fun hc => kt ((ai_le ha hb).mp hc) p e R s m args below meth c Q hC hQ H locs cells slots ls hH hS hL hk1 hk2) (fun hc => kf (Int.not_le.mp (fun q => hc ((ai_le ha hb).mpr q))) p e R s m args below meth c Q hC hQ H locs cells slots ls hH hS hL hk1 hk2)
theorem ag_if_le {w : aw_T} {M : am_T} {d : Nat} {P : ap_T} {pc n : Nat} {L : al_T} {st : List av_T} {h : ah_T} {kc ks : Nat} {a off : Int} {tgt : Nat} (hd : ad_D M pc (.ifCond .le off) 3 n) (ht : (pc : Int) + off = (tgt : Int)) (ha : -2147483648 ≤ a ∧ a < 2147483648) (kt : a ≤ 0 → aw_W w M d P tgt L st h kc ks) (kf : 0 < a → aw_W w M d P n L st h kc ks) : aw_W w M d P pc L (av_i a :: st) h kc ks := by
  intro p e R s m args below meth c Q hC hQ H locs cells slots ls hH hS hL hk1 hk2
  obtain ⟨hd, rfl⟩ := hd
  have hb : (-2147483648 : Int) ≤ 0 ∧ (0 : Int) < 2147483648 := by omega
  exact lv_if_le hC.1 hC.2.1 hd ht (fun hc => kt ((ai_le ha hb).mp hc) p e R s m args below meth c Q hC hQ H locs cells slots ls hH hS hL hk1 hk2) (fun hc => kf (Int.not_le.mp (fun q => hc ((ai_le ha hb).mpr q))) p e R s m args below meth c Q hC hQ H locs cells slots ls hH hS hL hk1 hk2)
theorem ag_goto {w : aw_T} {M : am_T} {d : Nat} {P : ap_T} {pc n : Nat} {L : al_T} {st : List av_T} {h : ah_T} {kc ks : Nat} {off : Int} {tgt : Nat} (hd : ad_D M pc (.goto off) 3 n) (ht : (pc : Int) + off = (tgt : Int)) (k : aw_W w M d P tgt L st h kc ks) : aw_W w M d P pc L st h kc ks := by
  intro p e R s m args below meth c Q hC hQ H locs cells slots ls hH hS hL hk1 hk2
  obtain ⟨hd, rfl⟩ := hd
  exact lv_goto hC.1 hC.2.1 hd ht (k p e R s m args below meth c Q hC hQ H locs cells slots ls hH hS hL hk1 hk2)
theorem ag_ifnull {w : aw_T} {M : am_T} {d : Nat} {P : ap_T} {pc n : Nat} {L : al_T} {st : List av_T} {h : ah_T} {kc ks : Nat} {q : Option Nat} {off : Int} {tgt : Nat} (hd : ad_D M pc (.ifnull off) 3 n) (ht : (pc : Int) + off = (tgt : Int)) (kt : q = none → aw_W w M d P tgt L st h kc ks) (kf : ∀ a, q = some a → aw_W w M d P n L st h kc ks) : aw_W w M d P pc L (av_q q :: st) h kc ks := by
  intro p e R s m args below meth c Q hC hQ H locs cells slots ls hH hS hL hk1 hk2
  obtain ⟨hd, rfl⟩ := hd
  rcases q with _ | q
  · exact lv_ifnullN hC.1 hC.2.1 hd ht (kt rfl p e R s m args below meth c Q hC hQ H locs cells slots ls hH hS hL hk1 hk2)
  · exact lv_ifnull hC.1 hC.2.1 hd (kf q rfl p e R s m args below meth c Q hC hQ H locs cells slots ls hH hS hL hk1 hk2)
theorem ag_ifnonnull {w : aw_T} {M : am_T} {d : Nat} {P : ap_T} {pc n : Nat} {L : al_T} {st : List av_T} {h : ah_T} {kc ks : Nat} {q : Option Nat} {off : Int} {tgt : Nat} (hd : ad_D M pc (.ifnonnull off) 3 n) (ht : (pc : Int) + off = (tgt : Int)) (kt : ∀ a, q = some a → aw_W w M d P tgt L st h kc ks) (kf : q = none → aw_W w M d P n L st h kc ks) : aw_W w M d P pc L (av_q q :: st) h kc ks := by
  intro p e R s m args below meth c Q hC hQ H locs cells slots ls hH hS hL hk1 hk2
  obtain ⟨hd, rfl⟩ := hd
  rcases q with _ | q
  · exact lv_ifnonnullN hC.1 hC.2.1 hd (kf rfl p e R s m args below meth c Q hC hQ H locs cells slots ls hH hS hL hk1 hk2)
  · exact lv_ifnonnull hC.1 hC.2.1 hd ht (kt q rfl p e R s m args below meth c Q hC hQ H locs cells slots ls hH hS hL hk1 hk2)
theorem ag_tabIn {w : aw_T} {M : am_T} {d : Nat} {P : ap_T} {pc n : Nat} {L : al_T} {st : List av_T} {h : ah_T} {kc ks : Nat} {a dflt lo hi off : Int} {offs : Array Int} {len tgt : Nat} (hd : ad_D M pc (.tableswitch dflt lo hi offs) len n) (ha : -2147483648 ≤ a ∧ a < 2147483648) (h1 : lo ≤ a) (h2 : a ≤ hi) (ho : offs[(a - lo).toNat]? = some off) (ht : (pc : Int) + off = (tgt : Int)) (k : aw_W w M d P tgt L st h kc ks) : aw_W w M d P pc L (av_i a :: st) h kc ks := by
  intro p e R s m args below meth c Q hC hQ H locs cells slots ls hH hS hL hk1 hk2
  obtain ⟨hd, rfl⟩ := hd
  have et := ai_t ha
  exact lv_tableIn hC.1 hC.2.1 hd (by rw [et]; omega) (by rw [et]; omega) (by rw [et]; exact ho) ht (k p e R s m args below meth c Q hC hQ H locs cells slots ls hH hS hL hk1 hk2)
theorem ag_tabOut {w : aw_T} {M : am_T} {d : Nat} {P : ap_T} {pc n : Nat} {L : al_T} {st : List av_T} {h : ah_T} {kc ks : Nat} {a dflt lo hi : Int} {offs : Array Int} {len tgt : Nat} (hd : ad_D M pc (.tableswitch dflt lo hi offs) len n) (ha : -2147483648 ≤ a ∧ a < 2147483648) (h1 : a < lo ∨ hi < a) (ht : (pc : Int) + dflt = (tgt : Int)) (k : aw_W w M d P tgt L st h kc ks) : aw_W w M d P pc L (av_i a :: st) h kc ks := by
  intro p e R s m args below meth c Q hC hQ H locs cells slots ls hH hS hL hk1 hk2
  obtain ⟨hd, rfl⟩ := hd
  have et := ai_t ha
  exact lv_tableOut hC.1 hC.2.1 hd (by rw [et]; exact h1) ht (k p e R s m args below meth c Q hC hQ H locs cells slots ls hH hS hL hk1 hk2)
theorem ag_lookup {w : aw_T} {M : am_T} {d : Nat} {P : ap_T} {pc n : Nat} {L : al_T} {st : List av_T} {h : ah_T} {kc ks : Nat} {a dflt off : Int} {ps : Array (Int × Int)} {len tgt : Nat} (hd : ad_D M pc (.lookupswitch dflt ps) len n) (ha : -2147483648 ≤ a ∧ a < 2147483648) (hp : (ps.toList.zip (ps.toList.drop 1)).all (fun (a, next) => a.1 < next.1) = true) (ho : Op.lookupswitch.offset ps.toList dflt a = off) (ht : (pc : Int) + off = (tgt : Int)) (k : aw_W w M d P tgt L st h kc ks) : aw_W w M d P pc L (av_i a :: st) h kc ks := by
  intro p e R s m args below meth c Q hC hQ H locs cells slots ls hH hS hL hk1 hk2
  obtain ⟨hd, rfl⟩ := hd
  have et := ai_t ha
  exact lv_lookup hC.1 hC.2.1 hd hp (by rw [et]; exact ho) ht (k p e R s m args below meth c Q hC hQ H locs cells slots ls hH hS hL hk1 hk2)
theorem ag_iret {w : aw_T} {M : am_T} {d : Nat} {P : ap_T} {pc n : Nat} {L : al_T} {h : ah_T} {kc ks : Nat} {a : Int} (hd : ad_D M pc .ireturn 1 n) (hr : M.2.2.2 = some .int) (hP : P (some (av_i a)) h) : aw_W w M d P pc L [av_i a] h kc ks := by
  intro p e R s m args below meth c Q hC hQ H locs cells slots ls hH hS hL hk1 hk2
  exact hQ H locs cells slots ls pc (some (av_i a)) h hH hS hP (by omega) (by omega) (Or.inl ⟨a, rfl, hd.1, Or.inl hr⟩)
theorem ag_zret {w : aw_T} {M : am_T} {d : Nat} {P : ap_T} {pc n : Nat} {L : al_T} {h : ah_T} {kc ks : Nat} {a : Int} (hd : ad_D M pc .ireturn 1 n) (hr : M.2.2.2 = some .boolean) (hz : a = 0 ∨ a = 1) (hP : P (some (av_i a)) h) : aw_W w M d P pc L [av_i a] h kc ks := by
  intro p e R s m args below meth c Q hC hQ H locs cells slots ls hH hS hL hk1 hk2
  exact hQ H locs cells slots ls pc (some (av_i a)) h hH hS hP (by omega) (by omega) (Or.inl ⟨a, rfl, hd.1, Or.inr ⟨hr, hz⟩⟩)
theorem ag_lret {w : aw_T} {M : am_T} {d : Nat} {P : ap_T} {pc n : Nat} {L : al_T} {h : ah_T} {kc ks : Nat} {a : Int} (hd : ad_D M pc .lreturn 1 n) (hr : M.2.2.2 = some .long) (hP : P (some (av_l a)) h) : aw_W w M d P pc L [av_l a] h kc ks := by
  intro p e R s m args below meth c Q hC hQ H locs cells slots ls hH hS hL hk1 hk2
  exact hQ H locs cells slots ls pc (some (av_l a)) h hH hS hP (by omega) (by omega) (Or.inr (Or.inl ⟨a, rfl, hd.1, hr⟩))
theorem ag_vret {w : aw_T} {M : am_T} {d : Nat} {P : ap_T} {pc n : Nat} {L : al_T} {h : ah_T} {kc ks : Nat} (hd : ad_D M pc .return_ 1 n) (hr : M.2.2.2 = none) (hP : P (none) h) : aw_W w M d P pc L [] h kc ks := by
  intro p e R s m args below meth c Q hC hQ H locs cells slots ls hH hS hL hk1 hk2
  exact hQ H locs cells slots ls pc (none) h hH hS hP (by omega) (by omega) (Or.inr (Or.inr (Or.inr ⟨rfl, hd.1, hr⟩)))
theorem ag_aret {w : aw_T} {M : am_T} {d : Nat} {P : ap_T} {pc n : Nat} {L : al_T} {h : ah_T} {kc ks : Nat} {q : Option Nat} {nm : String} (hd : ad_D M pc .areturn 1 n) (hr : M.2.2.2 = some (.object nm)) (hP : P (some (av_q q)) h) : aw_W w M d P pc L [av_q q] h kc ks := by
  intro p e R s m args below meth c Q hC hQ H locs cells slots ls hH hS hL hk1 hk2
  exact hQ H locs cells slots ls pc (some (av_q q)) h hH hS hP (by omega) (by omega) (Or.inr (Or.inr (Or.inl ⟨q, rfl, hd.1, nm, hr⟩)))
end
section
-- ===== the heap: fields, arrays, new objects =====
theorem ah_one {w : aw_T} {h : ah_T} {H : Heap} {a : Nat} {c : ac_T} (hR : ah_R w h H) (hc : h[a]? = some c) : va_P (aw_D w) cs_all [(aw_o w + a, ac_E w c)] H := by
  intro k q hk
  have hz : k < 1 := (List.getElem?_eq_some_iff.mp hk).1
  rw [show k = 0 by omega] at hk
  cases hk
  exact hR.2 a c hc
/-- getfield 'idx' of a method of class cls reads field k of a cell of class ci -/
def af_ok (cls : String) (idx ci k : Nat) : Prop := ∃ (C : String) (T : u_T) (N : Nat), cs_all[ci]? = some (C, T, N) ∧ k < N ∧ (∀ x ∈ u_ws C T N, x ∈ tt_g) ∧ ((Cond.fieldLink cls idx (T k).1 (T k).2.1 (T k).2.2.1 ∈ tt_g) ∨ ∃ host, Cond.fieldLinkNest cls idx (T k).1 (T k).2.1 (T k).2.2.1 host ∈ tt_n)
theorem ag_get {w : aw_T} {M : am_T} {d : Nat} {P : ap_T} {pc n : Nat} {L : al_T} {st : List av_T} {h : ah_T} {kc ks : Nat} {idx ci k a : Nat} {fs : List av_T} {v : av_T} (hd : ad_D M pc (.getfield idx) 3 n) (hf : af_ok M.1.cls idx ci k) (hc : h[a]? = some (ac_o ci fs)) (hv : fs[k]? = some v) (kk : aw_W w M d P n L (v :: st) h kc ks) : aw_W w M d P pc L (av_r a :: st) h kc ks := by
  intro p e R s m args below meth c Q hC hQ H locs cells slots ls hH hS hL hk1 hk2
  obtain ⟨hd, rfl⟩ := hd
  have kw := kk p e R s m args below meth c Q hC hQ H locs cells slots ls hH hS hL hk1 hk2
  obtain ⟨hx, hb, hr, hml, hown, hts, hK, -⟩ := hC
  obtain ⟨C, T, N, hcl, hkN, hin, hlk⟩ := hf
  have hv2 : (fs.map (av_v w))[k]? = some (av_v w v) := by rw [List.getElem?_map, hv]; rfl
  rcases hlk with hlk | ⟨host, hlk⟩
  · exact va_get hx hb hts hin hown hK.1 (ah_one hH hc) 0 rfl hcl k hkN (hts _ hlk) (fun _ q => q) hv2 hd kw
  · exact va_getN hx hb hts hin hown hK.1 (ah_one hH hc) 0 rfl hcl k hkN (va_Nw.use rfl (hK.2 _ hlk)) (fun _ q => q) hv2 hd kw
/-- putfield 'idx': the field's type, and whether it is final -/
def af_put (cls mname : String) (idx ci k : Nat) (ty : FieldType) : Prop := ∃ (C : String) (T : u_T) (N : Nat) (ty0 : Nat → FieldType), cs_all[ci]? = some (C, T, N) ∧ k < N ∧ (∀ x ∈ u_ws C T N, x ∈ tt_g) ∧ (∀ k, k < N → parseFieldDescriptor (T k).2.2.1 = some (ty0 k)) ∧ (∀ a, a < N → ∀ b, b < N → a ≠ b → (T a).2.1 ≠ (T b).2.1) ∧ ty0 k = ty ∧
  (((T k).2.2.2 = false ∧ ((Cond.fieldLink cls idx (T k).1 (T k).2.1 (T k).2.2.1 ∈ tt_g) ∨ ∃ host, Cond.fieldLinkNest cls idx (T k).1 (T k).2.1 (T k).2.2.1 host ∈ tt_n)) ∨
   ((T k).2.2.2 = true ∧ mname = "<init>" ∧ (T k).1 = cls ∧ (Cond.fieldLink cls idx (T k).1 (T k).2.1 (T k).2.2.1 ∈ tt_g)))
theorem ag_putV {w : aw_T} {M : am_T} {d : Nat} {P : ap_T} {pc n : Nat} {L : al_T} {st : List av_T} {h : ah_T} {kc ks : Nat} {idx ci k a : Nat} {fs : List av_T} {v : av_T} {ty : FieldType} (hd : ad_D M pc (.putfield idx) 3 n) (hf : af_put M.1.cls M.1.name idx ci k ty) (hc : h[a]? = some (ac_o ci fs)) (hl : k < fs.length) (hn : narrow ty (av_v w v) = av_v w v) (hfit : fits ty (av_v w v) = true) (kk : aw_W w M d P n L st (h.set a (ac_o ci (fs.set k v))) kc ks) : aw_W w M d P pc L (v :: av_r a :: st) h kc ks := by
  intro p e R s m args below meth c Q hC hQ H locs cells slots ls hH hS hL hk1 hk2
  obtain ⟨hd, rfl⟩ := hd
  have hC0 := hC
  obtain ⟨hx, hb, hr, hml, hown, hts, hK, hlks, hnm, -⟩ := hC
  obtain ⟨C, T, N, ty0, hcl, hkN, hin, hty, hnn, hte, hlk⟩ := hf
  have hap := va_apart (own := M.1.cls) hts hin ty0 hty hnn hK.1 hcl
  have hat := hH.2 a _ hc
  have hat0 := hat
  obtain ⟨r, h1, cell, q1, q2, q3, q4⟩ := hat
  have hr2 : r = (C, T, N) := Option.some.inj (h1.symm.trans hcl)
  subst hr2
  obtain ⟨hSl, hfc, kC, hkC, hkind⟩ := hK.1.1 ci _ hcl
  obtain ⟨cf, kf, fi, f, hi, hsl⟩ := hSl k hkN
  have hst := (u_facts hfc hkC (u_lays hts hin hkN) hi).1
  have hpt : parseFieldDescriptor (T k).2.2.1 = some ty := by rw [hty k hkN, hte]
  have hlay := hts _ (hin _ (u_in_lay hkN))
  have fin : ∀ H' : Heap, H'[aw_o w + a]? = some (cell.setSlot f.slot (av_v w v)) → H'.size = H.size → (∀ q, q ≠ aw_o w + a → H'[q]? = H[q]?) → W p (aw_l w) e R s m args below meth c H' (locs ++ [⟨aw_o w + a, f.slot⟩]) cells slots Q (F0 m (pc + 3) ls (st.map (av_v w))) := by
    intro H' e1 e2 e3
    rw [hsl] at e1 ⊢
    have hat2 : va_at (aw_D w) cs_all (aw_o w + a, ac_E w (ac_o ci (fs.set k v))) H' := by
      refine ⟨_, hcl, ?_⟩
      have hl2 : k < (fs.map (av_v w)).length := by rw [List.length_map]; exact hl
      refine t_OB.to (V := updV (vp_V (fs.map (av_v w))) k (av_v w v)) ⟨_, e1, q2, q3, t_set q4 hap hkN (av_v w v)⟩ (fun j _ => ?_)
      rw [vp_updV_set hl2 (av_v w v) j]
      show vp_V _ j = vp_V ((fs.set k v).map (av_v w)) j
      rw [List.map_set]
    exact kk p e R s m args below meth c Q hC0 hQ H' _ cells slots ls (ah_set hH hc hat2 e2 e3) (hS.put e2 e3 (by show aw_o w ≤ aw_o w + a; omega)) hL hk1 hk2
  unfold u_lay at hlay
  rcases hlk with ⟨hfin, hlk⟩ | ⟨hfin, hin2, hdecl, hlk⟩
  · rw [if_neg (by rw [hfin]; decide)] at hlay
    have h6 := u_store hfc hkC hkind hlay hi hpt hn hfit
    rcases hlk with hlk | ⟨host, hlk⟩
    · exact W.putK hx hb (f := f) ⟨hown, hts _ hlk, ⟨_, _, _, hi⟩, hst⟩ (by rw [q2]; exact h6) q1 q3 (by rw [hsl]; exact k2_hasslot (q4 k hkN)) rfl rfl hd fin
    · exact va_WputK hx hb (f := f) hown (va_Nw.use rfl (hK.2 _ hlk)) hi hst (by rw [q2]; exact h6) q1 q3 (by rw [hsl]; exact k2_hasslot (q4 k hkN)) rfl rfl hd fin
  · rw [if_pos hfin] at hlay
    have hcf : m.cls = cf := by
      obtain ⟨_, _, c', _, _, _, -, -, hf', -, -, -, hown2, -⟩ := Cond.laysFinal_spec hlay
      have e1 : c' = cf := by have := hi.symm.trans hf'; simp at this; exact this.1.symm
      rw [hdecl] at hown2
      rw [← e1]; exact Option.some.inj (hown.symm.trans hown2)
    have h6 := u_fits hfc hkC hkind (Or.inr hlay) hi hpt hn hfit
    exact W.putFinK hx hb hown (hts _ hlk) hi hst hcf (hnm.trans hin2) (by rw [q2]; exact h6) q1 q3 (by rw [hsl]; exact k2_hasslot (q4 k hkN)) rfl rfl hd fin
theorem ag_puti {w : aw_T} {M : am_T} {d : Nat} {P : ap_T} {pc n : Nat} {L : al_T} {st : List av_T} {h : ah_T} {kc ks : Nat} {idx ci k a : Nat} {fs : List av_T} {x : Int} (hd : ad_D M pc (.putfield idx) 3 n) (hf : af_put M.1.cls M.1.name idx ci k .int) (hc : h[a]? = some (ac_o ci fs)) (hl : k < fs.length) (kk : aw_W w M d P n L st (h.set a (ac_o ci (fs.set k (av_i x)))) kc ks) : aw_W w M d P pc L (av_i x :: av_r a :: st) h kc ks := ag_putV hd hf hc hl rfl rfl kk
theorem ag_putz {w : aw_T} {M : am_T} {d : Nat} {P : ap_T} {pc n : Nat} {L : al_T} {st : List av_T} {h : ah_T} {kc ks : Nat} {idx ci k a : Nat} {fs : List av_T} {x : Int} (hd : ad_D M pc (.putfield idx) 3 n) (hf : af_put M.1.cls M.1.name idx ci k .boolean) (hc : h[a]? = some (ac_o ci fs)) (hl : k < fs.length) (hz : x = 0 ∨ x = 1) (kk : aw_W w M d P n L st (h.set a (ac_o ci (fs.set k (av_i x)))) kc ks) : aw_W w M d P pc L (av_i x :: av_r a :: st) h kc ks := ag_putV hd hf hc hl (by rcases hz with rfl | rfl <;> rfl) (by rcases hz with rfl | rfl <;> rfl) kk
theorem ag_putl {w : aw_T} {M : am_T} {d : Nat} {P : ap_T} {pc n : Nat} {L : al_T} {st : List av_T} {h : ah_T} {kc ks : Nat} {idx ci k a : Nat} {fs : List av_T} {x : Int} (hd : ad_D M pc (.putfield idx) 3 n) (hf : af_put M.1.cls M.1.name idx ci k .long) (hc : h[a]? = some (ac_o ci fs)) (hl : k < fs.length) (kk : aw_W w M d P n L st (h.set a (ac_o ci (fs.set k (av_l x)))) kc ks) : aw_W w M d P pc L (av_l x :: av_r a :: st) h kc ks := ag_putV hd hf hc hl rfl rfl kk
theorem ag_puto {w : aw_T} {M : am_T} {d : Nat} {P : ap_T} {pc n : Nat} {L : al_T} {st : List av_T} {h : ah_T} {kc ks : Nat} {idx ci k a : Nat} {fs : List av_T} {q : Option Nat} {nm : String} (hd : ad_D M pc (.putfield idx) 3 n) (hf : af_put M.1.cls M.1.name idx ci k (.object nm)) (hc : h[a]? = some (ac_o ci fs)) (hl : k < fs.length) (kk : aw_W w M d P n L st (h.set a (ac_o ci (fs.set k (av_q q)))) kc ks) : aw_W w M d P pc L (av_q q :: av_r a :: st) h kc ks := ag_putV hd hf hc hl (by rcases q with _ | q <;> rfl) (by rcases q with _ | q <;> rfl) kk
theorem ag_puta {w : aw_T} {M : am_T} {d : Nat} {P : ap_T} {pc n : Nat} {L : al_T} {st : List av_T} {h : ah_T} {kc ks : Nat} {idx ci k a : Nat} {fs : List av_T} {q : Option Nat} {ty : FieldType} (hd : ad_D M pc (.putfield idx) 3 n) (hf : af_put M.1.cls M.1.name idx ci k (.array ty)) (hc : h[a]? = some (ac_o ci fs)) (hl : k < fs.length) (kk : aw_W w M d P n L st (h.set a (ac_o ci (fs.set k (av_q q)))) kc ks) : aw_W w M d P pc L (av_q q :: av_r a :: st) h kc ks := ag_putV hd hf hc hl (by rcases q with _ | q <;> rfl) (by rcases q with _ | q <;> rfl) kk
-- arrays: reading
def ai_up {α : Type} (f : Nat → α) (k : Nat) (v : α) : Nat → α := fun j => if j = k then v else f j
theorem ai_up_s {α : Type} (f : Nat → α) (k : Nat) (v : α) : ai_up f k v k = v := if_pos rfl
theorem ai_up_n {α : Type} (f : Nat → α) {k j : Nat} (v : α) (h : j ≠ k) : ai_up f k v j = f j := if_neg h
theorem ag_iald {w : aw_T} {M : am_T} {d : Nat} {P : ap_T} {pc n : Nat} {L : al_T} {st : List av_T} {h : ah_T} {kc ks : Nat} {a N : Nat} {f : Nat → Int} {i : Int} (hd : ad_D M pc .iaload 1 n) (hc : h[a]? = some (ac_a 0 N f)) (hN : N ≤ 2147483648) (hi : 0 ≤ i ∧ i < N) (kk : aw_W w M d P n L (av_i (f i.toNat) :: st) h kc ks) : aw_W w M d P pc L (av_i i :: av_r a :: st) h kc ks := by
  intro p e R s m args below meth c Q hC hQ H locs cells slots ls hH hS hL hk1 hk2
  obtain ⟨hd, rfl⟩ := hd
  have kw := kk p e R s m args below meth c Q hC hQ H locs cells slots ls hH hS hL hk1 hk2
  obtain ⟨hin, hcl⟩ := ai_in hi hN
  refine va_iald hC.1 hC.2.1 hC.2.2.2.2.2.2.1.1 (ah_one hH hc) 0 0 rfl rfl hin hd ?_
  rw [hcl]
  exact kw
theorem ag_bald {w : aw_T} {M : am_T} {d : Nat} {P : ap_T} {pc n : Nat} {L : al_T} {st : List av_T} {h : ah_T} {kc ks : Nat} {a N : Nat} {f : Nat → Int} {i : Int} (hd : ad_D M pc .baload 1 n) (hc : h[a]? = some (ac_a 1 N f)) (hN : N ≤ 2147483648) (hi : 0 ≤ i ∧ i < N) (kk : aw_W w M d P n L (av_i (f i.toNat) :: st) h kc ks) : aw_W w M d P pc L (av_i i :: av_r a :: st) h kc ks := by
  intro p e R s m args below meth c Q hC hQ H locs cells slots ls hH hS hL hk1 hk2
  obtain ⟨hd, rfl⟩ := hd
  have kw := kk p e R s m args below meth c Q hC hQ H locs cells slots ls hH hS hL hk1 hk2
  obtain ⟨hin, hcl⟩ := ai_in hi hN
  refine va_bald hC.1 hC.2.1 hC.2.2.2.2.2.2.1.1 (ah_one hH hc) 0 1 rfl rfl hin hd ?_
  rw [hcl]
  exact kw
theorem ag_zald {w : aw_T} {M : am_T} {d : Nat} {P : ap_T} {pc n : Nat} {L : al_T} {st : List av_T} {h : ah_T} {kc ks : Nat} {a N : Nat} {f : Nat → Int} {i : Int} (hd : ad_D M pc .baload 1 n) (hc : h[a]? = some (ac_a 2 N f)) (hN : N ≤ 2147483648) (hi : 0 ≤ i ∧ i < N) (kk : aw_W w M d P n L (av_i (f i.toNat) :: st) h kc ks) : aw_W w M d P pc L (av_i i :: av_r a :: st) h kc ks := by
  intro p e R s m args below meth c Q hC hQ H locs cells slots ls hH hS hL hk1 hk2
  obtain ⟨hd, rfl⟩ := hd
  have kw := kk p e R s m args below meth c Q hC hQ H locs cells slots ls hH hS hL hk1 hk2
  obtain ⟨hin, hcl⟩ := ai_in hi hN
  refine va_zald hC.1 hC.2.1 hC.2.2.2.2.2.2.1.1 (ah_one hH hc) 0 2 rfl rfl hin hd ?_
  rw [hcl]
  exact kw
theorem ag_lald {w : aw_T} {M : am_T} {d : Nat} {P : ap_T} {pc n : Nat} {L : al_T} {st : List av_T} {h : ah_T} {kc ks : Nat} {a N : Nat} {f : Nat → Int} {i : Int} (hd : ad_D M pc .laload 1 n) (hc : h[a]? = some (ac_l N f)) (hN : N ≤ 2147483648) (hi : 0 ≤ i ∧ i < N) (kk : aw_W w M d P n L (av_l (f i.toNat) :: st) h kc ks) : aw_W w M d P pc L (av_i i :: av_r a :: st) h kc ks := by
  intro p e R s m args below meth c Q hC hQ H locs cells slots ls hH hS hL hk1 hk2
  obtain ⟨hd, rfl⟩ := hd
  have kw := kk p e R s m args below meth c Q hC hQ H locs cells slots ls hH hS hL hk1 hk2
  obtain ⟨hin, hcl⟩ := ai_in hi hN
  refine va_lald hC.1 hC.2.1 hC.2.2.2.2.2.2.1.1 (ah_one hH hc) 0 3 rfl rfl hin hd ?_
  rw [hcl]
  exact kw
theorem ag_aald {w : aw_T} {M : am_T} {d : Nat} {P : ap_T} {pc n : Nat} {L : al_T} {st : List av_T} {h : ah_T} {kc ks : Nat} {a N : Nat} {f : Nat → Option Nat} {i : Int} (hd : ad_D M pc .aaload 1 n) (hc : h[a]? = some (ac_q N f)) (hN : N ≤ 2147483648) (hi : 0 ≤ i ∧ i < N) (kk : aw_W w M d P n L (av_q (f i.toNat) :: st) h kc ks) : aw_W w M d P pc L (av_i i :: av_r a :: st) h kc ks := by
  intro p e R s m args below meth c Q hC hQ H locs cells slots ls hH hS hL hk1 hk2
  obtain ⟨hd, rfl⟩ := hd
  have kw := kk p e R s m args below meth c Q hC hQ H locs cells slots ls hH hS hL hk1 hk2
  obtain ⟨hin, hcl⟩ := ai_in hi hN
  have hlt : (Int32.ofInt i).toNatClampNeg < N := Nat.not_le.mp fun q => hin (Or.inr q)
  have hat : H[aw_o w + a]? = some (vp_cell (aw_A w 4) (N, .inr (.inr (.inr (.inr (fun j => (f j).map (fun k => aw_o w + k))))))) := hH.2 a _ hc
  have hv : va_rf ((f i.toNat).map (fun k => aw_o w + k)) = av_v w (av_q (f i.toNat)) := by cases f i.toNat <;> rfl
  refine W.aald (v := av_v w (av_q (f i.toNat))) (ty := .array .int) hC.1 hC.2.1 hat (((hC.2.2.2.2.2.2.1.1).2 4 _ rfl).1 N (fun j => va_rf ((f j).map (fun k => aw_o w + k)))) rfl (fun q => by cases q) (by show ¬ (_ ∨ (arrV _ _ _).slots.size ≤ _); rw [arrV_size]; exact hin) ?_ rfl rfl hd kw
  show (arrV _ _ _).slots[_]? = _
  rw [arrV_read _ _ hlt, hcl, hv]
-- arrays: writing
theorem ag_st {w : aw_T} {h : ah_T} {H H1 : Heap} {a : Nat} {c0 : ac_T} {cA : ClassId} {z : vp_A} {c' : ac_T} (hR : ah_R w h H) (hc : h[a]? = some c0) (he : ac_E w c' = .inl (cA, z)) (h1 : H1[aw_o w + a]? = some (vp_cell cA z)) (hz : H1.size = H.size) (ho : ∀ q : Nat, q ≠ aw_o w + a → H1[q]? = H[q]?) : ah_R w (h.set a c') H1 := by
  refine ah_set hR hc ?_ hz ho
  show va_at _ _ (_, ac_E w c') H1
  rw [he]
  exact h1
theorem ag_iast {w : aw_T} {M : am_T} {d : Nat} {P : ap_T} {pc n : Nat} {L : al_T} {st : List av_T} {h : ah_T} {kc ks : Nat} {a N : Nat} {f : Nat → Int} {i x : Int} (hd : ad_D M pc .iastore 1 n) (hc : h[a]? = some (ac_a 0 N f)) (hN : N ≤ 2147483648) (hi : 0 ≤ i ∧ i < N) (kk : aw_W w M d P n L st (h.set a (ac_a 0 N (ai_up f i.toNat x))) kc ks) : aw_W w M d P pc L (av_i x :: av_i i :: av_r a :: st) h kc ks := by
  intro p e R s m args below meth c Q hC hQ H locs cells slots ls hH hS hL hk1 hk2
  obtain ⟨hd, rfl⟩ := hd
  obtain ⟨hin, hcl⟩ := ai_in hi hN
  have hat : H[aw_o w + a]? = some (vp_cell (aw_A w 0) (N, .inl (fun j => Int32.ofInt (f j)))) := hH.2 a _ hc
  refine W.iast hC.1 hC.2.1 hat (((hC.2.2.2.2.2.2.1.1).2 0 _ rfl).1 N _) (fun q => by cases q) (by show ¬ (_ ∨ (arrV _ _ _).slots.size ≤ _); rw [arrV_size]; exact hin) rfl rfl hd fun H1 e1 z oq => ?_
  refine kk p e R s m args below meth c Q hC hQ H1 _ cells slots ls (ag_st (z := (N, .inl (fun j => Int32.ofInt (ai_up f i.toNat x j)))) hH hc rfl ?_ z oq) (hS.put z oq (by show aw_o w ≤ aw_o w + a; omega)) hL hk1 hk2
  rw [e1, vp_cell_i, vp_cell_i, arrV_store, hcl]
  congr 2
  funext q
  by_cases hq : q = i.toNat <;> simp [updV, ai_up, hq]
theorem ag_last {w : aw_T} {M : am_T} {d : Nat} {P : ap_T} {pc n : Nat} {L : al_T} {st : List av_T} {h : ah_T} {kc ks : Nat} {a N : Nat} {f : Nat → Int} {i x : Int} (hd : ad_D M pc .lastore 1 n) (hc : h[a]? = some (ac_l N f)) (hN : N ≤ 2147483648) (hi : 0 ≤ i ∧ i < N) (kk : aw_W w M d P n L st (h.set a (ac_l N (ai_up f i.toNat x))) kc ks) : aw_W w M d P pc L (av_l x :: av_i i :: av_r a :: st) h kc ks := by
  intro p e R s m args below meth c Q hC hQ H locs cells slots ls hH hS hL hk1 hk2
  obtain ⟨hd, rfl⟩ := hd
  obtain ⟨hin, hcl⟩ := ai_in hi hN
  have hat : H[aw_o w + a]? = some (vp_cell (aw_A w 3) (N, .inr (.inl (fun j => Int64.ofInt (f j))))) := hH.2 a _ hc
  refine W.last hC.1 hC.2.1 hat (((hC.2.2.2.2.2.2.1.1).2 3 _ rfl).1 N _) (fun q => by cases q) (by show ¬ (_ ∨ (arrV _ _ _).slots.size ≤ _); rw [arrV_size]; exact hin) rfl rfl hd fun H1 e1 z oq => ?_
  refine kk p e R s m args below meth c Q hC hQ H1 _ cells slots ls (ag_st (z := (N, .inr (.inl (fun j => Int64.ofInt (ai_up f i.toNat x j))))) hH hc rfl ?_ z oq) (hS.put z oq (by show aw_o w ≤ aw_o w + a; omega)) hL hk1 hk2
  rw [e1, vp_cell_l, vp_cell_l, arrV_store, hcl]
  congr 2
  funext q
  by_cases hq : q = i.toNat <;> simp [updV, ai_up, hq]
/-- a byte: what is kept of an int -/
def ai_8 (x : Int) : Int := (Int32.ofInt x).toInt8.toInt32.toInt
theorem ag_bast {w : aw_T} {M : am_T} {d : Nat} {P : ap_T} {pc n : Nat} {L : al_T} {st : List av_T} {h : ah_T} {kc ks : Nat} {a N : Nat} {f : Nat → Int} {i x : Int} (hd : ad_D M pc .bastore 1 n) (hc : h[a]? = some (ac_a 1 N f)) (hN : N ≤ 2147483648) (hi : 0 ≤ i ∧ i < N) (kk : aw_W w M d P n L st (h.set a (ac_a 1 N (ai_up f i.toNat (ai_8 x)))) kc ks) : aw_W w M d P pc L (av_i x :: av_i i :: av_r a :: st) h kc ks := by
  intro p e R s m args below meth c Q hC hQ H locs cells slots ls hH hS hL hk1 hk2
  obtain ⟨hd, rfl⟩ := hd
  obtain ⟨hin, hcl⟩ := ai_in hi hN
  have hat : H[aw_o w + a]? = some (vp_cell (aw_A w 1) (N, .inl (fun j => Int32.ofInt (f j)))) := hH.2 a _ hc
  refine W.bast hC.1 hC.2.1 hat (((hC.2.2.2.2.2.2.1.1).2 1 _ rfl).1 N _) (fun q => by cases q) (by show ¬ (_ ∨ (arrV _ _ _).slots.size ≤ _); rw [arrV_size]; exact hin) rfl rfl hd fun H1 e1 z oq => ?_
  refine kk p e R s m args below meth c Q hC hQ H1 _ cells slots ls (ag_st (z := (N, .inl (fun j => Int32.ofInt (ai_up f i.toNat (ai_8 x) j)))) hH hc rfl ?_ z oq) (hS.put z oq (by show aw_o w ≤ aw_o w + a; omega)) hL hk1 hk2
  rw [e1, vp_cell_i, vp_cell_i, arrV_store, hcl]
  congr 2
  funext q
  by_cases hq : q = i.toNat
  · simp only [updV, ai_up, ai_8, hq, if_true, Int32.ofInt_toInt]
    rfl
  · simp [updV, ai_up, hq]
theorem ag_zast {w : aw_T} {M : am_T} {d : Nat} {P : ap_T} {pc n : Nat} {L : al_T} {st : List av_T} {h : ah_T} {kc ks : Nat} {a N : Nat} {f : Nat → Int} {i x : Int} (hd : ad_D M pc .bastore 1 n) (hc : h[a]? = some (ac_a 2 N f)) (hN : N ≤ 2147483648) (hi : 0 ≤ i ∧ i < N) (hz : x = 0 ∨ x = 1) (kk : aw_W w M d P n L st (h.set a (ac_a 2 N (ai_up f i.toNat x))) kc ks) : aw_W w M d P pc L (av_i x :: av_i i :: av_r a :: st) h kc ks := by
  intro p e R s m args below meth c Q hC hQ H locs cells slots ls hH hS hL hk1 hk2
  obtain ⟨hd, rfl⟩ := hd
  obtain ⟨hin, hcl⟩ := ai_in hi hN
  have hat : H[aw_o w + a]? = some (vp_cell (aw_A w 2) (N, .inl (fun j => Int32.ofInt (f j)))) := hH.2 a _ hc
  refine W.zast hC.1 hC.2.1 hat (((hC.2.2.2.2.2.2.1.1).2 2 _ rfl).1 N _) (fun q => by cases q) (by show ¬ (_ ∨ (arrV _ _ _).slots.size ≤ _); rw [arrV_size]; exact hin) rfl rfl hd fun H1 e1 z oq => ?_
  refine kk p e R s m args below meth c Q hC hQ H1 _ cells slots ls (ag_st (z := (N, .inl (fun j => Int32.ofInt (ai_up f i.toNat x j)))) hH hc rfl ?_ z oq) (hS.put z oq (by show aw_o w ≤ aw_o w + a; omega)) hL hk1 hk2
  rw [e1, vp_cell_i, vp_cell_i, arrV_store, hcl]
  congr 2
  have hnx : narrow .boolean (.int (Int32.ofInt x)) = .int (Int32.ofInt x) := by rcases hz with rfl | rfl <;> rfl
  rw [hnx]
  funext q
  by_cases hq : q = i.toNat <;> simp [updV, ai_up, hq]
theorem ag_alen {w : aw_T} {M : am_T} {d : Nat} {P : ap_T} {pc n : Nat} {L : al_T} {st : List av_T} {h : ah_T} {kc ks : Nat} {a N t : Nat} {f : Nat → Int} (hd : ad_D M pc .arraylength 1 n) (hc : h[a]? = some (ac_a t N f)) (ht : t < 3) (kk : aw_W w M d P n L (av_i N :: st) h kc ks) : aw_W w M d P pc L (av_r a :: st) h kc ks := by
  intro p e R s m args below meth c Q hC hQ H locs cells slots ls hH hS hL hk1 hk2
  obtain ⟨hd, rfl⟩ := hd
  have kw := kk p e R s m args below meth c Q hC hQ H locs cells slots ls hH hS hL hk1 hk2
  have hv : Int32.ofNat N = Int32.ofInt (N : Int) := Int32.ofInt_eq_ofNat.symm
  rcases (show t = 0 ∨ t = 1 ∨ t = 2 by omega) with rfl | rfl | rfl
  · exact va_alen hC.1 hC.2.1 hC.2.2.2.2.2.2.1.1 (ah_one hH hc) 0 0 rfl rfl hv hd kw
  · exact va_alen hC.1 hC.2.1 hC.2.2.2.2.2.2.1.1 (ah_one hH hc) 0 1 rfl rfl hv hd kw
  · exact va_alen hC.1 hC.2.1 hC.2.2.2.2.2.2.1.1 (ah_one hH hc) 0 2 rfl rfl hv hd kw
-- the script
def aw_y (w : aw_T) (j : Nat) : Int := (aw_x w j).toInt
theorem aw_y_in (w : aw_T) (j : Nat) : -2147483648 ≤ aw_y w j ∧ aw_y w j < 2147483648 := ⟨by have := Int32.le_toInt (aw_x w j); unfold aw_y; omega, by have := Int32.toInt_lt (aw_x w j); unfold aw_y; omega⟩
theorem ag_sld {w : aw_T} {M : am_T} {d : Nat} {P : ap_T} {pc n : Nat} {L : al_T} {st : List av_T} {h : ah_T} {kc ks : Nat} {i : Int} (hd : ad_D M pc .iaload 1 n) (hN : aw_L w ≤ 2147483648) (hi : 0 ≤ i ∧ i < aw_L w) (kk : aw_W w M d P n L (av_i (aw_y w i.toNat) :: st) h kc ks) : aw_W w M d P pc L (av_i i :: av_s :: st) h kc ks := by
  intro p e R s m args below meth c Q hC hQ H locs cells slots ls hH hS hL hk1 hk2
  obtain ⟨hd, rfl⟩ := hd
  have kw := kk p e R s m args below meth c Q hC hQ H locs cells slots ls hH hS hL hk1 hk2
  obtain ⟨hin, hcl⟩ := ai_in hi hN
  obtain ⟨hx, hb, hr, hml, hown, hts, hK, hlk, hnm, -, -, hX, hbs⟩ := hC
  refine va_sld (A := aw_N w) hx hb hX.1 (Nat.lt_of_lt_of_le hX.2 hbs) (Nat.not_le.mpr hX.2) hS hin hd ?_
  rw [hcl]
  simp only [List.map_cons, av_v, aw_y, Int32.ofInt_toInt] at kw
  exact kw
theorem ag_slen {w : aw_T} {M : am_T} {d : Nat} {P : ap_T} {pc n : Nat} {L : al_T} {st : List av_T} {h : ah_T} {kc ks : Nat} (hd : ad_D M pc .arraylength 1 n) (kk : aw_W w M d P n L (av_i (aw_L w) :: st) h kc ks) : aw_W w M d P pc L (av_s :: st) h kc ks := by
  intro p e R s m args below meth c Q hC hQ H locs cells slots ls hH hS hL hk1 hk2
  obtain ⟨hd, rfl⟩ := hd
  have kw := kk p e R s m args below meth c Q hC hQ H locs cells slots ls hH hS hL hk1 hk2
  obtain ⟨hx, hb, hr, hml, hown, hts, hK, hlk, hnm, -, -, hX, hbs⟩ := hC
  refine va_slen (A := aw_N w) hx hb hX.1 (Nat.lt_of_lt_of_le hX.2 hbs) (Nat.not_le.mpr hX.2) hS hd ?_
  rw [show Int32.ofNat (aw_L w) = Int32.ofInt (aw_L w : Int) from Int32.ofInt_eq_ofNat.symm]
  exact kw
-- new objects and arrays
def an_ok (cls : String) (idx ci N : Nat) (fs : List av_T) : Prop := ∃ (C : String) (T : u_T) (ty : Nat → FieldType), cs_all[ci]? = some (C, T, N) ∧ (∀ x ∈ u_ws C T N, x ∈ tt_g) ∧ (∀ k, k < N → parseFieldDescriptor (T k).2.2.1 = some (ty k)) ∧ Cond.classLink cls idx C ∈ tt_g ∧ Cond.instantiable C N ∈ tt_g ∧ Cond.initialized C ∈ tt_g ∧ ∀ w : aw_T, ∀ j, j < N → defaultValue (ty j) = vp_V (fs.map (av_v w)) j
theorem ag_new {w : aw_T} {M : am_T} {d : Nat} {P : ap_T} {pc n : Nat} {L : al_T} {st : List av_T} {h : ah_T} {kc ks kc' ks' : Nat} {idx ci N : Nat} {fs : List av_T} (hd : ad_D M pc (.new idx) 3 n) (hw : an_ok M.1.cls idx ci N fs) (hkc : kc' + 1 ≤ kc) (hks : ks' + N ≤ ks) (kk : aw_W w M d P n L (av_r h.length :: st) (h ++ [ac_o ci fs]) kc' ks') : aw_W w M d P pc L st h kc ks := by
  intro p e R s m args below meth c Q hC hQ H locs cells slots ls hH hS hL hk1 hk2
  obtain ⟨hd, rfl⟩ := hd
  have hC0 := hC
  obtain ⟨hx, hb, hr, hml, hown, hts, hK, -⟩ := hC
  obtain ⟨C, T, ty, hcl, hin, hty, hw1, hw2, hw3, hfs⟩ := hw
  have hKn := hK.1.1 ci _ hcl
  refine W.newcK hx hb hown (hts _ hw1) (hts _ hw2) (hts _ hw3) rfl hd (by omega) (by omega) hKn.2.1 hH.1 fun H1 kC hkC e1 z1 o1 => ?_
  refine kk p e R s m args below meth c Q hC0 hQ H1 locs (cells + 1) (slots + N) ls (ah_push hH ?_ (by rw [z1, hH.1]) (fun q hq => o1 q (by rw [← hH.1]; exact hq))) ⟨Nat.le_trans hS.1 (by rw [z1, hH.1]; omega), fun x h1 h2 => (o1 x (by have := hS.1; have := hH.1; omega)).trans (hS.2.1 x h1 h2), hS.2.2⟩ hL (by omega) (by omega)
  exact ⟨_, hcl, (u_born ty hts hin hKn hkC e1 hty).to (hfs w)⟩
theorem ag_newa {w : aw_T} {M : am_T} {d : Nat} {P : ap_T} {pc n : Nat} {L : al_T} {st : List av_T} {h : ah_T} {kc ks kc' ks' : Nat} {atype : ArrayType} {N : Nat} {t : Nat} {ty : FieldType} (hd : ad_D M pc (.newarray atype) 2 n) (hty : newarray.typeOf atype = ty) (ht : (aw_tys w)[t]? = some (aw_A w t, ty)) (hdv : defaultValue ty = .int 0) (hw : Cond.arrayClass ty ∈ tt_g) (hN : N ≤ 100000000) (hcb : componentBytes ty ≤ 4) (hkc : kc' + 1 ≤ kc) (hks : ks' + N ≤ ks) (hobj : ty.toString ≠ "" ∧ ∀ U cA, va_RA U cA ty ↔ U.vm.findClass ("[" ++ ty.toString) = some cA) (kk : aw_W w M d P n L (av_r h.length :: st) (h ++ [ac_a t N (fun _ => 0)]) kc' ks') : aw_W w M d P pc L (av_i (N : Int) :: st) h kc ks := by
  intro p e R s m args below meth c Q hC hQ H locs cells slots ls hH hS hL hk1 hk2
  obtain ⟨hd, rfl⟩ := hd
  have hC0 := hC
  obtain ⟨hx, hb, hr, hml, hown, hts, hK, -⟩ := hC
  subst hty
  have hn : ¬ Int32.ofInt (N : Int) < 0 := by rw [← ai_0, ai_lt (by omega) (by omega)]; omega
  have hcl : (Int32.ofInt (N : Int)).toNatClampNeg = N := by
    have := Int32.toNatClampNeg_ofInt_of_le (n := (N : Int)) (by omega) (by omega)
    rw [this]; omega
  have hby : N * componentBytes (newarray.typeOf atype) ≤ 536870912 := by
    have := Nat.mul_le_mul hN hcb
    omega
  refine va_newaK hx hb (hts _ hw) rfl hd rfl hn hcl hby (by omega) (by omega) hH.1 fun H1 cA e1 z1 o1 hAr hNm => ?_
  have hcA : aw_A w t = cA := by
    have h1 := (hK.1.2 t _ ht).2
    rw [hobj.2] at h1
    exact Option.some.inj (h1.symm.trans hNm)
  refine kk p e R s m args below meth c Q hC0 hQ H1 locs (cells + 1) (slots + N) ls (ah_push hH ?_ (by rw [z1, hH.1]) (fun q hq => o1 q (by rw [← hH.1]; exact hq))) ⟨Nat.le_trans hS.1 (by rw [z1, hH.1]; omega), fun x h1 h2 => (o1 x (by have := hS.1; have := hH.1; omega)).trans (hS.2.1 x h1 h2), hS.2.2⟩ hL (by omega) (by omega)
  show H1[aw_o w + h.length]? = some (vp_cell (aw_A w t) (N, .inl (fun _ => Int32.ofInt 0)))
  rw [e1, vp_cell_i, hcA, hdv]
  rfl
theorem ag_newl {w : aw_T} {M : am_T} {d : Nat} {P : ap_T} {pc n : Nat} {L : al_T} {st : List av_T} {h : ah_T} {kc ks kc' ks' : Nat} {N : Nat} (hd : ad_D M pc (.newarray .long) 2 n) (hw : Cond.arrayClass .long ∈ tt_g) (hN : N ≤ 10000000) (hkc : kc' + 1 ≤ kc) (hks : ks' + N ≤ ks) (kk : aw_W w M d P n L (av_r h.length :: st) (h ++ [ac_l N (fun _ => 0)]) kc' ks') : aw_W w M d P pc L (av_i (N : Int) :: st) h kc ks := by
  intro p e R s m args below meth c Q hC hQ H locs cells slots ls hH hS hL hk1 hk2
  obtain ⟨hd, rfl⟩ := hd
  have hC0 := hC
  obtain ⟨hx, hb, hr, hml, hown, hts, hK, -⟩ := hC
  have hn : ¬ Int32.ofInt (N : Int) < 0 := by rw [← ai_0, ai_lt (by omega) (by omega)]; omega
  have hcl : (Int32.ofInt (N : Int)).toNatClampNeg = N := by
    have := Int32.toNatClampNeg_ofInt_of_le (n := (N : Int)) (by omega) (by omega)
    rw [this]; omega
  have hby : N * componentBytes (newarray.typeOf .long) ≤ 536870912 := by
    show N * 8 ≤ 536870912
    omega
  refine va_newaK (atype := .long) hx hb (hts _ hw) rfl hd rfl hn hcl hby (by omega) (by omega) hH.1 fun H1 cA e1 z1 o1 hAr hNm => ?_
  have hcA : aw_A w 3 = cA := Option.some.inj ((hK.1.2 3 _ rfl).2.symm.trans hNm)
  refine kk p e R s m args below meth c Q hC0 hQ H1 locs (cells + 1) (slots + N) ls (ah_push hH ?_ (by rw [z1, hH.1]) (fun q hq => o1 q (by rw [← hH.1]; exact hq))) ⟨Nat.le_trans hS.1 (by rw [z1, hH.1]; omega), fun x h1 h2 => (o1 x (by have := hS.1; have := hH.1; omega)).trans (hS.2.1 x h1 h2), hS.2.2⟩ hL (by omega) (by omega)
  show H1[aw_o w + h.length]? = some (vp_cell (aw_A w 3) (N, .inr (.inl (fun _ => Int64.ofInt 0))))
  rw [e1, vp_cell_l, hcA]
  rfl
theorem ag_obj {w : aw_T} {M : am_T} {d : Nat} {P : ap_T} {pc n : Nat} {L : al_T} {st : List av_T} {h : ah_T} {kc ks : Nat} {idx a : Nat} (hd : ad_D M pc (.invokespecial idx) 3 n) (h1 : Cond.methodLink M.1.cls idx Lib.objectInit ∈ tt_g) (h2 : Cond.instanceMethod Lib.objectInit ∈ tt_g) (h3 : Cond.code Lib.objectInit ⟨#[0xb1]⟩ 1 none ∈ tt_g) (hd1 : 1 ≤ d) (hst : st.length ≤ 4) (kk : aw_W w M d P n L st h kc ks) : aw_W w M d P pc L (av_r a :: st) h kc ks := by
  intro p e R s m args below meth c Q hC hQ H locs cells slots ls hH hS hL hk1 hk2
  obtain ⟨hd, rfl⟩ := hd
  have kw := kk p e R s m args below meth c Q hC hQ H locs cells slots ls hH hS hL hk1 hk2
  obtain ⟨hx, hb, hr, hml, hown, hts, hK, hlk, hnm, hfr, hlo, -⟩ := hC
  have hs := av_sum w st
  exact W.objInit hx hb hown (hts _ h1) (hts _ h2) (hts _ h3) rfl (hL.2.1.trans hml.symm) rfl hd (by omega) (by show 2 * 0 + _ + 12 ≤ _; omega) kw
end
section
-- ===== calls =====
theorem tt_good : ∀ x ∈ tt_g, (x.onTables && x.keeps) = true ∨ ∃ ty, x = .arrayClass ty := fun _ hx => good_of_word (List.mem_filter.mp hx).2
theorem tt_goodIn {x y : Cond} (hy : y ∈ tt_g) : GoodIn (x :: tt_g) (y :: tt_g) := by
  intro z hz
  rcases List.mem_cons.mp hz with rfl | hz
  · exact ⟨List.mem_cons_of_mem _ hy, tt_good _ hy⟩
  · exact ⟨List.mem_cons_of_mem _ hz, tt_good _ hz⟩
theorem tt_goodG {y : Cond} (hy : y ∈ tt_g) : GoodIn tt_g (y :: tt_g) := by
  intro z hz
  rcases List.mem_cons.mp hz with rfl | hz
  · exact ⟨hy, tt_good _ hy⟩
  · exact ⟨hz, tt_good _ hz⟩
theorem am_blind (w : aw_T) (As : List av_T) (h : ah_T) : FrameBlind (am_Pc w As h) := by
  intro a U g mk hv
  obtain ⟨h1, hK, hH, hX⟩ := hv
  exact ⟨h1, hK.same (U := U.calling g mk a) rfl, hH, hX.to (U := U.calling g mk a) (Vm.Alike.refl U.vm)⟩
theorem am_pre {w : aw_T} {As : List av_T} {h : ah_T} {s : State} {H : Heap} {locs : List Loc} (hK : aw_K w s) (hH : ah_R w h H) (hX : aw_X w s s.heap) (hbs : aw_o w ≤ s.heap.size) (hS : va_S (aw_N w) s.heap H locs) : ∀ U : State, U.heap = H → s.WarmedH U.vm → am_Pc w As h ((As.map (av_v w)).toArray) U := by
  intro U hU hW
  have hb : H[aw_b w]? = s.heap[aw_b w]? := hS.2.1 _ (Nat.lt_of_lt_of_le hX.2 hbs) (Nat.not_le.mpr hX.2)
  refine ⟨rfl, hK.warm hW, by rw [hU]; exact hH, ?_⟩
  rw [hU]
  exact ⟨(va_X.kept hX.1 hb).moved hW.alike, hX.2⟩
theorem am_goes {w : aw_T} {P2 : ap_T} {p : Program} {e : Env} {R : Room} {s : State} {m : MethodId} {args a : Array Value} {below : List Frame} {meth : Method} {c : Code} {H : Heap} {locs : List Loc} {cells slots mc ms : Nat} {Q : State → Prop} {pc : Nat} {ls : Array Slot} {st0 rest : List Value}
    (hr : va_Run p (aw_l w) e R s m args below meth c H locs cells slots mc ms (F0 m pc ls st0) rest (am_Qc w P2 a) (aw_N w)) (hS : va_S (aw_N w) s.heap H locs)
    (kk : ∀ (r : Option av_T) (h' : ah_T) (H1 : Heap) (locs1 : List Loc), P2 r h' → ah_R w h' H1 → va_S (aw_N w) s.heap H1 locs1 → W p (aw_l w) e R s m args below meth c H1 locs1 (cells + mc) (slots + ms) Q (F0 m (pc + 3) ls ((r.map (av_v w)).toList ++ rest))) : W p (aw_l w) e R s m args below meth c H locs cells slots Q (F0 m pc ls st0) := by
  intro T hT X
  obtain ⟨v, st₀, t, T', L, h0, X', hL, e1, e2, ⟨⟨r, h', hv, hp, hR⟩, hz, hk⟩, st⟩ := hr T hT X
  cases hv
  rw [h0] at hz hk
  obtain ⟨t2, a1, b1⟩ := kk r h' T'.heap (locs ++ L) hp (by rw [e1]; exact hR)
    ⟨Nat.le_trans hS.1 (by rw [e1]; exact hz), fun q h1 h2 => by rw [e1, hk q (Nat.lt_of_lt_of_le h1 hS.1) h2]; exact hS.2.1 q h1 h2, fun q hq => by
      rcases List.mem_append.mp hq with h | h
      · exact hS.2.2 q h
      · exact hL q h⟩ T' rfl X'
  exact ⟨t2, st t2 a1, b1⟩
/-- what the tables say of a call site: the method called, by its words -/
def ai_B (cls : String) (idx : Nat) (M2 : am_T) (k : Nat) : Prop :=
  Cond.code M2.1 M2.2.1 M2.2.2.1 M2.2.2.2 ∈ tt_g ∧ Cond.initialized M2.1.cls ∈ tt_g ∧ (M2.1.cls ≠ "java/lang/invoke/MethodHandle" ∧ M2.1.cls ≠ "java/lang/invoke/VarHandle" ∧ (parseMethodDescriptor M2.1.desc).map (fun d => d.parameters.length) = some k) ∧ M2.2.2.1 ≤ 40 ∧
  ((Cond.methodLink cls idx M2.1 ∈ tt_g) ∨ ∃ host, Cond.methodLinkNest cls idx M2.1 host ∈ tt_n)
theorem ai_wc (w : aw_T) {rest : List av_T} (h : rest.length ≤ 4) : ((rest.map (av_v w)).map fun v => v.category).sum ≤ 8 := by
  have := av_sum w rest
  omega
section CALLS
variable {w : aw_T} {M : am_T} {d : Nat} {P : ap_T} {pc n : Nat} {L : al_T} {st rest : List av_T} {h : ah_T} {kc ks kc' ks' : Nat} {idx : Nat} {M2 : am_T} {d2 k mc ms : Nat} {As : List av_T} {P2 : ap_T}
theorem ag_callS (hd : ad_D M pc (.invokestatic idx) 3 n) (hc : ai_B M.1.cls idx M2 k ∧ Cond.static M2.1 ∈ tt_g) (hM : am_M w M2 d2 As h mc ms P2) (hst : st = As.reverse ++ rest) (hlen : As.length = k) (hd2 : d2 + 1 ≤ d) (hrl : rest.length ≤ 4) (hkc : mc + kc' ≤ kc) (hks : ms + ks' ≤ ks)
    (kk : ∀ (r : Option av_T) (h' : ah_T), P2 r h' → aw_W w M d P n L (r.toList ++ rest) h' kc' ks') : aw_W w M d P pc L st h kc ks := by
  intro p e R s m args below meth c Q hC hQ H locs cells slots ls hH hS hL hk1 hk2
  obtain ⟨hd, rfl⟩ := hd
  have hC0 := hC
  obtain ⟨hx, hb, hr, hml, hown, hts, hK, hlk, hnm, hfr, hlo, hX, hbs⟩ := hC
  obtain ⟨⟨w1, w2, w3, w4, w5⟩, w6⟩ := hc
  have hp : PreS s H (am_Pc w As h) (As.map (av_v w)) := ⟨am_blind w As h, am_pre hK hH hX hbs hS⟩
  have hstk : (F0 m pc ls (st.map (av_v w))).stack = (As.map (av_v w)).reverse ++ rest.map (av_v w) := by
    show st.map (av_v w) = _
    rw [hst, List.map_append, List.map_reverse]
  have hR2 : (am_rm d2 mc ms).frames + 1 ≤ R.frames ∧ 8 + (M2.2.2.1 + 11) + (am_rm d2 mc ms).locals ≤ R.locals := ⟨by show d2 + 1 ≤ _; omega, by show 8 + (M2.2.2.1 + 11) + (60 * d2 + 20) ≤ _; omega⟩
  have hf : cells + mc ≤ R.cells ∧ slots + ms ≤ R.slots := ⟨by omega, by omega⟩
  have run : va_Run p (aw_l w) e R s m args below meth c H locs cells slots mc ms (F0 m pc ls (st.map (av_v w))) (rest.map (av_v w)) (am_Qc w P2 (As.map (av_v w)).toArray) (aw_N w) := by
    rcases w5 with w5 | ⟨host, w5⟩
    · exact va_runS (Ts := tt_g) ⟨hx, hb, hml, hown, hts⟩ hM ⟨callB_of k hts (tt_goodG w1) rfl rfl rfl (hts _ w2) (hts _ w5) w3 hR2, hts _ w6⟩ hp rfl (by rw [List.length_map]; exact hlen) hL.2.1 hstk (lv_room (ai_wc w hrl)) hd hf
    · exact va_runSN (Ts := tt_g) ⟨hx, hb, hml, hown, hts⟩ hM ⟨va_cnB k hts (tt_goodG w1) rfl rfl rfl (hK.2 _ w5) (hts _ w2) w3 hR2, hts _ w6, trivial⟩ hp rfl (by rw [List.length_map]; exact hlen) hL.2.1 hstk (lv_room (ai_wc w hrl)) hd hf
  refine am_goes run hS (fun r h' H1 locs1 hp2 hR1 hS1 => ?_)
  have kw := kk r h' hp2 p e R s m args below meth c Q hC0 hQ H1 locs1 (cells + mc) (slots + ms) ls hR1 hS1 hL (by omega) (by omega)
  rw [List.map_append] at kw
  cases r <;> exact kw
theorem ag_callV {a ci : Nat} {fs : List av_T} {T : u_T} {N : Nat} (hd : ad_D M pc (.invokevirtual idx) 3 n) (hc : ai_B M.1.cls idx M2 k ∧ Cond.instanceMethod M2.1 ∈ tt_g ∧ Cond.selects M2.1.cls M2.1 M2.1 ∈ tt_g) (hcell : h[a]? = some (ac_o ci fs)) (hci : cs_all[ci]? = some (M2.1.cls, T, N)) (hM : am_M w M2 d2 (av_r a :: As) h mc ms P2) (hst : st = As.reverse ++ av_r a :: rest) (hlen : As.length = k) (hd2 : d2 + 1 ≤ d) (hrl : rest.length ≤ 4) (hkc : mc + kc' ≤ kc) (hks : ms + ks' ≤ ks)
    (kk : ∀ (r : Option av_T) (h' : ah_T), P2 r h' → aw_W w M d P n L (r.toList ++ rest) h' kc' ks') : aw_W w M d P pc L st h kc ks := by
  intro p e R s m args below meth c Q hC hQ H locs cells slots ls hH hS hL hk1 hk2
  obtain ⟨hd, rfl⟩ := hd
  have hC0 := hC
  obtain ⟨hx, hb, hr, hml, hown, hts, hK, hlk, hnm, hfr, hlo, hX, hbs⟩ := hC
  obtain ⟨⟨w1, w2, w3, w4, w5⟩, w6, w7⟩ := hc
  have hp : PreV s H M2.1.cls (aw_o w + a) (am_Pc w (av_r a :: As) h) (As.map (av_v w)) := ⟨am_blind w _ h, va_recv hK.1 (ah_one hH hcell) hci (q0 := 0) rfl, am_pre hK hH hX hbs hS⟩
  have hstk : (F0 m pc ls (st.map (av_v w))).stack = (As.map (av_v w)).reverse ++ .ref (aw_o w + a) :: rest.map (av_v w) := by
    show st.map (av_v w) = _
    rw [hst, List.map_append, List.map_reverse]
    rfl
  have hR2 : (am_rm d2 mc ms).frames + 1 ≤ R.frames ∧ 8 + (M2.2.2.1 + 11) + (am_rm d2 mc ms).locals ≤ R.locals := ⟨by show d2 + 1 ≤ _; omega, by show 8 + (M2.2.2.1 + 11) + (60 * d2 + 20) ≤ _; omega⟩
  have hf : cells + mc ≤ R.cells ∧ slots + ms ≤ R.slots := ⟨by omega, by omega⟩
  have run : va_Run p (aw_l w) e R s m args below meth c H locs cells slots mc ms (F0 m pc ls (st.map (av_v w))) (rest.map (av_v w)) (am_Qc w P2 (Value.ref (aw_o w + a) :: As.map (av_v w)).toArray) (aw_N w) := by
    rcases w5 with w5 | ⟨host, w5⟩
    · exact va_runV (Ts := tt_g) ⟨hx, hb, hml, hown, hts⟩ hM ⟨callB_of k hts (tt_goodG w1) rfl rfl rfl (hts _ w2) (hts _ w5) w3 hR2, hts _ w6, hts _ w7⟩ hp rfl (by rw [List.length_map]; exact hlen) hL.2.1 hstk (lv_room (ai_wc w hrl)) hd hf
    · exact va_runVN (Ts := tt_g) ⟨hx, hb, hml, hown, hts⟩ hM ⟨va_cnB k hts (tt_goodG w1) rfl rfl rfl (hK.2 _ w5) (hts _ w2) w3 hR2, hts _ w6, hts _ w7⟩ hp rfl (by rw [List.length_map]; exact hlen) hL.2.1 hstk (lv_room (ai_wc w hrl)) hd hf
  refine am_goes run hS (fun r h' H1 locs1 hp2 hR1 hS1 => ?_)
  have kw := kk r h' hp2 p e R s m args below meth c Q hC0 hQ H1 locs1 (cells + mc) (slots + ms) ls hR1 hS1 hL (by omega) (by omega)
  rw [List.map_append] at kw
  cases r <;> exact kw
theorem ag_callI {a : Nat} (hd : ad_D M pc (.invokespecial idx) 3 n) (hc : ai_B M.1.cls idx M2 k ∧ Cond.instanceMethod M2.1 ∈ tt_g ∧ M2.1.name = "<init>" ∧ M2.2.2.2 = none) (hM : am_M w M2 d2 (av_r a :: As) h mc ms P2) (hst : st = As.reverse ++ av_r a :: rest) (hlen : As.length = k) (hd2 : d2 + 1 ≤ d) (hrl : rest.length ≤ 4) (hkc : mc + kc' ≤ kc) (hks : ms + ks' ≤ ks)
    (kk : ∀ (r : Option av_T) (h' : ah_T), P2 r h' → aw_W w M d P n L (r.toList ++ rest) h' kc' ks') : aw_W w M d P pc L st h kc ks := by
  intro p e R s m args below meth c Q hC hQ H locs cells slots ls hH hS hL hk1 hk2
  obtain ⟨hd, rfl⟩ := hd
  have hC0 := hC
  obtain ⟨hx, hb, hr, hml, hown, hts, hK, hlk, hnm, hfr, hlo, hX, hbs⟩ := hC
  obtain ⟨⟨w1, w2, w3, w4, w5⟩, w6, w7, w8⟩ := hc
  obtain ⟨y2, b2, l2, r2⟩ := M2
  dsimp only at w8 w7 w6 w5 w4 w3 w2 w1
  subst w8
  have hp : PreS s H (am_Pc w (av_r a :: As) h) (.ref (aw_o w + a) :: As.map (av_v w)) := ⟨am_blind w _ h, am_pre hK hH hX hbs hS⟩
  have hstk : (F0 m pc ls (st.map (av_v w))).stack = (As.map (av_v w)).reverse ++ .ref (aw_o w + a) :: rest.map (av_v w) := by
    show st.map (av_v w) = _
    rw [hst, List.map_append, List.map_reverse]
    rfl
  have hR2 : (am_rm d2 mc ms).frames + 1 ≤ R.frames ∧ 8 + (l2 + 11) + (am_rm d2 mc ms).locals ≤ R.locals := ⟨by show d2 + 1 ≤ _; omega, by show 8 + (l2 + 11) + (60 * d2 + 20) ≤ _; omega⟩
  have hf : cells + mc ≤ R.cells ∧ slots + ms ≤ R.slots := ⟨by omega, by omega⟩
  have run : va_Run p (aw_l w) e R s m args below meth c H locs cells slots mc ms (F0 m pc ls (st.map (av_v w))) (rest.map (av_v w)) (am_Qc w P2 (Value.ref (aw_o w + a) :: As.map (av_v w)).toArray) (aw_N w) := by
    rcases w5 with w5 | ⟨host, w5⟩
    · exact va_runI (Ts := tt_g) ⟨hx, hb, hml, hown, hts⟩ hM ⟨callB_of k hts (tt_goodG w1) rfl rfl rfl (hts _ w2) (hts _ w5) w3 hR2, w7, hts _ w6⟩ hp rfl (by rw [List.length_map]; exact hlen) hL.2.1 hstk (lv_room (ai_wc w hrl)) hd hf
    · exact va_runIN (Ts := tt_g) ⟨hx, hb, hml, hown, hts⟩ hM ⟨va_cnB k hts (tt_goodG w1) rfl rfl rfl (hK.2 _ w5) (hts _ w2) w3 hR2, w7, hts _ w6⟩ hp rfl (by rw [List.length_map]; exact hlen) hL.2.1 hstk (lv_room (ai_wc w hrl)) hd hf
  refine am_goes run hS (fun r h' H1 locs1 hp2 hR1 hS1 => ?_)
  have kw := kk r h' hp2 p e R s m args below meth c Q hC0 hQ H1 locs1 (cells + mc) (slots + ms) ls hR1 hS1 hL (by omega) (by omega)
  rw [List.map_append] at kw
  cases r <;> exact kw
end CALLS
-- java.lang.Math
section MATH
variable {w : aw_T} {M : am_T} {d : Nat} {P : ap_T} {pc n : Nat} {L : al_T} {st : List av_T} {h : ah_T} {kc ks : Nat} {idx : Nat} {a b : Int}
theorem ag_max (hd : ad_D M pc (.invokestatic idx) 3 n) (h1 : Cond.methodLink M.1.cls idx Lib.Math.max.name ∈ tt_g) (h2 : Cond.static Lib.Math.max.name ∈ tt_g) (h3 : Cond.initialized "java/lang/Math" ∈ tt_g) (h4 : Cond.code Lib.Math.max.name Lib.Math.max.code 2 (some .int) ∈ tt_g) (ha : -2147483648 ≤ a ∧ a < 2147483648) (hb : -2147483648 ≤ b ∧ b < 2147483648) (hd1 : 1 ≤ d) (hrl : st.length ≤ 3) (kk : aw_W w M d P n L (av_i (max a b) :: st) h kc ks) : aw_W w M d P pc L (av_i b :: av_i a :: st) h kc ks := by
  intro p e R s m args below meth c Q hC hQ H locs cells slots ls hH hS hL hk1 hk2
  obtain ⟨hd, rfl⟩ := hd
  have kw := kk p e R s m args below meth c Q hC hQ H locs cells slots ls hH hS hL hk1 hk2
  obtain ⟨hx, hbb, hr, hml, hown, hts, hK, hlk, hnm, hfr, hlo, hX, hbs⟩ := hC
  have hsum := av_sum w st
  refine va_mmax hx hbb (hml.trans hL.2.1.symm) hown (hts _ h1) (hts _ h2) (hts _ h3) (hts _ h4) (by omega) (by omega) (by omega) (by omega) hd ?_
  have e : (if Int32.ofInt a < Int32.ofInt b then Int32.ofInt b else Int32.ofInt a) = Int32.ofInt (max a b) := by
    by_cases q : a < b
    · rw [if_pos ((ai_lt ha hb).mpr q), Int.max_eq_right (by omega)]
    · rw [if_neg (fun z => q ((ai_lt ha hb).mp z)), Int.max_eq_left (by omega)]
  rw [e]
  exact kw
theorem ag_min (hd : ad_D M pc (.invokestatic idx) 3 n) (h1 : Cond.methodLink M.1.cls idx Lib.Math.min.name ∈ tt_g) (h2 : Cond.static Lib.Math.min.name ∈ tt_g) (h3 : Cond.initialized "java/lang/Math" ∈ tt_g) (h4 : Cond.code Lib.Math.min.name Lib.Math.min.code 2 (some .int) ∈ tt_g) (ha : -2147483648 ≤ a ∧ a < 2147483648) (hb : -2147483648 ≤ b ∧ b < 2147483648) (hd1 : 1 ≤ d) (hrl : st.length ≤ 3) (kk : aw_W w M d P n L (av_i (min a b) :: st) h kc ks) : aw_W w M d P pc L (av_i b :: av_i a :: st) h kc ks := by
  intro p e R s m args below meth c Q hC hQ H locs cells slots ls hH hS hL hk1 hk2
  obtain ⟨hd, rfl⟩ := hd
  have kw := kk p e R s m args below meth c Q hC hQ H locs cells slots ls hH hS hL hk1 hk2
  obtain ⟨hx, hbb, hr, hml, hown, hts, hK, hlk, hnm, hfr, hlo, hX, hbs⟩ := hC
  have hsum := av_sum w st
  refine va_mmin hx hbb (hml.trans hL.2.1.symm) hown (hts _ h1) (hts _ h2) (hts _ h3) (hts _ h4) (by omega) (by omega) (by omega) (by omega) hd ?_
  have e : (if Int32.ofInt b < Int32.ofInt a then Int32.ofInt b else Int32.ofInt a) = Int32.ofInt (min a b) := by
    by_cases q : b < a
    · rw [if_pos ((ai_lt hb ha).mpr q), Int.min_eq_right (by omega)]
    · rw [if_neg (fun z => q ((ai_lt hb ha).mp z)), Int.min_eq_left (by omega)]
  rw [e]
  exact kw
theorem ag_abs (hd : ad_D M pc (.invokestatic idx) 3 n) (h1 : Cond.methodLink M.1.cls idx Lib.Math.abs.name ∈ tt_g) (h2 : Cond.static Lib.Math.abs.name ∈ tt_g) (h3 : Cond.initialized "java/lang/Math" ∈ tt_g) (h4 : Cond.code Lib.Math.abs.name Lib.Math.abs.code 1 (some .int) ∈ tt_g) (ha : -2147483648 ≤ a ∧ a < 2147483648) (hd1 : 1 ≤ d) (hrl : st.length ≤ 3) (kk : aw_W w M d P n L (av_i (if 0 ≤ a then a else -a) :: st) h kc ks) : aw_W w M d P pc L (av_i a :: st) h kc ks := by
  intro p e R s m args below meth c Q hC hQ H locs cells slots ls hH hS hL hk1 hk2
  obtain ⟨hd, rfl⟩ := hd
  have kw := kk p e R s m args below meth c Q hC hQ H locs cells slots ls hH hS hL hk1 hk2
  obtain ⟨hx, hbb, hr, hml, hown, hts, hK, hlk, hnm, hfr, hlo, hX, hbs⟩ := hC
  have hsum := av_sum w st
  refine va_mabs hx hbb (hml.trans hL.2.1.symm) hown (hts _ h1) (hts _ h2) (hts _ h3) (hts _ h4) (by omega) (by omega) (by omega) (by omega) hd ?_
  have e : (if 0 ≤ Int32.ofInt a then Int32.ofInt a else 0 - Int32.ofInt a) = Int32.ofInt (if 0 ≤ a then a else -a) := by
    have hz : (0 : Int32) ≤ Int32.ofInt a ↔ 0 ≤ a := ai_le (a := 0) (by omega) ha
    by_cases q : 0 ≤ a
    · rw [if_pos (hz.mpr q), if_pos q]
    · rw [if_neg (fun z => q (hz.mp z)), if_neg q, Int32.ofInt_neg]
      simp
  rw [e]
  exact kw
theorem ag_maxl (hd : ad_D M pc (.invokestatic idx) 3 n) (h1 : Cond.methodLink M.1.cls idx Lib.MathLoose.max_long.x ∈ tt_g) (h2 : Cond.static Lib.MathLoose.max_long.x ∈ tt_g) (h3 : Cond.initialized "java/lang/Math" ∈ tt_g) (h4 : Cond.code Lib.MathLoose.max_long.x Lib.MathLoose.max_long.code 4 (some .long) ∈ tt_g) (ha : -9223372036854775808 ≤ a ∧ a < 9223372036854775808) (hb : -9223372036854775808 ≤ b ∧ b < 9223372036854775808) (hd1 : 1 ≤ d) (hrl : st.length ≤ 3) (kk : aw_W w M d P n L (av_l (max a b) :: st) h kc ks) : aw_W w M d P pc L (av_l b :: av_l a :: st) h kc ks := by
  intro p e R s m args below meth c Q hC hQ H locs cells slots ls hH hS hL hk1 hk2
  obtain ⟨hd, rfl⟩ := hd
  have kw := kk p e R s m args below meth c Q hC hQ H locs cells slots ls hH hS hL hk1 hk2
  obtain ⟨hx, hbb, hr, hml, hown, hts, hK, hlk, hnm, hfr, hlo, hX, hbs⟩ := hC
  have hsum := av_sum w st
  refine va_mmax_long hx hbb (hml.trans hL.2.1.symm) hown (hts _ h1) (hts _ h2) (hts _ h3) (hts _ h4) (by omega) (by omega) (by omega) (by omega) hd ?_
  have e : (if Int64.ofInt b < Int64.ofInt a then Int64.ofInt a else Int64.ofInt b) = Int64.ofInt (max a b) := by
    by_cases q : b < a
    · rw [if_pos ((al_lt hb ha).mpr q), Int.max_eq_left (by omega)]
    · rw [if_neg (fun z => q ((al_lt hb ha).mp z)), Int.max_eq_right (by omega)]
  rw [e]
  exact kw
theorem ag_minl (hd : ad_D M pc (.invokestatic idx) 3 n) (h1 : Cond.methodLink M.1.cls idx Lib.MathLoose.min_long.x ∈ tt_g) (h2 : Cond.static Lib.MathLoose.min_long.x ∈ tt_g) (h3 : Cond.initialized "java/lang/Math" ∈ tt_g) (h4 : Cond.code Lib.MathLoose.min_long.x Lib.MathLoose.min_long.code 4 (some .long) ∈ tt_g) (ha : -9223372036854775808 ≤ a ∧ a < 9223372036854775808) (hb : -9223372036854775808 ≤ b ∧ b < 9223372036854775808) (hd1 : 1 ≤ d) (hrl : st.length ≤ 3) (kk : aw_W w M d P n L (av_l (min a b) :: st) h kc ks) : aw_W w M d P pc L (av_l b :: av_l a :: st) h kc ks := by
  intro p e R s m args below meth c Q hC hQ H locs cells slots ls hH hS hL hk1 hk2
  obtain ⟨hd, rfl⟩ := hd
  have kw := kk p e R s m args below meth c Q hC hQ H locs cells slots ls hH hS hL hk1 hk2
  obtain ⟨hx, hbb, hr, hml, hown, hts, hK, hlk, hnm, hfr, hlo, hX, hbs⟩ := hC
  have hsum := av_sum w st
  refine va_mmin_long hx hbb (hml.trans hL.2.1.symm) hown (hts _ h1) (hts _ h2) (hts _ h3) (hts _ h4) (by omega) (by omega) (by omega) (by omega) hd ?_
  have e : (if Int64.ofInt b < Int64.ofInt a then Int64.ofInt b else Int64.ofInt a) = Int64.ofInt (min a b) := by
    by_cases q : b < a
    · rw [if_pos ((al_lt hb ha).mpr q), Int.min_eq_right (by omega)]
    · rw [if_neg (fun z => q ((al_lt hb ha).mp z)), Int.min_eq_left (by omega)]
  rw [e]
  exact kw
end MATH
end
section
-- int[n][k]
theorem ag_mna {w : aw_T} {M : am_T} {d : Nat} {P : ap_T} {pc n : Nat} {L : al_T} {st : List av_T} {h : ah_T} {kc ks kc' ks' : Nat} {idx N K : Nat} (hd : ad_D M pc (.multianewarray idx 2) 4 n) (h1 : Cond.classLink M.1.cls idx ("[" ++ (FieldType.array .int).toString) ∈ tt_g) (h2 : Cond.arrayOver (.array .int) ∈ tt_g) (h3 : Cond.arrayClass .int ∈ tt_g) (hN : N ≤ 1000000) (hK2 : K ≤ 1000000) (hkc : kc' + (1 + N) ≤ kc) (hks : ks' + (N + N * K) ≤ ks) (kk : aw_W w M d P n L (av_r h.length :: st) (h ++ (ac_q N (fun i => if i < N then some (h.length + 1 + i) else none) :: List.replicate N (ac_a 0 K (fun _ => 0)))) kc' ks') : aw_W w M d P pc L (av_i (K : Int) :: av_i (N : Int) :: st) h kc ks := by
  sorry
end
section
abbrev mm_X_init : am_T := (⟨"CaneRounds", "<init>", "()V"⟩, prog_1_method_1_code, 1, none)
abbrev mm_Farms_init : am_T := (⟨"CaneRounds$Farms", "<init>", "()V"⟩, prog_5_method_1_code, 1, none)
abbrev mm_Weather_init : am_T := (⟨"CaneRounds$Weather", "<init>", "()V"⟩, prog_11_method_1_code, 1, none)
abbrev mm_Bundles_init : am_T := (⟨"CaneRounds$Bundles", "<init>", "()V"⟩, prog_3_method_1_code, 1, none)
abbrev mm_Chooser_init : am_T := (⟨"CaneRounds$Chooser", "<init>", "()V"⟩, prog_4_method_1_code, 1, none)
abbrev mm_Tape_init : am_T := (⟨"CaneRounds$Tape", "<init>", "()V"⟩, prog_10_method_1_code, 1, none)
abbrev mm_Formula_init : am_T := (⟨"CaneRounds$Formula", "<init>", "()V"⟩, prog_7_method_1_code, 1, none)
abbrev mm_X_rules : am_T := (⟨"CaneRounds", "rules", "(IIII)Z"⟩, prog_1_method_2_code, 6, (some .boolean))
abbrev mm_X_isWithin : am_T := (⟨"CaneRounds", "isWithin", "(III)Z"⟩, prog_1_method_43_code, 3, (some .boolean))
abbrev mm_X_farm : am_T := (⟨"CaneRounds", "farm", "()I"⟩, prog_1_method_3_code, 1, (some .int))
abbrev mm_Farms_add : am_T := (⟨"CaneRounds$Farms", "add", "()I"⟩, prog_5_method_2_code, 1, (some .int))
abbrev mm_X_field : am_T := (⟨"CaneRounds", "field", "(IIIIII)I"⟩, prog_1_method_4_code, 10, (some .int))
abbrev mm_X_fieldCount : am_T := (⟨"CaneRounds", "fieldCount", "()I"⟩, prog_1_method_24_code, 1, (some .int))
abbrev mm_Field_init : am_T := (⟨"CaneRounds$Field", "<init>", "(IIIIIII)V"⟩, prog_6_method_1_code, 8, none)
abbrev mm_X_weather : am_T := (⟨"CaneRounds", "weather", "(ZII)Z"⟩, prog_1_method_5_code, 4, (some .boolean))
abbrev mm_Weather_add : am_T := (⟨"CaneRounds$Weather", "add", "(ZII)Z"⟩, prog_11_method_2_code, 4, (some .boolean))
abbrev mm_Span_init : am_T := (⟨"CaneRounds$Span", "<init>", "(ZIILCaneRounds$Span;)V"⟩, prog_9_method_1_code, 5, none)
abbrev mm_X_round : am_T := (⟨"CaneRounds", "round", "(I)I"⟩, prog_1_method_6_code, 2, (some .int))
abbrev mm_Farms_drawLots : am_T := (⟨"CaneRounds$Farms", "drawLots", "(I)V"⟩, prog_5_method_3_code, 6, none)
abbrev mm_Farms_turn : am_T := (⟨"CaneRounds$Farms", "turn", "()I"⟩, prog_5_method_5_code, 1, (some .int))
abbrev mm_Farms_inOrder : am_T := (⟨"CaneRounds$Farms", "inOrder", "(I)I"⟩, prog_5_method_4_code, 2, (some .int))
abbrev mm_X_pass : am_T := (⟨"CaneRounds", "pass", "()I"⟩, prog_1_method_7_code, 1, (some .int))
abbrev mm_Farms_settleTurn : am_T := (⟨"CaneRounds$Farms", "settleTurn", "()V"⟩, prog_5_method_6_code, 1, none)
abbrev mm_X_cut : am_T := (⟨"CaneRounds", "cut", "(II)Z"⟩, prog_1_method_8_code, 5, (some .boolean))
abbrev mm_X_findField : am_T := (⟨"CaneRounds", "findField", "(I)LCaneRounds$Field;"⟩, prog_1_method_26_code, 3, (some (.object "CaneRounds$Field")))
abbrev mm_X_freeGangs : am_T := (⟨"CaneRounds", "freeGangs", "()I"⟩, prog_1_method_28_code, 3, (some .int))
abbrev mm_X_fire : am_T := (⟨"CaneRounds", "fire", "(I)Z"⟩, prog_1_method_9_code, 3, (some .boolean))
abbrev mm_Field_burn : am_T := (⟨"CaneRounds$Field", "burn", "(I)V"⟩, prog_6_method_5_code, 2, none)
abbrev mm_Field_sweetAt : am_T := (⟨"CaneRounds$Field", "sweetAt", "(I)I"⟩, prog_6_method_2_code, 2, (some .int))
abbrev mm_X_quotient : am_T := (⟨"CaneRounds", "quotient", "(II)I"⟩, prog_1_method_46_code, 2, (some .int))
abbrev mm_X_hours : am_T := (⟨"CaneRounds", "hours", "(I)I"⟩, prog_1_method_10_code, 3, (some .int))
abbrev mm_X_passHour : am_T := (⟨"CaneRounds", "passHour", "()V"⟩, prog_1_method_31_code, 1, none)
abbrev mm_Weather_holds : am_T := (⟨"CaneRounds$Weather", "holds", "(ZI)Z"⟩, prog_11_method_3_code, 4, (some .boolean))
abbrev mm_X_goOnCutting : am_T := (⟨"CaneRounds", "goOnCutting", "()V"⟩, prog_1_method_32_code, 2, none)
abbrev mm_Field_goOn : am_T := (⟨"CaneRounds$Field", "goOn", "(I)V"⟩, prog_6_method_6_code, 2, none)
abbrev mm_X_addLoad : am_T := (⟨"CaneRounds", "addLoad", "(LCaneRounds$Field;)V"⟩, prog_1_method_33_code, 3, none)
abbrev mm_X_loadCount : am_T := (⟨"CaneRounds", "loadCount", "()I"⟩, prog_1_method_25_code, 1, (some .int))
abbrev mm_Load_init : am_T := (⟨"CaneRounds$Load", "<init>", "(ILCaneRounds$Field;I)V"⟩, prog_8_method_1_code, 4, none)
abbrev mm_Field_hoursToDeath : am_T := (⟨"CaneRounds$Field", "hoursToDeath", "()I"⟩, prog_6_method_4_code, 1, (some .int))
abbrev mm_X_sendTrucks : am_T := (⟨"CaneRounds", "sendTrucks", "()V"⟩, prog_1_method_34_code, 3, none)
abbrev mm_X_freeTrucks : am_T := (⟨"CaneRounds", "freeTrucks", "()I"⟩, prog_1_method_29_code, 3, (some .int))
abbrev mm_Load_isOver : am_T := (⟨"CaneRounds$Load", "isOver", "()Z"⟩, prog_8_method_5_code, 1, (some .boolean))
abbrev mm_Load_leave : am_T := (⟨"CaneRounds$Load", "leave", "(I)V"⟩, prog_8_method_2_code, 3, none)
abbrev mm_Field_hoursToMill : am_T := (⟨"CaneRounds$Field", "hoursToMill", "()I"⟩, prog_6_method_3_code, 1, (some .int))
abbrev mm_X_crushLoads : am_T := (⟨"CaneRounds", "crushLoads", "()V"⟩, prog_1_method_35_code, 5, none)
abbrev mm_X_nextToCrush : am_T := (⟨"CaneRounds", "nextToCrush", "()LCaneRounds$Load;"⟩, prog_1_method_36_code, 4, (some (.object "CaneRounds$Load")))
abbrev mm_Load_isAtMill : am_T := (⟨"CaneRounds$Load", "isAtMill", "(I)Z"⟩, prog_8_method_3_code, 2, (some .boolean))
abbrev mm_Load_tonsLeft : am_T := (⟨"CaneRounds$Load", "tonsLeft", "()I"⟩, prog_8_method_4_code, 1, (some .int))
abbrev mm_Bundles_add : am_T := (⟨"CaneRounds$Bundles", "add", "(II)V"⟩, prog_3_method_2_code, 5, none)
abbrev mm_Bundles_count : am_T := (⟨"CaneRounds$Bundles", "count", "()I"⟩, prog_3_method_3_code, 1, (some .int))
abbrev mm_Batch_init : am_T := (⟨"CaneRounds$Batch", "<init>", "(II)V"⟩, prog_2_method_1_code, 3, none)
abbrev mm_X_endLoads : am_T := (⟨"CaneRounds", "endLoads", "()V"⟩, prog_1_method_37_code, 3, none)
abbrev mm_X_endFires : am_T := (⟨"CaneRounds", "endFires", "()V"⟩, prog_1_method_38_code, 2, none)
abbrev mm_X_payDay : am_T := (⟨"CaneRounds", "payDay", "()V"⟩, prog_1_method_39_code, 3, none)
abbrev mm_X_meanOfDay : am_T := (⟨"CaneRounds", "meanOfDay", "()I"⟩, prog_1_method_40_code, 4, (some .int))
abbrev mm_Load_isToBePaid : am_T := (⟨"CaneRounds$Load", "isToBePaid", "()Z"⟩, prog_8_method_6_code, 1, (some .boolean))
abbrev mm_Formula_tell : am_T := (⟨"CaneRounds$Formula", "tell", "(IIIII)I"⟩, prog_7_method_7_code, 7, (some .int))
abbrev mm_Formula_sum : am_T := (⟨"CaneRounds$Formula", "sum", "(I)I"⟩, prog_7_method_8_code, 6, (some .int))
abbrev mm_Formula_product : am_T := (⟨"CaneRounds$Formula", "product", "(I)I"⟩, prog_7_method_9_code, 6, (some .int))
abbrev mm_Formula_one : am_T := (⟨"CaneRounds$Formula", "one", "(I)I"⟩, prog_7_method_10_code, 3, (some .int))
abbrev mm_Formula_token : am_T := (⟨"CaneRounds$Formula", "token", "()I"⟩, prog_7_method_17_code, 1, (some .int))
abbrev mm_Formula_number : am_T := (⟨"CaneRounds$Formula", "number", "(I)I"⟩, prog_7_method_11_code, 2, (some .int))
abbrev mm_Formula_stop : am_T := (⟨"CaneRounds$Formula", "stop", "(I)V"⟩, prog_7_method_18_code, 2, none)
abbrev mm_Formula_opens : am_T := (⟨"CaneRounds$Formula", "opens", "(II)Z"⟩, prog_7_method_15_code, 3, (some .boolean))
abbrev mm_Formula_bracket : am_T := (⟨"CaneRounds$Formula", "bracket", "(I)I"⟩, prog_7_method_13_code, 3, (some .int))
abbrev mm_Formula_take : am_T := (⟨"CaneRounds$Formula", "take", "(I)V"⟩, prog_7_method_16_code, 2, none)
abbrev mm_Formula_lesserOrGreater : am_T := (⟨"CaneRounds$Formula", "lesserOrGreater", "(ZI)I"⟩, prog_7_method_14_code, 5, (some .int))
abbrev mm_Formula_letter : am_T := (⟨"CaneRounds$Formula", "letter", "(I)I"⟩, prog_7_method_12_code, 3, (some .int))
abbrev mm_Formula_limit : am_T := (⟨"CaneRounds$Formula", "limit", "(J)I"⟩, prog_7_method_19_code, 2, (some .int))
abbrev mm_Farms_give : am_T := (⟨"CaneRounds$Farms", "give", "(II)V"⟩, prog_5_method_7_code, 3, none)
abbrev mm_X_feed : am_T := (⟨"CaneRounds", "feed", "(IIIII)I"⟩, prog_1_method_11_code, 6, (some .int))
abbrev mm_Tape_append : am_T := (⟨"CaneRounds$Tape", "append", "(I)V"⟩, prog_10_method_2_code, 3, none)
abbrev mm_X_end : am_T := (⟨"CaneRounds", "end", "(I)I"⟩, prog_1_method_12_code, 2, (some .int))
abbrev mm_X_text : am_T := (⟨"CaneRounds", "text", "()Z"⟩, prog_1_method_13_code, 2, (some .boolean))
abbrev mm_Formula_split : am_T := (⟨"CaneRounds$Formula", "split", "([BI)V"⟩, prog_7_method_2_code, 8, none)
abbrev mm_Formula_kindOf : am_T := (⟨"CaneRounds$Formula", "kindOf", "(I)I"⟩, prog_7_method_4_code, 2, (some .int))
abbrev mm_Formula_wordToken : am_T := (⟨"CaneRounds$Formula", "wordToken", "([BII)I"⟩, prog_7_method_5_code, 4, (some .int))
abbrev mm_Formula_put : am_T := (⟨"CaneRounds$Formula", "put", "(II)V"⟩, prog_7_method_3_code, 3, none)
abbrev mm_Formula_numberToken : am_T := (⟨"CaneRounds$Formula", "numberToken", "([BII)I"⟩, prog_7_method_6_code, 5, (some .int))
abbrev mm_X_fault : am_T := (⟨"CaneRounds", "fault", "(I)I"⟩, prog_1_method_14_code, 2, (some .int))
abbrev mm_X_tells : am_T := (⟨"CaneRounds", "tells", "(IIIII)I"⟩, prog_1_method_15_code, 7, (some .int))
abbrev mm_X_isTold : am_T := (⟨"CaneRounds", "isTold", "(I)Z"⟩, prog_1_method_44_code, 1, (some .boolean))
abbrev mm_X_sweet : am_T := (⟨"CaneRounds", "sweet", "(II)I"⟩, prog_1_method_16_code, 4, (some .int))
abbrev mm_X_fieldOf : am_T := (⟨"CaneRounds", "fieldOf", "(II)I"⟩, prog_1_method_17_code, 4, (some .int))
abbrev mm_X_load : am_T := (⟨"CaneRounds", "load", "(II)I"⟩, prog_1_method_18_code, 4, (some .int))
abbrev mm_X_findLoad : am_T := (⟨"CaneRounds", "findLoad", "(I)LCaneRounds$Load;"⟩, prog_1_method_27_code, 3, (some (.object "CaneRounds$Load")))
abbrev mm_X_bundle : am_T := (⟨"CaneRounds", "bundle", "(I)I"⟩, prog_1_method_19_code, 2, (some .int))
abbrev mm_Bundles_fieldOfTon : am_T := (⟨"CaneRounds$Bundles", "fieldOfTon", "(I)I"⟩, prog_3_method_4_code, 3, (some .int))
abbrev mm_X_best : am_T := (⟨"CaneRounds", "best", "(II)I"⟩, prog_1_method_20_code, 3, (some .int))
abbrev mm_X_choose : am_T := (⟨"CaneRounds", "choose", "(II)Z"⟩, prog_1_method_41_code, 5, (some .boolean))
abbrev mm_X_standingFields : am_T := (⟨"CaneRounds", "standingFields", "()I"⟩, prog_1_method_42_code, 3, (some .int))
abbrev mm_Chooser_clear : am_T := (⟨"CaneRounds$Chooser", "clear", "(I)V"⟩, prog_4_method_2_code, 2, none)
abbrev mm_X_holdsBit : am_T := (⟨"CaneRounds", "holdsBit", "(II)Z"⟩, prog_1_method_45_code, 2, (some .boolean))
abbrev mm_Chooser_offer : am_T := (⟨"CaneRounds$Chooser", "offer", "(LCaneRounds$Field;I)V"⟩, prog_4_method_3_code, 7, none)
abbrev mm_Chooser_insert : am_T := (⟨"CaneRounds$Chooser", "insert", "(I[II)V"⟩, prog_4_method_4_code, 4, none)
abbrev mm_Chooser_decide : am_T := (⟨"CaneRounds$Chooser", "decide", "(I)V"⟩, prog_4_method_5_code, 3, none)
abbrev mm_Chooser_sumDearest : am_T := (⟨"CaneRounds$Chooser", "sumDearest", "(I)V"⟩, prog_4_method_6_code, 5, none)
abbrev mm_Chooser_worthOfDearestThatFit : am_T := (⟨"CaneRounds$Chooser", "worthOfDearestThatFit", "(I)I"⟩, prog_4_method_7_code, 7, (some .int))
abbrev mm_Chooser_fits : am_T := (⟨"CaneRounds$Chooser", "fits", "(II)Z"⟩, prog_4_method_9_code, 6, (some .boolean))
abbrev mm_Chooser_fitsFrom : am_T := (⟨"CaneRounds$Chooser", "fitsFrom", "(II)Z"⟩, prog_4_method_10_code, 7, (some .boolean))
abbrev mm_Chooser_search : am_T := (⟨"CaneRounds$Chooser", "search", "(IIII)V"⟩, prog_4_method_8_code, 7, none)
abbrev mm_X_bestSet : am_T := (⟨"CaneRounds", "bestSet", "(II)I"⟩, prog_1_method_21_code, 3, (some .int))
abbrev mm_X_paid : am_T := (⟨"CaneRounds", "paid", "(I)J"⟩, prog_1_method_22_code, 2, (some .long))
abbrev mm_Farms_earnedBy : am_T := (⟨"CaneRounds$Farms", "earnedBy", "(I)J"⟩, prog_5_method_8_code, 2, (some .long))
abbrev mm_X_about : am_T := (⟨"CaneRounds", "about", "(I)I"⟩, prog_1_method_23_code, 2, (some .int))
abbrev mm_X_tonsLost : am_T := (⟨"CaneRounds", "tonsLost", "()I"⟩, prog_1_method_30_code, 3, (some .int))
abbrev mm_M_init : am_T := (⟨"CaneRoundsModel", "<init>", "()V"⟩, prog_13_method_1_code, 1, none)
abbrev mm_M_rules : am_T := (⟨"CaneRoundsModel", "rules", "(IIII)Z"⟩, prog_13_method_5_code, 5, (some .boolean))
abbrev mm_M_isIn : am_T := (⟨"CaneRoundsModel", "isIn", "(III)Z"⟩, prog_13_method_2_code, 3, (some .boolean))
abbrev mm_M_isHour : am_T := (⟨"CaneRoundsModel", "isHour", "()Z"⟩, prog_13_method_4_code, 1, (some .boolean))
abbrev mm_M_farm : am_T := (⟨"CaneRoundsModel", "farm", "()I"⟩, prog_13_method_6_code, 1, (some .int))
abbrev mm_M_field : am_T := (⟨"CaneRoundsModel", "field", "(IIIIII)I"⟩, prog_13_method_7_code, 8, (some .int))
abbrev mm_M_weather : am_T := (⟨"CaneRoundsModel", "weather", "(ZII)Z"⟩, prog_13_method_8_code, 4, (some .boolean))
abbrev mm_M_round : am_T := (⟨"CaneRoundsModel", "round", "(I)I"⟩, prog_13_method_11_code, 6, (some .int))
abbrev mm_M_turn : am_T := (⟨"CaneRoundsModel", "turn", "()I"⟩, prog_13_method_10_code, 2, (some .int))
abbrev mm_M_pass : am_T := (⟨"CaneRoundsModel", "pass", "()I"⟩, prog_13_method_12_code, 2, (some .int))
abbrev mm_M_cut : am_T := (⟨"CaneRoundsModel", "cut", "(II)Z"⟩, prog_13_method_14_code, 4, (some .boolean))
abbrev mm_M_isField : am_T := (⟨"CaneRoundsModel", "isField", "(I)Z"⟩, prog_13_method_3_code, 2, (some .boolean))
abbrev mm_M_freeGangs : am_T := (⟨"CaneRoundsModel", "freeGangs", "()I"⟩, prog_13_method_13_code, 3, (some .int))
abbrev mm_M_fire : am_T := (⟨"CaneRoundsModel", "fire", "(I)Z"⟩, prog_13_method_16_code, 3, (some .boolean))
abbrev mm_M_sweetAt : am_T := (⟨"CaneRoundsModel", "sweetAt", "(II)I"⟩, prog_13_method_15_code, 5, (some .int))
abbrev mm_M_hours : am_T := (⟨"CaneRoundsModel", "hours", "(I)I"⟩, prog_13_method_25_code, 3, (some .int))
abbrev mm_M_hour : am_T := (⟨"CaneRoundsModel", "hour", "()V"⟩, prog_13_method_24_code, 3, none)
abbrev mm_M_isHindered : am_T := (⟨"CaneRoundsModel", "isHindered", "(ZI)Z"⟩, prog_13_method_9_code, 4, (some .boolean))
abbrev mm_M_cutOn : am_T := (⟨"CaneRoundsModel", "cutOn", "(I)V"⟩, prog_13_method_18_code, 4, none)
abbrev mm_M_send : am_T := (⟨"CaneRoundsModel", "send", "(I)V"⟩, prog_13_method_19_code, 4, none)
abbrev mm_M_trip : am_T := (⟨"CaneRoundsModel", "trip", "(I)I"⟩, prog_13_method_17_code, 1, (some .int))
abbrev mm_M_mill : am_T := (⟨"CaneRoundsModel", "mill", "()V"⟩, prog_13_method_22_code, 5, none)
abbrev mm_M_firstToDie : am_T := (⟨"CaneRoundsModel", "firstToDie", "()I"⟩, prog_13_method_21_code, 3, (some .int))
abbrev mm_M_left : am_T := (⟨"CaneRoundsModel", "left", "(I)I"⟩, prog_13_method_20_code, 2, (some .int))
abbrev mm_M_payDay : am_T := (⟨"CaneRoundsModel", "payDay", "()V"⟩, prog_13_method_23_code, 6, none)
abbrev mm_M_work : am_T := (⟨"CaneRoundsModel", "work", "(IIIII)I"⟩, prog_13_method_45_code, 10, (some .int))
abbrev mm_M_act : am_T := (⟨"CaneRoundsModel", "act", "(IJJ)J"⟩, prog_13_method_44_code, 5, (some .long))
abbrev mm_M_clip : am_T := (⟨"CaneRoundsModel", "clip", "(J)J"⟩, prog_13_method_43_code, 2, (some .long))
abbrev mm_M_feed : am_T := (⟨"CaneRoundsModel", "feed", "(IIIII)I"⟩, prog_13_method_27_code, 6, (some .int))
abbrev mm_M_four : am_T := (⟨"CaneRoundsModel", "four", "(I)V"⟩, prog_13_method_26_code, 3, none)
abbrev mm_M_end : am_T := (⟨"CaneRoundsModel", "end", "(I)I"⟩, prog_13_method_28_code, 2, (some .int))
abbrev mm_M_text : am_T := (⟨"CaneRoundsModel", "text", "()Z"⟩, prog_13_method_41_code, 2, (some .boolean))
abbrev mm_M_readText : am_T := (⟨"CaneRoundsModel", "readText", "()I"⟩, prog_13_method_40_code, 2, (some .int))
abbrev mm_M_nextToken : am_T := (⟨"CaneRoundsModel", "nextToken", "()V"⟩, prog_13_method_33_code, 4, none)
abbrev mm_M_see : am_T := (⟨"CaneRoundsModel", "see", "(I)I"⟩, prog_13_method_29_code, 2, (some .int))
abbrev mm_M_isDigit : am_T := (⟨"CaneRoundsModel", "isDigit", "(I)Z"⟩, prog_13_method_31_code, 1, (some .boolean))
abbrev mm_M_isLetter : am_T := (⟨"CaneRoundsModel", "isLetter", "(I)Z"⟩, prog_13_method_30_code, 1, (some .boolean))
abbrev mm_M_letterOf : am_T := (⟨"CaneRoundsModel", "letterOf", "(I)I"⟩, prog_13_method_32_code, 1, (some .int))
abbrev mm_M_behind : am_T := (⟨"CaneRoundsModel", "behind", "()I"⟩, prog_13_method_39_code, 2, (some .int))
abbrev mm_M_settle : am_T := (⟨"CaneRoundsModel", "settle", "(I)V"⟩, prog_13_method_37_code, 2, none)
abbrev mm_M_emit : am_T := (⟨"CaneRoundsModel", "emit", "(II)V"⟩, prog_13_method_34_code, 3, none)
abbrev mm_M_push : am_T := (⟨"CaneRoundsModel", "push", "(I)V"⟩, prog_13_method_35_code, 2, none)
abbrev mm_M_whole : am_T := (⟨"CaneRoundsModel", "whole", "()V"⟩, prog_13_method_36_code, 1, none)
abbrev mm_M_begin : am_T := (⟨"CaneRoundsModel", "begin", "()I"⟩, prog_13_method_38_code, 2, (some .int))
abbrev mm_M_fault : am_T := (⟨"CaneRoundsModel", "fault", "(I)I"⟩, prog_13_method_42_code, 2, (some .int))
abbrev mm_M_tells : am_T := (⟨"CaneRoundsModel", "tells", "(IIIII)I"⟩, prog_13_method_47_code, 6, (some .int))
abbrev mm_M_isSmall : am_T := (⟨"CaneRoundsModel", "isSmall", "(I)Z"⟩, prog_13_method_46_code, 1, (some .boolean))
abbrev mm_M_sweet : am_T := (⟨"CaneRoundsModel", "sweet", "(II)I"⟩, prog_13_method_48_code, 3, (some .int))
abbrev mm_M_fieldOf : am_T := (⟨"CaneRoundsModel", "fieldOf", "(II)I"⟩, prog_13_method_49_code, 3, (some .int))
abbrev mm_M_load : am_T := (⟨"CaneRoundsModel", "load", "(II)I"⟩, prog_13_method_50_code, 3, (some .int))
abbrev mm_M_bundle : am_T := (⟨"CaneRoundsModel", "bundle", "(I)I"⟩, prog_13_method_51_code, 2, (some .int))
abbrev mm_M_best : am_T := (⟨"CaneRoundsModel", "best", "(II)I"⟩, prog_13_method_56_code, 3, (some .int))
abbrev mm_M_isSet : am_T := (⟨"CaneRoundsModel", "isSet", "(II)Z"⟩, prog_13_method_55_code, 4, (some .boolean))
abbrev mm_M_find : am_T := (⟨"CaneRoundsModel", "find", "(II)I"⟩, prog_13_method_54_code, 8, (some .int))
abbrev mm_M_could : am_T := (⟨"CaneRoundsModel", "could", "(I)Z"⟩, prog_13_method_53_code, 8, (some .boolean))
abbrev mm_M_dyingFirst : am_T := (⟨"CaneRoundsModel", "dyingFirst", "(I)I"⟩, prog_13_method_52_code, 4, (some .int))
abbrev mm_M_bestSet : am_T := (⟨"CaneRoundsModel", "bestSet", "(II)I"⟩, prog_13_method_57_code, 3, (some .int))
abbrev mm_M_paid : am_T := (⟨"CaneRoundsModel", "paid", "(I)J"⟩, prog_13_method_58_code, 2, (some .long))
abbrev mm_M_about : am_T := (⟨"CaneRoundsModel", "about", "(I)I"⟩, prog_13_method_59_code, 4, (some .int))
abbrev mm_L_law : am_T := (⟨"CaneRoundsLaw", "law", "([I)Z"⟩, code, 4, (some .boolean))
theorem fg_X_7 : af_ok "CaneRounds" 7 10 0 := ⟨_, _, _, rfl, by decide, cs_w10, Or.inl (tt_g1 267 (by decide +kernel) (by decide +kernel))⟩
theorem fg_X_13 : af_ok "CaneRounds" 13 10 1 := ⟨_, _, _, rfl, by decide, cs_w10, Or.inl (tt_g1 268 (by decide +kernel) (by decide +kernel))⟩
theorem fg_X_16 : af_ok "CaneRounds" 16 10 2 := ⟨_, _, _, rfl, by decide, cs_w10, Or.inl (tt_g1 269 (by decide +kernel) (by decide +kernel))⟩
theorem fg_X_19 : af_ok "CaneRounds" 19 10 3 := ⟨_, _, _, rfl, by decide, cs_w10, Or.inl (tt_g1 270 (by decide +kernel) (by decide +kernel))⟩
theorem fg_X_22 : af_ok "CaneRounds" 22 10 5 := ⟨_, _, _, rfl, by decide, cs_w10, Or.inl (tt_g1 272 (by decide +kernel) (by decide +kernel))⟩
theorem fg_X_28 : af_ok "CaneRounds" 28 10 10 := ⟨_, _, _, rfl, by decide, cs_w10, Or.inl (tt_g1 277 (by decide +kernel) (by decide +kernel))⟩
theorem fg_X_35 : af_ok "CaneRounds" 35 10 11 := ⟨_, _, _, rfl, by decide, cs_w10, Or.inl (tt_g1 278 (by decide +kernel) (by decide +kernel))⟩
theorem fg_X_42 : af_ok "CaneRounds" 42 10 12 := ⟨_, _, _, rfl, by decide, cs_w10, Or.inl (tt_g1 279 (by decide +kernel) (by decide +kernel))⟩
theorem fg_X_49 : af_ok "CaneRounds" 49 10 13 := ⟨_, _, _, rfl, by decide, cs_w10, Or.inl (tt_g1 280 (by decide +kernel) (by decide +kernel))⟩
theorem fg_X_56 : af_ok "CaneRounds" 56 10 14 := ⟨_, _, _, rfl, by decide, cs_w10, Or.inl (tt_g1 281 (by decide +kernel) (by decide +kernel))⟩
theorem fg_X_63 : af_ok "CaneRounds" 63 10 15 := ⟨_, _, _, rfl, by decide, cs_w10, Or.inl (tt_g1 282 (by decide +kernel) (by decide +kernel))⟩
theorem fg_X_67 : af_ok "CaneRounds" 67 10 16 := ⟨_, _, _, rfl, by decide, cs_w10, Or.inl (tt_g1 283 (by decide +kernel) (by decide +kernel))⟩
theorem fg_X_70 : af_ok "CaneRounds" 70 10 17 := ⟨_, _, _, rfl, by decide, cs_w10, Or.inl (tt_g1 284 (by decide +kernel) (by decide +kernel))⟩
theorem fg_X_73 : af_ok "CaneRounds" 73 10 18 := ⟨_, _, _, rfl, by decide, cs_w10, Or.inl (tt_g1 285 (by decide +kernel) (by decide +kernel))⟩
theorem fg_X_80 : af_ok "CaneRounds" 80 10 4 := ⟨_, _, _, rfl, by decide, cs_w10, Or.inl (tt_g1 271 (by decide +kernel) (by decide +kernel))⟩
theorem fg_X_87 : af_ok "CaneRounds" 87 3 2 := ⟨_, _, _, rfl, by decide, cs_w3, Or.inr ⟨_, tt_ofN (w := Cond.fieldLinkNest "CaneRounds" 87 "CaneRounds$Farms" "count" "I" "CaneRounds") 123 (by decide +kernel) rfl⟩⟩
theorem fg_X_98 : af_ok "CaneRounds" 98 10 7 := ⟨_, _, _, rfl, by decide, cs_w10, Or.inl (tt_g1 274 (by decide +kernel) (by decide +kernel))⟩
theorem fg_X_102 : af_ok "CaneRounds" 102 10 6 := ⟨_, _, _, rfl, by decide, cs_w10, Or.inl (tt_g1 273 (by decide +kernel) (by decide +kernel))⟩
theorem fg_X_105 : af_ok "CaneRounds" 105 4 14 := ⟨_, _, _, rfl, by decide, cs_w4, Or.inr ⟨_, tt_ofN (w := Cond.fieldLinkNest "CaneRounds" 105 "CaneRounds$Field" "next" "LCaneRounds$Field;" "CaneRounds") 380 (by decide +kernel) rfl⟩⟩
theorem fg_X_125 : af_ok "CaneRounds" 125 4 7 := ⟨_, _, _, rfl, by decide, cs_w4, Or.inr ⟨_, tt_ofN (w := Cond.fieldLinkNest "CaneRounds" 125 "CaneRounds$Field" "state" "I" "CaneRounds") 368 (by decide +kernel) rfl⟩⟩
theorem fg_X_131 : af_ok "CaneRounds" 131 4 1 := ⟨_, _, _, rfl, by decide, cs_w4, Or.inr ⟨_, tt_ofN (w := Cond.fieldLinkNest "CaneRounds" 131 "CaneRounds$Field" "farm" "I" "CaneRounds") 358 (by decide +kernel) rfl⟩⟩
theorem fg_X_134 : af_ok "CaneRounds" 134 4 10 := ⟨_, _, _, rfl, by decide, cs_w4, Or.inr ⟨_, tt_ofN (w := Cond.fieldLinkNest "CaneRounds" 134 "CaneRounds$Field" "burnt" "Z" "CaneRounds") 374 (by decide +kernel) rfl⟩⟩
theorem fg_X_138 : af_ok "CaneRounds" 138 4 9 := ⟨_, _, _, rfl, by decide, cs_w4, Or.inr ⟨_, tt_ofN (w := Cond.fieldLinkNest "CaneRounds" 138 "CaneRounds$Field" "gangs" "I" "CaneRounds") 372 (by decide +kernel) rfl⟩⟩
theorem fg_X_145 : af_ok "CaneRounds" 145 8 1 := ⟨_, _, _, rfl, by decide, cs_w8, Or.inr ⟨_, tt_ofN (w := Cond.fieldLinkNest "CaneRounds" 145 "CaneRounds$Tape" "length" "I" "CaneRounds") 218 (by decide +kernel) rfl⟩⟩
theorem fg_X_151 : af_ok "CaneRounds" 151 8 0 := ⟨_, _, _, rfl, by decide, cs_w8, Or.inr ⟨_, tt_ofN (w := Cond.fieldLinkNest "CaneRounds" 151 "CaneRounds$Tape" "bytes" "[B" "CaneRounds") 216 (by decide +kernel) rfl⟩⟩
theorem fg_X_163 : af_ok "CaneRounds" 163 5 4 := ⟨_, _, _, rfl, by decide, cs_w5, Or.inr ⟨_, tt_ofN (w := Cond.fieldLinkNest "CaneRounds" 163 "CaneRounds$Formula" "fault" "I" "CaneRounds") 236 (by decide +kernel) rfl⟩⟩
theorem fg_X_166 : af_ok "CaneRounds" 166 5 5 := ⟨_, _, _, rfl, by decide, cs_w5, Or.inr ⟨_, tt_ofN (w := Cond.fieldLinkNest "CaneRounds" 166 "CaneRounds$Formula" "place" "I" "CaneRounds") 238 (by decide +kernel) rfl⟩⟩
theorem fg_X_178 : af_ok "CaneRounds" 178 4 2 := ⟨_, _, _, rfl, by decide, cs_w4, Or.inr ⟨_, tt_ofN (w := Cond.fieldLinkNest "CaneRounds" 178 "CaneRounds$Field" "tons" "I" "CaneRounds") 362 (by decide +kernel) rfl⟩⟩
theorem fg_X_181 : af_ok "CaneRounds" 181 4 8 := ⟨_, _, _, rfl, by decide, cs_w4, Or.inr ⟨_, tt_ofN (w := Cond.fieldLinkNest "CaneRounds" 181 "CaneRounds$Field" "tonsCut" "I" "CaneRounds") 370 (by decide +kernel) rfl⟩⟩
theorem fg_X_184 : af_ok "CaneRounds" 184 4 13 := ⟨_, _, _, rfl, by decide, cs_w4, Or.inr ⟨_, tt_ofN (w := Cond.fieldLinkNest "CaneRounds" 184 "CaneRounds$Field" "load" "I" "CaneRounds") 379 (by decide +kernel) rfl⟩⟩
theorem fg_X_191 : af_ok "CaneRounds" 191 6 1 := ⟨_, _, _, rfl, by decide, cs_w6, Or.inr ⟨_, tt_ofN (w := Cond.fieldLinkNest "CaneRounds" 191 "CaneRounds$Load" "field" "LCaneRounds$Field;" "CaneRounds") 548 (by decide +kernel) rfl⟩⟩
theorem fg_X_196 : af_ok "CaneRounds" 196 4 0 := ⟨_, _, _, rfl, by decide, cs_w4, Or.inr ⟨_, tt_ofN (w := Cond.fieldLinkNest "CaneRounds" 196 "CaneRounds$Field" "number" "I" "CaneRounds") 356 (by decide +kernel) rfl⟩⟩
theorem fg_X_199 : af_ok "CaneRounds" 199 6 2 := ⟨_, _, _, rfl, by decide, cs_w6, Or.inr ⟨_, tt_ofN (w := Cond.fieldLinkNest "CaneRounds" 199 "CaneRounds$Load" "cutAt" "I" "CaneRounds") 550 (by decide +kernel) rfl⟩⟩
theorem fg_X_202 : af_ok "CaneRounds" 202 6 3 := ⟨_, _, _, rfl, by decide, cs_w6, Or.inr ⟨_, tt_ofN (w := Cond.fieldLinkNest "CaneRounds" 202 "CaneRounds$Load" "sweet" "I" "CaneRounds") 552 (by decide +kernel) rfl⟩⟩
theorem fg_X_205 : af_ok "CaneRounds" 205 6 4 := ⟨_, _, _, rfl, by decide, cs_w6, Or.inr ⟨_, tt_ofN (w := Cond.fieldLinkNest "CaneRounds" 205 "CaneRounds$Load" "dies" "I" "CaneRounds") 554 (by decide +kernel) rfl⟩⟩
theorem fg_X_208 : af_ok "CaneRounds" 208 6 5 := ⟨_, _, _, rfl, by decide, cs_w6, Or.inr ⟨_, tt_ofN (w := Cond.fieldLinkNest "CaneRounds" 208 "CaneRounds$Load" "atMill" "I" "CaneRounds") 556 (by decide +kernel) rfl⟩⟩
theorem fg_X_211 : af_ok "CaneRounds" 211 6 7 := ⟨_, _, _, rfl, by decide, cs_w6, Or.inr ⟨_, tt_ofN (w := Cond.fieldLinkNest "CaneRounds" 211 "CaneRounds$Load" "crushed" "I" "CaneRounds") 560 (by decide +kernel) rfl⟩⟩
theorem fg_X_214 : af_ok "CaneRounds" 214 6 8 := ⟨_, _, _, rfl, by decide, cs_w6, Or.inr ⟨_, tt_ofN (w := Cond.fieldLinkNest "CaneRounds" 214 "CaneRounds$Load" "lost" "I" "CaneRounds") 562 (by decide +kernel) rfl⟩⟩
theorem fg_X_221 : af_ok "CaneRounds" 221 6 10 := ⟨_, _, _, rfl, by decide, cs_w6, Or.inr ⟨_, tt_ofN (w := Cond.fieldLinkNest "CaneRounds" 221 "CaneRounds$Load" "pay" "I" "CaneRounds") 566 (by decide +kernel) rfl⟩⟩
theorem fg_X_231 : af_ok "CaneRounds" 231 2 9 := ⟨_, _, _, rfl, by decide, cs_w2, Or.inr ⟨_, tt_ofN (w := Cond.fieldLinkNest "CaneRounds" 231 "CaneRounds$Chooser" "bestWorth" "I" "CaneRounds") 183 (by decide +kernel) rfl⟩⟩
theorem fg_X_234 : af_ok "CaneRounds" 234 2 10 := ⟨_, _, _, rfl, by decide, cs_w2, Or.inr ⟨_, tt_ofN (w := Cond.fieldLinkNest "CaneRounds" 234 "CaneRounds$Chooser" "bestSet" "I" "CaneRounds") 185 (by decide +kernel) rfl⟩⟩
theorem fg_X_255 : af_ok "CaneRounds" 255 10 9 := ⟨_, _, _, rfl, by decide, cs_w10, Or.inl (tt_g1 276 (by decide +kernel) (by decide +kernel))⟩
theorem fg_X_259 : af_ok "CaneRounds" 259 6 0 := ⟨_, _, _, rfl, by decide, cs_w6, Or.inr ⟨_, tt_ofN (w := Cond.fieldLinkNest "CaneRounds" 259 "CaneRounds$Load" "number" "I" "CaneRounds") 546 (by decide +kernel) rfl⟩⟩
theorem fg_X_260 : af_ok "CaneRounds" 260 10 8 := ⟨_, _, _, rfl, by decide, cs_w10, Or.inl (tt_g1 275 (by decide +kernel) (by decide +kernel))⟩
theorem fg_X_263 : af_ok "CaneRounds" 263 6 11 := ⟨_, _, _, rfl, by decide, cs_w6, Or.inr ⟨_, tt_ofN (w := Cond.fieldLinkNest "CaneRounds" 263 "CaneRounds$Load" "next" "LCaneRounds$Load;" "CaneRounds") 567 (by decide +kernel) rfl⟩⟩
theorem fg_X_265 : af_ok "CaneRounds" 265 6 6 := ⟨_, _, _, rfl, by decide, cs_w6, Or.inr ⟨_, tt_ofN (w := Cond.fieldLinkNest "CaneRounds" 265 "CaneRounds$Load" "truckFreeAt" "I" "CaneRounds") 558 (by decide +kernel) rfl⟩⟩
theorem fg_X_322 : af_ok "CaneRounds" 322 6 9 := ⟨_, _, _, rfl, by decide, cs_w6, Or.inr ⟨_, tt_ofN (w := Cond.fieldLinkNest "CaneRounds" 322 "CaneRounds$Load" "overAt" "I" "CaneRounds") 564 (by decide +kernel) rfl⟩⟩
theorem fg_X_325 : af_ok "CaneRounds" 325 4 11 := ⟨_, _, _, rfl, by decide, cs_w4, Or.inr ⟨_, tt_ofN (w := Cond.fieldLinkNest "CaneRounds" 325 "CaneRounds$Field" "burntAt" "I" "CaneRounds") 376 (by decide +kernel) rfl⟩⟩
theorem fi_X_27 : ai_B "CaneRounds" 27 mm_Farms_init 0 ∧ Cond.instanceMethod mm_Farms_init.1 ∈ tt_g ∧ mm_Farms_init.1.name = "<init>" ∧ mm_Farms_init.2.2.2 = none := ⟨⟨(tt_g1 118 (by decide +kernel) (by decide +kernel)), (tt_g1 94 (by decide +kernel) (by decide +kernel)), ⟨by decide +kernel, by decide +kernel, by decide +kernel⟩, by decide, Or.inr ⟨_, tt_ofN (w := Cond.methodLinkNest "CaneRounds" 27 ⟨"CaneRounds$Farms", "<init>", "()V"⟩ "CaneRounds") 116 (by decide +kernel) rfl⟩⟩, (tt_g1 117 (by decide +kernel) (by decide +kernel)), rfl, rfl⟩
theorem fi_X_34 : ai_B "CaneRounds" 34 mm_Weather_init 0 ∧ Cond.instanceMethod mm_Weather_init.1 ∈ tt_g ∧ mm_Weather_init.1.name = "<init>" ∧ mm_Weather_init.2.2.2 = none := ⟨⟨(tt_g1 143 (by decide +kernel) (by decide +kernel)), (tt_g1 95 (by decide +kernel) (by decide +kernel)), ⟨by decide +kernel, by decide +kernel, by decide +kernel⟩, by decide, Or.inr ⟨_, tt_ofN (w := Cond.methodLinkNest "CaneRounds" 34 ⟨"CaneRounds$Weather", "<init>", "()V"⟩ "CaneRounds") 141 (by decide +kernel) rfl⟩⟩, (tt_g1 142 (by decide +kernel) (by decide +kernel)), rfl, rfl⟩
theorem fi_X_41 : ai_B "CaneRounds" 41 mm_Bundles_init 0 ∧ Cond.instanceMethod mm_Bundles_init.1 ∈ tt_g ∧ mm_Bundles_init.1.name = "<init>" ∧ mm_Bundles_init.2.2.2 = none := ⟨⟨(tt_g1 156 (by decide +kernel) (by decide +kernel)), (tt_g1 96 (by decide +kernel) (by decide +kernel)), ⟨by decide +kernel, by decide +kernel, by decide +kernel⟩, by decide, Or.inr ⟨_, tt_ofN (w := Cond.methodLinkNest "CaneRounds" 41 ⟨"CaneRounds$Bundles", "<init>", "()V"⟩ "CaneRounds") 154 (by decide +kernel) rfl⟩⟩, (tt_g1 155 (by decide +kernel) (by decide +kernel)), rfl, rfl⟩
theorem fi_X_48 : ai_B "CaneRounds" 48 mm_Chooser_init 0 ∧ Cond.instanceMethod mm_Chooser_init.1 ∈ tt_g ∧ mm_Chooser_init.1.name = "<init>" ∧ mm_Chooser_init.2.2.2 = none := ⟨⟨(tt_g1 169 (by decide +kernel) (by decide +kernel)), (tt_g1 97 (by decide +kernel) (by decide +kernel)), ⟨by decide +kernel, by decide +kernel, by decide +kernel⟩, by decide, Or.inr ⟨_, tt_ofN (w := Cond.methodLinkNest "CaneRounds" 48 ⟨"CaneRounds$Chooser", "<init>", "()V"⟩ "CaneRounds") 167 (by decide +kernel) rfl⟩⟩, (tt_g1 168 (by decide +kernel) (by decide +kernel)), rfl, rfl⟩
theorem fi_X_55 : ai_B "CaneRounds" 55 mm_Tape_init 0 ∧ Cond.instanceMethod mm_Tape_init.1 ∈ tt_g ∧ mm_Tape_init.1.name = "<init>" ∧ mm_Tape_init.2.2.2 = none := ⟨⟨(tt_g1 213 (by decide +kernel) (by decide +kernel)), (tt_g1 98 (by decide +kernel) (by decide +kernel)), ⟨by decide +kernel, by decide +kernel, by decide +kernel⟩, by decide, Or.inr ⟨_, tt_ofN (w := Cond.methodLinkNest "CaneRounds" 55 ⟨"CaneRounds$Tape", "<init>", "()V"⟩ "CaneRounds") 211 (by decide +kernel) rfl⟩⟩, (tt_g1 212 (by decide +kernel) (by decide +kernel)), rfl, rfl⟩
theorem fi_X_62 : ai_B "CaneRounds" 62 mm_Formula_init 0 ∧ Cond.instanceMethod mm_Formula_init.1 ∈ tt_g ∧ mm_Formula_init.1.name = "<init>" ∧ mm_Formula_init.2.2.2 = none := ⟨⟨(tt_g1 229 (by decide +kernel) (by decide +kernel)), (tt_g1 99 (by decide +kernel) (by decide +kernel)), ⟨by decide +kernel, by decide +kernel, by decide +kernel⟩, by decide, Or.inr ⟨_, tt_ofN (w := Cond.methodLinkNest "CaneRounds" 62 ⟨"CaneRounds$Formula", "<init>", "()V"⟩ "CaneRounds") 227 (by decide +kernel) rfl⟩⟩, (tt_g1 228 (by decide +kernel) (by decide +kernel)), rfl, rfl⟩
theorem fi_X_95 : ai_B "CaneRounds" 95 mm_Field_init 7 ∧ Cond.instanceMethod mm_Field_init.1 ∈ tt_g ∧ mm_Field_init.1.name = "<init>" ∧ mm_Field_init.2.2.2 = none := ⟨⟨(tt_g1 352 (by decide +kernel) (by decide +kernel)), (tt_g1 101 (by decide +kernel) (by decide +kernel)), ⟨by decide +kernel, by decide +kernel, by decide +kernel⟩, by decide, Or.inr ⟨_, tt_ofN (w := Cond.methodLinkNest "CaneRounds" 95 ⟨"CaneRounds$Field", "<init>", "(IIIIIII)V"⟩ "CaneRounds") 350 (by decide +kernel) rfl⟩⟩, (tt_g1 351 (by decide +kernel) (by decide +kernel)), rfl, rfl⟩
theorem fi_X_297 : ai_B "CaneRounds" 297 mm_Load_init 3 ∧ Cond.instanceMethod mm_Load_init.1 ∈ tt_g ∧ mm_Load_init.1.name = "<init>" ∧ mm_Load_init.2.2.2 = none := ⟨⟨(tt_g1 537 (by decide +kernel) (by decide +kernel)), (tt_g1 104 (by decide +kernel) (by decide +kernel)), ⟨by decide +kernel, by decide +kernel, by decide +kernel⟩, by decide, Or.inr ⟨_, tt_ofN (w := Cond.methodLinkNest "CaneRounds" 297 ⟨"CaneRounds$Load", "<init>", "(ILCaneRounds$Field;I)V"⟩ "CaneRounds") 535 (by decide +kernel) rfl⟩⟩, (tt_g1 536 (by decide +kernel) (by decide +kernel)), rfl, rfl⟩
theorem fi_X_76 : ai_B "CaneRounds" 76 mm_X_isWithin 3 ∧ Cond.static mm_X_isWithin.1 ∈ tt_g := ⟨⟨(tt_g1 331 (by decide +kernel) (by decide +kernel)), (tt_g1 93 (by decide +kernel) (by decide +kernel)), ⟨by decide +kernel, by decide +kernel, by decide +kernel⟩, by decide, Or.inl (tt_g1 329 (by decide +kernel) (by decide +kernel))⟩, (tt_g1 330 (by decide +kernel) (by decide +kernel))⟩
theorem fi_X_169 : ai_B "CaneRounds" 169 mm_X_isTold 1 ∧ Cond.static mm_X_isTold.1 ∈ tt_g := ⟨⟨(tt_g1 788 (by decide +kernel) (by decide +kernel)), (tt_g1 93 (by decide +kernel) (by decide +kernel)), ⟨by decide +kernel, by decide +kernel, by decide +kernel⟩, by decide, Or.inl (tt_g1 786 (by decide +kernel) (by decide +kernel))⟩, (tt_g1 787 (by decide +kernel) (by decide +kernel))⟩
theorem fi_X_337 : ai_B "CaneRounds" 337 mm_X_quotient 2 ∧ Cond.static mm_X_quotient.1 ∈ tt_g := ⟨⟨(tt_g1 498 (by decide +kernel) (by decide +kernel)), (tt_g1 93 (by decide +kernel) (by decide +kernel)), ⟨by decide +kernel, by decide +kernel, by decide +kernel⟩, by decide, Or.inl (tt_g1 677 (by decide +kernel) (by decide +kernel))⟩, (tt_g1 497 (by decide +kernel) (by decide +kernel))⟩
theorem fi_X_346 : ai_B "CaneRounds" 346 mm_X_holdsBit 2 ∧ Cond.static mm_X_holdsBit.1 ∈ tt_g := ⟨⟨(tt_g1 835 (by decide +kernel) (by decide +kernel)), (tt_g1 93 (by decide +kernel) (by decide +kernel)), ⟨by decide +kernel, by decide +kernel, by decide +kernel⟩, by decide, Or.inl (tt_g1 833 (by decide +kernel) (by decide +kernel))⟩, (tt_g1 834 (by decide +kernel) (by decide +kernel))⟩
theorem fi_X_83 : ai_B "CaneRounds" 83 mm_Farms_add 0 ∧ Cond.instanceMethod mm_Farms_add.1 ∈ tt_g ∧ Cond.selects mm_Farms_add.1.cls mm_Farms_add.1 mm_Farms_add.1 ∈ tt_g := ⟨⟨(tt_g1 339 (by decide +kernel) (by decide +kernel)), (tt_g1 94 (by decide +kernel) (by decide +kernel)), ⟨by decide +kernel, by decide +kernel, by decide +kernel⟩, by decide, Or.inr ⟨_, tt_ofN (w := Cond.methodLinkNest "CaneRounds" 83 ⟨"CaneRounds$Farms", "add", "()I"⟩ "CaneRounds") 336 (by decide +kernel) rfl⟩⟩, (tt_g1 338 (by decide +kernel) (by decide +kernel)), (tt_g1 0 (by decide +kernel) (by decide +kernel))⟩
theorem fi_X_90 : ai_B "CaneRounds" 90 mm_X_fieldCount 0 ∧ Cond.instanceMethod mm_X_fieldCount.1 ∈ tt_g ∧ Cond.selects mm_X_fieldCount.1.cls mm_X_fieldCount.1 mm_X_fieldCount.1 ∈ tt_g := ⟨⟨(tt_g1 347 (by decide +kernel) (by decide +kernel)), (tt_g1 93 (by decide +kernel) (by decide +kernel)), ⟨by decide +kernel, by decide +kernel, by decide +kernel⟩, by decide, Or.inl (tt_g1 344 (by decide +kernel) (by decide +kernel))⟩, (tt_g1 346 (by decide +kernel) (by decide +kernel)), (tt_g1 1 (by decide +kernel) (by decide +kernel))⟩
theorem fi_X_108 : ai_B "CaneRounds" 108 mm_Weather_add 3 ∧ Cond.instanceMethod mm_Weather_add.1 ∈ tt_g ∧ Cond.selects mm_Weather_add.1.cls mm_Weather_add.1 mm_Weather_add.1 ∈ tt_g := ⟨⟨(tt_g1 419 (by decide +kernel) (by decide +kernel)), (tt_g1 95 (by decide +kernel) (by decide +kernel)), ⟨by decide +kernel, by decide +kernel, by decide +kernel⟩, by decide, Or.inr ⟨_, tt_ofN (w := Cond.methodLinkNest "CaneRounds" 108 ⟨"CaneRounds$Weather", "add", "(ZII)Z"⟩ "CaneRounds") 416 (by decide +kernel) rfl⟩⟩, (tt_g1 418 (by decide +kernel) (by decide +kernel)), (tt_g1 2 (by decide +kernel) (by decide +kernel))⟩
theorem fi_X_111 : ai_B "CaneRounds" 111 mm_Farms_drawLots 1 ∧ Cond.instanceMethod mm_Farms_drawLots.1 ∈ tt_g ∧ Cond.selects mm_Farms_drawLots.1.cls mm_Farms_drawLots.1 mm_Farms_drawLots.1 ∈ tt_g := ⟨⟨(tt_g1 450 (by decide +kernel) (by decide +kernel)), (tt_g1 94 (by decide +kernel) (by decide +kernel)), ⟨by decide +kernel, by decide +kernel, by decide +kernel⟩, by decide, Or.inr ⟨_, tt_ofN (w := Cond.methodLinkNest "CaneRounds" 111 ⟨"CaneRounds$Farms", "drawLots", "(I)V"⟩ "CaneRounds") 447 (by decide +kernel) rfl⟩⟩, (tt_g1 449 (by decide +kernel) (by decide +kernel)), (tt_g1 3 (by decide +kernel) (by decide +kernel))⟩
theorem fi_X_115 : ai_B "CaneRounds" 115 mm_Farms_turn 0 ∧ Cond.instanceMethod mm_Farms_turn.1 ∈ tt_g ∧ Cond.selects mm_Farms_turn.1.cls mm_Farms_turn.1 mm_Farms_turn.1 ∈ tt_g := ⟨⟨(tt_g1 455 (by decide +kernel) (by decide +kernel)), (tt_g1 94 (by decide +kernel) (by decide +kernel)), ⟨by decide +kernel, by decide +kernel, by decide +kernel⟩, by decide, Or.inr ⟨_, tt_ofN (w := Cond.methodLinkNest "CaneRounds" 115 ⟨"CaneRounds$Farms", "turn", "()I"⟩ "CaneRounds") 452 (by decide +kernel) rfl⟩⟩, (tt_g1 454 (by decide +kernel) (by decide +kernel)), (tt_g1 4 (by decide +kernel) (by decide +kernel))⟩
theorem fi_X_118 : ai_B "CaneRounds" 118 mm_Farms_settleTurn 0 ∧ Cond.instanceMethod mm_Farms_settleTurn.1 ∈ tt_g ∧ Cond.selects mm_Farms_settleTurn.1.cls mm_Farms_settleTurn.1 mm_Farms_settleTurn.1 ∈ tt_g := ⟨⟨(tt_g1 468 (by decide +kernel) (by decide +kernel)), (tt_g1 94 (by decide +kernel) (by decide +kernel)), ⟨by decide +kernel, by decide +kernel, by decide +kernel⟩, by decide, Or.inr ⟨_, tt_ofN (w := Cond.methodLinkNest "CaneRounds" 118 ⟨"CaneRounds$Farms", "settleTurn", "()V"⟩ "CaneRounds") 465 (by decide +kernel) rfl⟩⟩, (tt_g1 467 (by decide +kernel) (by decide +kernel)), (tt_g1 6 (by decide +kernel) (by decide +kernel))⟩
theorem fi_X_121 : ai_B "CaneRounds" 121 mm_X_findField 1 ∧ Cond.instanceMethod mm_X_findField.1 ∈ tt_g ∧ Cond.selects mm_X_findField.1.cls mm_X_findField.1 mm_X_findField.1 ∈ tt_g := ⟨⟨(tt_g1 476 (by decide +kernel) (by decide +kernel)), (tt_g1 93 (by decide +kernel) (by decide +kernel)), ⟨by decide +kernel, by decide +kernel, by decide +kernel⟩, by decide, Or.inl (tt_g1 473 (by decide +kernel) (by decide +kernel))⟩, (tt_g1 475 (by decide +kernel) (by decide +kernel)), (tt_g1 7 (by decide +kernel) (by decide +kernel))⟩
theorem fi_X_128 : ai_B "CaneRounds" 128 mm_X_freeGangs 0 ∧ Cond.instanceMethod mm_X_freeGangs.1 ∈ tt_g ∧ Cond.selects mm_X_freeGangs.1.cls mm_X_freeGangs.1 mm_X_freeGangs.1 ∈ tt_g := ⟨⟨(tt_g1 480 (by decide +kernel) (by decide +kernel)), (tt_g1 93 (by decide +kernel) (by decide +kernel)), ⟨by decide +kernel, by decide +kernel, by decide +kernel⟩, by decide, Or.inl (tt_g1 477 (by decide +kernel) (by decide +kernel))⟩, (tt_g1 479 (by decide +kernel) (by decide +kernel)), (tt_g1 8 (by decide +kernel) (by decide +kernel))⟩
theorem fi_X_139 : ai_B "CaneRounds" 139 mm_Field_burn 1 ∧ Cond.instanceMethod mm_Field_burn.1 ∈ tt_g ∧ Cond.selects mm_Field_burn.1.cls mm_Field_burn.1 mm_Field_burn.1 ∈ tt_g := ⟨⟨(tt_g1 488 (by decide +kernel) (by decide +kernel)), (tt_g1 101 (by decide +kernel) (by decide +kernel)), ⟨by decide +kernel, by decide +kernel, by decide +kernel⟩, by decide, Or.inr ⟨_, tt_ofN (w := Cond.methodLinkNest "CaneRounds" 139 ⟨"CaneRounds$Field", "burn", "(I)V"⟩ "CaneRounds") 485 (by decide +kernel) rfl⟩⟩, (tt_g1 487 (by decide +kernel) (by decide +kernel)), (tt_g1 9 (by decide +kernel) (by decide +kernel))⟩
theorem fi_X_142 : ai_B "CaneRounds" 142 mm_X_passHour 0 ∧ Cond.instanceMethod mm_X_passHour.1 ∈ tt_g ∧ Cond.selects mm_X_passHour.1.cls mm_X_passHour.1 mm_X_passHour.1 ∈ tt_g := ⟨⟨(tt_g1 509 (by decide +kernel) (by decide +kernel)), (tt_g1 93 (by decide +kernel) (by decide +kernel)), ⟨by decide +kernel, by decide +kernel, by decide +kernel⟩, by decide, Or.inl (tt_g1 506 (by decide +kernel) (by decide +kernel))⟩, (tt_g1 508 (by decide +kernel) (by decide +kernel)), (tt_g1 11 (by decide +kernel) (by decide +kernel))⟩
theorem fi_X_148 : ai_B "CaneRounds" 148 mm_Tape_append 1 ∧ Cond.instanceMethod mm_Tape_append.1 ∈ tt_g ∧ Cond.selects mm_Tape_append.1.cls mm_Tape_append.1 mm_Tape_append.1 ∈ tt_g := ⟨⟨(tt_g1 751 (by decide +kernel) (by decide +kernel)), (tt_g1 98 (by decide +kernel) (by decide +kernel)), ⟨by decide +kernel, by decide +kernel, by decide +kernel⟩, by decide, Or.inr ⟨_, tt_ofN (w := Cond.methodLinkNest "CaneRounds" 148 ⟨"CaneRounds$Tape", "append", "(I)V"⟩ "CaneRounds") 748 (by decide +kernel) rfl⟩⟩, (tt_g1 750 (by decide +kernel) (by decide +kernel)), (tt_g1 47 (by decide +kernel) (by decide +kernel))⟩
theorem fi_X_155 : ai_B "CaneRounds" 155 mm_Formula_split 2 ∧ Cond.instanceMethod mm_Formula_split.1 ∈ tt_g ∧ Cond.selects mm_Formula_split.1.cls mm_Formula_split.1 mm_Formula_split.1 ∈ tt_g := ⟨⟨(tt_g1 763 (by decide +kernel) (by decide +kernel)), (tt_g1 99 (by decide +kernel) (by decide +kernel)), ⟨by decide +kernel, by decide +kernel, by decide +kernel⟩, by decide, Or.inr ⟨_, tt_ofN (w := Cond.methodLinkNest "CaneRounds" 155 ⟨"CaneRounds$Formula", "split", "([BI)V"⟩ "CaneRounds") 760 (by decide +kernel) rfl⟩⟩, (tt_g1 762 (by decide +kernel) (by decide +kernel)), (tt_g1 48 (by decide +kernel) (by decide +kernel))⟩
theorem fi_X_159 : ai_B "CaneRounds" 159 mm_Formula_tell 5 ∧ Cond.instanceMethod mm_Formula_tell.1 ∈ tt_g ∧ Cond.selects mm_Formula_tell.1.cls mm_Formula_tell.1 mm_Formula_tell.1 ∈ tt_g := ⟨⟨(tt_g1 681 (by decide +kernel) (by decide +kernel)), (tt_g1 99 (by decide +kernel) (by decide +kernel)), ⟨by decide +kernel, by decide +kernel, by decide +kernel⟩, by decide, Or.inr ⟨_, tt_ofN (w := Cond.methodLinkNest "CaneRounds" 159 ⟨"CaneRounds$Formula", "tell", "(IIIII)I"⟩ "CaneRounds") 678 (by decide +kernel) rfl⟩⟩, (tt_g1 680 (by decide +kernel) (by decide +kernel)), (tt_g1 34 (by decide +kernel) (by decide +kernel))⟩
theorem fi_X_174 : ai_B "CaneRounds" 174 mm_Field_sweetAt 1 ∧ Cond.instanceMethod mm_Field_sweetAt.1 ∈ tt_g ∧ Cond.selects mm_Field_sweetAt.1.cls mm_Field_sweetAt.1 mm_Field_sweetAt.1 ∈ tt_g := ⟨⟨(tt_g1 492 (by decide +kernel) (by decide +kernel)), (tt_g1 101 (by decide +kernel) (by decide +kernel)), ⟨by decide +kernel, by decide +kernel, by decide +kernel⟩, by decide, Or.inr ⟨_, tt_ofN (w := Cond.methodLinkNest "CaneRounds" 174 ⟨"CaneRounds$Field", "sweetAt", "(I)I"⟩ "CaneRounds") 796 (by decide +kernel) rfl⟩⟩, (tt_g1 491 (by decide +kernel) (by decide +kernel)), (tt_g1 10 (by decide +kernel) (by decide +kernel))⟩
theorem fi_X_187 : ai_B "CaneRounds" 187 mm_X_findLoad 1 ∧ Cond.instanceMethod mm_X_findLoad.1 ∈ tt_g ∧ Cond.selects mm_X_findLoad.1.cls mm_X_findLoad.1 mm_X_findLoad.1 ∈ tt_g := ⟨⟨(tt_g1 808 (by decide +kernel) (by decide +kernel)), (tt_g1 93 (by decide +kernel) (by decide +kernel)), ⟨by decide +kernel, by decide +kernel, by decide +kernel⟩, by decide, Or.inl (tt_g1 805 (by decide +kernel) (by decide +kernel))⟩, (tt_g1 807 (by decide +kernel) (by decide +kernel)), (tt_g1 50 (by decide +kernel) (by decide +kernel))⟩
theorem fi_X_217 : ai_B "CaneRounds" 217 mm_Load_isOver 0 ∧ Cond.instanceMethod mm_Load_isOver.1 ∈ tt_g ∧ Cond.selects mm_Load_isOver.1.cls mm_Load_isOver.1 mm_Load_isOver.1 ∈ tt_g := ⟨⟨(tt_g1 604 (by decide +kernel) (by decide +kernel)), (tt_g1 104 (by decide +kernel) (by decide +kernel)), ⟨by decide +kernel, by decide +kernel, by decide +kernel⟩, by decide, Or.inr ⟨_, tt_ofN (w := Cond.methodLinkNest "CaneRounds" 217 ⟨"CaneRounds$Load", "isOver", "()Z"⟩ "CaneRounds") 601 (by decide +kernel) rfl⟩⟩, (tt_g1 603 (by decide +kernel) (by decide +kernel)), (tt_g1 20 (by decide +kernel) (by decide +kernel))⟩
theorem fi_X_224 : ai_B "CaneRounds" 224 mm_Bundles_fieldOfTon 1 ∧ Cond.instanceMethod mm_Bundles_fieldOfTon.1 ∈ tt_g ∧ Cond.selects mm_Bundles_fieldOfTon.1.cls mm_Bundles_fieldOfTon.1 mm_Bundles_fieldOfTon.1 ∈ tt_g := ⟨⟨(tt_g1 816 (by decide +kernel) (by decide +kernel)), (tt_g1 96 (by decide +kernel) (by decide +kernel)), ⟨by decide +kernel, by decide +kernel, by decide +kernel⟩, by decide, Or.inr ⟨_, tt_ofN (w := Cond.methodLinkNest "CaneRounds" 224 ⟨"CaneRounds$Bundles", "fieldOfTon", "(I)I"⟩ "CaneRounds") 813 (by decide +kernel) rfl⟩⟩, (tt_g1 815 (by decide +kernel) (by decide +kernel)), (tt_g1 51 (by decide +kernel) (by decide +kernel))⟩
theorem fi_X_227 : ai_B "CaneRounds" 227 mm_X_choose 2 ∧ Cond.instanceMethod mm_X_choose.1 ∈ tt_g ∧ Cond.selects mm_X_choose.1.cls mm_X_choose.1 mm_X_choose.1 ∈ tt_g := ⟨⟨(tt_g1 824 (by decide +kernel) (by decide +kernel)), (tt_g1 93 (by decide +kernel) (by decide +kernel)), ⟨by decide +kernel, by decide +kernel, by decide +kernel⟩, by decide, Or.inl (tt_g1 821 (by decide +kernel) (by decide +kernel))⟩, (tt_g1 823 (by decide +kernel) (by decide +kernel)), (tt_g1 52 (by decide +kernel) (by decide +kernel))⟩
theorem fi_X_237 : ai_B "CaneRounds" 237 mm_Farms_earnedBy 1 ∧ Cond.instanceMethod mm_Farms_earnedBy.1 ∈ tt_g ∧ Cond.selects mm_Farms_earnedBy.1.cls mm_Farms_earnedBy.1 mm_Farms_earnedBy.1 ∈ tt_g := ⟨⟨(tt_g1 884 (by decide +kernel) (by decide +kernel)), (tt_g1 94 (by decide +kernel) (by decide +kernel)), ⟨by decide +kernel, by decide +kernel, by decide +kernel⟩, by decide, Or.inr ⟨_, tt_ofN (w := Cond.methodLinkNest "CaneRounds" 237 ⟨"CaneRounds$Farms", "earnedBy", "(I)J"⟩ "CaneRounds") 881 (by decide +kernel) rfl⟩⟩, (tt_g1 883 (by decide +kernel) (by decide +kernel)), (tt_g1 62 (by decide +kernel) (by decide +kernel))⟩
theorem fi_X_241 : ai_B "CaneRounds" 241 mm_X_loadCount 0 ∧ Cond.instanceMethod mm_X_loadCount.1 ∈ tt_g ∧ Cond.selects mm_X_loadCount.1.cls mm_X_loadCount.1 mm_X_loadCount.1 ∈ tt_g := ⟨⟨(tt_g1 534 (by decide +kernel) (by decide +kernel)), (tt_g1 93 (by decide +kernel) (by decide +kernel)), ⟨by decide +kernel, by decide +kernel, by decide +kernel⟩, by decide, Or.inl (tt_g1 531 (by decide +kernel) (by decide +kernel))⟩, (tt_g1 533 (by decide +kernel) (by decide +kernel)), (tt_g1 16 (by decide +kernel) (by decide +kernel))⟩
theorem fi_X_244 : ai_B "CaneRounds" 244 mm_X_freeTrucks 0 ∧ Cond.instanceMethod mm_X_freeTrucks.1 ∈ tt_g ∧ Cond.selects mm_X_freeTrucks.1.cls mm_X_freeTrucks.1 mm_X_freeTrucks.1 ∈ tt_g := ⟨⟨(tt_g1 600 (by decide +kernel) (by decide +kernel)), (tt_g1 93 (by decide +kernel) (by decide +kernel)), ⟨by decide +kernel, by decide +kernel, by decide +kernel⟩, by decide, Or.inl (tt_g1 597 (by decide +kernel) (by decide +kernel))⟩, (tt_g1 599 (by decide +kernel) (by decide +kernel)), (tt_g1 19 (by decide +kernel) (by decide +kernel))⟩
theorem fi_X_247 : ai_B "CaneRounds" 247 mm_Bundles_count 0 ∧ Cond.instanceMethod mm_Bundles_count.1 ∈ tt_g ∧ Cond.selects mm_Bundles_count.1.cls mm_Bundles_count.1 mm_Bundles_count.1 ∈ tt_g := ⟨⟨(tt_g1 637 (by decide +kernel) (by decide +kernel)), (tt_g1 96 (by decide +kernel) (by decide +kernel)), ⟨by decide +kernel, by decide +kernel, by decide +kernel⟩, by decide, Or.inr ⟨_, tt_ofN (w := Cond.methodLinkNest "CaneRounds" 247 ⟨"CaneRounds$Bundles", "count", "()I"⟩ "CaneRounds") 889 (by decide +kernel) rfl⟩⟩, (tt_g1 636 (by decide +kernel) (by decide +kernel)), (tt_g1 28 (by decide +kernel) (by decide +kernel))⟩
theorem fi_X_249 : ai_B "CaneRounds" 249 mm_X_tonsLost 0 ∧ Cond.instanceMethod mm_X_tonsLost.1 ∈ tt_g ∧ Cond.selects mm_X_tonsLost.1.cls mm_X_tonsLost.1 mm_X_tonsLost.1 ∈ tt_g := ⟨⟨(tt_g1 893 (by decide +kernel) (by decide +kernel)), (tt_g1 93 (by decide +kernel) (by decide +kernel)), ⟨by decide +kernel, by decide +kernel, by decide +kernel⟩, by decide, Or.inl (tt_g1 890 (by decide +kernel) (by decide +kernel))⟩, (tt_g1 892 (by decide +kernel) (by decide +kernel)), (tt_g1 63 (by decide +kernel) (by decide +kernel))⟩
theorem fi_X_252 : ai_B "CaneRounds" 252 mm_Farms_inOrder 1 ∧ Cond.instanceMethod mm_Farms_inOrder.1 ∈ tt_g ∧ Cond.selects mm_Farms_inOrder.1.cls mm_Farms_inOrder.1 mm_Farms_inOrder.1 ∈ tt_g := ⟨⟨(tt_g1 459 (by decide +kernel) (by decide +kernel)), (tt_g1 94 (by decide +kernel) (by decide +kernel)), ⟨by decide +kernel, by decide +kernel, by decide +kernel⟩, by decide, Or.inr ⟨_, tt_ofN (w := Cond.methodLinkNest "CaneRounds" 252 ⟨"CaneRounds$Farms", "inOrder", "(I)I"⟩ "CaneRounds") 894 (by decide +kernel) rfl⟩⟩, (tt_g1 458 (by decide +kernel) (by decide +kernel)), (tt_g1 5 (by decide +kernel) (by decide +kernel))⟩
theorem fi_X_268 : ai_B "CaneRounds" 268 mm_Weather_holds 2 ∧ Cond.instanceMethod mm_Weather_holds.1 ∈ tt_g ∧ Cond.selects mm_Weather_holds.1.cls mm_Weather_holds.1 mm_Weather_holds.1 ∈ tt_g := ⟨⟨(tt_g1 513 (by decide +kernel) (by decide +kernel)), (tt_g1 95 (by decide +kernel) (by decide +kernel)), ⟨by decide +kernel, by decide +kernel, by decide +kernel⟩, by decide, Or.inr ⟨_, tt_ofN (w := Cond.methodLinkNest "CaneRounds" 268 ⟨"CaneRounds$Weather", "holds", "(ZI)Z"⟩ "CaneRounds") 510 (by decide +kernel) rfl⟩⟩, (tt_g1 512 (by decide +kernel) (by decide +kernel)), (tt_g1 12 (by decide +kernel) (by decide +kernel))⟩
theorem fi_X_272 : ai_B "CaneRounds" 272 mm_X_goOnCutting 0 ∧ Cond.instanceMethod mm_X_goOnCutting.1 ∈ tt_g ∧ Cond.selects mm_X_goOnCutting.1.cls mm_X_goOnCutting.1 mm_X_goOnCutting.1 ∈ tt_g := ⟨⟨(tt_g1 517 (by decide +kernel) (by decide +kernel)), (tt_g1 93 (by decide +kernel) (by decide +kernel)), ⟨by decide +kernel, by decide +kernel, by decide +kernel⟩, by decide, Or.inl (tt_g1 514 (by decide +kernel) (by decide +kernel))⟩, (tt_g1 516 (by decide +kernel) (by decide +kernel)), (tt_g1 13 (by decide +kernel) (by decide +kernel))⟩
theorem fi_X_275 : ai_B "CaneRounds" 275 mm_X_sendTrucks 0 ∧ Cond.instanceMethod mm_X_sendTrucks.1 ∈ tt_g ∧ Cond.selects mm_X_sendTrucks.1.cls mm_X_sendTrucks.1 mm_X_sendTrucks.1 ∈ tt_g := ⟨⟨(tt_g1 596 (by decide +kernel) (by decide +kernel)), (tt_g1 93 (by decide +kernel) (by decide +kernel)), ⟨by decide +kernel, by decide +kernel, by decide +kernel⟩, by decide, Or.inl (tt_g1 593 (by decide +kernel) (by decide +kernel))⟩, (tt_g1 595 (by decide +kernel) (by decide +kernel)), (tt_g1 18 (by decide +kernel) (by decide +kernel))⟩
theorem fi_X_278 : ai_B "CaneRounds" 278 mm_X_crushLoads 0 ∧ Cond.instanceMethod mm_X_crushLoads.1 ∈ tt_g ∧ Cond.selects mm_X_crushLoads.1.cls mm_X_crushLoads.1 mm_X_crushLoads.1 ∈ tt_g := ⟨⟨(tt_g1 616 (by decide +kernel) (by decide +kernel)), (tt_g1 93 (by decide +kernel) (by decide +kernel)), ⟨by decide +kernel, by decide +kernel, by decide +kernel⟩, by decide, Or.inl (tt_g1 613 (by decide +kernel) (by decide +kernel))⟩, (tt_g1 615 (by decide +kernel) (by decide +kernel)), (tt_g1 23 (by decide +kernel) (by decide +kernel))⟩
theorem fi_X_281 : ai_B "CaneRounds" 281 mm_X_endLoads 0 ∧ Cond.instanceMethod mm_X_endLoads.1 ∈ tt_g ∧ Cond.selects mm_X_endLoads.1.cls mm_X_endLoads.1 mm_X_endLoads.1 ∈ tt_g := ⟨⟨(tt_g1 659 (by decide +kernel) (by decide +kernel)), (tt_g1 93 (by decide +kernel) (by decide +kernel)), ⟨by decide +kernel, by decide +kernel, by decide +kernel⟩, by decide, Or.inl (tt_g1 656 (by decide +kernel) (by decide +kernel))⟩, (tt_g1 658 (by decide +kernel) (by decide +kernel)), (tt_g1 29 (by decide +kernel) (by decide +kernel))⟩
theorem fi_X_284 : ai_B "CaneRounds" 284 mm_X_endFires 0 ∧ Cond.instanceMethod mm_X_endFires.1 ∈ tt_g ∧ Cond.selects mm_X_endFires.1.cls mm_X_endFires.1 mm_X_endFires.1 ∈ tt_g := ⟨⟨(tt_g1 663 (by decide +kernel) (by decide +kernel)), (tt_g1 93 (by decide +kernel) (by decide +kernel)), ⟨by decide +kernel, by decide +kernel, by decide +kernel⟩, by decide, Or.inl (tt_g1 660 (by decide +kernel) (by decide +kernel))⟩, (tt_g1 662 (by decide +kernel) (by decide +kernel)), (tt_g1 30 (by decide +kernel) (by decide +kernel))⟩
theorem fi_X_287 : ai_B "CaneRounds" 287 mm_X_payDay 0 ∧ Cond.instanceMethod mm_X_payDay.1 ∈ tt_g ∧ Cond.selects mm_X_payDay.1.cls mm_X_payDay.1 mm_X_payDay.1 ∈ tt_g := ⟨⟨(tt_g1 667 (by decide +kernel) (by decide +kernel)), (tt_g1 93 (by decide +kernel) (by decide +kernel)), ⟨by decide +kernel, by decide +kernel, by decide +kernel⟩, by decide, Or.inl (tt_g1 664 (by decide +kernel) (by decide +kernel))⟩, (tt_g1 666 (by decide +kernel) (by decide +kernel)), (tt_g1 31 (by decide +kernel) (by decide +kernel))⟩
theorem fi_X_290 : ai_B "CaneRounds" 290 mm_Field_goOn 1 ∧ Cond.instanceMethod mm_Field_goOn.1 ∈ tt_g ∧ Cond.selects mm_Field_goOn.1.cls mm_Field_goOn.1 mm_Field_goOn.1 ∈ tt_g := ⟨⟨(tt_g1 521 (by decide +kernel) (by decide +kernel)), (tt_g1 101 (by decide +kernel) (by decide +kernel)), ⟨by decide +kernel, by decide +kernel, by decide +kernel⟩, by decide, Or.inr ⟨_, tt_ofN (w := Cond.methodLinkNest "CaneRounds" 290 ⟨"CaneRounds$Field", "goOn", "(I)V"⟩ "CaneRounds") 518 (by decide +kernel) rfl⟩⟩, (tt_g1 520 (by decide +kernel) (by decide +kernel)), (tt_g1 14 (by decide +kernel) (by decide +kernel))⟩
theorem fi_X_293 : ai_B "CaneRounds" 293 mm_X_addLoad 1 ∧ Cond.instanceMethod mm_X_addLoad.1 ∈ tt_g ∧ Cond.selects mm_X_addLoad.1.cls mm_X_addLoad.1 mm_X_addLoad.1 ∈ tt_g := ⟨⟨(tt_g1 528 (by decide +kernel) (by decide +kernel)), (tt_g1 93 (by decide +kernel) (by decide +kernel)), ⟨by decide +kernel, by decide +kernel, by decide +kernel⟩, by decide, Or.inl (tt_g1 525 (by decide +kernel) (by decide +kernel))⟩, (tt_g1 527 (by decide +kernel) (by decide +kernel)), (tt_g1 15 (by decide +kernel) (by decide +kernel))⟩
theorem fi_X_300 : ai_B "CaneRounds" 300 mm_Load_leave 1 ∧ Cond.instanceMethod mm_Load_leave.1 ∈ tt_g ∧ Cond.selects mm_Load_leave.1.cls mm_Load_leave.1 mm_Load_leave.1 ∈ tt_g := ⟨⟨(tt_g1 608 (by decide +kernel) (by decide +kernel)), (tt_g1 104 (by decide +kernel) (by decide +kernel)), ⟨by decide +kernel, by decide +kernel, by decide +kernel⟩, by decide, Or.inr ⟨_, tt_ofN (w := Cond.methodLinkNest "CaneRounds" 300 ⟨"CaneRounds$Load", "leave", "(I)V"⟩ "CaneRounds") 605 (by decide +kernel) rfl⟩⟩, (tt_g1 607 (by decide +kernel) (by decide +kernel)), (tt_g1 21 (by decide +kernel) (by decide +kernel))⟩
theorem fi_X_303 : ai_B "CaneRounds" 303 mm_X_nextToCrush 0 ∧ Cond.instanceMethod mm_X_nextToCrush.1 ∈ tt_g ∧ Cond.selects mm_X_nextToCrush.1.cls mm_X_nextToCrush.1 mm_X_nextToCrush.1 ∈ tt_g := ⟨⟨(tt_g1 620 (by decide +kernel) (by decide +kernel)), (tt_g1 93 (by decide +kernel) (by decide +kernel)), ⟨by decide +kernel, by decide +kernel, by decide +kernel⟩, by decide, Or.inl (tt_g1 617 (by decide +kernel) (by decide +kernel))⟩, (tt_g1 619 (by decide +kernel) (by decide +kernel)), (tt_g1 24 (by decide +kernel) (by decide +kernel))⟩
theorem fi_X_307 : ai_B "CaneRounds" 307 mm_Load_tonsLeft 0 ∧ Cond.instanceMethod mm_Load_tonsLeft.1 ∈ tt_g ∧ Cond.selects mm_Load_tonsLeft.1.cls mm_Load_tonsLeft.1 mm_Load_tonsLeft.1 ∈ tt_g := ⟨⟨(tt_g1 628 (by decide +kernel) (by decide +kernel)), (tt_g1 104 (by decide +kernel) (by decide +kernel)), ⟨by decide +kernel, by decide +kernel, by decide +kernel⟩, by decide, Or.inr ⟨_, tt_ofN (w := Cond.methodLinkNest "CaneRounds" 307 ⟨"CaneRounds$Load", "tonsLeft", "()I"⟩ "CaneRounds") 625 (by decide +kernel) rfl⟩⟩, (tt_g1 627 (by decide +kernel) (by decide +kernel)), (tt_g1 26 (by decide +kernel) (by decide +kernel))⟩
theorem fi_X_316 : ai_B "CaneRounds" 316 mm_Bundles_add 2 ∧ Cond.instanceMethod mm_Bundles_add.1 ∈ tt_g ∧ Cond.selects mm_Bundles_add.1.cls mm_Bundles_add.1 mm_Bundles_add.1 ∈ tt_g := ⟨⟨(tt_g1 633 (by decide +kernel) (by decide +kernel)), (tt_g1 96 (by decide +kernel) (by decide +kernel)), ⟨by decide +kernel, by decide +kernel, by decide +kernel⟩, by decide, Or.inr ⟨_, tt_ofN (w := Cond.methodLinkNest "CaneRounds" 316 ⟨"CaneRounds$Bundles", "add", "(II)V"⟩ "CaneRounds") 630 (by decide +kernel) rfl⟩⟩, (tt_g1 632 (by decide +kernel) (by decide +kernel)), (tt_g1 27 (by decide +kernel) (by decide +kernel))⟩
theorem fi_X_319 : ai_B "CaneRounds" 319 mm_Load_isAtMill 1 ∧ Cond.instanceMethod mm_Load_isAtMill.1 ∈ tt_g ∧ Cond.selects mm_Load_isAtMill.1.cls mm_Load_isAtMill.1 mm_Load_isAtMill.1 ∈ tt_g := ⟨⟨(tt_g1 624 (by decide +kernel) (by decide +kernel)), (tt_g1 104 (by decide +kernel) (by decide +kernel)), ⟨by decide +kernel, by decide +kernel, by decide +kernel⟩, by decide, Or.inr ⟨_, tt_ofN (w := Cond.methodLinkNest "CaneRounds" 319 ⟨"CaneRounds$Load", "isAtMill", "(I)Z"⟩ "CaneRounds") 621 (by decide +kernel) rfl⟩⟩, (tt_g1 623 (by decide +kernel) (by decide +kernel)), (tt_g1 25 (by decide +kernel) (by decide +kernel))⟩
theorem fi_X_328 : ai_B "CaneRounds" 328 mm_X_meanOfDay 0 ∧ Cond.instanceMethod mm_X_meanOfDay.1 ∈ tt_g ∧ Cond.selects mm_X_meanOfDay.1.cls mm_X_meanOfDay.1 mm_X_meanOfDay.1 ∈ tt_g := ⟨⟨(tt_g1 671 (by decide +kernel) (by decide +kernel)), (tt_g1 93 (by decide +kernel) (by decide +kernel)), ⟨by decide +kernel, by decide +kernel, by decide +kernel⟩, by decide, Or.inl (tt_g1 668 (by decide +kernel) (by decide +kernel))⟩, (tt_g1 670 (by decide +kernel) (by decide +kernel)), (tt_g1 32 (by decide +kernel) (by decide +kernel))⟩
theorem fi_X_331 : ai_B "CaneRounds" 331 mm_Load_isToBePaid 0 ∧ Cond.instanceMethod mm_Load_isToBePaid.1 ∈ tt_g ∧ Cond.selects mm_Load_isToBePaid.1.cls mm_Load_isToBePaid.1 mm_Load_isToBePaid.1 ∈ tt_g := ⟨⟨(tt_g1 675 (by decide +kernel) (by decide +kernel)), (tt_g1 104 (by decide +kernel) (by decide +kernel)), ⟨by decide +kernel, by decide +kernel, by decide +kernel⟩, by decide, Or.inr ⟨_, tt_ofN (w := Cond.methodLinkNest "CaneRounds" 331 ⟨"CaneRounds$Load", "isToBePaid", "()Z"⟩ "CaneRounds") 672 (by decide +kernel) rfl⟩⟩, (tt_g1 674 (by decide +kernel) (by decide +kernel)), (tt_g1 33 (by decide +kernel) (by decide +kernel))⟩
theorem fi_X_334 : ai_B "CaneRounds" 334 mm_Farms_give 2 ∧ Cond.instanceMethod mm_Farms_give.1 ∈ tt_g ∧ Cond.selects mm_Farms_give.1.cls mm_Farms_give.1 mm_Farms_give.1 ∈ tt_g := ⟨⟨(tt_g1 743 (by decide +kernel) (by decide +kernel)), (tt_g1 94 (by decide +kernel) (by decide +kernel)), ⟨by decide +kernel, by decide +kernel, by decide +kernel⟩, by decide, Or.inr ⟨_, tt_ofN (w := Cond.methodLinkNest "CaneRounds" 334 ⟨"CaneRounds$Farms", "give", "(II)V"⟩ "CaneRounds") 740 (by decide +kernel) rfl⟩⟩, (tt_g1 742 (by decide +kernel) (by decide +kernel)), (tt_g1 46 (by decide +kernel) (by decide +kernel))⟩
theorem fi_X_340 : ai_B "CaneRounds" 340 mm_X_standingFields 0 ∧ Cond.instanceMethod mm_X_standingFields.1 ∈ tt_g ∧ Cond.selects mm_X_standingFields.1.cls mm_X_standingFields.1 mm_X_standingFields.1 ∈ tt_g := ⟨⟨(tt_g1 828 (by decide +kernel) (by decide +kernel)), (tt_g1 93 (by decide +kernel) (by decide +kernel)), ⟨by decide +kernel, by decide +kernel, by decide +kernel⟩, by decide, Or.inl (tt_g1 825 (by decide +kernel) (by decide +kernel))⟩, (tt_g1 827 (by decide +kernel) (by decide +kernel)), (tt_g1 53 (by decide +kernel) (by decide +kernel))⟩
theorem fi_X_343 : ai_B "CaneRounds" 343 mm_Chooser_clear 1 ∧ Cond.instanceMethod mm_Chooser_clear.1 ∈ tt_g ∧ Cond.selects mm_Chooser_clear.1.cls mm_Chooser_clear.1 mm_Chooser_clear.1 ∈ tt_g := ⟨⟨(tt_g1 832 (by decide +kernel) (by decide +kernel)), (tt_g1 97 (by decide +kernel) (by decide +kernel)), ⟨by decide +kernel, by decide +kernel, by decide +kernel⟩, by decide, Or.inr ⟨_, tt_ofN (w := Cond.methodLinkNest "CaneRounds" 343 ⟨"CaneRounds$Chooser", "clear", "(I)V"⟩ "CaneRounds") 829 (by decide +kernel) rfl⟩⟩, (tt_g1 831 (by decide +kernel) (by decide +kernel)), (tt_g1 54 (by decide +kernel) (by decide +kernel))⟩
theorem fi_X_349 : ai_B "CaneRounds" 349 mm_Chooser_offer 2 ∧ Cond.instanceMethod mm_Chooser_offer.1 ∈ tt_g ∧ Cond.selects mm_Chooser_offer.1.cls mm_Chooser_offer.1 mm_Chooser_offer.1 ∈ tt_g := ⟨⟨(tt_g1 839 (by decide +kernel) (by decide +kernel)), (tt_g1 97 (by decide +kernel) (by decide +kernel)), ⟨by decide +kernel, by decide +kernel, by decide +kernel⟩, by decide, Or.inr ⟨_, tt_ofN (w := Cond.methodLinkNest "CaneRounds" 349 ⟨"CaneRounds$Chooser", "offer", "(LCaneRounds$Field;I)V"⟩ "CaneRounds") 836 (by decide +kernel) rfl⟩⟩, (tt_g1 838 (by decide +kernel) (by decide +kernel)), (tt_g1 55 (by decide +kernel) (by decide +kernel))⟩
theorem fi_X_353 : ai_B "CaneRounds" 353 mm_Chooser_decide 1 ∧ Cond.instanceMethod mm_Chooser_decide.1 ∈ tt_g ∧ Cond.selects mm_Chooser_decide.1.cls mm_Chooser_decide.1 mm_Chooser_decide.1 ∈ tt_g := ⟨⟨(tt_g1 851 (by decide +kernel) (by decide +kernel)), (tt_g1 97 (by decide +kernel) (by decide +kernel)), ⟨by decide +kernel, by decide +kernel, by decide +kernel⟩, by decide, Or.inr ⟨_, tt_ofN (w := Cond.methodLinkNest "CaneRounds" 353 ⟨"CaneRounds$Chooser", "decide", "(I)V"⟩ "CaneRounds") 848 (by decide +kernel) rfl⟩⟩, (tt_g1 850 (by decide +kernel) (by decide +kernel)), (tt_g1 56 (by decide +kernel) (by decide +kernel))⟩
theorem fc_X_173 : Cond.constant "CaneRounds" 173 (-2000000000) ∈ tt_g := (tt_g1 791 (by decide +kernel) (by decide +kernel))
theorem fc_X_356 : Cond.constant "CaneRounds" 356 (-1000000) ∈ tt_g := (tt_g1 789 (by decide +kernel) (by decide +kernel))
theorem fc_X_357 : Cond.constant "CaneRounds" 357 (1000000) ∈ tt_g := (tt_g1 790 (by decide +kernel) (by decide +kernel))
theorem fn_X_25 : an_ok "CaneRounds" 25 3 5 [av_n, av_n, av_i 0, av_i 0, av_i 0] := ⟨_, _, cs_y3, rfl, cs_w3, cs_p3, (tt_g1 114 (by decide +kernel) (by decide +kernel)), (tt_g1 115 (by decide +kernel) (by decide +kernel)), (tt_g1 94 (by decide +kernel) (by decide +kernel)), fun w j hj => by
  rcases (show j = 0 ∨ j = 1 ∨ j = 2 ∨ j = 3 ∨ j = 4 by omega) with rfl | rfl | rfl | rfl | rfl <;> rfl⟩
theorem fn_X_32 : an_ok "CaneRounds" 32 9 2 [av_n, av_i 0] := ⟨_, _, cs_y9, rfl, cs_w9, cs_p9, (tt_g1 139 (by decide +kernel) (by decide +kernel)), (tt_g1 140 (by decide +kernel) (by decide +kernel)), (tt_g1 95 (by decide +kernel) (by decide +kernel)), fun w j hj => by
  rcases (show j = 0 ∨ j = 1 by omega) with rfl | rfl <;> rfl⟩
theorem fn_X_39 : an_ok "CaneRounds" 39 1 2 [av_n, av_n] := ⟨_, _, cs_y1, rfl, cs_w1, cs_p1, (tt_g1 152 (by decide +kernel) (by decide +kernel)), (tt_g1 153 (by decide +kernel) (by decide +kernel)), (tt_g1 96 (by decide +kernel) (by decide +kernel)), fun w j hj => by
  rcases (show j = 0 ∨ j = 1 by omega) with rfl | rfl <;> rfl⟩
theorem fn_X_46 : an_ok "CaneRounds" 46 2 11 [av_n, av_n, av_n, av_n, av_n, av_n, av_i 0, av_i 0, av_i 0, av_i 0, av_i 0] := ⟨_, _, cs_y2, rfl, cs_w2, cs_p2, (tt_g1 165 (by decide +kernel) (by decide +kernel)), (tt_g1 166 (by decide +kernel) (by decide +kernel)), (tt_g1 97 (by decide +kernel) (by decide +kernel)), fun w j hj => by
  rcases (show j = 0 ∨ j = 1 ∨ j = 2 ∨ j = 3 ∨ j = 4 ∨ j = 5 ∨ j = 6 ∨ j = 7 ∨ j = 8 ∨ j = 9 ∨ j = 10 by omega) with rfl | rfl | rfl | rfl | rfl | rfl | rfl | rfl | rfl | rfl | rfl <;> rfl⟩
theorem fn_X_53 : an_ok "CaneRounds" 53 8 2 [av_n, av_i 0] := ⟨_, _, cs_y8, rfl, cs_w8, cs_p8, (tt_g1 209 (by decide +kernel) (by decide +kernel)), (tt_g1 210 (by decide +kernel) (by decide +kernel)), (tt_g1 98 (by decide +kernel) (by decide +kernel)), fun w j hj => by
  rcases (show j = 0 ∨ j = 1 by omega) with rfl | rfl <;> rfl⟩
theorem fn_X_60 : an_ok "CaneRounds" 60 5 11 [av_n, av_n, av_i 0, av_i 0, av_i 0, av_i 0, av_i 0, av_i 0, av_i 0, av_i 0, av_i 0] := ⟨_, _, cs_y5, rfl, cs_w5, cs_p5, (tt_g1 225 (by decide +kernel) (by decide +kernel)), (tt_g1 226 (by decide +kernel) (by decide +kernel)), (tt_g1 99 (by decide +kernel) (by decide +kernel)), fun w j hj => by
  rcases (show j = 0 ∨ j = 1 ∨ j = 2 ∨ j = 3 ∨ j = 4 ∨ j = 5 ∨ j = 6 ∨ j = 7 ∨ j = 8 ∨ j = 9 ∨ j = 10 by omega) with rfl | rfl | rfl | rfl | rfl | rfl | rfl | rfl | rfl | rfl | rfl <;> rfl⟩
theorem fn_X_93 : an_ok "CaneRounds" 93 4 15 [av_i 0, av_i 0, av_i 0, av_i 0, av_i 0, av_i 0, av_i 0, av_i 0, av_i 0, av_i 0, av_i 0, av_i 0, av_i 0, av_i 0, av_n] := ⟨_, _, cs_y4, rfl, cs_w4, cs_p4, (tt_g1 348 (by decide +kernel) (by decide +kernel)), (tt_g1 349 (by decide +kernel) (by decide +kernel)), (tt_g1 101 (by decide +kernel) (by decide +kernel)), fun w j hj => by
  rcases (show j = 0 ∨ j = 1 ∨ j = 2 ∨ j = 3 ∨ j = 4 ∨ j = 5 ∨ j = 6 ∨ j = 7 ∨ j = 8 ∨ j = 9 ∨ j = 10 ∨ j = 11 ∨ j = 12 ∨ j = 13 ∨ j = 14 by omega) with rfl | rfl | rfl | rfl | rfl | rfl | rfl | rfl | rfl | rfl | rfl | rfl | rfl | rfl | rfl <;> rfl⟩
theorem fn_X_192 : an_ok "CaneRounds" 192 6 12 [av_i 0, av_n, av_i 0, av_i 0, av_i 0, av_i 0, av_i 0, av_i 0, av_i 0, av_i 0, av_i 0, av_n] := ⟨_, _, cs_y6, rfl, cs_w6, cs_p6, (tt_g1 529 (by decide +kernel) (by decide +kernel)), (tt_g1 530 (by decide +kernel) (by decide +kernel)), (tt_g1 104 (by decide +kernel) (by decide +kernel)), fun w j hj => by
  rcases (show j = 0 ∨ j = 1 ∨ j = 2 ∨ j = 3 ∨ j = 4 ∨ j = 5 ∨ j = 6 ∨ j = 7 ∨ j = 8 ∨ j = 9 ∨ j = 10 ∨ j = 11 by omega) with rfl | rfl | rfl | rfl | rfl | rfl | rfl | rfl | rfl | rfl | rfl | rfl <;> rfl⟩
theorem fp_X_7 {mn : String} : af_put "CaneRounds" mn 7 10 0 (.int) := ⟨_, _, _, cs_y10, rfl, by decide, cs_w10, cs_p10, cs_n10, rfl, Or.inl ⟨rfl, Or.inl (tt_g1 267 (by decide +kernel) (by decide +kernel))⟩⟩
theorem fp_X_13 {mn : String} : af_put "CaneRounds" mn 13 10 1 (.int) := ⟨_, _, _, cs_y10, rfl, by decide, cs_w10, cs_p10, cs_n10, rfl, Or.inl ⟨rfl, Or.inl (tt_g1 268 (by decide +kernel) (by decide +kernel))⟩⟩
theorem fp_X_16 {mn : String} : af_put "CaneRounds" mn 16 10 2 (.int) := ⟨_, _, _, cs_y10, rfl, by decide, cs_w10, cs_p10, cs_n10, rfl, Or.inl ⟨rfl, Or.inl (tt_g1 269 (by decide +kernel) (by decide +kernel))⟩⟩
theorem fp_X_19 {mn : String} : af_put "CaneRounds" mn 19 10 3 (.int) := ⟨_, _, _, cs_y10, rfl, by decide, cs_w10, cs_p10, cs_n10, rfl, Or.inl ⟨rfl, Or.inl (tt_g1 270 (by decide +kernel) (by decide +kernel))⟩⟩
theorem fp_X_22 {mn : String} : af_put "CaneRounds" mn 22 10 5 (.int) := ⟨_, _, _, cs_y10, rfl, by decide, cs_w10, cs_p10, cs_n10, rfl, Or.inl ⟨rfl, Or.inl (tt_g1 272 (by decide +kernel) (by decide +kernel))⟩⟩
theorem fp_X_28 : af_put "CaneRounds" "<init>" 28 10 10 (.object "CaneRounds$Farms") := ⟨_, _, _, cs_y10, rfl, by decide, cs_w10, cs_p10, cs_n10, rfl, Or.inr ⟨rfl, rfl, rfl, tt_g1 277 (by decide +kernel) (by decide +kernel)⟩⟩
theorem fp_X_35 : af_put "CaneRounds" "<init>" 35 10 11 (.object "CaneRounds$Weather") := ⟨_, _, _, cs_y10, rfl, by decide, cs_w10, cs_p10, cs_n10, rfl, Or.inr ⟨rfl, rfl, rfl, tt_g1 278 (by decide +kernel) (by decide +kernel)⟩⟩
theorem fp_X_42 : af_put "CaneRounds" "<init>" 42 10 12 (.object "CaneRounds$Bundles") := ⟨_, _, _, cs_y10, rfl, by decide, cs_w10, cs_p10, cs_n10, rfl, Or.inr ⟨rfl, rfl, rfl, tt_g1 279 (by decide +kernel) (by decide +kernel)⟩⟩
theorem fp_X_49 : af_put "CaneRounds" "<init>" 49 10 13 (.object "CaneRounds$Chooser") := ⟨_, _, _, cs_y10, rfl, by decide, cs_w10, cs_p10, cs_n10, rfl, Or.inr ⟨rfl, rfl, rfl, tt_g1 280 (by decide +kernel) (by decide +kernel)⟩⟩
theorem fp_X_56 : af_put "CaneRounds" "<init>" 56 10 14 (.object "CaneRounds$Tape") := ⟨_, _, _, cs_y10, rfl, by decide, cs_w10, cs_p10, cs_n10, rfl, Or.inr ⟨rfl, rfl, rfl, tt_g1 281 (by decide +kernel) (by decide +kernel)⟩⟩
theorem fp_X_63 {mn : String} : af_put "CaneRounds" mn 63 10 15 (.object "CaneRounds$Formula") := ⟨_, _, _, cs_y10, rfl, by decide, cs_w10, cs_p10, cs_n10, rfl, Or.inl ⟨rfl, Or.inl (tt_g1 282 (by decide +kernel) (by decide +kernel))⟩⟩
theorem fp_X_67 {mn : String} : af_put "CaneRounds" mn 67 10 16 (.object "CaneRounds$Formula") := ⟨_, _, _, cs_y10, rfl, by decide, cs_w10, cs_p10, cs_n10, rfl, Or.inl ⟨rfl, Or.inl (tt_g1 283 (by decide +kernel) (by decide +kernel))⟩⟩
theorem fp_X_70 {mn : String} : af_put "CaneRounds" mn 70 10 17 (.int) := ⟨_, _, _, cs_y10, rfl, by decide, cs_w10, cs_p10, cs_n10, rfl, Or.inl ⟨rfl, Or.inl (tt_g1 284 (by decide +kernel) (by decide +kernel))⟩⟩
theorem fp_X_73 {mn : String} : af_put "CaneRounds" mn 73 10 18 (.int) := ⟨_, _, _, cs_y10, rfl, by decide, cs_w10, cs_p10, cs_n10, rfl, Or.inl ⟨rfl, Or.inl (tt_g1 285 (by decide +kernel) (by decide +kernel))⟩⟩
theorem fp_X_80 {mn : String} : af_put "CaneRounds" mn 80 10 4 (.int) := ⟨_, _, _, cs_y10, rfl, by decide, cs_w10, cs_p10, cs_n10, rfl, Or.inl ⟨rfl, Or.inl (tt_g1 271 (by decide +kernel) (by decide +kernel))⟩⟩
theorem fp_X_98 {mn : String} : af_put "CaneRounds" mn 98 10 7 (.object "CaneRounds$Field") := ⟨_, _, _, cs_y10, rfl, by decide, cs_w10, cs_p10, cs_n10, rfl, Or.inl ⟨rfl, Or.inl (tt_g1 274 (by decide +kernel) (by decide +kernel))⟩⟩
theorem fp_X_102 {mn : String} : af_put "CaneRounds" mn 102 10 6 (.object "CaneRounds$Field") := ⟨_, _, _, cs_y10, rfl, by decide, cs_w10, cs_p10, cs_n10, rfl, Or.inl ⟨rfl, Or.inl (tt_g1 273 (by decide +kernel) (by decide +kernel))⟩⟩
theorem fp_X_105 {mn : String} : af_put "CaneRounds" mn 105 4 14 (.object "CaneRounds$Field") := ⟨_, _, _, cs_y4, rfl, by decide, cs_w4, cs_p4, cs_n4, rfl, Or.inl ⟨rfl, Or.inr ⟨_, tt_ofN (w := Cond.fieldLinkNest "CaneRounds" 105 "CaneRounds$Field" "next" "LCaneRounds$Field;" "CaneRounds") 380 (by decide +kernel) rfl⟩⟩⟩
theorem fp_X_125 {mn : String} : af_put "CaneRounds" mn 125 4 7 (.int) := ⟨_, _, _, cs_y4, rfl, by decide, cs_w4, cs_p4, cs_n4, rfl, Or.inl ⟨rfl, Or.inr ⟨_, tt_ofN (w := Cond.fieldLinkNest "CaneRounds" 125 "CaneRounds$Field" "state" "I" "CaneRounds") 368 (by decide +kernel) rfl⟩⟩⟩
theorem fp_X_138 {mn : String} : af_put "CaneRounds" mn 138 4 9 (.int) := ⟨_, _, _, cs_y4, rfl, by decide, cs_w4, cs_p4, cs_n4, rfl, Or.inl ⟨rfl, Or.inr ⟨_, tt_ofN (w := Cond.fieldLinkNest "CaneRounds" 138 "CaneRounds$Field" "gangs" "I" "CaneRounds") 372 (by decide +kernel) rfl⟩⟩⟩
theorem fp_X_145 {mn : String} : af_put "CaneRounds" mn 145 8 1 (.int) := ⟨_, _, _, cs_y8, rfl, by decide, cs_w8, cs_p8, cs_n8, rfl, Or.inl ⟨rfl, Or.inr ⟨_, tt_ofN (w := Cond.fieldLinkNest "CaneRounds" 145 "CaneRounds$Tape" "length" "I" "CaneRounds") 218 (by decide +kernel) rfl⟩⟩⟩
theorem fp_X_184 {mn : String} : af_put "CaneRounds" mn 184 4 13 (.int) := ⟨_, _, _, cs_y4, rfl, by decide, cs_w4, cs_p4, cs_n4, rfl, Or.inl ⟨rfl, Or.inr ⟨_, tt_ofN (w := Cond.fieldLinkNest "CaneRounds" 184 "CaneRounds$Field" "load" "I" "CaneRounds") 379 (by decide +kernel) rfl⟩⟩⟩
theorem fp_X_211 {mn : String} : af_put "CaneRounds" mn 211 6 7 (.int) := ⟨_, _, _, cs_y6, rfl, by decide, cs_w6, cs_p6, cs_n6, rfl, Or.inl ⟨rfl, Or.inr ⟨_, tt_ofN (w := Cond.fieldLinkNest "CaneRounds" 211 "CaneRounds$Load" "crushed" "I" "CaneRounds") 560 (by decide +kernel) rfl⟩⟩⟩
theorem fp_X_214 {mn : String} : af_put "CaneRounds" mn 214 6 8 (.int) := ⟨_, _, _, cs_y6, rfl, by decide, cs_w6, cs_p6, cs_n6, rfl, Or.inl ⟨rfl, Or.inr ⟨_, tt_ofN (w := Cond.fieldLinkNest "CaneRounds" 214 "CaneRounds$Load" "lost" "I" "CaneRounds") 562 (by decide +kernel) rfl⟩⟩⟩
theorem fp_X_221 {mn : String} : af_put "CaneRounds" mn 221 6 10 (.int) := ⟨_, _, _, cs_y6, rfl, by decide, cs_w6, cs_p6, cs_n6, rfl, Or.inl ⟨rfl, Or.inr ⟨_, tt_ofN (w := Cond.fieldLinkNest "CaneRounds" 221 "CaneRounds$Load" "pay" "I" "CaneRounds") 566 (by decide +kernel) rfl⟩⟩⟩
theorem fp_X_255 {mn : String} : af_put "CaneRounds" mn 255 10 9 (.object "CaneRounds$Load") := ⟨_, _, _, cs_y10, rfl, by decide, cs_w10, cs_p10, cs_n10, rfl, Or.inl ⟨rfl, Or.inl (tt_g1 276 (by decide +kernel) (by decide +kernel))⟩⟩
theorem fp_X_260 {mn : String} : af_put "CaneRounds" mn 260 10 8 (.object "CaneRounds$Load") := ⟨_, _, _, cs_y10, rfl, by decide, cs_w10, cs_p10, cs_n10, rfl, Or.inl ⟨rfl, Or.inl (tt_g1 275 (by decide +kernel) (by decide +kernel))⟩⟩
theorem fp_X_263 {mn : String} : af_put "CaneRounds" mn 263 6 11 (.object "CaneRounds$Load") := ⟨_, _, _, cs_y6, rfl, by decide, cs_w6, cs_p6, cs_n6, rfl, Or.inl ⟨rfl, Or.inr ⟨_, tt_ofN (w := Cond.fieldLinkNest "CaneRounds" 263 "CaneRounds$Load" "next" "LCaneRounds$Load;" "CaneRounds") 567 (by decide +kernel) rfl⟩⟩⟩
theorem fp_X_322 {mn : String} : af_put "CaneRounds" mn 322 6 9 (.int) := ⟨_, _, _, cs_y6, rfl, by decide, cs_w6, cs_p6, cs_n6, rfl, Or.inl ⟨rfl, Or.inr ⟨_, tt_ofN (w := Cond.fieldLinkNest "CaneRounds" 322 "CaneRounds$Load" "overAt" "I" "CaneRounds") 564 (by decide +kernel) rfl⟩⟩⟩
theorem fp_Batch_7 : af_put "CaneRounds$Batch" "<init>" 7 0 0 (.int) := ⟨_, _, _, cs_y0, rfl, by decide, cs_w0, cs_p0, cs_n0, rfl, Or.inr ⟨rfl, rfl, rfl, tt_g1 644 (by decide +kernel) (by decide +kernel)⟩⟩
theorem fp_Batch_13 {mn : String} : af_put "CaneRounds$Batch" mn 13 0 1 (.int) := ⟨_, _, _, cs_y0, rfl, by decide, cs_w0, cs_p0, cs_n0, rfl, Or.inl ⟨rfl, Or.inl (tt_g1 646 (by decide +kernel) (by decide +kernel))⟩⟩
theorem fg_Bundles_15 : af_ok "CaneRounds$Bundles" 15 1 1 := ⟨_, _, _, rfl, by decide, cs_w1, Or.inl (tt_g1 159 (by decide +kernel) (by decide +kernel))⟩
theorem fg_Bundles_19 : af_ok "CaneRounds$Bundles" 19 0 0 := ⟨_, _, _, rfl, by decide, cs_w0, Or.inr ⟨_, tt_ofN (w := Cond.fieldLinkNest "CaneRounds$Bundles" 19 "CaneRounds$Batch" "field" "I" "CaneRounds") 645 (by decide +kernel) rfl⟩⟩
theorem fg_Bundles_25 : af_ok "CaneRounds$Bundles" 25 0 1 := ⟨_, _, _, rfl, by decide, cs_w0, Or.inr ⟨_, tt_ofN (w := Cond.fieldLinkNest "CaneRounds$Bundles" 25 "CaneRounds$Batch" "end" "I" "CaneRounds") 647 (by decide +kernel) rfl⟩⟩
theorem fg_Bundles_31 : af_ok "CaneRounds$Bundles" 31 1 0 := ⟨_, _, _, rfl, by decide, cs_w1, Or.inl (tt_g1 158 (by decide +kernel) (by decide +kernel))⟩
theorem fg_Bundles_34 : af_ok "CaneRounds$Bundles" 34 0 2 := ⟨_, _, _, rfl, by decide, cs_w0, Or.inr ⟨_, tt_ofN (w := Cond.fieldLinkNest "CaneRounds$Bundles" 34 "CaneRounds$Batch" "next" "LCaneRounds$Batch;" "CaneRounds") 648 (by decide +kernel) rfl⟩⟩
theorem fi_Bundles_28 : ai_B "CaneRounds$Bundles" 28 mm_Batch_init 2 ∧ Cond.instanceMethod mm_Batch_init.1 ∈ tt_g ∧ mm_Batch_init.1.name = "<init>" ∧ mm_Batch_init.2.2.2 = none := ⟨⟨(tt_g1 642 (by decide +kernel) (by decide +kernel)), (tt_g1 105 (by decide +kernel) (by decide +kernel)), ⟨by decide +kernel, by decide +kernel, by decide +kernel⟩, by decide, Or.inr ⟨_, tt_ofN (w := Cond.methodLinkNest "CaneRounds$Bundles" 28 ⟨"CaneRounds$Batch", "<init>", "(II)V"⟩ "CaneRounds") 640 (by decide +kernel) rfl⟩⟩, (tt_g1 641 (by decide +kernel) (by decide +kernel)), rfl, rfl⟩
theorem fi_Bundles_9 : ai_B "CaneRounds$Bundles" 9 mm_Bundles_count 0 ∧ Cond.instanceMethod mm_Bundles_count.1 ∈ tt_g ∧ Cond.selects mm_Bundles_count.1.cls mm_Bundles_count.1 mm_Bundles_count.1 ∈ tt_g := ⟨⟨(tt_g1 637 (by decide +kernel) (by decide +kernel)), (tt_g1 96 (by decide +kernel) (by decide +kernel)), ⟨by decide +kernel, by decide +kernel, by decide +kernel⟩, by decide, Or.inl (tt_g1 634 (by decide +kernel) (by decide +kernel))⟩, (tt_g1 636 (by decide +kernel) (by decide +kernel)), (tt_g1 28 (by decide +kernel) (by decide +kernel))⟩
theorem fn_Bundles_20 : an_ok "CaneRounds$Bundles" 20 0 3 [av_i 0, av_i 0, av_n] := ⟨_, _, cs_y0, rfl, cs_w0, cs_p0, (tt_g1 638 (by decide +kernel) (by decide +kernel)), (tt_g1 639 (by decide +kernel) (by decide +kernel)), (tt_g1 105 (by decide +kernel) (by decide +kernel)), fun w j hj => by
  rcases (show j = 0 ∨ j = 1 ∨ j = 2 by omega) with rfl | rfl | rfl <;> rfl⟩
theorem fp_Bundles_15 {mn : String} : af_put "CaneRounds$Bundles" mn 15 1 1 (.object "CaneRounds$Batch") := ⟨_, _, _, cs_y1, rfl, by decide, cs_w1, cs_p1, cs_n1, rfl, Or.inl ⟨rfl, Or.inl (tt_g1 159 (by decide +kernel) (by decide +kernel))⟩⟩
theorem fp_Bundles_25 {mn : String} : af_put "CaneRounds$Bundles" mn 25 0 1 (.int) := ⟨_, _, _, cs_y0, rfl, by decide, cs_w0, cs_p0, cs_n0, rfl, Or.inl ⟨rfl, Or.inr ⟨_, tt_ofN (w := Cond.fieldLinkNest "CaneRounds$Bundles" 25 "CaneRounds$Batch" "end" "I" "CaneRounds") 647 (by decide +kernel) rfl⟩⟩⟩
theorem fp_Bundles_31 {mn : String} : af_put "CaneRounds$Bundles" mn 31 1 0 (.object "CaneRounds$Batch") := ⟨_, _, _, cs_y1, rfl, by decide, cs_w1, cs_p1, cs_n1, rfl, Or.inl ⟨rfl, Or.inl (tt_g1 158 (by decide +kernel) (by decide +kernel))⟩⟩
theorem fp_Bundles_34 {mn : String} : af_put "CaneRounds$Bundles" mn 34 0 2 (.object "CaneRounds$Batch") := ⟨_, _, _, cs_y0, rfl, by decide, cs_w0, cs_p0, cs_n0, rfl, Or.inl ⟨rfl, Or.inr ⟨_, tt_ofN (w := Cond.fieldLinkNest "CaneRounds$Bundles" 34 "CaneRounds$Batch" "next" "LCaneRounds$Batch;" "CaneRounds") 648 (by decide +kernel) rfl⟩⟩⟩
theorem fg_Chooser_9 : af_ok "CaneRounds$Chooser" 9 2 0 := ⟨_, _, _, rfl, by decide, cs_w2, Or.inl (tt_g1 173 (by decide +kernel) (by decide +kernel))⟩
theorem fg_Chooser_15 : af_ok "CaneRounds$Chooser" 15 2 1 := ⟨_, _, _, rfl, by decide, cs_w2, Or.inl (tt_g1 174 (by decide +kernel) (by decide +kernel))⟩
theorem fg_Chooser_18 : af_ok "CaneRounds$Chooser" 18 2 2 := ⟨_, _, _, rfl, by decide, cs_w2, Or.inl (tt_g1 175 (by decide +kernel) (by decide +kernel))⟩
theorem fg_Chooser_21 : af_ok "CaneRounds$Chooser" 21 2 3 := ⟨_, _, _, rfl, by decide, cs_w2, Or.inl (tt_g1 176 (by decide +kernel) (by decide +kernel))⟩
theorem fg_Chooser_24 : af_ok "CaneRounds$Chooser" 24 2 4 := ⟨_, _, _, rfl, by decide, cs_w2, Or.inl (tt_g1 177 (by decide +kernel) (by decide +kernel))⟩
theorem fg_Chooser_29 : af_ok "CaneRounds$Chooser" 29 2 5 := ⟨_, _, _, rfl, by decide, cs_w2, Or.inl (tt_g1 178 (by decide +kernel) (by decide +kernel))⟩
theorem fg_Chooser_32 : af_ok "CaneRounds$Chooser" 32 2 8 := ⟨_, _, _, rfl, by decide, cs_w2, Or.inl (tt_g1 181 (by decide +kernel) (by decide +kernel))⟩
theorem fg_Chooser_36 : af_ok "CaneRounds$Chooser" 36 2 6 := ⟨_, _, _, rfl, by decide, cs_w2, Or.inl (tt_g1 179 (by decide +kernel) (by decide +kernel))⟩
theorem fg_Chooser_39 : af_ok "CaneRounds$Chooser" 39 2 7 := ⟨_, _, _, rfl, by decide, cs_w2, Or.inl (tt_g1 180 (by decide +kernel) (by decide +kernel))⟩
theorem fg_Chooser_42 : af_ok "CaneRounds$Chooser" 42 4 0 := ⟨_, _, _, rfl, by decide, cs_w4, Or.inr ⟨_, tt_ofN (w := Cond.fieldLinkNest "CaneRounds$Chooser" 42 "CaneRounds$Field" "number" "I" "CaneRounds") 355 (by decide +kernel) rfl⟩⟩
theorem fg_Chooser_54 : af_ok "CaneRounds$Chooser" 54 4 2 := ⟨_, _, _, rfl, by decide, cs_w4, Or.inr ⟨_, tt_ofN (w := Cond.fieldLinkNest "CaneRounds$Chooser" 54 "CaneRounds$Field" "tons" "I" "CaneRounds") 360 (by decide +kernel) rfl⟩⟩
theorem fg_Chooser_81 : af_ok "CaneRounds$Chooser" 81 2 9 := ⟨_, _, _, rfl, by decide, cs_w2, Or.inl (tt_g1 182 (by decide +kernel) (by decide +kernel))⟩
theorem fi_Chooser_60 : ai_B "CaneRounds$Chooser" 60 mm_X_isWithin 3 ∧ Cond.static mm_X_isWithin.1 ∈ tt_g := ⟨⟨(tt_g1 331 (by decide +kernel) (by decide +kernel)), (tt_g1 93 (by decide +kernel) (by decide +kernel)), ⟨by decide +kernel, by decide +kernel, by decide +kernel⟩, by decide, Or.inr ⟨_, tt_ofN (w := Cond.methodLinkNest "CaneRounds$Chooser" 60 ⟨"CaneRounds", "isWithin", "(III)Z"⟩ "CaneRounds") 843 (by decide +kernel) rfl⟩⟩, (tt_g1 330 (by decide +kernel) (by decide +kernel))⟩
theorem fi_Chooser_64 : ai_B "CaneRounds$Chooser" 64 mm_Chooser_insert 3 ∧ Cond.static mm_Chooser_insert.1 ∈ tt_g := ⟨⟨(tt_g1 846 (by decide +kernel) (by decide +kernel)), (tt_g1 97 (by decide +kernel) (by decide +kernel)), ⟨by decide +kernel, by decide +kernel, by decide +kernel⟩, by decide, Or.inl (tt_g1 844 (by decide +kernel) (by decide +kernel))⟩, (tt_g1 845 (by decide +kernel) (by decide +kernel))⟩
theorem fi_Chooser_95 : ai_B "CaneRounds$Chooser" 95 mm_X_holdsBit 2 ∧ Cond.static mm_X_holdsBit.1 ∈ tt_g := ⟨⟨(tt_g1 835 (by decide +kernel) (by decide +kernel)), (tt_g1 93 (by decide +kernel) (by decide +kernel)), ⟨by decide +kernel, by decide +kernel, by decide +kernel⟩, by decide, Or.inr ⟨_, tt_ofN (w := Cond.methodLinkNest "CaneRounds$Chooser" 95 ⟨"CaneRounds", "holdsBit", "(II)Z"⟩ "CaneRounds") 864 (by decide +kernel) rfl⟩⟩, (tt_g1 834 (by decide +kernel) (by decide +kernel))⟩
theorem fi_Chooser_47 : ai_B "CaneRounds$Chooser" 47 mm_Field_hoursToMill 0 ∧ Cond.instanceMethod mm_Field_hoursToMill.1 ∈ tt_g ∧ Cond.selects mm_Field_hoursToMill.1.cls mm_Field_hoursToMill.1 mm_Field_hoursToMill.1 ∈ tt_g := ⟨⟨(tt_g1 612 (by decide +kernel) (by decide +kernel)), (tt_g1 101 (by decide +kernel) (by decide +kernel)), ⟨by decide +kernel, by decide +kernel, by decide +kernel⟩, by decide, Or.inr ⟨_, tt_ofN (w := Cond.methodLinkNest "CaneRounds$Chooser" 47 ⟨"CaneRounds$Field", "hoursToMill", "()I"⟩ "CaneRounds") 840 (by decide +kernel) rfl⟩⟩, (tt_g1 611 (by decide +kernel) (by decide +kernel)), (tt_g1 22 (by decide +kernel) (by decide +kernel))⟩
theorem fi_Chooser_51 : ai_B "CaneRounds$Chooser" 51 mm_Field_hoursToDeath 0 ∧ Cond.instanceMethod mm_Field_hoursToDeath.1 ∈ tt_g ∧ Cond.selects mm_Field_hoursToDeath.1.cls mm_Field_hoursToDeath.1 mm_Field_hoursToDeath.1 ∈ tt_g := ⟨⟨(tt_g1 544 (by decide +kernel) (by decide +kernel)), (tt_g1 101 (by decide +kernel) (by decide +kernel)), ⟨by decide +kernel, by decide +kernel, by decide +kernel⟩, by decide, Or.inr ⟨_, tt_ofN (w := Cond.methodLinkNest "CaneRounds$Chooser" 51 ⟨"CaneRounds$Field", "hoursToDeath", "()I"⟩ "CaneRounds") 841 (by decide +kernel) rfl⟩⟩, (tt_g1 543 (by decide +kernel) (by decide +kernel)), (tt_g1 17 (by decide +kernel) (by decide +kernel))⟩
theorem fi_Chooser_56 : ai_B "CaneRounds$Chooser" 56 mm_Field_sweetAt 1 ∧ Cond.instanceMethod mm_Field_sweetAt.1 ∈ tt_g ∧ Cond.selects mm_Field_sweetAt.1.cls mm_Field_sweetAt.1 mm_Field_sweetAt.1 ∈ tt_g := ⟨⟨(tt_g1 492 (by decide +kernel) (by decide +kernel)), (tt_g1 101 (by decide +kernel) (by decide +kernel)), ⟨by decide +kernel, by decide +kernel, by decide +kernel⟩, by decide, Or.inr ⟨_, tt_ofN (w := Cond.methodLinkNest "CaneRounds$Chooser" 56 ⟨"CaneRounds$Field", "sweetAt", "(I)I"⟩ "CaneRounds") 842 (by decide +kernel) rfl⟩⟩, (tt_g1 491 (by decide +kernel) (by decide +kernel)), (tt_g1 10 (by decide +kernel) (by decide +kernel))⟩
theorem fi_Chooser_74 : ai_B "CaneRounds$Chooser" 74 mm_Chooser_sumDearest 1 ∧ Cond.instanceMethod mm_Chooser_sumDearest.1 ∈ tt_g ∧ Cond.selects mm_Chooser_sumDearest.1.cls mm_Chooser_sumDearest.1 mm_Chooser_sumDearest.1 ∈ tt_g := ⟨⟨(tt_g1 855 (by decide +kernel) (by decide +kernel)), (tt_g1 97 (by decide +kernel) (by decide +kernel)), ⟨by decide +kernel, by decide +kernel, by decide +kernel⟩, by decide, Or.inl (tt_g1 852 (by decide +kernel) (by decide +kernel))⟩, (tt_g1 854 (by decide +kernel) (by decide +kernel)), (tt_g1 57 (by decide +kernel) (by decide +kernel))⟩
theorem fi_Chooser_78 : ai_B "CaneRounds$Chooser" 78 mm_Chooser_worthOfDearestThatFit 1 ∧ Cond.instanceMethod mm_Chooser_worthOfDearestThatFit.1 ∈ tt_g ∧ Cond.selects mm_Chooser_worthOfDearestThatFit.1.cls mm_Chooser_worthOfDearestThatFit.1 mm_Chooser_worthOfDearestThatFit.1 ∈ tt_g := ⟨⟨(tt_g1 859 (by decide +kernel) (by decide +kernel)), (tt_g1 97 (by decide +kernel) (by decide +kernel)), ⟨by decide +kernel, by decide +kernel, by decide +kernel⟩, by decide, Or.inl (tt_g1 856 (by decide +kernel) (by decide +kernel))⟩, (tt_g1 858 (by decide +kernel) (by decide +kernel)), (tt_g1 58 (by decide +kernel) (by decide +kernel))⟩
theorem fi_Chooser_87 : ai_B "CaneRounds$Chooser" 87 mm_Chooser_search 4 ∧ Cond.instanceMethod mm_Chooser_search.1 ∈ tt_g ∧ Cond.selects mm_Chooser_search.1.cls mm_Chooser_search.1 mm_Chooser_search.1 ∈ tt_g := ⟨⟨(tt_g1 872 (by decide +kernel) (by decide +kernel)), (tt_g1 97 (by decide +kernel) (by decide +kernel)), ⟨by decide +kernel, by decide +kernel, by decide +kernel⟩, by decide, Or.inl (tt_g1 869 (by decide +kernel) (by decide +kernel))⟩, (tt_g1 871 (by decide +kernel) (by decide +kernel)), (tt_g1 61 (by decide +kernel) (by decide +kernel))⟩
theorem fi_Chooser_91 : ai_B "CaneRounds$Chooser" 91 mm_Chooser_fits 2 ∧ Cond.instanceMethod mm_Chooser_fits.1 ∈ tt_g ∧ Cond.selects mm_Chooser_fits.1.cls mm_Chooser_fits.1 mm_Chooser_fits.1 ∈ tt_g := ⟨⟨(tt_g1 863 (by decide +kernel) (by decide +kernel)), (tt_g1 97 (by decide +kernel) (by decide +kernel)), ⟨by decide +kernel, by decide +kernel, by decide +kernel⟩, by decide, Or.inl (tt_g1 860 (by decide +kernel) (by decide +kernel))⟩, (tt_g1 862 (by decide +kernel) (by decide +kernel)), (tt_g1 59 (by decide +kernel) (by decide +kernel))⟩
theorem fi_Chooser_98 : ai_B "CaneRounds$Chooser" 98 mm_Chooser_fitsFrom 2 ∧ Cond.instanceMethod mm_Chooser_fitsFrom.1 ∈ tt_g ∧ Cond.selects mm_Chooser_fitsFrom.1.cls mm_Chooser_fitsFrom.1 mm_Chooser_fitsFrom.1 ∈ tt_g := ⟨⟨(tt_g1 868 (by decide +kernel) (by decide +kernel)), (tt_g1 97 (by decide +kernel) (by decide +kernel)), ⟨by decide +kernel, by decide +kernel, by decide +kernel⟩, by decide, Or.inl (tt_g1 865 (by decide +kernel) (by decide +kernel))⟩, (tt_g1 867 (by decide +kernel) (by decide +kernel)), (tt_g1 60 (by decide +kernel) (by decide +kernel))⟩
theorem fp_Chooser_9 : af_put "CaneRounds$Chooser" "<init>" 9 2 0 (.array .int) := ⟨_, _, _, cs_y2, rfl, by decide, cs_w2, cs_p2, cs_n2, rfl, Or.inr ⟨rfl, rfl, rfl, tt_g1 173 (by decide +kernel) (by decide +kernel)⟩⟩
theorem fp_Chooser_15 : af_put "CaneRounds$Chooser" "<init>" 15 2 1 (.array .int) := ⟨_, _, _, cs_y2, rfl, by decide, cs_w2, cs_p2, cs_n2, rfl, Or.inr ⟨rfl, rfl, rfl, tt_g1 174 (by decide +kernel) (by decide +kernel)⟩⟩
theorem fp_Chooser_18 : af_put "CaneRounds$Chooser" "<init>" 18 2 2 (.array .int) := ⟨_, _, _, cs_y2, rfl, by decide, cs_w2, cs_p2, cs_n2, rfl, Or.inr ⟨rfl, rfl, rfl, tt_g1 175 (by decide +kernel) (by decide +kernel)⟩⟩
theorem fp_Chooser_21 : af_put "CaneRounds$Chooser" "<init>" 21 2 3 (.array .int) := ⟨_, _, _, cs_y2, rfl, by decide, cs_w2, cs_p2, cs_n2, rfl, Or.inr ⟨rfl, rfl, rfl, tt_g1 176 (by decide +kernel) (by decide +kernel)⟩⟩
theorem fp_Chooser_24 : af_put "CaneRounds$Chooser" "<init>" 24 2 4 (.array .int) := ⟨_, _, _, cs_y2, rfl, by decide, cs_w2, cs_p2, cs_n2, rfl, Or.inr ⟨rfl, rfl, rfl, tt_g1 177 (by decide +kernel) (by decide +kernel)⟩⟩
theorem fp_Chooser_29 : af_put "CaneRounds$Chooser" "<init>" 29 2 5 (.array (.array .int)) := ⟨_, _, _, cs_y2, rfl, by decide, cs_w2, cs_p2, cs_n2, rfl, Or.inr ⟨rfl, rfl, rfl, tt_g1 178 (by decide +kernel) (by decide +kernel)⟩⟩
theorem fp_Chooser_32 {mn : String} : af_put "CaneRounds$Chooser" mn 32 2 8 (.int) := ⟨_, _, _, cs_y2, rfl, by decide, cs_w2, cs_p2, cs_n2, rfl, Or.inl ⟨rfl, Or.inl (tt_g1 181 (by decide +kernel) (by decide +kernel))⟩⟩
theorem fp_Chooser_36 {mn : String} : af_put "CaneRounds$Chooser" mn 36 2 6 (.int) := ⟨_, _, _, cs_y2, rfl, by decide, cs_w2, cs_p2, cs_n2, rfl, Or.inl ⟨rfl, Or.inl (tt_g1 179 (by decide +kernel) (by decide +kernel))⟩⟩
theorem fp_Chooser_39 {mn : String} : af_put "CaneRounds$Chooser" mn 39 2 7 (.int) := ⟨_, _, _, cs_y2, rfl, by decide, cs_w2, cs_p2, cs_n2, rfl, Or.inl ⟨rfl, Or.inl (tt_g1 180 (by decide +kernel) (by decide +kernel))⟩⟩
theorem fp_Chooser_81 {mn : String} : af_put "CaneRounds$Chooser" mn 81 2 9 (.int) := ⟨_, _, _, cs_y2, rfl, by decide, cs_w2, cs_p2, cs_n2, rfl, Or.inl ⟨rfl, Or.inl (tt_g1 182 (by decide +kernel) (by decide +kernel))⟩⟩
theorem fp_Chooser_84 {mn : String} : af_put "CaneRounds$Chooser" mn 84 2 10 (.int) := ⟨_, _, _, cs_y2, rfl, by decide, cs_w2, cs_p2, cs_n2, rfl, Or.inl ⟨rfl, Or.inl (tt_g1 184 (by decide +kernel) (by decide +kernel))⟩⟩
theorem fg_Farms_11 : af_ok "CaneRounds$Farms" 11 3 0 := ⟨_, _, _, rfl, by decide, cs_w3, Or.inl (tt_g1 120 (by decide +kernel) (by decide +kernel))⟩
theorem fg_Farms_15 : af_ok "CaneRounds$Farms" 15 3 1 := ⟨_, _, _, rfl, by decide, cs_w3, Or.inl (tt_g1 121 (by decide +kernel) (by decide +kernel))⟩
theorem fg_Farms_19 : af_ok "CaneRounds$Farms" 19 3 2 := ⟨_, _, _, rfl, by decide, cs_w3, Or.inl (tt_g1 122 (by decide +kernel) (by decide +kernel))⟩
theorem fg_Farms_23 : af_ok "CaneRounds$Farms" 23 3 3 := ⟨_, _, _, rfl, by decide, cs_w3, Or.inl (tt_g1 124 (by decide +kernel) (by decide +kernel))⟩
theorem fg_Farms_26 : af_ok "CaneRounds$Farms" 26 3 4 := ⟨_, _, _, rfl, by decide, cs_w3, Or.inl (tt_g1 125 (by decide +kernel) (by decide +kernel))⟩
theorem fi_Farms_30 : ai_B "CaneRounds$Farms" 30 mm_X_isWithin 3 ∧ Cond.static mm_X_isWithin.1 ∈ tt_g := ⟨⟨(tt_g1 331 (by decide +kernel) (by decide +kernel)), (tt_g1 93 (by decide +kernel) (by decide +kernel)), ⟨by decide +kernel, by decide +kernel, by decide +kernel⟩, by decide, Or.inr ⟨_, tt_ofN (w := Cond.methodLinkNest "CaneRounds$Farms" 30 ⟨"CaneRounds", "isWithin", "(III)Z"⟩ "CaneRounds") 460 (by decide +kernel) rfl⟩⟩, (tt_g1 330 (by decide +kernel) (by decide +kernel))⟩
theorem fi_Farms_34 : ai_B "CaneRounds$Farms" 34 mm_Farms_inOrder 1 ∧ Cond.instanceMethod mm_Farms_inOrder.1 ∈ tt_g ∧ Cond.selects mm_Farms_inOrder.1.cls mm_Farms_inOrder.1 mm_Farms_inOrder.1 ∈ tt_g := ⟨⟨(tt_g1 459 (by decide +kernel) (by decide +kernel)), (tt_g1 94 (by decide +kernel) (by decide +kernel)), ⟨by decide +kernel, by decide +kernel, by decide +kernel⟩, by decide, Or.inl (tt_g1 456 (by decide +kernel) (by decide +kernel))⟩, (tt_g1 458 (by decide +kernel) (by decide +kernel)), (tt_g1 5 (by decide +kernel) (by decide +kernel))⟩
theorem fc_Farms_29 : Cond.constant "CaneRounds$Farms" 29 (1103515245) ∈ tt_g := (tt_g1 451 (by decide +kernel) (by decide +kernel))
theorem fp_Farms_11 : af_put "CaneRounds$Farms" "<init>" 11 3 0 (.array .long) := ⟨_, _, _, cs_y3, rfl, by decide, cs_w3, cs_p3, cs_n3, rfl, Or.inr ⟨rfl, rfl, rfl, tt_g1 120 (by decide +kernel) (by decide +kernel)⟩⟩
theorem fp_Farms_15 : af_put "CaneRounds$Farms" "<init>" 15 3 1 (.array .int) := ⟨_, _, _, cs_y3, rfl, by decide, cs_w3, cs_p3, cs_n3, rfl, Or.inr ⟨rfl, rfl, rfl, tt_g1 121 (by decide +kernel) (by decide +kernel)⟩⟩
theorem fp_Farms_19 {mn : String} : af_put "CaneRounds$Farms" mn 19 3 2 (.int) := ⟨_, _, _, cs_y3, rfl, by decide, cs_w3, cs_p3, cs_n3, rfl, Or.inl ⟨rfl, Or.inl (tt_g1 122 (by decide +kernel) (by decide +kernel))⟩⟩
theorem fp_Farms_23 {mn : String} : af_put "CaneRounds$Farms" mn 23 3 3 (.int) := ⟨_, _, _, cs_y3, rfl, by decide, cs_w3, cs_p3, cs_n3, rfl, Or.inl ⟨rfl, Or.inl (tt_g1 124 (by decide +kernel) (by decide +kernel))⟩⟩
theorem fp_Farms_26 {mn : String} : af_put "CaneRounds$Farms" mn 26 3 4 (.int) := ⟨_, _, _, cs_y3, rfl, by decide, cs_w3, cs_p3, cs_n3, rfl, Or.inl ⟨rfl, Or.inl (tt_g1 125 (by decide +kernel) (by decide +kernel))⟩⟩
theorem fg_Field_24 : af_ok "CaneRounds$Field" 24 4 2 := ⟨_, _, _, rfl, by decide, cs_w4, Or.inl (tt_g1 359 (by decide +kernel) (by decide +kernel))⟩
theorem fg_Field_27 : af_ok "CaneRounds$Field" 27 4 3 := ⟨_, _, _, rfl, by decide, cs_w4, Or.inl (tt_g1 363 (by decide +kernel) (by decide +kernel))⟩
theorem fg_Field_30 : af_ok "CaneRounds$Field" 30 4 4 := ⟨_, _, _, rfl, by decide, cs_w4, Or.inl (tt_g1 364 (by decide +kernel) (by decide +kernel))⟩
theorem fg_Field_33 : af_ok "CaneRounds$Field" 33 4 5 := ⟨_, _, _, rfl, by decide, cs_w4, Or.inl (tt_g1 365 (by decide +kernel) (by decide +kernel))⟩
theorem fg_Field_36 : af_ok "CaneRounds$Field" 36 4 6 := ⟨_, _, _, rfl, by decide, cs_w4, Or.inl (tt_g1 366 (by decide +kernel) (by decide +kernel))⟩
theorem fg_Field_39 : af_ok "CaneRounds$Field" 39 4 10 := ⟨_, _, _, rfl, by decide, cs_w4, Or.inl (tt_g1 373 (by decide +kernel) (by decide +kernel))⟩
theorem fg_Field_43 : af_ok "CaneRounds$Field" 43 4 12 := ⟨_, _, _, rfl, by decide, cs_w4, Or.inl (tt_g1 377 (by decide +kernel) (by decide +kernel))⟩
theorem fg_Field_65 : af_ok "CaneRounds$Field" 65 4 8 := ⟨_, _, _, rfl, by decide, cs_w4, Or.inl (tt_g1 369 (by decide +kernel) (by decide +kernel))⟩
theorem fg_Field_68 : af_ok "CaneRounds$Field" 68 4 9 := ⟨_, _, _, rfl, by decide, cs_w4, Or.inl (tt_g1 371 (by decide +kernel) (by decide +kernel))⟩
theorem fi_Field_52 : ai_B "CaneRounds$Field" 52 mm_X_quotient 2 ∧ Cond.static mm_X_quotient.1 ∈ tt_g := ⟨⟨(tt_g1 498 (by decide +kernel) (by decide +kernel)), (tt_g1 93 (by decide +kernel) (by decide +kernel)), ⟨by decide +kernel, by decide +kernel, by decide +kernel⟩, by decide, Or.inr ⟨_, tt_ofN (w := Cond.methodLinkNest "CaneRounds$Field" 52 ⟨"CaneRounds", "quotient", "(II)I"⟩ "CaneRounds") 496 (by decide +kernel) rfl⟩⟩, (tt_g1 497 (by decide +kernel) (by decide +kernel))⟩
theorem fi_Field_59 : ai_B "CaneRounds$Field" 59 mm_Field_sweetAt 1 ∧ Cond.instanceMethod mm_Field_sweetAt.1 ∈ tt_g ∧ Cond.selects mm_Field_sweetAt.1.cls mm_Field_sweetAt.1 mm_Field_sweetAt.1 ∈ tt_g := ⟨⟨(tt_g1 492 (by decide +kernel) (by decide +kernel)), (tt_g1 101 (by decide +kernel) (by decide +kernel)), ⟨by decide +kernel, by decide +kernel, by decide +kernel⟩, by decide, Or.inl (tt_g1 489 (by decide +kernel) (by decide +kernel))⟩, (tt_g1 491 (by decide +kernel) (by decide +kernel)), (tt_g1 10 (by decide +kernel) (by decide +kernel))⟩
theorem fp_Field_11 {mn : String} : af_put "CaneRounds$Field" mn 11 4 7 (.int) := ⟨_, _, _, cs_y4, rfl, by decide, cs_w4, cs_p4, cs_n4, rfl, Or.inl ⟨rfl, Or.inl (tt_g1 367 (by decide +kernel) (by decide +kernel))⟩⟩
theorem fp_Field_15 {mn : String} : af_put "CaneRounds$Field" mn 15 4 13 (.int) := ⟨_, _, _, cs_y4, rfl, by decide, cs_w4, cs_p4, cs_n4, rfl, Or.inl ⟨rfl, Or.inl (tt_g1 378 (by decide +kernel) (by decide +kernel))⟩⟩
theorem fp_Field_18 : af_put "CaneRounds$Field" "<init>" 18 4 0 (.int) := ⟨_, _, _, cs_y4, rfl, by decide, cs_w4, cs_p4, cs_n4, rfl, Or.inr ⟨rfl, rfl, rfl, tt_g1 354 (by decide +kernel) (by decide +kernel)⟩⟩
theorem fp_Field_21 : af_put "CaneRounds$Field" "<init>" 21 4 1 (.int) := ⟨_, _, _, cs_y4, rfl, by decide, cs_w4, cs_p4, cs_n4, rfl, Or.inr ⟨rfl, rfl, rfl, tt_g1 357 (by decide +kernel) (by decide +kernel)⟩⟩
theorem fp_Field_24 : af_put "CaneRounds$Field" "<init>" 24 4 2 (.int) := ⟨_, _, _, cs_y4, rfl, by decide, cs_w4, cs_p4, cs_n4, rfl, Or.inr ⟨rfl, rfl, rfl, tt_g1 359 (by decide +kernel) (by decide +kernel)⟩⟩
theorem fp_Field_27 : af_put "CaneRounds$Field" "<init>" 27 4 3 (.int) := ⟨_, _, _, cs_y4, rfl, by decide, cs_w4, cs_p4, cs_n4, rfl, Or.inr ⟨rfl, rfl, rfl, tt_g1 363 (by decide +kernel) (by decide +kernel)⟩⟩
theorem fp_Field_30 : af_put "CaneRounds$Field" "<init>" 30 4 4 (.int) := ⟨_, _, _, cs_y4, rfl, by decide, cs_w4, cs_p4, cs_n4, rfl, Or.inr ⟨rfl, rfl, rfl, tt_g1 364 (by decide +kernel) (by decide +kernel)⟩⟩
theorem fp_Field_33 : af_put "CaneRounds$Field" "<init>" 33 4 5 (.int) := ⟨_, _, _, cs_y4, rfl, by decide, cs_w4, cs_p4, cs_n4, rfl, Or.inr ⟨rfl, rfl, rfl, tt_g1 365 (by decide +kernel) (by decide +kernel)⟩⟩
theorem fp_Field_36 : af_put "CaneRounds$Field" "<init>" 36 4 6 (.int) := ⟨_, _, _, cs_y4, rfl, by decide, cs_w4, cs_p4, cs_n4, rfl, Or.inr ⟨rfl, rfl, rfl, tt_g1 366 (by decide +kernel) (by decide +kernel)⟩⟩
theorem fp_Field_39 {mn : String} : af_put "CaneRounds$Field" mn 39 4 10 (.boolean) := ⟨_, _, _, cs_y4, rfl, by decide, cs_w4, cs_p4, cs_n4, rfl, Or.inl ⟨rfl, Or.inl (tt_g1 373 (by decide +kernel) (by decide +kernel))⟩⟩
theorem fp_Field_43 {mn : String} : af_put "CaneRounds$Field" mn 43 4 12 (.int) := ⟨_, _, _, cs_y4, rfl, by decide, cs_w4, cs_p4, cs_n4, rfl, Or.inl ⟨rfl, Or.inl (tt_g1 377 (by decide +kernel) (by decide +kernel))⟩⟩
theorem fp_Field_62 {mn : String} : af_put "CaneRounds$Field" mn 62 4 11 (.int) := ⟨_, _, _, cs_y4, rfl, by decide, cs_w4, cs_p4, cs_n4, rfl, Or.inl ⟨rfl, Or.inl (tt_g1 375 (by decide +kernel) (by decide +kernel))⟩⟩
theorem fp_Field_65 {mn : String} : af_put "CaneRounds$Field" mn 65 4 8 (.int) := ⟨_, _, _, cs_y4, rfl, by decide, cs_w4, cs_p4, cs_n4, rfl, Or.inl ⟨rfl, Or.inl (tt_g1 369 (by decide +kernel) (by decide +kernel))⟩⟩
theorem fp_Field_68 {mn : String} : af_put "CaneRounds$Field" mn 68 4 9 (.int) := ⟨_, _, _, cs_y4, rfl, by decide, cs_w4, cs_p4, cs_n4, rfl, Or.inl ⟨rfl, Or.inl (tt_g1 371 (by decide +kernel) (by decide +kernel))⟩⟩
theorem fg_Formula_13 : af_ok "CaneRounds$Formula" 13 5 0 := ⟨_, _, _, rfl, by decide, cs_w5, Or.inl (tt_g1 231 (by decide +kernel) (by decide +kernel))⟩
theorem fg_Formula_17 : af_ok "CaneRounds$Formula" 17 5 1 := ⟨_, _, _, rfl, by decide, cs_w5, Or.inl (tt_g1 232 (by decide +kernel) (by decide +kernel))⟩
theorem fg_Formula_20 : af_ok "CaneRounds$Formula" 20 5 2 := ⟨_, _, _, rfl, by decide, cs_w5, Or.inl (tt_g1 233 (by decide +kernel) (by decide +kernel))⟩
theorem fg_Formula_52 : af_ok "CaneRounds$Formula" 52 5 6 := ⟨_, _, _, rfl, by decide, cs_w5, Or.inl (tt_g1 239 (by decide +kernel) (by decide +kernel))⟩
theorem fg_Formula_55 : af_ok "CaneRounds$Formula" 55 5 7 := ⟨_, _, _, rfl, by decide, cs_w5, Or.inl (tt_g1 240 (by decide +kernel) (by decide +kernel))⟩
theorem fg_Formula_58 : af_ok "CaneRounds$Formula" 58 5 8 := ⟨_, _, _, rfl, by decide, cs_w5, Or.inl (tt_g1 241 (by decide +kernel) (by decide +kernel))⟩
theorem fg_Formula_61 : af_ok "CaneRounds$Formula" 61 5 9 := ⟨_, _, _, rfl, by decide, cs_w5, Or.inl (tt_g1 242 (by decide +kernel) (by decide +kernel))⟩
theorem fg_Formula_64 : af_ok "CaneRounds$Formula" 64 5 10 := ⟨_, _, _, rfl, by decide, cs_w5, Or.inl (tt_g1 243 (by decide +kernel) (by decide +kernel))⟩
theorem fg_Formula_67 : af_ok "CaneRounds$Formula" 67 5 3 := ⟨_, _, _, rfl, by decide, cs_w5, Or.inl (tt_g1 234 (by decide +kernel) (by decide +kernel))⟩
theorem fg_Formula_70 : af_ok "CaneRounds$Formula" 70 5 4 := ⟨_, _, _, rfl, by decide, cs_w5, Or.inl (tt_g1 235 (by decide +kernel) (by decide +kernel))⟩
theorem fi_Formula_30 : ai_B "CaneRounds$Formula" 30 mm_Formula_kindOf 1 ∧ Cond.static mm_Formula_kindOf.1 ∈ tt_g := ⟨⟨(tt_g1 766 (by decide +kernel) (by decide +kernel)), (tt_g1 99 (by decide +kernel) (by decide +kernel)), ⟨by decide +kernel, by decide +kernel, by decide +kernel⟩, by decide, Or.inl (tt_g1 764 (by decide +kernel) (by decide +kernel))⟩, (tt_g1 765 (by decide +kernel) (by decide +kernel))⟩
theorem fi_Formula_34 : ai_B "CaneRounds$Formula" 34 mm_Formula_wordToken 3 ∧ Cond.static mm_Formula_wordToken.1 ∈ tt_g := ⟨⟨(tt_g1 770 (by decide +kernel) (by decide +kernel)), (tt_g1 99 (by decide +kernel) (by decide +kernel)), ⟨by decide +kernel, by decide +kernel, by decide +kernel⟩, by decide, Or.inl (tt_g1 768 (by decide +kernel) (by decide +kernel))⟩, (tt_g1 769 (by decide +kernel) (by decide +kernel))⟩
theorem fi_Formula_42 : ai_B "CaneRounds$Formula" 42 mm_Formula_numberToken 3 ∧ Cond.static mm_Formula_numberToken.1 ∈ tt_g := ⟨⟨(tt_g1 777 (by decide +kernel) (by decide +kernel)), (tt_g1 99 (by decide +kernel) (by decide +kernel)), ⟨by decide +kernel, by decide +kernel, by decide +kernel⟩, by decide, Or.inl (tt_g1 775 (by decide +kernel) (by decide +kernel))⟩, (tt_g1 776 (by decide +kernel) (by decide +kernel))⟩
theorem fi_Formula_45 : ai_B "CaneRounds$Formula" 45 mm_X_isWithin 3 ∧ Cond.static mm_X_isWithin.1 ∈ tt_g := ⟨⟨(tt_g1 331 (by decide +kernel) (by decide +kernel)), (tt_g1 93 (by decide +kernel) (by decide +kernel)), ⟨by decide +kernel, by decide +kernel, by decide +kernel⟩, by decide, Or.inr ⟨_, tt_ofN (w := Cond.methodLinkNest "CaneRounds$Formula" 45 ⟨"CaneRounds", "isWithin", "(III)Z"⟩ "CaneRounds") 767 (by decide +kernel) rfl⟩⟩, (tt_g1 330 (by decide +kernel) (by decide +kernel))⟩
theorem fi_Formula_90 : ai_B "CaneRounds$Formula" 90 mm_Formula_limit 1 ∧ Cond.static mm_Formula_limit.1 ∈ tt_g := ⟨⟨(tt_g1 730 (by decide +kernel) (by decide +kernel)), (tt_g1 99 (by decide +kernel) (by decide +kernel)), ⟨by decide +kernel, by decide +kernel, by decide +kernel⟩, by decide, Or.inl (tt_g1 728 (by decide +kernel) (by decide +kernel))⟩, (tt_g1 729 (by decide +kernel) (by decide +kernel))⟩
theorem fi_Formula_97 : ai_B "CaneRounds$Formula" 97 mm_X_quotient 2 ∧ Cond.static mm_X_quotient.1 ∈ tt_g := ⟨⟨(tt_g1 498 (by decide +kernel) (by decide +kernel)), (tt_g1 93 (by decide +kernel) (by decide +kernel)), ⟨by decide +kernel, by decide +kernel, by decide +kernel⟩, by decide, Or.inr ⟨_, tt_ofN (w := Cond.methodLinkNest "CaneRounds$Formula" 97 ⟨"CaneRounds", "quotient", "(II)I"⟩ "CaneRounds") 739 (by decide +kernel) rfl⟩⟩, (tt_g1 497 (by decide +kernel) (by decide +kernel))⟩
theorem fi_Formula_38 : ai_B "CaneRounds$Formula" 38 mm_Formula_put 2 ∧ Cond.instanceMethod mm_Formula_put.1 ∈ tt_g ∧ Cond.selects mm_Formula_put.1.cls mm_Formula_put.1 mm_Formula_put.1 ∈ tt_g := ⟨⟨(tt_g1 774 (by decide +kernel) (by decide +kernel)), (tt_g1 99 (by decide +kernel) (by decide +kernel)), ⟨by decide +kernel, by decide +kernel, by decide +kernel⟩, by decide, Or.inl (tt_g1 771 (by decide +kernel) (by decide +kernel))⟩, (tt_g1 773 (by decide +kernel) (by decide +kernel)), (tt_g1 49 (by decide +kernel) (by decide +kernel))⟩
theorem fi_Formula_76 : ai_B "CaneRounds$Formula" 76 mm_Formula_sum 1 ∧ Cond.instanceMethod mm_Formula_sum.1 ∈ tt_g ∧ Cond.selects mm_Formula_sum.1.cls mm_Formula_sum.1 mm_Formula_sum.1 ∈ tt_g := ⟨⟨(tt_g1 685 (by decide +kernel) (by decide +kernel)), (tt_g1 99 (by decide +kernel) (by decide +kernel)), ⟨by decide +kernel, by decide +kernel, by decide +kernel⟩, by decide, Or.inl (tt_g1 682 (by decide +kernel) (by decide +kernel))⟩, (tt_g1 684 (by decide +kernel) (by decide +kernel)), (tt_g1 35 (by decide +kernel) (by decide +kernel))⟩
theorem fi_Formula_79 : ai_B "CaneRounds$Formula" 79 mm_Formula_take 1 ∧ Cond.instanceMethod mm_Formula_take.1 ∈ tt_g ∧ Cond.selects mm_Formula_take.1.cls mm_Formula_take.1 mm_Formula_take.1 ∈ tt_g := ⟨⟨(tt_g1 717 (by decide +kernel) (by decide +kernel)), (tt_g1 99 (by decide +kernel) (by decide +kernel)), ⟨by decide +kernel, by decide +kernel, by decide +kernel⟩, by decide, Or.inl (tt_g1 714 (by decide +kernel) (by decide +kernel))⟩, (tt_g1 716 (by decide +kernel) (by decide +kernel)), (tt_g1 43 (by decide +kernel) (by decide +kernel))⟩
theorem fi_Formula_83 : ai_B "CaneRounds$Formula" 83 mm_Formula_product 1 ∧ Cond.instanceMethod mm_Formula_product.1 ∈ tt_g ∧ Cond.selects mm_Formula_product.1.cls mm_Formula_product.1 mm_Formula_product.1 ∈ tt_g := ⟨⟨(tt_g1 689 (by decide +kernel) (by decide +kernel)), (tt_g1 99 (by decide +kernel) (by decide +kernel)), ⟨by decide +kernel, by decide +kernel, by decide +kernel⟩, by decide, Or.inl (tt_g1 686 (by decide +kernel) (by decide +kernel))⟩, (tt_g1 688 (by decide +kernel) (by decide +kernel)), (tt_g1 36 (by decide +kernel) (by decide +kernel))⟩
theorem fi_Formula_86 : ai_B "CaneRounds$Formula" 86 mm_Formula_token 0 ∧ Cond.instanceMethod mm_Formula_token.1 ∈ tt_g ∧ Cond.selects mm_Formula_token.1.cls mm_Formula_token.1 mm_Formula_token.1 ∈ tt_g := ⟨⟨(tt_g1 697 (by decide +kernel) (by decide +kernel)), (tt_g1 99 (by decide +kernel) (by decide +kernel)), ⟨by decide +kernel, by decide +kernel, by decide +kernel⟩, by decide, Or.inl (tt_g1 694 (by decide +kernel) (by decide +kernel))⟩, (tt_g1 696 (by decide +kernel) (by decide +kernel)), (tt_g1 38 (by decide +kernel) (by decide +kernel))⟩
theorem fi_Formula_94 : ai_B "CaneRounds$Formula" 94 mm_Formula_one 1 ∧ Cond.instanceMethod mm_Formula_one.1 ∈ tt_g ∧ Cond.selects mm_Formula_one.1.cls mm_Formula_one.1 mm_Formula_one.1 ∈ tt_g := ⟨⟨(tt_g1 693 (by decide +kernel) (by decide +kernel)), (tt_g1 99 (by decide +kernel) (by decide +kernel)), ⟨by decide +kernel, by decide +kernel, by decide +kernel⟩, by decide, Or.inl (tt_g1 690 (by decide +kernel) (by decide +kernel))⟩, (tt_g1 692 (by decide +kernel) (by decide +kernel)), (tt_g1 37 (by decide +kernel) (by decide +kernel))⟩
theorem fi_Formula_100 : ai_B "CaneRounds$Formula" 100 mm_Formula_number 1 ∧ Cond.instanceMethod mm_Formula_number.1 ∈ tt_g ∧ Cond.selects mm_Formula_number.1.cls mm_Formula_number.1 mm_Formula_number.1 ∈ tt_g := ⟨⟨(tt_g1 701 (by decide +kernel) (by decide +kernel)), (tt_g1 99 (by decide +kernel) (by decide +kernel)), ⟨by decide +kernel, by decide +kernel, by decide +kernel⟩, by decide, Or.inl (tt_g1 698 (by decide +kernel) (by decide +kernel))⟩, (tt_g1 700 (by decide +kernel) (by decide +kernel)), (tt_g1 39 (by decide +kernel) (by decide +kernel))⟩
theorem fi_Formula_103 : ai_B "CaneRounds$Formula" 103 mm_Formula_opens 2 ∧ Cond.instanceMethod mm_Formula_opens.1 ∈ tt_g ∧ Cond.selects mm_Formula_opens.1.cls mm_Formula_opens.1 mm_Formula_opens.1 ∈ tt_g := ⟨⟨(tt_g1 709 (by decide +kernel) (by decide +kernel)), (tt_g1 99 (by decide +kernel) (by decide +kernel)), ⟨by decide +kernel, by decide +kernel, by decide +kernel⟩, by decide, Or.inl (tt_g1 706 (by decide +kernel) (by decide +kernel))⟩, (tt_g1 708 (by decide +kernel) (by decide +kernel)), (tt_g1 41 (by decide +kernel) (by decide +kernel))⟩
theorem fi_Formula_107 : ai_B "CaneRounds$Formula" 107 mm_Formula_bracket 1 ∧ Cond.instanceMethod mm_Formula_bracket.1 ∈ tt_g ∧ Cond.selects mm_Formula_bracket.1.cls mm_Formula_bracket.1 mm_Formula_bracket.1 ∈ tt_g := ⟨⟨(tt_g1 713 (by decide +kernel) (by decide +kernel)), (tt_g1 99 (by decide +kernel) (by decide +kernel)), ⟨by decide +kernel, by decide +kernel, by decide +kernel⟩, by decide, Or.inl (tt_g1 710 (by decide +kernel) (by decide +kernel))⟩, (tt_g1 712 (by decide +kernel) (by decide +kernel)), (tt_g1 42 (by decide +kernel) (by decide +kernel))⟩
theorem fi_Formula_110 : ai_B "CaneRounds$Formula" 110 mm_Formula_lesserOrGreater 2 ∧ Cond.instanceMethod mm_Formula_lesserOrGreater.1 ∈ tt_g ∧ Cond.selects mm_Formula_lesserOrGreater.1.cls mm_Formula_lesserOrGreater.1 mm_Formula_lesserOrGreater.1 ∈ tt_g := ⟨⟨(tt_g1 721 (by decide +kernel) (by decide +kernel)), (tt_g1 99 (by decide +kernel) (by decide +kernel)), ⟨by decide +kernel, by decide +kernel, by decide +kernel⟩, by decide, Or.inl (tt_g1 718 (by decide +kernel) (by decide +kernel))⟩, (tt_g1 720 (by decide +kernel) (by decide +kernel)), (tt_g1 44 (by decide +kernel) (by decide +kernel))⟩
theorem fi_Formula_114 : ai_B "CaneRounds$Formula" 114 mm_Formula_letter 1 ∧ Cond.instanceMethod mm_Formula_letter.1 ∈ tt_g ∧ Cond.selects mm_Formula_letter.1.cls mm_Formula_letter.1 mm_Formula_letter.1 ∈ tt_g := ⟨⟨(tt_g1 727 (by decide +kernel) (by decide +kernel)), (tt_g1 99 (by decide +kernel) (by decide +kernel)), ⟨by decide +kernel, by decide +kernel, by decide +kernel⟩, by decide, Or.inl (tt_g1 724 (by decide +kernel) (by decide +kernel))⟩, (tt_g1 726 (by decide +kernel) (by decide +kernel)), (tt_g1 45 (by decide +kernel) (by decide +kernel))⟩
theorem fi_Formula_117 : ai_B "CaneRounds$Formula" 117 mm_Formula_stop 1 ∧ Cond.instanceMethod mm_Formula_stop.1 ∈ tt_g ∧ Cond.selects mm_Formula_stop.1.cls mm_Formula_stop.1 mm_Formula_stop.1 ∈ tt_g := ⟨⟨(tt_g1 705 (by decide +kernel) (by decide +kernel)), (tt_g1 99 (by decide +kernel) (by decide +kernel)), ⟨by decide +kernel, by decide +kernel, by decide +kernel⟩, by decide, Or.inl (tt_g1 702 (by decide +kernel) (by decide +kernel))⟩, (tt_g1 704 (by decide +kernel) (by decide +kernel)), (tt_g1 40 (by decide +kernel) (by decide +kernel))⟩
theorem fc_Formula_120 : Cond.constantLong "CaneRounds$Formula" 120 (-1000000000) ∈ tt_g := (tt_g1 731 (by decide +kernel) (by decide +kernel))
theorem fc_Formula_122 : Cond.constantLong "CaneRounds$Formula" 122 (1000000000) ∈ tt_g := (tt_g1 732 (by decide +kernel) (by decide +kernel))
theorem fp_Formula_13 : af_put "CaneRounds$Formula" "<init>" 13 5 0 (.array .int) := ⟨_, _, _, cs_y5, rfl, by decide, cs_w5, cs_p5, cs_n5, rfl, Or.inr ⟨rfl, rfl, rfl, tt_g1 231 (by decide +kernel) (by decide +kernel)⟩⟩
theorem fp_Formula_17 : af_put "CaneRounds$Formula" "<init>" 17 5 1 (.array .int) := ⟨_, _, _, cs_y5, rfl, by decide, cs_w5, cs_p5, cs_n5, rfl, Or.inr ⟨rfl, rfl, rfl, tt_g1 232 (by decide +kernel) (by decide +kernel)⟩⟩
theorem fp_Formula_20 {mn : String} : af_put "CaneRounds$Formula" mn 20 5 2 (.int) := ⟨_, _, _, cs_y5, rfl, by decide, cs_w5, cs_p5, cs_n5, rfl, Or.inl ⟨rfl, Or.inl (tt_g1 233 (by decide +kernel) (by decide +kernel))⟩⟩
theorem fp_Formula_52 {mn : String} : af_put "CaneRounds$Formula" mn 52 5 6 (.int) := ⟨_, _, _, cs_y5, rfl, by decide, cs_w5, cs_p5, cs_n5, rfl, Or.inl ⟨rfl, Or.inl (tt_g1 239 (by decide +kernel) (by decide +kernel))⟩⟩
theorem fp_Formula_55 {mn : String} : af_put "CaneRounds$Formula" mn 55 5 7 (.int) := ⟨_, _, _, cs_y5, rfl, by decide, cs_w5, cs_p5, cs_n5, rfl, Or.inl ⟨rfl, Or.inl (tt_g1 240 (by decide +kernel) (by decide +kernel))⟩⟩
theorem fp_Formula_58 {mn : String} : af_put "CaneRounds$Formula" mn 58 5 8 (.int) := ⟨_, _, _, cs_y5, rfl, by decide, cs_w5, cs_p5, cs_n5, rfl, Or.inl ⟨rfl, Or.inl (tt_g1 241 (by decide +kernel) (by decide +kernel))⟩⟩
theorem fp_Formula_61 {mn : String} : af_put "CaneRounds$Formula" mn 61 5 9 (.int) := ⟨_, _, _, cs_y5, rfl, by decide, cs_w5, cs_p5, cs_n5, rfl, Or.inl ⟨rfl, Or.inl (tt_g1 242 (by decide +kernel) (by decide +kernel))⟩⟩
theorem fp_Formula_64 {mn : String} : af_put "CaneRounds$Formula" mn 64 5 10 (.int) := ⟨_, _, _, cs_y5, rfl, by decide, cs_w5, cs_p5, cs_n5, rfl, Or.inl ⟨rfl, Or.inl (tt_g1 243 (by decide +kernel) (by decide +kernel))⟩⟩
theorem fp_Formula_67 {mn : String} : af_put "CaneRounds$Formula" mn 67 5 3 (.int) := ⟨_, _, _, cs_y5, rfl, by decide, cs_w5, cs_p5, cs_n5, rfl, Or.inl ⟨rfl, Or.inl (tt_g1 234 (by decide +kernel) (by decide +kernel))⟩⟩
theorem fp_Formula_70 {mn : String} : af_put "CaneRounds$Formula" mn 70 5 4 (.int) := ⟨_, _, _, cs_y5, rfl, by decide, cs_w5, cs_p5, cs_n5, rfl, Or.inl ⟨rfl, Or.inl (tt_g1 235 (by decide +kernel) (by decide +kernel))⟩⟩
theorem fp_Formula_73 {mn : String} : af_put "CaneRounds$Formula" mn 73 5 5 (.int) := ⟨_, _, _, cs_y5, rfl, by decide, cs_w5, cs_p5, cs_n5, rfl, Or.inl ⟨rfl, Or.inl (tt_g1 237 (by decide +kernel) (by decide +kernel))⟩⟩
theorem fg_Load_9 : af_ok "CaneRounds$Load" 9 6 5 := ⟨_, _, _, rfl, by decide, cs_w6, Or.inl (tt_g1 555 (by decide +kernel) (by decide +kernel))⟩
theorem fg_Load_15 : af_ok "CaneRounds$Load" 15 6 9 := ⟨_, _, _, rfl, by decide, cs_w6, Or.inl (tt_g1 563 (by decide +kernel) (by decide +kernel))⟩
theorem fg_Load_19 : af_ok "CaneRounds$Load" 19 6 10 := ⟨_, _, _, rfl, by decide, cs_w6, Or.inl (tt_g1 565 (by decide +kernel) (by decide +kernel))⟩
theorem fg_Load_25 : af_ok "CaneRounds$Load" 25 6 1 := ⟨_, _, _, rfl, by decide, cs_w6, Or.inl (tt_g1 547 (by decide +kernel) (by decide +kernel))⟩
theorem fg_Load_54 : af_ok "CaneRounds$Load" 54 4 2 := ⟨_, _, _, rfl, by decide, cs_w4, Or.inr ⟨_, tt_ofN (w := Cond.fieldLinkNest "CaneRounds$Load" 54 "CaneRounds$Field" "tons" "I" "CaneRounds") 361 (by decide +kernel) rfl⟩⟩
theorem fg_Load_57 : af_ok "CaneRounds$Load" 57 6 7 := ⟨_, _, _, rfl, by decide, cs_w6, Or.inl (tt_g1 559 (by decide +kernel) (by decide +kernel))⟩
theorem fg_Load_60 : af_ok "CaneRounds$Load" 60 6 8 := ⟨_, _, _, rfl, by decide, cs_w6, Or.inl (tt_g1 561 (by decide +kernel) (by decide +kernel))⟩
theorem fi_Load_32 : ai_B "CaneRounds$Load" 32 mm_Field_sweetAt 1 ∧ Cond.instanceMethod mm_Field_sweetAt.1 ∈ tt_g ∧ Cond.selects mm_Field_sweetAt.1.cls mm_Field_sweetAt.1 mm_Field_sweetAt.1 ∈ tt_g := ⟨⟨(tt_g1 492 (by decide +kernel) (by decide +kernel)), (tt_g1 101 (by decide +kernel) (by decide +kernel)), ⟨by decide +kernel, by decide +kernel, by decide +kernel⟩, by decide, Or.inr ⟨_, tt_ofN (w := Cond.methodLinkNest "CaneRounds$Load" 32 ⟨"CaneRounds$Field", "sweetAt", "(I)I"⟩ "CaneRounds") 540 (by decide +kernel) rfl⟩⟩, (tt_g1 491 (by decide +kernel) (by decide +kernel)), (tt_g1 10 (by decide +kernel) (by decide +kernel))⟩
theorem fi_Load_41 : ai_B "CaneRounds$Load" 41 mm_Field_hoursToDeath 0 ∧ Cond.instanceMethod mm_Field_hoursToDeath.1 ∈ tt_g ∧ Cond.selects mm_Field_hoursToDeath.1.cls mm_Field_hoursToDeath.1 mm_Field_hoursToDeath.1 ∈ tt_g := ⟨⟨(tt_g1 544 (by decide +kernel) (by decide +kernel)), (tt_g1 101 (by decide +kernel) (by decide +kernel)), ⟨by decide +kernel, by decide +kernel, by decide +kernel⟩, by decide, Or.inr ⟨_, tt_ofN (w := Cond.methodLinkNest "CaneRounds$Load" 41 ⟨"CaneRounds$Field", "hoursToDeath", "()I"⟩ "CaneRounds") 541 (by decide +kernel) rfl⟩⟩, (tt_g1 543 (by decide +kernel) (by decide +kernel)), (tt_g1 17 (by decide +kernel) (by decide +kernel))⟩
theorem fi_Load_48 : ai_B "CaneRounds$Load" 48 mm_Field_hoursToMill 0 ∧ Cond.instanceMethod mm_Field_hoursToMill.1 ∈ tt_g ∧ Cond.selects mm_Field_hoursToMill.1.cls mm_Field_hoursToMill.1 mm_Field_hoursToMill.1 ∈ tt_g := ⟨⟨(tt_g1 612 (by decide +kernel) (by decide +kernel)), (tt_g1 101 (by decide +kernel) (by decide +kernel)), ⟨by decide +kernel, by decide +kernel, by decide +kernel⟩, by decide, Or.inr ⟨_, tt_ofN (w := Cond.methodLinkNest "CaneRounds$Load" 48 ⟨"CaneRounds$Field", "hoursToMill", "()I"⟩ "CaneRounds") 609 (by decide +kernel) rfl⟩⟩, (tt_g1 611 (by decide +kernel) (by decide +kernel)), (tt_g1 22 (by decide +kernel) (by decide +kernel))⟩
theorem fi_Load_63 : ai_B "CaneRounds$Load" 63 mm_Load_isOver 0 ∧ Cond.instanceMethod mm_Load_isOver.1 ∈ tt_g ∧ Cond.selects mm_Load_isOver.1.cls mm_Load_isOver.1 mm_Load_isOver.1 ∈ tt_g := ⟨⟨(tt_g1 604 (by decide +kernel) (by decide +kernel)), (tt_g1 104 (by decide +kernel) (by decide +kernel)), ⟨by decide +kernel, by decide +kernel, by decide +kernel⟩, by decide, Or.inl (tt_g1 676 (by decide +kernel) (by decide +kernel))⟩, (tt_g1 603 (by decide +kernel) (by decide +kernel)), (tt_g1 20 (by decide +kernel) (by decide +kernel))⟩
theorem fc_Load_18 : Cond.constant "CaneRounds$Load" 18 (-2000000000) ∈ tt_g := (tt_g1 539 (by decide +kernel) (by decide +kernel))
theorem fp_Load_9 {mn : String} : af_put "CaneRounds$Load" mn 9 6 5 (.int) := ⟨_, _, _, cs_y6, rfl, by decide, cs_w6, cs_p6, cs_n6, rfl, Or.inl ⟨rfl, Or.inl (tt_g1 555 (by decide +kernel) (by decide +kernel))⟩⟩
theorem fp_Load_15 {mn : String} : af_put "CaneRounds$Load" mn 15 6 9 (.int) := ⟨_, _, _, cs_y6, rfl, by decide, cs_w6, cs_p6, cs_n6, rfl, Or.inl ⟨rfl, Or.inl (tt_g1 563 (by decide +kernel) (by decide +kernel))⟩⟩
theorem fp_Load_19 {mn : String} : af_put "CaneRounds$Load" mn 19 6 10 (.int) := ⟨_, _, _, cs_y6, rfl, by decide, cs_w6, cs_p6, cs_n6, rfl, Or.inl ⟨rfl, Or.inl (tt_g1 565 (by decide +kernel) (by decide +kernel))⟩⟩
theorem fp_Load_22 : af_put "CaneRounds$Load" "<init>" 22 6 0 (.int) := ⟨_, _, _, cs_y6, rfl, by decide, cs_w6, cs_p6, cs_n6, rfl, Or.inr ⟨rfl, rfl, rfl, tt_g1 545 (by decide +kernel) (by decide +kernel)⟩⟩
theorem fp_Load_25 : af_put "CaneRounds$Load" "<init>" 25 6 1 (.object "CaneRounds$Field") := ⟨_, _, _, cs_y6, rfl, by decide, cs_w6, cs_p6, cs_n6, rfl, Or.inr ⟨rfl, rfl, rfl, tt_g1 547 (by decide +kernel) (by decide +kernel)⟩⟩
theorem fp_Load_29 : af_put "CaneRounds$Load" "<init>" 29 6 2 (.int) := ⟨_, _, _, cs_y6, rfl, by decide, cs_w6, cs_p6, cs_n6, rfl, Or.inr ⟨rfl, rfl, rfl, tt_g1 549 (by decide +kernel) (by decide +kernel)⟩⟩
theorem fp_Load_38 : af_put "CaneRounds$Load" "<init>" 38 6 3 (.int) := ⟨_, _, _, cs_y6, rfl, by decide, cs_w6, cs_p6, cs_n6, rfl, Or.inr ⟨rfl, rfl, rfl, tt_g1 551 (by decide +kernel) (by decide +kernel)⟩⟩
theorem fp_Load_45 : af_put "CaneRounds$Load" "<init>" 45 6 4 (.int) := ⟨_, _, _, cs_y6, rfl, by decide, cs_w6, cs_p6, cs_n6, rfl, Or.inr ⟨rfl, rfl, rfl, tt_g1 553 (by decide +kernel) (by decide +kernel)⟩⟩
theorem fp_Load_51 {mn : String} : af_put "CaneRounds$Load" mn 51 6 6 (.int) := ⟨_, _, _, cs_y6, rfl, by decide, cs_w6, cs_p6, cs_n6, rfl, Or.inl ⟨rfl, Or.inl (tt_g1 557 (by decide +kernel) (by decide +kernel))⟩⟩
theorem fp_Span_7 : af_put "CaneRounds$Span" "<init>" 7 7 0 (.boolean) := ⟨_, _, _, cs_y7, rfl, by decide, cs_w7, cs_p7, cs_n7, rfl, Or.inr ⟨rfl, rfl, rfl, tt_g1 426 (by decide +kernel) (by decide +kernel)⟩⟩
theorem fp_Span_13 : af_put "CaneRounds$Span" "<init>" 13 7 1 (.int) := ⟨_, _, _, cs_y7, rfl, by decide, cs_w7, cs_p7, cs_n7, rfl, Or.inr ⟨rfl, rfl, rfl, tt_g1 428 (by decide +kernel) (by decide +kernel)⟩⟩
theorem fp_Span_17 : af_put "CaneRounds$Span" "<init>" 17 7 2 (.int) := ⟨_, _, _, cs_y7, rfl, by decide, cs_w7, cs_p7, cs_n7, rfl, Or.inr ⟨rfl, rfl, rfl, tt_g1 430 (by decide +kernel) (by decide +kernel)⟩⟩
theorem fp_Span_20 : af_put "CaneRounds$Span" "<init>" 20 7 3 (.object "CaneRounds$Span") := ⟨_, _, _, cs_y7, rfl, by decide, cs_w7, cs_p7, cs_n7, rfl, Or.inr ⟨rfl, rfl, rfl, tt_g1 432 (by decide +kernel) (by decide +kernel)⟩⟩
theorem fg_Tape_9 : af_ok "CaneRounds$Tape" 9 8 0 := ⟨_, _, _, rfl, by decide, cs_w8, Or.inl (tt_g1 215 (by decide +kernel) (by decide +kernel))⟩
theorem fg_Tape_13 : af_ok "CaneRounds$Tape" 13 8 1 := ⟨_, _, _, rfl, by decide, cs_w8, Or.inl (tt_g1 217 (by decide +kernel) (by decide +kernel))⟩
theorem fp_Tape_9 : af_put "CaneRounds$Tape" "<init>" 9 8 0 (.array .byte) := ⟨_, _, _, cs_y8, rfl, by decide, cs_w8, cs_p8, cs_n8, rfl, Or.inr ⟨rfl, rfl, rfl, tt_g1 215 (by decide +kernel) (by decide +kernel)⟩⟩
theorem fp_Tape_13 {mn : String} : af_put "CaneRounds$Tape" mn 13 8 1 (.int) := ⟨_, _, _, cs_y8, rfl, by decide, cs_w8, cs_p8, cs_n8, rfl, Or.inl ⟨rfl, Or.inl (tt_g1 217 (by decide +kernel) (by decide +kernel))⟩⟩
theorem fg_Weather_7 : af_ok "CaneRounds$Weather" 7 9 1 := ⟨_, _, _, rfl, by decide, cs_w9, Or.inl (tt_g1 146 (by decide +kernel) (by decide +kernel))⟩
theorem fg_Weather_15 : af_ok "CaneRounds$Weather" 15 9 0 := ⟨_, _, _, rfl, by decide, cs_w9, Or.inl (tt_g1 145 (by decide +kernel) (by decide +kernel))⟩
theorem fg_Weather_22 : af_ok "CaneRounds$Weather" 22 7 0 := ⟨_, _, _, rfl, by decide, cs_w7, Or.inr ⟨_, tt_ofN (w := Cond.fieldLinkNest "CaneRounds$Weather" 22 "CaneRounds$Span" "stops" "Z" "CaneRounds") 427 (by decide +kernel) rfl⟩⟩
theorem fg_Weather_26 : af_ok "CaneRounds$Weather" 26 7 1 := ⟨_, _, _, rfl, by decide, cs_w7, Or.inr ⟨_, tt_ofN (w := Cond.fieldLinkNest "CaneRounds$Weather" 26 "CaneRounds$Span" "from" "I" "CaneRounds") 429 (by decide +kernel) rfl⟩⟩
theorem fg_Weather_29 : af_ok "CaneRounds$Weather" 29 7 2 := ⟨_, _, _, rfl, by decide, cs_w7, Or.inr ⟨_, tt_ofN (w := Cond.fieldLinkNest "CaneRounds$Weather" 29 "CaneRounds$Span" "to" "I" "CaneRounds") 431 (by decide +kernel) rfl⟩⟩
theorem fg_Weather_32 : af_ok "CaneRounds$Weather" 32 7 3 := ⟨_, _, _, rfl, by decide, cs_w7, Or.inr ⟨_, tt_ofN (w := Cond.fieldLinkNest "CaneRounds$Weather" 32 "CaneRounds$Span" "earlier" "LCaneRounds$Span;" "CaneRounds") 433 (by decide +kernel) rfl⟩⟩
theorem fi_Weather_19 : ai_B "CaneRounds$Weather" 19 mm_Span_init 4 ∧ Cond.instanceMethod mm_Span_init.1 ∈ tt_g ∧ mm_Span_init.1.name = "<init>" ∧ mm_Span_init.2.2.2 = none := ⟨⟨(tt_g1 424 (by decide +kernel) (by decide +kernel)), (tt_g1 102 (by decide +kernel) (by decide +kernel)), ⟨by decide +kernel, by decide +kernel, by decide +kernel⟩, by decide, Or.inr ⟨_, tt_ofN (w := Cond.methodLinkNest "CaneRounds$Weather" 19 ⟨"CaneRounds$Span", "<init>", "(ZIILCaneRounds$Span;)V"⟩ "CaneRounds") 422 (by decide +kernel) rfl⟩⟩, (tt_g1 423 (by decide +kernel) (by decide +kernel)), rfl, rfl⟩
theorem fn_Weather_13 : an_ok "CaneRounds$Weather" 13 7 4 [av_i 0, av_i 0, av_i 0, av_n] := ⟨_, _, cs_y7, rfl, cs_w7, cs_p7, (tt_g1 420 (by decide +kernel) (by decide +kernel)), (tt_g1 421 (by decide +kernel) (by decide +kernel)), (tt_g1 102 (by decide +kernel) (by decide +kernel)), fun w j hj => by
  rcases (show j = 0 ∨ j = 1 ∨ j = 2 ∨ j = 3 by omega) with rfl | rfl | rfl | rfl <;> rfl⟩
theorem fp_Weather_7 {mn : String} : af_put "CaneRounds$Weather" mn 7 9 1 (.int) := ⟨_, _, _, cs_y9, rfl, by decide, cs_w9, cs_p9, cs_n9, rfl, Or.inl ⟨rfl, Or.inl (tt_g1 146 (by decide +kernel) (by decide +kernel))⟩⟩
theorem fp_Weather_15 {mn : String} : af_put "CaneRounds$Weather" mn 15 9 0 (.object "CaneRounds$Span") := ⟨_, _, _, cs_y9, rfl, by decide, cs_w9, cs_p9, cs_n9, rfl, Or.inl ⟨rfl, Or.inl (tt_g1 145 (by decide +kernel) (by decide +kernel))⟩⟩
theorem fi_L_9 : ai_B "CaneRoundsLaw" 9 mm_X_init 0 ∧ Cond.instanceMethod mm_X_init.1 ∈ tt_g ∧ mm_X_init.1.name = "<init>" ∧ mm_X_init.2.2.2 = none := ⟨⟨(tt_g1 110 (by decide +kernel) (by decide +kernel)), (tt_g1 93 (by decide +kernel) (by decide +kernel)), ⟨by decide +kernel, by decide +kernel, by decide +kernel⟩, by decide, Or.inl (tt_g1 108 (by decide +kernel) (by decide +kernel))⟩, (tt_g1 109 (by decide +kernel) (by decide +kernel)), rfl, rfl⟩
theorem fi_L_12 : ai_B "CaneRoundsLaw" 12 mm_M_init 0 ∧ Cond.instanceMethod mm_M_init.1 ∈ tt_g ∧ mm_M_init.1.name = "<init>" ∧ mm_M_init.2.2.2 = none := ⟨⟨(tt_g1 899 (by decide +kernel) (by decide +kernel)), (tt_g1 100 (by decide +kernel) (by decide +kernel)), ⟨by decide +kernel, by decide +kernel, by decide +kernel⟩, by decide, Or.inl (tt_g1 897 (by decide +kernel) (by decide +kernel))⟩, (tt_g1 898 (by decide +kernel) (by decide +kernel)), rfl, rfl⟩
theorem fi_L_13 : ai_B "CaneRoundsLaw" 13 mm_X_rules 4 ∧ Cond.instanceMethod mm_X_rules.1 ∈ tt_g ∧ Cond.selects mm_X_rules.1.cls mm_X_rules.1 mm_X_rules.1 ∈ tt_g := ⟨⟨(tt_g1 328 (by decide +kernel) (by decide +kernel)), (tt_g1 93 (by decide +kernel) (by decide +kernel)), ⟨by decide +kernel, by decide +kernel, by decide +kernel⟩, by decide, Or.inl (tt_g1 325 (by decide +kernel) (by decide +kernel))⟩, (tt_g1 326 (by decide +kernel) (by decide +kernel)), (tt_g1 327 (by decide +kernel) (by decide +kernel))⟩
theorem fi_L_17 : ai_B "CaneRoundsLaw" 17 mm_M_rules 4 ∧ Cond.instanceMethod mm_M_rules.1 ∈ tt_g ∧ Cond.selects mm_M_rules.1.cls mm_M_rules.1 mm_M_rules.1 ∈ tt_g := ⟨⟨(tt_g1 1098 (by decide +kernel) (by decide +kernel)), (tt_g1 100 (by decide +kernel) (by decide +kernel)), ⟨by decide +kernel, by decide +kernel, by decide +kernel⟩, by decide, Or.inl (tt_g1 1095 (by decide +kernel) (by decide +kernel))⟩, (tt_g1 1096 (by decide +kernel) (by decide +kernel)), (tt_g1 1097 (by decide +kernel) (by decide +kernel))⟩
theorem fi_L_18 : ai_B "CaneRoundsLaw" 18 mm_X_farm 0 ∧ Cond.instanceMethod mm_X_farm.1 ∈ tt_g ∧ Cond.selects mm_X_farm.1.cls mm_X_farm.1 mm_X_farm.1 ∈ tt_g := ⟨⟨(tt_g1 335 (by decide +kernel) (by decide +kernel)), (tt_g1 93 (by decide +kernel) (by decide +kernel)), ⟨by decide +kernel, by decide +kernel, by decide +kernel⟩, by decide, Or.inl (tt_g1 332 (by decide +kernel) (by decide +kernel))⟩, (tt_g1 333 (by decide +kernel) (by decide +kernel)), (tt_g1 334 (by decide +kernel) (by decide +kernel))⟩
theorem fi_L_22 : ai_B "CaneRoundsLaw" 22 mm_M_farm 0 ∧ Cond.instanceMethod mm_M_farm.1 ∈ tt_g ∧ Cond.selects mm_M_farm.1.cls mm_M_farm.1 mm_M_farm.1 ∈ tt_g := ⟨⟨(tt_g1 1109 (by decide +kernel) (by decide +kernel)), (tt_g1 100 (by decide +kernel) (by decide +kernel)), ⟨by decide +kernel, by decide +kernel, by decide +kernel⟩, by decide, Or.inl (tt_g1 1106 (by decide +kernel) (by decide +kernel))⟩, (tt_g1 1107 (by decide +kernel) (by decide +kernel)), (tt_g1 1108 (by decide +kernel) (by decide +kernel))⟩
theorem fi_L_23 : ai_B "CaneRoundsLaw" 23 mm_X_field 6 ∧ Cond.instanceMethod mm_X_field.1 ∈ tt_g ∧ Cond.selects mm_X_field.1.cls mm_X_field.1 mm_X_field.1 ∈ tt_g := ⟨⟨(tt_g1 343 (by decide +kernel) (by decide +kernel)), (tt_g1 93 (by decide +kernel) (by decide +kernel)), ⟨by decide +kernel, by decide +kernel, by decide +kernel⟩, by decide, Or.inl (tt_g1 340 (by decide +kernel) (by decide +kernel))⟩, (tt_g1 341 (by decide +kernel) (by decide +kernel)), (tt_g1 342 (by decide +kernel) (by decide +kernel))⟩
theorem fi_L_27 : ai_B "CaneRoundsLaw" 27 mm_M_field 6 ∧ Cond.instanceMethod mm_M_field.1 ∈ tt_g ∧ Cond.selects mm_M_field.1.cls mm_M_field.1 mm_M_field.1 ∈ tt_g := ⟨⟨(tt_g1 1113 (by decide +kernel) (by decide +kernel)), (tt_g1 100 (by decide +kernel) (by decide +kernel)), ⟨by decide +kernel, by decide +kernel, by decide +kernel⟩, by decide, Or.inl (tt_g1 1110 (by decide +kernel) (by decide +kernel))⟩, (tt_g1 1111 (by decide +kernel) (by decide +kernel)), (tt_g1 1112 (by decide +kernel) (by decide +kernel))⟩
theorem fi_L_28 : ai_B "CaneRoundsLaw" 28 mm_X_weather 3 ∧ Cond.instanceMethod mm_X_weather.1 ∈ tt_g ∧ Cond.selects mm_X_weather.1.cls mm_X_weather.1 mm_X_weather.1 ∈ tt_g := ⟨⟨(tt_g1 415 (by decide +kernel) (by decide +kernel)), (tt_g1 93 (by decide +kernel) (by decide +kernel)), ⟨by decide +kernel, by decide +kernel, by decide +kernel⟩, by decide, Or.inl (tt_g1 412 (by decide +kernel) (by decide +kernel))⟩, (tt_g1 413 (by decide +kernel) (by decide +kernel)), (tt_g1 414 (by decide +kernel) (by decide +kernel))⟩
theorem fi_L_32 : ai_B "CaneRoundsLaw" 32 mm_M_weather 3 ∧ Cond.instanceMethod mm_M_weather.1 ∈ tt_g ∧ Cond.selects mm_M_weather.1.cls mm_M_weather.1 mm_M_weather.1 ∈ tt_g := ⟨⟨(tt_g1 1117 (by decide +kernel) (by decide +kernel)), (tt_g1 100 (by decide +kernel) (by decide +kernel)), ⟨by decide +kernel, by decide +kernel, by decide +kernel⟩, by decide, Or.inl (tt_g1 1114 (by decide +kernel) (by decide +kernel))⟩, (tt_g1 1115 (by decide +kernel) (by decide +kernel)), (tt_g1 1116 (by decide +kernel) (by decide +kernel))⟩
theorem fi_L_33 : ai_B "CaneRoundsLaw" 33 mm_X_round 1 ∧ Cond.instanceMethod mm_X_round.1 ∈ tt_g ∧ Cond.selects mm_X_round.1.cls mm_X_round.1 mm_X_round.1 ∈ tt_g := ⟨⟨(tt_g1 446 (by decide +kernel) (by decide +kernel)), (tt_g1 93 (by decide +kernel) (by decide +kernel)), ⟨by decide +kernel, by decide +kernel, by decide +kernel⟩, by decide, Or.inl (tt_g1 443 (by decide +kernel) (by decide +kernel))⟩, (tt_g1 444 (by decide +kernel) (by decide +kernel)), (tt_g1 445 (by decide +kernel) (by decide +kernel))⟩
theorem fi_L_37 : ai_B "CaneRoundsLaw" 37 mm_M_round 1 ∧ Cond.instanceMethod mm_M_round.1 ∈ tt_g ∧ Cond.selects mm_M_round.1.cls mm_M_round.1 mm_M_round.1 ∈ tt_g := ⟨⟨(tt_g1 1121 (by decide +kernel) (by decide +kernel)), (tt_g1 100 (by decide +kernel) (by decide +kernel)), ⟨by decide +kernel, by decide +kernel, by decide +kernel⟩, by decide, Or.inl (tt_g1 1118 (by decide +kernel) (by decide +kernel))⟩, (tt_g1 1119 (by decide +kernel) (by decide +kernel)), (tt_g1 1120 (by decide +kernel) (by decide +kernel))⟩
theorem fi_L_38 : ai_B "CaneRoundsLaw" 38 mm_X_pass 0 ∧ Cond.instanceMethod mm_X_pass.1 ∈ tt_g ∧ Cond.selects mm_X_pass.1.cls mm_X_pass.1 mm_X_pass.1 ∈ tt_g := ⟨⟨(tt_g1 464 (by decide +kernel) (by decide +kernel)), (tt_g1 93 (by decide +kernel) (by decide +kernel)), ⟨by decide +kernel, by decide +kernel, by decide +kernel⟩, by decide, Or.inl (tt_g1 461 (by decide +kernel) (by decide +kernel))⟩, (tt_g1 462 (by decide +kernel) (by decide +kernel)), (tt_g1 463 (by decide +kernel) (by decide +kernel))⟩
theorem fi_L_41 : ai_B "CaneRoundsLaw" 41 mm_M_pass 0 ∧ Cond.instanceMethod mm_M_pass.1 ∈ tt_g ∧ Cond.selects mm_M_pass.1.cls mm_M_pass.1 mm_M_pass.1 ∈ tt_g := ⟨⟨(tt_g1 1130 (by decide +kernel) (by decide +kernel)), (tt_g1 100 (by decide +kernel) (by decide +kernel)), ⟨by decide +kernel, by decide +kernel, by decide +kernel⟩, by decide, Or.inl (tt_g1 1127 (by decide +kernel) (by decide +kernel))⟩, (tt_g1 1128 (by decide +kernel) (by decide +kernel)), (tt_g1 1129 (by decide +kernel) (by decide +kernel))⟩
theorem fi_L_42 : ai_B "CaneRoundsLaw" 42 mm_X_cut 2 ∧ Cond.instanceMethod mm_X_cut.1 ∈ tt_g ∧ Cond.selects mm_X_cut.1.cls mm_X_cut.1 mm_X_cut.1 ∈ tt_g := ⟨⟨(tt_g1 472 (by decide +kernel) (by decide +kernel)), (tt_g1 93 (by decide +kernel) (by decide +kernel)), ⟨by decide +kernel, by decide +kernel, by decide +kernel⟩, by decide, Or.inl (tt_g1 469 (by decide +kernel) (by decide +kernel))⟩, (tt_g1 470 (by decide +kernel) (by decide +kernel)), (tt_g1 471 (by decide +kernel) (by decide +kernel))⟩
theorem fi_L_46 : ai_B "CaneRoundsLaw" 46 mm_M_cut 2 ∧ Cond.instanceMethod mm_M_cut.1 ∈ tt_g ∧ Cond.selects mm_M_cut.1.cls mm_M_cut.1 mm_M_cut.1 ∈ tt_g := ⟨⟨(tt_g1 1134 (by decide +kernel) (by decide +kernel)), (tt_g1 100 (by decide +kernel) (by decide +kernel)), ⟨by decide +kernel, by decide +kernel, by decide +kernel⟩, by decide, Or.inl (tt_g1 1131 (by decide +kernel) (by decide +kernel))⟩, (tt_g1 1132 (by decide +kernel) (by decide +kernel)), (tt_g1 1133 (by decide +kernel) (by decide +kernel))⟩
theorem fi_L_47 : ai_B "CaneRoundsLaw" 47 mm_X_fire 1 ∧ Cond.instanceMethod mm_X_fire.1 ∈ tt_g ∧ Cond.selects mm_X_fire.1.cls mm_X_fire.1 mm_X_fire.1 ∈ tt_g := ⟨⟨(tt_g1 484 (by decide +kernel) (by decide +kernel)), (tt_g1 93 (by decide +kernel) (by decide +kernel)), ⟨by decide +kernel, by decide +kernel, by decide +kernel⟩, by decide, Or.inl (tt_g1 481 (by decide +kernel) (by decide +kernel))⟩, (tt_g1 482 (by decide +kernel) (by decide +kernel)), (tt_g1 483 (by decide +kernel) (by decide +kernel))⟩
theorem fi_L_51 : ai_B "CaneRoundsLaw" 51 mm_M_fire 1 ∧ Cond.instanceMethod mm_M_fire.1 ∈ tt_g ∧ Cond.selects mm_M_fire.1.cls mm_M_fire.1 mm_M_fire.1 ∈ tt_g := ⟨⟨(tt_g1 1146 (by decide +kernel) (by decide +kernel)), (tt_g1 100 (by decide +kernel) (by decide +kernel)), ⟨by decide +kernel, by decide +kernel, by decide +kernel⟩, by decide, Or.inl (tt_g1 1143 (by decide +kernel) (by decide +kernel))⟩, (tt_g1 1144 (by decide +kernel) (by decide +kernel)), (tt_g1 1145 (by decide +kernel) (by decide +kernel))⟩
theorem fi_L_52 : ai_B "CaneRoundsLaw" 52 mm_X_hours 1 ∧ Cond.instanceMethod mm_X_hours.1 ∈ tt_g ∧ Cond.selects mm_X_hours.1.cls mm_X_hours.1 mm_X_hours.1 ∈ tt_g := ⟨⟨(tt_g1 505 (by decide +kernel) (by decide +kernel)), (tt_g1 93 (by decide +kernel) (by decide +kernel)), ⟨by decide +kernel, by decide +kernel, by decide +kernel⟩, by decide, Or.inl (tt_g1 502 (by decide +kernel) (by decide +kernel))⟩, (tt_g1 503 (by decide +kernel) (by decide +kernel)), (tt_g1 504 (by decide +kernel) (by decide +kernel))⟩
theorem fi_L_55 : ai_B "CaneRoundsLaw" 55 mm_M_hours 1 ∧ Cond.instanceMethod mm_M_hours.1 ∈ tt_g ∧ Cond.selects mm_M_hours.1.cls mm_M_hours.1 mm_M_hours.1 ∈ tt_g := ⟨⟨(tt_g1 1154 (by decide +kernel) (by decide +kernel)), (tt_g1 100 (by decide +kernel) (by decide +kernel)), ⟨by decide +kernel, by decide +kernel, by decide +kernel⟩, by decide, Or.inl (tt_g1 1151 (by decide +kernel) (by decide +kernel))⟩, (tt_g1 1152 (by decide +kernel) (by decide +kernel)), (tt_g1 1153 (by decide +kernel) (by decide +kernel))⟩
theorem fi_L_56 : ai_B "CaneRoundsLaw" 56 mm_X_feed 5 ∧ Cond.instanceMethod mm_X_feed.1 ∈ tt_g ∧ Cond.selects mm_X_feed.1.cls mm_X_feed.1 mm_X_feed.1 ∈ tt_g := ⟨⟨(tt_g1 747 (by decide +kernel) (by decide +kernel)), (tt_g1 93 (by decide +kernel) (by decide +kernel)), ⟨by decide +kernel, by decide +kernel, by decide +kernel⟩, by decide, Or.inl (tt_g1 744 (by decide +kernel) (by decide +kernel))⟩, (tt_g1 745 (by decide +kernel) (by decide +kernel)), (tt_g1 746 (by decide +kernel) (by decide +kernel))⟩
theorem fi_L_60 : ai_B "CaneRoundsLaw" 60 mm_M_feed 5 ∧ Cond.instanceMethod mm_M_feed.1 ∈ tt_g ∧ Cond.selects mm_M_feed.1.cls mm_M_feed.1 mm_M_feed.1 ∈ tt_g := ⟨⟨(tt_g1 1206 (by decide +kernel) (by decide +kernel)), (tt_g1 100 (by decide +kernel) (by decide +kernel)), ⟨by decide +kernel, by decide +kernel, by decide +kernel⟩, by decide, Or.inl (tt_g1 1203 (by decide +kernel) (by decide +kernel))⟩, (tt_g1 1204 (by decide +kernel) (by decide +kernel)), (tt_g1 1205 (by decide +kernel) (by decide +kernel))⟩
theorem fi_L_61 : ai_B "CaneRoundsLaw" 61 mm_X_end 1 ∧ Cond.instanceMethod mm_X_end.1 ∈ tt_g ∧ Cond.selects mm_X_end.1.cls mm_X_end.1 mm_X_end.1 ∈ tt_g := ⟨⟨(tt_g1 755 (by decide +kernel) (by decide +kernel)), (tt_g1 93 (by decide +kernel) (by decide +kernel)), ⟨by decide +kernel, by decide +kernel, by decide +kernel⟩, by decide, Or.inl (tt_g1 752 (by decide +kernel) (by decide +kernel))⟩, (tt_g1 753 (by decide +kernel) (by decide +kernel)), (tt_g1 754 (by decide +kernel) (by decide +kernel))⟩
theorem fi_L_64 : ai_B "CaneRoundsLaw" 64 mm_M_end 1 ∧ Cond.instanceMethod mm_M_end.1 ∈ tt_g ∧ Cond.selects mm_M_end.1.cls mm_M_end.1 mm_M_end.1 ∈ tt_g := ⟨⟨(tt_g1 1214 (by decide +kernel) (by decide +kernel)), (tt_g1 100 (by decide +kernel) (by decide +kernel)), ⟨by decide +kernel, by decide +kernel, by decide +kernel⟩, by decide, Or.inl (tt_g1 1211 (by decide +kernel) (by decide +kernel))⟩, (tt_g1 1212 (by decide +kernel) (by decide +kernel)), (tt_g1 1213 (by decide +kernel) (by decide +kernel))⟩
theorem fi_L_65 : ai_B "CaneRoundsLaw" 65 mm_X_text 0 ∧ Cond.instanceMethod mm_X_text.1 ∈ tt_g ∧ Cond.selects mm_X_text.1.cls mm_X_text.1 mm_X_text.1 ∈ tt_g := ⟨⟨(tt_g1 759 (by decide +kernel) (by decide +kernel)), (tt_g1 93 (by decide +kernel) (by decide +kernel)), ⟨by decide +kernel, by decide +kernel, by decide +kernel⟩, by decide, Or.inl (tt_g1 756 (by decide +kernel) (by decide +kernel))⟩, (tt_g1 757 (by decide +kernel) (by decide +kernel)), (tt_g1 758 (by decide +kernel) (by decide +kernel))⟩
theorem fi_L_69 : ai_B "CaneRoundsLaw" 69 mm_M_text 0 ∧ Cond.instanceMethod mm_M_text.1 ∈ tt_g ∧ Cond.selects mm_M_text.1.cls mm_M_text.1 mm_M_text.1 ∈ tt_g := ⟨⟨(tt_g1 1218 (by decide +kernel) (by decide +kernel)), (tt_g1 100 (by decide +kernel) (by decide +kernel)), ⟨by decide +kernel, by decide +kernel, by decide +kernel⟩, by decide, Or.inl (tt_g1 1215 (by decide +kernel) (by decide +kernel))⟩, (tt_g1 1216 (by decide +kernel) (by decide +kernel)), (tt_g1 1217 (by decide +kernel) (by decide +kernel))⟩
theorem fi_L_70 : ai_B "CaneRoundsLaw" 70 mm_X_fault 1 ∧ Cond.instanceMethod mm_X_fault.1 ∈ tt_g ∧ Cond.selects mm_X_fault.1.cls mm_X_fault.1 mm_X_fault.1 ∈ tt_g := ⟨⟨(tt_g1 781 (by decide +kernel) (by decide +kernel)), (tt_g1 93 (by decide +kernel) (by decide +kernel)), ⟨by decide +kernel, by decide +kernel, by decide +kernel⟩, by decide, Or.inl (tt_g1 778 (by decide +kernel) (by decide +kernel))⟩, (tt_g1 779 (by decide +kernel) (by decide +kernel)), (tt_g1 780 (by decide +kernel) (by decide +kernel))⟩
theorem fi_L_73 : ai_B "CaneRoundsLaw" 73 mm_M_fault 1 ∧ Cond.instanceMethod mm_M_fault.1 ∈ tt_g ∧ Cond.selects mm_M_fault.1.cls mm_M_fault.1 mm_M_fault.1 ∈ tt_g := ⟨⟨(tt_g1 1270 (by decide +kernel) (by decide +kernel)), (tt_g1 100 (by decide +kernel) (by decide +kernel)), ⟨by decide +kernel, by decide +kernel, by decide +kernel⟩, by decide, Or.inl (tt_g1 1267 (by decide +kernel) (by decide +kernel))⟩, (tt_g1 1268 (by decide +kernel) (by decide +kernel)), (tt_g1 1269 (by decide +kernel) (by decide +kernel))⟩
theorem fi_L_74 : ai_B "CaneRoundsLaw" 74 mm_X_tells 5 ∧ Cond.instanceMethod mm_X_tells.1 ∈ tt_g ∧ Cond.selects mm_X_tells.1.cls mm_X_tells.1 mm_X_tells.1 ∈ tt_g := ⟨⟨(tt_g1 785 (by decide +kernel) (by decide +kernel)), (tt_g1 93 (by decide +kernel) (by decide +kernel)), ⟨by decide +kernel, by decide +kernel, by decide +kernel⟩, by decide, Or.inl (tt_g1 782 (by decide +kernel) (by decide +kernel))⟩, (tt_g1 783 (by decide +kernel) (by decide +kernel)), (tt_g1 784 (by decide +kernel) (by decide +kernel))⟩
theorem fi_L_77 : ai_B "CaneRoundsLaw" 77 mm_M_tells 5 ∧ Cond.instanceMethod mm_M_tells.1 ∈ tt_g ∧ Cond.selects mm_M_tells.1.cls mm_M_tells.1 mm_M_tells.1 ∈ tt_g := ⟨⟨(tt_g1 1274 (by decide +kernel) (by decide +kernel)), (tt_g1 100 (by decide +kernel) (by decide +kernel)), ⟨by decide +kernel, by decide +kernel, by decide +kernel⟩, by decide, Or.inl (tt_g1 1271 (by decide +kernel) (by decide +kernel))⟩, (tt_g1 1272 (by decide +kernel) (by decide +kernel)), (tt_g1 1273 (by decide +kernel) (by decide +kernel))⟩
theorem fi_L_78 : ai_B "CaneRoundsLaw" 78 mm_X_sweet 2 ∧ Cond.instanceMethod mm_X_sweet.1 ∈ tt_g ∧ Cond.selects mm_X_sweet.1.cls mm_X_sweet.1 mm_X_sweet.1 ∈ tt_g := ⟨⟨(tt_g1 795 (by decide +kernel) (by decide +kernel)), (tt_g1 93 (by decide +kernel) (by decide +kernel)), ⟨by decide +kernel, by decide +kernel, by decide +kernel⟩, by decide, Or.inl (tt_g1 792 (by decide +kernel) (by decide +kernel))⟩, (tt_g1 793 (by decide +kernel) (by decide +kernel)), (tt_g1 794 (by decide +kernel) (by decide +kernel))⟩
theorem fi_L_82 : ai_B "CaneRoundsLaw" 82 mm_M_sweet 2 ∧ Cond.instanceMethod mm_M_sweet.1 ∈ tt_g ∧ Cond.selects mm_M_sweet.1.cls mm_M_sweet.1 mm_M_sweet.1 ∈ tt_g := ⟨⟨(tt_g1 1283 (by decide +kernel) (by decide +kernel)), (tt_g1 100 (by decide +kernel) (by decide +kernel)), ⟨by decide +kernel, by decide +kernel, by decide +kernel⟩, by decide, Or.inl (tt_g1 1280 (by decide +kernel) (by decide +kernel))⟩, (tt_g1 1281 (by decide +kernel) (by decide +kernel)), (tt_g1 1282 (by decide +kernel) (by decide +kernel))⟩
theorem fi_L_83 : ai_B "CaneRoundsLaw" 83 mm_X_fieldOf 2 ∧ Cond.instanceMethod mm_X_fieldOf.1 ∈ tt_g ∧ Cond.selects mm_X_fieldOf.1.cls mm_X_fieldOf.1 mm_X_fieldOf.1 ∈ tt_g := ⟨⟨(tt_g1 800 (by decide +kernel) (by decide +kernel)), (tt_g1 93 (by decide +kernel) (by decide +kernel)), ⟨by decide +kernel, by decide +kernel, by decide +kernel⟩, by decide, Or.inl (tt_g1 797 (by decide +kernel) (by decide +kernel))⟩, (tt_g1 798 (by decide +kernel) (by decide +kernel)), (tt_g1 799 (by decide +kernel) (by decide +kernel))⟩
theorem fi_L_86 : ai_B "CaneRoundsLaw" 86 mm_M_fieldOf 2 ∧ Cond.instanceMethod mm_M_fieldOf.1 ∈ tt_g ∧ Cond.selects mm_M_fieldOf.1.cls mm_M_fieldOf.1 mm_M_fieldOf.1 ∈ tt_g := ⟨⟨(tt_g1 1287 (by decide +kernel) (by decide +kernel)), (tt_g1 100 (by decide +kernel) (by decide +kernel)), ⟨by decide +kernel, by decide +kernel, by decide +kernel⟩, by decide, Or.inl (tt_g1 1284 (by decide +kernel) (by decide +kernel))⟩, (tt_g1 1285 (by decide +kernel) (by decide +kernel)), (tt_g1 1286 (by decide +kernel) (by decide +kernel))⟩
theorem fi_L_87 : ai_B "CaneRoundsLaw" 87 mm_X_load 2 ∧ Cond.instanceMethod mm_X_load.1 ∈ tt_g ∧ Cond.selects mm_X_load.1.cls mm_X_load.1 mm_X_load.1 ∈ tt_g := ⟨⟨(tt_g1 804 (by decide +kernel) (by decide +kernel)), (tt_g1 93 (by decide +kernel) (by decide +kernel)), ⟨by decide +kernel, by decide +kernel, by decide +kernel⟩, by decide, Or.inl (tt_g1 801 (by decide +kernel) (by decide +kernel))⟩, (tt_g1 802 (by decide +kernel) (by decide +kernel)), (tt_g1 803 (by decide +kernel) (by decide +kernel))⟩
theorem fi_L_90 : ai_B "CaneRoundsLaw" 90 mm_M_load 2 ∧ Cond.instanceMethod mm_M_load.1 ∈ tt_g ∧ Cond.selects mm_M_load.1.cls mm_M_load.1 mm_M_load.1 ∈ tt_g := ⟨⟨(tt_g1 1291 (by decide +kernel) (by decide +kernel)), (tt_g1 100 (by decide +kernel) (by decide +kernel)), ⟨by decide +kernel, by decide +kernel, by decide +kernel⟩, by decide, Or.inl (tt_g1 1288 (by decide +kernel) (by decide +kernel))⟩, (tt_g1 1289 (by decide +kernel) (by decide +kernel)), (tt_g1 1290 (by decide +kernel) (by decide +kernel))⟩
theorem fi_L_91 : ai_B "CaneRoundsLaw" 91 mm_X_bundle 1 ∧ Cond.instanceMethod mm_X_bundle.1 ∈ tt_g ∧ Cond.selects mm_X_bundle.1.cls mm_X_bundle.1 mm_X_bundle.1 ∈ tt_g := ⟨⟨(tt_g1 812 (by decide +kernel) (by decide +kernel)), (tt_g1 93 (by decide +kernel) (by decide +kernel)), ⟨by decide +kernel, by decide +kernel, by decide +kernel⟩, by decide, Or.inl (tt_g1 809 (by decide +kernel) (by decide +kernel))⟩, (tt_g1 810 (by decide +kernel) (by decide +kernel)), (tt_g1 811 (by decide +kernel) (by decide +kernel))⟩
theorem fi_L_94 : ai_B "CaneRoundsLaw" 94 mm_M_bundle 1 ∧ Cond.instanceMethod mm_M_bundle.1 ∈ tt_g ∧ Cond.selects mm_M_bundle.1.cls mm_M_bundle.1 mm_M_bundle.1 ∈ tt_g := ⟨⟨(tt_g1 1295 (by decide +kernel) (by decide +kernel)), (tt_g1 100 (by decide +kernel) (by decide +kernel)), ⟨by decide +kernel, by decide +kernel, by decide +kernel⟩, by decide, Or.inl (tt_g1 1292 (by decide +kernel) (by decide +kernel))⟩, (tt_g1 1293 (by decide +kernel) (by decide +kernel)), (tt_g1 1294 (by decide +kernel) (by decide +kernel))⟩
theorem fi_L_95 : ai_B "CaneRoundsLaw" 95 mm_X_best 2 ∧ Cond.instanceMethod mm_X_best.1 ∈ tt_g ∧ Cond.selects mm_X_best.1.cls mm_X_best.1 mm_X_best.1 ∈ tt_g := ⟨⟨(tt_g1 820 (by decide +kernel) (by decide +kernel)), (tt_g1 93 (by decide +kernel) (by decide +kernel)), ⟨by decide +kernel, by decide +kernel, by decide +kernel⟩, by decide, Or.inl (tt_g1 817 (by decide +kernel) (by decide +kernel))⟩, (tt_g1 818 (by decide +kernel) (by decide +kernel)), (tt_g1 819 (by decide +kernel) (by decide +kernel))⟩
theorem fi_L_98 : ai_B "CaneRoundsLaw" 98 mm_M_best 2 ∧ Cond.instanceMethod mm_M_best.1 ∈ tt_g ∧ Cond.selects mm_M_best.1.cls mm_M_best.1 mm_M_best.1 ∈ tt_g := ⟨⟨(tt_g1 1299 (by decide +kernel) (by decide +kernel)), (tt_g1 100 (by decide +kernel) (by decide +kernel)), ⟨by decide +kernel, by decide +kernel, by decide +kernel⟩, by decide, Or.inl (tt_g1 1296 (by decide +kernel) (by decide +kernel))⟩, (tt_g1 1297 (by decide +kernel) (by decide +kernel)), (tt_g1 1298 (by decide +kernel) (by decide +kernel))⟩
theorem fi_L_99 : ai_B "CaneRoundsLaw" 99 mm_X_bestSet 2 ∧ Cond.instanceMethod mm_X_bestSet.1 ∈ tt_g ∧ Cond.selects mm_X_bestSet.1.cls mm_X_bestSet.1 mm_X_bestSet.1 ∈ tt_g := ⟨⟨(tt_g1 876 (by decide +kernel) (by decide +kernel)), (tt_g1 93 (by decide +kernel) (by decide +kernel)), ⟨by decide +kernel, by decide +kernel, by decide +kernel⟩, by decide, Or.inl (tt_g1 873 (by decide +kernel) (by decide +kernel))⟩, (tt_g1 874 (by decide +kernel) (by decide +kernel)), (tt_g1 875 (by decide +kernel) (by decide +kernel))⟩
theorem fi_L_102 : ai_B "CaneRoundsLaw" 102 mm_M_bestSet 2 ∧ Cond.instanceMethod mm_M_bestSet.1 ∈ tt_g ∧ Cond.selects mm_M_bestSet.1.cls mm_M_bestSet.1 mm_M_bestSet.1 ∈ tt_g := ⟨⟨(tt_g1 1319 (by decide +kernel) (by decide +kernel)), (tt_g1 100 (by decide +kernel) (by decide +kernel)), ⟨by decide +kernel, by decide +kernel, by decide +kernel⟩, by decide, Or.inl (tt_g1 1316 (by decide +kernel) (by decide +kernel))⟩, (tt_g1 1317 (by decide +kernel) (by decide +kernel)), (tt_g1 1318 (by decide +kernel) (by decide +kernel))⟩
theorem fi_L_103 : ai_B "CaneRoundsLaw" 103 mm_X_paid 1 ∧ Cond.instanceMethod mm_X_paid.1 ∈ tt_g ∧ Cond.selects mm_X_paid.1.cls mm_X_paid.1 mm_X_paid.1 ∈ tt_g := ⟨⟨(tt_g1 880 (by decide +kernel) (by decide +kernel)), (tt_g1 93 (by decide +kernel) (by decide +kernel)), ⟨by decide +kernel, by decide +kernel, by decide +kernel⟩, by decide, Or.inl (tt_g1 877 (by decide +kernel) (by decide +kernel))⟩, (tt_g1 878 (by decide +kernel) (by decide +kernel)), (tt_g1 879 (by decide +kernel) (by decide +kernel))⟩
theorem fi_L_107 : ai_B "CaneRoundsLaw" 107 mm_M_paid 1 ∧ Cond.instanceMethod mm_M_paid.1 ∈ tt_g ∧ Cond.selects mm_M_paid.1.cls mm_M_paid.1 mm_M_paid.1 ∈ tt_g := ⟨⟨(tt_g1 1323 (by decide +kernel) (by decide +kernel)), (tt_g1 100 (by decide +kernel) (by decide +kernel)), ⟨by decide +kernel, by decide +kernel, by decide +kernel⟩, by decide, Or.inl (tt_g1 1320 (by decide +kernel) (by decide +kernel))⟩, (tt_g1 1321 (by decide +kernel) (by decide +kernel)), (tt_g1 1322 (by decide +kernel) (by decide +kernel))⟩
theorem fi_L_108 : ai_B "CaneRoundsLaw" 108 mm_X_about 1 ∧ Cond.instanceMethod mm_X_about.1 ∈ tt_g ∧ Cond.selects mm_X_about.1.cls mm_X_about.1 mm_X_about.1 ∈ tt_g := ⟨⟨(tt_g1 888 (by decide +kernel) (by decide +kernel)), (tt_g1 93 (by decide +kernel) (by decide +kernel)), ⟨by decide +kernel, by decide +kernel, by decide +kernel⟩, by decide, Or.inl (tt_g1 885 (by decide +kernel) (by decide +kernel))⟩, (tt_g1 886 (by decide +kernel) (by decide +kernel)), (tt_g1 887 (by decide +kernel) (by decide +kernel))⟩
theorem fi_L_111 : ai_B "CaneRoundsLaw" 111 mm_M_about 1 ∧ Cond.instanceMethod mm_M_about.1 ∈ tt_g ∧ Cond.selects mm_M_about.1.cls mm_M_about.1 mm_M_about.1 ∈ tt_g := ⟨⟨(tt_g1 1327 (by decide +kernel) (by decide +kernel)), (tt_g1 100 (by decide +kernel) (by decide +kernel)), ⟨by decide +kernel, by decide +kernel, by decide +kernel⟩, by decide, Or.inl (tt_g1 1324 (by decide +kernel) (by decide +kernel))⟩, (tt_g1 1325 (by decide +kernel) (by decide +kernel)), (tt_g1 1326 (by decide +kernel) (by decide +kernel))⟩
theorem fn_L_7 : an_ok "CaneRoundsLaw" 7 10 19 [av_i 0, av_i 0, av_i 0, av_i 0, av_i 0, av_i 0, av_n, av_n, av_n, av_n, av_n, av_n, av_n, av_n, av_n, av_n, av_n, av_i 0, av_i 0] := ⟨_, _, cs_y10, rfl, cs_w10, cs_p10, (tt_g1 106 (by decide +kernel) (by decide +kernel)), (tt_g1 107 (by decide +kernel) (by decide +kernel)), (tt_g1 93 (by decide +kernel) (by decide +kernel)), fun w j hj => by
  rcases (show j = 0 ∨ j = 1 ∨ j = 2 ∨ j = 3 ∨ j = 4 ∨ j = 5 ∨ j = 6 ∨ j = 7 ∨ j = 8 ∨ j = 9 ∨ j = 10 ∨ j = 11 ∨ j = 12 ∨ j = 13 ∨ j = 14 ∨ j = 15 ∨ j = 16 ∨ j = 17 ∨ j = 18 by omega) with rfl | rfl | rfl | rfl | rfl | rfl | rfl | rfl | rfl | rfl | rfl | rfl | rfl | rfl | rfl | rfl | rfl | rfl | rfl <;> rfl⟩
theorem fn_L_10 : an_ok "CaneRoundsLaw" 10 11 64 [av_i 0, av_i 0, av_i 0, av_i 0, av_i 0, av_i 0, av_i 0, av_i 0, av_n, av_n, av_n, av_n, av_n, av_n, av_n, av_n, av_n, av_n, av_n, av_n, av_n, av_i 0, av_n, av_n, av_n, av_n, av_n, av_n, av_n, av_n, av_n, av_n, av_n, av_n, av_n, av_n, av_i 0, av_i 0, av_i 0, av_i 0, av_n, av_n, av_n, av_i 0, av_i 0, av_n, av_n, av_i 0, av_i 0, av_i 0, av_i 0, av_i 0, av_i 0, av_i 0, av_i 0, av_i 0, av_n, av_i 0, av_n, av_n, av_n, av_n, av_n, av_i 0] := ⟨_, _, cs_y11, rfl, cs_w11, cs_p11, (tt_g1 895 (by decide +kernel) (by decide +kernel)), (tt_g1 896 (by decide +kernel) (by decide +kernel)), (tt_g1 100 (by decide +kernel) (by decide +kernel)), fun w j hj => by
  rcases (show j = 0 ∨ j = 1 ∨ j = 2 ∨ j = 3 ∨ j = 4 ∨ j = 5 ∨ j = 6 ∨ j = 7 ∨ j = 8 ∨ j = 9 ∨ j = 10 ∨ j = 11 ∨ j = 12 ∨ j = 13 ∨ j = 14 ∨ j = 15 ∨ j = 16 ∨ j = 17 ∨ j = 18 ∨ j = 19 ∨ j = 20 ∨ j = 21 ∨ j = 22 ∨ j = 23 ∨ j = 24 ∨ j = 25 ∨ j = 26 ∨ j = 27 ∨ j = 28 ∨ j = 29 ∨ j = 30 ∨ j = 31 ∨ j = 32 ∨ j = 33 ∨ j = 34 ∨ j = 35 ∨ j = 36 ∨ j = 37 ∨ j = 38 ∨ j = 39 ∨ j = 40 ∨ j = 41 ∨ j = 42 ∨ j = 43 ∨ j = 44 ∨ j = 45 ∨ j = 46 ∨ j = 47 ∨ j = 48 ∨ j = 49 ∨ j = 50 ∨ j = 51 ∨ j = 52 ∨ j = 53 ∨ j = 54 ∨ j = 55 ∨ j = 56 ∨ j = 57 ∨ j = 58 ∨ j = 59 ∨ j = 60 ∨ j = 61 ∨ j = 62 ∨ j = 63 by omega) with rfl | rfl | rfl | rfl | rfl | rfl | rfl | rfl | rfl | rfl | rfl | rfl | rfl | rfl | rfl | rfl | rfl | rfl | rfl | rfl | rfl | rfl | rfl | rfl | rfl | rfl | rfl | rfl | rfl | rfl | rfl | rfl | rfl | rfl | rfl | rfl | rfl | rfl | rfl | rfl | rfl | rfl | rfl | rfl | rfl | rfl | rfl | rfl | rfl | rfl | rfl | rfl | rfl | rfl | rfl | rfl | rfl | rfl | rfl | rfl | rfl | rfl | rfl | rfl <;> rfl⟩
theorem fg_M_7 : af_ok "CaneRoundsModel" 7 11 4 := ⟨_, _, _, rfl, by decide, cs_w11, Or.inl (tt_g1 905 (by decide +kernel) (by decide +kernel))⟩
theorem fg_M_13 : af_ok "CaneRoundsModel" 13 11 5 := ⟨_, _, _, rfl, by decide, cs_w11, Or.inl (tt_g1 906 (by decide +kernel) (by decide +kernel))⟩
theorem fg_M_16 : af_ok "CaneRoundsModel" 16 11 6 := ⟨_, _, _, rfl, by decide, cs_w11, Or.inl (tt_g1 907 (by decide +kernel) (by decide +kernel))⟩
theorem fg_M_19 : af_ok "CaneRoundsModel" 19 11 7 := ⟨_, _, _, rfl, by decide, cs_w11, Or.inl (tt_g1 908 (by decide +kernel) (by decide +kernel))⟩
theorem fg_M_22 : af_ok "CaneRoundsModel" 22 11 8 := ⟨_, _, _, rfl, by decide, cs_w11, Or.inl (tt_g1 909 (by decide +kernel) (by decide +kernel))⟩
theorem fg_M_26 : af_ok "CaneRoundsModel" 26 11 9 := ⟨_, _, _, rfl, by decide, cs_w11, Or.inl (tt_g1 910 (by decide +kernel) (by decide +kernel))⟩
theorem fg_M_30 : af_ok "CaneRoundsModel" 30 11 10 := ⟨_, _, _, rfl, by decide, cs_w11, Or.inl (tt_g1 911 (by decide +kernel) (by decide +kernel))⟩
theorem fg_M_33 : af_ok "CaneRoundsModel" 33 11 11 := ⟨_, _, _, rfl, by decide, cs_w11, Or.inl (tt_g1 912 (by decide +kernel) (by decide +kernel))⟩
theorem fg_M_36 : af_ok "CaneRoundsModel" 36 11 12 := ⟨_, _, _, rfl, by decide, cs_w11, Or.inl (tt_g1 913 (by decide +kernel) (by decide +kernel))⟩
theorem fg_M_39 : af_ok "CaneRoundsModel" 39 11 13 := ⟨_, _, _, rfl, by decide, cs_w11, Or.inl (tt_g1 914 (by decide +kernel) (by decide +kernel))⟩
theorem fg_M_42 : af_ok "CaneRoundsModel" 42 11 14 := ⟨_, _, _, rfl, by decide, cs_w11, Or.inl (tt_g1 915 (by decide +kernel) (by decide +kernel))⟩
theorem fg_M_45 : af_ok "CaneRoundsModel" 45 11 15 := ⟨_, _, _, rfl, by decide, cs_w11, Or.inl (tt_g1 916 (by decide +kernel) (by decide +kernel))⟩
theorem fg_M_48 : af_ok "CaneRoundsModel" 48 11 16 := ⟨_, _, _, rfl, by decide, cs_w11, Or.inl (tt_g1 917 (by decide +kernel) (by decide +kernel))⟩
theorem fg_M_51 : af_ok "CaneRoundsModel" 51 11 17 := ⟨_, _, _, rfl, by decide, cs_w11, Or.inl (tt_g1 918 (by decide +kernel) (by decide +kernel))⟩
theorem fg_M_54 : af_ok "CaneRoundsModel" 54 11 18 := ⟨_, _, _, rfl, by decide, cs_w11, Or.inl (tt_g1 919 (by decide +kernel) (by decide +kernel))⟩
theorem fg_M_57 : af_ok "CaneRoundsModel" 57 11 19 := ⟨_, _, _, rfl, by decide, cs_w11, Or.inl (tt_g1 920 (by decide +kernel) (by decide +kernel))⟩
theorem fg_M_60 : af_ok "CaneRoundsModel" 60 11 20 := ⟨_, _, _, rfl, by decide, cs_w11, Or.inl (tt_g1 921 (by decide +kernel) (by decide +kernel))⟩
theorem fg_M_63 : af_ok "CaneRoundsModel" 63 11 22 := ⟨_, _, _, rfl, by decide, cs_w11, Or.inl (tt_g1 923 (by decide +kernel) (by decide +kernel))⟩
theorem fg_M_67 : af_ok "CaneRoundsModel" 67 11 23 := ⟨_, _, _, rfl, by decide, cs_w11, Or.inl (tt_g1 924 (by decide +kernel) (by decide +kernel))⟩
theorem fg_M_70 : af_ok "CaneRoundsModel" 70 11 24 := ⟨_, _, _, rfl, by decide, cs_w11, Or.inl (tt_g1 925 (by decide +kernel) (by decide +kernel))⟩
theorem fg_M_73 : af_ok "CaneRoundsModel" 73 11 25 := ⟨_, _, _, rfl, by decide, cs_w11, Or.inl (tt_g1 926 (by decide +kernel) (by decide +kernel))⟩
theorem fg_M_76 : af_ok "CaneRoundsModel" 76 11 26 := ⟨_, _, _, rfl, by decide, cs_w11, Or.inl (tt_g1 927 (by decide +kernel) (by decide +kernel))⟩
theorem fg_M_79 : af_ok "CaneRoundsModel" 79 11 27 := ⟨_, _, _, rfl, by decide, cs_w11, Or.inl (tt_g1 928 (by decide +kernel) (by decide +kernel))⟩
theorem fg_M_82 : af_ok "CaneRoundsModel" 82 11 28 := ⟨_, _, _, rfl, by decide, cs_w11, Or.inl (tt_g1 929 (by decide +kernel) (by decide +kernel))⟩
theorem fg_M_85 : af_ok "CaneRoundsModel" 85 11 29 := ⟨_, _, _, rfl, by decide, cs_w11, Or.inl (tt_g1 930 (by decide +kernel) (by decide +kernel))⟩
theorem fg_M_88 : af_ok "CaneRoundsModel" 88 11 30 := ⟨_, _, _, rfl, by decide, cs_w11, Or.inl (tt_g1 931 (by decide +kernel) (by decide +kernel))⟩
theorem fg_M_91 : af_ok "CaneRoundsModel" 91 11 31 := ⟨_, _, _, rfl, by decide, cs_w11, Or.inl (tt_g1 932 (by decide +kernel) (by decide +kernel))⟩
theorem fg_M_94 : af_ok "CaneRoundsModel" 94 11 32 := ⟨_, _, _, rfl, by decide, cs_w11, Or.inl (tt_g1 933 (by decide +kernel) (by decide +kernel))⟩
theorem fg_M_97 : af_ok "CaneRoundsModel" 97 11 33 := ⟨_, _, _, rfl, by decide, cs_w11, Or.inl (tt_g1 934 (by decide +kernel) (by decide +kernel))⟩
theorem fg_M_100 : af_ok "CaneRoundsModel" 100 11 34 := ⟨_, _, _, rfl, by decide, cs_w11, Or.inl (tt_g1 935 (by decide +kernel) (by decide +kernel))⟩
theorem fg_M_103 : af_ok "CaneRoundsModel" 103 11 35 := ⟨_, _, _, rfl, by decide, cs_w11, Or.inl (tt_g1 936 (by decide +kernel) (by decide +kernel))⟩
theorem fg_M_107 : af_ok "CaneRoundsModel" 107 11 38 := ⟨_, _, _, rfl, by decide, cs_w11, Or.inl (tt_g1 939 (by decide +kernel) (by decide +kernel))⟩
theorem fg_M_110 : af_ok "CaneRoundsModel" 110 11 40 := ⟨_, _, _, rfl, by decide, cs_w11, Or.inl (tt_g1 941 (by decide +kernel) (by decide +kernel))⟩
theorem fg_M_113 : af_ok "CaneRoundsModel" 113 11 41 := ⟨_, _, _, rfl, by decide, cs_w11, Or.inl (tt_g1 942 (by decide +kernel) (by decide +kernel))⟩
theorem fg_M_116 : af_ok "CaneRoundsModel" 116 11 42 := ⟨_, _, _, rfl, by decide, cs_w11, Or.inl (tt_g1 943 (by decide +kernel) (by decide +kernel))⟩
theorem fg_M_119 : af_ok "CaneRoundsModel" 119 11 45 := ⟨_, _, _, rfl, by decide, cs_w11, Or.inl (tt_g1 946 (by decide +kernel) (by decide +kernel))⟩
theorem fg_M_122 : af_ok "CaneRoundsModel" 122 11 46 := ⟨_, _, _, rfl, by decide, cs_w11, Or.inl (tt_g1 947 (by decide +kernel) (by decide +kernel))⟩
theorem fg_M_125 : af_ok "CaneRoundsModel" 125 11 47 := ⟨_, _, _, rfl, by decide, cs_w11, Or.inl (tt_g1 948 (by decide +kernel) (by decide +kernel))⟩
theorem fg_M_128 : af_ok "CaneRoundsModel" 128 11 48 := ⟨_, _, _, rfl, by decide, cs_w11, Or.inl (tt_g1 949 (by decide +kernel) (by decide +kernel))⟩
theorem fg_M_131 : af_ok "CaneRoundsModel" 131 11 56 := ⟨_, _, _, rfl, by decide, cs_w11, Or.inl (tt_g1 957 (by decide +kernel) (by decide +kernel))⟩
theorem fg_M_134 : af_ok "CaneRoundsModel" 134 11 58 := ⟨_, _, _, rfl, by decide, cs_w11, Or.inl (tt_g1 959 (by decide +kernel) (by decide +kernel))⟩
theorem fg_M_137 : af_ok "CaneRoundsModel" 137 11 59 := ⟨_, _, _, rfl, by decide, cs_w11, Or.inl (tt_g1 960 (by decide +kernel) (by decide +kernel))⟩
theorem fg_M_140 : af_ok "CaneRoundsModel" 140 11 60 := ⟨_, _, _, rfl, by decide, cs_w11, Or.inl (tt_g1 961 (by decide +kernel) (by decide +kernel))⟩
theorem fg_M_143 : af_ok "CaneRoundsModel" 143 11 61 := ⟨_, _, _, rfl, by decide, cs_w11, Or.inl (tt_g1 962 (by decide +kernel) (by decide +kernel))⟩
theorem fg_M_146 : af_ok "CaneRoundsModel" 146 11 62 := ⟨_, _, _, rfl, by decide, cs_w11, Or.inl (tt_g1 963 (by decide +kernel) (by decide +kernel))⟩
theorem fg_M_149 : af_ok "CaneRoundsModel" 149 11 44 := ⟨_, _, _, rfl, by decide, cs_w11, Or.inl (tt_g1 945 (by decide +kernel) (by decide +kernel))⟩
theorem fg_M_152 : af_ok "CaneRoundsModel" 152 11 2 := ⟨_, _, _, rfl, by decide, cs_w11, Or.inl (tt_g1 903 (by decide +kernel) (by decide +kernel))⟩
theorem fg_M_159 : af_ok "CaneRoundsModel" 159 11 0 := ⟨_, _, _, rfl, by decide, cs_w11, Or.inl (tt_g1 901 (by decide +kernel) (by decide +kernel))⟩
theorem fg_M_166 : af_ok "CaneRoundsModel" 166 11 1 := ⟨_, _, _, rfl, by decide, cs_w11, Or.inl (tt_g1 902 (by decide +kernel) (by decide +kernel))⟩
theorem fg_M_169 : af_ok "CaneRoundsModel" 169 11 21 := ⟨_, _, _, rfl, by decide, cs_w11, Or.inl (tt_g1 922 (by decide +kernel) (by decide +kernel))⟩
theorem fg_M_172 : af_ok "CaneRoundsModel" 172 11 39 := ⟨_, _, _, rfl, by decide, cs_w11, Or.inl (tt_g1 940 (by decide +kernel) (by decide +kernel))⟩
theorem fg_M_191 : af_ok "CaneRoundsModel" 191 11 3 := ⟨_, _, _, rfl, by decide, cs_w11, Or.inl (tt_g1 904 (by decide +kernel) (by decide +kernel))⟩
theorem fg_M_205 : af_ok "CaneRoundsModel" 205 11 36 := ⟨_, _, _, rfl, by decide, cs_w11, Or.inl (tt_g1 937 (by decide +kernel) (by decide +kernel))⟩
theorem fg_M_226 : af_ok "CaneRoundsModel" 226 11 37 := ⟨_, _, _, rfl, by decide, cs_w11, Or.inl (tt_g1 938 (by decide +kernel) (by decide +kernel))⟩
theorem fg_M_235 : af_ok "CaneRoundsModel" 235 11 43 := ⟨_, _, _, rfl, by decide, cs_w11, Or.inl (tt_g1 944 (by decide +kernel) (by decide +kernel))⟩
theorem fg_M_241 : af_ok "CaneRoundsModel" 241 11 49 := ⟨_, _, _, rfl, by decide, cs_w11, Or.inl (tt_g1 950 (by decide +kernel) (by decide +kernel))⟩
theorem fg_M_247 : af_ok "CaneRoundsModel" 247 11 50 := ⟨_, _, _, rfl, by decide, cs_w11, Or.inl (tt_g1 951 (by decide +kernel) (by decide +kernel))⟩
theorem fg_M_250 : af_ok "CaneRoundsModel" 250 11 51 := ⟨_, _, _, rfl, by decide, cs_w11, Or.inl (tt_g1 952 (by decide +kernel) (by decide +kernel))⟩
theorem fg_M_256 : af_ok "CaneRoundsModel" 256 11 52 := ⟨_, _, _, rfl, by decide, cs_w11, Or.inl (tt_g1 953 (by decide +kernel) (by decide +kernel))⟩
theorem fg_M_268 : af_ok "CaneRoundsModel" 268 11 53 := ⟨_, _, _, rfl, by decide, cs_w11, Or.inl (tt_g1 954 (by decide +kernel) (by decide +kernel))⟩
theorem fg_M_271 : af_ok "CaneRoundsModel" 271 11 55 := ⟨_, _, _, rfl, by decide, cs_w11, Or.inl (tt_g1 956 (by decide +kernel) (by decide +kernel))⟩
theorem fg_M_274 : af_ok "CaneRoundsModel" 274 11 54 := ⟨_, _, _, rfl, by decide, cs_w11, Or.inl (tt_g1 955 (by decide +kernel) (by decide +kernel))⟩
theorem fg_M_284 : af_ok "CaneRoundsModel" 284 11 57 := ⟨_, _, _, rfl, by decide, cs_w11, Or.inl (tt_g1 958 (by decide +kernel) (by decide +kernel))⟩
theorem fg_M_326 : af_ok "CaneRoundsModel" 326 11 63 := ⟨_, _, _, rfl, by decide, cs_w11, Or.inl (tt_g1 964 (by decide +kernel) (by decide +kernel))⟩
theorem fi_M_155 : ai_B "CaneRoundsModel" 155 mm_M_isIn 3 ∧ Cond.static mm_M_isIn.1 ∈ tt_g := ⟨⟨(tt_g1 1101 (by decide +kernel) (by decide +kernel)), (tt_g1 100 (by decide +kernel) (by decide +kernel)), ⟨by decide +kernel, by decide +kernel, by decide +kernel⟩, by decide, Or.inl (tt_g1 1099 (by decide +kernel) (by decide +kernel))⟩, (tt_g1 1100 (by decide +kernel) (by decide +kernel))⟩
theorem fi_M_195 : ai_B "CaneRoundsModel" 195 mm_M_trip 1 ∧ Cond.static mm_M_trip.1 ∈ tt_g := ⟨⟨(tt_g1 1174 (by decide +kernel) (by decide +kernel)), (tt_g1 100 (by decide +kernel) (by decide +kernel)), ⟨by decide +kernel, by decide +kernel, by decide +kernel⟩, by decide, Or.inl (tt_g1 1172 (by decide +kernel) (by decide +kernel))⟩, (tt_g1 1173 (by decide +kernel) (by decide +kernel))⟩
theorem fi_M_253 : ai_B "CaneRoundsModel" 253 mm_M_isDigit 1 ∧ Cond.static mm_M_isDigit.1 ∈ tt_g := ⟨⟨(tt_g1 1233 (by decide +kernel) (by decide +kernel)), (tt_g1 100 (by decide +kernel) (by decide +kernel)), ⟨by decide +kernel, by decide +kernel, by decide +kernel⟩, by decide, Or.inl (tt_g1 1231 (by decide +kernel) (by decide +kernel))⟩, (tt_g1 1232 (by decide +kernel) (by decide +kernel))⟩
theorem fi_M_260 : ai_B "CaneRoundsModel" 260 mm_M_isLetter 1 ∧ Cond.static mm_M_isLetter.1 ∈ tt_g := ⟨⟨(tt_g1 1237 (by decide +kernel) (by decide +kernel)), (tt_g1 100 (by decide +kernel) (by decide +kernel)), ⟨by decide +kernel, by decide +kernel, by decide +kernel⟩, by decide, Or.inl (tt_g1 1235 (by decide +kernel) (by decide +kernel))⟩, (tt_g1 1236 (by decide +kernel) (by decide +kernel))⟩
theorem fi_M_263 : ai_B "CaneRoundsModel" 263 mm_M_letterOf 1 ∧ Cond.static mm_M_letterOf.1 ∈ tt_g := ⟨⟨(tt_g1 1240 (by decide +kernel) (by decide +kernel)), (tt_g1 100 (by decide +kernel) (by decide +kernel)), ⟨by decide +kernel, by decide +kernel, by decide +kernel⟩, by decide, Or.inl (tt_g1 1238 (by decide +kernel) (by decide +kernel))⟩, (tt_g1 1239 (by decide +kernel) (by decide +kernel))⟩
theorem fi_M_310 : ai_B "CaneRoundsModel" 310 mm_M_clip 1 ∧ Cond.static mm_M_clip.1 ∈ tt_g := ⟨⟨(tt_g1 1200 (by decide +kernel) (by decide +kernel)), (tt_g1 100 (by decide +kernel) (by decide +kernel)), ⟨by decide +kernel, by decide +kernel, by decide +kernel⟩, by decide, Or.inl (tt_g1 1198 (by decide +kernel) (by decide +kernel))⟩, (tt_g1 1199 (by decide +kernel) (by decide +kernel))⟩
theorem fi_M_314 : ai_B "CaneRoundsModel" 314 mm_M_act 3 ∧ Cond.static mm_M_act.1 ∈ tt_g := ⟨⟨(tt_g1 1197 (by decide +kernel) (by decide +kernel)), (tt_g1 100 (by decide +kernel) (by decide +kernel)), ⟨by decide +kernel, by decide +kernel, by decide +kernel⟩, by decide, Or.inl (tt_g1 1195 (by decide +kernel) (by decide +kernel))⟩, (tt_g1 1196 (by decide +kernel) (by decide +kernel))⟩
theorem fi_M_320 : ai_B "CaneRoundsModel" 320 mm_M_isSmall 1 ∧ Cond.static mm_M_isSmall.1 ∈ tt_g := ⟨⟨(tt_g1 1277 (by decide +kernel) (by decide +kernel)), (tt_g1 100 (by decide +kernel) (by decide +kernel)), ⟨by decide +kernel, by decide +kernel, by decide +kernel⟩, by decide, Or.inl (tt_g1 1275 (by decide +kernel) (by decide +kernel))⟩, (tt_g1 1276 (by decide +kernel) (by decide +kernel))⟩
theorem fi_M_162 : ai_B "CaneRoundsModel" 162 mm_M_isHour 0 ∧ Cond.instanceMethod mm_M_isHour.1 ∈ tt_g ∧ Cond.selects mm_M_isHour.1.cls mm_M_isHour.1 mm_M_isHour.1 ∈ tt_g := ⟨⟨(tt_g1 1105 (by decide +kernel) (by decide +kernel)), (tt_g1 100 (by decide +kernel) (by decide +kernel)), ⟨by decide +kernel, by decide +kernel, by decide +kernel⟩, by decide, Or.inl (tt_g1 1102 (by decide +kernel) (by decide +kernel))⟩, (tt_g1 1104 (by decide +kernel) (by decide +kernel)), (tt_g1 64 (by decide +kernel) (by decide +kernel))⟩
theorem fi_M_176 : ai_B "CaneRoundsModel" 176 mm_M_turn 0 ∧ Cond.instanceMethod mm_M_turn.1 ∈ tt_g ∧ Cond.selects mm_M_turn.1.cls mm_M_turn.1 mm_M_turn.1 ∈ tt_g := ⟨⟨(tt_g1 1126 (by decide +kernel) (by decide +kernel)), (tt_g1 100 (by decide +kernel) (by decide +kernel)), ⟨by decide +kernel, by decide +kernel, by decide +kernel⟩, by decide, Or.inl (tt_g1 1123 (by decide +kernel) (by decide +kernel))⟩, (tt_g1 1125 (by decide +kernel) (by decide +kernel)), (tt_g1 65 (by decide +kernel) (by decide +kernel))⟩
theorem fi_M_180 : ai_B "CaneRoundsModel" 180 mm_M_isField 1 ∧ Cond.instanceMethod mm_M_isField.1 ∈ tt_g ∧ Cond.selects mm_M_isField.1.cls mm_M_isField.1 mm_M_isField.1 ∈ tt_g := ⟨⟨(tt_g1 1138 (by decide +kernel) (by decide +kernel)), (tt_g1 100 (by decide +kernel) (by decide +kernel)), ⟨by decide +kernel, by decide +kernel, by decide +kernel⟩, by decide, Or.inl (tt_g1 1135 (by decide +kernel) (by decide +kernel))⟩, (tt_g1 1137 (by decide +kernel) (by decide +kernel)), (tt_g1 66 (by decide +kernel) (by decide +kernel))⟩
theorem fi_M_184 : ai_B "CaneRoundsModel" 184 mm_M_freeGangs 0 ∧ Cond.instanceMethod mm_M_freeGangs.1 ∈ tt_g ∧ Cond.selects mm_M_freeGangs.1.cls mm_M_freeGangs.1 mm_M_freeGangs.1 ∈ tt_g := ⟨⟨(tt_g1 1142 (by decide +kernel) (by decide +kernel)), (tt_g1 100 (by decide +kernel) (by decide +kernel)), ⟨by decide +kernel, by decide +kernel, by decide +kernel⟩, by decide, Or.inl (tt_g1 1139 (by decide +kernel) (by decide +kernel))⟩, (tt_g1 1141 (by decide +kernel) (by decide +kernel)), (tt_g1 67 (by decide +kernel) (by decide +kernel))⟩
theorem fi_M_187 : ai_B "CaneRoundsModel" 187 mm_M_sweetAt 2 ∧ Cond.instanceMethod mm_M_sweetAt.1 ∈ tt_g ∧ Cond.selects mm_M_sweetAt.1.cls mm_M_sweetAt.1 mm_M_sweetAt.1 ∈ tt_g := ⟨⟨(tt_g1 1150 (by decide +kernel) (by decide +kernel)), (tt_g1 100 (by decide +kernel) (by decide +kernel)), ⟨by decide +kernel, by decide +kernel, by decide +kernel⟩, by decide, Or.inl (tt_g1 1147 (by decide +kernel) (by decide +kernel))⟩, (tt_g1 1149 (by decide +kernel) (by decide +kernel)), (tt_g1 68 (by decide +kernel) (by decide +kernel))⟩
theorem fi_M_199 : ai_B "CaneRoundsModel" 199 mm_M_left 1 ∧ Cond.instanceMethod mm_M_left.1 ∈ tt_g ∧ Cond.selects mm_M_left.1.cls mm_M_left.1 mm_M_left.1 ∈ tt_g := ⟨⟨(tt_g1 1186 (by decide +kernel) (by decide +kernel)), (tt_g1 100 (by decide +kernel) (by decide +kernel)), ⟨by decide +kernel, by decide +kernel, by decide +kernel⟩, by decide, Or.inl (tt_g1 1183 (by decide +kernel) (by decide +kernel))⟩, (tt_g1 1185 (by decide +kernel) (by decide +kernel)), (tt_g1 75 (by decide +kernel) (by decide +kernel))⟩
theorem fi_M_202 : ai_B "CaneRoundsModel" 202 mm_M_firstToDie 0 ∧ Cond.instanceMethod mm_M_firstToDie.1 ∈ tt_g ∧ Cond.selects mm_M_firstToDie.1.cls mm_M_firstToDie.1 mm_M_firstToDie.1 ∈ tt_g := ⟨⟨(tt_g1 1182 (by decide +kernel) (by decide +kernel)), (tt_g1 100 (by decide +kernel) (by decide +kernel)), ⟨by decide +kernel, by decide +kernel, by decide +kernel⟩, by decide, Or.inl (tt_g1 1179 (by decide +kernel) (by decide +kernel))⟩, (tt_g1 1181 (by decide +kernel) (by decide +kernel)), (tt_g1 74 (by decide +kernel) (by decide +kernel))⟩
theorem fi_M_208 : ai_B "CaneRoundsModel" 208 mm_M_work 5 ∧ Cond.instanceMethod mm_M_work.1 ∈ tt_g ∧ Cond.selects mm_M_work.1.cls mm_M_work.1 mm_M_work.1 ∈ tt_g := ⟨⟨(tt_g1 1194 (by decide +kernel) (by decide +kernel)), (tt_g1 100 (by decide +kernel) (by decide +kernel)), ⟨by decide +kernel, by decide +kernel, by decide +kernel⟩, by decide, Or.inl (tt_g1 1191 (by decide +kernel) (by decide +kernel))⟩, (tt_g1 1193 (by decide +kernel) (by decide +kernel)), (tt_g1 77 (by decide +kernel) (by decide +kernel))⟩
theorem fi_M_212 : ai_B "CaneRoundsModel" 212 mm_M_isHindered 2 ∧ Cond.instanceMethod mm_M_isHindered.1 ∈ tt_g ∧ Cond.selects mm_M_isHindered.1.cls mm_M_isHindered.1 mm_M_isHindered.1 ∈ tt_g := ⟨⟨(tt_g1 1162 (by decide +kernel) (by decide +kernel)), (tt_g1 100 (by decide +kernel) (by decide +kernel)), ⟨by decide +kernel, by decide +kernel, by decide +kernel⟩, by decide, Or.inl (tt_g1 1159 (by decide +kernel) (by decide +kernel))⟩, (tt_g1 1161 (by decide +kernel) (by decide +kernel)), (tt_g1 70 (by decide +kernel) (by decide +kernel))⟩
theorem fi_M_216 : ai_B "CaneRoundsModel" 216 mm_M_cutOn 1 ∧ Cond.instanceMethod mm_M_cutOn.1 ∈ tt_g ∧ Cond.selects mm_M_cutOn.1.cls mm_M_cutOn.1 mm_M_cutOn.1 ∈ tt_g := ⟨⟨(tt_g1 1166 (by decide +kernel) (by decide +kernel)), (tt_g1 100 (by decide +kernel) (by decide +kernel)), ⟨by decide +kernel, by decide +kernel, by decide +kernel⟩, by decide, Or.inl (tt_g1 1163 (by decide +kernel) (by decide +kernel))⟩, (tt_g1 1165 (by decide +kernel) (by decide +kernel)), (tt_g1 71 (by decide +kernel) (by decide +kernel))⟩
theorem fi_M_220 : ai_B "CaneRoundsModel" 220 mm_M_send 1 ∧ Cond.instanceMethod mm_M_send.1 ∈ tt_g ∧ Cond.selects mm_M_send.1.cls mm_M_send.1 mm_M_send.1 ∈ tt_g := ⟨⟨(tt_g1 1171 (by decide +kernel) (by decide +kernel)), (tt_g1 100 (by decide +kernel) (by decide +kernel)), ⟨by decide +kernel, by decide +kernel, by decide +kernel⟩, by decide, Or.inl (tt_g1 1168 (by decide +kernel) (by decide +kernel))⟩, (tt_g1 1170 (by decide +kernel) (by decide +kernel)), (tt_g1 72 (by decide +kernel) (by decide +kernel))⟩
theorem fi_M_223 : ai_B "CaneRoundsModel" 223 mm_M_mill 0 ∧ Cond.instanceMethod mm_M_mill.1 ∈ tt_g ∧ Cond.selects mm_M_mill.1.cls mm_M_mill.1 mm_M_mill.1 ∈ tt_g := ⟨⟨(tt_g1 1178 (by decide +kernel) (by decide +kernel)), (tt_g1 100 (by decide +kernel) (by decide +kernel)), ⟨by decide +kernel, by decide +kernel, by decide +kernel⟩, by decide, Or.inl (tt_g1 1175 (by decide +kernel) (by decide +kernel))⟩, (tt_g1 1177 (by decide +kernel) (by decide +kernel)), (tt_g1 73 (by decide +kernel) (by decide +kernel))⟩
theorem fi_M_229 : ai_B "CaneRoundsModel" 229 mm_M_payDay 0 ∧ Cond.instanceMethod mm_M_payDay.1 ∈ tt_g ∧ Cond.selects mm_M_payDay.1.cls mm_M_payDay.1 mm_M_payDay.1 ∈ tt_g := ⟨⟨(tt_g1 1190 (by decide +kernel) (by decide +kernel)), (tt_g1 100 (by decide +kernel) (by decide +kernel)), ⟨by decide +kernel, by decide +kernel, by decide +kernel⟩, by decide, Or.inl (tt_g1 1187 (by decide +kernel) (by decide +kernel))⟩, (tt_g1 1189 (by decide +kernel) (by decide +kernel)), (tt_g1 76 (by decide +kernel) (by decide +kernel))⟩
theorem fi_M_232 : ai_B "CaneRoundsModel" 232 mm_M_hour 0 ∧ Cond.instanceMethod mm_M_hour.1 ∈ tt_g ∧ Cond.selects mm_M_hour.1.cls mm_M_hour.1 mm_M_hour.1 ∈ tt_g := ⟨⟨(tt_g1 1158 (by decide +kernel) (by decide +kernel)), (tt_g1 100 (by decide +kernel) (by decide +kernel)), ⟨by decide +kernel, by decide +kernel, by decide +kernel⟩, by decide, Or.inl (tt_g1 1155 (by decide +kernel) (by decide +kernel))⟩, (tt_g1 1157 (by decide +kernel) (by decide +kernel)), (tt_g1 69 (by decide +kernel) (by decide +kernel))⟩
theorem fi_M_238 : ai_B "CaneRoundsModel" 238 mm_M_four 1 ∧ Cond.instanceMethod mm_M_four.1 ∈ tt_g ∧ Cond.selects mm_M_four.1.cls mm_M_four.1 mm_M_four.1 ∈ tt_g := ⟨⟨(tt_g1 1210 (by decide +kernel) (by decide +kernel)), (tt_g1 100 (by decide +kernel) (by decide +kernel)), ⟨by decide +kernel, by decide +kernel, by decide +kernel⟩, by decide, Or.inl (tt_g1 1207 (by decide +kernel) (by decide +kernel))⟩, (tt_g1 1209 (by decide +kernel) (by decide +kernel)), (tt_g1 78 (by decide +kernel) (by decide +kernel))⟩
theorem fi_M_244 : ai_B "CaneRoundsModel" 244 mm_M_see 1 ∧ Cond.instanceMethod mm_M_see.1 ∈ tt_g ∧ Cond.selects mm_M_see.1.cls mm_M_see.1 mm_M_see.1 ∈ tt_g := ⟨⟨(tt_g1 1230 (by decide +kernel) (by decide +kernel)), (tt_g1 100 (by decide +kernel) (by decide +kernel)), ⟨by decide +kernel, by decide +kernel, by decide +kernel⟩, by decide, Or.inl (tt_g1 1227 (by decide +kernel) (by decide +kernel))⟩, (tt_g1 1229 (by decide +kernel) (by decide +kernel)), (tt_g1 81 (by decide +kernel) (by decide +kernel))⟩
theorem fi_M_277 : ai_B "CaneRoundsModel" 277 mm_M_emit 2 ∧ Cond.instanceMethod mm_M_emit.1 ∈ tt_g ∧ Cond.selects mm_M_emit.1.cls mm_M_emit.1 mm_M_emit.1 ∈ tt_g := ⟨⟨(tt_g1 1254 (by decide +kernel) (by decide +kernel)), (tt_g1 100 (by decide +kernel) (by decide +kernel)), ⟨by decide +kernel, by decide +kernel, by decide +kernel⟩, by decide, Or.inl (tt_g1 1251 (by decide +kernel) (by decide +kernel))⟩, (tt_g1 1253 (by decide +kernel) (by decide +kernel)), (tt_g1 84 (by decide +kernel) (by decide +kernel))⟩
theorem fi_M_281 : ai_B "CaneRoundsModel" 281 mm_M_whole 0 ∧ Cond.instanceMethod mm_M_whole.1 ∈ tt_g ∧ Cond.selects mm_M_whole.1.cls mm_M_whole.1 mm_M_whole.1 ∈ tt_g := ⟨⟨(tt_g1 1262 (by decide +kernel) (by decide +kernel)), (tt_g1 100 (by decide +kernel) (by decide +kernel)), ⟨by decide +kernel, by decide +kernel, by decide +kernel⟩, by decide, Or.inl (tt_g1 1259 (by decide +kernel) (by decide +kernel))⟩, (tt_g1 1261 (by decide +kernel) (by decide +kernel)), (tt_g1 86 (by decide +kernel) (by decide +kernel))⟩
theorem fi_M_288 : ai_B "CaneRoundsModel" 288 mm_M_nextToken 0 ∧ Cond.instanceMethod mm_M_nextToken.1 ∈ tt_g ∧ Cond.selects mm_M_nextToken.1.cls mm_M_nextToken.1 mm_M_nextToken.1 ∈ tt_g := ⟨⟨(tt_g1 1226 (by decide +kernel) (by decide +kernel)), (tt_g1 100 (by decide +kernel) (by decide +kernel)), ⟨by decide +kernel, by decide +kernel, by decide +kernel⟩, by decide, Or.inl (tt_g1 1223 (by decide +kernel) (by decide +kernel))⟩, (tt_g1 1225 (by decide +kernel) (by decide +kernel)), (tt_g1 80 (by decide +kernel) (by decide +kernel))⟩
theorem fi_M_291 : ai_B "CaneRoundsModel" 291 mm_M_push 1 ∧ Cond.instanceMethod mm_M_push.1 ∈ tt_g ∧ Cond.selects mm_M_push.1.cls mm_M_push.1 mm_M_push.1 ∈ tt_g := ⟨⟨(tt_g1 1258 (by decide +kernel) (by decide +kernel)), (tt_g1 100 (by decide +kernel) (by decide +kernel)), ⟨by decide +kernel, by decide +kernel, by decide +kernel⟩, by decide, Or.inl (tt_g1 1255 (by decide +kernel) (by decide +kernel))⟩, (tt_g1 1257 (by decide +kernel) (by decide +kernel)), (tt_g1 85 (by decide +kernel) (by decide +kernel))⟩
theorem fi_M_294 : ai_B "CaneRoundsModel" 294 mm_M_settle 1 ∧ Cond.instanceMethod mm_M_settle.1 ∈ tt_g ∧ Cond.selects mm_M_settle.1.cls mm_M_settle.1 mm_M_settle.1 ∈ tt_g := ⟨⟨(tt_g1 1250 (by decide +kernel) (by decide +kernel)), (tt_g1 100 (by decide +kernel) (by decide +kernel)), ⟨by decide +kernel, by decide +kernel, by decide +kernel⟩, by decide, Or.inl (tt_g1 1247 (by decide +kernel) (by decide +kernel))⟩, (tt_g1 1249 (by decide +kernel) (by decide +kernel)), (tt_g1 83 (by decide +kernel) (by decide +kernel))⟩
theorem fi_M_297 : ai_B "CaneRoundsModel" 297 mm_M_behind 0 ∧ Cond.instanceMethod mm_M_behind.1 ∈ tt_g ∧ Cond.selects mm_M_behind.1.cls mm_M_behind.1 mm_M_behind.1 ∈ tt_g := ⟨⟨(tt_g1 1246 (by decide +kernel) (by decide +kernel)), (tt_g1 100 (by decide +kernel) (by decide +kernel)), ⟨by decide +kernel, by decide +kernel, by decide +kernel⟩, by decide, Or.inl (tt_g1 1243 (by decide +kernel) (by decide +kernel))⟩, (tt_g1 1245 (by decide +kernel) (by decide +kernel)), (tt_g1 82 (by decide +kernel) (by decide +kernel))⟩
theorem fi_M_300 : ai_B "CaneRoundsModel" 300 mm_M_begin 0 ∧ Cond.instanceMethod mm_M_begin.1 ∈ tt_g ∧ Cond.selects mm_M_begin.1.cls mm_M_begin.1 mm_M_begin.1 ∈ tt_g := ⟨⟨(tt_g1 1266 (by decide +kernel) (by decide +kernel)), (tt_g1 100 (by decide +kernel) (by decide +kernel)), ⟨by decide +kernel, by decide +kernel, by decide +kernel⟩, by decide, Or.inl (tt_g1 1263 (by decide +kernel) (by decide +kernel))⟩, (tt_g1 1265 (by decide +kernel) (by decide +kernel)), (tt_g1 87 (by decide +kernel) (by decide +kernel))⟩
theorem fi_M_303 : ai_B "CaneRoundsModel" 303 mm_M_readText 0 ∧ Cond.instanceMethod mm_M_readText.1 ∈ tt_g ∧ Cond.selects mm_M_readText.1.cls mm_M_readText.1 mm_M_readText.1 ∈ tt_g := ⟨⟨(tt_g1 1222 (by decide +kernel) (by decide +kernel)), (tt_g1 100 (by decide +kernel) (by decide +kernel)), ⟨by decide +kernel, by decide +kernel, by decide +kernel⟩, by decide, Or.inl (tt_g1 1219 (by decide +kernel) (by decide +kernel))⟩, (tt_g1 1221 (by decide +kernel) (by decide +kernel)), (tt_g1 79 (by decide +kernel) (by decide +kernel))⟩
theorem fi_M_323 : ai_B "CaneRoundsModel" 323 mm_M_dyingFirst 1 ∧ Cond.instanceMethod mm_M_dyingFirst.1 ∈ tt_g ∧ Cond.selects mm_M_dyingFirst.1.cls mm_M_dyingFirst.1 mm_M_dyingFirst.1 ∈ tt_g := ⟨⟨(tt_g1 1315 (by decide +kernel) (by decide +kernel)), (tt_g1 100 (by decide +kernel) (by decide +kernel)), ⟨by decide +kernel, by decide +kernel, by decide +kernel⟩, by decide, Or.inl (tt_g1 1312 (by decide +kernel) (by decide +kernel))⟩, (tt_g1 1314 (by decide +kernel) (by decide +kernel)), (tt_g1 91 (by decide +kernel) (by decide +kernel))⟩
theorem fi_M_329 : ai_B "CaneRoundsModel" 329 mm_M_could 1 ∧ Cond.instanceMethod mm_M_could.1 ∈ tt_g ∧ Cond.selects mm_M_could.1.cls mm_M_could.1 mm_M_could.1 ∈ tt_g := ⟨⟨(tt_g1 1311 (by decide +kernel) (by decide +kernel)), (tt_g1 100 (by decide +kernel) (by decide +kernel)), ⟨by decide +kernel, by decide +kernel, by decide +kernel⟩, by decide, Or.inl (tt_g1 1308 (by decide +kernel) (by decide +kernel))⟩, (tt_g1 1310 (by decide +kernel) (by decide +kernel)), (tt_g1 90 (by decide +kernel) (by decide +kernel))⟩
theorem fi_M_332 : ai_B "CaneRoundsModel" 332 mm_M_isSet 2 ∧ Cond.instanceMethod mm_M_isSet.1 ∈ tt_g ∧ Cond.selects mm_M_isSet.1.cls mm_M_isSet.1 mm_M_isSet.1 ∈ tt_g := ⟨⟨(tt_g1 1303 (by decide +kernel) (by decide +kernel)), (tt_g1 100 (by decide +kernel) (by decide +kernel)), ⟨by decide +kernel, by decide +kernel, by decide +kernel⟩, by decide, Or.inl (tt_g1 1300 (by decide +kernel) (by decide +kernel))⟩, (tt_g1 1302 (by decide +kernel) (by decide +kernel)), (tt_g1 88 (by decide +kernel) (by decide +kernel))⟩
theorem fi_M_336 : ai_B "CaneRoundsModel" 336 mm_M_find 2 ∧ Cond.instanceMethod mm_M_find.1 ∈ tt_g ∧ Cond.selects mm_M_find.1.cls mm_M_find.1 mm_M_find.1 ∈ tt_g := ⟨⟨(tt_g1 1307 (by decide +kernel) (by decide +kernel)), (tt_g1 100 (by decide +kernel) (by decide +kernel)), ⟨by decide +kernel, by decide +kernel, by decide +kernel⟩, by decide, Or.inl (tt_g1 1304 (by decide +kernel) (by decide +kernel))⟩, (tt_g1 1306 (by decide +kernel) (by decide +kernel)), (tt_g1 89 (by decide +kernel) (by decide +kernel))⟩
theorem fc_M_175 : Cond.constant "CaneRoundsModel" 175 (1103515245) ∈ tt_g := (tt_g1 1122 (by decide +kernel) (by decide +kernel))
theorem fc_M_194 : Cond.constant "CaneRoundsModel" 194 (-2000000000) ∈ tt_g := (tt_g1 1167 (by decide +kernel) (by decide +kernel))
theorem fc_M_306 : Cond.constantLong "CaneRoundsModel" 306 (1000000000) ∈ tt_g := (tt_g1 1201 (by decide +kernel) (by decide +kernel))
theorem fc_M_308 : Cond.constantLong "CaneRoundsModel" 308 (-1000000000) ∈ tt_g := (tt_g1 1202 (by decide +kernel) (by decide +kernel))
theorem fc_M_259 : Cond.constant "CaneRoundsModel" 259 (100000) ∈ tt_g := (tt_g1 1234 (by decide +kernel) (by decide +kernel))
theorem fc_M_266 : Cond.constant "CaneRoundsModel" 266 (1799406) ∈ tt_g := (tt_g1 1241 (by decide +kernel) (by decide +kernel))
theorem fc_M_267 : Cond.constant "CaneRoundsModel" 267 (1798392) ∈ tt_g := (tt_g1 1242 (by decide +kernel) (by decide +kernel))
theorem fc_M_318 : Cond.constant "CaneRoundsModel" 318 (-1000000) ∈ tt_g := (tt_g1 1278 (by decide +kernel) (by decide +kernel))
theorem fc_M_319 : Cond.constant "CaneRoundsModel" 319 (1000000) ∈ tt_g := (tt_g1 1279 (by decide +kernel) (by decide +kernel))
theorem fp_M_7 {mn : String} : af_put "CaneRoundsModel" mn 7 11 4 (.int) := ⟨_, _, _, cs_y11, rfl, by decide, cs_w11, cs_p11, cs_n11, rfl, Or.inl ⟨rfl, Or.inl (tt_g1 905 (by decide +kernel) (by decide +kernel))⟩⟩
theorem fp_M_13 {mn : String} : af_put "CaneRoundsModel" mn 13 11 5 (.int) := ⟨_, _, _, cs_y11, rfl, by decide, cs_w11, cs_p11, cs_n11, rfl, Or.inl ⟨rfl, Or.inl (tt_g1 906 (by decide +kernel) (by decide +kernel))⟩⟩
theorem fp_M_16 {mn : String} : af_put "CaneRoundsModel" mn 16 11 6 (.int) := ⟨_, _, _, cs_y11, rfl, by decide, cs_w11, cs_p11, cs_n11, rfl, Or.inl ⟨rfl, Or.inl (tt_g1 907 (by decide +kernel) (by decide +kernel))⟩⟩
theorem fp_M_19 {mn : String} : af_put "CaneRoundsModel" mn 19 11 7 (.int) := ⟨_, _, _, cs_y11, rfl, by decide, cs_w11, cs_p11, cs_n11, rfl, Or.inl ⟨rfl, Or.inl (tt_g1 908 (by decide +kernel) (by decide +kernel))⟩⟩
theorem fp_M_22 : af_put "CaneRoundsModel" "<init>" 22 11 8 (.array .long) := ⟨_, _, _, cs_y11, rfl, by decide, cs_w11, cs_p11, cs_n11, rfl, Or.inr ⟨rfl, rfl, rfl, tt_g1 909 (by decide +kernel) (by decide +kernel)⟩⟩
theorem fp_M_26 : af_put "CaneRoundsModel" "<init>" 26 11 9 (.array .int) := ⟨_, _, _, cs_y11, rfl, by decide, cs_w11, cs_p11, cs_n11, rfl, Or.inr ⟨rfl, rfl, rfl, tt_g1 910 (by decide +kernel) (by decide +kernel)⟩⟩
theorem fp_M_30 : af_put "CaneRoundsModel" "<init>" 30 11 10 (.array .int) := ⟨_, _, _, cs_y11, rfl, by decide, cs_w11, cs_p11, cs_n11, rfl, Or.inr ⟨rfl, rfl, rfl, tt_g1 911 (by decide +kernel) (by decide +kernel)⟩⟩
theorem fp_M_33 : af_put "CaneRoundsModel" "<init>" 33 11 11 (.array .int) := ⟨_, _, _, cs_y11, rfl, by decide, cs_w11, cs_p11, cs_n11, rfl, Or.inr ⟨rfl, rfl, rfl, tt_g1 912 (by decide +kernel) (by decide +kernel)⟩⟩
theorem fp_M_36 : af_put "CaneRoundsModel" "<init>" 36 11 12 (.array .int) := ⟨_, _, _, cs_y11, rfl, by decide, cs_w11, cs_p11, cs_n11, rfl, Or.inr ⟨rfl, rfl, rfl, tt_g1 913 (by decide +kernel) (by decide +kernel)⟩⟩
theorem fp_M_39 : af_put "CaneRoundsModel" "<init>" 39 11 13 (.array .int) := ⟨_, _, _, cs_y11, rfl, by decide, cs_w11, cs_p11, cs_n11, rfl, Or.inr ⟨rfl, rfl, rfl, tt_g1 914 (by decide +kernel) (by decide +kernel)⟩⟩
theorem fp_M_42 : af_put "CaneRoundsModel" "<init>" 42 11 14 (.array .int) := ⟨_, _, _, cs_y11, rfl, by decide, cs_w11, cs_p11, cs_n11, rfl, Or.inr ⟨rfl, rfl, rfl, tt_g1 915 (by decide +kernel) (by decide +kernel)⟩⟩
theorem fp_M_45 : af_put "CaneRoundsModel" "<init>" 45 11 15 (.array .int) := ⟨_, _, _, cs_y11, rfl, by decide, cs_w11, cs_p11, cs_n11, rfl, Or.inr ⟨rfl, rfl, rfl, tt_g1 916 (by decide +kernel) (by decide +kernel)⟩⟩
theorem fp_M_48 : af_put "CaneRoundsModel" "<init>" 48 11 16 (.array .int) := ⟨_, _, _, cs_y11, rfl, by decide, cs_w11, cs_p11, cs_n11, rfl, Or.inr ⟨rfl, rfl, rfl, tt_g1 917 (by decide +kernel) (by decide +kernel)⟩⟩
theorem fp_M_51 : af_put "CaneRoundsModel" "<init>" 51 11 17 (.array .int) := ⟨_, _, _, cs_y11, rfl, by decide, cs_w11, cs_p11, cs_n11, rfl, Or.inr ⟨rfl, rfl, rfl, tt_g1 918 (by decide +kernel) (by decide +kernel)⟩⟩
theorem fp_M_54 : af_put "CaneRoundsModel" "<init>" 54 11 18 (.array .int) := ⟨_, _, _, cs_y11, rfl, by decide, cs_w11, cs_p11, cs_n11, rfl, Or.inr ⟨rfl, rfl, rfl, tt_g1 919 (by decide +kernel) (by decide +kernel)⟩⟩
theorem fp_M_57 : af_put "CaneRoundsModel" "<init>" 57 11 19 (.array .int) := ⟨_, _, _, cs_y11, rfl, by decide, cs_w11, cs_p11, cs_n11, rfl, Or.inr ⟨rfl, rfl, rfl, tt_g1 920 (by decide +kernel) (by decide +kernel)⟩⟩
theorem fp_M_60 : af_put "CaneRoundsModel" "<init>" 60 11 20 (.array .int) := ⟨_, _, _, cs_y11, rfl, by decide, cs_w11, cs_p11, cs_n11, rfl, Or.inr ⟨rfl, rfl, rfl, tt_g1 921 (by decide +kernel) (by decide +kernel)⟩⟩
theorem fp_M_63 : af_put "CaneRoundsModel" "<init>" 63 11 22 (.array .boolean) := ⟨_, _, _, cs_y11, rfl, by decide, cs_w11, cs_p11, cs_n11, rfl, Or.inr ⟨rfl, rfl, rfl, tt_g1 923 (by decide +kernel) (by decide +kernel)⟩⟩
theorem fp_M_67 : af_put "CaneRoundsModel" "<init>" 67 11 23 (.array .int) := ⟨_, _, _, cs_y11, rfl, by decide, cs_w11, cs_p11, cs_n11, rfl, Or.inr ⟨rfl, rfl, rfl, tt_g1 924 (by decide +kernel) (by decide +kernel)⟩⟩
theorem fp_M_70 : af_put "CaneRoundsModel" "<init>" 70 11 24 (.array .int) := ⟨_, _, _, cs_y11, rfl, by decide, cs_w11, cs_p11, cs_n11, rfl, Or.inr ⟨rfl, rfl, rfl, tt_g1 925 (by decide +kernel) (by decide +kernel)⟩⟩
theorem fp_M_73 : af_put "CaneRoundsModel" "<init>" 73 11 25 (.array .int) := ⟨_, _, _, cs_y11, rfl, by decide, cs_w11, cs_p11, cs_n11, rfl, Or.inr ⟨rfl, rfl, rfl, tt_g1 926 (by decide +kernel) (by decide +kernel)⟩⟩
theorem fp_M_76 : af_put "CaneRoundsModel" "<init>" 76 11 26 (.array .int) := ⟨_, _, _, cs_y11, rfl, by decide, cs_w11, cs_p11, cs_n11, rfl, Or.inr ⟨rfl, rfl, rfl, tt_g1 927 (by decide +kernel) (by decide +kernel)⟩⟩
theorem fp_M_79 : af_put "CaneRoundsModel" "<init>" 79 11 27 (.array .int) := ⟨_, _, _, cs_y11, rfl, by decide, cs_w11, cs_p11, cs_n11, rfl, Or.inr ⟨rfl, rfl, rfl, tt_g1 928 (by decide +kernel) (by decide +kernel)⟩⟩
theorem fp_M_82 : af_put "CaneRoundsModel" "<init>" 82 11 28 (.array .int) := ⟨_, _, _, cs_y11, rfl, by decide, cs_w11, cs_p11, cs_n11, rfl, Or.inr ⟨rfl, rfl, rfl, tt_g1 929 (by decide +kernel) (by decide +kernel)⟩⟩
theorem fp_M_85 : af_put "CaneRoundsModel" "<init>" 85 11 29 (.array .int) := ⟨_, _, _, cs_y11, rfl, by decide, cs_w11, cs_p11, cs_n11, rfl, Or.inr ⟨rfl, rfl, rfl, tt_g1 930 (by decide +kernel) (by decide +kernel)⟩⟩
theorem fp_M_88 : af_put "CaneRoundsModel" "<init>" 88 11 30 (.array .int) := ⟨_, _, _, cs_y11, rfl, by decide, cs_w11, cs_p11, cs_n11, rfl, Or.inr ⟨rfl, rfl, rfl, tt_g1 931 (by decide +kernel) (by decide +kernel)⟩⟩
theorem fp_M_91 : af_put "CaneRoundsModel" "<init>" 91 11 31 (.array .int) := ⟨_, _, _, cs_y11, rfl, by decide, cs_w11, cs_p11, cs_n11, rfl, Or.inr ⟨rfl, rfl, rfl, tt_g1 932 (by decide +kernel) (by decide +kernel)⟩⟩
theorem fp_M_94 : af_put "CaneRoundsModel" "<init>" 94 11 32 (.array .int) := ⟨_, _, _, cs_y11, rfl, by decide, cs_w11, cs_p11, cs_n11, rfl, Or.inr ⟨rfl, rfl, rfl, tt_g1 933 (by decide +kernel) (by decide +kernel)⟩⟩
theorem fp_M_97 : af_put "CaneRoundsModel" "<init>" 97 11 33 (.array .int) := ⟨_, _, _, cs_y11, rfl, by decide, cs_w11, cs_p11, cs_n11, rfl, Or.inr ⟨rfl, rfl, rfl, tt_g1 934 (by decide +kernel) (by decide +kernel)⟩⟩
theorem fp_M_100 : af_put "CaneRoundsModel" "<init>" 100 11 34 (.array .int) := ⟨_, _, _, cs_y11, rfl, by decide, cs_w11, cs_p11, cs_n11, rfl, Or.inr ⟨rfl, rfl, rfl, tt_g1 935 (by decide +kernel) (by decide +kernel)⟩⟩
theorem fp_M_103 : af_put "CaneRoundsModel" "<init>" 103 11 35 (.array .byte) := ⟨_, _, _, cs_y11, rfl, by decide, cs_w11, cs_p11, cs_n11, rfl, Or.inr ⟨rfl, rfl, rfl, tt_g1 936 (by decide +kernel) (by decide +kernel)⟩⟩
theorem fp_M_107 {mn : String} : af_put "CaneRoundsModel" mn 107 11 38 (.int) := ⟨_, _, _, cs_y11, rfl, by decide, cs_w11, cs_p11, cs_n11, rfl, Or.inl ⟨rfl, Or.inl (tt_g1 939 (by decide +kernel) (by decide +kernel))⟩⟩
theorem fp_M_110 : af_put "CaneRoundsModel" "<init>" 110 11 40 (.array .int) := ⟨_, _, _, cs_y11, rfl, by decide, cs_w11, cs_p11, cs_n11, rfl, Or.inr ⟨rfl, rfl, rfl, tt_g1 941 (by decide +kernel) (by decide +kernel)⟩⟩
theorem fp_M_113 : af_put "CaneRoundsModel" "<init>" 113 11 41 (.array .boolean) := ⟨_, _, _, cs_y11, rfl, by decide, cs_w11, cs_p11, cs_n11, rfl, Or.inr ⟨rfl, rfl, rfl, tt_g1 942 (by decide +kernel) (by decide +kernel)⟩⟩
theorem fp_M_116 : af_put "CaneRoundsModel" "<init>" 116 11 42 (.array .int) := ⟨_, _, _, cs_y11, rfl, by decide, cs_w11, cs_p11, cs_n11, rfl, Or.inr ⟨rfl, rfl, rfl, tt_g1 943 (by decide +kernel) (by decide +kernel)⟩⟩
theorem fp_M_119 : af_put "CaneRoundsModel" "<init>" 119 11 45 (.array .int) := ⟨_, _, _, cs_y11, rfl, by decide, cs_w11, cs_p11, cs_n11, rfl, Or.inr ⟨rfl, rfl, rfl, tt_g1 946 (by decide +kernel) (by decide +kernel)⟩⟩
theorem fp_M_122 : af_put "CaneRoundsModel" "<init>" 122 11 46 (.array .int) := ⟨_, _, _, cs_y11, rfl, by decide, cs_w11, cs_p11, cs_n11, rfl, Or.inr ⟨rfl, rfl, rfl, tt_g1 947 (by decide +kernel) (by decide +kernel)⟩⟩
theorem fp_M_125 {mn : String} : af_put "CaneRoundsModel" mn 125 11 47 (.int) := ⟨_, _, _, cs_y11, rfl, by decide, cs_w11, cs_p11, cs_n11, rfl, Or.inl ⟨rfl, Or.inl (tt_g1 948 (by decide +kernel) (by decide +kernel))⟩⟩
theorem fp_M_128 {mn : String} : af_put "CaneRoundsModel" mn 128 11 48 (.int) := ⟨_, _, _, cs_y11, rfl, by decide, cs_w11, cs_p11, cs_n11, rfl, Or.inl ⟨rfl, Or.inl (tt_g1 949 (by decide +kernel) (by decide +kernel))⟩⟩
theorem fp_M_131 : af_put "CaneRoundsModel" "<init>" 131 11 56 (.array .int) := ⟨_, _, _, cs_y11, rfl, by decide, cs_w11, cs_p11, cs_n11, rfl, Or.inr ⟨rfl, rfl, rfl, tt_g1 957 (by decide +kernel) (by decide +kernel)⟩⟩
theorem fp_M_134 : af_put "CaneRoundsModel" "<init>" 134 11 58 (.array .long) := ⟨_, _, _, cs_y11, rfl, by decide, cs_w11, cs_p11, cs_n11, rfl, Or.inr ⟨rfl, rfl, rfl, tt_g1 959 (by decide +kernel) (by decide +kernel)⟩⟩
theorem fp_M_137 : af_put "CaneRoundsModel" "<init>" 137 11 59 (.array .int) := ⟨_, _, _, cs_y11, rfl, by decide, cs_w11, cs_p11, cs_n11, rfl, Or.inr ⟨rfl, rfl, rfl, tt_g1 960 (by decide +kernel) (by decide +kernel)⟩⟩
theorem fp_M_140 : af_put "CaneRoundsModel" "<init>" 140 11 60 (.array .int) := ⟨_, _, _, cs_y11, rfl, by decide, cs_w11, cs_p11, cs_n11, rfl, Or.inr ⟨rfl, rfl, rfl, tt_g1 961 (by decide +kernel) (by decide +kernel)⟩⟩
theorem fp_M_143 : af_put "CaneRoundsModel" "<init>" 143 11 61 (.array .int) := ⟨_, _, _, cs_y11, rfl, by decide, cs_w11, cs_p11, cs_n11, rfl, Or.inr ⟨rfl, rfl, rfl, tt_g1 962 (by decide +kernel) (by decide +kernel)⟩⟩
theorem fp_M_146 : af_put "CaneRoundsModel" "<init>" 146 11 62 (.array .int) := ⟨_, _, _, cs_y11, rfl, by decide, cs_w11, cs_p11, cs_n11, rfl, Or.inr ⟨rfl, rfl, rfl, tt_g1 963 (by decide +kernel) (by decide +kernel)⟩⟩
theorem fp_M_149 {mn : String} : af_put "CaneRoundsModel" mn 149 11 44 (.int) := ⟨_, _, _, cs_y11, rfl, by decide, cs_w11, cs_p11, cs_n11, rfl, Or.inl ⟨rfl, Or.inl (tt_g1 945 (by decide +kernel) (by decide +kernel))⟩⟩
theorem fp_M_152 {mn : String} : af_put "CaneRoundsModel" mn 152 11 2 (.int) := ⟨_, _, _, cs_y11, rfl, by decide, cs_w11, cs_p11, cs_n11, rfl, Or.inl ⟨rfl, Or.inl (tt_g1 903 (by decide +kernel) (by decide +kernel))⟩⟩
theorem fp_M_159 {mn : String} : af_put "CaneRoundsModel" mn 159 11 0 (.int) := ⟨_, _, _, cs_y11, rfl, by decide, cs_w11, cs_p11, cs_n11, rfl, Or.inl ⟨rfl, Or.inl (tt_g1 901 (by decide +kernel) (by decide +kernel))⟩⟩
theorem fp_M_166 {mn : String} : af_put "CaneRoundsModel" mn 166 11 1 (.int) := ⟨_, _, _, cs_y11, rfl, by decide, cs_w11, cs_p11, cs_n11, rfl, Or.inl ⟨rfl, Or.inl (tt_g1 902 (by decide +kernel) (by decide +kernel))⟩⟩
theorem fp_M_169 {mn : String} : af_put "CaneRoundsModel" mn 169 11 21 (.int) := ⟨_, _, _, cs_y11, rfl, by decide, cs_w11, cs_p11, cs_n11, rfl, Or.inl ⟨rfl, Or.inl (tt_g1 922 (by decide +kernel) (by decide +kernel))⟩⟩
theorem fp_M_172 {mn : String} : af_put "CaneRoundsModel" mn 172 11 39 (.int) := ⟨_, _, _, cs_y11, rfl, by decide, cs_w11, cs_p11, cs_n11, rfl, Or.inl ⟨rfl, Or.inl (tt_g1 940 (by decide +kernel) (by decide +kernel))⟩⟩
theorem fp_M_191 {mn : String} : af_put "CaneRoundsModel" mn 191 11 3 (.int) := ⟨_, _, _, cs_y11, rfl, by decide, cs_w11, cs_p11, cs_n11, rfl, Or.inl ⟨rfl, Or.inl (tt_g1 904 (by decide +kernel) (by decide +kernel))⟩⟩
theorem fp_M_205 {mn : String} : af_put "CaneRoundsModel" mn 205 11 36 (.int) := ⟨_, _, _, cs_y11, rfl, by decide, cs_w11, cs_p11, cs_n11, rfl, Or.inl ⟨rfl, Or.inl (tt_g1 937 (by decide +kernel) (by decide +kernel))⟩⟩
theorem fp_M_226 {mn : String} : af_put "CaneRoundsModel" mn 226 11 37 (.int) := ⟨_, _, _, cs_y11, rfl, by decide, cs_w11, cs_p11, cs_n11, rfl, Or.inl ⟨rfl, Or.inl (tt_g1 938 (by decide +kernel) (by decide +kernel))⟩⟩
theorem fp_M_235 {mn : String} : af_put "CaneRoundsModel" mn 235 11 43 (.int) := ⟨_, _, _, cs_y11, rfl, by decide, cs_w11, cs_p11, cs_n11, rfl, Or.inl ⟨rfl, Or.inl (tt_g1 944 (by decide +kernel) (by decide +kernel))⟩⟩
theorem fp_M_241 {mn : String} : af_put "CaneRoundsModel" mn 241 11 49 (.int) := ⟨_, _, _, cs_y11, rfl, by decide, cs_w11, cs_p11, cs_n11, rfl, Or.inl ⟨rfl, Or.inl (tt_g1 950 (by decide +kernel) (by decide +kernel))⟩⟩
theorem fp_M_247 {mn : String} : af_put "CaneRoundsModel" mn 247 11 50 (.int) := ⟨_, _, _, cs_y11, rfl, by decide, cs_w11, cs_p11, cs_n11, rfl, Or.inl ⟨rfl, Or.inl (tt_g1 951 (by decide +kernel) (by decide +kernel))⟩⟩
theorem fp_M_250 {mn : String} : af_put "CaneRoundsModel" mn 250 11 51 (.int) := ⟨_, _, _, cs_y11, rfl, by decide, cs_w11, cs_p11, cs_n11, rfl, Or.inl ⟨rfl, Or.inl (tt_g1 952 (by decide +kernel) (by decide +kernel))⟩⟩
theorem fp_M_256 {mn : String} : af_put "CaneRoundsModel" mn 256 11 52 (.int) := ⟨_, _, _, cs_y11, rfl, by decide, cs_w11, cs_p11, cs_n11, rfl, Or.inl ⟨rfl, Or.inl (tt_g1 953 (by decide +kernel) (by decide +kernel))⟩⟩
theorem fp_M_268 {mn : String} : af_put "CaneRoundsModel" mn 268 11 53 (.int) := ⟨_, _, _, cs_y11, rfl, by decide, cs_w11, cs_p11, cs_n11, rfl, Or.inl ⟨rfl, Or.inl (tt_g1 954 (by decide +kernel) (by decide +kernel))⟩⟩
theorem fp_M_271 {mn : String} : af_put "CaneRoundsModel" mn 271 11 55 (.int) := ⟨_, _, _, cs_y11, rfl, by decide, cs_w11, cs_p11, cs_n11, rfl, Or.inl ⟨rfl, Or.inl (tt_g1 956 (by decide +kernel) (by decide +kernel))⟩⟩
theorem fp_M_274 {mn : String} : af_put "CaneRoundsModel" mn 274 11 54 (.int) := ⟨_, _, _, cs_y11, rfl, by decide, cs_w11, cs_p11, cs_n11, rfl, Or.inl ⟨rfl, Or.inl (tt_g1 955 (by decide +kernel) (by decide +kernel))⟩⟩
theorem fp_M_284 {mn : String} : af_put "CaneRoundsModel" mn 284 11 57 (.boolean) := ⟨_, _, _, cs_y11, rfl, by decide, cs_w11, cs_p11, cs_n11, rfl, Or.inl ⟨rfl, Or.inl (tt_g1 958 (by decide +kernel) (by decide +kernel))⟩⟩
theorem fp_M_326 {mn : String} : af_put "CaneRoundsModel" mn 326 11 63 (.int) := ⟨_, _, _, cs_y11, rfl, by decide, cs_w11, cs_p11, cs_n11, rfl, Or.inl ⟨rfl, Or.inl (tt_g1 964 (by decide +kernel) (by decide +kernel))⟩⟩
theorem fo_i : Cond.instanceMethod Lib.objectInit ∈ tt_g := (tt_g1 112 (by decide +kernel) (by decide +kernel))
theorem fo_c : Cond.code Lib.objectInit ⟨#[0xb1]⟩ 1 none ∈ tt_g := (tt_g1 113 (by decide +kernel) (by decide +kernel))
theorem fo_m : Cond.initialized "java/lang/Math" ∈ tt_g := (tt_g1 103 (by decide +kernel) (by decide +kernel))
theorem fo_maxs : Cond.static Lib.Math.max.name ∈ tt_g := (tt_g1 500 (by decide +kernel) (by decide +kernel))
theorem fo_maxc : Cond.code Lib.Math.max.name Lib.Math.max.code 2 (some .int) ∈ tt_g := (tt_g1 501 (by decide +kernel) (by decide +kernel))
theorem fo_mins : Cond.static Lib.Math.min.name ∈ tt_g := (tt_g1 523 (by decide +kernel) (by decide +kernel))
theorem fo_minc : Cond.code Lib.Math.min.name Lib.Math.min.code 2 (some .int) ∈ tt_g := (tt_g1 524 (by decide +kernel) (by decide +kernel))
theorem fo_abss : Cond.static Lib.Math.abs.name ∈ tt_g := (tt_g1 494 (by decide +kernel) (by decide +kernel))
theorem fo_absc : Cond.code Lib.Math.abs.name Lib.Math.abs.code 1 (some .int) ∈ tt_g := (tt_g1 495 (by decide +kernel) (by decide +kernel))
theorem fo_maxls : Cond.static Lib.MathLoose.max_long.x ∈ tt_g := (tt_g1 737 (by decide +kernel) (by decide +kernel))
theorem fo_maxlc : Cond.code Lib.MathLoose.max_long.x Lib.MathLoose.max_long.code 4 (some .long) ∈ tt_g := (tt_g1 738 (by decide +kernel) (by decide +kernel))
theorem fo_minls : Cond.static Lib.MathLoose.min_long.x ∈ tt_g := (tt_g1 734 (by decide +kernel) (by decide +kernel))
theorem fo_minlc : Cond.code Lib.MathLoose.min_long.x Lib.MathLoose.min_long.code 4 (some .long) ∈ tt_g := (tt_g1 735 (by decide +kernel) (by decide +kernel))
theorem fi_X_1 : Cond.methodLink "CaneRounds" 1 Lib.objectInit ∈ tt_g := (tt_g1 111 (by decide +kernel) (by decide +kernel))
theorem fi_Farms_3 : Cond.methodLink "CaneRounds$Farms" 3 Lib.objectInit ∈ tt_g := (tt_g1 119 (by decide +kernel) (by decide +kernel))
theorem fi_Weather_1 : Cond.methodLink "CaneRounds$Weather" 1 Lib.objectInit ∈ tt_g := (tt_g1 144 (by decide +kernel) (by decide +kernel))
theorem fi_Bundles_3 : Cond.methodLink "CaneRounds$Bundles" 3 Lib.objectInit ∈ tt_g := (tt_g1 157 (by decide +kernel) (by decide +kernel))
theorem fi_Chooser_3 : Cond.methodLink "CaneRounds$Chooser" 3 Lib.objectInit ∈ tt_g := (tt_g1 170 (by decide +kernel) (by decide +kernel))
theorem fi_Tape_1 : Cond.methodLink "CaneRounds$Tape" 1 Lib.objectInit ∈ tt_g := (tt_g1 214 (by decide +kernel) (by decide +kernel))
theorem fi_Formula_5 : Cond.methodLink "CaneRounds$Formula" 5 Lib.objectInit ∈ tt_g := (tt_g1 230 (by decide +kernel) (by decide +kernel))
theorem fi_Field_3 : Cond.methodLink "CaneRounds$Field" 3 Lib.objectInit ∈ tt_g := (tt_g1 353 (by decide +kernel) (by decide +kernel))
theorem fi_Span_1 : Cond.methodLink "CaneRounds$Span" 1 Lib.objectInit ∈ tt_g := (tt_g1 425 (by decide +kernel) (by decide +kernel))
theorem fi_Field_46 : Cond.methodLink "CaneRounds$Field" 46 Lib.Math.abs.name ∈ tt_g := (tt_g1 493 (by decide +kernel) (by decide +kernel))
theorem fi_Field_56 : Cond.methodLink "CaneRounds$Field" 56 Lib.Math.max.name ∈ tt_g := (tt_g1 499 (by decide +kernel) (by decide +kernel))
theorem fi_Field_71 : Cond.methodLink "CaneRounds$Field" 71 Lib.Math.min.name ∈ tt_g := (tt_g1 522 (by decide +kernel) (by decide +kernel))
theorem fi_Load_3 : Cond.methodLink "CaneRounds$Load" 3 Lib.objectInit ∈ tt_g := (tt_g1 538 (by decide +kernel) (by decide +kernel))
theorem fi_X_310 : Cond.methodLink "CaneRounds" 310 Lib.Math.min.name ∈ tt_g := (tt_g1 629 (by decide +kernel) (by decide +kernel))
theorem fi_Batch_1 : Cond.methodLink "CaneRounds$Batch" 1 Lib.objectInit ∈ tt_g := (tt_g1 643 (by decide +kernel) (by decide +kernel))
theorem fi_Formula_24 : Cond.methodLink "CaneRounds$Formula" 24 Lib.Math.min.name ∈ tt_g := (tt_g1 722 (by decide +kernel) (by decide +kernel))
theorem fi_Formula_49 : Cond.methodLink "CaneRounds$Formula" 49 Lib.Math.max.name ∈ tt_g := (tt_g1 723 (by decide +kernel) (by decide +kernel))
theorem fi_Formula_124 : Cond.methodLink "CaneRounds$Formula" 124 Lib.MathLoose.min_long.x ∈ tt_g := (tt_g1 733 (by decide +kernel) (by decide +kernel))
theorem fi_Formula_127 : Cond.methodLink "CaneRounds$Formula" 127 Lib.MathLoose.max_long.x ∈ tt_g := (tt_g1 736 (by decide +kernel) (by decide +kernel))
theorem fi_Chooser_68 : Cond.methodLink "CaneRounds$Chooser" 68 Lib.Math.min.name ∈ tt_g := (tt_g1 847 (by decide +kernel) (by decide +kernel))
theorem fi_M_1 : Cond.methodLink "CaneRoundsModel" 1 Lib.objectInit ∈ tt_g := (tt_g1 900 (by decide +kernel) (by decide +kernel))
theorem fo_int : Cond.arrayClass .int ∈ tt_g := (tt_g1 138 (by decide +kernel) (by decide +kernel))
theorem fo_byte : Cond.arrayClass .byte ∈ tt_g := (tt_g1 224 (by decide +kernel) (by decide +kernel))
theorem fo_boolean : Cond.arrayClass .boolean ∈ tt_g := (tt_g1 1094 (by decide +kernel) (by decide +kernel))
theorem fo_long : Cond.arrayClass .long ∈ tt_g := (tt_g1 137 (by decide +kernel) (by decide +kernel))
theorem fo_over : Cond.arrayOver (.array .int) ∈ tt_g := (tt_g1 172 (by decide +kernel) (by decide +kernel))
end
