section
-- ===== PART A: goes FIRST, ahead of the names: the tables' words, and 'selects' of the private methods out of them =====
/-- a private method of a class that the tables say can be made, by its rows of tables_1 -/
def lw_okq (q : MethodName × Nat) : Prop := (q.1.cls ≠ "java/lang/invoke/MethodHandle" ∧ q.1.cls ≠ "java/lang/invoke/VarHandle") ∧ Cond.instantiable q.1.cls q.2 ∈ tables_1 ∧ Cond.privateMethod q.1 ∈ tables_1 ∧ Cond.instanceMethod q.1 ∈ tables_1
theorem lw_p0 : lw_okq (⟨"CaneRounds$Farms", "add", "()I"⟩, 5) := ⟨⟨by decide +kernel, by decide +kernel⟩, List.mem_of_getElem? (i := 23) (by decide +kernel), List.mem_of_getElem? (i := 245) (by decide +kernel), List.mem_of_getElem? (i := 246) (by decide +kernel)⟩
theorem lw_p1 : lw_okq (⟨"CaneRounds", "fieldCount", "()I"⟩, 19) := ⟨⟨by decide +kernel, by decide +kernel⟩, List.mem_of_getElem? (i := 15) (by decide +kernel), List.mem_of_getElem? (i := 253) (by decide +kernel), List.mem_of_getElem? (i := 254) (by decide +kernel)⟩
theorem lw_p2 : lw_okq (⟨"CaneRounds$Weather", "add", "(ZII)Z"⟩, 2) := ⟨⟨by decide +kernel, by decide +kernel⟩, List.mem_of_getElem? (i := 48) (by decide +kernel), List.mem_of_getElem? (i := 325) (by decide +kernel), List.mem_of_getElem? (i := 326) (by decide +kernel)⟩
theorem lw_p3 : lw_okq (⟨"CaneRounds$Farms", "drawLots", "(I)V"⟩, 5) := ⟨⟨by decide +kernel, by decide +kernel⟩, List.mem_of_getElem? (i := 23) (by decide +kernel), List.mem_of_getElem? (i := 356) (by decide +kernel), List.mem_of_getElem? (i := 357) (by decide +kernel)⟩
theorem lw_p4 : lw_okq (⟨"CaneRounds$Farms", "turn", "()I"⟩, 5) := ⟨⟨by decide +kernel, by decide +kernel⟩, List.mem_of_getElem? (i := 23) (by decide +kernel), List.mem_of_getElem? (i := 361) (by decide +kernel), List.mem_of_getElem? (i := 362) (by decide +kernel)⟩
theorem lw_p5 : lw_okq (⟨"CaneRounds$Farms", "inOrder", "(I)I"⟩, 5) := ⟨⟨by decide +kernel, by decide +kernel⟩, List.mem_of_getElem? (i := 23) (by decide +kernel), List.mem_of_getElem? (i := 365) (by decide +kernel), List.mem_of_getElem? (i := 366) (by decide +kernel)⟩
theorem lw_p6 : lw_okq (⟨"CaneRounds$Farms", "settleTurn", "()V"⟩, 5) := ⟨⟨by decide +kernel, by decide +kernel⟩, List.mem_of_getElem? (i := 23) (by decide +kernel), List.mem_of_getElem? (i := 374) (by decide +kernel), List.mem_of_getElem? (i := 375) (by decide +kernel)⟩
theorem lw_p7 : lw_okq (⟨"CaneRounds", "findField", "(I)LCaneRounds$Field;"⟩, 19) := ⟨⟨by decide +kernel, by decide +kernel⟩, List.mem_of_getElem? (i := 15) (by decide +kernel), List.mem_of_getElem? (i := 382) (by decide +kernel), List.mem_of_getElem? (i := 383) (by decide +kernel)⟩
theorem lw_p8 : lw_okq (⟨"CaneRounds", "freeGangs", "()I"⟩, 19) := ⟨⟨by decide +kernel, by decide +kernel⟩, List.mem_of_getElem? (i := 15) (by decide +kernel), List.mem_of_getElem? (i := 386) (by decide +kernel), List.mem_of_getElem? (i := 387) (by decide +kernel)⟩
theorem lw_p9 : lw_okq (⟨"CaneRounds$Field", "burn", "(I)V"⟩, 15) := ⟨⟨by decide +kernel, by decide +kernel⟩, List.mem_of_getElem? (i := 257) (by decide +kernel), List.mem_of_getElem? (i := 394) (by decide +kernel), List.mem_of_getElem? (i := 395) (by decide +kernel)⟩
theorem lw_p10 : lw_okq (⟨"CaneRounds$Field", "sweetAt", "(I)I"⟩, 15) := ⟨⟨by decide +kernel, by decide +kernel⟩, List.mem_of_getElem? (i := 257) (by decide +kernel), List.mem_of_getElem? (i := 398) (by decide +kernel), List.mem_of_getElem? (i := 399) (by decide +kernel)⟩
theorem lw_p11 : lw_okq (⟨"CaneRounds", "passHour", "()V"⟩, 19) := ⟨⟨by decide +kernel, by decide +kernel⟩, List.mem_of_getElem? (i := 15) (by decide +kernel), List.mem_of_getElem? (i := 415) (by decide +kernel), List.mem_of_getElem? (i := 416) (by decide +kernel)⟩
theorem lw_p12 : lw_okq (⟨"CaneRounds$Weather", "holds", "(ZI)Z"⟩, 2) := ⟨⟨by decide +kernel, by decide +kernel⟩, List.mem_of_getElem? (i := 48) (by decide +kernel), List.mem_of_getElem? (i := 419) (by decide +kernel), List.mem_of_getElem? (i := 420) (by decide +kernel)⟩
theorem lw_p13 : lw_okq (⟨"CaneRounds", "goOnCutting", "()V"⟩, 19) := ⟨⟨by decide +kernel, by decide +kernel⟩, List.mem_of_getElem? (i := 15) (by decide +kernel), List.mem_of_getElem? (i := 423) (by decide +kernel), List.mem_of_getElem? (i := 424) (by decide +kernel)⟩
theorem lw_p14 : lw_okq (⟨"CaneRounds$Field", "goOn", "(I)V"⟩, 15) := ⟨⟨by decide +kernel, by decide +kernel⟩, List.mem_of_getElem? (i := 257) (by decide +kernel), List.mem_of_getElem? (i := 427) (by decide +kernel), List.mem_of_getElem? (i := 428) (by decide +kernel)⟩
theorem lw_p15 : lw_okq (⟨"CaneRounds", "addLoad", "(LCaneRounds$Field;)V"⟩, 19) := ⟨⟨by decide +kernel, by decide +kernel⟩, List.mem_of_getElem? (i := 15) (by decide +kernel), List.mem_of_getElem? (i := 434) (by decide +kernel), List.mem_of_getElem? (i := 435) (by decide +kernel)⟩
def lw_privs_1 : List (MethodName × Nat) := [(⟨"CaneRounds$Farms", "add", "()I"⟩, 5), (⟨"CaneRounds", "fieldCount", "()I"⟩, 19), (⟨"CaneRounds$Weather", "add", "(ZII)Z"⟩, 2), (⟨"CaneRounds$Farms", "drawLots", "(I)V"⟩, 5), (⟨"CaneRounds$Farms", "turn", "()I"⟩, 5), (⟨"CaneRounds$Farms", "inOrder", "(I)I"⟩, 5), (⟨"CaneRounds$Farms", "settleTurn", "()V"⟩, 5), (⟨"CaneRounds", "findField", "(I)LCaneRounds$Field;"⟩, 19), (⟨"CaneRounds", "freeGangs", "()I"⟩, 19), (⟨"CaneRounds$Field", "burn", "(I)V"⟩, 15), (⟨"CaneRounds$Field", "sweetAt", "(I)I"⟩, 15), (⟨"CaneRounds", "passHour", "()V"⟩, 19), (⟨"CaneRounds$Weather", "holds", "(ZI)Z"⟩, 2), (⟨"CaneRounds", "goOnCutting", "()V"⟩, 19), (⟨"CaneRounds$Field", "goOn", "(I)V"⟩, 15), (⟨"CaneRounds", "addLoad", "(LCaneRounds$Field;)V"⟩, 19)]
theorem lw_r1 : ∀ q ∈ lw_privs_1, lw_okq q := List.forall_mem_cons.mpr ⟨lw_p0, List.forall_mem_cons.mpr ⟨lw_p1, List.forall_mem_cons.mpr ⟨lw_p2, List.forall_mem_cons.mpr ⟨lw_p3, List.forall_mem_cons.mpr ⟨lw_p4, List.forall_mem_cons.mpr ⟨lw_p5, List.forall_mem_cons.mpr ⟨lw_p6, List.forall_mem_cons.mpr ⟨lw_p7, List.forall_mem_cons.mpr ⟨lw_p8, List.forall_mem_cons.mpr ⟨lw_p9, List.forall_mem_cons.mpr ⟨lw_p10, List.forall_mem_cons.mpr ⟨lw_p11, List.forall_mem_cons.mpr ⟨lw_p12, List.forall_mem_cons.mpr ⟨lw_p13, List.forall_mem_cons.mpr ⟨lw_p14, List.forall_mem_cons.mpr ⟨lw_p15, fun _ h => absurd h List.not_mem_nil⟩⟩⟩⟩⟩⟩⟩⟩⟩⟩⟩⟩⟩⟩⟩⟩
theorem lw_p16 : lw_okq (⟨"CaneRounds", "loadCount", "()I"⟩, 19) := ⟨⟨by decide +kernel, by decide +kernel⟩, List.mem_of_getElem? (i := 15) (by decide +kernel), List.mem_of_getElem? (i := 440) (by decide +kernel), List.mem_of_getElem? (i := 441) (by decide +kernel)⟩
theorem lw_p17 : lw_okq (⟨"CaneRounds$Field", "hoursToDeath", "()I"⟩, 15) := ⟨⟨by decide +kernel, by decide +kernel⟩, List.mem_of_getElem? (i := 257) (by decide +kernel), List.mem_of_getElem? (i := 450) (by decide +kernel), List.mem_of_getElem? (i := 451) (by decide +kernel)⟩
theorem lw_p18 : lw_okq (⟨"CaneRounds", "sendTrucks", "()V"⟩, 19) := ⟨⟨by decide +kernel, by decide +kernel⟩, List.mem_of_getElem? (i := 15) (by decide +kernel), List.mem_of_getElem? (i := 502) (by decide +kernel), List.mem_of_getElem? (i := 503) (by decide +kernel)⟩
theorem lw_p19 : lw_okq (⟨"CaneRounds", "freeTrucks", "()I"⟩, 19) := ⟨⟨by decide +kernel, by decide +kernel⟩, List.mem_of_getElem? (i := 15) (by decide +kernel), List.mem_of_getElem? (i := 506) (by decide +kernel), List.mem_of_getElem? (i := 507) (by decide +kernel)⟩
theorem lw_p20 : lw_okq (⟨"CaneRounds$Load", "isOver", "()Z"⟩, 12) := ⟨⟨by decide +kernel, by decide +kernel⟩, List.mem_of_getElem? (i := 438) (by decide +kernel), List.mem_of_getElem? (i := 510) (by decide +kernel), List.mem_of_getElem? (i := 511) (by decide +kernel)⟩
theorem lw_p21 : lw_okq (⟨"CaneRounds$Load", "leave", "(I)V"⟩, 12) := ⟨⟨by decide +kernel, by decide +kernel⟩, List.mem_of_getElem? (i := 438) (by decide +kernel), List.mem_of_getElem? (i := 514) (by decide +kernel), List.mem_of_getElem? (i := 515) (by decide +kernel)⟩
theorem lw_p22 : lw_okq (⟨"CaneRounds$Field", "hoursToMill", "()I"⟩, 15) := ⟨⟨by decide +kernel, by decide +kernel⟩, List.mem_of_getElem? (i := 257) (by decide +kernel), List.mem_of_getElem? (i := 518) (by decide +kernel), List.mem_of_getElem? (i := 519) (by decide +kernel)⟩
theorem lw_p23 : lw_okq (⟨"CaneRounds", "crushLoads", "()V"⟩, 19) := ⟨⟨by decide +kernel, by decide +kernel⟩, List.mem_of_getElem? (i := 15) (by decide +kernel), List.mem_of_getElem? (i := 522) (by decide +kernel), List.mem_of_getElem? (i := 523) (by decide +kernel)⟩
theorem lw_p24 : lw_okq (⟨"CaneRounds", "nextToCrush", "()LCaneRounds$Load;"⟩, 19) := ⟨⟨by decide +kernel, by decide +kernel⟩, List.mem_of_getElem? (i := 15) (by decide +kernel), List.mem_of_getElem? (i := 526) (by decide +kernel), List.mem_of_getElem? (i := 527) (by decide +kernel)⟩
theorem lw_p25 : lw_okq (⟨"CaneRounds$Load", "isAtMill", "(I)Z"⟩, 12) := ⟨⟨by decide +kernel, by decide +kernel⟩, List.mem_of_getElem? (i := 438) (by decide +kernel), List.mem_of_getElem? (i := 530) (by decide +kernel), List.mem_of_getElem? (i := 531) (by decide +kernel)⟩
theorem lw_p26 : lw_okq (⟨"CaneRounds$Load", "tonsLeft", "()I"⟩, 12) := ⟨⟨by decide +kernel, by decide +kernel⟩, List.mem_of_getElem? (i := 438) (by decide +kernel), List.mem_of_getElem? (i := 534) (by decide +kernel), List.mem_of_getElem? (i := 535) (by decide +kernel)⟩
theorem lw_p27 : lw_okq (⟨"CaneRounds$Bundles", "add", "(II)V"⟩, 2) := ⟨⟨by decide +kernel, by decide +kernel⟩, List.mem_of_getElem? (i := 61) (by decide +kernel), List.mem_of_getElem? (i := 539) (by decide +kernel), List.mem_of_getElem? (i := 540) (by decide +kernel)⟩
theorem lw_p28 : lw_okq (⟨"CaneRounds$Bundles", "count", "()I"⟩, 2) := ⟨⟨by decide +kernel, by decide +kernel⟩, List.mem_of_getElem? (i := 61) (by decide +kernel), List.mem_of_getElem? (i := 543) (by decide +kernel), List.mem_of_getElem? (i := 544) (by decide +kernel)⟩
theorem lw_p29 : lw_okq (⟨"CaneRounds", "endLoads", "()V"⟩, 19) := ⟨⟨by decide +kernel, by decide +kernel⟩, List.mem_of_getElem? (i := 15) (by decide +kernel), List.mem_of_getElem? (i := 565) (by decide +kernel), List.mem_of_getElem? (i := 566) (by decide +kernel)⟩
theorem lw_p30 : lw_okq (⟨"CaneRounds", "endFires", "()V"⟩, 19) := ⟨⟨by decide +kernel, by decide +kernel⟩, List.mem_of_getElem? (i := 15) (by decide +kernel), List.mem_of_getElem? (i := 569) (by decide +kernel), List.mem_of_getElem? (i := 570) (by decide +kernel)⟩
theorem lw_p31 : lw_okq (⟨"CaneRounds", "payDay", "()V"⟩, 19) := ⟨⟨by decide +kernel, by decide +kernel⟩, List.mem_of_getElem? (i := 15) (by decide +kernel), List.mem_of_getElem? (i := 573) (by decide +kernel), List.mem_of_getElem? (i := 574) (by decide +kernel)⟩
def lw_privs_2 : List (MethodName × Nat) := [(⟨"CaneRounds", "loadCount", "()I"⟩, 19), (⟨"CaneRounds$Field", "hoursToDeath", "()I"⟩, 15), (⟨"CaneRounds", "sendTrucks", "()V"⟩, 19), (⟨"CaneRounds", "freeTrucks", "()I"⟩, 19), (⟨"CaneRounds$Load", "isOver", "()Z"⟩, 12), (⟨"CaneRounds$Load", "leave", "(I)V"⟩, 12), (⟨"CaneRounds$Field", "hoursToMill", "()I"⟩, 15), (⟨"CaneRounds", "crushLoads", "()V"⟩, 19), (⟨"CaneRounds", "nextToCrush", "()LCaneRounds$Load;"⟩, 19), (⟨"CaneRounds$Load", "isAtMill", "(I)Z"⟩, 12), (⟨"CaneRounds$Load", "tonsLeft", "()I"⟩, 12), (⟨"CaneRounds$Bundles", "add", "(II)V"⟩, 2), (⟨"CaneRounds$Bundles", "count", "()I"⟩, 2), (⟨"CaneRounds", "endLoads", "()V"⟩, 19), (⟨"CaneRounds", "endFires", "()V"⟩, 19), (⟨"CaneRounds", "payDay", "()V"⟩, 19)]
theorem lw_r2 : ∀ q ∈ lw_privs_2, lw_okq q := List.forall_mem_cons.mpr ⟨lw_p16, List.forall_mem_cons.mpr ⟨lw_p17, List.forall_mem_cons.mpr ⟨lw_p18, List.forall_mem_cons.mpr ⟨lw_p19, List.forall_mem_cons.mpr ⟨lw_p20, List.forall_mem_cons.mpr ⟨lw_p21, List.forall_mem_cons.mpr ⟨lw_p22, List.forall_mem_cons.mpr ⟨lw_p23, List.forall_mem_cons.mpr ⟨lw_p24, List.forall_mem_cons.mpr ⟨lw_p25, List.forall_mem_cons.mpr ⟨lw_p26, List.forall_mem_cons.mpr ⟨lw_p27, List.forall_mem_cons.mpr ⟨lw_p28, List.forall_mem_cons.mpr ⟨lw_p29, List.forall_mem_cons.mpr ⟨lw_p30, List.forall_mem_cons.mpr ⟨lw_p31, fun _ h => absurd h List.not_mem_nil⟩⟩⟩⟩⟩⟩⟩⟩⟩⟩⟩⟩⟩⟩⟩⟩
theorem lw_p32 : lw_okq (⟨"CaneRounds", "meanOfDay", "()I"⟩, 19) := ⟨⟨by decide +kernel, by decide +kernel⟩, List.mem_of_getElem? (i := 15) (by decide +kernel), List.mem_of_getElem? (i := 577) (by decide +kernel), List.mem_of_getElem? (i := 578) (by decide +kernel)⟩
theorem lw_p33 : lw_okq (⟨"CaneRounds$Load", "isToBePaid", "()Z"⟩, 12) := ⟨⟨by decide +kernel, by decide +kernel⟩, List.mem_of_getElem? (i := 438) (by decide +kernel), List.mem_of_getElem? (i := 581) (by decide +kernel), List.mem_of_getElem? (i := 582) (by decide +kernel)⟩
theorem lw_p34 : lw_okq (⟨"CaneRounds$Formula", "tell", "(IIIII)I"⟩, 11) := ⟨⟨by decide +kernel, by decide +kernel⟩, List.mem_of_getElem? (i := 134) (by decide +kernel), List.mem_of_getElem? (i := 587) (by decide +kernel), List.mem_of_getElem? (i := 588) (by decide +kernel)⟩
theorem lw_p35 : lw_okq (⟨"CaneRounds$Formula", "sum", "(I)I"⟩, 11) := ⟨⟨by decide +kernel, by decide +kernel⟩, List.mem_of_getElem? (i := 134) (by decide +kernel), List.mem_of_getElem? (i := 591) (by decide +kernel), List.mem_of_getElem? (i := 592) (by decide +kernel)⟩
theorem lw_p36 : lw_okq (⟨"CaneRounds$Formula", "product", "(I)I"⟩, 11) := ⟨⟨by decide +kernel, by decide +kernel⟩, List.mem_of_getElem? (i := 134) (by decide +kernel), List.mem_of_getElem? (i := 595) (by decide +kernel), List.mem_of_getElem? (i := 596) (by decide +kernel)⟩
theorem lw_p37 : lw_okq (⟨"CaneRounds$Formula", "one", "(I)I"⟩, 11) := ⟨⟨by decide +kernel, by decide +kernel⟩, List.mem_of_getElem? (i := 134) (by decide +kernel), List.mem_of_getElem? (i := 599) (by decide +kernel), List.mem_of_getElem? (i := 600) (by decide +kernel)⟩
theorem lw_p38 : lw_okq (⟨"CaneRounds$Formula", "token", "()I"⟩, 11) := ⟨⟨by decide +kernel, by decide +kernel⟩, List.mem_of_getElem? (i := 134) (by decide +kernel), List.mem_of_getElem? (i := 603) (by decide +kernel), List.mem_of_getElem? (i := 604) (by decide +kernel)⟩
theorem lw_p39 : lw_okq (⟨"CaneRounds$Formula", "number", "(I)I"⟩, 11) := ⟨⟨by decide +kernel, by decide +kernel⟩, List.mem_of_getElem? (i := 134) (by decide +kernel), List.mem_of_getElem? (i := 607) (by decide +kernel), List.mem_of_getElem? (i := 608) (by decide +kernel)⟩
theorem lw_p40 : lw_okq (⟨"CaneRounds$Formula", "stop", "(I)V"⟩, 11) := ⟨⟨by decide +kernel, by decide +kernel⟩, List.mem_of_getElem? (i := 134) (by decide +kernel), List.mem_of_getElem? (i := 611) (by decide +kernel), List.mem_of_getElem? (i := 612) (by decide +kernel)⟩
theorem lw_p41 : lw_okq (⟨"CaneRounds$Formula", "opens", "(II)Z"⟩, 11) := ⟨⟨by decide +kernel, by decide +kernel⟩, List.mem_of_getElem? (i := 134) (by decide +kernel), List.mem_of_getElem? (i := 615) (by decide +kernel), List.mem_of_getElem? (i := 616) (by decide +kernel)⟩
theorem lw_p42 : lw_okq (⟨"CaneRounds$Formula", "bracket", "(I)I"⟩, 11) := ⟨⟨by decide +kernel, by decide +kernel⟩, List.mem_of_getElem? (i := 134) (by decide +kernel), List.mem_of_getElem? (i := 619) (by decide +kernel), List.mem_of_getElem? (i := 620) (by decide +kernel)⟩
theorem lw_p43 : lw_okq (⟨"CaneRounds$Formula", "take", "(I)V"⟩, 11) := ⟨⟨by decide +kernel, by decide +kernel⟩, List.mem_of_getElem? (i := 134) (by decide +kernel), List.mem_of_getElem? (i := 623) (by decide +kernel), List.mem_of_getElem? (i := 624) (by decide +kernel)⟩
theorem lw_p44 : lw_okq (⟨"CaneRounds$Formula", "lesserOrGreater", "(ZI)I"⟩, 11) := ⟨⟨by decide +kernel, by decide +kernel⟩, List.mem_of_getElem? (i := 134) (by decide +kernel), List.mem_of_getElem? (i := 627) (by decide +kernel), List.mem_of_getElem? (i := 628) (by decide +kernel)⟩
theorem lw_p45 : lw_okq (⟨"CaneRounds$Formula", "letter", "(I)I"⟩, 11) := ⟨⟨by decide +kernel, by decide +kernel⟩, List.mem_of_getElem? (i := 134) (by decide +kernel), List.mem_of_getElem? (i := 633) (by decide +kernel), List.mem_of_getElem? (i := 634) (by decide +kernel)⟩
theorem lw_p46 : lw_okq (⟨"CaneRounds$Farms", "give", "(II)V"⟩, 5) := ⟨⟨by decide +kernel, by decide +kernel⟩, List.mem_of_getElem? (i := 23) (by decide +kernel), List.mem_of_getElem? (i := 649) (by decide +kernel), List.mem_of_getElem? (i := 650) (by decide +kernel)⟩
theorem lw_p47 : lw_okq (⟨"CaneRounds$Tape", "append", "(I)V"⟩, 2) := ⟨⟨by decide +kernel, by decide +kernel⟩, List.mem_of_getElem? (i := 118) (by decide +kernel), List.mem_of_getElem? (i := 657) (by decide +kernel), List.mem_of_getElem? (i := 658) (by decide +kernel)⟩
def lw_privs_3 : List (MethodName × Nat) := [(⟨"CaneRounds", "meanOfDay", "()I"⟩, 19), (⟨"CaneRounds$Load", "isToBePaid", "()Z"⟩, 12), (⟨"CaneRounds$Formula", "tell", "(IIIII)I"⟩, 11), (⟨"CaneRounds$Formula", "sum", "(I)I"⟩, 11), (⟨"CaneRounds$Formula", "product", "(I)I"⟩, 11), (⟨"CaneRounds$Formula", "one", "(I)I"⟩, 11), (⟨"CaneRounds$Formula", "token", "()I"⟩, 11), (⟨"CaneRounds$Formula", "number", "(I)I"⟩, 11), (⟨"CaneRounds$Formula", "stop", "(I)V"⟩, 11), (⟨"CaneRounds$Formula", "opens", "(II)Z"⟩, 11), (⟨"CaneRounds$Formula", "bracket", "(I)I"⟩, 11), (⟨"CaneRounds$Formula", "take", "(I)V"⟩, 11), (⟨"CaneRounds$Formula", "lesserOrGreater", "(ZI)I"⟩, 11), (⟨"CaneRounds$Formula", "letter", "(I)I"⟩, 11), (⟨"CaneRounds$Farms", "give", "(II)V"⟩, 5), (⟨"CaneRounds$Tape", "append", "(I)V"⟩, 2)]
theorem lw_r3 : ∀ q ∈ lw_privs_3, lw_okq q := List.forall_mem_cons.mpr ⟨lw_p32, List.forall_mem_cons.mpr ⟨lw_p33, List.forall_mem_cons.mpr ⟨lw_p34, List.forall_mem_cons.mpr ⟨lw_p35, List.forall_mem_cons.mpr ⟨lw_p36, List.forall_mem_cons.mpr ⟨lw_p37, List.forall_mem_cons.mpr ⟨lw_p38, List.forall_mem_cons.mpr ⟨lw_p39, List.forall_mem_cons.mpr ⟨lw_p40, List.forall_mem_cons.mpr ⟨lw_p41, List.forall_mem_cons.mpr ⟨lw_p42, List.forall_mem_cons.mpr ⟨lw_p43, List.forall_mem_cons.mpr ⟨lw_p44, List.forall_mem_cons.mpr ⟨lw_p45, List.forall_mem_cons.mpr ⟨lw_p46, List.forall_mem_cons.mpr ⟨lw_p47, fun _ h => absurd h List.not_mem_nil⟩⟩⟩⟩⟩⟩⟩⟩⟩⟩⟩⟩⟩⟩⟩⟩
theorem lw_p48 : lw_okq (⟨"CaneRounds$Formula", "split", "([BI)V"⟩, 11) := ⟨⟨by decide +kernel, by decide +kernel⟩, List.mem_of_getElem? (i := 134) (by decide +kernel), List.mem_of_getElem? (i := 669) (by decide +kernel), List.mem_of_getElem? (i := 670) (by decide +kernel)⟩
theorem lw_p49 : lw_okq (⟨"CaneRounds$Formula", "put", "(II)V"⟩, 11) := ⟨⟨by decide +kernel, by decide +kernel⟩, List.mem_of_getElem? (i := 134) (by decide +kernel), List.mem_of_getElem? (i := 680) (by decide +kernel), List.mem_of_getElem? (i := 681) (by decide +kernel)⟩
theorem lw_p50 : lw_okq (⟨"CaneRounds", "findLoad", "(I)LCaneRounds$Load;"⟩, 19) := ⟨⟨by decide +kernel, by decide +kernel⟩, List.mem_of_getElem? (i := 15) (by decide +kernel), List.mem_of_getElem? (i := 714) (by decide +kernel), List.mem_of_getElem? (i := 715) (by decide +kernel)⟩
theorem lw_p51 : lw_okq (⟨"CaneRounds$Bundles", "fieldOfTon", "(I)I"⟩, 2) := ⟨⟨by decide +kernel, by decide +kernel⟩, List.mem_of_getElem? (i := 61) (by decide +kernel), List.mem_of_getElem? (i := 722) (by decide +kernel), List.mem_of_getElem? (i := 723) (by decide +kernel)⟩
theorem lw_p52 : lw_okq (⟨"CaneRounds", "choose", "(II)Z"⟩, 19) := ⟨⟨by decide +kernel, by decide +kernel⟩, List.mem_of_getElem? (i := 15) (by decide +kernel), List.mem_of_getElem? (i := 730) (by decide +kernel), List.mem_of_getElem? (i := 731) (by decide +kernel)⟩
theorem lw_p53 : lw_okq (⟨"CaneRounds", "standingFields", "()I"⟩, 19) := ⟨⟨by decide +kernel, by decide +kernel⟩, List.mem_of_getElem? (i := 15) (by decide +kernel), List.mem_of_getElem? (i := 734) (by decide +kernel), List.mem_of_getElem? (i := 735) (by decide +kernel)⟩
theorem lw_p54 : lw_okq (⟨"CaneRounds$Chooser", "clear", "(I)V"⟩, 11) := ⟨⟨by decide +kernel, by decide +kernel⟩, List.mem_of_getElem? (i := 74) (by decide +kernel), List.mem_of_getElem? (i := 738) (by decide +kernel), List.mem_of_getElem? (i := 739) (by decide +kernel)⟩
theorem lw_p55 : lw_okq (⟨"CaneRounds$Chooser", "offer", "(LCaneRounds$Field;I)V"⟩, 11) := ⟨⟨by decide +kernel, by decide +kernel⟩, List.mem_of_getElem? (i := 74) (by decide +kernel), List.mem_of_getElem? (i := 745) (by decide +kernel), List.mem_of_getElem? (i := 746) (by decide +kernel)⟩
theorem lw_p56 : lw_okq (⟨"CaneRounds$Chooser", "decide", "(I)V"⟩, 11) := ⟨⟨by decide +kernel, by decide +kernel⟩, List.mem_of_getElem? (i := 74) (by decide +kernel), List.mem_of_getElem? (i := 757) (by decide +kernel), List.mem_of_getElem? (i := 758) (by decide +kernel)⟩
theorem lw_p57 : lw_okq (⟨"CaneRounds$Chooser", "sumDearest", "(I)V"⟩, 11) := ⟨⟨by decide +kernel, by decide +kernel⟩, List.mem_of_getElem? (i := 74) (by decide +kernel), List.mem_of_getElem? (i := 761) (by decide +kernel), List.mem_of_getElem? (i := 762) (by decide +kernel)⟩
theorem lw_p58 : lw_okq (⟨"CaneRounds$Chooser", "worthOfDearestThatFit", "(I)I"⟩, 11) := ⟨⟨by decide +kernel, by decide +kernel⟩, List.mem_of_getElem? (i := 74) (by decide +kernel), List.mem_of_getElem? (i := 765) (by decide +kernel), List.mem_of_getElem? (i := 766) (by decide +kernel)⟩
theorem lw_p59 : lw_okq (⟨"CaneRounds$Chooser", "fits", "(II)Z"⟩, 11) := ⟨⟨by decide +kernel, by decide +kernel⟩, List.mem_of_getElem? (i := 74) (by decide +kernel), List.mem_of_getElem? (i := 769) (by decide +kernel), List.mem_of_getElem? (i := 770) (by decide +kernel)⟩
theorem lw_p60 : lw_okq (⟨"CaneRounds$Chooser", "fitsFrom", "(II)Z"⟩, 11) := ⟨⟨by decide +kernel, by decide +kernel⟩, List.mem_of_getElem? (i := 74) (by decide +kernel), List.mem_of_getElem? (i := 774) (by decide +kernel), List.mem_of_getElem? (i := 775) (by decide +kernel)⟩
theorem lw_p61 : lw_okq (⟨"CaneRounds$Chooser", "search", "(IIII)V"⟩, 11) := ⟨⟨by decide +kernel, by decide +kernel⟩, List.mem_of_getElem? (i := 74) (by decide +kernel), List.mem_of_getElem? (i := 778) (by decide +kernel), List.mem_of_getElem? (i := 779) (by decide +kernel)⟩
theorem lw_p62 : lw_okq (⟨"CaneRounds$Farms", "earnedBy", "(I)J"⟩, 5) := ⟨⟨by decide +kernel, by decide +kernel⟩, List.mem_of_getElem? (i := 23) (by decide +kernel), List.mem_of_getElem? (i := 790) (by decide +kernel), List.mem_of_getElem? (i := 791) (by decide +kernel)⟩
theorem lw_p63 : lw_okq (⟨"CaneRounds", "tonsLost", "()I"⟩, 19) := ⟨⟨by decide +kernel, by decide +kernel⟩, List.mem_of_getElem? (i := 15) (by decide +kernel), List.mem_of_getElem? (i := 799) (by decide +kernel), List.mem_of_getElem? (i := 800) (by decide +kernel)⟩
def lw_privs_4 : List (MethodName × Nat) := [(⟨"CaneRounds$Formula", "split", "([BI)V"⟩, 11), (⟨"CaneRounds$Formula", "put", "(II)V"⟩, 11), (⟨"CaneRounds", "findLoad", "(I)LCaneRounds$Load;"⟩, 19), (⟨"CaneRounds$Bundles", "fieldOfTon", "(I)I"⟩, 2), (⟨"CaneRounds", "choose", "(II)Z"⟩, 19), (⟨"CaneRounds", "standingFields", "()I"⟩, 19), (⟨"CaneRounds$Chooser", "clear", "(I)V"⟩, 11), (⟨"CaneRounds$Chooser", "offer", "(LCaneRounds$Field;I)V"⟩, 11), (⟨"CaneRounds$Chooser", "decide", "(I)V"⟩, 11), (⟨"CaneRounds$Chooser", "sumDearest", "(I)V"⟩, 11), (⟨"CaneRounds$Chooser", "worthOfDearestThatFit", "(I)I"⟩, 11), (⟨"CaneRounds$Chooser", "fits", "(II)Z"⟩, 11), (⟨"CaneRounds$Chooser", "fitsFrom", "(II)Z"⟩, 11), (⟨"CaneRounds$Chooser", "search", "(IIII)V"⟩, 11), (⟨"CaneRounds$Farms", "earnedBy", "(I)J"⟩, 5), (⟨"CaneRounds", "tonsLost", "()I"⟩, 19)]
theorem lw_r4 : ∀ q ∈ lw_privs_4, lw_okq q := List.forall_mem_cons.mpr ⟨lw_p48, List.forall_mem_cons.mpr ⟨lw_p49, List.forall_mem_cons.mpr ⟨lw_p50, List.forall_mem_cons.mpr ⟨lw_p51, List.forall_mem_cons.mpr ⟨lw_p52, List.forall_mem_cons.mpr ⟨lw_p53, List.forall_mem_cons.mpr ⟨lw_p54, List.forall_mem_cons.mpr ⟨lw_p55, List.forall_mem_cons.mpr ⟨lw_p56, List.forall_mem_cons.mpr ⟨lw_p57, List.forall_mem_cons.mpr ⟨lw_p58, List.forall_mem_cons.mpr ⟨lw_p59, List.forall_mem_cons.mpr ⟨lw_p60, List.forall_mem_cons.mpr ⟨lw_p61, List.forall_mem_cons.mpr ⟨lw_p62, List.forall_mem_cons.mpr ⟨lw_p63, fun _ h => absurd h List.not_mem_nil⟩⟩⟩⟩⟩⟩⟩⟩⟩⟩⟩⟩⟩⟩⟩⟩
theorem lw_p64 : lw_okq (⟨"CaneRoundsModel", "isHour", "()Z"⟩, 64) := ⟨⟨by decide +kernel, by decide +kernel⟩, List.mem_of_getElem? (i := 804) (by decide +kernel), List.mem_of_getElem? (i := 1011) (by decide +kernel), List.mem_of_getElem? (i := 1012) (by decide +kernel)⟩
theorem lw_p65 : lw_okq (⟨"CaneRoundsModel", "turn", "()I"⟩, 64) := ⟨⟨by decide +kernel, by decide +kernel⟩, List.mem_of_getElem? (i := 804) (by decide +kernel), List.mem_of_getElem? (i := 1032) (by decide +kernel), List.mem_of_getElem? (i := 1033) (by decide +kernel)⟩
theorem lw_p66 : lw_okq (⟨"CaneRoundsModel", "isField", "(I)Z"⟩, 64) := ⟨⟨by decide +kernel, by decide +kernel⟩, List.mem_of_getElem? (i := 804) (by decide +kernel), List.mem_of_getElem? (i := 1044) (by decide +kernel), List.mem_of_getElem? (i := 1045) (by decide +kernel)⟩
theorem lw_p67 : lw_okq (⟨"CaneRoundsModel", "freeGangs", "()I"⟩, 64) := ⟨⟨by decide +kernel, by decide +kernel⟩, List.mem_of_getElem? (i := 804) (by decide +kernel), List.mem_of_getElem? (i := 1048) (by decide +kernel), List.mem_of_getElem? (i := 1049) (by decide +kernel)⟩
theorem lw_p68 : lw_okq (⟨"CaneRoundsModel", "sweetAt", "(II)I"⟩, 64) := ⟨⟨by decide +kernel, by decide +kernel⟩, List.mem_of_getElem? (i := 804) (by decide +kernel), List.mem_of_getElem? (i := 1056) (by decide +kernel), List.mem_of_getElem? (i := 1057) (by decide +kernel)⟩
theorem lw_p69 : lw_okq (⟨"CaneRoundsModel", "hour", "()V"⟩, 64) := ⟨⟨by decide +kernel, by decide +kernel⟩, List.mem_of_getElem? (i := 804) (by decide +kernel), List.mem_of_getElem? (i := 1064) (by decide +kernel), List.mem_of_getElem? (i := 1065) (by decide +kernel)⟩
theorem lw_p70 : lw_okq (⟨"CaneRoundsModel", "isHindered", "(ZI)Z"⟩, 64) := ⟨⟨by decide +kernel, by decide +kernel⟩, List.mem_of_getElem? (i := 804) (by decide +kernel), List.mem_of_getElem? (i := 1068) (by decide +kernel), List.mem_of_getElem? (i := 1069) (by decide +kernel)⟩
theorem lw_p71 : lw_okq (⟨"CaneRoundsModel", "cutOn", "(I)V"⟩, 64) := ⟨⟨by decide +kernel, by decide +kernel⟩, List.mem_of_getElem? (i := 804) (by decide +kernel), List.mem_of_getElem? (i := 1072) (by decide +kernel), List.mem_of_getElem? (i := 1073) (by decide +kernel)⟩
theorem lw_p72 : lw_okq (⟨"CaneRoundsModel", "send", "(I)V"⟩, 64) := ⟨⟨by decide +kernel, by decide +kernel⟩, List.mem_of_getElem? (i := 804) (by decide +kernel), List.mem_of_getElem? (i := 1077) (by decide +kernel), List.mem_of_getElem? (i := 1078) (by decide +kernel)⟩
theorem lw_p73 : lw_okq (⟨"CaneRoundsModel", "mill", "()V"⟩, 64) := ⟨⟨by decide +kernel, by decide +kernel⟩, List.mem_of_getElem? (i := 804) (by decide +kernel), List.mem_of_getElem? (i := 1084) (by decide +kernel), List.mem_of_getElem? (i := 1085) (by decide +kernel)⟩
theorem lw_p74 : lw_okq (⟨"CaneRoundsModel", "firstToDie", "()I"⟩, 64) := ⟨⟨by decide +kernel, by decide +kernel⟩, List.mem_of_getElem? (i := 804) (by decide +kernel), List.mem_of_getElem? (i := 1088) (by decide +kernel), List.mem_of_getElem? (i := 1089) (by decide +kernel)⟩
theorem lw_p75 : lw_okq (⟨"CaneRoundsModel", "left", "(I)I"⟩, 64) := ⟨⟨by decide +kernel, by decide +kernel⟩, List.mem_of_getElem? (i := 804) (by decide +kernel), List.mem_of_getElem? (i := 1092) (by decide +kernel), List.mem_of_getElem? (i := 1093) (by decide +kernel)⟩
theorem lw_p76 : lw_okq (⟨"CaneRoundsModel", "payDay", "()V"⟩, 64) := ⟨⟨by decide +kernel, by decide +kernel⟩, List.mem_of_getElem? (i := 804) (by decide +kernel), List.mem_of_getElem? (i := 1096) (by decide +kernel), List.mem_of_getElem? (i := 1097) (by decide +kernel)⟩
theorem lw_p77 : lw_okq (⟨"CaneRoundsModel", "work", "(IIIII)I"⟩, 64) := ⟨⟨by decide +kernel, by decide +kernel⟩, List.mem_of_getElem? (i := 804) (by decide +kernel), List.mem_of_getElem? (i := 1100) (by decide +kernel), List.mem_of_getElem? (i := 1101) (by decide +kernel)⟩
theorem lw_p78 : lw_okq (⟨"CaneRoundsModel", "four", "(I)V"⟩, 64) := ⟨⟨by decide +kernel, by decide +kernel⟩, List.mem_of_getElem? (i := 804) (by decide +kernel), List.mem_of_getElem? (i := 1116) (by decide +kernel), List.mem_of_getElem? (i := 1117) (by decide +kernel)⟩
theorem lw_p79 : lw_okq (⟨"CaneRoundsModel", "readText", "()I"⟩, 64) := ⟨⟨by decide +kernel, by decide +kernel⟩, List.mem_of_getElem? (i := 804) (by decide +kernel), List.mem_of_getElem? (i := 1128) (by decide +kernel), List.mem_of_getElem? (i := 1129) (by decide +kernel)⟩
def lw_privs_5 : List (MethodName × Nat) := [(⟨"CaneRoundsModel", "isHour", "()Z"⟩, 64), (⟨"CaneRoundsModel", "turn", "()I"⟩, 64), (⟨"CaneRoundsModel", "isField", "(I)Z"⟩, 64), (⟨"CaneRoundsModel", "freeGangs", "()I"⟩, 64), (⟨"CaneRoundsModel", "sweetAt", "(II)I"⟩, 64), (⟨"CaneRoundsModel", "hour", "()V"⟩, 64), (⟨"CaneRoundsModel", "isHindered", "(ZI)Z"⟩, 64), (⟨"CaneRoundsModel", "cutOn", "(I)V"⟩, 64), (⟨"CaneRoundsModel", "send", "(I)V"⟩, 64), (⟨"CaneRoundsModel", "mill", "()V"⟩, 64), (⟨"CaneRoundsModel", "firstToDie", "()I"⟩, 64), (⟨"CaneRoundsModel", "left", "(I)I"⟩, 64), (⟨"CaneRoundsModel", "payDay", "()V"⟩, 64), (⟨"CaneRoundsModel", "work", "(IIIII)I"⟩, 64), (⟨"CaneRoundsModel", "four", "(I)V"⟩, 64), (⟨"CaneRoundsModel", "readText", "()I"⟩, 64)]
theorem lw_r5 : ∀ q ∈ lw_privs_5, lw_okq q := List.forall_mem_cons.mpr ⟨lw_p64, List.forall_mem_cons.mpr ⟨lw_p65, List.forall_mem_cons.mpr ⟨lw_p66, List.forall_mem_cons.mpr ⟨lw_p67, List.forall_mem_cons.mpr ⟨lw_p68, List.forall_mem_cons.mpr ⟨lw_p69, List.forall_mem_cons.mpr ⟨lw_p70, List.forall_mem_cons.mpr ⟨lw_p71, List.forall_mem_cons.mpr ⟨lw_p72, List.forall_mem_cons.mpr ⟨lw_p73, List.forall_mem_cons.mpr ⟨lw_p74, List.forall_mem_cons.mpr ⟨lw_p75, List.forall_mem_cons.mpr ⟨lw_p76, List.forall_mem_cons.mpr ⟨lw_p77, List.forall_mem_cons.mpr ⟨lw_p78, List.forall_mem_cons.mpr ⟨lw_p79, fun _ h => absurd h List.not_mem_nil⟩⟩⟩⟩⟩⟩⟩⟩⟩⟩⟩⟩⟩⟩⟩⟩
theorem lw_p80 : lw_okq (⟨"CaneRoundsModel", "nextToken", "()V"⟩, 64) := ⟨⟨by decide +kernel, by decide +kernel⟩, List.mem_of_getElem? (i := 804) (by decide +kernel), List.mem_of_getElem? (i := 1132) (by decide +kernel), List.mem_of_getElem? (i := 1133) (by decide +kernel)⟩
theorem lw_p81 : lw_okq (⟨"CaneRoundsModel", "see", "(I)I"⟩, 64) := ⟨⟨by decide +kernel, by decide +kernel⟩, List.mem_of_getElem? (i := 804) (by decide +kernel), List.mem_of_getElem? (i := 1136) (by decide +kernel), List.mem_of_getElem? (i := 1137) (by decide +kernel)⟩
theorem lw_p82 : lw_okq (⟨"CaneRoundsModel", "behind", "()I"⟩, 64) := ⟨⟨by decide +kernel, by decide +kernel⟩, List.mem_of_getElem? (i := 804) (by decide +kernel), List.mem_of_getElem? (i := 1152) (by decide +kernel), List.mem_of_getElem? (i := 1153) (by decide +kernel)⟩
theorem lw_p83 : lw_okq (⟨"CaneRoundsModel", "settle", "(I)V"⟩, 64) := ⟨⟨by decide +kernel, by decide +kernel⟩, List.mem_of_getElem? (i := 804) (by decide +kernel), List.mem_of_getElem? (i := 1156) (by decide +kernel), List.mem_of_getElem? (i := 1157) (by decide +kernel)⟩
theorem lw_p84 : lw_okq (⟨"CaneRoundsModel", "emit", "(II)V"⟩, 64) := ⟨⟨by decide +kernel, by decide +kernel⟩, List.mem_of_getElem? (i := 804) (by decide +kernel), List.mem_of_getElem? (i := 1160) (by decide +kernel), List.mem_of_getElem? (i := 1161) (by decide +kernel)⟩
theorem lw_p85 : lw_okq (⟨"CaneRoundsModel", "push", "(I)V"⟩, 64) := ⟨⟨by decide +kernel, by decide +kernel⟩, List.mem_of_getElem? (i := 804) (by decide +kernel), List.mem_of_getElem? (i := 1164) (by decide +kernel), List.mem_of_getElem? (i := 1165) (by decide +kernel)⟩
theorem lw_p86 : lw_okq (⟨"CaneRoundsModel", "whole", "()V"⟩, 64) := ⟨⟨by decide +kernel, by decide +kernel⟩, List.mem_of_getElem? (i := 804) (by decide +kernel), List.mem_of_getElem? (i := 1168) (by decide +kernel), List.mem_of_getElem? (i := 1169) (by decide +kernel)⟩
theorem lw_p87 : lw_okq (⟨"CaneRoundsModel", "begin", "()I"⟩, 64) := ⟨⟨by decide +kernel, by decide +kernel⟩, List.mem_of_getElem? (i := 804) (by decide +kernel), List.mem_of_getElem? (i := 1172) (by decide +kernel), List.mem_of_getElem? (i := 1173) (by decide +kernel)⟩
theorem lw_p88 : lw_okq (⟨"CaneRoundsModel", "isSet", "(II)Z"⟩, 64) := ⟨⟨by decide +kernel, by decide +kernel⟩, List.mem_of_getElem? (i := 804) (by decide +kernel), List.mem_of_getElem? (i := 1209) (by decide +kernel), List.mem_of_getElem? (i := 1210) (by decide +kernel)⟩
theorem lw_p89 : lw_okq (⟨"CaneRoundsModel", "find", "(II)I"⟩, 64) := ⟨⟨by decide +kernel, by decide +kernel⟩, List.mem_of_getElem? (i := 804) (by decide +kernel), List.mem_of_getElem? (i := 1213) (by decide +kernel), List.mem_of_getElem? (i := 1214) (by decide +kernel)⟩
theorem lw_p90 : lw_okq (⟨"CaneRoundsModel", "could", "(I)Z"⟩, 64) := ⟨⟨by decide +kernel, by decide +kernel⟩, List.mem_of_getElem? (i := 804) (by decide +kernel), List.mem_of_getElem? (i := 1217) (by decide +kernel), List.mem_of_getElem? (i := 1218) (by decide +kernel)⟩
theorem lw_p91 : lw_okq (⟨"CaneRoundsModel", "dyingFirst", "(I)I"⟩, 64) := ⟨⟨by decide +kernel, by decide +kernel⟩, List.mem_of_getElem? (i := 804) (by decide +kernel), List.mem_of_getElem? (i := 1221) (by decide +kernel), List.mem_of_getElem? (i := 1222) (by decide +kernel)⟩
def lw_privs_6 : List (MethodName × Nat) := [(⟨"CaneRoundsModel", "nextToken", "()V"⟩, 64), (⟨"CaneRoundsModel", "see", "(I)I"⟩, 64), (⟨"CaneRoundsModel", "behind", "()I"⟩, 64), (⟨"CaneRoundsModel", "settle", "(I)V"⟩, 64), (⟨"CaneRoundsModel", "emit", "(II)V"⟩, 64), (⟨"CaneRoundsModel", "push", "(I)V"⟩, 64), (⟨"CaneRoundsModel", "whole", "()V"⟩, 64), (⟨"CaneRoundsModel", "begin", "()I"⟩, 64), (⟨"CaneRoundsModel", "isSet", "(II)Z"⟩, 64), (⟨"CaneRoundsModel", "find", "(II)I"⟩, 64), (⟨"CaneRoundsModel", "could", "(I)Z"⟩, 64), (⟨"CaneRoundsModel", "dyingFirst", "(I)I"⟩, 64)]
theorem lw_r6 : ∀ q ∈ lw_privs_6, lw_okq q := List.forall_mem_cons.mpr ⟨lw_p80, List.forall_mem_cons.mpr ⟨lw_p81, List.forall_mem_cons.mpr ⟨lw_p82, List.forall_mem_cons.mpr ⟨lw_p83, List.forall_mem_cons.mpr ⟨lw_p84, List.forall_mem_cons.mpr ⟨lw_p85, List.forall_mem_cons.mpr ⟨lw_p86, List.forall_mem_cons.mpr ⟨lw_p87, List.forall_mem_cons.mpr ⟨lw_p88, List.forall_mem_cons.mpr ⟨lw_p89, List.forall_mem_cons.mpr ⟨lw_p90, List.forall_mem_cons.mpr ⟨lw_p91, fun _ h => absurd h List.not_mem_nil⟩⟩⟩⟩⟩⟩⟩⟩⟩⟩⟩⟩
def lw_privs : List (MethodName × Nat) := lw_privs_1 ++ (lw_privs_2 ++ (lw_privs_3 ++ (lw_privs_4 ++ (lw_privs_5 ++ (lw_privs_6)))))
def lw_tbl : List Cond := k2_sels lw_privs ++ tables_1
theorem lw_privs_ok : ∀ q ∈ lw_privs, lw_okq q := by
  show ∀ q ∈ lw_privs_1 ++ (lw_privs_2 ++ (lw_privs_3 ++ (lw_privs_4 ++ (lw_privs_5 ++ (lw_privs_6))))), lw_okq q
  exact List.forall_mem_append.mpr ⟨lw_r1, List.forall_mem_append.mpr ⟨lw_r2, List.forall_mem_append.mpr ⟨lw_r3, List.forall_mem_append.mpr ⟨lw_r4, List.forall_mem_append.mpr ⟨lw_r5, lw_r6⟩⟩⟩⟩⟩
-- the words that are kept from state to state, and those of nest mates
def tt_g : List Cond := lw_tbl.filter goodWord
def tt_isN : Cond → Bool
  | .fieldLinkNest _ _ _ _ _ _ => true
  | .methodLinkNest _ _ _ _ => true
  | _ => false
def tt_n : List Cond := lw_tbl.filter tt_isN
def tt_chk (ws : List Cond) (ps : List Nat) : Bool := ws.length == ps.length && (ws.zip ps).all (fun q => decide (lw_tbl[q.2]? = some q.1) && goodWord q.1)
theorem tt_of {ws : List Cond} (ps : List Nat) (h : tt_chk ws ps = true) : ∀ w ∈ ws, w ∈ tt_g := by
  intro w hw
  simp only [tt_chk, Bool.and_eq_true, beq_iff_eq, List.all_eq_true] at h
  obtain ⟨k, hk, rfl⟩ := List.mem_iff_getElem.mp hw
  have hk2 : k < ps.length := by omega
  have hm : (ws[k], ps[k]) ∈ ws.zip ps := by
    rw [List.mem_iff_getElem]
    exact ⟨k, by rw [List.length_zip]; omega, by simp⟩
  have h2 := h.2 _ hm
  simp only [decide_eq_true_eq] at h2
  exact List.mem_filter.mpr ⟨List.mem_of_getElem? h2.1, h2.2⟩
theorem tt_ofN {w : Cond} (i : Nat) (h : decide (lw_tbl[i]? = some w) = true) (hn : tt_isN w = true) : w ∈ tt_n :=
  List.mem_filter.mpr ⟨List.mem_of_getElem? (of_decide_eq_true h), hn⟩
theorem tt_g1 {w : Cond} (i : Nat) (h : decide (lw_tbl[i]? = some w) = true) (hn : goodWord w = true) : w ∈ tt_g :=
  List.mem_filter.mpr ⟨List.mem_of_getElem? (of_decide_eq_true h), hn⟩

def cs_R0 : String := "CaneRounds$Batch"
def cs_T0 : u_T := fun k => match k with
  | 0 => ("CaneRounds$Batch", "field", "I", true)
  | 1 => ("CaneRounds$Batch", "end", "I", false)
  | _ => ("CaneRounds$Batch", "next", "LCaneRounds$Batch;", false)
def cs_y0 : Nat → FieldType := fun k => match k with
  | 0 => .int
  | 1 => .int
  | _ => .object "CaneRounds$Batch"
theorem cs_n0 : ∀ a, a < 3 → ∀ b, b < 3 → a ≠ b → (cs_T0 a).2.1 ≠ (cs_T0 b).2.1 := by decide +kernel
theorem cs_p0 : ∀ k, k < 3 → parseFieldDescriptor (cs_T0 k).2.2.1 = some (cs_y0 k) := by decide +kernel
theorem cs_w0 : ∀ w ∈ u_ws cs_R0 cs_T0 3, w ∈ tt_g := tt_of [649, 651, 653] (by decide +kernel)
def cs_R1 : String := "CaneRounds$Bundles"
def cs_T1 : u_T := fun k => match k with
  | 0 => ("CaneRounds$Bundles", "first", "LCaneRounds$Batch;", false)
  | _ => ("CaneRounds$Bundles", "last", "LCaneRounds$Batch;", false)
def cs_y1 : Nat → FieldType := fun k => match k with
  | 0 => .object "CaneRounds$Batch"
  | _ => .object "CaneRounds$Batch"
theorem cs_n1 : ∀ a, a < 2 → ∀ b, b < 2 → a ≠ b → (cs_T1 a).2.1 ≠ (cs_T1 b).2.1 := by decide +kernel
theorem cs_p1 : ∀ k, k < 2 → parseFieldDescriptor (cs_T1 k).2.2.1 = some (cs_y1 k) := by decide +kernel
theorem cs_w1 : ∀ w ∈ u_ws cs_R1 cs_T1 2, w ∈ tt_g := tt_of [160, 162] (by decide +kernel)
def cs_R2 : String := "CaneRounds$Chooser"
def cs_T2 : u_T := fun k => match k with
  | 0 => ("CaneRounds$Chooser", "tons", "[I", true)
  | 1 => ("CaneRounds$Chooser", "worth", "[I", true)
  | 2 => ("CaneRounds$Chooser", "arrives", "[I", true)
  | 3 => ("CaneRounds$Chooser", "byDeath", "[I", true)
  | 4 => ("CaneRounds$Chooser", "byWorth", "[I", true)
  | 5 => ("CaneRounds$Chooser", "most", "[[I", true)
  | 6 => ("CaneRounds$Chooser", "candidates", "I", false)
  | 7 => ("CaneRounds$Chooser", "count", "I", false)
  | 8 => ("CaneRounds$Chooser", "crush", "I", false)
  | 9 => ("CaneRounds$Chooser", "bestWorth", "I", false)
  | _ => ("CaneRounds$Chooser", "bestSet", "I", false)
def cs_y2 : Nat → FieldType := fun k => match k with
  | 0 => .array .int
  | 1 => .array .int
  | 2 => .array .int
  | 3 => .array .int
  | 4 => .array .int
  | 5 => .array (.array .int)
  | 6 => .int
  | 7 => .int
  | 8 => .int
  | 9 => .int
  | _ => .int
theorem cs_n2 : ∀ a, a < 11 → ∀ b, b < 11 → a ≠ b → (cs_T2 a).2.1 ≠ (cs_T2 b).2.1 := by decide +kernel
theorem cs_p2 : ∀ k, k < 11 → parseFieldDescriptor (cs_T2 k).2.2.1 = some (cs_y2 k) := by decide +kernel
theorem cs_w2 : ∀ w ∈ u_ws cs_R2 cs_T2 11, w ∈ tt_g := tt_of [186, 188, 190, 192, 194, 196, 198, 200, 202, 204, 206] (by decide +kernel)
def cs_R3 : String := "CaneRounds$Farms"
def cs_T3 : u_T := fun k => match k with
  | 0 => ("CaneRounds$Farms", "earned", "[J", true)
  | 1 => ("CaneRounds$Farms", "order", "[I", true)
  | 2 => ("CaneRounds$Farms", "count", "I", false)
  | 3 => ("CaneRounds$Farms", "ordered", "I", false)
  | _ => ("CaneRounds$Farms", "settled", "I", false)
def cs_y3 : Nat → FieldType := fun k => match k with
  | 0 => .array .long
  | 1 => .array .int
  | 2 => .int
  | 3 => .int
  | _ => .int
theorem cs_n3 : ∀ a, a < 5 → ∀ b, b < 5 → a ≠ b → (cs_T3 a).2.1 ≠ (cs_T3 b).2.1 := by decide +kernel
theorem cs_p3 : ∀ k, k < 5 → parseFieldDescriptor (cs_T3 k).2.2.1 = some (cs_y3 k) := by decide +kernel
theorem cs_w3 : ∀ w ∈ u_ws cs_R3 cs_T3 5, w ∈ tt_g := tt_of [126, 128, 130, 132, 134] (by decide +kernel)
def cs_R4 : String := "CaneRounds$Field"
def cs_T4 : u_T := fun k => match k with
  | 0 => ("CaneRounds$Field", "number", "I", true)
  | 1 => ("CaneRounds$Field", "farm", "I", true)
  | 2 => ("CaneRounds$Field", "tons", "I", true)
  | 3 => ("CaneRounds$Field", "km", "I", true)
  | 4 => ("CaneRounds$Field", "top", "I", true)
  | 5 => ("CaneRounds$Field", "ripe", "I", true)
  | 6 => ("CaneRounds$Field", "fades", "I", true)
  | 7 => ("CaneRounds$Field", "state", "I", false)
  | 8 => ("CaneRounds$Field", "tonsCut", "I", false)
  | 9 => ("CaneRounds$Field", "gangs", "I", false)
  | 10 => ("CaneRounds$Field", "burnt", "Z", false)
  | 11 => ("CaneRounds$Field", "burntAt", "I", false)
  | 12 => ("CaneRounds$Field", "burntSweet", "I", false)
  | 13 => ("CaneRounds$Field", "load", "I", false)
  | _ => ("CaneRounds$Field", "next", "LCaneRounds$Field;", false)
def cs_y4 : Nat → FieldType := fun k => match k with
  | 0 => .int
  | 1 => .int
  | 2 => .int
  | 3 => .int
  | 4 => .int
  | 5 => .int
  | 6 => .int
  | 7 => .int
  | 8 => .int
  | 9 => .int
  | 10 => .boolean
  | 11 => .int
  | 12 => .int
  | 13 => .int
  | _ => .object "CaneRounds$Field"
theorem cs_n4 : ∀ a, a < 15 → ∀ b, b < 15 → a ≠ b → (cs_T4 a).2.1 ≠ (cs_T4 b).2.1 := by decide +kernel
theorem cs_p4 : ∀ k, k < 15 → parseFieldDescriptor (cs_T4 k).2.2.1 = some (cs_y4 k) := by decide +kernel
theorem cs_w4 : ∀ w ∈ u_ws cs_R4 cs_T4 15, w ∈ tt_g := tt_of [381, 383, 385, 387, 389, 391, 393, 395, 397, 399, 401, 403, 405, 407, 409] (by decide +kernel)
def cs_R5 : String := "CaneRounds$Formula"
def cs_T5 : u_T := fun k => match k with
  | 0 => ("CaneRounds$Formula", "tokens", "[I", true)
  | 1 => ("CaneRounds$Formula", "places", "[I", true)
  | 2 => ("CaneRounds$Formula", "count", "I", false)
  | 3 => ("CaneRounds$Formula", "at", "I", false)
  | 4 => ("CaneRounds$Formula", "fault", "I", false)
  | 5 => ("CaneRounds$Formula", "place", "I", false)
  | 6 => ("CaneRounds$Formula", "t", "I", false)
  | 7 => ("CaneRounds$Formula", "s", "I", false)
  | 8 => ("CaneRounds$Formula", "m", "I", false)
  | 9 => ("CaneRounds$Formula", "b", "I", false)
  | _ => ("CaneRounds$Formula", "h", "I", false)
def cs_y5 : Nat → FieldType := fun k => match k with
  | 0 => .array .int
  | 1 => .array .int
  | 2 => .int
  | 3 => .int
  | 4 => .int
  | 5 => .int
  | 6 => .int
  | 7 => .int
  | 8 => .int
  | 9 => .int
  | _ => .int
theorem cs_n5 : ∀ a, a < 11 → ∀ b, b < 11 → a ≠ b → (cs_T5 a).2.1 ≠ (cs_T5 b).2.1 := by decide +kernel
theorem cs_p5 : ∀ k, k < 11 → parseFieldDescriptor (cs_T5 k).2.2.1 = some (cs_y5 k) := by decide +kernel
theorem cs_w5 : ∀ w ∈ u_ws cs_R5 cs_T5 11, w ∈ tt_g := tt_of [244, 246, 248, 250, 252, 254, 256, 258, 260, 262, 264] (by decide +kernel)
def cs_R6 : String := "CaneRounds$Load"
def cs_T6 : u_T := fun k => match k with
  | 0 => ("CaneRounds$Load", "number", "I", true)
  | 1 => ("CaneRounds$Load", "field", "LCaneRounds$Field;", true)
  | 2 => ("CaneRounds$Load", "cutAt", "I", true)
  | 3 => ("CaneRounds$Load", "sweet", "I", true)
  | 4 => ("CaneRounds$Load", "dies", "I", true)
  | 5 => ("CaneRounds$Load", "atMill", "I", false)
  | 6 => ("CaneRounds$Load", "truckFreeAt", "I", false)
  | 7 => ("CaneRounds$Load", "crushed", "I", false)
  | 8 => ("CaneRounds$Load", "lost", "I", false)
  | 9 => ("CaneRounds$Load", "overAt", "I", false)
  | 10 => ("CaneRounds$Load", "pay", "I", false)
  | _ => ("CaneRounds$Load", "next", "LCaneRounds$Load;", false)
def cs_y6 : Nat → FieldType := fun k => match k with
  | 0 => .int
  | 1 => .object "CaneRounds$Field"
  | 2 => .int
  | 3 => .int
  | 4 => .int
  | 5 => .int
  | 6 => .int
  | 7 => .int
  | 8 => .int
  | 9 => .int
  | 10 => .int
  | _ => .object "CaneRounds$Load"
theorem cs_n6 : ∀ a, a < 12 → ∀ b, b < 12 → a ≠ b → (cs_T6 a).2.1 ≠ (cs_T6 b).2.1 := by decide +kernel
theorem cs_p6 : ∀ k, k < 12 → parseFieldDescriptor (cs_T6 k).2.2.1 = some (cs_y6 k) := by decide +kernel
theorem cs_w6 : ∀ w ∈ u_ws cs_R6 cs_T6 12, w ∈ tt_g := tt_of [568, 570, 572, 574, 576, 578, 580, 582, 584, 586, 588, 590] (by decide +kernel)
def cs_R7 : String := "CaneRounds$Span"
def cs_T7 : u_T := fun k => match k with
  | 0 => ("CaneRounds$Span", "stops", "Z", true)
  | 1 => ("CaneRounds$Span", "from", "I", true)
  | 2 => ("CaneRounds$Span", "to", "I", true)
  | _ => ("CaneRounds$Span", "earlier", "LCaneRounds$Span;", true)
def cs_y7 : Nat → FieldType := fun k => match k with
  | 0 => .boolean
  | 1 => .int
  | 2 => .int
  | _ => .object "CaneRounds$Span"
theorem cs_n7 : ∀ a, a < 4 → ∀ b, b < 4 → a ≠ b → (cs_T7 a).2.1 ≠ (cs_T7 b).2.1 := by decide +kernel
theorem cs_p7 : ∀ k, k < 4 → parseFieldDescriptor (cs_T7 k).2.2.1 = some (cs_y7 k) := by decide +kernel
theorem cs_w7 : ∀ w ∈ u_ws cs_R7 cs_T7 4, w ∈ tt_g := tt_of [434, 436, 438, 440] (by decide +kernel)
def cs_R8 : String := "CaneRounds$Tape"
def cs_T8 : u_T := fun k => match k with
  | 0 => ("CaneRounds$Tape", "bytes", "[B", true)
  | _ => ("CaneRounds$Tape", "length", "I", false)
def cs_y8 : Nat → FieldType := fun k => match k with
  | 0 => .array .byte
  | _ => .int
theorem cs_n8 : ∀ a, a < 2 → ∀ b, b < 2 → a ≠ b → (cs_T8 a).2.1 ≠ (cs_T8 b).2.1 := by decide +kernel
theorem cs_p8 : ∀ k, k < 2 → parseFieldDescriptor (cs_T8 k).2.2.1 = some (cs_y8 k) := by decide +kernel
theorem cs_w8 : ∀ w ∈ u_ws cs_R8 cs_T8 2, w ∈ tt_g := tt_of [219, 221] (by decide +kernel)
def cs_R9 : String := "CaneRounds$Weather"
def cs_T9 : u_T := fun k => match k with
  | 0 => ("CaneRounds$Weather", "latest", "LCaneRounds$Span;", false)
  | _ => ("CaneRounds$Weather", "count", "I", false)
def cs_y9 : Nat → FieldType := fun k => match k with
  | 0 => .object "CaneRounds$Span"
  | _ => .int
theorem cs_n9 : ∀ a, a < 2 → ∀ b, b < 2 → a ≠ b → (cs_T9 a).2.1 ≠ (cs_T9 b).2.1 := by decide +kernel
theorem cs_p9 : ∀ k, k < 2 → parseFieldDescriptor (cs_T9 k).2.2.1 = some (cs_y9 k) := by decide +kernel
theorem cs_w9 : ∀ w ∈ u_ws cs_R9 cs_T9 2, w ∈ tt_g := tt_of [147, 149] (by decide +kernel)
def cs_R10 : String := "CaneRounds"
def cs_T10 : u_T := fun k => match k with
  | 0 => ("CaneRounds", "gangs", "I", false)
  | 1 => ("CaneRounds", "rate", "I", false)
  | 2 => ("CaneRounds", "trucks", "I", false)
  | 3 => ("CaneRounds", "crush", "I", false)
  | 4 => ("CaneRounds", "clock", "I", false)
  | 5 => ("CaneRounds", "mean", "I", false)
  | 6 => ("CaneRounds", "firstField", "LCaneRounds$Field;", false)
  | 7 => ("CaneRounds", "lastField", "LCaneRounds$Field;", false)
  | 8 => ("CaneRounds", "firstLoad", "LCaneRounds$Load;", false)
  | 9 => ("CaneRounds", "lastLoad", "LCaneRounds$Load;", false)
  | 10 => ("CaneRounds", "farms", "LCaneRounds$Farms;", true)
  | 11 => ("CaneRounds", "weather", "LCaneRounds$Weather;", true)
  | 12 => ("CaneRounds", "bundles", "LCaneRounds$Bundles;", true)
  | 13 => ("CaneRounds", "chooser", "LCaneRounds$Chooser;", true)
  | 14 => ("CaneRounds", "tape", "LCaneRounds$Tape;", true)
  | 15 => ("CaneRounds", "formula", "LCaneRounds$Formula;", false)
  | 16 => ("CaneRounds", "spareFormula", "LCaneRounds$Formula;", false)
  | 17 => ("CaneRounds", "latestFault", "I", false)
  | _ => ("CaneRounds", "latestPlace", "I", false)
def cs_y10 : Nat → FieldType := fun k => match k with
  | 0 => .int
  | 1 => .int
  | 2 => .int
  | 3 => .int
  | 4 => .int
  | 5 => .int
  | 6 => .object "CaneRounds$Field"
  | 7 => .object "CaneRounds$Field"
  | 8 => .object "CaneRounds$Load"
  | 9 => .object "CaneRounds$Load"
  | 10 => .object "CaneRounds$Farms"
  | 11 => .object "CaneRounds$Weather"
  | 12 => .object "CaneRounds$Bundles"
  | 13 => .object "CaneRounds$Chooser"
  | 14 => .object "CaneRounds$Tape"
  | 15 => .object "CaneRounds$Formula"
  | 16 => .object "CaneRounds$Formula"
  | 17 => .int
  | _ => .int
theorem cs_n10 : ∀ a, a < 19 → ∀ b, b < 19 → a ≠ b → (cs_T10 a).2.1 ≠ (cs_T10 b).2.1 := by decide +kernel
theorem cs_p10 : ∀ k, k < 19 → parseFieldDescriptor (cs_T10 k).2.2.1 = some (cs_y10 k) := by decide +kernel
theorem cs_w10 : ∀ w ∈ u_ws cs_R10 cs_T10 19, w ∈ tt_g := tt_of [286, 288, 290, 292, 294, 296, 298, 300, 302, 304, 306, 308, 310, 312, 314, 316, 318, 320, 322] (by decide +kernel)
def cs_R11 : String := "CaneRoundsModel"
def cs_T11 : u_T := fun k => match k with
  | 0 => ("CaneRoundsModel", "clock", "I", false)
  | 1 => ("CaneRoundsModel", "farms", "I", false)
  | 2 => ("CaneRoundsModel", "fields", "I", false)
  | 3 => ("CaneRoundsModel", "loads", "I", false)
  | 4 => ("CaneRoundsModel", "gangs", "I", false)
  | 5 => ("CaneRoundsModel", "rate", "I", false)
  | 6 => ("CaneRoundsModel", "trucks", "I", false)
  | 7 => ("CaneRoundsModel", "crush", "I", false)
  | 8 => ("CaneRoundsModel", "paid", "[J", true)
  | 9 => ("CaneRoundsModel", "farmOf", "[I", true)
  | 10 => ("CaneRoundsModel", "tons", "[I", true)
  | 11 => ("CaneRoundsModel", "km", "[I", true)
  | 12 => ("CaneRoundsModel", "top", "[I", true)
  | 13 => ("CaneRoundsModel", "ripe", "[I", true)
  | 14 => ("CaneRoundsModel", "fades", "[I", true)
  | 15 => ("CaneRoundsModel", "state", "[I", true)
  | 16 => ("CaneRoundsModel", "done", "[I", true)
  | 17 => ("CaneRoundsModel", "at", "[I", true)
  | 18 => ("CaneRoundsModel", "burnt", "[I", true)
  | 19 => ("CaneRoundsModel", "burntSweet", "[I", true)
  | 20 => ("CaneRoundsModel", "loadOf", "[I", true)
  | 21 => ("CaneRoundsModel", "weathers", "I", false)
  | 22 => ("CaneRoundsModel", "stops", "[Z", true)
  | 23 => ("CaneRoundsModel", "from", "[I", true)
  | 24 => ("CaneRoundsModel", "to", "[I", true)
  | 25 => ("CaneRoundsModel", "loadField", "[I", true)
  | 26 => ("CaneRoundsModel", "cutAt", "[I", true)
  | 27 => ("CaneRoundsModel", "sweet", "[I", true)
  | 28 => ("CaneRoundsModel", "dies", "[I", true)
  | 29 => ("CaneRoundsModel", "atMill", "[I", true)
  | 30 => ("CaneRoundsModel", "crushed", "[I", true)
  | 31 => ("CaneRoundsModel", "lost", "[I", true)
  | 32 => ("CaneRoundsModel", "over", "[I", true)
  | 33 => ("CaneRoundsModel", "pay", "[I", true)
  | 34 => ("CaneRoundsModel", "truckFree", "[I", true)
  | 35 => ("CaneRoundsModel", "bundles", "[B", true)
  | 36 => ("CaneRoundsModel", "allCrushed", "I", false)
  | 37 => ("CaneRoundsModel", "allLost", "I", false)
  | 38 => ("CaneRoundsModel", "mean", "I", false)
  | 39 => ("CaneRoundsModel", "roundMany", "I", false)
  | 40 => ("CaneRoundsModel", "order", "[I", true)
  | 41 => ("CaneRoundsModel", "isThrough", "[Z", true)
  | 42 => ("CaneRoundsModel", "tape", "[I", true)
  | 43 => ("CaneRoundsModel", "taped", "I", false)
  | 44 => ("CaneRoundsModel", "textMany", "I", false)
  | 45 => ("CaneRoundsModel", "op", "[I", true)
  | 46 => ("CaneRoundsModel", "number", "[I", true)
  | 47 => ("CaneRoundsModel", "fault", "I", false)
  | 48 => ("CaneRoundsModel", "faultPlace", "I", false)
  | 49 => ("CaneRoundsModel", "read", "I", false)
  | 50 => ("CaneRoundsModel", "place", "I", false)
  | 51 => ("CaneRoundsModel", "token", "I", false)
  | 52 => ("CaneRoundsModel", "told", "I", false)
  | 53 => ("CaneRoundsModel", "written", "I", false)
  | 54 => ("CaneRoundsModel", "opens", "I", false)
  | 55 => ("CaneRoundsModel", "piled", "I", false)
  | 56 => ("CaneRoundsModel", "pile", "[I", true)
  | 57 => ("CaneRoundsModel", "isWhole", "Z", false)
  | 58 => ("CaneRoundsModel", "values", "[J", true)
  | 59 => ("CaneRoundsModel", "wouldAt", "[I", true)
  | 60 => ("CaneRoundsModel", "wouldDie", "[I", true)
  | 61 => ("CaneRoundsModel", "wouldBe", "[I", true)
  | 62 => ("CaneRoundsModel", "rest", "[I", true)
  | _ => ("CaneRoundsModel", "bestWorth", "I", false)
def cs_y11 : Nat → FieldType := fun k => match k with
  | 0 => .int
  | 1 => .int
  | 2 => .int
  | 3 => .int
  | 4 => .int
  | 5 => .int
  | 6 => .int
  | 7 => .int
  | 8 => .array .long
  | 9 => .array .int
  | 10 => .array .int
  | 11 => .array .int
  | 12 => .array .int
  | 13 => .array .int
  | 14 => .array .int
  | 15 => .array .int
  | 16 => .array .int
  | 17 => .array .int
  | 18 => .array .int
  | 19 => .array .int
  | 20 => .array .int
  | 21 => .int
  | 22 => .array .boolean
  | 23 => .array .int
  | 24 => .array .int
  | 25 => .array .int
  | 26 => .array .int
  | 27 => .array .int
  | 28 => .array .int
  | 29 => .array .int
  | 30 => .array .int
  | 31 => .array .int
  | 32 => .array .int
  | 33 => .array .int
  | 34 => .array .int
  | 35 => .array .byte
  | 36 => .int
  | 37 => .int
  | 38 => .int
  | 39 => .int
  | 40 => .array .int
  | 41 => .array .boolean
  | 42 => .array .int
  | 43 => .int
  | 44 => .int
  | 45 => .array .int
  | 46 => .array .int
  | 47 => .int
  | 48 => .int
  | 49 => .int
  | 50 => .int
  | 51 => .int
  | 52 => .int
  | 53 => .int
  | 54 => .int
  | 55 => .int
  | 56 => .array .int
  | 57 => .boolean
  | 58 => .array .long
  | 59 => .array .int
  | 60 => .array .int
  | 61 => .array .int
  | 62 => .array .int
  | _ => .int
theorem cs_n11 : ∀ a, a < 64 → ∀ b, b < 64 → a ≠ b → (cs_T11 a).2.1 ≠ (cs_T11 b).2.1 := by decide +kernel
theorem cs_p11 : ∀ k, k < 64 → parseFieldDescriptor (cs_T11 k).2.2.1 = some (cs_y11 k) := by decide +kernel
theorem cs_w11 : ∀ w ∈ u_ws cs_R11 cs_T11 64, w ∈ tt_g := tt_of [965, 967, 969, 971, 973, 975, 977, 979, 981, 983, 985, 987, 989, 991, 993, 995, 997, 999, 1001, 1003, 1005, 1007, 1009, 1011, 1013, 1015, 1017, 1019, 1021, 1023, 1025, 1027, 1029, 1031, 1033, 1035, 1037, 1039, 1041, 1043, 1045, 1047, 1049, 1051, 1053, 1055, 1057, 1059, 1061, 1063, 1065, 1067, 1069, 1071, 1073, 1075, 1077, 1079, 1081, 1083, 1085, 1087, 1089, 1091] (by decide +kernel)
abbrev cs_all : List vw_C := [(cs_R0, cs_T0, 3), (cs_R1, cs_T1, 2), (cs_R2, cs_T2, 11), (cs_R3, cs_T3, 5), (cs_R4, cs_T4, 15), (cs_R5, cs_T5, 11), (cs_R6, cs_T6, 12), (cs_R7, cs_T7, 4), (cs_R8, cs_T8, 2), (cs_R9, cs_T9, 2), (cs_R10, cs_T10, 19), (cs_R11, cs_T11, 64)]
end
section
-- ===== values, cells, worlds of the abstract machine =====
abbrev av_T : Type := Int ⊕ (Int ⊕ (Option Nat ⊕ Unit))
abbrev av_i (a : Int) : av_T := Sum.inl a
abbrev av_l (a : Int) : av_T := Sum.inr (Sum.inl a)
abbrev av_q (q : Option Nat) : av_T := Sum.inr (Sum.inr (Sum.inl q))
abbrev av_r (k : Nat) : av_T := Sum.inr (Sum.inr (Sum.inl (some k)))
abbrev av_n : av_T := Sum.inr (Sum.inr (Sum.inl none))
abbrev av_s : av_T := Sum.inr (Sum.inr (Sum.inr ()))
/-- launch; the script's cell, length, ints; the first new address; class numbers, slots; array classes -/
abbrev aw_T : Type := Launch × (Nat × (Nat × ((Nat → Int32) × (Nat × ((Nat → ClassId) × ((Nat → Nat → Nat) × (Nat → ClassId)))))))
def aw_l (w : aw_T) : Launch := w.1
def aw_b (w : aw_T) : Nat := w.2.1
def aw_L (w : aw_T) : Nat := w.2.2.1
def aw_x (w : aw_T) : Nat → Int32 := w.2.2.2.1
def aw_o (w : aw_T) : Nat := w.2.2.2.2.1
def aw_D (w : aw_T) : va_G := (w.2.2.2.2.2.1, w.2.2.2.2.2.2.1)
def aw_A (w : aw_T) : Nat → ClassId := w.2.2.2.2.2.2.2
def av_v (w : aw_T) : av_T → Value
  | .inl a => .int (Int32.ofInt a)
  | .inr (.inl a) => .long (Int64.ofInt a)
  | .inr (.inr (.inl (some k))) => .ref (aw_o w + k)
  | .inr (.inr (.inl none)) => .null
  | .inr (.inr (.inr _)) => .ref (aw_b w)
def av_c : av_T → Nat
  | .inr (.inl _) => 2
  | _ => 1
theorem av_cat (w : aw_T) (v : av_T) : (av_v w v).category = av_c v := by
  rcases v with a | a | (_ | k) | u <;> rfl
theorem av_c1 (v : av_T) : av_c v ≤ 2 := by
  rcases v with a | a | (_ | k) | u <;> simp [av_c]
theorem av_sum (w : aw_T) (r : List av_T) : ((r.map (av_v w)).map fun v => v.category).sum ≤ 2 * r.length := by
  induction r with
  | nil => simp
  | cons v r ih =>
    have := av_c1 v
    simp only [List.map_cons, List.sum_cons, List.length_cons, av_cat]
    omega
abbrev ac_T : Type := (Nat × (Nat × (Nat → Int))) ⊕ ((Nat × (Nat → Int)) ⊕ ((Nat × (Nat → Option Nat)) ⊕ (Nat × List av_T)))
abbrev ac_a (t n : Nat) (f : Nat → Int) : ac_T := Sum.inl (t, n, f)
abbrev ac_l (n : Nat) (f : Nat → Int) : ac_T := Sum.inr (Sum.inl (n, f))
abbrev ac_q (n : Nat) (g : Nat → Option Nat) : ac_T := Sum.inr (Sum.inr (Sum.inl (n, g)))
abbrev ac_o (ci : Nat) (fs : List av_T) : ac_T := Sum.inr (Sum.inr (Sum.inr (ci, fs)))
def ac_E (w : aw_T) : ac_T → va_E
  | .inl (t, n, f) => .inl (aw_A w t, n, .inl (fun j => Int32.ofInt (f j)))
  | .inr (.inl (n, f)) => .inl (aw_A w 3, n, .inr (.inl (fun j => Int64.ofInt (f j))))
  | .inr (.inr (.inl (n, g))) => .inl (aw_A w 4, n, .inr (.inr (.inr (.inr (fun j => (g j).map (fun k => aw_o w + k))))))
  | .inr (.inr (.inr (ci, fs))) => .inr (ci, fs.map (av_v w))
abbrev ah_T : Type := List ac_T
def ah_R (w : aw_T) (h : ah_T) (H : Heap) : Prop := H.size = aw_o w + h.length ∧ ∀ (k : Nat) (c : ac_T), h[k]? = some c → va_at (aw_D w) cs_all (aw_o w + k, ac_E w c) H
theorem ah_set {w : aw_T} {h : ah_T} {H H1 : Heap} {k : Nat} {c c' : ac_T} (hR : ah_R w h H) (hk : h[k]? = some c) (hc : va_at (aw_D w) cs_all (aw_o w + k, ac_E w c') H1) (hz : H1.size = H.size) (ho : ∀ q : Nat, q ≠ aw_o w + k → H1[q]? = H[q]?) : ah_R w (h.set k c') H1 := by
  refine ⟨by rw [hz, hR.1, List.length_set], fun j x hj => ?_⟩
  by_cases e : j = k
  · subst e
    have hl : j < h.length := (List.getElem?_eq_some_iff.mp hk).1
    rw [List.getElem?_set_self hl] at hj
    cases hj
    exact hc
  · rw [List.getElem?_set_ne (fun q => e q.symm)] at hj
    exact (hR.2 j x hj).kept (ho _ (by show aw_o w + j ≠ aw_o w + k; omega))
theorem ah_push {w : aw_T} {h : ah_T} {H H1 : Heap} {c : ac_T} (hR : ah_R w h H) (hc : va_at (aw_D w) cs_all (aw_o w + h.length, ac_E w c) H1) (hz : H1.size = H.size + 1) (ho : ∀ q : Nat, q < H.size → H1[q]? = H[q]?) : ah_R w (h ++ [c]) H1 := by
  refine ⟨by rw [hz, hR.1, List.length_append]; simp; omega, fun j x hj => ?_⟩
  by_cases e : j < h.length
  · rw [List.getElem?_append_left e] at hj
    exact (hR.2 j x hj).kept (ho _ (by show aw_o w + j < H.size; rw [hR.1]; omega))
  · have hz : j < (h ++ [c]).length := (List.getElem?_eq_some_iff.mp hj).1
    rw [List.length_append] at hz
    simp at hz
    have e2 : j = h.length := by omega
    subst e2
    rw [List.getElem?_append_right (Nat.le_refl _)] at hj
    simp at hj
    subst hj
    exact hc
-- ===== locals =====
abbrev al_T : Type := List (Option av_T)
def al_lv (w : aw_T) (L : al_T) : List (Nat × Value) := (List.range L.length).filterMap (fun i => match L[i]? with
  | some (some v) => some (i, av_v w v)
  | _ => none)
theorem al_mem {w : aw_T} {L : al_T} {i : Nat} {x : Value} : (i, x) ∈ al_lv w L ↔ ∃ v, L[i]? = some (some v) ∧ x = av_v w v := by
  unfold al_lv
  rw [List.mem_filterMap]
  constructor
  · rintro ⟨j, -, hj⟩
    split at hj
    · rename_i v hv
      cases hj
      exact ⟨v, hv, rfl⟩
    · cases hj
  · rintro ⟨v, hv, rfl⟩
    refine ⟨i, List.mem_range.mpr (List.getElem?_eq_some_iff.mp hv).1, ?_⟩
    rw [hv]
def al_R (w : aw_T) (ls : Array Slot) (nL : Nat) (L : al_T) : Prop := L.length = nL ∧ lv_has ls nL (al_lv w L)
theorem al_get {w : aw_T} {ls : Array Slot} {nL : Nat} {L : al_T} (h : al_R w ls nL L) {i : Nat} {v : av_T} (hi : L[i]? = some (some v)) : ls[i]? = some (.val (av_v w v)) := h.2.2.2 (i, av_v w v) (al_mem.mpr ⟨v, hi, rfl⟩)
def al_ok (L : al_T) : Nat → Bool
  | 0 => true
  | j + 1 => match L[j]? with
    | some (some (.inr (.inl _))) => false
    | _ => true
theorem al_ok_spec {L : al_T} {i j : Nat} (h : al_ok L i = true) (hj : j + 1 = i) {v : av_T} (hv : L[j]? = some (some v)) : av_c v = 1 := by
  subst hj
  rcases v with a | a | (_ | k) | u
  · rfl
  · simp [al_ok, hv] at h
  · rfl
  · rfl
  · rfl
theorem al_put1 {w : aw_T} {ls : Array Slot} {nL i : Nat} {L L' : al_T} {v : av_T} (hn : L.length = nL) (ho : al_ok L i = true) (hl : L.set i (some v) = L') (h : lv_has ls nL ((i, av_v w v) :: (al_lv w L).filter (fun q => !(q.1 == i) && !(q.1 + 1 == i && q.2.category == 2)))) : al_R w ls nL L' := by
  subst hl
  refine ⟨by rw [List.length_set]; exact hn, h.1, h.2.1, fun q hq => h.2.2 q ?_⟩
  obtain ⟨j, x⟩ := q
  obtain ⟨u, hu, rfl⟩ := al_mem.mp hq
  by_cases e : j = i
  · subst e
    have hl : j < L.length := by
      have := (List.getElem?_eq_some_iff.mp hu).1
      rw [List.length_set] at this
      exact this
    rw [List.getElem?_set_self hl] at hu
    cases hu
    exact List.mem_cons_self
  · rw [List.getElem?_set_ne (fun q => e q.symm)] at hu
    refine List.mem_cons_of_mem _ (List.mem_filter.mpr ⟨al_mem.mpr ⟨u, hu, rfl⟩, ?_⟩)
    have : ¬ (j + 1 = i ∧ (av_v w u).category = 2) := by
      rintro ⟨e1, e2⟩
      rw [av_cat, al_ok_spec ho e1 hu] at e2
      cases e2
    simp only [Bool.and_eq_true, Bool.not_eq_true', beq_eq_false_iff_ne, ne_eq, e, not_false_eq_true, true_and, Bool.and_eq_false_iff]
    by_cases e1 : j + 1 = i
    · exact Or.inr (fun e2 => this ⟨e1, e2⟩)
    · exact Or.inl e1
theorem al_put2 {w : aw_T} {ls : Array Slot} {nL i : Nat} {L L' : al_T} {v : av_T} (hn : L.length = nL) (ho : al_ok L i = true) (hl : (L.set i (some v)).set (i + 1) none = L') (h : lv_has ls nL ((i, av_v w v) :: (al_lv w L).filter (fun q => !(q.1 == i) && (!(q.1 == i + 1) && !(q.1 + 1 == i && q.2.category == 2))))) : al_R w ls nL L' := by
  subst hl
  refine ⟨by rw [List.length_set, List.length_set]; exact hn, h.1, h.2.1, fun q hq => h.2.2 q ?_⟩
  obtain ⟨j, x⟩ := q
  obtain ⟨u, hu, rfl⟩ := al_mem.mp hq
  by_cases e0 : j = i + 1
  · subst e0
    have hl : i + 1 < (L.set i (some v)).length := by
      have := (List.getElem?_eq_some_iff.mp hu).1
      rw [List.length_set] at this
      exact this
    rw [List.getElem?_set_self hl] at hu
    cases hu
  · rw [List.getElem?_set_ne (fun q => e0 q.symm)] at hu
    by_cases e : j = i
    · subst e
      have hl : j < L.length := by
        have := (List.getElem?_eq_some_iff.mp hu).1
        rw [List.length_set] at this
        exact this
      rw [List.getElem?_set_self hl] at hu
      cases hu
      exact List.mem_cons_self
    · rw [List.getElem?_set_ne (fun q => e q.symm)] at hu
      refine List.mem_cons_of_mem _ (List.mem_filter.mpr ⟨al_mem.mpr ⟨u, hu, rfl⟩, ?_⟩)
      have : ¬ (j + 1 = i ∧ (av_v w u).category = 2) := by
        rintro ⟨e1, e2⟩
        rw [av_cat, al_ok_spec ho e1 hu] at e2
        cases e2
      simp only [Bool.and_eq_true, Bool.not_eq_true', beq_eq_false_iff_ne, ne_eq, e, e0, not_false_eq_true, true_and, Bool.and_eq_false_iff]
      by_cases e1 : j + 1 = i
      · exact Or.inr (fun e2 => this ⟨e1, e2⟩)
      · exact Or.inl e1
def al_sl (As : List av_T) : al_T := As.flatMap (fun v => if av_c v = 2 then [some v, none] else [some v])
def al_en (As : List av_T) (n : Nat) : al_T := al_sl As ++ List.replicate (n - (al_sl As).length) none
theorem al_sl_len (w : aw_T) (As : List av_T) : (lg_sl (As.map (av_v w))).length = (al_sl As).length := by
  induction As with
  | nil => rfl
  | cons v As ih =>
    simp only [lg_sl, al_sl, List.map_cons, List.flatMap_cons, List.length_append] at ih ⊢
    rw [ih, av_cat]
    by_cases e : av_c v = 2 <;> simp [e]
theorem al_arg (w : aw_T) : ∀ (As : List av_T) (o i : Nat) (v : av_T), (al_sl As)[i]? = some (some v) → (o + i, av_v w v) ∈ lv_args o (As.map (av_v w)) := by
  intro As
  induction As with
  | nil => intro o i v h; simp [al_sl] at h
  | cons u As ih =>
    intro o i v h
    have e : al_sl (u :: As) = (if av_c u = 2 then [some u, none] else [some u]) ++ al_sl As := by simp [al_sl]
    rw [e] at h
    simp only [List.map_cons, lv_args, av_cat]
    by_cases c2 : av_c u = 2
    · rw [if_pos c2] at h ⊢
      match i, h with
      | 0, h => simp at h; subst h; exact List.mem_cons_self
      | 1, h => simp at h
      | i + 2, h =>
        have h2 : (al_sl As)[i]? = some (some v) := by simpa using h
        have h3 := ih (o + 2) i v h2
        rw [show o + (i + 2) = o + 2 + i by omega]
        exact List.mem_cons_of_mem _ h3
    · rw [if_neg c2] at h ⊢
      match i, h with
      | 0, h => simp at h; subst h; exact List.mem_cons_self
      | i + 1, h =>
        have h2 : (al_sl As)[i]? = some (some v) := by simpa using h
        have h3 := ih (o + 1) i v h2
        rw [show o + (i + 1) = o + 1 + i by omega]
        exact List.mem_cons_of_mem _ h3
theorem al_entry (w : aw_T) (As : List av_T) {n : Nat} {L : al_T} (hn : (al_sl As).length ≤ n) (hL : al_en As n = L) : al_R w ((lg_sl (As.map (av_v w)) ++ List.replicate (n - (lg_sl (As.map (av_v w))).length) Slot.unset).toArray) n L := by
  subst hL
  have h := lv_entry (As.map (av_v w)) (n := n) (by rw [al_sl_len]; exact hn)
  refine ⟨by simp [al_en]; omega, h.1, h.2.1, fun q hq => h.2.2 q ?_⟩
  obtain ⟨j, x⟩ := q
  obtain ⟨u, hu, rfl⟩ := al_mem.mp hq
  have hj : (al_sl As)[j]? = some (some u) := by
    by_cases e : j < (al_sl As).length
    · rw [al_en, List.getElem?_append_left e] at hu
      exact hu
    · rw [al_en, List.getElem?_append_right (by omega)] at hu
      have := List.mem_of_getElem? hu
      rw [List.mem_replicate] at this
      cases this.2
  have := al_arg w As 0 j u hj
  simpa using this
-- ===== methods, the judgement =====
abbrev am_T : Type := MethodName × (ByteArray × (Nat × Option FieldType))
def ad_D (M : am_T) (pc : Nat) (i : Instr) (len n : Nat) : Prop := decode M.2.1 pc = .ok (i, len) ∧ n = pc + len
def aw_tys (w : aw_T) : List (ClassId × FieldType) := [(aw_A w 0, .int), (aw_A w 1, .byte), (aw_A w 2, .boolean), (aw_A w 3, .long), (aw_A w 4, .array .int)]
def aw_K (w : aw_T) (U : State) : Prop := va_K (aw_D w) cs_all (aw_tys w) U ∧ ∀ x ∈ tt_n, va_Nw x U
def aw_X (w : aw_T) (U : State) (H : Heap) : Prop := va_X (aw_b w) (aw_L w) (aw_x w) U H ∧ aw_b w < aw_o w
def aw_N (w : aw_T) : Nat → Prop := fun q => aw_o w ≤ q
theorem tt_isN_of {x : Cond} (h : x ∈ tt_n) : tt_isN x = true := (List.mem_filter.mp h).2
theorem tt_tab {x : Cond} (h : tt_isN x = true) : x.onTables = true := by
  cases x <;> first | rfl | (simp [tt_isN] at h)
theorem tt_warm {x : Cond} (h : tt_isN x = true) {s U : State} (hW : s.WarmedH U.vm) (hZ : va_Nw x s) : va_Nw x U := by
  cases x <;> first | exact va_Nw.warmF hW hZ | exact va_Nw.warmM hW hZ | (simp [tt_isN] at h)
theorem aw_K.warm {w : aw_T} {s U : State} (h : aw_K w s) (hW : s.WarmedH U.vm) : aw_K w U := ⟨va_K.moved hW.alike h.1, fun x hx => tt_warm (tt_isN_of hx) hW (h.2 x hx)⟩
theorem aw_K.same {w : aw_T} {s U : State} (h : aw_K w s) (hvm : s.vm = U.vm) : aw_K w U := ⟨va_K.moved (by rw [hvm]; exact Vm.Alike.refl _) h.1, fun x hx => (h.2 x hx).same (tt_tab (tt_isN_of hx)) hvm⟩
theorem aw_X.to {w : aw_T} {u U : State} {H : Heap} (h : aw_X w u H) (hvm : u.vm.Alike U.vm) : aw_X w U H := ⟨va_X.moved hvm h.1, h.2⟩
def aw_C (w : aw_T) (M : am_T) (d : Nat) (p : Program) (R : Room) (s : State) (m : MethodId) (args : Array Value) (meth : Method) (c : Code) : Prop :=
  p.tables.exec = Jvm.exec ∧ c.code = M.2.1 ∧ meth.sig.returnType = M.2.2.2 ∧ c.maxLocals = M.2.2.1 ∧ s.vm.findClass M.1.cls = some m.cls ∧ (∀ x ∈ tt_g, x.before args s = true) ∧ aw_K w s ∧ meth.locks = false ∧ meth.name = M.1.name ∧ d ≤ R.frames ∧ 60 * d + 20 ≤ R.locals ∧ aw_X w s s.heap ∧ aw_o w ≤ s.heap.size
def am_ret (M : am_T) (pc : Nat) (r : Option av_T) : Prop :=
  (∃ a : Int, r = some (av_i a) ∧ decode M.2.1 pc = .ok (.ireturn, 1) ∧ (M.2.2.2 = some .int ∨ (M.2.2.2 = some .boolean ∧ (a = 0 ∨ a = 1)))) ∨
  (∃ a : Int, r = some (av_l a) ∧ decode M.2.1 pc = .ok (.lreturn, 1) ∧ M.2.2.2 = some .long) ∨
  (∃ q : Option Nat, r = some (av_q q) ∧ decode M.2.1 pc = .ok (.areturn, 1) ∧ ∃ n, M.2.2.2 = some (.object n)) ∨
  (r = none ∧ decode M.2.1 pc = .ok (.return_, 1) ∧ M.2.2.2 = none)
abbrev ap_T : Type := Option av_T → ah_T → Prop
def aw_E (w : aw_T) (M : am_T) (P : ap_T) (p : Program) (e : Env) (R : Room) (s : State) (m : MethodId) (args : Array Value) (below : List Frame) (meth : Method) (c : Code) (Q : State → Prop) : Prop :=
  ∀ (H : Heap) (locs : List Loc) (cells slots : Nat) (ls : Array Slot) (pc : Nat) (r : Option av_T) (h : ah_T), ah_R w h H → va_S (aw_N w) s.heap H locs → P r h → cells ≤ R.cells → slots ≤ R.slots → am_ret M pc r →
    W p (aw_l w) e R s m args below meth c H locs cells slots Q (F0 m pc ls (r.toList.map (av_v w)))
/-- from pc on, with these locals, this stack and this heap, the method returns with P; it makes at most kc cells of ks slots more -/
def aw_W (w : aw_T) (M : am_T) (d : Nat) (P : ap_T) (pc : Nat) (L : al_T) (st : List av_T) (h : ah_T) (kc ks : Nat) : Prop :=
  ∀ (p : Program) (e : Env) (R : Room) (s : State) (m : MethodId) (args : Array Value) (below : List Frame) (meth : Method) (c : Code) (Q : State → Prop), aw_C w M d p R s m args meth c → aw_E w M P p e R s m args below meth c Q →
    ∀ (H : Heap) (locs : List Loc) (cells slots : Nat) (ls : Array Slot), ah_R w h H → va_S (aw_N w) s.heap H locs → al_R w ls M.2.2.1 L → cells + kc ≤ R.cells → slots + ks ≤ R.slots →
      W p (aw_l w) e R s m args below meth c H locs cells slots Q (F0 m pc ls (st.map (av_v w)))
def am_rm (d mc ms : Nat) : Room := { frames := d, cells := mc, slots := ms, locals := 60 * d + 20 }
def am_Pc (w : aw_T) (As : List av_T) (h : ah_T) : Array Value → State → Prop := fun v U => v = (As.map (av_v w)).toArray ∧ aw_K w U ∧ ah_R w h U.heap ∧ aw_X w U U.heap
def am_Qc (w : aw_T) (P : ap_T) : Array Value → State → Outcome → State → Prop := fun _ st oc t => (∃ (r : Option av_T) (h : ah_T), oc = .returned (r.map (av_v w)) ∧ P r h ∧ ah_R w h t.heap) ∧ va_F (aw_N w) st t
/-- the method's contract at these arguments and this heap -/
def am_M (w : aw_T) (M : am_T) (d : Nat) (As : List av_T) (h : ah_T) (mc ms : Nat) (P : ap_T) : Prop :=
  Met (aw_l w) M.1 (Cond.code M.1 M.2.1 M.2.2.1 M.2.2.2 :: tt_g) (am_rm d mc ms) (am_Pc w As h) (am_Qc w P) mc ms (aw_N w)
theorem aw_ret {w : aw_T} {M : am_T} {P : ap_T} {p : Program} {e : Env} {R : Room} {s : State} {m : MethodId} {args : Array Value} {below : List Frame} {meth : Method} {c : Code} {d : Nat} (hC : aw_C w M d p R s m args meth c) : aw_E w M P p e R s m args below meth c (MQ below (am_Qc w P) args s R.cells R.slots (aw_N w)) := by
  intro H locs cells slots ls pc r h hH hS hP hc hs hr
  obtain ⟨hx, hb, hrt, hml, hown, hts, hK, hlk, -⟩ := hC
  refine W.widen hc hs ?_
  have hq : ∀ t : State, t.heap = H → s.WarmedH t.vm → am_Qc w P args s (.returned (r.map (av_v w))) t := fun t ht _ => ⟨⟨r, h, rfl, hP, by rw [ht]; exact hH⟩, hS.F ht⟩
  have hf : ∀ q ∈ locs, aw_N w q.base := hS.2.2
  rcases hr with ⟨a, rfl, hd, hr | ⟨hr, ha⟩⟩ | ⟨a, rfl, hd, hr⟩ | ⟨q, rfl, hd, n, hr⟩ | ⟨rfl, hd, hr⟩
  · exact W.iret hx hb (hrt.trans hr) hq hf hd
  · refine W.zret hx hb (hrt.trans hr) ?_ hq hf hd
    rcases ha with rfl | rfl <;> rfl
  · exact W.lret hx hb (hrt.trans hr) hq hf hd
  · rcases q with _ | k
    · exact W.aret hx hb (hrt.trans hr) (Or.inl ⟨n, rfl⟩) (Or.inl rfl) hq hf hd
    · exact W.aret hx hb (hrt.trans hr) (Or.inl ⟨n, rfl⟩) (Or.inr ⟨_, rfl⟩) hq hf hd
  · exact W.vret hx hb (hrt.trans hr) hq hf hd
theorem am_intro {w : aw_T} {M : am_T} {d : Nat} {As : List av_T} {h : ah_T} {mc ms : Nat} {P : ap_T} (L : al_T) (hy : plainName M.1.cls = true) (hn : (al_sl As).length ≤ M.2.2.1) (hL : al_en As M.2.2.1 = L) (k : aw_W w M d P 0 L [] h mc ms) : am_M w M d As h mc ms P := by
  refine Met.ofW (cc := M.2.1) (maxL := M.2.2.1) (ret := M.2.2.2) hy rfl ?_
  intro p e s m args below meth c s₁ B hml hv
  obtain ⟨rfl, hK, hH, hX⟩ := hv
  have hts := atoms_spec (ws := Cond.code M.1 M.2.1 M.2.2.1 M.2.2.2 :: tt_g) B.pre
  have hC : aw_C w M d p (am_rm d mc ms) s m (As.map (av_v w)).toArray meth c := ⟨B.exec, B.bytes, B.returns, hml, findClass_of_methodNamed B.named, fun x hx => hts x (List.mem_cons_of_mem _ hx), hK, B.notSynchronized, (name_of_methodNamed B.named B.method).1, Nat.le_refl _, Nat.le_refl _, hX, by rw [hH.1]; omega⟩
  rw [lg_entry_eq]
  exact k p e (am_rm d mc ms) s m _ below meth c _ hC (aw_ret hC) s.heap [] 0 0 _ hH va_S.rf (al_entry w As hn hL) (by show 0 + mc ≤ mc; omega) (by show 0 + ms ≤ ms; omega)
end
section
theorem ai_t {a : Int} (h : -2147483648 ≤ a ∧ a < 2147483648) : (Int32.ofInt a).toInt = a := Int32.toInt_ofInt_of_le (by omega) (by omega)
theorem ai_lt {a b : Int} (ha : -2147483648 ≤ a ∧ a < 2147483648) (hb : -2147483648 ≤ b ∧ b < 2147483648) : Int32.ofInt a < Int32.ofInt b ↔ a < b := by rw [Int32.lt_iff_toInt_lt, ai_t ha, ai_t hb]
theorem ai_le {a b : Int} (ha : -2147483648 ≤ a ∧ a < 2147483648) (hb : -2147483648 ≤ b ∧ b < 2147483648) : Int32.ofInt a ≤ Int32.ofInt b ↔ a ≤ b := by rw [Int32.le_iff_toInt_le, ai_t ha, ai_t hb]
theorem ai_eq {a b : Int} (ha : -2147483648 ≤ a ∧ a < 2147483648) (hb : -2147483648 ≤ b ∧ b < 2147483648) : Int32.ofInt a = Int32.ofInt b ↔ a = b := by rw [← Int32.toInt_inj, ai_t ha, ai_t hb]
theorem ai_0 : Int32.ofInt 0 = 0 := rfl
theorem ai_div {a b : Int} (ha : -2147483648 ≤ a ∧ a < 2147483648) (hb : -2147483648 ≤ b ∧ b < 2147483648) : Int32.ofInt (a.tdiv b) = Int32.ofInt a / Int32.ofInt b := by
  rw [Int32.ofInt_eq_iff_bmod_eq_toInt, Int32.toInt_div, ai_t ha, ai_t hb]
theorem ai_ne0 {a : Int} (ha : -2147483648 ≤ a ∧ a < 2147483648) (h : a ≠ 0) : ¬ Int32.ofInt a = 0 := by
  rw [← ai_0, ai_eq ha (by omega)]
  exact h
theorem ai_rem {a b : Int} (ha : -2147483648 ≤ a ∧ a < 2147483648) (hb : -2147483648 ≤ b ∧ b < 2147483648) : Int32.ofInt (a.tmod b) = Int32.ofInt a - Int32.ofInt a / Int32.ofInt b * Int32.ofInt b := by
  rw [Int.tmod_def, Int32.ofInt_sub, Int32.ofInt_mul, ai_div ha hb, Int32.mul_comm]
theorem al_t {a : Int} (h : -9223372036854775808 ≤ a ∧ a < 9223372036854775808) : (Int64.ofInt a).toInt = a := Int64.toInt_ofInt_of_le (by omega) (by omega)
theorem al_div {a b : Int} (ha : -9223372036854775808 ≤ a ∧ a < 9223372036854775808) (hb : -9223372036854775808 ≤ b ∧ b < 9223372036854775808) : Int64.ofInt (a.tdiv b) = Int64.ofInt a / Int64.ofInt b := by
  rw [← Int64.ofInt_toInt (Int64.ofInt a / Int64.ofInt b), Int64.toInt_div, al_t ha, al_t hb]
  apply Int64.toInt_inj.mp
  rw [Int64.toInt_ofInt, Int64.toInt_ofInt]
  simp [Int64.size, Int.bmod_bmod]
theorem al_ne0 {a : Int} (ha : -9223372036854775808 ≤ a ∧ a < 9223372036854775808) (h : a ≠ 0) : ¬ Int64.ofInt a = 0 := by
  intro q
  have := congrArg Int64.toInt q
  rw [al_t ha] at this
  exact h this
theorem al_lt {a b : Int} (ha : -9223372036854775808 ≤ a ∧ a < 9223372036854775808) (hb : -9223372036854775808 ≤ b ∧ b < 9223372036854775808) : Int64.ofInt a < Int64.ofInt b ↔ a < b := by rw [Int64.lt_iff_toInt_lt, al_t ha, al_t hb]
theorem al_eq {a b : Int} (ha : -9223372036854775808 ≤ a ∧ a < 9223372036854775808) (hb : -9223372036854775808 ≤ b ∧ b < 9223372036854775808) : Int64.ofInt a = Int64.ofInt b ↔ a = b := by rw [← Int64.toInt_inj, al_t ha, al_t hb]
def ai_cmp (a b : Int) : Int := if b < a then 1 else if a = b then 0 else -1
theorem al_cmp {a b : Int} (ha : -9223372036854775808 ≤ a ∧ a < 9223372036854775808) (hb : -9223372036854775808 ≤ b ∧ b < 9223372036854775808) : lg_cmp (Int64.ofInt a) (Int64.ofInt b) = Int32.ofInt (ai_cmp a b) := by
  unfold lg_cmp ai_cmp
  simp only [al_lt hb ha, al_eq ha hb]
  by_cases h1 : b < a
  · simp [h1]
  · by_cases h2 : a = b
    · simp [h1, h2]
    · simp [h1, h2]
theorem ai_in {a : Int} {n : Nat} (h : 0 ≤ a ∧ a < n) (hn : n ≤ 2147483648) : vp_in (Int32.ofInt a) n ∧ (Int32.ofInt a).toNatClampNeg = a.toNat := by
  have h1 : (Int32.ofInt a).toNatClampNeg = a.toNat := Int32.toNatClampNeg_ofInt_of_le (by omega) (by omega)
  refine ⟨?_, h1⟩
  unfold vp_in
  rw [h1, ← ai_0, ai_lt (by omega) (by omega)]
  omega

theorem ag_iconst {w : aw_T} {M : am_T} {d : Nat} {P : ap_T} {pc n : Nat} {L : al_T} {st : List av_T} {h : ah_T} {kc ks : Nat} {a : Int} (hd : ad_D M pc (.iconst a) 1 n) (k : aw_W w M d P n L (av_i a :: st) h kc ks) : aw_W w M d P pc L (st) h kc ks := by
  intro p e R s m args below meth c Q hC hQ H locs cells slots ls hH hS hL hk1 hk2
  obtain ⟨hd, rfl⟩ := hd
  exact lv_iconst hC.1 hC.2.1 hd rfl (k p e R s m args below meth c Q hC hQ H locs cells slots ls hH hS hL hk1 hk2)
theorem ag_bipush {w : aw_T} {M : am_T} {d : Nat} {P : ap_T} {pc n : Nat} {L : al_T} {st : List av_T} {h : ah_T} {kc ks : Nat} {a : Int} (hv : (Int8.ofInt a).toInt32 = Int32.ofInt a) (hd : ad_D M pc (.bipush a) 2 n) (k : aw_W w M d P n L (av_i a :: st) h kc ks) : aw_W w M d P pc L (st) h kc ks := by
  intro p e R s m args below meth c Q hC hQ H locs cells slots ls hH hS hL hk1 hk2
  obtain ⟨hd, rfl⟩ := hd
  exact lv_bipush hC.1 hC.2.1 hd hv (k p e R s m args below meth c Q hC hQ H locs cells slots ls hH hS hL hk1 hk2)
theorem ag_sipush {w : aw_T} {M : am_T} {d : Nat} {P : ap_T} {pc n : Nat} {L : al_T} {st : List av_T} {h : ah_T} {kc ks : Nat} {a : Int} (hv : (Int16.ofInt a).toInt32 = Int32.ofInt a) (hd : ad_D M pc (.sipush a) 3 n) (k : aw_W w M d P n L (av_i a :: st) h kc ks) : aw_W w M d P pc L (st) h kc ks := by
  intro p e R s m args below meth c Q hC hQ H locs cells slots ls hH hS hL hk1 hk2
  obtain ⟨hd, rfl⟩ := hd
  exact lv_sipush hC.1 hC.2.1 hd hv (k p e R s m args below meth c Q hC hQ H locs cells slots ls hH hS hL hk1 hk2)
theorem ag_lconst {w : aw_T} {M : am_T} {d : Nat} {P : ap_T} {pc n : Nat} {L : al_T} {st : List av_T} {h : ah_T} {kc ks : Nat} {j : Fin 2} {a : Int} (hv : Int64.ofNat (j : Nat) = Int64.ofInt a) (hd : ad_D M pc (.lconst j) 1 n) (k : aw_W w M d P n L (av_l a :: st) h kc ks) : aw_W w M d P pc L (st) h kc ks := by
  intro p e R s m args below meth c Q hC hQ H locs cells slots ls hH hS hL hk1 hk2
  obtain ⟨hd, rfl⟩ := hd
  exact lv_lconst hC.1 hC.2.1 hd hv (k p e R s m args below meth c Q hC hQ H locs cells slots ls hH hS hL hk1 hk2)
theorem ag_null {w : aw_T} {M : am_T} {d : Nat} {P : ap_T} {pc n : Nat} {L : al_T} {st : List av_T} {h : ah_T} {kc ks : Nat}  (hd : ad_D M pc .aconst_null 1 n) (k : aw_W w M d P n L (av_n :: st) h kc ks) : aw_W w M d P pc L (st) h kc ks := by
  intro p e R s m args below meth c Q hC hQ H locs cells slots ls hH hS hL hk1 hk2
  obtain ⟨hd, rfl⟩ := hd
  exact lv_null hC.1 hC.2.1 hd (k p e R s m args below meth c Q hC hQ H locs cells slots ls hH hS hL hk1 hk2)
theorem ag_ldc {w : aw_T} {M : am_T} {d : Nat} {P : ap_T} {pc n : Nat} {L : al_T} {st : List av_T} {h : ah_T} {kc ks : Nat} {idx : Nat} {v : Int32} {a : Int} (hw : Cond.constant M.1.cls idx v ∈ tt_g) (hv : v = Int32.ofInt a) (hd : ad_D M pc (.ldc idx) 2 n) (k : aw_W w M d P n L (av_i a :: st) h kc ks) : aw_W w M d P pc L (st) h kc ks := by
  intro p e R s m args below meth c Q hC hQ H locs cells slots ls hH hS hL hk1 hk2
  obtain ⟨hd, rfl⟩ := hd
  subst hv
  exact lv_ldc hC.1 hC.2.1 hC.2.2.2.2.1 (hC.2.2.2.2.2.1 _ hw) hd (k p e R s m args below meth c Q hC hQ H locs cells slots ls hH hS hL hk1 hk2)
theorem ag_ldcw {w : aw_T} {M : am_T} {d : Nat} {P : ap_T} {pc n : Nat} {L : al_T} {st : List av_T} {h : ah_T} {kc ks : Nat} {idx : Nat} {v : Int32} {a : Int} (hw : Cond.constant M.1.cls idx v ∈ tt_g) (hv : v = Int32.ofInt a) (hd : ad_D M pc (.ldc_w idx) 3 n) (k : aw_W w M d P n L (av_i a :: st) h kc ks) : aw_W w M d P pc L (st) h kc ks := by
  intro p e R s m args below meth c Q hC hQ H locs cells slots ls hH hS hL hk1 hk2
  obtain ⟨hd, rfl⟩ := hd
  subst hv
  exact lv_ldcw hC.1 hC.2.1 hC.2.2.2.2.1 (hC.2.2.2.2.2.1 _ hw) hd (k p e R s m args below meth c Q hC hQ H locs cells slots ls hH hS hL hk1 hk2)
theorem ag_ldc2 {w : aw_T} {M : am_T} {d : Nat} {P : ap_T} {pc n : Nat} {L : al_T} {st : List av_T} {h : ah_T} {kc ks : Nat} {idx : Nat} {v : Int64} {a : Int} (hw : Cond.constantLong M.1.cls idx v ∈ tt_g) (hv : v = Int64.ofInt a) (hd : ad_D M pc (.ldc2_w idx) 3 n) (k : aw_W w M d P n L (av_l a :: st) h kc ks) : aw_W w M d P pc L (st) h kc ks := by
  intro p e R s m args below meth c Q hC hQ H locs cells slots ls hH hS hL hk1 hk2
  obtain ⟨hd, rfl⟩ := hd
  subst hv
  exact lv_ldc2 hC.1 hC.2.1 hC.2.2.2.2.1 (hC.2.2.2.2.2.1 _ hw) hd (k p e R s m args below meth c Q hC hQ H locs cells slots ls hH hS hL hk1 hk2)
theorem ag_iload_n {w : aw_T} {M : am_T} {d : Nat} {P : ap_T} {pc n : Nat} {L : al_T} {st : List av_T} {h : ah_T} {kc ks : Nat} {j : Fin 4} {a : Int} (hl : L[(j : Nat)]? = some (some (av_i a))) (hd : ad_D M pc (.iload_n j) 1 n) (k : aw_W w M d P n L (av_i a :: st) h kc ks) : aw_W w M d P pc L (st) h kc ks := by
  intro p e R s m args below meth c Q hC hQ H locs cells slots ls hH hS hL hk1 hk2
  obtain ⟨hd, rfl⟩ := hd
  exact lv_iload_n hC.1 hC.2.1 hd rfl (al_get hL hl) (k p e R s m args below meth c Q hC hQ H locs cells slots ls hH hS hL hk1 hk2)
theorem ag_iload {w : aw_T} {M : am_T} {d : Nat} {P : ap_T} {pc n : Nat} {L : al_T} {st : List av_T} {h : ah_T} {kc ks : Nat} {j : Nat} {a : Int} (hl : L[j]? = some (some (av_i a))) (hd : ad_D M pc (.iload j) 2 n) (k : aw_W w M d P n L (av_i a :: st) h kc ks) : aw_W w M d P pc L (st) h kc ks := by
  intro p e R s m args below meth c Q hC hQ H locs cells slots ls hH hS hL hk1 hk2
  obtain ⟨hd, rfl⟩ := hd
  exact lv_iload hC.1 hC.2.1 hd (al_get hL hl) (k p e R s m args below meth c Q hC hQ H locs cells slots ls hH hS hL hk1 hk2)
theorem ag_lload_n {w : aw_T} {M : am_T} {d : Nat} {P : ap_T} {pc n : Nat} {L : al_T} {st : List av_T} {h : ah_T} {kc ks : Nat} {j : Fin 4} {a : Int} (hl : L[(j : Nat)]? = some (some (av_l a))) (hd : ad_D M pc (.lload_n j) 1 n) (k : aw_W w M d P n L (av_l a :: st) h kc ks) : aw_W w M d P pc L (st) h kc ks := by
  intro p e R s m args below meth c Q hC hQ H locs cells slots ls hH hS hL hk1 hk2
  obtain ⟨hd, rfl⟩ := hd
  exact lv_lload_n hC.1 hC.2.1 hd rfl (al_get hL hl) (k p e R s m args below meth c Q hC hQ H locs cells slots ls hH hS hL hk1 hk2)
theorem ag_lload {w : aw_T} {M : am_T} {d : Nat} {P : ap_T} {pc n : Nat} {L : al_T} {st : List av_T} {h : ah_T} {kc ks : Nat} {j : Nat} {a : Int} (hl : L[j]? = some (some (av_l a))) (hd : ad_D M pc (.lload j) 2 n) (k : aw_W w M d P n L (av_l a :: st) h kc ks) : aw_W w M d P pc L (st) h kc ks := by
  intro p e R s m args below meth c Q hC hQ H locs cells slots ls hH hS hL hk1 hk2
  obtain ⟨hd, rfl⟩ := hd
  exact lv_lload hC.1 hC.2.1 hd (al_get hL hl) (k p e R s m args below meth c Q hC hQ H locs cells slots ls hH hS hL hk1 hk2)
theorem ag_aload_n {w : aw_T} {M : am_T} {d : Nat} {P : ap_T} {pc n : Nat} {L : al_T} {st : List av_T} {h : ah_T} {kc ks : Nat} {j : Fin 4} {q : Option Nat} (hl : L[(j : Nat)]? = some (some (av_q q))) (hd : ad_D M pc (.aload_n j) 1 n) (k : aw_W w M d P n L (av_q q :: st) h kc ks) : aw_W w M d P pc L (st) h kc ks := by
  intro p e R s m args below meth c Q hC hQ H locs cells slots ls hH hS hL hk1 hk2
  obtain ⟨hd, rfl⟩ := hd
  rcases q with _ | q
  · exact lv_aload_nN hC.1 hC.2.1 hd rfl (al_get hL hl) (k p e R s m args below meth c Q hC hQ H locs cells slots ls hH hS hL hk1 hk2)
  · exact lv_aload_n hC.1 hC.2.1 hd rfl (al_get hL hl) (k p e R s m args below meth c Q hC hQ H locs cells slots ls hH hS hL hk1 hk2)
theorem ag_aload {w : aw_T} {M : am_T} {d : Nat} {P : ap_T} {pc n : Nat} {L : al_T} {st : List av_T} {h : ah_T} {kc ks : Nat} {j : Nat} {q : Option Nat} (hl : L[j]? = some (some (av_q q))) (hd : ad_D M pc (.aload j) 2 n) (k : aw_W w M d P n L (av_q q :: st) h kc ks) : aw_W w M d P pc L (st) h kc ks := by
  intro p e R s m args below meth c Q hC hQ H locs cells slots ls hH hS hL hk1 hk2
  obtain ⟨hd, rfl⟩ := hd
  rcases q with _ | q
  · exact lv_aloadN hC.1 hC.2.1 hd (al_get hL hl) (k p e R s m args below meth c Q hC hQ H locs cells slots ls hH hS hL hk1 hk2)
  · exact lv_aload hC.1 hC.2.1 hd (al_get hL hl) (k p e R s m args below meth c Q hC hQ H locs cells slots ls hH hS hL hk1 hk2)
theorem ag_aload_s {w : aw_T} {M : am_T} {d : Nat} {P : ap_T} {pc n : Nat} {L : al_T} {st : List av_T} {h : ah_T} {kc ks : Nat} {j : Fin 4} (hl : L[(j : Nat)]? = some (some av_s)) (hd : ad_D M pc (.aload_n j) 1 n) (k : aw_W w M d P n L (av_s :: st) h kc ks) : aw_W w M d P pc L (st) h kc ks := by
  intro p e R s m args below meth c Q hC hQ H locs cells slots ls hH hS hL hk1 hk2
  obtain ⟨hd, rfl⟩ := hd
  exact lv_aload_n hC.1 hC.2.1 hd rfl (al_get hL hl) (k p e R s m args below meth c Q hC hQ H locs cells slots ls hH hS hL hk1 hk2)
theorem ag_istore_n {w : aw_T} {M : am_T} {d : Nat} {P : ap_T} {pc n : Nat} {L : al_T} {st : List av_T} {h : ah_T} {kc ks : Nat} {L' : al_T} {j : Fin 4} {a : Int} (hl : L.set (j : Nat) (some (av_i a)) = L') (ho : al_ok L (j : Nat) = true) (hi : (j : Nat) < M.2.2.1) (hd : ad_D M pc (.istore_n j) 1 n) (k : aw_W w M d P n L' st h kc ks) : aw_W w M d P pc L (av_i a :: st) h kc ks := by
  intro p e R s m args below meth c Q hC hQ H locs cells slots ls hH hS hL hk1 hk2
  obtain ⟨hd, rfl⟩ := hd
  exact lv_istore_n hC.1 hC.2.1 hd rfl hL.2 hi rfl (fun ls hl2 => k p e R s m args below meth c Q hC hQ H locs cells slots ls hH hS (al_put1 hL.1 ho hl hl2) hk1 hk2)
theorem ag_istore {w : aw_T} {M : am_T} {d : Nat} {P : ap_T} {pc n : Nat} {L : al_T} {st : List av_T} {h : ah_T} {kc ks : Nat} {L' : al_T} {j : Nat} {a : Int} (hl : L.set j (some (av_i a)) = L') (ho : al_ok L j = true) (hi : j < M.2.2.1) (hd : ad_D M pc (.istore j) 2 n) (k : aw_W w M d P n L' st h kc ks) : aw_W w M d P pc L (av_i a :: st) h kc ks := by
  intro p e R s m args below meth c Q hC hQ H locs cells slots ls hH hS hL hk1 hk2
  obtain ⟨hd, rfl⟩ := hd
  exact lv_istore hC.1 hC.2.1 hd hL.2 hi rfl (fun ls hl2 => k p e R s m args below meth c Q hC hQ H locs cells slots ls hH hS (al_put1 hL.1 ho hl hl2) hk1 hk2)
theorem ag_lstore_n {w : aw_T} {M : am_T} {d : Nat} {P : ap_T} {pc n : Nat} {L : al_T} {st : List av_T} {h : ah_T} {kc ks : Nat} {L' : al_T} {j : Fin 4} {a : Int} (hl : (L.set (j : Nat) (some (av_l a))).set ((j : Nat) + 1) none = L') (ho : al_ok L (j : Nat) = true) (hi : (j : Nat) + 1 < M.2.2.1) (hd : ad_D M pc (.lstore_n j) 1 n) (k : aw_W w M d P n L' st h kc ks) : aw_W w M d P pc L (av_l a :: st) h kc ks := by
  intro p e R s m args below meth c Q hC hQ H locs cells slots ls hH hS hL hk1 hk2
  obtain ⟨hd, rfl⟩ := hd
  exact lv_lstore_n hC.1 hC.2.1 hd rfl hL.2 hi rfl (fun ls hl2 => k p e R s m args below meth c Q hC hQ H locs cells slots ls hH hS (al_put2 hL.1 ho hl hl2) hk1 hk2)
theorem ag_lstore {w : aw_T} {M : am_T} {d : Nat} {P : ap_T} {pc n : Nat} {L : al_T} {st : List av_T} {h : ah_T} {kc ks : Nat} {L' : al_T} {j : Nat} {a : Int} (hl : (L.set j (some (av_l a))).set (j + 1) none = L') (ho : al_ok L j = true) (hi : j + 1 < M.2.2.1) (hd : ad_D M pc (.lstore j) 2 n) (k : aw_W w M d P n L' st h kc ks) : aw_W w M d P pc L (av_l a :: st) h kc ks := by
  intro p e R s m args below meth c Q hC hQ H locs cells slots ls hH hS hL hk1 hk2
  obtain ⟨hd, rfl⟩ := hd
  exact lv_lstore hC.1 hC.2.1 hd hL.2 hi rfl (fun ls hl2 => k p e R s m args below meth c Q hC hQ H locs cells slots ls hH hS (al_put2 hL.1 ho hl hl2) hk1 hk2)
theorem ag_astore_n {w : aw_T} {M : am_T} {d : Nat} {P : ap_T} {pc n : Nat} {L : al_T} {st : List av_T} {h : ah_T} {kc ks : Nat} {L' : al_T} {j : Fin 4} {q : Option Nat} (hl : L.set (j : Nat) (some (av_q q)) = L') (ho : al_ok L (j : Nat) = true) (hi : (j : Nat) < M.2.2.1) (hd : ad_D M pc (.astore_n j) 1 n) (k : aw_W w M d P n L' st h kc ks) : aw_W w M d P pc L (av_q q :: st) h kc ks := by
  intro p e R s m args below meth c Q hC hQ H locs cells slots ls hH hS hL hk1 hk2
  obtain ⟨hd, rfl⟩ := hd
  rcases q with _ | q
  · exact lv_astore_nN hC.1 hC.2.1 hd rfl hL.2 hi rfl (fun ls hl2 => k p e R s m args below meth c Q hC hQ H locs cells slots ls hH hS (al_put1 hL.1 ho hl hl2) hk1 hk2)
  · exact lv_astore_n hC.1 hC.2.1 hd rfl hL.2 hi rfl (fun ls hl2 => k p e R s m args below meth c Q hC hQ H locs cells slots ls hH hS (al_put1 hL.1 ho hl hl2) hk1 hk2)
theorem ag_astore {w : aw_T} {M : am_T} {d : Nat} {P : ap_T} {pc n : Nat} {L : al_T} {st : List av_T} {h : ah_T} {kc ks : Nat} {L' : al_T} {j : Nat} {q : Option Nat} (hl : L.set j (some (av_q q)) = L') (ho : al_ok L j = true) (hi : j < M.2.2.1) (hd : ad_D M pc (.astore j) 2 n) (k : aw_W w M d P n L' st h kc ks) : aw_W w M d P pc L (av_q q :: st) h kc ks := by
  intro p e R s m args below meth c Q hC hQ H locs cells slots ls hH hS hL hk1 hk2
  obtain ⟨hd, rfl⟩ := hd
  rcases q with _ | q
  · exact lv_astoreN hC.1 hC.2.1 hd hL.2 hi rfl (fun ls hl2 => k p e R s m args below meth c Q hC hQ H locs cells slots ls hH hS (al_put1 hL.1 ho hl hl2) hk1 hk2)
  · exact lv_astore hC.1 hC.2.1 hd hL.2 hi rfl (fun ls hl2 => k p e R s m args below meth c Q hC hQ H locs cells slots ls hH hS (al_put1 hL.1 ho hl hl2) hk1 hk2)
theorem ag_iinc {w : aw_T} {M : am_T} {d : Nat} {P : ap_T} {pc n : Nat} {L : al_T} {st : List av_T} {h : ah_T} {kc ks : Nat} {L' : al_T} {j : Nat} {a b : Int} (hg : L[j]? = some (some (av_i a))) (hl : L.set j (some (av_i (a + b))) = L') (ho : al_ok L j = true) (hi : j < M.2.2.1) (hd : ad_D M pc (.iinc j b) 3 n) (k : aw_W w M d P n L' st h kc ks) : aw_W w M d P pc L st h kc ks := by
  intro p e R s m args below meth c Q hC hQ H locs cells slots ls hH hS hL hk1 hk2
  obtain ⟨hd, rfl⟩ := hd
  obtain ⟨q, hq⟩ := List.mem_iff_getElem?.mp (al_mem.mpr ⟨_, hg, rfl⟩ : (j, av_v w (av_i a)) ∈ al_lv w L)
  exact lv_iinc hC.1 hC.2.1 hd hL.2 (k := q) (x := Int32.ofInt a) hq (Int32.ofInt_add a b).symm hi rfl (fun ls hl2 => k p e R s m args below meth c Q hC hQ H locs cells slots ls hH hS (al_put1 hL.1 ho hl hl2) hk1 hk2)
theorem ag_iadd {w : aw_T} {M : am_T} {d : Nat} {P : ap_T} {pc n : Nat} {L : al_T} {st : List av_T} {h : ah_T} {kc ks : Nat} {a b : Int} (hd : ad_D M pc .iadd 1 n) (k : aw_W w M d P n L (av_i (a + b) :: st) h kc ks) : aw_W w M d P pc L (av_i b :: av_i a :: st) h kc ks := by
  intro p e R s m args below meth c Q hC hQ H locs cells slots ls hH hS hL hk1 hk2
  obtain ⟨hd, rfl⟩ := hd
  refine lv_iadd hC.1 hC.2.1 hd ?_
  have kk := k p e R s m args below meth c Q hC hQ H locs cells slots ls hH hS hL hk1 hk2
  simp only [List.map_cons, av_v, Int32.ofInt_add] at kk
  exact kk
theorem ag_isub {w : aw_T} {M : am_T} {d : Nat} {P : ap_T} {pc n : Nat} {L : al_T} {st : List av_T} {h : ah_T} {kc ks : Nat} {a b : Int} (hd : ad_D M pc .isub 1 n) (k : aw_W w M d P n L (av_i (a - b) :: st) h kc ks) : aw_W w M d P pc L (av_i b :: av_i a :: st) h kc ks := by
  intro p e R s m args below meth c Q hC hQ H locs cells slots ls hH hS hL hk1 hk2
  obtain ⟨hd, rfl⟩ := hd
  refine lv_isub hC.1 hC.2.1 hd ?_
  have kk := k p e R s m args below meth c Q hC hQ H locs cells slots ls hH hS hL hk1 hk2
  simp only [List.map_cons, av_v, Int32.ofInt_sub] at kk
  exact kk
theorem ag_imul {w : aw_T} {M : am_T} {d : Nat} {P : ap_T} {pc n : Nat} {L : al_T} {st : List av_T} {h : ah_T} {kc ks : Nat} {a b : Int} (hd : ad_D M pc .imul 1 n) (k : aw_W w M d P n L (av_i (a * b) :: st) h kc ks) : aw_W w M d P pc L (av_i b :: av_i a :: st) h kc ks := by
  intro p e R s m args below meth c Q hC hQ H locs cells slots ls hH hS hL hk1 hk2
  obtain ⟨hd, rfl⟩ := hd
  refine lv_imul hC.1 hC.2.1 hd ?_
  have kk := k p e R s m args below meth c Q hC hQ H locs cells slots ls hH hS hL hk1 hk2
  simp only [List.map_cons, av_v, Int32.ofInt_mul] at kk
  exact kk
theorem ag_idiv {w : aw_T} {M : am_T} {d : Nat} {P : ap_T} {pc n : Nat} {L : al_T} {st : List av_T} {h : ah_T} {kc ks : Nat} {a b : Int} (ha : -2147483648 ≤ a ∧ a < 2147483648) (hb : -2147483648 ≤ b ∧ b < 2147483648) (h0 : b ≠ 0) (hd : ad_D M pc .idiv 1 n) (k : aw_W w M d P n L (av_i (a.tdiv b) :: st) h kc ks) : aw_W w M d P pc L (av_i b :: av_i a :: st) h kc ks := by
  intro p e R s m args below meth c Q hC hQ H locs cells slots ls hH hS hL hk1 hk2
  obtain ⟨hd, rfl⟩ := hd
  refine lv_idiv hC.1 hC.2.1 hd (ai_ne0 hb h0) ?_
  have kk := k p e R s m args below meth c Q hC hQ H locs cells slots ls hH hS hL hk1 hk2
  simp only [List.map_cons, av_v, ai_div ha hb] at kk
  exact kk
theorem ag_irem {w : aw_T} {M : am_T} {d : Nat} {P : ap_T} {pc n : Nat} {L : al_T} {st : List av_T} {h : ah_T} {kc ks : Nat} {a b : Int} (ha : -2147483648 ≤ a ∧ a < 2147483648) (hb : -2147483648 ≤ b ∧ b < 2147483648) (h0 : b ≠ 0) (hd : ad_D M pc .irem 1 n) (k : aw_W w M d P n L (av_i (a.tmod b) :: st) h kc ks) : aw_W w M d P pc L (av_i b :: av_i a :: st) h kc ks := by
  intro p e R s m args below meth c Q hC hQ H locs cells slots ls hH hS hL hk1 hk2
  obtain ⟨hd, rfl⟩ := hd
  refine lv_irem hC.1 hC.2.1 hd (ai_ne0 hb h0) ?_
  have kk := k p e R s m args below meth c Q hC hQ H locs cells slots ls hH hS hL hk1 hk2
  simp only [List.map_cons, av_v, ai_rem ha hb] at kk
  exact kk
theorem ag_iand {w : aw_T} {M : am_T} {d : Nat} {P : ap_T} {pc n : Nat} {L : al_T} {st : List av_T} {h : ah_T} {kc ks : Nat} {a b : Int} (hd : ad_D M pc .iand 1 n) (k : aw_W w M d P n L (av_i ((Int32.ofInt a &&& Int32.ofInt b).toInt) :: st) h kc ks) : aw_W w M d P pc L (av_i b :: av_i a :: st) h kc ks := by
  intro p e R s m args below meth c Q hC hQ H locs cells slots ls hH hS hL hk1 hk2
  obtain ⟨hd, rfl⟩ := hd
  refine lv_iand hC.1 hC.2.1 hd ?_
  have kk := k p e R s m args below meth c Q hC hQ H locs cells slots ls hH hS hL hk1 hk2
  simp only [List.map_cons, av_v, Int32.ofInt_toInt] at kk
  exact kk
theorem ag_ior {w : aw_T} {M : am_T} {d : Nat} {P : ap_T} {pc n : Nat} {L : al_T} {st : List av_T} {h : ah_T} {kc ks : Nat} {a b : Int} (hd : ad_D M pc .ior 1 n) (k : aw_W w M d P n L (av_i ((Int32.ofInt a ||| Int32.ofInt b).toInt) :: st) h kc ks) : aw_W w M d P pc L (av_i b :: av_i a :: st) h kc ks := by
  intro p e R s m args below meth c Q hC hQ H locs cells slots ls hH hS hL hk1 hk2
  obtain ⟨hd, rfl⟩ := hd
  refine lv_ior hC.1 hC.2.1 hd ?_
  have kk := k p e R s m args below meth c Q hC hQ H locs cells slots ls hH hS hL hk1 hk2
  simp only [List.map_cons, av_v, Int32.ofInt_toInt] at kk
  exact kk
theorem ag_ixor {w : aw_T} {M : am_T} {d : Nat} {P : ap_T} {pc n : Nat} {L : al_T} {st : List av_T} {h : ah_T} {kc ks : Nat} {a b : Int} (hd : ad_D M pc .ixor 1 n) (k : aw_W w M d P n L (av_i ((Int32.ofInt a ^^^ Int32.ofInt b).toInt) :: st) h kc ks) : aw_W w M d P pc L (av_i b :: av_i a :: st) h kc ks := by
  intro p e R s m args below meth c Q hC hQ H locs cells slots ls hH hS hL hk1 hk2
  obtain ⟨hd, rfl⟩ := hd
  refine lv_ixor hC.1 hC.2.1 hd ?_
  have kk := k p e R s m args below meth c Q hC hQ H locs cells slots ls hH hS hL hk1 hk2
  simp only [List.map_cons, av_v, Int32.ofInt_toInt] at kk
  exact kk
theorem ag_ishl {w : aw_T} {M : am_T} {d : Nat} {P : ap_T} {pc n : Nat} {L : al_T} {st : List av_T} {h : ah_T} {kc ks : Nat} {a b : Int} (hd : ad_D M pc .ishl 1 n) (k : aw_W w M d P n L (av_i ((Int32.ofInt a <<< (Int32.ofInt b &&& 31)).toInt) :: st) h kc ks) : aw_W w M d P pc L (av_i b :: av_i a :: st) h kc ks := by
  intro p e R s m args below meth c Q hC hQ H locs cells slots ls hH hS hL hk1 hk2
  obtain ⟨hd, rfl⟩ := hd
  refine lv_ishl hC.1 hC.2.1 hd ?_
  have kk := k p e R s m args below meth c Q hC hQ H locs cells slots ls hH hS hL hk1 hk2
  simp only [List.map_cons, av_v, Int32.ofInt_toInt] at kk
  exact kk
theorem ag_ishr {w : aw_T} {M : am_T} {d : Nat} {P : ap_T} {pc n : Nat} {L : al_T} {st : List av_T} {h : ah_T} {kc ks : Nat} {a b : Int} (hd : ad_D M pc .ishr 1 n) (k : aw_W w M d P n L (av_i ((Int32.ofInt a >>> (Int32.ofInt b &&& 31)).toInt) :: st) h kc ks) : aw_W w M d P pc L (av_i b :: av_i a :: st) h kc ks := by
  intro p e R s m args below meth c Q hC hQ H locs cells slots ls hH hS hL hk1 hk2
  obtain ⟨hd, rfl⟩ := hd
  refine lv_ishr hC.1 hC.2.1 hd ?_
  have kk := k p e R s m args below meth c Q hC hQ H locs cells slots ls hH hS hL hk1 hk2
  simp only [List.map_cons, av_v, Int32.ofInt_toInt] at kk
  exact kk
theorem ag_iushr {w : aw_T} {M : am_T} {d : Nat} {P : ap_T} {pc n : Nat} {L : al_T} {st : List av_T} {h : ah_T} {kc ks : Nat} {a b : Int} (hd : ad_D M pc .iushr 1 n) (k : aw_W w M d P n L (av_i ((Int32.ofInt a).toUInt32 >>> ((Int32.ofInt b).toUInt32 &&& Int32.toUInt32 31)).toInt32.toInt :: st) h kc ks) : aw_W w M d P pc L (av_i b :: av_i a :: st) h kc ks := by
  intro p e R s m args below meth c Q hC hQ H locs cells slots ls hH hS hL hk1 hk2
  obtain ⟨hd, rfl⟩ := hd
  refine lv_iushr hC.1 hC.2.1 hd rfl ?_
  have kk := k p e R s m args below meth c Q hC hQ H locs cells slots ls hH hS hL hk1 hk2
  simp only [List.map_cons, av_v, Int32.ofInt_toInt] at kk
  exact kk
theorem ag_ineg {w : aw_T} {M : am_T} {d : Nat} {P : ap_T} {pc n : Nat} {L : al_T} {st : List av_T} {h : ah_T} {kc ks : Nat} {a : Int} (hd : ad_D M pc .ineg 1 n) (k : aw_W w M d P n L (av_i (-a) :: st) h kc ks) : aw_W w M d P pc L (av_i a :: st) h kc ks := by
  intro p e R s m args below meth c Q hC hQ H locs cells slots ls hH hS hL hk1 hk2
  obtain ⟨hd, rfl⟩ := hd
  refine lv_ineg hC.1 hC.2.1 hd ?_
  have kk := k p e R s m args below meth c Q hC hQ H locs cells slots ls hH hS hL hk1 hk2
  simp only [List.map_cons, av_v, Int32.ofInt_neg] at kk
  exact kk
theorem ag_i2b {w : aw_T} {M : am_T} {d : Nat} {P : ap_T} {pc n : Nat} {L : al_T} {st : List av_T} {h : ah_T} {kc ks : Nat} {a : Int} (hd : ad_D M pc .i2b 1 n) (k : aw_W w M d P n L (av_i (Int32.ofInt a).toInt8.toInt32.toInt :: st) h kc ks) : aw_W w M d P pc L (av_i a :: st) h kc ks := by
  intro p e R s m args below meth c Q hC hQ H locs cells slots ls hH hS hL hk1 hk2
  obtain ⟨hd, rfl⟩ := hd
  refine lv_i2b hC.1 hC.2.1 hd rfl ?_
  have kk := k p e R s m args below meth c Q hC hQ H locs cells slots ls hH hS hL hk1 hk2
  simp only [List.map_cons, av_v, Int32.ofInt_toInt] at kk
  exact kk
theorem ag_i2l {w : aw_T} {M : am_T} {d : Nat} {P : ap_T} {pc n : Nat} {L : al_T} {st : List av_T} {h : ah_T} {kc ks : Nat} {a : Int} (ha : -2147483648 ≤ a ∧ a < 2147483648) (hd : ad_D M pc .i2l 1 n) (k : aw_W w M d P n L (av_l a :: st) h kc ks) : aw_W w M d P pc L (av_i a :: st) h kc ks := by
  intro p e R s m args below meth c Q hC hQ H locs cells slots ls hH hS hL hk1 hk2
  obtain ⟨hd, rfl⟩ := hd
  exact lv_i2l hC.1 hC.2.1 hd (Int32.toInt64_ofInt (by show (-2147483648 : Int) ≤ a; omega) (by show a ≤ (2147483647 : Int); omega)) (k p e R s m args below meth c Q hC hQ H locs cells slots ls hH hS hL hk1 hk2)
theorem ag_l2i {w : aw_T} {M : am_T} {d : Nat} {P : ap_T} {pc n : Nat} {L : al_T} {st : List av_T} {h : ah_T} {kc ks : Nat} {a : Int} (hd : ad_D M pc .l2i 1 n) (k : aw_W w M d P n L (av_i a :: st) h kc ks) : aw_W w M d P pc L (av_l a :: st) h kc ks := by
  intro p e R s m args below meth c Q hC hQ H locs cells slots ls hH hS hL hk1 hk2
  obtain ⟨hd, rfl⟩ := hd
  exact lv_l2i hC.1 hC.2.1 hd Int64.toInt32_ofInt (k p e R s m args below meth c Q hC hQ H locs cells slots ls hH hS hL hk1 hk2)
theorem ag_ladd {w : aw_T} {M : am_T} {d : Nat} {P : ap_T} {pc n : Nat} {L : al_T} {st : List av_T} {h : ah_T} {kc ks : Nat} {a b : Int} (hd : ad_D M pc .ladd 1 n) (k : aw_W w M d P n L (av_l (a + b) :: st) h kc ks) : aw_W w M d P pc L (av_l b :: av_l a :: st) h kc ks := by
  intro p e R s m args below meth c Q hC hQ H locs cells slots ls hH hS hL hk1 hk2
  obtain ⟨hd, rfl⟩ := hd
  refine lv_ladd hC.1 hC.2.1 hd ?_
  have kk := k p e R s m args below meth c Q hC hQ H locs cells slots ls hH hS hL hk1 hk2
  simp only [List.map_cons, av_v, Int64.ofInt_add] at kk
  exact kk
theorem ag_lsub {w : aw_T} {M : am_T} {d : Nat} {P : ap_T} {pc n : Nat} {L : al_T} {st : List av_T} {h : ah_T} {kc ks : Nat} {a b : Int} (hd : ad_D M pc .lsub 1 n) (k : aw_W w M d P n L (av_l (a - b) :: st) h kc ks) : aw_W w M d P pc L (av_l b :: av_l a :: st) h kc ks := by
  intro p e R s m args below meth c Q hC hQ H locs cells slots ls hH hS hL hk1 hk2
  obtain ⟨hd, rfl⟩ := hd
  refine lv_lsub hC.1 hC.2.1 hd ?_
  have kk := k p e R s m args below meth c Q hC hQ H locs cells slots ls hH hS hL hk1 hk2
  simp only [List.map_cons, av_v, Int64.ofInt_sub] at kk
  exact kk
theorem ag_lmul {w : aw_T} {M : am_T} {d : Nat} {P : ap_T} {pc n : Nat} {L : al_T} {st : List av_T} {h : ah_T} {kc ks : Nat} {a b : Int} (hd : ad_D M pc .lmul 1 n) (k : aw_W w M d P n L (av_l (a * b) :: st) h kc ks) : aw_W w M d P pc L (av_l b :: av_l a :: st) h kc ks := by
  intro p e R s m args below meth c Q hC hQ H locs cells slots ls hH hS hL hk1 hk2
  obtain ⟨hd, rfl⟩ := hd
  refine lv_lmul hC.1 hC.2.1 hd ?_
  have kk := k p e R s m args below meth c Q hC hQ H locs cells slots ls hH hS hL hk1 hk2
  simp only [List.map_cons, av_v, Int64.ofInt_mul] at kk
  exact kk
theorem ag_ldiv {w : aw_T} {M : am_T} {d : Nat} {P : ap_T} {pc n : Nat} {L : al_T} {st : List av_T} {h : ah_T} {kc ks : Nat} {a b : Int} (ha : -9223372036854775808 ≤ a ∧ a < 9223372036854775808) (hb : -9223372036854775808 ≤ b ∧ b < 9223372036854775808) (h0 : b ≠ 0) (hd : ad_D M pc .ldiv 1 n) (k : aw_W w M d P n L (av_l (a.tdiv b) :: st) h kc ks) : aw_W w M d P pc L (av_l b :: av_l a :: st) h kc ks := by
  intro p e R s m args below meth c Q hC hQ H locs cells slots ls hH hS hL hk1 hk2
  obtain ⟨hd, rfl⟩ := hd
  refine lv_ldiv hC.1 hC.2.1 hd (al_ne0 hb h0) ?_
  have kk := k p e R s m args below meth c Q hC hQ H locs cells slots ls hH hS hL hk1 hk2
  simp only [List.map_cons, av_v, al_div ha hb] at kk
  exact kk
theorem ag_lneg {w : aw_T} {M : am_T} {d : Nat} {P : ap_T} {pc n : Nat} {L : al_T} {st : List av_T} {h : ah_T} {kc ks : Nat} {a : Int} (hd : ad_D M pc .lneg 1 n) (k : aw_W w M d P n L (av_l (-a) :: st) h kc ks) : aw_W w M d P pc L (av_l a :: st) h kc ks := by
  intro p e R s m args below meth c Q hC hQ H locs cells slots ls hH hS hL hk1 hk2
  obtain ⟨hd, rfl⟩ := hd
  refine lv_lneg hC.1 hC.2.1 hd ?_
  have kk := k p e R s m args below meth c Q hC hQ H locs cells slots ls hH hS hL hk1 hk2
  simp only [List.map_cons, av_v, Int64.ofInt_neg] at kk
  exact kk
theorem ag_lcmp {w : aw_T} {M : am_T} {d : Nat} {P : ap_T} {pc n : Nat} {L : al_T} {st : List av_T} {h : ah_T} {kc ks : Nat} {a b : Int} (ha : -9223372036854775808 ≤ a ∧ a < 9223372036854775808) (hb : -9223372036854775808 ≤ b ∧ b < 9223372036854775808) (hd : ad_D M pc .lcmp 1 n) (k : aw_W w M d P n L (av_i (ai_cmp a b) :: st) h kc ks) : aw_W w M d P pc L (av_l b :: av_l a :: st) h kc ks := by
  intro p e R s m args below meth c Q hC hQ H locs cells slots ls hH hS hL hk1 hk2
  obtain ⟨hd, rfl⟩ := hd
  refine W.lcmp hC.1 hC.2.1 hd ?_
  rw [al_cmp ha hb]
  exact k p e R s m args below meth c Q hC hQ H locs cells slots ls hH hS hL hk1 hk2
theorem ag_dup {w : aw_T} {M : am_T} {d : Nat} {P : ap_T} {pc n : Nat} {L : al_T} {st : List av_T} {h : ah_T} {kc ks : Nat} {v : av_T} (hv : av_c v = 1) (hd : ad_D M pc .dup 1 n) (k : aw_W w M d P n L (v :: v :: st) h kc ks) : aw_W w M d P pc L (v :: st) h kc ks := by
  intro p e R s m args below meth c Q hC hQ H locs cells slots ls hH hS hL hk1 hk2
  obtain ⟨hd, rfl⟩ := hd
  exact lv_dup hC.1 hC.2.1 hd (by rw [av_cat]; exact hv) (k p e R s m args below meth c Q hC hQ H locs cells slots ls hH hS hL hk1 hk2)
theorem ag_pop {w : aw_T} {M : am_T} {d : Nat} {P : ap_T} {pc n : Nat} {L : al_T} {st : List av_T} {h : ah_T} {kc ks : Nat} {v : av_T} (hv : av_c v = 1) (hd : ad_D M pc .pop 1 n) (k : aw_W w M d P n L (st) h kc ks) : aw_W w M d P pc L (v :: st) h kc ks := by
  intro p e R s m args below meth c Q hC hQ H locs cells slots ls hH hS hL hk1 hk2
  obtain ⟨hd, rfl⟩ := hd
  exact lv_pop hC.1 hC.2.1 hd (by rw [av_cat]; exact hv) (k p e R s m args below meth c Q hC hQ H locs cells slots ls hH hS hL hk1 hk2)
theorem ag_dup2 {w : aw_T} {M : am_T} {d : Nat} {P : ap_T} {pc n : Nat} {L : al_T} {st : List av_T} {h : ah_T} {kc ks : Nat} {v u : av_T} (hv : av_c v = 1) (hu : av_c u = 1) (hd : ad_D M pc .dup2 1 n) (k : aw_W w M d P n L (v :: u :: v :: u :: st) h kc ks) : aw_W w M d P pc L (v :: u :: st) h kc ks := by
  intro p e R s m args below meth c Q hC hQ H locs cells slots ls hH hS hL hk1 hk2
  obtain ⟨hd, rfl⟩ := hd
  exact lv_dup2_11 hC.1 hC.2.1 hd (by rw [av_cat]; exact hv) (by rw [av_cat]; exact hu) (k p e R s m args below meth c Q hC hQ H locs cells slots ls hH hS hL hk1 hk2)
theorem ag_icmp_eq {w : aw_T} {M : am_T} {d : Nat} {P : ap_T} {pc n : Nat} {L : al_T} {st : List av_T} {h : ah_T} {kc ks : Nat} {a b off : Int} {tgt : Nat} (hd : ad_D M pc (.if_icmp .eq off) 3 n) (ht : (pc : Int) + off = (tgt : Int)) (ha : -2147483648 ≤ a ∧ a < 2147483648) (hb : -2147483648 ≤ b ∧ b < 2147483648) (kt : a = b → aw_W w M d P tgt L st h kc ks) (kf : a ≠ b → aw_W w M d P n L st h kc ks) : aw_W w M d P pc L (av_i b :: av_i a :: st) h kc ks := by
  intro p e R s m args below meth c Q hC hQ H locs cells slots ls hH hS hL hk1 hk2
  obtain ⟨hd, rfl⟩ := hd
  exact lv_icmp_eq hC.1 hC.2.1 hd ht (fun hc => kt ((ai_eq ha hb).mp hc) p e R s m args below meth c Q hC hQ H locs cells slots ls hH hS hL hk1 hk2) (fun hc => kf (fun q => hc ((ai_eq ha hb).mpr q)) p e R s m args below meth c Q hC hQ H locs cells slots ls hH hS hL hk1 hk2)
theorem ag_if_eq {w : aw_T} {M : am_T} {d : Nat} {P : ap_T} {pc n : Nat} {L : al_T} {st : List av_T} {h : ah_T} {kc ks : Nat} {a off : Int} {tgt : Nat} (hd : ad_D M pc (.ifCond .eq off) 3 n) (ht : (pc : Int) + off = (tgt : Int)) (ha : -2147483648 ≤ a ∧ a < 2147483648) (kt : a = 0 → aw_W w M d P tgt L st h kc ks) (kf : a ≠ 0 → aw_W w M d P n L st h kc ks) : aw_W w M d P pc L (av_i a :: st) h kc ks := by
  intro p e R s m args below meth c Q hC hQ H locs cells slots ls hH hS hL hk1 hk2
  obtain ⟨hd, rfl⟩ := hd
  have hb : (-2147483648 : Int) ≤ 0 ∧ (0 : Int) < 2147483648 := by omega
  exact lv_if_eq hC.1 hC.2.1 hd ht (fun hc => kt ((ai_eq ha hb).mp hc) p e R s m args below meth c Q hC hQ H locs cells slots ls hH hS hL hk1 hk2) (fun hc => kf (fun q => hc ((ai_eq ha hb).mpr q)) p e R s m args below meth c Q hC hQ H locs cells slots ls hH hS hL hk1 hk2)
theorem ag_icmp_ne {w : aw_T} {M : am_T} {d : Nat} {P : ap_T} {pc n : Nat} {L : al_T} {st : List av_T} {h : ah_T} {kc ks : Nat} {a b off : Int} {tgt : Nat} (hd : ad_D M pc (.if_icmp .ne off) 3 n) (ht : (pc : Int) + off = (tgt : Int)) (ha : -2147483648 ≤ a ∧ a < 2147483648) (hb : -2147483648 ≤ b ∧ b < 2147483648) (kt : a ≠ b → aw_W w M d P tgt L st h kc ks) (kf : a = b → aw_W w M d P n L st h kc ks) : aw_W w M d P pc L (av_i b :: av_i a :: st) h kc ks := by
  intro p e R s m args below meth c Q hC hQ H locs cells slots ls hH hS hL hk1 hk2
  obtain ⟨hd, rfl⟩ := hd
  exact lv_icmp_ne hC.1 hC.2.1 hd ht (fun hc => kt (fun q => hc ((ai_eq ha hb).mpr q)) p e R s m args below meth c Q hC hQ H locs cells slots ls hH hS hL hk1 hk2) (fun hc => kf ((ai_eq ha hb).mp hc) p e R s m args below meth c Q hC hQ H locs cells slots ls hH hS hL hk1 hk2)
theorem ag_if_ne {w : aw_T} {M : am_T} {d : Nat} {P : ap_T} {pc n : Nat} {L : al_T} {st : List av_T} {h : ah_T} {kc ks : Nat} {a off : Int} {tgt : Nat} (hd : ad_D M pc (.ifCond .ne off) 3 n) (ht : (pc : Int) + off = (tgt : Int)) (ha : -2147483648 ≤ a ∧ a < 2147483648) (kt : a ≠ 0 → aw_W w M d P tgt L st h kc ks) (kf : a = 0 → aw_W w M d P n L st h kc ks) : aw_W w M d P pc L (av_i a :: st) h kc ks := by
  intro p e R s m args below meth c Q hC hQ H locs cells slots ls hH hS hL hk1 hk2
  obtain ⟨hd, rfl⟩ := hd
  have hb : (-2147483648 : Int) ≤ 0 ∧ (0 : Int) < 2147483648 := by omega
  exact lv_if_ne hC.1 hC.2.1 hd ht (fun hc => kt (fun q => hc ((ai_eq ha hb).mpr q)) p e R s m args below meth c Q hC hQ H locs cells slots ls hH hS hL hk1 hk2) (fun hc => kf ((ai_eq ha hb).mp hc) p e R s m args below meth c Q hC hQ H locs cells slots ls hH hS hL hk1 hk2)
theorem ag_icmp_lt {w : aw_T} {M : am_T} {d : Nat} {P : ap_T} {pc n : Nat} {L : al_T} {st : List av_T} {h : ah_T} {kc ks : Nat} {a b off : Int} {tgt : Nat} (hd : ad_D M pc (.if_icmp .lt off) 3 n) (ht : (pc : Int) + off = (tgt : Int)) (ha : -2147483648 ≤ a ∧ a < 2147483648) (hb : -2147483648 ≤ b ∧ b < 2147483648) (kt : a < b → aw_W w M d P tgt L st h kc ks) (kf : b ≤ a → aw_W w M d P n L st h kc ks) : aw_W w M d P pc L (av_i b :: av_i a :: st) h kc ks := by
  intro p e R s m args below meth c Q hC hQ H locs cells slots ls hH hS hL hk1 hk2
  obtain ⟨hd, rfl⟩ := hd
  exact lv_icmp_lt hC.1 hC.2.1 hd ht (fun hc => kt ((ai_lt ha hb).mp hc) p e R s m args below meth c Q hC hQ H locs cells slots ls hH hS hL hk1 hk2) (fun hc => kf (Int.not_lt.mp (fun q => hc ((ai_lt ha hb).mpr q))) p e R s m args below meth c Q hC hQ H locs cells slots ls hH hS hL hk1 hk2)
theorem ag_if_lt {w : aw_T} {M : am_T} {d : Nat} {P : ap_T} {pc n : Nat} {L : al_T} {st : List av_T} {h : ah_T} {kc ks : Nat} {a off : Int} {tgt : Nat} (hd : ad_D M pc (.ifCond .lt off) 3 n) (ht : (pc : Int) + off = (tgt : Int)) (ha : -2147483648 ≤ a ∧ a < 2147483648) (kt : a < 0 → aw_W w M d P tgt L st h kc ks) (kf : 0 ≤ a → aw_W w M d P n L st h kc ks) : aw_W w M d P pc L (av_i a :: st) h kc ks := by
  intro p e R s m args below meth c Q hC hQ H locs cells slots ls hH hS hL hk1 hk2
  obtain ⟨hd, rfl⟩ := hd
  have hb : (-2147483648 : Int) ≤ 0 ∧ (0 : Int) < 2147483648 := by omega
  exact lv_if_lt hC.1 hC.2.1 hd ht (fun hc => kt ((ai_lt ha hb).mp hc) p e R s m args below meth c Q hC hQ H locs cells slots ls hH hS hL hk1 hk2) (fun hc => kf (Int.not_lt.mp (fun q => hc ((ai_lt ha hb).mpr q))) p e R s m args below meth c Q hC hQ H locs cells slots ls hH hS hL hk1 hk2)
theorem ag_icmp_ge {w : aw_T} {M : am_T} {d : Nat} {P : ap_T} {pc n : Nat} {L : al_T} {st : List av_T} {h : ah_T} {kc ks : Nat} {a b off : Int} {tgt : Nat} (hd : ad_D M pc (.if_icmp .ge off) 3 n) (ht : (pc : Int) + off = (tgt : Int)) (ha : -2147483648 ≤ a ∧ a < 2147483648) (hb : -2147483648 ≤ b ∧ b < 2147483648) (kt : b ≤ a → aw_W w M d P tgt L st h kc ks) (kf : a < b → aw_W w M d P n L st h kc ks) : aw_W w M d P pc L (av_i b :: av_i a :: st) h kc ks := by
  intro p e R s m args below meth c Q hC hQ H locs cells slots ls hH hS hL hk1 hk2
  obtain ⟨hd, rfl⟩ := hd
  exact lv_icmp_ge hC.1 hC.2.1 hd ht (fun hc => kt ((ai_le hb ha).mp hc) p e R s m args below meth c Q hC hQ H locs cells slots ls hH hS hL hk1 hk2) (fun hc => kf (Int.not_le.mp (fun q => hc ((ai_le hb ha).mpr q))) p e R s m args below meth c Q hC hQ H locs cells slots ls hH hS hL hk1 hk2)
theorem ag_if_ge {w : aw_T} {M : am_T} {d : Nat} {P : ap_T} {pc n : Nat} {L : al_T} {st : List av_T} {h : ah_T} {kc ks : Nat} {a off : Int} {tgt : Nat} (hd : ad_D M pc (.ifCond .ge off) 3 n) (ht : (pc : Int) + off = (tgt : Int)) (ha : -2147483648 ≤ a ∧ a < 2147483648) (kt : 0 ≤ a → aw_W w M d P tgt L st h kc ks) (kf : a < 0 → aw_W w M d P n L st h kc ks) : aw_W w M d P pc L (av_i a :: st) h kc ks := by
  intro p e R s m args below meth c Q hC hQ H locs cells slots ls hH hS hL hk1 hk2
  obtain ⟨hd, rfl⟩ := hd
  have hb : (-2147483648 : Int) ≤ 0 ∧ (0 : Int) < 2147483648 := by omega
  exact lv_if_ge hC.1 hC.2.1 hd ht (fun hc => kt ((ai_le hb ha).mp hc) p e R s m args below meth c Q hC hQ H locs cells slots ls hH hS hL hk1 hk2) (fun hc => kf (Int.not_le.mp (fun q => hc ((ai_le hb ha).mpr q))) p e R s m args below meth c Q hC hQ H locs cells slots ls hH hS hL hk1 hk2)
theorem ag_icmp_gt {w : aw_T} {M : am_T} {d : Nat} {P : ap_T} {pc n : Nat} {L : al_T} {st : List av_T} {h : ah_T} {kc ks : Nat} {a b off : Int} {tgt : Nat} (hd : ad_D M pc (.if_icmp .gt off) 3 n) (ht : (pc : Int) + off = (tgt : Int)) (ha : -2147483648 ≤ a ∧ a < 2147483648) (hb : -2147483648 ≤ b ∧ b < 2147483648) (kt : b < a → aw_W w M d P tgt L st h kc ks) (kf : a ≤ b → aw_W w M d P n L st h kc ks) : aw_W w M d P pc L (av_i b :: av_i a :: st) h kc ks := by
  intro p e R s m args below meth c Q hC hQ H locs cells slots ls hH hS hL hk1 hk2
  obtain ⟨hd, rfl⟩ := hd
  exact lv_icmp_gt hC.1 hC.2.1 hd ht (fun hc => kt ((ai_lt hb ha).mp hc) p e R s m args below meth c Q hC hQ H locs cells slots ls hH hS hL hk1 hk2) (fun hc => kf (Int.not_lt.mp (fun q => hc ((ai_lt hb ha).mpr q))) p e R s m args below meth c Q hC hQ H locs cells slots ls hH hS hL hk1 hk2)
theorem ag_if_gt {w : aw_T} {M : am_T} {d : Nat} {P : ap_T} {pc n : Nat} {L : al_T} {st : List av_T} {h : ah_T} {kc ks : Nat} {a off : Int} {tgt : Nat} (hd : ad_D M pc (.ifCond .gt off) 3 n) (ht : (pc : Int) + off = (tgt : Int)) (ha : -2147483648 ≤ a ∧ a < 2147483648) (kt : 0 < a → aw_W w M d P tgt L st h kc ks) (kf : a ≤ 0 → aw_W w M d P n L st h kc ks) : aw_W w M d P pc L (av_i a :: st) h kc ks := by
  intro p e R s m args below meth c Q hC hQ H locs cells slots ls hH hS hL hk1 hk2
  obtain ⟨hd, rfl⟩ := hd
  have hb : (-2147483648 : Int) ≤ 0 ∧ (0 : Int) < 2147483648 := by omega
  exact lv_if_gt hC.1 hC.2.1 hd ht (fun hc => kt ((ai_lt hb ha).mp hc) p e R s m args below meth c Q hC hQ H locs cells slots ls hH hS hL hk1 hk2) (fun hc => kf (Int.not_lt.mp (fun q => hc ((ai_lt hb ha).mpr q))) p e R s m args below meth c Q hC hQ H locs cells slots ls hH hS hL hk1 hk2)
theorem ag_icmp_le {w : aw_T} {M : am_T} {d : Nat} {P : ap_T} {pc n : Nat} {L : al_T} {st : List av_T} {h : ah_T} {kc ks : Nat} {a b off : Int} {tgt : Nat} (hd : ad_D M pc (.if_icmp .le off) 3 n) (ht : (pc : Int) + off = (tgt : Int)) (ha : -2147483648 ≤ a ∧ a < 2147483648) (hb : -2147483648 ≤ b ∧ b < 2147483648) (kt : a ≤ b → aw_W w M d P tgt L st h kc ks) (kf : b < a → aw_W w M d P n L st h kc ks) : aw_W w M d P pc L (av_i b :: av_i a :: st) h kc ks := by
  intro p e R s m args below meth c Q hC hQ H locs cells slots ls hH hS hL hk1 hk2
  obtain ⟨hd, rfl⟩ := hd
  exact lv_icmp_le hC.1 hC.2.1 hd ht (fun hc => kt ((ai_le ha hb).mp hc) p e R s m args below meth c Q hC hQ H locs cells slots ls hH hS hL hk1 hk2) (fun hc => kf (Int.not_le.mp (fun q => hc ((ai_le ha hb).mpr q))) p e R s m args below meth c Q hC hQ H locs cells slots ls hH hS hL hk1 hk2)
theorem ag_if_le {w : aw_T} {M : am_T} {d : Nat} {P : ap_T} {pc n : Nat} {L : al_T} {st : List av_T} {h : ah_T} {kc ks : Nat} {a off : Int} {tgt : Nat} (hd : ad_D M pc (.ifCond .le off) 3 n) (ht : (pc : Int) + off = (tgt : Int)) (ha : -2147483648 ≤ a ∧ a < 2147483648) (kt : a ≤ 0 → aw_W w M d P tgt L st h kc ks) (kf : 0 < a → aw_W w M d P n L st h kc ks) : aw_W w M d P pc L (av_i a :: st) h kc ks := by
  intro p e R s m args below meth c Q hC hQ H locs cells slots ls hH hS hL hk1 hk2
  obtain ⟨hd, rfl⟩ := hd
  have hb : (-2147483648 : Int) ≤ 0 ∧ (0 : Int) < 2147483648 := by omega
  exact lv_if_le hC.1 hC.2.1 hd ht (fun hc => kt ((ai_le ha hb).mp hc) p e R s m args below meth c Q hC hQ H locs cells slots ls hH hS hL hk1 hk2) (fun hc => kf (Int.not_le.mp (fun q => hc ((ai_le ha hb).mpr q))) p e R s m args below meth c Q hC hQ H locs cells slots ls hH hS hL hk1 hk2)
theorem ag_goto {w : aw_T} {M : am_T} {d : Nat} {P : ap_T} {pc n : Nat} {L : al_T} {st : List av_T} {h : ah_T} {kc ks : Nat} {off : Int} {tgt : Nat} (hd : ad_D M pc (.goto off) 3 n) (ht : (pc : Int) + off = (tgt : Int)) (k : aw_W w M d P tgt L st h kc ks) : aw_W w M d P pc L st h kc ks := by
  intro p e R s m args below meth c Q hC hQ H locs cells slots ls hH hS hL hk1 hk2
  obtain ⟨hd, rfl⟩ := hd
  exact lv_goto hC.1 hC.2.1 hd ht (k p e R s m args below meth c Q hC hQ H locs cells slots ls hH hS hL hk1 hk2)
theorem ag_ifnull {w : aw_T} {M : am_T} {d : Nat} {P : ap_T} {pc n : Nat} {L : al_T} {st : List av_T} {h : ah_T} {kc ks : Nat} {q : Option Nat} {off : Int} {tgt : Nat} (hd : ad_D M pc (.ifnull off) 3 n) (ht : (pc : Int) + off = (tgt : Int)) (kt : q = none → aw_W w M d P tgt L st h kc ks) (kf : ∀ a, q = some a → aw_W w M d P n L st h kc ks) : aw_W w M d P pc L (av_q q :: st) h kc ks := by
  intro p e R s m args below meth c Q hC hQ H locs cells slots ls hH hS hL hk1 hk2
  obtain ⟨hd, rfl⟩ := hd
  rcases q with _ | q
  · exact lv_ifnullN hC.1 hC.2.1 hd ht (kt rfl p e R s m args below meth c Q hC hQ H locs cells slots ls hH hS hL hk1 hk2)
  · exact lv_ifnull hC.1 hC.2.1 hd (kf q rfl p e R s m args below meth c Q hC hQ H locs cells slots ls hH hS hL hk1 hk2)
theorem ag_ifnonnull {w : aw_T} {M : am_T} {d : Nat} {P : ap_T} {pc n : Nat} {L : al_T} {st : List av_T} {h : ah_T} {kc ks : Nat} {q : Option Nat} {off : Int} {tgt : Nat} (hd : ad_D M pc (.ifnonnull off) 3 n) (ht : (pc : Int) + off = (tgt : Int)) (kt : ∀ a, q = some a → aw_W w M d P tgt L st h kc ks) (kf : q = none → aw_W w M d P n L st h kc ks) : aw_W w M d P pc L (av_q q :: st) h kc ks := by
  intro p e R s m args below meth c Q hC hQ H locs cells slots ls hH hS hL hk1 hk2
  obtain ⟨hd, rfl⟩ := hd
  rcases q with _ | q
  · exact lv_ifnonnullN hC.1 hC.2.1 hd (kf rfl p e R s m args below meth c Q hC hQ H locs cells slots ls hH hS hL hk1 hk2)
  · exact lv_ifnonnull hC.1 hC.2.1 hd ht (kt q rfl p e R s m args below meth c Q hC hQ H locs cells slots ls hH hS hL hk1 hk2)
theorem ag_tabIn {w : aw_T} {M : am_T} {d : Nat} {P : ap_T} {pc n : Nat} {L : al_T} {st : List av_T} {h : ah_T} {kc ks : Nat} {a dflt lo hi off : Int} {offs : Array Int} {len tgt : Nat} (hd : ad_D M pc (.tableswitch dflt lo hi offs) len n) (ha : -2147483648 ≤ a ∧ a < 2147483648) (h1 : lo ≤ a) (h2 : a ≤ hi) (ho : offs[(a - lo).toNat]? = some off) (ht : (pc : Int) + off = (tgt : Int)) (k : aw_W w M d P tgt L st h kc ks) : aw_W w M d P pc L (av_i a :: st) h kc ks := by
  intro p e R s m args below meth c Q hC hQ H locs cells slots ls hH hS hL hk1 hk2
  obtain ⟨hd, rfl⟩ := hd
  have et := ai_t ha
  exact lv_tableIn hC.1 hC.2.1 hd (by rw [et]; omega) (by rw [et]; omega) (by rw [et]; exact ho) ht (k p e R s m args below meth c Q hC hQ H locs cells slots ls hH hS hL hk1 hk2)
theorem ag_tabOut {w : aw_T} {M : am_T} {d : Nat} {P : ap_T} {pc n : Nat} {L : al_T} {st : List av_T} {h : ah_T} {kc ks : Nat} {a dflt lo hi : Int} {offs : Array Int} {len tgt : Nat} (hd : ad_D M pc (.tableswitch dflt lo hi offs) len n) (ha : -2147483648 ≤ a ∧ a < 2147483648) (h1 : a < lo ∨ hi < a) (ht : (pc : Int) + dflt = (tgt : Int)) (k : aw_W w M d P tgt L st h kc ks) : aw_W w M d P pc L (av_i a :: st) h kc ks := by
  intro p e R s m args below meth c Q hC hQ H locs cells slots ls hH hS hL hk1 hk2
  obtain ⟨hd, rfl⟩ := hd
  have et := ai_t ha
  exact lv_tableOut hC.1 hC.2.1 hd (by rw [et]; exact h1) ht (k p e R s m args below meth c Q hC hQ H locs cells slots ls hH hS hL hk1 hk2)
theorem ag_lookup {w : aw_T} {M : am_T} {d : Nat} {P : ap_T} {pc n : Nat} {L : al_T} {st : List av_T} {h : ah_T} {kc ks : Nat} {a dflt off : Int} {ps : Array (Int × Int)} {len tgt : Nat} (hd : ad_D M pc (.lookupswitch dflt ps) len n) (ha : -2147483648 ≤ a ∧ a < 2147483648) (hp : (ps.toList.zip (ps.toList.drop 1)).all (fun (a, next) => a.1 < next.1) = true) (ho : Op.lookupswitch.offset ps.toList dflt a = off) (ht : (pc : Int) + off = (tgt : Int)) (k : aw_W w M d P tgt L st h kc ks) : aw_W w M d P pc L (av_i a :: st) h kc ks := by
  intro p e R s m args below meth c Q hC hQ H locs cells slots ls hH hS hL hk1 hk2
  obtain ⟨hd, rfl⟩ := hd
  have et := ai_t ha
  exact lv_lookup hC.1 hC.2.1 hd hp (by rw [et]; exact ho) ht (k p e R s m args below meth c Q hC hQ H locs cells slots ls hH hS hL hk1 hk2)
theorem ag_iret {w : aw_T} {M : am_T} {d : Nat} {P : ap_T} {pc n : Nat} {L : al_T} {h : ah_T} {kc ks : Nat} {a : Int} (hd : ad_D M pc .ireturn 1 n) (hr : M.2.2.2 = some .int) (hP : P (some (av_i a)) h) : aw_W w M d P pc L [av_i a] h kc ks := by
  intro p e R s m args below meth c Q hC hQ H locs cells slots ls hH hS hL hk1 hk2
  exact hQ H locs cells slots ls pc (some (av_i a)) h hH hS hP (by omega) (by omega) (Or.inl ⟨a, rfl, hd.1, Or.inl hr⟩)
theorem ag_zret {w : aw_T} {M : am_T} {d : Nat} {P : ap_T} {pc n : Nat} {L : al_T} {h : ah_T} {kc ks : Nat} {a : Int} (hd : ad_D M pc .ireturn 1 n) (hr : M.2.2.2 = some .boolean) (hz : a = 0 ∨ a = 1) (hP : P (some (av_i a)) h) : aw_W w M d P pc L [av_i a] h kc ks := by
  intro p e R s m args below meth c Q hC hQ H locs cells slots ls hH hS hL hk1 hk2
  exact hQ H locs cells slots ls pc (some (av_i a)) h hH hS hP (by omega) (by omega) (Or.inl ⟨a, rfl, hd.1, Or.inr ⟨hr, hz⟩⟩)
theorem ag_lret {w : aw_T} {M : am_T} {d : Nat} {P : ap_T} {pc n : Nat} {L : al_T} {h : ah_T} {kc ks : Nat} {a : Int} (hd : ad_D M pc .lreturn 1 n) (hr : M.2.2.2 = some .long) (hP : P (some (av_l a)) h) : aw_W w M d P pc L [av_l a] h kc ks := by
  intro p e R s m args below meth c Q hC hQ H locs cells slots ls hH hS hL hk1 hk2
  exact hQ H locs cells slots ls pc (some (av_l a)) h hH hS hP (by omega) (by omega) (Or.inr (Or.inl ⟨a, rfl, hd.1, hr⟩))
theorem ag_vret {w : aw_T} {M : am_T} {d : Nat} {P : ap_T} {pc n : Nat} {L : al_T} {h : ah_T} {kc ks : Nat} (hd : ad_D M pc .return_ 1 n) (hr : M.2.2.2 = none) (hP : P (none) h) : aw_W w M d P pc L [] h kc ks := by
  intro p e R s m args below meth c Q hC hQ H locs cells slots ls hH hS hL hk1 hk2
  exact hQ H locs cells slots ls pc (none) h hH hS hP (by omega) (by omega) (Or.inr (Or.inr (Or.inr ⟨rfl, hd.1, hr⟩)))
theorem ag_aret {w : aw_T} {M : am_T} {d : Nat} {P : ap_T} {pc n : Nat} {L : al_T} {h : ah_T} {kc ks : Nat} {q : Option Nat} {nm : String} (hd : ad_D M pc .areturn 1 n) (hr : M.2.2.2 = some (.object nm)) (hP : P (some (av_q q)) h) : aw_W w M d P pc L [av_q q] h kc ks := by
  intro p e R s m args below meth c Q hC hQ H locs cells slots ls hH hS hL hk1 hk2
  exact hQ H locs cells slots ls pc (some (av_q q)) h hH hS hP (by omega) (by omega) (Or.inr (Or.inr (Or.inl ⟨q, rfl, hd.1, nm, hr⟩)))
end
section
-- ===== the heap: fields, arrays, new objects =====
theorem ah_one {w : aw_T} {h : ah_T} {H : Heap} {a : Nat} {c : ac_T} (hR : ah_R w h H) (hc : h[a]? = some c) : va_P (aw_D w) cs_all [(aw_o w + a, ac_E w c)] H := by
  intro k q hk
  have hz : k < 1 := (List.getElem?_eq_some_iff.mp hk).1
  rw [show k = 0 by omega] at hk
  cases hk
  exact hR.2 a c hc
/-- getfield 'idx' of a method of class cls reads field k of a cell of class ci -/
def af_ok (cls : String) (idx ci k : Nat) : Prop := ∃ (C : String) (T : u_T) (N : Nat), cs_all[ci]? = some (C, T, N) ∧ k < N ∧ (∀ x ∈ u_ws C T N, x ∈ tt_g) ∧ ((Cond.fieldLink cls idx (T k).1 (T k).2.1 (T k).2.2.1 ∈ tt_g) ∨ ∃ host, Cond.fieldLinkNest cls idx (T k).1 (T k).2.1 (T k).2.2.1 host ∈ tt_n)
theorem ag_get {w : aw_T} {M : am_T} {d : Nat} {P : ap_T} {pc n : Nat} {L : al_T} {st : List av_T} {h : ah_T} {kc ks : Nat} {idx ci k a : Nat} {fs : List av_T} {v : av_T} (hd : ad_D M pc (.getfield idx) 3 n) (hf : af_ok M.1.cls idx ci k) (hc : h[a]? = some (ac_o ci fs)) (hv : fs[k]? = some v) (kk : aw_W w M d P n L (v :: st) h kc ks) : aw_W w M d P pc L (av_r a :: st) h kc ks := by
  intro p e R s m args below meth c Q hC hQ H locs cells slots ls hH hS hL hk1 hk2
  obtain ⟨hd, rfl⟩ := hd
  have kw := kk p e R s m args below meth c Q hC hQ H locs cells slots ls hH hS hL hk1 hk2
  obtain ⟨hx, hb, hr, hml, hown, hts, hK, -⟩ := hC
  obtain ⟨C, T, N, hcl, hkN, hin, hlk⟩ := hf
  have hv2 : (fs.map (av_v w))[k]? = some (av_v w v) := by rw [List.getElem?_map, hv]; rfl
  rcases hlk with hlk | ⟨host, hlk⟩
  · exact va_get hx hb hts hin hown hK.1 (ah_one hH hc) 0 rfl hcl k hkN (hts _ hlk) (fun _ q => q) hv2 hd kw
  · exact va_getN hx hb hts hin hown hK.1 (ah_one hH hc) 0 rfl hcl k hkN (va_Nw.use rfl (hK.2 _ hlk)) (fun _ q => q) hv2 hd kw
/-- putfield 'idx': the field's type, and whether it is final -/
def af_put (cls mname : String) (idx ci k : Nat) (ty : FieldType) : Prop := ∃ (C : String) (T : u_T) (N : Nat) (ty0 : Nat → FieldType), cs_all[ci]? = some (C, T, N) ∧ k < N ∧ (∀ x ∈ u_ws C T N, x ∈ tt_g) ∧ (∀ k, k < N → parseFieldDescriptor (T k).2.2.1 = some (ty0 k)) ∧ (∀ a, a < N → ∀ b, b < N → a ≠ b → (T a).2.1 ≠ (T b).2.1) ∧ ty0 k = ty ∧
  (((T k).2.2.2 = false ∧ ((Cond.fieldLink cls idx (T k).1 (T k).2.1 (T k).2.2.1 ∈ tt_g) ∨ ∃ host, Cond.fieldLinkNest cls idx (T k).1 (T k).2.1 (T k).2.2.1 host ∈ tt_n)) ∨
   ((T k).2.2.2 = true ∧ mname = "<init>" ∧ (T k).1 = cls ∧ (Cond.fieldLink cls idx (T k).1 (T k).2.1 (T k).2.2.1 ∈ tt_g)))
theorem ag_putV {w : aw_T} {M : am_T} {d : Nat} {P : ap_T} {pc n : Nat} {L : al_T} {st : List av_T} {h : ah_T} {kc ks : Nat} {idx ci k a : Nat} {fs : List av_T} {v : av_T} {ty : FieldType} (hd : ad_D M pc (.putfield idx) 3 n) (hf : af_put M.1.cls M.1.name idx ci k ty) (hc : h[a]? = some (ac_o ci fs)) (hl : k < fs.length) (hn : narrow ty (av_v w v) = av_v w v) (hfit : fits ty (av_v w v) = true) (kk : aw_W w M d P n L st (h.set a (ac_o ci (fs.set k v))) kc ks) : aw_W w M d P pc L (v :: av_r a :: st) h kc ks := by
  intro p e R s m args below meth c Q hC hQ H locs cells slots ls hH hS hL hk1 hk2
  obtain ⟨hd, rfl⟩ := hd
  have hC0 := hC
  obtain ⟨hx, hb, hr, hml, hown, hts, hK, hlks, hnm, -⟩ := hC
  obtain ⟨C, T, N, ty0, hcl, hkN, hin, hty, hnn, hte, hlk⟩ := hf
  have hap := va_apart (own := M.1.cls) hts hin ty0 hty hnn hK.1 hcl
  have hat := hH.2 a _ hc
  have hat0 := hat
  obtain ⟨r, h1, cell, q1, q2, q3, q4⟩ := hat
  have hr2 : r = (C, T, N) := Option.some.inj (h1.symm.trans hcl)
  subst hr2
  obtain ⟨hSl, hfc, kC, hkC, hkind⟩ := hK.1.1 ci _ hcl
  obtain ⟨cf, kf, fi, f, hi, hsl⟩ := hSl k hkN
  have hst := (u_facts hfc hkC (u_lays hts hin hkN) hi).1
  have hpt : parseFieldDescriptor (T k).2.2.1 = some ty := by rw [hty k hkN, hte]
  have hlay := hts _ (hin _ (u_in_lay hkN))
  have fin : ∀ H' : Heap, H'[aw_o w + a]? = some (cell.setSlot f.slot (av_v w v)) → H'.size = H.size → (∀ q, q ≠ aw_o w + a → H'[q]? = H[q]?) → W p (aw_l w) e R s m args below meth c H' (locs ++ [⟨aw_o w + a, f.slot⟩]) cells slots Q (F0 m (pc + 3) ls (st.map (av_v w))) := by
    intro H' e1 e2 e3
    rw [hsl] at e1 ⊢
    have hat2 : va_at (aw_D w) cs_all (aw_o w + a, ac_E w (ac_o ci (fs.set k v))) H' := by
      refine ⟨_, hcl, ?_⟩
      have hl2 : k < (fs.map (av_v w)).length := by rw [List.length_map]; exact hl
      refine t_OB.to (V := updV (vp_V (fs.map (av_v w))) k (av_v w v)) ⟨_, e1, q2, q3, t_set q4 hap hkN (av_v w v)⟩ (fun j _ => ?_)
      rw [vp_updV_set hl2 (av_v w v) j]
      show vp_V _ j = vp_V ((fs.set k v).map (av_v w)) j
      rw [List.map_set]
    exact kk p e R s m args below meth c Q hC0 hQ H' _ cells slots ls (ah_set hH hc hat2 e2 e3) (hS.put e2 e3 (by show aw_o w ≤ aw_o w + a; omega)) hL hk1 hk2
  unfold u_lay at hlay
  rcases hlk with ⟨hfin, hlk⟩ | ⟨hfin, hin2, hdecl, hlk⟩
  · rw [if_neg (by rw [hfin]; decide)] at hlay
    have h6 := u_store hfc hkC hkind hlay hi hpt hn hfit
    rcases hlk with hlk | ⟨host, hlk⟩
    · exact W.putK hx hb (f := f) ⟨hown, hts _ hlk, ⟨_, _, _, hi⟩, hst⟩ (by rw [q2]; exact h6) q1 q3 (by rw [hsl]; exact k2_hasslot (q4 k hkN)) rfl rfl hd fin
    · exact va_WputK hx hb (f := f) hown (va_Nw.use rfl (hK.2 _ hlk)) hi hst (by rw [q2]; exact h6) q1 q3 (by rw [hsl]; exact k2_hasslot (q4 k hkN)) rfl rfl hd fin
  · rw [if_pos hfin] at hlay
    have hcf : m.cls = cf := by
      obtain ⟨_, _, c', _, _, _, -, -, hf', -, -, -, hown2, -⟩ := Cond.laysFinal_spec hlay
      have e1 : c' = cf := by have := hi.symm.trans hf'; simp at this; exact this.1.symm
      rw [hdecl] at hown2
      rw [← e1]; exact Option.some.inj (hown.symm.trans hown2)
    have h6 := u_fits hfc hkC hkind (Or.inr hlay) hi hpt hn hfit
    exact W.putFinK hx hb hown (hts _ hlk) hi hst hcf (hnm.trans hin2) (by rw [q2]; exact h6) q1 q3 (by rw [hsl]; exact k2_hasslot (q4 k hkN)) rfl rfl hd fin
theorem ag_puti {w : aw_T} {M : am_T} {d : Nat} {P : ap_T} {pc n : Nat} {L : al_T} {st : List av_T} {h : ah_T} {kc ks : Nat} {idx ci k a : Nat} {fs : List av_T} {x : Int} (hd : ad_D M pc (.putfield idx) 3 n) (hf : af_put M.1.cls M.1.name idx ci k .int) (hc : h[a]? = some (ac_o ci fs)) (hl : k < fs.length) (kk : aw_W w M d P n L st (h.set a (ac_o ci (fs.set k (av_i x)))) kc ks) : aw_W w M d P pc L (av_i x :: av_r a :: st) h kc ks := ag_putV hd hf hc hl rfl rfl kk
theorem ag_putz {w : aw_T} {M : am_T} {d : Nat} {P : ap_T} {pc n : Nat} {L : al_T} {st : List av_T} {h : ah_T} {kc ks : Nat} {idx ci k a : Nat} {fs : List av_T} {x : Int} (hd : ad_D M pc (.putfield idx) 3 n) (hf : af_put M.1.cls M.1.name idx ci k .boolean) (hc : h[a]? = some (ac_o ci fs)) (hl : k < fs.length) (hz : x = 0 ∨ x = 1) (kk : aw_W w M d P n L st (h.set a (ac_o ci (fs.set k (av_i x)))) kc ks) : aw_W w M d P pc L (av_i x :: av_r a :: st) h kc ks := ag_putV hd hf hc hl (by rcases hz with rfl | rfl <;> rfl) (by rcases hz with rfl | rfl <;> rfl) kk
theorem ag_putl {w : aw_T} {M : am_T} {d : Nat} {P : ap_T} {pc n : Nat} {L : al_T} {st : List av_T} {h : ah_T} {kc ks : Nat} {idx ci k a : Nat} {fs : List av_T} {x : Int} (hd : ad_D M pc (.putfield idx) 3 n) (hf : af_put M.1.cls M.1.name idx ci k .long) (hc : h[a]? = some (ac_o ci fs)) (hl : k < fs.length) (kk : aw_W w M d P n L st (h.set a (ac_o ci (fs.set k (av_l x)))) kc ks) : aw_W w M d P pc L (av_l x :: av_r a :: st) h kc ks := ag_putV hd hf hc hl rfl rfl kk
theorem ag_puto {w : aw_T} {M : am_T} {d : Nat} {P : ap_T} {pc n : Nat} {L : al_T} {st : List av_T} {h : ah_T} {kc ks : Nat} {idx ci k a : Nat} {fs : List av_T} {q : Option Nat} {nm : String} (hd : ad_D M pc (.putfield idx) 3 n) (hf : af_put M.1.cls M.1.name idx ci k (.object nm)) (hc : h[a]? = some (ac_o ci fs)) (hl : k < fs.length) (kk : aw_W w M d P n L st (h.set a (ac_o ci (fs.set k (av_q q)))) kc ks) : aw_W w M d P pc L (av_q q :: av_r a :: st) h kc ks := ag_putV hd hf hc hl (by rcases q with _ | q <;> rfl) (by rcases q with _ | q <;> rfl) kk
theorem ag_puta {w : aw_T} {M : am_T} {d : Nat} {P : ap_T} {pc n : Nat} {L : al_T} {st : List av_T} {h : ah_T} {kc ks : Nat} {idx ci k a : Nat} {fs : List av_T} {q : Option Nat} {ty : FieldType} (hd : ad_D M pc (.putfield idx) 3 n) (hf : af_put M.1.cls M.1.name idx ci k (.array ty)) (hc : h[a]? = some (ac_o ci fs)) (hl : k < fs.length) (kk : aw_W w M d P n L st (h.set a (ac_o ci (fs.set k (av_q q)))) kc ks) : aw_W w M d P pc L (av_q q :: av_r a :: st) h kc ks := ag_putV hd hf hc hl (by rcases q with _ | q <;> rfl) (by rcases q with _ | q <;> rfl) kk
-- arrays: reading
def ai_up {α : Type} (f : Nat → α) (k : Nat) (v : α) : Nat → α := fun j => if j = k then v else f j
theorem ai_up_s {α : Type} (f : Nat → α) (k : Nat) (v : α) : ai_up f k v k = v := if_pos rfl
theorem ai_up_n {α : Type} (f : Nat → α) {k j : Nat} (v : α) (h : j ≠ k) : ai_up f k v j = f j := if_neg h
theorem ag_iald {w : aw_T} {M : am_T} {d : Nat} {P : ap_T} {pc n : Nat} {L : al_T} {st : List av_T} {h : ah_T} {kc ks : Nat} {a N : Nat} {f : Nat → Int} {i : Int} (hd : ad_D M pc .iaload 1 n) (hc : h[a]? = some (ac_a 0 N f)) (hN : N ≤ 2147483648) (hi : 0 ≤ i ∧ i < N) (kk : aw_W w M d P n L (av_i (f i.toNat) :: st) h kc ks) : aw_W w M d P pc L (av_i i :: av_r a :: st) h kc ks := by
  intro p e R s m args below meth c Q hC hQ H locs cells slots ls hH hS hL hk1 hk2
  obtain ⟨hd, rfl⟩ := hd
  have kw := kk p e R s m args below meth c Q hC hQ H locs cells slots ls hH hS hL hk1 hk2
  obtain ⟨hin, hcl⟩ := ai_in hi hN
  refine va_iald hC.1 hC.2.1 hC.2.2.2.2.2.2.1.1 (ah_one hH hc) 0 0 rfl rfl hin hd ?_
  rw [hcl]
  exact kw
theorem ag_bald {w : aw_T} {M : am_T} {d : Nat} {P : ap_T} {pc n : Nat} {L : al_T} {st : List av_T} {h : ah_T} {kc ks : Nat} {a N : Nat} {f : Nat → Int} {i : Int} (hd : ad_D M pc .baload 1 n) (hc : h[a]? = some (ac_a 1 N f)) (hN : N ≤ 2147483648) (hi : 0 ≤ i ∧ i < N) (kk : aw_W w M d P n L (av_i (f i.toNat) :: st) h kc ks) : aw_W w M d P pc L (av_i i :: av_r a :: st) h kc ks := by
  intro p e R s m args below meth c Q hC hQ H locs cells slots ls hH hS hL hk1 hk2
  obtain ⟨hd, rfl⟩ := hd
  have kw := kk p e R s m args below meth c Q hC hQ H locs cells slots ls hH hS hL hk1 hk2
  obtain ⟨hin, hcl⟩ := ai_in hi hN
  refine va_bald hC.1 hC.2.1 hC.2.2.2.2.2.2.1.1 (ah_one hH hc) 0 1 rfl rfl hin hd ?_
  rw [hcl]
  exact kw
theorem ag_zald {w : aw_T} {M : am_T} {d : Nat} {P : ap_T} {pc n : Nat} {L : al_T} {st : List av_T} {h : ah_T} {kc ks : Nat} {a N : Nat} {f : Nat → Int} {i : Int} (hd : ad_D M pc .baload 1 n) (hc : h[a]? = some (ac_a 2 N f)) (hN : N ≤ 2147483648) (hi : 0 ≤ i ∧ i < N) (kk : aw_W w M d P n L (av_i (f i.toNat) :: st) h kc ks) : aw_W w M d P pc L (av_i i :: av_r a :: st) h kc ks := by
  intro p e R s m args below meth c Q hC hQ H locs cells slots ls hH hS hL hk1 hk2
  obtain ⟨hd, rfl⟩ := hd
  have kw := kk p e R s m args below meth c Q hC hQ H locs cells slots ls hH hS hL hk1 hk2
  obtain ⟨hin, hcl⟩ := ai_in hi hN
  refine va_zald hC.1 hC.2.1 hC.2.2.2.2.2.2.1.1 (ah_one hH hc) 0 2 rfl rfl hin hd ?_
  rw [hcl]
  exact kw
theorem ag_lald {w : aw_T} {M : am_T} {d : Nat} {P : ap_T} {pc n : Nat} {L : al_T} {st : List av_T} {h : ah_T} {kc ks : Nat} {a N : Nat} {f : Nat → Int} {i : Int} (hd : ad_D M pc .laload 1 n) (hc : h[a]? = some (ac_l N f)) (hN : N ≤ 2147483648) (hi : 0 ≤ i ∧ i < N) (kk : aw_W w M d P n L (av_l (f i.toNat) :: st) h kc ks) : aw_W w M d P pc L (av_i i :: av_r a :: st) h kc ks := by
  intro p e R s m args below meth c Q hC hQ H locs cells slots ls hH hS hL hk1 hk2
  obtain ⟨hd, rfl⟩ := hd
  have kw := kk p e R s m args below meth c Q hC hQ H locs cells slots ls hH hS hL hk1 hk2
  obtain ⟨hin, hcl⟩ := ai_in hi hN
  refine va_lald hC.1 hC.2.1 hC.2.2.2.2.2.2.1.1 (ah_one hH hc) 0 3 rfl rfl hin hd ?_
  rw [hcl]
  exact kw
theorem ag_aald {w : aw_T} {M : am_T} {d : Nat} {P : ap_T} {pc n : Nat} {L : al_T} {st : List av_T} {h : ah_T} {kc ks : Nat} {a N : Nat} {f : Nat → Option Nat} {i : Int} (hd : ad_D M pc .aaload 1 n) (hc : h[a]? = some (ac_q N f)) (hN : N ≤ 2147483648) (hi : 0 ≤ i ∧ i < N) (kk : aw_W w M d P n L (av_q (f i.toNat) :: st) h kc ks) : aw_W w M d P pc L (av_i i :: av_r a :: st) h kc ks := by
  intro p e R s m args below meth c Q hC hQ H locs cells slots ls hH hS hL hk1 hk2
  obtain ⟨hd, rfl⟩ := hd
  have kw := kk p e R s m args below meth c Q hC hQ H locs cells slots ls hH hS hL hk1 hk2
  obtain ⟨hin, hcl⟩ := ai_in hi hN
  have hlt : (Int32.ofInt i).toNatClampNeg < N := Nat.not_le.mp fun q => hin (Or.inr q)
  have hat : H[aw_o w + a]? = some (vp_cell (aw_A w 4) (N, .inr (.inr (.inr (.inr (fun j => (f j).map (fun k => aw_o w + k))))))) := hH.2 a _ hc
  have hv : va_rf ((f i.toNat).map (fun k => aw_o w + k)) = av_v w (av_q (f i.toNat)) := by cases f i.toNat <;> rfl
  refine W.aald (v := av_v w (av_q (f i.toNat))) (ty := .array .int) hC.1 hC.2.1 hat (((hC.2.2.2.2.2.2.1.1).2 4 _ rfl).1 N (fun j => va_rf ((f j).map (fun k => aw_o w + k)))) rfl (fun q => by cases q) (by show ¬ (_ ∨ (arrV _ _ _).slots.size ≤ _); rw [arrV_size]; exact hin) ?_ rfl rfl hd kw
  show (arrV _ _ _).slots[_]? = _
  rw [arrV_read _ _ hlt, hcl, hv]
-- arrays: writing
theorem ag_st {w : aw_T} {h : ah_T} {H H1 : Heap} {a : Nat} {c0 : ac_T} {cA : ClassId} {z : vp_A} {c' : ac_T} (hR : ah_R w h H) (hc : h[a]? = some c0) (he : ac_E w c' = .inl (cA, z)) (h1 : H1[aw_o w + a]? = some (vp_cell cA z)) (hz : H1.size = H.size) (ho : ∀ q : Nat, q ≠ aw_o w + a → H1[q]? = H[q]?) : ah_R w (h.set a c') H1 := by
  refine ah_set hR hc ?_ hz ho
  show va_at _ _ (_, ac_E w c') H1
  rw [he]
  exact h1
theorem ag_iast {w : aw_T} {M : am_T} {d : Nat} {P : ap_T} {pc n : Nat} {L : al_T} {st : List av_T} {h : ah_T} {kc ks : Nat} {a N : Nat} {f : Nat → Int} {i x : Int} (hd : ad_D M pc .iastore 1 n) (hc : h[a]? = some (ac_a 0 N f)) (hN : N ≤ 2147483648) (hi : 0 ≤ i ∧ i < N) (kk : aw_W w M d P n L st (h.set a (ac_a 0 N (ai_up f i.toNat x))) kc ks) : aw_W w M d P pc L (av_i x :: av_i i :: av_r a :: st) h kc ks := by
  intro p e R s m args below meth c Q hC hQ H locs cells slots ls hH hS hL hk1 hk2
  obtain ⟨hd, rfl⟩ := hd
  obtain ⟨hin, hcl⟩ := ai_in hi hN
  have hat : H[aw_o w + a]? = some (vp_cell (aw_A w 0) (N, .inl (fun j => Int32.ofInt (f j)))) := hH.2 a _ hc
  refine W.iast hC.1 hC.2.1 hat (((hC.2.2.2.2.2.2.1.1).2 0 _ rfl).1 N _) (fun q => by cases q) (by show ¬ (_ ∨ (arrV _ _ _).slots.size ≤ _); rw [arrV_size]; exact hin) rfl rfl hd fun H1 e1 z oq => ?_
  refine kk p e R s m args below meth c Q hC hQ H1 _ cells slots ls (ag_st (z := (N, .inl (fun j => Int32.ofInt (ai_up f i.toNat x j)))) hH hc rfl ?_ z oq) (hS.put z oq (by show aw_o w ≤ aw_o w + a; omega)) hL hk1 hk2
  rw [e1, vp_cell_i, vp_cell_i, arrV_store, hcl]
  congr 2
  funext q
  by_cases hq : q = i.toNat <;> simp [updV, ai_up, hq]
theorem ag_last {w : aw_T} {M : am_T} {d : Nat} {P : ap_T} {pc n : Nat} {L : al_T} {st : List av_T} {h : ah_T} {kc ks : Nat} {a N : Nat} {f : Nat → Int} {i x : Int} (hd : ad_D M pc .lastore 1 n) (hc : h[a]? = some (ac_l N f)) (hN : N ≤ 2147483648) (hi : 0 ≤ i ∧ i < N) (kk : aw_W w M d P n L st (h.set a (ac_l N (ai_up f i.toNat x))) kc ks) : aw_W w M d P pc L (av_l x :: av_i i :: av_r a :: st) h kc ks := by
  intro p e R s m args below meth c Q hC hQ H locs cells slots ls hH hS hL hk1 hk2
  obtain ⟨hd, rfl⟩ := hd
  obtain ⟨hin, hcl⟩ := ai_in hi hN
  have hat : H[aw_o w + a]? = some (vp_cell (aw_A w 3) (N, .inr (.inl (fun j => Int64.ofInt (f j))))) := hH.2 a _ hc
  refine W.last hC.1 hC.2.1 hat (((hC.2.2.2.2.2.2.1.1).2 3 _ rfl).1 N _) (fun q => by cases q) (by show ¬ (_ ∨ (arrV _ _ _).slots.size ≤ _); rw [arrV_size]; exact hin) rfl rfl hd fun H1 e1 z oq => ?_
  refine kk p e R s m args below meth c Q hC hQ H1 _ cells slots ls (ag_st (z := (N, .inr (.inl (fun j => Int64.ofInt (ai_up f i.toNat x j))))) hH hc rfl ?_ z oq) (hS.put z oq (by show aw_o w ≤ aw_o w + a; omega)) hL hk1 hk2
  rw [e1, vp_cell_l, vp_cell_l, arrV_store, hcl]
  congr 2
  funext q
  by_cases hq : q = i.toNat <;> simp [updV, ai_up, hq]
/-- a byte: what is kept of an int -/
def ai_8 (x : Int) : Int := (Int32.ofInt x).toInt8.toInt32.toInt
theorem ag_bast {w : aw_T} {M : am_T} {d : Nat} {P : ap_T} {pc n : Nat} {L : al_T} {st : List av_T} {h : ah_T} {kc ks : Nat} {a N : Nat} {f : Nat → Int} {i x : Int} (hd : ad_D M pc .bastore 1 n) (hc : h[a]? = some (ac_a 1 N f)) (hN : N ≤ 2147483648) (hi : 0 ≤ i ∧ i < N) (kk : aw_W w M d P n L st (h.set a (ac_a 1 N (ai_up f i.toNat (ai_8 x)))) kc ks) : aw_W w M d P pc L (av_i x :: av_i i :: av_r a :: st) h kc ks := by
  intro p e R s m args below meth c Q hC hQ H locs cells slots ls hH hS hL hk1 hk2
  obtain ⟨hd, rfl⟩ := hd
  obtain ⟨hin, hcl⟩ := ai_in hi hN
  have hat : H[aw_o w + a]? = some (vp_cell (aw_A w 1) (N, .inl (fun j => Int32.ofInt (f j)))) := hH.2 a _ hc
  refine W.bast hC.1 hC.2.1 hat (((hC.2.2.2.2.2.2.1.1).2 1 _ rfl).1 N _) (fun q => by cases q) (by show ¬ (_ ∨ (arrV _ _ _).slots.size ≤ _); rw [arrV_size]; exact hin) rfl rfl hd fun H1 e1 z oq => ?_
  refine kk p e R s m args below meth c Q hC hQ H1 _ cells slots ls (ag_st (z := (N, .inl (fun j => Int32.ofInt (ai_up f i.toNat (ai_8 x) j)))) hH hc rfl ?_ z oq) (hS.put z oq (by show aw_o w ≤ aw_o w + a; omega)) hL hk1 hk2
  rw [e1, vp_cell_i, vp_cell_i, arrV_store, hcl]
  congr 2
  funext q
  by_cases hq : q = i.toNat
  · simp only [updV, ai_up, ai_8, hq, if_true, Int32.ofInt_toInt]
    rfl
  · simp [updV, ai_up, hq]
theorem ag_zast {w : aw_T} {M : am_T} {d : Nat} {P : ap_T} {pc n : Nat} {L : al_T} {st : List av_T} {h : ah_T} {kc ks : Nat} {a N : Nat} {f : Nat → Int} {i x : Int} (hd : ad_D M pc .bastore 1 n) (hc : h[a]? = some (ac_a 2 N f)) (hN : N ≤ 2147483648) (hi : 0 ≤ i ∧ i < N) (hz : x = 0 ∨ x = 1) (kk : aw_W w M d P n L st (h.set a (ac_a 2 N (ai_up f i.toNat x))) kc ks) : aw_W w M d P pc L (av_i x :: av_i i :: av_r a :: st) h kc ks := by
  intro p e R s m args below meth c Q hC hQ H locs cells slots ls hH hS hL hk1 hk2
  obtain ⟨hd, rfl⟩ := hd
  obtain ⟨hin, hcl⟩ := ai_in hi hN
  have hat : H[aw_o w + a]? = some (vp_cell (aw_A w 2) (N, .inl (fun j => Int32.ofInt (f j)))) := hH.2 a _ hc
  refine W.zast hC.1 hC.2.1 hat (((hC.2.2.2.2.2.2.1.1).2 2 _ rfl).1 N _) (fun q => by cases q) (by show ¬ (_ ∨ (arrV _ _ _).slots.size ≤ _); rw [arrV_size]; exact hin) rfl rfl hd fun H1 e1 z oq => ?_
  refine kk p e R s m args below meth c Q hC hQ H1 _ cells slots ls (ag_st (z := (N, .inl (fun j => Int32.ofInt (ai_up f i.toNat x j)))) hH hc rfl ?_ z oq) (hS.put z oq (by show aw_o w ≤ aw_o w + a; omega)) hL hk1 hk2
  rw [e1, vp_cell_i, vp_cell_i, arrV_store, hcl]
  congr 2
  have hnx : narrow .boolean (.int (Int32.ofInt x)) = .int (Int32.ofInt x) := by rcases hz with rfl | rfl <;> rfl
  rw [hnx]
  funext q
  by_cases hq : q = i.toNat <;> simp [updV, ai_up, hq]
theorem ag_alen {w : aw_T} {M : am_T} {d : Nat} {P : ap_T} {pc n : Nat} {L : al_T} {st : List av_T} {h : ah_T} {kc ks : Nat} {a N t : Nat} {f : Nat → Int} (hd : ad_D M pc .arraylength 1 n) (hc : h[a]? = some (ac_a t N f)) (ht : t < 3) (kk : aw_W w M d P n L (av_i N :: st) h kc ks) : aw_W w M d P pc L (av_r a :: st) h kc ks := by
  intro p e R s m args below meth c Q hC hQ H locs cells slots ls hH hS hL hk1 hk2
  obtain ⟨hd, rfl⟩ := hd
  have kw := kk p e R s m args below meth c Q hC hQ H locs cells slots ls hH hS hL hk1 hk2
  have hv : Int32.ofNat N = Int32.ofInt (N : Int) := Int32.ofInt_eq_ofNat.symm
  rcases (show t = 0 ∨ t = 1 ∨ t = 2 by omega) with rfl | rfl | rfl
  · exact va_alen hC.1 hC.2.1 hC.2.2.2.2.2.2.1.1 (ah_one hH hc) 0 0 rfl rfl hv hd kw
  · exact va_alen hC.1 hC.2.1 hC.2.2.2.2.2.2.1.1 (ah_one hH hc) 0 1 rfl rfl hv hd kw
  · exact va_alen hC.1 hC.2.1 hC.2.2.2.2.2.2.1.1 (ah_one hH hc) 0 2 rfl rfl hv hd kw
-- the script
def aw_y (w : aw_T) (j : Nat) : Int := (aw_x w j).toInt
theorem aw_y_in (w : aw_T) (j : Nat) : -2147483648 ≤ aw_y w j ∧ aw_y w j < 2147483648 := ⟨by have := Int32.le_toInt (aw_x w j); unfold aw_y; omega, by have := Int32.toInt_lt (aw_x w j); unfold aw_y; omega⟩
theorem ag_sld {w : aw_T} {M : am_T} {d : Nat} {P : ap_T} {pc n : Nat} {L : al_T} {st : List av_T} {h : ah_T} {kc ks : Nat} {i : Int} (hd : ad_D M pc .iaload 1 n) (hN : aw_L w ≤ 2147483648) (hi : 0 ≤ i ∧ i < aw_L w) (kk : aw_W w M d P n L (av_i (aw_y w i.toNat) :: st) h kc ks) : aw_W w M d P pc L (av_i i :: av_s :: st) h kc ks := by
  intro p e R s m args below meth c Q hC hQ H locs cells slots ls hH hS hL hk1 hk2
  obtain ⟨hd, rfl⟩ := hd
  have kw := kk p e R s m args below meth c Q hC hQ H locs cells slots ls hH hS hL hk1 hk2
  obtain ⟨hin, hcl⟩ := ai_in hi hN
  obtain ⟨hx, hb, hr, hml, hown, hts, hK, hlk, hnm, -, -, hX, hbs⟩ := hC
  refine va_sld (A := aw_N w) hx hb hX.1 (Nat.lt_of_lt_of_le hX.2 hbs) (Nat.not_le.mpr hX.2) hS hin hd ?_
  rw [hcl]
  simp only [List.map_cons, av_v, aw_y, Int32.ofInt_toInt] at kw
  exact kw
theorem ag_slen {w : aw_T} {M : am_T} {d : Nat} {P : ap_T} {pc n : Nat} {L : al_T} {st : List av_T} {h : ah_T} {kc ks : Nat} (hd : ad_D M pc .arraylength 1 n) (kk : aw_W w M d P n L (av_i (aw_L w) :: st) h kc ks) : aw_W w M d P pc L (av_s :: st) h kc ks := by
  intro p e R s m args below meth c Q hC hQ H locs cells slots ls hH hS hL hk1 hk2
  obtain ⟨hd, rfl⟩ := hd
  have kw := kk p e R s m args below meth c Q hC hQ H locs cells slots ls hH hS hL hk1 hk2
  obtain ⟨hx, hb, hr, hml, hown, hts, hK, hlk, hnm, -, -, hX, hbs⟩ := hC
  refine va_slen (A := aw_N w) hx hb hX.1 (Nat.lt_of_lt_of_le hX.2 hbs) (Nat.not_le.mpr hX.2) hS hd ?_
  rw [show Int32.ofNat (aw_L w) = Int32.ofInt (aw_L w : Int) from Int32.ofInt_eq_ofNat.symm]
  exact kw
-- new objects and arrays
def an_ok (cls : String) (idx ci N : Nat) (fs : List av_T) : Prop := ∃ (C : String) (T : u_T) (ty : Nat → FieldType), cs_all[ci]? = some (C, T, N) ∧ (∀ x ∈ u_ws C T N, x ∈ tt_g) ∧ (∀ k, k < N → parseFieldDescriptor (T k).2.2.1 = some (ty k)) ∧ Cond.classLink cls idx C ∈ tt_g ∧ Cond.instantiable C N ∈ tt_g ∧ Cond.initialized C ∈ tt_g ∧ ∀ w : aw_T, ∀ j, j < N → defaultValue (ty j) = vp_V (fs.map (av_v w)) j
theorem ag_new {w : aw_T} {M : am_T} {d : Nat} {P : ap_T} {pc n : Nat} {L : al_T} {st : List av_T} {h : ah_T} {kc ks kc' ks' : Nat} {idx ci N : Nat} {fs : List av_T} (hd : ad_D M pc (.new idx) 3 n) (hw : an_ok M.1.cls idx ci N fs) (hkc : kc' + 1 ≤ kc) (hks : ks' + N ≤ ks) (kk : aw_W w M d P n L (av_r h.length :: st) (h ++ [ac_o ci fs]) kc' ks') : aw_W w M d P pc L st h kc ks := by
  intro p e R s m args below meth c Q hC hQ H locs cells slots ls hH hS hL hk1 hk2
  obtain ⟨hd, rfl⟩ := hd
  have hC0 := hC
  obtain ⟨hx, hb, hr, hml, hown, hts, hK, -⟩ := hC
  obtain ⟨C, T, ty, hcl, hin, hty, hw1, hw2, hw3, hfs⟩ := hw
  have hKn := hK.1.1 ci _ hcl
  refine W.newcK hx hb hown (hts _ hw1) (hts _ hw2) (hts _ hw3) rfl hd (by omega) (by omega) hKn.2.1 hH.1 fun H1 kC hkC e1 z1 o1 => ?_
  refine kk p e R s m args below meth c Q hC0 hQ H1 locs (cells + 1) (slots + N) ls (ah_push hH ?_ (by rw [z1, hH.1]) (fun q hq => o1 q (by rw [← hH.1]; exact hq))) ⟨Nat.le_trans hS.1 (by rw [z1, hH.1]; omega), fun x h1 h2 => (o1 x (by have := hS.1; have := hH.1; omega)).trans (hS.2.1 x h1 h2), hS.2.2⟩ hL (by omega) (by omega)
  exact ⟨_, hcl, (u_born ty hts hin hKn hkC e1 hty).to (hfs w)⟩
theorem ag_newa {w : aw_T} {M : am_T} {d : Nat} {P : ap_T} {pc n : Nat} {L : al_T} {st : List av_T} {h : ah_T} {kc ks kc' ks' : Nat} {atype : ArrayType} {N : Nat} {t : Nat} {ty : FieldType} (hd : ad_D M pc (.newarray atype) 2 n) (hty : newarray.typeOf atype = ty) (ht : (aw_tys w)[t]? = some (aw_A w t, ty)) (hdv : defaultValue ty = .int 0) (hw : Cond.arrayClass ty ∈ tt_g) (hN : N ≤ 100000000) (hcb : componentBytes ty ≤ 4) (hkc : kc' + 1 ≤ kc) (hks : ks' + N ≤ ks) (hobj : ty.toString ≠ "" ∧ ∀ U cA, va_RA U cA ty ↔ U.vm.findClass ("[" ++ ty.toString) = some cA) (kk : aw_W w M d P n L (av_r h.length :: st) (h ++ [ac_a t N (fun _ => 0)]) kc' ks') : aw_W w M d P pc L (av_i (N : Int) :: st) h kc ks := by
  intro p e R s m args below meth c Q hC hQ H locs cells slots ls hH hS hL hk1 hk2
  obtain ⟨hd, rfl⟩ := hd
  have hC0 := hC
  obtain ⟨hx, hb, hr, hml, hown, hts, hK, -⟩ := hC
  subst hty
  have hn : ¬ Int32.ofInt (N : Int) < 0 := by rw [← ai_0, ai_lt (by omega) (by omega)]; omega
  have hcl : (Int32.ofInt (N : Int)).toNatClampNeg = N := by
    have := Int32.toNatClampNeg_ofInt_of_le (n := (N : Int)) (by omega) (by omega)
    rw [this]; omega
  have hby : N * componentBytes (newarray.typeOf atype) ≤ 536870912 := by
    have := Nat.mul_le_mul hN hcb
    omega
  refine va_newaK hx hb (hts _ hw) rfl hd rfl hn hcl hby (by omega) (by omega) hH.1 fun H1 cA e1 z1 o1 hAr hNm => ?_
  have hcA : aw_A w t = cA := by
    have h1 := (hK.1.2 t _ ht).2
    rw [hobj.2] at h1
    exact Option.some.inj (h1.symm.trans hNm)
  refine kk p e R s m args below meth c Q hC0 hQ H1 locs (cells + 1) (slots + N) ls (ah_push hH ?_ (by rw [z1, hH.1]) (fun q hq => o1 q (by rw [← hH.1]; exact hq))) ⟨Nat.le_trans hS.1 (by rw [z1, hH.1]; omega), fun x h1 h2 => (o1 x (by have := hS.1; have := hH.1; omega)).trans (hS.2.1 x h1 h2), hS.2.2⟩ hL (by omega) (by omega)
  show H1[aw_o w + h.length]? = some (vp_cell (aw_A w t) (N, .inl (fun _ => Int32.ofInt 0)))
  rw [e1, vp_cell_i, hcA, hdv]
  rfl
theorem ag_newl {w : aw_T} {M : am_T} {d : Nat} {P : ap_T} {pc n : Nat} {L : al_T} {st : List av_T} {h : ah_T} {kc ks kc' ks' : Nat} {N : Nat} (hd : ad_D M pc (.newarray .long) 2 n) (hw : Cond.arrayClass .long ∈ tt_g) (hN : N ≤ 10000000) (hkc : kc' + 1 ≤ kc) (hks : ks' + N ≤ ks) (kk : aw_W w M d P n L (av_r h.length :: st) (h ++ [ac_l N (fun _ => 0)]) kc' ks') : aw_W w M d P pc L (av_i (N : Int) :: st) h kc ks := by
  intro p e R s m args below meth c Q hC hQ H locs cells slots ls hH hS hL hk1 hk2
  obtain ⟨hd, rfl⟩ := hd
  have hC0 := hC
  obtain ⟨hx, hb, hr, hml, hown, hts, hK, -⟩ := hC
  have hn : ¬ Int32.ofInt (N : Int) < 0 := by rw [← ai_0, ai_lt (by omega) (by omega)]; omega
  have hcl : (Int32.ofInt (N : Int)).toNatClampNeg = N := by
    have := Int32.toNatClampNeg_ofInt_of_le (n := (N : Int)) (by omega) (by omega)
    rw [this]; omega
  have hby : N * componentBytes (newarray.typeOf .long) ≤ 536870912 := by
    show N * 8 ≤ 536870912
    omega
  refine va_newaK (atype := .long) hx hb (hts _ hw) rfl hd rfl hn hcl hby (by omega) (by omega) hH.1 fun H1 cA e1 z1 o1 hAr hNm => ?_
  have hcA : aw_A w 3 = cA := Option.some.inj ((hK.1.2 3 _ rfl).2.symm.trans hNm)
  refine kk p e R s m args below meth c Q hC0 hQ H1 locs (cells + 1) (slots + N) ls (ah_push hH ?_ (by rw [z1, hH.1]) (fun q hq => o1 q (by rw [← hH.1]; exact hq))) ⟨Nat.le_trans hS.1 (by rw [z1, hH.1]; omega), fun x h1 h2 => (o1 x (by have := hS.1; have := hH.1; omega)).trans (hS.2.1 x h1 h2), hS.2.2⟩ hL (by omega) (by omega)
  show H1[aw_o w + h.length]? = some (vp_cell (aw_A w 3) (N, .inr (.inl (fun _ => Int64.ofInt 0))))
  rw [e1, vp_cell_l, hcA]
  rfl
theorem ag_obj {w : aw_T} {M : am_T} {d : Nat} {P : ap_T} {pc n : Nat} {L : al_T} {st : List av_T} {h : ah_T} {kc ks : Nat} {idx a : Nat} (hd : ad_D M pc (.invokespecial idx) 3 n) (h1 : Cond.methodLink M.1.cls idx Lib.objectInit ∈ tt_g) (h2 : Cond.instanceMethod Lib.objectInit ∈ tt_g) (h3 : Cond.code Lib.objectInit ⟨#[0xb1]⟩ 1 none ∈ tt_g) (hd1 : 1 ≤ d) (hst : st.length ≤ 4) (kk : aw_W w M d P n L st h kc ks) : aw_W w M d P pc L (av_r a :: st) h kc ks := by
  intro p e R s m args below meth c Q hC hQ H locs cells slots ls hH hS hL hk1 hk2
  obtain ⟨hd, rfl⟩ := hd
  have kw := kk p e R s m args below meth c Q hC hQ H locs cells slots ls hH hS hL hk1 hk2
  obtain ⟨hx, hb, hr, hml, hown, hts, hK, hlk, hnm, hfr, hlo, -⟩ := hC
  have hs := av_sum w st
  exact W.objInit hx hb hown (hts _ h1) (hts _ h2) (hts _ h3) rfl (hL.2.1.trans hml.symm) rfl hd (by omega) (by show 2 * 0 + _ + 12 ≤ _; omega) kw
end
section
-- ===== calls =====
theorem tt_good : ∀ x ∈ tt_g, (x.onTables && x.keeps) = true ∨ ∃ ty, x = .arrayClass ty := fun _ hx => good_of_word (List.mem_filter.mp hx).2
theorem tt_goodIn {x y : Cond} (hy : y ∈ tt_g) : GoodIn (x :: tt_g) (y :: tt_g) := by
  intro z hz
  rcases List.mem_cons.mp hz with rfl | hz
  · exact ⟨List.mem_cons_of_mem _ hy, tt_good _ hy⟩
  · exact ⟨List.mem_cons_of_mem _ hz, tt_good _ hz⟩
theorem tt_goodG {y : Cond} (hy : y ∈ tt_g) : GoodIn tt_g (y :: tt_g) := by
  intro z hz
  rcases List.mem_cons.mp hz with rfl | hz
  · exact ⟨hy, tt_good _ hy⟩
  · exact ⟨hz, tt_good _ hz⟩
theorem am_blind (w : aw_T) (As : List av_T) (h : ah_T) : FrameBlind (am_Pc w As h) := by
  intro a U g mk hv
  obtain ⟨h1, hK, hH, hX⟩ := hv
  exact ⟨h1, hK.same (U := U.calling g mk a) rfl, hH, hX.to (U := U.calling g mk a) (Vm.Alike.refl U.vm)⟩
theorem am_pre {w : aw_T} {As : List av_T} {h : ah_T} {s : State} {H : Heap} {locs : List Loc} (hK : aw_K w s) (hH : ah_R w h H) (hX : aw_X w s s.heap) (hbs : aw_o w ≤ s.heap.size) (hS : va_S (aw_N w) s.heap H locs) : ∀ U : State, U.heap = H → s.WarmedH U.vm → am_Pc w As h ((As.map (av_v w)).toArray) U := by
  intro U hU hW
  have hb : H[aw_b w]? = s.heap[aw_b w]? := hS.2.1 _ (Nat.lt_of_lt_of_le hX.2 hbs) (Nat.not_le.mpr hX.2)
  refine ⟨rfl, hK.warm hW, by rw [hU]; exact hH, ?_⟩
  rw [hU]
  exact ⟨(va_X.kept hX.1 hb).moved hW.alike, hX.2⟩
theorem am_goes {w : aw_T} {P2 : ap_T} {p : Program} {e : Env} {R : Room} {s : State} {m : MethodId} {args a : Array Value} {below : List Frame} {meth : Method} {c : Code} {H : Heap} {locs : List Loc} {cells slots mc ms : Nat} {Q : State → Prop} {pc : Nat} {ls : Array Slot} {st0 rest : List Value}
    (hr : va_Run p (aw_l w) e R s m args below meth c H locs cells slots mc ms (F0 m pc ls st0) rest (am_Qc w P2 a) (aw_N w)) (hS : va_S (aw_N w) s.heap H locs)
    (kk : ∀ (r : Option av_T) (h' : ah_T) (H1 : Heap) (locs1 : List Loc), P2 r h' → ah_R w h' H1 → va_S (aw_N w) s.heap H1 locs1 → W p (aw_l w) e R s m args below meth c H1 locs1 (cells + mc) (slots + ms) Q (F0 m (pc + 3) ls ((r.map (av_v w)).toList ++ rest))) : W p (aw_l w) e R s m args below meth c H locs cells slots Q (F0 m pc ls st0) := by
  intro T hT X
  obtain ⟨v, st₀, t, T', L, h0, X', hL, e1, e2, ⟨⟨r, h', hv, hp, hR⟩, hz, hk⟩, st⟩ := hr T hT X
  cases hv
  rw [h0] at hz hk
  obtain ⟨t2, a1, b1⟩ := kk r h' T'.heap (locs ++ L) hp (by rw [e1]; exact hR)
    ⟨Nat.le_trans hS.1 (by rw [e1]; exact hz), fun q h1 h2 => by rw [e1, hk q (Nat.lt_of_lt_of_le h1 hS.1) h2]; exact hS.2.1 q h1 h2, fun q hq => by
      rcases List.mem_append.mp hq with h | h
      · exact hS.2.2 q h
      · exact hL q h⟩ T' rfl X'
  exact ⟨t2, st t2 a1, b1⟩
/-- what the tables say of a call site: the method called, by its words -/
def ai_B (cls : String) (idx : Nat) (M2 : am_T) (k : Nat) : Prop :=
  Cond.code M2.1 M2.2.1 M2.2.2.1 M2.2.2.2 ∈ tt_g ∧ Cond.initialized M2.1.cls ∈ tt_g ∧ (M2.1.cls ≠ "java/lang/invoke/MethodHandle" ∧ M2.1.cls ≠ "java/lang/invoke/VarHandle" ∧ (parseMethodDescriptor M2.1.desc).map (fun d => d.parameters.length) = some k) ∧ M2.2.2.1 ≤ 40 ∧
  ((Cond.methodLink cls idx M2.1 ∈ tt_g) ∨ ∃ host, Cond.methodLinkNest cls idx M2.1 host ∈ tt_n)
theorem ai_wc (w : aw_T) {rest : List av_T} (h : rest.length ≤ 4) : ((rest.map (av_v w)).map fun v => v.category).sum ≤ 8 := by
  have := av_sum w rest
  omega
section CALLS
variable {w : aw_T} {M : am_T} {d : Nat} {P : ap_T} {pc n : Nat} {L : al_T} {st rest : List av_T} {h : ah_T} {kc ks kc' ks' : Nat} {idx : Nat} {M2 : am_T} {d2 k mc ms : Nat} {As : List av_T} {P2 : ap_T}
theorem ag_callS (hd : ad_D M pc (.invokestatic idx) 3 n) (hc : ai_B M.1.cls idx M2 k ∧ Cond.static M2.1 ∈ tt_g) (hM : am_M w M2 d2 As h mc ms P2) (hst : st = As.reverse ++ rest) (hlen : As.length = k) (hd2 : d2 + 1 ≤ d) (hrl : rest.length ≤ 4) (hkc : mc + kc' ≤ kc) (hks : ms + ks' ≤ ks)
    (kk : ∀ (r : Option av_T) (h' : ah_T), P2 r h' → aw_W w M d P n L (r.toList ++ rest) h' kc' ks') : aw_W w M d P pc L st h kc ks := by
  intro p e R s m args below meth c Q hC hQ H locs cells slots ls hH hS hL hk1 hk2
  obtain ⟨hd, rfl⟩ := hd
  have hC0 := hC
  obtain ⟨hx, hb, hr, hml, hown, hts, hK, hlk, hnm, hfr, hlo, hX, hbs⟩ := hC
  obtain ⟨⟨w1, w2, w3, w4, w5⟩, w6⟩ := hc
  have hp : PreS s H (am_Pc w As h) (As.map (av_v w)) := ⟨am_blind w As h, am_pre hK hH hX hbs hS⟩
  have hstk : (F0 m pc ls (st.map (av_v w))).stack = (As.map (av_v w)).reverse ++ rest.map (av_v w) := by
    show st.map (av_v w) = _
    rw [hst, List.map_append, List.map_reverse]
  have hR2 : (am_rm d2 mc ms).frames + 1 ≤ R.frames ∧ 8 + (M2.2.2.1 + 11) + (am_rm d2 mc ms).locals ≤ R.locals := ⟨by show d2 + 1 ≤ _; omega, by show 8 + (M2.2.2.1 + 11) + (60 * d2 + 20) ≤ _; omega⟩
  have hf : cells + mc ≤ R.cells ∧ slots + ms ≤ R.slots := ⟨by omega, by omega⟩
  have run : va_Run p (aw_l w) e R s m args below meth c H locs cells slots mc ms (F0 m pc ls (st.map (av_v w))) (rest.map (av_v w)) (am_Qc w P2 (As.map (av_v w)).toArray) (aw_N w) := by
    rcases w5 with w5 | ⟨host, w5⟩
    · exact va_runS (Ts := tt_g) ⟨hx, hb, hml, hown, hts⟩ hM ⟨callB_of k hts (tt_goodG w1) rfl rfl rfl (hts _ w2) (hts _ w5) w3 hR2, hts _ w6⟩ hp rfl (by rw [List.length_map]; exact hlen) hL.2.1 hstk (lv_room (ai_wc w hrl)) hd hf
    · exact va_runSN (Ts := tt_g) ⟨hx, hb, hml, hown, hts⟩ hM ⟨va_cnB k hts (tt_goodG w1) rfl rfl rfl (hK.2 _ w5) (hts _ w2) w3 hR2, hts _ w6, trivial⟩ hp rfl (by rw [List.length_map]; exact hlen) hL.2.1 hstk (lv_room (ai_wc w hrl)) hd hf
  refine am_goes run hS (fun r h' H1 locs1 hp2 hR1 hS1 => ?_)
  have kw := kk r h' hp2 p e R s m args below meth c Q hC0 hQ H1 locs1 (cells + mc) (slots + ms) ls hR1 hS1 hL (by omega) (by omega)
  rw [List.map_append] at kw
  cases r <;> exact kw
theorem ag_callV {a ci : Nat} {fs : List av_T} {T : u_T} {N : Nat} (hd : ad_D M pc (.invokevirtual idx) 3 n) (hc : ai_B M.1.cls idx M2 k ∧ Cond.instanceMethod M2.1 ∈ tt_g ∧ Cond.selects M2.1.cls M2.1 M2.1 ∈ tt_g) (hcell : h[a]? = some (ac_o ci fs)) (hci : cs_all[ci]? = some (M2.1.cls, T, N)) (hM : am_M w M2 d2 (av_r a :: As) h mc ms P2) (hst : st = As.reverse ++ av_r a :: rest) (hlen : As.length = k) (hd2 : d2 + 1 ≤ d) (hrl : rest.length ≤ 4) (hkc : mc + kc' ≤ kc) (hks : ms + ks' ≤ ks)
    (kk : ∀ (r : Option av_T) (h' : ah_T), P2 r h' → aw_W w M d P n L (r.toList ++ rest) h' kc' ks') : aw_W w M d P pc L st h kc ks := by
  intro p e R s m args below meth c Q hC hQ H locs cells slots ls hH hS hL hk1 hk2
  obtain ⟨hd, rfl⟩ := hd
  have hC0 := hC
  obtain ⟨hx, hb, hr, hml, hown, hts, hK, hlk, hnm, hfr, hlo, hX, hbs⟩ := hC
  obtain ⟨⟨w1, w2, w3, w4, w5⟩, w6, w7⟩ := hc
  have hp : PreV s H M2.1.cls (aw_o w + a) (am_Pc w (av_r a :: As) h) (As.map (av_v w)) := ⟨am_blind w _ h, va_recv hK.1 (ah_one hH hcell) hci (q0 := 0) rfl, am_pre hK hH hX hbs hS⟩
  have hstk : (F0 m pc ls (st.map (av_v w))).stack = (As.map (av_v w)).reverse ++ .ref (aw_o w + a) :: rest.map (av_v w) := by
    show st.map (av_v w) = _
    rw [hst, List.map_append, List.map_reverse]
    rfl
  have hR2 : (am_rm d2 mc ms).frames + 1 ≤ R.frames ∧ 8 + (M2.2.2.1 + 11) + (am_rm d2 mc ms).locals ≤ R.locals := ⟨by show d2 + 1 ≤ _; omega, by show 8 + (M2.2.2.1 + 11) + (60 * d2 + 20) ≤ _; omega⟩
  have hf : cells + mc ≤ R.cells ∧ slots + ms ≤ R.slots := ⟨by omega, by omega⟩
  have run : va_Run p (aw_l w) e R s m args below meth c H locs cells slots mc ms (F0 m pc ls (st.map (av_v w))) (rest.map (av_v w)) (am_Qc w P2 (Value.ref (aw_o w + a) :: As.map (av_v w)).toArray) (aw_N w) := by
    rcases w5 with w5 | ⟨host, w5⟩
    · exact va_runV (Ts := tt_g) ⟨hx, hb, hml, hown, hts⟩ hM ⟨callB_of k hts (tt_goodG w1) rfl rfl rfl (hts _ w2) (hts _ w5) w3 hR2, hts _ w6, hts _ w7⟩ hp rfl (by rw [List.length_map]; exact hlen) hL.2.1 hstk (lv_room (ai_wc w hrl)) hd hf
    · exact va_runVN (Ts := tt_g) ⟨hx, hb, hml, hown, hts⟩ hM ⟨va_cnB k hts (tt_goodG w1) rfl rfl rfl (hK.2 _ w5) (hts _ w2) w3 hR2, hts _ w6, hts _ w7⟩ hp rfl (by rw [List.length_map]; exact hlen) hL.2.1 hstk (lv_room (ai_wc w hrl)) hd hf
  refine am_goes run hS (fun r h' H1 locs1 hp2 hR1 hS1 => ?_)
  have kw := kk r h' hp2 p e R s m args below meth c Q hC0 hQ H1 locs1 (cells + mc) (slots + ms) ls hR1 hS1 hL (by omega) (by omega)
  rw [List.map_append] at kw
  cases r <;> exact kw
theorem ag_callI {a : Nat} (hd : ad_D M pc (.invokespecial idx) 3 n) (hc : ai_B M.1.cls idx M2 k ∧ Cond.instanceMethod M2.1 ∈ tt_g ∧ M2.1.name = "<init>" ∧ M2.2.2.2 = none) (hM : am_M w M2 d2 (av_r a :: As) h mc ms P2) (hst : st = As.reverse ++ av_r a :: rest) (hlen : As.length = k) (hd2 : d2 + 1 ≤ d) (hrl : rest.length ≤ 4) (hkc : mc + kc' ≤ kc) (hks : ms + ks' ≤ ks)
    (kk : ∀ (r : Option av_T) (h' : ah_T), P2 r h' → aw_W w M d P n L (r.toList ++ rest) h' kc' ks') : aw_W w M d P pc L st h kc ks := by
  intro p e R s m args below meth c Q hC hQ H locs cells slots ls hH hS hL hk1 hk2
  obtain ⟨hd, rfl⟩ := hd
  have hC0 := hC
  obtain ⟨hx, hb, hr, hml, hown, hts, hK, hlk, hnm, hfr, hlo, hX, hbs⟩ := hC
  obtain ⟨⟨w1, w2, w3, w4, w5⟩, w6, w7, w8⟩ := hc
  obtain ⟨y2, b2, l2, r2⟩ := M2
  dsimp only at w8 w7 w6 w5 w4 w3 w2 w1
  subst w8
  have hp : PreS s H (am_Pc w (av_r a :: As) h) (.ref (aw_o w + a) :: As.map (av_v w)) := ⟨am_blind w _ h, am_pre hK hH hX hbs hS⟩
  have hstk : (F0 m pc ls (st.map (av_v w))).stack = (As.map (av_v w)).reverse ++ .ref (aw_o w + a) :: rest.map (av_v w) := by
    show st.map (av_v w) = _
    rw [hst, List.map_append, List.map_reverse]
    rfl
  have hR2 : (am_rm d2 mc ms).frames + 1 ≤ R.frames ∧ 8 + (l2 + 11) + (am_rm d2 mc ms).locals ≤ R.locals := ⟨by show d2 + 1 ≤ _; omega, by show 8 + (l2 + 11) + (60 * d2 + 20) ≤ _; omega⟩
  have hf : cells + mc ≤ R.cells ∧ slots + ms ≤ R.slots := ⟨by omega, by omega⟩
  have run : va_Run p (aw_l w) e R s m args below meth c H locs cells slots mc ms (F0 m pc ls (st.map (av_v w))) (rest.map (av_v w)) (am_Qc w P2 (Value.ref (aw_o w + a) :: As.map (av_v w)).toArray) (aw_N w) := by
    rcases w5 with w5 | ⟨host, w5⟩
    · exact va_runI (Ts := tt_g) ⟨hx, hb, hml, hown, hts⟩ hM ⟨callB_of k hts (tt_goodG w1) rfl rfl rfl (hts _ w2) (hts _ w5) w3 hR2, w7, hts _ w6⟩ hp rfl (by rw [List.length_map]; exact hlen) hL.2.1 hstk (lv_room (ai_wc w hrl)) hd hf
    · exact va_runIN (Ts := tt_g) ⟨hx, hb, hml, hown, hts⟩ hM ⟨va_cnB k hts (tt_goodG w1) rfl rfl rfl (hK.2 _ w5) (hts _ w2) w3 hR2, w7, hts _ w6⟩ hp rfl (by rw [List.length_map]; exact hlen) hL.2.1 hstk (lv_room (ai_wc w hrl)) hd hf
  refine am_goes run hS (fun r h' H1 locs1 hp2 hR1 hS1 => ?_)
  have kw := kk r h' hp2 p e R s m args below meth c Q hC0 hQ H1 locs1 (cells + mc) (slots + ms) ls hR1 hS1 hL (by omega) (by omega)
  rw [List.map_append] at kw
  cases r <;> exact kw
end CALLS
-- java.lang.Math
section MATH
variable {w : aw_T} {M : am_T} {d : Nat} {P : ap_T} {pc n : Nat} {L : al_T} {st : List av_T} {h : ah_T} {kc ks : Nat} {idx : Nat} {a b : Int}
theorem ag_max (hd : ad_D M pc (.invokestatic idx) 3 n) (h1 : Cond.methodLink M.1.cls idx Lib.Math.max.name ∈ tt_g) (h2 : Cond.static Lib.Math.max.name ∈ tt_g) (h3 : Cond.initialized "java/lang/Math" ∈ tt_g) (h4 : Cond.code Lib.Math.max.name Lib.Math.max.code 2 (some .int) ∈ tt_g) (ha : -2147483648 ≤ a ∧ a < 2147483648) (hb : -2147483648 ≤ b ∧ b < 2147483648) (hd1 : 1 ≤ d) (hrl : st.length ≤ 3) (kk : aw_W w M d P n L (av_i (max a b) :: st) h kc ks) : aw_W w M d P pc L (av_i b :: av_i a :: st) h kc ks := by
  intro p e R s m args below meth c Q hC hQ H locs cells slots ls hH hS hL hk1 hk2
  obtain ⟨hd, rfl⟩ := hd
  have kw := kk p e R s m args below meth c Q hC hQ H locs cells slots ls hH hS hL hk1 hk2
  obtain ⟨hx, hbb, hr, hml, hown, hts, hK, hlk, hnm, hfr, hlo, hX, hbs⟩ := hC
  have hsum := av_sum w st
  refine va_mmax hx hbb (hml.trans hL.2.1.symm) hown (hts _ h1) (hts _ h2) (hts _ h3) (hts _ h4) (by omega) (by omega) (by omega) (by omega) hd ?_
  have e : (if Int32.ofInt a < Int32.ofInt b then Int32.ofInt b else Int32.ofInt a) = Int32.ofInt (max a b) := by
    by_cases q : a < b
    · rw [if_pos ((ai_lt ha hb).mpr q), Int.max_eq_right (by omega)]
    · rw [if_neg (fun z => q ((ai_lt ha hb).mp z)), Int.max_eq_left (by omega)]
  rw [e]
  exact kw
theorem ag_min (hd : ad_D M pc (.invokestatic idx) 3 n) (h1 : Cond.methodLink M.1.cls idx Lib.Math.min.name ∈ tt_g) (h2 : Cond.static Lib.Math.min.name ∈ tt_g) (h3 : Cond.initialized "java/lang/Math" ∈ tt_g) (h4 : Cond.code Lib.Math.min.name Lib.Math.min.code 2 (some .int) ∈ tt_g) (ha : -2147483648 ≤ a ∧ a < 2147483648) (hb : -2147483648 ≤ b ∧ b < 2147483648) (hd1 : 1 ≤ d) (hrl : st.length ≤ 3) (kk : aw_W w M d P n L (av_i (min a b) :: st) h kc ks) : aw_W w M d P pc L (av_i b :: av_i a :: st) h kc ks := by
  intro p e R s m args below meth c Q hC hQ H locs cells slots ls hH hS hL hk1 hk2
  obtain ⟨hd, rfl⟩ := hd
  have kw := kk p e R s m args below meth c Q hC hQ H locs cells slots ls hH hS hL hk1 hk2
  obtain ⟨hx, hbb, hr, hml, hown, hts, hK, hlk, hnm, hfr, hlo, hX, hbs⟩ := hC
  have hsum := av_sum w st
  refine va_mmin hx hbb (hml.trans hL.2.1.symm) hown (hts _ h1) (hts _ h2) (hts _ h3) (hts _ h4) (by omega) (by omega) (by omega) (by omega) hd ?_
  have e : (if Int32.ofInt b < Int32.ofInt a then Int32.ofInt b else Int32.ofInt a) = Int32.ofInt (min a b) := by
    by_cases q : b < a
    · rw [if_pos ((ai_lt hb ha).mpr q), Int.min_eq_right (by omega)]
    · rw [if_neg (fun z => q ((ai_lt hb ha).mp z)), Int.min_eq_left (by omega)]
  rw [e]
  exact kw
theorem ag_abs (hd : ad_D M pc (.invokestatic idx) 3 n) (h1 : Cond.methodLink M.1.cls idx Lib.Math.abs.name ∈ tt_g) (h2 : Cond.static Lib.Math.abs.name ∈ tt_g) (h3 : Cond.initialized "java/lang/Math" ∈ tt_g) (h4 : Cond.code Lib.Math.abs.name Lib.Math.abs.code 1 (some .int) ∈ tt_g) (ha : -2147483648 ≤ a ∧ a < 2147483648) (hd1 : 1 ≤ d) (hrl : st.length ≤ 3) (kk : aw_W w M d P n L (av_i (if 0 ≤ a then a else -a) :: st) h kc ks) : aw_W w M d P pc L (av_i a :: st) h kc ks := by
  intro p e R s m args below meth c Q hC hQ H locs cells slots ls hH hS hL hk1 hk2
  obtain ⟨hd, rfl⟩ := hd
  have kw := kk p e R s m args below meth c Q hC hQ H locs cells slots ls hH hS hL hk1 hk2
  obtain ⟨hx, hbb, hr, hml, hown, hts, hK, hlk, hnm, hfr, hlo, hX, hbs⟩ := hC
  have hsum := av_sum w st
  refine va_mabs hx hbb (hml.trans hL.2.1.symm) hown (hts _ h1) (hts _ h2) (hts _ h3) (hts _ h4) (by omega) (by omega) (by omega) (by omega) hd ?_
  have e : (if 0 ≤ Int32.ofInt a then Int32.ofInt a else 0 - Int32.ofInt a) = Int32.ofInt (if 0 ≤ a then a else -a) := by
    have hz : (0 : Int32) ≤ Int32.ofInt a ↔ 0 ≤ a := ai_le (a := 0) (by omega) ha
    by_cases q : 0 ≤ a
    · rw [if_pos (hz.mpr q), if_pos q]
    · rw [if_neg (fun z => q (hz.mp z)), if_neg q, Int32.ofInt_neg]
      simp
  rw [e]
  exact kw
theorem ag_maxl (hd : ad_D M pc (.invokestatic idx) 3 n) (h1 : Cond.methodLink M.1.cls idx Lib.MathLoose.max_long.x ∈ tt_g) (h2 : Cond.static Lib.MathLoose.max_long.x ∈ tt_g) (h3 : Cond.initialized "java/lang/Math" ∈ tt_g) (h4 : Cond.code Lib.MathLoose.max_long.x Lib.MathLoose.max_long.code 4 (some .long) ∈ tt_g) (ha : -9223372036854775808 ≤ a ∧ a < 9223372036854775808) (hb : -9223372036854775808 ≤ b ∧ b < 9223372036854775808) (hd1 : 1 ≤ d) (hrl : st.length ≤ 3) (kk : aw_W w M d P n L (av_l (max a b) :: st) h kc ks) : aw_W w M d P pc L (av_l b :: av_l a :: st) h kc ks := by
  intro p e R s m args below meth c Q hC hQ H locs cells slots ls hH hS hL hk1 hk2
  obtain ⟨hd, rfl⟩ := hd
  have kw := kk p e R s m args below meth c Q hC hQ H locs cells slots ls hH hS hL hk1 hk2
  obtain ⟨hx, hbb, hr, hml, hown, hts, hK, hlk, hnm, hfr, hlo, hX, hbs⟩ := hC
  have hsum := av_sum w st
  refine va_mmax_long hx hbb (hml.trans hL.2.1.symm) hown (hts _ h1) (hts _ h2) (hts _ h3) (hts _ h4) (by omega) (by omega) (by omega) (by omega) hd ?_
  have e : (if Int64.ofInt b < Int64.ofInt a then Int64.ofInt a else Int64.ofInt b) = Int64.ofInt (max a b) := by
    by_cases q : b < a
    · rw [if_pos ((al_lt hb ha).mpr q), Int.max_eq_left (by omega)]
    · rw [if_neg (fun z => q ((al_lt hb ha).mp z)), Int.max_eq_right (by omega)]
  rw [e]
  exact kw
theorem ag_minl (hd : ad_D M pc (.invokestatic idx) 3 n) (h1 : Cond.methodLink M.1.cls idx Lib.MathLoose.min_long.x ∈ tt_g) (h2 : Cond.static Lib.MathLoose.min_long.x ∈ tt_g) (h3 : Cond.initialized "java/lang/Math" ∈ tt_g) (h4 : Cond.code Lib.MathLoose.min_long.x Lib.MathLoose.min_long.code 4 (some .long) ∈ tt_g) (ha : -9223372036854775808 ≤ a ∧ a < 9223372036854775808) (hb : -9223372036854775808 ≤ b ∧ b < 9223372036854775808) (hd1 : 1 ≤ d) (hrl : st.length ≤ 3) (kk : aw_W w M d P n L (av_l (min a b) :: st) h kc ks) : aw_W w M d P pc L (av_l b :: av_l a :: st) h kc ks := by
  intro p e R s m args below meth c Q hC hQ H locs cells slots ls hH hS hL hk1 hk2
  obtain ⟨hd, rfl⟩ := hd
  have kw := kk p e R s m args below meth c Q hC hQ H locs cells slots ls hH hS hL hk1 hk2
  obtain ⟨hx, hbb, hr, hml, hown, hts, hK, hlk, hnm, hfr, hlo, hX, hbs⟩ := hC
  have hsum := av_sum w st
  refine va_mmin_long hx hbb (hml.trans hL.2.1.symm) hown (hts _ h1) (hts _ h2) (hts _ h3) (hts _ h4) (by omega) (by omega) (by omega) (by omega) hd ?_
  have e : (if Int64.ofInt b < Int64.ofInt a then Int64.ofInt b else Int64.ofInt a) = Int64.ofInt (min a b) := by
    by_cases q : b < a
    · rw [if_pos ((al_lt hb ha).mpr q), Int.min_eq_right (by omega)]
    · rw [if_neg (fun z => q ((al_lt hb ha).mp z)), Int.min_eq_left (by omega)]
  rw [e]
  exact kw
end MATH
end
section
-- int[n][k]
theorem ag_mna {w : aw_T} {M : am_T} {d : Nat} {P : ap_T} {pc n : Nat} {L : al_T} {st : List av_T} {h : ah_T} {kc ks kc' ks' : Nat} {idx N K : Nat} (hd : ad_D M pc (.multianewarray idx 2) 4 n) (h1 : Cond.classLink M.1.cls idx ("[" ++ (FieldType.array .int).toString) ∈ tt_g) (h2 : Cond.arrayOver (.array .int) ∈ tt_g) (h3 : Cond.arrayClass .int ∈ tt_g) (hN : N ≤ 1000000) (hK2 : K ≤ 1000000) (hkc : kc' + (1 + N) ≤ kc) (hks : ks' + (N + N * K) ≤ ks) (kk : aw_W w M d P n L (av_r h.length :: st) (h ++ (ac_q N (fun i => if i < N then some (h.length + 1 + i) else none) :: List.replicate N (ac_a 0 K (fun _ => 0)))) kc' ks') : aw_W w M d P pc L (av_i (K : Int) :: av_i (N : Int) :: st) h kc ks := by
  sorry
end
section
abbrev mm_X_init : am_T := (⟨"CaneRounds", "<init>", "()V"⟩, prog_1_method_1_code, 1, none)
abbrev mm_Farms_init : am_T := (⟨"CaneRounds$Farms", "<init>", "()V"⟩, prog_5_method_1_code, 1, none)
abbrev mm_Weather_init : am_T := (⟨"CaneRounds$Weather", "<init>", "()V"⟩, prog_11_method_1_code, 1, none)
abbrev mm_Bundles_init : am_T := (⟨"CaneRounds$Bundles", "<init>", "()V"⟩, prog_3_method_1_code, 1, none)
abbrev mm_Chooser_init : am_T := (⟨"CaneRounds$Chooser", "<init>", "()V"⟩, prog_4_method_1_code, 1, none)
abbrev mm_Tape_init : am_T := (⟨"CaneRounds$Tape", "<init>", "()V"⟩, prog_10_method_1_code, 1, none)
abbrev mm_Formula_init : am_T := (⟨"CaneRounds$Formula", "<init>", "()V"⟩, prog_7_method_1_code, 1, none)
abbrev mm_X_rules : am_T := (⟨"CaneRounds", "rules", "(IIII)Z"⟩, prog_1_method_2_code, 6, (some .boolean))
abbrev mm_X_isWithin : am_T := (⟨"CaneRounds", "isWithin", "(III)Z"⟩, prog_1_method_43_code, 3, (some .boolean))
abbrev mm_X_farm : am_T := (⟨"CaneRounds", "farm", "()I"⟩, prog_1_method_3_code, 1, (some .int))
abbrev mm_Farms_add : am_T := (⟨"CaneRounds$Farms", "add", "()I"⟩, prog_5_method_2_code, 1, (some .int))
abbrev mm_X_field : am_T := (⟨"CaneRounds", "field", "(IIIIII)I"⟩, prog_1_method_4_code, 10, (some .int))
abbrev mm_X_fieldCount : am_T := (⟨"CaneRounds", "fieldCount", "()I"⟩, prog_1_method_24_code, 1, (some .int))
abbrev mm_Field_init : am_T := (⟨"CaneRounds$Field", "<init>", "(IIIIIII)V"⟩, prog_6_method_1_code, 8, none)
abbrev mm_X_weather : am_T := (⟨"CaneRounds", "weather", "(ZII)Z"⟩, prog_1_method_5_code, 4, (some .boolean))
abbrev mm_Weather_add : am_T := (⟨"CaneRounds$Weather", "add", "(ZII)Z"⟩, prog_11_method_2_code, 4, (some .boolean))
abbrev mm_Span_init : am_T := (⟨"CaneRounds$Span", "<init>", "(ZIILCaneRounds$Span;)V"⟩, prog_9_method_1_code, 5, none)
abbrev mm_X_round : am_T := (⟨"CaneRounds", "round", "(I)I"⟩, prog_1_method_6_code, 2, (some .int))
abbrev mm_Farms_drawLots : am_T := (⟨"CaneRounds$Farms", "drawLots", "(I)V"⟩, prog_5_method_3_code, 6, none)
abbrev mm_Farms_turn : am_T := (⟨"CaneRounds$Farms", "turn", "()I"⟩, prog_5_method_5_code, 1, (some .int))
abbrev mm_Farms_inOrder : am_T := (⟨"CaneRounds$Farms", "inOrder", "(I)I"⟩, prog_5_method_4_code, 2, (some .int))
abbrev mm_X_pass : am_T := (⟨"CaneRounds", "pass", "()I"⟩, prog_1_method_7_code, 1, (some .int))
abbrev mm_Farms_settleTurn : am_T := (⟨"CaneRounds$Farms", "settleTurn", "()V"⟩, prog_5_method_6_code, 1, none)
abbrev mm_X_cut : am_T := (⟨"CaneRounds", "cut", "(II)Z"⟩, prog_1_method_8_code, 5, (some .boolean))
abbrev mm_X_findField : am_T := (⟨"CaneRounds", "findField", "(I)LCaneRounds$Field;"⟩, prog_1_method_26_code, 3, (some (.object "CaneRounds$Field")))
abbrev mm_X_freeGangs : am_T := (⟨"CaneRounds", "freeGangs", "()I"⟩, prog_1_method_28_code, 3, (some .int))
abbrev mm_X_fire : am_T := (⟨"CaneRounds", "fire", "(I)Z"⟩, prog_1_method_9_code, 3, (some .boolean))
abbrev mm_Field_burn : am_T := (⟨"CaneRounds$Field", "burn", "(I)V"⟩, prog_6_method_5_code, 2, none)
abbrev mm_Field_sweetAt : am_T := (⟨"CaneRounds$Field", "sweetAt", "(I)I"⟩, prog_6_method_2_code, 2, (some .int))
abbrev mm_X_quotient : am_T := (⟨"CaneRounds", "quotient", "(II)I"⟩, prog_1_method_46_code, 2, (some .int))
abbrev mm_X_hours : am_T := (⟨"CaneRounds", "hours", "(I)I"⟩, prog_1_method_10_code, 3, (some .int))
abbrev mm_X_passHour : am_T := (⟨"CaneRounds", "passHour", "()V"⟩, prog_1_method_31_code, 1, none)
abbrev mm_Weather_holds : am_T := (⟨"CaneRounds$Weather", "holds", "(ZI)Z"⟩, prog_11_method_3_code, 4, (some .boolean))
abbrev mm_X_goOnCutting : am_T := (⟨"CaneRounds", "goOnCutting", "()V"⟩, prog_1_method_32_code, 2, none)
abbrev mm_Field_goOn : am_T := (⟨"CaneRounds$Field", "goOn", "(I)V"⟩, prog_6_method_6_code, 2, none)
abbrev mm_X_addLoad : am_T := (⟨"CaneRounds", "addLoad", "(LCaneRounds$Field;)V"⟩, prog_1_method_33_code, 3, none)
abbrev mm_X_loadCount : am_T := (⟨"CaneRounds", "loadCount", "()I"⟩, prog_1_method_25_code, 1, (some .int))
abbrev mm_Load_init : am_T := (⟨"CaneRounds$Load", "<init>", "(ILCaneRounds$Field;I)V"⟩, prog_8_method_1_code, 4, none)
abbrev mm_Field_hoursToDeath : am_T := (⟨"CaneRounds$Field", "hoursToDeath", "()I"⟩, prog_6_method_4_code, 1, (some .int))
abbrev mm_X_sendTrucks : am_T := (⟨"CaneRounds", "sendTrucks", "()V"⟩, prog_1_method_34_code, 3, none)
abbrev mm_X_freeTrucks : am_T := (⟨"CaneRounds", "freeTrucks", "()I"⟩, prog_1_method_29_code, 3, (some .int))
abbrev mm_Load_isOver : am_T := (⟨"CaneRounds$Load", "isOver", "()Z"⟩, prog_8_method_5_code, 1, (some .boolean))
abbrev mm_Load_leave : am_T := (⟨"CaneRounds$Load", "leave", "(I)V"⟩, prog_8_method_2_code, 3, none)
abbrev mm_Field_hoursToMill : am_T := (⟨"CaneRounds$Field", "hoursToMill", "()I"⟩, prog_6_method_3_code, 1, (some .int))
abbrev mm_X_crushLoads : am_T := (⟨"CaneRounds", "crushLoads", "()V"⟩, prog_1_method_35_code, 5, none)
abbrev mm_X_nextToCrush : am_T := (⟨"CaneRounds", "nextToCrush", "()LCaneRounds$Load;"⟩, prog_1_method_36_code, 4, (some (.object "CaneRounds$Load")))
abbrev mm_Load_isAtMill : am_T := (⟨"CaneRounds$Load", "isAtMill", "(I)Z"⟩, prog_8_method_3_code, 2, (some .boolean))
abbrev mm_Load_tonsLeft : am_T := (⟨"CaneRounds$Load", "tonsLeft", "()I"⟩, prog_8_method_4_code, 1, (some .int))
abbrev mm_Bundles_add : am_T := (⟨"CaneRounds$Bundles", "add", "(II)V"⟩, prog_3_method_2_code, 5, none)
abbrev mm_Bundles_count : am_T := (⟨"CaneRounds$Bundles", "count", "()I"⟩, prog_3_method_3_code, 1, (some .int))
abbrev mm_Batch_init : am_T := (⟨"CaneRounds$Batch", "<init>", "(II)V"⟩, prog_2_method_1_code, 3, none)
abbrev mm_X_endLoads : am_T := (⟨"CaneRounds", "endLoads", "()V"⟩, prog_1_method_37_code, 3, none)
abbrev mm_X_endFires : am_T := (⟨"CaneRounds", "endFires", "()V"⟩, prog_1_method_38_code, 2, none)
abbrev mm_X_payDay : am_T := (⟨"CaneRounds", "payDay", "()V"⟩, prog_1_method_39_code, 3, none)
abbrev mm_X_meanOfDay : am_T := (⟨"CaneRounds", "meanOfDay", "()I"⟩, prog_1_method_40_code, 4, (some .int))
abbrev mm_Load_isToBePaid : am_T := (⟨"CaneRounds$Load", "isToBePaid", "()Z"⟩, prog_8_method_6_code, 1, (some .boolean))
abbrev mm_Formula_tell : am_T := (⟨"CaneRounds$Formula", "tell", "(IIIII)I"⟩, prog_7_method_7_code, 7, (some .int))
abbrev mm_Formula_sum : am_T := (⟨"CaneRounds$Formula", "sum", "(I)I"⟩, prog_7_method_8_code, 6, (some .int))
abbrev mm_Formula_product : am_T := (⟨"CaneRounds$Formula", "product", "(I)I"⟩, prog_7_method_9_code, 6, (some .int))
abbrev mm_Formula_one : am_T := (⟨"CaneRounds$Formula", "one", "(I)I"⟩, prog_7_method_10_code, 3, (some .int))
abbrev mm_Formula_token : am_T := (⟨"CaneRounds$Formula", "token", "()I"⟩, prog_7_method_17_code, 1, (some .int))
abbrev mm_Formula_number : am_T := (⟨"CaneRounds$Formula", "number", "(I)I"⟩, prog_7_method_11_code, 2, (some .int))
abbrev mm_Formula_stop : am_T := (⟨"CaneRounds$Formula", "stop", "(I)V"⟩, prog_7_method_18_code, 2, none)
abbrev mm_Formula_opens : am_T := (⟨"CaneRounds$Formula", "opens", "(II)Z"⟩, prog_7_method_15_code, 3, (some .boolean))
abbrev mm_Formula_bracket : am_T := (⟨"CaneRounds$Formula", "bracket", "(I)I"⟩, prog_7_method_13_code, 3, (some .int))
abbrev mm_Formula_take : am_T := (⟨"CaneRounds$Formula", "take", "(I)V"⟩, prog_7_method_16_code, 2, none)
abbrev mm_Formula_lesserOrGreater : am_T := (⟨"CaneRounds$Formula", "lesserOrGreater", "(ZI)I"⟩, prog_7_method_14_code, 5, (some .int))
abbrev mm_Formula_letter : am_T := (⟨"CaneRounds$Formula", "letter", "(I)I"⟩, prog_7_method_12_code, 3, (some .int))
abbrev mm_Formula_limit : am_T := (⟨"CaneRounds$Formula", "limit", "(J)I"⟩, prog_7_method_19_code, 2, (some .int))
abbrev mm_Farms_give : am_T := (⟨"CaneRounds$Farms", "give", "(II)V"⟩, prog_5_method_7_code, 3, none)
abbrev mm_X_feed : am_T := (⟨"CaneRounds", "feed", "(IIIII)I"⟩, prog_1_method_11_code, 6, (some .int))
abbrev mm_Tape_append : am_T := (⟨"CaneRounds$Tape", "append", "(I)V"⟩, prog_10_method_2_code, 3, none)
abbrev mm_X_end : am_T := (⟨"CaneRounds", "end", "(I)I"⟩, prog_1_method_12_code, 2, (some .int))
abbrev mm_X_text : am_T := (⟨"CaneRounds", "text", "()Z"⟩, prog_1_method_13_code, 2, (some .boolean))
abbrev mm_Formula_split : am_T := (⟨"CaneRounds$Formula", "split", "([BI)V"⟩, prog_7_method_2_code, 8, none)
abbrev mm_Formula_kindOf : am_T := (⟨"CaneRounds$Formula", "kindOf", "(I)I"⟩, prog_7_method_4_code, 2, (some .int))
abbrev mm_Formula_wordToken : am_T := (⟨"CaneRounds$Formula", "wordToken", "([BII)I"⟩, prog_7_method_5_code, 4, (some .int))
abbrev mm_Formula_put : am_T := (⟨"CaneRounds$Formula", "put", "(II)V"⟩, prog_7_method_3_code, 3, none)
abbrev mm_Formula_numberToken : am_T := (⟨"CaneRounds$Formula", "numberToken", "([BII)I"⟩, prog_7_method_6_code, 5, (some .int))
abbrev mm_X_fault : am_T := (⟨"CaneRounds", "fault", "(I)I"⟩, prog_1_method_14_code, 2, (some .int))
abbrev mm_X_tells : am_T := (⟨"CaneRounds", "tells", "(IIIII)I"⟩, prog_1_method_15_code, 7, (some .int))
abbrev mm_X_isTold : am_T := (⟨"CaneRounds", "isTold", "(I)Z"⟩, prog_1_method_44_code, 1, (some .boolean))
abbrev mm_X_sweet : am_T := (⟨"CaneRounds", "sweet", "(II)I"⟩, prog_1_method_16_code, 4, (some .int))
abbrev mm_X_fieldOf : am_T := (⟨"CaneRounds", "fieldOf", "(II)I"⟩, prog_1_method_17_code, 4, (some .int))
abbrev mm_X_load : am_T := (⟨"CaneRounds", "load", "(II)I"⟩, prog_1_method_18_code, 4, (some .int))
abbrev mm_X_findLoad : am_T := (⟨"CaneRounds", "findLoad", "(I)LCaneRounds$Load;"⟩, prog_1_method_27_code, 3, (some (.object "CaneRounds$Load")))
abbrev mm_X_bundle : am_T := (⟨"CaneRounds", "bundle", "(I)I"⟩, prog_1_method_19_code, 2, (some .int))
abbrev mm_Bundles_fieldOfTon : am_T := (⟨"CaneRounds$Bundles", "fieldOfTon", "(I)I"⟩, prog_3_method_4_code, 3, (some .int))
abbrev mm_X_best : am_T := (⟨"CaneRounds", "best", "(II)I"⟩, prog_1_method_20_code, 3, (some .int))
abbrev mm_X_choose : am_T := (⟨"CaneRounds", "choose", "(II)Z"⟩, prog_1_method_41_code, 5, (some .boolean))
abbrev mm_X_standingFields : am_T := (⟨"CaneRounds", "standingFields", "()I"⟩, prog_1_method_42_code, 3, (some .int))
abbrev mm_Chooser_clear : am_T := (⟨"CaneRounds$Chooser", "clear", "(I)V"⟩, prog_4_method_2_code, 2, none)
abbrev mm_X_holdsBit : am_T := (⟨"CaneRounds", "holdsBit", "(II)Z"⟩, prog_1_method_45_code, 2, (some .boolean))
abbrev mm_Chooser_offer : am_T := (⟨"CaneRounds$Chooser", "offer", "(LCaneRounds$Field;I)V"⟩, prog_4_method_3_code, 7, none)
abbrev mm_Chooser_insert : am_T := (⟨"CaneRounds$Chooser", "insert", "(I[II)V"⟩, prog_4_method_4_code, 4, none)
abbrev mm_Chooser_decide : am_T := (⟨"CaneRounds$Chooser", "decide", "(I)V"⟩, prog_4_method_5_code, 3, none)
abbrev mm_Chooser_sumDearest : am_T := (⟨"CaneRounds$Chooser", "sumDearest", "(I)V"⟩, prog_4_method_6_code, 5, none)
abbrev mm_Chooser_worthOfDearestThatFit : am_T := (⟨"CaneRounds$Chooser", "worthOfDearestThatFit", "(I)I"⟩, prog_4_method_7_code, 7, (some .int))
abbrev mm_Chooser_fits : am_T := (⟨"CaneRounds$Chooser", "fits", "(II)Z"⟩, prog_4_method_9_code, 6, (some .boolean))
abbrev mm_Chooser_fitsFrom : am_T := (⟨"CaneRounds$Chooser", "fitsFrom", "(II)Z"⟩, prog_4_method_10_code, 7, (some .boolean))
abbrev mm_Chooser_search : am_T := (⟨"CaneRounds$Chooser", "search", "(IIII)V"⟩, prog_4_method_8_code, 7, none)
abbrev mm_X_bestSet : am_T := (⟨"CaneRounds", "bestSet", "(II)I"⟩, prog_1_method_21_code, 3, (some .int))
abbrev mm_X_paid : am_T := (⟨"CaneRounds", "paid", "(I)J"⟩, prog_1_method_22_code, 2, (some .long))
abbrev mm_Farms_earnedBy : am_T := (⟨"CaneRounds$Farms", "earnedBy", "(I)J"⟩, prog_5_method_8_code, 2, (some .long))
abbrev mm_X_about : am_T := (⟨"CaneRounds", "about", "(I)I"⟩, prog_1_method_23_code, 2, (some .int))
abbrev mm_X_tonsLost : am_T := (⟨"CaneRounds", "tonsLost", "()I"⟩, prog_1_method_30_code, 3, (some .int))
abbrev mm_M_init : am_T := (⟨"CaneRoundsModel", "<init>", "()V"⟩, prog_13_method_1_code, 1, none)
abbrev mm_M_rules : am_T := (⟨"CaneRoundsModel", "rules", "(IIII)Z"⟩, prog_13_method_5_code, 5, (some .boolean))
abbrev mm_M_isIn : am_T := (⟨"CaneRoundsModel", "isIn", "(III)Z"⟩, prog_13_method_2_code, 3, (some .boolean))
abbrev mm_M_isHour : am_T := (⟨"CaneRoundsModel", "isHour", "()Z"⟩, prog_13_method_4_code, 1, (some .boolean))
abbrev mm_M_farm : am_T := (⟨"CaneRoundsModel", "farm", "()I"⟩, prog_13_method_6_code, 1, (some .int))
abbrev mm_M_field : am_T := (⟨"CaneRoundsModel", "field", "(IIIIII)I"⟩, prog_13_method_7_code, 8, (some .int))
abbrev mm_M_weather : am_T := (⟨"CaneRoundsModel", "weather", "(ZII)Z"⟩, prog_13_method_8_code, 4, (some .boolean))
abbrev mm_M_round : am_T := (⟨"CaneRoundsModel", "round", "(I)I"⟩, prog_13_method_11_code, 6, (some .int))
abbrev mm_M_turn : am_T := (⟨"CaneRoundsModel", "turn", "()I"⟩, prog_13_method_10_code, 2, (some .int))
abbrev mm_M_pass : am_T := (⟨"CaneRoundsModel", "pass", "()I"⟩, prog_13_method_12_code, 2, (some .int))
abbrev mm_M_cut : am_T := (⟨"CaneRoundsModel", "cut", "(II)Z"⟩, prog_13_method_14_code, 4, (some .boolean))
abbrev mm_M_isField : am_T := (⟨"CaneRoundsModel", "isField", "(I)Z"⟩, prog_13_method_3_code, 2, (some .boolean))
abbrev mm_M_freeGangs : am_T := (⟨"CaneRoundsModel", "freeGangs", "()I"⟩, prog_13_method_13_code, 3, (some .int))
abbrev mm_M_fire : am_T := (⟨"CaneRoundsModel", "fire", "(I)Z"⟩, prog_13_method_16_code, 3, (some .boolean))
abbrev mm_M_sweetAt : am_T := (⟨"CaneRoundsModel", "sweetAt", "(II)I"⟩, prog_13_method_15_code, 5, (some .int))
abbrev mm_M_hours : am_T := (⟨"CaneRoundsModel", "hours", "(I)I"⟩, prog_13_method_25_code, 3, (some .int))
abbrev mm_M_hour : am_T := (⟨"CaneRoundsModel", "hour", "()V"⟩, prog_13_method_24_code, 3, none)
abbrev mm_M_isHindered : am_T := (⟨"CaneRoundsModel", "isHindered", "(ZI)Z"⟩, prog_13_method_9_code, 4, (some .boolean))
abbrev mm_M_cutOn : am_T := (⟨"CaneRoundsModel", "cutOn", "(I)V"⟩, prog_13_method_18_code, 4, none)
abbrev mm_M_send : am_T := (⟨"CaneRoundsModel", "send", "(I)V"⟩, prog_13_method_19_code, 4, none)
abbrev mm_M_trip : am_T := (⟨"CaneRoundsModel", "trip", "(I)I"⟩, prog_13_method_17_code, 1, (some .int))
abbrev mm_M_mill : am_T := (⟨"CaneRoundsModel", "mill", "()V"⟩, prog_13_method_22_code, 5, none)
abbrev mm_M_firstToDie : am_T := (⟨"CaneRoundsModel", "firstToDie", "()I"⟩, prog_13_method_21_code, 3, (some .int))
abbrev mm_M_left : am_T := (⟨"CaneRoundsModel", "left", "(I)I"⟩, prog_13_method_20_code, 2, (some .int))
abbrev mm_M_payDay : am_T := (⟨"CaneRoundsModel", "payDay", "()V"⟩, prog_13_method_23_code, 6, none)
abbrev mm_M_work : am_T := (⟨"CaneRoundsModel", "work", "(IIIII)I"⟩, prog_13_method_45_code, 10, (some .int))
abbrev mm_M_act : am_T := (⟨"CaneRoundsModel", "act", "(IJJ)J"⟩, prog_13_method_44_code, 5, (some .long))
abbrev mm_M_clip : am_T := (⟨"CaneRoundsModel", "clip", "(J)J"⟩, prog_13_method_43_code, 2, (some .long))
abbrev mm_M_feed : am_T := (⟨"CaneRoundsModel", "feed", "(IIIII)I"⟩, prog_13_method_27_code, 6, (some .int))
abbrev mm_M_four : am_T := (⟨"CaneRoundsModel", "four", "(I)V"⟩, prog_13_method_26_code, 3, none)
abbrev mm_M_end : am_T := (⟨"CaneRoundsModel", "end", "(I)I"⟩, prog_13_method_28_code, 2, (some .int))
abbrev mm_M_text : am_T := (⟨"CaneRoundsModel", "text", "()Z"⟩, prog_13_method_41_code, 2, (some .boolean))
abbrev mm_M_readText : am_T := (⟨"CaneRoundsModel", "readText", "()I"⟩, prog_13_method_40_code, 2, (some .int))
abbrev mm_M_nextToken : am_T := (⟨"CaneRoundsModel", "nextToken", "()V"⟩, prog_13_method_33_code, 4, none)
abbrev mm_M_see : am_T := (⟨"CaneRoundsModel", "see", "(I)I"⟩, prog_13_method_29_code, 2, (some .int))
abbrev mm_M_isDigit : am_T := (⟨"CaneRoundsModel", "isDigit", "(I)Z"⟩, prog_13_method_31_code, 1, (some .boolean))
abbrev mm_M_isLetter : am_T := (⟨"CaneRoundsModel", "isLetter", "(I)Z"⟩, prog_13_method_30_code, 1, (some .boolean))
abbrev mm_M_letterOf : am_T := (⟨"CaneRoundsModel", "letterOf", "(I)I"⟩, prog_13_method_32_code, 1, (some .int))
abbrev mm_M_behind : am_T := (⟨"CaneRoundsModel", "behind", "()I"⟩, prog_13_method_39_code, 2, (some .int))
abbrev mm_M_settle : am_T := (⟨"CaneRoundsModel", "settle", "(I)V"⟩, prog_13_method_37_code, 2, none)
abbrev mm_M_emit : am_T := (⟨"CaneRoundsModel", "emit", "(II)V"⟩, prog_13_method_34_code, 3, none)
abbrev mm_M_push : am_T := (⟨"CaneRoundsModel", "push", "(I)V"⟩, prog_13_method_35_code, 2, none)
abbrev mm_M_whole : am_T := (⟨"CaneRoundsModel", "whole", "()V"⟩, prog_13_method_36_code, 1, none)
abbrev mm_M_begin : am_T := (⟨"CaneRoundsModel", "begin", "()I"⟩, prog_13_method_38_code, 2, (some .int))
abbrev mm_M_fault : am_T := (⟨"CaneRoundsModel", "fault", "(I)I"⟩, prog_13_method_42_code, 2, (some .int))
abbrev mm_M_tells : am_T := (⟨"CaneRoundsModel", "tells", "(IIIII)I"⟩, prog_13_method_47_code, 6, (some .int))
abbrev mm_M_isSmall : am_T := (⟨"CaneRoundsModel", "isSmall", "(I)Z"⟩, prog_13_method_46_code, 1, (some .boolean))
abbrev mm_M_sweet : am_T := (⟨"CaneRoundsModel", "sweet", "(II)I"⟩, prog_13_method_48_code, 3, (some .int))
abbrev mm_M_fieldOf : am_T := (⟨"CaneRoundsModel", "fieldOf", "(II)I"⟩, prog_13_method_49_code, 3, (some .int))
abbrev mm_M_load : am_T := (⟨"CaneRoundsModel", "load", "(II)I"⟩, prog_13_method_50_code, 3, (some .int))
abbrev mm_M_bundle : am_T := (⟨"CaneRoundsModel", "bundle", "(I)I"⟩, prog_13_method_51_code, 2, (some .int))
abbrev mm_M_best : am_T := (⟨"CaneRoundsModel", "best", "(II)I"⟩, prog_13_method_56_code, 3, (some .int))
abbrev mm_M_isSet : am_T := (⟨"CaneRoundsModel", "isSet", "(II)Z"⟩, prog_13_method_55_code, 4, (some .boolean))
abbrev mm_M_find : am_T := (⟨"CaneRoundsModel", "find", "(II)I"⟩, prog_13_method_54_code, 8, (some .int))
abbrev mm_M_could : am_T := (⟨"CaneRoundsModel", "could", "(I)Z"⟩, prog_13_method_53_code, 8, (some .boolean))
abbrev mm_M_dyingFirst : am_T := (⟨"CaneRoundsModel", "dyingFirst", "(I)I"⟩, prog_13_method_52_code, 4, (some .int))
abbrev mm_M_bestSet : am_T := (⟨"CaneRoundsModel", "bestSet", "(II)I"⟩, prog_13_method_57_code, 3, (some .int))
abbrev mm_M_paid : am_T := (⟨"CaneRoundsModel", "paid", "(I)J"⟩, prog_13_method_58_code, 2, (some .long))
abbrev mm_M_about : am_T := (⟨"CaneRoundsModel", "about", "(I)I"⟩, prog_13_method_59_code, 4, (some .int))
abbrev mm_L_law : am_T := (⟨"CaneRoundsLaw", "law", "([I)Z"⟩, code, 4, (some .boolean))
theorem fg_X_7 : af_ok "CaneRounds" 7 10 0 := ⟨_, _, _, rfl, by decide, cs_w10, Or.inl (tt_g1 267 (by decide +kernel) (by decide +kernel))⟩
theorem fg_X_13 : af_ok "CaneRounds" 13 10 1 := ⟨_, _, _, rfl, by decide, cs_w10, Or.inl (tt_g1 268 (by decide +kernel) (by decide +kernel))⟩
theorem fg_X_16 : af_ok "CaneRounds" 16 10 2 := ⟨_, _, _, rfl, by decide, cs_w10, Or.inl (tt_g1 269 (by decide +kernel) (by decide +kernel))⟩
theorem fg_X_19 : af_ok "CaneRounds" 19 10 3 := ⟨_, _, _, rfl, by decide, cs_w10, Or.inl (tt_g1 270 (by decide +kernel) (by decide +kernel))⟩
theorem fg_X_22 : af_ok "CaneRounds" 22 10 5 := ⟨_, _, _, rfl, by decide, cs_w10, Or.inl (tt_g1 272 (by decide +kernel) (by decide +kernel))⟩
theorem fg_X_28 : af_ok "CaneRounds" 28 10 10 := ⟨_, _, _, rfl, by decide, cs_w10, Or.inl (tt_g1 277 (by decide +kernel) (by decide +kernel))⟩
theorem fg_X_35 : af_ok "CaneRounds" 35 10 11 := ⟨_, _, _, rfl, by decide, cs_w10, Or.inl (tt_g1 278 (by decide +kernel) (by decide +kernel))⟩
theorem fg_X_42 : af_ok "CaneRounds" 42 10 12 := ⟨_, _, _, rfl, by decide, cs_w10, Or.inl (tt_g1 279 (by decide +kernel) (by decide +kernel))⟩
theorem fg_X_49 : af_ok "CaneRounds" 49 10 13 := ⟨_, _, _, rfl, by decide, cs_w10, Or.inl (tt_g1 280 (by decide +kernel) (by decide +kernel))⟩
theorem fg_X_56 : af_ok "CaneRounds" 56 10 14 := ⟨_, _, _, rfl, by decide, cs_w10, Or.inl (tt_g1 281 (by decide +kernel) (by decide +kernel))⟩
theorem fg_X_63 : af_ok "CaneRounds" 63 10 15 := ⟨_, _, _, rfl, by decide, cs_w10, Or.inl (tt_g1 282 (by decide +kernel) (by decide +kernel))⟩
theorem fg_X_67 : af_ok "CaneRounds" 67 10 16 := ⟨_, _, _, rfl, by decide, cs_w10, Or.inl (tt_g1 283 (by decide +kernel) (by decide +kernel))⟩
theorem fg_X_70 : af_ok "CaneRounds" 70 10 17 := ⟨_, _, _, rfl, by decide, cs_w10, Or.inl (tt_g1 284 (by decide +kernel) (by decide +kernel))⟩
theorem fg_X_73 : af_ok "CaneRounds" 73 10 18 := ⟨_, _, _, rfl, by decide, cs_w10, Or.inl (tt_g1 285 (by decide +kernel) (by decide +kernel))⟩
theorem fg_X_80 : af_ok "CaneRounds" 80 10 4 := ⟨_, _, _, rfl, by decide, cs_w10, Or.inl (tt_g1 271 (by decide +kernel) (by decide +kernel))⟩
theorem fg_X_87 : af_ok "CaneRounds" 87 3 2 := ⟨_, _, _, rfl, by decide, cs_w3, Or.inr ⟨_, tt_ofN (w := Cond.fieldLinkNest "CaneRounds" 87 "CaneRounds$Farms" "count" "I" "CaneRounds") 123 (by decide +kernel) rfl⟩⟩
theorem fg_X_98 : af_ok "CaneRounds" 98 10 7 := ⟨_, _, _, rfl, by decide, cs_w10, Or.inl (tt_g1 274 (by decide +kernel) (by decide +kernel))⟩
theorem fg_X_102 : af_ok "CaneRounds" 102 10 6 := ⟨_, _, _, rfl, by decide, cs_w10, Or.inl (tt_g1 273 (by decide +kernel) (by decide +kernel))⟩
theorem fg_X_105 : af_ok "CaneRounds" 105 4 14 := ⟨_, _, _, rfl, by decide, cs_w4, Or.inr ⟨_, tt_ofN (w := Cond.fieldLinkNest "CaneRounds" 105 "CaneRounds$Field" "next" "LCaneRounds$Field;" "CaneRounds") 380 (by decide +kernel) rfl⟩⟩
theorem fg_X_125 : af_ok "CaneRounds" 125 4 7 := ⟨_, _, _, rfl, by decide, cs_w4, Or.inr ⟨_, tt_ofN (w := Cond.fieldLinkNest "CaneRounds" 125 "CaneRounds$Field" "state" "I" "CaneRounds") 368 (by decide +kernel) rfl⟩⟩
theorem fg_X_131 : af_ok "CaneRounds" 131 4 1 := ⟨_, _, _, rfl, by decide, cs_w4, Or.inr ⟨_, tt_ofN (w := Cond.fieldLinkNest "CaneRounds" 131 "CaneRounds$Field" "farm" "I" "CaneRounds") 358 (by decide +kernel) rfl⟩⟩
theorem fg_X_134 : af_ok "CaneRounds" 134 4 10 := ⟨_, _, _, rfl, by decide, cs_w4, Or.inr ⟨_, tt_ofN (w := Cond.fieldLinkNest "CaneRounds" 134 "CaneRounds$Field" "burnt" "Z" "CaneRounds") 374 (by decide +kernel) rfl⟩⟩
theorem fg_X_138 : af_ok "CaneRounds" 138 4 9 := ⟨_, _, _, rfl, by decide, cs_w4, Or.inr ⟨_, tt_ofN (w := Cond.fieldLinkNest "CaneRounds" 138 "CaneRounds$Field" "gangs" "I" "CaneRounds") 372 (by decide +kernel) rfl⟩⟩
theorem fg_X_145 : af_ok "CaneRounds" 145 8 1 := ⟨_, _, _, rfl, by decide, cs_w8, Or.inr ⟨_, tt_ofN (w := Cond.fieldLinkNest "CaneRounds" 145 "CaneRounds$Tape" "length" "I" "CaneRounds") 218 (by decide +kernel) rfl⟩⟩
theorem fg_X_151 : af_ok "CaneRounds" 151 8 0 := ⟨_, _, _, rfl, by decide, cs_w8, Or.inr ⟨_, tt_ofN (w := Cond.fieldLinkNest "CaneRounds" 151 "CaneRounds$Tape" "bytes" "[B" "CaneRounds") 216 (by decide +kernel) rfl⟩⟩
theorem fg_X_163 : af_ok "CaneRounds" 163 5 4 := ⟨_, _, _, rfl, by decide, cs_w5, Or.inr ⟨_, tt_ofN (w := Cond.fieldLinkNest "CaneRounds" 163 "CaneRounds$Formula" "fault" "I" "CaneRounds") 236 (by decide +kernel) rfl⟩⟩
theorem fg_X_166 : af_ok "CaneRounds" 166 5 5 := ⟨_, _, _, rfl, by decide, cs_w5, Or.inr ⟨_, tt_ofN (w := Cond.fieldLinkNest "CaneRounds" 166 "CaneRounds$Formula" "place" "I" "CaneRounds") 238 (by decide +kernel) rfl⟩⟩
theorem fg_X_178 : af_ok "CaneRounds" 178 4 2 := ⟨_, _, _, rfl, by decide, cs_w4, Or.inr ⟨_, tt_ofN (w := Cond.fieldLinkNest "CaneRounds" 178 "CaneRounds$Field" "tons" "I" "CaneRounds") 362 (by decide +kernel) rfl⟩⟩
theorem fg_X_181 : af_ok "CaneRounds" 181 4 8 := ⟨_, _, _, rfl, by decide, cs_w4, Or.inr ⟨_, tt_ofN (w := Cond.fieldLinkNest "CaneRounds" 181 "CaneRounds$Field" "tonsCut" "I" "CaneRounds") 370 (by decide +kernel) rfl⟩⟩
theorem fg_X_184 : af_ok "CaneRounds" 184 4 13 := ⟨_, _, _, rfl, by decide, cs_w4, Or.inr ⟨_, tt_ofN (w := Cond.fieldLinkNest "CaneRounds" 184 "CaneRounds$Field" "load" "I" "CaneRounds") 379 (by decide +kernel) rfl⟩⟩
theorem fg_X_191 : af_ok "CaneRounds" 191 6 1 := ⟨_, _, _, rfl, by decide, cs_w6, Or.inr ⟨_, tt_ofN (w := Cond.fieldLinkNest "CaneRounds" 191 "CaneRounds$Load" "field" "LCaneRounds$Field;" "CaneRounds") 548 (by decide +kernel) rfl⟩⟩
theorem fg_X_196 : af_ok "CaneRounds" 196 4 0 := ⟨_, _, _, rfl, by decide, cs_w4, Or.inr ⟨_, tt_ofN (w := Cond.fieldLinkNest "CaneRounds" 196 "CaneRounds$Field" "number" "I" "CaneRounds") 356 (by decide +kernel) rfl⟩⟩
theorem fg_X_199 : af_ok "CaneRounds" 199 6 2 := ⟨_, _, _, rfl, by decide, cs_w6, Or.inr ⟨_, tt_ofN (w := Cond.fieldLinkNest "CaneRounds" 199 "CaneRounds$Load" "cutAt" "I" "CaneRounds") 550 (by decide +kernel) rfl⟩⟩
theorem fg_X_202 : af_ok "CaneRounds" 202 6 3 := ⟨_, _, _, rfl, by decide, cs_w6, Or.inr ⟨_, tt_ofN (w := Cond.fieldLinkNest "CaneRounds" 202 "CaneRounds$Load" "sweet" "I" "CaneRounds") 552 (by decide +kernel) rfl⟩⟩
theorem fg_X_205 : af_ok "CaneRounds" 205 6 4 := ⟨_, _, _, rfl, by decide, cs_w6, Or.inr ⟨_, tt_ofN (w := Cond.fieldLinkNest "CaneRounds" 205 "CaneRounds$Load" "dies" "I" "CaneRounds") 554 (by decide +kernel) rfl⟩⟩
theorem fg_X_208 : af_ok "CaneRounds" 208 6 5 := ⟨_, _, _, rfl, by decide, cs_w6, Or.inr ⟨_, tt_ofN (w := Cond.fieldLinkNest "CaneRounds" 208 "CaneRounds$Load" "atMill" "I" "CaneRounds") 556 (by decide +kernel) rfl⟩⟩
theorem fg_X_211 : af_ok "CaneRounds" 211 6 7 := ⟨_, _, _, rfl, by decide, cs_w6, Or.inr ⟨_, tt_ofN (w := Cond.fieldLinkNest "CaneRounds" 211 "CaneRounds$Load" "crushed" "I" "CaneRounds") 560 (by decide +kernel) rfl⟩⟩
theorem fg_X_214 : af_ok "CaneRounds" 214 6 8 := ⟨_, _, _, rfl, by decide, cs_w6, Or.inr ⟨_, tt_ofN (w := Cond.fieldLinkNest "CaneRounds" 214 "CaneRounds$Load" "lost" "I" "CaneRounds") 562 (by decide +kernel) rfl⟩⟩
theorem fg_X_221 : af_ok "CaneRounds" 221 6 10 := ⟨_, _, _, rfl, by decide, cs_w6, Or.inr ⟨_, tt_ofN (w := Cond.fieldLinkNest "CaneRounds" 221 "CaneRounds$Load" "pay" "I" "CaneRounds") 566 (by decide +kernel) rfl⟩⟩
theorem fg_X_231 : af_ok "CaneRounds" 231 2 9 := ⟨_, _, _, rfl, by decide, cs_w2, Or.inr ⟨_, tt_ofN (w := Cond.fieldLinkNest "CaneRounds" 231 "CaneRounds$Chooser" "bestWorth" "I" "CaneRounds") 183 (by decide +kernel) rfl⟩⟩
theorem fg_X_234 : af_ok "CaneRounds" 234 2 10 := ⟨_, _, _, rfl, by decide, cs_w2, Or.inr ⟨_, tt_ofN (w := Cond.fieldLinkNest "CaneRounds" 234 "CaneRounds$Chooser" "bestSet" "I" "CaneRounds") 185 (by decide +kernel) rfl⟩⟩
theorem fg_X_255 : af_ok "CaneRounds" 255 10 9 := ⟨_, _, _, rfl, by decide, cs_w10, Or.inl (tt_g1 276 (by decide +kernel) (by decide +kernel))⟩
theorem fg_X_259 : af_ok "CaneRounds" 259 6 0 := ⟨_, _, _, rfl, by decide, cs_w6, Or.inr ⟨_, tt_ofN (w := Cond.fieldLinkNest "CaneRounds" 259 "CaneRounds$Load" "number" "I" "CaneRounds") 546 (by decide +kernel) rfl⟩⟩
theorem fg_X_260 : af_ok "CaneRounds" 260 10 8 := ⟨_, _, _, rfl, by decide, cs_w10, Or.inl (tt_g1 275 (by decide +kernel) (by decide +kernel))⟩
theorem fg_X_263 : af_ok "CaneRounds" 263 6 11 := ⟨_, _, _, rfl, by decide, cs_w6, Or.inr ⟨_, tt_ofN (w := Cond.fieldLinkNest "CaneRounds" 263 "CaneRounds$Load" "next" "LCaneRounds$Load;" "CaneRounds") 567 (by decide +kernel) rfl⟩⟩
theorem fg_X_265 : af_ok "CaneRounds" 265 6 6 := ⟨_, _, _, rfl, by decide, cs_w6, Or.inr ⟨_, tt_ofN (w := Cond.fieldLinkNest "CaneRounds" 265 "CaneRounds$Load" "truckFreeAt" "I" "CaneRounds") 558 (by decide +kernel) rfl⟩⟩
theorem fg_X_322 : af_ok "CaneRounds" 322 6 9 := ⟨_, _, _, rfl, by decide, cs_w6, Or.inr ⟨_, tt_ofN (w := Cond.fieldLinkNest "CaneRounds" 322 "CaneRounds$Load" "overAt" "I" "CaneRounds") 564 (by decide +kernel) rfl⟩⟩
theorem fg_X_325 : af_ok "CaneRounds" 325 4 11 := ⟨_, _, _, rfl, by decide, cs_w4, Or.inr ⟨_, tt_ofN (w := Cond.fieldLinkNest "CaneRounds" 325 "CaneRounds$Field" "burntAt" "I" "CaneRounds") 376 (by decide +kernel) rfl⟩⟩
theorem fi_X_27 : ai_B "CaneRounds" 27 mm_Farms_init 0 ∧ Cond.instanceMethod mm_Farms_init.1 ∈ tt_g ∧ mm_Farms_init.1.name = "<init>" ∧ mm_Farms_init.2.2.2 = none := ⟨⟨(tt_g1 118 (by decide +kernel) (by decide +kernel)), (tt_g1 94 (by decide +kernel) (by decide +kernel)), ⟨by decide +kernel, by decide +kernel, by decide +kernel⟩, by decide, Or.inr ⟨_, tt_ofN (w := Cond.methodLinkNest "CaneRounds" 27 ⟨"CaneRounds$Farms", "<init>", "()V"⟩ "CaneRounds") 116 (by decide +kernel) rfl⟩⟩, (tt_g1 117 (by decide +kernel) (by decide +kernel)), rfl, rfl⟩
theorem fi_X_34 : ai_B "CaneRounds" 34 mm_Weather_init 0 ∧ Cond.instanceMethod mm_Weather_init.1 ∈ tt_g ∧ mm_Weather_init.1.name = "<init>" ∧ mm_Weather_init.2.2.2 = none := ⟨⟨(tt_g1 143 (by decide +kernel) (by decide +kernel)), (tt_g1 95 (by decide +kernel) (by decide +kernel)), ⟨by decide +kernel, by decide +kernel, by decide +kernel⟩, by decide, Or.inr ⟨_, tt_ofN (w := Cond.methodLinkNest "CaneRounds" 34 ⟨"CaneRounds$Weather", "<init>", "()V"⟩ "CaneRounds") 141 (by decide +kernel) rfl⟩⟩, (tt_g1 142 (by decide +kernel) (by decide +kernel)), rfl, rfl⟩
theorem fi_X_41 : ai_B "CaneRounds" 41 mm_Bundles_init 0 ∧ Cond.instanceMethod mm_Bundles_init.1 ∈ tt_g ∧ mm_Bundles_init.1.name = "<init>" ∧ mm_Bundles_init.2.2.2 = none := ⟨⟨(tt_g1 156 (by decide +kernel) (by decide +kernel)), (tt_g1 96 (by decide +kernel) (by decide +kernel)), ⟨by decide +kernel, by decide +kernel, by decide +kernel⟩, by decide, Or.inr ⟨_, tt_ofN (w := Cond.methodLinkNest "CaneRounds" 41 ⟨"CaneRounds$Bundles", "<init>", "()V"⟩ "CaneRounds") 154 (by decide +kernel) rfl⟩⟩, (tt_g1 155 (by decide +kernel) (by decide +kernel)), rfl, rfl⟩
theorem fi_X_48 : ai_B "CaneRounds" 48 mm_Chooser_init 0 ∧ Cond.instanceMethod mm_Chooser_init.1 ∈ tt_g ∧ mm_Chooser_init.1.name = "<init>" ∧ mm_Chooser_init.2.2.2 = none := ⟨⟨(tt_g1 169 (by decide +kernel) (by decide +kernel)), (tt_g1 97 (by decide +kernel) (by decide +kernel)), ⟨by decide +kernel, by decide +kernel, by decide +kernel⟩, by decide, Or.inr ⟨_, tt_ofN (w := Cond.methodLinkNest "CaneRounds" 48 ⟨"CaneRounds$Chooser", "<init>", "()V"⟩ "CaneRounds") 167 (by decide +kernel) rfl⟩⟩, (tt_g1 168 (by decide +kernel) (by decide +kernel)), rfl, rfl⟩
theorem fi_X_55 : ai_B "CaneRounds" 55 mm_Tape_init 0 ∧ Cond.instanceMethod mm_Tape_init.1 ∈ tt_g ∧ mm_Tape_init.1.name = "<init>" ∧ mm_Tape_init.2.2.2 = none := ⟨⟨(tt_g1 213 (by decide +kernel) (by decide +kernel)), (tt_g1 98 (by decide +kernel) (by decide +kernel)), ⟨by decide +kernel, by decide +kernel, by decide +kernel⟩, by decide, Or.inr ⟨_, tt_ofN (w := Cond.methodLinkNest "CaneRounds" 55 ⟨"CaneRounds$Tape", "<init>", "()V"⟩ "CaneRounds") 211 (by decide +kernel) rfl⟩⟩, (tt_g1 212 (by decide +kernel) (by decide +kernel)), rfl, rfl⟩
theorem fi_X_62 : ai_B "CaneRounds" 62 mm_Formula_init 0 ∧ Cond.instanceMethod mm_Formula_init.1 ∈ tt_g ∧ mm_Formula_init.1.name = "<init>" ∧ mm_Formula_init.2.2.2 = none := ⟨⟨(tt_g1 229 (by decide +kernel) (by decide +kernel)), (tt_g1 99 (by decide +kernel) (by decide +kernel)), ⟨by decide +kernel, by decide +kernel, by decide +kernel⟩, by decide, Or.inr ⟨_, tt_ofN (w := Cond.methodLinkNest "CaneRounds" 62 ⟨"CaneRounds$Formula", "<init>", "()V"⟩ "CaneRounds") 227 (by decide +kernel) rfl⟩⟩, (tt_g1 228 (by decide +kernel) (by decide +kernel)), rfl, rfl⟩
theorem fi_X_95 : ai_B "CaneRounds" 95 mm_Field_init 7 ∧ Cond.instanceMethod mm_Field_init.1 ∈ tt_g ∧ mm_Field_init.1.name = "<init>" ∧ mm_Field_init.2.2.2 = none := ⟨⟨(tt_g1 352 (by decide +kernel) (by decide +kernel)), (tt_g1 101 (by decide +kernel) (by decide +kernel)), ⟨by decide +kernel, by decide +kernel, by decide +kernel⟩, by decide, Or.inr ⟨_, tt_ofN (w := Cond.methodLinkNest "CaneRounds" 95 ⟨"CaneRounds$Field", "<init>", "(IIIIIII)V"⟩ "CaneRounds") 350 (by decide +kernel) rfl⟩⟩, (tt_g1 351 (by decide +kernel) (by decide +kernel)), rfl, rfl⟩
theorem fi_X_297 : ai_B "CaneRounds" 297 mm_Load_init 3 ∧ Cond.instanceMethod mm_Load_init.1 ∈ tt_g ∧ mm_Load_init.1.name = "<init>" ∧ mm_Load_init.2.2.2 = none := ⟨⟨(tt_g1 537 (by decide +kernel) (by decide +kernel)), (tt_g1 104 (by decide +kernel) (by decide +kernel)), ⟨by decide +kernel, by decide +kernel, by decide +kernel⟩, by decide, Or.inr ⟨_, tt_ofN (w := Cond.methodLinkNest "CaneRounds" 297 ⟨"CaneRounds$Load", "<init>", "(ILCaneRounds$Field;I)V"⟩ "CaneRounds") 535 (by decide +kernel) rfl⟩⟩, (tt_g1 536 (by decide +kernel) (by decide +kernel)), rfl, rfl⟩
theorem fi_X_76 : ai_B "CaneRounds" 76 mm_X_isWithin 3 ∧ Cond.static mm_X_isWithin.1 ∈ tt_g := ⟨⟨(tt_g1 331 (by decide +kernel) (by decide +kernel)), (tt_g1 93 (by decide +kernel) (by decide +kernel)), ⟨by decide +kernel, by decide +kernel, by decide +kernel⟩, by decide, Or.inl (tt_g1 329 (by decide +kernel) (by decide +kernel))⟩, (tt_g1 330 (by decide +kernel) (by decide +kernel))⟩
theorem fi_X_169 : ai_B "CaneRounds" 169 mm_X_isTold 1 ∧ Cond.static mm_X_isTold.1 ∈ tt_g := ⟨⟨(tt_g1 788 (by decide +kernel) (by decide +kernel)), (tt_g1 93 (by decide +kernel) (by decide +kernel)), ⟨by decide +kernel, by decide +kernel, by decide +kernel⟩, by decide, Or.inl (tt_g1 786 (by decide +kernel) (by decide +kernel))⟩, (tt_g1 787 (by decide +kernel) (by decide +kernel))⟩
theorem fi_X_337 : ai_B "CaneRounds" 337 mm_X_quotient 2 ∧ Cond.static mm_X_quotient.1 ∈ tt_g := ⟨⟨(tt_g1 498 (by decide +kernel) (by decide +kernel)), (tt_g1 93 (by decide +kernel) (by decide +kernel)), ⟨by decide +kernel, by decide +kernel, by decide +kernel⟩, by decide, Or.inl (tt_g1 677 (by decide +kernel) (by decide +kernel))⟩, (tt_g1 497 (by decide +kernel) (by decide +kernel))⟩
theorem fi_X_346 : ai_B "CaneRounds" 346 mm_X_holdsBit 2 ∧ Cond.static mm_X_holdsBit.1 ∈ tt_g := ⟨⟨(tt_g1 835 (by decide +kernel) (by decide +kernel)), (tt_g1 93 (by decide +kernel) (by decide +kernel)), ⟨by decide +kernel, by decide +kernel, by decide +kernel⟩, by decide, Or.inl (tt_g1 833 (by decide +kernel) (by decide +kernel))⟩, (tt_g1 834 (by decide +kernel) (by decide +kernel))⟩
theorem fi_X_83 : ai_B "CaneRounds" 83 mm_Farms_add 0 ∧ Cond.instanceMethod mm_Farms_add.1 ∈ tt_g ∧ Cond.selects mm_Farms_add.1.cls mm_Farms_add.1 mm_Farms_add.1 ∈ tt_g := ⟨⟨(tt_g1 339 (by decide +kernel) (by decide +kernel)), (tt_g1 94 (by decide +kernel) (by decide +kernel)), ⟨by decide +kernel, by decide +kernel, by decide +kernel⟩, by decide, Or.inr ⟨_, tt_ofN (w := Cond.methodLinkNest "CaneRounds" 83 ⟨"CaneRounds$Farms", "add", "()I"⟩ "CaneRounds") 336 (by decide +kernel) rfl⟩⟩, (tt_g1 338 (by decide +kernel) (by decide +kernel)), (tt_g1 0 (by decide +kernel) (by decide +kernel))⟩
theorem fi_X_90 : ai_B "CaneRounds" 90 mm_X_fieldCount 0 ∧ Cond.instanceMethod mm_X_fieldCount.1 ∈ tt_g ∧ Cond.selects mm_X_fieldCount.1.cls mm_X_fieldCount.1 mm_X_fieldCount.1 ∈ tt_g := ⟨⟨(tt_g1 347 (by decide +kernel) (by decide +kernel)), (tt_g1 93 (by decide +kernel) (by decide +kernel)), ⟨by decide +kernel, by decide +kernel, by decide +kernel⟩, by decide, Or.inl (tt_g1 344 (by decide +kernel) (by decide +kernel))⟩, (tt_g1 346 (by decide +kernel) (by decide +kernel)), (tt_g1 1 (by decide +kernel) (by decide +kernel))⟩
theorem fi_X_108 : ai_B "CaneRounds" 108 mm_Weather_add 3 ∧ Cond.instanceMethod mm_Weather_add.1 ∈ tt_g ∧ Cond.selects mm_Weather_add.1.cls mm_Weather_add.1 mm_Weather_add.1 ∈ tt_g := ⟨⟨(tt_g1 419 (by decide +kernel) (by decide +kernel)), (tt_g1 95 (by decide +kernel) (by decide +kernel)), ⟨by decide +kernel, by decide +kernel, by decide +kernel⟩, by decide, Or.inr ⟨_, tt_ofN (w := Cond.methodLinkNest "CaneRounds" 108 ⟨"CaneRounds$Weather", "add", "(ZII)Z"⟩ "CaneRounds") 416 (by decide +kernel) rfl⟩⟩, (tt_g1 418 (by decide +kernel) (by decide +kernel)), (tt_g1 2 (by decide +kernel) (by decide +kernel))⟩
theorem fi_X_111 : ai_B "CaneRounds" 111 mm_Farms_drawLots 1 ∧ Cond.instanceMethod mm_Farms_drawLots.1 ∈ tt_g ∧ Cond.selects mm_Farms_drawLots.1.cls mm_Farms_drawLots.1 mm_Farms_drawLots.1 ∈ tt_g := ⟨⟨(tt_g1 450 (by decide +kernel) (by decide +kernel)), (tt_g1 94 (by decide +kernel) (by decide +kernel)), ⟨by decide +kernel, by decide +kernel, by decide +kernel⟩, by decide, Or.inr ⟨_, tt_ofN (w := Cond.methodLinkNest "CaneRounds" 111 ⟨"CaneRounds$Farms", "drawLots", "(I)V"⟩ "CaneRounds") 447 (by decide +kernel) rfl⟩⟩, (tt_g1 449 (by decide +kernel) (by decide +kernel)), (tt_g1 3 (by decide +kernel) (by decide +kernel))⟩
theorem fi_X_115 : ai_B "CaneRounds" 115 mm_Farms_turn 0 ∧ Cond.instanceMethod mm_Farms_turn.1 ∈ tt_g ∧ Cond.selects mm_Farms_turn.1.cls mm_Farms_turn.1 mm_Farms_turn.1 ∈ tt_g := ⟨⟨(tt_g1 455 (by decide +kernel) (by decide +kernel)), (tt_g1 94 (by decide +kernel) (by decide +kernel)), ⟨by decide +kernel, by decide +kernel, by decide +kernel⟩, by decide, Or.inr ⟨_, tt_ofN (w := Cond.methodLinkNest "CaneRounds" 115 ⟨"CaneRounds$Farms", "turn", "()I"⟩ "CaneRounds") 452 (by decide +kernel) rfl⟩⟩, (tt_g1 454 (by decide +kernel) (by decide +kernel)), (tt_g1 4 (by decide +kernel) (by decide +kernel))⟩
theorem fi_X_118 : ai_B "CaneRounds" 118 mm_Farms_settleTurn 0 ∧ Cond.instanceMethod mm_Farms_settleTurn.1 ∈ tt_g ∧ Cond.selects mm_Farms_settleTurn.1.cls mm_Farms_settleTurn.1 mm_Farms_settleTurn.1 ∈ tt_g := ⟨⟨(tt_g1 468 (by decide +kernel) (by decide +kernel)), (tt_g1 94 (by decide +kernel) (by decide +kernel)), ⟨by decide +kernel, by decide +kernel, by decide +kernel⟩, by decide, Or.inr ⟨_, tt_ofN (w := Cond.methodLinkNest "CaneRounds" 118 ⟨"CaneRounds$Farms", "settleTurn", "()V"⟩ "CaneRounds") 465 (by decide +kernel) rfl⟩⟩, (tt_g1 467 (by decide +kernel) (by decide +kernel)), (tt_g1 6 (by decide +kernel) (by decide +kernel))⟩
theorem fi_X_121 : ai_B "CaneRounds" 121 mm_X_findField 1 ∧ Cond.instanceMethod mm_X_findField.1 ∈ tt_g ∧ Cond.selects mm_X_findField.1.cls mm_X_findField.1 mm_X_findField.1 ∈ tt_g := ⟨⟨(tt_g1 476 (by decide +kernel) (by decide +kernel)), (tt_g1 93 (by decide +kernel) (by decide +kernel)), ⟨by decide +kernel, by decide +kernel, by decide +kernel⟩, by decide, Or.inl (tt_g1 473 (by decide +kernel) (by decide +kernel))⟩, (tt_g1 475 (by decide +kernel) (by decide +kernel)), (tt_g1 7 (by decide +kernel) (by decide +kernel))⟩
theorem fi_X_128 : ai_B "CaneRounds" 128 mm_X_freeGangs 0 ∧ Cond.instanceMethod mm_X_freeGangs.1 ∈ tt_g ∧ Cond.selects mm_X_freeGangs.1.cls mm_X_freeGangs.1 mm_X_freeGangs.1 ∈ tt_g := ⟨⟨(tt_g1 480 (by decide +kernel) (by decide +kernel)), (tt_g1 93 (by decide +kernel) (by decide +kernel)), ⟨by decide +kernel, by decide +kernel, by decide +kernel⟩, by decide, Or.inl (tt_g1 477 (by decide +kernel) (by decide +kernel))⟩, (tt_g1 479 (by decide +kernel) (by decide +kernel)), (tt_g1 8 (by decide +kernel) (by decide +kernel))⟩
theorem fi_X_139 : ai_B "CaneRounds" 139 mm_Field_burn 1 ∧ Cond.instanceMethod mm_Field_burn.1 ∈ tt_g ∧ Cond.selects mm_Field_burn.1.cls mm_Field_burn.1 mm_Field_burn.1 ∈ tt_g := ⟨⟨(tt_g1 488 (by decide +kernel) (by decide +kernel)), (tt_g1 101 (by decide +kernel) (by decide +kernel)), ⟨by decide +kernel, by decide +kernel, by decide +kernel⟩, by decide, Or.inr ⟨_, tt_ofN (w := Cond.methodLinkNest "CaneRounds" 139 ⟨"CaneRounds$Field", "burn", "(I)V"⟩ "CaneRounds") 485 (by decide +kernel) rfl⟩⟩, (tt_g1 487 (by decide +kernel) (by decide +kernel)), (tt_g1 9 (by decide +kernel) (by decide +kernel))⟩
theorem fi_X_142 : ai_B "CaneRounds" 142 mm_X_passHour 0 ∧ Cond.instanceMethod mm_X_passHour.1 ∈ tt_g ∧ Cond.selects mm_X_passHour.1.cls mm_X_passHour.1 mm_X_passHour.1 ∈ tt_g := ⟨⟨(tt_g1 509 (by decide +kernel) (by decide +kernel)), (tt_g1 93 (by decide +kernel) (by decide +kernel)), ⟨by decide +kernel, by decide +kernel, by decide +kernel⟩, by decide, Or.inl (tt_g1 506 (by decide +kernel) (by decide +kernel))⟩, (tt_g1 508 (by decide +kernel) (by decide +kernel)), (tt_g1 11 (by decide +kernel) (by decide +kernel))⟩
theorem fi_X_148 : ai_B "CaneRounds" 148 mm_Tape_append 1 ∧ Cond.instanceMethod mm_Tape_append.1 ∈ tt_g ∧ Cond.selects mm_Tape_append.1.cls mm_Tape_append.1 mm_Tape_append.1 ∈ tt_g := ⟨⟨(tt_g1 751 (by decide +kernel) (by decide +kernel)), (tt_g1 98 (by decide +kernel) (by decide +kernel)), ⟨by decide +kernel, by decide +kernel, by decide +kernel⟩, by decide, Or.inr ⟨_, tt_ofN (w := Cond.methodLinkNest "CaneRounds" 148 ⟨"CaneRounds$Tape", "append", "(I)V"⟩ "CaneRounds") 748 (by decide +kernel) rfl⟩⟩, (tt_g1 750 (by decide +kernel) (by decide +kernel)), (tt_g1 47 (by decide +kernel) (by decide +kernel))⟩
theorem fi_X_155 : ai_B "CaneRounds" 155 mm_Formula_split 2 ∧ Cond.instanceMethod mm_Formula_split.1 ∈ tt_g ∧ Cond.selects mm_Formula_split.1.cls mm_Formula_split.1 mm_Formula_split.1 ∈ tt_g := ⟨⟨(tt_g1 763 (by decide +kernel) (by decide +kernel)), (tt_g1 99 (by decide +kernel) (by decide +kernel)), ⟨by decide +kernel, by decide +kernel, by decide +kernel⟩, by decide, Or.inr ⟨_, tt_ofN (w := Cond.methodLinkNest "CaneRounds" 155 ⟨"CaneRounds$Formula", "split", "([BI)V"⟩ "CaneRounds") 760 (by decide +kernel) rfl⟩⟩, (tt_g1 762 (by decide +kernel) (by decide +kernel)), (tt_g1 48 (by decide +kernel) (by decide +kernel))⟩
theorem fi_X_159 : ai_B "CaneRounds" 159 mm_Formula_tell 5 ∧ Cond.instanceMethod mm_Formula_tell.1 ∈ tt_g ∧ Cond.selects mm_Formula_tell.1.cls mm_Formula_tell.1 mm_Formula_tell.1 ∈ tt_g := ⟨⟨(tt_g1 681 (by decide +kernel) (by decide +kernel)), (tt_g1 99 (by decide +kernel) (by decide +kernel)), ⟨by decide +kernel, by decide +kernel, by decide +kernel⟩, by decide, Or.inr ⟨_, tt_ofN (w := Cond.methodLinkNest "CaneRounds" 159 ⟨"CaneRounds$Formula", "tell", "(IIIII)I"⟩ "CaneRounds") 678 (by decide +kernel) rfl⟩⟩, (tt_g1 680 (by decide +kernel) (by decide +kernel)), (tt_g1 34 (by decide +kernel) (by decide +kernel))⟩
theorem fi_X_174 : ai_B "CaneRounds" 174 mm_Field_sweetAt 1 ∧ Cond.instanceMethod mm_Field_sweetAt.1 ∈ tt_g ∧ Cond.selects mm_Field_sweetAt.1.cls mm_Field_sweetAt.1 mm_Field_sweetAt.1 ∈ tt_g := ⟨⟨(tt_g1 492 (by decide +kernel) (by decide +kernel)), (tt_g1 101 (by decide +kernel) (by decide +kernel)), ⟨by decide +kernel, by decide +kernel, by decide +kernel⟩, by decide, Or.inr ⟨_, tt_ofN (w := Cond.methodLinkNest "CaneRounds" 174 ⟨"CaneRounds$Field", "sweetAt", "(I)I"⟩ "CaneRounds") 796 (by decide +kernel) rfl⟩⟩, (tt_g1 491 (by decide +kernel) (by decide +kernel)), (tt_g1 10 (by decide +kernel) (by decide +kernel))⟩
theorem fi_X_187 : ai_B "CaneRounds" 187 mm_X_findLoad 1 ∧ Cond.instanceMethod mm_X_findLoad.1 ∈ tt_g ∧ Cond.selects mm_X_findLoad.1.cls mm_X_findLoad.1 mm_X_findLoad.1 ∈ tt_g := ⟨⟨(tt_g1 808 (by decide +kernel) (by decide +kernel)), (tt_g1 93 (by decide +kernel) (by decide +kernel)), ⟨by decide +kernel, by decide +kernel, by decide +kernel⟩, by decide, Or.inl (tt_g1 805 (by decide +kernel) (by decide +kernel))⟩, (tt_g1 807 (by decide +kernel) (by decide +kernel)), (tt_g1 50 (by decide +kernel) (by decide +kernel))⟩
theorem fi_X_217 : ai_B "CaneRounds" 217 mm_Load_isOver 0 ∧ Cond.instanceMethod mm_Load_isOver.1 ∈ tt_g ∧ Cond.selects mm_Load_isOver.1.cls mm_Load_isOver.1 mm_Load_isOver.1 ∈ tt_g := ⟨⟨(tt_g1 604 (by decide +kernel) (by decide +kernel)), (tt_g1 104 (by decide +kernel) (by decide +kernel)), ⟨by decide +kernel, by decide +kernel, by decide +kernel⟩, by decide, Or.inr ⟨_, tt_ofN (w := Cond.methodLinkNest "CaneRounds" 217 ⟨"CaneRounds$Load", "isOver", "()Z"⟩ "CaneRounds") 601 (by decide +kernel) rfl⟩⟩, (tt_g1 603 (by decide +kernel) (by decide +kernel)), (tt_g1 20 (by decide +kernel) (by decide +kernel))⟩
theorem fi_X_224 : ai_B "CaneRounds" 224 mm_Bundles_fieldOfTon 1 ∧ Cond.instanceMethod mm_Bundles_fieldOfTon.1 ∈ tt_g ∧ Cond.selects mm_Bundles_fieldOfTon.1.cls mm_Bundles_fieldOfTon.1 mm_Bundles_fieldOfTon.1 ∈ tt_g := ⟨⟨(tt_g1 816 (by decide +kernel) (by decide +kernel)), (tt_g1 96 (by decide +kernel) (by decide +kernel)), ⟨by decide +kernel, by decide +kernel, by decide +kernel⟩, by decide, Or.inr ⟨_, tt_ofN (w := Cond.methodLinkNest "CaneRounds" 224 ⟨"CaneRounds$Bundles", "fieldOfTon", "(I)I"⟩ "CaneRounds") 813 (by decide +kernel) rfl⟩⟩, (tt_g1 815 (by decide +kernel) (by decide +kernel)), (tt_g1 51 (by decide +kernel) (by decide +kernel))⟩
theorem fi_X_227 : ai_B "CaneRounds" 227 mm_X_choose 2 ∧ Cond.instanceMethod mm_X_choose.1 ∈ tt_g ∧ Cond.selects mm_X_choose.1.cls mm_X_choose.1 mm_X_choose.1 ∈ tt_g := ⟨⟨(tt_g1 824 (by decide +kernel) (by decide +kernel)), (tt_g1 93 (by decide +kernel) (by decide +kernel)), ⟨by decide +kernel, by decide +kernel, by decide +kernel⟩, by decide, Or.inl (tt_g1 821 (by decide +kernel) (by decide +kernel))⟩, (tt_g1 823 (by decide +kernel) (by decide +kernel)), (tt_g1 52 (by decide +kernel) (by decide +kernel))⟩
theorem fi_X_237 : ai_B "CaneRounds" 237 mm_Farms_earnedBy 1 ∧ Cond.instanceMethod mm_Farms_earnedBy.1 ∈ tt_g ∧ Cond.selects mm_Farms_earnedBy.1.cls mm_Farms_earnedBy.1 mm_Farms_earnedBy.1 ∈ tt_g := ⟨⟨(tt_g1 884 (by decide +kernel) (by decide +kernel)), (tt_g1 94 (by decide +kernel) (by decide +kernel)), ⟨by decide +kernel, by decide +kernel, by decide +kernel⟩, by decide, Or.inr ⟨_, tt_ofN (w := Cond.methodLinkNest "CaneRounds" 237 ⟨"CaneRounds$Farms", "earnedBy", "(I)J"⟩ "CaneRounds") 881 (by decide +kernel) rfl⟩⟩, (tt_g1 883 (by decide +kernel) (by decide +kernel)), (tt_g1 62 (by decide +kernel) (by decide +kernel))⟩
theorem fi_X_241 : ai_B "CaneRounds" 241 mm_X_loadCount 0 ∧ Cond.instanceMethod mm_X_loadCount.1 ∈ tt_g ∧ Cond.selects mm_X_loadCount.1.cls mm_X_loadCount.1 mm_X_loadCount.1 ∈ tt_g := ⟨⟨(tt_g1 534 (by decide +kernel) (by decide +kernel)), (tt_g1 93 (by decide +kernel) (by decide +kernel)), ⟨by decide +kernel, by decide +kernel, by decide +kernel⟩, by decide, Or.inl (tt_g1 531 (by decide +kernel) (by decide +kernel))⟩, (tt_g1 533 (by decide +kernel) (by decide +kernel)), (tt_g1 16 (by decide +kernel) (by decide +kernel))⟩
theorem fi_X_244 : ai_B "CaneRounds" 244 mm_X_freeTrucks 0 ∧ Cond.instanceMethod mm_X_freeTrucks.1 ∈ tt_g ∧ Cond.selects mm_X_freeTrucks.1.cls mm_X_freeTrucks.1 mm_X_freeTrucks.1 ∈ tt_g := ⟨⟨(tt_g1 600 (by decide +kernel) (by decide +kernel)), (tt_g1 93 (by decide +kernel) (by decide +kernel)), ⟨by decide +kernel, by decide +kernel, by decide +kernel⟩, by decide, Or.inl (tt_g1 597 (by decide +kernel) (by decide +kernel))⟩, (tt_g1 599 (by decide +kernel) (by decide +kernel)), (tt_g1 19 (by decide +kernel) (by decide +kernel))⟩
theorem fi_X_247 : ai_B "CaneRounds" 247 mm_Bundles_count 0 ∧ Cond.instanceMethod mm_Bundles_count.1 ∈ tt_g ∧ Cond.selects mm_Bundles_count.1.cls mm_Bundles_count.1 mm_Bundles_count.1 ∈ tt_g := ⟨⟨(tt_g1 637 (by decide +kernel) (by decide +kernel)), (tt_g1 96 (by decide +kernel) (by decide +kernel)), ⟨by decide +kernel, by decide +kernel, by decide +kernel⟩, by decide, Or.inr ⟨_, tt_ofN (w := Cond.methodLinkNest "CaneRounds" 247 ⟨"CaneRounds$Bundles", "count", "()I"⟩ "CaneRounds") 889 (by decide +kernel) rfl⟩⟩, (tt_g1 636 (by decide +kernel) (by decide +kernel)), (tt_g1 28 (by decide +kernel) (by decide +kernel))⟩
theorem fi_X_249 : ai_B "CaneRounds" 249 mm_X_tonsLost 0 ∧ Cond.instanceMethod mm_X_tonsLost.1 ∈ tt_g ∧ Cond.selects mm_X_tonsLost.1.cls mm_X_tonsLost.1 mm_X_tonsLost.1 ∈ tt_g := ⟨⟨(tt_g1 893 (by decide +kernel) (by decide +kernel)), (tt_g1 93 (by decide +kernel) (by decide +kernel)), ⟨by decide +kernel, by decide +kernel, by decide +kernel⟩, by decide, Or.inl (tt_g1 890 (by decide +kernel) (by decide +kernel))⟩, (tt_g1 892 (by decide +kernel) (by decide +kernel)), (tt_g1 63 (by decide +kernel) (by decide +kernel))⟩
theorem fi_X_252 : ai_B "CaneRounds" 252 mm_Farms_inOrder 1 ∧ Cond.instanceMethod mm_Farms_inOrder.1 ∈ tt_g ∧ Cond.selects mm_Farms_inOrder.1.cls mm_Farms_inOrder.1 mm_Farms_inOrder.1 ∈ tt_g := ⟨⟨(tt_g1 459 (by decide +kernel) (by decide +kernel)), (tt_g1 94 (by decide +kernel) (by decide +kernel)), ⟨by decide +kernel, by decide +kernel, by decide +kernel⟩, by decide, Or.inr ⟨_, tt_ofN (w := Cond.methodLinkNest "CaneRounds" 252 ⟨"CaneRounds$Farms", "inOrder", "(I)I"⟩ "CaneRounds") 894 (by decide +kernel) rfl⟩⟩, (tt_g1 458 (by decide +kernel) (by decide +kernel)), (tt_g1 5 (by decide +kernel) (by decide +kernel))⟩
theorem fi_X_268 : ai_B "CaneRounds" 268 mm_Weather_holds 2 ∧ Cond.instanceMethod mm_Weather_holds.1 ∈ tt_g ∧ Cond.selects mm_Weather_holds.1.cls mm_Weather_holds.1 mm_Weather_holds.1 ∈ tt_g := ⟨⟨(tt_g1 513 (by decide +kernel) (by decide +kernel)), (tt_g1 95 (by decide +kernel) (by decide +kernel)), ⟨by decide +kernel, by decide +kernel, by decide +kernel⟩, by decide, Or.inr ⟨_, tt_ofN (w := Cond.methodLinkNest "CaneRounds" 268 ⟨"CaneRounds$Weather", "holds", "(ZI)Z"⟩ "CaneRounds") 510 (by decide +kernel) rfl⟩⟩, (tt_g1 512 (by decide +kernel) (by decide +kernel)), (tt_g1 12 (by decide +kernel) (by decide +kernel))⟩
theorem fi_X_272 : ai_B "CaneRounds" 272 mm_X_goOnCutting 0 ∧ Cond.instanceMethod mm_X_goOnCutting.1 ∈ tt_g ∧ Cond.selects mm_X_goOnCutting.1.cls mm_X_goOnCutting.1 mm_X_goOnCutting.1 ∈ tt_g := ⟨⟨(tt_g1 517 (by decide +kernel) (by decide +kernel)), (tt_g1 93 (by decide +kernel) (by decide +kernel)), ⟨by decide +kernel, by decide +kernel, by decide +kernel⟩, by decide, Or.inl (tt_g1 514 (by decide +kernel) (by decide +kernel))⟩, (tt_g1 516 (by decide +kernel) (by decide +kernel)), (tt_g1 13 (by decide +kernel) (by decide +kernel))⟩
theorem fi_X_275 : ai_B "CaneRounds" 275 mm_X_sendTrucks 0 ∧ Cond.instanceMethod mm_X_sendTrucks.1 ∈ tt_g ∧ Cond.selects mm_X_sendTrucks.1.cls mm_X_sendTrucks.1 mm_X_sendTrucks.1 ∈ tt_g := ⟨⟨(tt_g1 596 (by decide +kernel) (by decide +kernel)), (tt_g1 93 (by decide +kernel) (by decide +kernel)), ⟨by decide +kernel, by decide +kernel, by decide +kernel⟩, by decide, Or.inl (tt_g1 593 (by decide +kernel) (by decide +kernel))⟩, (tt_g1 595 (by decide +kernel) (by decide +kernel)), (tt_g1 18 (by decide +kernel) (by decide +kernel))⟩
theorem fi_X_278 : ai_B "CaneRounds" 278 mm_X_crushLoads 0 ∧ Cond.instanceMethod mm_X_crushLoads.1 ∈ tt_g ∧ Cond.selects mm_X_crushLoads.1.cls mm_X_crushLoads.1 mm_X_crushLoads.1 ∈ tt_g := ⟨⟨(tt_g1 616 (by decide +kernel) (by decide +kernel)), (tt_g1 93 (by decide +kernel) (by decide +kernel)), ⟨by decide +kernel, by decide +kernel, by decide +kernel⟩, by decide, Or.inl (tt_g1 613 (by decide +kernel) (by decide +kernel))⟩, (tt_g1 615 (by decide +kernel) (by decide +kernel)), (tt_g1 23 (by decide +kernel) (by decide +kernel))⟩
theorem fi_X_281 : ai_B "CaneRounds" 281 mm_X_endLoads 0 ∧ Cond.instanceMethod mm_X_endLoads.1 ∈ tt_g ∧ Cond.selects mm_X_endLoads.1.cls mm_X_endLoads.1 mm_X_endLoads.1 ∈ tt_g := ⟨⟨(tt_g1 659 (by decide +kernel) (by decide +kernel)), (tt_g1 93 (by decide +kernel) (by decide +kernel)), ⟨by decide +kernel, by decide +kernel, by decide +kernel⟩, by decide, Or.inl (tt_g1 656 (by decide +kernel) (by decide +kernel))⟩, (tt_g1 658 (by decide +kernel) (by decide +kernel)), (tt_g1 29 (by decide +kernel) (by decide +kernel))⟩
theorem fi_X_284 : ai_B "CaneRounds" 284 mm_X_endFires 0 ∧ Cond.instanceMethod mm_X_endFires.1 ∈ tt_g ∧ Cond.selects mm_X_endFires.1.cls mm_X_endFires.1 mm_X_endFires.1 ∈ tt_g := ⟨⟨(tt_g1 663 (by decide +kernel) (by decide +kernel)), (tt_g1 93 (by decide +kernel) (by decide +kernel)), ⟨by decide +kernel, by decide +kernel, by decide +kernel⟩, by decide, Or.inl (tt_g1 660 (by decide +kernel) (by decide +kernel))⟩, (tt_g1 662 (by decide +kernel) (by decide +kernel)), (tt_g1 30 (by decide +kernel) (by decide +kernel))⟩
theorem fi_X_287 : ai_B "CaneRounds" 287 mm_X_payDay 0 ∧ Cond.instanceMethod mm_X_payDay.1 ∈ tt_g ∧ Cond.selects mm_X_payDay.1.cls mm_X_payDay.1 mm_X_payDay.1 ∈ tt_g := ⟨⟨(tt_g1 667 (by decide +kernel) (by decide +kernel)), (tt_g1 93 (by decide +kernel) (by decide +kernel)), ⟨by decide +kernel, by decide +kernel, by decide +kernel⟩, by decide, Or.inl (tt_g1 664 (by decide +kernel) (by decide +kernel))⟩, (tt_g1 666 (by decide +kernel) (by decide +kernel)), (tt_g1 31 (by decide +kernel) (by decide +kernel))⟩
theorem fi_X_290 : ai_B "CaneRounds" 290 mm_Field_goOn 1 ∧ Cond.instanceMethod mm_Field_goOn.1 ∈ tt_g ∧ Cond.selects mm_Field_goOn.1.cls mm_Field_goOn.1 mm_Field_goOn.1 ∈ tt_g := ⟨⟨(tt_g1 521 (by decide +kernel) (by decide +kernel)), (tt_g1 101 (by decide +kernel) (by decide +kernel)), ⟨by decide +kernel, by decide +kernel, by decide +kernel⟩, by decide, Or.inr ⟨_, tt_ofN (w := Cond.methodLinkNest "CaneRounds" 290 ⟨"CaneRounds$Field", "goOn", "(I)V"⟩ "CaneRounds") 518 (by decide +kernel) rfl⟩⟩, (tt_g1 520 (by decide +kernel) (by decide +kernel)), (tt_g1 14 (by decide +kernel) (by decide +kernel))⟩
theorem fi_X_293 : ai_B "CaneRounds" 293 mm_X_addLoad 1 ∧ Cond.instanceMethod mm_X_addLoad.1 ∈ tt_g ∧ Cond.selects mm_X_addLoad.1.cls mm_X_addLoad.1 mm_X_addLoad.1 ∈ tt_g := ⟨⟨(tt_g1 528 (by decide +kernel) (by decide +kernel)), (tt_g1 93 (by decide +kernel) (by decide +kernel)), ⟨by decide +kernel, by decide +kernel, by decide +kernel⟩, by decide, Or.inl (tt_g1 525 (by decide +kernel) (by decide +kernel))⟩, (tt_g1 527 (by decide +kernel) (by decide +kernel)), (tt_g1 15 (by decide +kernel) (by decide +kernel))⟩
theorem fi_X_300 : ai_B "CaneRounds" 300 mm_Load_leave 1 ∧ Cond.instanceMethod mm_Load_leave.1 ∈ tt_g ∧ Cond.selects mm_Load_leave.1.cls mm_Load_leave.1 mm_Load_leave.1 ∈ tt_g := ⟨⟨(tt_g1 608 (by decide +kernel) (by decide +kernel)), (tt_g1 104 (by decide +kernel) (by decide +kernel)), ⟨by decide +kernel, by decide +kernel, by decide +kernel⟩, by decide, Or.inr ⟨_, tt_ofN (w := Cond.methodLinkNest "CaneRounds" 300 ⟨"CaneRounds$Load", "leave", "(I)V"⟩ "CaneRounds") 605 (by decide +kernel) rfl⟩⟩, (tt_g1 607 (by decide +kernel) (by decide +kernel)), (tt_g1 21 (by decide +kernel) (by decide +kernel))⟩
theorem fi_X_303 : ai_B "CaneRounds" 303 mm_X_nextToCrush 0 ∧ Cond.instanceMethod mm_X_nextToCrush.1 ∈ tt_g ∧ Cond.selects mm_X_nextToCrush.1.cls mm_X_nextToCrush.1 mm_X_nextToCrush.1 ∈ tt_g := ⟨⟨(tt_g1 620 (by decide +kernel) (by decide +kernel)), (tt_g1 93 (by decide +kernel) (by decide +kernel)), ⟨by decide +kernel, by decide +kernel, by decide +kernel⟩, by decide, Or.inl (tt_g1 617 (by decide +kernel) (by decide +kernel))⟩, (tt_g1 619 (by decide +kernel) (by decide +kernel)), (tt_g1 24 (by decide +kernel) (by decide +kernel))⟩
theorem fi_X_307 : ai_B "CaneRounds" 307 mm_Load_tonsLeft 0 ∧ Cond.instanceMethod mm_Load_tonsLeft.1 ∈ tt_g ∧ Cond.selects mm_Load_tonsLeft.1.cls mm_Load_tonsLeft.1 mm_Load_tonsLeft.1 ∈ tt_g := ⟨⟨(tt_g1 628 (by decide +kernel) (by decide +kernel)), (tt_g1 104 (by decide +kernel) (by decide +kernel)), ⟨by decide +kernel, by decide +kernel, by decide +kernel⟩, by decide, Or.inr ⟨_, tt_ofN (w := Cond.methodLinkNest "CaneRounds" 307 ⟨"CaneRounds$Load", "tonsLeft", "()I"⟩ "CaneRounds") 625 (by decide +kernel) rfl⟩⟩, (tt_g1 627 (by decide +kernel) (by decide +kernel)), (tt_g1 26 (by decide +kernel) (by decide +kernel))⟩
theorem fi_X_316 : ai_B "CaneRounds" 316 mm_Bundles_add 2 ∧ Cond.instanceMethod mm_Bundles_add.1 ∈ tt_g ∧ Cond.selects mm_Bundles_add.1.cls mm_Bundles_add.1 mm_Bundles_add.1 ∈ tt_g := ⟨⟨(tt_g1 633 (by decide +kernel) (by decide +kernel)), (tt_g1 96 (by decide +kernel) (by decide +kernel)), ⟨by decide +kernel, by decide +kernel, by decide +kernel⟩, by decide, Or.inr ⟨_, tt_ofN (w := Cond.methodLinkNest "CaneRounds" 316 ⟨"CaneRounds$Bundles", "add", "(II)V"⟩ "CaneRounds") 630 (by decide +kernel) rfl⟩⟩, (tt_g1 632 (by decide +kernel) (by decide +kernel)), (tt_g1 27 (by decide +kernel) (by decide +kernel))⟩
theorem fi_X_319 : ai_B "CaneRounds" 319 mm_Load_isAtMill 1 ∧ Cond.instanceMethod mm_Load_isAtMill.1 ∈ tt_g ∧ Cond.selects mm_Load_isAtMill.1.cls mm_Load_isAtMill.1 mm_Load_isAtMill.1 ∈ tt_g := ⟨⟨(tt_g1 624 (by decide +kernel) (by decide +kernel)), (tt_g1 104 (by decide +kernel) (by decide +kernel)), ⟨by decide +kernel, by decide +kernel, by decide +kernel⟩, by decide, Or.inr ⟨_, tt_ofN (w := Cond.methodLinkNest "CaneRounds" 319 ⟨"CaneRounds$Load", "isAtMill", "(I)Z"⟩ "CaneRounds") 621 (by decide +kernel) rfl⟩⟩, (tt_g1 623 (by decide +kernel) (by decide +kernel)), (tt_g1 25 (by decide +kernel) (by decide +kernel))⟩
theorem fi_X_328 : ai_B "CaneRounds" 328 mm_X_meanOfDay 0 ∧ Cond.instanceMethod mm_X_meanOfDay.1 ∈ tt_g ∧ Cond.selects mm_X_meanOfDay.1.cls mm_X_meanOfDay.1 mm_X_meanOfDay.1 ∈ tt_g := ⟨⟨(tt_g1 671 (by decide +kernel) (by decide +kernel)), (tt_g1 93 (by decide +kernel) (by decide +kernel)), ⟨by decide +kernel, by decide +kernel, by decide +kernel⟩, by decide, Or.inl (tt_g1 668 (by decide +kernel) (by decide +kernel))⟩, (tt_g1 670 (by decide +kernel) (by decide +kernel)), (tt_g1 32 (by decide +kernel) (by decide +kernel))⟩
theorem fi_X_331 : ai_B "CaneRounds" 331 mm_Load_isToBePaid 0 ∧ Cond.instanceMethod mm_Load_isToBePaid.1 ∈ tt_g ∧ Cond.selects mm_Load_isToBePaid.1.cls mm_Load_isToBePaid.1 mm_Load_isToBePaid.1 ∈ tt_g := ⟨⟨(tt_g1 675 (by decide +kernel) (by decide +kernel)), (tt_g1 104 (by decide +kernel) (by decide +kernel)), ⟨by decide +kernel, by decide +kernel, by decide +kernel⟩, by decide, Or.inr ⟨_, tt_ofN (w := Cond.methodLinkNest "CaneRounds" 331 ⟨"CaneRounds$Load", "isToBePaid", "()Z"⟩ "CaneRounds") 672 (by decide +kernel) rfl⟩⟩, (tt_g1 674 (by decide +kernel) (by decide +kernel)), (tt_g1 33 (by decide +kernel) (by decide +kernel))⟩
theorem fi_X_334 : ai_B "CaneRounds" 334 mm_Farms_give 2 ∧ Cond.instanceMethod mm_Farms_give.1 ∈ tt_g ∧ Cond.selects mm_Farms_give.1.cls mm_Farms_give.1 mm_Farms_give.1 ∈ tt_g := ⟨⟨(tt_g1 743 (by decide +kernel) (by decide +kernel)), (tt_g1 94 (by decide +kernel) (by decide +kernel)), ⟨by decide +kernel, by decide +kernel, by decide +kernel⟩, by decide, Or.inr ⟨_, tt_ofN (w := Cond.methodLinkNest "CaneRounds" 334 ⟨"CaneRounds$Farms", "give", "(II)V"⟩ "CaneRounds") 740 (by decide +kernel) rfl⟩⟩, (tt_g1 742 (by decide +kernel) (by decide +kernel)), (tt_g1 46 (by decide +kernel) (by decide +kernel))⟩
theorem fi_X_340 : ai_B "CaneRounds" 340 mm_X_standingFields 0 ∧ Cond.instanceMethod mm_X_standingFields.1 ∈ tt_g ∧ Cond.selects mm_X_standingFields.1.cls mm_X_standingFields.1 mm_X_standingFields.1 ∈ tt_g := ⟨⟨(tt_g1 828 (by decide +kernel) (by decide +kernel)), (tt_g1 93 (by decide +kernel) (by decide +kernel)), ⟨by decide +kernel, by decide +kernel, by decide +kernel⟩, by decide, Or.inl (tt_g1 825 (by decide +kernel) (by decide +kernel))⟩, (tt_g1 827 (by decide +kernel) (by decide +kernel)), (tt_g1 53 (by decide +kernel) (by decide +kernel))⟩
theorem fi_X_343 : ai_B "CaneRounds" 343 mm_Chooser_clear 1 ∧ Cond.instanceMethod mm_Chooser_clear.1 ∈ tt_g ∧ Cond.selects mm_Chooser_clear.1.cls mm_Chooser_clear.1 mm_Chooser_clear.1 ∈ tt_g := ⟨⟨(tt_g1 832 (by decide +kernel) (by decide +kernel)), (tt_g1 97 (by decide +kernel) (by decide +kernel)), ⟨by decide +kernel, by decide +kernel, by decide +kernel⟩, by decide, Or.inr ⟨_, tt_ofN (w := Cond.methodLinkNest "CaneRounds" 343 ⟨"CaneRounds$Chooser", "clear", "(I)V"⟩ "CaneRounds") 829 (by decide +kernel) rfl⟩⟩, (tt_g1 831 (by decide +kernel) (by decide +kernel)), (tt_g1 54 (by decide +kernel) (by decide +kernel))⟩
theorem fi_X_349 : ai_B "CaneRounds" 349 mm_Chooser_offer 2 ∧ Cond.instanceMethod mm_Chooser_offer.1 ∈ tt_g ∧ Cond.selects mm_Chooser_offer.1.cls mm_Chooser_offer.1 mm_Chooser_offer.1 ∈ tt_g := ⟨⟨(tt_g1 839 (by decide +kernel) (by decide +kernel)), (tt_g1 97 (by decide +kernel) (by decide +kernel)), ⟨by decide +kernel, by decide +kernel, by decide +kernel⟩, by decide, Or.inr ⟨_, tt_ofN (w := Cond.methodLinkNest "CaneRounds" 349 ⟨"CaneRounds$Chooser", "offer", "(LCaneRounds$Field;I)V"⟩ "CaneRounds") 836 (by decide +kernel) rfl⟩⟩, (tt_g1 838 (by decide +kernel) (by decide +kernel)), (tt_g1 55 (by decide +kernel) (by decide +kernel))⟩
theorem fi_X_353 : ai_B "CaneRounds" 353 mm_Chooser_decide 1 ∧ Cond.instanceMethod mm_Chooser_decide.1 ∈ tt_g ∧ Cond.selects mm_Chooser_decide.1.cls mm_Chooser_decide.1 mm_Chooser_decide.1 ∈ tt_g := ⟨⟨(tt_g1 851 (by decide +kernel) (by decide +kernel)), (tt_g1 97 (by decide +kernel) (by decide +kernel)), ⟨by decide +kernel, by decide +kernel, by decide +kernel⟩, by decide, Or.inr ⟨_, tt_ofN (w := Cond.methodLinkNest "CaneRounds" 353 ⟨"CaneRounds$Chooser", "decide", "(I)V"⟩ "CaneRounds") 848 (by decide +kernel) rfl⟩⟩, (tt_g1 850 (by decide +kernel) (by decide +kernel)), (tt_g1 56 (by decide +kernel) (by decide +kernel))⟩
theorem fc_X_173 : Cond.constant "CaneRounds" 173 (-2000000000) ∈ tt_g := (tt_g1 791 (by decide +kernel) (by decide +kernel))
theorem fc_X_356 : Cond.constant "CaneRounds" 356 (-1000000) ∈ tt_g := (tt_g1 789 (by decide +kernel) (by decide +kernel))
theorem fc_X_357 : Cond.constant "CaneRounds" 357 (1000000) ∈ tt_g := (tt_g1 790 (by decide +kernel) (by decide +kernel))
theorem fn_X_25 : an_ok "CaneRounds" 25 3 5 [av_n, av_n, av_i 0, av_i 0, av_i 0] := ⟨_, _, cs_y3, rfl, cs_w3, cs_p3, (tt_g1 114 (by decide +kernel) (by decide +kernel)), (tt_g1 115 (by decide +kernel) (by decide +kernel)), (tt_g1 94 (by decide +kernel) (by decide +kernel)), fun w j hj => by
  rcases (show j = 0 ∨ j = 1 ∨ j = 2 ∨ j = 3 ∨ j = 4 by omega) with rfl | rfl | rfl | rfl | rfl <;> rfl⟩
theorem fn_X_32 : an_ok "CaneRounds" 32 9 2 [av_n, av_i 0] := ⟨_, _, cs_y9, rfl, cs_w9, cs_p9, (tt_g1 139 (by decide +kernel) (by decide +kernel)), (tt_g1 140 (by decide +kernel) (by decide +kernel)), (tt_g1 95 (by decide +kernel) (by decide +kernel)), fun w j hj => by
  rcases (show j = 0 ∨ j = 1 by omega) with rfl | rfl <;> rfl⟩
theorem fn_X_39 : an_ok "CaneRounds" 39 1 2 [av_n, av_n] := ⟨_, _, cs_y1, rfl, cs_w1, cs_p1, (tt_g1 152 (by decide +kernel) (by decide +kernel)), (tt_g1 153 (by decide +kernel) (by decide +kernel)), (tt_g1 96 (by decide +kernel) (by decide +kernel)), fun w j hj => by
  rcases (show j = 0 ∨ j = 1 by omega) with rfl | rfl <;> rfl⟩
theorem fn_X_46 : an_ok "CaneRounds" 46 2 11 [av_n, av_n, av_n, av_n, av_n, av_n, av_i 0, av_i 0, av_i 0, av_i 0, av_i 0] := ⟨_, _, cs_y2, rfl, cs_w2, cs_p2, (tt_g1 165 (by decide +kernel) (by decide +kernel)), (tt_g1 166 (by decide +kernel) (by decide +kernel)), (tt_g1 97 (by decide +kernel) (by decide +kernel)), fun w j hj => by
  rcases (show j = 0 ∨ j = 1 ∨ j = 2 ∨ j = 3 ∨ j = 4 ∨ j = 5 ∨ j = 6 ∨ j = 7 ∨ j = 8 ∨ j = 9 ∨ j = 10 by omega) with rfl | rfl | rfl | rfl | rfl | rfl | rfl | rfl | rfl | rfl | rfl <;> rfl⟩
theorem fn_X_53 : an_ok "CaneRounds" 53 8 2 [av_n, av_i 0] := ⟨_, _, cs_y8, rfl, cs_w8, cs_p8, (tt_g1 209 (by decide +kernel) (by decide +kernel)), (tt_g1 210 (by decide +kernel) (by decide +kernel)), (tt_g1 98 (by decide +kernel) (by decide +kernel)), fun w j hj => by
  rcases (show j = 0 ∨ j = 1 by omega) with rfl | rfl <;> rfl⟩
theorem fn_X_60 : an_ok "CaneRounds" 60 5 11 [av_n, av_n, av_i 0, av_i 0, av_i 0, av_i 0, av_i 0, av_i 0, av_i 0, av_i 0, av_i 0] := ⟨_, _, cs_y5, rfl, cs_w5, cs_p5, (tt_g1 225 (by decide +kernel) (by decide +kernel)), (tt_g1 226 (by decide +kernel) (by decide +kernel)), (tt_g1 99 (by decide +kernel) (by decide +kernel)), fun w j hj => by
  rcases (show j = 0 ∨ j = 1 ∨ j = 2 ∨ j = 3 ∨ j = 4 ∨ j = 5 ∨ j = 6 ∨ j = 7 ∨ j = 8 ∨ j = 9 ∨ j = 10 by omega) with rfl | rfl | rfl | rfl | rfl | rfl | rfl | rfl | rfl | rfl | rfl <;> rfl⟩
theorem fn_X_93 : an_ok "CaneRounds" 93 4 15 [av_i 0, av_i 0, av_i 0, av_i 0, av_i 0, av_i 0, av_i 0, av_i 0, av_i 0, av_i 0, av_i 0, av_i 0, av_i 0, av_i 0, av_n] := ⟨_, _, cs_y4, rfl, cs_w4, cs_p4, (tt_g1 348 (by decide +kernel) (by decide +kernel)), (tt_g1 349 (by decide +kernel) (by decide +kernel)), (tt_g1 101 (by decide +kernel) (by decide +kernel)), fun w j hj => by
  rcases (show j = 0 ∨ j = 1 ∨ j = 2 ∨ j = 3 ∨ j = 4 ∨ j = 5 ∨ j = 6 ∨ j = 7 ∨ j = 8 ∨ j = 9 ∨ j = 10 ∨ j = 11 ∨ j = 12 ∨ j = 13 ∨ j = 14 by omega) with rfl | rfl | rfl | rfl | rfl | rfl | rfl | rfl | rfl | rfl | rfl | rfl | rfl | rfl | rfl <;> rfl⟩
theorem fn_X_192 : an_ok "CaneRounds" 192 6 12 [av_i 0, av_n, av_i 0, av_i 0, av_i 0, av_i 0, av_i 0, av_i 0, av_i 0, av_i 0, av_i 0, av_n] := ⟨_, _, cs_y6, rfl, cs_w6, cs_p6, (tt_g1 529 (by decide +kernel) (by decide +kernel)), (tt_g1 530 (by decide +kernel) (by decide +kernel)), (tt_g1 104 (by decide +kernel) (by decide +kernel)), fun w j hj => by
  rcases (show j = 0 ∨ j = 1 ∨ j = 2 ∨ j = 3 ∨ j = 4 ∨ j = 5 ∨ j = 6 ∨ j = 7 ∨ j = 8 ∨ j = 9 ∨ j = 10 ∨ j = 11 by omega) with rfl | rfl | rfl | rfl | rfl | rfl | rfl | rfl | rfl | rfl | rfl | rfl <;> rfl⟩
theorem fp_X_7 {mn : String} : af_put "CaneRounds" mn 7 10 0 (.int) := ⟨_, _, _, cs_y10, rfl, by decide, cs_w10, cs_p10, cs_n10, rfl, Or.inl ⟨rfl, Or.inl (tt_g1 267 (by decide +kernel) (by decide +kernel))⟩⟩
theorem fp_X_13 {mn : String} : af_put "CaneRounds" mn 13 10 1 (.int) := ⟨_, _, _, cs_y10, rfl, by decide, cs_w10, cs_p10, cs_n10, rfl, Or.inl ⟨rfl, Or.inl (tt_g1 268 (by decide +kernel) (by decide +kernel))⟩⟩
theorem fp_X_16 {mn : String} : af_put "CaneRounds" mn 16 10 2 (.int) := ⟨_, _, _, cs_y10, rfl, by decide, cs_w10, cs_p10, cs_n10, rfl, Or.inl ⟨rfl, Or.inl (tt_g1 269 (by decide +kernel) (by decide +kernel))⟩⟩
theorem fp_X_19 {mn : String} : af_put "CaneRounds" mn 19 10 3 (.int) := ⟨_, _, _, cs_y10, rfl, by decide, cs_w10, cs_p10, cs_n10, rfl, Or.inl ⟨rfl, Or.inl (tt_g1 270 (by decide +kernel) (by decide +kernel))⟩⟩
theorem fp_X_22 {mn : String} : af_put "CaneRounds" mn 22 10 5 (.int) := ⟨_, _, _, cs_y10, rfl, by decide, cs_w10, cs_p10, cs_n10, rfl, Or.inl ⟨rfl, Or.inl (tt_g1 272 (by decide +kernel) (by decide +kernel))⟩⟩
theorem fp_X_28 : af_put "CaneRounds" "<init>" 28 10 10 (.object "CaneRounds$Farms") := ⟨_, _, _, cs_y10, rfl, by decide, cs_w10, cs_p10, cs_n10, rfl, Or.inr ⟨rfl, rfl, rfl, tt_g1 277 (by decide +kernel) (by decide +kernel)⟩⟩
theorem fp_X_35 : af_put "CaneRounds" "<init>" 35 10 11 (.object "CaneRounds$Weather") := ⟨_, _, _, cs_y10, rfl, by decide, cs_w10, cs_p10, cs_n10, rfl, Or.inr ⟨rfl, rfl, rfl, tt_g1 278 (by decide +kernel) (by decide +kernel)⟩⟩
theorem fp_X_42 : af_put "CaneRounds" "<init>" 42 10 12 (.object "CaneRounds$Bundles") := ⟨_, _, _, cs_y10, rfl, by decide, cs_w10, cs_p10, cs_n10, rfl, Or.inr ⟨rfl, rfl, rfl, tt_g1 279 (by decide +kernel) (by decide +kernel)⟩⟩
theorem fp_X_49 : af_put "CaneRounds" "<init>" 49 10 13 (.object "CaneRounds$Chooser") := ⟨_, _, _, cs_y10, rfl, by decide, cs_w10, cs_p10, cs_n10, rfl, Or.inr ⟨rfl, rfl, rfl, tt_g1 280 (by decide +kernel) (by decide +kernel)⟩⟩
theorem fp_X_56 : af_put "CaneRounds" "<init>" 56 10 14 (.object "CaneRounds$Tape") := ⟨_, _, _, cs_y10, rfl, by decide, cs_w10, cs_p10, cs_n10, rfl, Or.inr ⟨rfl, rfl, rfl, tt_g1 281 (by decide +kernel) (by decide +kernel)⟩⟩
theorem fp_X_63 {mn : String} : af_put "CaneRounds" mn 63 10 15 (.object "CaneRounds$Formula") := ⟨_, _, _, cs_y10, rfl, by decide, cs_w10, cs_p10, cs_n10, rfl, Or.inl ⟨rfl, Or.inl (tt_g1 282 (by decide +kernel) (by decide +kernel))⟩⟩
theorem fp_X_67 {mn : String} : af_put "CaneRounds" mn 67 10 16 (.object "CaneRounds$Formula") := ⟨_, _, _, cs_y10, rfl, by decide, cs_w10, cs_p10, cs_n10, rfl, Or.inl ⟨rfl, Or.inl (tt_g1 283 (by decide +kernel) (by decide +kernel))⟩⟩
theorem fp_X_70 {mn : String} : af_put "CaneRounds" mn 70 10 17 (.int) := ⟨_, _, _, cs_y10, rfl, by decide, cs_w10, cs_p10, cs_n10, rfl, Or.inl ⟨rfl, Or.inl (tt_g1 284 (by decide +kernel) (by decide +kernel))⟩⟩
theorem fp_X_73 {mn : String} : af_put "CaneRounds" mn 73 10 18 (.int) := ⟨_, _, _, cs_y10, rfl, by decide, cs_w10, cs_p10, cs_n10, rfl, Or.inl ⟨rfl, Or.inl (tt_g1 285 (by decide +kernel) (by decide +kernel))⟩⟩
theorem fp_X_80 {mn : String} : af_put "CaneRounds" mn 80 10 4 (.int) := ⟨_, _, _, cs_y10, rfl, by decide, cs_w10, cs_p10, cs_n10, rfl, Or.inl ⟨rfl, Or.inl (tt_g1 271 (by decide +kernel) (by decide +kernel))⟩⟩
theorem fp_X_98 {mn : String} : af_put "CaneRounds" mn 98 10 7 (.object "CaneRounds$Field") := ⟨_, _, _, cs_y10, rfl, by decide, cs_w10, cs_p10, cs_n10, rfl, Or.inl ⟨rfl, Or.inl (tt_g1 274 (by decide +kernel) (by decide +kernel))⟩⟩
theorem fp_X_102 {mn : String} : af_put "CaneRounds" mn 102 10 6 (.object "CaneRounds$Field") := ⟨_, _, _, cs_y10, rfl, by decide, cs_w10, cs_p10, cs_n10, rfl, Or.inl ⟨rfl, Or.inl (tt_g1 273 (by decide +kernel) (by decide +kernel))⟩⟩
theorem fp_X_105 {mn : String} : af_put "CaneRounds" mn 105 4 14 (.object "CaneRounds$Field") := ⟨_, _, _, cs_y4, rfl, by decide, cs_w4, cs_p4, cs_n4, rfl, Or.inl ⟨rfl, Or.inr ⟨_, tt_ofN (w := Cond.fieldLinkNest "CaneRounds" 105 "CaneRounds$Field" "next" "LCaneRounds$Field;" "CaneRounds") 380 (by decide +kernel) rfl⟩⟩⟩
theorem fp_X_125 {mn : String} : af_put "CaneRounds" mn 125 4 7 (.int) := ⟨_, _, _, cs_y4, rfl, by decide, cs_w4, cs_p4, cs_n4, rfl, Or.inl ⟨rfl, Or.inr ⟨_, tt_ofN (w := Cond.fieldLinkNest "CaneRounds" 125 "CaneRounds$Field" "state" "I" "CaneRounds") 368 (by decide +kernel) rfl⟩⟩⟩
theorem fp_X_138 {mn : String} : af_put "CaneRounds" mn 138 4 9 (.int) := ⟨_, _, _, cs_y4, rfl, by decide, cs_w4, cs_p4, cs_n4, rfl, Or.inl ⟨rfl, Or.inr ⟨_, tt_ofN (w := Cond.fieldLinkNest "CaneRounds" 138 "CaneRounds$Field" "gangs" "I" "CaneRounds") 372 (by decide +kernel) rfl⟩⟩⟩
theorem fp_X_145 {mn : String} : af_put "CaneRounds" mn 145 8 1 (.int) := ⟨_, _, _, cs_y8, rfl, by decide, cs_w8, cs_p8, cs_n8, rfl, Or.inl ⟨rfl, Or.inr ⟨_, tt_ofN (w := Cond.fieldLinkNest "CaneRounds" 145 "CaneRounds$Tape" "length" "I" "CaneRounds") 218 (by decide +kernel) rfl⟩⟩⟩
theorem fp_X_184 {mn : String} : af_put "CaneRounds" mn 184 4 13 (.int) := ⟨_, _, _, cs_y4, rfl, by decide, cs_w4, cs_p4, cs_n4, rfl, Or.inl ⟨rfl, Or.inr ⟨_, tt_ofN (w := Cond.fieldLinkNest "CaneRounds" 184 "CaneRounds$Field" "load" "I" "CaneRounds") 379 (by decide +kernel) rfl⟩⟩⟩
theorem fp_X_211 {mn : String} : af_put "CaneRounds" mn 211 6 7 (.int) := ⟨_, _, _, cs_y6, rfl, by decide, cs_w6, cs_p6, cs_n6, rfl, Or.inl ⟨rfl, Or.inr ⟨_, tt_ofN (w := Cond.fieldLinkNest "CaneRounds" 211 "CaneRounds$Load" "crushed" "I" "CaneRounds") 560 (by decide +kernel) rfl⟩⟩⟩
theorem fp_X_214 {mn : String} : af_put "CaneRounds" mn 214 6 8 (.int) := ⟨_, _, _, cs_y6, rfl, by decide, cs_w6, cs_p6, cs_n6, rfl, Or.inl ⟨rfl, Or.inr ⟨_, tt_ofN (w := Cond.fieldLinkNest "CaneRounds" 214 "CaneRounds$Load" "lost" "I" "CaneRounds") 562 (by decide +kernel) rfl⟩⟩⟩
theorem fp_X_221 {mn : String} : af_put "CaneRounds" mn 221 6 10 (.int) := ⟨_, _, _, cs_y6, rfl, by decide, cs_w6, cs_p6, cs_n6, rfl, Or.inl ⟨rfl, Or.inr ⟨_, tt_ofN (w := Cond.fieldLinkNest "CaneRounds" 221 "CaneRounds$Load" "pay" "I" "CaneRounds") 566 (by decide +kernel) rfl⟩⟩⟩
theorem fp_X_255 {mn : String} : af_put "CaneRounds" mn 255 10 9 (.object "CaneRounds$Load") := ⟨_, _, _, cs_y10, rfl, by decide, cs_w10, cs_p10, cs_n10, rfl, Or.inl ⟨rfl, Or.inl (tt_g1 276 (by decide +kernel) (by decide +kernel))⟩⟩
theorem fp_X_260 {mn : String} : af_put "CaneRounds" mn 260 10 8 (.object "CaneRounds$Load") := ⟨_, _, _, cs_y10, rfl, by decide, cs_w10, cs_p10, cs_n10, rfl, Or.inl ⟨rfl, Or.inl (tt_g1 275 (by decide +kernel) (by decide +kernel))⟩⟩
theorem fp_X_263 {mn : String} : af_put "CaneRounds" mn 263 6 11 (.object "CaneRounds$Load") := ⟨_, _, _, cs_y6, rfl, by decide, cs_w6, cs_p6, cs_n6, rfl, Or.inl ⟨rfl, Or.inr ⟨_, tt_ofN (w := Cond.fieldLinkNest "CaneRounds" 263 "CaneRounds$Load" "next" "LCaneRounds$Load;" "CaneRounds") 567 (by decide +kernel) rfl⟩⟩⟩
theorem fp_X_322 {mn : String} : af_put "CaneRounds" mn 322 6 9 (.int) := ⟨_, _, _, cs_y6, rfl, by decide, cs_w6, cs_p6, cs_n6, rfl, Or.inl ⟨rfl, Or.inr ⟨_, tt_ofN (w := Cond.fieldLinkNest "CaneRounds" 322 "CaneRounds$Load" "overAt" "I" "CaneRounds") 564 (by decide +kernel) rfl⟩⟩⟩
theorem fp_Batch_7 : af_put "CaneRounds$Batch" "<init>" 7 0 0 (.int) := ⟨_, _, _, cs_y0, rfl, by decide, cs_w0, cs_p0, cs_n0, rfl, Or.inr ⟨rfl, rfl, rfl, tt_g1 644 (by decide +kernel) (by decide +kernel)⟩⟩
theorem fp_Batch_13 {mn : String} : af_put "CaneRounds$Batch" mn 13 0 1 (.int) := ⟨_, _, _, cs_y0, rfl, by decide, cs_w0, cs_p0, cs_n0, rfl, Or.inl ⟨rfl, Or.inl (tt_g1 646 (by decide +kernel) (by decide +kernel))⟩⟩
theorem fg_Bundles_15 : af_ok "CaneRounds$Bundles" 15 1 1 := ⟨_, _, _, rfl, by decide, cs_w1, Or.inl (tt_g1 159 (by decide +kernel) (by decide +kernel))⟩
theorem fg_Bundles_19 : af_ok "CaneRounds$Bundles" 19 0 0 := ⟨_, _, _, rfl, by decide, cs_w0, Or.inr ⟨_, tt_ofN (w := Cond.fieldLinkNest "CaneRounds$Bundles" 19 "CaneRounds$Batch" "field" "I" "CaneRounds") 645 (by decide +kernel) rfl⟩⟩
theorem fg_Bundles_25 : af_ok "CaneRounds$Bundles" 25 0 1 := ⟨_, _, _, rfl, by decide, cs_w0, Or.inr ⟨_, tt_ofN (w := Cond.fieldLinkNest "CaneRounds$Bundles" 25 "CaneRounds$Batch" "end" "I" "CaneRounds") 647 (by decide +kernel) rfl⟩⟩
theorem fg_Bundles_31 : af_ok "CaneRounds$Bundles" 31 1 0 := ⟨_, _, _, rfl, by decide, cs_w1, Or.inl (tt_g1 158 (by decide +kernel) (by decide +kernel))⟩
theorem fg_Bundles_34 : af_ok "CaneRounds$Bundles" 34 0 2 := ⟨_, _, _, rfl, by decide, cs_w0, Or.inr ⟨_, tt_ofN (w := Cond.fieldLinkNest "CaneRounds$Bundles" 34 "CaneRounds$Batch" "next" "LCaneRounds$Batch;" "CaneRounds") 648 (by decide +kernel) rfl⟩⟩
theorem fi_Bundles_28 : ai_B "CaneRounds$Bundles" 28 mm_Batch_init 2 ∧ Cond.instanceMethod mm_Batch_init.1 ∈ tt_g ∧ mm_Batch_init.1.name = "<init>" ∧ mm_Batch_init.2.2.2 = none := ⟨⟨(tt_g1 642 (by decide +kernel) (by decide +kernel)), (tt_g1 105 (by decide +kernel) (by decide +kernel)), ⟨by decide +kernel, by decide +kernel, by decide +kernel⟩, by decide, Or.inr ⟨_, tt_ofN (w := Cond.methodLinkNest "CaneRounds$Bundles" 28 ⟨"CaneRounds$Batch", "<init>", "(II)V"⟩ "CaneRounds") 640 (by decide +kernel) rfl⟩⟩, (tt_g1 641 (by decide +kernel) (by decide +kernel)), rfl, rfl⟩
theorem fi_Bundles_9 : ai_B "CaneRounds$Bundles" 9 mm_Bundles_count 0 ∧ Cond.instanceMethod mm_Bundles_count.1 ∈ tt_g ∧ Cond.selects mm_Bundles_count.1.cls mm_Bundles_count.1 mm_Bundles_count.1 ∈ tt_g := ⟨⟨(tt_g1 637 (by decide +kernel) (by decide +kernel)), (tt_g1 96 (by decide +kernel) (by decide +kernel)), ⟨by decide +kernel, by decide +kernel, by decide +kernel⟩, by decide, Or.inl (tt_g1 634 (by decide +kernel) (by decide +kernel))⟩, (tt_g1 636 (by decide +kernel) (by decide +kernel)), (tt_g1 28 (by decide +kernel) (by decide +kernel))⟩
theorem fn_Bundles_20 : an_ok "CaneRounds$Bundles" 20 0 3 [av_i 0, av_i 0, av_n] := ⟨_, _, cs_y0, rfl, cs_w0, cs_p0, (tt_g1 638 (by decide +kernel) (by decide +kernel)), (tt_g1 639 (by decide +kernel) (by decide +kernel)), (tt_g1 105 (by decide +kernel) (by decide +kernel)), fun w j hj => by
  rcases (show j = 0 ∨ j = 1 ∨ j = 2 by omega) with rfl | rfl | rfl <;> rfl⟩
theorem fp_Bundles_15 {mn : String} : af_put "CaneRounds$Bundles" mn 15 1 1 (.object "CaneRounds$Batch") := ⟨_, _, _, cs_y1, rfl, by decide, cs_w1, cs_p1, cs_n1, rfl, Or.inl ⟨rfl, Or.inl (tt_g1 159 (by decide +kernel) (by decide +kernel))⟩⟩
theorem fp_Bundles_25 {mn : String} : af_put "CaneRounds$Bundles" mn 25 0 1 (.int) := ⟨_, _, _, cs_y0, rfl, by decide, cs_w0, cs_p0, cs_n0, rfl, Or.inl ⟨rfl, Or.inr ⟨_, tt_ofN (w := Cond.fieldLinkNest "CaneRounds$Bundles" 25 "CaneRounds$Batch" "end" "I" "CaneRounds") 647 (by decide +kernel) rfl⟩⟩⟩
theorem fp_Bundles_31 {mn : String} : af_put "CaneRounds$Bundles" mn 31 1 0 (.object "CaneRounds$Batch") := ⟨_, _, _, cs_y1, rfl, by decide, cs_w1, cs_p1, cs_n1, rfl, Or.inl ⟨rfl, Or.inl (tt_g1 158 (by decide +kernel) (by decide +kernel))⟩⟩
theorem fp_Bundles_34 {mn : String} : af_put "CaneRounds$Bundles" mn 34 0 2 (.object "CaneRounds$Batch") := ⟨_, _, _, cs_y0, rfl, by decide, cs_w0, cs_p0, cs_n0, rfl, Or.inl ⟨rfl, Or.inr ⟨_, tt_ofN (w := Cond.fieldLinkNest "CaneRounds$Bundles" 34 "CaneRounds$Batch" "next" "LCaneRounds$Batch;" "CaneRounds") 648 (by decide +kernel) rfl⟩⟩⟩
theorem fg_Chooser_9 : af_ok "CaneRounds$Chooser" 9 2 0 := ⟨_, _, _, rfl, by decide, cs_w2, Or.inl (tt_g1 173 (by decide +kernel) (by decide +kernel))⟩
theorem fg_Chooser_15 : af_ok "CaneRounds$Chooser" 15 2 1 := ⟨_, _, _, rfl, by decide, cs_w2, Or.inl (tt_g1 174 (by decide +kernel) (by decide +kernel))⟩
theorem fg_Chooser_18 : af_ok "CaneRounds$Chooser" 18 2 2 := ⟨_, _, _, rfl, by decide, cs_w2, Or.inl (tt_g1 175 (by decide +kernel) (by decide +kernel))⟩
theorem fg_Chooser_21 : af_ok "CaneRounds$Chooser" 21 2 3 := ⟨_, _, _, rfl, by decide, cs_w2, Or.inl (tt_g1 176 (by decide +kernel) (by decide +kernel))⟩
theorem fg_Chooser_24 : af_ok "CaneRounds$Chooser" 24 2 4 := ⟨_, _, _, rfl, by decide, cs_w2, Or.inl (tt_g1 177 (by decide +kernel) (by decide +kernel))⟩
theorem fg_Chooser_29 : af_ok "CaneRounds$Chooser" 29 2 5 := ⟨_, _, _, rfl, by decide, cs_w2, Or.inl (tt_g1 178 (by decide +kernel) (by decide +kernel))⟩
theorem fg_Chooser_32 : af_ok "CaneRounds$Chooser" 32 2 8 := ⟨_, _, _, rfl, by decide, cs_w2, Or.inl (tt_g1 181 (by decide +kernel) (by decide +kernel))⟩
theorem fg_Chooser_36 : af_ok "CaneRounds$Chooser" 36 2 6 := ⟨_, _, _, rfl, by decide, cs_w2, Or.inl (tt_g1 179 (by decide +kernel) (by decide +kernel))⟩
theorem fg_Chooser_39 : af_ok "CaneRounds$Chooser" 39 2 7 := ⟨_, _, _, rfl, by decide, cs_w2, Or.inl (tt_g1 180 (by decide +kernel) (by decide +kernel))⟩
theorem fg_Chooser_42 : af_ok "CaneRounds$Chooser" 42 4 0 := ⟨_, _, _, rfl, by decide, cs_w4, Or.inr ⟨_, tt_ofN (w := Cond.fieldLinkNest "CaneRounds$Chooser" 42 "CaneRounds$Field" "number" "I" "CaneRounds") 355 (by decide +kernel) rfl⟩⟩
theorem fg_Chooser_54 : af_ok "CaneRounds$Chooser" 54 4 2 := ⟨_, _, _, rfl, by decide, cs_w4, Or.inr ⟨_, tt_ofN (w := Cond.fieldLinkNest "CaneRounds$Chooser" 54 "CaneRounds$Field" "tons" "I" "CaneRounds") 360 (by decide +kernel) rfl⟩⟩
theorem fg_Chooser_81 : af_ok "CaneRounds$Chooser" 81 2 9 := ⟨_, _, _, rfl, by decide, cs_w2, Or.inl (tt_g1 182 (by decide +kernel) (by decide +kernel))⟩
theorem fi_Chooser_60 : ai_B "CaneRounds$Chooser" 60 mm_X_isWithin 3 ∧ Cond.static mm_X_isWithin.1 ∈ tt_g := ⟨⟨(tt_g1 331 (by decide +kernel) (by decide +kernel)), (tt_g1 93 (by decide +kernel) (by decide +kernel)), ⟨by decide +kernel, by decide +kernel, by decide +kernel⟩, by decide, Or.inr ⟨_, tt_ofN (w := Cond.methodLinkNest "CaneRounds$Chooser" 60 ⟨"CaneRounds", "isWithin", "(III)Z"⟩ "CaneRounds") 843 (by decide +kernel) rfl⟩⟩, (tt_g1 330 (by decide +kernel) (by decide +kernel))⟩
theorem fi_Chooser_64 : ai_B "CaneRounds$Chooser" 64 mm_Chooser_insert 3 ∧ Cond.static mm_Chooser_insert.1 ∈ tt_g := ⟨⟨(tt_g1 846 (by decide +kernel) (by decide +kernel)), (tt_g1 97 (by decide +kernel) (by decide +kernel)), ⟨by decide +kernel, by decide +kernel, by decide +kernel⟩, by decide, Or.inl (tt_g1 844 (by decide +kernel) (by decide +kernel))⟩, (tt_g1 845 (by decide +kernel) (by decide +kernel))⟩
theorem fi_Chooser_95 : ai_B "CaneRounds$Chooser" 95 mm_X_holdsBit 2 ∧ Cond.static mm_X_holdsBit.1 ∈ tt_g := ⟨⟨(tt_g1 835 (by decide +kernel) (by decide +kernel)), (tt_g1 93 (by decide +kernel) (by decide +kernel)), ⟨by decide +kernel, by decide +kernel, by decide +kernel⟩, by decide, Or.inr ⟨_, tt_ofN (w := Cond.methodLinkNest "CaneRounds$Chooser" 95 ⟨"CaneRounds", "holdsBit", "(II)Z"⟩ "CaneRounds") 864 (by decide +kernel) rfl⟩⟩, (tt_g1 834 (by decide +kernel) (by decide +kernel))⟩
theorem fi_Chooser_47 : ai_B "CaneRounds$Chooser" 47 mm_Field_hoursToMill 0 ∧ Cond.instanceMethod mm_Field_hoursToMill.1 ∈ tt_g ∧ Cond.selects mm_Field_hoursToMill.1.cls mm_Field_hoursToMill.1 mm_Field_hoursToMill.1 ∈ tt_g := ⟨⟨(tt_g1 612 (by decide +kernel) (by decide +kernel)), (tt_g1 101 (by decide +kernel) (by decide +kernel)), ⟨by decide +kernel, by decide +kernel, by decide +kernel⟩, by decide, Or.inr ⟨_, tt_ofN (w := Cond.methodLinkNest "CaneRounds$Chooser" 47 ⟨"CaneRounds$Field", "hoursToMill", "()I"⟩ "CaneRounds") 840 (by decide +kernel) rfl⟩⟩, (tt_g1 611 (by decide +kernel) (by decide +kernel)), (tt_g1 22 (by decide +kernel) (by decide +kernel))⟩
theorem fi_Chooser_51 : ai_B "CaneRounds$Chooser" 51 mm_Field_hoursToDeath 0 ∧ Cond.instanceMethod mm_Field_hoursToDeath.1 ∈ tt_g ∧ Cond.selects mm_Field_hoursToDeath.1.cls mm_Field_hoursToDeath.1 mm_Field_hoursToDeath.1 ∈ tt_g := ⟨⟨(tt_g1 544 (by decide +kernel) (by decide +kernel)), (tt_g1 101 (by decide +kernel) (by decide +kernel)), ⟨by decide +kernel, by decide +kernel, by decide +kernel⟩, by decide, Or.inr ⟨_, tt_ofN (w := Cond.methodLinkNest "CaneRounds$Chooser" 51 ⟨"CaneRounds$Field", "hoursToDeath", "()I"⟩ "CaneRounds") 841 (by decide +kernel) rfl⟩⟩, (tt_g1 543 (by decide +kernel) (by decide +kernel)), (tt_g1 17 (by decide +kernel) (by decide +kernel))⟩
theorem fi_Chooser_56 : ai_B "CaneRounds$Chooser" 56 mm_Field_sweetAt 1 ∧ Cond.instanceMethod mm_Field_sweetAt.1 ∈ tt_g ∧ Cond.selects mm_Field_sweetAt.1.cls mm_Field_sweetAt.1 mm_Field_sweetAt.1 ∈ tt_g := ⟨⟨(tt_g1 492 (by decide +kernel) (by decide +kernel)), (tt_g1 101 (by decide +kernel) (by decide +kernel)), ⟨by decide +kernel, by decide +kernel, by decide +kernel⟩, by decide, Or.inr ⟨_, tt_ofN (w := Cond.methodLinkNest "CaneRounds$Chooser" 56 ⟨"CaneRounds$Field", "sweetAt", "(I)I"⟩ "CaneRounds") 842 (by decide +kernel) rfl⟩⟩, (tt_g1 491 (by decide +kernel) (by decide +kernel)), (tt_g1 10 (by decide +kernel) (by decide +kernel))⟩
theorem fi_Chooser_74 : ai_B "CaneRounds$Chooser" 74 mm_Chooser_sumDearest 1 ∧ Cond.instanceMethod mm_Chooser_sumDearest.1 ∈ tt_g ∧ Cond.selects mm_Chooser_sumDearest.1.cls mm_Chooser_sumDearest.1 mm_Chooser_sumDearest.1 ∈ tt_g := ⟨⟨(tt_g1 855 (by decide +kernel) (by decide +kernel)), (tt_g1 97 (by decide +kernel) (by decide +kernel)), ⟨by decide +kernel, by decide +kernel, by decide +kernel⟩, by decide, Or.inl (tt_g1 852 (by decide +kernel) (by decide +kernel))⟩, (tt_g1 854 (by decide +kernel) (by decide +kernel)), (tt_g1 57 (by decide +kernel) (by decide +kernel))⟩
theorem fi_Chooser_78 : ai_B "CaneRounds$Chooser" 78 mm_Chooser_worthOfDearestThatFit 1 ∧ Cond.instanceMethod mm_Chooser_worthOfDearestThatFit.1 ∈ tt_g ∧ Cond.selects mm_Chooser_worthOfDearestThatFit.1.cls mm_Chooser_worthOfDearestThatFit.1 mm_Chooser_worthOfDearestThatFit.1 ∈ tt_g := ⟨⟨(tt_g1 859 (by decide +kernel) (by decide +kernel)), (tt_g1 97 (by decide +kernel) (by decide +kernel)), ⟨by decide +kernel, by decide +kernel, by decide +kernel⟩, by decide, Or.inl (tt_g1 856 (by decide +kernel) (by decide +kernel))⟩, (tt_g1 858 (by decide +kernel) (by decide +kernel)), (tt_g1 58 (by decide +kernel) (by decide +kernel))⟩
theorem fi_Chooser_87 : ai_B "CaneRounds$Chooser" 87 mm_Chooser_search 4 ∧ Cond.instanceMethod mm_Chooser_search.1 ∈ tt_g ∧ Cond.selects mm_Chooser_search.1.cls mm_Chooser_search.1 mm_Chooser_search.1 ∈ tt_g := ⟨⟨(tt_g1 872 (by decide +kernel) (by decide +kernel)), (tt_g1 97 (by decide +kernel) (by decide +kernel)), ⟨by decide +kernel, by decide +kernel, by decide +kernel⟩, by decide, Or.inl (tt_g1 869 (by decide +kernel) (by decide +kernel))⟩, (tt_g1 871 (by decide +kernel) (by decide +kernel)), (tt_g1 61 (by decide +kernel) (by decide +kernel))⟩
theorem fi_Chooser_91 : ai_B "CaneRounds$Chooser" 91 mm_Chooser_fits 2 ∧ Cond.instanceMethod mm_Chooser_fits.1 ∈ tt_g ∧ Cond.selects mm_Chooser_fits.1.cls mm_Chooser_fits.1 mm_Chooser_fits.1 ∈ tt_g := ⟨⟨(tt_g1 863 (by decide +kernel) (by decide +kernel)), (tt_g1 97 (by decide +kernel) (by decide +kernel)), ⟨by decide +kernel, by decide +kernel, by decide +kernel⟩, by decide, Or.inl (tt_g1 860 (by decide +kernel) (by decide +kernel))⟩, (tt_g1 862 (by decide +kernel) (by decide +kernel)), (tt_g1 59 (by decide +kernel) (by decide +kernel))⟩
theorem fi_Chooser_98 : ai_B "CaneRounds$Chooser" 98 mm_Chooser_fitsFrom 2 ∧ Cond.instanceMethod mm_Chooser_fitsFrom.1 ∈ tt_g ∧ Cond.selects mm_Chooser_fitsFrom.1.cls mm_Chooser_fitsFrom.1 mm_Chooser_fitsFrom.1 ∈ tt_g := ⟨⟨(tt_g1 868 (by decide +kernel) (by decide +kernel)), (tt_g1 97 (by decide +kernel) (by decide +kernel)), ⟨by decide +kernel, by decide +kernel, by decide +kernel⟩, by decide, Or.inl (tt_g1 865 (by decide +kernel) (by decide +kernel))⟩, (tt_g1 867 (by decide +kernel) (by decide +kernel)), (tt_g1 60 (by decide +kernel) (by decide +kernel))⟩
theorem fp_Chooser_9 : af_put "CaneRounds$Chooser" "<init>" 9 2 0 (.array .int) := ⟨_, _, _, cs_y2, rfl, by decide, cs_w2, cs_p2, cs_n2, rfl, Or.inr ⟨rfl, rfl, rfl, tt_g1 173 (by decide +kernel) (by decide +kernel)⟩⟩
theorem fp_Chooser_15 : af_put "CaneRounds$Chooser" "<init>" 15 2 1 (.array .int) := ⟨_, _, _, cs_y2, rfl, by decide, cs_w2, cs_p2, cs_n2, rfl, Or.inr ⟨rfl, rfl, rfl, tt_g1 174 (by decide +kernel) (by decide +kernel)⟩⟩
theorem fp_Chooser_18 : af_put "CaneRounds$Chooser" "<init>" 18 2 2 (.array .int) := ⟨_, _, _, cs_y2, rfl, by decide, cs_w2, cs_p2, cs_n2, rfl, Or.inr ⟨rfl, rfl, rfl, tt_g1 175 (by decide +kernel) (by decide +kernel)⟩⟩
theorem fp_Chooser_21 : af_put "CaneRounds$Chooser" "<init>" 21 2 3 (.array .int) := ⟨_, _, _, cs_y2, rfl, by decide, cs_w2, cs_p2, cs_n2, rfl, Or.inr ⟨rfl, rfl, rfl, tt_g1 176 (by decide +kernel) (by decide +kernel)⟩⟩
theorem fp_Chooser_24 : af_put "CaneRounds$Chooser" "<init>" 24 2 4 (.array .int) := ⟨_, _, _, cs_y2, rfl, by decide, cs_w2, cs_p2, cs_n2, rfl, Or.inr ⟨rfl, rfl, rfl, tt_g1 177 (by decide +kernel) (by decide +kernel)⟩⟩
theorem fp_Chooser_29 : af_put "CaneRounds$Chooser" "<init>" 29 2 5 (.array (.array .int)) := ⟨_, _, _, cs_y2, rfl, by decide, cs_w2, cs_p2, cs_n2, rfl, Or.inr ⟨rfl, rfl, rfl, tt_g1 178 (by decide +kernel) (by decide +kernel)⟩⟩
theorem fp_Chooser_32 {mn : String} : af_put "CaneRounds$Chooser" mn 32 2 8 (.int) := ⟨_, _, _, cs_y2, rfl, by decide, cs_w2, cs_p2, cs_n2, rfl, Or.inl ⟨rfl, Or.inl (tt_g1 181 (by decide +kernel) (by decide +kernel))⟩⟩
theorem fp_Chooser_36 {mn : String} : af_put "CaneRounds$Chooser" mn 36 2 6 (.int) := ⟨_, _, _, cs_y2, rfl, by decide, cs_w2, cs_p2, cs_n2, rfl, Or.inl ⟨rfl, Or.inl (tt_g1 179 (by decide +kernel) (by decide +kernel))⟩⟩
theorem fp_Chooser_39 {mn : String} : af_put "CaneRounds$Chooser" mn 39 2 7 (.int) := ⟨_, _, _, cs_y2, rfl, by decide, cs_w2, cs_p2, cs_n2, rfl, Or.inl ⟨rfl, Or.inl (tt_g1 180 (by decide +kernel) (by decide +kernel))⟩⟩
theorem fp_Chooser_81 {mn : String} : af_put "CaneRounds$Chooser" mn 81 2 9 (.int) := ⟨_, _, _, cs_y2, rfl, by decide, cs_w2, cs_p2, cs_n2, rfl, Or.inl ⟨rfl, Or.inl (tt_g1 182 (by decide +kernel) (by decide +kernel))⟩⟩
theorem fp_Chooser_84 {mn : String} : af_put "CaneRounds$Chooser" mn 84 2 10 (.int) := ⟨_, _, _, cs_y2, rfl, by decide, cs_w2, cs_p2, cs_n2, rfl, Or.inl ⟨rfl, Or.inl (tt_g1 184 (by decide +kernel) (by decide +kernel))⟩⟩
theorem fg_Farms_11 : af_ok "CaneRounds$Farms" 11 3 0 := ⟨_, _, _, rfl, by decide, cs_w3, Or.inl (tt_g1 120 (by decide +kernel) (by decide +kernel))⟩
theorem fg_Farms_15 : af_ok "CaneRounds$Farms" 15 3 1 := ⟨_, _, _, rfl, by decide, cs_w3, Or.inl (tt_g1 121 (by decide +kernel) (by decide +kernel))⟩
theorem fg_Farms_19 : af_ok "CaneRounds$Farms" 19 3 2 := ⟨_, _, _, rfl, by decide, cs_w3, Or.inl (tt_g1 122 (by decide +kernel) (by decide +kernel))⟩
theorem fg_Farms_23 : af_ok "CaneRounds$Farms" 23 3 3 := ⟨_, _, _, rfl, by decide, cs_w3, Or.inl (tt_g1 124 (by decide +kernel) (by decide +kernel))⟩
theorem fg_Farms_26 : af_ok "CaneRounds$Farms" 26 3 4 := ⟨_, _, _, rfl, by decide, cs_w3, Or.inl (tt_g1 125 (by decide +kernel) (by decide +kernel))⟩
theorem fi_Farms_30 : ai_B "CaneRounds$Farms" 30 mm_X_isWithin 3 ∧ Cond.static mm_X_isWithin.1 ∈ tt_g := ⟨⟨(tt_g1 331 (by decide +kernel) (by decide +kernel)), (tt_g1 93 (by decide +kernel) (by decide +kernel)), ⟨by decide +kernel, by decide +kernel, by decide +kernel⟩, by decide, Or.inr ⟨_, tt_ofN (w := Cond.methodLinkNest "CaneRounds$Farms" 30 ⟨"CaneRounds", "isWithin", "(III)Z"⟩ "CaneRounds") 460 (by decide +kernel) rfl⟩⟩, (tt_g1 330 (by decide +kernel) (by decide +kernel))⟩
theorem fi_Farms_34 : ai_B "CaneRounds$Farms" 34 mm_Farms_inOrder 1 ∧ Cond.instanceMethod mm_Farms_inOrder.1 ∈ tt_g ∧ Cond.selects mm_Farms_inOrder.1.cls mm_Farms_inOrder.1 mm_Farms_inOrder.1 ∈ tt_g := ⟨⟨(tt_g1 459 (by decide +kernel) (by decide +kernel)), (tt_g1 94 (by decide +kernel) (by decide +kernel)), ⟨by decide +kernel, by decide +kernel, by decide +kernel⟩, by decide, Or.inl (tt_g1 456 (by decide +kernel) (by decide +kernel))⟩, (tt_g1 458 (by decide +kernel) (by decide +kernel)), (tt_g1 5 (by decide +kernel) (by decide +kernel))⟩
theorem fc_Farms_29 : Cond.constant "CaneRounds$Farms" 29 (1103515245) ∈ tt_g := (tt_g1 451 (by decide +kernel) (by decide +kernel))
theorem fp_Farms_11 : af_put "CaneRounds$Farms" "<init>" 11 3 0 (.array .long) := ⟨_, _, _, cs_y3, rfl, by decide, cs_w3, cs_p3, cs_n3, rfl, Or.inr ⟨rfl, rfl, rfl, tt_g1 120 (by decide +kernel) (by decide +kernel)⟩⟩
theorem fp_Farms_15 : af_put "CaneRounds$Farms" "<init>" 15 3 1 (.array .int) := ⟨_, _, _, cs_y3, rfl, by decide, cs_w3, cs_p3, cs_n3, rfl, Or.inr ⟨rfl, rfl, rfl, tt_g1 121 (by decide +kernel) (by decide +kernel)⟩⟩
theorem fp_Farms_19 {mn : String} : af_put "CaneRounds$Farms" mn 19 3 2 (.int) := ⟨_, _, _, cs_y3, rfl, by decide, cs_w3, cs_p3, cs_n3, rfl, Or.inl ⟨rfl, Or.inl (tt_g1 122 (by decide +kernel) (by decide +kernel))⟩⟩
theorem fp_Farms_23 {mn : String} : af_put "CaneRounds$Farms" mn 23 3 3 (.int) := ⟨_, _, _, cs_y3, rfl, by decide, cs_w3, cs_p3, cs_n3, rfl, Or.inl ⟨rfl, Or.inl (tt_g1 124 (by decide +kernel) (by decide +kernel))⟩⟩
theorem fp_Farms_26 {mn : String} : af_put "CaneRounds$Farms" mn 26 3 4 (.int) := ⟨_, _, _, cs_y3, rfl, by decide, cs_w3, cs_p3, cs_n3, rfl, Or.inl ⟨rfl, Or.inl (tt_g1 125 (by decide +kernel) (by decide +kernel))⟩⟩
theorem fg_Field_24 : af_ok "CaneRounds$Field" 24 4 2 := ⟨_, _, _, rfl, by decide, cs_w4, Or.inl (tt_g1 359 (by decide +kernel) (by decide +kernel))⟩
theorem fg_Field_27 : af_ok "CaneRounds$Field" 27 4 3 := ⟨_, _, _, rfl, by decide, cs_w4, Or.inl (tt_g1 363 (by decide +kernel) (by decide +kernel))⟩
theorem fg_Field_30 : af_ok "CaneRounds$Field" 30 4 4 := ⟨_, _, _, rfl, by decide, cs_w4, Or.inl (tt_g1 364 (by decide +kernel) (by decide +kernel))⟩
theorem fg_Field_33 : af_ok "CaneRounds$Field" 33 4 5 := ⟨_, _, _, rfl, by decide, cs_w4, Or.inl (tt_g1 365 (by decide +kernel) (by decide +kernel))⟩
theorem fg_Field_36 : af_ok "CaneRounds$Field" 36 4 6 := ⟨_, _, _, rfl, by decide, cs_w4, Or.inl (tt_g1 366 (by decide +kernel) (by decide +kernel))⟩
theorem fg_Field_39 : af_ok "CaneRounds$Field" 39 4 10 := ⟨_, _, _, rfl, by decide, cs_w4, Or.inl (tt_g1 373 (by decide +kernel) (by decide +kernel))⟩
theorem fg_Field_43 : af_ok "CaneRounds$Field" 43 4 12 := ⟨_, _, _, rfl, by decide, cs_w4, Or.inl (tt_g1 377 (by decide +kernel) (by decide +kernel))⟩
theorem fg_Field_65 : af_ok "CaneRounds$Field" 65 4 8 := ⟨_, _, _, rfl, by decide, cs_w4, Or.inl (tt_g1 369 (by decide +kernel) (by decide +kernel))⟩
theorem fg_Field_68 : af_ok "CaneRounds$Field" 68 4 9 := ⟨_, _, _, rfl, by decide, cs_w4, Or.inl (tt_g1 371 (by decide +kernel) (by decide +kernel))⟩
theorem fi_Field_52 : ai_B "CaneRounds$Field" 52 mm_X_quotient 2 ∧ Cond.static mm_X_quotient.1 ∈ tt_g := ⟨⟨(tt_g1 498 (by decide +kernel) (by decide +kernel)), (tt_g1 93 (by decide +kernel) (by decide +kernel)), ⟨by decide +kernel, by decide +kernel, by decide +kernel⟩, by decide, Or.inr ⟨_, tt_ofN (w := Cond.methodLinkNest "CaneRounds$Field" 52 ⟨"CaneRounds", "quotient", "(II)I"⟩ "CaneRounds") 496 (by decide +kernel) rfl⟩⟩, (tt_g1 497 (by decide +kernel) (by decide +kernel))⟩
theorem fi_Field_59 : ai_B "CaneRounds$Field" 59 mm_Field_sweetAt 1 ∧ Cond.instanceMethod mm_Field_sweetAt.1 ∈ tt_g ∧ Cond.selects mm_Field_sweetAt.1.cls mm_Field_sweetAt.1 mm_Field_sweetAt.1 ∈ tt_g := ⟨⟨(tt_g1 492 (by decide +kernel) (by decide +kernel)), (tt_g1 101 (by decide +kernel) (by decide +kernel)), ⟨by decide +kernel, by decide +kernel, by decide +kernel⟩, by decide, Or.inl (tt_g1 489 (by decide +kernel) (by decide +kernel))⟩, (tt_g1 491 (by decide +kernel) (by decide +kernel)), (tt_g1 10 (by decide +kernel) (by decide +kernel))⟩
theorem fp_Field_11 {mn : String} : af_put "CaneRounds$Field" mn 11 4 7 (.int) := ⟨_, _, _, cs_y4, rfl, by decide, cs_w4, cs_p4, cs_n4, rfl, Or.inl ⟨rfl, Or.inl (tt_g1 367 (by decide +kernel) (by decide +kernel))⟩⟩
theorem fp_Field_15 {mn : String} : af_put "CaneRounds$Field" mn 15 4 13 (.int) := ⟨_, _, _, cs_y4, rfl, by decide, cs_w4, cs_p4, cs_n4, rfl, Or.inl ⟨rfl, Or.inl (tt_g1 378 (by decide +kernel) (by decide +kernel))⟩⟩
theorem fp_Field_18 : af_put "CaneRounds$Field" "<init>" 18 4 0 (.int) := ⟨_, _, _, cs_y4, rfl, by decide, cs_w4, cs_p4, cs_n4, rfl, Or.inr ⟨rfl, rfl, rfl, tt_g1 354 (by decide +kernel) (by decide +kernel)⟩⟩
theorem fp_Field_21 : af_put "CaneRounds$Field" "<init>" 21 4 1 (.int) := ⟨_, _, _, cs_y4, rfl, by decide, cs_w4, cs_p4, cs_n4, rfl, Or.inr ⟨rfl, rfl, rfl, tt_g1 357 (by decide +kernel) (by decide +kernel)⟩⟩
theorem fp_Field_24 : af_put "CaneRounds$Field" "<init>" 24 4 2 (.int) := ⟨_, _, _, cs_y4, rfl, by decide, cs_w4, cs_p4, cs_n4, rfl, Or.inr ⟨rfl, rfl, rfl, tt_g1 359 (by decide +kernel) (by decide +kernel)⟩⟩
theorem fp_Field_27 : af_put "CaneRounds$Field" "<init>" 27 4 3 (.int) := ⟨_, _, _, cs_y4, rfl, by decide, cs_w4, cs_p4, cs_n4, rfl, Or.inr ⟨rfl, rfl, rfl, tt_g1 363 (by decide +kernel) (by decide +kernel)⟩⟩
theorem fp_Field_30 : af_put "CaneRounds$Field" "<init>" 30 4 4 (.int) := ⟨_, _, _, cs_y4, rfl, by decide, cs_w4, cs_p4, cs_n4, rfl, Or.inr ⟨rfl, rfl, rfl, tt_g1 364 (by decide +kernel) (by decide +kernel)⟩⟩
theorem fp_Field_33 : af_put "CaneRounds$Field" "<init>" 33 4 5 (.int) := ⟨_, _, _, cs_y4, rfl, by decide, cs_w4, cs_p4, cs_n4, rfl, Or.inr ⟨rfl, rfl, rfl, tt_g1 365 (by decide +kernel) (by decide +kernel)⟩⟩
theorem fp_Field_36 : af_put "CaneRounds$Field" "<init>" 36 4 6 (.int) := ⟨_, _, _, cs_y4, rfl, by decide, cs_w4, cs_p4, cs_n4, rfl, Or.inr ⟨rfl, rfl, rfl, tt_g1 366 (by decide +kernel) (by decide +kernel)⟩⟩
theorem fp_Field_39 {mn : String} : af_put "CaneRounds$Field" mn 39 4 10 (.boolean) := ⟨_, _, _, cs_y4, rfl, by decide, cs_w4, cs_p4, cs_n4, rfl, Or.inl ⟨rfl, Or.inl (tt_g1 373 (by decide +kernel) (by decide +kernel))⟩⟩
theorem fp_Field_43 {mn : String} : af_put "CaneRounds$Field" mn 43 4 12 (.int) := ⟨_, _, _, cs_y4, rfl, by decide, cs_w4, cs_p4, cs_n4, rfl, Or.inl ⟨rfl, Or.inl (tt_g1 377 (by decide +kernel) (by decide +kernel))⟩⟩
theorem fp_Field_62 {mn : String} : af_put "CaneRounds$Field" mn 62 4 11 (.int) := ⟨_, _, _, cs_y4, rfl, by decide, cs_w4, cs_p4, cs_n4, rfl, Or.inl ⟨rfl, Or.inl (tt_g1 375 (by decide +kernel) (by decide +kernel))⟩⟩
theorem fp_Field_65 {mn : String} : af_put "CaneRounds$Field" mn 65 4 8 (.int) := ⟨_, _, _, cs_y4, rfl, by decide, cs_w4, cs_p4, cs_n4, rfl, Or.inl ⟨rfl, Or.inl (tt_g1 369 (by decide +kernel) (by decide +kernel))⟩⟩
theorem fp_Field_68 {mn : String} : af_put "CaneRounds$Field" mn 68 4 9 (.int) := ⟨_, _, _, cs_y4, rfl, by decide, cs_w4, cs_p4, cs_n4, rfl, Or.inl ⟨rfl, Or.inl (tt_g1 371 (by decide +kernel) (by decide +kernel))⟩⟩
theorem fg_Formula_13 : af_ok "CaneRounds$Formula" 13 5 0 := ⟨_, _, _, rfl, by decide, cs_w5, Or.inl (tt_g1 231 (by decide +kernel) (by decide +kernel))⟩
theorem fg_Formula_17 : af_ok "CaneRounds$Formula" 17 5 1 := ⟨_, _, _, rfl, by decide, cs_w5, Or.inl (tt_g1 232 (by decide +kernel) (by decide +kernel))⟩
theorem fg_Formula_20 : af_ok "CaneRounds$Formula" 20 5 2 := ⟨_, _, _, rfl, by decide, cs_w5, Or.inl (tt_g1 233 (by decide +kernel) (by decide +kernel))⟩
theorem fg_Formula_52 : af_ok "CaneRounds$Formula" 52 5 6 := ⟨_, _, _, rfl, by decide, cs_w5, Or.inl (tt_g1 239 (by decide +kernel) (by decide +kernel))⟩
theorem fg_Formula_55 : af_ok "CaneRounds$Formula" 55 5 7 := ⟨_, _, _, rfl, by decide, cs_w5, Or.inl (tt_g1 240 (by decide +kernel) (by decide +kernel))⟩
theorem fg_Formula_58 : af_ok "CaneRounds$Formula" 58 5 8 := ⟨_, _, _, rfl, by decide, cs_w5, Or.inl (tt_g1 241 (by decide +kernel) (by decide +kernel))⟩
theorem fg_Formula_61 : af_ok "CaneRounds$Formula" 61 5 9 := ⟨_, _, _, rfl, by decide, cs_w5, Or.inl (tt_g1 242 (by decide +kernel) (by decide +kernel))⟩
theorem fg_Formula_64 : af_ok "CaneRounds$Formula" 64 5 10 := ⟨_, _, _, rfl, by decide, cs_w5, Or.inl (tt_g1 243 (by decide +kernel) (by decide +kernel))⟩
theorem fg_Formula_67 : af_ok "CaneRounds$Formula" 67 5 3 := ⟨_, _, _, rfl, by decide, cs_w5, Or.inl (tt_g1 234 (by decide +kernel) (by decide +kernel))⟩
theorem fg_Formula_70 : af_ok "CaneRounds$Formula" 70 5 4 := ⟨_, _, _, rfl, by decide, cs_w5, Or.inl (tt_g1 235 (by decide +kernel) (by decide +kernel))⟩
theorem fi_Formula_30 : ai_B "CaneRounds$Formula" 30 mm_Formula_kindOf 1 ∧ Cond.static mm_Formula_kindOf.1 ∈ tt_g := ⟨⟨(tt_g1 766 (by decide +kernel) (by decide +kernel)), (tt_g1 99 (by decide +kernel) (by decide +kernel)), ⟨by decide +kernel, by decide +kernel, by decide +kernel⟩, by decide, Or.inl (tt_g1 764 (by decide +kernel) (by decide +kernel))⟩, (tt_g1 765 (by decide +kernel) (by decide +kernel))⟩
theorem fi_Formula_34 : ai_B "CaneRounds$Formula" 34 mm_Formula_wordToken 3 ∧ Cond.static mm_Formula_wordToken.1 ∈ tt_g := ⟨⟨(tt_g1 770 (by decide +kernel) (by decide +kernel)), (tt_g1 99 (by decide +kernel) (by decide +kernel)), ⟨by decide +kernel, by decide +kernel, by decide +kernel⟩, by decide, Or.inl (tt_g1 768 (by decide +kernel) (by decide +kernel))⟩, (tt_g1 769 (by decide +kernel) (by decide +kernel))⟩
theorem fi_Formula_42 : ai_B "CaneRounds$Formula" 42 mm_Formula_numberToken 3 ∧ Cond.static mm_Formula_numberToken.1 ∈ tt_g := ⟨⟨(tt_g1 777 (by decide +kernel) (by decide +kernel)), (tt_g1 99 (by decide +kernel) (by decide +kernel)), ⟨by decide +kernel, by decide +kernel, by decide +kernel⟩, by decide, Or.inl (tt_g1 775 (by decide +kernel) (by decide +kernel))⟩, (tt_g1 776 (by decide +kernel) (by decide +kernel))⟩
theorem fi_Formula_45 : ai_B "CaneRounds$Formula" 45 mm_X_isWithin 3 ∧ Cond.static mm_X_isWithin.1 ∈ tt_g := ⟨⟨(tt_g1 331 (by decide +kernel) (by decide +kernel)), (tt_g1 93 (by decide +kernel) (by decide +kernel)), ⟨by decide +kernel, by decide +kernel, by decide +kernel⟩, by decide, Or.inr ⟨_, tt_ofN (w := Cond.methodLinkNest "CaneRounds$Formula" 45 ⟨"CaneRounds", "isWithin", "(III)Z"⟩ "CaneRounds") 767 (by decide +kernel) rfl⟩⟩, (tt_g1 330 (by decide +kernel) (by decide +kernel))⟩
theorem fi_Formula_90 : ai_B "CaneRounds$Formula" 90 mm_Formula_limit 1 ∧ Cond.static mm_Formula_limit.1 ∈ tt_g := ⟨⟨(tt_g1 730 (by decide +kernel) (by decide +kernel)), (tt_g1 99 (by decide +kernel) (by decide +kernel)), ⟨by decide +kernel, by decide +kernel, by decide +kernel⟩, by decide, Or.inl (tt_g1 728 (by decide +kernel) (by decide +kernel))⟩, (tt_g1 729 (by decide +kernel) (by decide +kernel))⟩
theorem fi_Formula_97 : ai_B "CaneRounds$Formula" 97 mm_X_quotient 2 ∧ Cond.static mm_X_quotient.1 ∈ tt_g := ⟨⟨(tt_g1 498 (by decide +kernel) (by decide +kernel)), (tt_g1 93 (by decide +kernel) (by decide +kernel)), ⟨by decide +kernel, by decide +kernel, by decide +kernel⟩, by decide, Or.inr ⟨_, tt_ofN (w := Cond.methodLinkNest "CaneRounds$Formula" 97 ⟨"CaneRounds", "quotient", "(II)I"⟩ "CaneRounds") 739 (by decide +kernel) rfl⟩⟩, (tt_g1 497 (by decide +kernel) (by decide +kernel))⟩
theorem fi_Formula_38 : ai_B "CaneRounds$Formula" 38 mm_Formula_put 2 ∧ Cond.instanceMethod mm_Formula_put.1 ∈ tt_g ∧ Cond.selects mm_Formula_put.1.cls mm_Formula_put.1 mm_Formula_put.1 ∈ tt_g := ⟨⟨(tt_g1 774 (by decide +kernel) (by decide +kernel)), (tt_g1 99 (by decide +kernel) (by decide +kernel)), ⟨by decide +kernel, by decide +kernel, by decide +kernel⟩, by decide, Or.inl (tt_g1 771 (by decide +kernel) (by decide +kernel))⟩, (tt_g1 773 (by decide +kernel) (by decide +kernel)), (tt_g1 49 (by decide +kernel) (by decide +kernel))⟩
theorem fi_Formula_76 : ai_B "CaneRounds$Formula" 76 mm_Formula_sum 1 ∧ Cond.instanceMethod mm_Formula_sum.1 ∈ tt_g ∧ Cond.selects mm_Formula_sum.1.cls mm_Formula_sum.1 mm_Formula_sum.1 ∈ tt_g := ⟨⟨(tt_g1 685 (by decide +kernel) (by decide +kernel)), (tt_g1 99 (by decide +kernel) (by decide +kernel)), ⟨by decide +kernel, by decide +kernel, by decide +kernel⟩, by decide, Or.inl (tt_g1 682 (by decide +kernel) (by decide +kernel))⟩, (tt_g1 684 (by decide +kernel) (by decide +kernel)), (tt_g1 35 (by decide +kernel) (by decide +kernel))⟩
theorem fi_Formula_79 : ai_B "CaneRounds$Formula" 79 mm_Formula_take 1 ∧ Cond.instanceMethod mm_Formula_take.1 ∈ tt_g ∧ Cond.selects mm_Formula_take.1.cls mm_Formula_take.1 mm_Formula_take.1 ∈ tt_g := ⟨⟨(tt_g1 717 (by decide +kernel) (by decide +kernel)), (tt_g1 99 (by decide +kernel) (by decide +kernel)), ⟨by decide +kernel, by decide +kernel, by decide +kernel⟩, by decide, Or.inl (tt_g1 714 (by decide +kernel) (by decide +kernel))⟩, (tt_g1 716 (by decide +kernel) (by decide +kernel)), (tt_g1 43 (by decide +kernel) (by decide +kernel))⟩
theorem fi_Formula_83 : ai_B "CaneRounds$Formula" 83 mm_Formula_product 1 ∧ Cond.instanceMethod mm_Formula_product.1 ∈ tt_g ∧ Cond.selects mm_Formula_product.1.cls mm_Formula_product.1 mm_Formula_product.1 ∈ tt_g := ⟨⟨(tt_g1 689 (by decide +kernel) (by decide +kernel)), (tt_g1 99 (by decide +kernel) (by decide +kernel)), ⟨by decide +kernel, by decide +kernel, by decide +kernel⟩, by decide, Or.inl (tt_g1 686 (by decide +kernel) (by decide +kernel))⟩, (tt_g1 688 (by decide +kernel) (by decide +kernel)), (tt_g1 36 (by decide +kernel) (by decide +kernel))⟩
theorem fi_Formula_86 : ai_B "CaneRounds$Formula" 86 mm_Formula_token 0 ∧ Cond.instanceMethod mm_Formula_token.1 ∈ tt_g ∧ Cond.selects mm_Formula_token.1.cls mm_Formula_token.1 mm_Formula_token.1 ∈ tt_g := ⟨⟨(tt_g1 697 (by decide +kernel) (by decide +kernel)), (tt_g1 99 (by decide +kernel) (by decide +kernel)), ⟨by decide +kernel, by decide +kernel, by decide +kernel⟩, by decide, Or.inl (tt_g1 694 (by decide +kernel) (by decide +kernel))⟩, (tt_g1 696 (by decide +kernel) (by decide +kernel)), (tt_g1 38 (by decide +kernel) (by decide +kernel))⟩
theorem fi_Formula_94 : ai_B "CaneRounds$Formula" 94 mm_Formula_one 1 ∧ Cond.instanceMethod mm_Formula_one.1 ∈ tt_g ∧ Cond.selects mm_Formula_one.1.cls mm_Formula_one.1 mm_Formula_one.1 ∈ tt_g := ⟨⟨(tt_g1 693 (by decide +kernel) (by decide +kernel)), (tt_g1 99 (by decide +kernel) (by decide +kernel)), ⟨by decide +kernel, by decide +kernel, by decide +kernel⟩, by decide, Or.inl (tt_g1 690 (by decide +kernel) (by decide +kernel))⟩, (tt_g1 692 (by decide +kernel) (by decide +kernel)), (tt_g1 37 (by decide +kernel) (by decide +kernel))⟩
theorem fi_Formula_100 : ai_B "CaneRounds$Formula" 100 mm_Formula_number 1 ∧ Cond.instanceMethod mm_Formula_number.1 ∈ tt_g ∧ Cond.selects mm_Formula_number.1.cls mm_Formula_number.1 mm_Formula_number.1 ∈ tt_g := ⟨⟨(tt_g1 701 (by decide +kernel) (by decide +kernel)), (tt_g1 99 (by decide +kernel) (by decide +kernel)), ⟨by decide +kernel, by decide +kernel, by decide +kernel⟩, by decide, Or.inl (tt_g1 698 (by decide +kernel) (by decide +kernel))⟩, (tt_g1 700 (by decide +kernel) (by decide +kernel)), (tt_g1 39 (by decide +kernel) (by decide +kernel))⟩
theorem fi_Formula_103 : ai_B "CaneRounds$Formula" 103 mm_Formula_opens 2 ∧ Cond.instanceMethod mm_Formula_opens.1 ∈ tt_g ∧ Cond.selects mm_Formula_opens.1.cls mm_Formula_opens.1 mm_Formula_opens.1 ∈ tt_g := ⟨⟨(tt_g1 709 (by decide +kernel) (by decide +kernel)), (tt_g1 99 (by decide +kernel) (by decide +kernel)), ⟨by decide +kernel, by decide +kernel, by decide +kernel⟩, by decide, Or.inl (tt_g1 706 (by decide +kernel) (by decide +kernel))⟩, (tt_g1 708 (by decide +kernel) (by decide +kernel)), (tt_g1 41 (by decide +kernel) (by decide +kernel))⟩
theorem fi_Formula_107 : ai_B "CaneRounds$Formula" 107 mm_Formula_bracket 1 ∧ Cond.instanceMethod mm_Formula_bracket.1 ∈ tt_g ∧ Cond.selects mm_Formula_bracket.1.cls mm_Formula_bracket.1 mm_Formula_bracket.1 ∈ tt_g := ⟨⟨(tt_g1 713 (by decide +kernel) (by decide +kernel)), (tt_g1 99 (by decide +kernel) (by decide +kernel)), ⟨by decide +kernel, by decide +kernel, by decide +kernel⟩, by decide, Or.inl (tt_g1 710 (by decide +kernel) (by decide +kernel))⟩, (tt_g1 712 (by decide +kernel) (by decide +kernel)), (tt_g1 42 (by decide +kernel) (by decide +kernel))⟩
theorem fi_Formula_110 : ai_B "CaneRounds$Formula" 110 mm_Formula_lesserOrGreater 2 ∧ Cond.instanceMethod mm_Formula_lesserOrGreater.1 ∈ tt_g ∧ Cond.selects mm_Formula_lesserOrGreater.1.cls mm_Formula_lesserOrGreater.1 mm_Formula_lesserOrGreater.1 ∈ tt_g := ⟨⟨(tt_g1 721 (by decide +kernel) (by decide +kernel)), (tt_g1 99 (by decide +kernel) (by decide +kernel)), ⟨by decide +kernel, by decide +kernel, by decide +kernel⟩, by decide, Or.inl (tt_g1 718 (by decide +kernel) (by decide +kernel))⟩, (tt_g1 720 (by decide +kernel) (by decide +kernel)), (tt_g1 44 (by decide +kernel) (by decide +kernel))⟩
theorem fi_Formula_114 : ai_B "CaneRounds$Formula" 114 mm_Formula_letter 1 ∧ Cond.instanceMethod mm_Formula_letter.1 ∈ tt_g ∧ Cond.selects mm_Formula_letter.1.cls mm_Formula_letter.1 mm_Formula_letter.1 ∈ tt_g := ⟨⟨(tt_g1 727 (by decide +kernel) (by decide +kernel)), (tt_g1 99 (by decide +kernel) (by decide +kernel)), ⟨by decide +kernel, by decide +kernel, by decide +kernel⟩, by decide, Or.inl (tt_g1 724 (by decide +kernel) (by decide +kernel))⟩, (tt_g1 726 (by decide +kernel) (by decide +kernel)), (tt_g1 45 (by decide +kernel) (by decide +kernel))⟩
theorem fi_Formula_117 : ai_B "CaneRounds$Formula" 117 mm_Formula_stop 1 ∧ Cond.instanceMethod mm_Formula_stop.1 ∈ tt_g ∧ Cond.selects mm_Formula_stop.1.cls mm_Formula_stop.1 mm_Formula_stop.1 ∈ tt_g := ⟨⟨(tt_g1 705 (by decide +kernel) (by decide +kernel)), (tt_g1 99 (by decide +kernel) (by decide +kernel)), ⟨by decide +kernel, by decide +kernel, by decide +kernel⟩, by decide, Or.inl (tt_g1 702 (by decide +kernel) (by decide +kernel))⟩, (tt_g1 704 (by decide +kernel) (by decide +kernel)), (tt_g1 40 (by decide +kernel) (by decide +kernel))⟩
theorem fc_Formula_120 : Cond.constantLong "CaneRounds$Formula" 120 (-1000000000) ∈ tt_g := (tt_g1 731 (by decide +kernel) (by decide +kernel))
theorem fc_Formula_122 : Cond.constantLong "CaneRounds$Formula" 122 (1000000000) ∈ tt_g := (tt_g1 732 (by decide +kernel) (by decide +kernel))
theorem fp_Formula_13 : af_put "CaneRounds$Formula" "<init>" 13 5 0 (.array .int) := ⟨_, _, _, cs_y5, rfl, by decide, cs_w5, cs_p5, cs_n5, rfl, Or.inr ⟨rfl, rfl, rfl, tt_g1 231 (by decide +kernel) (by decide +kernel)⟩⟩
theorem fp_Formula_17 : af_put "CaneRounds$Formula" "<init>" 17 5 1 (.array .int) := ⟨_, _, _, cs_y5, rfl, by decide, cs_w5, cs_p5, cs_n5, rfl, Or.inr ⟨rfl, rfl, rfl, tt_g1 232 (by decide +kernel) (by decide +kernel)⟩⟩
theorem fp_Formula_20 {mn : String} : af_put "CaneRounds$Formula" mn 20 5 2 (.int) := ⟨_, _, _, cs_y5, rfl, by decide, cs_w5, cs_p5, cs_n5, rfl, Or.inl ⟨rfl, Or.inl (tt_g1 233 (by decide +kernel) (by decide +kernel))⟩⟩
theorem fp_Formula_52 {mn : String} : af_put "CaneRounds$Formula" mn 52 5 6 (.int) := ⟨_, _, _, cs_y5, rfl, by decide, cs_w5, cs_p5, cs_n5, rfl, Or.inl ⟨rfl, Or.inl (tt_g1 239 (by decide +kernel) (by decide +kernel))⟩⟩
theorem fp_Formula_55 {mn : String} : af_put "CaneRounds$Formula" mn 55 5 7 (.int) := ⟨_, _, _, cs_y5, rfl, by decide, cs_w5, cs_p5, cs_n5, rfl, Or.inl ⟨rfl, Or.inl (tt_g1 240 (by decide +kernel) (by decide +kernel))⟩⟩
theorem fp_Formula_58 {mn : String} : af_put "CaneRounds$Formula" mn 58 5 8 (.int) := ⟨_, _, _, cs_y5, rfl, by decide, cs_w5, cs_p5, cs_n5, rfl, Or.inl ⟨rfl, Or.inl (tt_g1 241 (by decide +kernel) (by decide +kernel))⟩⟩
theorem fp_Formula_61 {mn : String} : af_put "CaneRounds$Formula" mn 61 5 9 (.int) := ⟨_, _, _, cs_y5, rfl, by decide, cs_w5, cs_p5, cs_n5, rfl, Or.inl ⟨rfl, Or.inl (tt_g1 242 (by decide +kernel) (by decide +kernel))⟩⟩
theorem fp_Formula_64 {mn : String} : af_put "CaneRounds$Formula" mn 64 5 10 (.int) := ⟨_, _, _, cs_y5, rfl, by decide, cs_w5, cs_p5, cs_n5, rfl, Or.inl ⟨rfl, Or.inl (tt_g1 243 (by decide +kernel) (by decide +kernel))⟩⟩
theorem fp_Formula_67 {mn : String} : af_put "CaneRounds$Formula" mn 67 5 3 (.int) := ⟨_, _, _, cs_y5, rfl, by decide, cs_w5, cs_p5, cs_n5, rfl, Or.inl ⟨rfl, Or.inl (tt_g1 234 (by decide +kernel) (by decide +kernel))⟩⟩
theorem fp_Formula_70 {mn : String} : af_put "CaneRounds$Formula" mn 70 5 4 (.int) := ⟨_, _, _, cs_y5, rfl, by decide, cs_w5, cs_p5, cs_n5, rfl, Or.inl ⟨rfl, Or.inl (tt_g1 235 (by decide +kernel) (by decide +kernel))⟩⟩
theorem fp_Formula_73 {mn : String} : af_put "CaneRounds$Formula" mn 73 5 5 (.int) := ⟨_, _, _, cs_y5, rfl, by decide, cs_w5, cs_p5, cs_n5, rfl, Or.inl ⟨rfl, Or.inl (tt_g1 237 (by decide +kernel) (by decide +kernel))⟩⟩
theorem fg_Load_9 : af_ok "CaneRounds$Load" 9 6 5 := ⟨_, _, _, rfl, by decide, cs_w6, Or.inl (tt_g1 555 (by decide +kernel) (by decide +kernel))⟩
theorem fg_Load_15 : af_ok "CaneRounds$Load" 15 6 9 := ⟨_, _, _, rfl, by decide, cs_w6, Or.inl (tt_g1 563 (by decide +kernel) (by decide +kernel))⟩
theorem fg_Load_19 : af_ok "CaneRounds$Load" 19 6 10 := ⟨_, _, _, rfl, by decide, cs_w6, Or.inl (tt_g1 565 (by decide +kernel) (by decide +kernel))⟩
theorem fg_Load_25 : af_ok "CaneRounds$Load" 25 6 1 := ⟨_, _, _, rfl, by decide, cs_w6, Or.inl (tt_g1 547 (by decide +kernel) (by decide +kernel))⟩
theorem fg_Load_54 : af_ok "CaneRounds$Load" 54 4 2 := ⟨_, _, _, rfl, by decide, cs_w4, Or.inr ⟨_, tt_ofN (w := Cond.fieldLinkNest "CaneRounds$Load" 54 "CaneRounds$Field" "tons" "I" "CaneRounds") 361 (by decide +kernel) rfl⟩⟩
theorem fg_Load_57 : af_ok "CaneRounds$Load" 57 6 7 := ⟨_, _, _, rfl, by decide, cs_w6, Or.inl (tt_g1 559 (by decide +kernel) (by decide +kernel))⟩
theorem fg_Load_60 : af_ok "CaneRounds$Load" 60 6 8 := ⟨_, _, _, rfl, by decide, cs_w6, Or.inl (tt_g1 561 (by decide +kernel) (by decide +kernel))⟩
theorem fi_Load_32 : ai_B "CaneRounds$Load" 32 mm_Field_sweetAt 1 ∧ Cond.instanceMethod mm_Field_sweetAt.1 ∈ tt_g ∧ Cond.selects mm_Field_sweetAt.1.cls mm_Field_sweetAt.1 mm_Field_sweetAt.1 ∈ tt_g := ⟨⟨(tt_g1 492 (by decide +kernel) (by decide +kernel)), (tt_g1 101 (by decide +kernel) (by decide +kernel)), ⟨by decide +kernel, by decide +kernel, by decide +kernel⟩, by decide, Or.inr ⟨_, tt_ofN (w := Cond.methodLinkNest "CaneRounds$Load" 32 ⟨"CaneRounds$Field", "sweetAt", "(I)I"⟩ "CaneRounds") 540 (by decide +kernel) rfl⟩⟩, (tt_g1 491 (by decide +kernel) (by decide +kernel)), (tt_g1 10 (by decide +kernel) (by decide +kernel))⟩
theorem fi_Load_41 : ai_B "CaneRounds$Load" 41 mm_Field_hoursToDeath 0 ∧ Cond.instanceMethod mm_Field_hoursToDeath.1 ∈ tt_g ∧ Cond.selects mm_Field_hoursToDeath.1.cls mm_Field_hoursToDeath.1 mm_Field_hoursToDeath.1 ∈ tt_g := ⟨⟨(tt_g1 544 (by decide +kernel) (by decide +kernel)), (tt_g1 101 (by decide +kernel) (by decide +kernel)), ⟨by decide +kernel, by decide +kernel, by decide +kernel⟩, by decide, Or.inr ⟨_, tt_ofN (w := Cond.methodLinkNest "CaneRounds$Load" 41 ⟨"CaneRounds$Field", "hoursToDeath", "()I"⟩ "CaneRounds") 541 (by decide +kernel) rfl⟩⟩, (tt_g1 543 (by decide +kernel) (by decide +kernel)), (tt_g1 17 (by decide +kernel) (by decide +kernel))⟩
theorem fi_Load_48 : ai_B "CaneRounds$Load" 48 mm_Field_hoursToMill 0 ∧ Cond.instanceMethod mm_Field_hoursToMill.1 ∈ tt_g ∧ Cond.selects mm_Field_hoursToMill.1.cls mm_Field_hoursToMill.1 mm_Field_hoursToMill.1 ∈ tt_g := ⟨⟨(tt_g1 612 (by decide +kernel) (by decide +kernel)), (tt_g1 101 (by decide +kernel) (by decide +kernel)), ⟨by decide +kernel, by decide +kernel, by decide +kernel⟩, by decide, Or.inr ⟨_, tt_ofN (w := Cond.methodLinkNest "CaneRounds$Load" 48 ⟨"CaneRounds$Field", "hoursToMill", "()I"⟩ "CaneRounds") 609 (by decide +kernel) rfl⟩⟩, (tt_g1 611 (by decide +kernel) (by decide +kernel)), (tt_g1 22 (by decide +kernel) (by decide +kernel))⟩
theorem fi_Load_63 : ai_B "CaneRounds$Load" 63 mm_Load_isOver 0 ∧ Cond.instanceMethod mm_Load_isOver.1 ∈ tt_g ∧ Cond.selects mm_Load_isOver.1.cls mm_Load_isOver.1 mm_Load_isOver.1 ∈ tt_g := ⟨⟨(tt_g1 604 (by decide +kernel) (by decide +kernel)), (tt_g1 104 (by decide +kernel) (by decide +kernel)), ⟨by decide +kernel, by decide +kernel, by decide +kernel⟩, by decide, Or.inl (tt_g1 676 (by decide +kernel) (by decide +kernel))⟩, (tt_g1 603 (by decide +kernel) (by decide +kernel)), (tt_g1 20 (by decide +kernel) (by decide +kernel))⟩
theorem fc_Load_18 : Cond.constant "CaneRounds$Load" 18 (-2000000000) ∈ tt_g := (tt_g1 539 (by decide +kernel) (by decide +kernel))
theorem fp_Load_9 {mn : String} : af_put "CaneRounds$Load" mn 9 6 5 (.int) := ⟨_, _, _, cs_y6, rfl, by decide, cs_w6, cs_p6, cs_n6, rfl, Or.inl ⟨rfl, Or.inl (tt_g1 555 (by decide +kernel) (by decide +kernel))⟩⟩
theorem fp_Load_15 {mn : String} : af_put "CaneRounds$Load" mn 15 6 9 (.int) := ⟨_, _, _, cs_y6, rfl, by decide, cs_w6, cs_p6, cs_n6, rfl, Or.inl ⟨rfl, Or.inl (tt_g1 563 (by decide +kernel) (by decide +kernel))⟩⟩
theorem fp_Load_19 {mn : String} : af_put "CaneRounds$Load" mn 19 6 10 (.int) := ⟨_, _, _, cs_y6, rfl, by decide, cs_w6, cs_p6, cs_n6, rfl, Or.inl ⟨rfl, Or.inl (tt_g1 565 (by decide +kernel) (by decide +kernel))⟩⟩
theorem fp_Load_22 : af_put "CaneRounds$Load" "<init>" 22 6 0 (.int) := ⟨_, _, _, cs_y6, rfl, by decide, cs_w6, cs_p6, cs_n6, rfl, Or.inr ⟨rfl, rfl, rfl, tt_g1 545 (by decide +kernel) (by decide +kernel)⟩⟩
theorem fp_Load_25 : af_put "CaneRounds$Load" "<init>" 25 6 1 (.object "CaneRounds$Field") := ⟨_, _, _, cs_y6, rfl, by decide, cs_w6, cs_p6, cs_n6, rfl, Or.inr ⟨rfl, rfl, rfl, tt_g1 547 (by decide +kernel) (by decide +kernel)⟩⟩
theorem fp_Load_29 : af_put "CaneRounds$Load" "<init>" 29 6 2 (.int) := ⟨_, _, _, cs_y6, rfl, by decide, cs_w6, cs_p6, cs_n6, rfl, Or.inr ⟨rfl, rfl, rfl, tt_g1 549 (by decide +kernel) (by decide +kernel)⟩⟩
theorem fp_Load_38 : af_put "CaneRounds$Load" "<init>" 38 6 3 (.int) := ⟨_, _, _, cs_y6, rfl, by decide, cs_w6, cs_p6, cs_n6, rfl, Or.inr ⟨rfl, rfl, rfl, tt_g1 551 (by decide +kernel) (by decide +kernel)⟩⟩
theorem fp_Load_45 : af_put "CaneRounds$Load" "<init>" 45 6 4 (.int) := ⟨_, _, _, cs_y6, rfl, by decide, cs_w6, cs_p6, cs_n6, rfl, Or.inr ⟨rfl, rfl, rfl, tt_g1 553 (by decide +kernel) (by decide +kernel)⟩⟩
theorem fp_Load_51 {mn : String} : af_put "CaneRounds$Load" mn 51 6 6 (.int) := ⟨_, _, _, cs_y6, rfl, by decide, cs_w6, cs_p6, cs_n6, rfl, Or.inl ⟨rfl, Or.inl (tt_g1 557 (by decide +kernel) (by decide +kernel))⟩⟩
theorem fp_Span_7 : af_put "CaneRounds$Span" "<init>" 7 7 0 (.boolean) := ⟨_, _, _, cs_y7, rfl, by decide, cs_w7, cs_p7, cs_n7, rfl, Or.inr ⟨rfl, rfl, rfl, tt_g1 426 (by decide +kernel) (by decide +kernel)⟩⟩
theorem fp_Span_13 : af_put "CaneRounds$Span" "<init>" 13 7 1 (.int) := ⟨_, _, _, cs_y7, rfl, by decide, cs_w7, cs_p7, cs_n7, rfl, Or.inr ⟨rfl, rfl, rfl, tt_g1 428 (by decide +kernel) (by decide +kernel)⟩⟩
theorem fp_Span_17 : af_put "CaneRounds$Span" "<init>" 17 7 2 (.int) := ⟨_, _, _, cs_y7, rfl, by decide, cs_w7, cs_p7, cs_n7, rfl, Or.inr ⟨rfl, rfl, rfl, tt_g1 430 (by decide +kernel) (by decide +kernel)⟩⟩
theorem fp_Span_20 : af_put "CaneRounds$Span" "<init>" 20 7 3 (.object "CaneRounds$Span") := ⟨_, _, _, cs_y7, rfl, by decide, cs_w7, cs_p7, cs_n7, rfl, Or.inr ⟨rfl, rfl, rfl, tt_g1 432 (by decide +kernel) (by decide +kernel)⟩⟩
theorem fg_Tape_9 : af_ok "CaneRounds$Tape" 9 8 0 := ⟨_, _, _, rfl, by decide, cs_w8, Or.inl (tt_g1 215 (by decide +kernel) (by decide +kernel))⟩
theorem fg_Tape_13 : af_ok "CaneRounds$Tape" 13 8 1 := ⟨_, _, _, rfl, by decide, cs_w8, Or.inl (tt_g1 217 (by decide +kernel) (by decide +kernel))⟩
theorem fp_Tape_9 : af_put "CaneRounds$Tape" "<init>" 9 8 0 (.array .byte) := ⟨_, _, _, cs_y8, rfl, by decide, cs_w8, cs_p8, cs_n8, rfl, Or.inr ⟨rfl, rfl, rfl, tt_g1 215 (by decide +kernel) (by decide +kernel)⟩⟩
theorem fp_Tape_13 {mn : String} : af_put "CaneRounds$Tape" mn 13 8 1 (.int) := ⟨_, _, _, cs_y8, rfl, by decide, cs_w8, cs_p8, cs_n8, rfl, Or.inl ⟨rfl, Or.inl (tt_g1 217 (by decide +kernel) (by decide +kernel))⟩⟩
theorem fg_Weather_7 : af_ok "CaneRounds$Weather" 7 9 1 := ⟨_, _, _, rfl, by decide, cs_w9, Or.inl (tt_g1 146 (by decide +kernel) (by decide +kernel))⟩
theorem fg_Weather_15 : af_ok "CaneRounds$Weather" 15 9 0 := ⟨_, _, _, rfl, by decide, cs_w9, Or.inl (tt_g1 145 (by decide +kernel) (by decide +kernel))⟩
theorem fg_Weather_22 : af_ok "CaneRounds$Weather" 22 7 0 := ⟨_, _, _, rfl, by decide, cs_w7, Or.inr ⟨_, tt_ofN (w := Cond.fieldLinkNest "CaneRounds$Weather" 22 "CaneRounds$Span" "stops" "Z" "CaneRounds") 427 (by decide +kernel) rfl⟩⟩
theorem fg_Weather_26 : af_ok "CaneRounds$Weather" 26 7 1 := ⟨_, _, _, rfl, by decide, cs_w7, Or.inr ⟨_, tt_ofN (w := Cond.fieldLinkNest "CaneRounds$Weather" 26 "CaneRounds$Span" "from" "I" "CaneRounds") 429 (by decide +kernel) rfl⟩⟩
theorem fg_Weather_29 : af_ok "CaneRounds$Weather" 29 7 2 := ⟨_, _, _, rfl, by decide, cs_w7, Or.inr ⟨_, tt_ofN (w := Cond.fieldLinkNest "CaneRounds$Weather" 29 "CaneRounds$Span" "to" "I" "CaneRounds") 431 (by decide +kernel) rfl⟩⟩
theorem fg_Weather_32 : af_ok "CaneRounds$Weather" 32 7 3 := ⟨_, _, _, rfl, by decide, cs_w7, Or.inr ⟨_, tt_ofN (w := Cond.fieldLinkNest "CaneRounds$Weather" 32 "CaneRounds$Span" "earlier" "LCaneRounds$Span;" "CaneRounds") 433 (by decide +kernel) rfl⟩⟩
theorem fi_Weather_19 : ai_B "CaneRounds$Weather" 19 mm_Span_init 4 ∧ Cond.instanceMethod mm_Span_init.1 ∈ tt_g ∧ mm_Span_init.1.name = "<init>" ∧ mm_Span_init.2.2.2 = none := ⟨⟨(tt_g1 424 (by decide +kernel) (by decide +kernel)), (tt_g1 102 (by decide +kernel) (by decide +kernel)), ⟨by decide +kernel, by decide +kernel, by decide +kernel⟩, by decide, Or.inr ⟨_, tt_ofN (w := Cond.methodLinkNest "CaneRounds$Weather" 19 ⟨"CaneRounds$Span", "<init>", "(ZIILCaneRounds$Span;)V"⟩ "CaneRounds") 422 (by decide +kernel) rfl⟩⟩, (tt_g1 423 (by decide +kernel) (by decide +kernel)), rfl, rfl⟩
theorem fn_Weather_13 : an_ok "CaneRounds$Weather" 13 7 4 [av_i 0, av_i 0, av_i 0, av_n] := ⟨_, _, cs_y7, rfl, cs_w7, cs_p7, (tt_g1 420 (by decide +kernel) (by decide +kernel)), (tt_g1 421 (by decide +kernel) (by decide +kernel)), (tt_g1 102 (by decide +kernel) (by decide +kernel)), fun w j hj => by
  rcases (show j = 0 ∨ j = 1 ∨ j = 2 ∨ j = 3 by omega) with rfl | rfl | rfl | rfl <;> rfl⟩
theorem fp_Weather_7 {mn : String} : af_put "CaneRounds$Weather" mn 7 9 1 (.int) := ⟨_, _, _, cs_y9, rfl, by decide, cs_w9, cs_p9, cs_n9, rfl, Or.inl ⟨rfl, Or.inl (tt_g1 146 (by decide +kernel) (by decide +kernel))⟩⟩
theorem fp_Weather_15 {mn : String} : af_put "CaneRounds$Weather" mn 15 9 0 (.object "CaneRounds$Span") := ⟨_, _, _, cs_y9, rfl, by decide, cs_w9, cs_p9, cs_n9, rfl, Or.inl ⟨rfl, Or.inl (tt_g1 145 (by decide +kernel) (by decide +kernel))⟩⟩
theorem fi_L_9 : ai_B "CaneRoundsLaw" 9 mm_X_init 0 ∧ Cond.instanceMethod mm_X_init.1 ∈ tt_g ∧ mm_X_init.1.name = "<init>" ∧ mm_X_init.2.2.2 = none := ⟨⟨(tt_g1 110 (by decide +kernel) (by decide +kernel)), (tt_g1 93 (by decide +kernel) (by decide +kernel)), ⟨by decide +kernel, by decide +kernel, by decide +kernel⟩, by decide, Or.inl (tt_g1 108 (by decide +kernel) (by decide +kernel))⟩, (tt_g1 109 (by decide +kernel) (by decide +kernel)), rfl, rfl⟩
theorem fi_L_12 : ai_B "CaneRoundsLaw" 12 mm_M_init 0 ∧ Cond.instanceMethod mm_M_init.1 ∈ tt_g ∧ mm_M_init.1.name = "<init>" ∧ mm_M_init.2.2.2 = none := ⟨⟨(tt_g1 899 (by decide +kernel) (by decide +kernel)), (tt_g1 100 (by decide +kernel) (by decide +kernel)), ⟨by decide +kernel, by decide +kernel, by decide +kernel⟩, by decide, Or.inl (tt_g1 897 (by decide +kernel) (by decide +kernel))⟩, (tt_g1 898 (by decide +kernel) (by decide +kernel)), rfl, rfl⟩
theorem fi_L_13 : ai_B "CaneRoundsLaw" 13 mm_X_rules 4 ∧ Cond.instanceMethod mm_X_rules.1 ∈ tt_g ∧ Cond.selects mm_X_rules.1.cls mm_X_rules.1 mm_X_rules.1 ∈ tt_g := ⟨⟨(tt_g1 328 (by decide +kernel) (by decide +kernel)), (tt_g1 93 (by decide +kernel) (by decide +kernel)), ⟨by decide +kernel, by decide +kernel, by decide +kernel⟩, by decide, Or.inl (tt_g1 325 (by decide +kernel) (by decide +kernel))⟩, (tt_g1 326 (by decide +kernel) (by decide +kernel)), (tt_g1 327 (by decide +kernel) (by decide +kernel))⟩
theorem fi_L_17 : ai_B "CaneRoundsLaw" 17 mm_M_rules 4 ∧ Cond.instanceMethod mm_M_rules.1 ∈ tt_g ∧ Cond.selects mm_M_rules.1.cls mm_M_rules.1 mm_M_rules.1 ∈ tt_g := ⟨⟨(tt_g1 1098 (by decide +kernel) (by decide +kernel)), (tt_g1 100 (by decide +kernel) (by decide +kernel)), ⟨by decide +kernel, by decide +kernel, by decide +kernel⟩, by decide, Or.inl (tt_g1 1095 (by decide +kernel) (by decide +kernel))⟩, (tt_g1 1096 (by decide +kernel) (by decide +kernel)), (tt_g1 1097 (by decide +kernel) (by decide +kernel))⟩
theorem fi_L_18 : ai_B "CaneRoundsLaw" 18 mm_X_farm 0 ∧ Cond.instanceMethod mm_X_farm.1 ∈ tt_g ∧ Cond.selects mm_X_farm.1.cls mm_X_farm.1 mm_X_farm.1 ∈ tt_g := ⟨⟨(tt_g1 335 (by decide +kernel) (by decide +kernel)), (tt_g1 93 (by decide +kernel) (by decide +kernel)), ⟨by decide +kernel, by decide +kernel, by decide +kernel⟩, by decide, Or.inl (tt_g1 332 (by decide +kernel) (by decide +kernel))⟩, (tt_g1 333 (by decide +kernel) (by decide +kernel)), (tt_g1 334 (by decide +kernel) (by decide +kernel))⟩
theorem fi_L_22 : ai_B "CaneRoundsLaw" 22 mm_M_farm 0 ∧ Cond.instanceMethod mm_M_farm.1 ∈ tt_g ∧ Cond.selects mm_M_farm.1.cls mm_M_farm.1 mm_M_farm.1 ∈ tt_g := ⟨⟨(tt_g1 1109 (by decide +kernel) (by decide +kernel)), (tt_g1 100 (by decide +kernel) (by decide +kernel)), ⟨by decide +kernel, by decide +kernel, by decide +kernel⟩, by decide, Or.inl (tt_g1 1106 (by decide +kernel) (by decide +kernel))⟩, (tt_g1 1107 (by decide +kernel) (by decide +kernel)), (tt_g1 1108 (by decide +kernel) (by decide +kernel))⟩
theorem fi_L_23 : ai_B "CaneRoundsLaw" 23 mm_X_field 6 ∧ Cond.instanceMethod mm_X_field.1 ∈ tt_g ∧ Cond.selects mm_X_field.1.cls mm_X_field.1 mm_X_field.1 ∈ tt_g := ⟨⟨(tt_g1 343 (by decide +kernel) (by decide +kernel)), (tt_g1 93 (by decide +kernel) (by decide +kernel)), ⟨by decide +kernel, by decide +kernel, by decide +kernel⟩, by decide, Or.inl (tt_g1 340 (by decide +kernel) (by decide +kernel))⟩, (tt_g1 341 (by decide +kernel) (by decide +kernel)), (tt_g1 342 (by decide +kernel) (by decide +kernel))⟩
theorem fi_L_27 : ai_B "CaneRoundsLaw" 27 mm_M_field 6 ∧ Cond.instanceMethod mm_M_field.1 ∈ tt_g ∧ Cond.selects mm_M_field.1.cls mm_M_field.1 mm_M_field.1 ∈ tt_g := ⟨⟨(tt_g1 1113 (by decide +kernel) (by decide +kernel)), (tt_g1 100 (by decide +kernel) (by decide +kernel)), ⟨by decide +kernel, by decide +kernel, by decide +kernel⟩, by decide, Or.inl (tt_g1 1110 (by decide +kernel) (by decide +kernel))⟩, (tt_g1 1111 (by decide +kernel) (by decide +kernel)), (tt_g1 1112 (by decide +kernel) (by decide +kernel))⟩
theorem fi_L_28 : ai_B "CaneRoundsLaw" 28 mm_X_weather 3 ∧ Cond.instanceMethod mm_X_weather.1 ∈ tt_g ∧ Cond.selects mm_X_weather.1.cls mm_X_weather.1 mm_X_weather.1 ∈ tt_g := ⟨⟨(tt_g1 415 (by decide +kernel) (by decide +kernel)), (tt_g1 93 (by decide +kernel) (by decide +kernel)), ⟨by decide +kernel, by decide +kernel, by decide +kernel⟩, by decide, Or.inl (tt_g1 412 (by decide +kernel) (by decide +kernel))⟩, (tt_g1 413 (by decide +kernel) (by decide +kernel)), (tt_g1 414 (by decide +kernel) (by decide +kernel))⟩
theorem fi_L_32 : ai_B "CaneRoundsLaw" 32 mm_M_weather 3 ∧ Cond.instanceMethod mm_M_weather.1 ∈ tt_g ∧ Cond.selects mm_M_weather.1.cls mm_M_weather.1 mm_M_weather.1 ∈ tt_g := ⟨⟨(tt_g1 1117 (by decide +kernel) (by decide +kernel)), (tt_g1 100 (by decide +kernel) (by decide +kernel)), ⟨by decide +kernel, by decide +kernel, by decide +kernel⟩, by decide, Or.inl (tt_g1 1114 (by decide +kernel) (by decide +kernel))⟩, (tt_g1 1115 (by decide +kernel) (by decide +kernel)), (tt_g1 1116 (by decide +kernel) (by decide +kernel))⟩
theorem fi_L_33 : ai_B "CaneRoundsLaw" 33 mm_X_round 1 ∧ Cond.instanceMethod mm_X_round.1 ∈ tt_g ∧ Cond.selects mm_X_round.1.cls mm_X_round.1 mm_X_round.1 ∈ tt_g := ⟨⟨(tt_g1 446 (by decide +kernel) (by decide +kernel)), (tt_g1 93 (by decide +kernel) (by decide +kernel)), ⟨by decide +kernel, by decide +kernel, by decide +kernel⟩, by decide, Or.inl (tt_g1 443 (by decide +kernel) (by decide +kernel))⟩, (tt_g1 444 (by decide +kernel) (by decide +kernel)), (tt_g1 445 (by decide +kernel) (by decide +kernel))⟩
theorem fi_L_37 : ai_B "CaneRoundsLaw" 37 mm_M_round 1 ∧ Cond.instanceMethod mm_M_round.1 ∈ tt_g ∧ Cond.selects mm_M_round.1.cls mm_M_round.1 mm_M_round.1 ∈ tt_g := ⟨⟨(tt_g1 1121 (by decide +kernel) (by decide +kernel)), (tt_g1 100 (by decide +kernel) (by decide +kernel)), ⟨by decide +kernel, by decide +kernel, by decide +kernel⟩, by decide, Or.inl (tt_g1 1118 (by decide +kernel) (by decide +kernel))⟩, (tt_g1 1119 (by decide +kernel) (by decide +kernel)), (tt_g1 1120 (by decide +kernel) (by decide +kernel))⟩
theorem fi_L_38 : ai_B "CaneRoundsLaw" 38 mm_X_pass 0 ∧ Cond.instanceMethod mm_X_pass.1 ∈ tt_g ∧ Cond.selects mm_X_pass.1.cls mm_X_pass.1 mm_X_pass.1 ∈ tt_g := ⟨⟨(tt_g1 464 (by decide +kernel) (by decide +kernel)), (tt_g1 93 (by decide +kernel) (by decide +kernel)), ⟨by decide +kernel, by decide +kernel, by decide +kernel⟩, by decide, Or.inl (tt_g1 461 (by decide +kernel) (by decide +kernel))⟩, (tt_g1 462 (by decide +kernel) (by decide +kernel)), (tt_g1 463 (by decide +kernel) (by decide +kernel))⟩
theorem fi_L_41 : ai_B "CaneRoundsLaw" 41 mm_M_pass 0 ∧ Cond.instanceMethod mm_M_pass.1 ∈ tt_g ∧ Cond.selects mm_M_pass.1.cls mm_M_pass.1 mm_M_pass.1 ∈ tt_g := ⟨⟨(tt_g1 1130 (by decide +kernel) (by decide +kernel)), (tt_g1 100 (by decide +kernel) (by decide +kernel)), ⟨by decide +kernel, by decide +kernel, by decide +kernel⟩, by decide, Or.inl (tt_g1 1127 (by decide +kernel) (by decide +kernel))⟩, (tt_g1 1128 (by decide +kernel) (by decide +kernel)), (tt_g1 1129 (by decide +kernel) (by decide +kernel))⟩
theorem fi_L_42 : ai_B "CaneRoundsLaw" 42 mm_X_cut 2 ∧ Cond.instanceMethod mm_X_cut.1 ∈ tt_g ∧ Cond.selects mm_X_cut.1.cls mm_X_cut.1 mm_X_cut.1 ∈ tt_g := ⟨⟨(tt_g1 472 (by decide +kernel) (by decide +kernel)), (tt_g1 93 (by decide +kernel) (by decide +kernel)), ⟨by decide +kernel, by decide +kernel, by decide +kernel⟩, by decide, Or.inl (tt_g1 469 (by decide +kernel) (by decide +kernel))⟩, (tt_g1 470 (by decide +kernel) (by decide +kernel)), (tt_g1 471 (by decide +kernel) (by decide +kernel))⟩
theorem fi_L_46 : ai_B "CaneRoundsLaw" 46 mm_M_cut 2 ∧ Cond.instanceMethod mm_M_cut.1 ∈ tt_g ∧ Cond.selects mm_M_cut.1.cls mm_M_cut.1 mm_M_cut.1 ∈ tt_g := ⟨⟨(tt_g1 1134 (by decide +kernel) (by decide +kernel)), (tt_g1 100 (by decide +kernel) (by decide +kernel)), ⟨by decide +kernel, by decide +kernel, by decide +kernel⟩, by decide, Or.inl (tt_g1 1131 (by decide +kernel) (by decide +kernel))⟩, (tt_g1 1132 (by decide +kernel) (by decide +kernel)), (tt_g1 1133 (by decide +kernel) (by decide +kernel))⟩
theorem fi_L_47 : ai_B "CaneRoundsLaw" 47 mm_X_fire 1 ∧ Cond.instanceMethod mm_X_fire.1 ∈ tt_g ∧ Cond.selects mm_X_fire.1.cls mm_X_fire.1 mm_X_fire.1 ∈ tt_g := ⟨⟨(tt_g1 484 (by decide +kernel) (by decide +kernel)), (tt_g1 93 (by decide +kernel) (by decide +kernel)), ⟨by decide +kernel, by decide +kernel, by decide +kernel⟩, by decide, Or.inl (tt_g1 481 (by decide +kernel) (by decide +kernel))⟩, (tt_g1 482 (by decide +kernel) (by decide +kernel)), (tt_g1 483 (by decide +kernel) (by decide +kernel))⟩
theorem fi_L_51 : ai_B "CaneRoundsLaw" 51 mm_M_fire 1 ∧ Cond.instanceMethod mm_M_fire.1 ∈ tt_g ∧ Cond.selects mm_M_fire.1.cls mm_M_fire.1 mm_M_fire.1 ∈ tt_g := ⟨⟨(tt_g1 1146 (by decide +kernel) (by decide +kernel)), (tt_g1 100 (by decide +kernel) (by decide +kernel)), ⟨by decide +kernel, by decide +kernel, by decide +kernel⟩, by decide, Or.inl (tt_g1 1143 (by decide +kernel) (by decide +kernel))⟩, (tt_g1 1144 (by decide +kernel) (by decide +kernel)), (tt_g1 1145 (by decide +kernel) (by decide +kernel))⟩
theorem fi_L_52 : ai_B "CaneRoundsLaw" 52 mm_X_hours 1 ∧ Cond.instanceMethod mm_X_hours.1 ∈ tt_g ∧ Cond.selects mm_X_hours.1.cls mm_X_hours.1 mm_X_hours.1 ∈ tt_g := ⟨⟨(tt_g1 505 (by decide +kernel) (by decide +kernel)), (tt_g1 93 (by decide +kernel) (by decide +kernel)), ⟨by decide +kernel, by decide +kernel, by decide +kernel⟩, by decide, Or.inl (tt_g1 502 (by decide +kernel) (by decide +kernel))⟩, (tt_g1 503 (by decide +kernel) (by decide +kernel)), (tt_g1 504 (by decide +kernel) (by decide +kernel))⟩
theorem fi_L_55 : ai_B "CaneRoundsLaw" 55 mm_M_hours 1 ∧ Cond.instanceMethod mm_M_hours.1 ∈ tt_g ∧ Cond.selects mm_M_hours.1.cls mm_M_hours.1 mm_M_hours.1 ∈ tt_g := ⟨⟨(tt_g1 1154 (by decide +kernel) (by decide +kernel)), (tt_g1 100 (by decide +kernel) (by decide +kernel)), ⟨by decide +kernel, by decide +kernel, by decide +kernel⟩, by decide, Or.inl (tt_g1 1151 (by decide +kernel) (by decide +kernel))⟩, (tt_g1 1152 (by decide +kernel) (by decide +kernel)), (tt_g1 1153 (by decide +kernel) (by decide +kernel))⟩
theorem fi_L_56 : ai_B "CaneRoundsLaw" 56 mm_X_feed 5 ∧ Cond.instanceMethod mm_X_feed.1 ∈ tt_g ∧ Cond.selects mm_X_feed.1.cls mm_X_feed.1 mm_X_feed.1 ∈ tt_g := ⟨⟨(tt_g1 747 (by decide +kernel) (by decide +kernel)), (tt_g1 93 (by decide +kernel) (by decide +kernel)), ⟨by decide +kernel, by decide +kernel, by decide +kernel⟩, by decide, Or.inl (tt_g1 744 (by decide +kernel) (by decide +kernel))⟩, (tt_g1 745 (by decide +kernel) (by decide +kernel)), (tt_g1 746 (by decide +kernel) (by decide +kernel))⟩
theorem fi_L_60 : ai_B "CaneRoundsLaw" 60 mm_M_feed 5 ∧ Cond.instanceMethod mm_M_feed.1 ∈ tt_g ∧ Cond.selects mm_M_feed.1.cls mm_M_feed.1 mm_M_feed.1 ∈ tt_g := ⟨⟨(tt_g1 1206 (by decide +kernel) (by decide +kernel)), (tt_g1 100 (by decide +kernel) (by decide +kernel)), ⟨by decide +kernel, by decide +kernel, by decide +kernel⟩, by decide, Or.inl (tt_g1 1203 (by decide +kernel) (by decide +kernel))⟩, (tt_g1 1204 (by decide +kernel) (by decide +kernel)), (tt_g1 1205 (by decide +kernel) (by decide +kernel))⟩
theorem fi_L_61 : ai_B "CaneRoundsLaw" 61 mm_X_end 1 ∧ Cond.instanceMethod mm_X_end.1 ∈ tt_g ∧ Cond.selects mm_X_end.1.cls mm_X_end.1 mm_X_end.1 ∈ tt_g := ⟨⟨(tt_g1 755 (by decide +kernel) (by decide +kernel)), (tt_g1 93 (by decide +kernel) (by decide +kernel)), ⟨by decide +kernel, by decide +kernel, by decide +kernel⟩, by decide, Or.inl (tt_g1 752 (by decide +kernel) (by decide +kernel))⟩, (tt_g1 753 (by decide +kernel) (by decide +kernel)), (tt_g1 754 (by decide +kernel) (by decide +kernel))⟩
theorem fi_L_64 : ai_B "CaneRoundsLaw" 64 mm_M_end 1 ∧ Cond.instanceMethod mm_M_end.1 ∈ tt_g ∧ Cond.selects mm_M_end.1.cls mm_M_end.1 mm_M_end.1 ∈ tt_g := ⟨⟨(tt_g1 1214 (by decide +kernel) (by decide +kernel)), (tt_g1 100 (by decide +kernel) (by decide +kernel)), ⟨by decide +kernel, by decide +kernel, by decide +kernel⟩, by decide, Or.inl (tt_g1 1211 (by decide +kernel) (by decide +kernel))⟩, (tt_g1 1212 (by decide +kernel) (by decide +kernel)), (tt_g1 1213 (by decide +kernel) (by decide +kernel))⟩
theorem fi_L_65 : ai_B "CaneRoundsLaw" 65 mm_X_text 0 ∧ Cond.instanceMethod mm_X_text.1 ∈ tt_g ∧ Cond.selects mm_X_text.1.cls mm_X_text.1 mm_X_text.1 ∈ tt_g := ⟨⟨(tt_g1 759 (by decide +kernel) (by decide +kernel)), (tt_g1 93 (by decide +kernel) (by decide +kernel)), ⟨by decide +kernel, by decide +kernel, by decide +kernel⟩, by decide, Or.inl (tt_g1 756 (by decide +kernel) (by decide +kernel))⟩, (tt_g1 757 (by decide +kernel) (by decide +kernel)), (tt_g1 758 (by decide +kernel) (by decide +kernel))⟩
theorem fi_L_69 : ai_B "CaneRoundsLaw" 69 mm_M_text 0 ∧ Cond.instanceMethod mm_M_text.1 ∈ tt_g ∧ Cond.selects mm_M_text.1.cls mm_M_text.1 mm_M_text.1 ∈ tt_g := ⟨⟨(tt_g1 1218 (by decide +kernel) (by decide +kernel)), (tt_g1 100 (by decide +kernel) (by decide +kernel)), ⟨by decide +kernel, by decide +kernel, by decide +kernel⟩, by decide, Or.inl (tt_g1 1215 (by decide +kernel) (by decide +kernel))⟩, (tt_g1 1216 (by decide +kernel) (by decide +kernel)), (tt_g1 1217 (by decide +kernel) (by decide +kernel))⟩
theorem fi_L_70 : ai_B "CaneRoundsLaw" 70 mm_X_fault 1 ∧ Cond.instanceMethod mm_X_fault.1 ∈ tt_g ∧ Cond.selects mm_X_fault.1.cls mm_X_fault.1 mm_X_fault.1 ∈ tt_g := ⟨⟨(tt_g1 781 (by decide +kernel) (by decide +kernel)), (tt_g1 93 (by decide +kernel) (by decide +kernel)), ⟨by decide +kernel, by decide +kernel, by decide +kernel⟩, by decide, Or.inl (tt_g1 778 (by decide +kernel) (by decide +kernel))⟩, (tt_g1 779 (by decide +kernel) (by decide +kernel)), (tt_g1 780 (by decide +kernel) (by decide +kernel))⟩
theorem fi_L_73 : ai_B "CaneRoundsLaw" 73 mm_M_fault 1 ∧ Cond.instanceMethod mm_M_fault.1 ∈ tt_g ∧ Cond.selects mm_M_fault.1.cls mm_M_fault.1 mm_M_fault.1 ∈ tt_g := ⟨⟨(tt_g1 1270 (by decide +kernel) (by decide +kernel)), (tt_g1 100 (by decide +kernel) (by decide +kernel)), ⟨by decide +kernel, by decide +kernel, by decide +kernel⟩, by decide, Or.inl (tt_g1 1267 (by decide +kernel) (by decide +kernel))⟩, (tt_g1 1268 (by decide +kernel) (by decide +kernel)), (tt_g1 1269 (by decide +kernel) (by decide +kernel))⟩
theorem fi_L_74 : ai_B "CaneRoundsLaw" 74 mm_X_tells 5 ∧ Cond.instanceMethod mm_X_tells.1 ∈ tt_g ∧ Cond.selects mm_X_tells.1.cls mm_X_tells.1 mm_X_tells.1 ∈ tt_g := ⟨⟨(tt_g1 785 (by decide +kernel) (by decide +kernel)), (tt_g1 93 (by decide +kernel) (by decide +kernel)), ⟨by decide +kernel, by decide +kernel, by decide +kernel⟩, by decide, Or.inl (tt_g1 782 (by decide +kernel) (by decide +kernel))⟩, (tt_g1 783 (by decide +kernel) (by decide +kernel)), (tt_g1 784 (by decide +kernel) (by decide +kernel))⟩
theorem fi_L_77 : ai_B "CaneRoundsLaw" 77 mm_M_tells 5 ∧ Cond.instanceMethod mm_M_tells.1 ∈ tt_g ∧ Cond.selects mm_M_tells.1.cls mm_M_tells.1 mm_M_tells.1 ∈ tt_g := ⟨⟨(tt_g1 1274 (by decide +kernel) (by decide +kernel)), (tt_g1 100 (by decide +kernel) (by decide +kernel)), ⟨by decide +kernel, by decide +kernel, by decide +kernel⟩, by decide, Or.inl (tt_g1 1271 (by decide +kernel) (by decide +kernel))⟩, (tt_g1 1272 (by decide +kernel) (by decide +kernel)), (tt_g1 1273 (by decide +kernel) (by decide +kernel))⟩
theorem fi_L_78 : ai_B "CaneRoundsLaw" 78 mm_X_sweet 2 ∧ Cond.instanceMethod mm_X_sweet.1 ∈ tt_g ∧ Cond.selects mm_X_sweet.1.cls mm_X_sweet.1 mm_X_sweet.1 ∈ tt_g := ⟨⟨(tt_g1 795 (by decide +kernel) (by decide +kernel)), (tt_g1 93 (by decide +kernel) (by decide +kernel)), ⟨by decide +kernel, by decide +kernel, by decide +kernel⟩, by decide, Or.inl (tt_g1 792 (by decide +kernel) (by decide +kernel))⟩, (tt_g1 793 (by decide +kernel) (by decide +kernel)), (tt_g1 794 (by decide +kernel) (by decide +kernel))⟩
theorem fi_L_82 : ai_B "CaneRoundsLaw" 82 mm_M_sweet 2 ∧ Cond.instanceMethod mm_M_sweet.1 ∈ tt_g ∧ Cond.selects mm_M_sweet.1.cls mm_M_sweet.1 mm_M_sweet.1 ∈ tt_g := ⟨⟨(tt_g1 1283 (by decide +kernel) (by decide +kernel)), (tt_g1 100 (by decide +kernel) (by decide +kernel)), ⟨by decide +kernel, by decide +kernel, by decide +kernel⟩, by decide, Or.inl (tt_g1 1280 (by decide +kernel) (by decide +kernel))⟩, (tt_g1 1281 (by decide +kernel) (by decide +kernel)), (tt_g1 1282 (by decide +kernel) (by decide +kernel))⟩
theorem fi_L_83 : ai_B "CaneRoundsLaw" 83 mm_X_fieldOf 2 ∧ Cond.instanceMethod mm_X_fieldOf.1 ∈ tt_g ∧ Cond.selects mm_X_fieldOf.1.cls mm_X_fieldOf.1 mm_X_fieldOf.1 ∈ tt_g := ⟨⟨(tt_g1 800 (by decide +kernel) (by decide +kernel)), (tt_g1 93 (by decide +kernel) (by decide +kernel)), ⟨by decide +kernel, by decide +kernel, by decide +kernel⟩, by decide, Or.inl (tt_g1 797 (by decide +kernel) (by decide +kernel))⟩, (tt_g1 798 (by decide +kernel) (by decide +kernel)), (tt_g1 799 (by decide +kernel) (by decide +kernel))⟩
theorem fi_L_86 : ai_B "CaneRoundsLaw" 86 mm_M_fieldOf 2 ∧ Cond.instanceMethod mm_M_fieldOf.1 ∈ tt_g ∧ Cond.selects mm_M_fieldOf.1.cls mm_M_fieldOf.1 mm_M_fieldOf.1 ∈ tt_g := ⟨⟨(tt_g1 1287 (by decide +kernel) (by decide +kernel)), (tt_g1 100 (by decide +kernel) (by decide +kernel)), ⟨by decide +kernel, by decide +kernel, by decide +kernel⟩, by decide, Or.inl (tt_g1 1284 (by decide +kernel) (by decide +kernel))⟩, (tt_g1 1285 (by decide +kernel) (by decide +kernel)), (tt_g1 1286 (by decide +kernel) (by decide +kernel))⟩
theorem fi_L_87 : ai_B "CaneRoundsLaw" 87 mm_X_load 2 ∧ Cond.instanceMethod mm_X_load.1 ∈ tt_g ∧ Cond.selects mm_X_load.1.cls mm_X_load.1 mm_X_load.1 ∈ tt_g := ⟨⟨(tt_g1 804 (by decide +kernel) (by decide +kernel)), (tt_g1 93 (by decide +kernel) (by decide +kernel)), ⟨by decide +kernel, by decide +kernel, by decide +kernel⟩, by decide, Or.inl (tt_g1 801 (by decide +kernel) (by decide +kernel))⟩, (tt_g1 802 (by decide +kernel) (by decide +kernel)), (tt_g1 803 (by decide +kernel) (by decide +kernel))⟩
theorem fi_L_90 : ai_B "CaneRoundsLaw" 90 mm_M_load 2 ∧ Cond.instanceMethod mm_M_load.1 ∈ tt_g ∧ Cond.selects mm_M_load.1.cls mm_M_load.1 mm_M_load.1 ∈ tt_g := ⟨⟨(tt_g1 1291 (by decide +kernel) (by decide +kernel)), (tt_g1 100 (by decide +kernel) (by decide +kernel)), ⟨by decide +kernel, by decide +kernel, by decide +kernel⟩, by decide, Or.inl (tt_g1 1288 (by decide +kernel) (by decide +kernel))⟩, (tt_g1 1289 (by decide +kernel) (by decide +kernel)), (tt_g1 1290 (by decide +kernel) (by decide +kernel))⟩
theorem fi_L_91 : ai_B "CaneRoundsLaw" 91 mm_X_bundle 1 ∧ Cond.instanceMethod mm_X_bundle.1 ∈ tt_g ∧ Cond.selects mm_X_bundle.1.cls mm_X_bundle.1 mm_X_bundle.1 ∈ tt_g := ⟨⟨(tt_g1 812 (by decide +kernel) (by decide +kernel)), (tt_g1 93 (by decide +kernel) (by decide +kernel)), ⟨by decide +kernel, by decide +kernel, by decide +kernel⟩, by decide, Or.inl (tt_g1 809 (by decide +kernel) (by decide +kernel))⟩, (tt_g1 810 (by decide +kernel) (by decide +kernel)), (tt_g1 811 (by decide +kernel) (by decide +kernel))⟩
theorem fi_L_94 : ai_B "CaneRoundsLaw" 94 mm_M_bundle 1 ∧ Cond.instanceMethod mm_M_bundle.1 ∈ tt_g ∧ Cond.selects mm_M_bundle.1.cls mm_M_bundle.1 mm_M_bundle.1 ∈ tt_g := ⟨⟨(tt_g1 1295 (by decide +kernel) (by decide +kernel)), (tt_g1 100 (by decide +kernel) (by decide +kernel)), ⟨by decide +kernel, by decide +kernel, by decide +kernel⟩, by decide, Or.inl (tt_g1 1292 (by decide +kernel) (by decide +kernel))⟩, (tt_g1 1293 (by decide +kernel) (by decide +kernel)), (tt_g1 1294 (by decide +kernel) (by decide +kernel))⟩
theorem fi_L_95 : ai_B "CaneRoundsLaw" 95 mm_X_best 2 ∧ Cond.instanceMethod mm_X_best.1 ∈ tt_g ∧ Cond.selects mm_X_best.1.cls mm_X_best.1 mm_X_best.1 ∈ tt_g := ⟨⟨(tt_g1 820 (by decide +kernel) (by decide +kernel)), (tt_g1 93 (by decide +kernel) (by decide +kernel)), ⟨by decide +kernel, by decide +kernel, by decide +kernel⟩, by decide, Or.inl (tt_g1 817 (by decide +kernel) (by decide +kernel))⟩, (tt_g1 818 (by decide +kernel) (by decide +kernel)), (tt_g1 819 (by decide +kernel) (by decide +kernel))⟩
theorem fi_L_98 : ai_B "CaneRoundsLaw" 98 mm_M_best 2 ∧ Cond.instanceMethod mm_M_best.1 ∈ tt_g ∧ Cond.selects mm_M_best.1.cls mm_M_best.1 mm_M_best.1 ∈ tt_g := ⟨⟨(tt_g1 1299 (by decide +kernel) (by decide +kernel)), (tt_g1 100 (by decide +kernel) (by decide +kernel)), ⟨by decide +kernel, by decide +kernel, by decide +kernel⟩, by decide, Or.inl (tt_g1 1296 (by decide +kernel) (by decide +kernel))⟩, (tt_g1 1297 (by decide +kernel) (by decide +kernel)), (tt_g1 1298 (by decide +kernel) (by decide +kernel))⟩
theorem fi_L_99 : ai_B "CaneRoundsLaw" 99 mm_X_bestSet 2 ∧ Cond.instanceMethod mm_X_bestSet.1 ∈ tt_g ∧ Cond.selects mm_X_bestSet.1.cls mm_X_bestSet.1 mm_X_bestSet.1 ∈ tt_g := ⟨⟨(tt_g1 876 (by decide +kernel) (by decide +kernel)), (tt_g1 93 (by decide +kernel) (by decide +kernel)), ⟨by decide +kernel, by decide +kernel, by decide +kernel⟩, by decide, Or.inl (tt_g1 873 (by decide +kernel) (by decide +kernel))⟩, (tt_g1 874 (by decide +kernel) (by decide +kernel)), (tt_g1 875 (by decide +kernel) (by decide +kernel))⟩
theorem fi_L_102 : ai_B "CaneRoundsLaw" 102 mm_M_bestSet 2 ∧ Cond.instanceMethod mm_M_bestSet.1 ∈ tt_g ∧ Cond.selects mm_M_bestSet.1.cls mm_M_bestSet.1 mm_M_bestSet.1 ∈ tt_g := ⟨⟨(tt_g1 1319 (by decide +kernel) (by decide +kernel)), (tt_g1 100 (by decide +kernel) (by decide +kernel)), ⟨by decide +kernel, by decide +kernel, by decide +kernel⟩, by decide, Or.inl (tt_g1 1316 (by decide +kernel) (by decide +kernel))⟩, (tt_g1 1317 (by decide +kernel) (by decide +kernel)), (tt_g1 1318 (by decide +kernel) (by decide +kernel))⟩
theorem fi_L_103 : ai_B "CaneRoundsLaw" 103 mm_X_paid 1 ∧ Cond.instanceMethod mm_X_paid.1 ∈ tt_g ∧ Cond.selects mm_X_paid.1.cls mm_X_paid.1 mm_X_paid.1 ∈ tt_g := ⟨⟨(tt_g1 880 (by decide +kernel) (by decide +kernel)), (tt_g1 93 (by decide +kernel) (by decide +kernel)), ⟨by decide +kernel, by decide +kernel, by decide +kernel⟩, by decide, Or.inl (tt_g1 877 (by decide +kernel) (by decide +kernel))⟩, (tt_g1 878 (by decide +kernel) (by decide +kernel)), (tt_g1 879 (by decide +kernel) (by decide +kernel))⟩
theorem fi_L_107 : ai_B "CaneRoundsLaw" 107 mm_M_paid 1 ∧ Cond.instanceMethod mm_M_paid.1 ∈ tt_g ∧ Cond.selects mm_M_paid.1.cls mm_M_paid.1 mm_M_paid.1 ∈ tt_g := ⟨⟨(tt_g1 1323 (by decide +kernel) (by decide +kernel)), (tt_g1 100 (by decide +kernel) (by decide +kernel)), ⟨by decide +kernel, by decide +kernel, by decide +kernel⟩, by decide, Or.inl (tt_g1 1320 (by decide +kernel) (by decide +kernel))⟩, (tt_g1 1321 (by decide +kernel) (by decide +kernel)), (tt_g1 1322 (by decide +kernel) (by decide +kernel))⟩
theorem fi_L_108 : ai_B "CaneRoundsLaw" 108 mm_X_about 1 ∧ Cond.instanceMethod mm_X_about.1 ∈ tt_g ∧ Cond.selects mm_X_about.1.cls mm_X_about.1 mm_X_about.1 ∈ tt_g := ⟨⟨(tt_g1 888 (by decide +kernel) (by decide +kernel)), (tt_g1 93 (by decide +kernel) (by decide +kernel)), ⟨by decide +kernel, by decide +kernel, by decide +kernel⟩, by decide, Or.inl (tt_g1 885 (by decide +kernel) (by decide +kernel))⟩, (tt_g1 886 (by decide +kernel) (by decide +kernel)), (tt_g1 887 (by decide +kernel) (by decide +kernel))⟩
theorem fi_L_111 : ai_B "CaneRoundsLaw" 111 mm_M_about 1 ∧ Cond.instanceMethod mm_M_about.1 ∈ tt_g ∧ Cond.selects mm_M_about.1.cls mm_M_about.1 mm_M_about.1 ∈ tt_g := ⟨⟨(tt_g1 1327 (by decide +kernel) (by decide +kernel)), (tt_g1 100 (by decide +kernel) (by decide +kernel)), ⟨by decide +kernel, by decide +kernel, by decide +kernel⟩, by decide, Or.inl (tt_g1 1324 (by decide +kernel) (by decide +kernel))⟩, (tt_g1 1325 (by decide +kernel) (by decide +kernel)), (tt_g1 1326 (by decide +kernel) (by decide +kernel))⟩
theorem fn_L_7 : an_ok "CaneRoundsLaw" 7 10 19 [av_i 0, av_i 0, av_i 0, av_i 0, av_i 0, av_i 0, av_n, av_n, av_n, av_n, av_n, av_n, av_n, av_n, av_n, av_n, av_n, av_i 0, av_i 0] := ⟨_, _, cs_y10, rfl, cs_w10, cs_p10, (tt_g1 106 (by decide +kernel) (by decide +kernel)), (tt_g1 107 (by decide +kernel) (by decide +kernel)), (tt_g1 93 (by decide +kernel) (by decide +kernel)), fun w j hj => by
  rcases (show j = 0 ∨ j = 1 ∨ j = 2 ∨ j = 3 ∨ j = 4 ∨ j = 5 ∨ j = 6 ∨ j = 7 ∨ j = 8 ∨ j = 9 ∨ j = 10 ∨ j = 11 ∨ j = 12 ∨ j = 13 ∨ j = 14 ∨ j = 15 ∨ j = 16 ∨ j = 17 ∨ j = 18 by omega) with rfl | rfl | rfl | rfl | rfl | rfl | rfl | rfl | rfl | rfl | rfl | rfl | rfl | rfl | rfl | rfl | rfl | rfl | rfl <;> rfl⟩
theorem fn_L_10 : an_ok "CaneRoundsLaw" 10 11 64 [av_i 0, av_i 0, av_i 0, av_i 0, av_i 0, av_i 0, av_i 0, av_i 0, av_n, av_n, av_n, av_n, av_n, av_n, av_n, av_n, av_n, av_n, av_n, av_n, av_n, av_i 0, av_n, av_n, av_n, av_n, av_n, av_n, av_n, av_n, av_n, av_n, av_n, av_n, av_n, av_n, av_i 0, av_i 0, av_i 0, av_i 0, av_n, av_n, av_n, av_i 0, av_i 0, av_n, av_n, av_i 0, av_i 0, av_i 0, av_i 0, av_i 0, av_i 0, av_i 0, av_i 0, av_i 0, av_n, av_i 0, av_n, av_n, av_n, av_n, av_n, av_i 0] := ⟨_, _, cs_y11, rfl, cs_w11, cs_p11, (tt_g1 895 (by decide +kernel) (by decide +kernel)), (tt_g1 896 (by decide +kernel) (by decide +kernel)), (tt_g1 100 (by decide +kernel) (by decide +kernel)), fun w j hj => by
  rcases (show j = 0 ∨ j = 1 ∨ j = 2 ∨ j = 3 ∨ j = 4 ∨ j = 5 ∨ j = 6 ∨ j = 7 ∨ j = 8 ∨ j = 9 ∨ j = 10 ∨ j = 11 ∨ j = 12 ∨ j = 13 ∨ j = 14 ∨ j = 15 ∨ j = 16 ∨ j = 17 ∨ j = 18 ∨ j = 19 ∨ j = 20 ∨ j = 21 ∨ j = 22 ∨ j = 23 ∨ j = 24 ∨ j = 25 ∨ j = 26 ∨ j = 27 ∨ j = 28 ∨ j = 29 ∨ j = 30 ∨ j = 31 ∨ j = 32 ∨ j = 33 ∨ j = 34 ∨ j = 35 ∨ j = 36 ∨ j = 37 ∨ j = 38 ∨ j = 39 ∨ j = 40 ∨ j = 41 ∨ j = 42 ∨ j = 43 ∨ j = 44 ∨ j = 45 ∨ j = 46 ∨ j = 47 ∨ j = 48 ∨ j = 49 ∨ j = 50 ∨ j = 51 ∨ j = 52 ∨ j = 53 ∨ j = 54 ∨ j = 55 ∨ j = 56 ∨ j = 57 ∨ j = 58 ∨ j = 59 ∨ j = 60 ∨ j = 61 ∨ j = 62 ∨ j = 63 by omega) with rfl | rfl | rfl | rfl | rfl | rfl | rfl | rfl | rfl | rfl | rfl | rfl | rfl | rfl | rfl | rfl | rfl | rfl | rfl | rfl | rfl | rfl | rfl | rfl | rfl | rfl | rfl | rfl | rfl | rfl | rfl | rfl | rfl | rfl | rfl | rfl | rfl | rfl | rfl | rfl | rfl | rfl | rfl | rfl | rfl | rfl | rfl | rfl | rfl | rfl | rfl | rfl | rfl | rfl | rfl | rfl | rfl | rfl | rfl | rfl | rfl | rfl | rfl | rfl <;> rfl⟩
theorem fg_M_7 : af_ok "CaneRoundsModel" 7 11 4 := ⟨_, _, _, rfl, by decide, cs_w11, Or.inl (tt_g1 905 (by decide +kernel) (by decide +kernel))⟩
theorem fg_M_13 : af_ok "CaneRoundsModel" 13 11 5 := ⟨_, _, _, rfl, by decide, cs_w11, Or.inl (tt_g1 906 (by decide +kernel) (by decide +kernel))⟩
theorem fg_M_16 : af_ok "CaneRoundsModel" 16 11 6 := ⟨_, _, _, rfl, by decide, cs_w11, Or.inl (tt_g1 907 (by decide +kernel) (by decide +kernel))⟩
theorem fg_M_19 : af_ok "CaneRoundsModel" 19 11 7 := ⟨_, _, _, rfl, by decide, cs_w11, Or.inl (tt_g1 908 (by decide +kernel) (by decide +kernel))⟩
theorem fg_M_22 : af_ok "CaneRoundsModel" 22 11 8 := ⟨_, _, _, rfl, by decide, cs_w11, Or.inl (tt_g1 909 (by decide +kernel) (by decide +kernel))⟩
theorem fg_M_26 : af_ok "CaneRoundsModel" 26 11 9 := ⟨_, _, _, rfl, by decide, cs_w11, Or.inl (tt_g1 910 (by decide +kernel) (by decide +kernel))⟩
theorem fg_M_30 : af_ok "CaneRoundsModel" 30 11 10 := ⟨_, _, _, rfl, by decide, cs_w11, Or.inl (tt_g1 911 (by decide +kernel) (by decide +kernel))⟩
theorem fg_M_33 : af_ok "CaneRoundsModel" 33 11 11 := ⟨_, _, _, rfl, by decide, cs_w11, Or.inl (tt_g1 912 (by decide +kernel) (by decide +kernel))⟩
theorem fg_M_36 : af_ok "CaneRoundsModel" 36 11 12 := ⟨_, _, _, rfl, by decide, cs_w11, Or.inl (tt_g1 913 (by decide +kernel) (by decide +kernel))⟩
theorem fg_M_39 : af_ok "CaneRoundsModel" 39 11 13 := ⟨_, _, _, rfl, by decide, cs_w11, Or.inl (tt_g1 914 (by decide +kernel) (by decide +kernel))⟩
theorem fg_M_42 : af_ok "CaneRoundsModel" 42 11 14 := ⟨_, _, _, rfl, by decide, cs_w11, Or.inl (tt_g1 915 (by decide +kernel) (by decide +kernel))⟩
theorem fg_M_45 : af_ok "CaneRoundsModel" 45 11 15 := ⟨_, _, _, rfl, by decide, cs_w11, Or.inl (tt_g1 916 (by decide +kernel) (by decide +kernel))⟩
theorem fg_M_48 : af_ok "CaneRoundsModel" 48 11 16 := ⟨_, _, _, rfl, by decide, cs_w11, Or.inl (tt_g1 917 (by decide +kernel) (by decide +kernel))⟩
theorem fg_M_51 : af_ok "CaneRoundsModel" 51 11 17 := ⟨_, _, _, rfl, by decide, cs_w11, Or.inl (tt_g1 918 (by decide +kernel) (by decide +kernel))⟩
theorem fg_M_54 : af_ok "CaneRoundsModel" 54 11 18 := ⟨_, _, _, rfl, by decide, cs_w11, Or.inl (tt_g1 919 (by decide +kernel) (by decide +kernel))⟩
theorem fg_M_57 : af_ok "CaneRoundsModel" 57 11 19 := ⟨_, _, _, rfl, by decide, cs_w11, Or.inl (tt_g1 920 (by decide +kernel) (by decide +kernel))⟩
theorem fg_M_60 : af_ok "CaneRoundsModel" 60 11 20 := ⟨_, _, _, rfl, by decide, cs_w11, Or.inl (tt_g1 921 (by decide +kernel) (by decide +kernel))⟩
theorem fg_M_63 : af_ok "CaneRoundsModel" 63 11 22 := ⟨_, _, _, rfl, by decide, cs_w11, Or.inl (tt_g1 923 (by decide +kernel) (by decide +kernel))⟩
theorem fg_M_67 : af_ok "CaneRoundsModel" 67 11 23 := ⟨_, _, _, rfl, by decide, cs_w11, Or.inl (tt_g1 924 (by decide +kernel) (by decide +kernel))⟩
theorem fg_M_70 : af_ok "CaneRoundsModel" 70 11 24 := ⟨_, _, _, rfl, by decide, cs_w11, Or.inl (tt_g1 925 (by decide +kernel) (by decide +kernel))⟩
theorem fg_M_73 : af_ok "CaneRoundsModel" 73 11 25 := ⟨_, _, _, rfl, by decide, cs_w11, Or.inl (tt_g1 926 (by decide +kernel) (by decide +kernel))⟩
theorem fg_M_76 : af_ok "CaneRoundsModel" 76 11 26 := ⟨_, _, _, rfl, by decide, cs_w11, Or.inl (tt_g1 927 (by decide +kernel) (by decide +kernel))⟩
theorem fg_M_79 : af_ok "CaneRoundsModel" 79 11 27 := ⟨_, _, _, rfl, by decide, cs_w11, Or.inl (tt_g1 928 (by decide +kernel) (by decide +kernel))⟩
theorem fg_M_82 : af_ok "CaneRoundsModel" 82 11 28 := ⟨_, _, _, rfl, by decide, cs_w11, Or.inl (tt_g1 929 (by decide +kernel) (by decide +kernel))⟩
theorem fg_M_85 : af_ok "CaneRoundsModel" 85 11 29 := ⟨_, _, _, rfl, by decide, cs_w11, Or.inl (tt_g1 930 (by decide +kernel) (by decide +kernel))⟩
theorem fg_M_88 : af_ok "CaneRoundsModel" 88 11 30 := ⟨_, _, _, rfl, by decide, cs_w11, Or.inl (tt_g1 931 (by decide +kernel) (by decide +kernel))⟩
theorem fg_M_91 : af_ok "CaneRoundsModel" 91 11 31 := ⟨_, _, _, rfl, by decide, cs_w11, Or.inl (tt_g1 932 (by decide +kernel) (by decide +kernel))⟩
theorem fg_M_94 : af_ok "CaneRoundsModel" 94 11 32 := ⟨_, _, _, rfl, by decide, cs_w11, Or.inl (tt_g1 933 (by decide +kernel) (by decide +kernel))⟩
theorem fg_M_97 : af_ok "CaneRoundsModel" 97 11 33 := ⟨_, _, _, rfl, by decide, cs_w11, Or.inl (tt_g1 934 (by decide +kernel) (by decide +kernel))⟩
theorem fg_M_100 : af_ok "CaneRoundsModel" 100 11 34 := ⟨_, _, _, rfl, by decide, cs_w11, Or.inl (tt_g1 935 (by decide +kernel) (by decide +kernel))⟩
theorem fg_M_103 : af_ok "CaneRoundsModel" 103 11 35 := ⟨_, _, _, rfl, by decide, cs_w11, Or.inl (tt_g1 936 (by decide +kernel) (by decide +kernel))⟩
theorem fg_M_107 : af_ok "CaneRoundsModel" 107 11 38 := ⟨_, _, _, rfl, by decide, cs_w11, Or.inl (tt_g1 939 (by decide +kernel) (by decide +kernel))⟩
theorem fg_M_110 : af_ok "CaneRoundsModel" 110 11 40 := ⟨_, _, _, rfl, by decide, cs_w11, Or.inl (tt_g1 941 (by decide +kernel) (by decide +kernel))⟩
theorem fg_M_113 : af_ok "CaneRoundsModel" 113 11 41 := ⟨_, _, _, rfl, by decide, cs_w11, Or.inl (tt_g1 942 (by decide +kernel) (by decide +kernel))⟩
theorem fg_M_116 : af_ok "CaneRoundsModel" 116 11 42 := ⟨_, _, _, rfl, by decide, cs_w11, Or.inl (tt_g1 943 (by decide +kernel) (by decide +kernel))⟩
theorem fg_M_119 : af_ok "CaneRoundsModel" 119 11 45 := ⟨_, _, _, rfl, by decide, cs_w11, Or.inl (tt_g1 946 (by decide +kernel) (by decide +kernel))⟩
theorem fg_M_122 : af_ok "CaneRoundsModel" 122 11 46 := ⟨_, _, _, rfl, by decide, cs_w11, Or.inl (tt_g1 947 (by decide +kernel) (by decide +kernel))⟩
theorem fg_M_125 : af_ok "CaneRoundsModel" 125 11 47 := ⟨_, _, _, rfl, by decide, cs_w11, Or.inl (tt_g1 948 (by decide +kernel) (by decide +kernel))⟩
theorem fg_M_128 : af_ok "CaneRoundsModel" 128 11 48 := ⟨_, _, _, rfl, by decide, cs_w11, Or.inl (tt_g1 949 (by decide +kernel) (by decide +kernel))⟩
theorem fg_M_131 : af_ok "CaneRoundsModel" 131 11 56 := ⟨_, _, _, rfl, by decide, cs_w11, Or.inl (tt_g1 957 (by decide +kernel) (by decide +kernel))⟩
theorem fg_M_134 : af_ok "CaneRoundsModel" 134 11 58 := ⟨_, _, _, rfl, by decide, cs_w11, Or.inl (tt_g1 959 (by decide +kernel) (by decide +kernel))⟩
theorem fg_M_137 : af_ok "CaneRoundsModel" 137 11 59 := ⟨_, _, _, rfl, by decide, cs_w11, Or.inl (tt_g1 960 (by decide +kernel) (by decide +kernel))⟩
theorem fg_M_140 : af_ok "CaneRoundsModel" 140 11 60 := ⟨_, _, _, rfl, by decide, cs_w11, Or.inl (tt_g1 961 (by decide +kernel) (by decide +kernel))⟩
theorem fg_M_143 : af_ok "CaneRoundsModel" 143 11 61 := ⟨_, _, _, rfl, by decide, cs_w11, Or.inl (tt_g1 962 (by decide +kernel) (by decide +kernel))⟩
theorem fg_M_146 : af_ok "CaneRoundsModel" 146 11 62 := ⟨_, _, _, rfl, by decide, cs_w11, Or.inl (tt_g1 963 (by decide +kernel) (by decide +kernel))⟩
theorem fg_M_149 : af_ok "CaneRoundsModel" 149 11 44 := ⟨_, _, _, rfl, by decide, cs_w11, Or.inl (tt_g1 945 (by decide +kernel) (by decide +kernel))⟩
theorem fg_M_152 : af_ok "CaneRoundsModel" 152 11 2 := ⟨_, _, _, rfl, by decide, cs_w11, Or.inl (tt_g1 903 (by decide +kernel) (by decide +kernel))⟩
theorem fg_M_159 : af_ok "CaneRoundsModel" 159 11 0 := ⟨_, _, _, rfl, by decide, cs_w11, Or.inl (tt_g1 901 (by decide +kernel) (by decide +kernel))⟩
theorem fg_M_166 : af_ok "CaneRoundsModel" 166 11 1 := ⟨_, _, _, rfl, by decide, cs_w11, Or.inl (tt_g1 902 (by decide +kernel) (by decide +kernel))⟩
theorem fg_M_169 : af_ok "CaneRoundsModel" 169 11 21 := ⟨_, _, _, rfl, by decide, cs_w11, Or.inl (tt_g1 922 (by decide +kernel) (by decide +kernel))⟩
theorem fg_M_172 : af_ok "CaneRoundsModel" 172 11 39 := ⟨_, _, _, rfl, by decide, cs_w11, Or.inl (tt_g1 940 (by decide +kernel) (by decide +kernel))⟩
theorem fg_M_191 : af_ok "CaneRoundsModel" 191 11 3 := ⟨_, _, _, rfl, by decide, cs_w11, Or.inl (tt_g1 904 (by decide +kernel) (by decide +kernel))⟩
theorem fg_M_205 : af_ok "CaneRoundsModel" 205 11 36 := ⟨_, _, _, rfl, by decide, cs_w11, Or.inl (tt_g1 937 (by decide +kernel) (by decide +kernel))⟩
theorem fg_M_226 : af_ok "CaneRoundsModel" 226 11 37 := ⟨_, _, _, rfl, by decide, cs_w11, Or.inl (tt_g1 938 (by decide +kernel) (by decide +kernel))⟩
theorem fg_M_235 : af_ok "CaneRoundsModel" 235 11 43 := ⟨_, _, _, rfl, by decide, cs_w11, Or.inl (tt_g1 944 (by decide +kernel) (by decide +kernel))⟩
theorem fg_M_241 : af_ok "CaneRoundsModel" 241 11 49 := ⟨_, _, _, rfl, by decide, cs_w11, Or.inl (tt_g1 950 (by decide +kernel) (by decide +kernel))⟩
theorem fg_M_247 : af_ok "CaneRoundsModel" 247 11 50 := ⟨_, _, _, rfl, by decide, cs_w11, Or.inl (tt_g1 951 (by decide +kernel) (by decide +kernel))⟩
theorem fg_M_250 : af_ok "CaneRoundsModel" 250 11 51 := ⟨_, _, _, rfl, by decide, cs_w11, Or.inl (tt_g1 952 (by decide +kernel) (by decide +kernel))⟩
theorem fg_M_256 : af_ok "CaneRoundsModel" 256 11 52 := ⟨_, _, _, rfl, by decide, cs_w11, Or.inl (tt_g1 953 (by decide +kernel) (by decide +kernel))⟩
theorem fg_M_268 : af_ok "CaneRoundsModel" 268 11 53 := ⟨_, _, _, rfl, by decide, cs_w11, Or.inl (tt_g1 954 (by decide +kernel) (by decide +kernel))⟩
theorem fg_M_271 : af_ok "CaneRoundsModel" 271 11 55 := ⟨_, _, _, rfl, by decide, cs_w11, Or.inl (tt_g1 956 (by decide +kernel) (by decide +kernel))⟩
theorem fg_M_274 : af_ok "CaneRoundsModel" 274 11 54 := ⟨_, _, _, rfl, by decide, cs_w11, Or.inl (tt_g1 955 (by decide +kernel) (by decide +kernel))⟩
theorem fg_M_284 : af_ok "CaneRoundsModel" 284 11 57 := ⟨_, _, _, rfl, by decide, cs_w11, Or.inl (tt_g1 958 (by decide +kernel) (by decide +kernel))⟩
theorem fg_M_326 : af_ok "CaneRoundsModel" 326 11 63 := ⟨_, _, _, rfl, by decide, cs_w11, Or.inl (tt_g1 964 (by decide +kernel) (by decide +kernel))⟩
theorem fi_M_155 : ai_B "CaneRoundsModel" 155 mm_M_isIn 3 ∧ Cond.static mm_M_isIn.1 ∈ tt_g := ⟨⟨(tt_g1 1101 (by decide +kernel) (by decide +kernel)), (tt_g1 100 (by decide +kernel) (by decide +kernel)), ⟨by decide +kernel, by decide +kernel, by decide +kernel⟩, by decide, Or.inl (tt_g1 1099 (by decide +kernel) (by decide +kernel))⟩, (tt_g1 1100 (by decide +kernel) (by decide +kernel))⟩
theorem fi_M_195 : ai_B "CaneRoundsModel" 195 mm_M_trip 1 ∧ Cond.static mm_M_trip.1 ∈ tt_g := ⟨⟨(tt_g1 1174 (by decide +kernel) (by decide +kernel)), (tt_g1 100 (by decide +kernel) (by decide +kernel)), ⟨by decide +kernel, by decide +kernel, by decide +kernel⟩, by decide, Or.inl (tt_g1 1172 (by decide +kernel) (by decide +kernel))⟩, (tt_g1 1173 (by decide +kernel) (by decide +kernel))⟩
theorem fi_M_253 : ai_B "CaneRoundsModel" 253 mm_M_isDigit 1 ∧ Cond.static mm_M_isDigit.1 ∈ tt_g := ⟨⟨(tt_g1 1233 (by decide +kernel) (by decide +kernel)), (tt_g1 100 (by decide +kernel) (by decide +kernel)), ⟨by decide +kernel, by decide +kernel, by decide +kernel⟩, by decide, Or.inl (tt_g1 1231 (by decide +kernel) (by decide +kernel))⟩, (tt_g1 1232 (by decide +kernel) (by decide +kernel))⟩
theorem fi_M_260 : ai_B "CaneRoundsModel" 260 mm_M_isLetter 1 ∧ Cond.static mm_M_isLetter.1 ∈ tt_g := ⟨⟨(tt_g1 1237 (by decide +kernel) (by decide +kernel)), (tt_g1 100 (by decide +kernel) (by decide +kernel)), ⟨by decide +kernel, by decide +kernel, by decide +kernel⟩, by decide, Or.inl (tt_g1 1235 (by decide +kernel) (by decide +kernel))⟩, (tt_g1 1236 (by decide +kernel) (by decide +kernel))⟩
theorem fi_M_263 : ai_B "CaneRoundsModel" 263 mm_M_letterOf 1 ∧ Cond.static mm_M_letterOf.1 ∈ tt_g := ⟨⟨(tt_g1 1240 (by decide +kernel) (by decide +kernel)), (tt_g1 100 (by decide +kernel) (by decide +kernel)), ⟨by decide +kernel, by decide +kernel, by decide +kernel⟩, by decide, Or.inl (tt_g1 1238 (by decide +kernel) (by decide +kernel))⟩, (tt_g1 1239 (by decide +kernel) (by decide +kernel))⟩
theorem fi_M_310 : ai_B "CaneRoundsModel" 310 mm_M_clip 1 ∧ Cond.static mm_M_clip.1 ∈ tt_g := ⟨⟨(tt_g1 1200 (by decide +kernel) (by decide +kernel)), (tt_g1 100 (by decide +kernel) (by decide +kernel)), ⟨by decide +kernel, by decide +kernel, by decide +kernel⟩, by decide, Or.inl (tt_g1 1198 (by decide +kernel) (by decide +kernel))⟩, (tt_g1 1199 (by decide +kernel) (by decide +kernel))⟩
theorem fi_M_314 : ai_B "CaneRoundsModel" 314 mm_M_act 3 ∧ Cond.static mm_M_act.1 ∈ tt_g := ⟨⟨(tt_g1 1197 (by decide +kernel) (by decide +kernel)), (tt_g1 100 (by decide +kernel) (by decide +kernel)), ⟨by decide +kernel, by decide +kernel, by decide +kernel⟩, by decide, Or.inl (tt_g1 1195 (by decide +kernel) (by decide +kernel))⟩, (tt_g1 1196 (by decide +kernel) (by decide +kernel))⟩
theorem fi_M_320 : ai_B "CaneRoundsModel" 320 mm_M_isSmall 1 ∧ Cond.static mm_M_isSmall.1 ∈ tt_g := ⟨⟨(tt_g1 1277 (by decide +kernel) (by decide +kernel)), (tt_g1 100 (by decide +kernel) (by decide +kernel)), ⟨by decide +kernel, by decide +kernel, by decide +kernel⟩, by decide, Or.inl (tt_g1 1275 (by decide +kernel) (by decide +kernel))⟩, (tt_g1 1276 (by decide +kernel) (by decide +kernel))⟩
theorem fi_M_162 : ai_B "CaneRoundsModel" 162 mm_M_isHour 0 ∧ Cond.instanceMethod mm_M_isHour.1 ∈ tt_g ∧ Cond.selects mm_M_isHour.1.cls mm_M_isHour.1 mm_M_isHour.1 ∈ tt_g := ⟨⟨(tt_g1 1105 (by decide +kernel) (by decide +kernel)), (tt_g1 100 (by decide +kernel) (by decide +kernel)), ⟨by decide +kernel, by decide +kernel, by decide +kernel⟩, by decide, Or.inl (tt_g1 1102 (by decide +kernel) (by decide +kernel))⟩, (tt_g1 1104 (by decide +kernel) (by decide +kernel)), (tt_g1 64 (by decide +kernel) (by decide +kernel))⟩
theorem fi_M_176 : ai_B "CaneRoundsModel" 176 mm_M_turn 0 ∧ Cond.instanceMethod mm_M_turn.1 ∈ tt_g ∧ Cond.selects mm_M_turn.1.cls mm_M_turn.1 mm_M_turn.1 ∈ tt_g := ⟨⟨(tt_g1 1126 (by decide +kernel) (by decide +kernel)), (tt_g1 100 (by decide +kernel) (by decide +kernel)), ⟨by decide +kernel, by decide +kernel, by decide +kernel⟩, by decide, Or.inl (tt_g1 1123 (by decide +kernel) (by decide +kernel))⟩, (tt_g1 1125 (by decide +kernel) (by decide +kernel)), (tt_g1 65 (by decide +kernel) (by decide +kernel))⟩
theorem fi_M_180 : ai_B "CaneRoundsModel" 180 mm_M_isField 1 ∧ Cond.instanceMethod mm_M_isField.1 ∈ tt_g ∧ Cond.selects mm_M_isField.1.cls mm_M_isField.1 mm_M_isField.1 ∈ tt_g := ⟨⟨(tt_g1 1138 (by decide +kernel) (by decide +kernel)), (tt_g1 100 (by decide +kernel) (by decide +kernel)), ⟨by decide +kernel, by decide +kernel, by decide +kernel⟩, by decide, Or.inl (tt_g1 1135 (by decide +kernel) (by decide +kernel))⟩, (tt_g1 1137 (by decide +kernel) (by decide +kernel)), (tt_g1 66 (by decide +kernel) (by decide +kernel))⟩
theorem fi_M_184 : ai_B "CaneRoundsModel" 184 mm_M_freeGangs 0 ∧ Cond.instanceMethod mm_M_freeGangs.1 ∈ tt_g ∧ Cond.selects mm_M_freeGangs.1.cls mm_M_freeGangs.1 mm_M_freeGangs.1 ∈ tt_g := ⟨⟨(tt_g1 1142 (by decide +kernel) (by decide +kernel)), (tt_g1 100 (by decide +kernel) (by decide +kernel)), ⟨by decide +kernel, by decide +kernel, by decide +kernel⟩, by decide, Or.inl (tt_g1 1139 (by decide +kernel) (by decide +kernel))⟩, (tt_g1 1141 (by decide +kernel) (by decide +kernel)), (tt_g1 67 (by decide +kernel) (by decide +kernel))⟩
theorem fi_M_187 : ai_B "CaneRoundsModel" 187 mm_M_sweetAt 2 ∧ Cond.instanceMethod mm_M_sweetAt.1 ∈ tt_g ∧ Cond.selects mm_M_sweetAt.1.cls mm_M_sweetAt.1 mm_M_sweetAt.1 ∈ tt_g := ⟨⟨(tt_g1 1150 (by decide +kernel) (by decide +kernel)), (tt_g1 100 (by decide +kernel) (by decide +kernel)), ⟨by decide +kernel, by decide +kernel, by decide +kernel⟩, by decide, Or.inl (tt_g1 1147 (by decide +kernel) (by decide +kernel))⟩, (tt_g1 1149 (by decide +kernel) (by decide +kernel)), (tt_g1 68 (by decide +kernel) (by decide +kernel))⟩
theorem fi_M_199 : ai_B "CaneRoundsModel" 199 mm_M_left 1 ∧ Cond.instanceMethod mm_M_left.1 ∈ tt_g ∧ Cond.selects mm_M_left.1.cls mm_M_left.1 mm_M_left.1 ∈ tt_g := ⟨⟨(tt_g1 1186 (by decide +kernel) (by decide +kernel)), (tt_g1 100 (by decide +kernel) (by decide +kernel)), ⟨by decide +kernel, by decide +kernel, by decide +kernel⟩, by decide, Or.inl (tt_g1 1183 (by decide +kernel) (by decide +kernel))⟩, (tt_g1 1185 (by decide +kernel) (by decide +kernel)), (tt_g1 75 (by decide +kernel) (by decide +kernel))⟩
theorem fi_M_202 : ai_B "CaneRoundsModel" 202 mm_M_firstToDie 0 ∧ Cond.instanceMethod mm_M_firstToDie.1 ∈ tt_g ∧ Cond.selects mm_M_firstToDie.1.cls mm_M_firstToDie.1 mm_M_firstToDie.1 ∈ tt_g := ⟨⟨(tt_g1 1182 (by decide +kernel) (by decide +kernel)), (tt_g1 100 (by decide +kernel) (by decide +kernel)), ⟨by decide +kernel, by decide +kernel, by decide +kernel⟩, by decide, Or.inl (tt_g1 1179 (by decide +kernel) (by decide +kernel))⟩, (tt_g1 1181 (by decide +kernel) (by decide +kernel)), (tt_g1 74 (by decide +kernel) (by decide +kernel))⟩
theorem fi_M_208 : ai_B "CaneRoundsModel" 208 mm_M_work 5 ∧ Cond.instanceMethod mm_M_work.1 ∈ tt_g ∧ Cond.selects mm_M_work.1.cls mm_M_work.1 mm_M_work.1 ∈ tt_g := ⟨⟨(tt_g1 1194 (by decide +kernel) (by decide +kernel)), (tt_g1 100 (by decide +kernel) (by decide +kernel)), ⟨by decide +kernel, by decide +kernel, by decide +kernel⟩, by decide, Or.inl (tt_g1 1191 (by decide +kernel) (by decide +kernel))⟩, (tt_g1 1193 (by decide +kernel) (by decide +kernel)), (tt_g1 77 (by decide +kernel) (by decide +kernel))⟩
theorem fi_M_212 : ai_B "CaneRoundsModel" 212 mm_M_isHindered 2 ∧ Cond.instanceMethod mm_M_isHindered.1 ∈ tt_g ∧ Cond.selects mm_M_isHindered.1.cls mm_M_isHindered.1 mm_M_isHindered.1 ∈ tt_g := ⟨⟨(tt_g1 1162 (by decide +kernel) (by decide +kernel)), (tt_g1 100 (by decide +kernel) (by decide +kernel)), ⟨by decide +kernel, by decide +kernel, by decide +kernel⟩, by decide, Or.inl (tt_g1 1159 (by decide +kernel) (by decide +kernel))⟩, (tt_g1 1161 (by decide +kernel) (by decide +kernel)), (tt_g1 70 (by decide +kernel) (by decide +kernel))⟩
theorem fi_M_216 : ai_B "CaneRoundsModel" 216 mm_M_cutOn 1 ∧ Cond.instanceMethod mm_M_cutOn.1 ∈ tt_g ∧ Cond.selects mm_M_cutOn.1.cls mm_M_cutOn.1 mm_M_cutOn.1 ∈ tt_g := ⟨⟨(tt_g1 1166 (by decide +kernel) (by decide +kernel)), (tt_g1 100 (by decide +kernel) (by decide +kernel)), ⟨by decide +kernel, by decide +kernel, by decide +kernel⟩, by decide, Or.inl (tt_g1 1163 (by decide +kernel) (by decide +kernel))⟩, (tt_g1 1165 (by decide +kernel) (by decide +kernel)), (tt_g1 71 (by decide +kernel) (by decide +kernel))⟩
theorem fi_M_220 : ai_B "CaneRoundsModel" 220 mm_M_send 1 ∧ Cond.instanceMethod mm_M_send.1 ∈ tt_g ∧ Cond.selects mm_M_send.1.cls mm_M_send.1 mm_M_send.1 ∈ tt_g := ⟨⟨(tt_g1 1171 (by decide +kernel) (by decide +kernel)), (tt_g1 100 (by decide +kernel) (by decide +kernel)), ⟨by decide +kernel, by decide +kernel, by decide +kernel⟩, by decide, Or.inl (tt_g1 1168 (by decide +kernel) (by decide +kernel))⟩, (tt_g1 1170 (by decide +kernel) (by decide +kernel)), (tt_g1 72 (by decide +kernel) (by decide +kernel))⟩
theorem fi_M_223 : ai_B "CaneRoundsModel" 223 mm_M_mill 0 ∧ Cond.instanceMethod mm_M_mill.1 ∈ tt_g ∧ Cond.selects mm_M_mill.1.cls mm_M_mill.1 mm_M_mill.1 ∈ tt_g := ⟨⟨(tt_g1 1178 (by decide +kernel) (by decide +kernel)), (tt_g1 100 (by decide +kernel) (by decide +kernel)), ⟨by decide +kernel, by decide +kernel, by decide +kernel⟩, by decide, Or.inl (tt_g1 1175 (by decide +kernel) (by decide +kernel))⟩, (tt_g1 1177 (by decide +kernel) (by decide +kernel)), (tt_g1 73 (by decide +kernel) (by decide +kernel))⟩
theorem fi_M_229 : ai_B "CaneRoundsModel" 229 mm_M_payDay 0 ∧ Cond.instanceMethod mm_M_payDay.1 ∈ tt_g ∧ Cond.selects mm_M_payDay.1.cls mm_M_payDay.1 mm_M_payDay.1 ∈ tt_g := ⟨⟨(tt_g1 1190 (by decide +kernel) (by decide +kernel)), (tt_g1 100 (by decide +kernel) (by decide +kernel)), ⟨by decide +kernel, by decide +kernel, by decide +kernel⟩, by decide, Or.inl (tt_g1 1187 (by decide +kernel) (by decide +kernel))⟩, (tt_g1 1189 (by decide +kernel) (by decide +kernel)), (tt_g1 76 (by decide +kernel) (by decide +kernel))⟩
theorem fi_M_232 : ai_B "CaneRoundsModel" 232 mm_M_hour 0 ∧ Cond.instanceMethod mm_M_hour.1 ∈ tt_g ∧ Cond.selects mm_M_hour.1.cls mm_M_hour.1 mm_M_hour.1 ∈ tt_g := ⟨⟨(tt_g1 1158 (by decide +kernel) (by decide +kernel)), (tt_g1 100 (by decide +kernel) (by decide +kernel)), ⟨by decide +kernel, by decide +kernel, by decide +kernel⟩, by decide, Or.inl (tt_g1 1155 (by decide +kernel) (by decide +kernel))⟩, (tt_g1 1157 (by decide +kernel) (by decide +kernel)), (tt_g1 69 (by decide +kernel) (by decide +kernel))⟩
theorem fi_M_238 : ai_B "CaneRoundsModel" 238 mm_M_four 1 ∧ Cond.instanceMethod mm_M_four.1 ∈ tt_g ∧ Cond.selects mm_M_four.1.cls mm_M_four.1 mm_M_four.1 ∈ tt_g := ⟨⟨(tt_g1 1210 (by decide +kernel) (by decide +kernel)), (tt_g1 100 (by decide +kernel) (by decide +kernel)), ⟨by decide +kernel, by decide +kernel, by decide +kernel⟩, by decide, Or.inl (tt_g1 1207 (by decide +kernel) (by decide +kernel))⟩, (tt_g1 1209 (by decide +kernel) (by decide +kernel)), (tt_g1 78 (by decide +kernel) (by decide +kernel))⟩
theorem fi_M_244 : ai_B "CaneRoundsModel" 244 mm_M_see 1 ∧ Cond.instanceMethod mm_M_see.1 ∈ tt_g ∧ Cond.selects mm_M_see.1.cls mm_M_see.1 mm_M_see.1 ∈ tt_g := ⟨⟨(tt_g1 1230 (by decide +kernel) (by decide +kernel)), (tt_g1 100 (by decide +kernel) (by decide +kernel)), ⟨by decide +kernel, by decide +kernel, by decide +kernel⟩, by decide, Or.inl (tt_g1 1227 (by decide +kernel) (by decide +kernel))⟩, (tt_g1 1229 (by decide +kernel) (by decide +kernel)), (tt_g1 81 (by decide +kernel) (by decide +kernel))⟩
theorem fi_M_277 : ai_B "CaneRoundsModel" 277 mm_M_emit 2 ∧ Cond.instanceMethod mm_M_emit.1 ∈ tt_g ∧ Cond.selects mm_M_emit.1.cls mm_M_emit.1 mm_M_emit.1 ∈ tt_g := ⟨⟨(tt_g1 1254 (by decide +kernel) (by decide +kernel)), (tt_g1 100 (by decide +kernel) (by decide +kernel)), ⟨by decide +kernel, by decide +kernel, by decide +kernel⟩, by decide, Or.inl (tt_g1 1251 (by decide +kernel) (by decide +kernel))⟩, (tt_g1 1253 (by decide +kernel) (by decide +kernel)), (tt_g1 84 (by decide +kernel) (by decide +kernel))⟩
theorem fi_M_281 : ai_B "CaneRoundsModel" 281 mm_M_whole 0 ∧ Cond.instanceMethod mm_M_whole.1 ∈ tt_g ∧ Cond.selects mm_M_whole.1.cls mm_M_whole.1 mm_M_whole.1 ∈ tt_g := ⟨⟨(tt_g1 1262 (by decide +kernel) (by decide +kernel)), (tt_g1 100 (by decide +kernel) (by decide +kernel)), ⟨by decide +kernel, by decide +kernel, by decide +kernel⟩, by decide, Or.inl (tt_g1 1259 (by decide +kernel) (by decide +kernel))⟩, (tt_g1 1261 (by decide +kernel) (by decide +kernel)), (tt_g1 86 (by decide +kernel) (by decide +kernel))⟩
theorem fi_M_288 : ai_B "CaneRoundsModel" 288 mm_M_nextToken 0 ∧ Cond.instanceMethod mm_M_nextToken.1 ∈ tt_g ∧ Cond.selects mm_M_nextToken.1.cls mm_M_nextToken.1 mm_M_nextToken.1 ∈ tt_g := ⟨⟨(tt_g1 1226 (by decide +kernel) (by decide +kernel)), (tt_g1 100 (by decide +kernel) (by decide +kernel)), ⟨by decide +kernel, by decide +kernel, by decide +kernel⟩, by decide, Or.inl (tt_g1 1223 (by decide +kernel) (by decide +kernel))⟩, (tt_g1 1225 (by decide +kernel) (by decide +kernel)), (tt_g1 80 (by decide +kernel) (by decide +kernel))⟩
theorem fi_M_291 : ai_B "CaneRoundsModel" 291 mm_M_push 1 ∧ Cond.instanceMethod mm_M_push.1 ∈ tt_g ∧ Cond.selects mm_M_push.1.cls mm_M_push.1 mm_M_push.1 ∈ tt_g := ⟨⟨(tt_g1 1258 (by decide +kernel) (by decide +kernel)), (tt_g1 100 (by decide +kernel) (by decide +kernel)), ⟨by decide +kernel, by decide +kernel, by decide +kernel⟩, by decide, Or.inl (tt_g1 1255 (by decide +kernel) (by decide +kernel))⟩, (tt_g1 1257 (by decide +kernel) (by decide +kernel)), (tt_g1 85 (by decide +kernel) (by decide +kernel))⟩
theorem fi_M_294 : ai_B "CaneRoundsModel" 294 mm_M_settle 1 ∧ Cond.instanceMethod mm_M_settle.1 ∈ tt_g ∧ Cond.selects mm_M_settle.1.cls mm_M_settle.1 mm_M_settle.1 ∈ tt_g := ⟨⟨(tt_g1 1250 (by decide +kernel) (by decide +kernel)), (tt_g1 100 (by decide +kernel) (by decide +kernel)), ⟨by decide +kernel, by decide +kernel, by decide +kernel⟩, by decide, Or.inl (tt_g1 1247 (by decide +kernel) (by decide +kernel))⟩, (tt_g1 1249 (by decide +kernel) (by decide +kernel)), (tt_g1 83 (by decide +kernel) (by decide +kernel))⟩
theorem fi_M_297 : ai_B "CaneRoundsModel" 297 mm_M_behind 0 ∧ Cond.instanceMethod mm_M_behind.1 ∈ tt_g ∧ Cond.selects mm_M_behind.1.cls mm_M_behind.1 mm_M_behind.1 ∈ tt_g := ⟨⟨(tt_g1 1246 (by decide +kernel) (by decide +kernel)), (tt_g1 100 (by decide +kernel) (by decide +kernel)), ⟨by decide +kernel, by decide +kernel, by decide +kernel⟩, by decide, Or.inl (tt_g1 1243 (by decide +kernel) (by decide +kernel))⟩, (tt_g1 1245 (by decide +kernel) (by decide +kernel)), (tt_g1 82 (by decide +kernel) (by decide +kernel))⟩
theorem fi_M_300 : ai_B "CaneRoundsModel" 300 mm_M_begin 0 ∧ Cond.instanceMethod mm_M_begin.1 ∈ tt_g ∧ Cond.selects mm_M_begin.1.cls mm_M_begin.1 mm_M_begin.1 ∈ tt_g := ⟨⟨(tt_g1 1266 (by decide +kernel) (by decide +kernel)), (tt_g1 100 (by decide +kernel) (by decide +kernel)), ⟨by decide +kernel, by decide +kernel, by decide +kernel⟩, by decide, Or.inl (tt_g1 1263 (by decide +kernel) (by decide +kernel))⟩, (tt_g1 1265 (by decide +kernel) (by decide +kernel)), (tt_g1 87 (by decide +kernel) (by decide +kernel))⟩
theorem fi_M_303 : ai_B "CaneRoundsModel" 303 mm_M_readText 0 ∧ Cond.instanceMethod mm_M_readText.1 ∈ tt_g ∧ Cond.selects mm_M_readText.1.cls mm_M_readText.1 mm_M_readText.1 ∈ tt_g := ⟨⟨(tt_g1 1222 (by decide +kernel) (by decide +kernel)), (tt_g1 100 (by decide +kernel) (by decide +kernel)), ⟨by decide +kernel, by decide +kernel, by decide +kernel⟩, by decide, Or.inl (tt_g1 1219 (by decide +kernel) (by decide +kernel))⟩, (tt_g1 1221 (by decide +kernel) (by decide +kernel)), (tt_g1 79 (by decide +kernel) (by decide +kernel))⟩
theorem fi_M_323 : ai_B "CaneRoundsModel" 323 mm_M_dyingFirst 1 ∧ Cond.instanceMethod mm_M_dyingFirst.1 ∈ tt_g ∧ Cond.selects mm_M_dyingFirst.1.cls mm_M_dyingFirst.1 mm_M_dyingFirst.1 ∈ tt_g := ⟨⟨(tt_g1 1315 (by decide +kernel) (by decide +kernel)), (tt_g1 100 (by decide +kernel) (by decide +kernel)), ⟨by decide +kernel, by decide +kernel, by decide +kernel⟩, by decide, Or.inl (tt_g1 1312 (by decide +kernel) (by decide +kernel))⟩, (tt_g1 1314 (by decide +kernel) (by decide +kernel)), (tt_g1 91 (by decide +kernel) (by decide +kernel))⟩
theorem fi_M_329 : ai_B "CaneRoundsModel" 329 mm_M_could 1 ∧ Cond.instanceMethod mm_M_could.1 ∈ tt_g ∧ Cond.selects mm_M_could.1.cls mm_M_could.1 mm_M_could.1 ∈ tt_g := ⟨⟨(tt_g1 1311 (by decide +kernel) (by decide +kernel)), (tt_g1 100 (by decide +kernel) (by decide +kernel)), ⟨by decide +kernel, by decide +kernel, by decide +kernel⟩, by decide, Or.inl (tt_g1 1308 (by decide +kernel) (by decide +kernel))⟩, (tt_g1 1310 (by decide +kernel) (by decide +kernel)), (tt_g1 90 (by decide +kernel) (by decide +kernel))⟩
theorem fi_M_332 : ai_B "CaneRoundsModel" 332 mm_M_isSet 2 ∧ Cond.instanceMethod mm_M_isSet.1 ∈ tt_g ∧ Cond.selects mm_M_isSet.1.cls mm_M_isSet.1 mm_M_isSet.1 ∈ tt_g := ⟨⟨(tt_g1 1303 (by decide +kernel) (by decide +kernel)), (tt_g1 100 (by decide +kernel) (by decide +kernel)), ⟨by decide +kernel, by decide +kernel, by decide +kernel⟩, by decide, Or.inl (tt_g1 1300 (by decide +kernel) (by decide +kernel))⟩, (tt_g1 1302 (by decide +kernel) (by decide +kernel)), (tt_g1 88 (by decide +kernel) (by decide +kernel))⟩
theorem fi_M_336 : ai_B "CaneRoundsModel" 336 mm_M_find 2 ∧ Cond.instanceMethod mm_M_find.1 ∈ tt_g ∧ Cond.selects mm_M_find.1.cls mm_M_find.1 mm_M_find.1 ∈ tt_g := ⟨⟨(tt_g1 1307 (by decide +kernel) (by decide +kernel)), (tt_g1 100 (by decide +kernel) (by decide +kernel)), ⟨by decide +kernel, by decide +kernel, by decide +kernel⟩, by decide, Or.inl (tt_g1 1304 (by decide +kernel) (by decide +kernel))⟩, (tt_g1 1306 (by decide +kernel) (by decide +kernel)), (tt_g1 89 (by decide +kernel) (by decide +kernel))⟩
theorem fc_M_175 : Cond.constant "CaneRoundsModel" 175 (1103515245) ∈ tt_g := (tt_g1 1122 (by decide +kernel) (by decide +kernel))
theorem fc_M_194 : Cond.constant "CaneRoundsModel" 194 (-2000000000) ∈ tt_g := (tt_g1 1167 (by decide +kernel) (by decide +kernel))
theorem fc_M_306 : Cond.constantLong "CaneRoundsModel" 306 (1000000000) ∈ tt_g := (tt_g1 1201 (by decide +kernel) (by decide +kernel))
theorem fc_M_308 : Cond.constantLong "CaneRoundsModel" 308 (-1000000000) ∈ tt_g := (tt_g1 1202 (by decide +kernel) (by decide +kernel))
theorem fc_M_259 : Cond.constant "CaneRoundsModel" 259 (100000) ∈ tt_g := (tt_g1 1234 (by decide +kernel) (by decide +kernel))
theorem fc_M_266 : Cond.constant "CaneRoundsModel" 266 (1799406) ∈ tt_g := (tt_g1 1241 (by decide +kernel) (by decide +kernel))
theorem fc_M_267 : Cond.constant "CaneRoundsModel" 267 (1798392) ∈ tt_g := (tt_g1 1242 (by decide +kernel) (by decide +kernel))
theorem fc_M_318 : Cond.constant "CaneRoundsModel" 318 (-1000000) ∈ tt_g := (tt_g1 1278 (by decide +kernel) (by decide +kernel))
theorem fc_M_319 : Cond.constant "CaneRoundsModel" 319 (1000000) ∈ tt_g := (tt_g1 1279 (by decide +kernel) (by decide +kernel))
theorem fp_M_7 {mn : String} : af_put "CaneRoundsModel" mn 7 11 4 (.int) := ⟨_, _, _, cs_y11, rfl, by decide, cs_w11, cs_p11, cs_n11, rfl, Or.inl ⟨rfl, Or.inl (tt_g1 905 (by decide +kernel) (by decide +kernel))⟩⟩
theorem fp_M_13 {mn : String} : af_put "CaneRoundsModel" mn 13 11 5 (.int) := ⟨_, _, _, cs_y11, rfl, by decide, cs_w11, cs_p11, cs_n11, rfl, Or.inl ⟨rfl, Or.inl (tt_g1 906 (by decide +kernel) (by decide +kernel))⟩⟩
theorem fp_M_16 {mn : String} : af_put "CaneRoundsModel" mn 16 11 6 (.int) := ⟨_, _, _, cs_y11, rfl, by decide, cs_w11, cs_p11, cs_n11, rfl, Or.inl ⟨rfl, Or.inl (tt_g1 907 (by decide +kernel) (by decide +kernel))⟩⟩
theorem fp_M_19 {mn : String} : af_put "CaneRoundsModel" mn 19 11 7 (.int) := ⟨_, _, _, cs_y11, rfl, by decide, cs_w11, cs_p11, cs_n11, rfl, Or.inl ⟨rfl, Or.inl (tt_g1 908 (by decide +kernel) (by decide +kernel))⟩⟩
theorem fp_M_22 : af_put "CaneRoundsModel" "<init>" 22 11 8 (.array .long) := ⟨_, _, _, cs_y11, rfl, by decide, cs_w11, cs_p11, cs_n11, rfl, Or.inr ⟨rfl, rfl, rfl, tt_g1 909 (by decide +kernel) (by decide +kernel)⟩⟩
theorem fp_M_26 : af_put "CaneRoundsModel" "<init>" 26 11 9 (.array .int) := ⟨_, _, _, cs_y11, rfl, by decide, cs_w11, cs_p11, cs_n11, rfl, Or.inr ⟨rfl, rfl, rfl, tt_g1 910 (by decide +kernel) (by decide +kernel)⟩⟩
theorem fp_M_30 : af_put "CaneRoundsModel" "<init>" 30 11 10 (.array .int) := ⟨_, _, _, cs_y11, rfl, by decide, cs_w11, cs_p11, cs_n11, rfl, Or.inr ⟨rfl, rfl, rfl, tt_g1 911 (by decide +kernel) (by decide +kernel)⟩⟩
theorem fp_M_33 : af_put "CaneRoundsModel" "<init>" 33 11 11 (.array .int) := ⟨_, _, _, cs_y11, rfl, by decide, cs_w11, cs_p11, cs_n11, rfl, Or.inr ⟨rfl, rfl, rfl, tt_g1 912 (by decide +kernel) (by decide +kernel)⟩⟩
theorem fp_M_36 : af_put "CaneRoundsModel" "<init>" 36 11 12 (.array .int) := ⟨_, _, _, cs_y11, rfl, by decide, cs_w11, cs_p11, cs_n11, rfl, Or.inr ⟨rfl, rfl, rfl, tt_g1 913 (by decide +kernel) (by decide +kernel)⟩⟩
theorem fp_M_39 : af_put "CaneRoundsModel" "<init>" 39 11 13 (.array .int) := ⟨_, _, _, cs_y11, rfl, by decide, cs_w11, cs_p11, cs_n11, rfl, Or.inr ⟨rfl, rfl, rfl, tt_g1 914 (by decide +kernel) (by decide +kernel)⟩⟩
theorem fp_M_42 : af_put "CaneRoundsModel" "<init>" 42 11 14 (.array .int) := ⟨_, _, _, cs_y11, rfl, by decide, cs_w11, cs_p11, cs_n11, rfl, Or.inr ⟨rfl, rfl, rfl, tt_g1 915 (by decide +kernel) (by decide +kernel)⟩⟩
theorem fp_M_45 : af_put "CaneRoundsModel" "<init>" 45 11 15 (.array .int) := ⟨_, _, _, cs_y11, rfl, by decide, cs_w11, cs_p11, cs_n11, rfl, Or.inr ⟨rfl, rfl, rfl, tt_g1 916 (by decide +kernel) (by decide +kernel)⟩⟩
theorem fp_M_48 : af_put "CaneRoundsModel" "<init>" 48 11 16 (.array .int) := ⟨_, _, _, cs_y11, rfl, by decide, cs_w11, cs_p11, cs_n11, rfl, Or.inr ⟨rfl, rfl, rfl, tt_g1 917 (by decide +kernel) (by decide +kernel)⟩⟩
theorem fp_M_51 : af_put "CaneRoundsModel" "<init>" 51 11 17 (.array .int) := ⟨_, _, _, cs_y11, rfl, by decide, cs_w11, cs_p11, cs_n11, rfl, Or.inr ⟨rfl, rfl, rfl, tt_g1 918 (by decide +kernel) (by decide +kernel)⟩⟩
theorem fp_M_54 : af_put "CaneRoundsModel" "<init>" 54 11 18 (.array .int) := ⟨_, _, _, cs_y11, rfl, by decide, cs_w11, cs_p11, cs_n11, rfl, Or.inr ⟨rfl, rfl, rfl, tt_g1 919 (by decide +kernel) (by decide +kernel)⟩⟩
theorem fp_M_57 : af_put "CaneRoundsModel" "<init>" 57 11 19 (.array .int) := ⟨_, _, _, cs_y11, rfl, by decide, cs_w11, cs_p11, cs_n11, rfl, Or.inr ⟨rfl, rfl, rfl, tt_g1 920 (by decide +kernel) (by decide +kernel)⟩⟩
theorem fp_M_60 : af_put "CaneRoundsModel" "<init>" 60 11 20 (.array .int) := ⟨_, _, _, cs_y11, rfl, by decide, cs_w11, cs_p11, cs_n11, rfl, Or.inr ⟨rfl, rfl, rfl, tt_g1 921 (by decide +kernel) (by decide +kernel)⟩⟩
theorem fp_M_63 : af_put "CaneRoundsModel" "<init>" 63 11 22 (.array .boolean) := ⟨_, _, _, cs_y11, rfl, by decide, cs_w11, cs_p11, cs_n11, rfl, Or.inr ⟨rfl, rfl, rfl, tt_g1 923 (by decide +kernel) (by decide +kernel)⟩⟩
theorem fp_M_67 : af_put "CaneRoundsModel" "<init>" 67 11 23 (.array .int) := ⟨_, _, _, cs_y11, rfl, by decide, cs_w11, cs_p11, cs_n11, rfl, Or.inr ⟨rfl, rfl, rfl, tt_g1 924 (by decide +kernel) (by decide +kernel)⟩⟩
theorem fp_M_70 : af_put "CaneRoundsModel" "<init>" 70 11 24 (.array .int) := ⟨_, _, _, cs_y11, rfl, by decide, cs_w11, cs_p11, cs_n11, rfl, Or.inr ⟨rfl, rfl, rfl, tt_g1 925 (by decide +kernel) (by decide +kernel)⟩⟩
theorem fp_M_73 : af_put "CaneRoundsModel" "<init>" 73 11 25 (.array .int) := ⟨_, _, _, cs_y11, rfl, by decide, cs_w11, cs_p11, cs_n11, rfl, Or.inr ⟨rfl, rfl, rfl, tt_g1 926 (by decide +kernel) (by decide +kernel)⟩⟩
theorem fp_M_76 : af_put "CaneRoundsModel" "<init>" 76 11 26 (.array .int) := ⟨_, _, _, cs_y11, rfl, by decide, cs_w11, cs_p11, cs_n11, rfl, Or.inr ⟨rfl, rfl, rfl, tt_g1 927 (by decide +kernel) (by decide +kernel)⟩⟩
theorem fp_M_79 : af_put "CaneRoundsModel" "<init>" 79 11 27 (.array .int) := ⟨_, _, _, cs_y11, rfl, by decide, cs_w11, cs_p11, cs_n11, rfl, Or.inr ⟨rfl, rfl, rfl, tt_g1 928 (by decide +kernel) (by decide +kernel)⟩⟩
theorem fp_M_82 : af_put "CaneRoundsModel" "<init>" 82 11 28 (.array .int) := ⟨_, _, _, cs_y11, rfl, by decide, cs_w11, cs_p11, cs_n11, rfl, Or.inr ⟨rfl, rfl, rfl, tt_g1 929 (by decide +kernel) (by decide +kernel)⟩⟩
theorem fp_M_85 : af_put "CaneRoundsModel" "<init>" 85 11 29 (.array .int) := ⟨_, _, _, cs_y11, rfl, by decide, cs_w11, cs_p11, cs_n11, rfl, Or.inr ⟨rfl, rfl, rfl, tt_g1 930 (by decide +kernel) (by decide +kernel)⟩⟩
theorem fp_M_88 : af_put "CaneRoundsModel" "<init>" 88 11 30 (.array .int) := ⟨_, _, _, cs_y11, rfl, by decide, cs_w11, cs_p11, cs_n11, rfl, Or.inr ⟨rfl, rfl, rfl, tt_g1 931 (by decide +kernel) (by decide +kernel)⟩⟩
theorem fp_M_91 : af_put "CaneRoundsModel" "<init>" 91 11 31 (.array .int) := ⟨_, _, _, cs_y11, rfl, by decide, cs_w11, cs_p11, cs_n11, rfl, Or.inr ⟨rfl, rfl, rfl, tt_g1 932 (by decide +kernel) (by decide +kernel)⟩⟩
theorem fp_M_94 : af_put "CaneRoundsModel" "<init>" 94 11 32 (.array .int) := ⟨_, _, _, cs_y11, rfl, by decide, cs_w11, cs_p11, cs_n11, rfl, Or.inr ⟨rfl, rfl, rfl, tt_g1 933 (by decide +kernel) (by decide +kernel)⟩⟩
theorem fp_M_97 : af_put "CaneRoundsModel" "<init>" 97 11 33 (.array .int) := ⟨_, _, _, cs_y11, rfl, by decide, cs_w11, cs_p11, cs_n11, rfl, Or.inr ⟨rfl, rfl, rfl, tt_g1 934 (by decide +kernel) (by decide +kernel)⟩⟩
theorem fp_M_100 : af_put "CaneRoundsModel" "<init>" 100 11 34 (.array .int) := ⟨_, _, _, cs_y11, rfl, by decide, cs_w11, cs_p11, cs_n11, rfl, Or.inr ⟨rfl, rfl, rfl, tt_g1 935 (by decide +kernel) (by decide +kernel)⟩⟩
theorem fp_M_103 : af_put "CaneRoundsModel" "<init>" 103 11 35 (.array .byte) := ⟨_, _, _, cs_y11, rfl, by decide, cs_w11, cs_p11, cs_n11, rfl, Or.inr ⟨rfl, rfl, rfl, tt_g1 936 (by decide +kernel) (by decide +kernel)⟩⟩
theorem fp_M_107 {mn : String} : af_put "CaneRoundsModel" mn 107 11 38 (.int) := ⟨_, _, _, cs_y11, rfl, by decide, cs_w11, cs_p11, cs_n11, rfl, Or.inl ⟨rfl, Or.inl (tt_g1 939 (by decide +kernel) (by decide +kernel))⟩⟩
theorem fp_M_110 : af_put "CaneRoundsModel" "<init>" 110 11 40 (.array .int) := ⟨_, _, _, cs_y11, rfl, by decide, cs_w11, cs_p11, cs_n11, rfl, Or.inr ⟨rfl, rfl, rfl, tt_g1 941 (by decide +kernel) (by decide +kernel)⟩⟩
theorem fp_M_113 : af_put "CaneRoundsModel" "<init>" 113 11 41 (.array .boolean) := ⟨_, _, _, cs_y11, rfl, by decide, cs_w11, cs_p11, cs_n11, rfl, Or.inr ⟨rfl, rfl, rfl, tt_g1 942 (by decide +kernel) (by decide +kernel)⟩⟩
theorem fp_M_116 : af_put "CaneRoundsModel" "<init>" 116 11 42 (.array .int) := ⟨_, _, _, cs_y11, rfl, by decide, cs_w11, cs_p11, cs_n11, rfl, Or.inr ⟨rfl, rfl, rfl, tt_g1 943 (by decide +kernel) (by decide +kernel)⟩⟩
theorem fp_M_119 : af_put "CaneRoundsModel" "<init>" 119 11 45 (.array .int) := ⟨_, _, _, cs_y11, rfl, by decide, cs_w11, cs_p11, cs_n11, rfl, Or.inr ⟨rfl, rfl, rfl, tt_g1 946 (by decide +kernel) (by decide +kernel)⟩⟩
theorem fp_M_122 : af_put "CaneRoundsModel" "<init>" 122 11 46 (.array .int) := ⟨_, _, _, cs_y11, rfl, by decide, cs_w11, cs_p11, cs_n11, rfl, Or.inr ⟨rfl, rfl, rfl, tt_g1 947 (by decide +kernel) (by decide +kernel)⟩⟩
theorem fp_M_125 {mn : String} : af_put "CaneRoundsModel" mn 125 11 47 (.int) := ⟨_, _, _, cs_y11, rfl, by decide, cs_w11, cs_p11, cs_n11, rfl, Or.inl ⟨rfl, Or.inl (tt_g1 948 (by decide +kernel) (by decide +kernel))⟩⟩
theorem fp_M_128 {mn : String} : af_put "CaneRoundsModel" mn 128 11 48 (.int) := ⟨_, _, _, cs_y11, rfl, by decide, cs_w11, cs_p11, cs_n11, rfl, Or.inl ⟨rfl, Or.inl (tt_g1 949 (by decide +kernel) (by decide +kernel))⟩⟩
theorem fp_M_131 : af_put "CaneRoundsModel" "<init>" 131 11 56 (.array .int) := ⟨_, _, _, cs_y11, rfl, by decide, cs_w11, cs_p11, cs_n11, rfl, Or.inr ⟨rfl, rfl, rfl, tt_g1 957 (by decide +kernel) (by decide +kernel)⟩⟩
theorem fp_M_134 : af_put "CaneRoundsModel" "<init>" 134 11 58 (.array .long) := ⟨_, _, _, cs_y11, rfl, by decide, cs_w11, cs_p11, cs_n11, rfl, Or.inr ⟨rfl, rfl, rfl, tt_g1 959 (by decide +kernel) (by decide +kernel)⟩⟩
theorem fp_M_137 : af_put "CaneRoundsModel" "<init>" 137 11 59 (.array .int) := ⟨_, _, _, cs_y11, rfl, by decide, cs_w11, cs_p11, cs_n11, rfl, Or.inr ⟨rfl, rfl, rfl, tt_g1 960 (by decide +kernel) (by decide +kernel)⟩⟩
theorem fp_M_140 : af_put "CaneRoundsModel" "<init>" 140 11 60 (.array .int) := ⟨_, _, _, cs_y11, rfl, by decide, cs_w11, cs_p11, cs_n11, rfl, Or.inr ⟨rfl, rfl, rfl, tt_g1 961 (by decide +kernel) (by decide +kernel)⟩⟩
theorem fp_M_143 : af_put "CaneRoundsModel" "<init>" 143 11 61 (.array .int) := ⟨_, _, _, cs_y11, rfl, by decide, cs_w11, cs_p11, cs_n11, rfl, Or.inr ⟨rfl, rfl, rfl, tt_g1 962 (by decide +kernel) (by decide +kernel)⟩⟩
theorem fp_M_146 : af_put "CaneRoundsModel" "<init>" 146 11 62 (.array .int) := ⟨_, _, _, cs_y11, rfl, by decide, cs_w11, cs_p11, cs_n11, rfl, Or.inr ⟨rfl, rfl, rfl, tt_g1 963 (by decide +kernel) (by decide +kernel)⟩⟩
theorem fp_M_149 {mn : String} : af_put "CaneRoundsModel" mn 149 11 44 (.int) := ⟨_, _, _, cs_y11, rfl, by decide, cs_w11, cs_p11, cs_n11, rfl, Or.inl ⟨rfl, Or.inl (tt_g1 945 (by decide +kernel) (by decide +kernel))⟩⟩
theorem fp_M_152 {mn : String} : af_put "CaneRoundsModel" mn 152 11 2 (.int) := ⟨_, _, _, cs_y11, rfl, by decide, cs_w11, cs_p11, cs_n11, rfl, Or.inl ⟨rfl, Or.inl (tt_g1 903 (by decide +kernel) (by decide +kernel))⟩⟩
theorem fp_M_159 {mn : String} : af_put "CaneRoundsModel" mn 159 11 0 (.int) := ⟨_, _, _, cs_y11, rfl, by decide, cs_w11, cs_p11, cs_n11, rfl, Or.inl ⟨rfl, Or.inl (tt_g1 901 (by decide +kernel) (by decide +kernel))⟩⟩
theorem fp_M_166 {mn : String} : af_put "CaneRoundsModel" mn 166 11 1 (.int) := ⟨_, _, _, cs_y11, rfl, by decide, cs_w11, cs_p11, cs_n11, rfl, Or.inl ⟨rfl, Or.inl (tt_g1 902 (by decide +kernel) (by decide +kernel))⟩⟩
theorem fp_M_169 {mn : String} : af_put "CaneRoundsModel" mn 169 11 21 (.int) := ⟨_, _, _, cs_y11, rfl, by decide, cs_w11, cs_p11, cs_n11, rfl, Or.inl ⟨rfl, Or.inl (tt_g1 922 (by decide +kernel) (by decide +kernel))⟩⟩
theorem fp_M_172 {mn : String} : af_put "CaneRoundsModel" mn 172 11 39 (.int) := ⟨_, _, _, cs_y11, rfl, by decide, cs_w11, cs_p11, cs_n11, rfl, Or.inl ⟨rfl, Or.inl (tt_g1 940 (by decide +kernel) (by decide +kernel))⟩⟩
theorem fp_M_191 {mn : String} : af_put "CaneRoundsModel" mn 191 11 3 (.int) := ⟨_, _, _, cs_y11, rfl, by decide, cs_w11, cs_p11, cs_n11, rfl, Or.inl ⟨rfl, Or.inl (tt_g1 904 (by decide +kernel) (by decide +kernel))⟩⟩
theorem fp_M_205 {mn : String} : af_put "CaneRoundsModel" mn 205 11 36 (.int) := ⟨_, _, _, cs_y11, rfl, by decide, cs_w11, cs_p11, cs_n11, rfl, Or.inl ⟨rfl, Or.inl (tt_g1 937 (by decide +kernel) (by decide +kernel))⟩⟩
theorem fp_M_226 {mn : String} : af_put "CaneRoundsModel" mn 226 11 37 (.int) := ⟨_, _, _, cs_y11, rfl, by decide, cs_w11, cs_p11, cs_n11, rfl, Or.inl ⟨rfl, Or.inl (tt_g1 938 (by decide +kernel) (by decide +kernel))⟩⟩
theorem fp_M_235 {mn : String} : af_put "CaneRoundsModel" mn 235 11 43 (.int) := ⟨_, _, _, cs_y11, rfl, by decide, cs_w11, cs_p11, cs_n11, rfl, Or.inl ⟨rfl, Or.inl (tt_g1 944 (by decide +kernel) (by decide +kernel))⟩⟩
theorem fp_M_241 {mn : String} : af_put "CaneRoundsModel" mn 241 11 49 (.int) := ⟨_, _, _, cs_y11, rfl, by decide, cs_w11, cs_p11, cs_n11, rfl, Or.inl ⟨rfl, Or.inl (tt_g1 950 (by decide +kernel) (by decide +kernel))⟩⟩
theorem fp_M_247 {mn : String} : af_put "CaneRoundsModel" mn 247 11 50 (.int) := ⟨_, _, _, cs_y11, rfl, by decide, cs_w11, cs_p11, cs_n11, rfl, Or.inl ⟨rfl, Or.inl (tt_g1 951 (by decide +kernel) (by decide +kernel))⟩⟩
theorem fp_M_250 {mn : String} : af_put "CaneRoundsModel" mn 250 11 51 (.int) := ⟨_, _, _, cs_y11, rfl, by decide, cs_w11, cs_p11, cs_n11, rfl, Or.inl ⟨rfl, Or.inl (tt_g1 952 (by decide +kernel) (by decide +kernel))⟩⟩
theorem fp_M_256 {mn : String} : af_put "CaneRoundsModel" mn 256 11 52 (.int) := ⟨_, _, _, cs_y11, rfl, by decide, cs_w11, cs_p11, cs_n11, rfl, Or.inl ⟨rfl, Or.inl (tt_g1 953 (by decide +kernel) (by decide +kernel))⟩⟩
theorem fp_M_268 {mn : String} : af_put "CaneRoundsModel" mn 268 11 53 (.int) := ⟨_, _, _, cs_y11, rfl, by decide, cs_w11, cs_p11, cs_n11, rfl, Or.inl ⟨rfl, Or.inl (tt_g1 954 (by decide +kernel) (by decide +kernel))⟩⟩
theorem fp_M_271 {mn : String} : af_put "CaneRoundsModel" mn 271 11 55 (.int) := ⟨_, _, _, cs_y11, rfl, by decide, cs_w11, cs_p11, cs_n11, rfl, Or.inl ⟨rfl, Or.inl (tt_g1 956 (by decide +kernel) (by decide +kernel))⟩⟩
theorem fp_M_274 {mn : String} : af_put "CaneRoundsModel" mn 274 11 54 (.int) := ⟨_, _, _, cs_y11, rfl, by decide, cs_w11, cs_p11, cs_n11, rfl, Or.inl ⟨rfl, Or.inl (tt_g1 955 (by decide +kernel) (by decide +kernel))⟩⟩
theorem fp_M_284 {mn : String} : af_put "CaneRoundsModel" mn 284 11 57 (.boolean) := ⟨_, _, _, cs_y11, rfl, by decide, cs_w11, cs_p11, cs_n11, rfl, Or.inl ⟨rfl, Or.inl (tt_g1 958 (by decide +kernel) (by decide +kernel))⟩⟩
theorem fp_M_326 {mn : String} : af_put "CaneRoundsModel" mn 326 11 63 (.int) := ⟨_, _, _, cs_y11, rfl, by decide, cs_w11, cs_p11, cs_n11, rfl, Or.inl ⟨rfl, Or.inl (tt_g1 964 (by decide +kernel) (by decide +kernel))⟩⟩
theorem fo_i : Cond.instanceMethod Lib.objectInit ∈ tt_g := (tt_g1 112 (by decide +kernel) (by decide +kernel))
theorem fo_c : Cond.code Lib.objectInit ⟨#[0xb1]⟩ 1 none ∈ tt_g := (tt_g1 113 (by decide +kernel) (by decide +kernel))
theorem fo_m : Cond.initialized "java/lang/Math" ∈ tt_g := (tt_g1 103 (by decide +kernel) (by decide +kernel))
theorem fo_maxs : Cond.static Lib.Math.max.name ∈ tt_g := (tt_g1 500 (by decide +kernel) (by decide +kernel))
theorem fo_maxc : Cond.code Lib.Math.max.name Lib.Math.max.code 2 (some .int) ∈ tt_g := (tt_g1 501 (by decide +kernel) (by decide +kernel))
theorem fo_mins : Cond.static Lib.Math.min.name ∈ tt_g := (tt_g1 523 (by decide +kernel) (by decide +kernel))
theorem fo_minc : Cond.code Lib.Math.min.name Lib.Math.min.code 2 (some .int) ∈ tt_g := (tt_g1 524 (by decide +kernel) (by decide +kernel))
theorem fo_abss : Cond.static Lib.Math.abs.name ∈ tt_g := (tt_g1 494 (by decide +kernel) (by decide +kernel))
theorem fo_absc : Cond.code Lib.Math.abs.name Lib.Math.abs.code 1 (some .int) ∈ tt_g := (tt_g1 495 (by decide +kernel) (by decide +kernel))
theorem fo_maxls : Cond.static Lib.MathLoose.max_long.x ∈ tt_g := (tt_g1 737 (by decide +kernel) (by decide +kernel))
theorem fo_maxlc : Cond.code Lib.MathLoose.max_long.x Lib.MathLoose.max_long.code 4 (some .long) ∈ tt_g := (tt_g1 738 (by decide +kernel) (by decide +kernel))
theorem fo_minls : Cond.static Lib.MathLoose.min_long.x ∈ tt_g := (tt_g1 734 (by decide +kernel) (by decide +kernel))
theorem fo_minlc : Cond.code Lib.MathLoose.min_long.x Lib.MathLoose.min_long.code 4 (some .long) ∈ tt_g := (tt_g1 735 (by decide +kernel) (by decide +kernel))
theorem fi_X_1 : Cond.methodLink "CaneRounds" 1 Lib.objectInit ∈ tt_g := (tt_g1 111 (by decide +kernel) (by decide +kernel))
theorem fi_Farms_3 : Cond.methodLink "CaneRounds$Farms" 3 Lib.objectInit ∈ tt_g := (tt_g1 119 (by decide +kernel) (by decide +kernel))
theorem fi_Weather_1 : Cond.methodLink "CaneRounds$Weather" 1 Lib.objectInit ∈ tt_g := (tt_g1 144 (by decide +kernel) (by decide +kernel))
theorem fi_Bundles_3 : Cond.methodLink "CaneRounds$Bundles" 3 Lib.objectInit ∈ tt_g := (tt_g1 157 (by decide +kernel) (by decide +kernel))
theorem fi_Chooser_3 : Cond.methodLink "CaneRounds$Chooser" 3 Lib.objectInit ∈ tt_g := (tt_g1 170 (by decide +kernel) (by decide +kernel))
theorem fi_Tape_1 : Cond.methodLink "CaneRounds$Tape" 1 Lib.objectInit ∈ tt_g := (tt_g1 214 (by decide +kernel) (by decide +kernel))
theorem fi_Formula_5 : Cond.methodLink "CaneRounds$Formula" 5 Lib.objectInit ∈ tt_g := (tt_g1 230 (by decide +kernel) (by decide +kernel))
theorem fi_Field_3 : Cond.methodLink "CaneRounds$Field" 3 Lib.objectInit ∈ tt_g := (tt_g1 353 (by decide +kernel) (by decide +kernel))
theorem fi_Span_1 : Cond.methodLink "CaneRounds$Span" 1 Lib.objectInit ∈ tt_g := (tt_g1 425 (by decide +kernel) (by decide +kernel))
theorem fi_Field_46 : Cond.methodLink "CaneRounds$Field" 46 Lib.Math.abs.name ∈ tt_g := (tt_g1 493 (by decide +kernel) (by decide +kernel))
theorem fi_Field_56 : Cond.methodLink "CaneRounds$Field" 56 Lib.Math.max.name ∈ tt_g := (tt_g1 499 (by decide +kernel) (by decide +kernel))
theorem fi_Field_71 : Cond.methodLink "CaneRounds$Field" 71 Lib.Math.min.name ∈ tt_g := (tt_g1 522 (by decide +kernel) (by decide +kernel))
theorem fi_Load_3 : Cond.methodLink "CaneRounds$Load" 3 Lib.objectInit ∈ tt_g := (tt_g1 538 (by decide +kernel) (by decide +kernel))
theorem fi_X_310 : Cond.methodLink "CaneRounds" 310 Lib.Math.min.name ∈ tt_g := (tt_g1 629 (by decide +kernel) (by decide +kernel))
theorem fi_Batch_1 : Cond.methodLink "CaneRounds$Batch" 1 Lib.objectInit ∈ tt_g := (tt_g1 643 (by decide +kernel) (by decide +kernel))
theorem fi_Formula_24 : Cond.methodLink "CaneRounds$Formula" 24 Lib.Math.min.name ∈ tt_g := (tt_g1 722 (by decide +kernel) (by decide +kernel))
theorem fi_Formula_49 : Cond.methodLink "CaneRounds$Formula" 49 Lib.Math.max.name ∈ tt_g := (tt_g1 723 (by decide +kernel) (by decide +kernel))
theorem fi_Formula_124 : Cond.methodLink "CaneRounds$Formula" 124 Lib.MathLoose.min_long.x ∈ tt_g := (tt_g1 733 (by decide +kernel) (by decide +kernel))
theorem fi_Formula_127 : Cond.methodLink "CaneRounds$Formula" 127 Lib.MathLoose.max_long.x ∈ tt_g := (tt_g1 736 (by decide +kernel) (by decide +kernel))
theorem fi_Chooser_68 : Cond.methodLink "CaneRounds$Chooser" 68 Lib.Math.min.name ∈ tt_g := (tt_g1 847 (by decide +kernel) (by decide +kernel))
theorem fi_M_1 : Cond.methodLink "CaneRoundsModel" 1 Lib.objectInit ∈ tt_g := (tt_g1 900 (by decide +kernel) (by decide +kernel))
theorem fo_int : Cond.arrayClass .int ∈ tt_g := (tt_g1 138 (by decide +kernel) (by decide +kernel))
theorem fo_byte : Cond.arrayClass .byte ∈ tt_g := (tt_g1 224 (by decide +kernel) (by decide +kernel))
theorem fo_boolean : Cond.arrayClass .boolean ∈ tt_g := (tt_g1 1094 (by decide +kernel) (by decide +kernel))
theorem fo_long : Cond.arrayClass .long ∈ tt_g := (tt_g1 137 (by decide +kernel) (by decide +kernel))
end
section
theorem dd_M_init_0 : ad_D mm_M_init 0 (.aload_n 0) 1 1 := ⟨by decide +kernel, rfl⟩
theorem dd_M_init_1 : ad_D mm_M_init 1 (.invokespecial 1) 3 4 := ⟨by decide +kernel, rfl⟩
theorem dd_M_init_4 : ad_D mm_M_init 4 (.aload_n 0) 1 5 := ⟨by decide +kernel, rfl⟩
theorem dd_M_init_5 : ad_D mm_M_init 5 (.iconst 3) 1 6 := ⟨by decide +kernel, rfl⟩
theorem dd_M_init_6 : ad_D mm_M_init 6 (.putfield 7) 3 9 := ⟨by decide +kernel, rfl⟩
theorem dd_M_init_9 : ad_D mm_M_init 9 (.aload_n 0) 1 10 := ⟨by decide +kernel, rfl⟩
theorem dd_M_init_10 : ad_D mm_M_init 10 (.iconst 5) 1 11 := ⟨by decide +kernel, rfl⟩
theorem dd_M_init_11 : ad_D mm_M_init 11 (.putfield 13) 3 14 := ⟨by decide +kernel, rfl⟩
theorem dd_M_init_14 : ad_D mm_M_init 14 (.aload_n 0) 1 15 := ⟨by decide +kernel, rfl⟩
theorem dd_M_init_15 : ad_D mm_M_init 15 (.iconst 3) 1 16 := ⟨by decide +kernel, rfl⟩
theorem dd_M_init_16 : ad_D mm_M_init 16 (.putfield 16) 3 19 := ⟨by decide +kernel, rfl⟩
theorem dd_M_init_19 : ad_D mm_M_init 19 (.aload_n 0) 1 20 := ⟨by decide +kernel, rfl⟩
theorem dd_M_init_20 : ad_D mm_M_init 20 (.bipush 20) 2 22 := ⟨by decide +kernel, rfl⟩
theorem dd_M_init_22 : ad_D mm_M_init 22 (.putfield 19) 3 25 := ⟨by decide +kernel, rfl⟩
theorem dd_M_init_25 : ad_D mm_M_init 25 (.aload_n 0) 1 26 := ⟨by decide +kernel, rfl⟩
theorem dd_M_init_26 : ad_D mm_M_init 26 (.bipush 10) 2 28 := ⟨by decide +kernel, rfl⟩
theorem dd_M_init_28 : ad_D mm_M_init 28 (.newarray .long) 2 30 := ⟨by decide +kernel, rfl⟩
theorem dd_M_init_30 : ad_D mm_M_init 30 (.putfield 22) 3 33 := ⟨by decide +kernel, rfl⟩
theorem dd_M_init_33 : ad_D mm_M_init 33 (.aload_n 0) 1 34 := ⟨by decide +kernel, rfl⟩
theorem dd_M_init_34 : ad_D mm_M_init 34 (.bipush 16) 2 36 := ⟨by decide +kernel, rfl⟩
theorem dd_M_init_36 : ad_D mm_M_init 36 (.newarray .int) 2 38 := ⟨by decide +kernel, rfl⟩
theorem dd_M_init_38 : ad_D mm_M_init 38 (.putfield 26) 3 41 := ⟨by decide +kernel, rfl⟩
theorem dd_M_init_41 : ad_D mm_M_init 41 (.aload_n 0) 1 42 := ⟨by decide +kernel, rfl⟩
theorem dd_M_init_42 : ad_D mm_M_init 42 (.bipush 16) 2 44 := ⟨by decide +kernel, rfl⟩
theorem dd_M_init_44 : ad_D mm_M_init 44 (.newarray .int) 2 46 := ⟨by decide +kernel, rfl⟩
theorem dd_M_init_46 : ad_D mm_M_init 46 (.putfield 30) 3 49 := ⟨by decide +kernel, rfl⟩
theorem dd_M_init_49 : ad_D mm_M_init 49 (.aload_n 0) 1 50 := ⟨by decide +kernel, rfl⟩
theorem dd_M_init_50 : ad_D mm_M_init 50 (.bipush 16) 2 52 := ⟨by decide +kernel, rfl⟩
theorem dd_M_init_52 : ad_D mm_M_init 52 (.newarray .int) 2 54 := ⟨by decide +kernel, rfl⟩
theorem dd_M_init_54 : ad_D mm_M_init 54 (.putfield 33) 3 57 := ⟨by decide +kernel, rfl⟩
theorem dd_M_init_57 : ad_D mm_M_init 57 (.aload_n 0) 1 58 := ⟨by decide +kernel, rfl⟩
theorem dd_M_init_58 : ad_D mm_M_init 58 (.bipush 16) 2 60 := ⟨by decide +kernel, rfl⟩
theorem dd_M_init_60 : ad_D mm_M_init 60 (.newarray .int) 2 62 := ⟨by decide +kernel, rfl⟩
theorem dd_M_init_62 : ad_D mm_M_init 62 (.putfield 36) 3 65 := ⟨by decide +kernel, rfl⟩
theorem dd_M_init_65 : ad_D mm_M_init 65 (.aload_n 0) 1 66 := ⟨by decide +kernel, rfl⟩
theorem dd_M_init_66 : ad_D mm_M_init 66 (.bipush 16) 2 68 := ⟨by decide +kernel, rfl⟩
theorem dd_M_init_68 : ad_D mm_M_init 68 (.newarray .int) 2 70 := ⟨by decide +kernel, rfl⟩
theorem dd_M_init_70 : ad_D mm_M_init 70 (.putfield 39) 3 73 := ⟨by decide +kernel, rfl⟩
theorem dd_M_init_73 : ad_D mm_M_init 73 (.aload_n 0) 1 74 := ⟨by decide +kernel, rfl⟩
theorem dd_M_init_74 : ad_D mm_M_init 74 (.bipush 16) 2 76 := ⟨by decide +kernel, rfl⟩
theorem dd_M_init_76 : ad_D mm_M_init 76 (.newarray .int) 2 78 := ⟨by decide +kernel, rfl⟩
theorem dd_M_init_78 : ad_D mm_M_init 78 (.putfield 42) 3 81 := ⟨by decide +kernel, rfl⟩
theorem dd_M_init_81 : ad_D mm_M_init 81 (.aload_n 0) 1 82 := ⟨by decide +kernel, rfl⟩
theorem dd_M_init_82 : ad_D mm_M_init 82 (.bipush 16) 2 84 := ⟨by decide +kernel, rfl⟩
theorem dd_M_init_84 : ad_D mm_M_init 84 (.newarray .int) 2 86 := ⟨by decide +kernel, rfl⟩
theorem dd_M_init_86 : ad_D mm_M_init 86 (.putfield 45) 3 89 := ⟨by decide +kernel, rfl⟩
theorem dd_M_init_89 : ad_D mm_M_init 89 (.aload_n 0) 1 90 := ⟨by decide +kernel, rfl⟩
theorem dd_M_init_90 : ad_D mm_M_init 90 (.bipush 16) 2 92 := ⟨by decide +kernel, rfl⟩
theorem dd_M_init_92 : ad_D mm_M_init 92 (.newarray .int) 2 94 := ⟨by decide +kernel, rfl⟩
theorem dd_M_init_94 : ad_D mm_M_init 94 (.putfield 48) 3 97 := ⟨by decide +kernel, rfl⟩
theorem dd_M_init_97 : ad_D mm_M_init 97 (.aload_n 0) 1 98 := ⟨by decide +kernel, rfl⟩
theorem dd_M_init_98 : ad_D mm_M_init 98 (.bipush 16) 2 100 := ⟨by decide +kernel, rfl⟩
theorem dd_M_init_100 : ad_D mm_M_init 100 (.newarray .int) 2 102 := ⟨by decide +kernel, rfl⟩
theorem dd_M_init_102 : ad_D mm_M_init 102 (.putfield 51) 3 105 := ⟨by decide +kernel, rfl⟩
theorem dd_M_init_105 : ad_D mm_M_init 105 (.aload_n 0) 1 106 := ⟨by decide +kernel, rfl⟩
theorem dd_M_init_106 : ad_D mm_M_init 106 (.bipush 16) 2 108 := ⟨by decide +kernel, rfl⟩
theorem dd_M_init_108 : ad_D mm_M_init 108 (.newarray .int) 2 110 := ⟨by decide +kernel, rfl⟩
theorem dd_M_init_110 : ad_D mm_M_init 110 (.putfield 54) 3 113 := ⟨by decide +kernel, rfl⟩
theorem dd_M_init_113 : ad_D mm_M_init 113 (.aload_n 0) 1 114 := ⟨by decide +kernel, rfl⟩
theorem dd_M_init_114 : ad_D mm_M_init 114 (.bipush 16) 2 116 := ⟨by decide +kernel, rfl⟩
theorem dd_M_init_116 : ad_D mm_M_init 116 (.newarray .int) 2 118 := ⟨by decide +kernel, rfl⟩
theorem dd_M_init_118 : ad_D mm_M_init 118 (.putfield 57) 3 121 := ⟨by decide +kernel, rfl⟩
theorem dd_M_init_121 : ad_D mm_M_init 121 (.aload_n 0) 1 122 := ⟨by decide +kernel, rfl⟩
theorem dd_M_init_122 : ad_D mm_M_init 122 (.bipush 16) 2 124 := ⟨by decide +kernel, rfl⟩
theorem dd_M_init_124 : ad_D mm_M_init 124 (.newarray .int) 2 126 := ⟨by decide +kernel, rfl⟩
theorem dd_M_init_126 : ad_D mm_M_init 126 (.putfield 60) 3 129 := ⟨by decide +kernel, rfl⟩
theorem dd_M_init_129 : ad_D mm_M_init 129 (.aload_n 0) 1 130 := ⟨by decide +kernel, rfl⟩
theorem dd_M_init_130 : ad_D mm_M_init 130 (.bipush 20) 2 132 := ⟨by decide +kernel, rfl⟩
theorem dd_M_init_132 : ad_D mm_M_init 132 (.newarray .boolean) 2 134 := ⟨by decide +kernel, rfl⟩
theorem dd_M_init_134 : ad_D mm_M_init 134 (.putfield 63) 3 137 := ⟨by decide +kernel, rfl⟩
theorem dd_M_init_137 : ad_D mm_M_init 137 (.aload_n 0) 1 138 := ⟨by decide +kernel, rfl⟩
theorem dd_M_init_138 : ad_D mm_M_init 138 (.bipush 20) 2 140 := ⟨by decide +kernel, rfl⟩
theorem dd_M_init_140 : ad_D mm_M_init 140 (.newarray .int) 2 142 := ⟨by decide +kernel, rfl⟩
theorem dd_M_init_142 : ad_D mm_M_init 142 (.putfield 67) 3 145 := ⟨by decide +kernel, rfl⟩
theorem dd_M_init_145 : ad_D mm_M_init 145 (.aload_n 0) 1 146 := ⟨by decide +kernel, rfl⟩
theorem dd_M_init_146 : ad_D mm_M_init 146 (.bipush 20) 2 148 := ⟨by decide +kernel, rfl⟩
theorem dd_M_init_148 : ad_D mm_M_init 148 (.newarray .int) 2 150 := ⟨by decide +kernel, rfl⟩
theorem dd_M_init_150 : ad_D mm_M_init 150 (.putfield 70) 3 153 := ⟨by decide +kernel, rfl⟩
theorem dd_M_init_153 : ad_D mm_M_init 153 (.aload_n 0) 1 154 := ⟨by decide +kernel, rfl⟩
theorem dd_M_init_154 : ad_D mm_M_init 154 (.bipush 16) 2 156 := ⟨by decide +kernel, rfl⟩
theorem dd_M_init_156 : ad_D mm_M_init 156 (.newarray .int) 2 158 := ⟨by decide +kernel, rfl⟩
theorem dd_M_init_158 : ad_D mm_M_init 158 (.putfield 73) 3 161 := ⟨by decide +kernel, rfl⟩
theorem dd_M_init_161 : ad_D mm_M_init 161 (.aload_n 0) 1 162 := ⟨by decide +kernel, rfl⟩
theorem dd_M_init_162 : ad_D mm_M_init 162 (.bipush 16) 2 164 := ⟨by decide +kernel, rfl⟩
theorem dd_M_init_164 : ad_D mm_M_init 164 (.newarray .int) 2 166 := ⟨by decide +kernel, rfl⟩
theorem dd_M_init_166 : ad_D mm_M_init 166 (.putfield 76) 3 169 := ⟨by decide +kernel, rfl⟩
theorem dd_M_init_169 : ad_D mm_M_init 169 (.aload_n 0) 1 170 := ⟨by decide +kernel, rfl⟩
theorem dd_M_init_170 : ad_D mm_M_init 170 (.bipush 16) 2 172 := ⟨by decide +kernel, rfl⟩
theorem dd_M_init_172 : ad_D mm_M_init 172 (.newarray .int) 2 174 := ⟨by decide +kernel, rfl⟩
theorem dd_M_init_174 : ad_D mm_M_init 174 (.putfield 79) 3 177 := ⟨by decide +kernel, rfl⟩
theorem dd_M_init_177 : ad_D mm_M_init 177 (.aload_n 0) 1 178 := ⟨by decide +kernel, rfl⟩
theorem dd_M_init_178 : ad_D mm_M_init 178 (.bipush 16) 2 180 := ⟨by decide +kernel, rfl⟩
theorem dd_M_init_180 : ad_D mm_M_init 180 (.newarray .int) 2 182 := ⟨by decide +kernel, rfl⟩
theorem dd_M_init_182 : ad_D mm_M_init 182 (.putfield 82) 3 185 := ⟨by decide +kernel, rfl⟩
theorem dd_M_init_185 : ad_D mm_M_init 185 (.aload_n 0) 1 186 := ⟨by decide +kernel, rfl⟩
theorem dd_M_init_186 : ad_D mm_M_init 186 (.bipush 16) 2 188 := ⟨by decide +kernel, rfl⟩
theorem dd_M_init_188 : ad_D mm_M_init 188 (.newarray .int) 2 190 := ⟨by decide +kernel, rfl⟩
theorem dd_M_init_190 : ad_D mm_M_init 190 (.putfield 85) 3 193 := ⟨by decide +kernel, rfl⟩
theorem dd_M_init_193 : ad_D mm_M_init 193 (.aload_n 0) 1 194 := ⟨by decide +kernel, rfl⟩
theorem dd_M_init_194 : ad_D mm_M_init 194 (.bipush 16) 2 196 := ⟨by decide +kernel, rfl⟩
theorem dd_M_init_196 : ad_D mm_M_init 196 (.newarray .int) 2 198 := ⟨by decide +kernel, rfl⟩
theorem dd_M_init_198 : ad_D mm_M_init 198 (.putfield 88) 3 201 := ⟨by decide +kernel, rfl⟩
theorem dd_M_init_201 : ad_D mm_M_init 201 (.aload_n 0) 1 202 := ⟨by decide +kernel, rfl⟩
theorem dd_M_init_202 : ad_D mm_M_init 202 (.bipush 16) 2 204 := ⟨by decide +kernel, rfl⟩
theorem dd_M_init_204 : ad_D mm_M_init 204 (.newarray .int) 2 206 := ⟨by decide +kernel, rfl⟩
theorem dd_M_init_206 : ad_D mm_M_init 206 (.putfield 91) 3 209 := ⟨by decide +kernel, rfl⟩
theorem dd_M_init_209 : ad_D mm_M_init 209 (.aload_n 0) 1 210 := ⟨by decide +kernel, rfl⟩
theorem dd_M_init_210 : ad_D mm_M_init 210 (.bipush 16) 2 212 := ⟨by decide +kernel, rfl⟩
theorem dd_M_init_212 : ad_D mm_M_init 212 (.newarray .int) 2 214 := ⟨by decide +kernel, rfl⟩
theorem dd_M_init_214 : ad_D mm_M_init 214 (.putfield 94) 3 217 := ⟨by decide +kernel, rfl⟩
theorem dd_M_init_217 : ad_D mm_M_init 217 (.aload_n 0) 1 218 := ⟨by decide +kernel, rfl⟩
theorem dd_M_init_218 : ad_D mm_M_init 218 (.bipush 16) 2 220 := ⟨by decide +kernel, rfl⟩
theorem dd_M_init_220 : ad_D mm_M_init 220 (.newarray .int) 2 222 := ⟨by decide +kernel, rfl⟩
theorem dd_M_init_222 : ad_D mm_M_init 222 (.putfield 97) 3 225 := ⟨by decide +kernel, rfl⟩
theorem dd_M_init_225 : ad_D mm_M_init 225 (.aload_n 0) 1 226 := ⟨by decide +kernel, rfl⟩
theorem dd_M_init_226 : ad_D mm_M_init 226 (.bipush 9) 2 228 := ⟨by decide +kernel, rfl⟩
theorem dd_M_init_228 : ad_D mm_M_init 228 (.newarray .int) 2 230 := ⟨by decide +kernel, rfl⟩
theorem dd_M_init_230 : ad_D mm_M_init 230 (.putfield 100) 3 233 := ⟨by decide +kernel, rfl⟩
theorem dd_M_init_233 : ad_D mm_M_init 233 (.aload_n 0) 1 234 := ⟨by decide +kernel, rfl⟩
theorem dd_M_init_234 : ad_D mm_M_init 234 (.sipush 3200) 3 237 := ⟨by decide +kernel, rfl⟩
theorem dd_M_init_237 : ad_D mm_M_init 237 (.newarray .byte) 2 239 := ⟨by decide +kernel, rfl⟩
theorem dd_M_init_239 : ad_D mm_M_init 239 (.putfield 103) 3 242 := ⟨by decide +kernel, rfl⟩
theorem dd_M_init_242 : ad_D mm_M_init 242 (.aload_n 0) 1 243 := ⟨by decide +kernel, rfl⟩
theorem dd_M_init_243 : ad_D mm_M_init 243 (.iconst (-1)) 1 244 := ⟨by decide +kernel, rfl⟩
theorem dd_M_init_244 : ad_D mm_M_init 244 (.putfield 107) 3 247 := ⟨by decide +kernel, rfl⟩
theorem dd_M_init_247 : ad_D mm_M_init 247 (.aload_n 0) 1 248 := ⟨by decide +kernel, rfl⟩
theorem dd_M_init_248 : ad_D mm_M_init 248 (.bipush 10) 2 250 := ⟨by decide +kernel, rfl⟩
theorem dd_M_init_250 : ad_D mm_M_init 250 (.newarray .int) 2 252 := ⟨by decide +kernel, rfl⟩
theorem dd_M_init_252 : ad_D mm_M_init 252 (.putfield 110) 3 255 := ⟨by decide +kernel, rfl⟩
theorem dd_M_init_255 : ad_D mm_M_init 255 (.aload_n 0) 1 256 := ⟨by decide +kernel, rfl⟩
theorem dd_M_init_256 : ad_D mm_M_init 256 (.bipush 10) 2 258 := ⟨by decide +kernel, rfl⟩
theorem dd_M_init_258 : ad_D mm_M_init 258 (.newarray .boolean) 2 260 := ⟨by decide +kernel, rfl⟩
theorem dd_M_init_260 : ad_D mm_M_init 260 (.putfield 113) 3 263 := ⟨by decide +kernel, rfl⟩
theorem dd_M_init_263 : ad_D mm_M_init 263 (.aload_n 0) 1 264 := ⟨by decide +kernel, rfl⟩
theorem dd_M_init_264 : ad_D mm_M_init 264 (.bipush 100) 2 266 := ⟨by decide +kernel, rfl⟩
theorem dd_M_init_266 : ad_D mm_M_init 266 (.newarray .int) 2 268 := ⟨by decide +kernel, rfl⟩
theorem dd_M_init_268 : ad_D mm_M_init 268 (.putfield 116) 3 271 := ⟨by decide +kernel, rfl⟩
theorem dd_M_init_271 : ad_D mm_M_init 271 (.aload_n 0) 1 272 := ⟨by decide +kernel, rfl⟩
theorem dd_M_init_272 : ad_D mm_M_init 272 (.sipush 256) 3 275 := ⟨by decide +kernel, rfl⟩
theorem dd_M_init_275 : ad_D mm_M_init 275 (.newarray .int) 2 277 := ⟨by decide +kernel, rfl⟩
theorem dd_M_init_277 : ad_D mm_M_init 277 (.putfield 119) 3 280 := ⟨by decide +kernel, rfl⟩
theorem dd_M_init_280 : ad_D mm_M_init 280 (.aload_n 0) 1 281 := ⟨by decide +kernel, rfl⟩
theorem dd_M_init_281 : ad_D mm_M_init 281 (.sipush 256) 3 284 := ⟨by decide +kernel, rfl⟩
theorem dd_M_init_284 : ad_D mm_M_init 284 (.newarray .int) 2 286 := ⟨by decide +kernel, rfl⟩
theorem dd_M_init_286 : ad_D mm_M_init 286 (.putfield 122) 3 289 := ⟨by decide +kernel, rfl⟩
theorem dd_M_init_289 : ad_D mm_M_init 289 (.aload_n 0) 1 290 := ⟨by decide +kernel, rfl⟩
theorem dd_M_init_290 : ad_D mm_M_init 290 (.iconst (-1)) 1 291 := ⟨by decide +kernel, rfl⟩
theorem dd_M_init_291 : ad_D mm_M_init 291 (.putfield 125) 3 294 := ⟨by decide +kernel, rfl⟩
theorem dd_M_init_294 : ad_D mm_M_init 294 (.aload_n 0) 1 295 := ⟨by decide +kernel, rfl⟩
theorem dd_M_init_295 : ad_D mm_M_init 295 (.iconst (-1)) 1 296 := ⟨by decide +kernel, rfl⟩
theorem dd_M_init_296 : ad_D mm_M_init 296 (.putfield 128) 3 299 := ⟨by decide +kernel, rfl⟩
theorem dd_M_init_299 : ad_D mm_M_init 299 (.aload_n 0) 1 300 := ⟨by decide +kernel, rfl⟩
theorem dd_M_init_300 : ad_D mm_M_init 300 (.sipush 128) 3 303 := ⟨by decide +kernel, rfl⟩
theorem dd_M_init_303 : ad_D mm_M_init 303 (.newarray .int) 2 305 := ⟨by decide +kernel, rfl⟩
theorem dd_M_init_305 : ad_D mm_M_init 305 (.putfield 131) 3 308 := ⟨by decide +kernel, rfl⟩
theorem dd_M_init_308 : ad_D mm_M_init 308 (.aload_n 0) 1 309 := ⟨by decide +kernel, rfl⟩
theorem dd_M_init_309 : ad_D mm_M_init 309 (.sipush 128) 3 312 := ⟨by decide +kernel, rfl⟩
theorem dd_M_init_312 : ad_D mm_M_init 312 (.newarray .long) 2 314 := ⟨by decide +kernel, rfl⟩
theorem dd_M_init_314 : ad_D mm_M_init 314 (.putfield 134) 3 317 := ⟨by decide +kernel, rfl⟩
theorem dd_M_init_317 : ad_D mm_M_init 317 (.aload_n 0) 1 318 := ⟨by decide +kernel, rfl⟩
theorem dd_M_init_318 : ad_D mm_M_init 318 (.bipush 16) 2 320 := ⟨by decide +kernel, rfl⟩
theorem dd_M_init_320 : ad_D mm_M_init 320 (.newarray .int) 2 322 := ⟨by decide +kernel, rfl⟩
theorem dd_M_init_322 : ad_D mm_M_init 322 (.putfield 137) 3 325 := ⟨by decide +kernel, rfl⟩
theorem dd_M_init_325 : ad_D mm_M_init 325 (.aload_n 0) 1 326 := ⟨by decide +kernel, rfl⟩
theorem dd_M_init_326 : ad_D mm_M_init 326 (.bipush 16) 2 328 := ⟨by decide +kernel, rfl⟩
theorem dd_M_init_328 : ad_D mm_M_init 328 (.newarray .int) 2 330 := ⟨by decide +kernel, rfl⟩
theorem dd_M_init_330 : ad_D mm_M_init 330 (.putfield 140) 3 333 := ⟨by decide +kernel, rfl⟩
theorem dd_M_init_333 : ad_D mm_M_init 333 (.aload_n 0) 1 334 := ⟨by decide +kernel, rfl⟩
theorem dd_M_init_334 : ad_D mm_M_init 334 (.bipush 16) 2 336 := ⟨by decide +kernel, rfl⟩
theorem dd_M_init_336 : ad_D mm_M_init 336 (.newarray .int) 2 338 := ⟨by decide +kernel, rfl⟩
theorem dd_M_init_338 : ad_D mm_M_init 338 (.putfield 143) 3 341 := ⟨by decide +kernel, rfl⟩
theorem dd_M_init_341 : ad_D mm_M_init 341 (.aload_n 0) 1 342 := ⟨by decide +kernel, rfl⟩
theorem dd_M_init_342 : ad_D mm_M_init 342 (.bipush 16) 2 344 := ⟨by decide +kernel, rfl⟩
theorem dd_M_init_344 : ad_D mm_M_init 344 (.newarray .int) 2 346 := ⟨by decide +kernel, rfl⟩
theorem dd_M_init_346 : ad_D mm_M_init 346 (.putfield 146) 3 349 := ⟨by decide +kernel, rfl⟩
theorem dd_M_init_349 : ad_D mm_M_init 349 (.aload_n 0) 1 350 := ⟨by decide +kernel, rfl⟩
theorem dd_M_init_350 : ad_D mm_M_init 350 (.iconst 3) 1 351 := ⟨by decide +kernel, rfl⟩
theorem dd_M_init_351 : ad_D mm_M_init 351 (.putfield 149) 3 354 := ⟨by decide +kernel, rfl⟩
theorem dd_M_init_354 : ad_D mm_M_init 354 (.aload_n 0) 1 355 := ⟨by decide +kernel, rfl⟩
theorem dd_M_init_355 : ad_D mm_M_init 355 (.getfield 119) 3 358 := ⟨by decide +kernel, rfl⟩
theorem dd_M_init_358 : ad_D mm_M_init 358 (.iconst 0) 1 359 := ⟨by decide +kernel, rfl⟩
theorem dd_M_init_359 : ad_D mm_M_init 359 (.iconst 0) 1 360 := ⟨by decide +kernel, rfl⟩
theorem dd_M_init_360 : ad_D mm_M_init 360 (.iastore) 1 361 := ⟨by decide +kernel, rfl⟩
theorem dd_M_init_361 : ad_D mm_M_init 361 (.aload_n 0) 1 362 := ⟨by decide +kernel, rfl⟩
theorem dd_M_init_362 : ad_D mm_M_init 362 (.getfield 122) 3 365 := ⟨by decide +kernel, rfl⟩
theorem dd_M_init_365 : ad_D mm_M_init 365 (.iconst 0) 1 366 := ⟨by decide +kernel, rfl⟩
theorem dd_M_init_366 : ad_D mm_M_init 366 (.iconst 1) 1 367 := ⟨by decide +kernel, rfl⟩
theorem dd_M_init_367 : ad_D mm_M_init 367 (.iastore) 1 368 := ⟨by decide +kernel, rfl⟩
theorem dd_M_init_368 : ad_D mm_M_init 368 (.aload_n 0) 1 369 := ⟨by decide +kernel, rfl⟩
theorem dd_M_init_369 : ad_D mm_M_init 369 (.getfield 119) 3 372 := ⟨by decide +kernel, rfl⟩
theorem dd_M_init_372 : ad_D mm_M_init 372 (.iconst 1) 1 373 := ⟨by decide +kernel, rfl⟩
theorem dd_M_init_373 : ad_D mm_M_init 373 (.iconst 1) 1 374 := ⟨by decide +kernel, rfl⟩
theorem dd_M_init_374 : ad_D mm_M_init 374 (.iastore) 1 375 := ⟨by decide +kernel, rfl⟩
theorem dd_M_init_375 : ad_D mm_M_init 375 (.aload_n 0) 1 376 := ⟨by decide +kernel, rfl⟩
theorem dd_M_init_376 : ad_D mm_M_init 376 (.getfield 119) 3 379 := ⟨by decide +kernel, rfl⟩
theorem dd_M_init_379 : ad_D mm_M_init 379 (.iconst 2) 1 380 := ⟨by decide +kernel, rfl⟩
theorem dd_M_init_380 : ad_D mm_M_init 380 (.iconst 5) 1 381 := ⟨by decide +kernel, rfl⟩
theorem dd_M_init_381 : ad_D mm_M_init 381 (.iastore) 1 382 := ⟨by decide +kernel, rfl⟩
theorem dd_M_init_382 : ad_D mm_M_init 382 (.return_) 1 383 := ⟨by decide +kernel, rfl⟩
theorem dd_M_rules_0 : ad_D mm_M_rules 0 (.iload_n 1) 1 1 := ⟨by decide +kernel, rfl⟩
theorem dd_M_rules_1 : ad_D mm_M_rules 1 (.iconst 1) 1 2 := ⟨by decide +kernel, rfl⟩
theorem dd_M_rules_2 : ad_D mm_M_rules 2 (.bipush 9) 2 4 := ⟨by decide +kernel, rfl⟩
theorem dd_M_rules_4 : ad_D mm_M_rules 4 (.invokestatic 155) 3 7 := ⟨by decide +kernel, rfl⟩
theorem dd_M_rules_7 : ad_D mm_M_rules 7 (.ifCond .eq 41) 3 10 := ⟨by decide +kernel, rfl⟩
theorem dd_M_rules_10 : ad_D mm_M_rules 10 (.iload_n 2) 1 11 := ⟨by decide +kernel, rfl⟩
theorem dd_M_rules_11 : ad_D mm_M_rules 11 (.iconst 1) 1 12 := ⟨by decide +kernel, rfl⟩
theorem dd_M_rules_12 : ad_D mm_M_rules 12 (.bipush 20) 2 14 := ⟨by decide +kernel, rfl⟩
theorem dd_M_rules_14 : ad_D mm_M_rules 14 (.invokestatic 155) 3 17 := ⟨by decide +kernel, rfl⟩
theorem dd_M_rules_17 : ad_D mm_M_rules 17 (.ifCond .eq 31) 3 20 := ⟨by decide +kernel, rfl⟩
theorem dd_M_rules_20 : ad_D mm_M_rules 20 (.iload_n 3) 1 21 := ⟨by decide +kernel, rfl⟩
theorem dd_M_rules_21 : ad_D mm_M_rules 21 (.iconst 1) 1 22 := ⟨by decide +kernel, rfl⟩
theorem dd_M_rules_22 : ad_D mm_M_rules 22 (.bipush 9) 2 24 := ⟨by decide +kernel, rfl⟩
theorem dd_M_rules_24 : ad_D mm_M_rules 24 (.invokestatic 155) 3 27 := ⟨by decide +kernel, rfl⟩
theorem dd_M_rules_27 : ad_D mm_M_rules 27 (.ifCond .eq 21) 3 30 := ⟨by decide +kernel, rfl⟩
theorem dd_M_rules_30 : ad_D mm_M_rules 30 (.iload 4) 2 32 := ⟨by decide +kernel, rfl⟩
theorem dd_M_rules_32 : ad_D mm_M_rules 32 (.iconst 1) 1 33 := ⟨by decide +kernel, rfl⟩
theorem dd_M_rules_33 : ad_D mm_M_rules 33 (.bipush 100) 2 35 := ⟨by decide +kernel, rfl⟩
theorem dd_M_rules_35 : ad_D mm_M_rules 35 (.invokestatic 155) 3 38 := ⟨by decide +kernel, rfl⟩
theorem dd_M_rules_38 : ad_D mm_M_rules 38 (.ifCond .eq 10) 3 41 := ⟨by decide +kernel, rfl⟩
theorem dd_M_rules_41 : ad_D mm_M_rules 41 (.aload_n 0) 1 42 := ⟨by decide +kernel, rfl⟩
theorem dd_M_rules_42 : ad_D mm_M_rules 42 (.invokevirtual 162) 3 45 := ⟨by decide +kernel, rfl⟩
theorem dd_M_rules_45 : ad_D mm_M_rules 45 (.ifCond .eq 5) 3 48 := ⟨by decide +kernel, rfl⟩
theorem dd_M_rules_48 : ad_D mm_M_rules 48 (.iconst 0) 1 49 := ⟨by decide +kernel, rfl⟩
theorem dd_M_rules_49 : ad_D mm_M_rules 49 (.ireturn) 1 50 := ⟨by decide +kernel, rfl⟩
theorem dd_M_rules_50 : ad_D mm_M_rules 50 (.aload_n 0) 1 51 := ⟨by decide +kernel, rfl⟩
theorem dd_M_rules_51 : ad_D mm_M_rules 51 (.iload_n 1) 1 52 := ⟨by decide +kernel, rfl⟩
theorem dd_M_rules_52 : ad_D mm_M_rules 52 (.putfield 7) 3 55 := ⟨by decide +kernel, rfl⟩
theorem dd_M_rules_55 : ad_D mm_M_rules 55 (.aload_n 0) 1 56 := ⟨by decide +kernel, rfl⟩
theorem dd_M_rules_56 : ad_D mm_M_rules 56 (.iload_n 2) 1 57 := ⟨by decide +kernel, rfl⟩
theorem dd_M_rules_57 : ad_D mm_M_rules 57 (.putfield 13) 3 60 := ⟨by decide +kernel, rfl⟩
theorem dd_M_rules_60 : ad_D mm_M_rules 60 (.aload_n 0) 1 61 := ⟨by decide +kernel, rfl⟩
theorem dd_M_rules_61 : ad_D mm_M_rules 61 (.iload_n 3) 1 62 := ⟨by decide +kernel, rfl⟩
theorem dd_M_rules_62 : ad_D mm_M_rules 62 (.putfield 16) 3 65 := ⟨by decide +kernel, rfl⟩
theorem dd_M_rules_65 : ad_D mm_M_rules 65 (.aload_n 0) 1 66 := ⟨by decide +kernel, rfl⟩
theorem dd_M_rules_66 : ad_D mm_M_rules 66 (.iload 4) 2 68 := ⟨by decide +kernel, rfl⟩
theorem dd_M_rules_68 : ad_D mm_M_rules 68 (.putfield 19) 3 71 := ⟨by decide +kernel, rfl⟩
theorem dd_M_rules_71 : ad_D mm_M_rules 71 (.iconst 1) 1 72 := ⟨by decide +kernel, rfl⟩
theorem dd_M_rules_72 : ad_D mm_M_rules 72 (.ireturn) 1 73 := ⟨by decide +kernel, rfl⟩
theorem dd_M_isIn_0 : ad_D mm_M_isIn 0 (.iload_n 0) 1 1 := ⟨by decide +kernel, rfl⟩
theorem dd_M_isIn_1 : ad_D mm_M_isIn 1 (.iload_n 1) 1 2 := ⟨by decide +kernel, rfl⟩
theorem dd_M_isIn_2 : ad_D mm_M_isIn 2 (.if_icmp .lt 12) 3 5 := ⟨by decide +kernel, rfl⟩
theorem dd_M_isIn_5 : ad_D mm_M_isIn 5 (.iload_n 0) 1 6 := ⟨by decide +kernel, rfl⟩
theorem dd_M_isIn_6 : ad_D mm_M_isIn 6 (.iload_n 2) 1 7 := ⟨by decide +kernel, rfl⟩
theorem dd_M_isIn_7 : ad_D mm_M_isIn 7 (.if_icmp .gt 7) 3 10 := ⟨by decide +kernel, rfl⟩
theorem dd_M_isIn_10 : ad_D mm_M_isIn 10 (.iconst 1) 1 11 := ⟨by decide +kernel, rfl⟩
theorem dd_M_isIn_11 : ad_D mm_M_isIn 11 (.goto 4) 3 14 := ⟨by decide +kernel, rfl⟩
theorem dd_M_isIn_14 : ad_D mm_M_isIn 14 (.iconst 0) 1 15 := ⟨by decide +kernel, rfl⟩
theorem dd_M_isIn_15 : ad_D mm_M_isIn 15 (.ireturn) 1 16 := ⟨by decide +kernel, rfl⟩
theorem dd_M_isHour_0 : ad_D mm_M_isHour 0 (.aload_n 0) 1 1 := ⟨by decide +kernel, rfl⟩
theorem dd_M_isHour_1 : ad_D mm_M_isHour 1 (.getfield 159) 3 4 := ⟨by decide +kernel, rfl⟩
theorem dd_M_isHour_4 : ad_D mm_M_isHour 4 (.ifCond .le 7) 3 7 := ⟨by decide +kernel, rfl⟩
theorem dd_M_isHour_7 : ad_D mm_M_isHour 7 (.iconst 1) 1 8 := ⟨by decide +kernel, rfl⟩
theorem dd_M_isHour_8 : ad_D mm_M_isHour 8 (.goto 4) 3 11 := ⟨by decide +kernel, rfl⟩
theorem dd_M_isHour_11 : ad_D mm_M_isHour 11 (.iconst 0) 1 12 := ⟨by decide +kernel, rfl⟩
theorem dd_M_isHour_12 : ad_D mm_M_isHour 12 (.ireturn) 1 13 := ⟨by decide +kernel, rfl⟩
theorem dd_M_farm_0 : ad_D mm_M_farm 0 (.aload_n 0) 1 1 := ⟨by decide +kernel, rfl⟩
theorem dd_M_farm_1 : ad_D mm_M_farm 1 (.getfield 166) 3 4 := ⟨by decide +kernel, rfl⟩
theorem dd_M_farm_4 : ad_D mm_M_farm 4 (.bipush 10) 2 6 := ⟨by decide +kernel, rfl⟩
theorem dd_M_farm_6 : ad_D mm_M_farm 6 (.if_icmp .ne 5) 3 9 := ⟨by decide +kernel, rfl⟩
theorem dd_M_farm_9 : ad_D mm_M_farm 9 (.iconst (-1)) 1 10 := ⟨by decide +kernel, rfl⟩
theorem dd_M_farm_10 : ad_D mm_M_farm 10 (.ireturn) 1 11 := ⟨by decide +kernel, rfl⟩
theorem dd_M_farm_11 : ad_D mm_M_farm 11 (.aload_n 0) 1 12 := ⟨by decide +kernel, rfl⟩
theorem dd_M_farm_12 : ad_D mm_M_farm 12 (.dup) 1 13 := ⟨by decide +kernel, rfl⟩
theorem dd_M_farm_13 : ad_D mm_M_farm 13 (.getfield 166) 3 16 := ⟨by decide +kernel, rfl⟩
theorem dd_M_farm_16 : ad_D mm_M_farm 16 (.iconst 1) 1 17 := ⟨by decide +kernel, rfl⟩
theorem dd_M_farm_17 : ad_D mm_M_farm 17 (.iadd) 1 18 := ⟨by decide +kernel, rfl⟩
theorem dd_M_farm_18 : ad_D mm_M_farm 18 (.putfield 166) 3 21 := ⟨by decide +kernel, rfl⟩
theorem dd_M_farm_21 : ad_D mm_M_farm 21 (.aload_n 0) 1 22 := ⟨by decide +kernel, rfl⟩
theorem dd_M_farm_22 : ad_D mm_M_farm 22 (.getfield 166) 3 25 := ⟨by decide +kernel, rfl⟩
theorem dd_M_farm_25 : ad_D mm_M_farm 25 (.iconst 1) 1 26 := ⟨by decide +kernel, rfl⟩
theorem dd_M_farm_26 : ad_D mm_M_farm 26 (.isub) 1 27 := ⟨by decide +kernel, rfl⟩
theorem dd_M_farm_27 : ad_D mm_M_farm 27 (.ireturn) 1 28 := ⟨by decide +kernel, rfl⟩
theorem dd_M_field_0 : ad_D mm_M_field 0 (.iload_n 1) 1 1 := ⟨by decide +kernel, rfl⟩
theorem dd_M_field_1 : ad_D mm_M_field 1 (.iconst 0) 1 2 := ⟨by decide +kernel, rfl⟩
theorem dd_M_field_2 : ad_D mm_M_field 2 (.aload_n 0) 1 3 := ⟨by decide +kernel, rfl⟩
theorem dd_M_field_3 : ad_D mm_M_field 3 (.getfield 166) 3 6 := ⟨by decide +kernel, rfl⟩
theorem dd_M_field_6 : ad_D mm_M_field 6 (.iconst 1) 1 7 := ⟨by decide +kernel, rfl⟩
theorem dd_M_field_7 : ad_D mm_M_field 7 (.isub) 1 8 := ⟨by decide +kernel, rfl⟩
theorem dd_M_field_8 : ad_D mm_M_field 8 (.invokestatic 155) 3 11 := ⟨by decide +kernel, rfl⟩
theorem dd_M_field_11 : ad_D mm_M_field 11 (.ifCond .eq 35) 3 14 := ⟨by decide +kernel, rfl⟩
theorem dd_M_field_14 : ad_D mm_M_field 14 (.iload_n 2) 1 15 := ⟨by decide +kernel, rfl⟩
theorem dd_M_field_15 : ad_D mm_M_field 15 (.iconst 1) 1 16 := ⟨by decide +kernel, rfl⟩
theorem dd_M_field_16 : ad_D mm_M_field 16 (.sipush 200) 3 19 := ⟨by decide +kernel, rfl⟩
theorem dd_M_field_19 : ad_D mm_M_field 19 (.invokestatic 155) 3 22 := ⟨by decide +kernel, rfl⟩
theorem dd_M_field_22 : ad_D mm_M_field 22 (.ifCond .eq 24) 3 25 := ⟨by decide +kernel, rfl⟩
theorem dd_M_field_25 : ad_D mm_M_field 25 (.iload_n 3) 1 26 := ⟨by decide +kernel, rfl⟩
theorem dd_M_field_26 : ad_D mm_M_field 26 (.iconst 0) 1 27 := ⟨by decide +kernel, rfl⟩
theorem dd_M_field_27 : ad_D mm_M_field 27 (.bipush 60) 2 29 := ⟨by decide +kernel, rfl⟩
theorem dd_M_field_29 : ad_D mm_M_field 29 (.invokestatic 155) 3 32 := ⟨by decide +kernel, rfl⟩
theorem dd_M_field_32 : ad_D mm_M_field 32 (.ifCond .eq 14) 3 35 := ⟨by decide +kernel, rfl⟩
theorem dd_M_field_35 : ad_D mm_M_field 35 (.iload 4) 2 37 := ⟨by decide +kernel, rfl⟩
theorem dd_M_field_37 : ad_D mm_M_field 37 (.iconst 1) 1 38 := ⟨by decide +kernel, rfl⟩
theorem dd_M_field_38 : ad_D mm_M_field 38 (.bipush 30) 2 40 := ⟨by decide +kernel, rfl⟩
theorem dd_M_field_40 : ad_D mm_M_field 40 (.invokestatic 155) 3 43 := ⟨by decide +kernel, rfl⟩
theorem dd_M_field_43 : ad_D mm_M_field 43 (.ifCond .ne 7) 3 46 := ⟨by decide +kernel, rfl⟩
theorem dd_M_field_46 : ad_D mm_M_field 46 (.iconst 1) 1 47 := ⟨by decide +kernel, rfl⟩
theorem dd_M_field_47 : ad_D mm_M_field 47 (.goto 4) 3 50 := ⟨by decide +kernel, rfl⟩
theorem dd_M_field_50 : ad_D mm_M_field 50 (.iconst 0) 1 51 := ⟨by decide +kernel, rfl⟩
theorem dd_M_field_51 : ad_D mm_M_field 51 (.istore 7) 2 53 := ⟨by decide +kernel, rfl⟩
theorem dd_M_field_53 : ad_D mm_M_field 53 (.iload 7) 2 55 := ⟨by decide +kernel, rfl⟩
theorem dd_M_field_55 : ad_D mm_M_field 55 (.ifCond .ne 35) 3 58 := ⟨by decide +kernel, rfl⟩
theorem dd_M_field_58 : ad_D mm_M_field 58 (.iload 5) 2 60 := ⟨by decide +kernel, rfl⟩
theorem dd_M_field_60 : ad_D mm_M_field 60 (.iconst 0) 1 61 := ⟨by decide +kernel, rfl⟩
theorem dd_M_field_61 : ad_D mm_M_field 61 (.sipush 4000) 3 64 := ⟨by decide +kernel, rfl⟩
theorem dd_M_field_64 : ad_D mm_M_field 64 (.invokestatic 155) 3 67 := ⟨by decide +kernel, rfl⟩
theorem dd_M_field_67 : ad_D mm_M_field 67 (.ifCond .eq 23) 3 70 := ⟨by decide +kernel, rfl⟩
theorem dd_M_field_70 : ad_D mm_M_field 70 (.iload 6) 2 72 := ⟨by decide +kernel, rfl⟩
theorem dd_M_field_72 : ad_D mm_M_field 72 (.iconst 1) 1 73 := ⟨by decide +kernel, rfl⟩
theorem dd_M_field_73 : ad_D mm_M_field 73 (.bipush 100) 2 75 := ⟨by decide +kernel, rfl⟩
theorem dd_M_field_75 : ad_D mm_M_field 75 (.invokestatic 155) 3 78 := ⟨by decide +kernel, rfl⟩
theorem dd_M_field_78 : ad_D mm_M_field 78 (.ifCond .eq 12) 3 81 := ⟨by decide +kernel, rfl⟩
theorem dd_M_field_81 : ad_D mm_M_field 81 (.aload_n 0) 1 82 := ⟨by decide +kernel, rfl⟩
theorem dd_M_field_82 : ad_D mm_M_field 82 (.getfield 152) 3 85 := ⟨by decide +kernel, rfl⟩
theorem dd_M_field_85 : ad_D mm_M_field 85 (.bipush 16) 2 87 := ⟨by decide +kernel, rfl⟩
theorem dd_M_field_87 : ad_D mm_M_field 87 (.if_icmp .ne 5) 3 90 := ⟨by decide +kernel, rfl⟩
theorem dd_M_field_90 : ad_D mm_M_field 90 (.iconst (-1)) 1 91 := ⟨by decide +kernel, rfl⟩
theorem dd_M_field_91 : ad_D mm_M_field 91 (.ireturn) 1 92 := ⟨by decide +kernel, rfl⟩
theorem dd_M_field_92 : ad_D mm_M_field 92 (.aload_n 0) 1 93 := ⟨by decide +kernel, rfl⟩
theorem dd_M_field_93 : ad_D mm_M_field 93 (.getfield 26) 3 96 := ⟨by decide +kernel, rfl⟩
theorem dd_M_field_96 : ad_D mm_M_field 96 (.aload_n 0) 1 97 := ⟨by decide +kernel, rfl⟩
theorem dd_M_field_97 : ad_D mm_M_field 97 (.getfield 152) 3 100 := ⟨by decide +kernel, rfl⟩
theorem dd_M_field_100 : ad_D mm_M_field 100 (.iload_n 1) 1 101 := ⟨by decide +kernel, rfl⟩
theorem dd_M_field_101 : ad_D mm_M_field 101 (.iastore) 1 102 := ⟨by decide +kernel, rfl⟩
theorem dd_M_field_102 : ad_D mm_M_field 102 (.aload_n 0) 1 103 := ⟨by decide +kernel, rfl⟩
theorem dd_M_field_103 : ad_D mm_M_field 103 (.getfield 30) 3 106 := ⟨by decide +kernel, rfl⟩
theorem dd_M_field_106 : ad_D mm_M_field 106 (.aload_n 0) 1 107 := ⟨by decide +kernel, rfl⟩
theorem dd_M_field_107 : ad_D mm_M_field 107 (.getfield 152) 3 110 := ⟨by decide +kernel, rfl⟩
theorem dd_M_field_110 : ad_D mm_M_field 110 (.iload_n 2) 1 111 := ⟨by decide +kernel, rfl⟩
theorem dd_M_field_111 : ad_D mm_M_field 111 (.iastore) 1 112 := ⟨by decide +kernel, rfl⟩
theorem dd_M_field_112 : ad_D mm_M_field 112 (.aload_n 0) 1 113 := ⟨by decide +kernel, rfl⟩
theorem dd_M_field_113 : ad_D mm_M_field 113 (.getfield 33) 3 116 := ⟨by decide +kernel, rfl⟩
theorem dd_M_field_116 : ad_D mm_M_field 116 (.aload_n 0) 1 117 := ⟨by decide +kernel, rfl⟩
theorem dd_M_field_117 : ad_D mm_M_field 117 (.getfield 152) 3 120 := ⟨by decide +kernel, rfl⟩
theorem dd_M_field_120 : ad_D mm_M_field 120 (.iload_n 3) 1 121 := ⟨by decide +kernel, rfl⟩
theorem dd_M_field_121 : ad_D mm_M_field 121 (.iastore) 1 122 := ⟨by decide +kernel, rfl⟩
theorem dd_M_field_122 : ad_D mm_M_field 122 (.aload_n 0) 1 123 := ⟨by decide +kernel, rfl⟩
theorem dd_M_field_123 : ad_D mm_M_field 123 (.getfield 36) 3 126 := ⟨by decide +kernel, rfl⟩
theorem dd_M_field_126 : ad_D mm_M_field 126 (.aload_n 0) 1 127 := ⟨by decide +kernel, rfl⟩
theorem dd_M_field_127 : ad_D mm_M_field 127 (.getfield 152) 3 130 := ⟨by decide +kernel, rfl⟩
theorem dd_M_field_130 : ad_D mm_M_field 130 (.iload 4) 2 132 := ⟨by decide +kernel, rfl⟩
theorem dd_M_field_132 : ad_D mm_M_field 132 (.iastore) 1 133 := ⟨by decide +kernel, rfl⟩
theorem dd_M_field_133 : ad_D mm_M_field 133 (.aload_n 0) 1 134 := ⟨by decide +kernel, rfl⟩
theorem dd_M_field_134 : ad_D mm_M_field 134 (.getfield 39) 3 137 := ⟨by decide +kernel, rfl⟩
theorem dd_M_field_137 : ad_D mm_M_field 137 (.aload_n 0) 1 138 := ⟨by decide +kernel, rfl⟩
theorem dd_M_field_138 : ad_D mm_M_field 138 (.getfield 152) 3 141 := ⟨by decide +kernel, rfl⟩
theorem dd_M_field_141 : ad_D mm_M_field 141 (.iload 5) 2 143 := ⟨by decide +kernel, rfl⟩
theorem dd_M_field_143 : ad_D mm_M_field 143 (.iastore) 1 144 := ⟨by decide +kernel, rfl⟩
theorem dd_M_field_144 : ad_D mm_M_field 144 (.aload_n 0) 1 145 := ⟨by decide +kernel, rfl⟩
theorem dd_M_field_145 : ad_D mm_M_field 145 (.getfield 42) 3 148 := ⟨by decide +kernel, rfl⟩
theorem dd_M_field_148 : ad_D mm_M_field 148 (.aload_n 0) 1 149 := ⟨by decide +kernel, rfl⟩
theorem dd_M_field_149 : ad_D mm_M_field 149 (.getfield 152) 3 152 := ⟨by decide +kernel, rfl⟩
theorem dd_M_field_152 : ad_D mm_M_field 152 (.iload 6) 2 154 := ⟨by decide +kernel, rfl⟩
theorem dd_M_field_154 : ad_D mm_M_field 154 (.iastore) 1 155 := ⟨by decide +kernel, rfl⟩
theorem dd_M_field_155 : ad_D mm_M_field 155 (.aload_n 0) 1 156 := ⟨by decide +kernel, rfl⟩
theorem dd_M_field_156 : ad_D mm_M_field 156 (.getfield 54) 3 159 := ⟨by decide +kernel, rfl⟩
theorem dd_M_field_159 : ad_D mm_M_field 159 (.aload_n 0) 1 160 := ⟨by decide +kernel, rfl⟩
theorem dd_M_field_160 : ad_D mm_M_field 160 (.getfield 152) 3 163 := ⟨by decide +kernel, rfl⟩
theorem dd_M_field_163 : ad_D mm_M_field 163 (.iconst (-1)) 1 164 := ⟨by decide +kernel, rfl⟩
theorem dd_M_field_164 : ad_D mm_M_field 164 (.iastore) 1 165 := ⟨by decide +kernel, rfl⟩
theorem dd_M_field_165 : ad_D mm_M_field 165 (.aload_n 0) 1 166 := ⟨by decide +kernel, rfl⟩
theorem dd_M_field_166 : ad_D mm_M_field 166 (.getfield 60) 3 169 := ⟨by decide +kernel, rfl⟩
theorem dd_M_field_169 : ad_D mm_M_field 169 (.aload_n 0) 1 170 := ⟨by decide +kernel, rfl⟩
theorem dd_M_field_170 : ad_D mm_M_field 170 (.getfield 152) 3 173 := ⟨by decide +kernel, rfl⟩
theorem dd_M_field_173 : ad_D mm_M_field 173 (.iconst (-1)) 1 174 := ⟨by decide +kernel, rfl⟩
theorem dd_M_field_174 : ad_D mm_M_field 174 (.iastore) 1 175 := ⟨by decide +kernel, rfl⟩
theorem dd_M_field_175 : ad_D mm_M_field 175 (.aload_n 0) 1 176 := ⟨by decide +kernel, rfl⟩
theorem dd_M_field_176 : ad_D mm_M_field 176 (.dup) 1 177 := ⟨by decide +kernel, rfl⟩
theorem dd_M_field_177 : ad_D mm_M_field 177 (.getfield 152) 3 180 := ⟨by decide +kernel, rfl⟩
theorem dd_M_field_180 : ad_D mm_M_field 180 (.iconst 1) 1 181 := ⟨by decide +kernel, rfl⟩
theorem dd_M_field_181 : ad_D mm_M_field 181 (.iadd) 1 182 := ⟨by decide +kernel, rfl⟩
theorem dd_M_field_182 : ad_D mm_M_field 182 (.putfield 152) 3 185 := ⟨by decide +kernel, rfl⟩
theorem dd_M_field_185 : ad_D mm_M_field 185 (.aload_n 0) 1 186 := ⟨by decide +kernel, rfl⟩
theorem dd_M_field_186 : ad_D mm_M_field 186 (.getfield 152) 3 189 := ⟨by decide +kernel, rfl⟩
theorem dd_M_field_189 : ad_D mm_M_field 189 (.iconst 1) 1 190 := ⟨by decide +kernel, rfl⟩
theorem dd_M_field_190 : ad_D mm_M_field 190 (.isub) 1 191 := ⟨by decide +kernel, rfl⟩
theorem dd_M_field_191 : ad_D mm_M_field 191 (.ireturn) 1 192 := ⟨by decide +kernel, rfl⟩
theorem dd_M_weather_0 : ad_D mm_M_weather 0 (.iload_n 2) 1 1 := ⟨by decide +kernel, rfl⟩
theorem dd_M_weather_1 : ad_D mm_M_weather 1 (.aload_n 0) 1 2 := ⟨by decide +kernel, rfl⟩
theorem dd_M_weather_2 : ad_D mm_M_weather 2 (.getfield 159) 3 5 := ⟨by decide +kernel, rfl⟩
theorem dd_M_weather_5 : ad_D mm_M_weather 5 (.sipush 4000) 3 8 := ⟨by decide +kernel, rfl⟩
theorem dd_M_weather_8 : ad_D mm_M_weather 8 (.invokestatic 155) 3 11 := ⟨by decide +kernel, rfl⟩
theorem dd_M_weather_11 : ad_D mm_M_weather 11 (.ifCond .eq 25) 3 14 := ⟨by decide +kernel, rfl⟩
theorem dd_M_weather_14 : ad_D mm_M_weather 14 (.iload_n 3) 1 15 := ⟨by decide +kernel, rfl⟩
theorem dd_M_weather_15 : ad_D mm_M_weather 15 (.iload_n 2) 1 16 := ⟨by decide +kernel, rfl⟩
theorem dd_M_weather_16 : ad_D mm_M_weather 16 (.iconst 1) 1 17 := ⟨by decide +kernel, rfl⟩
theorem dd_M_weather_17 : ad_D mm_M_weather 17 (.iadd) 1 18 := ⟨by decide +kernel, rfl⟩
theorem dd_M_weather_18 : ad_D mm_M_weather 18 (.sipush 4000) 3 21 := ⟨by decide +kernel, rfl⟩
theorem dd_M_weather_21 : ad_D mm_M_weather 21 (.invokestatic 155) 3 24 := ⟨by decide +kernel, rfl⟩
theorem dd_M_weather_24 : ad_D mm_M_weather 24 (.ifCond .eq 12) 3 27 := ⟨by decide +kernel, rfl⟩
theorem dd_M_weather_27 : ad_D mm_M_weather 27 (.aload_n 0) 1 28 := ⟨by decide +kernel, rfl⟩
theorem dd_M_weather_28 : ad_D mm_M_weather 28 (.getfield 169) 3 31 := ⟨by decide +kernel, rfl⟩
theorem dd_M_weather_31 : ad_D mm_M_weather 31 (.bipush 20) 2 33 := ⟨by decide +kernel, rfl⟩
theorem dd_M_weather_33 : ad_D mm_M_weather 33 (.if_icmp .ne 5) 3 36 := ⟨by decide +kernel, rfl⟩
theorem dd_M_weather_36 : ad_D mm_M_weather 36 (.iconst 0) 1 37 := ⟨by decide +kernel, rfl⟩
theorem dd_M_weather_37 : ad_D mm_M_weather 37 (.ireturn) 1 38 := ⟨by decide +kernel, rfl⟩
theorem dd_M_weather_38 : ad_D mm_M_weather 38 (.aload_n 0) 1 39 := ⟨by decide +kernel, rfl⟩
theorem dd_M_weather_39 : ad_D mm_M_weather 39 (.getfield 63) 3 42 := ⟨by decide +kernel, rfl⟩
theorem dd_M_weather_42 : ad_D mm_M_weather 42 (.aload_n 0) 1 43 := ⟨by decide +kernel, rfl⟩
theorem dd_M_weather_43 : ad_D mm_M_weather 43 (.getfield 169) 3 46 := ⟨by decide +kernel, rfl⟩
theorem dd_M_weather_46 : ad_D mm_M_weather 46 (.iload_n 1) 1 47 := ⟨by decide +kernel, rfl⟩
theorem dd_M_weather_47 : ad_D mm_M_weather 47 (.bastore) 1 48 := ⟨by decide +kernel, rfl⟩
theorem dd_M_weather_48 : ad_D mm_M_weather 48 (.aload_n 0) 1 49 := ⟨by decide +kernel, rfl⟩
theorem dd_M_weather_49 : ad_D mm_M_weather 49 (.getfield 67) 3 52 := ⟨by decide +kernel, rfl⟩
theorem dd_M_weather_52 : ad_D mm_M_weather 52 (.aload_n 0) 1 53 := ⟨by decide +kernel, rfl⟩
theorem dd_M_weather_53 : ad_D mm_M_weather 53 (.getfield 169) 3 56 := ⟨by decide +kernel, rfl⟩
theorem dd_M_weather_56 : ad_D mm_M_weather 56 (.iload_n 2) 1 57 := ⟨by decide +kernel, rfl⟩
theorem dd_M_weather_57 : ad_D mm_M_weather 57 (.iastore) 1 58 := ⟨by decide +kernel, rfl⟩
theorem dd_M_weather_58 : ad_D mm_M_weather 58 (.aload_n 0) 1 59 := ⟨by decide +kernel, rfl⟩
theorem dd_M_weather_59 : ad_D mm_M_weather 59 (.getfield 70) 3 62 := ⟨by decide +kernel, rfl⟩
theorem dd_M_weather_62 : ad_D mm_M_weather 62 (.aload_n 0) 1 63 := ⟨by decide +kernel, rfl⟩
theorem dd_M_weather_63 : ad_D mm_M_weather 63 (.getfield 169) 3 66 := ⟨by decide +kernel, rfl⟩
theorem dd_M_weather_66 : ad_D mm_M_weather 66 (.iload_n 3) 1 67 := ⟨by decide +kernel, rfl⟩
theorem dd_M_weather_67 : ad_D mm_M_weather 67 (.iastore) 1 68 := ⟨by decide +kernel, rfl⟩
theorem dd_M_weather_68 : ad_D mm_M_weather 68 (.aload_n 0) 1 69 := ⟨by decide +kernel, rfl⟩
theorem dd_M_weather_69 : ad_D mm_M_weather 69 (.dup) 1 70 := ⟨by decide +kernel, rfl⟩
theorem dd_M_weather_70 : ad_D mm_M_weather 70 (.getfield 169) 3 73 := ⟨by decide +kernel, rfl⟩
theorem dd_M_weather_73 : ad_D mm_M_weather 73 (.iconst 1) 1 74 := ⟨by decide +kernel, rfl⟩
theorem dd_M_weather_74 : ad_D mm_M_weather 74 (.iadd) 1 75 := ⟨by decide +kernel, rfl⟩
theorem dd_M_weather_75 : ad_D mm_M_weather 75 (.putfield 169) 3 78 := ⟨by decide +kernel, rfl⟩
theorem dd_M_weather_78 : ad_D mm_M_weather 78 (.iconst 1) 1 79 := ⟨by decide +kernel, rfl⟩
theorem dd_M_weather_79 : ad_D mm_M_weather 79 (.ireturn) 1 80 := ⟨by decide +kernel, rfl⟩
theorem dd_M_round_0 : ad_D mm_M_round 0 (.aload_n 0) 1 1 := ⟨by decide +kernel, rfl⟩
theorem dd_M_round_1 : ad_D mm_M_round 1 (.getfield 166) 3 4 := ⟨by decide +kernel, rfl⟩
theorem dd_M_round_4 : ad_D mm_M_round 4 (.ifCond .ne 5) 3 7 := ⟨by decide +kernel, rfl⟩
theorem dd_M_round_7 : ad_D mm_M_round 7 (.iconst (-1)) 1 8 := ⟨by decide +kernel, rfl⟩
theorem dd_M_round_8 : ad_D mm_M_round 8 (.ireturn) 1 9 := ⟨by decide +kernel, rfl⟩
theorem dd_M_round_9 : ad_D mm_M_round 9 (.iload_n 1) 1 10 := ⟨by decide +kernel, rfl⟩
theorem dd_M_round_10 : ad_D mm_M_round 10 (.istore_n 2) 1 11 := ⟨by decide +kernel, rfl⟩
theorem dd_M_round_11 : ad_D mm_M_round 11 (.iconst 0) 1 12 := ⟨by decide +kernel, rfl⟩
theorem dd_M_round_12 : ad_D mm_M_round 12 (.istore_n 3) 1 13 := ⟨by decide +kernel, rfl⟩
theorem dd_M_round_13 : ad_D mm_M_round 13 (.iload_n 3) 1 14 := ⟨by decide +kernel, rfl⟩
theorem dd_M_round_14 : ad_D mm_M_round 14 (.aload_n 0) 1 15 := ⟨by decide +kernel, rfl⟩
theorem dd_M_round_15 : ad_D mm_M_round 15 (.getfield 166) 3 18 := ⟨by decide +kernel, rfl⟩
theorem dd_M_round_18 : ad_D mm_M_round 18 (.if_icmp .ge 23) 3 21 := ⟨by decide +kernel, rfl⟩
theorem dd_M_round_21 : ad_D mm_M_round 21 (.aload_n 0) 1 22 := ⟨by decide +kernel, rfl⟩
theorem dd_M_round_22 : ad_D mm_M_round 22 (.getfield 110) 3 25 := ⟨by decide +kernel, rfl⟩
theorem dd_M_round_25 : ad_D mm_M_round 25 (.iload_n 3) 1 26 := ⟨by decide +kernel, rfl⟩
theorem dd_M_round_26 : ad_D mm_M_round 26 (.iload_n 3) 1 27 := ⟨by decide +kernel, rfl⟩
theorem dd_M_round_27 : ad_D mm_M_round 27 (.iastore) 1 28 := ⟨by decide +kernel, rfl⟩
theorem dd_M_round_28 : ad_D mm_M_round 28 (.aload_n 0) 1 29 := ⟨by decide +kernel, rfl⟩
theorem dd_M_round_29 : ad_D mm_M_round 29 (.getfield 113) 3 32 := ⟨by decide +kernel, rfl⟩
theorem dd_M_round_32 : ad_D mm_M_round 32 (.iload_n 3) 1 33 := ⟨by decide +kernel, rfl⟩
theorem dd_M_round_33 : ad_D mm_M_round 33 (.iconst 0) 1 34 := ⟨by decide +kernel, rfl⟩
theorem dd_M_round_34 : ad_D mm_M_round 34 (.bastore) 1 35 := ⟨by decide +kernel, rfl⟩
theorem dd_M_round_35 : ad_D mm_M_round 35 (.iinc 3 1) 3 38 := ⟨by decide +kernel, rfl⟩
theorem dd_M_round_38 : ad_D mm_M_round 38 (.goto (-25)) 3 41 := ⟨by decide +kernel, rfl⟩
theorem dd_M_round_41 : ad_D mm_M_round 41 (.iconst 0) 1 42 := ⟨by decide +kernel, rfl⟩
theorem dd_M_round_42 : ad_D mm_M_round 42 (.istore_n 3) 1 43 := ⟨by decide +kernel, rfl⟩
theorem dd_M_round_43 : ad_D mm_M_round 43 (.iload_n 3) 1 44 := ⟨by decide +kernel, rfl⟩
theorem dd_M_round_44 : ad_D mm_M_round 44 (.aload_n 0) 1 45 := ⟨by decide +kernel, rfl⟩
theorem dd_M_round_45 : ad_D mm_M_round 45 (.getfield 166) 3 48 := ⟨by decide +kernel, rfl⟩
theorem dd_M_round_48 : ad_D mm_M_round 48 (.iconst 1) 1 49 := ⟨by decide +kernel, rfl⟩
theorem dd_M_round_49 : ad_D mm_M_round 49 (.isub) 1 50 := ⟨by decide +kernel, rfl⟩
theorem dd_M_round_50 : ad_D mm_M_round 50 (.if_icmp .ge 63) 3 53 := ⟨by decide +kernel, rfl⟩
theorem dd_M_round_53 : ad_D mm_M_round 53 (.iload_n 2) 1 54 := ⟨by decide +kernel, rfl⟩
theorem dd_M_round_54 : ad_D mm_M_round 54 (.ldc 175) 2 56 := ⟨by decide +kernel, rfl⟩
theorem dd_M_round_56 : ad_D mm_M_round 56 (.imul) 1 57 := ⟨by decide +kernel, rfl⟩
theorem dd_M_round_57 : ad_D mm_M_round 57 (.sipush 12345) 3 60 := ⟨by decide +kernel, rfl⟩
theorem dd_M_round_60 : ad_D mm_M_round 60 (.iadd) 1 61 := ⟨by decide +kernel, rfl⟩
theorem dd_M_round_61 : ad_D mm_M_round 61 (.istore_n 2) 1 62 := ⟨by decide +kernel, rfl⟩
theorem dd_M_round_62 : ad_D mm_M_round 62 (.iload_n 3) 1 63 := ⟨by decide +kernel, rfl⟩
theorem dd_M_round_63 : ad_D mm_M_round 63 (.iload_n 2) 1 64 := ⟨by decide +kernel, rfl⟩
theorem dd_M_round_64 : ad_D mm_M_round 64 (.bipush 16) 2 66 := ⟨by decide +kernel, rfl⟩
theorem dd_M_round_66 : ad_D mm_M_round 66 (.iushr) 1 67 := ⟨by decide +kernel, rfl⟩
theorem dd_M_round_67 : ad_D mm_M_round 67 (.aload_n 0) 1 68 := ⟨by decide +kernel, rfl⟩
theorem dd_M_round_68 : ad_D mm_M_round 68 (.getfield 166) 3 71 := ⟨by decide +kernel, rfl⟩
theorem dd_M_round_71 : ad_D mm_M_round 71 (.iload_n 3) 1 72 := ⟨by decide +kernel, rfl⟩
theorem dd_M_round_72 : ad_D mm_M_round 72 (.isub) 1 73 := ⟨by decide +kernel, rfl⟩
theorem dd_M_round_73 : ad_D mm_M_round 73 (.irem) 1 74 := ⟨by decide +kernel, rfl⟩
theorem dd_M_round_74 : ad_D mm_M_round 74 (.iadd) 1 75 := ⟨by decide +kernel, rfl⟩
theorem dd_M_round_75 : ad_D mm_M_round 75 (.istore 4) 2 77 := ⟨by decide +kernel, rfl⟩
theorem dd_M_round_77 : ad_D mm_M_round 77 (.aload_n 0) 1 78 := ⟨by decide +kernel, rfl⟩
theorem dd_M_round_78 : ad_D mm_M_round 78 (.getfield 110) 3 81 := ⟨by decide +kernel, rfl⟩
theorem dd_M_round_81 : ad_D mm_M_round 81 (.iload_n 3) 1 82 := ⟨by decide +kernel, rfl⟩
theorem dd_M_round_82 : ad_D mm_M_round 82 (.iaload) 1 83 := ⟨by decide +kernel, rfl⟩
theorem dd_M_round_83 : ad_D mm_M_round 83 (.istore 5) 2 85 := ⟨by decide +kernel, rfl⟩
theorem dd_M_round_85 : ad_D mm_M_round 85 (.aload_n 0) 1 86 := ⟨by decide +kernel, rfl⟩
theorem dd_M_round_86 : ad_D mm_M_round 86 (.getfield 110) 3 89 := ⟨by decide +kernel, rfl⟩
theorem dd_M_round_89 : ad_D mm_M_round 89 (.iload_n 3) 1 90 := ⟨by decide +kernel, rfl⟩
theorem dd_M_round_90 : ad_D mm_M_round 90 (.aload_n 0) 1 91 := ⟨by decide +kernel, rfl⟩
theorem dd_M_round_91 : ad_D mm_M_round 91 (.getfield 110) 3 94 := ⟨by decide +kernel, rfl⟩
theorem dd_M_round_94 : ad_D mm_M_round 94 (.iload 4) 2 96 := ⟨by decide +kernel, rfl⟩
theorem dd_M_round_96 : ad_D mm_M_round 96 (.iaload) 1 97 := ⟨by decide +kernel, rfl⟩
theorem dd_M_round_97 : ad_D mm_M_round 97 (.iastore) 1 98 := ⟨by decide +kernel, rfl⟩
theorem dd_M_round_98 : ad_D mm_M_round 98 (.aload_n 0) 1 99 := ⟨by decide +kernel, rfl⟩
theorem dd_M_round_99 : ad_D mm_M_round 99 (.getfield 110) 3 102 := ⟨by decide +kernel, rfl⟩
theorem dd_M_round_102 : ad_D mm_M_round 102 (.iload 4) 2 104 := ⟨by decide +kernel, rfl⟩
theorem dd_M_round_104 : ad_D mm_M_round 104 (.iload 5) 2 106 := ⟨by decide +kernel, rfl⟩
theorem dd_M_round_106 : ad_D mm_M_round 106 (.iastore) 1 107 := ⟨by decide +kernel, rfl⟩
theorem dd_M_round_107 : ad_D mm_M_round 107 (.iinc 3 1) 3 110 := ⟨by decide +kernel, rfl⟩
theorem dd_M_round_110 : ad_D mm_M_round 110 (.goto (-67)) 3 113 := ⟨by decide +kernel, rfl⟩
theorem dd_M_round_113 : ad_D mm_M_round 113 (.aload_n 0) 1 114 := ⟨by decide +kernel, rfl⟩
theorem dd_M_round_114 : ad_D mm_M_round 114 (.aload_n 0) 1 115 := ⟨by decide +kernel, rfl⟩
theorem dd_M_round_115 : ad_D mm_M_round 115 (.getfield 166) 3 118 := ⟨by decide +kernel, rfl⟩
theorem dd_M_round_118 : ad_D mm_M_round 118 (.putfield 172) 3 121 := ⟨by decide +kernel, rfl⟩
theorem dd_M_round_121 : ad_D mm_M_round 121 (.aload_n 0) 1 122 := ⟨by decide +kernel, rfl⟩
theorem dd_M_round_122 : ad_D mm_M_round 122 (.invokevirtual 176) 3 125 := ⟨by decide +kernel, rfl⟩
theorem dd_M_round_125 : ad_D mm_M_round 125 (.ireturn) 1 126 := ⟨by decide +kernel, rfl⟩
theorem dd_M_turn_0 : ad_D mm_M_turn 0 (.iconst 0) 1 1 := ⟨by decide +kernel, rfl⟩
theorem dd_M_turn_1 : ad_D mm_M_turn 1 (.istore_n 1) 1 2 := ⟨by decide +kernel, rfl⟩
theorem dd_M_turn_2 : ad_D mm_M_turn 2 (.iload_n 1) 1 3 := ⟨by decide +kernel, rfl⟩
theorem dd_M_turn_3 : ad_D mm_M_turn 3 (.aload_n 0) 1 4 := ⟨by decide +kernel, rfl⟩
theorem dd_M_turn_4 : ad_D mm_M_turn 4 (.getfield 172) 3 7 := ⟨by decide +kernel, rfl⟩
theorem dd_M_turn_7 : ad_D mm_M_turn 7 (.if_icmp .ge 30) 3 10 := ⟨by decide +kernel, rfl⟩
theorem dd_M_turn_10 : ad_D mm_M_turn 10 (.aload_n 0) 1 11 := ⟨by decide +kernel, rfl⟩
theorem dd_M_turn_11 : ad_D mm_M_turn 11 (.getfield 113) 3 14 := ⟨by decide +kernel, rfl⟩
theorem dd_M_turn_14 : ad_D mm_M_turn 14 (.aload_n 0) 1 15 := ⟨by decide +kernel, rfl⟩
theorem dd_M_turn_15 : ad_D mm_M_turn 15 (.getfield 110) 3 18 := ⟨by decide +kernel, rfl⟩
theorem dd_M_turn_18 : ad_D mm_M_turn 18 (.iload_n 1) 1 19 := ⟨by decide +kernel, rfl⟩
theorem dd_M_turn_19 : ad_D mm_M_turn 19 (.iaload) 1 20 := ⟨by decide +kernel, rfl⟩
theorem dd_M_turn_20 : ad_D mm_M_turn 20 (.baload) 1 21 := ⟨by decide +kernel, rfl⟩
theorem dd_M_turn_21 : ad_D mm_M_turn 21 (.ifCond .ne 10) 3 24 := ⟨by decide +kernel, rfl⟩
theorem dd_M_turn_24 : ad_D mm_M_turn 24 (.aload_n 0) 1 25 := ⟨by decide +kernel, rfl⟩
theorem dd_M_turn_25 : ad_D mm_M_turn 25 (.getfield 110) 3 28 := ⟨by decide +kernel, rfl⟩
theorem dd_M_turn_28 : ad_D mm_M_turn 28 (.iload_n 1) 1 29 := ⟨by decide +kernel, rfl⟩
theorem dd_M_turn_29 : ad_D mm_M_turn 29 (.iaload) 1 30 := ⟨by decide +kernel, rfl⟩
theorem dd_M_turn_30 : ad_D mm_M_turn 30 (.ireturn) 1 31 := ⟨by decide +kernel, rfl⟩
theorem dd_M_turn_31 : ad_D mm_M_turn 31 (.iinc 1 1) 3 34 := ⟨by decide +kernel, rfl⟩
theorem dd_M_turn_34 : ad_D mm_M_turn 34 (.goto (-32)) 3 37 := ⟨by decide +kernel, rfl⟩
theorem dd_M_turn_37 : ad_D mm_M_turn 37 (.iconst (-1)) 1 38 := ⟨by decide +kernel, rfl⟩
theorem dd_M_turn_38 : ad_D mm_M_turn 38 (.ireturn) 1 39 := ⟨by decide +kernel, rfl⟩
theorem dd_M_pass_0 : ad_D mm_M_pass 0 (.aload_n 0) 1 1 := ⟨by decide +kernel, rfl⟩
theorem dd_M_pass_1 : ad_D mm_M_pass 1 (.invokevirtual 176) 3 4 := ⟨by decide +kernel, rfl⟩
theorem dd_M_pass_4 : ad_D mm_M_pass 4 (.istore_n 1) 1 5 := ⟨by decide +kernel, rfl⟩
theorem dd_M_pass_5 : ad_D mm_M_pass 5 (.iload_n 1) 1 6 := ⟨by decide +kernel, rfl⟩
theorem dd_M_pass_6 : ad_D mm_M_pass 6 (.ifCond .ge 5) 3 9 := ⟨by decide +kernel, rfl⟩
theorem dd_M_pass_9 : ad_D mm_M_pass 9 (.iconst (-1)) 1 10 := ⟨by decide +kernel, rfl⟩
theorem dd_M_pass_10 : ad_D mm_M_pass 10 (.ireturn) 1 11 := ⟨by decide +kernel, rfl⟩
theorem dd_M_pass_11 : ad_D mm_M_pass 11 (.aload_n 0) 1 12 := ⟨by decide +kernel, rfl⟩
theorem dd_M_pass_12 : ad_D mm_M_pass 12 (.getfield 113) 3 15 := ⟨by decide +kernel, rfl⟩
theorem dd_M_pass_15 : ad_D mm_M_pass 15 (.iload_n 1) 1 16 := ⟨by decide +kernel, rfl⟩
theorem dd_M_pass_16 : ad_D mm_M_pass 16 (.iconst 1) 1 17 := ⟨by decide +kernel, rfl⟩
theorem dd_M_pass_17 : ad_D mm_M_pass 17 (.bastore) 1 18 := ⟨by decide +kernel, rfl⟩
theorem dd_M_pass_18 : ad_D mm_M_pass 18 (.aload_n 0) 1 19 := ⟨by decide +kernel, rfl⟩
theorem dd_M_pass_19 : ad_D mm_M_pass 19 (.invokevirtual 176) 3 22 := ⟨by decide +kernel, rfl⟩
theorem dd_M_pass_22 : ad_D mm_M_pass 22 (.ireturn) 1 23 := ⟨by decide +kernel, rfl⟩
theorem dd_M_cut_0 : ad_D mm_M_cut 0 (.aload_n 0) 1 1 := ⟨by decide +kernel, rfl⟩
theorem dd_M_cut_1 : ad_D mm_M_cut 1 (.iload_n 1) 1 2 := ⟨by decide +kernel, rfl⟩
theorem dd_M_cut_2 : ad_D mm_M_cut 2 (.invokevirtual 180) 3 5 := ⟨by decide +kernel, rfl⟩
theorem dd_M_cut_5 : ad_D mm_M_cut 5 (.ifCond .eq 30) 3 8 := ⟨by decide +kernel, rfl⟩
theorem dd_M_cut_8 : ad_D mm_M_cut 8 (.aload_n 0) 1 9 := ⟨by decide +kernel, rfl⟩
theorem dd_M_cut_9 : ad_D mm_M_cut 9 (.getfield 45) 3 12 := ⟨by decide +kernel, rfl⟩
theorem dd_M_cut_12 : ad_D mm_M_cut 12 (.iload_n 1) 1 13 := ⟨by decide +kernel, rfl⟩
theorem dd_M_cut_13 : ad_D mm_M_cut 13 (.iaload) 1 14 := ⟨by decide +kernel, rfl⟩
theorem dd_M_cut_14 : ad_D mm_M_cut 14 (.ifCond .ne 21) 3 17 := ⟨by decide +kernel, rfl⟩
theorem dd_M_cut_17 : ad_D mm_M_cut 17 (.iload_n 2) 1 18 := ⟨by decide +kernel, rfl⟩
theorem dd_M_cut_18 : ad_D mm_M_cut 18 (.iconst 1) 1 19 := ⟨by decide +kernel, rfl⟩
theorem dd_M_cut_19 : ad_D mm_M_cut 19 (.bipush 9) 2 21 := ⟨by decide +kernel, rfl⟩
theorem dd_M_cut_21 : ad_D mm_M_cut 21 (.invokestatic 155) 3 24 := ⟨by decide +kernel, rfl⟩
theorem dd_M_cut_24 : ad_D mm_M_cut 24 (.ifCond .eq 11) 3 27 := ⟨by decide +kernel, rfl⟩
theorem dd_M_cut_27 : ad_D mm_M_cut 27 (.iload_n 2) 1 28 := ⟨by decide +kernel, rfl⟩
theorem dd_M_cut_28 : ad_D mm_M_cut 28 (.aload_n 0) 1 29 := ⟨by decide +kernel, rfl⟩
theorem dd_M_cut_29 : ad_D mm_M_cut 29 (.invokevirtual 184) 3 32 := ⟨by decide +kernel, rfl⟩
theorem dd_M_cut_32 : ad_D mm_M_cut 32 (.if_icmp .le 5) 3 35 := ⟨by decide +kernel, rfl⟩
theorem dd_M_cut_35 : ad_D mm_M_cut 35 (.iconst 0) 1 36 := ⟨by decide +kernel, rfl⟩
theorem dd_M_cut_36 : ad_D mm_M_cut 36 (.ireturn) 1 37 := ⟨by decide +kernel, rfl⟩
theorem dd_M_cut_37 : ad_D mm_M_cut 37 (.aload_n 0) 1 38 := ⟨by decide +kernel, rfl⟩
theorem dd_M_cut_38 : ad_D mm_M_cut 38 (.invokevirtual 176) 3 41 := ⟨by decide +kernel, rfl⟩
theorem dd_M_cut_41 : ad_D mm_M_cut 41 (.aload_n 0) 1 42 := ⟨by decide +kernel, rfl⟩
theorem dd_M_cut_42 : ad_D mm_M_cut 42 (.getfield 26) 3 45 := ⟨by decide +kernel, rfl⟩
theorem dd_M_cut_45 : ad_D mm_M_cut 45 (.iload_n 1) 1 46 := ⟨by decide +kernel, rfl⟩
theorem dd_M_cut_46 : ad_D mm_M_cut 46 (.iaload) 1 47 := ⟨by decide +kernel, rfl⟩
theorem dd_M_cut_47 : ad_D mm_M_cut 47 (.if_icmp .ne 7) 3 50 := ⟨by decide +kernel, rfl⟩
theorem dd_M_cut_50 : ad_D mm_M_cut 50 (.iconst 1) 1 51 := ⟨by decide +kernel, rfl⟩
theorem dd_M_cut_51 : ad_D mm_M_cut 51 (.goto 4) 3 54 := ⟨by decide +kernel, rfl⟩
theorem dd_M_cut_54 : ad_D mm_M_cut 54 (.iconst 0) 1 55 := ⟨by decide +kernel, rfl⟩
theorem dd_M_cut_55 : ad_D mm_M_cut 55 (.istore_n 3) 1 56 := ⟨by decide +kernel, rfl⟩
theorem dd_M_cut_56 : ad_D mm_M_cut 56 (.iload_n 3) 1 57 := ⟨by decide +kernel, rfl⟩
theorem dd_M_cut_57 : ad_D mm_M_cut 57 (.ifCond .ne 14) 3 60 := ⟨by decide +kernel, rfl⟩
theorem dd_M_cut_60 : ad_D mm_M_cut 60 (.aload_n 0) 1 61 := ⟨by decide +kernel, rfl⟩
theorem dd_M_cut_61 : ad_D mm_M_cut 61 (.getfield 54) 3 64 := ⟨by decide +kernel, rfl⟩
theorem dd_M_cut_64 : ad_D mm_M_cut 64 (.iload_n 1) 1 65 := ⟨by decide +kernel, rfl⟩
theorem dd_M_cut_65 : ad_D mm_M_cut 65 (.iaload) 1 66 := ⟨by decide +kernel, rfl⟩
theorem dd_M_cut_66 : ad_D mm_M_cut 66 (.ifCond .ge 5) 3 69 := ⟨by decide +kernel, rfl⟩
theorem dd_M_cut_69 : ad_D mm_M_cut 69 (.iconst 0) 1 70 := ⟨by decide +kernel, rfl⟩
theorem dd_M_cut_70 : ad_D mm_M_cut 70 (.ireturn) 1 71 := ⟨by decide +kernel, rfl⟩
theorem dd_M_cut_71 : ad_D mm_M_cut 71 (.iload_n 3) 1 72 := ⟨by decide +kernel, rfl⟩
theorem dd_M_cut_72 : ad_D mm_M_cut 72 (.ifCond .eq 15) 3 75 := ⟨by decide +kernel, rfl⟩
theorem dd_M_cut_75 : ad_D mm_M_cut 75 (.aload_n 0) 1 76 := ⟨by decide +kernel, rfl⟩
theorem dd_M_cut_76 : ad_D mm_M_cut 76 (.getfield 113) 3 79 := ⟨by decide +kernel, rfl⟩
theorem dd_M_cut_79 : ad_D mm_M_cut 79 (.aload_n 0) 1 80 := ⟨by decide +kernel, rfl⟩
theorem dd_M_cut_80 : ad_D mm_M_cut 80 (.getfield 26) 3 83 := ⟨by decide +kernel, rfl⟩
theorem dd_M_cut_83 : ad_D mm_M_cut 83 (.iload_n 1) 1 84 := ⟨by decide +kernel, rfl⟩
theorem dd_M_cut_84 : ad_D mm_M_cut 84 (.iaload) 1 85 := ⟨by decide +kernel, rfl⟩
theorem dd_M_cut_85 : ad_D mm_M_cut 85 (.iconst 1) 1 86 := ⟨by decide +kernel, rfl⟩
theorem dd_M_cut_86 : ad_D mm_M_cut 86 (.bastore) 1 87 := ⟨by decide +kernel, rfl⟩
theorem dd_M_cut_87 : ad_D mm_M_cut 87 (.aload_n 0) 1 88 := ⟨by decide +kernel, rfl⟩
theorem dd_M_cut_88 : ad_D mm_M_cut 88 (.getfield 45) 3 91 := ⟨by decide +kernel, rfl⟩
theorem dd_M_cut_91 : ad_D mm_M_cut 91 (.iload_n 1) 1 92 := ⟨by decide +kernel, rfl⟩
theorem dd_M_cut_92 : ad_D mm_M_cut 92 (.iconst 1) 1 93 := ⟨by decide +kernel, rfl⟩
theorem dd_M_cut_93 : ad_D mm_M_cut 93 (.iastore) 1 94 := ⟨by decide +kernel, rfl⟩
theorem dd_M_cut_94 : ad_D mm_M_cut 94 (.aload_n 0) 1 95 := ⟨by decide +kernel, rfl⟩
theorem dd_M_cut_95 : ad_D mm_M_cut 95 (.getfield 51) 3 98 := ⟨by decide +kernel, rfl⟩
theorem dd_M_cut_98 : ad_D mm_M_cut 98 (.iload_n 1) 1 99 := ⟨by decide +kernel, rfl⟩
theorem dd_M_cut_99 : ad_D mm_M_cut 99 (.iload_n 2) 1 100 := ⟨by decide +kernel, rfl⟩
theorem dd_M_cut_100 : ad_D mm_M_cut 100 (.iastore) 1 101 := ⟨by decide +kernel, rfl⟩
theorem dd_M_cut_101 : ad_D mm_M_cut 101 (.iconst 1) 1 102 := ⟨by decide +kernel, rfl⟩
theorem dd_M_cut_102 : ad_D mm_M_cut 102 (.ireturn) 1 103 := ⟨by decide +kernel, rfl⟩
theorem dd_M_isField_0 : ad_D mm_M_isField 0 (.iload_n 1) 1 1 := ⟨by decide +kernel, rfl⟩
theorem dd_M_isField_1 : ad_D mm_M_isField 1 (.iconst 0) 1 2 := ⟨by decide +kernel, rfl⟩
theorem dd_M_isField_2 : ad_D mm_M_isField 2 (.aload_n 0) 1 3 := ⟨by decide +kernel, rfl⟩
theorem dd_M_isField_3 : ad_D mm_M_isField 3 (.getfield 152) 3 6 := ⟨by decide +kernel, rfl⟩
theorem dd_M_isField_6 : ad_D mm_M_isField 6 (.iconst 1) 1 7 := ⟨by decide +kernel, rfl⟩
theorem dd_M_isField_7 : ad_D mm_M_isField 7 (.isub) 1 8 := ⟨by decide +kernel, rfl⟩
theorem dd_M_isField_8 : ad_D mm_M_isField 8 (.invokestatic 155) 3 11 := ⟨by decide +kernel, rfl⟩
theorem dd_M_isField_11 : ad_D mm_M_isField 11 (.ireturn) 1 12 := ⟨by decide +kernel, rfl⟩
theorem dd_M_freeGangs_0 : ad_D mm_M_freeGangs 0 (.aload_n 0) 1 1 := ⟨by decide +kernel, rfl⟩
theorem dd_M_freeGangs_1 : ad_D mm_M_freeGangs 1 (.getfield 7) 3 4 := ⟨by decide +kernel, rfl⟩
theorem dd_M_freeGangs_4 : ad_D mm_M_freeGangs 4 (.istore_n 1) 1 5 := ⟨by decide +kernel, rfl⟩
theorem dd_M_freeGangs_5 : ad_D mm_M_freeGangs 5 (.iconst 0) 1 6 := ⟨by decide +kernel, rfl⟩
theorem dd_M_freeGangs_6 : ad_D mm_M_freeGangs 6 (.istore_n 2) 1 7 := ⟨by decide +kernel, rfl⟩
theorem dd_M_freeGangs_7 : ad_D mm_M_freeGangs 7 (.iload_n 2) 1 8 := ⟨by decide +kernel, rfl⟩
theorem dd_M_freeGangs_8 : ad_D mm_M_freeGangs 8 (.aload_n 0) 1 9 := ⟨by decide +kernel, rfl⟩
theorem dd_M_freeGangs_9 : ad_D mm_M_freeGangs 9 (.getfield 152) 3 12 := ⟨by decide +kernel, rfl⟩
theorem dd_M_freeGangs_12 : ad_D mm_M_freeGangs 12 (.if_icmp .ge 32) 3 15 := ⟨by decide +kernel, rfl⟩
theorem dd_M_freeGangs_15 : ad_D mm_M_freeGangs 15 (.iload_n 1) 1 16 := ⟨by decide +kernel, rfl⟩
theorem dd_M_freeGangs_16 : ad_D mm_M_freeGangs 16 (.aload_n 0) 1 17 := ⟨by decide +kernel, rfl⟩
theorem dd_M_freeGangs_17 : ad_D mm_M_freeGangs 17 (.getfield 45) 3 20 := ⟨by decide +kernel, rfl⟩
theorem dd_M_freeGangs_20 : ad_D mm_M_freeGangs 20 (.iload_n 2) 1 21 := ⟨by decide +kernel, rfl⟩
theorem dd_M_freeGangs_21 : ad_D mm_M_freeGangs 21 (.iaload) 1 22 := ⟨by decide +kernel, rfl⟩
theorem dd_M_freeGangs_22 : ad_D mm_M_freeGangs 22 (.iconst 1) 1 23 := ⟨by decide +kernel, rfl⟩
theorem dd_M_freeGangs_23 : ad_D mm_M_freeGangs 23 (.if_icmp .ne 12) 3 26 := ⟨by decide +kernel, rfl⟩
theorem dd_M_freeGangs_26 : ad_D mm_M_freeGangs 26 (.aload_n 0) 1 27 := ⟨by decide +kernel, rfl⟩
theorem dd_M_freeGangs_27 : ad_D mm_M_freeGangs 27 (.getfield 51) 3 30 := ⟨by decide +kernel, rfl⟩
theorem dd_M_freeGangs_30 : ad_D mm_M_freeGangs 30 (.iload_n 2) 1 31 := ⟨by decide +kernel, rfl⟩
theorem dd_M_freeGangs_31 : ad_D mm_M_freeGangs 31 (.iaload) 1 32 := ⟨by decide +kernel, rfl⟩
theorem dd_M_freeGangs_32 : ad_D mm_M_freeGangs 32 (.goto 4) 3 35 := ⟨by decide +kernel, rfl⟩
theorem dd_M_freeGangs_35 : ad_D mm_M_freeGangs 35 (.iconst 0) 1 36 := ⟨by decide +kernel, rfl⟩
theorem dd_M_freeGangs_36 : ad_D mm_M_freeGangs 36 (.isub) 1 37 := ⟨by decide +kernel, rfl⟩
theorem dd_M_freeGangs_37 : ad_D mm_M_freeGangs 37 (.istore_n 1) 1 38 := ⟨by decide +kernel, rfl⟩
theorem dd_M_freeGangs_38 : ad_D mm_M_freeGangs 38 (.iinc 2 1) 3 41 := ⟨by decide +kernel, rfl⟩
theorem dd_M_freeGangs_41 : ad_D mm_M_freeGangs 41 (.goto (-34)) 3 44 := ⟨by decide +kernel, rfl⟩
theorem dd_M_freeGangs_44 : ad_D mm_M_freeGangs 44 (.iload_n 1) 1 45 := ⟨by decide +kernel, rfl⟩
theorem dd_M_freeGangs_45 : ad_D mm_M_freeGangs 45 (.ireturn) 1 46 := ⟨by decide +kernel, rfl⟩
theorem dd_M_fire_0 : ad_D mm_M_fire 0 (.aload_n 0) 1 1 := ⟨by decide +kernel, rfl⟩
theorem dd_M_fire_1 : ad_D mm_M_fire 1 (.iload_n 1) 1 2 := ⟨by decide +kernel, rfl⟩
theorem dd_M_fire_2 : ad_D mm_M_fire 2 (.invokevirtual 180) 3 5 := ⟨by decide +kernel, rfl⟩
theorem dd_M_fire_5 : ad_D mm_M_fire 5 (.ifCond .eq 21) 3 8 := ⟨by decide +kernel, rfl⟩
theorem dd_M_fire_8 : ad_D mm_M_fire 8 (.aload_n 0) 1 9 := ⟨by decide +kernel, rfl⟩
theorem dd_M_fire_9 : ad_D mm_M_fire 9 (.getfield 45) 3 12 := ⟨by decide +kernel, rfl⟩
theorem dd_M_fire_12 : ad_D mm_M_fire 12 (.iload_n 1) 1 13 := ⟨by decide +kernel, rfl⟩
theorem dd_M_fire_13 : ad_D mm_M_fire 13 (.iaload) 1 14 := ⟨by decide +kernel, rfl⟩
theorem dd_M_fire_14 : ad_D mm_M_fire 14 (.ifCond .ne 12) 3 17 := ⟨by decide +kernel, rfl⟩
theorem dd_M_fire_17 : ad_D mm_M_fire 17 (.aload_n 0) 1 18 := ⟨by decide +kernel, rfl⟩
theorem dd_M_fire_18 : ad_D mm_M_fire 18 (.getfield 54) 3 21 := ⟨by decide +kernel, rfl⟩
theorem dd_M_fire_21 : ad_D mm_M_fire 21 (.iload_n 1) 1 22 := ⟨by decide +kernel, rfl⟩
theorem dd_M_fire_22 : ad_D mm_M_fire 22 (.iaload) 1 23 := ⟨by decide +kernel, rfl⟩
theorem dd_M_fire_23 : ad_D mm_M_fire 23 (.ifCond .lt 5) 3 26 := ⟨by decide +kernel, rfl⟩
theorem dd_M_fire_26 : ad_D mm_M_fire 26 (.iconst 0) 1 27 := ⟨by decide +kernel, rfl⟩
theorem dd_M_fire_27 : ad_D mm_M_fire 27 (.ireturn) 1 28 := ⟨by decide +kernel, rfl⟩
theorem dd_M_fire_28 : ad_D mm_M_fire 28 (.aload_n 0) 1 29 := ⟨by decide +kernel, rfl⟩
theorem dd_M_fire_29 : ad_D mm_M_fire 29 (.iload_n 1) 1 30 := ⟨by decide +kernel, rfl⟩
theorem dd_M_fire_30 : ad_D mm_M_fire 30 (.aload_n 0) 1 31 := ⟨by decide +kernel, rfl⟩
theorem dd_M_fire_31 : ad_D mm_M_fire 31 (.getfield 159) 3 34 := ⟨by decide +kernel, rfl⟩
theorem dd_M_fire_34 : ad_D mm_M_fire 34 (.invokevirtual 187) 3 37 := ⟨by decide +kernel, rfl⟩
theorem dd_M_fire_37 : ad_D mm_M_fire 37 (.iconst 2) 1 38 := ⟨by decide +kernel, rfl⟩
theorem dd_M_fire_38 : ad_D mm_M_fire 38 (.isub) 1 39 := ⟨by decide +kernel, rfl⟩
theorem dd_M_fire_39 : ad_D mm_M_fire 39 (.istore_n 2) 1 40 := ⟨by decide +kernel, rfl⟩
theorem dd_M_fire_40 : ad_D mm_M_fire 40 (.aload_n 0) 1 41 := ⟨by decide +kernel, rfl⟩
theorem dd_M_fire_41 : ad_D mm_M_fire 41 (.getfield 57) 3 44 := ⟨by decide +kernel, rfl⟩
theorem dd_M_fire_44 : ad_D mm_M_fire 44 (.iload_n 1) 1 45 := ⟨by decide +kernel, rfl⟩
theorem dd_M_fire_45 : ad_D mm_M_fire 45 (.iload_n 2) 1 46 := ⟨by decide +kernel, rfl⟩
theorem dd_M_fire_46 : ad_D mm_M_fire 46 (.ifCond .ge 7) 3 49 := ⟨by decide +kernel, rfl⟩
theorem dd_M_fire_49 : ad_D mm_M_fire 49 (.iconst 0) 1 50 := ⟨by decide +kernel, rfl⟩
theorem dd_M_fire_50 : ad_D mm_M_fire 50 (.goto 4) 3 53 := ⟨by decide +kernel, rfl⟩
theorem dd_M_fire_53 : ad_D mm_M_fire 53 (.iload_n 2) 1 54 := ⟨by decide +kernel, rfl⟩
theorem dd_M_fire_54 : ad_D mm_M_fire 54 (.iastore) 1 55 := ⟨by decide +kernel, rfl⟩
theorem dd_M_fire_55 : ad_D mm_M_fire 55 (.aload_n 0) 1 56 := ⟨by decide +kernel, rfl⟩
theorem dd_M_fire_56 : ad_D mm_M_fire 56 (.getfield 54) 3 59 := ⟨by decide +kernel, rfl⟩
theorem dd_M_fire_59 : ad_D mm_M_fire 59 (.iload_n 1) 1 60 := ⟨by decide +kernel, rfl⟩
theorem dd_M_fire_60 : ad_D mm_M_fire 60 (.aload_n 0) 1 61 := ⟨by decide +kernel, rfl⟩
theorem dd_M_fire_61 : ad_D mm_M_fire 61 (.getfield 159) 3 64 := ⟨by decide +kernel, rfl⟩
theorem dd_M_fire_64 : ad_D mm_M_fire 64 (.iastore) 1 65 := ⟨by decide +kernel, rfl⟩
theorem dd_M_fire_65 : ad_D mm_M_fire 65 (.iconst 1) 1 66 := ⟨by decide +kernel, rfl⟩
theorem dd_M_fire_66 : ad_D mm_M_fire 66 (.ireturn) 1 67 := ⟨by decide +kernel, rfl⟩
theorem dd_M_sweetAt_0 : ad_D mm_M_sweetAt 0 (.aload_n 0) 1 1 := ⟨by decide +kernel, rfl⟩
theorem dd_M_sweetAt_1 : ad_D mm_M_sweetAt 1 (.getfield 54) 3 4 := ⟨by decide +kernel, rfl⟩
theorem dd_M_sweetAt_4 : ad_D mm_M_sweetAt 4 (.iload_n 1) 1 5 := ⟨by decide +kernel, rfl⟩
theorem dd_M_sweetAt_5 : ad_D mm_M_sweetAt 5 (.iaload) 1 6 := ⟨by decide +kernel, rfl⟩
theorem dd_M_sweetAt_6 : ad_D mm_M_sweetAt 6 (.ifCond .lt 10) 3 9 := ⟨by decide +kernel, rfl⟩
theorem dd_M_sweetAt_9 : ad_D mm_M_sweetAt 9 (.aload_n 0) 1 10 := ⟨by decide +kernel, rfl⟩
theorem dd_M_sweetAt_10 : ad_D mm_M_sweetAt 10 (.getfield 57) 3 13 := ⟨by decide +kernel, rfl⟩
theorem dd_M_sweetAt_13 : ad_D mm_M_sweetAt 13 (.iload_n 1) 1 14 := ⟨by decide +kernel, rfl⟩
theorem dd_M_sweetAt_14 : ad_D mm_M_sweetAt 14 (.iaload) 1 15 := ⟨by decide +kernel, rfl⟩
theorem dd_M_sweetAt_15 : ad_D mm_M_sweetAt 15 (.ireturn) 1 16 := ⟨by decide +kernel, rfl⟩
theorem dd_M_sweetAt_16 : ad_D mm_M_sweetAt 16 (.iload_n 2) 1 17 := ⟨by decide +kernel, rfl⟩
theorem dd_M_sweetAt_17 : ad_D mm_M_sweetAt 17 (.aload_n 0) 1 18 := ⟨by decide +kernel, rfl⟩
theorem dd_M_sweetAt_18 : ad_D mm_M_sweetAt 18 (.getfield 39) 3 21 := ⟨by decide +kernel, rfl⟩
theorem dd_M_sweetAt_21 : ad_D mm_M_sweetAt 21 (.iload_n 1) 1 22 := ⟨by decide +kernel, rfl⟩
theorem dd_M_sweetAt_22 : ad_D mm_M_sweetAt 22 (.iaload) 1 23 := ⟨by decide +kernel, rfl⟩
theorem dd_M_sweetAt_23 : ad_D mm_M_sweetAt 23 (.if_icmp .le 14) 3 26 := ⟨by decide +kernel, rfl⟩
theorem dd_M_sweetAt_26 : ad_D mm_M_sweetAt 26 (.iload_n 2) 1 27 := ⟨by decide +kernel, rfl⟩
theorem dd_M_sweetAt_27 : ad_D mm_M_sweetAt 27 (.aload_n 0) 1 28 := ⟨by decide +kernel, rfl⟩
theorem dd_M_sweetAt_28 : ad_D mm_M_sweetAt 28 (.getfield 39) 3 31 := ⟨by decide +kernel, rfl⟩
theorem dd_M_sweetAt_31 : ad_D mm_M_sweetAt 31 (.iload_n 1) 1 32 := ⟨by decide +kernel, rfl⟩
theorem dd_M_sweetAt_32 : ad_D mm_M_sweetAt 32 (.iaload) 1 33 := ⟨by decide +kernel, rfl⟩
theorem dd_M_sweetAt_33 : ad_D mm_M_sweetAt 33 (.isub) 1 34 := ⟨by decide +kernel, rfl⟩
theorem dd_M_sweetAt_34 : ad_D mm_M_sweetAt 34 (.goto 11) 3 37 := ⟨by decide +kernel, rfl⟩
theorem dd_M_sweetAt_37 : ad_D mm_M_sweetAt 37 (.aload_n 0) 1 38 := ⟨by decide +kernel, rfl⟩
theorem dd_M_sweetAt_38 : ad_D mm_M_sweetAt 38 (.getfield 39) 3 41 := ⟨by decide +kernel, rfl⟩
theorem dd_M_sweetAt_41 : ad_D mm_M_sweetAt 41 (.iload_n 1) 1 42 := ⟨by decide +kernel, rfl⟩
theorem dd_M_sweetAt_42 : ad_D mm_M_sweetAt 42 (.iaload) 1 43 := ⟨by decide +kernel, rfl⟩
theorem dd_M_sweetAt_43 : ad_D mm_M_sweetAt 43 (.iload_n 2) 1 44 := ⟨by decide +kernel, rfl⟩
theorem dd_M_sweetAt_44 : ad_D mm_M_sweetAt 44 (.isub) 1 45 := ⟨by decide +kernel, rfl⟩
theorem dd_M_sweetAt_45 : ad_D mm_M_sweetAt 45 (.istore_n 3) 1 46 := ⟨by decide +kernel, rfl⟩
theorem dd_M_sweetAt_46 : ad_D mm_M_sweetAt 46 (.aload_n 0) 1 47 := ⟨by decide +kernel, rfl⟩
theorem dd_M_sweetAt_47 : ad_D mm_M_sweetAt 47 (.getfield 36) 3 50 := ⟨by decide +kernel, rfl⟩
theorem dd_M_sweetAt_50 : ad_D mm_M_sweetAt 50 (.iload_n 1) 1 51 := ⟨by decide +kernel, rfl⟩
theorem dd_M_sweetAt_51 : ad_D mm_M_sweetAt 51 (.iaload) 1 52 := ⟨by decide +kernel, rfl⟩
theorem dd_M_sweetAt_52 : ad_D mm_M_sweetAt 52 (.iload_n 3) 1 53 := ⟨by decide +kernel, rfl⟩
theorem dd_M_sweetAt_53 : ad_D mm_M_sweetAt 53 (.aload_n 0) 1 54 := ⟨by decide +kernel, rfl⟩
theorem dd_M_sweetAt_54 : ad_D mm_M_sweetAt 54 (.getfield 42) 3 57 := ⟨by decide +kernel, rfl⟩
theorem dd_M_sweetAt_57 : ad_D mm_M_sweetAt 57 (.iload_n 1) 1 58 := ⟨by decide +kernel, rfl⟩
theorem dd_M_sweetAt_58 : ad_D mm_M_sweetAt 58 (.iaload) 1 59 := ⟨by decide +kernel, rfl⟩
theorem dd_M_sweetAt_59 : ad_D mm_M_sweetAt 59 (.idiv) 1 60 := ⟨by decide +kernel, rfl⟩
theorem dd_M_sweetAt_60 : ad_D mm_M_sweetAt 60 (.isub) 1 61 := ⟨by decide +kernel, rfl⟩
theorem dd_M_sweetAt_61 : ad_D mm_M_sweetAt 61 (.istore 4) 2 63 := ⟨by decide +kernel, rfl⟩
theorem dd_M_sweetAt_63 : ad_D mm_M_sweetAt 63 (.iload 4) 2 65 := ⟨by decide +kernel, rfl⟩
theorem dd_M_sweetAt_65 : ad_D mm_M_sweetAt 65 (.ifCond .ge 7) 3 68 := ⟨by decide +kernel, rfl⟩
theorem dd_M_sweetAt_68 : ad_D mm_M_sweetAt 68 (.iconst 0) 1 69 := ⟨by decide +kernel, rfl⟩
theorem dd_M_sweetAt_69 : ad_D mm_M_sweetAt 69 (.goto 5) 3 72 := ⟨by decide +kernel, rfl⟩
theorem dd_M_sweetAt_72 : ad_D mm_M_sweetAt 72 (.iload 4) 2 74 := ⟨by decide +kernel, rfl⟩
theorem dd_M_sweetAt_74 : ad_D mm_M_sweetAt 74 (.ireturn) 1 75 := ⟨by decide +kernel, rfl⟩
theorem dd_M_hours_0 : ad_D mm_M_hours 0 (.iload_n 1) 1 1 := ⟨by decide +kernel, rfl⟩
theorem dd_M_hours_1 : ad_D mm_M_hours 1 (.iconst 1) 1 2 := ⟨by decide +kernel, rfl⟩
theorem dd_M_hours_2 : ad_D mm_M_hours 2 (.bipush 100) 2 4 := ⟨by decide +kernel, rfl⟩
theorem dd_M_hours_4 : ad_D mm_M_hours 4 (.invokestatic 155) 3 7 := ⟨by decide +kernel, rfl⟩
theorem dd_M_hours_7 : ad_D mm_M_hours 7 (.ifCond .eq 15) 3 10 := ⟨by decide +kernel, rfl⟩
theorem dd_M_hours_10 : ad_D mm_M_hours 10 (.aload_n 0) 1 11 := ⟨by decide +kernel, rfl⟩
theorem dd_M_hours_11 : ad_D mm_M_hours 11 (.getfield 159) 3 14 := ⟨by decide +kernel, rfl⟩
theorem dd_M_hours_14 : ad_D mm_M_hours 14 (.iload_n 1) 1 15 := ⟨by decide +kernel, rfl⟩
theorem dd_M_hours_15 : ad_D mm_M_hours 15 (.iadd) 1 16 := ⟨by decide +kernel, rfl⟩
theorem dd_M_hours_16 : ad_D mm_M_hours 16 (.sipush 4000) 3 19 := ⟨by decide +kernel, rfl⟩
theorem dd_M_hours_19 : ad_D mm_M_hours 19 (.if_icmp .le 5) 3 22 := ⟨by decide +kernel, rfl⟩
theorem dd_M_hours_22 : ad_D mm_M_hours 22 (.iconst (-1)) 1 23 := ⟨by decide +kernel, rfl⟩
theorem dd_M_hours_23 : ad_D mm_M_hours 23 (.ireturn) 1 24 := ⟨by decide +kernel, rfl⟩
theorem dd_M_hours_24 : ad_D mm_M_hours 24 (.iconst 0) 1 25 := ⟨by decide +kernel, rfl⟩
theorem dd_M_hours_25 : ad_D mm_M_hours 25 (.istore_n 2) 1 26 := ⟨by decide +kernel, rfl⟩
theorem dd_M_hours_26 : ad_D mm_M_hours 26 (.iload_n 2) 1 27 := ⟨by decide +kernel, rfl⟩
theorem dd_M_hours_27 : ad_D mm_M_hours 27 (.iload_n 1) 1 28 := ⟨by decide +kernel, rfl⟩
theorem dd_M_hours_28 : ad_D mm_M_hours 28 (.if_icmp .ge 13) 3 31 := ⟨by decide +kernel, rfl⟩
theorem dd_M_hours_31 : ad_D mm_M_hours 31 (.aload_n 0) 1 32 := ⟨by decide +kernel, rfl⟩
theorem dd_M_hours_32 : ad_D mm_M_hours 32 (.invokevirtual 232) 3 35 := ⟨by decide +kernel, rfl⟩
theorem dd_M_hours_35 : ad_D mm_M_hours 35 (.iinc 2 1) 3 38 := ⟨by decide +kernel, rfl⟩
theorem dd_M_hours_38 : ad_D mm_M_hours 38 (.goto (-12)) 3 41 := ⟨by decide +kernel, rfl⟩
theorem dd_M_hours_41 : ad_D mm_M_hours 41 (.aload_n 0) 1 42 := ⟨by decide +kernel, rfl⟩
theorem dd_M_hours_42 : ad_D mm_M_hours 42 (.getfield 159) 3 45 := ⟨by decide +kernel, rfl⟩
theorem dd_M_hours_45 : ad_D mm_M_hours 45 (.ireturn) 1 46 := ⟨by decide +kernel, rfl⟩
theorem dd_M_hour_0 : ad_D mm_M_hour 0 (.aload_n 0) 1 1 := ⟨by decide +kernel, rfl⟩
theorem dd_M_hour_1 : ad_D mm_M_hour 1 (.iconst 0) 1 2 := ⟨by decide +kernel, rfl⟩
theorem dd_M_hour_2 : ad_D mm_M_hour 2 (.aload_n 0) 1 3 := ⟨by decide +kernel, rfl⟩
theorem dd_M_hour_3 : ad_D mm_M_hour 3 (.getfield 159) 3 6 := ⟨by decide +kernel, rfl⟩
theorem dd_M_hour_6 : ad_D mm_M_hour 6 (.invokevirtual 212) 3 9 := ⟨by decide +kernel, rfl⟩
theorem dd_M_hour_9 : ad_D mm_M_hour 9 (.ifCond .ne 7) 3 12 := ⟨by decide +kernel, rfl⟩
theorem dd_M_hour_12 : ad_D mm_M_hour 12 (.iconst 1) 1 13 := ⟨by decide +kernel, rfl⟩
theorem dd_M_hour_13 : ad_D mm_M_hour 13 (.goto 4) 3 16 := ⟨by decide +kernel, rfl⟩
theorem dd_M_hour_16 : ad_D mm_M_hour 16 (.iconst 0) 1 17 := ⟨by decide +kernel, rfl⟩
theorem dd_M_hour_17 : ad_D mm_M_hour 17 (.istore_n 1) 1 18 := ⟨by decide +kernel, rfl⟩
theorem dd_M_hour_18 : ad_D mm_M_hour 18 (.iconst 0) 1 19 := ⟨by decide +kernel, rfl⟩
theorem dd_M_hour_19 : ad_D mm_M_hour 19 (.istore_n 2) 1 20 := ⟨by decide +kernel, rfl⟩
theorem dd_M_hour_20 : ad_D mm_M_hour 20 (.iload_n 2) 1 21 := ⟨by decide +kernel, rfl⟩
theorem dd_M_hour_21 : ad_D mm_M_hour 21 (.aload_n 0) 1 22 := ⟨by decide +kernel, rfl⟩
theorem dd_M_hour_22 : ad_D mm_M_hour 22 (.getfield 152) 3 25 := ⟨by decide +kernel, rfl⟩
theorem dd_M_hour_25 : ad_D mm_M_hour 25 (.if_icmp .ge 28) 3 28 := ⟨by decide +kernel, rfl⟩
theorem dd_M_hour_28 : ad_D mm_M_hour 28 (.iload_n 1) 1 29 := ⟨by decide +kernel, rfl⟩
theorem dd_M_hour_29 : ad_D mm_M_hour 29 (.ifCond .eq 24) 3 32 := ⟨by decide +kernel, rfl⟩
theorem dd_M_hour_32 : ad_D mm_M_hour 32 (.aload_n 0) 1 33 := ⟨by decide +kernel, rfl⟩
theorem dd_M_hour_33 : ad_D mm_M_hour 33 (.getfield 45) 3 36 := ⟨by decide +kernel, rfl⟩
theorem dd_M_hour_36 : ad_D mm_M_hour 36 (.iload_n 2) 1 37 := ⟨by decide +kernel, rfl⟩
theorem dd_M_hour_37 : ad_D mm_M_hour 37 (.iaload) 1 38 := ⟨by decide +kernel, rfl⟩
theorem dd_M_hour_38 : ad_D mm_M_hour 38 (.iconst 1) 1 39 := ⟨by decide +kernel, rfl⟩
theorem dd_M_hour_39 : ad_D mm_M_hour 39 (.if_icmp .ne 8) 3 42 := ⟨by decide +kernel, rfl⟩
theorem dd_M_hour_42 : ad_D mm_M_hour 42 (.aload_n 0) 1 43 := ⟨by decide +kernel, rfl⟩
theorem dd_M_hour_43 : ad_D mm_M_hour 43 (.iload_n 2) 1 44 := ⟨by decide +kernel, rfl⟩
theorem dd_M_hour_44 : ad_D mm_M_hour 44 (.invokevirtual 216) 3 47 := ⟨by decide +kernel, rfl⟩
theorem dd_M_hour_47 : ad_D mm_M_hour 47 (.iinc 2 1) 3 50 := ⟨by decide +kernel, rfl⟩
theorem dd_M_hour_50 : ad_D mm_M_hour 50 (.goto (-30)) 3 53 := ⟨by decide +kernel, rfl⟩
theorem dd_M_hour_53 : ad_D mm_M_hour 53 (.iconst 0) 1 54 := ⟨by decide +kernel, rfl⟩
theorem dd_M_hour_54 : ad_D mm_M_hour 54 (.istore_n 2) 1 55 := ⟨by decide +kernel, rfl⟩
theorem dd_M_hour_55 : ad_D mm_M_hour 55 (.iload_n 2) 1 56 := ⟨by decide +kernel, rfl⟩
theorem dd_M_hour_56 : ad_D mm_M_hour 56 (.aload_n 0) 1 57 := ⟨by decide +kernel, rfl⟩
theorem dd_M_hour_57 : ad_D mm_M_hour 57 (.getfield 191) 3 60 := ⟨by decide +kernel, rfl⟩
theorem dd_M_hour_60 : ad_D mm_M_hour 60 (.if_icmp .ge 14) 3 63 := ⟨by decide +kernel, rfl⟩
theorem dd_M_hour_63 : ad_D mm_M_hour 63 (.aload_n 0) 1 64 := ⟨by decide +kernel, rfl⟩
theorem dd_M_hour_64 : ad_D mm_M_hour 64 (.iload_n 2) 1 65 := ⟨by decide +kernel, rfl⟩
theorem dd_M_hour_65 : ad_D mm_M_hour 65 (.invokevirtual 220) 3 68 := ⟨by decide +kernel, rfl⟩
theorem dd_M_hour_68 : ad_D mm_M_hour 68 (.iinc 2 1) 3 71 := ⟨by decide +kernel, rfl⟩
theorem dd_M_hour_71 : ad_D mm_M_hour 71 (.goto (-16)) 3 74 := ⟨by decide +kernel, rfl⟩
theorem dd_M_hour_74 : ad_D mm_M_hour 74 (.aload_n 0) 1 75 := ⟨by decide +kernel, rfl⟩
theorem dd_M_hour_75 : ad_D mm_M_hour 75 (.iconst 1) 1 76 := ⟨by decide +kernel, rfl⟩
theorem dd_M_hour_76 : ad_D mm_M_hour 76 (.aload_n 0) 1 77 := ⟨by decide +kernel, rfl⟩
theorem dd_M_hour_77 : ad_D mm_M_hour 77 (.getfield 159) 3 80 := ⟨by decide +kernel, rfl⟩
theorem dd_M_hour_80 : ad_D mm_M_hour 80 (.invokevirtual 212) 3 83 := ⟨by decide +kernel, rfl⟩
theorem dd_M_hour_83 : ad_D mm_M_hour 83 (.ifCond .ne 7) 3 86 := ⟨by decide +kernel, rfl⟩
theorem dd_M_hour_86 : ad_D mm_M_hour 86 (.aload_n 0) 1 87 := ⟨by decide +kernel, rfl⟩
theorem dd_M_hour_87 : ad_D mm_M_hour 87 (.invokevirtual 223) 3 90 := ⟨by decide +kernel, rfl⟩
theorem dd_M_hour_90 : ad_D mm_M_hour 90 (.iconst 0) 1 91 := ⟨by decide +kernel, rfl⟩
theorem dd_M_hour_91 : ad_D mm_M_hour 91 (.istore_n 2) 1 92 := ⟨by decide +kernel, rfl⟩
theorem dd_M_hour_92 : ad_D mm_M_hour 92 (.iload_n 2) 1 93 := ⟨by decide +kernel, rfl⟩
theorem dd_M_hour_93 : ad_D mm_M_hour 93 (.aload_n 0) 1 94 := ⟨by decide +kernel, rfl⟩
theorem dd_M_hour_94 : ad_D mm_M_hour 94 (.getfield 191) 3 97 := ⟨by decide +kernel, rfl⟩
theorem dd_M_hour_97 : ad_D mm_M_hour 97 (.if_icmp .ge 82) 3 100 := ⟨by decide +kernel, rfl⟩
theorem dd_M_hour_100 : ad_D mm_M_hour 100 (.aload_n 0) 1 101 := ⟨by decide +kernel, rfl⟩
theorem dd_M_hour_101 : ad_D mm_M_hour 101 (.getfield 94) 3 104 := ⟨by decide +kernel, rfl⟩
theorem dd_M_hour_104 : ad_D mm_M_hour 104 (.iload_n 2) 1 105 := ⟨by decide +kernel, rfl⟩
theorem dd_M_hour_105 : ad_D mm_M_hour 105 (.iaload) 1 106 := ⟨by decide +kernel, rfl⟩
theorem dd_M_hour_106 : ad_D mm_M_hour 106 (.ifCond .lt 6) 3 109 := ⟨by decide +kernel, rfl⟩
theorem dd_M_hour_109 : ad_D mm_M_hour 109 (.goto 64) 3 112 := ⟨by decide +kernel, rfl⟩
theorem dd_M_hour_112 : ad_D mm_M_hour 112 (.aload_n 0) 1 113 := ⟨by decide +kernel, rfl⟩
theorem dd_M_hour_113 : ad_D mm_M_hour 113 (.getfield 82) 3 116 := ⟨by decide +kernel, rfl⟩
theorem dd_M_hour_116 : ad_D mm_M_hour 116 (.iload_n 2) 1 117 := ⟨by decide +kernel, rfl⟩
theorem dd_M_hour_117 : ad_D mm_M_hour 117 (.iaload) 1 118 := ⟨by decide +kernel, rfl⟩
theorem dd_M_hour_118 : ad_D mm_M_hour 118 (.aload_n 0) 1 119 := ⟨by decide +kernel, rfl⟩
theorem dd_M_hour_119 : ad_D mm_M_hour 119 (.getfield 159) 3 122 := ⟨by decide +kernel, rfl⟩
theorem dd_M_hour_122 : ad_D mm_M_hour 122 (.iconst 1) 1 123 := ⟨by decide +kernel, rfl⟩
theorem dd_M_hour_123 : ad_D mm_M_hour 123 (.iadd) 1 124 := ⟨by decide +kernel, rfl⟩
theorem dd_M_hour_124 : ad_D mm_M_hour 124 (.if_icmp .gt 31) 3 127 := ⟨by decide +kernel, rfl⟩
theorem dd_M_hour_127 : ad_D mm_M_hour 127 (.aload_n 0) 1 128 := ⟨by decide +kernel, rfl⟩
theorem dd_M_hour_128 : ad_D mm_M_hour 128 (.dup) 1 129 := ⟨by decide +kernel, rfl⟩
theorem dd_M_hour_129 : ad_D mm_M_hour 129 (.getfield 226) 3 132 := ⟨by decide +kernel, rfl⟩
theorem dd_M_hour_132 : ad_D mm_M_hour 132 (.aload_n 0) 1 133 := ⟨by decide +kernel, rfl⟩
theorem dd_M_hour_133 : ad_D mm_M_hour 133 (.iload_n 2) 1 134 := ⟨by decide +kernel, rfl⟩
theorem dd_M_hour_134 : ad_D mm_M_hour 134 (.invokevirtual 199) 3 137 := ⟨by decide +kernel, rfl⟩
theorem dd_M_hour_137 : ad_D mm_M_hour 137 (.iadd) 1 138 := ⟨by decide +kernel, rfl⟩
theorem dd_M_hour_138 : ad_D mm_M_hour 138 (.putfield 226) 3 141 := ⟨by decide +kernel, rfl⟩
theorem dd_M_hour_141 : ad_D mm_M_hour 141 (.aload_n 0) 1 142 := ⟨by decide +kernel, rfl⟩
theorem dd_M_hour_142 : ad_D mm_M_hour 142 (.getfield 91) 3 145 := ⟨by decide +kernel, rfl⟩
theorem dd_M_hour_145 : ad_D mm_M_hour 145 (.iload_n 2) 1 146 := ⟨by decide +kernel, rfl⟩
theorem dd_M_hour_146 : ad_D mm_M_hour 146 (.dup2) 1 147 := ⟨by decide +kernel, rfl⟩
theorem dd_M_hour_147 : ad_D mm_M_hour 147 (.iaload) 1 148 := ⟨by decide +kernel, rfl⟩
theorem dd_M_hour_148 : ad_D mm_M_hour 148 (.aload_n 0) 1 149 := ⟨by decide +kernel, rfl⟩
theorem dd_M_hour_149 : ad_D mm_M_hour 149 (.iload_n 2) 1 150 := ⟨by decide +kernel, rfl⟩
theorem dd_M_hour_150 : ad_D mm_M_hour 150 (.invokevirtual 199) 3 153 := ⟨by decide +kernel, rfl⟩
theorem dd_M_hour_153 : ad_D mm_M_hour 153 (.iadd) 1 154 := ⟨by decide +kernel, rfl⟩
theorem dd_M_hour_154 : ad_D mm_M_hour 154 (.iastore) 1 155 := ⟨by decide +kernel, rfl⟩
theorem dd_M_hour_155 : ad_D mm_M_hour 155 (.aload_n 0) 1 156 := ⟨by decide +kernel, rfl⟩
theorem dd_M_hour_156 : ad_D mm_M_hour 156 (.iload_n 2) 1 157 := ⟨by decide +kernel, rfl⟩
theorem dd_M_hour_157 : ad_D mm_M_hour 157 (.invokevirtual 199) 3 160 := ⟨by decide +kernel, rfl⟩
theorem dd_M_hour_160 : ad_D mm_M_hour 160 (.ifCond .ne 13) 3 163 := ⟨by decide +kernel, rfl⟩
theorem dd_M_hour_163 : ad_D mm_M_hour 163 (.aload_n 0) 1 164 := ⟨by decide +kernel, rfl⟩
theorem dd_M_hour_164 : ad_D mm_M_hour 164 (.getfield 94) 3 167 := ⟨by decide +kernel, rfl⟩
theorem dd_M_hour_167 : ad_D mm_M_hour 167 (.iload_n 2) 1 168 := ⟨by decide +kernel, rfl⟩
theorem dd_M_hour_168 : ad_D mm_M_hour 168 (.aload_n 0) 1 169 := ⟨by decide +kernel, rfl⟩
theorem dd_M_hour_169 : ad_D mm_M_hour 169 (.getfield 159) 3 172 := ⟨by decide +kernel, rfl⟩
theorem dd_M_hour_172 : ad_D mm_M_hour 172 (.iastore) 1 173 := ⟨by decide +kernel, rfl⟩
theorem dd_M_hour_173 : ad_D mm_M_hour 173 (.iinc 2 1) 3 176 := ⟨by decide +kernel, rfl⟩
theorem dd_M_hour_176 : ad_D mm_M_hour 176 (.goto (-84)) 3 179 := ⟨by decide +kernel, rfl⟩
theorem dd_M_hour_179 : ad_D mm_M_hour 179 (.iconst 0) 1 180 := ⟨by decide +kernel, rfl⟩
theorem dd_M_hour_180 : ad_D mm_M_hour 180 (.istore_n 2) 1 181 := ⟨by decide +kernel, rfl⟩
theorem dd_M_hour_181 : ad_D mm_M_hour 181 (.iload_n 2) 1 182 := ⟨by decide +kernel, rfl⟩
theorem dd_M_hour_182 : ad_D mm_M_hour 182 (.aload_n 0) 1 183 := ⟨by decide +kernel, rfl⟩
theorem dd_M_hour_183 : ad_D mm_M_hour 183 (.getfield 152) 3 186 := ⟨by decide +kernel, rfl⟩
theorem dd_M_hour_186 : ad_D mm_M_hour 186 (.if_icmp .ge 50) 3 189 := ⟨by decide +kernel, rfl⟩
theorem dd_M_hour_189 : ad_D mm_M_hour 189 (.aload_n 0) 1 190 := ⟨by decide +kernel, rfl⟩
theorem dd_M_hour_190 : ad_D mm_M_hour 190 (.getfield 45) 3 193 := ⟨by decide +kernel, rfl⟩
theorem dd_M_hour_193 : ad_D mm_M_hour 193 (.iload_n 2) 1 194 := ⟨by decide +kernel, rfl⟩
theorem dd_M_hour_194 : ad_D mm_M_hour 194 (.iaload) 1 195 := ⟨by decide +kernel, rfl⟩
theorem dd_M_hour_195 : ad_D mm_M_hour 195 (.ifCond .ne 35) 3 198 := ⟨by decide +kernel, rfl⟩
theorem dd_M_hour_198 : ad_D mm_M_hour 198 (.aload_n 0) 1 199 := ⟨by decide +kernel, rfl⟩
theorem dd_M_hour_199 : ad_D mm_M_hour 199 (.getfield 54) 3 202 := ⟨by decide +kernel, rfl⟩
theorem dd_M_hour_202 : ad_D mm_M_hour 202 (.iload_n 2) 1 203 := ⟨by decide +kernel, rfl⟩
theorem dd_M_hour_203 : ad_D mm_M_hour 203 (.iaload) 1 204 := ⟨by decide +kernel, rfl⟩
theorem dd_M_hour_204 : ad_D mm_M_hour 204 (.ifCond .lt 26) 3 207 := ⟨by decide +kernel, rfl⟩
theorem dd_M_hour_207 : ad_D mm_M_hour 207 (.aload_n 0) 1 208 := ⟨by decide +kernel, rfl⟩
theorem dd_M_hour_208 : ad_D mm_M_hour 208 (.getfield 159) 3 211 := ⟨by decide +kernel, rfl⟩
theorem dd_M_hour_211 : ad_D mm_M_hour 211 (.aload_n 0) 1 212 := ⟨by decide +kernel, rfl⟩
theorem dd_M_hour_212 : ad_D mm_M_hour 212 (.getfield 54) 3 215 := ⟨by decide +kernel, rfl⟩
theorem dd_M_hour_215 : ad_D mm_M_hour 215 (.iload_n 2) 1 216 := ⟨by decide +kernel, rfl⟩
theorem dd_M_hour_216 : ad_D mm_M_hour 216 (.iaload) 1 217 := ⟨by decide +kernel, rfl⟩
theorem dd_M_hour_217 : ad_D mm_M_hour 217 (.bipush 11) 2 219 := ⟨by decide +kernel, rfl⟩
theorem dd_M_hour_219 : ad_D mm_M_hour 219 (.iadd) 1 220 := ⟨by decide +kernel, rfl⟩
theorem dd_M_hour_220 : ad_D mm_M_hour 220 (.if_icmp .ne 10) 3 223 := ⟨by decide +kernel, rfl⟩
theorem dd_M_hour_223 : ad_D mm_M_hour 223 (.aload_n 0) 1 224 := ⟨by decide +kernel, rfl⟩
theorem dd_M_hour_224 : ad_D mm_M_hour 224 (.getfield 45) 3 227 := ⟨by decide +kernel, rfl⟩
theorem dd_M_hour_227 : ad_D mm_M_hour 227 (.iload_n 2) 1 228 := ⟨by decide +kernel, rfl⟩
theorem dd_M_hour_228 : ad_D mm_M_hour 228 (.iconst 3) 1 229 := ⟨by decide +kernel, rfl⟩
theorem dd_M_hour_229 : ad_D mm_M_hour 229 (.iastore) 1 230 := ⟨by decide +kernel, rfl⟩
theorem dd_M_hour_230 : ad_D mm_M_hour 230 (.iinc 2 1) 3 233 := ⟨by decide +kernel, rfl⟩
theorem dd_M_hour_233 : ad_D mm_M_hour 233 (.goto (-52)) 3 236 := ⟨by decide +kernel, rfl⟩
theorem dd_M_hour_236 : ad_D mm_M_hour 236 (.aload_n 0) 1 237 := ⟨by decide +kernel, rfl⟩
theorem dd_M_hour_237 : ad_D mm_M_hour 237 (.getfield 159) 3 240 := ⟨by decide +kernel, rfl⟩
theorem dd_M_hour_240 : ad_D mm_M_hour 240 (.iconst 1) 1 241 := ⟨by decide +kernel, rfl⟩
theorem dd_M_hour_241 : ad_D mm_M_hour 241 (.iadd) 1 242 := ⟨by decide +kernel, rfl⟩
theorem dd_M_hour_242 : ad_D mm_M_hour 242 (.bipush 24) 2 244 := ⟨by decide +kernel, rfl⟩
theorem dd_M_hour_244 : ad_D mm_M_hour 244 (.irem) 1 245 := ⟨by decide +kernel, rfl⟩
theorem dd_M_hour_245 : ad_D mm_M_hour 245 (.ifCond .ne 7) 3 248 := ⟨by decide +kernel, rfl⟩
theorem dd_M_hour_248 : ad_D mm_M_hour 248 (.aload_n 0) 1 249 := ⟨by decide +kernel, rfl⟩
theorem dd_M_hour_249 : ad_D mm_M_hour 249 (.invokevirtual 229) 3 252 := ⟨by decide +kernel, rfl⟩
theorem dd_M_hour_252 : ad_D mm_M_hour 252 (.aload_n 0) 1 253 := ⟨by decide +kernel, rfl⟩
theorem dd_M_hour_253 : ad_D mm_M_hour 253 (.dup) 1 254 := ⟨by decide +kernel, rfl⟩
theorem dd_M_hour_254 : ad_D mm_M_hour 254 (.getfield 159) 3 257 := ⟨by decide +kernel, rfl⟩
theorem dd_M_hour_257 : ad_D mm_M_hour 257 (.iconst 1) 1 258 := ⟨by decide +kernel, rfl⟩
theorem dd_M_hour_258 : ad_D mm_M_hour 258 (.iadd) 1 259 := ⟨by decide +kernel, rfl⟩
theorem dd_M_hour_259 : ad_D mm_M_hour 259 (.putfield 159) 3 262 := ⟨by decide +kernel, rfl⟩
theorem dd_M_hour_262 : ad_D mm_M_hour 262 (.return_) 1 263 := ⟨by decide +kernel, rfl⟩
theorem dd_M_isHindered_0 : ad_D mm_M_isHindered 0 (.iconst 0) 1 1 := ⟨by decide +kernel, rfl⟩
theorem dd_M_isHindered_1 : ad_D mm_M_isHindered 1 (.istore_n 3) 1 2 := ⟨by decide +kernel, rfl⟩
theorem dd_M_isHindered_2 : ad_D mm_M_isHindered 2 (.iload_n 3) 1 3 := ⟨by decide +kernel, rfl⟩
theorem dd_M_isHindered_3 : ad_D mm_M_isHindered 3 (.aload_n 0) 1 4 := ⟨by decide +kernel, rfl⟩
theorem dd_M_isHindered_4 : ad_D mm_M_isHindered 4 (.getfield 169) 3 7 := ⟨by decide +kernel, rfl⟩
theorem dd_M_isHindered_7 : ad_D mm_M_isHindered 7 (.if_icmp .ge 41) 3 10 := ⟨by decide +kernel, rfl⟩
theorem dd_M_isHindered_10 : ad_D mm_M_isHindered 10 (.aload_n 0) 1 11 := ⟨by decide +kernel, rfl⟩
theorem dd_M_isHindered_11 : ad_D mm_M_isHindered 11 (.getfield 63) 3 14 := ⟨by decide +kernel, rfl⟩
theorem dd_M_isHindered_14 : ad_D mm_M_isHindered 14 (.iload_n 3) 1 15 := ⟨by decide +kernel, rfl⟩
theorem dd_M_isHindered_15 : ad_D mm_M_isHindered 15 (.baload) 1 16 := ⟨by decide +kernel, rfl⟩
theorem dd_M_isHindered_16 : ad_D mm_M_isHindered 16 (.iload_n 1) 1 17 := ⟨by decide +kernel, rfl⟩
theorem dd_M_isHindered_17 : ad_D mm_M_isHindered 17 (.if_icmp .ne 25) 3 20 := ⟨by decide +kernel, rfl⟩
theorem dd_M_isHindered_20 : ad_D mm_M_isHindered 20 (.iload_n 2) 1 21 := ⟨by decide +kernel, rfl⟩
theorem dd_M_isHindered_21 : ad_D mm_M_isHindered 21 (.aload_n 0) 1 22 := ⟨by decide +kernel, rfl⟩
theorem dd_M_isHindered_22 : ad_D mm_M_isHindered 22 (.getfield 67) 3 25 := ⟨by decide +kernel, rfl⟩
theorem dd_M_isHindered_25 : ad_D mm_M_isHindered 25 (.iload_n 3) 1 26 := ⟨by decide +kernel, rfl⟩
theorem dd_M_isHindered_26 : ad_D mm_M_isHindered 26 (.iaload) 1 27 := ⟨by decide +kernel, rfl⟩
theorem dd_M_isHindered_27 : ad_D mm_M_isHindered 27 (.if_icmp .lt 15) 3 30 := ⟨by decide +kernel, rfl⟩
theorem dd_M_isHindered_30 : ad_D mm_M_isHindered 30 (.iload_n 2) 1 31 := ⟨by decide +kernel, rfl⟩
theorem dd_M_isHindered_31 : ad_D mm_M_isHindered 31 (.aload_n 0) 1 32 := ⟨by decide +kernel, rfl⟩
theorem dd_M_isHindered_32 : ad_D mm_M_isHindered 32 (.getfield 70) 3 35 := ⟨by decide +kernel, rfl⟩
theorem dd_M_isHindered_35 : ad_D mm_M_isHindered 35 (.iload_n 3) 1 36 := ⟨by decide +kernel, rfl⟩
theorem dd_M_isHindered_36 : ad_D mm_M_isHindered 36 (.iaload) 1 37 := ⟨by decide +kernel, rfl⟩
theorem dd_M_isHindered_37 : ad_D mm_M_isHindered 37 (.if_icmp .ge 5) 3 40 := ⟨by decide +kernel, rfl⟩
theorem dd_M_isHindered_40 : ad_D mm_M_isHindered 40 (.iconst 1) 1 41 := ⟨by decide +kernel, rfl⟩
theorem dd_M_isHindered_41 : ad_D mm_M_isHindered 41 (.ireturn) 1 42 := ⟨by decide +kernel, rfl⟩
theorem dd_M_isHindered_42 : ad_D mm_M_isHindered 42 (.iinc 3 1) 3 45 := ⟨by decide +kernel, rfl⟩
theorem dd_M_isHindered_45 : ad_D mm_M_isHindered 45 (.goto (-43)) 3 48 := ⟨by decide +kernel, rfl⟩
theorem dd_M_isHindered_48 : ad_D mm_M_isHindered 48 (.iconst 0) 1 49 := ⟨by decide +kernel, rfl⟩
theorem dd_M_isHindered_49 : ad_D mm_M_isHindered 49 (.ireturn) 1 50 := ⟨by decide +kernel, rfl⟩
theorem dd_M_cutOn_0 : ad_D mm_M_cutOn 0 (.aload_n 0) 1 1 := ⟨by decide +kernel, rfl⟩
theorem dd_M_cutOn_1 : ad_D mm_M_cutOn 1 (.getfield 13) 3 4 := ⟨by decide +kernel, rfl⟩
theorem dd_M_cutOn_4 : ad_D mm_M_cutOn 4 (.aload_n 0) 1 5 := ⟨by decide +kernel, rfl⟩
theorem dd_M_cutOn_5 : ad_D mm_M_cutOn 5 (.getfield 51) 3 8 := ⟨by decide +kernel, rfl⟩
theorem dd_M_cutOn_8 : ad_D mm_M_cutOn 8 (.iload_n 1) 1 9 := ⟨by decide +kernel, rfl⟩
theorem dd_M_cutOn_9 : ad_D mm_M_cutOn 9 (.iaload) 1 10 := ⟨by decide +kernel, rfl⟩
theorem dd_M_cutOn_10 : ad_D mm_M_cutOn 10 (.imul) 1 11 := ⟨by decide +kernel, rfl⟩
theorem dd_M_cutOn_11 : ad_D mm_M_cutOn 11 (.istore_n 2) 1 12 := ⟨by decide +kernel, rfl⟩
theorem dd_M_cutOn_12 : ad_D mm_M_cutOn 12 (.aload_n 0) 1 13 := ⟨by decide +kernel, rfl⟩
theorem dd_M_cutOn_13 : ad_D mm_M_cutOn 13 (.getfield 48) 3 16 := ⟨by decide +kernel, rfl⟩
theorem dd_M_cutOn_16 : ad_D mm_M_cutOn 16 (.iload_n 1) 1 17 := ⟨by decide +kernel, rfl⟩
theorem dd_M_cutOn_17 : ad_D mm_M_cutOn 17 (.aload_n 0) 1 18 := ⟨by decide +kernel, rfl⟩
theorem dd_M_cutOn_18 : ad_D mm_M_cutOn 18 (.getfield 48) 3 21 := ⟨by decide +kernel, rfl⟩
theorem dd_M_cutOn_21 : ad_D mm_M_cutOn 21 (.iload_n 1) 1 22 := ⟨by decide +kernel, rfl⟩
theorem dd_M_cutOn_22 : ad_D mm_M_cutOn 22 (.iaload) 1 23 := ⟨by decide +kernel, rfl⟩
theorem dd_M_cutOn_23 : ad_D mm_M_cutOn 23 (.iload_n 2) 1 24 := ⟨by decide +kernel, rfl⟩
theorem dd_M_cutOn_24 : ad_D mm_M_cutOn 24 (.iadd) 1 25 := ⟨by decide +kernel, rfl⟩
theorem dd_M_cutOn_25 : ad_D mm_M_cutOn 25 (.aload_n 0) 1 26 := ⟨by decide +kernel, rfl⟩
theorem dd_M_cutOn_26 : ad_D mm_M_cutOn 26 (.getfield 30) 3 29 := ⟨by decide +kernel, rfl⟩
theorem dd_M_cutOn_29 : ad_D mm_M_cutOn 29 (.iload_n 1) 1 30 := ⟨by decide +kernel, rfl⟩
theorem dd_M_cutOn_30 : ad_D mm_M_cutOn 30 (.iaload) 1 31 := ⟨by decide +kernel, rfl⟩
theorem dd_M_cutOn_31 : ad_D mm_M_cutOn 31 (.if_icmp .le 12) 3 34 := ⟨by decide +kernel, rfl⟩
theorem dd_M_cutOn_34 : ad_D mm_M_cutOn 34 (.aload_n 0) 1 35 := ⟨by decide +kernel, rfl⟩
theorem dd_M_cutOn_35 : ad_D mm_M_cutOn 35 (.getfield 30) 3 38 := ⟨by decide +kernel, rfl⟩
theorem dd_M_cutOn_38 : ad_D mm_M_cutOn 38 (.iload_n 1) 1 39 := ⟨by decide +kernel, rfl⟩
theorem dd_M_cutOn_39 : ad_D mm_M_cutOn 39 (.iaload) 1 40 := ⟨by decide +kernel, rfl⟩
theorem dd_M_cutOn_40 : ad_D mm_M_cutOn 40 (.goto 11) 3 43 := ⟨by decide +kernel, rfl⟩
theorem dd_M_cutOn_43 : ad_D mm_M_cutOn 43 (.aload_n 0) 1 44 := ⟨by decide +kernel, rfl⟩
theorem dd_M_cutOn_44 : ad_D mm_M_cutOn 44 (.getfield 48) 3 47 := ⟨by decide +kernel, rfl⟩
theorem dd_M_cutOn_47 : ad_D mm_M_cutOn 47 (.iload_n 1) 1 48 := ⟨by decide +kernel, rfl⟩
theorem dd_M_cutOn_48 : ad_D mm_M_cutOn 48 (.iaload) 1 49 := ⟨by decide +kernel, rfl⟩
theorem dd_M_cutOn_49 : ad_D mm_M_cutOn 49 (.iload_n 2) 1 50 := ⟨by decide +kernel, rfl⟩
theorem dd_M_cutOn_50 : ad_D mm_M_cutOn 50 (.iadd) 1 51 := ⟨by decide +kernel, rfl⟩
theorem dd_M_cutOn_51 : ad_D mm_M_cutOn 51 (.iastore) 1 52 := ⟨by decide +kernel, rfl⟩
theorem dd_M_cutOn_52 : ad_D mm_M_cutOn 52 (.aload_n 0) 1 53 := ⟨by decide +kernel, rfl⟩
theorem dd_M_cutOn_53 : ad_D mm_M_cutOn 53 (.getfield 48) 3 56 := ⟨by decide +kernel, rfl⟩
theorem dd_M_cutOn_56 : ad_D mm_M_cutOn 56 (.iload_n 1) 1 57 := ⟨by decide +kernel, rfl⟩
theorem dd_M_cutOn_57 : ad_D mm_M_cutOn 57 (.iaload) 1 58 := ⟨by decide +kernel, rfl⟩
theorem dd_M_cutOn_58 : ad_D mm_M_cutOn 58 (.aload_n 0) 1 59 := ⟨by decide +kernel, rfl⟩
theorem dd_M_cutOn_59 : ad_D mm_M_cutOn 59 (.getfield 30) 3 62 := ⟨by decide +kernel, rfl⟩
theorem dd_M_cutOn_62 : ad_D mm_M_cutOn 62 (.iload_n 1) 1 63 := ⟨by decide +kernel, rfl⟩
theorem dd_M_cutOn_63 : ad_D mm_M_cutOn 63 (.iaload) 1 64 := ⟨by decide +kernel, rfl⟩
theorem dd_M_cutOn_64 : ad_D mm_M_cutOn 64 (.if_icmp .ge 4) 3 67 := ⟨by decide +kernel, rfl⟩
theorem dd_M_cutOn_67 : ad_D mm_M_cutOn 67 (.return_) 1 68 := ⟨by decide +kernel, rfl⟩
theorem dd_M_cutOn_68 : ad_D mm_M_cutOn 68 (.aload_n 0) 1 69 := ⟨by decide +kernel, rfl⟩
theorem dd_M_cutOn_69 : ad_D mm_M_cutOn 69 (.getfield 45) 3 72 := ⟨by decide +kernel, rfl⟩
theorem dd_M_cutOn_72 : ad_D mm_M_cutOn 72 (.iload_n 1) 1 73 := ⟨by decide +kernel, rfl⟩
theorem dd_M_cutOn_73 : ad_D mm_M_cutOn 73 (.iconst 2) 1 74 := ⟨by decide +kernel, rfl⟩
theorem dd_M_cutOn_74 : ad_D mm_M_cutOn 74 (.iastore) 1 75 := ⟨by decide +kernel, rfl⟩
theorem dd_M_cutOn_75 : ad_D mm_M_cutOn 75 (.aload_n 0) 1 76 := ⟨by decide +kernel, rfl⟩
theorem dd_M_cutOn_76 : ad_D mm_M_cutOn 76 (.getfield 51) 3 79 := ⟨by decide +kernel, rfl⟩
theorem dd_M_cutOn_79 : ad_D mm_M_cutOn 79 (.iload_n 1) 1 80 := ⟨by decide +kernel, rfl⟩
theorem dd_M_cutOn_80 : ad_D mm_M_cutOn 80 (.iconst 0) 1 81 := ⟨by decide +kernel, rfl⟩
theorem dd_M_cutOn_81 : ad_D mm_M_cutOn 81 (.iastore) 1 82 := ⟨by decide +kernel, rfl⟩
theorem dd_M_cutOn_82 : ad_D mm_M_cutOn 82 (.aload_n 0) 1 83 := ⟨by decide +kernel, rfl⟩
theorem dd_M_cutOn_83 : ad_D mm_M_cutOn 83 (.getfield 191) 3 86 := ⟨by decide +kernel, rfl⟩
theorem dd_M_cutOn_86 : ad_D mm_M_cutOn 86 (.istore_n 3) 1 87 := ⟨by decide +kernel, rfl⟩
theorem dd_M_cutOn_87 : ad_D mm_M_cutOn 87 (.aload_n 0) 1 88 := ⟨by decide +kernel, rfl⟩
theorem dd_M_cutOn_88 : ad_D mm_M_cutOn 88 (.dup) 1 89 := ⟨by decide +kernel, rfl⟩
theorem dd_M_cutOn_89 : ad_D mm_M_cutOn 89 (.getfield 191) 3 92 := ⟨by decide +kernel, rfl⟩
theorem dd_M_cutOn_92 : ad_D mm_M_cutOn 92 (.iconst 1) 1 93 := ⟨by decide +kernel, rfl⟩
theorem dd_M_cutOn_93 : ad_D mm_M_cutOn 93 (.iadd) 1 94 := ⟨by decide +kernel, rfl⟩
theorem dd_M_cutOn_94 : ad_D mm_M_cutOn 94 (.putfield 191) 3 97 := ⟨by decide +kernel, rfl⟩
theorem dd_M_cutOn_97 : ad_D mm_M_cutOn 97 (.aload_n 0) 1 98 := ⟨by decide +kernel, rfl⟩
theorem dd_M_cutOn_98 : ad_D mm_M_cutOn 98 (.getfield 60) 3 101 := ⟨by decide +kernel, rfl⟩
theorem dd_M_cutOn_101 : ad_D mm_M_cutOn 101 (.iload_n 1) 1 102 := ⟨by decide +kernel, rfl⟩
theorem dd_M_cutOn_102 : ad_D mm_M_cutOn 102 (.iload_n 3) 1 103 := ⟨by decide +kernel, rfl⟩
theorem dd_M_cutOn_103 : ad_D mm_M_cutOn 103 (.iastore) 1 104 := ⟨by decide +kernel, rfl⟩
theorem dd_M_cutOn_104 : ad_D mm_M_cutOn 104 (.aload_n 0) 1 105 := ⟨by decide +kernel, rfl⟩
theorem dd_M_cutOn_105 : ad_D mm_M_cutOn 105 (.getfield 73) 3 108 := ⟨by decide +kernel, rfl⟩
theorem dd_M_cutOn_108 : ad_D mm_M_cutOn 108 (.iload_n 3) 1 109 := ⟨by decide +kernel, rfl⟩
theorem dd_M_cutOn_109 : ad_D mm_M_cutOn 109 (.iload_n 1) 1 110 := ⟨by decide +kernel, rfl⟩
theorem dd_M_cutOn_110 : ad_D mm_M_cutOn 110 (.iastore) 1 111 := ⟨by decide +kernel, rfl⟩
theorem dd_M_cutOn_111 : ad_D mm_M_cutOn 111 (.aload_n 0) 1 112 := ⟨by decide +kernel, rfl⟩
theorem dd_M_cutOn_112 : ad_D mm_M_cutOn 112 (.getfield 76) 3 115 := ⟨by decide +kernel, rfl⟩
theorem dd_M_cutOn_115 : ad_D mm_M_cutOn 115 (.iload_n 3) 1 116 := ⟨by decide +kernel, rfl⟩
theorem dd_M_cutOn_116 : ad_D mm_M_cutOn 116 (.aload_n 0) 1 117 := ⟨by decide +kernel, rfl⟩
theorem dd_M_cutOn_117 : ad_D mm_M_cutOn 117 (.getfield 159) 3 120 := ⟨by decide +kernel, rfl⟩
theorem dd_M_cutOn_120 : ad_D mm_M_cutOn 120 (.iconst 1) 1 121 := ⟨by decide +kernel, rfl⟩
theorem dd_M_cutOn_121 : ad_D mm_M_cutOn 121 (.iadd) 1 122 := ⟨by decide +kernel, rfl⟩
theorem dd_M_cutOn_122 : ad_D mm_M_cutOn 122 (.iastore) 1 123 := ⟨by decide +kernel, rfl⟩
theorem dd_M_cutOn_123 : ad_D mm_M_cutOn 123 (.aload_n 0) 1 124 := ⟨by decide +kernel, rfl⟩
theorem dd_M_cutOn_124 : ad_D mm_M_cutOn 124 (.getfield 79) 3 127 := ⟨by decide +kernel, rfl⟩
theorem dd_M_cutOn_127 : ad_D mm_M_cutOn 127 (.iload_n 3) 1 128 := ⟨by decide +kernel, rfl⟩
theorem dd_M_cutOn_128 : ad_D mm_M_cutOn 128 (.aload_n 0) 1 129 := ⟨by decide +kernel, rfl⟩
theorem dd_M_cutOn_129 : ad_D mm_M_cutOn 129 (.iload_n 1) 1 130 := ⟨by decide +kernel, rfl⟩
theorem dd_M_cutOn_130 : ad_D mm_M_cutOn 130 (.aload_n 0) 1 131 := ⟨by decide +kernel, rfl⟩
theorem dd_M_cutOn_131 : ad_D mm_M_cutOn 131 (.getfield 159) 3 134 := ⟨by decide +kernel, rfl⟩
theorem dd_M_cutOn_134 : ad_D mm_M_cutOn 134 (.iconst 1) 1 135 := ⟨by decide +kernel, rfl⟩
theorem dd_M_cutOn_135 : ad_D mm_M_cutOn 135 (.iadd) 1 136 := ⟨by decide +kernel, rfl⟩
theorem dd_M_cutOn_136 : ad_D mm_M_cutOn 136 (.invokevirtual 187) 3 139 := ⟨by decide +kernel, rfl⟩
theorem dd_M_cutOn_139 : ad_D mm_M_cutOn 139 (.iastore) 1 140 := ⟨by decide +kernel, rfl⟩
theorem dd_M_cutOn_140 : ad_D mm_M_cutOn 140 (.aload_n 0) 1 141 := ⟨by decide +kernel, rfl⟩
theorem dd_M_cutOn_141 : ad_D mm_M_cutOn 141 (.getfield 82) 3 144 := ⟨by decide +kernel, rfl⟩
theorem dd_M_cutOn_144 : ad_D mm_M_cutOn 144 (.iload_n 3) 1 145 := ⟨by decide +kernel, rfl⟩
theorem dd_M_cutOn_145 : ad_D mm_M_cutOn 145 (.aload_n 0) 1 146 := ⟨by decide +kernel, rfl⟩
theorem dd_M_cutOn_146 : ad_D mm_M_cutOn 146 (.getfield 159) 3 149 := ⟨by decide +kernel, rfl⟩
theorem dd_M_cutOn_149 : ad_D mm_M_cutOn 149 (.iconst 1) 1 150 := ⟨by decide +kernel, rfl⟩
theorem dd_M_cutOn_150 : ad_D mm_M_cutOn 150 (.iadd) 1 151 := ⟨by decide +kernel, rfl⟩
theorem dd_M_cutOn_151 : ad_D mm_M_cutOn 151 (.aload_n 0) 1 152 := ⟨by decide +kernel, rfl⟩
theorem dd_M_cutOn_152 : ad_D mm_M_cutOn 152 (.getfield 54) 3 155 := ⟨by decide +kernel, rfl⟩
theorem dd_M_cutOn_155 : ad_D mm_M_cutOn 155 (.iload_n 1) 1 156 := ⟨by decide +kernel, rfl⟩
theorem dd_M_cutOn_156 : ad_D mm_M_cutOn 156 (.iaload) 1 157 := ⟨by decide +kernel, rfl⟩
theorem dd_M_cutOn_157 : ad_D mm_M_cutOn 157 (.ifCond .lt 8) 3 160 := ⟨by decide +kernel, rfl⟩
theorem dd_M_cutOn_160 : ad_D mm_M_cutOn 160 (.bipush 12) 2 162 := ⟨by decide +kernel, rfl⟩
theorem dd_M_cutOn_162 : ad_D mm_M_cutOn 162 (.goto 5) 3 165 := ⟨by decide +kernel, rfl⟩
theorem dd_M_cutOn_165 : ad_D mm_M_cutOn 165 (.bipush 24) 2 167 := ⟨by decide +kernel, rfl⟩
theorem dd_M_cutOn_167 : ad_D mm_M_cutOn 167 (.iadd) 1 168 := ⟨by decide +kernel, rfl⟩
theorem dd_M_cutOn_168 : ad_D mm_M_cutOn 168 (.iastore) 1 169 := ⟨by decide +kernel, rfl⟩
theorem dd_M_cutOn_169 : ad_D mm_M_cutOn 169 (.aload_n 0) 1 170 := ⟨by decide +kernel, rfl⟩
theorem dd_M_cutOn_170 : ad_D mm_M_cutOn 170 (.getfield 85) 3 173 := ⟨by decide +kernel, rfl⟩
theorem dd_M_cutOn_173 : ad_D mm_M_cutOn 173 (.iload_n 3) 1 174 := ⟨by decide +kernel, rfl⟩
theorem dd_M_cutOn_174 : ad_D mm_M_cutOn 174 (.iconst (-1)) 1 175 := ⟨by decide +kernel, rfl⟩
theorem dd_M_cutOn_175 : ad_D mm_M_cutOn 175 (.iastore) 1 176 := ⟨by decide +kernel, rfl⟩
theorem dd_M_cutOn_176 : ad_D mm_M_cutOn 176 (.aload_n 0) 1 177 := ⟨by decide +kernel, rfl⟩
theorem dd_M_cutOn_177 : ad_D mm_M_cutOn 177 (.getfield 94) 3 180 := ⟨by decide +kernel, rfl⟩
theorem dd_M_cutOn_180 : ad_D mm_M_cutOn 180 (.iload_n 3) 1 181 := ⟨by decide +kernel, rfl⟩
theorem dd_M_cutOn_181 : ad_D mm_M_cutOn 181 (.iconst (-1)) 1 182 := ⟨by decide +kernel, rfl⟩
theorem dd_M_cutOn_182 : ad_D mm_M_cutOn 182 (.iastore) 1 183 := ⟨by decide +kernel, rfl⟩
theorem dd_M_cutOn_183 : ad_D mm_M_cutOn 183 (.aload_n 0) 1 184 := ⟨by decide +kernel, rfl⟩
theorem dd_M_cutOn_184 : ad_D mm_M_cutOn 184 (.getfield 97) 3 187 := ⟨by decide +kernel, rfl⟩
theorem dd_M_cutOn_187 : ad_D mm_M_cutOn 187 (.iload_n 3) 1 188 := ⟨by decide +kernel, rfl⟩
theorem dd_M_cutOn_188 : ad_D mm_M_cutOn 188 (.ldc 194) 2 190 := ⟨by decide +kernel, rfl⟩
theorem dd_M_cutOn_190 : ad_D mm_M_cutOn 190 (.iastore) 1 191 := ⟨by decide +kernel, rfl⟩
theorem dd_M_cutOn_191 : ad_D mm_M_cutOn 191 (.return_) 1 192 := ⟨by decide +kernel, rfl⟩
theorem dd_M_send_0 : ad_D mm_M_send 0 (.aload_n 0) 1 1 := ⟨by decide +kernel, rfl⟩
theorem dd_M_send_1 : ad_D mm_M_send 1 (.getfield 85) 3 4 := ⟨by decide +kernel, rfl⟩
theorem dd_M_send_4 : ad_D mm_M_send 4 (.iload_n 1) 1 5 := ⟨by decide +kernel, rfl⟩
theorem dd_M_send_5 : ad_D mm_M_send 5 (.iaload) 1 6 := ⟨by decide +kernel, rfl⟩
theorem dd_M_send_6 : ad_D mm_M_send 6 (.ifCond .ge 12) 3 9 := ⟨by decide +kernel, rfl⟩
theorem dd_M_send_9 : ad_D mm_M_send 9 (.aload_n 0) 1 10 := ⟨by decide +kernel, rfl⟩
theorem dd_M_send_10 : ad_D mm_M_send 10 (.getfield 94) 3 13 := ⟨by decide +kernel, rfl⟩
theorem dd_M_send_13 : ad_D mm_M_send 13 (.iload_n 1) 1 14 := ⟨by decide +kernel, rfl⟩
theorem dd_M_send_14 : ad_D mm_M_send 14 (.iaload) 1 15 := ⟨by decide +kernel, rfl⟩
theorem dd_M_send_15 : ad_D mm_M_send 15 (.ifCond .lt 4) 3 18 := ⟨by decide +kernel, rfl⟩
theorem dd_M_send_18 : ad_D mm_M_send 18 (.return_) 1 19 := ⟨by decide +kernel, rfl⟩
theorem dd_M_send_19 : ad_D mm_M_send 19 (.iconst 0) 1 20 := ⟨by decide +kernel, rfl⟩
theorem dd_M_send_20 : ad_D mm_M_send 20 (.istore_n 2) 1 21 := ⟨by decide +kernel, rfl⟩
theorem dd_M_send_21 : ad_D mm_M_send 21 (.iload_n 2) 1 22 := ⟨by decide +kernel, rfl⟩
theorem dd_M_send_22 : ad_D mm_M_send 22 (.aload_n 0) 1 23 := ⟨by decide +kernel, rfl⟩
theorem dd_M_send_23 : ad_D mm_M_send 23 (.getfield 16) 3 26 := ⟨by decide +kernel, rfl⟩
theorem dd_M_send_26 : ad_D mm_M_send 26 (.if_icmp .ge 22) 3 29 := ⟨by decide +kernel, rfl⟩
theorem dd_M_send_29 : ad_D mm_M_send 29 (.aload_n 0) 1 30 := ⟨by decide +kernel, rfl⟩
theorem dd_M_send_30 : ad_D mm_M_send 30 (.getfield 100) 3 33 := ⟨by decide +kernel, rfl⟩
theorem dd_M_send_33 : ad_D mm_M_send 33 (.iload_n 2) 1 34 := ⟨by decide +kernel, rfl⟩
theorem dd_M_send_34 : ad_D mm_M_send 34 (.iaload) 1 35 := ⟨by decide +kernel, rfl⟩
theorem dd_M_send_35 : ad_D mm_M_send 35 (.aload_n 0) 1 36 := ⟨by decide +kernel, rfl⟩
theorem dd_M_send_36 : ad_D mm_M_send 36 (.getfield 159) 3 39 := ⟨by decide +kernel, rfl⟩
theorem dd_M_send_39 : ad_D mm_M_send 39 (.if_icmp .le 9) 3 42 := ⟨by decide +kernel, rfl⟩
theorem dd_M_send_42 : ad_D mm_M_send 42 (.iinc 2 1) 3 45 := ⟨by decide +kernel, rfl⟩
theorem dd_M_send_45 : ad_D mm_M_send 45 (.goto (-24)) 3 48 := ⟨by decide +kernel, rfl⟩
theorem dd_M_send_48 : ad_D mm_M_send 48 (.iload_n 2) 1 49 := ⟨by decide +kernel, rfl⟩
theorem dd_M_send_49 : ad_D mm_M_send 49 (.aload_n 0) 1 50 := ⟨by decide +kernel, rfl⟩
theorem dd_M_send_50 : ad_D mm_M_send 50 (.getfield 16) 3 53 := ⟨by decide +kernel, rfl⟩
theorem dd_M_send_53 : ad_D mm_M_send 53 (.if_icmp .ne 4) 3 56 := ⟨by decide +kernel, rfl⟩
theorem dd_M_send_56 : ad_D mm_M_send 56 (.return_) 1 57 := ⟨by decide +kernel, rfl⟩
theorem dd_M_send_57 : ad_D mm_M_send 57 (.aload_n 0) 1 58 := ⟨by decide +kernel, rfl⟩
theorem dd_M_send_58 : ad_D mm_M_send 58 (.getfield 33) 3 61 := ⟨by decide +kernel, rfl⟩
theorem dd_M_send_61 : ad_D mm_M_send 61 (.aload_n 0) 1 62 := ⟨by decide +kernel, rfl⟩
theorem dd_M_send_62 : ad_D mm_M_send 62 (.getfield 73) 3 65 := ⟨by decide +kernel, rfl⟩
theorem dd_M_send_65 : ad_D mm_M_send 65 (.iload_n 1) 1 66 := ⟨by decide +kernel, rfl⟩
theorem dd_M_send_66 : ad_D mm_M_send 66 (.iaload) 1 67 := ⟨by decide +kernel, rfl⟩
theorem dd_M_send_67 : ad_D mm_M_send 67 (.iaload) 1 68 := ⟨by decide +kernel, rfl⟩
theorem dd_M_send_68 : ad_D mm_M_send 68 (.invokestatic 195) 3 71 := ⟨by decide +kernel, rfl⟩
theorem dd_M_send_71 : ad_D mm_M_send 71 (.istore_n 3) 1 72 := ⟨by decide +kernel, rfl⟩
theorem dd_M_send_72 : ad_D mm_M_send 72 (.aload_n 0) 1 73 := ⟨by decide +kernel, rfl⟩
theorem dd_M_send_73 : ad_D mm_M_send 73 (.getfield 85) 3 76 := ⟨by decide +kernel, rfl⟩
theorem dd_M_send_76 : ad_D mm_M_send 76 (.iload_n 1) 1 77 := ⟨by decide +kernel, rfl⟩
theorem dd_M_send_77 : ad_D mm_M_send 77 (.aload_n 0) 1 78 := ⟨by decide +kernel, rfl⟩
theorem dd_M_send_78 : ad_D mm_M_send 78 (.getfield 159) 3 81 := ⟨by decide +kernel, rfl⟩
theorem dd_M_send_81 : ad_D mm_M_send 81 (.iconst 1) 1 82 := ⟨by decide +kernel, rfl⟩
theorem dd_M_send_82 : ad_D mm_M_send 82 (.iadd) 1 83 := ⟨by decide +kernel, rfl⟩
theorem dd_M_send_83 : ad_D mm_M_send 83 (.iload_n 3) 1 84 := ⟨by decide +kernel, rfl⟩
theorem dd_M_send_84 : ad_D mm_M_send 84 (.iadd) 1 85 := ⟨by decide +kernel, rfl⟩
theorem dd_M_send_85 : ad_D mm_M_send 85 (.iastore) 1 86 := ⟨by decide +kernel, rfl⟩
theorem dd_M_send_86 : ad_D mm_M_send 86 (.aload_n 0) 1 87 := ⟨by decide +kernel, rfl⟩
theorem dd_M_send_87 : ad_D mm_M_send 87 (.getfield 100) 3 90 := ⟨by decide +kernel, rfl⟩
theorem dd_M_send_90 : ad_D mm_M_send 90 (.iload_n 2) 1 91 := ⟨by decide +kernel, rfl⟩
theorem dd_M_send_91 : ad_D mm_M_send 91 (.aload_n 0) 1 92 := ⟨by decide +kernel, rfl⟩
theorem dd_M_send_92 : ad_D mm_M_send 92 (.getfield 85) 3 95 := ⟨by decide +kernel, rfl⟩
theorem dd_M_send_95 : ad_D mm_M_send 95 (.iload_n 1) 1 96 := ⟨by decide +kernel, rfl⟩
theorem dd_M_send_96 : ad_D mm_M_send 96 (.iaload) 1 97 := ⟨by decide +kernel, rfl⟩
theorem dd_M_send_97 : ad_D mm_M_send 97 (.iload_n 3) 1 98 := ⟨by decide +kernel, rfl⟩
theorem dd_M_send_98 : ad_D mm_M_send 98 (.iadd) 1 99 := ⟨by decide +kernel, rfl⟩
theorem dd_M_send_99 : ad_D mm_M_send 99 (.iastore) 1 100 := ⟨by decide +kernel, rfl⟩
theorem dd_M_send_100 : ad_D mm_M_send 100 (.return_) 1 101 := ⟨by decide +kernel, rfl⟩
theorem dd_M_trip_0 : ad_D mm_M_trip 0 (.iload_n 0) 1 1 := ⟨by decide +kernel, rfl⟩
theorem dd_M_trip_1 : ad_D mm_M_trip 1 (.iconst 1) 1 2 := ⟨by decide +kernel, rfl⟩
theorem dd_M_trip_2 : ad_D mm_M_trip 2 (.if_icmp .ge 7) 3 5 := ⟨by decide +kernel, rfl⟩
theorem dd_M_trip_5 : ad_D mm_M_trip 5 (.iconst 1) 1 6 := ⟨by decide +kernel, rfl⟩
theorem dd_M_trip_6 : ad_D mm_M_trip 6 (.goto 10) 3 9 := ⟨by decide +kernel, rfl⟩
theorem dd_M_trip_9 : ad_D mm_M_trip 9 (.iload_n 0) 1 10 := ⟨by decide +kernel, rfl⟩
theorem dd_M_trip_10 : ad_D mm_M_trip 10 (.bipush 9) 2 12 := ⟨by decide +kernel, rfl⟩
theorem dd_M_trip_12 : ad_D mm_M_trip 12 (.iadd) 1 13 := ⟨by decide +kernel, rfl⟩
theorem dd_M_trip_13 : ad_D mm_M_trip 13 (.bipush 10) 2 15 := ⟨by decide +kernel, rfl⟩
theorem dd_M_trip_15 : ad_D mm_M_trip 15 (.idiv) 1 16 := ⟨by decide +kernel, rfl⟩
theorem dd_M_trip_16 : ad_D mm_M_trip 16 (.ireturn) 1 17 := ⟨by decide +kernel, rfl⟩
theorem dd_M_mill_0 : ad_D mm_M_mill 0 (.aload_n 0) 1 1 := ⟨by decide +kernel, rfl⟩
theorem dd_M_mill_1 : ad_D mm_M_mill 1 (.getfield 19) 3 4 := ⟨by decide +kernel, rfl⟩
theorem dd_M_mill_4 : ad_D mm_M_mill 4 (.istore_n 1) 1 5 := ⟨by decide +kernel, rfl⟩
theorem dd_M_mill_5 : ad_D mm_M_mill 5 (.aload_n 0) 1 6 := ⟨by decide +kernel, rfl⟩
theorem dd_M_mill_6 : ad_D mm_M_mill 6 (.invokevirtual 202) 3 9 := ⟨by decide +kernel, rfl⟩
theorem dd_M_mill_9 : ad_D mm_M_mill 9 (.istore_n 2) 1 10 := ⟨by decide +kernel, rfl⟩
theorem dd_M_mill_10 : ad_D mm_M_mill 10 (.iload_n 2) 1 11 := ⟨by decide +kernel, rfl⟩
theorem dd_M_mill_11 : ad_D mm_M_mill 11 (.ifCond .lt 92) 3 14 := ⟨by decide +kernel, rfl⟩
theorem dd_M_mill_14 : ad_D mm_M_mill 14 (.iload_n 1) 1 15 := ⟨by decide +kernel, rfl⟩
theorem dd_M_mill_15 : ad_D mm_M_mill 15 (.ifCond .le 88) 3 18 := ⟨by decide +kernel, rfl⟩
theorem dd_M_mill_18 : ad_D mm_M_mill 18 (.aload_n 0) 1 19 := ⟨by decide +kernel, rfl⟩
theorem dd_M_mill_19 : ad_D mm_M_mill 19 (.iload_n 2) 1 20 := ⟨by decide +kernel, rfl⟩
theorem dd_M_mill_20 : ad_D mm_M_mill 20 (.invokevirtual 199) 3 23 := ⟨by decide +kernel, rfl⟩
theorem dd_M_mill_23 : ad_D mm_M_mill 23 (.iload_n 1) 1 24 := ⟨by decide +kernel, rfl⟩
theorem dd_M_mill_24 : ad_D mm_M_mill 24 (.if_icmp .ge 11) 3 27 := ⟨by decide +kernel, rfl⟩
theorem dd_M_mill_27 : ad_D mm_M_mill 27 (.aload_n 0) 1 28 := ⟨by decide +kernel, rfl⟩
theorem dd_M_mill_28 : ad_D mm_M_mill 28 (.iload_n 2) 1 29 := ⟨by decide +kernel, rfl⟩
theorem dd_M_mill_29 : ad_D mm_M_mill 29 (.invokevirtual 199) 3 32 := ⟨by decide +kernel, rfl⟩
theorem dd_M_mill_32 : ad_D mm_M_mill 32 (.goto 4) 3 35 := ⟨by decide +kernel, rfl⟩
theorem dd_M_mill_35 : ad_D mm_M_mill 35 (.iload_n 1) 1 36 := ⟨by decide +kernel, rfl⟩
theorem dd_M_mill_36 : ad_D mm_M_mill 36 (.istore_n 3) 1 37 := ⟨by decide +kernel, rfl⟩
theorem dd_M_mill_37 : ad_D mm_M_mill 37 (.iconst 0) 1 38 := ⟨by decide +kernel, rfl⟩
theorem dd_M_mill_38 : ad_D mm_M_mill 38 (.istore 4) 2 40 := ⟨by decide +kernel, rfl⟩
theorem dd_M_mill_40 : ad_D mm_M_mill 40 (.iload 4) 2 42 := ⟨by decide +kernel, rfl⟩
theorem dd_M_mill_42 : ad_D mm_M_mill 42 (.iload_n 3) 1 43 := ⟨by decide +kernel, rfl⟩
theorem dd_M_mill_43 : ad_D mm_M_mill 43 (.if_icmp .ge 28) 3 46 := ⟨by decide +kernel, rfl⟩
theorem dd_M_mill_46 : ad_D mm_M_mill 46 (.aload_n 0) 1 47 := ⟨by decide +kernel, rfl⟩
theorem dd_M_mill_47 : ad_D mm_M_mill 47 (.getfield 103) 3 50 := ⟨by decide +kernel, rfl⟩
theorem dd_M_mill_50 : ad_D mm_M_mill 50 (.aload_n 0) 1 51 := ⟨by decide +kernel, rfl⟩
theorem dd_M_mill_51 : ad_D mm_M_mill 51 (.getfield 205) 3 54 := ⟨by decide +kernel, rfl⟩
theorem dd_M_mill_54 : ad_D mm_M_mill 54 (.iload 4) 2 56 := ⟨by decide +kernel, rfl⟩
theorem dd_M_mill_56 : ad_D mm_M_mill 56 (.iadd) 1 57 := ⟨by decide +kernel, rfl⟩
theorem dd_M_mill_57 : ad_D mm_M_mill 57 (.aload_n 0) 1 58 := ⟨by decide +kernel, rfl⟩
theorem dd_M_mill_58 : ad_D mm_M_mill 58 (.getfield 73) 3 61 := ⟨by decide +kernel, rfl⟩
theorem dd_M_mill_61 : ad_D mm_M_mill 61 (.iload_n 2) 1 62 := ⟨by decide +kernel, rfl⟩
theorem dd_M_mill_62 : ad_D mm_M_mill 62 (.iaload) 1 63 := ⟨by decide +kernel, rfl⟩
theorem dd_M_mill_63 : ad_D mm_M_mill 63 (.i2b) 1 64 := ⟨by decide +kernel, rfl⟩
theorem dd_M_mill_64 : ad_D mm_M_mill 64 (.bastore) 1 65 := ⟨by decide +kernel, rfl⟩
theorem dd_M_mill_65 : ad_D mm_M_mill 65 (.iinc 4 1) 3 68 := ⟨by decide +kernel, rfl⟩
theorem dd_M_mill_68 : ad_D mm_M_mill 68 (.goto (-28)) 3 71 := ⟨by decide +kernel, rfl⟩
theorem dd_M_mill_71 : ad_D mm_M_mill 71 (.aload_n 0) 1 72 := ⟨by decide +kernel, rfl⟩
theorem dd_M_mill_72 : ad_D mm_M_mill 72 (.dup) 1 73 := ⟨by decide +kernel, rfl⟩
theorem dd_M_mill_73 : ad_D mm_M_mill 73 (.getfield 205) 3 76 := ⟨by decide +kernel, rfl⟩
theorem dd_M_mill_76 : ad_D mm_M_mill 76 (.iload_n 3) 1 77 := ⟨by decide +kernel, rfl⟩
theorem dd_M_mill_77 : ad_D mm_M_mill 77 (.iadd) 1 78 := ⟨by decide +kernel, rfl⟩
theorem dd_M_mill_78 : ad_D mm_M_mill 78 (.putfield 205) 3 81 := ⟨by decide +kernel, rfl⟩
theorem dd_M_mill_81 : ad_D mm_M_mill 81 (.aload_n 0) 1 82 := ⟨by decide +kernel, rfl⟩
theorem dd_M_mill_82 : ad_D mm_M_mill 82 (.getfield 88) 3 85 := ⟨by decide +kernel, rfl⟩
theorem dd_M_mill_85 : ad_D mm_M_mill 85 (.iload_n 2) 1 86 := ⟨by decide +kernel, rfl⟩
theorem dd_M_mill_86 : ad_D mm_M_mill 86 (.dup2) 1 87 := ⟨by decide +kernel, rfl⟩
theorem dd_M_mill_87 : ad_D mm_M_mill 87 (.iaload) 1 88 := ⟨by decide +kernel, rfl⟩
theorem dd_M_mill_88 : ad_D mm_M_mill 88 (.iload_n 3) 1 89 := ⟨by decide +kernel, rfl⟩
theorem dd_M_mill_89 : ad_D mm_M_mill 89 (.iadd) 1 90 := ⟨by decide +kernel, rfl⟩
theorem dd_M_mill_90 : ad_D mm_M_mill 90 (.iastore) 1 91 := ⟨by decide +kernel, rfl⟩
theorem dd_M_mill_91 : ad_D mm_M_mill 91 (.iload_n 1) 1 92 := ⟨by decide +kernel, rfl⟩
theorem dd_M_mill_92 : ad_D mm_M_mill 92 (.iload_n 3) 1 93 := ⟨by decide +kernel, rfl⟩
theorem dd_M_mill_93 : ad_D mm_M_mill 93 (.isub) 1 94 := ⟨by decide +kernel, rfl⟩
theorem dd_M_mill_94 : ad_D mm_M_mill 94 (.istore_n 1) 1 95 := ⟨by decide +kernel, rfl⟩
theorem dd_M_mill_95 : ad_D mm_M_mill 95 (.aload_n 0) 1 96 := ⟨by decide +kernel, rfl⟩
theorem dd_M_mill_96 : ad_D mm_M_mill 96 (.invokevirtual 202) 3 99 := ⟨by decide +kernel, rfl⟩
theorem dd_M_mill_99 : ad_D mm_M_mill 99 (.istore_n 2) 1 100 := ⟨by decide +kernel, rfl⟩
theorem dd_M_mill_100 : ad_D mm_M_mill 100 (.goto (-90)) 3 103 := ⟨by decide +kernel, rfl⟩
theorem dd_M_mill_103 : ad_D mm_M_mill 103 (.return_) 1 104 := ⟨by decide +kernel, rfl⟩
theorem dd_M_firstToDie_0 : ad_D mm_M_firstToDie 0 (.iconst (-1)) 1 1 := ⟨by decide +kernel, rfl⟩
theorem dd_M_firstToDie_1 : ad_D mm_M_firstToDie 1 (.istore_n 1) 1 2 := ⟨by decide +kernel, rfl⟩
theorem dd_M_firstToDie_2 : ad_D mm_M_firstToDie 2 (.iconst 0) 1 3 := ⟨by decide +kernel, rfl⟩
theorem dd_M_firstToDie_3 : ad_D mm_M_firstToDie 3 (.istore_n 2) 1 4 := ⟨by decide +kernel, rfl⟩
theorem dd_M_firstToDie_4 : ad_D mm_M_firstToDie 4 (.iload_n 2) 1 5 := ⟨by decide +kernel, rfl⟩
theorem dd_M_firstToDie_5 : ad_D mm_M_firstToDie 5 (.aload_n 0) 1 6 := ⟨by decide +kernel, rfl⟩
theorem dd_M_firstToDie_6 : ad_D mm_M_firstToDie 6 (.getfield 191) 3 9 := ⟨by decide +kernel, rfl⟩
theorem dd_M_firstToDie_9 : ad_D mm_M_firstToDie 9 (.if_icmp .ge 64) 3 12 := ⟨by decide +kernel, rfl⟩
theorem dd_M_firstToDie_12 : ad_D mm_M_firstToDie 12 (.aload_n 0) 1 13 := ⟨by decide +kernel, rfl⟩
theorem dd_M_firstToDie_13 : ad_D mm_M_firstToDie 13 (.getfield 94) 3 16 := ⟨by decide +kernel, rfl⟩
theorem dd_M_firstToDie_16 : ad_D mm_M_firstToDie 16 (.iload_n 2) 1 17 := ⟨by decide +kernel, rfl⟩
theorem dd_M_firstToDie_17 : ad_D mm_M_firstToDie 17 (.iaload) 1 18 := ⟨by decide +kernel, rfl⟩
theorem dd_M_firstToDie_18 : ad_D mm_M_firstToDie 18 (.ifCond .ge 49) 3 21 := ⟨by decide +kernel, rfl⟩
theorem dd_M_firstToDie_21 : ad_D mm_M_firstToDie 21 (.aload_n 0) 1 22 := ⟨by decide +kernel, rfl⟩
theorem dd_M_firstToDie_22 : ad_D mm_M_firstToDie 22 (.getfield 85) 3 25 := ⟨by decide +kernel, rfl⟩
theorem dd_M_firstToDie_25 : ad_D mm_M_firstToDie 25 (.iload_n 2) 1 26 := ⟨by decide +kernel, rfl⟩
theorem dd_M_firstToDie_26 : ad_D mm_M_firstToDie 26 (.iaload) 1 27 := ⟨by decide +kernel, rfl⟩
theorem dd_M_firstToDie_27 : ad_D mm_M_firstToDie 27 (.iconst 0) 1 28 := ⟨by decide +kernel, rfl⟩
theorem dd_M_firstToDie_28 : ad_D mm_M_firstToDie 28 (.aload_n 0) 1 29 := ⟨by decide +kernel, rfl⟩
theorem dd_M_firstToDie_29 : ad_D mm_M_firstToDie 29 (.getfield 159) 3 32 := ⟨by decide +kernel, rfl⟩
theorem dd_M_firstToDie_32 : ad_D mm_M_firstToDie 32 (.invokestatic 155) 3 35 := ⟨by decide +kernel, rfl⟩
theorem dd_M_firstToDie_35 : ad_D mm_M_firstToDie 35 (.ifCond .eq 32) 3 38 := ⟨by decide +kernel, rfl⟩
theorem dd_M_firstToDie_38 : ad_D mm_M_firstToDie 38 (.aload_n 0) 1 39 := ⟨by decide +kernel, rfl⟩
theorem dd_M_firstToDie_39 : ad_D mm_M_firstToDie 39 (.iload_n 2) 1 40 := ⟨by decide +kernel, rfl⟩
theorem dd_M_firstToDie_40 : ad_D mm_M_firstToDie 40 (.invokevirtual 199) 3 43 := ⟨by decide +kernel, rfl⟩
theorem dd_M_firstToDie_43 : ad_D mm_M_firstToDie 43 (.ifCond .le 24) 3 46 := ⟨by decide +kernel, rfl⟩
theorem dd_M_firstToDie_46 : ad_D mm_M_firstToDie 46 (.iload_n 1) 1 47 := ⟨by decide +kernel, rfl⟩
theorem dd_M_firstToDie_47 : ad_D mm_M_firstToDie 47 (.ifCond .lt 18) 3 50 := ⟨by decide +kernel, rfl⟩
theorem dd_M_firstToDie_50 : ad_D mm_M_firstToDie 50 (.aload_n 0) 1 51 := ⟨by decide +kernel, rfl⟩
theorem dd_M_firstToDie_51 : ad_D mm_M_firstToDie 51 (.getfield 82) 3 54 := ⟨by decide +kernel, rfl⟩
theorem dd_M_firstToDie_54 : ad_D mm_M_firstToDie 54 (.iload_n 2) 1 55 := ⟨by decide +kernel, rfl⟩
theorem dd_M_firstToDie_55 : ad_D mm_M_firstToDie 55 (.iaload) 1 56 := ⟨by decide +kernel, rfl⟩
theorem dd_M_firstToDie_56 : ad_D mm_M_firstToDie 56 (.aload_n 0) 1 57 := ⟨by decide +kernel, rfl⟩
theorem dd_M_firstToDie_57 : ad_D mm_M_firstToDie 57 (.getfield 82) 3 60 := ⟨by decide +kernel, rfl⟩
theorem dd_M_firstToDie_60 : ad_D mm_M_firstToDie 60 (.iload_n 1) 1 61 := ⟨by decide +kernel, rfl⟩
theorem dd_M_firstToDie_61 : ad_D mm_M_firstToDie 61 (.iaload) 1 62 := ⟨by decide +kernel, rfl⟩
theorem dd_M_firstToDie_62 : ad_D mm_M_firstToDie 62 (.if_icmp .ge 5) 3 65 := ⟨by decide +kernel, rfl⟩
theorem dd_M_firstToDie_65 : ad_D mm_M_firstToDie 65 (.iload_n 2) 1 66 := ⟨by decide +kernel, rfl⟩
theorem dd_M_firstToDie_66 : ad_D mm_M_firstToDie 66 (.istore_n 1) 1 67 := ⟨by decide +kernel, rfl⟩
theorem dd_M_firstToDie_67 : ad_D mm_M_firstToDie 67 (.iinc 2 1) 3 70 := ⟨by decide +kernel, rfl⟩
theorem dd_M_firstToDie_70 : ad_D mm_M_firstToDie 70 (.goto (-66)) 3 73 := ⟨by decide +kernel, rfl⟩
theorem dd_M_firstToDie_73 : ad_D mm_M_firstToDie 73 (.iload_n 1) 1 74 := ⟨by decide +kernel, rfl⟩
theorem dd_M_firstToDie_74 : ad_D mm_M_firstToDie 74 (.ireturn) 1 75 := ⟨by decide +kernel, rfl⟩
theorem dd_M_left_0 : ad_D mm_M_left 0 (.aload_n 0) 1 1 := ⟨by decide +kernel, rfl⟩
theorem dd_M_left_1 : ad_D mm_M_left 1 (.getfield 30) 3 4 := ⟨by decide +kernel, rfl⟩
theorem dd_M_left_4 : ad_D mm_M_left 4 (.aload_n 0) 1 5 := ⟨by decide +kernel, rfl⟩
theorem dd_M_left_5 : ad_D mm_M_left 5 (.getfield 73) 3 8 := ⟨by decide +kernel, rfl⟩
theorem dd_M_left_8 : ad_D mm_M_left 8 (.iload_n 1) 1 9 := ⟨by decide +kernel, rfl⟩
theorem dd_M_left_9 : ad_D mm_M_left 9 (.iaload) 1 10 := ⟨by decide +kernel, rfl⟩
theorem dd_M_left_10 : ad_D mm_M_left 10 (.iaload) 1 11 := ⟨by decide +kernel, rfl⟩
theorem dd_M_left_11 : ad_D mm_M_left 11 (.aload_n 0) 1 12 := ⟨by decide +kernel, rfl⟩
theorem dd_M_left_12 : ad_D mm_M_left 12 (.getfield 88) 3 15 := ⟨by decide +kernel, rfl⟩
theorem dd_M_left_15 : ad_D mm_M_left 15 (.iload_n 1) 1 16 := ⟨by decide +kernel, rfl⟩
theorem dd_M_left_16 : ad_D mm_M_left 16 (.iaload) 1 17 := ⟨by decide +kernel, rfl⟩
theorem dd_M_left_17 : ad_D mm_M_left 17 (.isub) 1 18 := ⟨by decide +kernel, rfl⟩
theorem dd_M_left_18 : ad_D mm_M_left 18 (.aload_n 0) 1 19 := ⟨by decide +kernel, rfl⟩
theorem dd_M_left_19 : ad_D mm_M_left 19 (.getfield 91) 3 22 := ⟨by decide +kernel, rfl⟩
theorem dd_M_left_22 : ad_D mm_M_left 22 (.iload_n 1) 1 23 := ⟨by decide +kernel, rfl⟩
theorem dd_M_left_23 : ad_D mm_M_left 23 (.iaload) 1 24 := ⟨by decide +kernel, rfl⟩
theorem dd_M_left_24 : ad_D mm_M_left 24 (.isub) 1 25 := ⟨by decide +kernel, rfl⟩
theorem dd_M_left_25 : ad_D mm_M_left 25 (.ireturn) 1 26 := ⟨by decide +kernel, rfl⟩
theorem dd_M_payDay_0 : ad_D mm_M_payDay 0 (.lconst 0) 1 1 := ⟨by decide +kernel, rfl⟩
theorem dd_M_payDay_1 : ad_D mm_M_payDay 1 (.lstore_n 1) 1 2 := ⟨by decide +kernel, rfl⟩
theorem dd_M_payDay_2 : ad_D mm_M_payDay 2 (.iconst 0) 1 3 := ⟨by decide +kernel, rfl⟩
theorem dd_M_payDay_3 : ad_D mm_M_payDay 3 (.istore_n 3) 1 4 := ⟨by decide +kernel, rfl⟩
theorem dd_M_payDay_4 : ad_D mm_M_payDay 4 (.aload_n 0) 1 5 := ⟨by decide +kernel, rfl⟩
theorem dd_M_payDay_5 : ad_D mm_M_payDay 5 (.getfield 159) 3 8 := ⟨by decide +kernel, rfl⟩
theorem dd_M_payDay_8 : ad_D mm_M_payDay 8 (.bipush 24) 2 10 := ⟨by decide +kernel, rfl⟩
theorem dd_M_payDay_10 : ad_D mm_M_payDay 10 (.idiv) 1 11 := ⟨by decide +kernel, rfl⟩
theorem dd_M_payDay_11 : ad_D mm_M_payDay 11 (.istore 4) 2 13 := ⟨by decide +kernel, rfl⟩
theorem dd_M_payDay_13 : ad_D mm_M_payDay 13 (.iconst 0) 1 14 := ⟨by decide +kernel, rfl⟩
theorem dd_M_payDay_14 : ad_D mm_M_payDay 14 (.istore 5) 2 16 := ⟨by decide +kernel, rfl⟩
theorem dd_M_payDay_16 : ad_D mm_M_payDay 16 (.iload 5) 2 18 := ⟨by decide +kernel, rfl⟩
theorem dd_M_payDay_18 : ad_D mm_M_payDay 18 (.aload_n 0) 1 19 := ⟨by decide +kernel, rfl⟩
theorem dd_M_payDay_19 : ad_D mm_M_payDay 19 (.getfield 191) 3 22 := ⟨by decide +kernel, rfl⟩
theorem dd_M_payDay_22 : ad_D mm_M_payDay 22 (.if_icmp .ge 67) 3 25 := ⟨by decide +kernel, rfl⟩
theorem dd_M_payDay_25 : ad_D mm_M_payDay 25 (.aload_n 0) 1 26 := ⟨by decide +kernel, rfl⟩
theorem dd_M_payDay_26 : ad_D mm_M_payDay 26 (.getfield 94) 3 29 := ⟨by decide +kernel, rfl⟩
theorem dd_M_payDay_29 : ad_D mm_M_payDay 29 (.iload 5) 2 31 := ⟨by decide +kernel, rfl⟩
theorem dd_M_payDay_31 : ad_D mm_M_payDay 31 (.iaload) 1 32 := ⟨by decide +kernel, rfl⟩
theorem dd_M_payDay_32 : ad_D mm_M_payDay 32 (.ifCond .lt 51) 3 35 := ⟨by decide +kernel, rfl⟩
theorem dd_M_payDay_35 : ad_D mm_M_payDay 35 (.aload_n 0) 1 36 := ⟨by decide +kernel, rfl⟩
theorem dd_M_payDay_36 : ad_D mm_M_payDay 36 (.getfield 94) 3 39 := ⟨by decide +kernel, rfl⟩
theorem dd_M_payDay_39 : ad_D mm_M_payDay 39 (.iload 5) 2 41 := ⟨by decide +kernel, rfl⟩
theorem dd_M_payDay_41 : ad_D mm_M_payDay 41 (.iaload) 1 42 := ⟨by decide +kernel, rfl⟩
theorem dd_M_payDay_42 : ad_D mm_M_payDay 42 (.bipush 24) 2 44 := ⟨by decide +kernel, rfl⟩
theorem dd_M_payDay_44 : ad_D mm_M_payDay 44 (.idiv) 1 45 := ⟨by decide +kernel, rfl⟩
theorem dd_M_payDay_45 : ad_D mm_M_payDay 45 (.iload 4) 2 47 := ⟨by decide +kernel, rfl⟩
theorem dd_M_payDay_47 : ad_D mm_M_payDay 47 (.if_icmp .eq 6) 3 50 := ⟨by decide +kernel, rfl⟩
theorem dd_M_payDay_50 : ad_D mm_M_payDay 50 (.goto 33) 3 53 := ⟨by decide +kernel, rfl⟩
theorem dd_M_payDay_53 : ad_D mm_M_payDay 53 (.lload_n 1) 1 54 := ⟨by decide +kernel, rfl⟩
theorem dd_M_payDay_54 : ad_D mm_M_payDay 54 (.aload_n 0) 1 55 := ⟨by decide +kernel, rfl⟩
theorem dd_M_payDay_55 : ad_D mm_M_payDay 55 (.getfield 88) 3 58 := ⟨by decide +kernel, rfl⟩
theorem dd_M_payDay_58 : ad_D mm_M_payDay 58 (.iload 5) 2 60 := ⟨by decide +kernel, rfl⟩
theorem dd_M_payDay_60 : ad_D mm_M_payDay 60 (.iaload) 1 61 := ⟨by decide +kernel, rfl⟩
theorem dd_M_payDay_61 : ad_D mm_M_payDay 61 (.i2l) 1 62 := ⟨by decide +kernel, rfl⟩
theorem dd_M_payDay_62 : ad_D mm_M_payDay 62 (.aload_n 0) 1 63 := ⟨by decide +kernel, rfl⟩
theorem dd_M_payDay_63 : ad_D mm_M_payDay 63 (.getfield 79) 3 66 := ⟨by decide +kernel, rfl⟩
theorem dd_M_payDay_66 : ad_D mm_M_payDay 66 (.iload 5) 2 68 := ⟨by decide +kernel, rfl⟩
theorem dd_M_payDay_68 : ad_D mm_M_payDay 68 (.iaload) 1 69 := ⟨by decide +kernel, rfl⟩
theorem dd_M_payDay_69 : ad_D mm_M_payDay 69 (.i2l) 1 70 := ⟨by decide +kernel, rfl⟩
theorem dd_M_payDay_70 : ad_D mm_M_payDay 70 (.lmul) 1 71 := ⟨by decide +kernel, rfl⟩
theorem dd_M_payDay_71 : ad_D mm_M_payDay 71 (.ladd) 1 72 := ⟨by decide +kernel, rfl⟩
theorem dd_M_payDay_72 : ad_D mm_M_payDay 72 (.lstore_n 1) 1 73 := ⟨by decide +kernel, rfl⟩
theorem dd_M_payDay_73 : ad_D mm_M_payDay 73 (.iload_n 3) 1 74 := ⟨by decide +kernel, rfl⟩
theorem dd_M_payDay_74 : ad_D mm_M_payDay 74 (.aload_n 0) 1 75 := ⟨by decide +kernel, rfl⟩
theorem dd_M_payDay_75 : ad_D mm_M_payDay 75 (.getfield 88) 3 78 := ⟨by decide +kernel, rfl⟩
theorem dd_M_payDay_78 : ad_D mm_M_payDay 78 (.iload 5) 2 80 := ⟨by decide +kernel, rfl⟩
theorem dd_M_payDay_80 : ad_D mm_M_payDay 80 (.iaload) 1 81 := ⟨by decide +kernel, rfl⟩
theorem dd_M_payDay_81 : ad_D mm_M_payDay 81 (.iadd) 1 82 := ⟨by decide +kernel, rfl⟩
theorem dd_M_payDay_82 : ad_D mm_M_payDay 82 (.istore_n 3) 1 83 := ⟨by decide +kernel, rfl⟩
theorem dd_M_payDay_83 : ad_D mm_M_payDay 83 (.iinc 5 1) 3 86 := ⟨by decide +kernel, rfl⟩
theorem dd_M_payDay_86 : ad_D mm_M_payDay 86 (.goto (-70)) 3 89 := ⟨by decide +kernel, rfl⟩
theorem dd_M_payDay_89 : ad_D mm_M_payDay 89 (.aload_n 0) 1 90 := ⟨by decide +kernel, rfl⟩
theorem dd_M_payDay_90 : ad_D mm_M_payDay 90 (.iload_n 3) 1 91 := ⟨by decide +kernel, rfl⟩
theorem dd_M_payDay_91 : ad_D mm_M_payDay 91 (.ifCond .ne 7) 3 94 := ⟨by decide +kernel, rfl⟩
theorem dd_M_payDay_94 : ad_D mm_M_payDay 94 (.iconst 0) 1 95 := ⟨by decide +kernel, rfl⟩
theorem dd_M_payDay_95 : ad_D mm_M_payDay 95 (.goto 8) 3 98 := ⟨by decide +kernel, rfl⟩
theorem dd_M_payDay_98 : ad_D mm_M_payDay 98 (.lload_n 1) 1 99 := ⟨by decide +kernel, rfl⟩
theorem dd_M_payDay_99 : ad_D mm_M_payDay 99 (.iload_n 3) 1 100 := ⟨by decide +kernel, rfl⟩
theorem dd_M_payDay_100 : ad_D mm_M_payDay 100 (.i2l) 1 101 := ⟨by decide +kernel, rfl⟩
theorem dd_M_payDay_101 : ad_D mm_M_payDay 101 (.ldiv) 1 102 := ⟨by decide +kernel, rfl⟩
theorem dd_M_payDay_102 : ad_D mm_M_payDay 102 (.l2i) 1 103 := ⟨by decide +kernel, rfl⟩
theorem dd_M_payDay_103 : ad_D mm_M_payDay 103 (.putfield 107) 3 106 := ⟨by decide +kernel, rfl⟩
theorem dd_M_payDay_106 : ad_D mm_M_payDay 106 (.iconst 0) 1 107 := ⟨by decide +kernel, rfl⟩
theorem dd_M_payDay_107 : ad_D mm_M_payDay 107 (.istore 5) 2 109 := ⟨by decide +kernel, rfl⟩
theorem dd_M_payDay_109 : ad_D mm_M_payDay 109 (.iload 5) 2 111 := ⟨by decide +kernel, rfl⟩
theorem dd_M_payDay_111 : ad_D mm_M_payDay 111 (.aload_n 0) 1 112 := ⟨by decide +kernel, rfl⟩
theorem dd_M_payDay_112 : ad_D mm_M_payDay 112 (.getfield 191) 3 115 := ⟨by decide +kernel, rfl⟩
theorem dd_M_payDay_115 : ad_D mm_M_payDay 115 (.if_icmp .ge 131) 3 118 := ⟨by decide +kernel, rfl⟩
theorem dd_M_payDay_118 : ad_D mm_M_payDay 118 (.aload_n 0) 1 119 := ⟨by decide +kernel, rfl⟩
theorem dd_M_payDay_119 : ad_D mm_M_payDay 119 (.getfield 94) 3 122 := ⟨by decide +kernel, rfl⟩
theorem dd_M_payDay_122 : ad_D mm_M_payDay 122 (.iload 5) 2 124 := ⟨by decide +kernel, rfl⟩
theorem dd_M_payDay_124 : ad_D mm_M_payDay 124 (.iaload) 1 125 := ⟨by decide +kernel, rfl⟩
theorem dd_M_payDay_125 : ad_D mm_M_payDay 125 (.ifCond .lt 115) 3 128 := ⟨by decide +kernel, rfl⟩
theorem dd_M_payDay_128 : ad_D mm_M_payDay 128 (.aload_n 0) 1 129 := ⟨by decide +kernel, rfl⟩
theorem dd_M_payDay_129 : ad_D mm_M_payDay 129 (.getfield 94) 3 132 := ⟨by decide +kernel, rfl⟩
theorem dd_M_payDay_132 : ad_D mm_M_payDay 132 (.iload 5) 2 134 := ⟨by decide +kernel, rfl⟩
theorem dd_M_payDay_134 : ad_D mm_M_payDay 134 (.iaload) 1 135 := ⟨by decide +kernel, rfl⟩
theorem dd_M_payDay_135 : ad_D mm_M_payDay 135 (.bipush 24) 2 137 := ⟨by decide +kernel, rfl⟩
theorem dd_M_payDay_137 : ad_D mm_M_payDay 137 (.idiv) 1 138 := ⟨by decide +kernel, rfl⟩
theorem dd_M_payDay_138 : ad_D mm_M_payDay 138 (.iload 4) 2 140 := ⟨by decide +kernel, rfl⟩
theorem dd_M_payDay_140 : ad_D mm_M_payDay 140 (.if_icmp .eq 6) 3 143 := ⟨by decide +kernel, rfl⟩
theorem dd_M_payDay_143 : ad_D mm_M_payDay 143 (.goto 97) 3 146 := ⟨by decide +kernel, rfl⟩
theorem dd_M_payDay_146 : ad_D mm_M_payDay 146 (.aload_n 0) 1 147 := ⟨by decide +kernel, rfl⟩
theorem dd_M_payDay_147 : ad_D mm_M_payDay 147 (.getfield 97) 3 150 := ⟨by decide +kernel, rfl⟩
theorem dd_M_payDay_150 : ad_D mm_M_payDay 150 (.iload 5) 2 152 := ⟨by decide +kernel, rfl⟩
theorem dd_M_payDay_152 : ad_D mm_M_payDay 152 (.aload_n 0) 1 153 := ⟨by decide +kernel, rfl⟩
theorem dd_M_payDay_153 : ad_D mm_M_payDay 153 (.aload_n 0) 1 154 := ⟨by decide +kernel, rfl⟩
theorem dd_M_payDay_154 : ad_D mm_M_payDay 154 (.getfield 88) 3 157 := ⟨by decide +kernel, rfl⟩
theorem dd_M_payDay_157 : ad_D mm_M_payDay 157 (.iload 5) 2 159 := ⟨by decide +kernel, rfl⟩
theorem dd_M_payDay_159 : ad_D mm_M_payDay 159 (.iaload) 1 160 := ⟨by decide +kernel, rfl⟩
theorem dd_M_payDay_160 : ad_D mm_M_payDay 160 (.aload_n 0) 1 161 := ⟨by decide +kernel, rfl⟩
theorem dd_M_payDay_161 : ad_D mm_M_payDay 161 (.getfield 79) 3 164 := ⟨by decide +kernel, rfl⟩
theorem dd_M_payDay_164 : ad_D mm_M_payDay 164 (.iload 5) 2 166 := ⟨by decide +kernel, rfl⟩
theorem dd_M_payDay_166 : ad_D mm_M_payDay 166 (.iaload) 1 167 := ⟨by decide +kernel, rfl⟩
theorem dd_M_payDay_167 : ad_D mm_M_payDay 167 (.aload_n 0) 1 168 := ⟨by decide +kernel, rfl⟩
theorem dd_M_payDay_168 : ad_D mm_M_payDay 168 (.getfield 107) 3 171 := ⟨by decide +kernel, rfl⟩
theorem dd_M_payDay_171 : ad_D mm_M_payDay 171 (.aload_n 0) 1 172 := ⟨by decide +kernel, rfl⟩
theorem dd_M_payDay_172 : ad_D mm_M_payDay 172 (.getfield 54) 3 175 := ⟨by decide +kernel, rfl⟩
theorem dd_M_payDay_175 : ad_D mm_M_payDay 175 (.aload_n 0) 1 176 := ⟨by decide +kernel, rfl⟩
theorem dd_M_payDay_176 : ad_D mm_M_payDay 176 (.getfield 73) 3 179 := ⟨by decide +kernel, rfl⟩
theorem dd_M_payDay_179 : ad_D mm_M_payDay 179 (.iload 5) 2 181 := ⟨by decide +kernel, rfl⟩
theorem dd_M_payDay_181 : ad_D mm_M_payDay 181 (.iaload) 1 182 := ⟨by decide +kernel, rfl⟩
theorem dd_M_payDay_182 : ad_D mm_M_payDay 182 (.iaload) 1 183 := ⟨by decide +kernel, rfl⟩
theorem dd_M_payDay_183 : ad_D mm_M_payDay 183 (.ifCond .lt 7) 3 186 := ⟨by decide +kernel, rfl⟩
theorem dd_M_payDay_186 : ad_D mm_M_payDay 186 (.iconst 1) 1 187 := ⟨by decide +kernel, rfl⟩
theorem dd_M_payDay_187 : ad_D mm_M_payDay 187 (.goto 4) 3 190 := ⟨by decide +kernel, rfl⟩
theorem dd_M_payDay_190 : ad_D mm_M_payDay 190 (.iconst 0) 1 191 := ⟨by decide +kernel, rfl⟩
theorem dd_M_payDay_191 : ad_D mm_M_payDay 191 (.aload_n 0) 1 192 := ⟨by decide +kernel, rfl⟩
theorem dd_M_payDay_192 : ad_D mm_M_payDay 192 (.getfield 94) 3 195 := ⟨by decide +kernel, rfl⟩
theorem dd_M_payDay_195 : ad_D mm_M_payDay 195 (.iload 5) 2 197 := ⟨by decide +kernel, rfl⟩
theorem dd_M_payDay_197 : ad_D mm_M_payDay 197 (.iaload) 1 198 := ⟨by decide +kernel, rfl⟩
theorem dd_M_payDay_198 : ad_D mm_M_payDay 198 (.iconst 1) 1 199 := ⟨by decide +kernel, rfl⟩
theorem dd_M_payDay_199 : ad_D mm_M_payDay 199 (.iadd) 1 200 := ⟨by decide +kernel, rfl⟩
theorem dd_M_payDay_200 : ad_D mm_M_payDay 200 (.aload_n 0) 1 201 := ⟨by decide +kernel, rfl⟩
theorem dd_M_payDay_201 : ad_D mm_M_payDay 201 (.getfield 76) 3 204 := ⟨by decide +kernel, rfl⟩
theorem dd_M_payDay_204 : ad_D mm_M_payDay 204 (.iload 5) 2 206 := ⟨by decide +kernel, rfl⟩
theorem dd_M_payDay_206 : ad_D mm_M_payDay 206 (.iaload) 1 207 := ⟨by decide +kernel, rfl⟩
theorem dd_M_payDay_207 : ad_D mm_M_payDay 207 (.isub) 1 208 := ⟨by decide +kernel, rfl⟩
theorem dd_M_payDay_208 : ad_D mm_M_payDay 208 (.invokevirtual 208) 3 211 := ⟨by decide +kernel, rfl⟩
theorem dd_M_payDay_211 : ad_D mm_M_payDay 211 (.iastore) 1 212 := ⟨by decide +kernel, rfl⟩
theorem dd_M_payDay_212 : ad_D mm_M_payDay 212 (.aload_n 0) 1 213 := ⟨by decide +kernel, rfl⟩
theorem dd_M_payDay_213 : ad_D mm_M_payDay 213 (.getfield 22) 3 216 := ⟨by decide +kernel, rfl⟩
theorem dd_M_payDay_216 : ad_D mm_M_payDay 216 (.aload_n 0) 1 217 := ⟨by decide +kernel, rfl⟩
theorem dd_M_payDay_217 : ad_D mm_M_payDay 217 (.getfield 26) 3 220 := ⟨by decide +kernel, rfl⟩
theorem dd_M_payDay_220 : ad_D mm_M_payDay 220 (.aload_n 0) 1 221 := ⟨by decide +kernel, rfl⟩
theorem dd_M_payDay_221 : ad_D mm_M_payDay 221 (.getfield 73) 3 224 := ⟨by decide +kernel, rfl⟩
theorem dd_M_payDay_224 : ad_D mm_M_payDay 224 (.iload 5) 2 226 := ⟨by decide +kernel, rfl⟩
theorem dd_M_payDay_226 : ad_D mm_M_payDay 226 (.iaload) 1 227 := ⟨by decide +kernel, rfl⟩
theorem dd_M_payDay_227 : ad_D mm_M_payDay 227 (.iaload) 1 228 := ⟨by decide +kernel, rfl⟩
theorem dd_M_payDay_228 : ad_D mm_M_payDay 228 (.dup2) 1 229 := ⟨by decide +kernel, rfl⟩
theorem dd_M_payDay_229 : ad_D mm_M_payDay 229 (.laload) 1 230 := ⟨by decide +kernel, rfl⟩
theorem dd_M_payDay_230 : ad_D mm_M_payDay 230 (.aload_n 0) 1 231 := ⟨by decide +kernel, rfl⟩
theorem dd_M_payDay_231 : ad_D mm_M_payDay 231 (.getfield 97) 3 234 := ⟨by decide +kernel, rfl⟩
theorem dd_M_payDay_234 : ad_D mm_M_payDay 234 (.iload 5) 2 236 := ⟨by decide +kernel, rfl⟩
theorem dd_M_payDay_236 : ad_D mm_M_payDay 236 (.iaload) 1 237 := ⟨by decide +kernel, rfl⟩
theorem dd_M_payDay_237 : ad_D mm_M_payDay 237 (.i2l) 1 238 := ⟨by decide +kernel, rfl⟩
theorem dd_M_payDay_238 : ad_D mm_M_payDay 238 (.ladd) 1 239 := ⟨by decide +kernel, rfl⟩
theorem dd_M_payDay_239 : ad_D mm_M_payDay 239 (.lastore) 1 240 := ⟨by decide +kernel, rfl⟩
theorem dd_M_payDay_240 : ad_D mm_M_payDay 240 (.iinc 5 1) 3 243 := ⟨by decide +kernel, rfl⟩
theorem dd_M_payDay_243 : ad_D mm_M_payDay 243 (.goto (-134)) 3 246 := ⟨by decide +kernel, rfl⟩
theorem dd_M_payDay_246 : ad_D mm_M_payDay 246 (.return_) 1 247 := ⟨by decide +kernel, rfl⟩
theorem dd_M_work_0 : ad_D mm_M_work 0 (.iconst 0) 1 1 := ⟨by decide +kernel, rfl⟩
theorem dd_M_work_1 : ad_D mm_M_work 1 (.istore 6) 2 3 := ⟨by decide +kernel, rfl⟩
theorem dd_M_work_3 : ad_D mm_M_work 3 (.iconst 0) 1 4 := ⟨by decide +kernel, rfl⟩
theorem dd_M_work_4 : ad_D mm_M_work 4 (.istore 7) 2 6 := ⟨by decide +kernel, rfl⟩
theorem dd_M_work_6 : ad_D mm_M_work 6 (.iload 7) 2 8 := ⟨by decide +kernel, rfl⟩
theorem dd_M_work_8 : ad_D mm_M_work 8 (.aload_n 0) 1 9 := ⟨by decide +kernel, rfl⟩
theorem dd_M_work_9 : ad_D mm_M_work 9 (.getfield 149) 3 12 := ⟨by decide +kernel, rfl⟩
theorem dd_M_work_12 : ad_D mm_M_work 12 (.if_icmp .ge 180) 3 15 := ⟨by decide +kernel, rfl⟩
theorem dd_M_work_15 : ad_D mm_M_work 15 (.aload_n 0) 1 16 := ⟨by decide +kernel, rfl⟩
theorem dd_M_work_16 : ad_D mm_M_work 16 (.getfield 119) 3 19 := ⟨by decide +kernel, rfl⟩
theorem dd_M_work_19 : ad_D mm_M_work 19 (.iload 7) 2 21 := ⟨by decide +kernel, rfl⟩
theorem dd_M_work_21 : ad_D mm_M_work 21 (.iaload) 1 22 := ⟨by decide +kernel, rfl⟩
theorem dd_M_work_22 : ad_D mm_M_work 22 (.istore 8) 2 24 := ⟨by decide +kernel, rfl⟩
theorem dd_M_work_24 : ad_D mm_M_work 24 (.iload 8) 2 26 := ⟨by decide +kernel, rfl⟩
theorem dd_M_work_26 : ad_D mm_M_work 26 (.ifCond .ne 24) 3 29 := ⟨by decide +kernel, rfl⟩
theorem dd_M_work_29 : ad_D mm_M_work 29 (.aload_n 0) 1 30 := ⟨by decide +kernel, rfl⟩
theorem dd_M_work_30 : ad_D mm_M_work 30 (.getfield 134) 3 33 := ⟨by decide +kernel, rfl⟩
theorem dd_M_work_33 : ad_D mm_M_work 33 (.iload 6) 2 35 := ⟨by decide +kernel, rfl⟩
theorem dd_M_work_35 : ad_D mm_M_work 35 (.aload_n 0) 1 36 := ⟨by decide +kernel, rfl⟩
theorem dd_M_work_36 : ad_D mm_M_work 36 (.getfield 122) 3 39 := ⟨by decide +kernel, rfl⟩
theorem dd_M_work_39 : ad_D mm_M_work 39 (.iload 7) 2 41 := ⟨by decide +kernel, rfl⟩
theorem dd_M_work_41 : ad_D mm_M_work 41 (.iaload) 1 42 := ⟨by decide +kernel, rfl⟩
theorem dd_M_work_42 : ad_D mm_M_work 42 (.i2l) 1 43 := ⟨by decide +kernel, rfl⟩
theorem dd_M_work_43 : ad_D mm_M_work 43 (.lastore) 1 44 := ⟨by decide +kernel, rfl⟩
theorem dd_M_work_44 : ad_D mm_M_work 44 (.iinc 6 1) 3 47 := ⟨by decide +kernel, rfl⟩
theorem dd_M_work_47 : ad_D mm_M_work 47 (.goto 139) 3 50 := ⟨by decide +kernel, rfl⟩
theorem dd_M_work_50 : ad_D mm_M_work 50 (.iload 8) 2 52 := ⟨by decide +kernel, rfl⟩
theorem dd_M_work_52 : ad_D mm_M_work 52 (.iconst 1) 1 53 := ⟨by decide +kernel, rfl⟩
theorem dd_M_work_53 : ad_D mm_M_work 53 (.if_icmp .ne 72) 3 56 := ⟨by decide +kernel, rfl⟩
theorem dd_M_work_56 : ad_D mm_M_work 56 (.aload_n 0) 1 57 := ⟨by decide +kernel, rfl⟩
theorem dd_M_work_57 : ad_D mm_M_work 57 (.getfield 122) 3 60 := ⟨by decide +kernel, rfl⟩
theorem dd_M_work_60 : ad_D mm_M_work 60 (.iload 7) 2 62 := ⟨by decide +kernel, rfl⟩
theorem dd_M_work_62 : ad_D mm_M_work 62 (.iaload) 1 63 := ⟨by decide +kernel, rfl⟩
theorem dd_M_work_63 : ad_D mm_M_work 63 (.istore 9) 2 65 := ⟨by decide +kernel, rfl⟩
theorem dd_M_work_65 : ad_D mm_M_work 65 (.aload_n 0) 1 66 := ⟨by decide +kernel, rfl⟩
theorem dd_M_work_66 : ad_D mm_M_work 66 (.getfield 134) 3 69 := ⟨by decide +kernel, rfl⟩
theorem dd_M_work_69 : ad_D mm_M_work 69 (.iload 6) 2 71 := ⟨by decide +kernel, rfl⟩
theorem dd_M_work_71 : ad_D mm_M_work 71 (.iload 9) 2 73 := ⟨by decide +kernel, rfl⟩
theorem dd_M_work_73 : ad_D mm_M_work 73 (.ifCond .ne 8) 3 76 := ⟨by decide +kernel, rfl⟩
theorem dd_M_work_76 : ad_D mm_M_work 76 (.iload_n 1) 1 77 := ⟨by decide +kernel, rfl⟩
theorem dd_M_work_77 : ad_D mm_M_work 77 (.i2l) 1 78 := ⟨by decide +kernel, rfl⟩
theorem dd_M_work_78 : ad_D mm_M_work 78 (.goto 40) 3 81 := ⟨by decide +kernel, rfl⟩
theorem dd_M_work_81 : ad_D mm_M_work 81 (.iload 9) 2 83 := ⟨by decide +kernel, rfl⟩
theorem dd_M_work_83 : ad_D mm_M_work 83 (.iconst 1) 1 84 := ⟨by decide +kernel, rfl⟩
theorem dd_M_work_84 : ad_D mm_M_work 84 (.if_icmp .ne 8) 3 87 := ⟨by decide +kernel, rfl⟩
theorem dd_M_work_87 : ad_D mm_M_work 87 (.iload_n 2) 1 88 := ⟨by decide +kernel, rfl⟩
theorem dd_M_work_88 : ad_D mm_M_work 88 (.i2l) 1 89 := ⟨by decide +kernel, rfl⟩
theorem dd_M_work_89 : ad_D mm_M_work 89 (.goto 29) 3 92 := ⟨by decide +kernel, rfl⟩
theorem dd_M_work_92 : ad_D mm_M_work 92 (.iload 9) 2 94 := ⟨by decide +kernel, rfl⟩
theorem dd_M_work_94 : ad_D mm_M_work 94 (.iconst 2) 1 95 := ⟨by decide +kernel, rfl⟩
theorem dd_M_work_95 : ad_D mm_M_work 95 (.if_icmp .ne 8) 3 98 := ⟨by decide +kernel, rfl⟩
theorem dd_M_work_98 : ad_D mm_M_work 98 (.iload_n 3) 1 99 := ⟨by decide +kernel, rfl⟩
theorem dd_M_work_99 : ad_D mm_M_work 99 (.i2l) 1 100 := ⟨by decide +kernel, rfl⟩
theorem dd_M_work_100 : ad_D mm_M_work 100 (.goto 18) 3 103 := ⟨by decide +kernel, rfl⟩
theorem dd_M_work_103 : ad_D mm_M_work 103 (.iload 9) 2 105 := ⟨by decide +kernel, rfl⟩
theorem dd_M_work_105 : ad_D mm_M_work 105 (.iconst 3) 1 106 := ⟨by decide +kernel, rfl⟩
theorem dd_M_work_106 : ad_D mm_M_work 106 (.if_icmp .ne 9) 3 109 := ⟨by decide +kernel, rfl⟩
theorem dd_M_work_109 : ad_D mm_M_work 109 (.iload 4) 2 111 := ⟨by decide +kernel, rfl⟩
theorem dd_M_work_111 : ad_D mm_M_work 111 (.i2l) 1 112 := ⟨by decide +kernel, rfl⟩
theorem dd_M_work_112 : ad_D mm_M_work 112 (.goto 6) 3 115 := ⟨by decide +kernel, rfl⟩
theorem dd_M_work_115 : ad_D mm_M_work 115 (.iload 5) 2 117 := ⟨by decide +kernel, rfl⟩
theorem dd_M_work_117 : ad_D mm_M_work 117 (.i2l) 1 118 := ⟨by decide +kernel, rfl⟩
theorem dd_M_work_118 : ad_D mm_M_work 118 (.lastore) 1 119 := ⟨by decide +kernel, rfl⟩
theorem dd_M_work_119 : ad_D mm_M_work 119 (.iinc 6 1) 3 122 := ⟨by decide +kernel, rfl⟩
theorem dd_M_work_122 : ad_D mm_M_work 122 (.goto 64) 3 125 := ⟨by decide +kernel, rfl⟩
theorem dd_M_work_125 : ad_D mm_M_work 125 (.iload 8) 2 127 := ⟨by decide +kernel, rfl⟩
theorem dd_M_work_127 : ad_D mm_M_work 127 (.iconst 2) 1 128 := ⟨by decide +kernel, rfl⟩
theorem dd_M_work_128 : ad_D mm_M_work 128 (.if_icmp .ne 25) 3 131 := ⟨by decide +kernel, rfl⟩
theorem dd_M_work_131 : ad_D mm_M_work 131 (.aload_n 0) 1 132 := ⟨by decide +kernel, rfl⟩
theorem dd_M_work_132 : ad_D mm_M_work 132 (.getfield 134) 3 135 := ⟨by decide +kernel, rfl⟩
theorem dd_M_work_135 : ad_D mm_M_work 135 (.iload 6) 2 137 := ⟨by decide +kernel, rfl⟩
theorem dd_M_work_137 : ad_D mm_M_work 137 (.iconst 1) 1 138 := ⟨by decide +kernel, rfl⟩
theorem dd_M_work_138 : ad_D mm_M_work 138 (.isub) 1 139 := ⟨by decide +kernel, rfl⟩
theorem dd_M_work_139 : ad_D mm_M_work 139 (.aload_n 0) 1 140 := ⟨by decide +kernel, rfl⟩
theorem dd_M_work_140 : ad_D mm_M_work 140 (.getfield 134) 3 143 := ⟨by decide +kernel, rfl⟩
theorem dd_M_work_143 : ad_D mm_M_work 143 (.iload 6) 2 145 := ⟨by decide +kernel, rfl⟩
theorem dd_M_work_145 : ad_D mm_M_work 145 (.iconst 1) 1 146 := ⟨by decide +kernel, rfl⟩
theorem dd_M_work_146 : ad_D mm_M_work 146 (.isub) 1 147 := ⟨by decide +kernel, rfl⟩
theorem dd_M_work_147 : ad_D mm_M_work 147 (.laload) 1 148 := ⟨by decide +kernel, rfl⟩
theorem dd_M_work_148 : ad_D mm_M_work 148 (.lneg) 1 149 := ⟨by decide +kernel, rfl⟩
theorem dd_M_work_149 : ad_D mm_M_work 149 (.lastore) 1 150 := ⟨by decide +kernel, rfl⟩
theorem dd_M_work_150 : ad_D mm_M_work 150 (.goto 36) 3 153 := ⟨by decide +kernel, rfl⟩
theorem dd_M_work_153 : ad_D mm_M_work 153 (.iinc 6 (-1)) 3 156 := ⟨by decide +kernel, rfl⟩
theorem dd_M_work_156 : ad_D mm_M_work 156 (.aload_n 0) 1 157 := ⟨by decide +kernel, rfl⟩
theorem dd_M_work_157 : ad_D mm_M_work 157 (.getfield 134) 3 160 := ⟨by decide +kernel, rfl⟩
theorem dd_M_work_160 : ad_D mm_M_work 160 (.iload 6) 2 162 := ⟨by decide +kernel, rfl⟩
theorem dd_M_work_162 : ad_D mm_M_work 162 (.iconst 1) 1 163 := ⟨by decide +kernel, rfl⟩
theorem dd_M_work_163 : ad_D mm_M_work 163 (.isub) 1 164 := ⟨by decide +kernel, rfl⟩
theorem dd_M_work_164 : ad_D mm_M_work 164 (.iload 8) 2 166 := ⟨by decide +kernel, rfl⟩
theorem dd_M_work_166 : ad_D mm_M_work 166 (.aload_n 0) 1 167 := ⟨by decide +kernel, rfl⟩
theorem dd_M_work_167 : ad_D mm_M_work 167 (.getfield 134) 3 170 := ⟨by decide +kernel, rfl⟩
theorem dd_M_work_170 : ad_D mm_M_work 170 (.iload 6) 2 172 := ⟨by decide +kernel, rfl⟩
theorem dd_M_work_172 : ad_D mm_M_work 172 (.iconst 1) 1 173 := ⟨by decide +kernel, rfl⟩
theorem dd_M_work_173 : ad_D mm_M_work 173 (.isub) 1 174 := ⟨by decide +kernel, rfl⟩
theorem dd_M_work_174 : ad_D mm_M_work 174 (.laload) 1 175 := ⟨by decide +kernel, rfl⟩
theorem dd_M_work_175 : ad_D mm_M_work 175 (.aload_n 0) 1 176 := ⟨by decide +kernel, rfl⟩
theorem dd_M_work_176 : ad_D mm_M_work 176 (.getfield 134) 3 179 := ⟨by decide +kernel, rfl⟩
theorem dd_M_work_179 : ad_D mm_M_work 179 (.iload 6) 2 181 := ⟨by decide +kernel, rfl⟩
theorem dd_M_work_181 : ad_D mm_M_work 181 (.laload) 1 182 := ⟨by decide +kernel, rfl⟩
theorem dd_M_work_182 : ad_D mm_M_work 182 (.invokestatic 314) 3 185 := ⟨by decide +kernel, rfl⟩
theorem dd_M_work_185 : ad_D mm_M_work 185 (.lastore) 1 186 := ⟨by decide +kernel, rfl⟩
theorem dd_M_work_186 : ad_D mm_M_work 186 (.iinc 7 1) 3 189 := ⟨by decide +kernel, rfl⟩
theorem dd_M_work_189 : ad_D mm_M_work 189 (.goto (-183)) 3 192 := ⟨by decide +kernel, rfl⟩
theorem dd_M_work_192 : ad_D mm_M_work 192 (.aload_n 0) 1 193 := ⟨by decide +kernel, rfl⟩
theorem dd_M_work_193 : ad_D mm_M_work 193 (.getfield 134) 3 196 := ⟨by decide +kernel, rfl⟩
theorem dd_M_work_196 : ad_D mm_M_work 196 (.iconst 0) 1 197 := ⟨by decide +kernel, rfl⟩
theorem dd_M_work_197 : ad_D mm_M_work 197 (.laload) 1 198 := ⟨by decide +kernel, rfl⟩
theorem dd_M_work_198 : ad_D mm_M_work 198 (.l2i) 1 199 := ⟨by decide +kernel, rfl⟩
theorem dd_M_work_199 : ad_D mm_M_work 199 (.ireturn) 1 200 := ⟨by decide +kernel, rfl⟩
theorem dd_M_act_0 : ad_D mm_M_act 0 (.iload_n 0) 1 1 := ⟨by decide +kernel, rfl⟩
theorem dd_M_act_1 : ad_D mm_M_act 1 (.tableswitch 85 3 7 #[35, 42, 49, 56, 73]) 35 36 := ⟨by decide +kernel, rfl⟩
theorem dd_M_act_36 : ad_D mm_M_act 36 (.lload_n 1) 1 37 := ⟨by decide +kernel, rfl⟩
theorem dd_M_act_37 : ad_D mm_M_act 37 (.lload_n 3) 1 38 := ⟨by decide +kernel, rfl⟩
theorem dd_M_act_38 : ad_D mm_M_act 38 (.ladd) 1 39 := ⟨by decide +kernel, rfl⟩
theorem dd_M_act_39 : ad_D mm_M_act 39 (.invokestatic 310) 3 42 := ⟨by decide +kernel, rfl⟩
theorem dd_M_act_42 : ad_D mm_M_act 42 (.lreturn) 1 43 := ⟨by decide +kernel, rfl⟩
theorem dd_M_act_43 : ad_D mm_M_act 43 (.lload_n 1) 1 44 := ⟨by decide +kernel, rfl⟩
theorem dd_M_act_44 : ad_D mm_M_act 44 (.lload_n 3) 1 45 := ⟨by decide +kernel, rfl⟩
theorem dd_M_act_45 : ad_D mm_M_act 45 (.lsub) 1 46 := ⟨by decide +kernel, rfl⟩
theorem dd_M_act_46 : ad_D mm_M_act 46 (.invokestatic 310) 3 49 := ⟨by decide +kernel, rfl⟩
theorem dd_M_act_49 : ad_D mm_M_act 49 (.lreturn) 1 50 := ⟨by decide +kernel, rfl⟩
theorem dd_M_act_50 : ad_D mm_M_act 50 (.lload_n 1) 1 51 := ⟨by decide +kernel, rfl⟩
theorem dd_M_act_51 : ad_D mm_M_act 51 (.lload_n 3) 1 52 := ⟨by decide +kernel, rfl⟩
theorem dd_M_act_52 : ad_D mm_M_act 52 (.lmul) 1 53 := ⟨by decide +kernel, rfl⟩
theorem dd_M_act_53 : ad_D mm_M_act 53 (.invokestatic 310) 3 56 := ⟨by decide +kernel, rfl⟩
theorem dd_M_act_56 : ad_D mm_M_act 56 (.lreturn) 1 57 := ⟨by decide +kernel, rfl⟩
theorem dd_M_act_57 : ad_D mm_M_act 57 (.lload_n 3) 1 58 := ⟨by decide +kernel, rfl⟩
theorem dd_M_act_58 : ad_D mm_M_act 58 (.lconst 0) 1 59 := ⟨by decide +kernel, rfl⟩
theorem dd_M_act_59 : ad_D mm_M_act 59 (.lcmp) 1 60 := ⟨by decide +kernel, rfl⟩
theorem dd_M_act_60 : ad_D mm_M_act 60 (.ifCond .ne 7) 3 63 := ⟨by decide +kernel, rfl⟩
theorem dd_M_act_63 : ad_D mm_M_act 63 (.lconst 0) 1 64 := ⟨by decide +kernel, rfl⟩
theorem dd_M_act_64 : ad_D mm_M_act 64 (.goto 9) 3 67 := ⟨by decide +kernel, rfl⟩
theorem dd_M_act_67 : ad_D mm_M_act 67 (.lload_n 1) 1 68 := ⟨by decide +kernel, rfl⟩
theorem dd_M_act_68 : ad_D mm_M_act 68 (.lload_n 3) 1 69 := ⟨by decide +kernel, rfl⟩
theorem dd_M_act_69 : ad_D mm_M_act 69 (.ldiv) 1 70 := ⟨by decide +kernel, rfl⟩
theorem dd_M_act_70 : ad_D mm_M_act 70 (.invokestatic 310) 3 73 := ⟨by decide +kernel, rfl⟩
theorem dd_M_act_73 : ad_D mm_M_act 73 (.lreturn) 1 74 := ⟨by decide +kernel, rfl⟩
theorem dd_M_act_74 : ad_D mm_M_act 74 (.lload_n 1) 1 75 := ⟨by decide +kernel, rfl⟩
theorem dd_M_act_75 : ad_D mm_M_act 75 (.lload_n 3) 1 76 := ⟨by decide +kernel, rfl⟩
theorem dd_M_act_76 : ad_D mm_M_act 76 (.lcmp) 1 77 := ⟨by decide +kernel, rfl⟩
theorem dd_M_act_77 : ad_D mm_M_act 77 (.ifCond .ge 7) 3 80 := ⟨by decide +kernel, rfl⟩
theorem dd_M_act_80 : ad_D mm_M_act 80 (.lload_n 1) 1 81 := ⟨by decide +kernel, rfl⟩
theorem dd_M_act_81 : ad_D mm_M_act 81 (.goto 4) 3 84 := ⟨by decide +kernel, rfl⟩
theorem dd_M_act_84 : ad_D mm_M_act 84 (.lload_n 3) 1 85 := ⟨by decide +kernel, rfl⟩
theorem dd_M_act_85 : ad_D mm_M_act 85 (.lreturn) 1 86 := ⟨by decide +kernel, rfl⟩
theorem dd_M_act_86 : ad_D mm_M_act 86 (.lload_n 1) 1 87 := ⟨by decide +kernel, rfl⟩
theorem dd_M_act_87 : ad_D mm_M_act 87 (.lload_n 3) 1 88 := ⟨by decide +kernel, rfl⟩
theorem dd_M_act_88 : ad_D mm_M_act 88 (.lcmp) 1 89 := ⟨by decide +kernel, rfl⟩
theorem dd_M_act_89 : ad_D mm_M_act 89 (.ifCond .le 7) 3 92 := ⟨by decide +kernel, rfl⟩
theorem dd_M_act_92 : ad_D mm_M_act 92 (.lload_n 1) 1 93 := ⟨by decide +kernel, rfl⟩
theorem dd_M_act_93 : ad_D mm_M_act 93 (.goto 4) 3 96 := ⟨by decide +kernel, rfl⟩
theorem dd_M_act_96 : ad_D mm_M_act 96 (.lload_n 3) 1 97 := ⟨by decide +kernel, rfl⟩
theorem dd_M_act_97 : ad_D mm_M_act 97 (.lreturn) 1 98 := ⟨by decide +kernel, rfl⟩
theorem dd_M_clip_0 : ad_D mm_M_clip 0 (.lload_n 0) 1 1 := ⟨by decide +kernel, rfl⟩
theorem dd_M_clip_1 : ad_D mm_M_clip 1 (.ldc2_w 306) 3 4 := ⟨by decide +kernel, rfl⟩
theorem dd_M_clip_4 : ad_D mm_M_clip 4 (.lcmp) 1 5 := ⟨by decide +kernel, rfl⟩
theorem dd_M_clip_5 : ad_D mm_M_clip 5 (.ifCond .le 9) 3 8 := ⟨by decide +kernel, rfl⟩
theorem dd_M_clip_8 : ad_D mm_M_clip 8 (.ldc2_w 306) 3 11 := ⟨by decide +kernel, rfl⟩
theorem dd_M_clip_11 : ad_D mm_M_clip 11 (.goto 18) 3 14 := ⟨by decide +kernel, rfl⟩
theorem dd_M_clip_14 : ad_D mm_M_clip 14 (.lload_n 0) 1 15 := ⟨by decide +kernel, rfl⟩
theorem dd_M_clip_15 : ad_D mm_M_clip 15 (.ldc2_w 308) 3 18 := ⟨by decide +kernel, rfl⟩
theorem dd_M_clip_18 : ad_D mm_M_clip 18 (.lcmp) 1 19 := ⟨by decide +kernel, rfl⟩
theorem dd_M_clip_19 : ad_D mm_M_clip 19 (.ifCond .ge 9) 3 22 := ⟨by decide +kernel, rfl⟩
theorem dd_M_clip_22 : ad_D mm_M_clip 22 (.ldc2_w 308) 3 25 := ⟨by decide +kernel, rfl⟩
theorem dd_M_clip_25 : ad_D mm_M_clip 25 (.goto 4) 3 28 := ⟨by decide +kernel, rfl⟩
theorem dd_M_clip_28 : ad_D mm_M_clip 28 (.lload_n 0) 1 29 := ⟨by decide +kernel, rfl⟩
theorem dd_M_clip_29 : ad_D mm_M_clip 29 (.lreturn) 1 30 := ⟨by decide +kernel, rfl⟩
theorem dd_M_feed_0 : ad_D mm_M_feed 0 (.aload_n 0) 1 1 := ⟨by decide +kernel, rfl⟩
theorem dd_M_feed_1 : ad_D mm_M_feed 1 (.getfield 235) 3 4 := ⟨by decide +kernel, rfl⟩
theorem dd_M_feed_4 : ad_D mm_M_feed 4 (.bipush 20) 2 6 := ⟨by decide +kernel, rfl⟩
theorem dd_M_feed_6 : ad_D mm_M_feed 6 (.iadd) 1 7 := ⟨by decide +kernel, rfl⟩
theorem dd_M_feed_7 : ad_D mm_M_feed 7 (.bipush 100) 2 9 := ⟨by decide +kernel, rfl⟩
theorem dd_M_feed_9 : ad_D mm_M_feed 9 (.if_icmp .le 5) 3 12 := ⟨by decide +kernel, rfl⟩
theorem dd_M_feed_12 : ad_D mm_M_feed 12 (.iconst (-1)) 1 13 := ⟨by decide +kernel, rfl⟩
theorem dd_M_feed_13 : ad_D mm_M_feed 13 (.ireturn) 1 14 := ⟨by decide +kernel, rfl⟩
theorem dd_M_feed_14 : ad_D mm_M_feed 14 (.aload_n 0) 1 15 := ⟨by decide +kernel, rfl⟩
theorem dd_M_feed_15 : ad_D mm_M_feed 15 (.iload_n 1) 1 16 := ⟨by decide +kernel, rfl⟩
theorem dd_M_feed_16 : ad_D mm_M_feed 16 (.invokevirtual 238) 3 19 := ⟨by decide +kernel, rfl⟩
theorem dd_M_feed_19 : ad_D mm_M_feed 19 (.aload_n 0) 1 20 := ⟨by decide +kernel, rfl⟩
theorem dd_M_feed_20 : ad_D mm_M_feed 20 (.iload_n 2) 1 21 := ⟨by decide +kernel, rfl⟩
theorem dd_M_feed_21 : ad_D mm_M_feed 21 (.invokevirtual 238) 3 24 := ⟨by decide +kernel, rfl⟩
theorem dd_M_feed_24 : ad_D mm_M_feed 24 (.aload_n 0) 1 25 := ⟨by decide +kernel, rfl⟩
theorem dd_M_feed_25 : ad_D mm_M_feed 25 (.iload_n 3) 1 26 := ⟨by decide +kernel, rfl⟩
theorem dd_M_feed_26 : ad_D mm_M_feed 26 (.invokevirtual 238) 3 29 := ⟨by decide +kernel, rfl⟩
theorem dd_M_feed_29 : ad_D mm_M_feed 29 (.aload_n 0) 1 30 := ⟨by decide +kernel, rfl⟩
theorem dd_M_feed_30 : ad_D mm_M_feed 30 (.iload 4) 2 32 := ⟨by decide +kernel, rfl⟩
theorem dd_M_feed_32 : ad_D mm_M_feed 32 (.invokevirtual 238) 3 35 := ⟨by decide +kernel, rfl⟩
theorem dd_M_feed_35 : ad_D mm_M_feed 35 (.aload_n 0) 1 36 := ⟨by decide +kernel, rfl⟩
theorem dd_M_feed_36 : ad_D mm_M_feed 36 (.iload 5) 2 38 := ⟨by decide +kernel, rfl⟩
theorem dd_M_feed_38 : ad_D mm_M_feed 38 (.invokevirtual 238) 3 41 := ⟨by decide +kernel, rfl⟩
theorem dd_M_feed_41 : ad_D mm_M_feed 41 (.aload_n 0) 1 42 := ⟨by decide +kernel, rfl⟩
theorem dd_M_feed_42 : ad_D mm_M_feed 42 (.getfield 235) 3 45 := ⟨by decide +kernel, rfl⟩
theorem dd_M_feed_45 : ad_D mm_M_feed 45 (.ireturn) 1 46 := ⟨by decide +kernel, rfl⟩
theorem dd_M_four_0 : ad_D mm_M_four 0 (.bipush 24) 2 2 := ⟨by decide +kernel, rfl⟩
theorem dd_M_four_2 : ad_D mm_M_four 2 (.istore_n 2) 1 3 := ⟨by decide +kernel, rfl⟩
theorem dd_M_four_3 : ad_D mm_M_four 3 (.iload_n 2) 1 4 := ⟨by decide +kernel, rfl⟩
theorem dd_M_four_4 : ad_D mm_M_four 4 (.ifCond .lt 35) 3 7 := ⟨by decide +kernel, rfl⟩
theorem dd_M_four_7 : ad_D mm_M_four 7 (.aload_n 0) 1 8 := ⟨by decide +kernel, rfl⟩
theorem dd_M_four_8 : ad_D mm_M_four 8 (.getfield 116) 3 11 := ⟨by decide +kernel, rfl⟩
theorem dd_M_four_11 : ad_D mm_M_four 11 (.aload_n 0) 1 12 := ⟨by decide +kernel, rfl⟩
theorem dd_M_four_12 : ad_D mm_M_four 12 (.getfield 235) 3 15 := ⟨by decide +kernel, rfl⟩
theorem dd_M_four_15 : ad_D mm_M_four 15 (.iload_n 1) 1 16 := ⟨by decide +kernel, rfl⟩
theorem dd_M_four_16 : ad_D mm_M_four 16 (.iload_n 2) 1 17 := ⟨by decide +kernel, rfl⟩
theorem dd_M_four_17 : ad_D mm_M_four 17 (.ishr) 1 18 := ⟨by decide +kernel, rfl⟩
theorem dd_M_four_18 : ad_D mm_M_four 18 (.sipush 255) 3 21 := ⟨by decide +kernel, rfl⟩
theorem dd_M_four_21 : ad_D mm_M_four 21 (.iand) 1 22 := ⟨by decide +kernel, rfl⟩
theorem dd_M_four_22 : ad_D mm_M_four 22 (.iastore) 1 23 := ⟨by decide +kernel, rfl⟩
theorem dd_M_four_23 : ad_D mm_M_four 23 (.aload_n 0) 1 24 := ⟨by decide +kernel, rfl⟩
theorem dd_M_four_24 : ad_D mm_M_four 24 (.dup) 1 25 := ⟨by decide +kernel, rfl⟩
theorem dd_M_four_25 : ad_D mm_M_four 25 (.getfield 235) 3 28 := ⟨by decide +kernel, rfl⟩
theorem dd_M_four_28 : ad_D mm_M_four 28 (.iconst 1) 1 29 := ⟨by decide +kernel, rfl⟩
theorem dd_M_four_29 : ad_D mm_M_four 29 (.iadd) 1 30 := ⟨by decide +kernel, rfl⟩
theorem dd_M_four_30 : ad_D mm_M_four 30 (.putfield 235) 3 33 := ⟨by decide +kernel, rfl⟩
theorem dd_M_four_33 : ad_D mm_M_four 33 (.iinc 2 (-8)) 3 36 := ⟨by decide +kernel, rfl⟩
theorem dd_M_four_36 : ad_D mm_M_four 36 (.goto (-33)) 3 39 := ⟨by decide +kernel, rfl⟩
theorem dd_M_four_39 : ad_D mm_M_four 39 (.return_) 1 40 := ⟨by decide +kernel, rfl⟩
theorem dd_M_end_0 : ad_D mm_M_end 0 (.iload_n 1) 1 1 := ⟨by decide +kernel, rfl⟩
theorem dd_M_end_1 : ad_D mm_M_end 1 (.iconst 0) 1 2 := ⟨by decide +kernel, rfl⟩
theorem dd_M_end_2 : ad_D mm_M_end 2 (.aload_n 0) 1 3 := ⟨by decide +kernel, rfl⟩
theorem dd_M_end_3 : ad_D mm_M_end 3 (.getfield 235) 3 6 := ⟨by decide +kernel, rfl⟩
theorem dd_M_end_6 : ad_D mm_M_end 6 (.invokestatic 155) 3 9 := ⟨by decide +kernel, rfl⟩
theorem dd_M_end_9 : ad_D mm_M_end 9 (.ifCond .ne 5) 3 12 := ⟨by decide +kernel, rfl⟩
theorem dd_M_end_12 : ad_D mm_M_end 12 (.iconst (-1)) 1 13 := ⟨by decide +kernel, rfl⟩
theorem dd_M_end_13 : ad_D mm_M_end 13 (.ireturn) 1 14 := ⟨by decide +kernel, rfl⟩
theorem dd_M_end_14 : ad_D mm_M_end 14 (.aload_n 0) 1 15 := ⟨by decide +kernel, rfl⟩
theorem dd_M_end_15 : ad_D mm_M_end 15 (.iload_n 1) 1 16 := ⟨by decide +kernel, rfl⟩
theorem dd_M_end_16 : ad_D mm_M_end 16 (.putfield 235) 3 19 := ⟨by decide +kernel, rfl⟩
theorem dd_M_end_19 : ad_D mm_M_end 19 (.iload_n 1) 1 20 := ⟨by decide +kernel, rfl⟩
theorem dd_M_end_20 : ad_D mm_M_end 20 (.ireturn) 1 21 := ⟨by decide +kernel, rfl⟩
theorem dd_M_text_0 : ad_D mm_M_text 0 (.aload_n 0) 1 1 := ⟨by decide +kernel, rfl⟩
theorem dd_M_text_1 : ad_D mm_M_text 1 (.aload_n 0) 1 2 := ⟨by decide +kernel, rfl⟩
theorem dd_M_text_2 : ad_D mm_M_text 2 (.invokevirtual 303) 3 5 := ⟨by decide +kernel, rfl⟩
theorem dd_M_text_5 : ad_D mm_M_text 5 (.putfield 125) 3 8 := ⟨by decide +kernel, rfl⟩
theorem dd_M_text_8 : ad_D mm_M_text 8 (.aload_n 0) 1 9 := ⟨by decide +kernel, rfl⟩
theorem dd_M_text_9 : ad_D mm_M_text 9 (.aload_n 0) 1 10 := ⟨by decide +kernel, rfl⟩
theorem dd_M_text_10 : ad_D mm_M_text 10 (.getfield 125) 3 13 := ⟨by decide +kernel, rfl⟩
theorem dd_M_text_13 : ad_D mm_M_text 13 (.ifCond .ne 7) 3 16 := ⟨by decide +kernel, rfl⟩
theorem dd_M_text_16 : ad_D mm_M_text 16 (.iconst (-1)) 1 17 := ⟨by decide +kernel, rfl⟩
theorem dd_M_text_17 : ad_D mm_M_text 17 (.goto 7) 3 20 := ⟨by decide +kernel, rfl⟩
theorem dd_M_text_20 : ad_D mm_M_text 20 (.aload_n 0) 1 21 := ⟨by decide +kernel, rfl⟩
theorem dd_M_text_21 : ad_D mm_M_text 21 (.getfield 247) 3 24 := ⟨by decide +kernel, rfl⟩
theorem dd_M_text_24 : ad_D mm_M_text 24 (.putfield 128) 3 27 := ⟨by decide +kernel, rfl⟩
theorem dd_M_text_27 : ad_D mm_M_text 27 (.aload_n 0) 1 28 := ⟨by decide +kernel, rfl⟩
theorem dd_M_text_28 : ad_D mm_M_text 28 (.iconst 0) 1 29 := ⟨by decide +kernel, rfl⟩
theorem dd_M_text_29 : ad_D mm_M_text 29 (.putfield 235) 3 32 := ⟨by decide +kernel, rfl⟩
theorem dd_M_text_32 : ad_D mm_M_text 32 (.aload_n 0) 1 33 := ⟨by decide +kernel, rfl⟩
theorem dd_M_text_33 : ad_D mm_M_text 33 (.getfield 125) 3 36 := ⟨by decide +kernel, rfl⟩
theorem dd_M_text_36 : ad_D mm_M_text 36 (.ifCond .eq 5) 3 39 := ⟨by decide +kernel, rfl⟩
theorem dd_M_text_39 : ad_D mm_M_text 39 (.iconst 0) 1 40 := ⟨by decide +kernel, rfl⟩
theorem dd_M_text_40 : ad_D mm_M_text 40 (.ireturn) 1 41 := ⟨by decide +kernel, rfl⟩
theorem dd_M_text_41 : ad_D mm_M_text 41 (.aload_n 0) 1 42 := ⟨by decide +kernel, rfl⟩
theorem dd_M_text_42 : ad_D mm_M_text 42 (.aload_n 0) 1 43 := ⟨by decide +kernel, rfl⟩
theorem dd_M_text_43 : ad_D mm_M_text 43 (.getfield 268) 3 46 := ⟨by decide +kernel, rfl⟩
theorem dd_M_text_46 : ad_D mm_M_text 46 (.putfield 149) 3 49 := ⟨by decide +kernel, rfl⟩
theorem dd_M_text_49 : ad_D mm_M_text 49 (.iconst 0) 1 50 := ⟨by decide +kernel, rfl⟩
theorem dd_M_text_50 : ad_D mm_M_text 50 (.istore_n 1) 1 51 := ⟨by decide +kernel, rfl⟩
theorem dd_M_text_51 : ad_D mm_M_text 51 (.iload_n 1) 1 52 := ⟨by decide +kernel, rfl⟩
theorem dd_M_text_52 : ad_D mm_M_text 52 (.aload_n 0) 1 53 := ⟨by decide +kernel, rfl⟩
theorem dd_M_text_53 : ad_D mm_M_text 53 (.getfield 268) 3 56 := ⟨by decide +kernel, rfl⟩
theorem dd_M_text_56 : ad_D mm_M_text 56 (.if_icmp .ge 41) 3 59 := ⟨by decide +kernel, rfl⟩
theorem dd_M_text_59 : ad_D mm_M_text 59 (.aload_n 0) 1 60 := ⟨by decide +kernel, rfl⟩
theorem dd_M_text_60 : ad_D mm_M_text 60 (.getfield 119) 3 63 := ⟨by decide +kernel, rfl⟩
theorem dd_M_text_63 : ad_D mm_M_text 63 (.iload_n 1) 1 64 := ⟨by decide +kernel, rfl⟩
theorem dd_M_text_64 : ad_D mm_M_text 64 (.aload_n 0) 1 65 := ⟨by decide +kernel, rfl⟩
theorem dd_M_text_65 : ad_D mm_M_text 65 (.getfield 119) 3 68 := ⟨by decide +kernel, rfl⟩
theorem dd_M_text_68 : ad_D mm_M_text 68 (.sipush 128) 3 71 := ⟨by decide +kernel, rfl⟩
theorem dd_M_text_71 : ad_D mm_M_text 71 (.iload_n 1) 1 72 := ⟨by decide +kernel, rfl⟩
theorem dd_M_text_72 : ad_D mm_M_text 72 (.iadd) 1 73 := ⟨by decide +kernel, rfl⟩
theorem dd_M_text_73 : ad_D mm_M_text 73 (.iaload) 1 74 := ⟨by decide +kernel, rfl⟩
theorem dd_M_text_74 : ad_D mm_M_text 74 (.iastore) 1 75 := ⟨by decide +kernel, rfl⟩
theorem dd_M_text_75 : ad_D mm_M_text 75 (.aload_n 0) 1 76 := ⟨by decide +kernel, rfl⟩
theorem dd_M_text_76 : ad_D mm_M_text 76 (.getfield 122) 3 79 := ⟨by decide +kernel, rfl⟩
theorem dd_M_text_79 : ad_D mm_M_text 79 (.iload_n 1) 1 80 := ⟨by decide +kernel, rfl⟩
theorem dd_M_text_80 : ad_D mm_M_text 80 (.aload_n 0) 1 81 := ⟨by decide +kernel, rfl⟩
theorem dd_M_text_81 : ad_D mm_M_text 81 (.getfield 122) 3 84 := ⟨by decide +kernel, rfl⟩
theorem dd_M_text_84 : ad_D mm_M_text 84 (.sipush 128) 3 87 := ⟨by decide +kernel, rfl⟩
theorem dd_M_text_87 : ad_D mm_M_text 87 (.iload_n 1) 1 88 := ⟨by decide +kernel, rfl⟩
theorem dd_M_text_88 : ad_D mm_M_text 88 (.iadd) 1 89 := ⟨by decide +kernel, rfl⟩
theorem dd_M_text_89 : ad_D mm_M_text 89 (.iaload) 1 90 := ⟨by decide +kernel, rfl⟩
theorem dd_M_text_90 : ad_D mm_M_text 90 (.iastore) 1 91 := ⟨by decide +kernel, rfl⟩
theorem dd_M_text_91 : ad_D mm_M_text 91 (.iinc 1 1) 3 94 := ⟨by decide +kernel, rfl⟩
theorem dd_M_text_94 : ad_D mm_M_text 94 (.goto (-43)) 3 97 := ⟨by decide +kernel, rfl⟩
theorem dd_M_text_97 : ad_D mm_M_text 97 (.iconst 1) 1 98 := ⟨by decide +kernel, rfl⟩
theorem dd_M_text_98 : ad_D mm_M_text 98 (.ireturn) 1 99 := ⟨by decide +kernel, rfl⟩
theorem dd_M_readText_0 : ad_D mm_M_readText 0 (.aload_n 0) 1 1 := ⟨by decide +kernel, rfl⟩
theorem dd_M_readText_1 : ad_D mm_M_readText 1 (.iconst 0) 1 2 := ⟨by decide +kernel, rfl⟩
theorem dd_M_readText_2 : ad_D mm_M_readText 2 (.putfield 241) 3 5 := ⟨by decide +kernel, rfl⟩
theorem dd_M_readText_5 : ad_D mm_M_readText 5 (.aload_n 0) 1 6 := ⟨by decide +kernel, rfl⟩
theorem dd_M_readText_6 : ad_D mm_M_readText 6 (.iconst 0) 1 7 := ⟨by decide +kernel, rfl⟩
theorem dd_M_readText_7 : ad_D mm_M_readText 7 (.putfield 268) 3 10 := ⟨by decide +kernel, rfl⟩
theorem dd_M_readText_10 : ad_D mm_M_readText 10 (.aload_n 0) 1 11 := ⟨by decide +kernel, rfl⟩
theorem dd_M_readText_11 : ad_D mm_M_readText 11 (.iconst 0) 1 12 := ⟨by decide +kernel, rfl⟩
theorem dd_M_readText_12 : ad_D mm_M_readText 12 (.putfield 274) 3 15 := ⟨by decide +kernel, rfl⟩
theorem dd_M_readText_15 : ad_D mm_M_readText 15 (.aload_n 0) 1 16 := ⟨by decide +kernel, rfl⟩
theorem dd_M_readText_16 : ad_D mm_M_readText 16 (.iconst 0) 1 17 := ⟨by decide +kernel, rfl⟩
theorem dd_M_readText_17 : ad_D mm_M_readText 17 (.putfield 271) 3 20 := ⟨by decide +kernel, rfl⟩
theorem dd_M_readText_20 : ad_D mm_M_readText 20 (.aload_n 0) 1 21 := ⟨by decide +kernel, rfl⟩
theorem dd_M_readText_21 : ad_D mm_M_readText 21 (.iconst 0) 1 22 := ⟨by decide +kernel, rfl⟩
theorem dd_M_readText_22 : ad_D mm_M_readText 22 (.putfield 284) 3 25 := ⟨by decide +kernel, rfl⟩
theorem dd_M_readText_25 : ad_D mm_M_readText 25 (.aload_n 0) 1 26 := ⟨by decide +kernel, rfl⟩
theorem dd_M_readText_26 : ad_D mm_M_readText 26 (.invokevirtual 288) 3 29 := ⟨by decide +kernel, rfl⟩
theorem dd_M_readText_29 : ad_D mm_M_readText 29 (.aload_n 0) 1 30 := ⟨by decide +kernel, rfl⟩
theorem dd_M_readText_30 : ad_D mm_M_readText 30 (.getfield 250) 3 33 := ⟨by decide +kernel, rfl⟩
theorem dd_M_readText_33 : ad_D mm_M_readText 33 (.ifCond .eq 31) 3 36 := ⟨by decide +kernel, rfl⟩
theorem dd_M_readText_36 : ad_D mm_M_readText 36 (.aload_n 0) 1 37 := ⟨by decide +kernel, rfl⟩
theorem dd_M_readText_37 : ad_D mm_M_readText 37 (.getfield 284) 3 40 := ⟨by decide +kernel, rfl⟩
theorem dd_M_readText_40 : ad_D mm_M_readText 40 (.ifCond .eq 10) 3 43 := ⟨by decide +kernel, rfl⟩
theorem dd_M_readText_43 : ad_D mm_M_readText 43 (.aload_n 0) 1 44 := ⟨by decide +kernel, rfl⟩
theorem dd_M_readText_44 : ad_D mm_M_readText 44 (.invokevirtual 297) 3 47 := ⟨by decide +kernel, rfl⟩
theorem dd_M_readText_47 : ad_D mm_M_readText 47 (.goto 7) 3 50 := ⟨by decide +kernel, rfl⟩
theorem dd_M_readText_50 : ad_D mm_M_readText 50 (.aload_n 0) 1 51 := ⟨by decide +kernel, rfl⟩
theorem dd_M_readText_51 : ad_D mm_M_readText 51 (.invokevirtual 300) 3 54 := ⟨by decide +kernel, rfl⟩
theorem dd_M_readText_54 : ad_D mm_M_readText 54 (.istore_n 1) 1 55 := ⟨by decide +kernel, rfl⟩
theorem dd_M_readText_55 : ad_D mm_M_readText 55 (.iload_n 1) 1 56 := ⟨by decide +kernel, rfl⟩
theorem dd_M_readText_56 : ad_D mm_M_readText 56 (.ifCond .eq 5) 3 59 := ⟨by decide +kernel, rfl⟩
theorem dd_M_readText_59 : ad_D mm_M_readText 59 (.iload_n 1) 1 60 := ⟨by decide +kernel, rfl⟩
theorem dd_M_readText_60 : ad_D mm_M_readText 60 (.ireturn) 1 61 := ⟨by decide +kernel, rfl⟩
theorem dd_M_readText_61 : ad_D mm_M_readText 61 (.goto (-32)) 3 64 := ⟨by decide +kernel, rfl⟩
theorem dd_M_readText_64 : ad_D mm_M_readText 64 (.aload_n 0) 1 65 := ⟨by decide +kernel, rfl⟩
theorem dd_M_readText_65 : ad_D mm_M_readText 65 (.getfield 284) 3 68 := ⟨by decide +kernel, rfl⟩
theorem dd_M_readText_68 : ad_D mm_M_readText 68 (.ifCond .ne 5) 3 71 := ⟨by decide +kernel, rfl⟩
theorem dd_M_readText_71 : ad_D mm_M_readText 71 (.iconst 1) 1 72 := ⟨by decide +kernel, rfl⟩
theorem dd_M_readText_72 : ad_D mm_M_readText 72 (.ireturn) 1 73 := ⟨by decide +kernel, rfl⟩
theorem dd_M_readText_73 : ad_D mm_M_readText 73 (.aload_n 0) 1 74 := ⟨by decide +kernel, rfl⟩
theorem dd_M_readText_74 : ad_D mm_M_readText 74 (.iconst 3) 1 75 := ⟨by decide +kernel, rfl⟩
theorem dd_M_readText_75 : ad_D mm_M_readText 75 (.invokevirtual 294) 3 78 := ⟨by decide +kernel, rfl⟩
theorem dd_M_readText_78 : ad_D mm_M_readText 78 (.aload_n 0) 1 79 := ⟨by decide +kernel, rfl⟩
theorem dd_M_readText_79 : ad_D mm_M_readText 79 (.getfield 271) 3 82 := ⟨by decide +kernel, rfl⟩
theorem dd_M_readText_82 : ad_D mm_M_readText 82 (.ifCond .le 7) 3 85 := ⟨by decide +kernel, rfl⟩
theorem dd_M_readText_85 : ad_D mm_M_readText 85 (.iconst 1) 1 86 := ⟨by decide +kernel, rfl⟩
theorem dd_M_readText_86 : ad_D mm_M_readText 86 (.goto 4) 3 89 := ⟨by decide +kernel, rfl⟩
theorem dd_M_readText_89 : ad_D mm_M_readText 89 (.iconst 0) 1 90 := ⟨by decide +kernel, rfl⟩
theorem dd_M_readText_90 : ad_D mm_M_readText 90 (.ireturn) 1 91 := ⟨by decide +kernel, rfl⟩
theorem dd_M_nextToken_0 : ad_D mm_M_nextToken 0 (.aload_n 0) 1 1 := ⟨by decide +kernel, rfl⟩
theorem dd_M_nextToken_1 : ad_D mm_M_nextToken 1 (.aload_n 0) 1 2 := ⟨by decide +kernel, rfl⟩
theorem dd_M_nextToken_2 : ad_D mm_M_nextToken 2 (.getfield 241) 3 5 := ⟨by decide +kernel, rfl⟩
theorem dd_M_nextToken_5 : ad_D mm_M_nextToken 5 (.invokevirtual 244) 3 8 := ⟨by decide +kernel, rfl⟩
theorem dd_M_nextToken_8 : ad_D mm_M_nextToken 8 (.bipush 32) 2 10 := ⟨by decide +kernel, rfl⟩
theorem dd_M_nextToken_10 : ad_D mm_M_nextToken 10 (.if_icmp .ne 16) 3 13 := ⟨by decide +kernel, rfl⟩
theorem dd_M_nextToken_13 : ad_D mm_M_nextToken 13 (.aload_n 0) 1 14 := ⟨by decide +kernel, rfl⟩
theorem dd_M_nextToken_14 : ad_D mm_M_nextToken 14 (.dup) 1 15 := ⟨by decide +kernel, rfl⟩
theorem dd_M_nextToken_15 : ad_D mm_M_nextToken 15 (.getfield 241) 3 18 := ⟨by decide +kernel, rfl⟩
theorem dd_M_nextToken_18 : ad_D mm_M_nextToken 18 (.iconst 1) 1 19 := ⟨by decide +kernel, rfl⟩
theorem dd_M_nextToken_19 : ad_D mm_M_nextToken 19 (.iadd) 1 20 := ⟨by decide +kernel, rfl⟩
theorem dd_M_nextToken_20 : ad_D mm_M_nextToken 20 (.putfield 241) 3 23 := ⟨by decide +kernel, rfl⟩
theorem dd_M_nextToken_23 : ad_D mm_M_nextToken 23 (.goto (-23)) 3 26 := ⟨by decide +kernel, rfl⟩
theorem dd_M_nextToken_26 : ad_D mm_M_nextToken 26 (.aload_n 0) 1 27 := ⟨by decide +kernel, rfl⟩
theorem dd_M_nextToken_27 : ad_D mm_M_nextToken 27 (.aload_n 0) 1 28 := ⟨by decide +kernel, rfl⟩
theorem dd_M_nextToken_28 : ad_D mm_M_nextToken 28 (.getfield 241) 3 31 := ⟨by decide +kernel, rfl⟩
theorem dd_M_nextToken_31 : ad_D mm_M_nextToken 31 (.putfield 247) 3 34 := ⟨by decide +kernel, rfl⟩
theorem dd_M_nextToken_34 : ad_D mm_M_nextToken 34 (.aload_n 0) 1 35 := ⟨by decide +kernel, rfl⟩
theorem dd_M_nextToken_35 : ad_D mm_M_nextToken 35 (.aload_n 0) 1 36 := ⟨by decide +kernel, rfl⟩
theorem dd_M_nextToken_36 : ad_D mm_M_nextToken 36 (.getfield 241) 3 39 := ⟨by decide +kernel, rfl⟩
theorem dd_M_nextToken_39 : ad_D mm_M_nextToken 39 (.invokevirtual 244) 3 42 := ⟨by decide +kernel, rfl⟩
theorem dd_M_nextToken_42 : ad_D mm_M_nextToken 42 (.istore_n 1) 1 43 := ⟨by decide +kernel, rfl⟩
theorem dd_M_nextToken_43 : ad_D mm_M_nextToken 43 (.iload_n 1) 1 44 := ⟨by decide +kernel, rfl⟩
theorem dd_M_nextToken_44 : ad_D mm_M_nextToken 44 (.ifCond .ge 11) 3 47 := ⟨by decide +kernel, rfl⟩
theorem dd_M_nextToken_47 : ad_D mm_M_nextToken 47 (.aload_n 0) 1 48 := ⟨by decide +kernel, rfl⟩
theorem dd_M_nextToken_48 : ad_D mm_M_nextToken 48 (.iconst 0) 1 49 := ⟨by decide +kernel, rfl⟩
theorem dd_M_nextToken_49 : ad_D mm_M_nextToken 49 (.putfield 250) 3 52 := ⟨by decide +kernel, rfl⟩
theorem dd_M_nextToken_52 : ad_D mm_M_nextToken 52 (.goto 281) 3 55 := ⟨by decide +kernel, rfl⟩
theorem dd_M_nextToken_55 : ad_D mm_M_nextToken 55 (.iload_n 1) 1 56 := ⟨by decide +kernel, rfl⟩
theorem dd_M_nextToken_56 : ad_D mm_M_nextToken 56 (.invokestatic 253) 3 59 := ⟨by decide +kernel, rfl⟩
theorem dd_M_nextToken_59 : ad_D mm_M_nextToken 59 (.ifCond .eq 73) 3 62 := ⟨by decide +kernel, rfl⟩
theorem dd_M_nextToken_62 : ad_D mm_M_nextToken 62 (.aload_n 0) 1 63 := ⟨by decide +kernel, rfl⟩
theorem dd_M_nextToken_63 : ad_D mm_M_nextToken 63 (.iconst 1) 1 64 := ⟨by decide +kernel, rfl⟩
theorem dd_M_nextToken_64 : ad_D mm_M_nextToken 64 (.putfield 250) 3 67 := ⟨by decide +kernel, rfl⟩
theorem dd_M_nextToken_67 : ad_D mm_M_nextToken 67 (.aload_n 0) 1 68 := ⟨by decide +kernel, rfl⟩
theorem dd_M_nextToken_68 : ad_D mm_M_nextToken 68 (.iconst 0) 1 69 := ⟨by decide +kernel, rfl⟩
theorem dd_M_nextToken_69 : ad_D mm_M_nextToken 69 (.putfield 256) 3 72 := ⟨by decide +kernel, rfl⟩
theorem dd_M_nextToken_72 : ad_D mm_M_nextToken 72 (.aload_n 0) 1 73 := ⟨by decide +kernel, rfl⟩
theorem dd_M_nextToken_73 : ad_D mm_M_nextToken 73 (.aload_n 0) 1 74 := ⟨by decide +kernel, rfl⟩
theorem dd_M_nextToken_74 : ad_D mm_M_nextToken 74 (.getfield 241) 3 77 := ⟨by decide +kernel, rfl⟩
theorem dd_M_nextToken_77 : ad_D mm_M_nextToken 77 (.invokevirtual 244) 3 80 := ⟨by decide +kernel, rfl⟩
theorem dd_M_nextToken_80 : ad_D mm_M_nextToken 80 (.invokestatic 253) 3 83 := ⟨by decide +kernel, rfl⟩
theorem dd_M_nextToken_83 : ad_D mm_M_nextToken 83 (.ifCond .eq 250) 3 86 := ⟨by decide +kernel, rfl⟩
theorem dd_M_nextToken_86 : ad_D mm_M_nextToken 86 (.aload_n 0) 1 87 := ⟨by decide +kernel, rfl⟩
theorem dd_M_nextToken_87 : ad_D mm_M_nextToken 87 (.getfield 256) 3 90 := ⟨by decide +kernel, rfl⟩
theorem dd_M_nextToken_90 : ad_D mm_M_nextToken 90 (.ldc_w 259) 3 93 := ⟨by decide +kernel, rfl⟩
theorem dd_M_nextToken_93 : ad_D mm_M_nextToken 93 (.if_icmp .ge 26) 3 96 := ⟨by decide +kernel, rfl⟩
theorem dd_M_nextToken_96 : ad_D mm_M_nextToken 96 (.aload_n 0) 1 97 := ⟨by decide +kernel, rfl⟩
theorem dd_M_nextToken_97 : ad_D mm_M_nextToken 97 (.bipush 10) 2 99 := ⟨by decide +kernel, rfl⟩
theorem dd_M_nextToken_99 : ad_D mm_M_nextToken 99 (.aload_n 0) 1 100 := ⟨by decide +kernel, rfl⟩
theorem dd_M_nextToken_100 : ad_D mm_M_nextToken 100 (.getfield 256) 3 103 := ⟨by decide +kernel, rfl⟩
theorem dd_M_nextToken_103 : ad_D mm_M_nextToken 103 (.imul) 1 104 := ⟨by decide +kernel, rfl⟩
theorem dd_M_nextToken_104 : ad_D mm_M_nextToken 104 (.aload_n 0) 1 105 := ⟨by decide +kernel, rfl⟩
theorem dd_M_nextToken_105 : ad_D mm_M_nextToken 105 (.aload_n 0) 1 106 := ⟨by decide +kernel, rfl⟩
theorem dd_M_nextToken_106 : ad_D mm_M_nextToken 106 (.getfield 241) 3 109 := ⟨by decide +kernel, rfl⟩
theorem dd_M_nextToken_109 : ad_D mm_M_nextToken 109 (.invokevirtual 244) 3 112 := ⟨by decide +kernel, rfl⟩
theorem dd_M_nextToken_112 : ad_D mm_M_nextToken 112 (.iadd) 1 113 := ⟨by decide +kernel, rfl⟩
theorem dd_M_nextToken_113 : ad_D mm_M_nextToken 113 (.bipush 48) 2 115 := ⟨by decide +kernel, rfl⟩
theorem dd_M_nextToken_115 : ad_D mm_M_nextToken 115 (.isub) 1 116 := ⟨by decide +kernel, rfl⟩
theorem dd_M_nextToken_116 : ad_D mm_M_nextToken 116 (.putfield 256) 3 119 := ⟨by decide +kernel, rfl⟩
theorem dd_M_nextToken_119 : ad_D mm_M_nextToken 119 (.aload_n 0) 1 120 := ⟨by decide +kernel, rfl⟩
theorem dd_M_nextToken_120 : ad_D mm_M_nextToken 120 (.dup) 1 121 := ⟨by decide +kernel, rfl⟩
theorem dd_M_nextToken_121 : ad_D mm_M_nextToken 121 (.getfield 241) 3 124 := ⟨by decide +kernel, rfl⟩
theorem dd_M_nextToken_124 : ad_D mm_M_nextToken 124 (.iconst 1) 1 125 := ⟨by decide +kernel, rfl⟩
theorem dd_M_nextToken_125 : ad_D mm_M_nextToken 125 (.iadd) 1 126 := ⟨by decide +kernel, rfl⟩
theorem dd_M_nextToken_126 : ad_D mm_M_nextToken 126 (.putfield 241) 3 129 := ⟨by decide +kernel, rfl⟩
theorem dd_M_nextToken_129 : ad_D mm_M_nextToken 129 (.goto (-57)) 3 132 := ⟨by decide +kernel, rfl⟩
theorem dd_M_nextToken_132 : ad_D mm_M_nextToken 132 (.iload_n 1) 1 133 := ⟨by decide +kernel, rfl⟩
theorem dd_M_nextToken_133 : ad_D mm_M_nextToken 133 (.invokestatic 260) 3 136 := ⟨by decide +kernel, rfl⟩
theorem dd_M_nextToken_136 : ad_D mm_M_nextToken 136 (.ifCond .eq 136) 3 139 := ⟨by decide +kernel, rfl⟩
theorem dd_M_nextToken_139 : ad_D mm_M_nextToken 139 (.iconst 0) 1 140 := ⟨by decide +kernel, rfl⟩
theorem dd_M_nextToken_140 : ad_D mm_M_nextToken 140 (.istore_n 2) 1 141 := ⟨by decide +kernel, rfl⟩
theorem dd_M_nextToken_141 : ad_D mm_M_nextToken 141 (.aload_n 0) 1 142 := ⟨by decide +kernel, rfl⟩
theorem dd_M_nextToken_142 : ad_D mm_M_nextToken 142 (.aload_n 0) 1 143 := ⟨by decide +kernel, rfl⟩
theorem dd_M_nextToken_143 : ad_D mm_M_nextToken 143 (.getfield 241) 3 146 := ⟨by decide +kernel, rfl⟩
theorem dd_M_nextToken_146 : ad_D mm_M_nextToken 146 (.invokevirtual 244) 3 149 := ⟨by decide +kernel, rfl⟩
theorem dd_M_nextToken_149 : ad_D mm_M_nextToken 149 (.invokestatic 260) 3 152 := ⟨by decide +kernel, rfl⟩
theorem dd_M_nextToken_152 : ad_D mm_M_nextToken 152 (.ifCond .eq 43) 3 155 := ⟨by decide +kernel, rfl⟩
theorem dd_M_nextToken_155 : ad_D mm_M_nextToken 155 (.aload_n 0) 1 156 := ⟨by decide +kernel, rfl⟩
theorem dd_M_nextToken_156 : ad_D mm_M_nextToken 156 (.getfield 241) 3 159 := ⟨by decide +kernel, rfl⟩
theorem dd_M_nextToken_159 : ad_D mm_M_nextToken 159 (.aload_n 0) 1 160 := ⟨by decide +kernel, rfl⟩
theorem dd_M_nextToken_160 : ad_D mm_M_nextToken 160 (.getfield 247) 3 163 := ⟨by decide +kernel, rfl⟩
theorem dd_M_nextToken_163 : ad_D mm_M_nextToken 163 (.isub) 1 164 := ⟨by decide +kernel, rfl⟩
theorem dd_M_nextToken_164 : ad_D mm_M_nextToken 164 (.iconst 4) 1 165 := ⟨by decide +kernel, rfl⟩
theorem dd_M_nextToken_165 : ad_D mm_M_nextToken 165 (.if_icmp .ge 17) 3 168 := ⟨by decide +kernel, rfl⟩
theorem dd_M_nextToken_168 : ad_D mm_M_nextToken 168 (.iload_n 2) 1 169 := ⟨by decide +kernel, rfl⟩
theorem dd_M_nextToken_169 : ad_D mm_M_nextToken 169 (.bipush 7) 2 171 := ⟨by decide +kernel, rfl⟩
theorem dd_M_nextToken_171 : ad_D mm_M_nextToken 171 (.ishl) 1 172 := ⟨by decide +kernel, rfl⟩
theorem dd_M_nextToken_172 : ad_D mm_M_nextToken 172 (.aload_n 0) 1 173 := ⟨by decide +kernel, rfl⟩
theorem dd_M_nextToken_173 : ad_D mm_M_nextToken 173 (.aload_n 0) 1 174 := ⟨by decide +kernel, rfl⟩
theorem dd_M_nextToken_174 : ad_D mm_M_nextToken 174 (.getfield 241) 3 177 := ⟨by decide +kernel, rfl⟩
theorem dd_M_nextToken_177 : ad_D mm_M_nextToken 177 (.invokevirtual 244) 3 180 := ⟨by decide +kernel, rfl⟩
theorem dd_M_nextToken_180 : ad_D mm_M_nextToken 180 (.ior) 1 181 := ⟨by decide +kernel, rfl⟩
theorem dd_M_nextToken_181 : ad_D mm_M_nextToken 181 (.istore_n 2) 1 182 := ⟨by decide +kernel, rfl⟩
theorem dd_M_nextToken_182 : ad_D mm_M_nextToken 182 (.aload_n 0) 1 183 := ⟨by decide +kernel, rfl⟩
theorem dd_M_nextToken_183 : ad_D mm_M_nextToken 183 (.dup) 1 184 := ⟨by decide +kernel, rfl⟩
theorem dd_M_nextToken_184 : ad_D mm_M_nextToken 184 (.getfield 241) 3 187 := ⟨by decide +kernel, rfl⟩
theorem dd_M_nextToken_187 : ad_D mm_M_nextToken 187 (.iconst 1) 1 188 := ⟨by decide +kernel, rfl⟩
theorem dd_M_nextToken_188 : ad_D mm_M_nextToken 188 (.iadd) 1 189 := ⟨by decide +kernel, rfl⟩
theorem dd_M_nextToken_189 : ad_D mm_M_nextToken 189 (.putfield 241) 3 192 := ⟨by decide +kernel, rfl⟩
theorem dd_M_nextToken_192 : ad_D mm_M_nextToken 192 (.goto (-51)) 3 195 := ⟨by decide +kernel, rfl⟩
theorem dd_M_nextToken_195 : ad_D mm_M_nextToken 195 (.aload_n 0) 1 196 := ⟨by decide +kernel, rfl⟩
theorem dd_M_nextToken_196 : ad_D mm_M_nextToken 196 (.getfield 241) 3 199 := ⟨by decide +kernel, rfl⟩
theorem dd_M_nextToken_199 : ad_D mm_M_nextToken 199 (.aload_n 0) 1 200 := ⟨by decide +kernel, rfl⟩
theorem dd_M_nextToken_200 : ad_D mm_M_nextToken 200 (.getfield 247) 3 203 := ⟨by decide +kernel, rfl⟩
theorem dd_M_nextToken_203 : ad_D mm_M_nextToken 203 (.isub) 1 204 := ⟨by decide +kernel, rfl⟩
theorem dd_M_nextToken_204 : ad_D mm_M_nextToken 204 (.istore_n 3) 1 205 := ⟨by decide +kernel, rfl⟩
theorem dd_M_nextToken_205 : ad_D mm_M_nextToken 205 (.aload_n 0) 1 206 := ⟨by decide +kernel, rfl⟩
theorem dd_M_nextToken_206 : ad_D mm_M_nextToken 206 (.iload_n 1) 1 207 := ⟨by decide +kernel, rfl⟩
theorem dd_M_nextToken_207 : ad_D mm_M_nextToken 207 (.invokestatic 263) 3 210 := ⟨by decide +kernel, rfl⟩
theorem dd_M_nextToken_210 : ad_D mm_M_nextToken 210 (.putfield 256) 3 213 := ⟨by decide +kernel, rfl⟩
theorem dd_M_nextToken_213 : ad_D mm_M_nextToken 213 (.aload_n 0) 1 214 := ⟨by decide +kernel, rfl⟩
theorem dd_M_nextToken_214 : ad_D mm_M_nextToken 214 (.iload_n 3) 1 215 := ⟨by decide +kernel, rfl⟩
theorem dd_M_nextToken_215 : ad_D mm_M_nextToken 215 (.iconst 1) 1 216 := ⟨by decide +kernel, rfl⟩
theorem dd_M_nextToken_216 : ad_D mm_M_nextToken 216 (.if_icmp .ne 18) 3 219 := ⟨by decide +kernel, rfl⟩
theorem dd_M_nextToken_219 : ad_D mm_M_nextToken 219 (.aload_n 0) 1 220 := ⟨by decide +kernel, rfl⟩
theorem dd_M_nextToken_220 : ad_D mm_M_nextToken 220 (.getfield 256) 3 223 := ⟨by decide +kernel, rfl⟩
theorem dd_M_nextToken_223 : ad_D mm_M_nextToken 223 (.ifCond .ge 7) 3 226 := ⟨by decide +kernel, rfl⟩
theorem dd_M_nextToken_226 : ad_D mm_M_nextToken 226 (.iconst 5) 1 227 := ⟨by decide +kernel, rfl⟩
theorem dd_M_nextToken_227 : ad_D mm_M_nextToken 227 (.goto 39) 3 230 := ⟨by decide +kernel, rfl⟩
theorem dd_M_nextToken_230 : ad_D mm_M_nextToken 230 (.iconst 2) 1 231 := ⟨by decide +kernel, rfl⟩
theorem dd_M_nextToken_231 : ad_D mm_M_nextToken 231 (.goto 35) 3 234 := ⟨by decide +kernel, rfl⟩
theorem dd_M_nextToken_234 : ad_D mm_M_nextToken 234 (.iload_n 3) 1 235 := ⟨by decide +kernel, rfl⟩
theorem dd_M_nextToken_235 : ad_D mm_M_nextToken 235 (.iconst 3) 1 236 := ⟨by decide +kernel, rfl⟩
theorem dd_M_nextToken_236 : ad_D mm_M_nextToken 236 (.if_icmp .eq 7) 3 239 := ⟨by decide +kernel, rfl⟩
theorem dd_M_nextToken_239 : ad_D mm_M_nextToken 239 (.iconst 5) 1 240 := ⟨by decide +kernel, rfl⟩
theorem dd_M_nextToken_240 : ad_D mm_M_nextToken 240 (.goto 26) 3 243 := ⟨by decide +kernel, rfl⟩
theorem dd_M_nextToken_243 : ad_D mm_M_nextToken 243 (.iload_n 2) 1 244 := ⟨by decide +kernel, rfl⟩
theorem dd_M_nextToken_244 : ad_D mm_M_nextToken 244 (.ldc_w 266) 3 247 := ⟨by decide +kernel, rfl⟩
theorem dd_M_nextToken_247 : ad_D mm_M_nextToken 247 (.if_icmp .ne 7) 3 250 := ⟨by decide +kernel, rfl⟩
theorem dd_M_nextToken_250 : ad_D mm_M_nextToken 250 (.iconst 3) 1 251 := ⟨by decide +kernel, rfl⟩
theorem dd_M_nextToken_251 : ad_D mm_M_nextToken 251 (.goto 15) 3 254 := ⟨by decide +kernel, rfl⟩
theorem dd_M_nextToken_254 : ad_D mm_M_nextToken 254 (.iload_n 2) 1 255 := ⟨by decide +kernel, rfl⟩
theorem dd_M_nextToken_255 : ad_D mm_M_nextToken 255 (.ldc_w 267) 3 258 := ⟨by decide +kernel, rfl⟩
theorem dd_M_nextToken_258 : ad_D mm_M_nextToken 258 (.if_icmp .ne 7) 3 261 := ⟨by decide +kernel, rfl⟩
theorem dd_M_nextToken_261 : ad_D mm_M_nextToken 261 (.iconst 4) 1 262 := ⟨by decide +kernel, rfl⟩
theorem dd_M_nextToken_262 : ad_D mm_M_nextToken 262 (.goto 4) 3 265 := ⟨by decide +kernel, rfl⟩
theorem dd_M_nextToken_265 : ad_D mm_M_nextToken 265 (.iconst 5) 1 266 := ⟨by decide +kernel, rfl⟩
theorem dd_M_nextToken_266 : ad_D mm_M_nextToken 266 (.putfield 250) 3 269 := ⟨by decide +kernel, rfl⟩
theorem dd_M_nextToken_269 : ad_D mm_M_nextToken 269 (.goto 64) 3 272 := ⟨by decide +kernel, rfl⟩
theorem dd_M_nextToken_272 : ad_D mm_M_nextToken 272 (.aload_n 0) 1 273 := ⟨by decide +kernel, rfl⟩
theorem dd_M_nextToken_273 : ad_D mm_M_nextToken 273 (.iload_n 1) 1 274 := ⟨by decide +kernel, rfl⟩
theorem dd_M_nextToken_274 : ad_D mm_M_nextToken 274 (.bipush 43) 2 276 := ⟨by decide +kernel, rfl⟩
theorem dd_M_nextToken_276 : ad_D mm_M_nextToken 276 (.if_icmp .eq 39) 3 279 := ⟨by decide +kernel, rfl⟩
theorem dd_M_nextToken_279 : ad_D mm_M_nextToken 279 (.iload_n 1) 1 280 := ⟨by decide +kernel, rfl⟩
theorem dd_M_nextToken_280 : ad_D mm_M_nextToken 280 (.bipush 45) 2 282 := ⟨by decide +kernel, rfl⟩
theorem dd_M_nextToken_282 : ad_D mm_M_nextToken 282 (.if_icmp .eq 33) 3 285 := ⟨by decide +kernel, rfl⟩
theorem dd_M_nextToken_285 : ad_D mm_M_nextToken 285 (.iload_n 1) 1 286 := ⟨by decide +kernel, rfl⟩
theorem dd_M_nextToken_286 : ad_D mm_M_nextToken 286 (.bipush 42) 2 288 := ⟨by decide +kernel, rfl⟩
theorem dd_M_nextToken_288 : ad_D mm_M_nextToken 288 (.if_icmp .eq 27) 3 291 := ⟨by decide +kernel, rfl⟩
theorem dd_M_nextToken_291 : ad_D mm_M_nextToken 291 (.iload_n 1) 1 292 := ⟨by decide +kernel, rfl⟩
theorem dd_M_nextToken_292 : ad_D mm_M_nextToken 292 (.bipush 47) 2 294 := ⟨by decide +kernel, rfl⟩
theorem dd_M_nextToken_294 : ad_D mm_M_nextToken 294 (.if_icmp .eq 21) 3 297 := ⟨by decide +kernel, rfl⟩
theorem dd_M_nextToken_297 : ad_D mm_M_nextToken 297 (.iload_n 1) 1 298 := ⟨by decide +kernel, rfl⟩
theorem dd_M_nextToken_298 : ad_D mm_M_nextToken 298 (.bipush 40) 2 300 := ⟨by decide +kernel, rfl⟩
theorem dd_M_nextToken_300 : ad_D mm_M_nextToken 300 (.if_icmp .eq 15) 3 303 := ⟨by decide +kernel, rfl⟩
theorem dd_M_nextToken_303 : ad_D mm_M_nextToken 303 (.iload_n 1) 1 304 := ⟨by decide +kernel, rfl⟩
theorem dd_M_nextToken_304 : ad_D mm_M_nextToken 304 (.bipush 41) 2 306 := ⟨by decide +kernel, rfl⟩
theorem dd_M_nextToken_306 : ad_D mm_M_nextToken 306 (.if_icmp .eq 9) 3 309 := ⟨by decide +kernel, rfl⟩
theorem dd_M_nextToken_309 : ad_D mm_M_nextToken 309 (.iload_n 1) 1 310 := ⟨by decide +kernel, rfl⟩
theorem dd_M_nextToken_310 : ad_D mm_M_nextToken 310 (.bipush 44) 2 312 := ⟨by decide +kernel, rfl⟩
theorem dd_M_nextToken_312 : ad_D mm_M_nextToken 312 (.if_icmp .ne 7) 3 315 := ⟨by decide +kernel, rfl⟩
theorem dd_M_nextToken_315 : ad_D mm_M_nextToken 315 (.iload_n 1) 1 316 := ⟨by decide +kernel, rfl⟩
theorem dd_M_nextToken_316 : ad_D mm_M_nextToken 316 (.goto 4) 3 319 := ⟨by decide +kernel, rfl⟩
theorem dd_M_nextToken_319 : ad_D mm_M_nextToken 319 (.iconst 5) 1 320 := ⟨by decide +kernel, rfl⟩
theorem dd_M_nextToken_320 : ad_D mm_M_nextToken 320 (.putfield 250) 3 323 := ⟨by decide +kernel, rfl⟩
theorem dd_M_nextToken_323 : ad_D mm_M_nextToken 323 (.aload_n 0) 1 324 := ⟨by decide +kernel, rfl⟩
theorem dd_M_nextToken_324 : ad_D mm_M_nextToken 324 (.dup) 1 325 := ⟨by decide +kernel, rfl⟩
theorem dd_M_nextToken_325 : ad_D mm_M_nextToken 325 (.getfield 241) 3 328 := ⟨by decide +kernel, rfl⟩
theorem dd_M_nextToken_328 : ad_D mm_M_nextToken 328 (.iconst 1) 1 329 := ⟨by decide +kernel, rfl⟩
theorem dd_M_nextToken_329 : ad_D mm_M_nextToken 329 (.iadd) 1 330 := ⟨by decide +kernel, rfl⟩
theorem dd_M_nextToken_330 : ad_D mm_M_nextToken 330 (.putfield 241) 3 333 := ⟨by decide +kernel, rfl⟩
theorem dd_M_nextToken_333 : ad_D mm_M_nextToken 333 (.return_) 1 334 := ⟨by decide +kernel, rfl⟩
theorem dd_M_see_0 : ad_D mm_M_see 0 (.iload_n 1) 1 1 := ⟨by decide +kernel, rfl⟩
theorem dd_M_see_1 : ad_D mm_M_see 1 (.aload_n 0) 1 2 := ⟨by decide +kernel, rfl⟩
theorem dd_M_see_2 : ad_D mm_M_see 2 (.getfield 235) 3 5 := ⟨by decide +kernel, rfl⟩
theorem dd_M_see_5 : ad_D mm_M_see 5 (.if_icmp .ge 12) 3 8 := ⟨by decide +kernel, rfl⟩
theorem dd_M_see_8 : ad_D mm_M_see 8 (.aload_n 0) 1 9 := ⟨by decide +kernel, rfl⟩
theorem dd_M_see_9 : ad_D mm_M_see 9 (.getfield 116) 3 12 := ⟨by decide +kernel, rfl⟩
theorem dd_M_see_12 : ad_D mm_M_see 12 (.iload_n 1) 1 13 := ⟨by decide +kernel, rfl⟩
theorem dd_M_see_13 : ad_D mm_M_see 13 (.iaload) 1 14 := ⟨by decide +kernel, rfl⟩
theorem dd_M_see_14 : ad_D mm_M_see 14 (.goto 4) 3 17 := ⟨by decide +kernel, rfl⟩
theorem dd_M_see_17 : ad_D mm_M_see 17 (.iconst (-1)) 1 18 := ⟨by decide +kernel, rfl⟩
theorem dd_M_see_18 : ad_D mm_M_see 18 (.ireturn) 1 19 := ⟨by decide +kernel, rfl⟩
theorem dd_M_isDigit_0 : ad_D mm_M_isDigit 0 (.iload_n 0) 1 1 := ⟨by decide +kernel, rfl⟩
theorem dd_M_isDigit_1 : ad_D mm_M_isDigit 1 (.bipush 48) 2 3 := ⟨by decide +kernel, rfl⟩
theorem dd_M_isDigit_3 : ad_D mm_M_isDigit 3 (.bipush 57) 2 5 := ⟨by decide +kernel, rfl⟩
theorem dd_M_isDigit_5 : ad_D mm_M_isDigit 5 (.invokestatic 155) 3 8 := ⟨by decide +kernel, rfl⟩
theorem dd_M_isDigit_8 : ad_D mm_M_isDigit 8 (.ireturn) 1 9 := ⟨by decide +kernel, rfl⟩
theorem dd_M_isLetter_0 : ad_D mm_M_isLetter 0 (.iload_n 0) 1 1 := ⟨by decide +kernel, rfl⟩
theorem dd_M_isLetter_1 : ad_D mm_M_isLetter 1 (.bipush 97) 2 3 := ⟨by decide +kernel, rfl⟩
theorem dd_M_isLetter_3 : ad_D mm_M_isLetter 3 (.bipush 122) 2 5 := ⟨by decide +kernel, rfl⟩
theorem dd_M_isLetter_5 : ad_D mm_M_isLetter 5 (.invokestatic 155) 3 8 := ⟨by decide +kernel, rfl⟩
theorem dd_M_isLetter_8 : ad_D mm_M_isLetter 8 (.ifCond .ne 14) 3 11 := ⟨by decide +kernel, rfl⟩
theorem dd_M_isLetter_11 : ad_D mm_M_isLetter 11 (.iload_n 0) 1 12 := ⟨by decide +kernel, rfl⟩
theorem dd_M_isLetter_12 : ad_D mm_M_isLetter 12 (.bipush 65) 2 14 := ⟨by decide +kernel, rfl⟩
theorem dd_M_isLetter_14 : ad_D mm_M_isLetter 14 (.bipush 90) 2 16 := ⟨by decide +kernel, rfl⟩
theorem dd_M_isLetter_16 : ad_D mm_M_isLetter 16 (.invokestatic 155) 3 19 := ⟨by decide +kernel, rfl⟩
theorem dd_M_isLetter_19 : ad_D mm_M_isLetter 19 (.ifCond .eq 7) 3 22 := ⟨by decide +kernel, rfl⟩
theorem dd_M_isLetter_22 : ad_D mm_M_isLetter 22 (.iconst 1) 1 23 := ⟨by decide +kernel, rfl⟩
theorem dd_M_isLetter_23 : ad_D mm_M_isLetter 23 (.goto 4) 3 26 := ⟨by decide +kernel, rfl⟩
theorem dd_M_isLetter_26 : ad_D mm_M_isLetter 26 (.iconst 0) 1 27 := ⟨by decide +kernel, rfl⟩
theorem dd_M_isLetter_27 : ad_D mm_M_isLetter 27 (.ireturn) 1 28 := ⟨by decide +kernel, rfl⟩
theorem dd_M_letterOf_0 : ad_D mm_M_letterOf 0 (.iload_n 0) 1 1 := ⟨by decide +kernel, rfl⟩
theorem dd_M_letterOf_1 : ad_D mm_M_letterOf 1 (.bipush 116) 2 3 := ⟨by decide +kernel, rfl⟩
theorem dd_M_letterOf_3 : ad_D mm_M_letterOf 3 (.if_icmp .ne 7) 3 6 := ⟨by decide +kernel, rfl⟩
theorem dd_M_letterOf_6 : ad_D mm_M_letterOf 6 (.iconst 0) 1 7 := ⟨by decide +kernel, rfl⟩
theorem dd_M_letterOf_7 : ad_D mm_M_letterOf 7 (.goto 44) 3 10 := ⟨by decide +kernel, rfl⟩
theorem dd_M_letterOf_10 : ad_D mm_M_letterOf 10 (.iload_n 0) 1 11 := ⟨by decide +kernel, rfl⟩
theorem dd_M_letterOf_11 : ad_D mm_M_letterOf 11 (.bipush 115) 2 13 := ⟨by decide +kernel, rfl⟩
theorem dd_M_letterOf_13 : ad_D mm_M_letterOf 13 (.if_icmp .ne 7) 3 16 := ⟨by decide +kernel, rfl⟩
theorem dd_M_letterOf_16 : ad_D mm_M_letterOf 16 (.iconst 1) 1 17 := ⟨by decide +kernel, rfl⟩
theorem dd_M_letterOf_17 : ad_D mm_M_letterOf 17 (.goto 34) 3 20 := ⟨by decide +kernel, rfl⟩
theorem dd_M_letterOf_20 : ad_D mm_M_letterOf 20 (.iload_n 0) 1 21 := ⟨by decide +kernel, rfl⟩
theorem dd_M_letterOf_21 : ad_D mm_M_letterOf 21 (.bipush 109) 2 23 := ⟨by decide +kernel, rfl⟩
theorem dd_M_letterOf_23 : ad_D mm_M_letterOf 23 (.if_icmp .ne 7) 3 26 := ⟨by decide +kernel, rfl⟩
theorem dd_M_letterOf_26 : ad_D mm_M_letterOf 26 (.iconst 2) 1 27 := ⟨by decide +kernel, rfl⟩
theorem dd_M_letterOf_27 : ad_D mm_M_letterOf 27 (.goto 24) 3 30 := ⟨by decide +kernel, rfl⟩
theorem dd_M_letterOf_30 : ad_D mm_M_letterOf 30 (.iload_n 0) 1 31 := ⟨by decide +kernel, rfl⟩
theorem dd_M_letterOf_31 : ad_D mm_M_letterOf 31 (.bipush 98) 2 33 := ⟨by decide +kernel, rfl⟩
theorem dd_M_letterOf_33 : ad_D mm_M_letterOf 33 (.if_icmp .ne 7) 3 36 := ⟨by decide +kernel, rfl⟩
theorem dd_M_letterOf_36 : ad_D mm_M_letterOf 36 (.iconst 3) 1 37 := ⟨by decide +kernel, rfl⟩
theorem dd_M_letterOf_37 : ad_D mm_M_letterOf 37 (.goto 14) 3 40 := ⟨by decide +kernel, rfl⟩
theorem dd_M_letterOf_40 : ad_D mm_M_letterOf 40 (.iload_n 0) 1 41 := ⟨by decide +kernel, rfl⟩
theorem dd_M_letterOf_41 : ad_D mm_M_letterOf 41 (.bipush 104) 2 43 := ⟨by decide +kernel, rfl⟩
theorem dd_M_letterOf_43 : ad_D mm_M_letterOf 43 (.if_icmp .ne 7) 3 46 := ⟨by decide +kernel, rfl⟩
theorem dd_M_letterOf_46 : ad_D mm_M_letterOf 46 (.iconst 4) 1 47 := ⟨by decide +kernel, rfl⟩
theorem dd_M_letterOf_47 : ad_D mm_M_letterOf 47 (.goto 4) 3 50 := ⟨by decide +kernel, rfl⟩
theorem dd_M_letterOf_50 : ad_D mm_M_letterOf 50 (.iconst (-1)) 1 51 := ⟨by decide +kernel, rfl⟩
theorem dd_M_letterOf_51 : ad_D mm_M_letterOf 51 (.ireturn) 1 52 := ⟨by decide +kernel, rfl⟩
theorem dd_M_behind_0 : ad_D mm_M_behind 0 (.aload_n 0) 1 1 := ⟨by decide +kernel, rfl⟩
theorem dd_M_behind_1 : ad_D mm_M_behind 1 (.getfield 250) 3 4 := ⟨by decide +kernel, rfl⟩
theorem dd_M_behind_4 : ad_D mm_M_behind 4 (.istore_n 1) 1 5 := ⟨by decide +kernel, rfl⟩
theorem dd_M_behind_5 : ad_D mm_M_behind 5 (.iload_n 1) 1 6 := ⟨by decide +kernel, rfl⟩
theorem dd_M_behind_6 : ad_D mm_M_behind 6 (.bipush 43) 2 8 := ⟨by decide +kernel, rfl⟩
theorem dd_M_behind_8 : ad_D mm_M_behind 8 (.if_icmp .eq 9) 3 11 := ⟨by decide +kernel, rfl⟩
theorem dd_M_behind_11 : ad_D mm_M_behind 11 (.iload_n 1) 1 12 := ⟨by decide +kernel, rfl⟩
theorem dd_M_behind_12 : ad_D mm_M_behind 12 (.bipush 45) 2 14 := ⟨by decide +kernel, rfl⟩
theorem dd_M_behind_14 : ad_D mm_M_behind 14 (.if_icmp .ne 31) 3 17 := ⟨by decide +kernel, rfl⟩
theorem dd_M_behind_17 : ad_D mm_M_behind 17 (.aload_n 0) 1 18 := ⟨by decide +kernel, rfl⟩
theorem dd_M_behind_18 : ad_D mm_M_behind 18 (.iconst 3) 1 19 := ⟨by decide +kernel, rfl⟩
theorem dd_M_behind_19 : ad_D mm_M_behind 19 (.invokevirtual 294) 3 22 := ⟨by decide +kernel, rfl⟩
theorem dd_M_behind_22 : ad_D mm_M_behind 22 (.aload_n 0) 1 23 := ⟨by decide +kernel, rfl⟩
theorem dd_M_behind_23 : ad_D mm_M_behind 23 (.iload_n 1) 1 24 := ⟨by decide +kernel, rfl⟩
theorem dd_M_behind_24 : ad_D mm_M_behind 24 (.bipush 43) 2 26 := ⟨by decide +kernel, rfl⟩
theorem dd_M_behind_26 : ad_D mm_M_behind 26 (.if_icmp .ne 7) 3 29 := ⟨by decide +kernel, rfl⟩
theorem dd_M_behind_29 : ad_D mm_M_behind 29 (.iconst 3) 1 30 := ⟨by decide +kernel, rfl⟩
theorem dd_M_behind_30 : ad_D mm_M_behind 30 (.goto 4) 3 33 := ⟨by decide +kernel, rfl⟩
theorem dd_M_behind_33 : ad_D mm_M_behind 33 (.iconst 4) 1 34 := ⟨by decide +kernel, rfl⟩
theorem dd_M_behind_34 : ad_D mm_M_behind 34 (.invokevirtual 291) 3 37 := ⟨by decide +kernel, rfl⟩
theorem dd_M_behind_37 : ad_D mm_M_behind 37 (.aload_n 0) 1 38 := ⟨by decide +kernel, rfl⟩
theorem dd_M_behind_38 : ad_D mm_M_behind 38 (.iconst 0) 1 39 := ⟨by decide +kernel, rfl⟩
theorem dd_M_behind_39 : ad_D mm_M_behind 39 (.putfield 284) 3 42 := ⟨by decide +kernel, rfl⟩
theorem dd_M_behind_42 : ad_D mm_M_behind 42 (.goto 240) 3 45 := ⟨by decide +kernel, rfl⟩
theorem dd_M_behind_45 : ad_D mm_M_behind 45 (.iload_n 1) 1 46 := ⟨by decide +kernel, rfl⟩
theorem dd_M_behind_46 : ad_D mm_M_behind 46 (.bipush 42) 2 48 := ⟨by decide +kernel, rfl⟩
theorem dd_M_behind_48 : ad_D mm_M_behind 48 (.if_icmp .eq 9) 3 51 := ⟨by decide +kernel, rfl⟩
theorem dd_M_behind_51 : ad_D mm_M_behind 51 (.iload_n 1) 1 52 := ⟨by decide +kernel, rfl⟩
theorem dd_M_behind_52 : ad_D mm_M_behind 52 (.bipush 47) 2 54 := ⟨by decide +kernel, rfl⟩
theorem dd_M_behind_54 : ad_D mm_M_behind 54 (.if_icmp .ne 32) 3 57 := ⟨by decide +kernel, rfl⟩
theorem dd_M_behind_57 : ad_D mm_M_behind 57 (.aload_n 0) 1 58 := ⟨by decide +kernel, rfl⟩
theorem dd_M_behind_58 : ad_D mm_M_behind 58 (.iconst 5) 1 59 := ⟨by decide +kernel, rfl⟩
theorem dd_M_behind_59 : ad_D mm_M_behind 59 (.invokevirtual 294) 3 62 := ⟨by decide +kernel, rfl⟩
theorem dd_M_behind_62 : ad_D mm_M_behind 62 (.aload_n 0) 1 63 := ⟨by decide +kernel, rfl⟩
theorem dd_M_behind_63 : ad_D mm_M_behind 63 (.iload_n 1) 1 64 := ⟨by decide +kernel, rfl⟩
theorem dd_M_behind_64 : ad_D mm_M_behind 64 (.bipush 42) 2 66 := ⟨by decide +kernel, rfl⟩
theorem dd_M_behind_66 : ad_D mm_M_behind 66 (.if_icmp .ne 7) 3 69 := ⟨by decide +kernel, rfl⟩
theorem dd_M_behind_69 : ad_D mm_M_behind 69 (.iconst 5) 1 70 := ⟨by decide +kernel, rfl⟩
theorem dd_M_behind_70 : ad_D mm_M_behind 70 (.goto 5) 3 73 := ⟨by decide +kernel, rfl⟩
theorem dd_M_behind_73 : ad_D mm_M_behind 73 (.bipush 6) 2 75 := ⟨by decide +kernel, rfl⟩
theorem dd_M_behind_75 : ad_D mm_M_behind 75 (.invokevirtual 291) 3 78 := ⟨by decide +kernel, rfl⟩
theorem dd_M_behind_78 : ad_D mm_M_behind 78 (.aload_n 0) 1 79 := ⟨by decide +kernel, rfl⟩
theorem dd_M_behind_79 : ad_D mm_M_behind 79 (.iconst 0) 1 80 := ⟨by decide +kernel, rfl⟩
theorem dd_M_behind_80 : ad_D mm_M_behind 80 (.putfield 284) 3 83 := ⟨by decide +kernel, rfl⟩
theorem dd_M_behind_83 : ad_D mm_M_behind 83 (.goto 199) 3 86 := ⟨by decide +kernel, rfl⟩
theorem dd_M_behind_86 : ad_D mm_M_behind 86 (.iload_n 1) 1 87 := ⟨by decide +kernel, rfl⟩
theorem dd_M_behind_87 : ad_D mm_M_behind 87 (.bipush 44) 2 89 := ⟨by decide +kernel, rfl⟩
theorem dd_M_behind_89 : ad_D mm_M_behind 89 (.if_icmp .ne 72) 3 92 := ⟨by decide +kernel, rfl⟩
theorem dd_M_behind_92 : ad_D mm_M_behind 92 (.aload_n 0) 1 93 := ⟨by decide +kernel, rfl⟩
theorem dd_M_behind_93 : ad_D mm_M_behind 93 (.iconst 3) 1 94 := ⟨by decide +kernel, rfl⟩
theorem dd_M_behind_94 : ad_D mm_M_behind 94 (.invokevirtual 294) 3 97 := ⟨by decide +kernel, rfl⟩
theorem dd_M_behind_97 : ad_D mm_M_behind 97 (.aload_n 0) 1 98 := ⟨by decide +kernel, rfl⟩
theorem dd_M_behind_98 : ad_D mm_M_behind 98 (.getfield 271) 3 101 := ⟨by decide +kernel, rfl⟩
theorem dd_M_behind_101 : ad_D mm_M_behind 101 (.ifCond .eq 35) 3 104 := ⟨by decide +kernel, rfl⟩
theorem dd_M_behind_104 : ad_D mm_M_behind 104 (.aload_n 0) 1 105 := ⟨by decide +kernel, rfl⟩
theorem dd_M_behind_105 : ad_D mm_M_behind 105 (.getfield 131) 3 108 := ⟨by decide +kernel, rfl⟩
theorem dd_M_behind_108 : ad_D mm_M_behind 108 (.aload_n 0) 1 109 := ⟨by decide +kernel, rfl⟩
theorem dd_M_behind_109 : ad_D mm_M_behind 109 (.getfield 271) 3 112 := ⟨by decide +kernel, rfl⟩
theorem dd_M_behind_112 : ad_D mm_M_behind 112 (.iconst 1) 1 113 := ⟨by decide +kernel, rfl⟩
theorem dd_M_behind_113 : ad_D mm_M_behind 113 (.isub) 1 114 := ⟨by decide +kernel, rfl⟩
theorem dd_M_behind_114 : ad_D mm_M_behind 114 (.iaload) 1 115 := ⟨by decide +kernel, rfl⟩
theorem dd_M_behind_115 : ad_D mm_M_behind 115 (.bipush 21) 2 117 := ⟨by decide +kernel, rfl⟩
theorem dd_M_behind_117 : ad_D mm_M_behind 117 (.if_icmp .eq 21) 3 120 := ⟨by decide +kernel, rfl⟩
theorem dd_M_behind_120 : ad_D mm_M_behind 120 (.aload_n 0) 1 121 := ⟨by decide +kernel, rfl⟩
theorem dd_M_behind_121 : ad_D mm_M_behind 121 (.getfield 131) 3 124 := ⟨by decide +kernel, rfl⟩
theorem dd_M_behind_124 : ad_D mm_M_behind 124 (.aload_n 0) 1 125 := ⟨by decide +kernel, rfl⟩
theorem dd_M_behind_125 : ad_D mm_M_behind 125 (.getfield 271) 3 128 := ⟨by decide +kernel, rfl⟩
theorem dd_M_behind_128 : ad_D mm_M_behind 128 (.iconst 1) 1 129 := ⟨by decide +kernel, rfl⟩
theorem dd_M_behind_129 : ad_D mm_M_behind 129 (.isub) 1 130 := ⟨by decide +kernel, rfl⟩
theorem dd_M_behind_130 : ad_D mm_M_behind 130 (.iaload) 1 131 := ⟨by decide +kernel, rfl⟩
theorem dd_M_behind_131 : ad_D mm_M_behind 131 (.bipush 22) 2 133 := ⟨by decide +kernel, rfl⟩
theorem dd_M_behind_133 : ad_D mm_M_behind 133 (.if_icmp .eq 5) 3 136 := ⟨by decide +kernel, rfl⟩
theorem dd_M_behind_136 : ad_D mm_M_behind 136 (.iconst 1) 1 137 := ⟨by decide +kernel, rfl⟩
theorem dd_M_behind_137 : ad_D mm_M_behind 137 (.ireturn) 1 138 := ⟨by decide +kernel, rfl⟩
theorem dd_M_behind_138 : ad_D mm_M_behind 138 (.aload_n 0) 1 139 := ⟨by decide +kernel, rfl⟩
theorem dd_M_behind_139 : ad_D mm_M_behind 139 (.getfield 131) 3 142 := ⟨by decide +kernel, rfl⟩
theorem dd_M_behind_142 : ad_D mm_M_behind 142 (.aload_n 0) 1 143 := ⟨by decide +kernel, rfl⟩
theorem dd_M_behind_143 : ad_D mm_M_behind 143 (.getfield 271) 3 146 := ⟨by decide +kernel, rfl⟩
theorem dd_M_behind_146 : ad_D mm_M_behind 146 (.iconst 1) 1 147 := ⟨by decide +kernel, rfl⟩
theorem dd_M_behind_147 : ad_D mm_M_behind 147 (.isub) 1 148 := ⟨by decide +kernel, rfl⟩
theorem dd_M_behind_148 : ad_D mm_M_behind 148 (.dup2) 1 149 := ⟨by decide +kernel, rfl⟩
theorem dd_M_behind_149 : ad_D mm_M_behind 149 (.iaload) 1 150 := ⟨by decide +kernel, rfl⟩
theorem dd_M_behind_150 : ad_D mm_M_behind 150 (.iconst 2) 1 151 := ⟨by decide +kernel, rfl⟩
theorem dd_M_behind_151 : ad_D mm_M_behind 151 (.iadd) 1 152 := ⟨by decide +kernel, rfl⟩
theorem dd_M_behind_152 : ad_D mm_M_behind 152 (.iastore) 1 153 := ⟨by decide +kernel, rfl⟩
theorem dd_M_behind_153 : ad_D mm_M_behind 153 (.aload_n 0) 1 154 := ⟨by decide +kernel, rfl⟩
theorem dd_M_behind_154 : ad_D mm_M_behind 154 (.iconst 0) 1 155 := ⟨by decide +kernel, rfl⟩
theorem dd_M_behind_155 : ad_D mm_M_behind 155 (.putfield 284) 3 158 := ⟨by decide +kernel, rfl⟩
theorem dd_M_behind_158 : ad_D mm_M_behind 158 (.goto 124) 3 161 := ⟨by decide +kernel, rfl⟩
theorem dd_M_behind_161 : ad_D mm_M_behind 161 (.iload_n 1) 1 162 := ⟨by decide +kernel, rfl⟩
theorem dd_M_behind_162 : ad_D mm_M_behind 162 (.bipush 41) 2 164 := ⟨by decide +kernel, rfl⟩
theorem dd_M_behind_164 : ad_D mm_M_behind 164 (.if_icmp .ne 116) 3 167 := ⟨by decide +kernel, rfl⟩
theorem dd_M_behind_167 : ad_D mm_M_behind 167 (.aload_n 0) 1 168 := ⟨by decide +kernel, rfl⟩
theorem dd_M_behind_168 : ad_D mm_M_behind 168 (.iconst 3) 1 169 := ⟨by decide +kernel, rfl⟩
theorem dd_M_behind_169 : ad_D mm_M_behind 169 (.invokevirtual 294) 3 172 := ⟨by decide +kernel, rfl⟩
theorem dd_M_behind_172 : ad_D mm_M_behind 172 (.aload_n 0) 1 173 := ⟨by decide +kernel, rfl⟩
theorem dd_M_behind_173 : ad_D mm_M_behind 173 (.getfield 271) 3 176 := ⟨by decide +kernel, rfl⟩
theorem dd_M_behind_176 : ad_D mm_M_behind 176 (.ifCond .eq 35) 3 179 := ⟨by decide +kernel, rfl⟩
theorem dd_M_behind_179 : ad_D mm_M_behind 179 (.aload_n 0) 1 180 := ⟨by decide +kernel, rfl⟩
theorem dd_M_behind_180 : ad_D mm_M_behind 180 (.getfield 131) 3 183 := ⟨by decide +kernel, rfl⟩
theorem dd_M_behind_183 : ad_D mm_M_behind 183 (.aload_n 0) 1 184 := ⟨by decide +kernel, rfl⟩
theorem dd_M_behind_184 : ad_D mm_M_behind 184 (.getfield 271) 3 187 := ⟨by decide +kernel, rfl⟩
theorem dd_M_behind_187 : ad_D mm_M_behind 187 (.iconst 1) 1 188 := ⟨by decide +kernel, rfl⟩
theorem dd_M_behind_188 : ad_D mm_M_behind 188 (.isub) 1 189 := ⟨by decide +kernel, rfl⟩
theorem dd_M_behind_189 : ad_D mm_M_behind 189 (.iaload) 1 190 := ⟨by decide +kernel, rfl⟩
theorem dd_M_behind_190 : ad_D mm_M_behind 190 (.bipush 21) 2 192 := ⟨by decide +kernel, rfl⟩
theorem dd_M_behind_192 : ad_D mm_M_behind 192 (.if_icmp .eq 19) 3 195 := ⟨by decide +kernel, rfl⟩
theorem dd_M_behind_195 : ad_D mm_M_behind 195 (.aload_n 0) 1 196 := ⟨by decide +kernel, rfl⟩
theorem dd_M_behind_196 : ad_D mm_M_behind 196 (.getfield 131) 3 199 := ⟨by decide +kernel, rfl⟩
theorem dd_M_behind_199 : ad_D mm_M_behind 199 (.aload_n 0) 1 200 := ⟨by decide +kernel, rfl⟩
theorem dd_M_behind_200 : ad_D mm_M_behind 200 (.getfield 271) 3 203 := ⟨by decide +kernel, rfl⟩
theorem dd_M_behind_203 : ad_D mm_M_behind 203 (.iconst 1) 1 204 := ⟨by decide +kernel, rfl⟩
theorem dd_M_behind_204 : ad_D mm_M_behind 204 (.isub) 1 205 := ⟨by decide +kernel, rfl⟩
theorem dd_M_behind_205 : ad_D mm_M_behind 205 (.iaload) 1 206 := ⟨by decide +kernel, rfl⟩
theorem dd_M_behind_206 : ad_D mm_M_behind 206 (.bipush 22) 2 208 := ⟨by decide +kernel, rfl⟩
theorem dd_M_behind_208 : ad_D mm_M_behind 208 (.if_icmp .ne 5) 3 211 := ⟨by decide +kernel, rfl⟩
theorem dd_M_behind_211 : ad_D mm_M_behind 211 (.iconst 1) 1 212 := ⟨by decide +kernel, rfl⟩
theorem dd_M_behind_212 : ad_D mm_M_behind 212 (.ireturn) 1 213 := ⟨by decide +kernel, rfl⟩
theorem dd_M_behind_213 : ad_D mm_M_behind 213 (.aload_n 0) 1 214 := ⟨by decide +kernel, rfl⟩
theorem dd_M_behind_214 : ad_D mm_M_behind 214 (.dup) 1 215 := ⟨by decide +kernel, rfl⟩
theorem dd_M_behind_215 : ad_D mm_M_behind 215 (.getfield 271) 3 218 := ⟨by decide +kernel, rfl⟩
theorem dd_M_behind_218 : ad_D mm_M_behind 218 (.iconst 1) 1 219 := ⟨by decide +kernel, rfl⟩
theorem dd_M_behind_219 : ad_D mm_M_behind 219 (.isub) 1 220 := ⟨by decide +kernel, rfl⟩
theorem dd_M_behind_220 : ad_D mm_M_behind 220 (.putfield 271) 3 223 := ⟨by decide +kernel, rfl⟩
theorem dd_M_behind_223 : ad_D mm_M_behind 223 (.aload_n 0) 1 224 := ⟨by decide +kernel, rfl⟩
theorem dd_M_behind_224 : ad_D mm_M_behind 224 (.dup) 1 225 := ⟨by decide +kernel, rfl⟩
theorem dd_M_behind_225 : ad_D mm_M_behind 225 (.getfield 274) 3 228 := ⟨by decide +kernel, rfl⟩
theorem dd_M_behind_228 : ad_D mm_M_behind 228 (.iconst 1) 1 229 := ⟨by decide +kernel, rfl⟩
theorem dd_M_behind_229 : ad_D mm_M_behind 229 (.isub) 1 230 := ⟨by decide +kernel, rfl⟩
theorem dd_M_behind_230 : ad_D mm_M_behind 230 (.putfield 274) 3 233 := ⟨by decide +kernel, rfl⟩
theorem dd_M_behind_233 : ad_D mm_M_behind 233 (.aload_n 0) 1 234 := ⟨by decide +kernel, rfl⟩
theorem dd_M_behind_234 : ad_D mm_M_behind 234 (.getfield 131) 3 237 := ⟨by decide +kernel, rfl⟩
theorem dd_M_behind_237 : ad_D mm_M_behind 237 (.aload_n 0) 1 238 := ⟨by decide +kernel, rfl⟩
theorem dd_M_behind_238 : ad_D mm_M_behind 238 (.getfield 271) 3 241 := ⟨by decide +kernel, rfl⟩
theorem dd_M_behind_241 : ad_D mm_M_behind 241 (.iaload) 1 242 := ⟨by decide +kernel, rfl⟩
theorem dd_M_behind_242 : ad_D mm_M_behind 242 (.bipush 20) 2 244 := ⟨by decide +kernel, rfl⟩
theorem dd_M_behind_244 : ad_D mm_M_behind 244 (.if_icmp .le 29) 3 247 := ⟨by decide +kernel, rfl⟩
theorem dd_M_behind_247 : ad_D mm_M_behind 247 (.aload_n 0) 1 248 := ⟨by decide +kernel, rfl⟩
theorem dd_M_behind_248 : ad_D mm_M_behind 248 (.aload_n 0) 1 249 := ⟨by decide +kernel, rfl⟩
theorem dd_M_behind_249 : ad_D mm_M_behind 249 (.getfield 131) 3 252 := ⟨by decide +kernel, rfl⟩
theorem dd_M_behind_252 : ad_D mm_M_behind 252 (.aload_n 0) 1 253 := ⟨by decide +kernel, rfl⟩
theorem dd_M_behind_253 : ad_D mm_M_behind 253 (.getfield 271) 3 256 := ⟨by decide +kernel, rfl⟩
theorem dd_M_behind_256 : ad_D mm_M_behind 256 (.iaload) 1 257 := ⟨by decide +kernel, rfl⟩
theorem dd_M_behind_257 : ad_D mm_M_behind 257 (.bipush 23) 2 259 := ⟨by decide +kernel, rfl⟩
theorem dd_M_behind_259 : ad_D mm_M_behind 259 (.if_icmp .ne 8) 3 262 := ⟨by decide +kernel, rfl⟩
theorem dd_M_behind_262 : ad_D mm_M_behind 262 (.bipush 7) 2 264 := ⟨by decide +kernel, rfl⟩
theorem dd_M_behind_264 : ad_D mm_M_behind 264 (.goto 5) 3 267 := ⟨by decide +kernel, rfl⟩
theorem dd_M_behind_267 : ad_D mm_M_behind 267 (.bipush 8) 2 269 := ⟨by decide +kernel, rfl⟩
theorem dd_M_behind_269 : ad_D mm_M_behind 269 (.iconst 0) 1 270 := ⟨by decide +kernel, rfl⟩
theorem dd_M_behind_270 : ad_D mm_M_behind 270 (.invokevirtual 277) 3 273 := ⟨by decide +kernel, rfl⟩
theorem dd_M_behind_273 : ad_D mm_M_behind 273 (.aload_n 0) 1 274 := ⟨by decide +kernel, rfl⟩
theorem dd_M_behind_274 : ad_D mm_M_behind 274 (.invokevirtual 281) 3 277 := ⟨by decide +kernel, rfl⟩
theorem dd_M_behind_277 : ad_D mm_M_behind 277 (.goto 5) 3 280 := ⟨by decide +kernel, rfl⟩
theorem dd_M_behind_280 : ad_D mm_M_behind 280 (.iconst 1) 1 281 := ⟨by decide +kernel, rfl⟩
theorem dd_M_behind_281 : ad_D mm_M_behind 281 (.ireturn) 1 282 := ⟨by decide +kernel, rfl⟩
theorem dd_M_behind_282 : ad_D mm_M_behind 282 (.aload_n 0) 1 283 := ⟨by decide +kernel, rfl⟩
theorem dd_M_behind_283 : ad_D mm_M_behind 283 (.invokevirtual 288) 3 286 := ⟨by decide +kernel, rfl⟩
theorem dd_M_behind_286 : ad_D mm_M_behind 286 (.iconst 0) 1 287 := ⟨by decide +kernel, rfl⟩
theorem dd_M_behind_287 : ad_D mm_M_behind 287 (.ireturn) 1 288 := ⟨by decide +kernel, rfl⟩
theorem dd_M_settle_0 : ad_D mm_M_settle 0 (.aload_n 0) 1 1 := ⟨by decide +kernel, rfl⟩
theorem dd_M_settle_1 : ad_D mm_M_settle 1 (.getfield 271) 3 4 := ⟨by decide +kernel, rfl⟩
theorem dd_M_settle_4 : ad_D mm_M_settle 4 (.ifCond .le 61) 3 7 := ⟨by decide +kernel, rfl⟩
theorem dd_M_settle_7 : ad_D mm_M_settle 7 (.aload_n 0) 1 8 := ⟨by decide +kernel, rfl⟩
theorem dd_M_settle_8 : ad_D mm_M_settle 8 (.getfield 131) 3 11 := ⟨by decide +kernel, rfl⟩
theorem dd_M_settle_11 : ad_D mm_M_settle 11 (.aload_n 0) 1 12 := ⟨by decide +kernel, rfl⟩
theorem dd_M_settle_12 : ad_D mm_M_settle 12 (.getfield 271) 3 15 := ⟨by decide +kernel, rfl⟩
theorem dd_M_settle_15 : ad_D mm_M_settle 15 (.iconst 1) 1 16 := ⟨by decide +kernel, rfl⟩
theorem dd_M_settle_16 : ad_D mm_M_settle 16 (.isub) 1 17 := ⟨by decide +kernel, rfl⟩
theorem dd_M_settle_17 : ad_D mm_M_settle 17 (.iaload) 1 18 := ⟨by decide +kernel, rfl⟩
theorem dd_M_settle_18 : ad_D mm_M_settle 18 (.bipush 20) 2 20 := ⟨by decide +kernel, rfl⟩
theorem dd_M_settle_20 : ad_D mm_M_settle 20 (.if_icmp .ge 45) 3 23 := ⟨by decide +kernel, rfl⟩
theorem dd_M_settle_23 : ad_D mm_M_settle 23 (.aload_n 0) 1 24 := ⟨by decide +kernel, rfl⟩
theorem dd_M_settle_24 : ad_D mm_M_settle 24 (.getfield 131) 3 27 := ⟨by decide +kernel, rfl⟩
theorem dd_M_settle_27 : ad_D mm_M_settle 27 (.aload_n 0) 1 28 := ⟨by decide +kernel, rfl⟩
theorem dd_M_settle_28 : ad_D mm_M_settle 28 (.getfield 271) 3 31 := ⟨by decide +kernel, rfl⟩
theorem dd_M_settle_31 : ad_D mm_M_settle 31 (.iconst 1) 1 32 := ⟨by decide +kernel, rfl⟩
theorem dd_M_settle_32 : ad_D mm_M_settle 32 (.isub) 1 33 := ⟨by decide +kernel, rfl⟩
theorem dd_M_settle_33 : ad_D mm_M_settle 33 (.iaload) 1 34 := ⟨by decide +kernel, rfl⟩
theorem dd_M_settle_34 : ad_D mm_M_settle 34 (.iload_n 1) 1 35 := ⟨by decide +kernel, rfl⟩
theorem dd_M_settle_35 : ad_D mm_M_settle 35 (.if_icmp .lt 30) 3 38 := ⟨by decide +kernel, rfl⟩
theorem dd_M_settle_38 : ad_D mm_M_settle 38 (.aload_n 0) 1 39 := ⟨by decide +kernel, rfl⟩
theorem dd_M_settle_39 : ad_D mm_M_settle 39 (.dup) 1 40 := ⟨by decide +kernel, rfl⟩
theorem dd_M_settle_40 : ad_D mm_M_settle 40 (.getfield 271) 3 43 := ⟨by decide +kernel, rfl⟩
theorem dd_M_settle_43 : ad_D mm_M_settle 43 (.iconst 1) 1 44 := ⟨by decide +kernel, rfl⟩
theorem dd_M_settle_44 : ad_D mm_M_settle 44 (.isub) 1 45 := ⟨by decide +kernel, rfl⟩
theorem dd_M_settle_45 : ad_D mm_M_settle 45 (.putfield 271) 3 48 := ⟨by decide +kernel, rfl⟩
theorem dd_M_settle_48 : ad_D mm_M_settle 48 (.aload_n 0) 1 49 := ⟨by decide +kernel, rfl⟩
theorem dd_M_settle_49 : ad_D mm_M_settle 49 (.aload_n 0) 1 50 := ⟨by decide +kernel, rfl⟩
theorem dd_M_settle_50 : ad_D mm_M_settle 50 (.getfield 131) 3 53 := ⟨by decide +kernel, rfl⟩
theorem dd_M_settle_53 : ad_D mm_M_settle 53 (.aload_n 0) 1 54 := ⟨by decide +kernel, rfl⟩
theorem dd_M_settle_54 : ad_D mm_M_settle 54 (.getfield 271) 3 57 := ⟨by decide +kernel, rfl⟩
theorem dd_M_settle_57 : ad_D mm_M_settle 57 (.iaload) 1 58 := ⟨by decide +kernel, rfl⟩
theorem dd_M_settle_58 : ad_D mm_M_settle 58 (.iconst 0) 1 59 := ⟨by decide +kernel, rfl⟩
theorem dd_M_settle_59 : ad_D mm_M_settle 59 (.invokevirtual 277) 3 62 := ⟨by decide +kernel, rfl⟩
theorem dd_M_settle_62 : ad_D mm_M_settle 62 (.goto (-62)) 3 65 := ⟨by decide +kernel, rfl⟩
theorem dd_M_settle_65 : ad_D mm_M_settle 65 (.return_) 1 66 := ⟨by decide +kernel, rfl⟩
theorem dd_M_emit_0 : ad_D mm_M_emit 0 (.aload_n 0) 1 1 := ⟨by decide +kernel, rfl⟩
theorem dd_M_emit_1 : ad_D mm_M_emit 1 (.getfield 119) 3 4 := ⟨by decide +kernel, rfl⟩
theorem dd_M_emit_4 : ad_D mm_M_emit 4 (.sipush 128) 3 7 := ⟨by decide +kernel, rfl⟩
theorem dd_M_emit_7 : ad_D mm_M_emit 7 (.aload_n 0) 1 8 := ⟨by decide +kernel, rfl⟩
theorem dd_M_emit_8 : ad_D mm_M_emit 8 (.getfield 268) 3 11 := ⟨by decide +kernel, rfl⟩
theorem dd_M_emit_11 : ad_D mm_M_emit 11 (.iadd) 1 12 := ⟨by decide +kernel, rfl⟩
theorem dd_M_emit_12 : ad_D mm_M_emit 12 (.iload_n 1) 1 13 := ⟨by decide +kernel, rfl⟩
theorem dd_M_emit_13 : ad_D mm_M_emit 13 (.iastore) 1 14 := ⟨by decide +kernel, rfl⟩
theorem dd_M_emit_14 : ad_D mm_M_emit 14 (.aload_n 0) 1 15 := ⟨by decide +kernel, rfl⟩
theorem dd_M_emit_15 : ad_D mm_M_emit 15 (.getfield 122) 3 18 := ⟨by decide +kernel, rfl⟩
theorem dd_M_emit_18 : ad_D mm_M_emit 18 (.sipush 128) 3 21 := ⟨by decide +kernel, rfl⟩
theorem dd_M_emit_21 : ad_D mm_M_emit 21 (.aload_n 0) 1 22 := ⟨by decide +kernel, rfl⟩
theorem dd_M_emit_22 : ad_D mm_M_emit 22 (.getfield 268) 3 25 := ⟨by decide +kernel, rfl⟩
theorem dd_M_emit_25 : ad_D mm_M_emit 25 (.iadd) 1 26 := ⟨by decide +kernel, rfl⟩
theorem dd_M_emit_26 : ad_D mm_M_emit 26 (.iload_n 2) 1 27 := ⟨by decide +kernel, rfl⟩
theorem dd_M_emit_27 : ad_D mm_M_emit 27 (.iastore) 1 28 := ⟨by decide +kernel, rfl⟩
theorem dd_M_emit_28 : ad_D mm_M_emit 28 (.aload_n 0) 1 29 := ⟨by decide +kernel, rfl⟩
theorem dd_M_emit_29 : ad_D mm_M_emit 29 (.dup) 1 30 := ⟨by decide +kernel, rfl⟩
theorem dd_M_emit_30 : ad_D mm_M_emit 30 (.getfield 268) 3 33 := ⟨by decide +kernel, rfl⟩
theorem dd_M_emit_33 : ad_D mm_M_emit 33 (.iconst 1) 1 34 := ⟨by decide +kernel, rfl⟩
theorem dd_M_emit_34 : ad_D mm_M_emit 34 (.iadd) 1 35 := ⟨by decide +kernel, rfl⟩
theorem dd_M_emit_35 : ad_D mm_M_emit 35 (.putfield 268) 3 38 := ⟨by decide +kernel, rfl⟩
theorem dd_M_emit_38 : ad_D mm_M_emit 38 (.return_) 1 39 := ⟨by decide +kernel, rfl⟩
theorem dd_M_push_0 : ad_D mm_M_push 0 (.aload_n 0) 1 1 := ⟨by decide +kernel, rfl⟩
theorem dd_M_push_1 : ad_D mm_M_push 1 (.getfield 131) 3 4 := ⟨by decide +kernel, rfl⟩
theorem dd_M_push_4 : ad_D mm_M_push 4 (.aload_n 0) 1 5 := ⟨by decide +kernel, rfl⟩
theorem dd_M_push_5 : ad_D mm_M_push 5 (.getfield 271) 3 8 := ⟨by decide +kernel, rfl⟩
theorem dd_M_push_8 : ad_D mm_M_push 8 (.iload_n 1) 1 9 := ⟨by decide +kernel, rfl⟩
theorem dd_M_push_9 : ad_D mm_M_push 9 (.iastore) 1 10 := ⟨by decide +kernel, rfl⟩
theorem dd_M_push_10 : ad_D mm_M_push 10 (.aload_n 0) 1 11 := ⟨by decide +kernel, rfl⟩
theorem dd_M_push_11 : ad_D mm_M_push 11 (.dup) 1 12 := ⟨by decide +kernel, rfl⟩
theorem dd_M_push_12 : ad_D mm_M_push 12 (.getfield 271) 3 15 := ⟨by decide +kernel, rfl⟩
theorem dd_M_push_15 : ad_D mm_M_push 15 (.iconst 1) 1 16 := ⟨by decide +kernel, rfl⟩
theorem dd_M_push_16 : ad_D mm_M_push 16 (.iadd) 1 17 := ⟨by decide +kernel, rfl⟩
theorem dd_M_push_17 : ad_D mm_M_push 17 (.putfield 271) 3 20 := ⟨by decide +kernel, rfl⟩
theorem dd_M_push_20 : ad_D mm_M_push 20 (.return_) 1 21 := ⟨by decide +kernel, rfl⟩
theorem dd_M_whole_0 : ad_D mm_M_whole 0 (.aload_n 0) 1 1 := ⟨by decide +kernel, rfl⟩
theorem dd_M_whole_1 : ad_D mm_M_whole 1 (.getfield 271) 3 4 := ⟨by decide +kernel, rfl⟩
theorem dd_M_whole_4 : ad_D mm_M_whole 4 (.ifCond .le 47) 3 7 := ⟨by decide +kernel, rfl⟩
theorem dd_M_whole_7 : ad_D mm_M_whole 7 (.aload_n 0) 1 8 := ⟨by decide +kernel, rfl⟩
theorem dd_M_whole_8 : ad_D mm_M_whole 8 (.getfield 131) 3 11 := ⟨by decide +kernel, rfl⟩
theorem dd_M_whole_11 : ad_D mm_M_whole 11 (.aload_n 0) 1 12 := ⟨by decide +kernel, rfl⟩
theorem dd_M_whole_12 : ad_D mm_M_whole 12 (.getfield 271) 3 15 := ⟨by decide +kernel, rfl⟩
theorem dd_M_whole_15 : ad_D mm_M_whole 15 (.iconst 1) 1 16 := ⟨by decide +kernel, rfl⟩
theorem dd_M_whole_16 : ad_D mm_M_whole 16 (.isub) 1 17 := ⟨by decide +kernel, rfl⟩
theorem dd_M_whole_17 : ad_D mm_M_whole 17 (.iaload) 1 18 := ⟨by decide +kernel, rfl⟩
theorem dd_M_whole_18 : ad_D mm_M_whole 18 (.iconst 2) 1 19 := ⟨by decide +kernel, rfl⟩
theorem dd_M_whole_19 : ad_D mm_M_whole 19 (.if_icmp .ne 32) 3 22 := ⟨by decide +kernel, rfl⟩
theorem dd_M_whole_22 : ad_D mm_M_whole 22 (.aload_n 0) 1 23 := ⟨by decide +kernel, rfl⟩
theorem dd_M_whole_23 : ad_D mm_M_whole 23 (.dup) 1 24 := ⟨by decide +kernel, rfl⟩
theorem dd_M_whole_24 : ad_D mm_M_whole 24 (.getfield 271) 3 27 := ⟨by decide +kernel, rfl⟩
theorem dd_M_whole_27 : ad_D mm_M_whole 27 (.iconst 1) 1 28 := ⟨by decide +kernel, rfl⟩
theorem dd_M_whole_28 : ad_D mm_M_whole 28 (.isub) 1 29 := ⟨by decide +kernel, rfl⟩
theorem dd_M_whole_29 : ad_D mm_M_whole 29 (.putfield 271) 3 32 := ⟨by decide +kernel, rfl⟩
theorem dd_M_whole_32 : ad_D mm_M_whole 32 (.aload_n 0) 1 33 := ⟨by decide +kernel, rfl⟩
theorem dd_M_whole_33 : ad_D mm_M_whole 33 (.dup) 1 34 := ⟨by decide +kernel, rfl⟩
theorem dd_M_whole_34 : ad_D mm_M_whole 34 (.getfield 274) 3 37 := ⟨by decide +kernel, rfl⟩
theorem dd_M_whole_37 : ad_D mm_M_whole 37 (.iconst 1) 1 38 := ⟨by decide +kernel, rfl⟩
theorem dd_M_whole_38 : ad_D mm_M_whole 38 (.isub) 1 39 := ⟨by decide +kernel, rfl⟩
theorem dd_M_whole_39 : ad_D mm_M_whole 39 (.putfield 274) 3 42 := ⟨by decide +kernel, rfl⟩
theorem dd_M_whole_42 : ad_D mm_M_whole 42 (.aload_n 0) 1 43 := ⟨by decide +kernel, rfl⟩
theorem dd_M_whole_43 : ad_D mm_M_whole 43 (.iconst 2) 1 44 := ⟨by decide +kernel, rfl⟩
theorem dd_M_whole_44 : ad_D mm_M_whole 44 (.iconst 0) 1 45 := ⟨by decide +kernel, rfl⟩
theorem dd_M_whole_45 : ad_D mm_M_whole 45 (.invokevirtual 277) 3 48 := ⟨by decide +kernel, rfl⟩
theorem dd_M_whole_48 : ad_D mm_M_whole 48 (.goto (-48)) 3 51 := ⟨by decide +kernel, rfl⟩
theorem dd_M_whole_51 : ad_D mm_M_whole 51 (.return_) 1 52 := ⟨by decide +kernel, rfl⟩
theorem dd_M_begin_0 : ad_D mm_M_begin 0 (.aload_n 0) 1 1 := ⟨by decide +kernel, rfl⟩
theorem dd_M_begin_1 : ad_D mm_M_begin 1 (.getfield 250) 3 4 := ⟨by decide +kernel, rfl⟩
theorem dd_M_begin_4 : ad_D mm_M_begin 4 (.iconst 1) 1 5 := ⟨by decide +kernel, rfl⟩
theorem dd_M_begin_5 : ad_D mm_M_begin 5 (.if_icmp .ne 39) 3 8 := ⟨by decide +kernel, rfl⟩
theorem dd_M_begin_8 : ad_D mm_M_begin 8 (.aload_n 0) 1 9 := ⟨by decide +kernel, rfl⟩
theorem dd_M_begin_9 : ad_D mm_M_begin 9 (.getfield 256) 3 12 := ⟨by decide +kernel, rfl⟩
theorem dd_M_begin_12 : ad_D mm_M_begin 12 (.sipush 9999) 3 15 := ⟨by decide +kernel, rfl⟩
theorem dd_M_begin_15 : ad_D mm_M_begin 15 (.if_icmp .le 5) 3 18 := ⟨by decide +kernel, rfl⟩
theorem dd_M_begin_18 : ad_D mm_M_begin 18 (.iconst 2) 1 19 := ⟨by decide +kernel, rfl⟩
theorem dd_M_begin_19 : ad_D mm_M_begin 19 (.ireturn) 1 20 := ⟨by decide +kernel, rfl⟩
theorem dd_M_begin_20 : ad_D mm_M_begin 20 (.aload_n 0) 1 21 := ⟨by decide +kernel, rfl⟩
theorem dd_M_begin_21 : ad_D mm_M_begin 21 (.iconst 0) 1 22 := ⟨by decide +kernel, rfl⟩
theorem dd_M_begin_22 : ad_D mm_M_begin 22 (.aload_n 0) 1 23 := ⟨by decide +kernel, rfl⟩
theorem dd_M_begin_23 : ad_D mm_M_begin 23 (.getfield 256) 3 26 := ⟨by decide +kernel, rfl⟩
theorem dd_M_begin_26 : ad_D mm_M_begin 26 (.invokevirtual 277) 3 29 := ⟨by decide +kernel, rfl⟩
theorem dd_M_begin_29 : ad_D mm_M_begin 29 (.aload_n 0) 1 30 := ⟨by decide +kernel, rfl⟩
theorem dd_M_begin_30 : ad_D mm_M_begin 30 (.invokevirtual 281) 3 33 := ⟨by decide +kernel, rfl⟩
theorem dd_M_begin_33 : ad_D mm_M_begin 33 (.aload_n 0) 1 34 := ⟨by decide +kernel, rfl⟩
theorem dd_M_begin_34 : ad_D mm_M_begin 34 (.iconst 1) 1 35 := ⟨by decide +kernel, rfl⟩
theorem dd_M_begin_35 : ad_D mm_M_begin 35 (.putfield 284) 3 38 := ⟨by decide +kernel, rfl⟩
theorem dd_M_begin_38 : ad_D mm_M_begin 38 (.aload_n 0) 1 39 := ⟨by decide +kernel, rfl⟩
theorem dd_M_begin_39 : ad_D mm_M_begin 39 (.invokevirtual 288) 3 42 := ⟨by decide +kernel, rfl⟩
theorem dd_M_begin_42 : ad_D mm_M_begin 42 (.iconst 0) 1 43 := ⟨by decide +kernel, rfl⟩
theorem dd_M_begin_43 : ad_D mm_M_begin 43 (.ireturn) 1 44 := ⟨by decide +kernel, rfl⟩
theorem dd_M_begin_44 : ad_D mm_M_begin 44 (.aload_n 0) 1 45 := ⟨by decide +kernel, rfl⟩
theorem dd_M_begin_45 : ad_D mm_M_begin 45 (.getfield 250) 3 48 := ⟨by decide +kernel, rfl⟩
theorem dd_M_begin_48 : ad_D mm_M_begin 48 (.iconst 2) 1 49 := ⟨by decide +kernel, rfl⟩
theorem dd_M_begin_49 : ad_D mm_M_begin 49 (.if_icmp .ne 27) 3 52 := ⟨by decide +kernel, rfl⟩
theorem dd_M_begin_52 : ad_D mm_M_begin 52 (.aload_n 0) 1 53 := ⟨by decide +kernel, rfl⟩
theorem dd_M_begin_53 : ad_D mm_M_begin 53 (.iconst 1) 1 54 := ⟨by decide +kernel, rfl⟩
theorem dd_M_begin_54 : ad_D mm_M_begin 54 (.aload_n 0) 1 55 := ⟨by decide +kernel, rfl⟩
theorem dd_M_begin_55 : ad_D mm_M_begin 55 (.getfield 256) 3 58 := ⟨by decide +kernel, rfl⟩
theorem dd_M_begin_58 : ad_D mm_M_begin 58 (.invokevirtual 277) 3 61 := ⟨by decide +kernel, rfl⟩
theorem dd_M_begin_61 : ad_D mm_M_begin 61 (.aload_n 0) 1 62 := ⟨by decide +kernel, rfl⟩
theorem dd_M_begin_62 : ad_D mm_M_begin 62 (.invokevirtual 281) 3 65 := ⟨by decide +kernel, rfl⟩
theorem dd_M_begin_65 : ad_D mm_M_begin 65 (.aload_n 0) 1 66 := ⟨by decide +kernel, rfl⟩
theorem dd_M_begin_66 : ad_D mm_M_begin 66 (.iconst 1) 1 67 := ⟨by decide +kernel, rfl⟩
theorem dd_M_begin_67 : ad_D mm_M_begin 67 (.putfield 284) 3 70 := ⟨by decide +kernel, rfl⟩
theorem dd_M_begin_70 : ad_D mm_M_begin 70 (.aload_n 0) 1 71 := ⟨by decide +kernel, rfl⟩
theorem dd_M_begin_71 : ad_D mm_M_begin 71 (.invokevirtual 288) 3 74 := ⟨by decide +kernel, rfl⟩
theorem dd_M_begin_74 : ad_D mm_M_begin 74 (.iconst 0) 1 75 := ⟨by decide +kernel, rfl⟩
theorem dd_M_begin_75 : ad_D mm_M_begin 75 (.ireturn) 1 76 := ⟨by decide +kernel, rfl⟩
theorem dd_M_begin_76 : ad_D mm_M_begin 76 (.aload_n 0) 1 77 := ⟨by decide +kernel, rfl⟩
theorem dd_M_begin_77 : ad_D mm_M_begin 77 (.getfield 250) 3 80 := ⟨by decide +kernel, rfl⟩
theorem dd_M_begin_80 : ad_D mm_M_begin 80 (.istore_n 1) 1 81 := ⟨by decide +kernel, rfl⟩
theorem dd_M_begin_81 : ad_D mm_M_begin 81 (.iload_n 1) 1 82 := ⟨by decide +kernel, rfl⟩
theorem dd_M_begin_82 : ad_D mm_M_begin 82 (.iconst 3) 1 83 := ⟨by decide +kernel, rfl⟩
theorem dd_M_begin_83 : ad_D mm_M_begin 83 (.if_icmp .eq 8) 3 86 := ⟨by decide +kernel, rfl⟩
theorem dd_M_begin_86 : ad_D mm_M_begin 86 (.iload_n 1) 1 87 := ⟨by decide +kernel, rfl⟩
theorem dd_M_begin_87 : ad_D mm_M_begin 87 (.iconst 4) 1 88 := ⟨by decide +kernel, rfl⟩
theorem dd_M_begin_88 : ad_D mm_M_begin 88 (.if_icmp .ne 18) 3 91 := ⟨by decide +kernel, rfl⟩
theorem dd_M_begin_91 : ad_D mm_M_begin 91 (.aload_n 0) 1 92 := ⟨by decide +kernel, rfl⟩
theorem dd_M_begin_92 : ad_D mm_M_begin 92 (.invokevirtual 288) 3 95 := ⟨by decide +kernel, rfl⟩
theorem dd_M_begin_95 : ad_D mm_M_begin 95 (.aload_n 0) 1 96 := ⟨by decide +kernel, rfl⟩
theorem dd_M_begin_96 : ad_D mm_M_begin 96 (.getfield 250) 3 99 := ⟨by decide +kernel, rfl⟩
theorem dd_M_begin_99 : ad_D mm_M_begin 99 (.bipush 40) 2 101 := ⟨by decide +kernel, rfl⟩
theorem dd_M_begin_101 : ad_D mm_M_begin 101 (.if_icmp .eq 5) 3 104 := ⟨by decide +kernel, rfl⟩
theorem dd_M_begin_104 : ad_D mm_M_begin 104 (.iconst 1) 1 105 := ⟨by decide +kernel, rfl⟩
theorem dd_M_begin_105 : ad_D mm_M_begin 105 (.ireturn) 1 106 := ⟨by decide +kernel, rfl⟩
theorem dd_M_begin_106 : ad_D mm_M_begin 106 (.iload_n 1) 1 107 := ⟨by decide +kernel, rfl⟩
theorem dd_M_begin_107 : ad_D mm_M_begin 107 (.iconst 3) 1 108 := ⟨by decide +kernel, rfl⟩
theorem dd_M_begin_108 : ad_D mm_M_begin 108 (.if_icmp .eq 22) 3 111 := ⟨by decide +kernel, rfl⟩
theorem dd_M_begin_111 : ad_D mm_M_begin 111 (.iload_n 1) 1 112 := ⟨by decide +kernel, rfl⟩
theorem dd_M_begin_112 : ad_D mm_M_begin 112 (.iconst 4) 1 113 := ⟨by decide +kernel, rfl⟩
theorem dd_M_begin_113 : ad_D mm_M_begin 113 (.if_icmp .eq 17) 3 116 := ⟨by decide +kernel, rfl⟩
theorem dd_M_begin_116 : ad_D mm_M_begin 116 (.iload_n 1) 1 117 := ⟨by decide +kernel, rfl⟩
theorem dd_M_begin_117 : ad_D mm_M_begin 117 (.bipush 40) 2 119 := ⟨by decide +kernel, rfl⟩
theorem dd_M_begin_119 : ad_D mm_M_begin 119 (.if_icmp .eq 11) 3 122 := ⟨by decide +kernel, rfl⟩
theorem dd_M_begin_122 : ad_D mm_M_begin 122 (.iload_n 1) 1 123 := ⟨by decide +kernel, rfl⟩
theorem dd_M_begin_123 : ad_D mm_M_begin 123 (.bipush 45) 2 125 := ⟨by decide +kernel, rfl⟩
theorem dd_M_begin_125 : ad_D mm_M_begin 125 (.if_icmp .eq 5) 3 128 := ⟨by decide +kernel, rfl⟩
theorem dd_M_begin_128 : ad_D mm_M_begin 128 (.iconst 1) 1 129 := ⟨by decide +kernel, rfl⟩
theorem dd_M_begin_129 : ad_D mm_M_begin 129 (.ireturn) 1 130 := ⟨by decide +kernel, rfl⟩
theorem dd_M_begin_130 : ad_D mm_M_begin 130 (.aload_n 0) 1 131 := ⟨by decide +kernel, rfl⟩
theorem dd_M_begin_131 : ad_D mm_M_begin 131 (.getfield 274) 3 134 := ⟨by decide +kernel, rfl⟩
theorem dd_M_begin_134 : ad_D mm_M_begin 134 (.bipush 8) 2 136 := ⟨by decide +kernel, rfl⟩
theorem dd_M_begin_136 : ad_D mm_M_begin 136 (.if_icmp .ne 5) 3 139 := ⟨by decide +kernel, rfl⟩
theorem dd_M_begin_139 : ad_D mm_M_begin 139 (.iconst 3) 1 140 := ⟨by decide +kernel, rfl⟩
theorem dd_M_begin_140 : ad_D mm_M_begin 140 (.ireturn) 1 141 := ⟨by decide +kernel, rfl⟩
theorem dd_M_begin_141 : ad_D mm_M_begin 141 (.aload_n 0) 1 142 := ⟨by decide +kernel, rfl⟩
theorem dd_M_begin_142 : ad_D mm_M_begin 142 (.dup) 1 143 := ⟨by decide +kernel, rfl⟩
theorem dd_M_begin_143 : ad_D mm_M_begin 143 (.getfield 274) 3 146 := ⟨by decide +kernel, rfl⟩
theorem dd_M_begin_146 : ad_D mm_M_begin 146 (.iconst 1) 1 147 := ⟨by decide +kernel, rfl⟩
theorem dd_M_begin_147 : ad_D mm_M_begin 147 (.iadd) 1 148 := ⟨by decide +kernel, rfl⟩
theorem dd_M_begin_148 : ad_D mm_M_begin 148 (.putfield 274) 3 151 := ⟨by decide +kernel, rfl⟩
theorem dd_M_begin_151 : ad_D mm_M_begin 151 (.aload_n 0) 1 152 := ⟨by decide +kernel, rfl⟩
theorem dd_M_begin_152 : ad_D mm_M_begin 152 (.iload_n 1) 1 153 := ⟨by decide +kernel, rfl⟩
theorem dd_M_begin_153 : ad_D mm_M_begin 153 (.iconst 3) 1 154 := ⟨by decide +kernel, rfl⟩
theorem dd_M_begin_154 : ad_D mm_M_begin 154 (.if_icmp .ne 8) 3 157 := ⟨by decide +kernel, rfl⟩
theorem dd_M_begin_157 : ad_D mm_M_begin 157 (.bipush 21) 2 159 := ⟨by decide +kernel, rfl⟩
theorem dd_M_begin_159 : ad_D mm_M_begin 159 (.goto 25) 3 162 := ⟨by decide +kernel, rfl⟩
theorem dd_M_begin_162 : ad_D mm_M_begin 162 (.iload_n 1) 1 163 := ⟨by decide +kernel, rfl⟩
theorem dd_M_begin_163 : ad_D mm_M_begin 163 (.iconst 4) 1 164 := ⟨by decide +kernel, rfl⟩
theorem dd_M_begin_164 : ad_D mm_M_begin 164 (.if_icmp .ne 8) 3 167 := ⟨by decide +kernel, rfl⟩
theorem dd_M_begin_167 : ad_D mm_M_begin 167 (.bipush 22) 2 169 := ⟨by decide +kernel, rfl⟩
theorem dd_M_begin_169 : ad_D mm_M_begin 169 (.goto 15) 3 172 := ⟨by decide +kernel, rfl⟩
theorem dd_M_begin_172 : ad_D mm_M_begin 172 (.iload_n 1) 1 173 := ⟨by decide +kernel, rfl⟩
theorem dd_M_begin_173 : ad_D mm_M_begin 173 (.bipush 40) 2 175 := ⟨by decide +kernel, rfl⟩
theorem dd_M_begin_175 : ad_D mm_M_begin 175 (.if_icmp .ne 8) 3 178 := ⟨by decide +kernel, rfl⟩
theorem dd_M_begin_178 : ad_D mm_M_begin 178 (.bipush 20) 2 180 := ⟨by decide +kernel, rfl⟩
theorem dd_M_begin_180 : ad_D mm_M_begin 180 (.goto 4) 3 183 := ⟨by decide +kernel, rfl⟩
theorem dd_M_begin_183 : ad_D mm_M_begin 183 (.iconst 2) 1 184 := ⟨by decide +kernel, rfl⟩
theorem dd_M_begin_184 : ad_D mm_M_begin 184 (.invokevirtual 291) 3 187 := ⟨by decide +kernel, rfl⟩
theorem dd_M_begin_187 : ad_D mm_M_begin 187 (.aload_n 0) 1 188 := ⟨by decide +kernel, rfl⟩
theorem dd_M_begin_188 : ad_D mm_M_begin 188 (.invokevirtual 288) 3 191 := ⟨by decide +kernel, rfl⟩
theorem dd_M_begin_191 : ad_D mm_M_begin 191 (.iconst 0) 1 192 := ⟨by decide +kernel, rfl⟩
theorem dd_M_begin_192 : ad_D mm_M_begin 192 (.ireturn) 1 193 := ⟨by decide +kernel, rfl⟩
theorem dd_M_fault_0 : ad_D mm_M_fault 0 (.iload_n 1) 1 1 := ⟨by decide +kernel, rfl⟩
theorem dd_M_fault_1 : ad_D mm_M_fault 1 (.ifCond .ne 10) 3 4 := ⟨by decide +kernel, rfl⟩
theorem dd_M_fault_4 : ad_D mm_M_fault 4 (.aload_n 0) 1 5 := ⟨by decide +kernel, rfl⟩
theorem dd_M_fault_5 : ad_D mm_M_fault 5 (.getfield 125) 3 8 := ⟨by decide +kernel, rfl⟩
theorem dd_M_fault_8 : ad_D mm_M_fault 8 (.goto 16) 3 11 := ⟨by decide +kernel, rfl⟩
theorem dd_M_fault_11 : ad_D mm_M_fault 11 (.iload_n 1) 1 12 := ⟨by decide +kernel, rfl⟩
theorem dd_M_fault_12 : ad_D mm_M_fault 12 (.iconst 1) 1 13 := ⟨by decide +kernel, rfl⟩
theorem dd_M_fault_13 : ad_D mm_M_fault 13 (.if_icmp .ne 10) 3 16 := ⟨by decide +kernel, rfl⟩
theorem dd_M_fault_16 : ad_D mm_M_fault 16 (.aload_n 0) 1 17 := ⟨by decide +kernel, rfl⟩
theorem dd_M_fault_17 : ad_D mm_M_fault 17 (.getfield 128) 3 20 := ⟨by decide +kernel, rfl⟩
theorem dd_M_fault_20 : ad_D mm_M_fault 20 (.goto 4) 3 23 := ⟨by decide +kernel, rfl⟩
theorem dd_M_fault_23 : ad_D mm_M_fault 23 (.iconst (-1)) 1 24 := ⟨by decide +kernel, rfl⟩
theorem dd_M_fault_24 : ad_D mm_M_fault 24 (.ireturn) 1 25 := ⟨by decide +kernel, rfl⟩
theorem dd_M_tells_0 : ad_D mm_M_tells 0 (.iload_n 1) 1 1 := ⟨by decide +kernel, rfl⟩
theorem dd_M_tells_1 : ad_D mm_M_tells 1 (.invokestatic 320) 3 4 := ⟨by decide +kernel, rfl⟩
theorem dd_M_tells_4 : ad_D mm_M_tells 4 (.ifCond .eq 47) 3 7 := ⟨by decide +kernel, rfl⟩
theorem dd_M_tells_7 : ad_D mm_M_tells 7 (.iload_n 2) 1 8 := ⟨by decide +kernel, rfl⟩
theorem dd_M_tells_8 : ad_D mm_M_tells 8 (.invokestatic 320) 3 11 := ⟨by decide +kernel, rfl⟩
theorem dd_M_tells_11 : ad_D mm_M_tells 11 (.ifCond .eq 40) 3 14 := ⟨by decide +kernel, rfl⟩
theorem dd_M_tells_14 : ad_D mm_M_tells 14 (.iload_n 3) 1 15 := ⟨by decide +kernel, rfl⟩
theorem dd_M_tells_15 : ad_D mm_M_tells 15 (.invokestatic 320) 3 18 := ⟨by decide +kernel, rfl⟩
theorem dd_M_tells_18 : ad_D mm_M_tells 18 (.ifCond .eq 33) 3 21 := ⟨by decide +kernel, rfl⟩
theorem dd_M_tells_21 : ad_D mm_M_tells 21 (.iload 4) 2 23 := ⟨by decide +kernel, rfl⟩
theorem dd_M_tells_23 : ad_D mm_M_tells 23 (.invokestatic 320) 3 26 := ⟨by decide +kernel, rfl⟩
theorem dd_M_tells_26 : ad_D mm_M_tells 26 (.ifCond .eq 25) 3 29 := ⟨by decide +kernel, rfl⟩
theorem dd_M_tells_29 : ad_D mm_M_tells 29 (.iload 5) 2 31 := ⟨by decide +kernel, rfl⟩
theorem dd_M_tells_31 : ad_D mm_M_tells 31 (.invokestatic 320) 3 34 := ⟨by decide +kernel, rfl⟩
theorem dd_M_tells_34 : ad_D mm_M_tells 34 (.ifCond .eq 17) 3 37 := ⟨by decide +kernel, rfl⟩
theorem dd_M_tells_37 : ad_D mm_M_tells 37 (.aload_n 0) 1 38 := ⟨by decide +kernel, rfl⟩
theorem dd_M_tells_38 : ad_D mm_M_tells 38 (.iload_n 1) 1 39 := ⟨by decide +kernel, rfl⟩
theorem dd_M_tells_39 : ad_D mm_M_tells 39 (.iload_n 2) 1 40 := ⟨by decide +kernel, rfl⟩
theorem dd_M_tells_40 : ad_D mm_M_tells 40 (.iload_n 3) 1 41 := ⟨by decide +kernel, rfl⟩
theorem dd_M_tells_41 : ad_D mm_M_tells 41 (.iload 4) 2 43 := ⟨by decide +kernel, rfl⟩
theorem dd_M_tells_43 : ad_D mm_M_tells 43 (.iload 5) 2 45 := ⟨by decide +kernel, rfl⟩
theorem dd_M_tells_45 : ad_D mm_M_tells 45 (.invokevirtual 208) 3 48 := ⟨by decide +kernel, rfl⟩
theorem dd_M_tells_48 : ad_D mm_M_tells 48 (.goto 5) 3 51 := ⟨by decide +kernel, rfl⟩
theorem dd_M_tells_51 : ad_D mm_M_tells 51 (.ldc 194) 2 53 := ⟨by decide +kernel, rfl⟩
theorem dd_M_tells_53 : ad_D mm_M_tells 53 (.ireturn) 1 54 := ⟨by decide +kernel, rfl⟩
theorem dd_M_isSmall_0 : ad_D mm_M_isSmall 0 (.iload_n 0) 1 1 := ⟨by decide +kernel, rfl⟩
theorem dd_M_isSmall_1 : ad_D mm_M_isSmall 1 (.ldc_w 318) 3 4 := ⟨by decide +kernel, rfl⟩
theorem dd_M_isSmall_4 : ad_D mm_M_isSmall 4 (.ldc_w 319) 3 7 := ⟨by decide +kernel, rfl⟩
theorem dd_M_isSmall_7 : ad_D mm_M_isSmall 7 (.invokestatic 155) 3 10 := ⟨by decide +kernel, rfl⟩
theorem dd_M_isSmall_10 : ad_D mm_M_isSmall 10 (.ireturn) 1 11 := ⟨by decide +kernel, rfl⟩
theorem dd_M_sweet_0 : ad_D mm_M_sweet 0 (.aload_n 0) 1 1 := ⟨by decide +kernel, rfl⟩
theorem dd_M_sweet_1 : ad_D mm_M_sweet 1 (.iload_n 1) 1 2 := ⟨by decide +kernel, rfl⟩
theorem dd_M_sweet_2 : ad_D mm_M_sweet 2 (.invokevirtual 180) 3 5 := ⟨by decide +kernel, rfl⟩
theorem dd_M_sweet_5 : ad_D mm_M_sweet 5 (.ifCond .eq 23) 3 8 := ⟨by decide +kernel, rfl⟩
theorem dd_M_sweet_8 : ad_D mm_M_sweet 8 (.iload_n 2) 1 9 := ⟨by decide +kernel, rfl⟩
theorem dd_M_sweet_9 : ad_D mm_M_sweet 9 (.iconst 0) 1 10 := ⟨by decide +kernel, rfl⟩
theorem dd_M_sweet_10 : ad_D mm_M_sweet 10 (.sipush 4000) 3 13 := ⟨by decide +kernel, rfl⟩
theorem dd_M_sweet_13 : ad_D mm_M_sweet 13 (.invokestatic 155) 3 16 := ⟨by decide +kernel, rfl⟩
theorem dd_M_sweet_16 : ad_D mm_M_sweet 16 (.ifCond .eq 12) 3 19 := ⟨by decide +kernel, rfl⟩
theorem dd_M_sweet_19 : ad_D mm_M_sweet 19 (.aload_n 0) 1 20 := ⟨by decide +kernel, rfl⟩
theorem dd_M_sweet_20 : ad_D mm_M_sweet 20 (.iload_n 1) 1 21 := ⟨by decide +kernel, rfl⟩
theorem dd_M_sweet_21 : ad_D mm_M_sweet 21 (.iload_n 2) 1 22 := ⟨by decide +kernel, rfl⟩
theorem dd_M_sweet_22 : ad_D mm_M_sweet 22 (.invokevirtual 187) 3 25 := ⟨by decide +kernel, rfl⟩
theorem dd_M_sweet_25 : ad_D mm_M_sweet 25 (.goto 4) 3 28 := ⟨by decide +kernel, rfl⟩
theorem dd_M_sweet_28 : ad_D mm_M_sweet 28 (.iconst (-1)) 1 29 := ⟨by decide +kernel, rfl⟩
theorem dd_M_sweet_29 : ad_D mm_M_sweet 29 (.ireturn) 1 30 := ⟨by decide +kernel, rfl⟩
theorem dd_M_fieldOf_0 : ad_D mm_M_fieldOf 0 (.aload_n 0) 1 1 := ⟨by decide +kernel, rfl⟩
theorem dd_M_fieldOf_1 : ad_D mm_M_fieldOf 1 (.iload_n 1) 1 2 := ⟨by decide +kernel, rfl⟩
theorem dd_M_fieldOf_2 : ad_D mm_M_fieldOf 2 (.invokevirtual 180) 3 5 := ⟨by decide +kernel, rfl⟩
theorem dd_M_fieldOf_5 : ad_D mm_M_fieldOf 5 (.ifCond .ne 5) 3 8 := ⟨by decide +kernel, rfl⟩
theorem dd_M_fieldOf_8 : ad_D mm_M_fieldOf 8 (.iconst (-1)) 1 9 := ⟨by decide +kernel, rfl⟩
theorem dd_M_fieldOf_9 : ad_D mm_M_fieldOf 9 (.ireturn) 1 10 := ⟨by decide +kernel, rfl⟩
theorem dd_M_fieldOf_10 : ad_D mm_M_fieldOf 10 (.iload_n 2) 1 11 := ⟨by decide +kernel, rfl⟩
theorem dd_M_fieldOf_11 : ad_D mm_M_fieldOf 11 (.tableswitch 98 0 6 #[41, 48, 55, 62, 69, 84, 91]) 41 52 := ⟨by decide +kernel, rfl⟩
theorem dd_M_fieldOf_52 : ad_D mm_M_fieldOf 52 (.aload_n 0) 1 53 := ⟨by decide +kernel, rfl⟩
theorem dd_M_fieldOf_53 : ad_D mm_M_fieldOf 53 (.getfield 26) 3 56 := ⟨by decide +kernel, rfl⟩
theorem dd_M_fieldOf_56 : ad_D mm_M_fieldOf 56 (.iload_n 1) 1 57 := ⟨by decide +kernel, rfl⟩
theorem dd_M_fieldOf_57 : ad_D mm_M_fieldOf 57 (.iaload) 1 58 := ⟨by decide +kernel, rfl⟩
theorem dd_M_fieldOf_58 : ad_D mm_M_fieldOf 58 (.ireturn) 1 59 := ⟨by decide +kernel, rfl⟩
theorem dd_M_fieldOf_59 : ad_D mm_M_fieldOf 59 (.aload_n 0) 1 60 := ⟨by decide +kernel, rfl⟩
theorem dd_M_fieldOf_60 : ad_D mm_M_fieldOf 60 (.getfield 30) 3 63 := ⟨by decide +kernel, rfl⟩
theorem dd_M_fieldOf_63 : ad_D mm_M_fieldOf 63 (.iload_n 1) 1 64 := ⟨by decide +kernel, rfl⟩
theorem dd_M_fieldOf_64 : ad_D mm_M_fieldOf 64 (.iaload) 1 65 := ⟨by decide +kernel, rfl⟩
theorem dd_M_fieldOf_65 : ad_D mm_M_fieldOf 65 (.ireturn) 1 66 := ⟨by decide +kernel, rfl⟩
theorem dd_M_fieldOf_66 : ad_D mm_M_fieldOf 66 (.aload_n 0) 1 67 := ⟨by decide +kernel, rfl⟩
theorem dd_M_fieldOf_67 : ad_D mm_M_fieldOf 67 (.getfield 45) 3 70 := ⟨by decide +kernel, rfl⟩
theorem dd_M_fieldOf_70 : ad_D mm_M_fieldOf 70 (.iload_n 1) 1 71 := ⟨by decide +kernel, rfl⟩
theorem dd_M_fieldOf_71 : ad_D mm_M_fieldOf 71 (.iaload) 1 72 := ⟨by decide +kernel, rfl⟩
theorem dd_M_fieldOf_72 : ad_D mm_M_fieldOf 72 (.ireturn) 1 73 := ⟨by decide +kernel, rfl⟩
theorem dd_M_fieldOf_73 : ad_D mm_M_fieldOf 73 (.aload_n 0) 1 74 := ⟨by decide +kernel, rfl⟩
theorem dd_M_fieldOf_74 : ad_D mm_M_fieldOf 74 (.getfield 48) 3 77 := ⟨by decide +kernel, rfl⟩
theorem dd_M_fieldOf_77 : ad_D mm_M_fieldOf 77 (.iload_n 1) 1 78 := ⟨by decide +kernel, rfl⟩
theorem dd_M_fieldOf_78 : ad_D mm_M_fieldOf 78 (.iaload) 1 79 := ⟨by decide +kernel, rfl⟩
theorem dd_M_fieldOf_79 : ad_D mm_M_fieldOf 79 (.ireturn) 1 80 := ⟨by decide +kernel, rfl⟩
theorem dd_M_fieldOf_80 : ad_D mm_M_fieldOf 80 (.aload_n 0) 1 81 := ⟨by decide +kernel, rfl⟩
theorem dd_M_fieldOf_81 : ad_D mm_M_fieldOf 81 (.getfield 54) 3 84 := ⟨by decide +kernel, rfl⟩
theorem dd_M_fieldOf_84 : ad_D mm_M_fieldOf 84 (.iload_n 1) 1 85 := ⟨by decide +kernel, rfl⟩
theorem dd_M_fieldOf_85 : ad_D mm_M_fieldOf 85 (.iaload) 1 86 := ⟨by decide +kernel, rfl⟩
theorem dd_M_fieldOf_86 : ad_D mm_M_fieldOf 86 (.ifCond .lt 7) 3 89 := ⟨by decide +kernel, rfl⟩
theorem dd_M_fieldOf_89 : ad_D mm_M_fieldOf 89 (.iconst 1) 1 90 := ⟨by decide +kernel, rfl⟩
theorem dd_M_fieldOf_90 : ad_D mm_M_fieldOf 90 (.goto 4) 3 93 := ⟨by decide +kernel, rfl⟩
theorem dd_M_fieldOf_93 : ad_D mm_M_fieldOf 93 (.iconst 0) 1 94 := ⟨by decide +kernel, rfl⟩
theorem dd_M_fieldOf_94 : ad_D mm_M_fieldOf 94 (.ireturn) 1 95 := ⟨by decide +kernel, rfl⟩
theorem dd_M_fieldOf_95 : ad_D mm_M_fieldOf 95 (.aload_n 0) 1 96 := ⟨by decide +kernel, rfl⟩
theorem dd_M_fieldOf_96 : ad_D mm_M_fieldOf 96 (.getfield 51) 3 99 := ⟨by decide +kernel, rfl⟩
theorem dd_M_fieldOf_99 : ad_D mm_M_fieldOf 99 (.iload_n 1) 1 100 := ⟨by decide +kernel, rfl⟩
theorem dd_M_fieldOf_100 : ad_D mm_M_fieldOf 100 (.iaload) 1 101 := ⟨by decide +kernel, rfl⟩
theorem dd_M_fieldOf_101 : ad_D mm_M_fieldOf 101 (.ireturn) 1 102 := ⟨by decide +kernel, rfl⟩
theorem dd_M_fieldOf_102 : ad_D mm_M_fieldOf 102 (.aload_n 0) 1 103 := ⟨by decide +kernel, rfl⟩
theorem dd_M_fieldOf_103 : ad_D mm_M_fieldOf 103 (.getfield 60) 3 106 := ⟨by decide +kernel, rfl⟩
theorem dd_M_fieldOf_106 : ad_D mm_M_fieldOf 106 (.iload_n 1) 1 107 := ⟨by decide +kernel, rfl⟩
theorem dd_M_fieldOf_107 : ad_D mm_M_fieldOf 107 (.iaload) 1 108 := ⟨by decide +kernel, rfl⟩
theorem dd_M_fieldOf_108 : ad_D mm_M_fieldOf 108 (.ireturn) 1 109 := ⟨by decide +kernel, rfl⟩
theorem dd_M_fieldOf_109 : ad_D mm_M_fieldOf 109 (.iconst (-1)) 1 110 := ⟨by decide +kernel, rfl⟩
theorem dd_M_fieldOf_110 : ad_D mm_M_fieldOf 110 (.ireturn) 1 111 := ⟨by decide +kernel, rfl⟩
theorem dd_M_load_0 : ad_D mm_M_load 0 (.iload_n 1) 1 1 := ⟨by decide +kernel, rfl⟩
theorem dd_M_load_1 : ad_D mm_M_load 1 (.iconst 0) 1 2 := ⟨by decide +kernel, rfl⟩
theorem dd_M_load_2 : ad_D mm_M_load 2 (.aload_n 0) 1 3 := ⟨by decide +kernel, rfl⟩
theorem dd_M_load_3 : ad_D mm_M_load 3 (.getfield 191) 3 6 := ⟨by decide +kernel, rfl⟩
theorem dd_M_load_6 : ad_D mm_M_load 6 (.iconst 1) 1 7 := ⟨by decide +kernel, rfl⟩
theorem dd_M_load_7 : ad_D mm_M_load 7 (.isub) 1 8 := ⟨by decide +kernel, rfl⟩
theorem dd_M_load_8 : ad_D mm_M_load 8 (.invokestatic 155) 3 11 := ⟨by decide +kernel, rfl⟩
theorem dd_M_load_11 : ad_D mm_M_load 11 (.ifCond .ne 5) 3 14 := ⟨by decide +kernel, rfl⟩
theorem dd_M_load_14 : ad_D mm_M_load 14 (.iconst (-1)) 1 15 := ⟨by decide +kernel, rfl⟩
theorem dd_M_load_15 : ad_D mm_M_load 15 (.ireturn) 1 16 := ⟨by decide +kernel, rfl⟩
theorem dd_M_load_16 : ad_D mm_M_load 16 (.iload_n 2) 1 17 := ⟨by decide +kernel, rfl⟩
theorem dd_M_load_17 : ad_D mm_M_load 17 (.tableswitch 122 0 8 #[51, 58, 65, 72, 79, 86, 93, 100, 115]) 51 68 := ⟨by decide +kernel, rfl⟩
theorem dd_M_load_68 : ad_D mm_M_load 68 (.aload_n 0) 1 69 := ⟨by decide +kernel, rfl⟩
theorem dd_M_load_69 : ad_D mm_M_load 69 (.getfield 73) 3 72 := ⟨by decide +kernel, rfl⟩
theorem dd_M_load_72 : ad_D mm_M_load 72 (.iload_n 1) 1 73 := ⟨by decide +kernel, rfl⟩
theorem dd_M_load_73 : ad_D mm_M_load 73 (.iaload) 1 74 := ⟨by decide +kernel, rfl⟩
theorem dd_M_load_74 : ad_D mm_M_load 74 (.ireturn) 1 75 := ⟨by decide +kernel, rfl⟩
theorem dd_M_load_75 : ad_D mm_M_load 75 (.aload_n 0) 1 76 := ⟨by decide +kernel, rfl⟩
theorem dd_M_load_76 : ad_D mm_M_load 76 (.getfield 76) 3 79 := ⟨by decide +kernel, rfl⟩
theorem dd_M_load_79 : ad_D mm_M_load 79 (.iload_n 1) 1 80 := ⟨by decide +kernel, rfl⟩
theorem dd_M_load_80 : ad_D mm_M_load 80 (.iaload) 1 81 := ⟨by decide +kernel, rfl⟩
theorem dd_M_load_81 : ad_D mm_M_load 81 (.ireturn) 1 82 := ⟨by decide +kernel, rfl⟩
theorem dd_M_load_82 : ad_D mm_M_load 82 (.aload_n 0) 1 83 := ⟨by decide +kernel, rfl⟩
theorem dd_M_load_83 : ad_D mm_M_load 83 (.getfield 79) 3 86 := ⟨by decide +kernel, rfl⟩
theorem dd_M_load_86 : ad_D mm_M_load 86 (.iload_n 1) 1 87 := ⟨by decide +kernel, rfl⟩
theorem dd_M_load_87 : ad_D mm_M_load 87 (.iaload) 1 88 := ⟨by decide +kernel, rfl⟩
theorem dd_M_load_88 : ad_D mm_M_load 88 (.ireturn) 1 89 := ⟨by decide +kernel, rfl⟩
theorem dd_M_load_89 : ad_D mm_M_load 89 (.aload_n 0) 1 90 := ⟨by decide +kernel, rfl⟩
theorem dd_M_load_90 : ad_D mm_M_load 90 (.getfield 82) 3 93 := ⟨by decide +kernel, rfl⟩
theorem dd_M_load_93 : ad_D mm_M_load 93 (.iload_n 1) 1 94 := ⟨by decide +kernel, rfl⟩
theorem dd_M_load_94 : ad_D mm_M_load 94 (.iaload) 1 95 := ⟨by decide +kernel, rfl⟩
theorem dd_M_load_95 : ad_D mm_M_load 95 (.ireturn) 1 96 := ⟨by decide +kernel, rfl⟩
theorem dd_M_load_96 : ad_D mm_M_load 96 (.aload_n 0) 1 97 := ⟨by decide +kernel, rfl⟩
theorem dd_M_load_97 : ad_D mm_M_load 97 (.getfield 85) 3 100 := ⟨by decide +kernel, rfl⟩
theorem dd_M_load_100 : ad_D mm_M_load 100 (.iload_n 1) 1 101 := ⟨by decide +kernel, rfl⟩
theorem dd_M_load_101 : ad_D mm_M_load 101 (.iaload) 1 102 := ⟨by decide +kernel, rfl⟩
theorem dd_M_load_102 : ad_D mm_M_load 102 (.ireturn) 1 103 := ⟨by decide +kernel, rfl⟩
theorem dd_M_load_103 : ad_D mm_M_load 103 (.aload_n 0) 1 104 := ⟨by decide +kernel, rfl⟩
theorem dd_M_load_104 : ad_D mm_M_load 104 (.getfield 88) 3 107 := ⟨by decide +kernel, rfl⟩
theorem dd_M_load_107 : ad_D mm_M_load 107 (.iload_n 1) 1 108 := ⟨by decide +kernel, rfl⟩
theorem dd_M_load_108 : ad_D mm_M_load 108 (.iaload) 1 109 := ⟨by decide +kernel, rfl⟩
theorem dd_M_load_109 : ad_D mm_M_load 109 (.ireturn) 1 110 := ⟨by decide +kernel, rfl⟩
theorem dd_M_load_110 : ad_D mm_M_load 110 (.aload_n 0) 1 111 := ⟨by decide +kernel, rfl⟩
theorem dd_M_load_111 : ad_D mm_M_load 111 (.getfield 91) 3 114 := ⟨by decide +kernel, rfl⟩
theorem dd_M_load_114 : ad_D mm_M_load 114 (.iload_n 1) 1 115 := ⟨by decide +kernel, rfl⟩
theorem dd_M_load_115 : ad_D mm_M_load 115 (.iaload) 1 116 := ⟨by decide +kernel, rfl⟩
theorem dd_M_load_116 : ad_D mm_M_load 116 (.ireturn) 1 117 := ⟨by decide +kernel, rfl⟩
theorem dd_M_load_117 : ad_D mm_M_load 117 (.aload_n 0) 1 118 := ⟨by decide +kernel, rfl⟩
theorem dd_M_load_118 : ad_D mm_M_load 118 (.getfield 94) 3 121 := ⟨by decide +kernel, rfl⟩
theorem dd_M_load_121 : ad_D mm_M_load 121 (.iload_n 1) 1 122 := ⟨by decide +kernel, rfl⟩
theorem dd_M_load_122 : ad_D mm_M_load 122 (.iaload) 1 123 := ⟨by decide +kernel, rfl⟩
theorem dd_M_load_123 : ad_D mm_M_load 123 (.ifCond .lt 7) 3 126 := ⟨by decide +kernel, rfl⟩
theorem dd_M_load_126 : ad_D mm_M_load 126 (.iconst 1) 1 127 := ⟨by decide +kernel, rfl⟩
theorem dd_M_load_127 : ad_D mm_M_load 127 (.goto 4) 3 130 := ⟨by decide +kernel, rfl⟩
theorem dd_M_load_130 : ad_D mm_M_load 130 (.iconst 0) 1 131 := ⟨by decide +kernel, rfl⟩
theorem dd_M_load_131 : ad_D mm_M_load 131 (.ireturn) 1 132 := ⟨by decide +kernel, rfl⟩
theorem dd_M_load_132 : ad_D mm_M_load 132 (.aload_n 0) 1 133 := ⟨by decide +kernel, rfl⟩
theorem dd_M_load_133 : ad_D mm_M_load 133 (.getfield 97) 3 136 := ⟨by decide +kernel, rfl⟩
theorem dd_M_load_136 : ad_D mm_M_load 136 (.iload_n 1) 1 137 := ⟨by decide +kernel, rfl⟩
theorem dd_M_load_137 : ad_D mm_M_load 137 (.iaload) 1 138 := ⟨by decide +kernel, rfl⟩
theorem dd_M_load_138 : ad_D mm_M_load 138 (.ireturn) 1 139 := ⟨by decide +kernel, rfl⟩
theorem dd_M_load_139 : ad_D mm_M_load 139 (.iconst (-1)) 1 140 := ⟨by decide +kernel, rfl⟩
theorem dd_M_load_140 : ad_D mm_M_load 140 (.ireturn) 1 141 := ⟨by decide +kernel, rfl⟩
theorem dd_M_bundle_0 : ad_D mm_M_bundle 0 (.iload_n 1) 1 1 := ⟨by decide +kernel, rfl⟩
theorem dd_M_bundle_1 : ad_D mm_M_bundle 1 (.iconst 0) 1 2 := ⟨by decide +kernel, rfl⟩
theorem dd_M_bundle_2 : ad_D mm_M_bundle 2 (.aload_n 0) 1 3 := ⟨by decide +kernel, rfl⟩
theorem dd_M_bundle_3 : ad_D mm_M_bundle 3 (.getfield 205) 3 6 := ⟨by decide +kernel, rfl⟩
theorem dd_M_bundle_6 : ad_D mm_M_bundle 6 (.iconst 1) 1 7 := ⟨by decide +kernel, rfl⟩
theorem dd_M_bundle_7 : ad_D mm_M_bundle 7 (.isub) 1 8 := ⟨by decide +kernel, rfl⟩
theorem dd_M_bundle_8 : ad_D mm_M_bundle 8 (.invokestatic 155) 3 11 := ⟨by decide +kernel, rfl⟩
theorem dd_M_bundle_11 : ad_D mm_M_bundle 11 (.ifCond .eq 12) 3 14 := ⟨by decide +kernel, rfl⟩
theorem dd_M_bundle_14 : ad_D mm_M_bundle 14 (.aload_n 0) 1 15 := ⟨by decide +kernel, rfl⟩
theorem dd_M_bundle_15 : ad_D mm_M_bundle 15 (.getfield 103) 3 18 := ⟨by decide +kernel, rfl⟩
theorem dd_M_bundle_18 : ad_D mm_M_bundle 18 (.iload_n 1) 1 19 := ⟨by decide +kernel, rfl⟩
theorem dd_M_bundle_19 : ad_D mm_M_bundle 19 (.baload) 1 20 := ⟨by decide +kernel, rfl⟩
theorem dd_M_bundle_20 : ad_D mm_M_bundle 20 (.goto 4) 3 23 := ⟨by decide +kernel, rfl⟩
theorem dd_M_bundle_23 : ad_D mm_M_bundle 23 (.iconst (-1)) 1 24 := ⟨by decide +kernel, rfl⟩
theorem dd_M_bundle_24 : ad_D mm_M_bundle 24 (.ireturn) 1 25 := ⟨by decide +kernel, rfl⟩
theorem dd_M_best_0 : ad_D mm_M_best 0 (.aload_n 0) 1 1 := ⟨by decide +kernel, rfl⟩
theorem dd_M_best_1 : ad_D mm_M_best 1 (.iload_n 1) 1 2 := ⟨by decide +kernel, rfl⟩
theorem dd_M_best_2 : ad_D mm_M_best 2 (.iload_n 2) 1 3 := ⟨by decide +kernel, rfl⟩
theorem dd_M_best_3 : ad_D mm_M_best 3 (.invokevirtual 332) 3 6 := ⟨by decide +kernel, rfl⟩
theorem dd_M_best_6 : ad_D mm_M_best 6 (.ifCond .ne 5) 3 9 := ⟨by decide +kernel, rfl⟩
theorem dd_M_best_9 : ad_D mm_M_best 9 (.iconst (-1)) 1 10 := ⟨by decide +kernel, rfl⟩
theorem dd_M_best_10 : ad_D mm_M_best 10 (.ireturn) 1 11 := ⟨by decide +kernel, rfl⟩
theorem dd_M_best_11 : ad_D mm_M_best 11 (.aload_n 0) 1 12 := ⟨by decide +kernel, rfl⟩
theorem dd_M_best_12 : ad_D mm_M_best 12 (.iload_n 1) 1 13 := ⟨by decide +kernel, rfl⟩
theorem dd_M_best_13 : ad_D mm_M_best 13 (.iload_n 2) 1 14 := ⟨by decide +kernel, rfl⟩
theorem dd_M_best_14 : ad_D mm_M_best 14 (.invokevirtual 336) 3 17 := ⟨by decide +kernel, rfl⟩
theorem dd_M_best_17 : ad_D mm_M_best 17 (.pop) 1 18 := ⟨by decide +kernel, rfl⟩
theorem dd_M_best_18 : ad_D mm_M_best 18 (.aload_n 0) 1 19 := ⟨by decide +kernel, rfl⟩
theorem dd_M_best_19 : ad_D mm_M_best 19 (.getfield 326) 3 22 := ⟨by decide +kernel, rfl⟩
theorem dd_M_best_22 : ad_D mm_M_best 22 (.ireturn) 1 23 := ⟨by decide +kernel, rfl⟩
theorem dd_M_isSet_0 : ad_D mm_M_isSet 0 (.iload_n 1) 1 1 := ⟨by decide +kernel, rfl⟩
theorem dd_M_isSet_1 : ad_D mm_M_isSet 1 (.iconst 0) 1 2 := ⟨by decide +kernel, rfl⟩
theorem dd_M_isSet_2 : ad_D mm_M_isSet 2 (.iconst 1) 1 3 := ⟨by decide +kernel, rfl⟩
theorem dd_M_isSet_3 : ad_D mm_M_isSet 3 (.aload_n 0) 1 4 := ⟨by decide +kernel, rfl⟩
theorem dd_M_isSet_4 : ad_D mm_M_isSet 4 (.getfield 152) 3 7 := ⟨by decide +kernel, rfl⟩
theorem dd_M_isSet_7 : ad_D mm_M_isSet 7 (.ishl) 1 8 := ⟨by decide +kernel, rfl⟩
theorem dd_M_isSet_8 : ad_D mm_M_isSet 8 (.iconst 1) 1 9 := ⟨by decide +kernel, rfl⟩
theorem dd_M_isSet_9 : ad_D mm_M_isSet 9 (.isub) 1 10 := ⟨by decide +kernel, rfl⟩
theorem dd_M_isSet_10 : ad_D mm_M_isSet 10 (.invokestatic 155) 3 13 := ⟨by decide +kernel, rfl⟩
theorem dd_M_isSet_13 : ad_D mm_M_isSet 13 (.ifCond .eq 13) 3 16 := ⟨by decide +kernel, rfl⟩
theorem dd_M_isSet_16 : ad_D mm_M_isSet 16 (.iload_n 2) 1 17 := ⟨by decide +kernel, rfl⟩
theorem dd_M_isSet_17 : ad_D mm_M_isSet 17 (.iconst 1) 1 18 := ⟨by decide +kernel, rfl⟩
theorem dd_M_isSet_18 : ad_D mm_M_isSet 18 (.bipush 9) 2 20 := ⟨by decide +kernel, rfl⟩
theorem dd_M_isSet_20 : ad_D mm_M_isSet 20 (.invokestatic 155) 3 23 := ⟨by decide +kernel, rfl⟩
theorem dd_M_isSet_23 : ad_D mm_M_isSet 23 (.ifCond .ne 5) 3 26 := ⟨by decide +kernel, rfl⟩
theorem dd_M_isSet_26 : ad_D mm_M_isSet 26 (.iconst 0) 1 27 := ⟨by decide +kernel, rfl⟩
theorem dd_M_isSet_27 : ad_D mm_M_isSet 27 (.ireturn) 1 28 := ⟨by decide +kernel, rfl⟩
theorem dd_M_isSet_28 : ad_D mm_M_isSet 28 (.iconst 0) 1 29 := ⟨by decide +kernel, rfl⟩
theorem dd_M_isSet_29 : ad_D mm_M_isSet 29 (.istore_n 3) 1 30 := ⟨by decide +kernel, rfl⟩
theorem dd_M_isSet_30 : ad_D mm_M_isSet 30 (.iload_n 3) 1 31 := ⟨by decide +kernel, rfl⟩
theorem dd_M_isSet_31 : ad_D mm_M_isSet 31 (.aload_n 0) 1 32 := ⟨by decide +kernel, rfl⟩
theorem dd_M_isSet_32 : ad_D mm_M_isSet 32 (.getfield 152) 3 35 := ⟨by decide +kernel, rfl⟩
theorem dd_M_isSet_35 : ad_D mm_M_isSet 35 (.if_icmp .ge 29) 3 38 := ⟨by decide +kernel, rfl⟩
theorem dd_M_isSet_38 : ad_D mm_M_isSet 38 (.iload_n 1) 1 39 := ⟨by decide +kernel, rfl⟩
theorem dd_M_isSet_39 : ad_D mm_M_isSet 39 (.iload_n 3) 1 40 := ⟨by decide +kernel, rfl⟩
theorem dd_M_isSet_40 : ad_D mm_M_isSet 40 (.ishr) 1 41 := ⟨by decide +kernel, rfl⟩
theorem dd_M_isSet_41 : ad_D mm_M_isSet 41 (.iconst 1) 1 42 := ⟨by decide +kernel, rfl⟩
theorem dd_M_isSet_42 : ad_D mm_M_isSet 42 (.iand) 1 43 := ⟨by decide +kernel, rfl⟩
theorem dd_M_isSet_43 : ad_D mm_M_isSet 43 (.iconst 1) 1 44 := ⟨by decide +kernel, rfl⟩
theorem dd_M_isSet_44 : ad_D mm_M_isSet 44 (.if_icmp .ne 14) 3 47 := ⟨by decide +kernel, rfl⟩
theorem dd_M_isSet_47 : ad_D mm_M_isSet 47 (.aload_n 0) 1 48 := ⟨by decide +kernel, rfl⟩
theorem dd_M_isSet_48 : ad_D mm_M_isSet 48 (.getfield 45) 3 51 := ⟨by decide +kernel, rfl⟩
theorem dd_M_isSet_51 : ad_D mm_M_isSet 51 (.iload_n 3) 1 52 := ⟨by decide +kernel, rfl⟩
theorem dd_M_isSet_52 : ad_D mm_M_isSet 52 (.iaload) 1 53 := ⟨by decide +kernel, rfl⟩
theorem dd_M_isSet_53 : ad_D mm_M_isSet 53 (.ifCond .eq 5) 3 56 := ⟨by decide +kernel, rfl⟩
theorem dd_M_isSet_56 : ad_D mm_M_isSet 56 (.iconst 0) 1 57 := ⟨by decide +kernel, rfl⟩
theorem dd_M_isSet_57 : ad_D mm_M_isSet 57 (.ireturn) 1 58 := ⟨by decide +kernel, rfl⟩
theorem dd_M_isSet_58 : ad_D mm_M_isSet 58 (.iinc 3 1) 3 61 := ⟨by decide +kernel, rfl⟩
theorem dd_M_isSet_61 : ad_D mm_M_isSet 61 (.goto (-31)) 3 64 := ⟨by decide +kernel, rfl⟩
theorem dd_M_isSet_64 : ad_D mm_M_isSet 64 (.iconst 1) 1 65 := ⟨by decide +kernel, rfl⟩
theorem dd_M_isSet_65 : ad_D mm_M_isSet 65 (.ireturn) 1 66 := ⟨by decide +kernel, rfl⟩
theorem dd_M_find_0 : ad_D mm_M_find 0 (.iconst 0) 1 1 := ⟨by decide +kernel, rfl⟩
theorem dd_M_find_1 : ad_D mm_M_find 1 (.istore_n 3) 1 2 := ⟨by decide +kernel, rfl⟩
theorem dd_M_find_2 : ad_D mm_M_find 2 (.iload_n 3) 1 3 := ⟨by decide +kernel, rfl⟩
theorem dd_M_find_3 : ad_D mm_M_find 3 (.aload_n 0) 1 4 := ⟨by decide +kernel, rfl⟩
theorem dd_M_find_4 : ad_D mm_M_find 4 (.getfield 152) 3 7 := ⟨by decide +kernel, rfl⟩
theorem dd_M_find_7 : ad_D mm_M_find 7 (.if_icmp .ge 97) 3 10 := ⟨by decide +kernel, rfl⟩
theorem dd_M_find_10 : ad_D mm_M_find 10 (.aload_n 0) 1 11 := ⟨by decide +kernel, rfl⟩
theorem dd_M_find_11 : ad_D mm_M_find 11 (.getfield 159) 3 14 := ⟨by decide +kernel, rfl⟩
theorem dd_M_find_14 : ad_D mm_M_find 14 (.aload_n 0) 1 15 := ⟨by decide +kernel, rfl⟩
theorem dd_M_find_15 : ad_D mm_M_find 15 (.getfield 30) 3 18 := ⟨by decide +kernel, rfl⟩
theorem dd_M_find_18 : ad_D mm_M_find 18 (.iload_n 3) 1 19 := ⟨by decide +kernel, rfl⟩
theorem dd_M_find_19 : ad_D mm_M_find 19 (.iaload) 1 20 := ⟨by decide +kernel, rfl⟩
theorem dd_M_find_20 : ad_D mm_M_find 20 (.aload_n 0) 1 21 := ⟨by decide +kernel, rfl⟩
theorem dd_M_find_21 : ad_D mm_M_find 21 (.getfield 13) 3 24 := ⟨by decide +kernel, rfl⟩
theorem dd_M_find_24 : ad_D mm_M_find 24 (.iadd) 1 25 := ⟨by decide +kernel, rfl⟩
theorem dd_M_find_25 : ad_D mm_M_find 25 (.iconst 1) 1 26 := ⟨by decide +kernel, rfl⟩
theorem dd_M_find_26 : ad_D mm_M_find 26 (.isub) 1 27 := ⟨by decide +kernel, rfl⟩
theorem dd_M_find_27 : ad_D mm_M_find 27 (.aload_n 0) 1 28 := ⟨by decide +kernel, rfl⟩
theorem dd_M_find_28 : ad_D mm_M_find 28 (.getfield 13) 3 31 := ⟨by decide +kernel, rfl⟩
theorem dd_M_find_31 : ad_D mm_M_find 31 (.idiv) 1 32 := ⟨by decide +kernel, rfl⟩
theorem dd_M_find_32 : ad_D mm_M_find 32 (.iadd) 1 33 := ⟨by decide +kernel, rfl⟩
theorem dd_M_find_33 : ad_D mm_M_find 33 (.istore 4) 2 35 := ⟨by decide +kernel, rfl⟩
theorem dd_M_find_35 : ad_D mm_M_find 35 (.aload_n 0) 1 36 := ⟨by decide +kernel, rfl⟩
theorem dd_M_find_36 : ad_D mm_M_find 36 (.getfield 137) 3 39 := ⟨by decide +kernel, rfl⟩
theorem dd_M_find_39 : ad_D mm_M_find 39 (.iload_n 3) 1 40 := ⟨by decide +kernel, rfl⟩
theorem dd_M_find_40 : ad_D mm_M_find 40 (.iload 4) 2 42 := ⟨by decide +kernel, rfl⟩
theorem dd_M_find_42 : ad_D mm_M_find 42 (.aload_n 0) 1 43 := ⟨by decide +kernel, rfl⟩
theorem dd_M_find_43 : ad_D mm_M_find 43 (.getfield 33) 3 46 := ⟨by decide +kernel, rfl⟩
theorem dd_M_find_46 : ad_D mm_M_find 46 (.iload_n 3) 1 47 := ⟨by decide +kernel, rfl⟩
theorem dd_M_find_47 : ad_D mm_M_find 47 (.iaload) 1 48 := ⟨by decide +kernel, rfl⟩
theorem dd_M_find_48 : ad_D mm_M_find 48 (.invokestatic 195) 3 51 := ⟨by decide +kernel, rfl⟩
theorem dd_M_find_51 : ad_D mm_M_find 51 (.iadd) 1 52 := ⟨by decide +kernel, rfl⟩
theorem dd_M_find_52 : ad_D mm_M_find 52 (.iastore) 1 53 := ⟨by decide +kernel, rfl⟩
theorem dd_M_find_53 : ad_D mm_M_find 53 (.aload_n 0) 1 54 := ⟨by decide +kernel, rfl⟩
theorem dd_M_find_54 : ad_D mm_M_find 54 (.getfield 140) 3 57 := ⟨by decide +kernel, rfl⟩
theorem dd_M_find_57 : ad_D mm_M_find 57 (.iload_n 3) 1 58 := ⟨by decide +kernel, rfl⟩
theorem dd_M_find_58 : ad_D mm_M_find 58 (.iload 4) 2 60 := ⟨by decide +kernel, rfl⟩
theorem dd_M_find_60 : ad_D mm_M_find 60 (.aload_n 0) 1 61 := ⟨by decide +kernel, rfl⟩
theorem dd_M_find_61 : ad_D mm_M_find 61 (.getfield 54) 3 64 := ⟨by decide +kernel, rfl⟩
theorem dd_M_find_64 : ad_D mm_M_find 64 (.iload_n 3) 1 65 := ⟨by decide +kernel, rfl⟩
theorem dd_M_find_65 : ad_D mm_M_find 65 (.iaload) 1 66 := ⟨by decide +kernel, rfl⟩
theorem dd_M_find_66 : ad_D mm_M_find 66 (.ifCond .lt 8) 3 69 := ⟨by decide +kernel, rfl⟩
theorem dd_M_find_69 : ad_D mm_M_find 69 (.bipush 12) 2 71 := ⟨by decide +kernel, rfl⟩
theorem dd_M_find_71 : ad_D mm_M_find 71 (.goto 5) 3 74 := ⟨by decide +kernel, rfl⟩
theorem dd_M_find_74 : ad_D mm_M_find 74 (.bipush 24) 2 76 := ⟨by decide +kernel, rfl⟩
theorem dd_M_find_76 : ad_D mm_M_find 76 (.iadd) 1 77 := ⟨by decide +kernel, rfl⟩
theorem dd_M_find_77 : ad_D mm_M_find 77 (.iastore) 1 78 := ⟨by decide +kernel, rfl⟩
theorem dd_M_find_78 : ad_D mm_M_find 78 (.aload_n 0) 1 79 := ⟨by decide +kernel, rfl⟩
theorem dd_M_find_79 : ad_D mm_M_find 79 (.getfield 143) 3 82 := ⟨by decide +kernel, rfl⟩
theorem dd_M_find_82 : ad_D mm_M_find 82 (.iload_n 3) 1 83 := ⟨by decide +kernel, rfl⟩
theorem dd_M_find_83 : ad_D mm_M_find 83 (.aload_n 0) 1 84 := ⟨by decide +kernel, rfl⟩
theorem dd_M_find_84 : ad_D mm_M_find 84 (.getfield 30) 3 87 := ⟨by decide +kernel, rfl⟩
theorem dd_M_find_87 : ad_D mm_M_find 87 (.iload_n 3) 1 88 := ⟨by decide +kernel, rfl⟩
theorem dd_M_find_88 : ad_D mm_M_find 88 (.iaload) 1 89 := ⟨by decide +kernel, rfl⟩
theorem dd_M_find_89 : ad_D mm_M_find 89 (.aload_n 0) 1 90 := ⟨by decide +kernel, rfl⟩
theorem dd_M_find_90 : ad_D mm_M_find 90 (.iload_n 3) 1 91 := ⟨by decide +kernel, rfl⟩
theorem dd_M_find_91 : ad_D mm_M_find 91 (.iload 4) 2 93 := ⟨by decide +kernel, rfl⟩
theorem dd_M_find_93 : ad_D mm_M_find 93 (.invokevirtual 187) 3 96 := ⟨by decide +kernel, rfl⟩
theorem dd_M_find_96 : ad_D mm_M_find 96 (.imul) 1 97 := ⟨by decide +kernel, rfl⟩
theorem dd_M_find_97 : ad_D mm_M_find 97 (.iastore) 1 98 := ⟨by decide +kernel, rfl⟩
theorem dd_M_find_98 : ad_D mm_M_find 98 (.iinc 3 1) 3 101 := ⟨by decide +kernel, rfl⟩
theorem dd_M_find_101 : ad_D mm_M_find 101 (.goto (-99)) 3 104 := ⟨by decide +kernel, rfl⟩
theorem dd_M_find_104 : ad_D mm_M_find 104 (.iconst 0) 1 105 := ⟨by decide +kernel, rfl⟩
theorem dd_M_find_105 : ad_D mm_M_find 105 (.istore_n 3) 1 106 := ⟨by decide +kernel, rfl⟩
theorem dd_M_find_106 : ad_D mm_M_find 106 (.aload_n 0) 1 107 := ⟨by decide +kernel, rfl⟩
theorem dd_M_find_107 : ad_D mm_M_find 107 (.iconst 0) 1 108 := ⟨by decide +kernel, rfl⟩
theorem dd_M_find_108 : ad_D mm_M_find 108 (.putfield 326) 3 111 := ⟨by decide +kernel, rfl⟩
theorem dd_M_find_111 : ad_D mm_M_find 111 (.iconst 1) 1 112 := ⟨by decide +kernel, rfl⟩
theorem dd_M_find_112 : ad_D mm_M_find 112 (.istore 4) 2 114 := ⟨by decide +kernel, rfl⟩
theorem dd_M_find_114 : ad_D mm_M_find 114 (.iload 4) 2 116 := ⟨by decide +kernel, rfl⟩
theorem dd_M_find_116 : ad_D mm_M_find 116 (.iload_n 1) 1 117 := ⟨by decide +kernel, rfl⟩
theorem dd_M_find_117 : ad_D mm_M_find 117 (.if_icmp .gt 109) 3 120 := ⟨by decide +kernel, rfl⟩
theorem dd_M_find_120 : ad_D mm_M_find 120 (.iload 4) 2 122 := ⟨by decide +kernel, rfl⟩
theorem dd_M_find_122 : ad_D mm_M_find 122 (.iload_n 1) 1 123 := ⟨by decide +kernel, rfl⟩
theorem dd_M_find_123 : ad_D mm_M_find 123 (.iconst (-1)) 1 124 := ⟨by decide +kernel, rfl⟩
theorem dd_M_find_124 : ad_D mm_M_find 124 (.ixor) 1 125 := ⟨by decide +kernel, rfl⟩
theorem dd_M_find_125 : ad_D mm_M_find 125 (.iand) 1 126 := ⟨by decide +kernel, rfl⟩
theorem dd_M_find_126 : ad_D mm_M_find 126 (.ifCond .eq 6) 3 129 := ⟨by decide +kernel, rfl⟩
theorem dd_M_find_129 : ad_D mm_M_find 129 (.goto 91) 3 132 := ⟨by decide +kernel, rfl⟩
theorem dd_M_find_132 : ad_D mm_M_find 132 (.iconst 0) 1 133 := ⟨by decide +kernel, rfl⟩
theorem dd_M_find_133 : ad_D mm_M_find 133 (.istore 5) 2 135 := ⟨by decide +kernel, rfl⟩
theorem dd_M_find_135 : ad_D mm_M_find 135 (.iconst 0) 1 136 := ⟨by decide +kernel, rfl⟩
theorem dd_M_find_136 : ad_D mm_M_find 136 (.istore 6) 2 138 := ⟨by decide +kernel, rfl⟩
theorem dd_M_find_138 : ad_D mm_M_find 138 (.iconst 0) 1 139 := ⟨by decide +kernel, rfl⟩
theorem dd_M_find_139 : ad_D mm_M_find 139 (.istore 7) 2 141 := ⟨by decide +kernel, rfl⟩
theorem dd_M_find_141 : ad_D mm_M_find 141 (.iload 7) 2 143 := ⟨by decide +kernel, rfl⟩
theorem dd_M_find_143 : ad_D mm_M_find 143 (.aload_n 0) 1 144 := ⟨by decide +kernel, rfl⟩
theorem dd_M_find_144 : ad_D mm_M_find 144 (.getfield 152) 3 147 := ⟨by decide +kernel, rfl⟩
theorem dd_M_find_147 : ad_D mm_M_find 147 (.if_icmp .ge 37) 3 150 := ⟨by decide +kernel, rfl⟩
theorem dd_M_find_150 : ad_D mm_M_find 150 (.iload 4) 2 152 := ⟨by decide +kernel, rfl⟩
theorem dd_M_find_152 : ad_D mm_M_find 152 (.iload 7) 2 154 := ⟨by decide +kernel, rfl⟩
theorem dd_M_find_154 : ad_D mm_M_find 154 (.ishr) 1 155 := ⟨by decide +kernel, rfl⟩
theorem dd_M_find_155 : ad_D mm_M_find 155 (.iconst 1) 1 156 := ⟨by decide +kernel, rfl⟩
theorem dd_M_find_156 : ad_D mm_M_find 156 (.iand) 1 157 := ⟨by decide +kernel, rfl⟩
theorem dd_M_find_157 : ad_D mm_M_find 157 (.ifCond .ne 6) 3 160 := ⟨by decide +kernel, rfl⟩
theorem dd_M_find_160 : ad_D mm_M_find 160 (.goto 18) 3 163 := ⟨by decide +kernel, rfl⟩
theorem dd_M_find_163 : ad_D mm_M_find 163 (.iinc 5 1) 3 166 := ⟨by decide +kernel, rfl⟩
theorem dd_M_find_166 : ad_D mm_M_find 166 (.iload 6) 2 168 := ⟨by decide +kernel, rfl⟩
theorem dd_M_find_168 : ad_D mm_M_find 168 (.aload_n 0) 1 169 := ⟨by decide +kernel, rfl⟩
theorem dd_M_find_169 : ad_D mm_M_find 169 (.getfield 143) 3 172 := ⟨by decide +kernel, rfl⟩
theorem dd_M_find_172 : ad_D mm_M_find 172 (.iload 7) 2 174 := ⟨by decide +kernel, rfl⟩
theorem dd_M_find_174 : ad_D mm_M_find 174 (.iaload) 1 175 := ⟨by decide +kernel, rfl⟩
theorem dd_M_find_175 : ad_D mm_M_find 175 (.iadd) 1 176 := ⟨by decide +kernel, rfl⟩
theorem dd_M_find_176 : ad_D mm_M_find 176 (.istore 6) 2 178 := ⟨by decide +kernel, rfl⟩
theorem dd_M_find_178 : ad_D mm_M_find 178 (.iinc 7 1) 3 181 := ⟨by decide +kernel, rfl⟩
theorem dd_M_find_181 : ad_D mm_M_find 181 (.goto (-40)) 3 184 := ⟨by decide +kernel, rfl⟩
theorem dd_M_find_184 : ad_D mm_M_find 184 (.iload 5) 2 186 := ⟨by decide +kernel, rfl⟩
theorem dd_M_find_186 : ad_D mm_M_find 186 (.iload_n 2) 1 187 := ⟨by decide +kernel, rfl⟩
theorem dd_M_find_187 : ad_D mm_M_find 187 (.if_icmp .gt 33) 3 190 := ⟨by decide +kernel, rfl⟩
theorem dd_M_find_190 : ad_D mm_M_find 190 (.iload 6) 2 192 := ⟨by decide +kernel, rfl⟩
theorem dd_M_find_192 : ad_D mm_M_find 192 (.aload_n 0) 1 193 := ⟨by decide +kernel, rfl⟩
theorem dd_M_find_193 : ad_D mm_M_find 193 (.getfield 326) 3 196 := ⟨by decide +kernel, rfl⟩
theorem dd_M_find_196 : ad_D mm_M_find 196 (.if_icmp .le 24) 3 199 := ⟨by decide +kernel, rfl⟩
theorem dd_M_find_199 : ad_D mm_M_find 199 (.aload_n 0) 1 200 := ⟨by decide +kernel, rfl⟩
theorem dd_M_find_200 : ad_D mm_M_find 200 (.iload 4) 2 202 := ⟨by decide +kernel, rfl⟩
theorem dd_M_find_202 : ad_D mm_M_find 202 (.invokevirtual 329) 3 205 := ⟨by decide +kernel, rfl⟩
theorem dd_M_find_205 : ad_D mm_M_find 205 (.ifCond .ne 6) 3 208 := ⟨by decide +kernel, rfl⟩
theorem dd_M_find_208 : ad_D mm_M_find 208 (.goto 12) 3 211 := ⟨by decide +kernel, rfl⟩
theorem dd_M_find_211 : ad_D mm_M_find 211 (.iload 4) 2 213 := ⟨by decide +kernel, rfl⟩
theorem dd_M_find_213 : ad_D mm_M_find 213 (.istore_n 3) 1 214 := ⟨by decide +kernel, rfl⟩
theorem dd_M_find_214 : ad_D mm_M_find 214 (.aload_n 0) 1 215 := ⟨by decide +kernel, rfl⟩
theorem dd_M_find_215 : ad_D mm_M_find 215 (.iload 6) 2 217 := ⟨by decide +kernel, rfl⟩
theorem dd_M_find_217 : ad_D mm_M_find 217 (.putfield 326) 3 220 := ⟨by decide +kernel, rfl⟩
theorem dd_M_find_220 : ad_D mm_M_find 220 (.iinc 4 1) 3 223 := ⟨by decide +kernel, rfl⟩
theorem dd_M_find_223 : ad_D mm_M_find 223 (.goto (-109)) 3 226 := ⟨by decide +kernel, rfl⟩
theorem dd_M_find_226 : ad_D mm_M_find 226 (.iload_n 3) 1 227 := ⟨by decide +kernel, rfl⟩
theorem dd_M_find_227 : ad_D mm_M_find 227 (.ireturn) 1 228 := ⟨by decide +kernel, rfl⟩
theorem dd_M_could_0 : ad_D mm_M_could 0 (.ldc_w 259) 3 3 := ⟨by decide +kernel, rfl⟩
theorem dd_M_could_3 : ad_D mm_M_could 3 (.istore_n 2) 1 4 := ⟨by decide +kernel, rfl⟩
theorem dd_M_could_4 : ad_D mm_M_could 4 (.iconst 0) 1 5 := ⟨by decide +kernel, rfl⟩
theorem dd_M_could_5 : ad_D mm_M_could 5 (.istore_n 3) 1 6 := ⟨by decide +kernel, rfl⟩
theorem dd_M_could_6 : ad_D mm_M_could 6 (.iconst 0) 1 7 := ⟨by decide +kernel, rfl⟩
theorem dd_M_could_7 : ad_D mm_M_could 7 (.istore 4) 2 9 := ⟨by decide +kernel, rfl⟩
theorem dd_M_could_9 : ad_D mm_M_could 9 (.iload 4) 2 11 := ⟨by decide +kernel, rfl⟩
theorem dd_M_could_11 : ad_D mm_M_could 11 (.aload_n 0) 1 12 := ⟨by decide +kernel, rfl⟩
theorem dd_M_could_12 : ad_D mm_M_could 12 (.getfield 152) 3 15 := ⟨by decide +kernel, rfl⟩
theorem dd_M_could_15 : ad_D mm_M_could 15 (.if_icmp .ge 88) 3 18 := ⟨by decide +kernel, rfl⟩
theorem dd_M_could_18 : ad_D mm_M_could 18 (.aload_n 0) 1 19 := ⟨by decide +kernel, rfl⟩
theorem dd_M_could_19 : ad_D mm_M_could 19 (.getfield 146) 3 22 := ⟨by decide +kernel, rfl⟩
theorem dd_M_could_22 : ad_D mm_M_could 22 (.iload 4) 2 24 := ⟨by decide +kernel, rfl⟩
theorem dd_M_could_24 : ad_D mm_M_could 24 (.iload_n 1) 1 25 := ⟨by decide +kernel, rfl⟩
theorem dd_M_could_25 : ad_D mm_M_could 25 (.iload 4) 2 27 := ⟨by decide +kernel, rfl⟩
theorem dd_M_could_27 : ad_D mm_M_could 27 (.ishr) 1 28 := ⟨by decide +kernel, rfl⟩
theorem dd_M_could_28 : ad_D mm_M_could 28 (.iconst 1) 1 29 := ⟨by decide +kernel, rfl⟩
theorem dd_M_could_29 : ad_D mm_M_could 29 (.iand) 1 30 := ⟨by decide +kernel, rfl⟩
theorem dd_M_could_30 : ad_D mm_M_could 30 (.iconst 1) 1 31 := ⟨by decide +kernel, rfl⟩
theorem dd_M_could_31 : ad_D mm_M_could 31 (.if_icmp .ne 13) 3 34 := ⟨by decide +kernel, rfl⟩
theorem dd_M_could_34 : ad_D mm_M_could 34 (.aload_n 0) 1 35 := ⟨by decide +kernel, rfl⟩
theorem dd_M_could_35 : ad_D mm_M_could 35 (.getfield 30) 3 38 := ⟨by decide +kernel, rfl⟩
theorem dd_M_could_38 : ad_D mm_M_could 38 (.iload 4) 2 40 := ⟨by decide +kernel, rfl⟩
theorem dd_M_could_40 : ad_D mm_M_could 40 (.iaload) 1 41 := ⟨by decide +kernel, rfl⟩
theorem dd_M_could_41 : ad_D mm_M_could 41 (.goto 4) 3 44 := ⟨by decide +kernel, rfl⟩
theorem dd_M_could_44 : ad_D mm_M_could 44 (.iconst 0) 1 45 := ⟨by decide +kernel, rfl⟩
theorem dd_M_could_45 : ad_D mm_M_could 45 (.iastore) 1 46 := ⟨by decide +kernel, rfl⟩
theorem dd_M_could_46 : ad_D mm_M_could 46 (.aload_n 0) 1 47 := ⟨by decide +kernel, rfl⟩
theorem dd_M_could_47 : ad_D mm_M_could 47 (.getfield 146) 3 50 := ⟨by decide +kernel, rfl⟩
theorem dd_M_could_50 : ad_D mm_M_could 50 (.iload 4) 2 52 := ⟨by decide +kernel, rfl⟩
theorem dd_M_could_52 : ad_D mm_M_could 52 (.iaload) 1 53 := ⟨by decide +kernel, rfl⟩
theorem dd_M_could_53 : ad_D mm_M_could 53 (.ifCond .ne 6) 3 56 := ⟨by decide +kernel, rfl⟩
theorem dd_M_could_56 : ad_D mm_M_could 56 (.goto 41) 3 59 := ⟨by decide +kernel, rfl⟩
theorem dd_M_could_59 : ad_D mm_M_could 59 (.aload_n 0) 1 60 := ⟨by decide +kernel, rfl⟩
theorem dd_M_could_60 : ad_D mm_M_could 60 (.getfield 137) 3 63 := ⟨by decide +kernel, rfl⟩
theorem dd_M_could_63 : ad_D mm_M_could 63 (.iload 4) 2 65 := ⟨by decide +kernel, rfl⟩
theorem dd_M_could_65 : ad_D mm_M_could 65 (.iaload) 1 66 := ⟨by decide +kernel, rfl⟩
theorem dd_M_could_66 : ad_D mm_M_could 66 (.iload_n 2) 1 67 := ⟨by decide +kernel, rfl⟩
theorem dd_M_could_67 : ad_D mm_M_could 67 (.if_icmp .ge 11) 3 70 := ⟨by decide +kernel, rfl⟩
theorem dd_M_could_70 : ad_D mm_M_could 70 (.aload_n 0) 1 71 := ⟨by decide +kernel, rfl⟩
theorem dd_M_could_71 : ad_D mm_M_could 71 (.getfield 137) 3 74 := ⟨by decide +kernel, rfl⟩
theorem dd_M_could_74 : ad_D mm_M_could 74 (.iload 4) 2 76 := ⟨by decide +kernel, rfl⟩
theorem dd_M_could_76 : ad_D mm_M_could 76 (.iaload) 1 77 := ⟨by decide +kernel, rfl⟩
theorem dd_M_could_77 : ad_D mm_M_could 77 (.istore_n 2) 1 78 := ⟨by decide +kernel, rfl⟩
theorem dd_M_could_78 : ad_D mm_M_could 78 (.aload_n 0) 1 79 := ⟨by decide +kernel, rfl⟩
theorem dd_M_could_79 : ad_D mm_M_could 79 (.getfield 140) 3 82 := ⟨by decide +kernel, rfl⟩
theorem dd_M_could_82 : ad_D mm_M_could 82 (.iload 4) 2 84 := ⟨by decide +kernel, rfl⟩
theorem dd_M_could_84 : ad_D mm_M_could 84 (.iaload) 1 85 := ⟨by decide +kernel, rfl⟩
theorem dd_M_could_85 : ad_D mm_M_could 85 (.iload_n 3) 1 86 := ⟨by decide +kernel, rfl⟩
theorem dd_M_could_86 : ad_D mm_M_could 86 (.if_icmp .le 11) 3 89 := ⟨by decide +kernel, rfl⟩
theorem dd_M_could_89 : ad_D mm_M_could 89 (.aload_n 0) 1 90 := ⟨by decide +kernel, rfl⟩
theorem dd_M_could_90 : ad_D mm_M_could 90 (.getfield 140) 3 93 := ⟨by decide +kernel, rfl⟩
theorem dd_M_could_93 : ad_D mm_M_could 93 (.iload 4) 2 95 := ⟨by decide +kernel, rfl⟩
theorem dd_M_could_95 : ad_D mm_M_could 95 (.iaload) 1 96 := ⟨by decide +kernel, rfl⟩
theorem dd_M_could_96 : ad_D mm_M_could 96 (.istore_n 3) 1 97 := ⟨by decide +kernel, rfl⟩
theorem dd_M_could_97 : ad_D mm_M_could 97 (.iinc 4 1) 3 100 := ⟨by decide +kernel, rfl⟩
theorem dd_M_could_100 : ad_D mm_M_could 100 (.goto (-91)) 3 103 := ⟨by decide +kernel, rfl⟩
theorem dd_M_could_103 : ad_D mm_M_could 103 (.iload_n 2) 1 104 := ⟨by decide +kernel, rfl⟩
theorem dd_M_could_104 : ad_D mm_M_could 104 (.istore 4) 2 106 := ⟨by decide +kernel, rfl⟩
theorem dd_M_could_106 : ad_D mm_M_could 106 (.iload 4) 2 108 := ⟨by decide +kernel, rfl⟩
theorem dd_M_could_108 : ad_D mm_M_could 108 (.iload_n 3) 1 109 := ⟨by decide +kernel, rfl⟩
theorem dd_M_could_109 : ad_D mm_M_could 109 (.if_icmp .ge 133) 3 112 := ⟨by decide +kernel, rfl⟩
theorem dd_M_could_112 : ad_D mm_M_could 112 (.aload_n 0) 1 113 := ⟨by decide +kernel, rfl⟩
theorem dd_M_could_113 : ad_D mm_M_could 113 (.getfield 19) 3 116 := ⟨by decide +kernel, rfl⟩
theorem dd_M_could_116 : ad_D mm_M_could 116 (.istore 5) 2 118 := ⟨by decide +kernel, rfl⟩
theorem dd_M_could_118 : ad_D mm_M_could 118 (.aload_n 0) 1 119 := ⟨by decide +kernel, rfl⟩
theorem dd_M_could_119 : ad_D mm_M_could 119 (.iload 4) 2 121 := ⟨by decide +kernel, rfl⟩
theorem dd_M_could_121 : ad_D mm_M_could 121 (.invokevirtual 323) 3 124 := ⟨by decide +kernel, rfl⟩
theorem dd_M_could_124 : ad_D mm_M_could 124 (.istore 6) 2 126 := ⟨by decide +kernel, rfl⟩
theorem dd_M_could_126 : ad_D mm_M_could 126 (.iload 5) 2 128 := ⟨by decide +kernel, rfl⟩
theorem dd_M_could_128 : ad_D mm_M_could 128 (.ifCond .le 64) 3 131 := ⟨by decide +kernel, rfl⟩
theorem dd_M_could_131 : ad_D mm_M_could 131 (.iload 6) 2 133 := ⟨by decide +kernel, rfl⟩
theorem dd_M_could_133 : ad_D mm_M_could 133 (.ifCond .lt 59) 3 136 := ⟨by decide +kernel, rfl⟩
theorem dd_M_could_136 : ad_D mm_M_could 136 (.aload_n 0) 1 137 := ⟨by decide +kernel, rfl⟩
theorem dd_M_could_137 : ad_D mm_M_could 137 (.getfield 146) 3 140 := ⟨by decide +kernel, rfl⟩
theorem dd_M_could_140 : ad_D mm_M_could 140 (.iload 6) 2 142 := ⟨by decide +kernel, rfl⟩
theorem dd_M_could_142 : ad_D mm_M_could 142 (.iaload) 1 143 := ⟨by decide +kernel, rfl⟩
theorem dd_M_could_143 : ad_D mm_M_could 143 (.iload 5) 2 145 := ⟨by decide +kernel, rfl⟩
theorem dd_M_could_145 : ad_D mm_M_could 145 (.if_icmp .ge 13) 3 148 := ⟨by decide +kernel, rfl⟩
theorem dd_M_could_148 : ad_D mm_M_could 148 (.aload_n 0) 1 149 := ⟨by decide +kernel, rfl⟩
theorem dd_M_could_149 : ad_D mm_M_could 149 (.getfield 146) 3 152 := ⟨by decide +kernel, rfl⟩
theorem dd_M_could_152 : ad_D mm_M_could 152 (.iload 6) 2 154 := ⟨by decide +kernel, rfl⟩
theorem dd_M_could_154 : ad_D mm_M_could 154 (.iaload) 1 155 := ⟨by decide +kernel, rfl⟩
theorem dd_M_could_155 : ad_D mm_M_could 155 (.goto 5) 3 158 := ⟨by decide +kernel, rfl⟩
theorem dd_M_could_158 : ad_D mm_M_could 158 (.iload 5) 2 160 := ⟨by decide +kernel, rfl⟩
theorem dd_M_could_160 : ad_D mm_M_could 160 (.istore 7) 2 162 := ⟨by decide +kernel, rfl⟩
theorem dd_M_could_162 : ad_D mm_M_could 162 (.aload_n 0) 1 163 := ⟨by decide +kernel, rfl⟩
theorem dd_M_could_163 : ad_D mm_M_could 163 (.getfield 146) 3 166 := ⟨by decide +kernel, rfl⟩
theorem dd_M_could_166 : ad_D mm_M_could 166 (.iload 6) 2 168 := ⟨by decide +kernel, rfl⟩
theorem dd_M_could_168 : ad_D mm_M_could 168 (.dup2) 1 169 := ⟨by decide +kernel, rfl⟩
theorem dd_M_could_169 : ad_D mm_M_could 169 (.iaload) 1 170 := ⟨by decide +kernel, rfl⟩
theorem dd_M_could_170 : ad_D mm_M_could 170 (.iload 7) 2 172 := ⟨by decide +kernel, rfl⟩
theorem dd_M_could_172 : ad_D mm_M_could 172 (.isub) 1 173 := ⟨by decide +kernel, rfl⟩
theorem dd_M_could_173 : ad_D mm_M_could 173 (.iastore) 1 174 := ⟨by decide +kernel, rfl⟩
theorem dd_M_could_174 : ad_D mm_M_could 174 (.iload 5) 2 176 := ⟨by decide +kernel, rfl⟩
theorem dd_M_could_176 : ad_D mm_M_could 176 (.iload 7) 2 178 := ⟨by decide +kernel, rfl⟩
theorem dd_M_could_178 : ad_D mm_M_could 178 (.isub) 1 179 := ⟨by decide +kernel, rfl⟩
theorem dd_M_could_179 : ad_D mm_M_could 179 (.istore 5) 2 181 := ⟨by decide +kernel, rfl⟩
theorem dd_M_could_181 : ad_D mm_M_could 181 (.aload_n 0) 1 182 := ⟨by decide +kernel, rfl⟩
theorem dd_M_could_182 : ad_D mm_M_could 182 (.iload 4) 2 184 := ⟨by decide +kernel, rfl⟩
theorem dd_M_could_184 : ad_D mm_M_could 184 (.invokevirtual 323) 3 187 := ⟨by decide +kernel, rfl⟩
theorem dd_M_could_187 : ad_D mm_M_could 187 (.istore 6) 2 189 := ⟨by decide +kernel, rfl⟩
theorem dd_M_could_189 : ad_D mm_M_could 189 (.goto (-63)) 3 192 := ⟨by decide +kernel, rfl⟩
theorem dd_M_could_192 : ad_D mm_M_could 192 (.iconst 0) 1 193 := ⟨by decide +kernel, rfl⟩
theorem dd_M_could_193 : ad_D mm_M_could 193 (.istore 7) 2 195 := ⟨by decide +kernel, rfl⟩
theorem dd_M_could_195 : ad_D mm_M_could 195 (.iload 7) 2 197 := ⟨by decide +kernel, rfl⟩
theorem dd_M_could_197 : ad_D mm_M_could 197 (.aload_n 0) 1 198 := ⟨by decide +kernel, rfl⟩
theorem dd_M_could_198 : ad_D mm_M_could 198 (.getfield 152) 3 201 := ⟨by decide +kernel, rfl⟩
theorem dd_M_could_201 : ad_D mm_M_could 201 (.if_icmp .ge 35) 3 204 := ⟨by decide +kernel, rfl⟩
theorem dd_M_could_204 : ad_D mm_M_could 204 (.aload_n 0) 1 205 := ⟨by decide +kernel, rfl⟩
theorem dd_M_could_205 : ad_D mm_M_could 205 (.getfield 146) 3 208 := ⟨by decide +kernel, rfl⟩
theorem dd_M_could_208 : ad_D mm_M_could 208 (.iload 7) 2 210 := ⟨by decide +kernel, rfl⟩
theorem dd_M_could_210 : ad_D mm_M_could 210 (.iaload) 1 211 := ⟨by decide +kernel, rfl⟩
theorem dd_M_could_211 : ad_D mm_M_could 211 (.ifCond .le 19) 3 214 := ⟨by decide +kernel, rfl⟩
theorem dd_M_could_214 : ad_D mm_M_could 214 (.aload_n 0) 1 215 := ⟨by decide +kernel, rfl⟩
theorem dd_M_could_215 : ad_D mm_M_could 215 (.getfield 140) 3 218 := ⟨by decide +kernel, rfl⟩
theorem dd_M_could_218 : ad_D mm_M_could 218 (.iload 7) 2 220 := ⟨by decide +kernel, rfl⟩
theorem dd_M_could_220 : ad_D mm_M_could 220 (.iaload) 1 221 := ⟨by decide +kernel, rfl⟩
theorem dd_M_could_221 : ad_D mm_M_could 221 (.iload 4) 2 223 := ⟨by decide +kernel, rfl⟩
theorem dd_M_could_223 : ad_D mm_M_could 223 (.iconst 1) 1 224 := ⟨by decide +kernel, rfl⟩
theorem dd_M_could_224 : ad_D mm_M_could 224 (.iadd) 1 225 := ⟨by decide +kernel, rfl⟩
theorem dd_M_could_225 : ad_D mm_M_could 225 (.if_icmp .gt 5) 3 228 := ⟨by decide +kernel, rfl⟩
theorem dd_M_could_228 : ad_D mm_M_could 228 (.iconst 0) 1 229 := ⟨by decide +kernel, rfl⟩
theorem dd_M_could_229 : ad_D mm_M_could 229 (.ireturn) 1 230 := ⟨by decide +kernel, rfl⟩
theorem dd_M_could_230 : ad_D mm_M_could 230 (.iinc 7 1) 3 233 := ⟨by decide +kernel, rfl⟩
theorem dd_M_could_233 : ad_D mm_M_could 233 (.goto (-38)) 3 236 := ⟨by decide +kernel, rfl⟩
theorem dd_M_could_236 : ad_D mm_M_could 236 (.iinc 4 1) 3 239 := ⟨by decide +kernel, rfl⟩
theorem dd_M_could_239 : ad_D mm_M_could 239 (.goto (-133)) 3 242 := ⟨by decide +kernel, rfl⟩
theorem dd_M_could_242 : ad_D mm_M_could 242 (.iconst 0) 1 243 := ⟨by decide +kernel, rfl⟩
theorem dd_M_could_243 : ad_D mm_M_could 243 (.istore 4) 2 245 := ⟨by decide +kernel, rfl⟩
theorem dd_M_could_245 : ad_D mm_M_could 245 (.iload 4) 2 247 := ⟨by decide +kernel, rfl⟩
theorem dd_M_could_247 : ad_D mm_M_could 247 (.aload_n 0) 1 248 := ⟨by decide +kernel, rfl⟩
theorem dd_M_could_248 : ad_D mm_M_could 248 (.getfield 152) 3 251 := ⟨by decide +kernel, rfl⟩
theorem dd_M_could_251 : ad_D mm_M_could 251 (.if_icmp .ge 21) 3 254 := ⟨by decide +kernel, rfl⟩
theorem dd_M_could_254 : ad_D mm_M_could 254 (.aload_n 0) 1 255 := ⟨by decide +kernel, rfl⟩
theorem dd_M_could_255 : ad_D mm_M_could 255 (.getfield 146) 3 258 := ⟨by decide +kernel, rfl⟩
theorem dd_M_could_258 : ad_D mm_M_could 258 (.iload 4) 2 260 := ⟨by decide +kernel, rfl⟩
theorem dd_M_could_260 : ad_D mm_M_could 260 (.iaload) 1 261 := ⟨by decide +kernel, rfl⟩
theorem dd_M_could_261 : ad_D mm_M_could 261 (.ifCond .le 5) 3 264 := ⟨by decide +kernel, rfl⟩
theorem dd_M_could_264 : ad_D mm_M_could 264 (.iconst 0) 1 265 := ⟨by decide +kernel, rfl⟩
theorem dd_M_could_265 : ad_D mm_M_could 265 (.ireturn) 1 266 := ⟨by decide +kernel, rfl⟩
theorem dd_M_could_266 : ad_D mm_M_could 266 (.iinc 4 1) 3 269 := ⟨by decide +kernel, rfl⟩
theorem dd_M_could_269 : ad_D mm_M_could 269 (.goto (-24)) 3 272 := ⟨by decide +kernel, rfl⟩
theorem dd_M_could_272 : ad_D mm_M_could 272 (.iconst 1) 1 273 := ⟨by decide +kernel, rfl⟩
theorem dd_M_could_273 : ad_D mm_M_could 273 (.ireturn) 1 274 := ⟨by decide +kernel, rfl⟩
theorem dd_M_dyingFirst_0 : ad_D mm_M_dyingFirst 0 (.iconst (-1)) 1 1 := ⟨by decide +kernel, rfl⟩
theorem dd_M_dyingFirst_1 : ad_D mm_M_dyingFirst 1 (.istore_n 2) 1 2 := ⟨by decide +kernel, rfl⟩
theorem dd_M_dyingFirst_2 : ad_D mm_M_dyingFirst 2 (.iconst 0) 1 3 := ⟨by decide +kernel, rfl⟩
theorem dd_M_dyingFirst_3 : ad_D mm_M_dyingFirst 3 (.istore_n 3) 1 4 := ⟨by decide +kernel, rfl⟩
theorem dd_M_dyingFirst_4 : ad_D mm_M_dyingFirst 4 (.iload_n 3) 1 5 := ⟨by decide +kernel, rfl⟩
theorem dd_M_dyingFirst_5 : ad_D mm_M_dyingFirst 5 (.aload_n 0) 1 6 := ⟨by decide +kernel, rfl⟩
theorem dd_M_dyingFirst_6 : ad_D mm_M_dyingFirst 6 (.getfield 152) 3 9 := ⟨by decide +kernel, rfl⟩
theorem dd_M_dyingFirst_9 : ad_D mm_M_dyingFirst 9 (.if_icmp .ge 49) 3 12 := ⟨by decide +kernel, rfl⟩
theorem dd_M_dyingFirst_12 : ad_D mm_M_dyingFirst 12 (.aload_n 0) 1 13 := ⟨by decide +kernel, rfl⟩
theorem dd_M_dyingFirst_13 : ad_D mm_M_dyingFirst 13 (.getfield 146) 3 16 := ⟨by decide +kernel, rfl⟩
theorem dd_M_dyingFirst_16 : ad_D mm_M_dyingFirst 16 (.iload_n 3) 1 17 := ⟨by decide +kernel, rfl⟩
theorem dd_M_dyingFirst_17 : ad_D mm_M_dyingFirst 17 (.iaload) 1 18 := ⟨by decide +kernel, rfl⟩
theorem dd_M_dyingFirst_18 : ad_D mm_M_dyingFirst 18 (.ifCond .le 34) 3 21 := ⟨by decide +kernel, rfl⟩
theorem dd_M_dyingFirst_21 : ad_D mm_M_dyingFirst 21 (.aload_n 0) 1 22 := ⟨by decide +kernel, rfl⟩
theorem dd_M_dyingFirst_22 : ad_D mm_M_dyingFirst 22 (.getfield 137) 3 25 := ⟨by decide +kernel, rfl⟩
theorem dd_M_dyingFirst_25 : ad_D mm_M_dyingFirst 25 (.iload_n 3) 1 26 := ⟨by decide +kernel, rfl⟩
theorem dd_M_dyingFirst_26 : ad_D mm_M_dyingFirst 26 (.iaload) 1 27 := ⟨by decide +kernel, rfl⟩
theorem dd_M_dyingFirst_27 : ad_D mm_M_dyingFirst 27 (.iload_n 1) 1 28 := ⟨by decide +kernel, rfl⟩
theorem dd_M_dyingFirst_28 : ad_D mm_M_dyingFirst 28 (.if_icmp .gt 24) 3 31 := ⟨by decide +kernel, rfl⟩
theorem dd_M_dyingFirst_31 : ad_D mm_M_dyingFirst 31 (.iload_n 2) 1 32 := ⟨by decide +kernel, rfl⟩
theorem dd_M_dyingFirst_32 : ad_D mm_M_dyingFirst 32 (.ifCond .lt 18) 3 35 := ⟨by decide +kernel, rfl⟩
theorem dd_M_dyingFirst_35 : ad_D mm_M_dyingFirst 35 (.aload_n 0) 1 36 := ⟨by decide +kernel, rfl⟩
theorem dd_M_dyingFirst_36 : ad_D mm_M_dyingFirst 36 (.getfield 140) 3 39 := ⟨by decide +kernel, rfl⟩
theorem dd_M_dyingFirst_39 : ad_D mm_M_dyingFirst 39 (.iload_n 3) 1 40 := ⟨by decide +kernel, rfl⟩
theorem dd_M_dyingFirst_40 : ad_D mm_M_dyingFirst 40 (.iaload) 1 41 := ⟨by decide +kernel, rfl⟩
theorem dd_M_dyingFirst_41 : ad_D mm_M_dyingFirst 41 (.aload_n 0) 1 42 := ⟨by decide +kernel, rfl⟩
theorem dd_M_dyingFirst_42 : ad_D mm_M_dyingFirst 42 (.getfield 140) 3 45 := ⟨by decide +kernel, rfl⟩
theorem dd_M_dyingFirst_45 : ad_D mm_M_dyingFirst 45 (.iload_n 2) 1 46 := ⟨by decide +kernel, rfl⟩
theorem dd_M_dyingFirst_46 : ad_D mm_M_dyingFirst 46 (.iaload) 1 47 := ⟨by decide +kernel, rfl⟩
theorem dd_M_dyingFirst_47 : ad_D mm_M_dyingFirst 47 (.if_icmp .ge 5) 3 50 := ⟨by decide +kernel, rfl⟩
theorem dd_M_dyingFirst_50 : ad_D mm_M_dyingFirst 50 (.iload_n 3) 1 51 := ⟨by decide +kernel, rfl⟩
theorem dd_M_dyingFirst_51 : ad_D mm_M_dyingFirst 51 (.istore_n 2) 1 52 := ⟨by decide +kernel, rfl⟩
theorem dd_M_dyingFirst_52 : ad_D mm_M_dyingFirst 52 (.iinc 3 1) 3 55 := ⟨by decide +kernel, rfl⟩
theorem dd_M_dyingFirst_55 : ad_D mm_M_dyingFirst 55 (.goto (-51)) 3 58 := ⟨by decide +kernel, rfl⟩
theorem dd_M_dyingFirst_58 : ad_D mm_M_dyingFirst 58 (.iload_n 2) 1 59 := ⟨by decide +kernel, rfl⟩
theorem dd_M_dyingFirst_59 : ad_D mm_M_dyingFirst 59 (.ireturn) 1 60 := ⟨by decide +kernel, rfl⟩
theorem dd_M_bestSet_0 : ad_D mm_M_bestSet 0 (.aload_n 0) 1 1 := ⟨by decide +kernel, rfl⟩
theorem dd_M_bestSet_1 : ad_D mm_M_bestSet 1 (.iload_n 1) 1 2 := ⟨by decide +kernel, rfl⟩
theorem dd_M_bestSet_2 : ad_D mm_M_bestSet 2 (.iload_n 2) 1 3 := ⟨by decide +kernel, rfl⟩
theorem dd_M_bestSet_3 : ad_D mm_M_bestSet 3 (.invokevirtual 332) 3 6 := ⟨by decide +kernel, rfl⟩
theorem dd_M_bestSet_6 : ad_D mm_M_bestSet 6 (.ifCond .eq 12) 3 9 := ⟨by decide +kernel, rfl⟩
theorem dd_M_bestSet_9 : ad_D mm_M_bestSet 9 (.aload_n 0) 1 10 := ⟨by decide +kernel, rfl⟩
theorem dd_M_bestSet_10 : ad_D mm_M_bestSet 10 (.iload_n 1) 1 11 := ⟨by decide +kernel, rfl⟩
theorem dd_M_bestSet_11 : ad_D mm_M_bestSet 11 (.iload_n 2) 1 12 := ⟨by decide +kernel, rfl⟩
theorem dd_M_bestSet_12 : ad_D mm_M_bestSet 12 (.invokevirtual 336) 3 15 := ⟨by decide +kernel, rfl⟩
theorem dd_M_bestSet_15 : ad_D mm_M_bestSet 15 (.goto 4) 3 18 := ⟨by decide +kernel, rfl⟩
theorem dd_M_bestSet_18 : ad_D mm_M_bestSet 18 (.iconst (-1)) 1 19 := ⟨by decide +kernel, rfl⟩
theorem dd_M_bestSet_19 : ad_D mm_M_bestSet 19 (.ireturn) 1 20 := ⟨by decide +kernel, rfl⟩
theorem dd_M_paid_0 : ad_D mm_M_paid 0 (.iload_n 1) 1 1 := ⟨by decide +kernel, rfl⟩
theorem dd_M_paid_1 : ad_D mm_M_paid 1 (.iconst 0) 1 2 := ⟨by decide +kernel, rfl⟩
theorem dd_M_paid_2 : ad_D mm_M_paid 2 (.aload_n 0) 1 3 := ⟨by decide +kernel, rfl⟩
theorem dd_M_paid_3 : ad_D mm_M_paid 3 (.getfield 166) 3 6 := ⟨by decide +kernel, rfl⟩
theorem dd_M_paid_6 : ad_D mm_M_paid 6 (.iconst 1) 1 7 := ⟨by decide +kernel, rfl⟩
theorem dd_M_paid_7 : ad_D mm_M_paid 7 (.isub) 1 8 := ⟨by decide +kernel, rfl⟩
theorem dd_M_paid_8 : ad_D mm_M_paid 8 (.invokestatic 155) 3 11 := ⟨by decide +kernel, rfl⟩
theorem dd_M_paid_11 : ad_D mm_M_paid 11 (.ifCond .eq 12) 3 14 := ⟨by decide +kernel, rfl⟩
theorem dd_M_paid_14 : ad_D mm_M_paid 14 (.aload_n 0) 1 15 := ⟨by decide +kernel, rfl⟩
theorem dd_M_paid_15 : ad_D mm_M_paid 15 (.getfield 22) 3 18 := ⟨by decide +kernel, rfl⟩
theorem dd_M_paid_18 : ad_D mm_M_paid 18 (.iload_n 1) 1 19 := ⟨by decide +kernel, rfl⟩
theorem dd_M_paid_19 : ad_D mm_M_paid 19 (.laload) 1 20 := ⟨by decide +kernel, rfl⟩
theorem dd_M_paid_20 : ad_D mm_M_paid 20 (.goto 4) 3 23 := ⟨by decide +kernel, rfl⟩
theorem dd_M_paid_23 : ad_D mm_M_paid 23 (.lconst 0) 1 24 := ⟨by decide +kernel, rfl⟩
theorem dd_M_paid_24 : ad_D mm_M_paid 24 (.lreturn) 1 25 := ⟨by decide +kernel, rfl⟩
theorem dd_M_about_0 : ad_D mm_M_about 0 (.iload_n 1) 1 1 := ⟨by decide +kernel, rfl⟩
theorem dd_M_about_1 : ad_D mm_M_about 1 (.bipush 20) 2 3 := ⟨by decide +kernel, rfl⟩
theorem dd_M_about_3 : ad_D mm_M_about 3 (.bipush 19) 2 5 := ⟨by decide +kernel, rfl⟩
theorem dd_M_about_5 : ad_D mm_M_about 5 (.aload_n 0) 1 6 := ⟨by decide +kernel, rfl⟩
theorem dd_M_about_6 : ad_D mm_M_about 6 (.getfield 172) 3 9 := ⟨by decide +kernel, rfl⟩
theorem dd_M_about_9 : ad_D mm_M_about 9 (.iadd) 1 10 := ⟨by decide +kernel, rfl⟩
theorem dd_M_about_10 : ad_D mm_M_about 10 (.invokestatic 155) 3 13 := ⟨by decide +kernel, rfl⟩
theorem dd_M_about_13 : ad_D mm_M_about 13 (.ifCond .eq 13) 3 16 := ⟨by decide +kernel, rfl⟩
theorem dd_M_about_16 : ad_D mm_M_about 16 (.aload_n 0) 1 17 := ⟨by decide +kernel, rfl⟩
theorem dd_M_about_17 : ad_D mm_M_about 17 (.getfield 110) 3 20 := ⟨by decide +kernel, rfl⟩
theorem dd_M_about_20 : ad_D mm_M_about 20 (.iload_n 1) 1 21 := ⟨by decide +kernel, rfl⟩
theorem dd_M_about_21 : ad_D mm_M_about 21 (.bipush 20) 2 23 := ⟨by decide +kernel, rfl⟩
theorem dd_M_about_23 : ad_D mm_M_about 23 (.isub) 1 24 := ⟨by decide +kernel, rfl⟩
theorem dd_M_about_24 : ad_D mm_M_about 24 (.iaload) 1 25 := ⟨by decide +kernel, rfl⟩
theorem dd_M_about_25 : ad_D mm_M_about 25 (.ireturn) 1 26 := ⟨by decide +kernel, rfl⟩
theorem dd_M_about_26 : ad_D mm_M_about 26 (.iconst 0) 1 27 := ⟨by decide +kernel, rfl⟩
theorem dd_M_about_27 : ad_D mm_M_about 27 (.istore_n 2) 1 28 := ⟨by decide +kernel, rfl⟩
theorem dd_M_about_28 : ad_D mm_M_about 28 (.iconst 0) 1 29 := ⟨by decide +kernel, rfl⟩
theorem dd_M_about_29 : ad_D mm_M_about 29 (.istore_n 3) 1 30 := ⟨by decide +kernel, rfl⟩
theorem dd_M_about_30 : ad_D mm_M_about 30 (.iload_n 3) 1 31 := ⟨by decide +kernel, rfl⟩
theorem dd_M_about_31 : ad_D mm_M_about 31 (.aload_n 0) 1 32 := ⟨by decide +kernel, rfl⟩
theorem dd_M_about_32 : ad_D mm_M_about 32 (.getfield 16) 3 35 := ⟨by decide +kernel, rfl⟩
theorem dd_M_about_35 : ad_D mm_M_about 35 (.if_icmp .ge 30) 3 38 := ⟨by decide +kernel, rfl⟩
theorem dd_M_about_38 : ad_D mm_M_about 38 (.iload_n 2) 1 39 := ⟨by decide +kernel, rfl⟩
theorem dd_M_about_39 : ad_D mm_M_about 39 (.aload_n 0) 1 40 := ⟨by decide +kernel, rfl⟩
theorem dd_M_about_40 : ad_D mm_M_about 40 (.getfield 100) 3 43 := ⟨by decide +kernel, rfl⟩
theorem dd_M_about_43 : ad_D mm_M_about 43 (.iload_n 3) 1 44 := ⟨by decide +kernel, rfl⟩
theorem dd_M_about_44 : ad_D mm_M_about 44 (.iaload) 1 45 := ⟨by decide +kernel, rfl⟩
theorem dd_M_about_45 : ad_D mm_M_about 45 (.aload_n 0) 1 46 := ⟨by decide +kernel, rfl⟩
theorem dd_M_about_46 : ad_D mm_M_about 46 (.getfield 159) 3 49 := ⟨by decide +kernel, rfl⟩
theorem dd_M_about_49 : ad_D mm_M_about 49 (.if_icmp .gt 7) 3 52 := ⟨by decide +kernel, rfl⟩
theorem dd_M_about_52 : ad_D mm_M_about 52 (.iconst 1) 1 53 := ⟨by decide +kernel, rfl⟩
theorem dd_M_about_53 : ad_D mm_M_about 53 (.goto 4) 3 56 := ⟨by decide +kernel, rfl⟩
theorem dd_M_about_56 : ad_D mm_M_about 56 (.iconst 0) 1 57 := ⟨by decide +kernel, rfl⟩
theorem dd_M_about_57 : ad_D mm_M_about 57 (.iadd) 1 58 := ⟨by decide +kernel, rfl⟩
theorem dd_M_about_58 : ad_D mm_M_about 58 (.istore_n 2) 1 59 := ⟨by decide +kernel, rfl⟩
theorem dd_M_about_59 : ad_D mm_M_about 59 (.iinc 3 1) 3 62 := ⟨by decide +kernel, rfl⟩
theorem dd_M_about_62 : ad_D mm_M_about 62 (.goto (-32)) 3 65 := ⟨by decide +kernel, rfl⟩
theorem dd_M_about_65 : ad_D mm_M_about 65 (.iload_n 1) 1 66 := ⟨by decide +kernel, rfl⟩
theorem dd_M_about_66 : ad_D mm_M_about 66 (.tableswitch 110 0 10 #[58, 63, 68, 73, 78, 83, 85, 90, 95, 100, 105]) 58 124 := ⟨by decide +kernel, rfl⟩
theorem dd_M_about_124 : ad_D mm_M_about 124 (.aload_n 0) 1 125 := ⟨by decide +kernel, rfl⟩
theorem dd_M_about_125 : ad_D mm_M_about 125 (.getfield 159) 3 128 := ⟨by decide +kernel, rfl⟩
theorem dd_M_about_128 : ad_D mm_M_about 128 (.ireturn) 1 129 := ⟨by decide +kernel, rfl⟩
theorem dd_M_about_129 : ad_D mm_M_about 129 (.aload_n 0) 1 130 := ⟨by decide +kernel, rfl⟩
theorem dd_M_about_130 : ad_D mm_M_about 130 (.getfield 166) 3 133 := ⟨by decide +kernel, rfl⟩
theorem dd_M_about_133 : ad_D mm_M_about 133 (.ireturn) 1 134 := ⟨by decide +kernel, rfl⟩
theorem dd_M_about_134 : ad_D mm_M_about 134 (.aload_n 0) 1 135 := ⟨by decide +kernel, rfl⟩
theorem dd_M_about_135 : ad_D mm_M_about 135 (.getfield 152) 3 138 := ⟨by decide +kernel, rfl⟩
theorem dd_M_about_138 : ad_D mm_M_about 138 (.ireturn) 1 139 := ⟨by decide +kernel, rfl⟩
theorem dd_M_about_139 : ad_D mm_M_about 139 (.aload_n 0) 1 140 := ⟨by decide +kernel, rfl⟩
theorem dd_M_about_140 : ad_D mm_M_about 140 (.getfield 191) 3 143 := ⟨by decide +kernel, rfl⟩
theorem dd_M_about_143 : ad_D mm_M_about 143 (.ireturn) 1 144 := ⟨by decide +kernel, rfl⟩
theorem dd_M_about_144 : ad_D mm_M_about 144 (.aload_n 0) 1 145 := ⟨by decide +kernel, rfl⟩
theorem dd_M_about_145 : ad_D mm_M_about 145 (.invokevirtual 184) 3 148 := ⟨by decide +kernel, rfl⟩
theorem dd_M_about_148 : ad_D mm_M_about 148 (.ireturn) 1 149 := ⟨by decide +kernel, rfl⟩
theorem dd_M_about_149 : ad_D mm_M_about 149 (.iload_n 2) 1 150 := ⟨by decide +kernel, rfl⟩
theorem dd_M_about_150 : ad_D mm_M_about 150 (.ireturn) 1 151 := ⟨by decide +kernel, rfl⟩
theorem dd_M_about_151 : ad_D mm_M_about 151 (.aload_n 0) 1 152 := ⟨by decide +kernel, rfl⟩
theorem dd_M_about_152 : ad_D mm_M_about 152 (.invokevirtual 176) 3 155 := ⟨by decide +kernel, rfl⟩
theorem dd_M_about_155 : ad_D mm_M_about 155 (.ireturn) 1 156 := ⟨by decide +kernel, rfl⟩
theorem dd_M_about_156 : ad_D mm_M_about 156 (.aload_n 0) 1 157 := ⟨by decide +kernel, rfl⟩
theorem dd_M_about_157 : ad_D mm_M_about 157 (.getfield 205) 3 160 := ⟨by decide +kernel, rfl⟩
theorem dd_M_about_160 : ad_D mm_M_about 160 (.ireturn) 1 161 := ⟨by decide +kernel, rfl⟩
theorem dd_M_about_161 : ad_D mm_M_about 161 (.aload_n 0) 1 162 := ⟨by decide +kernel, rfl⟩
theorem dd_M_about_162 : ad_D mm_M_about 162 (.getfield 226) 3 165 := ⟨by decide +kernel, rfl⟩
theorem dd_M_about_165 : ad_D mm_M_about 165 (.ireturn) 1 166 := ⟨by decide +kernel, rfl⟩
theorem dd_M_about_166 : ad_D mm_M_about 166 (.aload_n 0) 1 167 := ⟨by decide +kernel, rfl⟩
theorem dd_M_about_167 : ad_D mm_M_about 167 (.getfield 107) 3 170 := ⟨by decide +kernel, rfl⟩
theorem dd_M_about_170 : ad_D mm_M_about 170 (.ireturn) 1 171 := ⟨by decide +kernel, rfl⟩
theorem dd_M_about_171 : ad_D mm_M_about 171 (.aload_n 0) 1 172 := ⟨by decide +kernel, rfl⟩
theorem dd_M_about_172 : ad_D mm_M_about 172 (.getfield 235) 3 175 := ⟨by decide +kernel, rfl⟩
theorem dd_M_about_175 : ad_D mm_M_about 175 (.ireturn) 1 176 := ⟨by decide +kernel, rfl⟩
theorem dd_M_about_176 : ad_D mm_M_about 176 (.iconst (-1)) 1 177 := ⟨by decide +kernel, rfl⟩
theorem dd_M_about_177 : ad_D mm_M_about 177 (.ireturn) 1 178 := ⟨by decide +kernel, rfl⟩
end
section
theorem dd_X_init_0 : ad_D mm_X_init 0 (.aload_n 0) 1 1 := ⟨by decide +kernel, rfl⟩
theorem dd_X_init_1 : ad_D mm_X_init 1 (.invokespecial 1) 3 4 := ⟨by decide +kernel, rfl⟩
theorem dd_X_init_4 : ad_D mm_X_init 4 (.aload_n 0) 1 5 := ⟨by decide +kernel, rfl⟩
theorem dd_X_init_5 : ad_D mm_X_init 5 (.iconst 3) 1 6 := ⟨by decide +kernel, rfl⟩
theorem dd_X_init_6 : ad_D mm_X_init 6 (.putfield 7) 3 9 := ⟨by decide +kernel, rfl⟩
theorem dd_X_init_9 : ad_D mm_X_init 9 (.aload_n 0) 1 10 := ⟨by decide +kernel, rfl⟩
theorem dd_X_init_10 : ad_D mm_X_init 10 (.iconst 5) 1 11 := ⟨by decide +kernel, rfl⟩
theorem dd_X_init_11 : ad_D mm_X_init 11 (.putfield 13) 3 14 := ⟨by decide +kernel, rfl⟩
theorem dd_X_init_14 : ad_D mm_X_init 14 (.aload_n 0) 1 15 := ⟨by decide +kernel, rfl⟩
theorem dd_X_init_15 : ad_D mm_X_init 15 (.iconst 3) 1 16 := ⟨by decide +kernel, rfl⟩
theorem dd_X_init_16 : ad_D mm_X_init 16 (.putfield 16) 3 19 := ⟨by decide +kernel, rfl⟩
theorem dd_X_init_19 : ad_D mm_X_init 19 (.aload_n 0) 1 20 := ⟨by decide +kernel, rfl⟩
theorem dd_X_init_20 : ad_D mm_X_init 20 (.bipush 20) 2 22 := ⟨by decide +kernel, rfl⟩
theorem dd_X_init_22 : ad_D mm_X_init 22 (.putfield 19) 3 25 := ⟨by decide +kernel, rfl⟩
theorem dd_X_init_25 : ad_D mm_X_init 25 (.aload_n 0) 1 26 := ⟨by decide +kernel, rfl⟩
theorem dd_X_init_26 : ad_D mm_X_init 26 (.iconst (-1)) 1 27 := ⟨by decide +kernel, rfl⟩
theorem dd_X_init_27 : ad_D mm_X_init 27 (.putfield 22) 3 30 := ⟨by decide +kernel, rfl⟩
theorem dd_X_init_30 : ad_D mm_X_init 30 (.aload_n 0) 1 31 := ⟨by decide +kernel, rfl⟩
theorem dd_X_init_31 : ad_D mm_X_init 31 (.new 25) 3 34 := ⟨by decide +kernel, rfl⟩
theorem dd_X_init_34 : ad_D mm_X_init 34 (.dup) 1 35 := ⟨by decide +kernel, rfl⟩
theorem dd_X_init_35 : ad_D mm_X_init 35 (.invokespecial 27) 3 38 := ⟨by decide +kernel, rfl⟩
theorem dd_X_init_38 : ad_D mm_X_init 38 (.putfield 28) 3 41 := ⟨by decide +kernel, rfl⟩
theorem dd_X_init_41 : ad_D mm_X_init 41 (.aload_n 0) 1 42 := ⟨by decide +kernel, rfl⟩
theorem dd_X_init_42 : ad_D mm_X_init 42 (.new 32) 3 45 := ⟨by decide +kernel, rfl⟩
theorem dd_X_init_45 : ad_D mm_X_init 45 (.dup) 1 46 := ⟨by decide +kernel, rfl⟩
theorem dd_X_init_46 : ad_D mm_X_init 46 (.invokespecial 34) 3 49 := ⟨by decide +kernel, rfl⟩
theorem dd_X_init_49 : ad_D mm_X_init 49 (.putfield 35) 3 52 := ⟨by decide +kernel, rfl⟩
theorem dd_X_init_52 : ad_D mm_X_init 52 (.aload_n 0) 1 53 := ⟨by decide +kernel, rfl⟩
theorem dd_X_init_53 : ad_D mm_X_init 53 (.new 39) 3 56 := ⟨by decide +kernel, rfl⟩
theorem dd_X_init_56 : ad_D mm_X_init 56 (.dup) 1 57 := ⟨by decide +kernel, rfl⟩
theorem dd_X_init_57 : ad_D mm_X_init 57 (.invokespecial 41) 3 60 := ⟨by decide +kernel, rfl⟩
theorem dd_X_init_60 : ad_D mm_X_init 60 (.putfield 42) 3 63 := ⟨by decide +kernel, rfl⟩
theorem dd_X_init_63 : ad_D mm_X_init 63 (.aload_n 0) 1 64 := ⟨by decide +kernel, rfl⟩
theorem dd_X_init_64 : ad_D mm_X_init 64 (.new 46) 3 67 := ⟨by decide +kernel, rfl⟩
theorem dd_X_init_67 : ad_D mm_X_init 67 (.dup) 1 68 := ⟨by decide +kernel, rfl⟩
theorem dd_X_init_68 : ad_D mm_X_init 68 (.invokespecial 48) 3 71 := ⟨by decide +kernel, rfl⟩
theorem dd_X_init_71 : ad_D mm_X_init 71 (.putfield 49) 3 74 := ⟨by decide +kernel, rfl⟩
theorem dd_X_init_74 : ad_D mm_X_init 74 (.aload_n 0) 1 75 := ⟨by decide +kernel, rfl⟩
theorem dd_X_init_75 : ad_D mm_X_init 75 (.new 53) 3 78 := ⟨by decide +kernel, rfl⟩
theorem dd_X_init_78 : ad_D mm_X_init 78 (.dup) 1 79 := ⟨by decide +kernel, rfl⟩
theorem dd_X_init_79 : ad_D mm_X_init 79 (.invokespecial 55) 3 82 := ⟨by decide +kernel, rfl⟩
theorem dd_X_init_82 : ad_D mm_X_init 82 (.putfield 56) 3 85 := ⟨by decide +kernel, rfl⟩
theorem dd_X_init_85 : ad_D mm_X_init 85 (.aload_n 0) 1 86 := ⟨by decide +kernel, rfl⟩
theorem dd_X_init_86 : ad_D mm_X_init 86 (.new 60) 3 89 := ⟨by decide +kernel, rfl⟩
theorem dd_X_init_89 : ad_D mm_X_init 89 (.dup) 1 90 := ⟨by decide +kernel, rfl⟩
theorem dd_X_init_90 : ad_D mm_X_init 90 (.invokespecial 62) 3 93 := ⟨by decide +kernel, rfl⟩
theorem dd_X_init_93 : ad_D mm_X_init 93 (.putfield 63) 3 96 := ⟨by decide +kernel, rfl⟩
theorem dd_X_init_96 : ad_D mm_X_init 96 (.aload_n 0) 1 97 := ⟨by decide +kernel, rfl⟩
theorem dd_X_init_97 : ad_D mm_X_init 97 (.new 60) 3 100 := ⟨by decide +kernel, rfl⟩
theorem dd_X_init_100 : ad_D mm_X_init 100 (.dup) 1 101 := ⟨by decide +kernel, rfl⟩
theorem dd_X_init_101 : ad_D mm_X_init 101 (.invokespecial 62) 3 104 := ⟨by decide +kernel, rfl⟩
theorem dd_X_init_104 : ad_D mm_X_init 104 (.putfield 67) 3 107 := ⟨by decide +kernel, rfl⟩
theorem dd_X_init_107 : ad_D mm_X_init 107 (.aload_n 0) 1 108 := ⟨by decide +kernel, rfl⟩
theorem dd_X_init_108 : ad_D mm_X_init 108 (.iconst (-1)) 1 109 := ⟨by decide +kernel, rfl⟩
theorem dd_X_init_109 : ad_D mm_X_init 109 (.putfield 70) 3 112 := ⟨by decide +kernel, rfl⟩
theorem dd_X_init_112 : ad_D mm_X_init 112 (.aload_n 0) 1 113 := ⟨by decide +kernel, rfl⟩
theorem dd_X_init_113 : ad_D mm_X_init 113 (.iconst (-1)) 1 114 := ⟨by decide +kernel, rfl⟩
theorem dd_X_init_114 : ad_D mm_X_init 114 (.putfield 73) 3 117 := ⟨by decide +kernel, rfl⟩
theorem dd_X_init_117 : ad_D mm_X_init 117 (.return_) 1 118 := ⟨by decide +kernel, rfl⟩
theorem dd_Farms_init_0 : ad_D mm_Farms_init 0 (.aload_n 0) 1 1 := ⟨by decide +kernel, rfl⟩
theorem dd_Farms_init_1 : ad_D mm_Farms_init 1 (.invokespecial 3) 3 4 := ⟨by decide +kernel, rfl⟩
theorem dd_Farms_init_4 : ad_D mm_Farms_init 4 (.aload_n 0) 1 5 := ⟨by decide +kernel, rfl⟩
theorem dd_Farms_init_5 : ad_D mm_Farms_init 5 (.bipush 10) 2 7 := ⟨by decide +kernel, rfl⟩
theorem dd_Farms_init_7 : ad_D mm_Farms_init 7 (.newarray .long) 2 9 := ⟨by decide +kernel, rfl⟩
theorem dd_Farms_init_9 : ad_D mm_Farms_init 9 (.putfield 11) 3 12 := ⟨by decide +kernel, rfl⟩
theorem dd_Farms_init_12 : ad_D mm_Farms_init 12 (.aload_n 0) 1 13 := ⟨by decide +kernel, rfl⟩
theorem dd_Farms_init_13 : ad_D mm_Farms_init 13 (.bipush 10) 2 15 := ⟨by decide +kernel, rfl⟩
theorem dd_Farms_init_15 : ad_D mm_Farms_init 15 (.newarray .int) 2 17 := ⟨by decide +kernel, rfl⟩
theorem dd_Farms_init_17 : ad_D mm_Farms_init 17 (.putfield 15) 3 20 := ⟨by decide +kernel, rfl⟩
theorem dd_Farms_init_20 : ad_D mm_Farms_init 20 (.return_) 1 21 := ⟨by decide +kernel, rfl⟩
theorem dd_Weather_init_0 : ad_D mm_Weather_init 0 (.aload_n 0) 1 1 := ⟨by decide +kernel, rfl⟩
theorem dd_Weather_init_1 : ad_D mm_Weather_init 1 (.invokespecial 1) 3 4 := ⟨by decide +kernel, rfl⟩
theorem dd_Weather_init_4 : ad_D mm_Weather_init 4 (.return_) 1 5 := ⟨by decide +kernel, rfl⟩
theorem dd_Bundles_init_0 : ad_D mm_Bundles_init 0 (.aload_n 0) 1 1 := ⟨by decide +kernel, rfl⟩
theorem dd_Bundles_init_1 : ad_D mm_Bundles_init 1 (.invokespecial 3) 3 4 := ⟨by decide +kernel, rfl⟩
theorem dd_Bundles_init_4 : ad_D mm_Bundles_init 4 (.return_) 1 5 := ⟨by decide +kernel, rfl⟩
theorem dd_Chooser_init_0 : ad_D mm_Chooser_init 0 (.aload_n 0) 1 1 := ⟨by decide +kernel, rfl⟩
theorem dd_Chooser_init_1 : ad_D mm_Chooser_init 1 (.invokespecial 3) 3 4 := ⟨by decide +kernel, rfl⟩
theorem dd_Chooser_init_4 : ad_D mm_Chooser_init 4 (.aload_n 0) 1 5 := ⟨by decide +kernel, rfl⟩
theorem dd_Chooser_init_5 : ad_D mm_Chooser_init 5 (.bipush 16) 2 7 := ⟨by decide +kernel, rfl⟩
theorem dd_Chooser_init_7 : ad_D mm_Chooser_init 7 (.newarray .int) 2 9 := ⟨by decide +kernel, rfl⟩
theorem dd_Chooser_init_9 : ad_D mm_Chooser_init 9 (.putfield 9) 3 12 := ⟨by decide +kernel, rfl⟩
theorem dd_Chooser_init_12 : ad_D mm_Chooser_init 12 (.aload_n 0) 1 13 := ⟨by decide +kernel, rfl⟩
theorem dd_Chooser_init_13 : ad_D mm_Chooser_init 13 (.bipush 16) 2 15 := ⟨by decide +kernel, rfl⟩
theorem dd_Chooser_init_15 : ad_D mm_Chooser_init 15 (.newarray .int) 2 17 := ⟨by decide +kernel, rfl⟩
theorem dd_Chooser_init_17 : ad_D mm_Chooser_init 17 (.putfield 15) 3 20 := ⟨by decide +kernel, rfl⟩
theorem dd_Chooser_init_20 : ad_D mm_Chooser_init 20 (.aload_n 0) 1 21 := ⟨by decide +kernel, rfl⟩
theorem dd_Chooser_init_21 : ad_D mm_Chooser_init 21 (.bipush 16) 2 23 := ⟨by decide +kernel, rfl⟩
theorem dd_Chooser_init_23 : ad_D mm_Chooser_init 23 (.newarray .int) 2 25 := ⟨by decide +kernel, rfl⟩
theorem dd_Chooser_init_25 : ad_D mm_Chooser_init 25 (.putfield 18) 3 28 := ⟨by decide +kernel, rfl⟩
theorem dd_Chooser_init_28 : ad_D mm_Chooser_init 28 (.aload_n 0) 1 29 := ⟨by decide +kernel, rfl⟩
theorem dd_Chooser_init_29 : ad_D mm_Chooser_init 29 (.bipush 16) 2 31 := ⟨by decide +kernel, rfl⟩
theorem dd_Chooser_init_31 : ad_D mm_Chooser_init 31 (.newarray .int) 2 33 := ⟨by decide +kernel, rfl⟩
theorem dd_Chooser_init_33 : ad_D mm_Chooser_init 33 (.putfield 21) 3 36 := ⟨by decide +kernel, rfl⟩
theorem dd_Chooser_init_36 : ad_D mm_Chooser_init 36 (.aload_n 0) 1 37 := ⟨by decide +kernel, rfl⟩
theorem dd_Chooser_init_37 : ad_D mm_Chooser_init 37 (.bipush 16) 2 39 := ⟨by decide +kernel, rfl⟩
theorem dd_Chooser_init_39 : ad_D mm_Chooser_init 39 (.newarray .int) 2 41 := ⟨by decide +kernel, rfl⟩
theorem dd_Chooser_init_41 : ad_D mm_Chooser_init 41 (.putfield 24) 3 44 := ⟨by decide +kernel, rfl⟩
theorem dd_Chooser_init_44 : ad_D mm_Chooser_init 44 (.aload_n 0) 1 45 := ⟨by decide +kernel, rfl⟩
theorem dd_Chooser_init_45 : ad_D mm_Chooser_init 45 (.bipush 17) 2 47 := ⟨by decide +kernel, rfl⟩
theorem dd_Chooser_init_47 : ad_D mm_Chooser_init 47 (.bipush 10) 2 49 := ⟨by decide +kernel, rfl⟩
theorem dd_Chooser_init_49 : ad_D mm_Chooser_init 49 (.multianewarray 27 2) 4 53 := ⟨by decide +kernel, rfl⟩
theorem dd_Chooser_init_53 : ad_D mm_Chooser_init 53 (.putfield 29) 3 56 := ⟨by decide +kernel, rfl⟩
theorem dd_Chooser_init_56 : ad_D mm_Chooser_init 56 (.return_) 1 57 := ⟨by decide +kernel, rfl⟩
theorem dd_Tape_init_0 : ad_D mm_Tape_init 0 (.aload_n 0) 1 1 := ⟨by decide +kernel, rfl⟩
theorem dd_Tape_init_1 : ad_D mm_Tape_init 1 (.invokespecial 1) 3 4 := ⟨by decide +kernel, rfl⟩
theorem dd_Tape_init_4 : ad_D mm_Tape_init 4 (.aload_n 0) 1 5 := ⟨by decide +kernel, rfl⟩
theorem dd_Tape_init_5 : ad_D mm_Tape_init 5 (.bipush 100) 2 7 := ⟨by decide +kernel, rfl⟩
theorem dd_Tape_init_7 : ad_D mm_Tape_init 7 (.newarray .byte) 2 9 := ⟨by decide +kernel, rfl⟩
theorem dd_Tape_init_9 : ad_D mm_Tape_init 9 (.putfield 9) 3 12 := ⟨by decide +kernel, rfl⟩
theorem dd_Tape_init_12 : ad_D mm_Tape_init 12 (.return_) 1 13 := ⟨by decide +kernel, rfl⟩
theorem dd_Formula_init_0 : ad_D mm_Formula_init 0 (.aload_n 0) 1 1 := ⟨by decide +kernel, rfl⟩
theorem dd_Formula_init_1 : ad_D mm_Formula_init 1 (.invokespecial 5) 3 4 := ⟨by decide +kernel, rfl⟩
theorem dd_Formula_init_4 : ad_D mm_Formula_init 4 (.aload_n 0) 1 5 := ⟨by decide +kernel, rfl⟩
theorem dd_Formula_init_5 : ad_D mm_Formula_init 5 (.bipush 101) 2 7 := ⟨by decide +kernel, rfl⟩
theorem dd_Formula_init_7 : ad_D mm_Formula_init 7 (.newarray .int) 2 9 := ⟨by decide +kernel, rfl⟩
theorem dd_Formula_init_9 : ad_D mm_Formula_init 9 (.putfield 13) 3 12 := ⟨by decide +kernel, rfl⟩
theorem dd_Formula_init_12 : ad_D mm_Formula_init 12 (.aload_n 0) 1 13 := ⟨by decide +kernel, rfl⟩
theorem dd_Formula_init_13 : ad_D mm_Formula_init 13 (.bipush 101) 2 15 := ⟨by decide +kernel, rfl⟩
theorem dd_Formula_init_15 : ad_D mm_Formula_init 15 (.newarray .int) 2 17 := ⟨by decide +kernel, rfl⟩
theorem dd_Formula_init_17 : ad_D mm_Formula_init 17 (.putfield 17) 3 20 := ⟨by decide +kernel, rfl⟩
theorem dd_Formula_init_20 : ad_D mm_Formula_init 20 (.aload_n 0) 1 21 := ⟨by decide +kernel, rfl⟩
theorem dd_Formula_init_21 : ad_D mm_Formula_init 21 (.getfield 13) 3 24 := ⟨by decide +kernel, rfl⟩
theorem dd_Formula_init_24 : ad_D mm_Formula_init 24 (.iconst 0) 1 25 := ⟨by decide +kernel, rfl⟩
theorem dd_Formula_init_25 : ad_D mm_Formula_init 25 (.sipush 1001) 3 28 := ⟨by decide +kernel, rfl⟩
theorem dd_Formula_init_28 : ad_D mm_Formula_init 28 (.iastore) 1 29 := ⟨by decide +kernel, rfl⟩
theorem dd_Formula_init_29 : ad_D mm_Formula_init 29 (.aload_n 0) 1 30 := ⟨by decide +kernel, rfl⟩
theorem dd_Formula_init_30 : ad_D mm_Formula_init 30 (.getfield 13) 3 33 := ⟨by decide +kernel, rfl⟩
theorem dd_Formula_init_33 : ad_D mm_Formula_init 33 (.iconst 1) 1 34 := ⟨by decide +kernel, rfl⟩
theorem dd_Formula_init_34 : ad_D mm_Formula_init 34 (.bipush 42) 2 36 := ⟨by decide +kernel, rfl⟩
theorem dd_Formula_init_36 : ad_D mm_Formula_init 36 (.iastore) 1 37 := ⟨by decide +kernel, rfl⟩
theorem dd_Formula_init_37 : ad_D mm_Formula_init 37 (.aload_n 0) 1 38 := ⟨by decide +kernel, rfl⟩
theorem dd_Formula_init_38 : ad_D mm_Formula_init 38 (.getfield 13) 3 41 := ⟨by decide +kernel, rfl⟩
theorem dd_Formula_init_41 : ad_D mm_Formula_init 41 (.iconst 2) 1 42 := ⟨by decide +kernel, rfl⟩
theorem dd_Formula_init_42 : ad_D mm_Formula_init 42 (.bipush 116) 2 44 := ⟨by decide +kernel, rfl⟩
theorem dd_Formula_init_44 : ad_D mm_Formula_init 44 (.iastore) 1 45 := ⟨by decide +kernel, rfl⟩
theorem dd_Formula_init_45 : ad_D mm_Formula_init 45 (.aload_n 0) 1 46 := ⟨by decide +kernel, rfl⟩
theorem dd_Formula_init_46 : ad_D mm_Formula_init 46 (.getfield 13) 3 49 := ⟨by decide +kernel, rfl⟩
theorem dd_Formula_init_49 : ad_D mm_Formula_init 49 (.iconst 3) 1 50 := ⟨by decide +kernel, rfl⟩
theorem dd_Formula_init_50 : ad_D mm_Formula_init 50 (.iconst 0) 1 51 := ⟨by decide +kernel, rfl⟩
theorem dd_Formula_init_51 : ad_D mm_Formula_init 51 (.iastore) 1 52 := ⟨by decide +kernel, rfl⟩
theorem dd_Formula_init_52 : ad_D mm_Formula_init 52 (.aload_n 0) 1 53 := ⟨by decide +kernel, rfl⟩
theorem dd_Formula_init_53 : ad_D mm_Formula_init 53 (.iconst 4) 1 54 := ⟨by decide +kernel, rfl⟩
theorem dd_Formula_init_54 : ad_D mm_Formula_init 54 (.putfield 20) 3 57 := ⟨by decide +kernel, rfl⟩
theorem dd_Formula_init_57 : ad_D mm_Formula_init 57 (.return_) 1 58 := ⟨by decide +kernel, rfl⟩
theorem dd_X_rules_0 : ad_D mm_X_rules 0 (.iload_n 1) 1 1 := ⟨by decide +kernel, rfl⟩
theorem dd_X_rules_1 : ad_D mm_X_rules 1 (.iconst 1) 1 2 := ⟨by decide +kernel, rfl⟩
theorem dd_X_rules_2 : ad_D mm_X_rules 2 (.bipush 9) 2 4 := ⟨by decide +kernel, rfl⟩
theorem dd_X_rules_4 : ad_D mm_X_rules 4 (.invokestatic 76) 3 7 := ⟨by decide +kernel, rfl⟩
theorem dd_X_rules_7 : ad_D mm_X_rules 7 (.ifCond .eq 38) 3 10 := ⟨by decide +kernel, rfl⟩
theorem dd_X_rules_10 : ad_D mm_X_rules 10 (.iload_n 2) 1 11 := ⟨by decide +kernel, rfl⟩
theorem dd_X_rules_11 : ad_D mm_X_rules 11 (.iconst 1) 1 12 := ⟨by decide +kernel, rfl⟩
theorem dd_X_rules_12 : ad_D mm_X_rules 12 (.bipush 20) 2 14 := ⟨by decide +kernel, rfl⟩
theorem dd_X_rules_14 : ad_D mm_X_rules 14 (.invokestatic 76) 3 17 := ⟨by decide +kernel, rfl⟩
theorem dd_X_rules_17 : ad_D mm_X_rules 17 (.ifCond .eq 28) 3 20 := ⟨by decide +kernel, rfl⟩
theorem dd_X_rules_20 : ad_D mm_X_rules 20 (.iload_n 3) 1 21 := ⟨by decide +kernel, rfl⟩
theorem dd_X_rules_21 : ad_D mm_X_rules 21 (.iconst 1) 1 22 := ⟨by decide +kernel, rfl⟩
theorem dd_X_rules_22 : ad_D mm_X_rules 22 (.bipush 9) 2 24 := ⟨by decide +kernel, rfl⟩
theorem dd_X_rules_24 : ad_D mm_X_rules 24 (.invokestatic 76) 3 27 := ⟨by decide +kernel, rfl⟩
theorem dd_X_rules_27 : ad_D mm_X_rules 27 (.ifCond .eq 18) 3 30 := ⟨by decide +kernel, rfl⟩
theorem dd_X_rules_30 : ad_D mm_X_rules 30 (.iload 4) 2 32 := ⟨by decide +kernel, rfl⟩
theorem dd_X_rules_32 : ad_D mm_X_rules 32 (.iconst 1) 1 33 := ⟨by decide +kernel, rfl⟩
theorem dd_X_rules_33 : ad_D mm_X_rules 33 (.bipush 100) 2 35 := ⟨by decide +kernel, rfl⟩
theorem dd_X_rules_35 : ad_D mm_X_rules 35 (.invokestatic 76) 3 38 := ⟨by decide +kernel, rfl⟩
theorem dd_X_rules_38 : ad_D mm_X_rules 38 (.ifCond .eq 7) 3 41 := ⟨by decide +kernel, rfl⟩
theorem dd_X_rules_41 : ad_D mm_X_rules 41 (.iconst 1) 1 42 := ⟨by decide +kernel, rfl⟩
theorem dd_X_rules_42 : ad_D mm_X_rules 42 (.goto 4) 3 45 := ⟨by decide +kernel, rfl⟩
theorem dd_X_rules_45 : ad_D mm_X_rules 45 (.iconst 0) 1 46 := ⟨by decide +kernel, rfl⟩
theorem dd_X_rules_46 : ad_D mm_X_rules 46 (.istore 5) 2 48 := ⟨by decide +kernel, rfl⟩
theorem dd_X_rules_48 : ad_D mm_X_rules 48 (.iload 5) 2 50 := ⟨by decide +kernel, rfl⟩
theorem dd_X_rules_50 : ad_D mm_X_rules 50 (.ifCond .eq 10) 3 53 := ⟨by decide +kernel, rfl⟩
theorem dd_X_rules_53 : ad_D mm_X_rules 53 (.aload_n 0) 1 54 := ⟨by decide +kernel, rfl⟩
theorem dd_X_rules_54 : ad_D mm_X_rules 54 (.getfield 80) 3 57 := ⟨by decide +kernel, rfl⟩
theorem dd_X_rules_57 : ad_D mm_X_rules 57 (.ifCond .le 5) 3 60 := ⟨by decide +kernel, rfl⟩
theorem dd_X_rules_60 : ad_D mm_X_rules 60 (.iconst 0) 1 61 := ⟨by decide +kernel, rfl⟩
theorem dd_X_rules_61 : ad_D mm_X_rules 61 (.ireturn) 1 62 := ⟨by decide +kernel, rfl⟩
theorem dd_X_rules_62 : ad_D mm_X_rules 62 (.aload_n 0) 1 63 := ⟨by decide +kernel, rfl⟩
theorem dd_X_rules_63 : ad_D mm_X_rules 63 (.iload_n 1) 1 64 := ⟨by decide +kernel, rfl⟩
theorem dd_X_rules_64 : ad_D mm_X_rules 64 (.putfield 7) 3 67 := ⟨by decide +kernel, rfl⟩
theorem dd_X_rules_67 : ad_D mm_X_rules 67 (.aload_n 0) 1 68 := ⟨by decide +kernel, rfl⟩
theorem dd_X_rules_68 : ad_D mm_X_rules 68 (.iload_n 2) 1 69 := ⟨by decide +kernel, rfl⟩
theorem dd_X_rules_69 : ad_D mm_X_rules 69 (.putfield 13) 3 72 := ⟨by decide +kernel, rfl⟩
theorem dd_X_rules_72 : ad_D mm_X_rules 72 (.aload_n 0) 1 73 := ⟨by decide +kernel, rfl⟩
theorem dd_X_rules_73 : ad_D mm_X_rules 73 (.iload_n 3) 1 74 := ⟨by decide +kernel, rfl⟩
theorem dd_X_rules_74 : ad_D mm_X_rules 74 (.putfield 16) 3 77 := ⟨by decide +kernel, rfl⟩
theorem dd_X_rules_77 : ad_D mm_X_rules 77 (.aload_n 0) 1 78 := ⟨by decide +kernel, rfl⟩
theorem dd_X_rules_78 : ad_D mm_X_rules 78 (.iload 4) 2 80 := ⟨by decide +kernel, rfl⟩
theorem dd_X_rules_80 : ad_D mm_X_rules 80 (.putfield 19) 3 83 := ⟨by decide +kernel, rfl⟩
theorem dd_X_rules_83 : ad_D mm_X_rules 83 (.iconst 1) 1 84 := ⟨by decide +kernel, rfl⟩
theorem dd_X_rules_84 : ad_D mm_X_rules 84 (.ireturn) 1 85 := ⟨by decide +kernel, rfl⟩
theorem dd_X_isWithin_0 : ad_D mm_X_isWithin 0 (.iload_n 0) 1 1 := ⟨by decide +kernel, rfl⟩
theorem dd_X_isWithin_1 : ad_D mm_X_isWithin 1 (.iload_n 1) 1 2 := ⟨by decide +kernel, rfl⟩
theorem dd_X_isWithin_2 : ad_D mm_X_isWithin 2 (.if_icmp .lt 12) 3 5 := ⟨by decide +kernel, rfl⟩
theorem dd_X_isWithin_5 : ad_D mm_X_isWithin 5 (.iload_n 0) 1 6 := ⟨by decide +kernel, rfl⟩
theorem dd_X_isWithin_6 : ad_D mm_X_isWithin 6 (.iload_n 2) 1 7 := ⟨by decide +kernel, rfl⟩
theorem dd_X_isWithin_7 : ad_D mm_X_isWithin 7 (.if_icmp .gt 7) 3 10 := ⟨by decide +kernel, rfl⟩
theorem dd_X_isWithin_10 : ad_D mm_X_isWithin 10 (.iconst 1) 1 11 := ⟨by decide +kernel, rfl⟩
theorem dd_X_isWithin_11 : ad_D mm_X_isWithin 11 (.goto 4) 3 14 := ⟨by decide +kernel, rfl⟩
theorem dd_X_isWithin_14 : ad_D mm_X_isWithin 14 (.iconst 0) 1 15 := ⟨by decide +kernel, rfl⟩
theorem dd_X_isWithin_15 : ad_D mm_X_isWithin 15 (.ireturn) 1 16 := ⟨by decide +kernel, rfl⟩
theorem dd_X_farm_0 : ad_D mm_X_farm 0 (.aload_n 0) 1 1 := ⟨by decide +kernel, rfl⟩
theorem dd_X_farm_1 : ad_D mm_X_farm 1 (.getfield 28) 3 4 := ⟨by decide +kernel, rfl⟩
theorem dd_X_farm_4 : ad_D mm_X_farm 4 (.invokevirtual 83) 3 7 := ⟨by decide +kernel, rfl⟩
theorem dd_X_farm_7 : ad_D mm_X_farm 7 (.ireturn) 1 8 := ⟨by decide +kernel, rfl⟩
theorem dd_Farms_add_0 : ad_D mm_Farms_add 0 (.aload_n 0) 1 1 := ⟨by decide +kernel, rfl⟩
theorem dd_Farms_add_1 : ad_D mm_Farms_add 1 (.getfield 19) 3 4 := ⟨by decide +kernel, rfl⟩
theorem dd_Farms_add_4 : ad_D mm_Farms_add 4 (.bipush 10) 2 6 := ⟨by decide +kernel, rfl⟩
theorem dd_Farms_add_6 : ad_D mm_Farms_add 6 (.if_icmp .lt 5) 3 9 := ⟨by decide +kernel, rfl⟩
theorem dd_Farms_add_9 : ad_D mm_Farms_add 9 (.iconst (-1)) 1 10 := ⟨by decide +kernel, rfl⟩
theorem dd_Farms_add_10 : ad_D mm_Farms_add 10 (.ireturn) 1 11 := ⟨by decide +kernel, rfl⟩
theorem dd_Farms_add_11 : ad_D mm_Farms_add 11 (.aload_n 0) 1 12 := ⟨by decide +kernel, rfl⟩
theorem dd_Farms_add_12 : ad_D mm_Farms_add 12 (.dup) 1 13 := ⟨by decide +kernel, rfl⟩
theorem dd_Farms_add_13 : ad_D mm_Farms_add 13 (.getfield 19) 3 16 := ⟨by decide +kernel, rfl⟩
theorem dd_Farms_add_16 : ad_D mm_Farms_add 16 (.iconst 1) 1 17 := ⟨by decide +kernel, rfl⟩
theorem dd_Farms_add_17 : ad_D mm_Farms_add 17 (.iadd) 1 18 := ⟨by decide +kernel, rfl⟩
theorem dd_Farms_add_18 : ad_D mm_Farms_add 18 (.putfield 19) 3 21 := ⟨by decide +kernel, rfl⟩
theorem dd_Farms_add_21 : ad_D mm_Farms_add 21 (.aload_n 0) 1 22 := ⟨by decide +kernel, rfl⟩
theorem dd_Farms_add_22 : ad_D mm_Farms_add 22 (.getfield 19) 3 25 := ⟨by decide +kernel, rfl⟩
theorem dd_Farms_add_25 : ad_D mm_Farms_add 25 (.iconst 1) 1 26 := ⟨by decide +kernel, rfl⟩
theorem dd_Farms_add_26 : ad_D mm_Farms_add 26 (.isub) 1 27 := ⟨by decide +kernel, rfl⟩
theorem dd_Farms_add_27 : ad_D mm_Farms_add 27 (.ireturn) 1 28 := ⟨by decide +kernel, rfl⟩
theorem dd_X_field_0 : ad_D mm_X_field 0 (.iload_n 1) 1 1 := ⟨by decide +kernel, rfl⟩
theorem dd_X_field_1 : ad_D mm_X_field 1 (.iconst 0) 1 2 := ⟨by decide +kernel, rfl⟩
theorem dd_X_field_2 : ad_D mm_X_field 2 (.aload_n 0) 1 3 := ⟨by decide +kernel, rfl⟩
theorem dd_X_field_3 : ad_D mm_X_field 3 (.getfield 28) 3 6 := ⟨by decide +kernel, rfl⟩
theorem dd_X_field_6 : ad_D mm_X_field 6 (.getfield 87) 3 9 := ⟨by decide +kernel, rfl⟩
theorem dd_X_field_9 : ad_D mm_X_field 9 (.iconst 1) 1 10 := ⟨by decide +kernel, rfl⟩
theorem dd_X_field_10 : ad_D mm_X_field 10 (.isub) 1 11 := ⟨by decide +kernel, rfl⟩
theorem dd_X_field_11 : ad_D mm_X_field 11 (.invokestatic 76) 3 14 := ⟨by decide +kernel, rfl⟩
theorem dd_X_field_14 : ad_D mm_X_field 14 (.ifCond .eq 62) 3 17 := ⟨by decide +kernel, rfl⟩
theorem dd_X_field_17 : ad_D mm_X_field 17 (.iload_n 2) 1 18 := ⟨by decide +kernel, rfl⟩
theorem dd_X_field_18 : ad_D mm_X_field 18 (.iconst 1) 1 19 := ⟨by decide +kernel, rfl⟩
theorem dd_X_field_19 : ad_D mm_X_field 19 (.sipush 200) 3 22 := ⟨by decide +kernel, rfl⟩
theorem dd_X_field_22 : ad_D mm_X_field 22 (.invokestatic 76) 3 25 := ⟨by decide +kernel, rfl⟩
theorem dd_X_field_25 : ad_D mm_X_field 25 (.ifCond .eq 51) 3 28 := ⟨by decide +kernel, rfl⟩
theorem dd_X_field_28 : ad_D mm_X_field 28 (.iload_n 3) 1 29 := ⟨by decide +kernel, rfl⟩
theorem dd_X_field_29 : ad_D mm_X_field 29 (.iconst 0) 1 30 := ⟨by decide +kernel, rfl⟩
theorem dd_X_field_30 : ad_D mm_X_field 30 (.bipush 60) 2 32 := ⟨by decide +kernel, rfl⟩
theorem dd_X_field_32 : ad_D mm_X_field 32 (.invokestatic 76) 3 35 := ⟨by decide +kernel, rfl⟩
theorem dd_X_field_35 : ad_D mm_X_field 35 (.ifCond .eq 41) 3 38 := ⟨by decide +kernel, rfl⟩
theorem dd_X_field_38 : ad_D mm_X_field 38 (.iload 4) 2 40 := ⟨by decide +kernel, rfl⟩
theorem dd_X_field_40 : ad_D mm_X_field 40 (.iconst 1) 1 41 := ⟨by decide +kernel, rfl⟩
theorem dd_X_field_41 : ad_D mm_X_field 41 (.bipush 30) 2 43 := ⟨by decide +kernel, rfl⟩
theorem dd_X_field_43 : ad_D mm_X_field 43 (.invokestatic 76) 3 46 := ⟨by decide +kernel, rfl⟩
theorem dd_X_field_46 : ad_D mm_X_field 46 (.ifCond .eq 30) 3 49 := ⟨by decide +kernel, rfl⟩
theorem dd_X_field_49 : ad_D mm_X_field 49 (.iload 5) 2 51 := ⟨by decide +kernel, rfl⟩
theorem dd_X_field_51 : ad_D mm_X_field 51 (.iconst 0) 1 52 := ⟨by decide +kernel, rfl⟩
theorem dd_X_field_52 : ad_D mm_X_field 52 (.sipush 4000) 3 55 := ⟨by decide +kernel, rfl⟩
theorem dd_X_field_55 : ad_D mm_X_field 55 (.invokestatic 76) 3 58 := ⟨by decide +kernel, rfl⟩
theorem dd_X_field_58 : ad_D mm_X_field 58 (.ifCond .eq 18) 3 61 := ⟨by decide +kernel, rfl⟩
theorem dd_X_field_61 : ad_D mm_X_field 61 (.iload 6) 2 63 := ⟨by decide +kernel, rfl⟩
theorem dd_X_field_63 : ad_D mm_X_field 63 (.iconst 1) 1 64 := ⟨by decide +kernel, rfl⟩
theorem dd_X_field_64 : ad_D mm_X_field 64 (.bipush 100) 2 66 := ⟨by decide +kernel, rfl⟩
theorem dd_X_field_66 : ad_D mm_X_field 66 (.invokestatic 76) 3 69 := ⟨by decide +kernel, rfl⟩
theorem dd_X_field_69 : ad_D mm_X_field 69 (.ifCond .eq 7) 3 72 := ⟨by decide +kernel, rfl⟩
theorem dd_X_field_72 : ad_D mm_X_field 72 (.iconst 1) 1 73 := ⟨by decide +kernel, rfl⟩
theorem dd_X_field_73 : ad_D mm_X_field 73 (.goto 4) 3 76 := ⟨by decide +kernel, rfl⟩
theorem dd_X_field_76 : ad_D mm_X_field 76 (.iconst 0) 1 77 := ⟨by decide +kernel, rfl⟩
theorem dd_X_field_77 : ad_D mm_X_field 77 (.istore 7) 2 79 := ⟨by decide +kernel, rfl⟩
theorem dd_X_field_79 : ad_D mm_X_field 79 (.aload_n 0) 1 80 := ⟨by decide +kernel, rfl⟩
theorem dd_X_field_80 : ad_D mm_X_field 80 (.invokevirtual 90) 3 83 := ⟨by decide +kernel, rfl⟩
theorem dd_X_field_83 : ad_D mm_X_field 83 (.istore 8) 2 85 := ⟨by decide +kernel, rfl⟩
theorem dd_X_field_85 : ad_D mm_X_field 85 (.iload 7) 2 87 := ⟨by decide +kernel, rfl⟩
theorem dd_X_field_87 : ad_D mm_X_field 87 (.ifCond .eq 10) 3 90 := ⟨by decide +kernel, rfl⟩
theorem dd_X_field_90 : ad_D mm_X_field 90 (.iload 8) 2 92 := ⟨by decide +kernel, rfl⟩
theorem dd_X_field_92 : ad_D mm_X_field 92 (.bipush 16) 2 94 := ⟨by decide +kernel, rfl⟩
theorem dd_X_field_94 : ad_D mm_X_field 94 (.if_icmp .lt 5) 3 97 := ⟨by decide +kernel, rfl⟩
theorem dd_X_field_97 : ad_D mm_X_field 97 (.iconst (-1)) 1 98 := ⟨by decide +kernel, rfl⟩
theorem dd_X_field_98 : ad_D mm_X_field 98 (.ireturn) 1 99 := ⟨by decide +kernel, rfl⟩
theorem dd_X_field_99 : ad_D mm_X_field 99 (.new 93) 3 102 := ⟨by decide +kernel, rfl⟩
theorem dd_X_field_102 : ad_D mm_X_field 102 (.dup) 1 103 := ⟨by decide +kernel, rfl⟩
theorem dd_X_field_103 : ad_D mm_X_field 103 (.iload 8) 2 105 := ⟨by decide +kernel, rfl⟩
theorem dd_X_field_105 : ad_D mm_X_field 105 (.iload_n 1) 1 106 := ⟨by decide +kernel, rfl⟩
theorem dd_X_field_106 : ad_D mm_X_field 106 (.iload_n 2) 1 107 := ⟨by decide +kernel, rfl⟩
theorem dd_X_field_107 : ad_D mm_X_field 107 (.iload_n 3) 1 108 := ⟨by decide +kernel, rfl⟩
theorem dd_X_field_108 : ad_D mm_X_field 108 (.iload 4) 2 110 := ⟨by decide +kernel, rfl⟩
theorem dd_X_field_110 : ad_D mm_X_field 110 (.iload 5) 2 112 := ⟨by decide +kernel, rfl⟩
theorem dd_X_field_112 : ad_D mm_X_field 112 (.iload 6) 2 114 := ⟨by decide +kernel, rfl⟩
theorem dd_X_field_114 : ad_D mm_X_field 114 (.invokespecial 95) 3 117 := ⟨by decide +kernel, rfl⟩
theorem dd_X_field_117 : ad_D mm_X_field 117 (.astore 9) 2 119 := ⟨by decide +kernel, rfl⟩
theorem dd_X_field_119 : ad_D mm_X_field 119 (.aload_n 0) 1 120 := ⟨by decide +kernel, rfl⟩
theorem dd_X_field_120 : ad_D mm_X_field 120 (.getfield 98) 3 123 := ⟨by decide +kernel, rfl⟩
theorem dd_X_field_123 : ad_D mm_X_field 123 (.ifnonnull 12) 3 126 := ⟨by decide +kernel, rfl⟩
theorem dd_X_field_126 : ad_D mm_X_field 126 (.aload_n 0) 1 127 := ⟨by decide +kernel, rfl⟩
theorem dd_X_field_127 : ad_D mm_X_field 127 (.aload 9) 2 129 := ⟨by decide +kernel, rfl⟩
theorem dd_X_field_129 : ad_D mm_X_field 129 (.putfield 102) 3 132 := ⟨by decide +kernel, rfl⟩
theorem dd_X_field_132 : ad_D mm_X_field 132 (.goto 12) 3 135 := ⟨by decide +kernel, rfl⟩
theorem dd_X_field_135 : ad_D mm_X_field 135 (.aload_n 0) 1 136 := ⟨by decide +kernel, rfl⟩
theorem dd_X_field_136 : ad_D mm_X_field 136 (.getfield 98) 3 139 := ⟨by decide +kernel, rfl⟩
theorem dd_X_field_139 : ad_D mm_X_field 139 (.aload 9) 2 141 := ⟨by decide +kernel, rfl⟩
theorem dd_X_field_141 : ad_D mm_X_field 141 (.putfield 105) 3 144 := ⟨by decide +kernel, rfl⟩
theorem dd_X_field_144 : ad_D mm_X_field 144 (.aload_n 0) 1 145 := ⟨by decide +kernel, rfl⟩
theorem dd_X_field_145 : ad_D mm_X_field 145 (.aload 9) 2 147 := ⟨by decide +kernel, rfl⟩
theorem dd_X_field_147 : ad_D mm_X_field 147 (.putfield 98) 3 150 := ⟨by decide +kernel, rfl⟩
theorem dd_X_field_150 : ad_D mm_X_field 150 (.iload 8) 2 152 := ⟨by decide +kernel, rfl⟩
theorem dd_X_field_152 : ad_D mm_X_field 152 (.ireturn) 1 153 := ⟨by decide +kernel, rfl⟩
theorem dd_X_fieldCount_0 : ad_D mm_X_fieldCount 0 (.aload_n 0) 1 1 := ⟨by decide +kernel, rfl⟩
theorem dd_X_fieldCount_1 : ad_D mm_X_fieldCount 1 (.getfield 98) 3 4 := ⟨by decide +kernel, rfl⟩
theorem dd_X_fieldCount_4 : ad_D mm_X_fieldCount 4 (.ifnonnull 7) 3 7 := ⟨by decide +kernel, rfl⟩
theorem dd_X_fieldCount_7 : ad_D mm_X_fieldCount 7 (.iconst 0) 1 8 := ⟨by decide +kernel, rfl⟩
theorem dd_X_fieldCount_8 : ad_D mm_X_fieldCount 8 (.goto 12) 3 11 := ⟨by decide +kernel, rfl⟩
theorem dd_X_fieldCount_11 : ad_D mm_X_fieldCount 11 (.aload_n 0) 1 12 := ⟨by decide +kernel, rfl⟩
theorem dd_X_fieldCount_12 : ad_D mm_X_fieldCount 12 (.getfield 98) 3 15 := ⟨by decide +kernel, rfl⟩
theorem dd_X_fieldCount_15 : ad_D mm_X_fieldCount 15 (.getfield 196) 3 18 := ⟨by decide +kernel, rfl⟩
theorem dd_X_fieldCount_18 : ad_D mm_X_fieldCount 18 (.iconst 1) 1 19 := ⟨by decide +kernel, rfl⟩
theorem dd_X_fieldCount_19 : ad_D mm_X_fieldCount 19 (.iadd) 1 20 := ⟨by decide +kernel, rfl⟩
theorem dd_X_fieldCount_20 : ad_D mm_X_fieldCount 20 (.ireturn) 1 21 := ⟨by decide +kernel, rfl⟩
theorem dd_Field_init_0 : ad_D mm_Field_init 0 (.aload_n 0) 1 1 := ⟨by decide +kernel, rfl⟩
theorem dd_Field_init_1 : ad_D mm_Field_init 1 (.invokespecial 3) 3 4 := ⟨by decide +kernel, rfl⟩
theorem dd_Field_init_4 : ad_D mm_Field_init 4 (.aload_n 0) 1 5 := ⟨by decide +kernel, rfl⟩
theorem dd_Field_init_5 : ad_D mm_Field_init 5 (.iconst 0) 1 6 := ⟨by decide +kernel, rfl⟩
theorem dd_Field_init_6 : ad_D mm_Field_init 6 (.putfield 11) 3 9 := ⟨by decide +kernel, rfl⟩
theorem dd_Field_init_9 : ad_D mm_Field_init 9 (.aload_n 0) 1 10 := ⟨by decide +kernel, rfl⟩
theorem dd_Field_init_10 : ad_D mm_Field_init 10 (.iconst (-1)) 1 11 := ⟨by decide +kernel, rfl⟩
theorem dd_Field_init_11 : ad_D mm_Field_init 11 (.putfield 15) 3 14 := ⟨by decide +kernel, rfl⟩
theorem dd_Field_init_14 : ad_D mm_Field_init 14 (.aload_n 0) 1 15 := ⟨by decide +kernel, rfl⟩
theorem dd_Field_init_15 : ad_D mm_Field_init 15 (.iload_n 1) 1 16 := ⟨by decide +kernel, rfl⟩
theorem dd_Field_init_16 : ad_D mm_Field_init 16 (.putfield 18) 3 19 := ⟨by decide +kernel, rfl⟩
theorem dd_Field_init_19 : ad_D mm_Field_init 19 (.aload_n 0) 1 20 := ⟨by decide +kernel, rfl⟩
theorem dd_Field_init_20 : ad_D mm_Field_init 20 (.iload_n 2) 1 21 := ⟨by decide +kernel, rfl⟩
theorem dd_Field_init_21 : ad_D mm_Field_init 21 (.putfield 21) 3 24 := ⟨by decide +kernel, rfl⟩
theorem dd_Field_init_24 : ad_D mm_Field_init 24 (.aload_n 0) 1 25 := ⟨by decide +kernel, rfl⟩
theorem dd_Field_init_25 : ad_D mm_Field_init 25 (.iload_n 3) 1 26 := ⟨by decide +kernel, rfl⟩
theorem dd_Field_init_26 : ad_D mm_Field_init 26 (.putfield 24) 3 29 := ⟨by decide +kernel, rfl⟩
theorem dd_Field_init_29 : ad_D mm_Field_init 29 (.aload_n 0) 1 30 := ⟨by decide +kernel, rfl⟩
theorem dd_Field_init_30 : ad_D mm_Field_init 30 (.iload 4) 2 32 := ⟨by decide +kernel, rfl⟩
theorem dd_Field_init_32 : ad_D mm_Field_init 32 (.putfield 27) 3 35 := ⟨by decide +kernel, rfl⟩
theorem dd_Field_init_35 : ad_D mm_Field_init 35 (.aload_n 0) 1 36 := ⟨by decide +kernel, rfl⟩
theorem dd_Field_init_36 : ad_D mm_Field_init 36 (.iload 5) 2 38 := ⟨by decide +kernel, rfl⟩
theorem dd_Field_init_38 : ad_D mm_Field_init 38 (.putfield 30) 3 41 := ⟨by decide +kernel, rfl⟩
theorem dd_Field_init_41 : ad_D mm_Field_init 41 (.aload_n 0) 1 42 := ⟨by decide +kernel, rfl⟩
theorem dd_Field_init_42 : ad_D mm_Field_init 42 (.iload 6) 2 44 := ⟨by decide +kernel, rfl⟩
theorem dd_Field_init_44 : ad_D mm_Field_init 44 (.putfield 33) 3 47 := ⟨by decide +kernel, rfl⟩
theorem dd_Field_init_47 : ad_D mm_Field_init 47 (.aload_n 0) 1 48 := ⟨by decide +kernel, rfl⟩
theorem dd_Field_init_48 : ad_D mm_Field_init 48 (.iload 7) 2 50 := ⟨by decide +kernel, rfl⟩
theorem dd_Field_init_50 : ad_D mm_Field_init 50 (.putfield 36) 3 53 := ⟨by decide +kernel, rfl⟩
theorem dd_Field_init_53 : ad_D mm_Field_init 53 (.return_) 1 54 := ⟨by decide +kernel, rfl⟩
theorem dd_X_weather_0 : ad_D mm_X_weather 0 (.iload_n 2) 1 1 := ⟨by decide +kernel, rfl⟩
theorem dd_X_weather_1 : ad_D mm_X_weather 1 (.aload_n 0) 1 2 := ⟨by decide +kernel, rfl⟩
theorem dd_X_weather_2 : ad_D mm_X_weather 2 (.getfield 80) 3 5 := ⟨by decide +kernel, rfl⟩
theorem dd_X_weather_5 : ad_D mm_X_weather 5 (.if_icmp .lt 15) 3 8 := ⟨by decide +kernel, rfl⟩
theorem dd_X_weather_8 : ad_D mm_X_weather 8 (.iload_n 3) 1 9 := ⟨by decide +kernel, rfl⟩
theorem dd_X_weather_9 : ad_D mm_X_weather 9 (.iload_n 2) 1 10 := ⟨by decide +kernel, rfl⟩
theorem dd_X_weather_10 : ad_D mm_X_weather 10 (.if_icmp .le 10) 3 13 := ⟨by decide +kernel, rfl⟩
theorem dd_X_weather_13 : ad_D mm_X_weather 13 (.iload_n 3) 1 14 := ⟨by decide +kernel, rfl⟩
theorem dd_X_weather_14 : ad_D mm_X_weather 14 (.sipush 4000) 3 17 := ⟨by decide +kernel, rfl⟩
theorem dd_X_weather_17 : ad_D mm_X_weather 17 (.if_icmp .le 5) 3 20 := ⟨by decide +kernel, rfl⟩
theorem dd_X_weather_20 : ad_D mm_X_weather 20 (.iconst 0) 1 21 := ⟨by decide +kernel, rfl⟩
theorem dd_X_weather_21 : ad_D mm_X_weather 21 (.ireturn) 1 22 := ⟨by decide +kernel, rfl⟩
theorem dd_X_weather_22 : ad_D mm_X_weather 22 (.aload_n 0) 1 23 := ⟨by decide +kernel, rfl⟩
theorem dd_X_weather_23 : ad_D mm_X_weather 23 (.getfield 35) 3 26 := ⟨by decide +kernel, rfl⟩
theorem dd_X_weather_26 : ad_D mm_X_weather 26 (.iload_n 1) 1 27 := ⟨by decide +kernel, rfl⟩
theorem dd_X_weather_27 : ad_D mm_X_weather 27 (.iload_n 2) 1 28 := ⟨by decide +kernel, rfl⟩
theorem dd_X_weather_28 : ad_D mm_X_weather 28 (.iload_n 3) 1 29 := ⟨by decide +kernel, rfl⟩
theorem dd_X_weather_29 : ad_D mm_X_weather 29 (.invokevirtual 108) 3 32 := ⟨by decide +kernel, rfl⟩
theorem dd_X_weather_32 : ad_D mm_X_weather 32 (.ireturn) 1 33 := ⟨by decide +kernel, rfl⟩
theorem dd_Weather_add_0 : ad_D mm_Weather_add 0 (.aload_n 0) 1 1 := ⟨by decide +kernel, rfl⟩
theorem dd_Weather_add_1 : ad_D mm_Weather_add 1 (.getfield 7) 3 4 := ⟨by decide +kernel, rfl⟩
theorem dd_Weather_add_4 : ad_D mm_Weather_add 4 (.bipush 20) 2 6 := ⟨by decide +kernel, rfl⟩
theorem dd_Weather_add_6 : ad_D mm_Weather_add 6 (.if_icmp .lt 5) 3 9 := ⟨by decide +kernel, rfl⟩
theorem dd_Weather_add_9 : ad_D mm_Weather_add 9 (.iconst 0) 1 10 := ⟨by decide +kernel, rfl⟩
theorem dd_Weather_add_10 : ad_D mm_Weather_add 10 (.ireturn) 1 11 := ⟨by decide +kernel, rfl⟩
theorem dd_Weather_add_11 : ad_D mm_Weather_add 11 (.aload_n 0) 1 12 := ⟨by decide +kernel, rfl⟩
theorem dd_Weather_add_12 : ad_D mm_Weather_add 12 (.new 13) 3 15 := ⟨by decide +kernel, rfl⟩
theorem dd_Weather_add_15 : ad_D mm_Weather_add 15 (.dup) 1 16 := ⟨by decide +kernel, rfl⟩
theorem dd_Weather_add_16 : ad_D mm_Weather_add 16 (.iload_n 1) 1 17 := ⟨by decide +kernel, rfl⟩
theorem dd_Weather_add_17 : ad_D mm_Weather_add 17 (.iload_n 2) 1 18 := ⟨by decide +kernel, rfl⟩
theorem dd_Weather_add_18 : ad_D mm_Weather_add 18 (.iload_n 3) 1 19 := ⟨by decide +kernel, rfl⟩
theorem dd_Weather_add_19 : ad_D mm_Weather_add 19 (.aload_n 0) 1 20 := ⟨by decide +kernel, rfl⟩
theorem dd_Weather_add_20 : ad_D mm_Weather_add 20 (.getfield 15) 3 23 := ⟨by decide +kernel, rfl⟩
theorem dd_Weather_add_23 : ad_D mm_Weather_add 23 (.invokespecial 19) 3 26 := ⟨by decide +kernel, rfl⟩
theorem dd_Weather_add_26 : ad_D mm_Weather_add 26 (.putfield 15) 3 29 := ⟨by decide +kernel, rfl⟩
theorem dd_Weather_add_29 : ad_D mm_Weather_add 29 (.aload_n 0) 1 30 := ⟨by decide +kernel, rfl⟩
theorem dd_Weather_add_30 : ad_D mm_Weather_add 30 (.dup) 1 31 := ⟨by decide +kernel, rfl⟩
theorem dd_Weather_add_31 : ad_D mm_Weather_add 31 (.getfield 7) 3 34 := ⟨by decide +kernel, rfl⟩
theorem dd_Weather_add_34 : ad_D mm_Weather_add 34 (.iconst 1) 1 35 := ⟨by decide +kernel, rfl⟩
theorem dd_Weather_add_35 : ad_D mm_Weather_add 35 (.iadd) 1 36 := ⟨by decide +kernel, rfl⟩
theorem dd_Weather_add_36 : ad_D mm_Weather_add 36 (.putfield 7) 3 39 := ⟨by decide +kernel, rfl⟩
theorem dd_Weather_add_39 : ad_D mm_Weather_add 39 (.iconst 1) 1 40 := ⟨by decide +kernel, rfl⟩
theorem dd_Weather_add_40 : ad_D mm_Weather_add 40 (.ireturn) 1 41 := ⟨by decide +kernel, rfl⟩
theorem dd_Span_init_0 : ad_D mm_Span_init 0 (.aload_n 0) 1 1 := ⟨by decide +kernel, rfl⟩
theorem dd_Span_init_1 : ad_D mm_Span_init 1 (.invokespecial 1) 3 4 := ⟨by decide +kernel, rfl⟩
theorem dd_Span_init_4 : ad_D mm_Span_init 4 (.aload_n 0) 1 5 := ⟨by decide +kernel, rfl⟩
theorem dd_Span_init_5 : ad_D mm_Span_init 5 (.iload_n 1) 1 6 := ⟨by decide +kernel, rfl⟩
theorem dd_Span_init_6 : ad_D mm_Span_init 6 (.putfield 7) 3 9 := ⟨by decide +kernel, rfl⟩
theorem dd_Span_init_9 : ad_D mm_Span_init 9 (.aload_n 0) 1 10 := ⟨by decide +kernel, rfl⟩
theorem dd_Span_init_10 : ad_D mm_Span_init 10 (.iload_n 2) 1 11 := ⟨by decide +kernel, rfl⟩
theorem dd_Span_init_11 : ad_D mm_Span_init 11 (.putfield 13) 3 14 := ⟨by decide +kernel, rfl⟩
theorem dd_Span_init_14 : ad_D mm_Span_init 14 (.aload_n 0) 1 15 := ⟨by decide +kernel, rfl⟩
theorem dd_Span_init_15 : ad_D mm_Span_init 15 (.iload_n 3) 1 16 := ⟨by decide +kernel, rfl⟩
theorem dd_Span_init_16 : ad_D mm_Span_init 16 (.putfield 17) 3 19 := ⟨by decide +kernel, rfl⟩
theorem dd_Span_init_19 : ad_D mm_Span_init 19 (.aload_n 0) 1 20 := ⟨by decide +kernel, rfl⟩
theorem dd_Span_init_20 : ad_D mm_Span_init 20 (.aload 4) 2 22 := ⟨by decide +kernel, rfl⟩
theorem dd_Span_init_22 : ad_D mm_Span_init 22 (.putfield 20) 3 25 := ⟨by decide +kernel, rfl⟩
theorem dd_Span_init_25 : ad_D mm_Span_init 25 (.return_) 1 26 := ⟨by decide +kernel, rfl⟩
theorem dd_X_round_0 : ad_D mm_X_round 0 (.aload_n 0) 1 1 := ⟨by decide +kernel, rfl⟩
theorem dd_X_round_1 : ad_D mm_X_round 1 (.getfield 28) 3 4 := ⟨by decide +kernel, rfl⟩
theorem dd_X_round_4 : ad_D mm_X_round 4 (.iload_n 1) 1 5 := ⟨by decide +kernel, rfl⟩
theorem dd_X_round_5 : ad_D mm_X_round 5 (.invokevirtual 111) 3 8 := ⟨by decide +kernel, rfl⟩
theorem dd_X_round_8 : ad_D mm_X_round 8 (.aload_n 0) 1 9 := ⟨by decide +kernel, rfl⟩
theorem dd_X_round_9 : ad_D mm_X_round 9 (.getfield 28) 3 12 := ⟨by decide +kernel, rfl⟩
theorem dd_X_round_12 : ad_D mm_X_round 12 (.invokevirtual 115) 3 15 := ⟨by decide +kernel, rfl⟩
theorem dd_X_round_15 : ad_D mm_X_round 15 (.ireturn) 1 16 := ⟨by decide +kernel, rfl⟩
theorem dd_Farms_drawLots_0 : ad_D mm_Farms_drawLots 0 (.aload_n 0) 1 1 := ⟨by decide +kernel, rfl⟩
theorem dd_Farms_drawLots_1 : ad_D mm_Farms_drawLots 1 (.aload_n 0) 1 2 := ⟨by decide +kernel, rfl⟩
theorem dd_Farms_drawLots_2 : ad_D mm_Farms_drawLots 2 (.getfield 19) 3 5 := ⟨by decide +kernel, rfl⟩
theorem dd_Farms_drawLots_5 : ad_D mm_Farms_drawLots 5 (.putfield 23) 3 8 := ⟨by decide +kernel, rfl⟩
theorem dd_Farms_drawLots_8 : ad_D mm_Farms_drawLots 8 (.aload_n 0) 1 9 := ⟨by decide +kernel, rfl⟩
theorem dd_Farms_drawLots_9 : ad_D mm_Farms_drawLots 9 (.iconst 0) 1 10 := ⟨by decide +kernel, rfl⟩
theorem dd_Farms_drawLots_10 : ad_D mm_Farms_drawLots 10 (.putfield 26) 3 13 := ⟨by decide +kernel, rfl⟩
theorem dd_Farms_drawLots_13 : ad_D mm_Farms_drawLots 13 (.iconst 0) 1 14 := ⟨by decide +kernel, rfl⟩
theorem dd_Farms_drawLots_14 : ad_D mm_Farms_drawLots 14 (.istore_n 2) 1 15 := ⟨by decide +kernel, rfl⟩
theorem dd_Farms_drawLots_15 : ad_D mm_Farms_drawLots 15 (.iload_n 2) 1 16 := ⟨by decide +kernel, rfl⟩
theorem dd_Farms_drawLots_16 : ad_D mm_Farms_drawLots 16 (.aload_n 0) 1 17 := ⟨by decide +kernel, rfl⟩
theorem dd_Farms_drawLots_17 : ad_D mm_Farms_drawLots 17 (.getfield 23) 3 20 := ⟨by decide +kernel, rfl⟩
theorem dd_Farms_drawLots_20 : ad_D mm_Farms_drawLots 20 (.if_icmp .ge 16) 3 23 := ⟨by decide +kernel, rfl⟩
theorem dd_Farms_drawLots_23 : ad_D mm_Farms_drawLots 23 (.aload_n 0) 1 24 := ⟨by decide +kernel, rfl⟩
theorem dd_Farms_drawLots_24 : ad_D mm_Farms_drawLots 24 (.getfield 15) 3 27 := ⟨by decide +kernel, rfl⟩
theorem dd_Farms_drawLots_27 : ad_D mm_Farms_drawLots 27 (.iload_n 2) 1 28 := ⟨by decide +kernel, rfl⟩
theorem dd_Farms_drawLots_28 : ad_D mm_Farms_drawLots 28 (.iload_n 2) 1 29 := ⟨by decide +kernel, rfl⟩
theorem dd_Farms_drawLots_29 : ad_D mm_Farms_drawLots 29 (.iastore) 1 30 := ⟨by decide +kernel, rfl⟩
theorem dd_Farms_drawLots_30 : ad_D mm_Farms_drawLots 30 (.iinc 2 1) 3 33 := ⟨by decide +kernel, rfl⟩
theorem dd_Farms_drawLots_33 : ad_D mm_Farms_drawLots 33 (.goto (-18)) 3 36 := ⟨by decide +kernel, rfl⟩
theorem dd_Farms_drawLots_36 : ad_D mm_Farms_drawLots 36 (.iload_n 1) 1 37 := ⟨by decide +kernel, rfl⟩
theorem dd_Farms_drawLots_37 : ad_D mm_Farms_drawLots 37 (.istore_n 2) 1 38 := ⟨by decide +kernel, rfl⟩
theorem dd_Farms_drawLots_38 : ad_D mm_Farms_drawLots 38 (.iconst 0) 1 39 := ⟨by decide +kernel, rfl⟩
theorem dd_Farms_drawLots_39 : ad_D mm_Farms_drawLots 39 (.istore_n 3) 1 40 := ⟨by decide +kernel, rfl⟩
theorem dd_Farms_drawLots_40 : ad_D mm_Farms_drawLots 40 (.iload_n 3) 1 41 := ⟨by decide +kernel, rfl⟩
theorem dd_Farms_drawLots_41 : ad_D mm_Farms_drawLots 41 (.aload_n 0) 1 42 := ⟨by decide +kernel, rfl⟩
theorem dd_Farms_drawLots_42 : ad_D mm_Farms_drawLots 42 (.getfield 23) 3 45 := ⟨by decide +kernel, rfl⟩
theorem dd_Farms_drawLots_45 : ad_D mm_Farms_drawLots 45 (.iconst 1) 1 46 := ⟨by decide +kernel, rfl⟩
theorem dd_Farms_drawLots_46 : ad_D mm_Farms_drawLots 46 (.isub) 1 47 := ⟨by decide +kernel, rfl⟩
theorem dd_Farms_drawLots_47 : ad_D mm_Farms_drawLots 47 (.if_icmp .ge 63) 3 50 := ⟨by decide +kernel, rfl⟩
theorem dd_Farms_drawLots_50 : ad_D mm_Farms_drawLots 50 (.iload_n 2) 1 51 := ⟨by decide +kernel, rfl⟩
theorem dd_Farms_drawLots_51 : ad_D mm_Farms_drawLots 51 (.ldc 29) 2 53 := ⟨by decide +kernel, rfl⟩
theorem dd_Farms_drawLots_53 : ad_D mm_Farms_drawLots 53 (.imul) 1 54 := ⟨by decide +kernel, rfl⟩
theorem dd_Farms_drawLots_54 : ad_D mm_Farms_drawLots 54 (.sipush 12345) 3 57 := ⟨by decide +kernel, rfl⟩
theorem dd_Farms_drawLots_57 : ad_D mm_Farms_drawLots 57 (.iadd) 1 58 := ⟨by decide +kernel, rfl⟩
theorem dd_Farms_drawLots_58 : ad_D mm_Farms_drawLots 58 (.istore_n 2) 1 59 := ⟨by decide +kernel, rfl⟩
theorem dd_Farms_drawLots_59 : ad_D mm_Farms_drawLots 59 (.iload_n 3) 1 60 := ⟨by decide +kernel, rfl⟩
theorem dd_Farms_drawLots_60 : ad_D mm_Farms_drawLots 60 (.iload_n 2) 1 61 := ⟨by decide +kernel, rfl⟩
theorem dd_Farms_drawLots_61 : ad_D mm_Farms_drawLots 61 (.bipush 16) 2 63 := ⟨by decide +kernel, rfl⟩
theorem dd_Farms_drawLots_63 : ad_D mm_Farms_drawLots 63 (.iushr) 1 64 := ⟨by decide +kernel, rfl⟩
theorem dd_Farms_drawLots_64 : ad_D mm_Farms_drawLots 64 (.aload_n 0) 1 65 := ⟨by decide +kernel, rfl⟩
theorem dd_Farms_drawLots_65 : ad_D mm_Farms_drawLots 65 (.getfield 23) 3 68 := ⟨by decide +kernel, rfl⟩
theorem dd_Farms_drawLots_68 : ad_D mm_Farms_drawLots 68 (.iload_n 3) 1 69 := ⟨by decide +kernel, rfl⟩
theorem dd_Farms_drawLots_69 : ad_D mm_Farms_drawLots 69 (.isub) 1 70 := ⟨by decide +kernel, rfl⟩
theorem dd_Farms_drawLots_70 : ad_D mm_Farms_drawLots 70 (.irem) 1 71 := ⟨by decide +kernel, rfl⟩
theorem dd_Farms_drawLots_71 : ad_D mm_Farms_drawLots 71 (.iadd) 1 72 := ⟨by decide +kernel, rfl⟩
theorem dd_Farms_drawLots_72 : ad_D mm_Farms_drawLots 72 (.istore 4) 2 74 := ⟨by decide +kernel, rfl⟩
theorem dd_Farms_drawLots_74 : ad_D mm_Farms_drawLots 74 (.aload_n 0) 1 75 := ⟨by decide +kernel, rfl⟩
theorem dd_Farms_drawLots_75 : ad_D mm_Farms_drawLots 75 (.getfield 15) 3 78 := ⟨by decide +kernel, rfl⟩
theorem dd_Farms_drawLots_78 : ad_D mm_Farms_drawLots 78 (.iload_n 3) 1 79 := ⟨by decide +kernel, rfl⟩
theorem dd_Farms_drawLots_79 : ad_D mm_Farms_drawLots 79 (.iaload) 1 80 := ⟨by decide +kernel, rfl⟩
theorem dd_Farms_drawLots_80 : ad_D mm_Farms_drawLots 80 (.istore 5) 2 82 := ⟨by decide +kernel, rfl⟩
theorem dd_Farms_drawLots_82 : ad_D mm_Farms_drawLots 82 (.aload_n 0) 1 83 := ⟨by decide +kernel, rfl⟩
theorem dd_Farms_drawLots_83 : ad_D mm_Farms_drawLots 83 (.getfield 15) 3 86 := ⟨by decide +kernel, rfl⟩
theorem dd_Farms_drawLots_86 : ad_D mm_Farms_drawLots 86 (.iload_n 3) 1 87 := ⟨by decide +kernel, rfl⟩
theorem dd_Farms_drawLots_87 : ad_D mm_Farms_drawLots 87 (.aload_n 0) 1 88 := ⟨by decide +kernel, rfl⟩
theorem dd_Farms_drawLots_88 : ad_D mm_Farms_drawLots 88 (.getfield 15) 3 91 := ⟨by decide +kernel, rfl⟩
theorem dd_Farms_drawLots_91 : ad_D mm_Farms_drawLots 91 (.iload 4) 2 93 := ⟨by decide +kernel, rfl⟩
theorem dd_Farms_drawLots_93 : ad_D mm_Farms_drawLots 93 (.iaload) 1 94 := ⟨by decide +kernel, rfl⟩
theorem dd_Farms_drawLots_94 : ad_D mm_Farms_drawLots 94 (.iastore) 1 95 := ⟨by decide +kernel, rfl⟩
theorem dd_Farms_drawLots_95 : ad_D mm_Farms_drawLots 95 (.aload_n 0) 1 96 := ⟨by decide +kernel, rfl⟩
theorem dd_Farms_drawLots_96 : ad_D mm_Farms_drawLots 96 (.getfield 15) 3 99 := ⟨by decide +kernel, rfl⟩
theorem dd_Farms_drawLots_99 : ad_D mm_Farms_drawLots 99 (.iload 4) 2 101 := ⟨by decide +kernel, rfl⟩
theorem dd_Farms_drawLots_101 : ad_D mm_Farms_drawLots 101 (.iload 5) 2 103 := ⟨by decide +kernel, rfl⟩
theorem dd_Farms_drawLots_103 : ad_D mm_Farms_drawLots 103 (.iastore) 1 104 := ⟨by decide +kernel, rfl⟩
theorem dd_Farms_drawLots_104 : ad_D mm_Farms_drawLots 104 (.iinc 3 1) 3 107 := ⟨by decide +kernel, rfl⟩
theorem dd_Farms_drawLots_107 : ad_D mm_Farms_drawLots 107 (.goto (-67)) 3 110 := ⟨by decide +kernel, rfl⟩
theorem dd_Farms_drawLots_110 : ad_D mm_Farms_drawLots 110 (.return_) 1 111 := ⟨by decide +kernel, rfl⟩
theorem dd_Farms_turn_0 : ad_D mm_Farms_turn 0 (.aload_n 0) 1 1 := ⟨by decide +kernel, rfl⟩
theorem dd_Farms_turn_1 : ad_D mm_Farms_turn 1 (.aload_n 0) 1 2 := ⟨by decide +kernel, rfl⟩
theorem dd_Farms_turn_2 : ad_D mm_Farms_turn 2 (.getfield 26) 3 5 := ⟨by decide +kernel, rfl⟩
theorem dd_Farms_turn_5 : ad_D mm_Farms_turn 5 (.invokevirtual 34) 3 8 := ⟨by decide +kernel, rfl⟩
theorem dd_Farms_turn_8 : ad_D mm_Farms_turn 8 (.ireturn) 1 9 := ⟨by decide +kernel, rfl⟩
theorem dd_Farms_inOrder_0 : ad_D mm_Farms_inOrder 0 (.iload_n 1) 1 1 := ⟨by decide +kernel, rfl⟩
theorem dd_Farms_inOrder_1 : ad_D mm_Farms_inOrder 1 (.iconst 0) 1 2 := ⟨by decide +kernel, rfl⟩
theorem dd_Farms_inOrder_2 : ad_D mm_Farms_inOrder 2 (.aload_n 0) 1 3 := ⟨by decide +kernel, rfl⟩
theorem dd_Farms_inOrder_3 : ad_D mm_Farms_inOrder 3 (.getfield 23) 3 6 := ⟨by decide +kernel, rfl⟩
theorem dd_Farms_inOrder_6 : ad_D mm_Farms_inOrder 6 (.iconst 1) 1 7 := ⟨by decide +kernel, rfl⟩
theorem dd_Farms_inOrder_7 : ad_D mm_Farms_inOrder 7 (.isub) 1 8 := ⟨by decide +kernel, rfl⟩
theorem dd_Farms_inOrder_8 : ad_D mm_Farms_inOrder 8 (.invokestatic 30) 3 11 := ⟨by decide +kernel, rfl⟩
theorem dd_Farms_inOrder_11 : ad_D mm_Farms_inOrder 11 (.ifCond .eq 12) 3 14 := ⟨by decide +kernel, rfl⟩
theorem dd_Farms_inOrder_14 : ad_D mm_Farms_inOrder 14 (.aload_n 0) 1 15 := ⟨by decide +kernel, rfl⟩
theorem dd_Farms_inOrder_15 : ad_D mm_Farms_inOrder 15 (.getfield 15) 3 18 := ⟨by decide +kernel, rfl⟩
theorem dd_Farms_inOrder_18 : ad_D mm_Farms_inOrder 18 (.iload_n 1) 1 19 := ⟨by decide +kernel, rfl⟩
theorem dd_Farms_inOrder_19 : ad_D mm_Farms_inOrder 19 (.iaload) 1 20 := ⟨by decide +kernel, rfl⟩
theorem dd_Farms_inOrder_20 : ad_D mm_Farms_inOrder 20 (.goto 4) 3 23 := ⟨by decide +kernel, rfl⟩
theorem dd_Farms_inOrder_23 : ad_D mm_Farms_inOrder 23 (.iconst (-1)) 1 24 := ⟨by decide +kernel, rfl⟩
theorem dd_Farms_inOrder_24 : ad_D mm_Farms_inOrder 24 (.ireturn) 1 25 := ⟨by decide +kernel, rfl⟩
theorem dd_X_pass_0 : ad_D mm_X_pass 0 (.aload_n 0) 1 1 := ⟨by decide +kernel, rfl⟩
theorem dd_X_pass_1 : ad_D mm_X_pass 1 (.getfield 28) 3 4 := ⟨by decide +kernel, rfl⟩
theorem dd_X_pass_4 : ad_D mm_X_pass 4 (.invokevirtual 118) 3 7 := ⟨by decide +kernel, rfl⟩
theorem dd_X_pass_7 : ad_D mm_X_pass 7 (.aload_n 0) 1 8 := ⟨by decide +kernel, rfl⟩
theorem dd_X_pass_8 : ad_D mm_X_pass 8 (.getfield 28) 3 11 := ⟨by decide +kernel, rfl⟩
theorem dd_X_pass_11 : ad_D mm_X_pass 11 (.invokevirtual 115) 3 14 := ⟨by decide +kernel, rfl⟩
theorem dd_X_pass_14 : ad_D mm_X_pass 14 (.ireturn) 1 15 := ⟨by decide +kernel, rfl⟩
theorem dd_Farms_settleTurn_0 : ad_D mm_Farms_settleTurn 0 (.aload_n 0) 1 1 := ⟨by decide +kernel, rfl⟩
theorem dd_Farms_settleTurn_1 : ad_D mm_Farms_settleTurn 1 (.getfield 26) 3 4 := ⟨by decide +kernel, rfl⟩
theorem dd_Farms_settleTurn_4 : ad_D mm_Farms_settleTurn 4 (.aload_n 0) 1 5 := ⟨by decide +kernel, rfl⟩
theorem dd_Farms_settleTurn_5 : ad_D mm_Farms_settleTurn 5 (.getfield 23) 3 8 := ⟨by decide +kernel, rfl⟩
theorem dd_Farms_settleTurn_8 : ad_D mm_Farms_settleTurn 8 (.if_icmp .ge 13) 3 11 := ⟨by decide +kernel, rfl⟩
theorem dd_Farms_settleTurn_11 : ad_D mm_Farms_settleTurn 11 (.aload_n 0) 1 12 := ⟨by decide +kernel, rfl⟩
theorem dd_Farms_settleTurn_12 : ad_D mm_Farms_settleTurn 12 (.dup) 1 13 := ⟨by decide +kernel, rfl⟩
theorem dd_Farms_settleTurn_13 : ad_D mm_Farms_settleTurn 13 (.getfield 26) 3 16 := ⟨by decide +kernel, rfl⟩
theorem dd_Farms_settleTurn_16 : ad_D mm_Farms_settleTurn 16 (.iconst 1) 1 17 := ⟨by decide +kernel, rfl⟩
theorem dd_Farms_settleTurn_17 : ad_D mm_Farms_settleTurn 17 (.iadd) 1 18 := ⟨by decide +kernel, rfl⟩
theorem dd_Farms_settleTurn_18 : ad_D mm_Farms_settleTurn 18 (.putfield 26) 3 21 := ⟨by decide +kernel, rfl⟩
theorem dd_Farms_settleTurn_21 : ad_D mm_Farms_settleTurn 21 (.return_) 1 22 := ⟨by decide +kernel, rfl⟩
theorem dd_X_cut_0 : ad_D mm_X_cut 0 (.aload_n 0) 1 1 := ⟨by decide +kernel, rfl⟩
theorem dd_X_cut_1 : ad_D mm_X_cut 1 (.iload_n 1) 1 2 := ⟨by decide +kernel, rfl⟩
theorem dd_X_cut_2 : ad_D mm_X_cut 2 (.invokevirtual 121) 3 5 := ⟨by decide +kernel, rfl⟩
theorem dd_X_cut_5 : ad_D mm_X_cut 5 (.astore_n 3) 1 6 := ⟨by decide +kernel, rfl⟩
theorem dd_X_cut_6 : ad_D mm_X_cut 6 (.aload_n 3) 1 7 := ⟨by decide +kernel, rfl⟩
theorem dd_X_cut_7 : ad_D mm_X_cut 7 (.ifnull 10) 3 10 := ⟨by decide +kernel, rfl⟩
theorem dd_X_cut_10 : ad_D mm_X_cut 10 (.aload_n 3) 1 11 := ⟨by decide +kernel, rfl⟩
theorem dd_X_cut_11 : ad_D mm_X_cut 11 (.getfield 125) 3 14 := ⟨by decide +kernel, rfl⟩
theorem dd_X_cut_14 : ad_D mm_X_cut 14 (.ifCond .eq 5) 3 17 := ⟨by decide +kernel, rfl⟩
theorem dd_X_cut_17 : ad_D mm_X_cut 17 (.iconst 0) 1 18 := ⟨by decide +kernel, rfl⟩
theorem dd_X_cut_18 : ad_D mm_X_cut 18 (.ireturn) 1 19 := ⟨by decide +kernel, rfl⟩
theorem dd_X_cut_19 : ad_D mm_X_cut 19 (.iload_n 2) 1 20 := ⟨by decide +kernel, rfl⟩
theorem dd_X_cut_20 : ad_D mm_X_cut 20 (.iconst 1) 1 21 := ⟨by decide +kernel, rfl⟩
theorem dd_X_cut_21 : ad_D mm_X_cut 21 (.bipush 9) 2 23 := ⟨by decide +kernel, rfl⟩
theorem dd_X_cut_23 : ad_D mm_X_cut 23 (.invokestatic 76) 3 26 := ⟨by decide +kernel, rfl⟩
theorem dd_X_cut_26 : ad_D mm_X_cut 26 (.ifCond .eq 11) 3 29 := ⟨by decide +kernel, rfl⟩
theorem dd_X_cut_29 : ad_D mm_X_cut 29 (.iload_n 2) 1 30 := ⟨by decide +kernel, rfl⟩
theorem dd_X_cut_30 : ad_D mm_X_cut 30 (.aload_n 0) 1 31 := ⟨by decide +kernel, rfl⟩
theorem dd_X_cut_31 : ad_D mm_X_cut 31 (.invokevirtual 128) 3 34 := ⟨by decide +kernel, rfl⟩
theorem dd_X_cut_34 : ad_D mm_X_cut 34 (.if_icmp .le 5) 3 37 := ⟨by decide +kernel, rfl⟩
theorem dd_X_cut_37 : ad_D mm_X_cut 37 (.iconst 0) 1 38 := ⟨by decide +kernel, rfl⟩
theorem dd_X_cut_38 : ad_D mm_X_cut 38 (.ireturn) 1 39 := ⟨by decide +kernel, rfl⟩
theorem dd_X_cut_39 : ad_D mm_X_cut 39 (.aload_n 0) 1 40 := ⟨by decide +kernel, rfl⟩
theorem dd_X_cut_40 : ad_D mm_X_cut 40 (.getfield 28) 3 43 := ⟨by decide +kernel, rfl⟩
theorem dd_X_cut_43 : ad_D mm_X_cut 43 (.invokevirtual 115) 3 46 := ⟨by decide +kernel, rfl⟩
theorem dd_X_cut_46 : ad_D mm_X_cut 46 (.aload_n 3) 1 47 := ⟨by decide +kernel, rfl⟩
theorem dd_X_cut_47 : ad_D mm_X_cut 47 (.getfield 131) 3 50 := ⟨by decide +kernel, rfl⟩
theorem dd_X_cut_50 : ad_D mm_X_cut 50 (.if_icmp .ne 7) 3 53 := ⟨by decide +kernel, rfl⟩
theorem dd_X_cut_53 : ad_D mm_X_cut 53 (.iconst 1) 1 54 := ⟨by decide +kernel, rfl⟩
theorem dd_X_cut_54 : ad_D mm_X_cut 54 (.goto 4) 3 57 := ⟨by decide +kernel, rfl⟩
theorem dd_X_cut_57 : ad_D mm_X_cut 57 (.iconst 0) 1 58 := ⟨by decide +kernel, rfl⟩
theorem dd_X_cut_58 : ad_D mm_X_cut 58 (.istore 4) 2 60 := ⟨by decide +kernel, rfl⟩
theorem dd_X_cut_60 : ad_D mm_X_cut 60 (.iload 4) 2 62 := ⟨by decide +kernel, rfl⟩
theorem dd_X_cut_62 : ad_D mm_X_cut 62 (.ifCond .ne 12) 3 65 := ⟨by decide +kernel, rfl⟩
theorem dd_X_cut_65 : ad_D mm_X_cut 65 (.aload_n 3) 1 66 := ⟨by decide +kernel, rfl⟩
theorem dd_X_cut_66 : ad_D mm_X_cut 66 (.getfield 134) 3 69 := ⟨by decide +kernel, rfl⟩
theorem dd_X_cut_69 : ad_D mm_X_cut 69 (.ifCond .ne 5) 3 72 := ⟨by decide +kernel, rfl⟩
theorem dd_X_cut_72 : ad_D mm_X_cut 72 (.iconst 0) 1 73 := ⟨by decide +kernel, rfl⟩
theorem dd_X_cut_73 : ad_D mm_X_cut 73 (.ireturn) 1 74 := ⟨by decide +kernel, rfl⟩
theorem dd_X_cut_74 : ad_D mm_X_cut 74 (.iload 4) 2 76 := ⟨by decide +kernel, rfl⟩
theorem dd_X_cut_76 : ad_D mm_X_cut 76 (.ifCond .eq 10) 3 79 := ⟨by decide +kernel, rfl⟩
theorem dd_X_cut_79 : ad_D mm_X_cut 79 (.aload_n 0) 1 80 := ⟨by decide +kernel, rfl⟩
theorem dd_X_cut_80 : ad_D mm_X_cut 80 (.getfield 28) 3 83 := ⟨by decide +kernel, rfl⟩
theorem dd_X_cut_83 : ad_D mm_X_cut 83 (.invokevirtual 118) 3 86 := ⟨by decide +kernel, rfl⟩
theorem dd_X_cut_86 : ad_D mm_X_cut 86 (.aload_n 3) 1 87 := ⟨by decide +kernel, rfl⟩
theorem dd_X_cut_87 : ad_D mm_X_cut 87 (.iconst 1) 1 88 := ⟨by decide +kernel, rfl⟩
theorem dd_X_cut_88 : ad_D mm_X_cut 88 (.putfield 125) 3 91 := ⟨by decide +kernel, rfl⟩
theorem dd_X_cut_91 : ad_D mm_X_cut 91 (.aload_n 3) 1 92 := ⟨by decide +kernel, rfl⟩
theorem dd_X_cut_92 : ad_D mm_X_cut 92 (.iload_n 2) 1 93 := ⟨by decide +kernel, rfl⟩
theorem dd_X_cut_93 : ad_D mm_X_cut 93 (.putfield 138) 3 96 := ⟨by decide +kernel, rfl⟩
theorem dd_X_cut_96 : ad_D mm_X_cut 96 (.iconst 1) 1 97 := ⟨by decide +kernel, rfl⟩
theorem dd_X_cut_97 : ad_D mm_X_cut 97 (.ireturn) 1 98 := ⟨by decide +kernel, rfl⟩
theorem dd_X_findField_0 : ad_D mm_X_findField 0 (.aload_n 0) 1 1 := ⟨by decide +kernel, rfl⟩
theorem dd_X_findField_1 : ad_D mm_X_findField 1 (.getfield 102) 3 4 := ⟨by decide +kernel, rfl⟩
theorem dd_X_findField_4 : ad_D mm_X_findField 4 (.astore_n 2) 1 5 := ⟨by decide +kernel, rfl⟩
theorem dd_X_findField_5 : ad_D mm_X_findField 5 (.aload_n 2) 1 6 := ⟨by decide +kernel, rfl⟩
theorem dd_X_findField_6 : ad_D mm_X_findField 6 (.ifnull 21) 3 9 := ⟨by decide +kernel, rfl⟩
theorem dd_X_findField_9 : ad_D mm_X_findField 9 (.aload_n 2) 1 10 := ⟨by decide +kernel, rfl⟩
theorem dd_X_findField_10 : ad_D mm_X_findField 10 (.getfield 196) 3 13 := ⟨by decide +kernel, rfl⟩
theorem dd_X_findField_13 : ad_D mm_X_findField 13 (.iload_n 1) 1 14 := ⟨by decide +kernel, rfl⟩
theorem dd_X_findField_14 : ad_D mm_X_findField 14 (.if_icmp .ne 5) 3 17 := ⟨by decide +kernel, rfl⟩
theorem dd_X_findField_17 : ad_D mm_X_findField 17 (.aload_n 2) 1 18 := ⟨by decide +kernel, rfl⟩
theorem dd_X_findField_18 : ad_D mm_X_findField 18 (.areturn) 1 19 := ⟨by decide +kernel, rfl⟩
theorem dd_X_findField_19 : ad_D mm_X_findField 19 (.aload_n 2) 1 20 := ⟨by decide +kernel, rfl⟩
theorem dd_X_findField_20 : ad_D mm_X_findField 20 (.getfield 105) 3 23 := ⟨by decide +kernel, rfl⟩
theorem dd_X_findField_23 : ad_D mm_X_findField 23 (.astore_n 2) 1 24 := ⟨by decide +kernel, rfl⟩
theorem dd_X_findField_24 : ad_D mm_X_findField 24 (.goto (-19)) 3 27 := ⟨by decide +kernel, rfl⟩
theorem dd_X_findField_27 : ad_D mm_X_findField 27 (.aconst_null) 1 28 := ⟨by decide +kernel, rfl⟩
theorem dd_X_findField_28 : ad_D mm_X_findField 28 (.areturn) 1 29 := ⟨by decide +kernel, rfl⟩
theorem dd_X_freeGangs_0 : ad_D mm_X_freeGangs 0 (.aload_n 0) 1 1 := ⟨by decide +kernel, rfl⟩
theorem dd_X_freeGangs_1 : ad_D mm_X_freeGangs 1 (.getfield 7) 3 4 := ⟨by decide +kernel, rfl⟩
theorem dd_X_freeGangs_4 : ad_D mm_X_freeGangs 4 (.istore_n 1) 1 5 := ⟨by decide +kernel, rfl⟩
theorem dd_X_freeGangs_5 : ad_D mm_X_freeGangs 5 (.aload_n 0) 1 6 := ⟨by decide +kernel, rfl⟩
theorem dd_X_freeGangs_6 : ad_D mm_X_freeGangs 6 (.getfield 102) 3 9 := ⟨by decide +kernel, rfl⟩
theorem dd_X_freeGangs_9 : ad_D mm_X_freeGangs 9 (.astore_n 2) 1 10 := ⟨by decide +kernel, rfl⟩
theorem dd_X_freeGangs_10 : ad_D mm_X_freeGangs 10 (.aload_n 2) 1 11 := ⟨by decide +kernel, rfl⟩
theorem dd_X_freeGangs_11 : ad_D mm_X_freeGangs 11 (.ifnull 18) 3 14 := ⟨by decide +kernel, rfl⟩
theorem dd_X_freeGangs_14 : ad_D mm_X_freeGangs 14 (.iload_n 1) 1 15 := ⟨by decide +kernel, rfl⟩
theorem dd_X_freeGangs_15 : ad_D mm_X_freeGangs 15 (.aload_n 2) 1 16 := ⟨by decide +kernel, rfl⟩
theorem dd_X_freeGangs_16 : ad_D mm_X_freeGangs 16 (.getfield 138) 3 19 := ⟨by decide +kernel, rfl⟩
theorem dd_X_freeGangs_19 : ad_D mm_X_freeGangs 19 (.isub) 1 20 := ⟨by decide +kernel, rfl⟩
theorem dd_X_freeGangs_20 : ad_D mm_X_freeGangs 20 (.istore_n 1) 1 21 := ⟨by decide +kernel, rfl⟩
theorem dd_X_freeGangs_21 : ad_D mm_X_freeGangs 21 (.aload_n 2) 1 22 := ⟨by decide +kernel, rfl⟩
theorem dd_X_freeGangs_22 : ad_D mm_X_freeGangs 22 (.getfield 105) 3 25 := ⟨by decide +kernel, rfl⟩
theorem dd_X_freeGangs_25 : ad_D mm_X_freeGangs 25 (.astore_n 2) 1 26 := ⟨by decide +kernel, rfl⟩
theorem dd_X_freeGangs_26 : ad_D mm_X_freeGangs 26 (.goto (-16)) 3 29 := ⟨by decide +kernel, rfl⟩
theorem dd_X_freeGangs_29 : ad_D mm_X_freeGangs 29 (.iload_n 1) 1 30 := ⟨by decide +kernel, rfl⟩
theorem dd_X_freeGangs_30 : ad_D mm_X_freeGangs 30 (.ireturn) 1 31 := ⟨by decide +kernel, rfl⟩
theorem dd_X_fire_0 : ad_D mm_X_fire 0 (.aload_n 0) 1 1 := ⟨by decide +kernel, rfl⟩
theorem dd_X_fire_1 : ad_D mm_X_fire 1 (.iload_n 1) 1 2 := ⟨by decide +kernel, rfl⟩
theorem dd_X_fire_2 : ad_D mm_X_fire 2 (.invokevirtual 121) 3 5 := ⟨by decide +kernel, rfl⟩
theorem dd_X_fire_5 : ad_D mm_X_fire 5 (.astore_n 2) 1 6 := ⟨by decide +kernel, rfl⟩
theorem dd_X_fire_6 : ad_D mm_X_fire 6 (.aload_n 2) 1 7 := ⟨by decide +kernel, rfl⟩
theorem dd_X_fire_7 : ad_D mm_X_fire 7 (.ifnull 17) 3 10 := ⟨by decide +kernel, rfl⟩
theorem dd_X_fire_10 : ad_D mm_X_fire 10 (.aload_n 2) 1 11 := ⟨by decide +kernel, rfl⟩
theorem dd_X_fire_11 : ad_D mm_X_fire 11 (.getfield 134) 3 14 := ⟨by decide +kernel, rfl⟩
theorem dd_X_fire_14 : ad_D mm_X_fire 14 (.ifCond .ne 10) 3 17 := ⟨by decide +kernel, rfl⟩
theorem dd_X_fire_17 : ad_D mm_X_fire 17 (.aload_n 2) 1 18 := ⟨by decide +kernel, rfl⟩
theorem dd_X_fire_18 : ad_D mm_X_fire 18 (.getfield 125) 3 21 := ⟨by decide +kernel, rfl⟩
theorem dd_X_fire_21 : ad_D mm_X_fire 21 (.ifCond .eq 5) 3 24 := ⟨by decide +kernel, rfl⟩
theorem dd_X_fire_24 : ad_D mm_X_fire 24 (.iconst 0) 1 25 := ⟨by decide +kernel, rfl⟩
theorem dd_X_fire_25 : ad_D mm_X_fire 25 (.ireturn) 1 26 := ⟨by decide +kernel, rfl⟩
theorem dd_X_fire_26 : ad_D mm_X_fire 26 (.aload_n 2) 1 27 := ⟨by decide +kernel, rfl⟩
theorem dd_X_fire_27 : ad_D mm_X_fire 27 (.aload_n 0) 1 28 := ⟨by decide +kernel, rfl⟩
theorem dd_X_fire_28 : ad_D mm_X_fire 28 (.getfield 80) 3 31 := ⟨by decide +kernel, rfl⟩
theorem dd_X_fire_31 : ad_D mm_X_fire 31 (.invokevirtual 139) 3 34 := ⟨by decide +kernel, rfl⟩
theorem dd_X_fire_34 : ad_D mm_X_fire 34 (.iconst 1) 1 35 := ⟨by decide +kernel, rfl⟩
theorem dd_X_fire_35 : ad_D mm_X_fire 35 (.ireturn) 1 36 := ⟨by decide +kernel, rfl⟩
theorem dd_Field_burn_0 : ad_D mm_Field_burn 0 (.aload_n 0) 1 1 := ⟨by decide +kernel, rfl⟩
theorem dd_Field_burn_1 : ad_D mm_Field_burn 1 (.iconst 0) 1 2 := ⟨by decide +kernel, rfl⟩
theorem dd_Field_burn_2 : ad_D mm_Field_burn 2 (.aload_n 0) 1 3 := ⟨by decide +kernel, rfl⟩
theorem dd_Field_burn_3 : ad_D mm_Field_burn 3 (.iload_n 1) 1 4 := ⟨by decide +kernel, rfl⟩
theorem dd_Field_burn_4 : ad_D mm_Field_burn 4 (.invokevirtual 59) 3 7 := ⟨by decide +kernel, rfl⟩
theorem dd_Field_burn_7 : ad_D mm_Field_burn 7 (.iconst 2) 1 8 := ⟨by decide +kernel, rfl⟩
theorem dd_Field_burn_8 : ad_D mm_Field_burn 8 (.isub) 1 9 := ⟨by decide +kernel, rfl⟩
theorem dd_Field_burn_9 : ad_D mm_Field_burn 9 (.invokestatic 56) 3 12 := ⟨by decide +kernel, rfl⟩
theorem dd_Field_burn_12 : ad_D mm_Field_burn 12 (.putfield 43) 3 15 := ⟨by decide +kernel, rfl⟩
theorem dd_Field_burn_15 : ad_D mm_Field_burn 15 (.aload_n 0) 1 16 := ⟨by decide +kernel, rfl⟩
theorem dd_Field_burn_16 : ad_D mm_Field_burn 16 (.iload_n 1) 1 17 := ⟨by decide +kernel, rfl⟩
theorem dd_Field_burn_17 : ad_D mm_Field_burn 17 (.putfield 62) 3 20 := ⟨by decide +kernel, rfl⟩
theorem dd_Field_burn_20 : ad_D mm_Field_burn 20 (.aload_n 0) 1 21 := ⟨by decide +kernel, rfl⟩
theorem dd_Field_burn_21 : ad_D mm_Field_burn 21 (.iconst 1) 1 22 := ⟨by decide +kernel, rfl⟩
theorem dd_Field_burn_22 : ad_D mm_Field_burn 22 (.putfield 39) 3 25 := ⟨by decide +kernel, rfl⟩
theorem dd_Field_burn_25 : ad_D mm_Field_burn 25 (.return_) 1 26 := ⟨by decide +kernel, rfl⟩
theorem dd_Field_sweetAt_0 : ad_D mm_Field_sweetAt 0 (.aload_n 0) 1 1 := ⟨by decide +kernel, rfl⟩
theorem dd_Field_sweetAt_1 : ad_D mm_Field_sweetAt 1 (.getfield 39) 3 4 := ⟨by decide +kernel, rfl⟩
theorem dd_Field_sweetAt_4 : ad_D mm_Field_sweetAt 4 (.ifCond .eq 8) 3 7 := ⟨by decide +kernel, rfl⟩
theorem dd_Field_sweetAt_7 : ad_D mm_Field_sweetAt 7 (.aload_n 0) 1 8 := ⟨by decide +kernel, rfl⟩
theorem dd_Field_sweetAt_8 : ad_D mm_Field_sweetAt 8 (.getfield 43) 3 11 := ⟨by decide +kernel, rfl⟩
theorem dd_Field_sweetAt_11 : ad_D mm_Field_sweetAt 11 (.ireturn) 1 12 := ⟨by decide +kernel, rfl⟩
theorem dd_Field_sweetAt_12 : ad_D mm_Field_sweetAt 12 (.iconst 0) 1 13 := ⟨by decide +kernel, rfl⟩
theorem dd_Field_sweetAt_13 : ad_D mm_Field_sweetAt 13 (.aload_n 0) 1 14 := ⟨by decide +kernel, rfl⟩
theorem dd_Field_sweetAt_14 : ad_D mm_Field_sweetAt 14 (.getfield 30) 3 17 := ⟨by decide +kernel, rfl⟩
theorem dd_Field_sweetAt_17 : ad_D mm_Field_sweetAt 17 (.iload_n 1) 1 18 := ⟨by decide +kernel, rfl⟩
theorem dd_Field_sweetAt_18 : ad_D mm_Field_sweetAt 18 (.aload_n 0) 1 19 := ⟨by decide +kernel, rfl⟩
theorem dd_Field_sweetAt_19 : ad_D mm_Field_sweetAt 19 (.getfield 33) 3 22 := ⟨by decide +kernel, rfl⟩
theorem dd_Field_sweetAt_22 : ad_D mm_Field_sweetAt 22 (.isub) 1 23 := ⟨by decide +kernel, rfl⟩
theorem dd_Field_sweetAt_23 : ad_D mm_Field_sweetAt 23 (.invokestatic 46) 3 26 := ⟨by decide +kernel, rfl⟩
theorem dd_Field_sweetAt_26 : ad_D mm_Field_sweetAt 26 (.aload_n 0) 1 27 := ⟨by decide +kernel, rfl⟩
theorem dd_Field_sweetAt_27 : ad_D mm_Field_sweetAt 27 (.getfield 36) 3 30 := ⟨by decide +kernel, rfl⟩
theorem dd_Field_sweetAt_30 : ad_D mm_Field_sweetAt 30 (.invokestatic 52) 3 33 := ⟨by decide +kernel, rfl⟩
theorem dd_Field_sweetAt_33 : ad_D mm_Field_sweetAt 33 (.isub) 1 34 := ⟨by decide +kernel, rfl⟩
theorem dd_Field_sweetAt_34 : ad_D mm_Field_sweetAt 34 (.invokestatic 56) 3 37 := ⟨by decide +kernel, rfl⟩
theorem dd_Field_sweetAt_37 : ad_D mm_Field_sweetAt 37 (.ireturn) 1 38 := ⟨by decide +kernel, rfl⟩
theorem dd_X_quotient_0 : ad_D mm_X_quotient 0 (.iload_n 1) 1 1 := ⟨by decide +kernel, rfl⟩
theorem dd_X_quotient_1 : ad_D mm_X_quotient 1 (.ifCond .ne 7) 3 4 := ⟨by decide +kernel, rfl⟩
theorem dd_X_quotient_4 : ad_D mm_X_quotient 4 (.iconst 0) 1 5 := ⟨by decide +kernel, rfl⟩
theorem dd_X_quotient_5 : ad_D mm_X_quotient 5 (.goto 6) 3 8 := ⟨by decide +kernel, rfl⟩
theorem dd_X_quotient_8 : ad_D mm_X_quotient 8 (.iload_n 0) 1 9 := ⟨by decide +kernel, rfl⟩
theorem dd_X_quotient_9 : ad_D mm_X_quotient 9 (.iload_n 1) 1 10 := ⟨by decide +kernel, rfl⟩
theorem dd_X_quotient_10 : ad_D mm_X_quotient 10 (.idiv) 1 11 := ⟨by decide +kernel, rfl⟩
theorem dd_X_quotient_11 : ad_D mm_X_quotient 11 (.ireturn) 1 12 := ⟨by decide +kernel, rfl⟩
theorem dd_X_hours_0 : ad_D mm_X_hours 0 (.iload_n 1) 1 1 := ⟨by decide +kernel, rfl⟩
theorem dd_X_hours_1 : ad_D mm_X_hours 1 (.iconst 1) 1 2 := ⟨by decide +kernel, rfl⟩
theorem dd_X_hours_2 : ad_D mm_X_hours 2 (.bipush 100) 2 4 := ⟨by decide +kernel, rfl⟩
theorem dd_X_hours_4 : ad_D mm_X_hours 4 (.invokestatic 76) 3 7 := ⟨by decide +kernel, rfl⟩
theorem dd_X_hours_7 : ad_D mm_X_hours 7 (.ifCond .eq 15) 3 10 := ⟨by decide +kernel, rfl⟩
theorem dd_X_hours_10 : ad_D mm_X_hours 10 (.aload_n 0) 1 11 := ⟨by decide +kernel, rfl⟩
theorem dd_X_hours_11 : ad_D mm_X_hours 11 (.getfield 80) 3 14 := ⟨by decide +kernel, rfl⟩
theorem dd_X_hours_14 : ad_D mm_X_hours 14 (.iload_n 1) 1 15 := ⟨by decide +kernel, rfl⟩
theorem dd_X_hours_15 : ad_D mm_X_hours 15 (.iadd) 1 16 := ⟨by decide +kernel, rfl⟩
theorem dd_X_hours_16 : ad_D mm_X_hours 16 (.sipush 4000) 3 19 := ⟨by decide +kernel, rfl⟩
theorem dd_X_hours_19 : ad_D mm_X_hours 19 (.if_icmp .le 5) 3 22 := ⟨by decide +kernel, rfl⟩
theorem dd_X_hours_22 : ad_D mm_X_hours 22 (.iconst (-1)) 1 23 := ⟨by decide +kernel, rfl⟩
theorem dd_X_hours_23 : ad_D mm_X_hours 23 (.ireturn) 1 24 := ⟨by decide +kernel, rfl⟩
theorem dd_X_hours_24 : ad_D mm_X_hours 24 (.iconst 0) 1 25 := ⟨by decide +kernel, rfl⟩
theorem dd_X_hours_25 : ad_D mm_X_hours 25 (.istore_n 2) 1 26 := ⟨by decide +kernel, rfl⟩
theorem dd_X_hours_26 : ad_D mm_X_hours 26 (.iload_n 2) 1 27 := ⟨by decide +kernel, rfl⟩
theorem dd_X_hours_27 : ad_D mm_X_hours 27 (.iload_n 1) 1 28 := ⟨by decide +kernel, rfl⟩
theorem dd_X_hours_28 : ad_D mm_X_hours 28 (.if_icmp .ge 13) 3 31 := ⟨by decide +kernel, rfl⟩
theorem dd_X_hours_31 : ad_D mm_X_hours 31 (.aload_n 0) 1 32 := ⟨by decide +kernel, rfl⟩
theorem dd_X_hours_32 : ad_D mm_X_hours 32 (.invokevirtual 142) 3 35 := ⟨by decide +kernel, rfl⟩
theorem dd_X_hours_35 : ad_D mm_X_hours 35 (.iinc 2 1) 3 38 := ⟨by decide +kernel, rfl⟩
theorem dd_X_hours_38 : ad_D mm_X_hours 38 (.goto (-12)) 3 41 := ⟨by decide +kernel, rfl⟩
theorem dd_X_hours_41 : ad_D mm_X_hours 41 (.aload_n 0) 1 42 := ⟨by decide +kernel, rfl⟩
theorem dd_X_hours_42 : ad_D mm_X_hours 42 (.getfield 80) 3 45 := ⟨by decide +kernel, rfl⟩
theorem dd_X_hours_45 : ad_D mm_X_hours 45 (.ireturn) 1 46 := ⟨by decide +kernel, rfl⟩
theorem dd_X_passHour_0 : ad_D mm_X_passHour 0 (.aload_n 0) 1 1 := ⟨by decide +kernel, rfl⟩
theorem dd_X_passHour_1 : ad_D mm_X_passHour 1 (.getfield 35) 3 4 := ⟨by decide +kernel, rfl⟩
theorem dd_X_passHour_4 : ad_D mm_X_passHour 4 (.iconst 0) 1 5 := ⟨by decide +kernel, rfl⟩
theorem dd_X_passHour_5 : ad_D mm_X_passHour 5 (.aload_n 0) 1 6 := ⟨by decide +kernel, rfl⟩
theorem dd_X_passHour_6 : ad_D mm_X_passHour 6 (.getfield 80) 3 9 := ⟨by decide +kernel, rfl⟩
theorem dd_X_passHour_9 : ad_D mm_X_passHour 9 (.invokevirtual 268) 3 12 := ⟨by decide +kernel, rfl⟩
theorem dd_X_passHour_12 : ad_D mm_X_passHour 12 (.ifCond .ne 7) 3 15 := ⟨by decide +kernel, rfl⟩
theorem dd_X_passHour_15 : ad_D mm_X_passHour 15 (.aload_n 0) 1 16 := ⟨by decide +kernel, rfl⟩
theorem dd_X_passHour_16 : ad_D mm_X_passHour 16 (.invokevirtual 272) 3 19 := ⟨by decide +kernel, rfl⟩
theorem dd_X_passHour_19 : ad_D mm_X_passHour 19 (.aload_n 0) 1 20 := ⟨by decide +kernel, rfl⟩
theorem dd_X_passHour_20 : ad_D mm_X_passHour 20 (.invokevirtual 275) 3 23 := ⟨by decide +kernel, rfl⟩
theorem dd_X_passHour_23 : ad_D mm_X_passHour 23 (.aload_n 0) 1 24 := ⟨by decide +kernel, rfl⟩
theorem dd_X_passHour_24 : ad_D mm_X_passHour 24 (.getfield 35) 3 27 := ⟨by decide +kernel, rfl⟩
theorem dd_X_passHour_27 : ad_D mm_X_passHour 27 (.iconst 1) 1 28 := ⟨by decide +kernel, rfl⟩
theorem dd_X_passHour_28 : ad_D mm_X_passHour 28 (.aload_n 0) 1 29 := ⟨by decide +kernel, rfl⟩
theorem dd_X_passHour_29 : ad_D mm_X_passHour 29 (.getfield 80) 3 32 := ⟨by decide +kernel, rfl⟩
theorem dd_X_passHour_32 : ad_D mm_X_passHour 32 (.invokevirtual 268) 3 35 := ⟨by decide +kernel, rfl⟩
theorem dd_X_passHour_35 : ad_D mm_X_passHour 35 (.ifCond .ne 7) 3 38 := ⟨by decide +kernel, rfl⟩
theorem dd_X_passHour_38 : ad_D mm_X_passHour 38 (.aload_n 0) 1 39 := ⟨by decide +kernel, rfl⟩
theorem dd_X_passHour_39 : ad_D mm_X_passHour 39 (.invokevirtual 278) 3 42 := ⟨by decide +kernel, rfl⟩
theorem dd_X_passHour_42 : ad_D mm_X_passHour 42 (.aload_n 0) 1 43 := ⟨by decide +kernel, rfl⟩
theorem dd_X_passHour_43 : ad_D mm_X_passHour 43 (.invokevirtual 281) 3 46 := ⟨by decide +kernel, rfl⟩
theorem dd_X_passHour_46 : ad_D mm_X_passHour 46 (.aload_n 0) 1 47 := ⟨by decide +kernel, rfl⟩
theorem dd_X_passHour_47 : ad_D mm_X_passHour 47 (.invokevirtual 284) 3 50 := ⟨by decide +kernel, rfl⟩
theorem dd_X_passHour_50 : ad_D mm_X_passHour 50 (.aload_n 0) 1 51 := ⟨by decide +kernel, rfl⟩
theorem dd_X_passHour_51 : ad_D mm_X_passHour 51 (.getfield 80) 3 54 := ⟨by decide +kernel, rfl⟩
theorem dd_X_passHour_54 : ad_D mm_X_passHour 54 (.iconst 1) 1 55 := ⟨by decide +kernel, rfl⟩
theorem dd_X_passHour_55 : ad_D mm_X_passHour 55 (.iadd) 1 56 := ⟨by decide +kernel, rfl⟩
theorem dd_X_passHour_56 : ad_D mm_X_passHour 56 (.bipush 24) 2 58 := ⟨by decide +kernel, rfl⟩
theorem dd_X_passHour_58 : ad_D mm_X_passHour 58 (.irem) 1 59 := ⟨by decide +kernel, rfl⟩
theorem dd_X_passHour_59 : ad_D mm_X_passHour 59 (.ifCond .ne 7) 3 62 := ⟨by decide +kernel, rfl⟩
theorem dd_X_passHour_62 : ad_D mm_X_passHour 62 (.aload_n 0) 1 63 := ⟨by decide +kernel, rfl⟩
theorem dd_X_passHour_63 : ad_D mm_X_passHour 63 (.invokevirtual 287) 3 66 := ⟨by decide +kernel, rfl⟩
theorem dd_X_passHour_66 : ad_D mm_X_passHour 66 (.aload_n 0) 1 67 := ⟨by decide +kernel, rfl⟩
theorem dd_X_passHour_67 : ad_D mm_X_passHour 67 (.dup) 1 68 := ⟨by decide +kernel, rfl⟩
theorem dd_X_passHour_68 : ad_D mm_X_passHour 68 (.getfield 80) 3 71 := ⟨by decide +kernel, rfl⟩
theorem dd_X_passHour_71 : ad_D mm_X_passHour 71 (.iconst 1) 1 72 := ⟨by decide +kernel, rfl⟩
theorem dd_X_passHour_72 : ad_D mm_X_passHour 72 (.iadd) 1 73 := ⟨by decide +kernel, rfl⟩
theorem dd_X_passHour_73 : ad_D mm_X_passHour 73 (.putfield 80) 3 76 := ⟨by decide +kernel, rfl⟩
theorem dd_X_passHour_76 : ad_D mm_X_passHour 76 (.return_) 1 77 := ⟨by decide +kernel, rfl⟩
theorem dd_Weather_holds_0 : ad_D mm_Weather_holds 0 (.aload_n 0) 1 1 := ⟨by decide +kernel, rfl⟩
theorem dd_Weather_holds_1 : ad_D mm_Weather_holds 1 (.getfield 15) 3 4 := ⟨by decide +kernel, rfl⟩
theorem dd_Weather_holds_4 : ad_D mm_Weather_holds 4 (.astore_n 3) 1 5 := ⟨by decide +kernel, rfl⟩
theorem dd_Weather_holds_5 : ad_D mm_Weather_holds 5 (.aload_n 3) 1 6 := ⟨by decide +kernel, rfl⟩
theorem dd_Weather_holds_6 : ad_D mm_Weather_holds 6 (.ifnull 37) 3 9 := ⟨by decide +kernel, rfl⟩
theorem dd_Weather_holds_9 : ad_D mm_Weather_holds 9 (.aload_n 3) 1 10 := ⟨by decide +kernel, rfl⟩
theorem dd_Weather_holds_10 : ad_D mm_Weather_holds 10 (.getfield 22) 3 13 := ⟨by decide +kernel, rfl⟩
theorem dd_Weather_holds_13 : ad_D mm_Weather_holds 13 (.iload_n 1) 1 14 := ⟨by decide +kernel, rfl⟩
theorem dd_Weather_holds_14 : ad_D mm_Weather_holds 14 (.if_icmp .ne 21) 3 17 := ⟨by decide +kernel, rfl⟩
theorem dd_Weather_holds_17 : ad_D mm_Weather_holds 17 (.aload_n 3) 1 18 := ⟨by decide +kernel, rfl⟩
theorem dd_Weather_holds_18 : ad_D mm_Weather_holds 18 (.getfield 26) 3 21 := ⟨by decide +kernel, rfl⟩
theorem dd_Weather_holds_21 : ad_D mm_Weather_holds 21 (.iload_n 2) 1 22 := ⟨by decide +kernel, rfl⟩
theorem dd_Weather_holds_22 : ad_D mm_Weather_holds 22 (.if_icmp .gt 13) 3 25 := ⟨by decide +kernel, rfl⟩
theorem dd_Weather_holds_25 : ad_D mm_Weather_holds 25 (.iload_n 2) 1 26 := ⟨by decide +kernel, rfl⟩
theorem dd_Weather_holds_26 : ad_D mm_Weather_holds 26 (.aload_n 3) 1 27 := ⟨by decide +kernel, rfl⟩
theorem dd_Weather_holds_27 : ad_D mm_Weather_holds 27 (.getfield 29) 3 30 := ⟨by decide +kernel, rfl⟩
theorem dd_Weather_holds_30 : ad_D mm_Weather_holds 30 (.if_icmp .ge 5) 3 33 := ⟨by decide +kernel, rfl⟩
theorem dd_Weather_holds_33 : ad_D mm_Weather_holds 33 (.iconst 1) 1 34 := ⟨by decide +kernel, rfl⟩
theorem dd_Weather_holds_34 : ad_D mm_Weather_holds 34 (.ireturn) 1 35 := ⟨by decide +kernel, rfl⟩
theorem dd_Weather_holds_35 : ad_D mm_Weather_holds 35 (.aload_n 3) 1 36 := ⟨by decide +kernel, rfl⟩
theorem dd_Weather_holds_36 : ad_D mm_Weather_holds 36 (.getfield 32) 3 39 := ⟨by decide +kernel, rfl⟩
theorem dd_Weather_holds_39 : ad_D mm_Weather_holds 39 (.astore_n 3) 1 40 := ⟨by decide +kernel, rfl⟩
theorem dd_Weather_holds_40 : ad_D mm_Weather_holds 40 (.goto (-35)) 3 43 := ⟨by decide +kernel, rfl⟩
theorem dd_Weather_holds_43 : ad_D mm_Weather_holds 43 (.iconst 0) 1 44 := ⟨by decide +kernel, rfl⟩
theorem dd_Weather_holds_44 : ad_D mm_Weather_holds 44 (.ireturn) 1 45 := ⟨by decide +kernel, rfl⟩
theorem dd_X_goOnCutting_0 : ad_D mm_X_goOnCutting 0 (.aload_n 0) 1 1 := ⟨by decide +kernel, rfl⟩
theorem dd_X_goOnCutting_1 : ad_D mm_X_goOnCutting 1 (.getfield 102) 3 4 := ⟨by decide +kernel, rfl⟩
theorem dd_X_goOnCutting_4 : ad_D mm_X_goOnCutting 4 (.astore_n 1) 1 5 := ⟨by decide +kernel, rfl⟩
theorem dd_X_goOnCutting_5 : ad_D mm_X_goOnCutting 5 (.aload_n 1) 1 6 := ⟨by decide +kernel, rfl⟩
theorem dd_X_goOnCutting_6 : ad_D mm_X_goOnCutting 6 (.ifnull 40) 3 9 := ⟨by decide +kernel, rfl⟩
theorem dd_X_goOnCutting_9 : ad_D mm_X_goOnCutting 9 (.aload_n 1) 1 10 := ⟨by decide +kernel, rfl⟩
theorem dd_X_goOnCutting_10 : ad_D mm_X_goOnCutting 10 (.getfield 125) 3 13 := ⟨by decide +kernel, rfl⟩
theorem dd_X_goOnCutting_13 : ad_D mm_X_goOnCutting 13 (.iconst 1) 1 14 := ⟨by decide +kernel, rfl⟩
theorem dd_X_goOnCutting_14 : ad_D mm_X_goOnCutting 14 (.if_icmp .ne 24) 3 17 := ⟨by decide +kernel, rfl⟩
theorem dd_X_goOnCutting_17 : ad_D mm_X_goOnCutting 17 (.aload_n 1) 1 18 := ⟨by decide +kernel, rfl⟩
theorem dd_X_goOnCutting_18 : ad_D mm_X_goOnCutting 18 (.aload_n 0) 1 19 := ⟨by decide +kernel, rfl⟩
theorem dd_X_goOnCutting_19 : ad_D mm_X_goOnCutting 19 (.getfield 13) 3 22 := ⟨by decide +kernel, rfl⟩
theorem dd_X_goOnCutting_22 : ad_D mm_X_goOnCutting 22 (.invokevirtual 290) 3 25 := ⟨by decide +kernel, rfl⟩
theorem dd_X_goOnCutting_25 : ad_D mm_X_goOnCutting 25 (.aload_n 1) 1 26 := ⟨by decide +kernel, rfl⟩
theorem dd_X_goOnCutting_26 : ad_D mm_X_goOnCutting 26 (.getfield 125) 3 29 := ⟨by decide +kernel, rfl⟩
theorem dd_X_goOnCutting_29 : ad_D mm_X_goOnCutting 29 (.iconst 2) 1 30 := ⟨by decide +kernel, rfl⟩
theorem dd_X_goOnCutting_30 : ad_D mm_X_goOnCutting 30 (.if_icmp .ne 8) 3 33 := ⟨by decide +kernel, rfl⟩
theorem dd_X_goOnCutting_33 : ad_D mm_X_goOnCutting 33 (.aload_n 0) 1 34 := ⟨by decide +kernel, rfl⟩
theorem dd_X_goOnCutting_34 : ad_D mm_X_goOnCutting 34 (.aload_n 1) 1 35 := ⟨by decide +kernel, rfl⟩
theorem dd_X_goOnCutting_35 : ad_D mm_X_goOnCutting 35 (.invokevirtual 293) 3 38 := ⟨by decide +kernel, rfl⟩
theorem dd_X_goOnCutting_38 : ad_D mm_X_goOnCutting 38 (.aload_n 1) 1 39 := ⟨by decide +kernel, rfl⟩
theorem dd_X_goOnCutting_39 : ad_D mm_X_goOnCutting 39 (.getfield 105) 3 42 := ⟨by decide +kernel, rfl⟩
theorem dd_X_goOnCutting_42 : ad_D mm_X_goOnCutting 42 (.astore_n 1) 1 43 := ⟨by decide +kernel, rfl⟩
theorem dd_X_goOnCutting_43 : ad_D mm_X_goOnCutting 43 (.goto (-38)) 3 46 := ⟨by decide +kernel, rfl⟩
theorem dd_X_goOnCutting_46 : ad_D mm_X_goOnCutting 46 (.return_) 1 47 := ⟨by decide +kernel, rfl⟩
theorem dd_Field_goOn_0 : ad_D mm_Field_goOn 0 (.aload_n 0) 1 1 := ⟨by decide +kernel, rfl⟩
theorem dd_Field_goOn_1 : ad_D mm_Field_goOn 1 (.aload_n 0) 1 2 := ⟨by decide +kernel, rfl⟩
theorem dd_Field_goOn_2 : ad_D mm_Field_goOn 2 (.getfield 24) 3 5 := ⟨by decide +kernel, rfl⟩
theorem dd_Field_goOn_5 : ad_D mm_Field_goOn 5 (.aload_n 0) 1 6 := ⟨by decide +kernel, rfl⟩
theorem dd_Field_goOn_6 : ad_D mm_Field_goOn 6 (.getfield 65) 3 9 := ⟨by decide +kernel, rfl⟩
theorem dd_Field_goOn_9 : ad_D mm_Field_goOn 9 (.iload_n 1) 1 10 := ⟨by decide +kernel, rfl⟩
theorem dd_Field_goOn_10 : ad_D mm_Field_goOn 10 (.aload_n 0) 1 11 := ⟨by decide +kernel, rfl⟩
theorem dd_Field_goOn_11 : ad_D mm_Field_goOn 11 (.getfield 68) 3 14 := ⟨by decide +kernel, rfl⟩
theorem dd_Field_goOn_14 : ad_D mm_Field_goOn 14 (.imul) 1 15 := ⟨by decide +kernel, rfl⟩
theorem dd_Field_goOn_15 : ad_D mm_Field_goOn 15 (.iadd) 1 16 := ⟨by decide +kernel, rfl⟩
theorem dd_Field_goOn_16 : ad_D mm_Field_goOn 16 (.invokestatic 71) 3 19 := ⟨by decide +kernel, rfl⟩
theorem dd_Field_goOn_19 : ad_D mm_Field_goOn 19 (.putfield 65) 3 22 := ⟨by decide +kernel, rfl⟩
theorem dd_Field_goOn_22 : ad_D mm_Field_goOn 22 (.aload_n 0) 1 23 := ⟨by decide +kernel, rfl⟩
theorem dd_Field_goOn_23 : ad_D mm_Field_goOn 23 (.getfield 65) 3 26 := ⟨by decide +kernel, rfl⟩
theorem dd_Field_goOn_26 : ad_D mm_Field_goOn 26 (.aload_n 0) 1 27 := ⟨by decide +kernel, rfl⟩
theorem dd_Field_goOn_27 : ad_D mm_Field_goOn 27 (.getfield 24) 3 30 := ⟨by decide +kernel, rfl⟩
theorem dd_Field_goOn_30 : ad_D mm_Field_goOn 30 (.if_icmp .ne 13) 3 33 := ⟨by decide +kernel, rfl⟩
theorem dd_Field_goOn_33 : ad_D mm_Field_goOn 33 (.aload_n 0) 1 34 := ⟨by decide +kernel, rfl⟩
theorem dd_Field_goOn_34 : ad_D mm_Field_goOn 34 (.iconst 0) 1 35 := ⟨by decide +kernel, rfl⟩
theorem dd_Field_goOn_35 : ad_D mm_Field_goOn 35 (.putfield 68) 3 38 := ⟨by decide +kernel, rfl⟩
theorem dd_Field_goOn_38 : ad_D mm_Field_goOn 38 (.aload_n 0) 1 39 := ⟨by decide +kernel, rfl⟩
theorem dd_Field_goOn_39 : ad_D mm_Field_goOn 39 (.iconst 2) 1 40 := ⟨by decide +kernel, rfl⟩
theorem dd_Field_goOn_40 : ad_D mm_Field_goOn 40 (.putfield 11) 3 43 := ⟨by decide +kernel, rfl⟩
theorem dd_Field_goOn_43 : ad_D mm_Field_goOn 43 (.return_) 1 44 := ⟨by decide +kernel, rfl⟩
theorem dd_X_addLoad_0 : ad_D mm_X_addLoad 0 (.new 192) 3 3 := ⟨by decide +kernel, rfl⟩
theorem dd_X_addLoad_3 : ad_D mm_X_addLoad 3 (.dup) 1 4 := ⟨by decide +kernel, rfl⟩
theorem dd_X_addLoad_4 : ad_D mm_X_addLoad 4 (.aload_n 0) 1 5 := ⟨by decide +kernel, rfl⟩
theorem dd_X_addLoad_5 : ad_D mm_X_addLoad 5 (.invokevirtual 241) 3 8 := ⟨by decide +kernel, rfl⟩
theorem dd_X_addLoad_8 : ad_D mm_X_addLoad 8 (.aload_n 1) 1 9 := ⟨by decide +kernel, rfl⟩
theorem dd_X_addLoad_9 : ad_D mm_X_addLoad 9 (.aload_n 0) 1 10 := ⟨by decide +kernel, rfl⟩
theorem dd_X_addLoad_10 : ad_D mm_X_addLoad 10 (.getfield 80) 3 13 := ⟨by decide +kernel, rfl⟩
theorem dd_X_addLoad_13 : ad_D mm_X_addLoad 13 (.iconst 1) 1 14 := ⟨by decide +kernel, rfl⟩
theorem dd_X_addLoad_14 : ad_D mm_X_addLoad 14 (.iadd) 1 15 := ⟨by decide +kernel, rfl⟩
theorem dd_X_addLoad_15 : ad_D mm_X_addLoad 15 (.invokespecial 297) 3 18 := ⟨by decide +kernel, rfl⟩
theorem dd_X_addLoad_18 : ad_D mm_X_addLoad 18 (.astore_n 2) 1 19 := ⟨by decide +kernel, rfl⟩
theorem dd_X_addLoad_19 : ad_D mm_X_addLoad 19 (.aload_n 0) 1 20 := ⟨by decide +kernel, rfl⟩
theorem dd_X_addLoad_20 : ad_D mm_X_addLoad 20 (.getfield 255) 3 23 := ⟨by decide +kernel, rfl⟩
theorem dd_X_addLoad_23 : ad_D mm_X_addLoad 23 (.ifnonnull 11) 3 26 := ⟨by decide +kernel, rfl⟩
theorem dd_X_addLoad_26 : ad_D mm_X_addLoad 26 (.aload_n 0) 1 27 := ⟨by decide +kernel, rfl⟩
theorem dd_X_addLoad_27 : ad_D mm_X_addLoad 27 (.aload_n 2) 1 28 := ⟨by decide +kernel, rfl⟩
theorem dd_X_addLoad_28 : ad_D mm_X_addLoad 28 (.putfield 260) 3 31 := ⟨by decide +kernel, rfl⟩
theorem dd_X_addLoad_31 : ad_D mm_X_addLoad 31 (.goto 11) 3 34 := ⟨by decide +kernel, rfl⟩
theorem dd_X_addLoad_34 : ad_D mm_X_addLoad 34 (.aload_n 0) 1 35 := ⟨by decide +kernel, rfl⟩
theorem dd_X_addLoad_35 : ad_D mm_X_addLoad 35 (.getfield 255) 3 38 := ⟨by decide +kernel, rfl⟩
theorem dd_X_addLoad_38 : ad_D mm_X_addLoad 38 (.aload_n 2) 1 39 := ⟨by decide +kernel, rfl⟩
theorem dd_X_addLoad_39 : ad_D mm_X_addLoad 39 (.putfield 263) 3 42 := ⟨by decide +kernel, rfl⟩
theorem dd_X_addLoad_42 : ad_D mm_X_addLoad 42 (.aload_n 0) 1 43 := ⟨by decide +kernel, rfl⟩
theorem dd_X_addLoad_43 : ad_D mm_X_addLoad 43 (.aload_n 2) 1 44 := ⟨by decide +kernel, rfl⟩
theorem dd_X_addLoad_44 : ad_D mm_X_addLoad 44 (.putfield 255) 3 47 := ⟨by decide +kernel, rfl⟩
theorem dd_X_addLoad_47 : ad_D mm_X_addLoad 47 (.aload_n 1) 1 48 := ⟨by decide +kernel, rfl⟩
theorem dd_X_addLoad_48 : ad_D mm_X_addLoad 48 (.aload_n 2) 1 49 := ⟨by decide +kernel, rfl⟩
theorem dd_X_addLoad_49 : ad_D mm_X_addLoad 49 (.getfield 259) 3 52 := ⟨by decide +kernel, rfl⟩
theorem dd_X_addLoad_52 : ad_D mm_X_addLoad 52 (.putfield 184) 3 55 := ⟨by decide +kernel, rfl⟩
theorem dd_X_addLoad_55 : ad_D mm_X_addLoad 55 (.return_) 1 56 := ⟨by decide +kernel, rfl⟩
theorem dd_X_loadCount_0 : ad_D mm_X_loadCount 0 (.aload_n 0) 1 1 := ⟨by decide +kernel, rfl⟩
theorem dd_X_loadCount_1 : ad_D mm_X_loadCount 1 (.getfield 255) 3 4 := ⟨by decide +kernel, rfl⟩
theorem dd_X_loadCount_4 : ad_D mm_X_loadCount 4 (.ifnonnull 7) 3 7 := ⟨by decide +kernel, rfl⟩
theorem dd_X_loadCount_7 : ad_D mm_X_loadCount 7 (.iconst 0) 1 8 := ⟨by decide +kernel, rfl⟩
theorem dd_X_loadCount_8 : ad_D mm_X_loadCount 8 (.goto 12) 3 11 := ⟨by decide +kernel, rfl⟩
theorem dd_X_loadCount_11 : ad_D mm_X_loadCount 11 (.aload_n 0) 1 12 := ⟨by decide +kernel, rfl⟩
theorem dd_X_loadCount_12 : ad_D mm_X_loadCount 12 (.getfield 255) 3 15 := ⟨by decide +kernel, rfl⟩
theorem dd_X_loadCount_15 : ad_D mm_X_loadCount 15 (.getfield 259) 3 18 := ⟨by decide +kernel, rfl⟩
theorem dd_X_loadCount_18 : ad_D mm_X_loadCount 18 (.iconst 1) 1 19 := ⟨by decide +kernel, rfl⟩
theorem dd_X_loadCount_19 : ad_D mm_X_loadCount 19 (.iadd) 1 20 := ⟨by decide +kernel, rfl⟩
theorem dd_X_loadCount_20 : ad_D mm_X_loadCount 20 (.ireturn) 1 21 := ⟨by decide +kernel, rfl⟩
theorem dd_Load_init_0 : ad_D mm_Load_init 0 (.aload_n 0) 1 1 := ⟨by decide +kernel, rfl⟩
theorem dd_Load_init_1 : ad_D mm_Load_init 1 (.invokespecial 3) 3 4 := ⟨by decide +kernel, rfl⟩
theorem dd_Load_init_4 : ad_D mm_Load_init 4 (.aload_n 0) 1 5 := ⟨by decide +kernel, rfl⟩
theorem dd_Load_init_5 : ad_D mm_Load_init 5 (.iconst (-1)) 1 6 := ⟨by decide +kernel, rfl⟩
theorem dd_Load_init_6 : ad_D mm_Load_init 6 (.putfield 9) 3 9 := ⟨by decide +kernel, rfl⟩
theorem dd_Load_init_9 : ad_D mm_Load_init 9 (.aload_n 0) 1 10 := ⟨by decide +kernel, rfl⟩
theorem dd_Load_init_10 : ad_D mm_Load_init 10 (.iconst (-1)) 1 11 := ⟨by decide +kernel, rfl⟩
theorem dd_Load_init_11 : ad_D mm_Load_init 11 (.putfield 15) 3 14 := ⟨by decide +kernel, rfl⟩
theorem dd_Load_init_14 : ad_D mm_Load_init 14 (.aload_n 0) 1 15 := ⟨by decide +kernel, rfl⟩
theorem dd_Load_init_15 : ad_D mm_Load_init 15 (.ldc 18) 2 17 := ⟨by decide +kernel, rfl⟩
theorem dd_Load_init_17 : ad_D mm_Load_init 17 (.putfield 19) 3 20 := ⟨by decide +kernel, rfl⟩
theorem dd_Load_init_20 : ad_D mm_Load_init 20 (.aload_n 0) 1 21 := ⟨by decide +kernel, rfl⟩
theorem dd_Load_init_21 : ad_D mm_Load_init 21 (.iload_n 1) 1 22 := ⟨by decide +kernel, rfl⟩
theorem dd_Load_init_22 : ad_D mm_Load_init 22 (.putfield 22) 3 25 := ⟨by decide +kernel, rfl⟩
theorem dd_Load_init_25 : ad_D mm_Load_init 25 (.aload_n 0) 1 26 := ⟨by decide +kernel, rfl⟩
theorem dd_Load_init_26 : ad_D mm_Load_init 26 (.aload_n 2) 1 27 := ⟨by decide +kernel, rfl⟩
theorem dd_Load_init_27 : ad_D mm_Load_init 27 (.putfield 25) 3 30 := ⟨by decide +kernel, rfl⟩
theorem dd_Load_init_30 : ad_D mm_Load_init 30 (.aload_n 0) 1 31 := ⟨by decide +kernel, rfl⟩
theorem dd_Load_init_31 : ad_D mm_Load_init 31 (.iload_n 3) 1 32 := ⟨by decide +kernel, rfl⟩
theorem dd_Load_init_32 : ad_D mm_Load_init 32 (.putfield 29) 3 35 := ⟨by decide +kernel, rfl⟩
theorem dd_Load_init_35 : ad_D mm_Load_init 35 (.aload_n 0) 1 36 := ⟨by decide +kernel, rfl⟩
theorem dd_Load_init_36 : ad_D mm_Load_init 36 (.aload_n 2) 1 37 := ⟨by decide +kernel, rfl⟩
theorem dd_Load_init_37 : ad_D mm_Load_init 37 (.iload_n 3) 1 38 := ⟨by decide +kernel, rfl⟩
theorem dd_Load_init_38 : ad_D mm_Load_init 38 (.invokevirtual 32) 3 41 := ⟨by decide +kernel, rfl⟩
theorem dd_Load_init_41 : ad_D mm_Load_init 41 (.putfield 38) 3 44 := ⟨by decide +kernel, rfl⟩
theorem dd_Load_init_44 : ad_D mm_Load_init 44 (.aload_n 0) 1 45 := ⟨by decide +kernel, rfl⟩
theorem dd_Load_init_45 : ad_D mm_Load_init 45 (.iload_n 3) 1 46 := ⟨by decide +kernel, rfl⟩
theorem dd_Load_init_46 : ad_D mm_Load_init 46 (.aload_n 2) 1 47 := ⟨by decide +kernel, rfl⟩
theorem dd_Load_init_47 : ad_D mm_Load_init 47 (.invokevirtual 41) 3 50 := ⟨by decide +kernel, rfl⟩
theorem dd_Load_init_50 : ad_D mm_Load_init 50 (.iadd) 1 51 := ⟨by decide +kernel, rfl⟩
theorem dd_Load_init_51 : ad_D mm_Load_init 51 (.putfield 45) 3 54 := ⟨by decide +kernel, rfl⟩
theorem dd_Load_init_54 : ad_D mm_Load_init 54 (.return_) 1 55 := ⟨by decide +kernel, rfl⟩
theorem dd_Field_hoursToDeath_0 : ad_D mm_Field_hoursToDeath 0 (.aload_n 0) 1 1 := ⟨by decide +kernel, rfl⟩
theorem dd_Field_hoursToDeath_1 : ad_D mm_Field_hoursToDeath 1 (.getfield 39) 3 4 := ⟨by decide +kernel, rfl⟩
theorem dd_Field_hoursToDeath_4 : ad_D mm_Field_hoursToDeath 4 (.ifCond .eq 8) 3 7 := ⟨by decide +kernel, rfl⟩
theorem dd_Field_hoursToDeath_7 : ad_D mm_Field_hoursToDeath 7 (.bipush 12) 2 9 := ⟨by decide +kernel, rfl⟩
theorem dd_Field_hoursToDeath_9 : ad_D mm_Field_hoursToDeath 9 (.goto 5) 3 12 := ⟨by decide +kernel, rfl⟩
theorem dd_Field_hoursToDeath_12 : ad_D mm_Field_hoursToDeath 12 (.bipush 24) 2 14 := ⟨by decide +kernel, rfl⟩
theorem dd_Field_hoursToDeath_14 : ad_D mm_Field_hoursToDeath 14 (.ireturn) 1 15 := ⟨by decide +kernel, rfl⟩
theorem dd_X_sendTrucks_0 : ad_D mm_X_sendTrucks 0 (.aload_n 0) 1 1 := ⟨by decide +kernel, rfl⟩
theorem dd_X_sendTrucks_1 : ad_D mm_X_sendTrucks 1 (.invokevirtual 244) 3 4 := ⟨by decide +kernel, rfl⟩
theorem dd_X_sendTrucks_4 : ad_D mm_X_sendTrucks 4 (.istore_n 1) 1 5 := ⟨by decide +kernel, rfl⟩
theorem dd_X_sendTrucks_5 : ad_D mm_X_sendTrucks 5 (.aload_n 0) 1 6 := ⟨by decide +kernel, rfl⟩
theorem dd_X_sendTrucks_6 : ad_D mm_X_sendTrucks 6 (.getfield 260) 3 9 := ⟨by decide +kernel, rfl⟩
theorem dd_X_sendTrucks_9 : ad_D mm_X_sendTrucks 9 (.astore_n 2) 1 10 := ⟨by decide +kernel, rfl⟩
theorem dd_X_sendTrucks_10 : ad_D mm_X_sendTrucks 10 (.aload_n 2) 1 11 := ⟨by decide +kernel, rfl⟩
theorem dd_X_sendTrucks_11 : ad_D mm_X_sendTrucks 11 (.ifnull 43) 3 14 := ⟨by decide +kernel, rfl⟩
theorem dd_X_sendTrucks_14 : ad_D mm_X_sendTrucks 14 (.iload_n 1) 1 15 := ⟨by decide +kernel, rfl⟩
theorem dd_X_sendTrucks_15 : ad_D mm_X_sendTrucks 15 (.ifCond .le 39) 3 18 := ⟨by decide +kernel, rfl⟩
theorem dd_X_sendTrucks_18 : ad_D mm_X_sendTrucks 18 (.aload_n 2) 1 19 := ⟨by decide +kernel, rfl⟩
theorem dd_X_sendTrucks_19 : ad_D mm_X_sendTrucks 19 (.getfield 208) 3 22 := ⟨by decide +kernel, rfl⟩
theorem dd_X_sendTrucks_22 : ad_D mm_X_sendTrucks 22 (.iconst (-1)) 1 23 := ⟨by decide +kernel, rfl⟩
theorem dd_X_sendTrucks_23 : ad_D mm_X_sendTrucks 23 (.if_icmp .ne 23) 3 26 := ⟨by decide +kernel, rfl⟩
theorem dd_X_sendTrucks_26 : ad_D mm_X_sendTrucks 26 (.aload_n 2) 1 27 := ⟨by decide +kernel, rfl⟩
theorem dd_X_sendTrucks_27 : ad_D mm_X_sendTrucks 27 (.invokevirtual 217) 3 30 := ⟨by decide +kernel, rfl⟩
theorem dd_X_sendTrucks_30 : ad_D mm_X_sendTrucks 30 (.ifCond .ne 16) 3 33 := ⟨by decide +kernel, rfl⟩
theorem dd_X_sendTrucks_33 : ad_D mm_X_sendTrucks 33 (.aload_n 2) 1 34 := ⟨by decide +kernel, rfl⟩
theorem dd_X_sendTrucks_34 : ad_D mm_X_sendTrucks 34 (.aload_n 0) 1 35 := ⟨by decide +kernel, rfl⟩
theorem dd_X_sendTrucks_35 : ad_D mm_X_sendTrucks 35 (.getfield 80) 3 38 := ⟨by decide +kernel, rfl⟩
theorem dd_X_sendTrucks_38 : ad_D mm_X_sendTrucks 38 (.iconst 1) 1 39 := ⟨by decide +kernel, rfl⟩
theorem dd_X_sendTrucks_39 : ad_D mm_X_sendTrucks 39 (.iadd) 1 40 := ⟨by decide +kernel, rfl⟩
theorem dd_X_sendTrucks_40 : ad_D mm_X_sendTrucks 40 (.invokevirtual 300) 3 43 := ⟨by decide +kernel, rfl⟩
theorem dd_X_sendTrucks_43 : ad_D mm_X_sendTrucks 43 (.iinc 1 (-1)) 3 46 := ⟨by decide +kernel, rfl⟩
theorem dd_X_sendTrucks_46 : ad_D mm_X_sendTrucks 46 (.aload_n 2) 1 47 := ⟨by decide +kernel, rfl⟩
theorem dd_X_sendTrucks_47 : ad_D mm_X_sendTrucks 47 (.getfield 263) 3 50 := ⟨by decide +kernel, rfl⟩
theorem dd_X_sendTrucks_50 : ad_D mm_X_sendTrucks 50 (.astore_n 2) 1 51 := ⟨by decide +kernel, rfl⟩
theorem dd_X_sendTrucks_51 : ad_D mm_X_sendTrucks 51 (.goto (-41)) 3 54 := ⟨by decide +kernel, rfl⟩
theorem dd_X_sendTrucks_54 : ad_D mm_X_sendTrucks 54 (.return_) 1 55 := ⟨by decide +kernel, rfl⟩
theorem dd_X_freeTrucks_0 : ad_D mm_X_freeTrucks 0 (.aload_n 0) 1 1 := ⟨by decide +kernel, rfl⟩
theorem dd_X_freeTrucks_1 : ad_D mm_X_freeTrucks 1 (.getfield 16) 3 4 := ⟨by decide +kernel, rfl⟩
theorem dd_X_freeTrucks_4 : ad_D mm_X_freeTrucks 4 (.istore_n 1) 1 5 := ⟨by decide +kernel, rfl⟩
theorem dd_X_freeTrucks_5 : ad_D mm_X_freeTrucks 5 (.aload_n 0) 1 6 := ⟨by decide +kernel, rfl⟩
theorem dd_X_freeTrucks_6 : ad_D mm_X_freeTrucks 6 (.getfield 260) 3 9 := ⟨by decide +kernel, rfl⟩
theorem dd_X_freeTrucks_9 : ad_D mm_X_freeTrucks 9 (.astore_n 2) 1 10 := ⟨by decide +kernel, rfl⟩
theorem dd_X_freeTrucks_10 : ad_D mm_X_freeTrucks 10 (.aload_n 2) 1 11 := ⟨by decide +kernel, rfl⟩
theorem dd_X_freeTrucks_11 : ad_D mm_X_freeTrucks 11 (.ifnull 25) 3 14 := ⟨by decide +kernel, rfl⟩
theorem dd_X_freeTrucks_14 : ad_D mm_X_freeTrucks 14 (.aload_n 2) 1 15 := ⟨by decide +kernel, rfl⟩
theorem dd_X_freeTrucks_15 : ad_D mm_X_freeTrucks 15 (.getfield 265) 3 18 := ⟨by decide +kernel, rfl⟩
theorem dd_X_freeTrucks_18 : ad_D mm_X_freeTrucks 18 (.aload_n 0) 1 19 := ⟨by decide +kernel, rfl⟩
theorem dd_X_freeTrucks_19 : ad_D mm_X_freeTrucks 19 (.getfield 80) 3 22 := ⟨by decide +kernel, rfl⟩
theorem dd_X_freeTrucks_22 : ad_D mm_X_freeTrucks 22 (.if_icmp .le 6) 3 25 := ⟨by decide +kernel, rfl⟩
theorem dd_X_freeTrucks_25 : ad_D mm_X_freeTrucks 25 (.iinc 1 (-1)) 3 28 := ⟨by decide +kernel, rfl⟩
theorem dd_X_freeTrucks_28 : ad_D mm_X_freeTrucks 28 (.aload_n 2) 1 29 := ⟨by decide +kernel, rfl⟩
theorem dd_X_freeTrucks_29 : ad_D mm_X_freeTrucks 29 (.getfield 263) 3 32 := ⟨by decide +kernel, rfl⟩
theorem dd_X_freeTrucks_32 : ad_D mm_X_freeTrucks 32 (.astore_n 2) 1 33 := ⟨by decide +kernel, rfl⟩
theorem dd_X_freeTrucks_33 : ad_D mm_X_freeTrucks 33 (.goto (-23)) 3 36 := ⟨by decide +kernel, rfl⟩
theorem dd_X_freeTrucks_36 : ad_D mm_X_freeTrucks 36 (.iload_n 1) 1 37 := ⟨by decide +kernel, rfl⟩
theorem dd_X_freeTrucks_37 : ad_D mm_X_freeTrucks 37 (.ireturn) 1 38 := ⟨by decide +kernel, rfl⟩
theorem dd_Load_isOver_0 : ad_D mm_Load_isOver 0 (.aload_n 0) 1 1 := ⟨by decide +kernel, rfl⟩
theorem dd_Load_isOver_1 : ad_D mm_Load_isOver 1 (.getfield 15) 3 4 := ⟨by decide +kernel, rfl⟩
theorem dd_Load_isOver_4 : ad_D mm_Load_isOver 4 (.iconst (-1)) 1 5 := ⟨by decide +kernel, rfl⟩
theorem dd_Load_isOver_5 : ad_D mm_Load_isOver 5 (.if_icmp .eq 7) 3 8 := ⟨by decide +kernel, rfl⟩
theorem dd_Load_isOver_8 : ad_D mm_Load_isOver 8 (.iconst 1) 1 9 := ⟨by decide +kernel, rfl⟩
theorem dd_Load_isOver_9 : ad_D mm_Load_isOver 9 (.goto 4) 3 12 := ⟨by decide +kernel, rfl⟩
theorem dd_Load_isOver_12 : ad_D mm_Load_isOver 12 (.iconst 0) 1 13 := ⟨by decide +kernel, rfl⟩
theorem dd_Load_isOver_13 : ad_D mm_Load_isOver 13 (.ireturn) 1 14 := ⟨by decide +kernel, rfl⟩
theorem dd_Load_leave_0 : ad_D mm_Load_leave 0 (.aload_n 0) 1 1 := ⟨by decide +kernel, rfl⟩
theorem dd_Load_leave_1 : ad_D mm_Load_leave 1 (.getfield 25) 3 4 := ⟨by decide +kernel, rfl⟩
theorem dd_Load_leave_4 : ad_D mm_Load_leave 4 (.invokevirtual 48) 3 7 := ⟨by decide +kernel, rfl⟩
theorem dd_Load_leave_7 : ad_D mm_Load_leave 7 (.istore_n 2) 1 8 := ⟨by decide +kernel, rfl⟩
theorem dd_Load_leave_8 : ad_D mm_Load_leave 8 (.aload_n 0) 1 9 := ⟨by decide +kernel, rfl⟩
theorem dd_Load_leave_9 : ad_D mm_Load_leave 9 (.iload_n 1) 1 10 := ⟨by decide +kernel, rfl⟩
theorem dd_Load_leave_10 : ad_D mm_Load_leave 10 (.iload_n 2) 1 11 := ⟨by decide +kernel, rfl⟩
theorem dd_Load_leave_11 : ad_D mm_Load_leave 11 (.iadd) 1 12 := ⟨by decide +kernel, rfl⟩
theorem dd_Load_leave_12 : ad_D mm_Load_leave 12 (.putfield 9) 3 15 := ⟨by decide +kernel, rfl⟩
theorem dd_Load_leave_15 : ad_D mm_Load_leave 15 (.aload_n 0) 1 16 := ⟨by decide +kernel, rfl⟩
theorem dd_Load_leave_16 : ad_D mm_Load_leave 16 (.aload_n 0) 1 17 := ⟨by decide +kernel, rfl⟩
theorem dd_Load_leave_17 : ad_D mm_Load_leave 17 (.getfield 9) 3 20 := ⟨by decide +kernel, rfl⟩
theorem dd_Load_leave_20 : ad_D mm_Load_leave 20 (.iload_n 2) 1 21 := ⟨by decide +kernel, rfl⟩
theorem dd_Load_leave_21 : ad_D mm_Load_leave 21 (.iadd) 1 22 := ⟨by decide +kernel, rfl⟩
theorem dd_Load_leave_22 : ad_D mm_Load_leave 22 (.putfield 51) 3 25 := ⟨by decide +kernel, rfl⟩
theorem dd_Load_leave_25 : ad_D mm_Load_leave 25 (.return_) 1 26 := ⟨by decide +kernel, rfl⟩
theorem dd_Field_hoursToMill_0 : ad_D mm_Field_hoursToMill 0 (.iconst 1) 1 1 := ⟨by decide +kernel, rfl⟩
theorem dd_Field_hoursToMill_1 : ad_D mm_Field_hoursToMill 1 (.aload_n 0) 1 2 := ⟨by decide +kernel, rfl⟩
theorem dd_Field_hoursToMill_2 : ad_D mm_Field_hoursToMill 2 (.getfield 27) 3 5 := ⟨by decide +kernel, rfl⟩
theorem dd_Field_hoursToMill_5 : ad_D mm_Field_hoursToMill 5 (.bipush 9) 2 7 := ⟨by decide +kernel, rfl⟩
theorem dd_Field_hoursToMill_7 : ad_D mm_Field_hoursToMill 7 (.iadd) 1 8 := ⟨by decide +kernel, rfl⟩
theorem dd_Field_hoursToMill_8 : ad_D mm_Field_hoursToMill 8 (.bipush 10) 2 10 := ⟨by decide +kernel, rfl⟩
theorem dd_Field_hoursToMill_10 : ad_D mm_Field_hoursToMill 10 (.idiv) 1 11 := ⟨by decide +kernel, rfl⟩
theorem dd_Field_hoursToMill_11 : ad_D mm_Field_hoursToMill 11 (.invokestatic 56) 3 14 := ⟨by decide +kernel, rfl⟩
theorem dd_Field_hoursToMill_14 : ad_D mm_Field_hoursToMill 14 (.ireturn) 1 15 := ⟨by decide +kernel, rfl⟩
theorem dd_X_crushLoads_0 : ad_D mm_X_crushLoads 0 (.aload_n 0) 1 1 := ⟨by decide +kernel, rfl⟩
theorem dd_X_crushLoads_1 : ad_D mm_X_crushLoads 1 (.getfield 19) 3 4 := ⟨by decide +kernel, rfl⟩
theorem dd_X_crushLoads_4 : ad_D mm_X_crushLoads 4 (.istore_n 1) 1 5 := ⟨by decide +kernel, rfl⟩
theorem dd_X_crushLoads_5 : ad_D mm_X_crushLoads 5 (.iconst 0) 1 6 := ⟨by decide +kernel, rfl⟩
theorem dd_X_crushLoads_6 : ad_D mm_X_crushLoads 6 (.istore_n 2) 1 7 := ⟨by decide +kernel, rfl⟩
theorem dd_X_crushLoads_7 : ad_D mm_X_crushLoads 7 (.iload_n 2) 1 8 := ⟨by decide +kernel, rfl⟩
theorem dd_X_crushLoads_8 : ad_D mm_X_crushLoads 8 (.bipush 16) 2 10 := ⟨by decide +kernel, rfl⟩
theorem dd_X_crushLoads_10 : ad_D mm_X_crushLoads 10 (.if_icmp .ge 65) 3 13 := ⟨by decide +kernel, rfl⟩
theorem dd_X_crushLoads_13 : ad_D mm_X_crushLoads 13 (.iload_n 1) 1 14 := ⟨by decide +kernel, rfl⟩
theorem dd_X_crushLoads_14 : ad_D mm_X_crushLoads 14 (.ifCond .le 61) 3 17 := ⟨by decide +kernel, rfl⟩
theorem dd_X_crushLoads_17 : ad_D mm_X_crushLoads 17 (.aload_n 0) 1 18 := ⟨by decide +kernel, rfl⟩
theorem dd_X_crushLoads_18 : ad_D mm_X_crushLoads 18 (.invokevirtual 303) 3 21 := ⟨by decide +kernel, rfl⟩
theorem dd_X_crushLoads_21 : ad_D mm_X_crushLoads 21 (.astore_n 3) 1 22 := ⟨by decide +kernel, rfl⟩
theorem dd_X_crushLoads_22 : ad_D mm_X_crushLoads 22 (.aload_n 3) 1 23 := ⟨by decide +kernel, rfl⟩
theorem dd_X_crushLoads_23 : ad_D mm_X_crushLoads 23 (.ifnonnull 4) 3 26 := ⟨by decide +kernel, rfl⟩
theorem dd_X_crushLoads_26 : ad_D mm_X_crushLoads 26 (.return_) 1 27 := ⟨by decide +kernel, rfl⟩
theorem dd_X_crushLoads_27 : ad_D mm_X_crushLoads 27 (.iload_n 1) 1 28 := ⟨by decide +kernel, rfl⟩
theorem dd_X_crushLoads_28 : ad_D mm_X_crushLoads 28 (.aload_n 3) 1 29 := ⟨by decide +kernel, rfl⟩
theorem dd_X_crushLoads_29 : ad_D mm_X_crushLoads 29 (.invokevirtual 307) 3 32 := ⟨by decide +kernel, rfl⟩
theorem dd_X_crushLoads_32 : ad_D mm_X_crushLoads 32 (.invokestatic 310) 3 35 := ⟨by decide +kernel, rfl⟩
theorem dd_X_crushLoads_35 : ad_D mm_X_crushLoads 35 (.istore 4) 2 37 := ⟨by decide +kernel, rfl⟩
theorem dd_X_crushLoads_37 : ad_D mm_X_crushLoads 37 (.aload_n 3) 1 38 := ⟨by decide +kernel, rfl⟩
theorem dd_X_crushLoads_38 : ad_D mm_X_crushLoads 38 (.dup) 1 39 := ⟨by decide +kernel, rfl⟩
theorem dd_X_crushLoads_39 : ad_D mm_X_crushLoads 39 (.getfield 211) 3 42 := ⟨by decide +kernel, rfl⟩
theorem dd_X_crushLoads_42 : ad_D mm_X_crushLoads 42 (.iload 4) 2 44 := ⟨by decide +kernel, rfl⟩
theorem dd_X_crushLoads_44 : ad_D mm_X_crushLoads 44 (.iadd) 1 45 := ⟨by decide +kernel, rfl⟩
theorem dd_X_crushLoads_45 : ad_D mm_X_crushLoads 45 (.putfield 211) 3 48 := ⟨by decide +kernel, rfl⟩
theorem dd_X_crushLoads_48 : ad_D mm_X_crushLoads 48 (.iload_n 1) 1 49 := ⟨by decide +kernel, rfl⟩
theorem dd_X_crushLoads_49 : ad_D mm_X_crushLoads 49 (.iload 4) 2 51 := ⟨by decide +kernel, rfl⟩
theorem dd_X_crushLoads_51 : ad_D mm_X_crushLoads 51 (.isub) 1 52 := ⟨by decide +kernel, rfl⟩
theorem dd_X_crushLoads_52 : ad_D mm_X_crushLoads 52 (.istore_n 1) 1 53 := ⟨by decide +kernel, rfl⟩
theorem dd_X_crushLoads_53 : ad_D mm_X_crushLoads 53 (.aload_n 0) 1 54 := ⟨by decide +kernel, rfl⟩
theorem dd_X_crushLoads_54 : ad_D mm_X_crushLoads 54 (.getfield 42) 3 57 := ⟨by decide +kernel, rfl⟩
theorem dd_X_crushLoads_57 : ad_D mm_X_crushLoads 57 (.aload_n 3) 1 58 := ⟨by decide +kernel, rfl⟩
theorem dd_X_crushLoads_58 : ad_D mm_X_crushLoads 58 (.getfield 191) 3 61 := ⟨by decide +kernel, rfl⟩
theorem dd_X_crushLoads_61 : ad_D mm_X_crushLoads 61 (.getfield 196) 3 64 := ⟨by decide +kernel, rfl⟩
theorem dd_X_crushLoads_64 : ad_D mm_X_crushLoads 64 (.iload 4) 2 66 := ⟨by decide +kernel, rfl⟩
theorem dd_X_crushLoads_66 : ad_D mm_X_crushLoads 66 (.invokevirtual 316) 3 69 := ⟨by decide +kernel, rfl⟩
theorem dd_X_crushLoads_69 : ad_D mm_X_crushLoads 69 (.iinc 2 1) 3 72 := ⟨by decide +kernel, rfl⟩
theorem dd_X_crushLoads_72 : ad_D mm_X_crushLoads 72 (.goto (-65)) 3 75 := ⟨by decide +kernel, rfl⟩
theorem dd_X_crushLoads_75 : ad_D mm_X_crushLoads 75 (.return_) 1 76 := ⟨by decide +kernel, rfl⟩
theorem dd_X_nextToCrush_0 : ad_D mm_X_nextToCrush 0 (.aconst_null) 1 1 := ⟨by decide +kernel, rfl⟩
theorem dd_X_nextToCrush_1 : ad_D mm_X_nextToCrush 1 (.astore_n 1) 1 2 := ⟨by decide +kernel, rfl⟩
theorem dd_X_nextToCrush_2 : ad_D mm_X_nextToCrush 2 (.aload_n 0) 1 3 := ⟨by decide +kernel, rfl⟩
theorem dd_X_nextToCrush_3 : ad_D mm_X_nextToCrush 3 (.getfield 260) 3 6 := ⟨by decide +kernel, rfl⟩
theorem dd_X_nextToCrush_6 : ad_D mm_X_nextToCrush 6 (.astore_n 2) 1 7 := ⟨by decide +kernel, rfl⟩
theorem dd_X_nextToCrush_7 : ad_D mm_X_nextToCrush 7 (.aload_n 2) 1 8 := ⟨by decide +kernel, rfl⟩
theorem dd_X_nextToCrush_8 : ad_D mm_X_nextToCrush 8 (.ifnull 56) 3 11 := ⟨by decide +kernel, rfl⟩
theorem dd_X_nextToCrush_11 : ad_D mm_X_nextToCrush 11 (.aload_n 2) 1 12 := ⟨by decide +kernel, rfl⟩
theorem dd_X_nextToCrush_12 : ad_D mm_X_nextToCrush 12 (.aload_n 0) 1 13 := ⟨by decide +kernel, rfl⟩
theorem dd_X_nextToCrush_13 : ad_D mm_X_nextToCrush 13 (.getfield 80) 3 16 := ⟨by decide +kernel, rfl⟩
theorem dd_X_nextToCrush_16 : ad_D mm_X_nextToCrush 16 (.invokevirtual 319) 3 19 := ⟨by decide +kernel, rfl⟩
theorem dd_X_nextToCrush_19 : ad_D mm_X_nextToCrush 19 (.ifCond .eq 14) 3 22 := ⟨by decide +kernel, rfl⟩
theorem dd_X_nextToCrush_22 : ad_D mm_X_nextToCrush 22 (.aload_n 2) 1 23 := ⟨by decide +kernel, rfl⟩
theorem dd_X_nextToCrush_23 : ad_D mm_X_nextToCrush 23 (.invokevirtual 307) 3 26 := ⟨by decide +kernel, rfl⟩
theorem dd_X_nextToCrush_26 : ad_D mm_X_nextToCrush 26 (.ifCond .le 7) 3 29 := ⟨by decide +kernel, rfl⟩
theorem dd_X_nextToCrush_29 : ad_D mm_X_nextToCrush 29 (.iconst 1) 1 30 := ⟨by decide +kernel, rfl⟩
theorem dd_X_nextToCrush_30 : ad_D mm_X_nextToCrush 30 (.goto 4) 3 33 := ⟨by decide +kernel, rfl⟩
theorem dd_X_nextToCrush_33 : ad_D mm_X_nextToCrush 33 (.iconst 0) 1 34 := ⟨by decide +kernel, rfl⟩
theorem dd_X_nextToCrush_34 : ad_D mm_X_nextToCrush 34 (.istore_n 3) 1 35 := ⟨by decide +kernel, rfl⟩
theorem dd_X_nextToCrush_35 : ad_D mm_X_nextToCrush 35 (.iload_n 3) 1 36 := ⟨by decide +kernel, rfl⟩
theorem dd_X_nextToCrush_36 : ad_D mm_X_nextToCrush 36 (.ifCond .eq 20) 3 39 := ⟨by decide +kernel, rfl⟩
theorem dd_X_nextToCrush_39 : ad_D mm_X_nextToCrush 39 (.aload_n 1) 1 40 := ⟨by decide +kernel, rfl⟩
theorem dd_X_nextToCrush_40 : ad_D mm_X_nextToCrush 40 (.ifnull 14) 3 43 := ⟨by decide +kernel, rfl⟩
theorem dd_X_nextToCrush_43 : ad_D mm_X_nextToCrush 43 (.aload_n 2) 1 44 := ⟨by decide +kernel, rfl⟩
theorem dd_X_nextToCrush_44 : ad_D mm_X_nextToCrush 44 (.getfield 205) 3 47 := ⟨by decide +kernel, rfl⟩
theorem dd_X_nextToCrush_47 : ad_D mm_X_nextToCrush 47 (.aload_n 1) 1 48 := ⟨by decide +kernel, rfl⟩
theorem dd_X_nextToCrush_48 : ad_D mm_X_nextToCrush 48 (.getfield 205) 3 51 := ⟨by decide +kernel, rfl⟩
theorem dd_X_nextToCrush_51 : ad_D mm_X_nextToCrush 51 (.if_icmp .ge 5) 3 54 := ⟨by decide +kernel, rfl⟩
theorem dd_X_nextToCrush_54 : ad_D mm_X_nextToCrush 54 (.aload_n 2) 1 55 := ⟨by decide +kernel, rfl⟩
theorem dd_X_nextToCrush_55 : ad_D mm_X_nextToCrush 55 (.astore_n 1) 1 56 := ⟨by decide +kernel, rfl⟩
theorem dd_X_nextToCrush_56 : ad_D mm_X_nextToCrush 56 (.aload_n 2) 1 57 := ⟨by decide +kernel, rfl⟩
theorem dd_X_nextToCrush_57 : ad_D mm_X_nextToCrush 57 (.getfield 263) 3 60 := ⟨by decide +kernel, rfl⟩
theorem dd_X_nextToCrush_60 : ad_D mm_X_nextToCrush 60 (.astore_n 2) 1 61 := ⟨by decide +kernel, rfl⟩
theorem dd_X_nextToCrush_61 : ad_D mm_X_nextToCrush 61 (.goto (-54)) 3 64 := ⟨by decide +kernel, rfl⟩
theorem dd_X_nextToCrush_64 : ad_D mm_X_nextToCrush 64 (.aload_n 1) 1 65 := ⟨by decide +kernel, rfl⟩
theorem dd_X_nextToCrush_65 : ad_D mm_X_nextToCrush 65 (.areturn) 1 66 := ⟨by decide +kernel, rfl⟩
theorem dd_Load_isAtMill_0 : ad_D mm_Load_isAtMill 0 (.aload_n 0) 1 1 := ⟨by decide +kernel, rfl⟩
theorem dd_Load_isAtMill_1 : ad_D mm_Load_isAtMill 1 (.getfield 9) 3 4 := ⟨by decide +kernel, rfl⟩
theorem dd_Load_isAtMill_4 : ad_D mm_Load_isAtMill 4 (.iconst (-1)) 1 5 := ⟨by decide +kernel, rfl⟩
theorem dd_Load_isAtMill_5 : ad_D mm_Load_isAtMill 5 (.if_icmp .eq 15) 3 8 := ⟨by decide +kernel, rfl⟩
theorem dd_Load_isAtMill_8 : ad_D mm_Load_isAtMill 8 (.aload_n 0) 1 9 := ⟨by decide +kernel, rfl⟩
theorem dd_Load_isAtMill_9 : ad_D mm_Load_isAtMill 9 (.getfield 9) 3 12 := ⟨by decide +kernel, rfl⟩
theorem dd_Load_isAtMill_12 : ad_D mm_Load_isAtMill 12 (.iload_n 1) 1 13 := ⟨by decide +kernel, rfl⟩
theorem dd_Load_isAtMill_13 : ad_D mm_Load_isAtMill 13 (.if_icmp .gt 7) 3 16 := ⟨by decide +kernel, rfl⟩
theorem dd_Load_isAtMill_16 : ad_D mm_Load_isAtMill 16 (.iconst 1) 1 17 := ⟨by decide +kernel, rfl⟩
theorem dd_Load_isAtMill_17 : ad_D mm_Load_isAtMill 17 (.goto 4) 3 20 := ⟨by decide +kernel, rfl⟩
theorem dd_Load_isAtMill_20 : ad_D mm_Load_isAtMill 20 (.iconst 0) 1 21 := ⟨by decide +kernel, rfl⟩
theorem dd_Load_isAtMill_21 : ad_D mm_Load_isAtMill 21 (.ireturn) 1 22 := ⟨by decide +kernel, rfl⟩
theorem dd_Load_tonsLeft_0 : ad_D mm_Load_tonsLeft 0 (.aload_n 0) 1 1 := ⟨by decide +kernel, rfl⟩
theorem dd_Load_tonsLeft_1 : ad_D mm_Load_tonsLeft 1 (.getfield 25) 3 4 := ⟨by decide +kernel, rfl⟩
theorem dd_Load_tonsLeft_4 : ad_D mm_Load_tonsLeft 4 (.getfield 54) 3 7 := ⟨by decide +kernel, rfl⟩
theorem dd_Load_tonsLeft_7 : ad_D mm_Load_tonsLeft 7 (.aload_n 0) 1 8 := ⟨by decide +kernel, rfl⟩
theorem dd_Load_tonsLeft_8 : ad_D mm_Load_tonsLeft 8 (.getfield 57) 3 11 := ⟨by decide +kernel, rfl⟩
theorem dd_Load_tonsLeft_11 : ad_D mm_Load_tonsLeft 11 (.isub) 1 12 := ⟨by decide +kernel, rfl⟩
theorem dd_Load_tonsLeft_12 : ad_D mm_Load_tonsLeft 12 (.aload_n 0) 1 13 := ⟨by decide +kernel, rfl⟩
theorem dd_Load_tonsLeft_13 : ad_D mm_Load_tonsLeft 13 (.getfield 60) 3 16 := ⟨by decide +kernel, rfl⟩
theorem dd_Load_tonsLeft_16 : ad_D mm_Load_tonsLeft 16 (.isub) 1 17 := ⟨by decide +kernel, rfl⟩
theorem dd_Load_tonsLeft_17 : ad_D mm_Load_tonsLeft 17 (.ireturn) 1 18 := ⟨by decide +kernel, rfl⟩
theorem dd_Bundles_add_0 : ad_D mm_Bundles_add 0 (.aload_n 0) 1 1 := ⟨by decide +kernel, rfl⟩
theorem dd_Bundles_add_1 : ad_D mm_Bundles_add 1 (.invokevirtual 9) 3 4 := ⟨by decide +kernel, rfl⟩
theorem dd_Bundles_add_4 : ad_D mm_Bundles_add 4 (.iload_n 2) 1 5 := ⟨by decide +kernel, rfl⟩
theorem dd_Bundles_add_5 : ad_D mm_Bundles_add 5 (.iadd) 1 6 := ⟨by decide +kernel, rfl⟩
theorem dd_Bundles_add_6 : ad_D mm_Bundles_add 6 (.istore_n 3) 1 7 := ⟨by decide +kernel, rfl⟩
theorem dd_Bundles_add_7 : ad_D mm_Bundles_add 7 (.aload_n 0) 1 8 := ⟨by decide +kernel, rfl⟩
theorem dd_Bundles_add_8 : ad_D mm_Bundles_add 8 (.getfield 15) 3 11 := ⟨by decide +kernel, rfl⟩
theorem dd_Bundles_add_11 : ad_D mm_Bundles_add 11 (.ifnull 23) 3 14 := ⟨by decide +kernel, rfl⟩
theorem dd_Bundles_add_14 : ad_D mm_Bundles_add 14 (.aload_n 0) 1 15 := ⟨by decide +kernel, rfl⟩
theorem dd_Bundles_add_15 : ad_D mm_Bundles_add 15 (.getfield 15) 3 18 := ⟨by decide +kernel, rfl⟩
theorem dd_Bundles_add_18 : ad_D mm_Bundles_add 18 (.getfield 19) 3 21 := ⟨by decide +kernel, rfl⟩
theorem dd_Bundles_add_21 : ad_D mm_Bundles_add 21 (.iload_n 1) 1 22 := ⟨by decide +kernel, rfl⟩
theorem dd_Bundles_add_22 : ad_D mm_Bundles_add 22 (.if_icmp .ne 12) 3 25 := ⟨by decide +kernel, rfl⟩
theorem dd_Bundles_add_25 : ad_D mm_Bundles_add 25 (.aload_n 0) 1 26 := ⟨by decide +kernel, rfl⟩
theorem dd_Bundles_add_26 : ad_D mm_Bundles_add 26 (.getfield 15) 3 29 := ⟨by decide +kernel, rfl⟩
theorem dd_Bundles_add_29 : ad_D mm_Bundles_add 29 (.iload_n 3) 1 30 := ⟨by decide +kernel, rfl⟩
theorem dd_Bundles_add_30 : ad_D mm_Bundles_add 30 (.putfield 25) 3 33 := ⟨by decide +kernel, rfl⟩
theorem dd_Bundles_add_33 : ad_D mm_Bundles_add 33 (.return_) 1 34 := ⟨by decide +kernel, rfl⟩
theorem dd_Bundles_add_34 : ad_D mm_Bundles_add 34 (.new 20) 3 37 := ⟨by decide +kernel, rfl⟩
theorem dd_Bundles_add_37 : ad_D mm_Bundles_add 37 (.dup) 1 38 := ⟨by decide +kernel, rfl⟩
theorem dd_Bundles_add_38 : ad_D mm_Bundles_add 38 (.iload_n 1) 1 39 := ⟨by decide +kernel, rfl⟩
theorem dd_Bundles_add_39 : ad_D mm_Bundles_add 39 (.iload_n 3) 1 40 := ⟨by decide +kernel, rfl⟩
theorem dd_Bundles_add_40 : ad_D mm_Bundles_add 40 (.invokespecial 28) 3 43 := ⟨by decide +kernel, rfl⟩
theorem dd_Bundles_add_43 : ad_D mm_Bundles_add 43 (.astore 4) 2 45 := ⟨by decide +kernel, rfl⟩
theorem dd_Bundles_add_45 : ad_D mm_Bundles_add 45 (.aload_n 0) 1 46 := ⟨by decide +kernel, rfl⟩
theorem dd_Bundles_add_46 : ad_D mm_Bundles_add 46 (.getfield 15) 3 49 := ⟨by decide +kernel, rfl⟩
theorem dd_Bundles_add_49 : ad_D mm_Bundles_add 49 (.ifnonnull 12) 3 52 := ⟨by decide +kernel, rfl⟩
theorem dd_Bundles_add_52 : ad_D mm_Bundles_add 52 (.aload_n 0) 1 53 := ⟨by decide +kernel, rfl⟩
theorem dd_Bundles_add_53 : ad_D mm_Bundles_add 53 (.aload 4) 2 55 := ⟨by decide +kernel, rfl⟩
theorem dd_Bundles_add_55 : ad_D mm_Bundles_add 55 (.putfield 31) 3 58 := ⟨by decide +kernel, rfl⟩
theorem dd_Bundles_add_58 : ad_D mm_Bundles_add 58 (.goto 12) 3 61 := ⟨by decide +kernel, rfl⟩
theorem dd_Bundles_add_61 : ad_D mm_Bundles_add 61 (.aload_n 0) 1 62 := ⟨by decide +kernel, rfl⟩
theorem dd_Bundles_add_62 : ad_D mm_Bundles_add 62 (.getfield 15) 3 65 := ⟨by decide +kernel, rfl⟩
theorem dd_Bundles_add_65 : ad_D mm_Bundles_add 65 (.aload 4) 2 67 := ⟨by decide +kernel, rfl⟩
theorem dd_Bundles_add_67 : ad_D mm_Bundles_add 67 (.putfield 34) 3 70 := ⟨by decide +kernel, rfl⟩
theorem dd_Bundles_add_70 : ad_D mm_Bundles_add 70 (.aload_n 0) 1 71 := ⟨by decide +kernel, rfl⟩
theorem dd_Bundles_add_71 : ad_D mm_Bundles_add 71 (.aload 4) 2 73 := ⟨by decide +kernel, rfl⟩
theorem dd_Bundles_add_73 : ad_D mm_Bundles_add 73 (.putfield 15) 3 76 := ⟨by decide +kernel, rfl⟩
theorem dd_Bundles_add_76 : ad_D mm_Bundles_add 76 (.return_) 1 77 := ⟨by decide +kernel, rfl⟩
theorem dd_Bundles_count_0 : ad_D mm_Bundles_count 0 (.aload_n 0) 1 1 := ⟨by decide +kernel, rfl⟩
theorem dd_Bundles_count_1 : ad_D mm_Bundles_count 1 (.getfield 15) 3 4 := ⟨by decide +kernel, rfl⟩
theorem dd_Bundles_count_4 : ad_D mm_Bundles_count 4 (.ifnonnull 7) 3 7 := ⟨by decide +kernel, rfl⟩
theorem dd_Bundles_count_7 : ad_D mm_Bundles_count 7 (.iconst 0) 1 8 := ⟨by decide +kernel, rfl⟩
theorem dd_Bundles_count_8 : ad_D mm_Bundles_count 8 (.goto 10) 3 11 := ⟨by decide +kernel, rfl⟩
theorem dd_Bundles_count_11 : ad_D mm_Bundles_count 11 (.aload_n 0) 1 12 := ⟨by decide +kernel, rfl⟩
theorem dd_Bundles_count_12 : ad_D mm_Bundles_count 12 (.getfield 15) 3 15 := ⟨by decide +kernel, rfl⟩
theorem dd_Bundles_count_15 : ad_D mm_Bundles_count 15 (.getfield 25) 3 18 := ⟨by decide +kernel, rfl⟩
theorem dd_Bundles_count_18 : ad_D mm_Bundles_count 18 (.ireturn) 1 19 := ⟨by decide +kernel, rfl⟩
theorem dd_Batch_init_0 : ad_D mm_Batch_init 0 (.aload_n 0) 1 1 := ⟨by decide +kernel, rfl⟩
theorem dd_Batch_init_1 : ad_D mm_Batch_init 1 (.invokespecial 1) 3 4 := ⟨by decide +kernel, rfl⟩
theorem dd_Batch_init_4 : ad_D mm_Batch_init 4 (.aload_n 0) 1 5 := ⟨by decide +kernel, rfl⟩
theorem dd_Batch_init_5 : ad_D mm_Batch_init 5 (.iload_n 1) 1 6 := ⟨by decide +kernel, rfl⟩
theorem dd_Batch_init_6 : ad_D mm_Batch_init 6 (.putfield 7) 3 9 := ⟨by decide +kernel, rfl⟩
theorem dd_Batch_init_9 : ad_D mm_Batch_init 9 (.aload_n 0) 1 10 := ⟨by decide +kernel, rfl⟩
theorem dd_Batch_init_10 : ad_D mm_Batch_init 10 (.iload_n 2) 1 11 := ⟨by decide +kernel, rfl⟩
theorem dd_Batch_init_11 : ad_D mm_Batch_init 11 (.putfield 13) 3 14 := ⟨by decide +kernel, rfl⟩
theorem dd_Batch_init_14 : ad_D mm_Batch_init 14 (.return_) 1 15 := ⟨by decide +kernel, rfl⟩
theorem dd_X_endLoads_0 : ad_D mm_X_endLoads 0 (.aload_n 0) 1 1 := ⟨by decide +kernel, rfl⟩
theorem dd_X_endLoads_1 : ad_D mm_X_endLoads 1 (.getfield 80) 3 4 := ⟨by decide +kernel, rfl⟩
theorem dd_X_endLoads_4 : ad_D mm_X_endLoads 4 (.iconst 1) 1 5 := ⟨by decide +kernel, rfl⟩
theorem dd_X_endLoads_5 : ad_D mm_X_endLoads 5 (.iadd) 1 6 := ⟨by decide +kernel, rfl⟩
theorem dd_X_endLoads_6 : ad_D mm_X_endLoads 6 (.istore_n 1) 1 7 := ⟨by decide +kernel, rfl⟩
theorem dd_X_endLoads_7 : ad_D mm_X_endLoads 7 (.aload_n 0) 1 8 := ⟨by decide +kernel, rfl⟩
theorem dd_X_endLoads_8 : ad_D mm_X_endLoads 8 (.getfield 260) 3 11 := ⟨by decide +kernel, rfl⟩
theorem dd_X_endLoads_11 : ad_D mm_X_endLoads 11 (.astore_n 2) 1 12 := ⟨by decide +kernel, rfl⟩
theorem dd_X_endLoads_12 : ad_D mm_X_endLoads 12 (.aload_n 2) 1 13 := ⟨by decide +kernel, rfl⟩
theorem dd_X_endLoads_13 : ad_D mm_X_endLoads 13 (.ifnull 51) 3 16 := ⟨by decide +kernel, rfl⟩
theorem dd_X_endLoads_16 : ad_D mm_X_endLoads 16 (.aload_n 2) 1 17 := ⟨by decide +kernel, rfl⟩
theorem dd_X_endLoads_17 : ad_D mm_X_endLoads 17 (.getfield 205) 3 20 := ⟨by decide +kernel, rfl⟩
theorem dd_X_endLoads_20 : ad_D mm_X_endLoads 20 (.iload_n 1) 1 21 := ⟨by decide +kernel, rfl⟩
theorem dd_X_endLoads_21 : ad_D mm_X_endLoads 21 (.if_icmp .gt 16) 3 24 := ⟨by decide +kernel, rfl⟩
theorem dd_X_endLoads_24 : ad_D mm_X_endLoads 24 (.aload_n 2) 1 25 := ⟨by decide +kernel, rfl⟩
theorem dd_X_endLoads_25 : ad_D mm_X_endLoads 25 (.dup) 1 26 := ⟨by decide +kernel, rfl⟩
theorem dd_X_endLoads_26 : ad_D mm_X_endLoads 26 (.getfield 214) 3 29 := ⟨by decide +kernel, rfl⟩
theorem dd_X_endLoads_29 : ad_D mm_X_endLoads 29 (.aload_n 2) 1 30 := ⟨by decide +kernel, rfl⟩
theorem dd_X_endLoads_30 : ad_D mm_X_endLoads 30 (.invokevirtual 307) 3 33 := ⟨by decide +kernel, rfl⟩
theorem dd_X_endLoads_33 : ad_D mm_X_endLoads 33 (.iadd) 1 34 := ⟨by decide +kernel, rfl⟩
theorem dd_X_endLoads_34 : ad_D mm_X_endLoads 34 (.putfield 214) 3 37 := ⟨by decide +kernel, rfl⟩
theorem dd_X_endLoads_37 : ad_D mm_X_endLoads 37 (.aload_n 2) 1 38 := ⟨by decide +kernel, rfl⟩
theorem dd_X_endLoads_38 : ad_D mm_X_endLoads 38 (.invokevirtual 307) 3 41 := ⟨by decide +kernel, rfl⟩
theorem dd_X_endLoads_41 : ad_D mm_X_endLoads 41 (.ifCond .ne 15) 3 44 := ⟨by decide +kernel, rfl⟩
theorem dd_X_endLoads_44 : ad_D mm_X_endLoads 44 (.aload_n 2) 1 45 := ⟨by decide +kernel, rfl⟩
theorem dd_X_endLoads_45 : ad_D mm_X_endLoads 45 (.invokevirtual 217) 3 48 := ⟨by decide +kernel, rfl⟩
theorem dd_X_endLoads_48 : ad_D mm_X_endLoads 48 (.ifCond .ne 8) 3 51 := ⟨by decide +kernel, rfl⟩
theorem dd_X_endLoads_51 : ad_D mm_X_endLoads 51 (.aload_n 2) 1 52 := ⟨by decide +kernel, rfl⟩
theorem dd_X_endLoads_52 : ad_D mm_X_endLoads 52 (.iload_n 1) 1 53 := ⟨by decide +kernel, rfl⟩
theorem dd_X_endLoads_53 : ad_D mm_X_endLoads 53 (.putfield 322) 3 56 := ⟨by decide +kernel, rfl⟩
theorem dd_X_endLoads_56 : ad_D mm_X_endLoads 56 (.aload_n 2) 1 57 := ⟨by decide +kernel, rfl⟩
theorem dd_X_endLoads_57 : ad_D mm_X_endLoads 57 (.getfield 263) 3 60 := ⟨by decide +kernel, rfl⟩
theorem dd_X_endLoads_60 : ad_D mm_X_endLoads 60 (.astore_n 2) 1 61 := ⟨by decide +kernel, rfl⟩
theorem dd_X_endLoads_61 : ad_D mm_X_endLoads 61 (.goto (-49)) 3 64 := ⟨by decide +kernel, rfl⟩
theorem dd_X_endLoads_64 : ad_D mm_X_endLoads 64 (.return_) 1 65 := ⟨by decide +kernel, rfl⟩
theorem dd_X_endFires_0 : ad_D mm_X_endFires 0 (.aload_n 0) 1 1 := ⟨by decide +kernel, rfl⟩
theorem dd_X_endFires_1 : ad_D mm_X_endFires 1 (.getfield 102) 3 4 := ⟨by decide +kernel, rfl⟩
theorem dd_X_endFires_4 : ad_D mm_X_endFires 4 (.astore_n 1) 1 5 := ⟨by decide +kernel, rfl⟩
theorem dd_X_endFires_5 : ad_D mm_X_endFires 5 (.aload_n 1) 1 6 := ⟨by decide +kernel, rfl⟩
theorem dd_X_endFires_6 : ad_D mm_X_endFires 6 (.ifnull 46) 3 9 := ⟨by decide +kernel, rfl⟩
theorem dd_X_endFires_9 : ad_D mm_X_endFires 9 (.aload_n 1) 1 10 := ⟨by decide +kernel, rfl⟩
theorem dd_X_endFires_10 : ad_D mm_X_endFires 10 (.getfield 134) 3 13 := ⟨by decide +kernel, rfl⟩
theorem dd_X_endFires_13 : ad_D mm_X_endFires 13 (.ifCond .eq 31) 3 16 := ⟨by decide +kernel, rfl⟩
theorem dd_X_endFires_16 : ad_D mm_X_endFires 16 (.aload_n 1) 1 17 := ⟨by decide +kernel, rfl⟩
theorem dd_X_endFires_17 : ad_D mm_X_endFires 17 (.getfield 125) 3 20 := ⟨by decide +kernel, rfl⟩
theorem dd_X_endFires_20 : ad_D mm_X_endFires 20 (.ifCond .ne 24) 3 23 := ⟨by decide +kernel, rfl⟩
theorem dd_X_endFires_23 : ad_D mm_X_endFires 23 (.aload_n 0) 1 24 := ⟨by decide +kernel, rfl⟩
theorem dd_X_endFires_24 : ad_D mm_X_endFires 24 (.getfield 80) 3 27 := ⟨by decide +kernel, rfl⟩
theorem dd_X_endFires_27 : ad_D mm_X_endFires 27 (.iconst 1) 1 28 := ⟨by decide +kernel, rfl⟩
theorem dd_X_endFires_28 : ad_D mm_X_endFires 28 (.iadd) 1 29 := ⟨by decide +kernel, rfl⟩
theorem dd_X_endFires_29 : ad_D mm_X_endFires 29 (.aload_n 1) 1 30 := ⟨by decide +kernel, rfl⟩
theorem dd_X_endFires_30 : ad_D mm_X_endFires 30 (.getfield 325) 3 33 := ⟨by decide +kernel, rfl⟩
theorem dd_X_endFires_33 : ad_D mm_X_endFires 33 (.bipush 12) 2 35 := ⟨by decide +kernel, rfl⟩
theorem dd_X_endFires_35 : ad_D mm_X_endFires 35 (.iadd) 1 36 := ⟨by decide +kernel, rfl⟩
theorem dd_X_endFires_36 : ad_D mm_X_endFires 36 (.if_icmp .lt 8) 3 39 := ⟨by decide +kernel, rfl⟩
theorem dd_X_endFires_39 : ad_D mm_X_endFires 39 (.aload_n 1) 1 40 := ⟨by decide +kernel, rfl⟩
theorem dd_X_endFires_40 : ad_D mm_X_endFires 40 (.iconst 3) 1 41 := ⟨by decide +kernel, rfl⟩
theorem dd_X_endFires_41 : ad_D mm_X_endFires 41 (.putfield 125) 3 44 := ⟨by decide +kernel, rfl⟩
theorem dd_X_endFires_44 : ad_D mm_X_endFires 44 (.aload_n 1) 1 45 := ⟨by decide +kernel, rfl⟩
theorem dd_X_endFires_45 : ad_D mm_X_endFires 45 (.getfield 105) 3 48 := ⟨by decide +kernel, rfl⟩
theorem dd_X_endFires_48 : ad_D mm_X_endFires 48 (.astore_n 1) 1 49 := ⟨by decide +kernel, rfl⟩
theorem dd_X_endFires_49 : ad_D mm_X_endFires 49 (.goto (-44)) 3 52 := ⟨by decide +kernel, rfl⟩
theorem dd_X_endFires_52 : ad_D mm_X_endFires 52 (.return_) 1 53 := ⟨by decide +kernel, rfl⟩
theorem dd_X_payDay_0 : ad_D mm_X_payDay 0 (.aload_n 0) 1 1 := ⟨by decide +kernel, rfl⟩
theorem dd_X_payDay_1 : ad_D mm_X_payDay 1 (.aload_n 0) 1 2 := ⟨by decide +kernel, rfl⟩
theorem dd_X_payDay_2 : ad_D mm_X_payDay 2 (.invokevirtual 328) 3 5 := ⟨by decide +kernel, rfl⟩
theorem dd_X_payDay_5 : ad_D mm_X_payDay 5 (.putfield 22) 3 8 := ⟨by decide +kernel, rfl⟩
theorem dd_X_payDay_8 : ad_D mm_X_payDay 8 (.aload_n 0) 1 9 := ⟨by decide +kernel, rfl⟩
theorem dd_X_payDay_9 : ad_D mm_X_payDay 9 (.getfield 260) 3 12 := ⟨by decide +kernel, rfl⟩
theorem dd_X_payDay_12 : ad_D mm_X_payDay 12 (.astore_n 1) 1 13 := ⟨by decide +kernel, rfl⟩
theorem dd_X_payDay_13 : ad_D mm_X_payDay 13 (.aload_n 1) 1 14 := ⟨by decide +kernel, rfl⟩
theorem dd_X_payDay_14 : ad_D mm_X_payDay 14 (.ifnull 85) 3 17 := ⟨by decide +kernel, rfl⟩
theorem dd_X_payDay_17 : ad_D mm_X_payDay 17 (.aload_n 1) 1 18 := ⟨by decide +kernel, rfl⟩
theorem dd_X_payDay_18 : ad_D mm_X_payDay 18 (.invokevirtual 331) 3 21 := ⟨by decide +kernel, rfl⟩
theorem dd_X_payDay_21 : ad_D mm_X_payDay 21 (.ifCond .eq 70) 3 24 := ⟨by decide +kernel, rfl⟩
theorem dd_X_payDay_24 : ad_D mm_X_payDay 24 (.aload_n 1) 1 25 := ⟨by decide +kernel, rfl⟩
theorem dd_X_payDay_25 : ad_D mm_X_payDay 25 (.getfield 191) 3 28 := ⟨by decide +kernel, rfl⟩
theorem dd_X_payDay_28 : ad_D mm_X_payDay 28 (.getfield 134) 3 31 := ⟨by decide +kernel, rfl⟩
theorem dd_X_payDay_31 : ad_D mm_X_payDay 31 (.ifCond .eq 7) 3 34 := ⟨by decide +kernel, rfl⟩
theorem dd_X_payDay_34 : ad_D mm_X_payDay 34 (.iconst 1) 1 35 := ⟨by decide +kernel, rfl⟩
theorem dd_X_payDay_35 : ad_D mm_X_payDay 35 (.goto 4) 3 38 := ⟨by decide +kernel, rfl⟩
theorem dd_X_payDay_38 : ad_D mm_X_payDay 38 (.iconst 0) 1 39 := ⟨by decide +kernel, rfl⟩
theorem dd_X_payDay_39 : ad_D mm_X_payDay 39 (.istore_n 2) 1 40 := ⟨by decide +kernel, rfl⟩
theorem dd_X_payDay_40 : ad_D mm_X_payDay 40 (.aload_n 1) 1 41 := ⟨by decide +kernel, rfl⟩
theorem dd_X_payDay_41 : ad_D mm_X_payDay 41 (.aload_n 0) 1 42 := ⟨by decide +kernel, rfl⟩
theorem dd_X_payDay_42 : ad_D mm_X_payDay 42 (.getfield 63) 3 45 := ⟨by decide +kernel, rfl⟩
theorem dd_X_payDay_45 : ad_D mm_X_payDay 45 (.aload_n 1) 1 46 := ⟨by decide +kernel, rfl⟩
theorem dd_X_payDay_46 : ad_D mm_X_payDay 46 (.getfield 211) 3 49 := ⟨by decide +kernel, rfl⟩
theorem dd_X_payDay_49 : ad_D mm_X_payDay 49 (.aload_n 1) 1 50 := ⟨by decide +kernel, rfl⟩
theorem dd_X_payDay_50 : ad_D mm_X_payDay 50 (.getfield 202) 3 53 := ⟨by decide +kernel, rfl⟩
theorem dd_X_payDay_53 : ad_D mm_X_payDay 53 (.aload_n 0) 1 54 := ⟨by decide +kernel, rfl⟩
theorem dd_X_payDay_54 : ad_D mm_X_payDay 54 (.getfield 22) 3 57 := ⟨by decide +kernel, rfl⟩
theorem dd_X_payDay_57 : ad_D mm_X_payDay 57 (.iload_n 2) 1 58 := ⟨by decide +kernel, rfl⟩
theorem dd_X_payDay_58 : ad_D mm_X_payDay 58 (.aload_n 1) 1 59 := ⟨by decide +kernel, rfl⟩
theorem dd_X_payDay_59 : ad_D mm_X_payDay 59 (.getfield 322) 3 62 := ⟨by decide +kernel, rfl⟩
theorem dd_X_payDay_62 : ad_D mm_X_payDay 62 (.aload_n 1) 1 63 := ⟨by decide +kernel, rfl⟩
theorem dd_X_payDay_63 : ad_D mm_X_payDay 63 (.getfield 199) 3 66 := ⟨by decide +kernel, rfl⟩
theorem dd_X_payDay_66 : ad_D mm_X_payDay 66 (.isub) 1 67 := ⟨by decide +kernel, rfl⟩
theorem dd_X_payDay_67 : ad_D mm_X_payDay 67 (.invokevirtual 159) 3 70 := ⟨by decide +kernel, rfl⟩
theorem dd_X_payDay_70 : ad_D mm_X_payDay 70 (.putfield 221) 3 73 := ⟨by decide +kernel, rfl⟩
theorem dd_X_payDay_73 : ad_D mm_X_payDay 73 (.aload_n 0) 1 74 := ⟨by decide +kernel, rfl⟩
theorem dd_X_payDay_74 : ad_D mm_X_payDay 74 (.getfield 28) 3 77 := ⟨by decide +kernel, rfl⟩
theorem dd_X_payDay_77 : ad_D mm_X_payDay 77 (.aload_n 1) 1 78 := ⟨by decide +kernel, rfl⟩
theorem dd_X_payDay_78 : ad_D mm_X_payDay 78 (.getfield 191) 3 81 := ⟨by decide +kernel, rfl⟩
theorem dd_X_payDay_81 : ad_D mm_X_payDay 81 (.getfield 131) 3 84 := ⟨by decide +kernel, rfl⟩
theorem dd_X_payDay_84 : ad_D mm_X_payDay 84 (.aload_n 1) 1 85 := ⟨by decide +kernel, rfl⟩
theorem dd_X_payDay_85 : ad_D mm_X_payDay 85 (.getfield 221) 3 88 := ⟨by decide +kernel, rfl⟩
theorem dd_X_payDay_88 : ad_D mm_X_payDay 88 (.invokevirtual 334) 3 91 := ⟨by decide +kernel, rfl⟩
theorem dd_X_payDay_91 : ad_D mm_X_payDay 91 (.aload_n 1) 1 92 := ⟨by decide +kernel, rfl⟩
theorem dd_X_payDay_92 : ad_D mm_X_payDay 92 (.getfield 263) 3 95 := ⟨by decide +kernel, rfl⟩
theorem dd_X_payDay_95 : ad_D mm_X_payDay 95 (.astore_n 1) 1 96 := ⟨by decide +kernel, rfl⟩
theorem dd_X_payDay_96 : ad_D mm_X_payDay 96 (.goto (-83)) 3 99 := ⟨by decide +kernel, rfl⟩
theorem dd_X_payDay_99 : ad_D mm_X_payDay 99 (.return_) 1 100 := ⟨by decide +kernel, rfl⟩
theorem dd_X_meanOfDay_0 : ad_D mm_X_meanOfDay 0 (.iconst 0) 1 1 := ⟨by decide +kernel, rfl⟩
theorem dd_X_meanOfDay_1 : ad_D mm_X_meanOfDay 1 (.istore_n 1) 1 2 := ⟨by decide +kernel, rfl⟩
theorem dd_X_meanOfDay_2 : ad_D mm_X_meanOfDay 2 (.iconst 0) 1 3 := ⟨by decide +kernel, rfl⟩
theorem dd_X_meanOfDay_3 : ad_D mm_X_meanOfDay 3 (.istore_n 2) 1 4 := ⟨by decide +kernel, rfl⟩
theorem dd_X_meanOfDay_4 : ad_D mm_X_meanOfDay 4 (.aload_n 0) 1 5 := ⟨by decide +kernel, rfl⟩
theorem dd_X_meanOfDay_5 : ad_D mm_X_meanOfDay 5 (.getfield 260) 3 8 := ⟨by decide +kernel, rfl⟩
theorem dd_X_meanOfDay_8 : ad_D mm_X_meanOfDay 8 (.astore_n 3) 1 9 := ⟨by decide +kernel, rfl⟩
theorem dd_X_meanOfDay_9 : ad_D mm_X_meanOfDay 9 (.aload_n 3) 1 10 := ⟨by decide +kernel, rfl⟩
theorem dd_X_meanOfDay_10 : ad_D mm_X_meanOfDay 10 (.ifnull 37) 3 13 := ⟨by decide +kernel, rfl⟩
theorem dd_X_meanOfDay_13 : ad_D mm_X_meanOfDay 13 (.aload_n 3) 1 14 := ⟨by decide +kernel, rfl⟩
theorem dd_X_meanOfDay_14 : ad_D mm_X_meanOfDay 14 (.invokevirtual 331) 3 17 := ⟨by decide +kernel, rfl⟩
theorem dd_X_meanOfDay_17 : ad_D mm_X_meanOfDay 17 (.ifCond .eq 22) 3 20 := ⟨by decide +kernel, rfl⟩
theorem dd_X_meanOfDay_20 : ad_D mm_X_meanOfDay 20 (.iload_n 1) 1 21 := ⟨by decide +kernel, rfl⟩
theorem dd_X_meanOfDay_21 : ad_D mm_X_meanOfDay 21 (.aload_n 3) 1 22 := ⟨by decide +kernel, rfl⟩
theorem dd_X_meanOfDay_22 : ad_D mm_X_meanOfDay 22 (.getfield 211) 3 25 := ⟨by decide +kernel, rfl⟩
theorem dd_X_meanOfDay_25 : ad_D mm_X_meanOfDay 25 (.iadd) 1 26 := ⟨by decide +kernel, rfl⟩
theorem dd_X_meanOfDay_26 : ad_D mm_X_meanOfDay 26 (.istore_n 1) 1 27 := ⟨by decide +kernel, rfl⟩
theorem dd_X_meanOfDay_27 : ad_D mm_X_meanOfDay 27 (.iload_n 2) 1 28 := ⟨by decide +kernel, rfl⟩
theorem dd_X_meanOfDay_28 : ad_D mm_X_meanOfDay 28 (.aload_n 3) 1 29 := ⟨by decide +kernel, rfl⟩
theorem dd_X_meanOfDay_29 : ad_D mm_X_meanOfDay 29 (.getfield 211) 3 32 := ⟨by decide +kernel, rfl⟩
theorem dd_X_meanOfDay_32 : ad_D mm_X_meanOfDay 32 (.aload_n 3) 1 33 := ⟨by decide +kernel, rfl⟩
theorem dd_X_meanOfDay_33 : ad_D mm_X_meanOfDay 33 (.getfield 202) 3 36 := ⟨by decide +kernel, rfl⟩
theorem dd_X_meanOfDay_36 : ad_D mm_X_meanOfDay 36 (.imul) 1 37 := ⟨by decide +kernel, rfl⟩
theorem dd_X_meanOfDay_37 : ad_D mm_X_meanOfDay 37 (.iadd) 1 38 := ⟨by decide +kernel, rfl⟩
theorem dd_X_meanOfDay_38 : ad_D mm_X_meanOfDay 38 (.istore_n 2) 1 39 := ⟨by decide +kernel, rfl⟩
theorem dd_X_meanOfDay_39 : ad_D mm_X_meanOfDay 39 (.aload_n 3) 1 40 := ⟨by decide +kernel, rfl⟩
theorem dd_X_meanOfDay_40 : ad_D mm_X_meanOfDay 40 (.getfield 263) 3 43 := ⟨by decide +kernel, rfl⟩
theorem dd_X_meanOfDay_43 : ad_D mm_X_meanOfDay 43 (.astore_n 3) 1 44 := ⟨by decide +kernel, rfl⟩
theorem dd_X_meanOfDay_44 : ad_D mm_X_meanOfDay 44 (.goto (-35)) 3 47 := ⟨by decide +kernel, rfl⟩
theorem dd_X_meanOfDay_47 : ad_D mm_X_meanOfDay 47 (.iload_n 2) 1 48 := ⟨by decide +kernel, rfl⟩
theorem dd_X_meanOfDay_48 : ad_D mm_X_meanOfDay 48 (.iload_n 1) 1 49 := ⟨by decide +kernel, rfl⟩
theorem dd_X_meanOfDay_49 : ad_D mm_X_meanOfDay 49 (.invokestatic 337) 3 52 := ⟨by decide +kernel, rfl⟩
theorem dd_X_meanOfDay_52 : ad_D mm_X_meanOfDay 52 (.ireturn) 1 53 := ⟨by decide +kernel, rfl⟩
theorem dd_Load_isToBePaid_0 : ad_D mm_Load_isToBePaid 0 (.aload_n 0) 1 1 := ⟨by decide +kernel, rfl⟩
theorem dd_Load_isToBePaid_1 : ad_D mm_Load_isToBePaid 1 (.invokevirtual 63) 3 4 := ⟨by decide +kernel, rfl⟩
theorem dd_Load_isToBePaid_4 : ad_D mm_Load_isToBePaid 4 (.ifCond .eq 16) 3 7 := ⟨by decide +kernel, rfl⟩
theorem dd_Load_isToBePaid_7 : ad_D mm_Load_isToBePaid 7 (.aload_n 0) 1 8 := ⟨by decide +kernel, rfl⟩
theorem dd_Load_isToBePaid_8 : ad_D mm_Load_isToBePaid 8 (.getfield 19) 3 11 := ⟨by decide +kernel, rfl⟩
theorem dd_Load_isToBePaid_11 : ad_D mm_Load_isToBePaid 11 (.ldc 18) 2 13 := ⟨by decide +kernel, rfl⟩
theorem dd_Load_isToBePaid_13 : ad_D mm_Load_isToBePaid 13 (.if_icmp .ne 7) 3 16 := ⟨by decide +kernel, rfl⟩
theorem dd_Load_isToBePaid_16 : ad_D mm_Load_isToBePaid 16 (.iconst 1) 1 17 := ⟨by decide +kernel, rfl⟩
theorem dd_Load_isToBePaid_17 : ad_D mm_Load_isToBePaid 17 (.goto 4) 3 20 := ⟨by decide +kernel, rfl⟩
theorem dd_Load_isToBePaid_20 : ad_D mm_Load_isToBePaid 20 (.iconst 0) 1 21 := ⟨by decide +kernel, rfl⟩
theorem dd_Load_isToBePaid_21 : ad_D mm_Load_isToBePaid 21 (.ireturn) 1 22 := ⟨by decide +kernel, rfl⟩
theorem dd_Formula_tell_0 : ad_D mm_Formula_tell 0 (.aload_n 0) 1 1 := ⟨by decide +kernel, rfl⟩
theorem dd_Formula_tell_1 : ad_D mm_Formula_tell 1 (.iload_n 1) 1 2 := ⟨by decide +kernel, rfl⟩
theorem dd_Formula_tell_2 : ad_D mm_Formula_tell 2 (.putfield 52) 3 5 := ⟨by decide +kernel, rfl⟩
theorem dd_Formula_tell_5 : ad_D mm_Formula_tell 5 (.aload_n 0) 1 6 := ⟨by decide +kernel, rfl⟩
theorem dd_Formula_tell_6 : ad_D mm_Formula_tell 6 (.iload_n 2) 1 7 := ⟨by decide +kernel, rfl⟩
theorem dd_Formula_tell_7 : ad_D mm_Formula_tell 7 (.putfield 55) 3 10 := ⟨by decide +kernel, rfl⟩
theorem dd_Formula_tell_10 : ad_D mm_Formula_tell 10 (.aload_n 0) 1 11 := ⟨by decide +kernel, rfl⟩
theorem dd_Formula_tell_11 : ad_D mm_Formula_tell 11 (.iload_n 3) 1 12 := ⟨by decide +kernel, rfl⟩
theorem dd_Formula_tell_12 : ad_D mm_Formula_tell 12 (.putfield 58) 3 15 := ⟨by decide +kernel, rfl⟩
theorem dd_Formula_tell_15 : ad_D mm_Formula_tell 15 (.aload_n 0) 1 16 := ⟨by decide +kernel, rfl⟩
theorem dd_Formula_tell_16 : ad_D mm_Formula_tell 16 (.iload 4) 2 18 := ⟨by decide +kernel, rfl⟩
theorem dd_Formula_tell_18 : ad_D mm_Formula_tell 18 (.putfield 61) 3 21 := ⟨by decide +kernel, rfl⟩
theorem dd_Formula_tell_21 : ad_D mm_Formula_tell 21 (.aload_n 0) 1 22 := ⟨by decide +kernel, rfl⟩
theorem dd_Formula_tell_22 : ad_D mm_Formula_tell 22 (.iload 5) 2 24 := ⟨by decide +kernel, rfl⟩
theorem dd_Formula_tell_24 : ad_D mm_Formula_tell 24 (.putfield 64) 3 27 := ⟨by decide +kernel, rfl⟩
theorem dd_Formula_tell_27 : ad_D mm_Formula_tell 27 (.aload_n 0) 1 28 := ⟨by decide +kernel, rfl⟩
theorem dd_Formula_tell_28 : ad_D mm_Formula_tell 28 (.iconst 0) 1 29 := ⟨by decide +kernel, rfl⟩
theorem dd_Formula_tell_29 : ad_D mm_Formula_tell 29 (.putfield 67) 3 32 := ⟨by decide +kernel, rfl⟩
theorem dd_Formula_tell_32 : ad_D mm_Formula_tell 32 (.aload_n 0) 1 33 := ⟨by decide +kernel, rfl⟩
theorem dd_Formula_tell_33 : ad_D mm_Formula_tell 33 (.iconst 0) 1 34 := ⟨by decide +kernel, rfl⟩
theorem dd_Formula_tell_34 : ad_D mm_Formula_tell 34 (.putfield 70) 3 37 := ⟨by decide +kernel, rfl⟩
theorem dd_Formula_tell_37 : ad_D mm_Formula_tell 37 (.aload_n 0) 1 38 := ⟨by decide +kernel, rfl⟩
theorem dd_Formula_tell_38 : ad_D mm_Formula_tell 38 (.iconst (-1)) 1 39 := ⟨by decide +kernel, rfl⟩
theorem dd_Formula_tell_39 : ad_D mm_Formula_tell 39 (.putfield 73) 3 42 := ⟨by decide +kernel, rfl⟩
theorem dd_Formula_tell_42 : ad_D mm_Formula_tell 42 (.aload_n 0) 1 43 := ⟨by decide +kernel, rfl⟩
theorem dd_Formula_tell_43 : ad_D mm_Formula_tell 43 (.iconst 0) 1 44 := ⟨by decide +kernel, rfl⟩
theorem dd_Formula_tell_44 : ad_D mm_Formula_tell 44 (.invokevirtual 76) 3 47 := ⟨by decide +kernel, rfl⟩
theorem dd_Formula_tell_47 : ad_D mm_Formula_tell 47 (.istore 6) 2 49 := ⟨by decide +kernel, rfl⟩
theorem dd_Formula_tell_49 : ad_D mm_Formula_tell 49 (.aload_n 0) 1 50 := ⟨by decide +kernel, rfl⟩
theorem dd_Formula_tell_50 : ad_D mm_Formula_tell 50 (.iconst 0) 1 51 := ⟨by decide +kernel, rfl⟩
theorem dd_Formula_tell_51 : ad_D mm_Formula_tell 51 (.invokevirtual 79) 3 54 := ⟨by decide +kernel, rfl⟩
theorem dd_Formula_tell_54 : ad_D mm_Formula_tell 54 (.iload 6) 2 56 := ⟨by decide +kernel, rfl⟩
theorem dd_Formula_tell_56 : ad_D mm_Formula_tell 56 (.ireturn) 1 57 := ⟨by decide +kernel, rfl⟩
theorem dd_Formula_sum_0 : ad_D mm_Formula_sum 0 (.aload_n 0) 1 1 := ⟨by decide +kernel, rfl⟩
theorem dd_Formula_sum_1 : ad_D mm_Formula_sum 1 (.iload_n 1) 1 2 := ⟨by decide +kernel, rfl⟩
theorem dd_Formula_sum_2 : ad_D mm_Formula_sum 2 (.invokevirtual 83) 3 5 := ⟨by decide +kernel, rfl⟩
theorem dd_Formula_sum_5 : ad_D mm_Formula_sum 5 (.istore_n 2) 1 6 := ⟨by decide +kernel, rfl⟩
theorem dd_Formula_sum_6 : ad_D mm_Formula_sum 6 (.iconst 0) 1 7 := ⟨by decide +kernel, rfl⟩
theorem dd_Formula_sum_7 : ad_D mm_Formula_sum 7 (.istore_n 3) 1 8 := ⟨by decide +kernel, rfl⟩
theorem dd_Formula_sum_8 : ad_D mm_Formula_sum 8 (.iload_n 3) 1 9 := ⟨by decide +kernel, rfl⟩
theorem dd_Formula_sum_9 : ad_D mm_Formula_sum 9 (.bipush 100) 2 11 := ⟨by decide +kernel, rfl⟩
theorem dd_Formula_sum_11 : ad_D mm_Formula_sum 11 (.if_icmp .ge 84) 3 14 := ⟨by decide +kernel, rfl⟩
theorem dd_Formula_sum_14 : ad_D mm_Formula_sum 14 (.aload_n 0) 1 15 := ⟨by decide +kernel, rfl⟩
theorem dd_Formula_sum_15 : ad_D mm_Formula_sum 15 (.invokevirtual 86) 3 18 := ⟨by decide +kernel, rfl⟩
theorem dd_Formula_sum_18 : ad_D mm_Formula_sum 18 (.bipush 43) 2 20 := ⟨by decide +kernel, rfl⟩
theorem dd_Formula_sum_20 : ad_D mm_Formula_sum 20 (.if_icmp .eq 12) 3 23 := ⟨by decide +kernel, rfl⟩
theorem dd_Formula_sum_23 : ad_D mm_Formula_sum 23 (.aload_n 0) 1 24 := ⟨by decide +kernel, rfl⟩
theorem dd_Formula_sum_24 : ad_D mm_Formula_sum 24 (.invokevirtual 86) 3 27 := ⟨by decide +kernel, rfl⟩
theorem dd_Formula_sum_27 : ad_D mm_Formula_sum 27 (.bipush 45) 2 29 := ⟨by decide +kernel, rfl⟩
theorem dd_Formula_sum_29 : ad_D mm_Formula_sum 29 (.if_icmp .ne 66) 3 32 := ⟨by decide +kernel, rfl⟩
theorem dd_Formula_sum_32 : ad_D mm_Formula_sum 32 (.aload_n 0) 1 33 := ⟨by decide +kernel, rfl⟩
theorem dd_Formula_sum_33 : ad_D mm_Formula_sum 33 (.invokevirtual 86) 3 36 := ⟨by decide +kernel, rfl⟩
theorem dd_Formula_sum_36 : ad_D mm_Formula_sum 36 (.bipush 43) 2 38 := ⟨by decide +kernel, rfl⟩
theorem dd_Formula_sum_38 : ad_D mm_Formula_sum 38 (.if_icmp .ne 7) 3 41 := ⟨by decide +kernel, rfl⟩
theorem dd_Formula_sum_41 : ad_D mm_Formula_sum 41 (.iconst 1) 1 42 := ⟨by decide +kernel, rfl⟩
theorem dd_Formula_sum_42 : ad_D mm_Formula_sum 42 (.goto 4) 3 45 := ⟨by decide +kernel, rfl⟩
theorem dd_Formula_sum_45 : ad_D mm_Formula_sum 45 (.iconst 0) 1 46 := ⟨by decide +kernel, rfl⟩
theorem dd_Formula_sum_46 : ad_D mm_Formula_sum 46 (.istore 4) 2 48 := ⟨by decide +kernel, rfl⟩
theorem dd_Formula_sum_48 : ad_D mm_Formula_sum 48 (.aload_n 0) 1 49 := ⟨by decide +kernel, rfl⟩
theorem dd_Formula_sum_49 : ad_D mm_Formula_sum 49 (.dup) 1 50 := ⟨by decide +kernel, rfl⟩
theorem dd_Formula_sum_50 : ad_D mm_Formula_sum 50 (.getfield 67) 3 53 := ⟨by decide +kernel, rfl⟩
theorem dd_Formula_sum_53 : ad_D mm_Formula_sum 53 (.iconst 1) 1 54 := ⟨by decide +kernel, rfl⟩
theorem dd_Formula_sum_54 : ad_D mm_Formula_sum 54 (.iadd) 1 55 := ⟨by decide +kernel, rfl⟩
theorem dd_Formula_sum_55 : ad_D mm_Formula_sum 55 (.putfield 67) 3 58 := ⟨by decide +kernel, rfl⟩
theorem dd_Formula_sum_58 : ad_D mm_Formula_sum 58 (.aload_n 0) 1 59 := ⟨by decide +kernel, rfl⟩
theorem dd_Formula_sum_59 : ad_D mm_Formula_sum 59 (.iload_n 1) 1 60 := ⟨by decide +kernel, rfl⟩
theorem dd_Formula_sum_60 : ad_D mm_Formula_sum 60 (.invokevirtual 83) 3 63 := ⟨by decide +kernel, rfl⟩
theorem dd_Formula_sum_63 : ad_D mm_Formula_sum 63 (.istore 5) 2 65 := ⟨by decide +kernel, rfl⟩
theorem dd_Formula_sum_65 : ad_D mm_Formula_sum 65 (.iload 4) 2 67 := ⟨by decide +kernel, rfl⟩
theorem dd_Formula_sum_67 : ad_D mm_Formula_sum 67 (.ifCond .eq 12) 3 70 := ⟨by decide +kernel, rfl⟩
theorem dd_Formula_sum_70 : ad_D mm_Formula_sum 70 (.iload_n 2) 1 71 := ⟨by decide +kernel, rfl⟩
theorem dd_Formula_sum_71 : ad_D mm_Formula_sum 71 (.i2l) 1 72 := ⟨by decide +kernel, rfl⟩
theorem dd_Formula_sum_72 : ad_D mm_Formula_sum 72 (.iload 5) 2 74 := ⟨by decide +kernel, rfl⟩
theorem dd_Formula_sum_74 : ad_D mm_Formula_sum 74 (.i2l) 1 75 := ⟨by decide +kernel, rfl⟩
theorem dd_Formula_sum_75 : ad_D mm_Formula_sum 75 (.ladd) 1 76 := ⟨by decide +kernel, rfl⟩
theorem dd_Formula_sum_76 : ad_D mm_Formula_sum 76 (.goto 9) 3 79 := ⟨by decide +kernel, rfl⟩
theorem dd_Formula_sum_79 : ad_D mm_Formula_sum 79 (.iload_n 2) 1 80 := ⟨by decide +kernel, rfl⟩
theorem dd_Formula_sum_80 : ad_D mm_Formula_sum 80 (.i2l) 1 81 := ⟨by decide +kernel, rfl⟩
theorem dd_Formula_sum_81 : ad_D mm_Formula_sum 81 (.iload 5) 2 83 := ⟨by decide +kernel, rfl⟩
theorem dd_Formula_sum_83 : ad_D mm_Formula_sum 83 (.i2l) 1 84 := ⟨by decide +kernel, rfl⟩
theorem dd_Formula_sum_84 : ad_D mm_Formula_sum 84 (.lsub) 1 85 := ⟨by decide +kernel, rfl⟩
theorem dd_Formula_sum_85 : ad_D mm_Formula_sum 85 (.invokestatic 90) 3 88 := ⟨by decide +kernel, rfl⟩
theorem dd_Formula_sum_88 : ad_D mm_Formula_sum 88 (.istore_n 2) 1 89 := ⟨by decide +kernel, rfl⟩
theorem dd_Formula_sum_89 : ad_D mm_Formula_sum 89 (.iinc 3 1) 3 92 := ⟨by decide +kernel, rfl⟩
theorem dd_Formula_sum_92 : ad_D mm_Formula_sum 92 (.goto (-84)) 3 95 := ⟨by decide +kernel, rfl⟩
theorem dd_Formula_sum_95 : ad_D mm_Formula_sum 95 (.iload_n 2) 1 96 := ⟨by decide +kernel, rfl⟩
theorem dd_Formula_sum_96 : ad_D mm_Formula_sum 96 (.ireturn) 1 97 := ⟨by decide +kernel, rfl⟩
theorem dd_Formula_product_0 : ad_D mm_Formula_product 0 (.aload_n 0) 1 1 := ⟨by decide +kernel, rfl⟩
theorem dd_Formula_product_1 : ad_D mm_Formula_product 1 (.iload_n 1) 1 2 := ⟨by decide +kernel, rfl⟩
theorem dd_Formula_product_2 : ad_D mm_Formula_product 2 (.invokevirtual 94) 3 5 := ⟨by decide +kernel, rfl⟩
theorem dd_Formula_product_5 : ad_D mm_Formula_product 5 (.istore_n 2) 1 6 := ⟨by decide +kernel, rfl⟩
theorem dd_Formula_product_6 : ad_D mm_Formula_product 6 (.iconst 0) 1 7 := ⟨by decide +kernel, rfl⟩
theorem dd_Formula_product_7 : ad_D mm_Formula_product 7 (.istore_n 3) 1 8 := ⟨by decide +kernel, rfl⟩
theorem dd_Formula_product_8 : ad_D mm_Formula_product 8 (.iload_n 3) 1 9 := ⟨by decide +kernel, rfl⟩
theorem dd_Formula_product_9 : ad_D mm_Formula_product 9 (.bipush 100) 2 11 := ⟨by decide +kernel, rfl⟩
theorem dd_Formula_product_11 : ad_D mm_Formula_product 11 (.if_icmp .ge 84) 3 14 := ⟨by decide +kernel, rfl⟩
theorem dd_Formula_product_14 : ad_D mm_Formula_product 14 (.aload_n 0) 1 15 := ⟨by decide +kernel, rfl⟩
theorem dd_Formula_product_15 : ad_D mm_Formula_product 15 (.invokevirtual 86) 3 18 := ⟨by decide +kernel, rfl⟩
theorem dd_Formula_product_18 : ad_D mm_Formula_product 18 (.bipush 42) 2 20 := ⟨by decide +kernel, rfl⟩
theorem dd_Formula_product_20 : ad_D mm_Formula_product 20 (.if_icmp .eq 12) 3 23 := ⟨by decide +kernel, rfl⟩
theorem dd_Formula_product_23 : ad_D mm_Formula_product 23 (.aload_n 0) 1 24 := ⟨by decide +kernel, rfl⟩
theorem dd_Formula_product_24 : ad_D mm_Formula_product 24 (.invokevirtual 86) 3 27 := ⟨by decide +kernel, rfl⟩
theorem dd_Formula_product_27 : ad_D mm_Formula_product 27 (.bipush 47) 2 29 := ⟨by decide +kernel, rfl⟩
theorem dd_Formula_product_29 : ad_D mm_Formula_product 29 (.if_icmp .ne 66) 3 32 := ⟨by decide +kernel, rfl⟩
theorem dd_Formula_product_32 : ad_D mm_Formula_product 32 (.aload_n 0) 1 33 := ⟨by decide +kernel, rfl⟩
theorem dd_Formula_product_33 : ad_D mm_Formula_product 33 (.invokevirtual 86) 3 36 := ⟨by decide +kernel, rfl⟩
theorem dd_Formula_product_36 : ad_D mm_Formula_product 36 (.bipush 42) 2 38 := ⟨by decide +kernel, rfl⟩
theorem dd_Formula_product_38 : ad_D mm_Formula_product 38 (.if_icmp .ne 7) 3 41 := ⟨by decide +kernel, rfl⟩
theorem dd_Formula_product_41 : ad_D mm_Formula_product 41 (.iconst 1) 1 42 := ⟨by decide +kernel, rfl⟩
theorem dd_Formula_product_42 : ad_D mm_Formula_product 42 (.goto 4) 3 45 := ⟨by decide +kernel, rfl⟩
theorem dd_Formula_product_45 : ad_D mm_Formula_product 45 (.iconst 0) 1 46 := ⟨by decide +kernel, rfl⟩
theorem dd_Formula_product_46 : ad_D mm_Formula_product 46 (.istore 4) 2 48 := ⟨by decide +kernel, rfl⟩
theorem dd_Formula_product_48 : ad_D mm_Formula_product 48 (.aload_n 0) 1 49 := ⟨by decide +kernel, rfl⟩
theorem dd_Formula_product_49 : ad_D mm_Formula_product 49 (.dup) 1 50 := ⟨by decide +kernel, rfl⟩
theorem dd_Formula_product_50 : ad_D mm_Formula_product 50 (.getfield 67) 3 53 := ⟨by decide +kernel, rfl⟩
theorem dd_Formula_product_53 : ad_D mm_Formula_product 53 (.iconst 1) 1 54 := ⟨by decide +kernel, rfl⟩
theorem dd_Formula_product_54 : ad_D mm_Formula_product 54 (.iadd) 1 55 := ⟨by decide +kernel, rfl⟩
theorem dd_Formula_product_55 : ad_D mm_Formula_product 55 (.putfield 67) 3 58 := ⟨by decide +kernel, rfl⟩
theorem dd_Formula_product_58 : ad_D mm_Formula_product 58 (.aload_n 0) 1 59 := ⟨by decide +kernel, rfl⟩
theorem dd_Formula_product_59 : ad_D mm_Formula_product 59 (.iload_n 1) 1 60 := ⟨by decide +kernel, rfl⟩
theorem dd_Formula_product_60 : ad_D mm_Formula_product 60 (.invokevirtual 94) 3 63 := ⟨by decide +kernel, rfl⟩
theorem dd_Formula_product_63 : ad_D mm_Formula_product 63 (.istore 5) 2 65 := ⟨by decide +kernel, rfl⟩
theorem dd_Formula_product_65 : ad_D mm_Formula_product 65 (.iload 4) 2 67 := ⟨by decide +kernel, rfl⟩
theorem dd_Formula_product_67 : ad_D mm_Formula_product 67 (.ifCond .eq 15) 3 70 := ⟨by decide +kernel, rfl⟩
theorem dd_Formula_product_70 : ad_D mm_Formula_product 70 (.iload_n 2) 1 71 := ⟨by decide +kernel, rfl⟩
theorem dd_Formula_product_71 : ad_D mm_Formula_product 71 (.i2l) 1 72 := ⟨by decide +kernel, rfl⟩
theorem dd_Formula_product_72 : ad_D mm_Formula_product 72 (.iload 5) 2 74 := ⟨by decide +kernel, rfl⟩
theorem dd_Formula_product_74 : ad_D mm_Formula_product 74 (.i2l) 1 75 := ⟨by decide +kernel, rfl⟩
theorem dd_Formula_product_75 : ad_D mm_Formula_product 75 (.lmul) 1 76 := ⟨by decide +kernel, rfl⟩
theorem dd_Formula_product_76 : ad_D mm_Formula_product 76 (.invokestatic 90) 3 79 := ⟨by decide +kernel, rfl⟩
theorem dd_Formula_product_79 : ad_D mm_Formula_product 79 (.goto 9) 3 82 := ⟨by decide +kernel, rfl⟩
theorem dd_Formula_product_82 : ad_D mm_Formula_product 82 (.iload_n 2) 1 83 := ⟨by decide +kernel, rfl⟩
theorem dd_Formula_product_83 : ad_D mm_Formula_product 83 (.iload 5) 2 85 := ⟨by decide +kernel, rfl⟩
theorem dd_Formula_product_85 : ad_D mm_Formula_product 85 (.invokestatic 97) 3 88 := ⟨by decide +kernel, rfl⟩
theorem dd_Formula_product_88 : ad_D mm_Formula_product 88 (.istore_n 2) 1 89 := ⟨by decide +kernel, rfl⟩
theorem dd_Formula_product_89 : ad_D mm_Formula_product 89 (.iinc 3 1) 3 92 := ⟨by decide +kernel, rfl⟩
theorem dd_Formula_product_92 : ad_D mm_Formula_product 92 (.goto (-84)) 3 95 := ⟨by decide +kernel, rfl⟩
theorem dd_Formula_product_95 : ad_D mm_Formula_product 95 (.iload_n 2) 1 96 := ⟨by decide +kernel, rfl⟩
theorem dd_Formula_product_96 : ad_D mm_Formula_product 96 (.ireturn) 1 97 := ⟨by decide +kernel, rfl⟩
theorem dd_Formula_one_0 : ad_D mm_Formula_one 0 (.aload_n 0) 1 1 := ⟨by decide +kernel, rfl⟩
theorem dd_Formula_one_1 : ad_D mm_Formula_one 1 (.invokevirtual 86) 3 4 := ⟨by decide +kernel, rfl⟩
theorem dd_Formula_one_4 : ad_D mm_Formula_one 4 (.istore_n 2) 1 5 := ⟨by decide +kernel, rfl⟩
theorem dd_Formula_one_5 : ad_D mm_Formula_one 5 (.iload_n 2) 1 6 := ⟨by decide +kernel, rfl⟩
theorem dd_Formula_one_6 : ad_D mm_Formula_one 6 (.sipush 1000) 3 9 := ⟨by decide +kernel, rfl⟩
theorem dd_Formula_one_9 : ad_D mm_Formula_one 9 (.if_icmp .lt 13) 3 12 := ⟨by decide +kernel, rfl⟩
theorem dd_Formula_one_12 : ad_D mm_Formula_one 12 (.aload_n 0) 1 13 := ⟨by decide +kernel, rfl⟩
theorem dd_Formula_one_13 : ad_D mm_Formula_one 13 (.iload_n 2) 1 14 := ⟨by decide +kernel, rfl⟩
theorem dd_Formula_one_14 : ad_D mm_Formula_one 14 (.sipush 1000) 3 17 := ⟨by decide +kernel, rfl⟩
theorem dd_Formula_one_17 : ad_D mm_Formula_one 17 (.isub) 1 18 := ⟨by decide +kernel, rfl⟩
theorem dd_Formula_one_18 : ad_D mm_Formula_one 18 (.invokevirtual 100) 3 21 := ⟨by decide +kernel, rfl⟩
theorem dd_Formula_one_21 : ad_D mm_Formula_one 21 (.ireturn) 1 22 := ⟨by decide +kernel, rfl⟩
theorem dd_Formula_one_22 : ad_D mm_Formula_one 22 (.iload_n 2) 1 23 := ⟨by decide +kernel, rfl⟩
theorem dd_Formula_one_23 : ad_D mm_Formula_one 23 (.lookupswitch 84 #[(2, 70), (3, 77), (40, 64), (45, 41)]) 41 64 := ⟨by decide +kernel, rfl⟩
theorem dd_Formula_one_64 : ad_D mm_Formula_one 64 (.aload_n 0) 1 65 := ⟨by decide +kernel, rfl⟩
theorem dd_Formula_one_65 : ad_D mm_Formula_one 65 (.bipush 45) 2 67 := ⟨by decide +kernel, rfl⟩
theorem dd_Formula_one_67 : ad_D mm_Formula_one 67 (.iload_n 1) 1 68 := ⟨by decide +kernel, rfl⟩
theorem dd_Formula_one_68 : ad_D mm_Formula_one 68 (.invokevirtual 103) 3 71 := ⟨by decide +kernel, rfl⟩
theorem dd_Formula_one_71 : ad_D mm_Formula_one 71 (.ifCond .eq 14) 3 74 := ⟨by decide +kernel, rfl⟩
theorem dd_Formula_one_74 : ad_D mm_Formula_one 74 (.aload_n 0) 1 75 := ⟨by decide +kernel, rfl⟩
theorem dd_Formula_one_75 : ad_D mm_Formula_one 75 (.iload_n 1) 1 76 := ⟨by decide +kernel, rfl⟩
theorem dd_Formula_one_76 : ad_D mm_Formula_one 76 (.iconst 1) 1 77 := ⟨by decide +kernel, rfl⟩
theorem dd_Formula_one_77 : ad_D mm_Formula_one 77 (.iadd) 1 78 := ⟨by decide +kernel, rfl⟩
theorem dd_Formula_one_78 : ad_D mm_Formula_one 78 (.invokevirtual 94) 3 81 := ⟨by decide +kernel, rfl⟩
theorem dd_Formula_one_81 : ad_D mm_Formula_one 81 (.ineg) 1 82 := ⟨by decide +kernel, rfl⟩
theorem dd_Formula_one_82 : ad_D mm_Formula_one 82 (.goto 4) 3 85 := ⟨by decide +kernel, rfl⟩
theorem dd_Formula_one_85 : ad_D mm_Formula_one 85 (.iconst 0) 1 86 := ⟨by decide +kernel, rfl⟩
theorem dd_Formula_one_86 : ad_D mm_Formula_one 86 (.ireturn) 1 87 := ⟨by decide +kernel, rfl⟩
theorem dd_Formula_one_87 : ad_D mm_Formula_one 87 (.aload_n 0) 1 88 := ⟨by decide +kernel, rfl⟩
theorem dd_Formula_one_88 : ad_D mm_Formula_one 88 (.iload_n 1) 1 89 := ⟨by decide +kernel, rfl⟩
theorem dd_Formula_one_89 : ad_D mm_Formula_one 89 (.invokevirtual 107) 3 92 := ⟨by decide +kernel, rfl⟩
theorem dd_Formula_one_92 : ad_D mm_Formula_one 92 (.ireturn) 1 93 := ⟨by decide +kernel, rfl⟩
theorem dd_Formula_one_93 : ad_D mm_Formula_one 93 (.aload_n 0) 1 94 := ⟨by decide +kernel, rfl⟩
theorem dd_Formula_one_94 : ad_D mm_Formula_one 94 (.iconst 1) 1 95 := ⟨by decide +kernel, rfl⟩
theorem dd_Formula_one_95 : ad_D mm_Formula_one 95 (.iload_n 1) 1 96 := ⟨by decide +kernel, rfl⟩
theorem dd_Formula_one_96 : ad_D mm_Formula_one 96 (.invokevirtual 110) 3 99 := ⟨by decide +kernel, rfl⟩
theorem dd_Formula_one_99 : ad_D mm_Formula_one 99 (.ireturn) 1 100 := ⟨by decide +kernel, rfl⟩
theorem dd_Formula_one_100 : ad_D mm_Formula_one 100 (.aload_n 0) 1 101 := ⟨by decide +kernel, rfl⟩
theorem dd_Formula_one_101 : ad_D mm_Formula_one 101 (.iconst 0) 1 102 := ⟨by decide +kernel, rfl⟩
theorem dd_Formula_one_102 : ad_D mm_Formula_one 102 (.iload_n 1) 1 103 := ⟨by decide +kernel, rfl⟩
theorem dd_Formula_one_103 : ad_D mm_Formula_one 103 (.invokevirtual 110) 3 106 := ⟨by decide +kernel, rfl⟩
theorem dd_Formula_one_106 : ad_D mm_Formula_one 106 (.ireturn) 1 107 := ⟨by decide +kernel, rfl⟩
theorem dd_Formula_one_107 : ad_D mm_Formula_one 107 (.aload_n 0) 1 108 := ⟨by decide +kernel, rfl⟩
theorem dd_Formula_one_108 : ad_D mm_Formula_one 108 (.iload_n 2) 1 109 := ⟨by decide +kernel, rfl⟩
theorem dd_Formula_one_109 : ad_D mm_Formula_one 109 (.invokevirtual 114) 3 112 := ⟨by decide +kernel, rfl⟩
theorem dd_Formula_one_112 : ad_D mm_Formula_one 112 (.ireturn) 1 113 := ⟨by decide +kernel, rfl⟩
theorem dd_Formula_token_0 : ad_D mm_Formula_token 0 (.aload_n 0) 1 1 := ⟨by decide +kernel, rfl⟩
theorem dd_Formula_token_1 : ad_D mm_Formula_token 1 (.getfield 67) 3 4 := ⟨by decide +kernel, rfl⟩
theorem dd_Formula_token_4 : ad_D mm_Formula_token 4 (.aload_n 0) 1 5 := ⟨by decide +kernel, rfl⟩
theorem dd_Formula_token_5 : ad_D mm_Formula_token 5 (.getfield 20) 3 8 := ⟨by decide +kernel, rfl⟩
theorem dd_Formula_token_8 : ad_D mm_Formula_token 8 (.if_icmp .ge 27) 3 11 := ⟨by decide +kernel, rfl⟩
theorem dd_Formula_token_11 : ad_D mm_Formula_token 11 (.aload_n 0) 1 12 := ⟨by decide +kernel, rfl⟩
theorem dd_Formula_token_12 : ad_D mm_Formula_token 12 (.getfield 67) 3 15 := ⟨by decide +kernel, rfl⟩
theorem dd_Formula_token_15 : ad_D mm_Formula_token 15 (.aload_n 0) 1 16 := ⟨by decide +kernel, rfl⟩
theorem dd_Formula_token_16 : ad_D mm_Formula_token 16 (.getfield 13) 3 19 := ⟨by decide +kernel, rfl⟩
theorem dd_Formula_token_19 : ad_D mm_Formula_token 19 (.arraylength) 1 20 := ⟨by decide +kernel, rfl⟩
theorem dd_Formula_token_20 : ad_D mm_Formula_token 20 (.if_icmp .ge 15) 3 23 := ⟨by decide +kernel, rfl⟩
theorem dd_Formula_token_23 : ad_D mm_Formula_token 23 (.aload_n 0) 1 24 := ⟨by decide +kernel, rfl⟩
theorem dd_Formula_token_24 : ad_D mm_Formula_token 24 (.getfield 13) 3 27 := ⟨by decide +kernel, rfl⟩
theorem dd_Formula_token_27 : ad_D mm_Formula_token 27 (.aload_n 0) 1 28 := ⟨by decide +kernel, rfl⟩
theorem dd_Formula_token_28 : ad_D mm_Formula_token 28 (.getfield 67) 3 31 := ⟨by decide +kernel, rfl⟩
theorem dd_Formula_token_31 : ad_D mm_Formula_token 31 (.iaload) 1 32 := ⟨by decide +kernel, rfl⟩
theorem dd_Formula_token_32 : ad_D mm_Formula_token 32 (.goto 4) 3 35 := ⟨by decide +kernel, rfl⟩
theorem dd_Formula_token_35 : ad_D mm_Formula_token 35 (.iconst 0) 1 36 := ⟨by decide +kernel, rfl⟩
theorem dd_Formula_token_36 : ad_D mm_Formula_token 36 (.ireturn) 1 37 := ⟨by decide +kernel, rfl⟩
theorem dd_Formula_number_0 : ad_D mm_Formula_number 0 (.iload_n 1) 1 1 := ⟨by decide +kernel, rfl⟩
theorem dd_Formula_number_1 : ad_D mm_Formula_number 1 (.sipush 9999) 3 4 := ⟨by decide +kernel, rfl⟩
theorem dd_Formula_number_4 : ad_D mm_Formula_number 4 (.if_icmp .le 10) 3 7 := ⟨by decide +kernel, rfl⟩
theorem dd_Formula_number_7 : ad_D mm_Formula_number 7 (.aload_n 0) 1 8 := ⟨by decide +kernel, rfl⟩
theorem dd_Formula_number_8 : ad_D mm_Formula_number 8 (.iconst 2) 1 9 := ⟨by decide +kernel, rfl⟩
theorem dd_Formula_number_9 : ad_D mm_Formula_number 9 (.invokevirtual 117) 3 12 := ⟨by decide +kernel, rfl⟩
theorem dd_Formula_number_12 : ad_D mm_Formula_number 12 (.iconst 0) 1 13 := ⟨by decide +kernel, rfl⟩
theorem dd_Formula_number_13 : ad_D mm_Formula_number 13 (.ireturn) 1 14 := ⟨by decide +kernel, rfl⟩
theorem dd_Formula_number_14 : ad_D mm_Formula_number 14 (.aload_n 0) 1 15 := ⟨by decide +kernel, rfl⟩
theorem dd_Formula_number_15 : ad_D mm_Formula_number 15 (.dup) 1 16 := ⟨by decide +kernel, rfl⟩
theorem dd_Formula_number_16 : ad_D mm_Formula_number 16 (.getfield 67) 3 19 := ⟨by decide +kernel, rfl⟩
theorem dd_Formula_number_19 : ad_D mm_Formula_number 19 (.iconst 1) 1 20 := ⟨by decide +kernel, rfl⟩
theorem dd_Formula_number_20 : ad_D mm_Formula_number 20 (.iadd) 1 21 := ⟨by decide +kernel, rfl⟩
theorem dd_Formula_number_21 : ad_D mm_Formula_number 21 (.putfield 67) 3 24 := ⟨by decide +kernel, rfl⟩
theorem dd_Formula_number_24 : ad_D mm_Formula_number 24 (.iload_n 1) 1 25 := ⟨by decide +kernel, rfl⟩
theorem dd_Formula_number_25 : ad_D mm_Formula_number 25 (.ireturn) 1 26 := ⟨by decide +kernel, rfl⟩
theorem dd_Formula_stop_0 : ad_D mm_Formula_stop 0 (.aload_n 0) 1 1 := ⟨by decide +kernel, rfl⟩
theorem dd_Formula_stop_1 : ad_D mm_Formula_stop 1 (.getfield 70) 3 4 := ⟨by decide +kernel, rfl⟩
theorem dd_Formula_stop_4 : ad_D mm_Formula_stop 4 (.ifCond .ne 48) 3 7 := ⟨by decide +kernel, rfl⟩
theorem dd_Formula_stop_7 : ad_D mm_Formula_stop 7 (.aload_n 0) 1 8 := ⟨by decide +kernel, rfl⟩
theorem dd_Formula_stop_8 : ad_D mm_Formula_stop 8 (.iload_n 1) 1 9 := ⟨by decide +kernel, rfl⟩
theorem dd_Formula_stop_9 : ad_D mm_Formula_stop 9 (.putfield 70) 3 12 := ⟨by decide +kernel, rfl⟩
theorem dd_Formula_stop_12 : ad_D mm_Formula_stop 12 (.aload_n 0) 1 13 := ⟨by decide +kernel, rfl⟩
theorem dd_Formula_stop_13 : ad_D mm_Formula_stop 13 (.aload_n 0) 1 14 := ⟨by decide +kernel, rfl⟩
theorem dd_Formula_stop_14 : ad_D mm_Formula_stop 14 (.getfield 67) 3 17 := ⟨by decide +kernel, rfl⟩
theorem dd_Formula_stop_17 : ad_D mm_Formula_stop 17 (.aload_n 0) 1 18 := ⟨by decide +kernel, rfl⟩
theorem dd_Formula_stop_18 : ad_D mm_Formula_stop 18 (.getfield 20) 3 21 := ⟨by decide +kernel, rfl⟩
theorem dd_Formula_stop_21 : ad_D mm_Formula_stop 21 (.if_icmp .ge 27) 3 24 := ⟨by decide +kernel, rfl⟩
theorem dd_Formula_stop_24 : ad_D mm_Formula_stop 24 (.aload_n 0) 1 25 := ⟨by decide +kernel, rfl⟩
theorem dd_Formula_stop_25 : ad_D mm_Formula_stop 25 (.getfield 67) 3 28 := ⟨by decide +kernel, rfl⟩
theorem dd_Formula_stop_28 : ad_D mm_Formula_stop 28 (.aload_n 0) 1 29 := ⟨by decide +kernel, rfl⟩
theorem dd_Formula_stop_29 : ad_D mm_Formula_stop 29 (.getfield 17) 3 32 := ⟨by decide +kernel, rfl⟩
theorem dd_Formula_stop_32 : ad_D mm_Formula_stop 32 (.arraylength) 1 33 := ⟨by decide +kernel, rfl⟩
theorem dd_Formula_stop_33 : ad_D mm_Formula_stop 33 (.if_icmp .ge 15) 3 36 := ⟨by decide +kernel, rfl⟩
theorem dd_Formula_stop_36 : ad_D mm_Formula_stop 36 (.aload_n 0) 1 37 := ⟨by decide +kernel, rfl⟩
theorem dd_Formula_stop_37 : ad_D mm_Formula_stop 37 (.getfield 17) 3 40 := ⟨by decide +kernel, rfl⟩
theorem dd_Formula_stop_40 : ad_D mm_Formula_stop 40 (.aload_n 0) 1 41 := ⟨by decide +kernel, rfl⟩
theorem dd_Formula_stop_41 : ad_D mm_Formula_stop 41 (.getfield 67) 3 44 := ⟨by decide +kernel, rfl⟩
theorem dd_Formula_stop_44 : ad_D mm_Formula_stop 44 (.iaload) 1 45 := ⟨by decide +kernel, rfl⟩
theorem dd_Formula_stop_45 : ad_D mm_Formula_stop 45 (.goto 4) 3 48 := ⟨by decide +kernel, rfl⟩
theorem dd_Formula_stop_48 : ad_D mm_Formula_stop 48 (.iconst (-1)) 1 49 := ⟨by decide +kernel, rfl⟩
theorem dd_Formula_stop_49 : ad_D mm_Formula_stop 49 (.putfield 73) 3 52 := ⟨by decide +kernel, rfl⟩
theorem dd_Formula_stop_52 : ad_D mm_Formula_stop 52 (.aload_n 0) 1 53 := ⟨by decide +kernel, rfl⟩
theorem dd_Formula_stop_53 : ad_D mm_Formula_stop 53 (.aload_n 0) 1 54 := ⟨by decide +kernel, rfl⟩
theorem dd_Formula_stop_54 : ad_D mm_Formula_stop 54 (.getfield 20) 3 57 := ⟨by decide +kernel, rfl⟩
theorem dd_Formula_stop_57 : ad_D mm_Formula_stop 57 (.putfield 67) 3 60 := ⟨by decide +kernel, rfl⟩
theorem dd_Formula_stop_60 : ad_D mm_Formula_stop 60 (.return_) 1 61 := ⟨by decide +kernel, rfl⟩
theorem dd_Formula_opens_0 : ad_D mm_Formula_opens 0 (.aload_n 0) 1 1 := ⟨by decide +kernel, rfl⟩
theorem dd_Formula_opens_1 : ad_D mm_Formula_opens 1 (.invokevirtual 86) 3 4 := ⟨by decide +kernel, rfl⟩
theorem dd_Formula_opens_4 : ad_D mm_Formula_opens 4 (.iload_n 1) 1 5 := ⟨by decide +kernel, rfl⟩
theorem dd_Formula_opens_5 : ad_D mm_Formula_opens 5 (.if_icmp .eq 10) 3 8 := ⟨by decide +kernel, rfl⟩
theorem dd_Formula_opens_8 : ad_D mm_Formula_opens 8 (.aload_n 0) 1 9 := ⟨by decide +kernel, rfl⟩
theorem dd_Formula_opens_9 : ad_D mm_Formula_opens 9 (.iconst 1) 1 10 := ⟨by decide +kernel, rfl⟩
theorem dd_Formula_opens_10 : ad_D mm_Formula_opens 10 (.invokevirtual 117) 3 13 := ⟨by decide +kernel, rfl⟩
theorem dd_Formula_opens_13 : ad_D mm_Formula_opens 13 (.iconst 0) 1 14 := ⟨by decide +kernel, rfl⟩
theorem dd_Formula_opens_14 : ad_D mm_Formula_opens 14 (.ireturn) 1 15 := ⟨by decide +kernel, rfl⟩
theorem dd_Formula_opens_15 : ad_D mm_Formula_opens 15 (.iload_n 2) 1 16 := ⟨by decide +kernel, rfl⟩
theorem dd_Formula_opens_16 : ad_D mm_Formula_opens 16 (.bipush 8) 2 18 := ⟨by decide +kernel, rfl⟩
theorem dd_Formula_opens_18 : ad_D mm_Formula_opens 18 (.if_icmp .lt 10) 3 21 := ⟨by decide +kernel, rfl⟩
theorem dd_Formula_opens_21 : ad_D mm_Formula_opens 21 (.aload_n 0) 1 22 := ⟨by decide +kernel, rfl⟩
theorem dd_Formula_opens_22 : ad_D mm_Formula_opens 22 (.iconst 3) 1 23 := ⟨by decide +kernel, rfl⟩
theorem dd_Formula_opens_23 : ad_D mm_Formula_opens 23 (.invokevirtual 117) 3 26 := ⟨by decide +kernel, rfl⟩
theorem dd_Formula_opens_26 : ad_D mm_Formula_opens 26 (.iconst 0) 1 27 := ⟨by decide +kernel, rfl⟩
theorem dd_Formula_opens_27 : ad_D mm_Formula_opens 27 (.ireturn) 1 28 := ⟨by decide +kernel, rfl⟩
theorem dd_Formula_opens_28 : ad_D mm_Formula_opens 28 (.aload_n 0) 1 29 := ⟨by decide +kernel, rfl⟩
theorem dd_Formula_opens_29 : ad_D mm_Formula_opens 29 (.dup) 1 30 := ⟨by decide +kernel, rfl⟩
theorem dd_Formula_opens_30 : ad_D mm_Formula_opens 30 (.getfield 67) 3 33 := ⟨by decide +kernel, rfl⟩
theorem dd_Formula_opens_33 : ad_D mm_Formula_opens 33 (.iconst 1) 1 34 := ⟨by decide +kernel, rfl⟩
theorem dd_Formula_opens_34 : ad_D mm_Formula_opens 34 (.iadd) 1 35 := ⟨by decide +kernel, rfl⟩
theorem dd_Formula_opens_35 : ad_D mm_Formula_opens 35 (.putfield 67) 3 38 := ⟨by decide +kernel, rfl⟩
theorem dd_Formula_opens_38 : ad_D mm_Formula_opens 38 (.iconst 1) 1 39 := ⟨by decide +kernel, rfl⟩
theorem dd_Formula_opens_39 : ad_D mm_Formula_opens 39 (.ireturn) 1 40 := ⟨by decide +kernel, rfl⟩
theorem dd_Formula_bracket_0 : ad_D mm_Formula_bracket 0 (.aload_n 0) 1 1 := ⟨by decide +kernel, rfl⟩
theorem dd_Formula_bracket_1 : ad_D mm_Formula_bracket 1 (.bipush 40) 2 3 := ⟨by decide +kernel, rfl⟩
theorem dd_Formula_bracket_3 : ad_D mm_Formula_bracket 3 (.iload_n 1) 1 4 := ⟨by decide +kernel, rfl⟩
theorem dd_Formula_bracket_4 : ad_D mm_Formula_bracket 4 (.invokevirtual 103) 3 7 := ⟨by decide +kernel, rfl⟩
theorem dd_Formula_bracket_7 : ad_D mm_Formula_bracket 7 (.ifCond .ne 5) 3 10 := ⟨by decide +kernel, rfl⟩
theorem dd_Formula_bracket_10 : ad_D mm_Formula_bracket 10 (.iconst 0) 1 11 := ⟨by decide +kernel, rfl⟩
theorem dd_Formula_bracket_11 : ad_D mm_Formula_bracket 11 (.ireturn) 1 12 := ⟨by decide +kernel, rfl⟩
theorem dd_Formula_bracket_12 : ad_D mm_Formula_bracket 12 (.aload_n 0) 1 13 := ⟨by decide +kernel, rfl⟩
theorem dd_Formula_bracket_13 : ad_D mm_Formula_bracket 13 (.iload_n 1) 1 14 := ⟨by decide +kernel, rfl⟩
theorem dd_Formula_bracket_14 : ad_D mm_Formula_bracket 14 (.iconst 1) 1 15 := ⟨by decide +kernel, rfl⟩
theorem dd_Formula_bracket_15 : ad_D mm_Formula_bracket 15 (.iadd) 1 16 := ⟨by decide +kernel, rfl⟩
theorem dd_Formula_bracket_16 : ad_D mm_Formula_bracket 16 (.invokevirtual 76) 3 19 := ⟨by decide +kernel, rfl⟩
theorem dd_Formula_bracket_19 : ad_D mm_Formula_bracket 19 (.istore_n 2) 1 20 := ⟨by decide +kernel, rfl⟩
theorem dd_Formula_bracket_20 : ad_D mm_Formula_bracket 20 (.aload_n 0) 1 21 := ⟨by decide +kernel, rfl⟩
theorem dd_Formula_bracket_21 : ad_D mm_Formula_bracket 21 (.bipush 41) 2 23 := ⟨by decide +kernel, rfl⟩
theorem dd_Formula_bracket_23 : ad_D mm_Formula_bracket 23 (.invokevirtual 79) 3 26 := ⟨by decide +kernel, rfl⟩
theorem dd_Formula_bracket_26 : ad_D mm_Formula_bracket 26 (.iload_n 2) 1 27 := ⟨by decide +kernel, rfl⟩
theorem dd_Formula_bracket_27 : ad_D mm_Formula_bracket 27 (.ireturn) 1 28 := ⟨by decide +kernel, rfl⟩
theorem dd_Formula_take_0 : ad_D mm_Formula_take 0 (.aload_n 0) 1 1 := ⟨by decide +kernel, rfl⟩
theorem dd_Formula_take_1 : ad_D mm_Formula_take 1 (.invokevirtual 86) 3 4 := ⟨by decide +kernel, rfl⟩
theorem dd_Formula_take_4 : ad_D mm_Formula_take 4 (.iload_n 1) 1 5 := ⟨by decide +kernel, rfl⟩
theorem dd_Formula_take_5 : ad_D mm_Formula_take 5 (.if_icmp .ne 16) 3 8 := ⟨by decide +kernel, rfl⟩
theorem dd_Formula_take_8 : ad_D mm_Formula_take 8 (.aload_n 0) 1 9 := ⟨by decide +kernel, rfl⟩
theorem dd_Formula_take_9 : ad_D mm_Formula_take 9 (.dup) 1 10 := ⟨by decide +kernel, rfl⟩
theorem dd_Formula_take_10 : ad_D mm_Formula_take 10 (.getfield 67) 3 13 := ⟨by decide +kernel, rfl⟩
theorem dd_Formula_take_13 : ad_D mm_Formula_take 13 (.iconst 1) 1 14 := ⟨by decide +kernel, rfl⟩
theorem dd_Formula_take_14 : ad_D mm_Formula_take 14 (.iadd) 1 15 := ⟨by decide +kernel, rfl⟩
theorem dd_Formula_take_15 : ad_D mm_Formula_take 15 (.putfield 67) 3 18 := ⟨by decide +kernel, rfl⟩
theorem dd_Formula_take_18 : ad_D mm_Formula_take 18 (.goto 8) 3 21 := ⟨by decide +kernel, rfl⟩
theorem dd_Formula_take_21 : ad_D mm_Formula_take 21 (.aload_n 0) 1 22 := ⟨by decide +kernel, rfl⟩
theorem dd_Formula_take_22 : ad_D mm_Formula_take 22 (.iconst 1) 1 23 := ⟨by decide +kernel, rfl⟩
theorem dd_Formula_take_23 : ad_D mm_Formula_take 23 (.invokevirtual 117) 3 26 := ⟨by decide +kernel, rfl⟩
theorem dd_Formula_take_26 : ad_D mm_Formula_take 26 (.return_) 1 27 := ⟨by decide +kernel, rfl⟩
theorem dd_Formula_lesserOrGreater_0 : ad_D mm_Formula_lesserOrGreater 0 (.aload_n 0) 1 1 := ⟨by decide +kernel, rfl⟩
theorem dd_Formula_lesserOrGreater_1 : ad_D mm_Formula_lesserOrGreater 1 (.dup) 1 2 := ⟨by decide +kernel, rfl⟩
theorem dd_Formula_lesserOrGreater_2 : ad_D mm_Formula_lesserOrGreater 2 (.getfield 67) 3 5 := ⟨by decide +kernel, rfl⟩
theorem dd_Formula_lesserOrGreater_5 : ad_D mm_Formula_lesserOrGreater 5 (.iconst 1) 1 6 := ⟨by decide +kernel, rfl⟩
theorem dd_Formula_lesserOrGreater_6 : ad_D mm_Formula_lesserOrGreater 6 (.iadd) 1 7 := ⟨by decide +kernel, rfl⟩
theorem dd_Formula_lesserOrGreater_7 : ad_D mm_Formula_lesserOrGreater 7 (.putfield 67) 3 10 := ⟨by decide +kernel, rfl⟩
theorem dd_Formula_lesserOrGreater_10 : ad_D mm_Formula_lesserOrGreater 10 (.aload_n 0) 1 11 := ⟨by decide +kernel, rfl⟩
theorem dd_Formula_lesserOrGreater_11 : ad_D mm_Formula_lesserOrGreater 11 (.bipush 40) 2 13 := ⟨by decide +kernel, rfl⟩
theorem dd_Formula_lesserOrGreater_13 : ad_D mm_Formula_lesserOrGreater 13 (.iload_n 2) 1 14 := ⟨by decide +kernel, rfl⟩
theorem dd_Formula_lesserOrGreater_14 : ad_D mm_Formula_lesserOrGreater 14 (.invokevirtual 103) 3 17 := ⟨by decide +kernel, rfl⟩
theorem dd_Formula_lesserOrGreater_17 : ad_D mm_Formula_lesserOrGreater 17 (.ifCond .ne 5) 3 20 := ⟨by decide +kernel, rfl⟩
theorem dd_Formula_lesserOrGreater_20 : ad_D mm_Formula_lesserOrGreater 20 (.iconst 0) 1 21 := ⟨by decide +kernel, rfl⟩
theorem dd_Formula_lesserOrGreater_21 : ad_D mm_Formula_lesserOrGreater 21 (.ireturn) 1 22 := ⟨by decide +kernel, rfl⟩
theorem dd_Formula_lesserOrGreater_22 : ad_D mm_Formula_lesserOrGreater 22 (.aload_n 0) 1 23 := ⟨by decide +kernel, rfl⟩
theorem dd_Formula_lesserOrGreater_23 : ad_D mm_Formula_lesserOrGreater 23 (.iload_n 2) 1 24 := ⟨by decide +kernel, rfl⟩
theorem dd_Formula_lesserOrGreater_24 : ad_D mm_Formula_lesserOrGreater 24 (.iconst 1) 1 25 := ⟨by decide +kernel, rfl⟩
theorem dd_Formula_lesserOrGreater_25 : ad_D mm_Formula_lesserOrGreater 25 (.iadd) 1 26 := ⟨by decide +kernel, rfl⟩
theorem dd_Formula_lesserOrGreater_26 : ad_D mm_Formula_lesserOrGreater 26 (.invokevirtual 76) 3 29 := ⟨by decide +kernel, rfl⟩
theorem dd_Formula_lesserOrGreater_29 : ad_D mm_Formula_lesserOrGreater 29 (.istore_n 3) 1 30 := ⟨by decide +kernel, rfl⟩
theorem dd_Formula_lesserOrGreater_30 : ad_D mm_Formula_lesserOrGreater 30 (.aload_n 0) 1 31 := ⟨by decide +kernel, rfl⟩
theorem dd_Formula_lesserOrGreater_31 : ad_D mm_Formula_lesserOrGreater 31 (.bipush 44) 2 33 := ⟨by decide +kernel, rfl⟩
theorem dd_Formula_lesserOrGreater_33 : ad_D mm_Formula_lesserOrGreater 33 (.invokevirtual 79) 3 36 := ⟨by decide +kernel, rfl⟩
theorem dd_Formula_lesserOrGreater_36 : ad_D mm_Formula_lesserOrGreater 36 (.aload_n 0) 1 37 := ⟨by decide +kernel, rfl⟩
theorem dd_Formula_lesserOrGreater_37 : ad_D mm_Formula_lesserOrGreater 37 (.iload_n 2) 1 38 := ⟨by decide +kernel, rfl⟩
theorem dd_Formula_lesserOrGreater_38 : ad_D mm_Formula_lesserOrGreater 38 (.iconst 1) 1 39 := ⟨by decide +kernel, rfl⟩
theorem dd_Formula_lesserOrGreater_39 : ad_D mm_Formula_lesserOrGreater 39 (.iadd) 1 40 := ⟨by decide +kernel, rfl⟩
theorem dd_Formula_lesserOrGreater_40 : ad_D mm_Formula_lesserOrGreater 40 (.invokevirtual 76) 3 43 := ⟨by decide +kernel, rfl⟩
theorem dd_Formula_lesserOrGreater_43 : ad_D mm_Formula_lesserOrGreater 43 (.istore 4) 2 45 := ⟨by decide +kernel, rfl⟩
theorem dd_Formula_lesserOrGreater_45 : ad_D mm_Formula_lesserOrGreater 45 (.aload_n 0) 1 46 := ⟨by decide +kernel, rfl⟩
theorem dd_Formula_lesserOrGreater_46 : ad_D mm_Formula_lesserOrGreater 46 (.bipush 41) 2 48 := ⟨by decide +kernel, rfl⟩
theorem dd_Formula_lesserOrGreater_48 : ad_D mm_Formula_lesserOrGreater 48 (.invokevirtual 79) 3 51 := ⟨by decide +kernel, rfl⟩
theorem dd_Formula_lesserOrGreater_51 : ad_D mm_Formula_lesserOrGreater 51 (.iload_n 1) 1 52 := ⟨by decide +kernel, rfl⟩
theorem dd_Formula_lesserOrGreater_52 : ad_D mm_Formula_lesserOrGreater 52 (.ifCond .eq 12) 3 55 := ⟨by decide +kernel, rfl⟩
theorem dd_Formula_lesserOrGreater_55 : ad_D mm_Formula_lesserOrGreater 55 (.iload_n 3) 1 56 := ⟨by decide +kernel, rfl⟩
theorem dd_Formula_lesserOrGreater_56 : ad_D mm_Formula_lesserOrGreater 56 (.iload 4) 2 58 := ⟨by decide +kernel, rfl⟩
theorem dd_Formula_lesserOrGreater_58 : ad_D mm_Formula_lesserOrGreater 58 (.invokestatic 24) 3 61 := ⟨by decide +kernel, rfl⟩
theorem dd_Formula_lesserOrGreater_61 : ad_D mm_Formula_lesserOrGreater 61 (.goto 9) 3 64 := ⟨by decide +kernel, rfl⟩
theorem dd_Formula_lesserOrGreater_64 : ad_D mm_Formula_lesserOrGreater 64 (.iload_n 3) 1 65 := ⟨by decide +kernel, rfl⟩
theorem dd_Formula_lesserOrGreater_65 : ad_D mm_Formula_lesserOrGreater 65 (.iload 4) 2 67 := ⟨by decide +kernel, rfl⟩
theorem dd_Formula_lesserOrGreater_67 : ad_D mm_Formula_lesserOrGreater 67 (.invokestatic 49) 3 70 := ⟨by decide +kernel, rfl⟩
theorem dd_Formula_lesserOrGreater_70 : ad_D mm_Formula_lesserOrGreater 70 (.ireturn) 1 71 := ⟨by decide +kernel, rfl⟩
theorem dd_Formula_letter_0 : ad_D mm_Formula_letter 0 (.iconst 0) 1 1 := ⟨by decide +kernel, rfl⟩
theorem dd_Formula_letter_1 : ad_D mm_Formula_letter 1 (.istore_n 2) 1 2 := ⟨by decide +kernel, rfl⟩
theorem dd_Formula_letter_2 : ad_D mm_Formula_letter 2 (.iload_n 1) 1 3 := ⟨by decide +kernel, rfl⟩
theorem dd_Formula_letter_3 : ad_D mm_Formula_letter 3 (.lookupswitch 89 #[(98, 73), (104, 81), (109, 65), (115, 57), (116, 49)]) 49 52 := ⟨by decide +kernel, rfl⟩
theorem dd_Formula_letter_52 : ad_D mm_Formula_letter 52 (.aload_n 0) 1 53 := ⟨by decide +kernel, rfl⟩
theorem dd_Formula_letter_53 : ad_D mm_Formula_letter 53 (.getfield 52) 3 56 := ⟨by decide +kernel, rfl⟩
theorem dd_Formula_letter_56 : ad_D mm_Formula_letter 56 (.istore_n 2) 1 57 := ⟨by decide +kernel, rfl⟩
theorem dd_Formula_letter_57 : ad_D mm_Formula_letter 57 (.goto 42) 3 60 := ⟨by decide +kernel, rfl⟩
theorem dd_Formula_letter_60 : ad_D mm_Formula_letter 60 (.aload_n 0) 1 61 := ⟨by decide +kernel, rfl⟩
theorem dd_Formula_letter_61 : ad_D mm_Formula_letter 61 (.getfield 55) 3 64 := ⟨by decide +kernel, rfl⟩
theorem dd_Formula_letter_64 : ad_D mm_Formula_letter 64 (.istore_n 2) 1 65 := ⟨by decide +kernel, rfl⟩
theorem dd_Formula_letter_65 : ad_D mm_Formula_letter 65 (.goto 34) 3 68 := ⟨by decide +kernel, rfl⟩
theorem dd_Formula_letter_68 : ad_D mm_Formula_letter 68 (.aload_n 0) 1 69 := ⟨by decide +kernel, rfl⟩
theorem dd_Formula_letter_69 : ad_D mm_Formula_letter 69 (.getfield 58) 3 72 := ⟨by decide +kernel, rfl⟩
theorem dd_Formula_letter_72 : ad_D mm_Formula_letter 72 (.istore_n 2) 1 73 := ⟨by decide +kernel, rfl⟩
theorem dd_Formula_letter_73 : ad_D mm_Formula_letter 73 (.goto 26) 3 76 := ⟨by decide +kernel, rfl⟩
theorem dd_Formula_letter_76 : ad_D mm_Formula_letter 76 (.aload_n 0) 1 77 := ⟨by decide +kernel, rfl⟩
theorem dd_Formula_letter_77 : ad_D mm_Formula_letter 77 (.getfield 61) 3 80 := ⟨by decide +kernel, rfl⟩
theorem dd_Formula_letter_80 : ad_D mm_Formula_letter 80 (.istore_n 2) 1 81 := ⟨by decide +kernel, rfl⟩
theorem dd_Formula_letter_81 : ad_D mm_Formula_letter 81 (.goto 18) 3 84 := ⟨by decide +kernel, rfl⟩
theorem dd_Formula_letter_84 : ad_D mm_Formula_letter 84 (.aload_n 0) 1 85 := ⟨by decide +kernel, rfl⟩
theorem dd_Formula_letter_85 : ad_D mm_Formula_letter 85 (.getfield 64) 3 88 := ⟨by decide +kernel, rfl⟩
theorem dd_Formula_letter_88 : ad_D mm_Formula_letter 88 (.istore_n 2) 1 89 := ⟨by decide +kernel, rfl⟩
theorem dd_Formula_letter_89 : ad_D mm_Formula_letter 89 (.goto 10) 3 92 := ⟨by decide +kernel, rfl⟩
theorem dd_Formula_letter_92 : ad_D mm_Formula_letter 92 (.aload_n 0) 1 93 := ⟨by decide +kernel, rfl⟩
theorem dd_Formula_letter_93 : ad_D mm_Formula_letter 93 (.iconst 1) 1 94 := ⟨by decide +kernel, rfl⟩
theorem dd_Formula_letter_94 : ad_D mm_Formula_letter 94 (.invokevirtual 117) 3 97 := ⟨by decide +kernel, rfl⟩
theorem dd_Formula_letter_97 : ad_D mm_Formula_letter 97 (.iconst 0) 1 98 := ⟨by decide +kernel, rfl⟩
theorem dd_Formula_letter_98 : ad_D mm_Formula_letter 98 (.ireturn) 1 99 := ⟨by decide +kernel, rfl⟩
theorem dd_Formula_letter_99 : ad_D mm_Formula_letter 99 (.aload_n 0) 1 100 := ⟨by decide +kernel, rfl⟩
theorem dd_Formula_letter_100 : ad_D mm_Formula_letter 100 (.dup) 1 101 := ⟨by decide +kernel, rfl⟩
theorem dd_Formula_letter_101 : ad_D mm_Formula_letter 101 (.getfield 67) 3 104 := ⟨by decide +kernel, rfl⟩
theorem dd_Formula_letter_104 : ad_D mm_Formula_letter 104 (.iconst 1) 1 105 := ⟨by decide +kernel, rfl⟩
theorem dd_Formula_letter_105 : ad_D mm_Formula_letter 105 (.iadd) 1 106 := ⟨by decide +kernel, rfl⟩
theorem dd_Formula_letter_106 : ad_D mm_Formula_letter 106 (.putfield 67) 3 109 := ⟨by decide +kernel, rfl⟩
theorem dd_Formula_letter_109 : ad_D mm_Formula_letter 109 (.iload_n 2) 1 110 := ⟨by decide +kernel, rfl⟩
theorem dd_Formula_letter_110 : ad_D mm_Formula_letter 110 (.ireturn) 1 111 := ⟨by decide +kernel, rfl⟩
theorem dd_Formula_limit_0 : ad_D mm_Formula_limit 0 (.ldc2_w 120) 3 3 := ⟨by decide +kernel, rfl⟩
theorem dd_Formula_limit_3 : ad_D mm_Formula_limit 3 (.ldc2_w 122) 3 6 := ⟨by decide +kernel, rfl⟩
theorem dd_Formula_limit_6 : ad_D mm_Formula_limit 6 (.lload_n 0) 1 7 := ⟨by decide +kernel, rfl⟩
theorem dd_Formula_limit_7 : ad_D mm_Formula_limit 7 (.invokestatic 124) 3 10 := ⟨by decide +kernel, rfl⟩
theorem dd_Formula_limit_10 : ad_D mm_Formula_limit 10 (.invokestatic 127) 3 13 := ⟨by decide +kernel, rfl⟩
theorem dd_Formula_limit_13 : ad_D mm_Formula_limit 13 (.l2i) 1 14 := ⟨by decide +kernel, rfl⟩
theorem dd_Formula_limit_14 : ad_D mm_Formula_limit 14 (.ireturn) 1 15 := ⟨by decide +kernel, rfl⟩
theorem dd_Farms_give_0 : ad_D mm_Farms_give 0 (.iload_n 1) 1 1 := ⟨by decide +kernel, rfl⟩
theorem dd_Farms_give_1 : ad_D mm_Farms_give 1 (.iconst 0) 1 2 := ⟨by decide +kernel, rfl⟩
theorem dd_Farms_give_2 : ad_D mm_Farms_give 2 (.aload_n 0) 1 3 := ⟨by decide +kernel, rfl⟩
theorem dd_Farms_give_3 : ad_D mm_Farms_give 3 (.getfield 19) 3 6 := ⟨by decide +kernel, rfl⟩
theorem dd_Farms_give_6 : ad_D mm_Farms_give 6 (.iconst 1) 1 7 := ⟨by decide +kernel, rfl⟩
theorem dd_Farms_give_7 : ad_D mm_Farms_give 7 (.isub) 1 8 := ⟨by decide +kernel, rfl⟩
theorem dd_Farms_give_8 : ad_D mm_Farms_give 8 (.invokestatic 30) 3 11 := ⟨by decide +kernel, rfl⟩
theorem dd_Farms_give_11 : ad_D mm_Farms_give 11 (.ifCond .eq 14) 3 14 := ⟨by decide +kernel, rfl⟩
theorem dd_Farms_give_14 : ad_D mm_Farms_give 14 (.aload_n 0) 1 15 := ⟨by decide +kernel, rfl⟩
theorem dd_Farms_give_15 : ad_D mm_Farms_give 15 (.getfield 11) 3 18 := ⟨by decide +kernel, rfl⟩
theorem dd_Farms_give_18 : ad_D mm_Farms_give 18 (.iload_n 1) 1 19 := ⟨by decide +kernel, rfl⟩
theorem dd_Farms_give_19 : ad_D mm_Farms_give 19 (.dup2) 1 20 := ⟨by decide +kernel, rfl⟩
theorem dd_Farms_give_20 : ad_D mm_Farms_give 20 (.laload) 1 21 := ⟨by decide +kernel, rfl⟩
theorem dd_Farms_give_21 : ad_D mm_Farms_give 21 (.iload_n 2) 1 22 := ⟨by decide +kernel, rfl⟩
theorem dd_Farms_give_22 : ad_D mm_Farms_give 22 (.i2l) 1 23 := ⟨by decide +kernel, rfl⟩
theorem dd_Farms_give_23 : ad_D mm_Farms_give 23 (.ladd) 1 24 := ⟨by decide +kernel, rfl⟩
theorem dd_Farms_give_24 : ad_D mm_Farms_give 24 (.lastore) 1 25 := ⟨by decide +kernel, rfl⟩
theorem dd_Farms_give_25 : ad_D mm_Farms_give 25 (.return_) 1 26 := ⟨by decide +kernel, rfl⟩
theorem dd_X_feed_0 : ad_D mm_X_feed 0 (.aload_n 0) 1 1 := ⟨by decide +kernel, rfl⟩
theorem dd_X_feed_1 : ad_D mm_X_feed 1 (.getfield 56) 3 4 := ⟨by decide +kernel, rfl⟩
theorem dd_X_feed_4 : ad_D mm_X_feed 4 (.getfield 145) 3 7 := ⟨by decide +kernel, rfl⟩
theorem dd_X_feed_7 : ad_D mm_X_feed 7 (.bipush 80) 2 9 := ⟨by decide +kernel, rfl⟩
theorem dd_X_feed_9 : ad_D mm_X_feed 9 (.if_icmp .le 5) 3 12 := ⟨by decide +kernel, rfl⟩
theorem dd_X_feed_12 : ad_D mm_X_feed 12 (.iconst (-1)) 1 13 := ⟨by decide +kernel, rfl⟩
theorem dd_X_feed_13 : ad_D mm_X_feed 13 (.ireturn) 1 14 := ⟨by decide +kernel, rfl⟩
theorem dd_X_feed_14 : ad_D mm_X_feed 14 (.aload_n 0) 1 15 := ⟨by decide +kernel, rfl⟩
theorem dd_X_feed_15 : ad_D mm_X_feed 15 (.getfield 56) 3 18 := ⟨by decide +kernel, rfl⟩
theorem dd_X_feed_18 : ad_D mm_X_feed 18 (.iload_n 1) 1 19 := ⟨by decide +kernel, rfl⟩
theorem dd_X_feed_19 : ad_D mm_X_feed 19 (.invokevirtual 148) 3 22 := ⟨by decide +kernel, rfl⟩
theorem dd_X_feed_22 : ad_D mm_X_feed 22 (.aload_n 0) 1 23 := ⟨by decide +kernel, rfl⟩
theorem dd_X_feed_23 : ad_D mm_X_feed 23 (.getfield 56) 3 26 := ⟨by decide +kernel, rfl⟩
theorem dd_X_feed_26 : ad_D mm_X_feed 26 (.iload_n 2) 1 27 := ⟨by decide +kernel, rfl⟩
theorem dd_X_feed_27 : ad_D mm_X_feed 27 (.invokevirtual 148) 3 30 := ⟨by decide +kernel, rfl⟩
theorem dd_X_feed_30 : ad_D mm_X_feed 30 (.aload_n 0) 1 31 := ⟨by decide +kernel, rfl⟩
theorem dd_X_feed_31 : ad_D mm_X_feed 31 (.getfield 56) 3 34 := ⟨by decide +kernel, rfl⟩
theorem dd_X_feed_34 : ad_D mm_X_feed 34 (.iload_n 3) 1 35 := ⟨by decide +kernel, rfl⟩
theorem dd_X_feed_35 : ad_D mm_X_feed 35 (.invokevirtual 148) 3 38 := ⟨by decide +kernel, rfl⟩
theorem dd_X_feed_38 : ad_D mm_X_feed 38 (.aload_n 0) 1 39 := ⟨by decide +kernel, rfl⟩
theorem dd_X_feed_39 : ad_D mm_X_feed 39 (.getfield 56) 3 42 := ⟨by decide +kernel, rfl⟩
theorem dd_X_feed_42 : ad_D mm_X_feed 42 (.iload 4) 2 44 := ⟨by decide +kernel, rfl⟩
theorem dd_X_feed_44 : ad_D mm_X_feed 44 (.invokevirtual 148) 3 47 := ⟨by decide +kernel, rfl⟩
theorem dd_X_feed_47 : ad_D mm_X_feed 47 (.aload_n 0) 1 48 := ⟨by decide +kernel, rfl⟩
theorem dd_X_feed_48 : ad_D mm_X_feed 48 (.getfield 56) 3 51 := ⟨by decide +kernel, rfl⟩
theorem dd_X_feed_51 : ad_D mm_X_feed 51 (.iload 5) 2 53 := ⟨by decide +kernel, rfl⟩
theorem dd_X_feed_53 : ad_D mm_X_feed 53 (.invokevirtual 148) 3 56 := ⟨by decide +kernel, rfl⟩
theorem dd_X_feed_56 : ad_D mm_X_feed 56 (.aload_n 0) 1 57 := ⟨by decide +kernel, rfl⟩
theorem dd_X_feed_57 : ad_D mm_X_feed 57 (.getfield 56) 3 60 := ⟨by decide +kernel, rfl⟩
theorem dd_X_feed_60 : ad_D mm_X_feed 60 (.getfield 145) 3 63 := ⟨by decide +kernel, rfl⟩
theorem dd_X_feed_63 : ad_D mm_X_feed 63 (.ireturn) 1 64 := ⟨by decide +kernel, rfl⟩
theorem dd_Tape_append_0 : ad_D mm_Tape_append 0 (.bipush 24) 2 2 := ⟨by decide +kernel, rfl⟩
theorem dd_Tape_append_2 : ad_D mm_Tape_append 2 (.istore_n 2) 1 3 := ⟨by decide +kernel, rfl⟩
theorem dd_Tape_append_3 : ad_D mm_Tape_append 3 (.iload_n 2) 1 4 := ⟨by decide +kernel, rfl⟩
theorem dd_Tape_append_4 : ad_D mm_Tape_append 4 (.ifCond .lt 41) 3 7 := ⟨by decide +kernel, rfl⟩
theorem dd_Tape_append_7 : ad_D mm_Tape_append 7 (.aload_n 0) 1 8 := ⟨by decide +kernel, rfl⟩
theorem dd_Tape_append_8 : ad_D mm_Tape_append 8 (.getfield 13) 3 11 := ⟨by decide +kernel, rfl⟩
theorem dd_Tape_append_11 : ad_D mm_Tape_append 11 (.bipush 100) 2 13 := ⟨by decide +kernel, rfl⟩
theorem dd_Tape_append_13 : ad_D mm_Tape_append 13 (.if_icmp .ge 32) 3 16 := ⟨by decide +kernel, rfl⟩
theorem dd_Tape_append_16 : ad_D mm_Tape_append 16 (.aload_n 0) 1 17 := ⟨by decide +kernel, rfl⟩
theorem dd_Tape_append_17 : ad_D mm_Tape_append 17 (.getfield 9) 3 20 := ⟨by decide +kernel, rfl⟩
theorem dd_Tape_append_20 : ad_D mm_Tape_append 20 (.aload_n 0) 1 21 := ⟨by decide +kernel, rfl⟩
theorem dd_Tape_append_21 : ad_D mm_Tape_append 21 (.getfield 13) 3 24 := ⟨by decide +kernel, rfl⟩
theorem dd_Tape_append_24 : ad_D mm_Tape_append 24 (.iload_n 1) 1 25 := ⟨by decide +kernel, rfl⟩
theorem dd_Tape_append_25 : ad_D mm_Tape_append 25 (.iload_n 2) 1 26 := ⟨by decide +kernel, rfl⟩
theorem dd_Tape_append_26 : ad_D mm_Tape_append 26 (.ishr) 1 27 := ⟨by decide +kernel, rfl⟩
theorem dd_Tape_append_27 : ad_D mm_Tape_append 27 (.i2b) 1 28 := ⟨by decide +kernel, rfl⟩
theorem dd_Tape_append_28 : ad_D mm_Tape_append 28 (.bastore) 1 29 := ⟨by decide +kernel, rfl⟩
theorem dd_Tape_append_29 : ad_D mm_Tape_append 29 (.aload_n 0) 1 30 := ⟨by decide +kernel, rfl⟩
theorem dd_Tape_append_30 : ad_D mm_Tape_append 30 (.dup) 1 31 := ⟨by decide +kernel, rfl⟩
theorem dd_Tape_append_31 : ad_D mm_Tape_append 31 (.getfield 13) 3 34 := ⟨by decide +kernel, rfl⟩
theorem dd_Tape_append_34 : ad_D mm_Tape_append 34 (.iconst 1) 1 35 := ⟨by decide +kernel, rfl⟩
theorem dd_Tape_append_35 : ad_D mm_Tape_append 35 (.iadd) 1 36 := ⟨by decide +kernel, rfl⟩
theorem dd_Tape_append_36 : ad_D mm_Tape_append 36 (.putfield 13) 3 39 := ⟨by decide +kernel, rfl⟩
theorem dd_Tape_append_39 : ad_D mm_Tape_append 39 (.iinc 2 (-8)) 3 42 := ⟨by decide +kernel, rfl⟩
theorem dd_Tape_append_42 : ad_D mm_Tape_append 42 (.goto (-39)) 3 45 := ⟨by decide +kernel, rfl⟩
theorem dd_Tape_append_45 : ad_D mm_Tape_append 45 (.return_) 1 46 := ⟨by decide +kernel, rfl⟩
theorem dd_X_end_0 : ad_D mm_X_end 0 (.iload_n 1) 1 1 := ⟨by decide +kernel, rfl⟩
theorem dd_X_end_1 : ad_D mm_X_end 1 (.iconst 0) 1 2 := ⟨by decide +kernel, rfl⟩
theorem dd_X_end_2 : ad_D mm_X_end 2 (.aload_n 0) 1 3 := ⟨by decide +kernel, rfl⟩
theorem dd_X_end_3 : ad_D mm_X_end 3 (.getfield 56) 3 6 := ⟨by decide +kernel, rfl⟩
theorem dd_X_end_6 : ad_D mm_X_end 6 (.getfield 145) 3 9 := ⟨by decide +kernel, rfl⟩
theorem dd_X_end_9 : ad_D mm_X_end 9 (.invokestatic 76) 3 12 := ⟨by decide +kernel, rfl⟩
theorem dd_X_end_12 : ad_D mm_X_end 12 (.ifCond .ne 5) 3 15 := ⟨by decide +kernel, rfl⟩
theorem dd_X_end_15 : ad_D mm_X_end 15 (.iconst (-1)) 1 16 := ⟨by decide +kernel, rfl⟩
theorem dd_X_end_16 : ad_D mm_X_end 16 (.ireturn) 1 17 := ⟨by decide +kernel, rfl⟩
theorem dd_X_end_17 : ad_D mm_X_end 17 (.aload_n 0) 1 18 := ⟨by decide +kernel, rfl⟩
theorem dd_X_end_18 : ad_D mm_X_end 18 (.getfield 56) 3 21 := ⟨by decide +kernel, rfl⟩
theorem dd_X_end_21 : ad_D mm_X_end 21 (.iload_n 1) 1 22 := ⟨by decide +kernel, rfl⟩
theorem dd_X_end_22 : ad_D mm_X_end 22 (.putfield 145) 3 25 := ⟨by decide +kernel, rfl⟩
theorem dd_X_end_25 : ad_D mm_X_end 25 (.iload_n 1) 1 26 := ⟨by decide +kernel, rfl⟩
theorem dd_X_end_26 : ad_D mm_X_end 26 (.ireturn) 1 27 := ⟨by decide +kernel, rfl⟩
theorem dd_X_text_0 : ad_D mm_X_text 0 (.aload_n 0) 1 1 := ⟨by decide +kernel, rfl⟩
theorem dd_X_text_1 : ad_D mm_X_text 1 (.getfield 67) 3 4 := ⟨by decide +kernel, rfl⟩
theorem dd_X_text_4 : ad_D mm_X_text 4 (.aload_n 0) 1 5 := ⟨by decide +kernel, rfl⟩
theorem dd_X_text_5 : ad_D mm_X_text 5 (.getfield 56) 3 8 := ⟨by decide +kernel, rfl⟩
theorem dd_X_text_8 : ad_D mm_X_text 8 (.getfield 151) 3 11 := ⟨by decide +kernel, rfl⟩
theorem dd_X_text_11 : ad_D mm_X_text 11 (.aload_n 0) 1 12 := ⟨by decide +kernel, rfl⟩
theorem dd_X_text_12 : ad_D mm_X_text 12 (.getfield 56) 3 15 := ⟨by decide +kernel, rfl⟩
theorem dd_X_text_15 : ad_D mm_X_text 15 (.getfield 145) 3 18 := ⟨by decide +kernel, rfl⟩
theorem dd_X_text_18 : ad_D mm_X_text 18 (.invokevirtual 155) 3 21 := ⟨by decide +kernel, rfl⟩
theorem dd_X_text_21 : ad_D mm_X_text 21 (.aload_n 0) 1 22 := ⟨by decide +kernel, rfl⟩
theorem dd_X_text_22 : ad_D mm_X_text 22 (.getfield 67) 3 25 := ⟨by decide +kernel, rfl⟩
theorem dd_X_text_25 : ad_D mm_X_text 25 (.iconst 0) 1 26 := ⟨by decide +kernel, rfl⟩
theorem dd_X_text_26 : ad_D mm_X_text 26 (.iconst 0) 1 27 := ⟨by decide +kernel, rfl⟩
theorem dd_X_text_27 : ad_D mm_X_text 27 (.iconst 0) 1 28 := ⟨by decide +kernel, rfl⟩
theorem dd_X_text_28 : ad_D mm_X_text 28 (.iconst 0) 1 29 := ⟨by decide +kernel, rfl⟩
theorem dd_X_text_29 : ad_D mm_X_text 29 (.iconst 0) 1 30 := ⟨by decide +kernel, rfl⟩
theorem dd_X_text_30 : ad_D mm_X_text 30 (.invokevirtual 159) 3 33 := ⟨by decide +kernel, rfl⟩
theorem dd_X_text_33 : ad_D mm_X_text 33 (.pop) 1 34 := ⟨by decide +kernel, rfl⟩
theorem dd_X_text_34 : ad_D mm_X_text 34 (.aload_n 0) 1 35 := ⟨by decide +kernel, rfl⟩
theorem dd_X_text_35 : ad_D mm_X_text 35 (.getfield 56) 3 38 := ⟨by decide +kernel, rfl⟩
theorem dd_X_text_38 : ad_D mm_X_text 38 (.iconst 0) 1 39 := ⟨by decide +kernel, rfl⟩
theorem dd_X_text_39 : ad_D mm_X_text 39 (.putfield 145) 3 42 := ⟨by decide +kernel, rfl⟩
theorem dd_X_text_42 : ad_D mm_X_text 42 (.aload_n 0) 1 43 := ⟨by decide +kernel, rfl⟩
theorem dd_X_text_43 : ad_D mm_X_text 43 (.aload_n 0) 1 44 := ⟨by decide +kernel, rfl⟩
theorem dd_X_text_44 : ad_D mm_X_text 44 (.getfield 67) 3 47 := ⟨by decide +kernel, rfl⟩
theorem dd_X_text_47 : ad_D mm_X_text 47 (.getfield 163) 3 50 := ⟨by decide +kernel, rfl⟩
theorem dd_X_text_50 : ad_D mm_X_text 50 (.putfield 70) 3 53 := ⟨by decide +kernel, rfl⟩
theorem dd_X_text_53 : ad_D mm_X_text 53 (.aload_n 0) 1 54 := ⟨by decide +kernel, rfl⟩
theorem dd_X_text_54 : ad_D mm_X_text 54 (.aload_n 0) 1 55 := ⟨by decide +kernel, rfl⟩
theorem dd_X_text_55 : ad_D mm_X_text 55 (.getfield 67) 3 58 := ⟨by decide +kernel, rfl⟩
theorem dd_X_text_58 : ad_D mm_X_text 58 (.getfield 166) 3 61 := ⟨by decide +kernel, rfl⟩
theorem dd_X_text_61 : ad_D mm_X_text 61 (.putfield 73) 3 64 := ⟨by decide +kernel, rfl⟩
theorem dd_X_text_64 : ad_D mm_X_text 64 (.aload_n 0) 1 65 := ⟨by decide +kernel, rfl⟩
theorem dd_X_text_65 : ad_D mm_X_text 65 (.getfield 70) 3 68 := ⟨by decide +kernel, rfl⟩
theorem dd_X_text_68 : ad_D mm_X_text 68 (.ifCond .eq 5) 3 71 := ⟨by decide +kernel, rfl⟩
theorem dd_X_text_71 : ad_D mm_X_text 71 (.iconst 0) 1 72 := ⟨by decide +kernel, rfl⟩
theorem dd_X_text_72 : ad_D mm_X_text 72 (.ireturn) 1 73 := ⟨by decide +kernel, rfl⟩
theorem dd_X_text_73 : ad_D mm_X_text 73 (.aload_n 0) 1 74 := ⟨by decide +kernel, rfl⟩
theorem dd_X_text_74 : ad_D mm_X_text 74 (.getfield 63) 3 77 := ⟨by decide +kernel, rfl⟩
theorem dd_X_text_77 : ad_D mm_X_text 77 (.astore_n 1) 1 78 := ⟨by decide +kernel, rfl⟩
theorem dd_X_text_78 : ad_D mm_X_text 78 (.aload_n 0) 1 79 := ⟨by decide +kernel, rfl⟩
theorem dd_X_text_79 : ad_D mm_X_text 79 (.aload_n 0) 1 80 := ⟨by decide +kernel, rfl⟩
theorem dd_X_text_80 : ad_D mm_X_text 80 (.getfield 67) 3 83 := ⟨by decide +kernel, rfl⟩
theorem dd_X_text_83 : ad_D mm_X_text 83 (.putfield 63) 3 86 := ⟨by decide +kernel, rfl⟩
theorem dd_X_text_86 : ad_D mm_X_text 86 (.aload_n 0) 1 87 := ⟨by decide +kernel, rfl⟩
theorem dd_X_text_87 : ad_D mm_X_text 87 (.aload_n 1) 1 88 := ⟨by decide +kernel, rfl⟩
theorem dd_X_text_88 : ad_D mm_X_text 88 (.putfield 67) 3 91 := ⟨by decide +kernel, rfl⟩
theorem dd_X_text_91 : ad_D mm_X_text 91 (.iconst 1) 1 92 := ⟨by decide +kernel, rfl⟩
theorem dd_X_text_92 : ad_D mm_X_text 92 (.ireturn) 1 93 := ⟨by decide +kernel, rfl⟩
theorem dd_Formula_split_0 : ad_D mm_Formula_split 0 (.aload_n 0) 1 1 := ⟨by decide +kernel, rfl⟩
theorem dd_Formula_split_1 : ad_D mm_Formula_split 1 (.iconst 0) 1 2 := ⟨by decide +kernel, rfl⟩
theorem dd_Formula_split_2 : ad_D mm_Formula_split 2 (.putfield 20) 3 5 := ⟨by decide +kernel, rfl⟩
theorem dd_Formula_split_5 : ad_D mm_Formula_split 5 (.iload_n 2) 1 6 := ⟨by decide +kernel, rfl⟩
theorem dd_Formula_split_6 : ad_D mm_Formula_split 6 (.aload_n 1) 1 7 := ⟨by decide +kernel, rfl⟩
theorem dd_Formula_split_7 : ad_D mm_Formula_split 7 (.arraylength) 1 8 := ⟨by decide +kernel, rfl⟩
theorem dd_Formula_split_8 : ad_D mm_Formula_split 8 (.invokestatic 24) 3 11 := ⟨by decide +kernel, rfl⟩
theorem dd_Formula_split_11 : ad_D mm_Formula_split 11 (.istore_n 3) 1 12 := ⟨by decide +kernel, rfl⟩
theorem dd_Formula_split_12 : ad_D mm_Formula_split 12 (.iconst 0) 1 13 := ⟨by decide +kernel, rfl⟩
theorem dd_Formula_split_13 : ad_D mm_Formula_split 13 (.istore 4) 2 15 := ⟨by decide +kernel, rfl⟩
theorem dd_Formula_split_15 : ad_D mm_Formula_split 15 (.iload 4) 2 17 := ⟨by decide +kernel, rfl⟩
theorem dd_Formula_split_17 : ad_D mm_Formula_split 17 (.iload_n 3) 1 18 := ⟨by decide +kernel, rfl⟩
theorem dd_Formula_split_18 : ad_D mm_Formula_split 18 (.if_icmp .ge 139) 3 21 := ⟨by decide +kernel, rfl⟩
theorem dd_Formula_split_21 : ad_D mm_Formula_split 21 (.iload 4) 2 23 := ⟨by decide +kernel, rfl⟩
theorem dd_Formula_split_23 : ad_D mm_Formula_split 23 (.istore 5) 2 25 := ⟨by decide +kernel, rfl⟩
theorem dd_Formula_split_25 : ad_D mm_Formula_split 25 (.aload_n 1) 1 26 := ⟨by decide +kernel, rfl⟩
theorem dd_Formula_split_26 : ad_D mm_Formula_split 26 (.iload 5) 2 28 := ⟨by decide +kernel, rfl⟩
theorem dd_Formula_split_28 : ad_D mm_Formula_split 28 (.baload) 1 29 := ⟨by decide +kernel, rfl⟩
theorem dd_Formula_split_29 : ad_D mm_Formula_split 29 (.invokestatic 30) 3 32 := ⟨by decide +kernel, rfl⟩
theorem dd_Formula_split_32 : ad_D mm_Formula_split 32 (.istore 6) 2 34 := ⟨by decide +kernel, rfl⟩
theorem dd_Formula_split_34 : ad_D mm_Formula_split 34 (.iload 6) 2 36 := ⟨by decide +kernel, rfl⟩
theorem dd_Formula_split_36 : ad_D mm_Formula_split 36 (.bipush 97) 2 38 := ⟨by decide +kernel, rfl⟩
theorem dd_Formula_split_38 : ad_D mm_Formula_split 38 (.if_icmp .eq 10) 3 41 := ⟨by decide +kernel, rfl⟩
theorem dd_Formula_split_41 : ad_D mm_Formula_split 41 (.iload 6) 2 43 := ⟨by decide +kernel, rfl⟩
theorem dd_Formula_split_43 : ad_D mm_Formula_split 43 (.bipush 48) 2 45 := ⟨by decide +kernel, rfl⟩
theorem dd_Formula_split_45 : ad_D mm_Formula_split 45 (.if_icmp .ne 7) 3 48 := ⟨by decide +kernel, rfl⟩
theorem dd_Formula_split_48 : ad_D mm_Formula_split 48 (.iconst 1) 1 49 := ⟨by decide +kernel, rfl⟩
theorem dd_Formula_split_49 : ad_D mm_Formula_split 49 (.goto 4) 3 52 := ⟨by decide +kernel, rfl⟩
theorem dd_Formula_split_52 : ad_D mm_Formula_split 52 (.iconst 0) 1 53 := ⟨by decide +kernel, rfl⟩
theorem dd_Formula_split_53 : ad_D mm_Formula_split 53 (.istore 7) 2 55 := ⟨by decide +kernel, rfl⟩
theorem dd_Formula_split_55 : ad_D mm_Formula_split 55 (.iload 7) 2 57 := ⟨by decide +kernel, rfl⟩
theorem dd_Formula_split_57 : ad_D mm_Formula_split 57 (.ifCond .eq 31) 3 60 := ⟨by decide +kernel, rfl⟩
theorem dd_Formula_split_60 : ad_D mm_Formula_split 60 (.iload 4) 2 62 := ⟨by decide +kernel, rfl⟩
theorem dd_Formula_split_62 : ad_D mm_Formula_split 62 (.iconst 1) 1 63 := ⟨by decide +kernel, rfl⟩
theorem dd_Formula_split_63 : ad_D mm_Formula_split 63 (.iadd) 1 64 := ⟨by decide +kernel, rfl⟩
theorem dd_Formula_split_64 : ad_D mm_Formula_split 64 (.iload_n 3) 1 65 := ⟨by decide +kernel, rfl⟩
theorem dd_Formula_split_65 : ad_D mm_Formula_split 65 (.if_icmp .ge 23) 3 68 := ⟨by decide +kernel, rfl⟩
theorem dd_Formula_split_68 : ad_D mm_Formula_split 68 (.aload_n 1) 1 69 := ⟨by decide +kernel, rfl⟩
theorem dd_Formula_split_69 : ad_D mm_Formula_split 69 (.iload 4) 2 71 := ⟨by decide +kernel, rfl⟩
theorem dd_Formula_split_71 : ad_D mm_Formula_split 71 (.iconst 1) 1 72 := ⟨by decide +kernel, rfl⟩
theorem dd_Formula_split_72 : ad_D mm_Formula_split 72 (.iadd) 1 73 := ⟨by decide +kernel, rfl⟩
theorem dd_Formula_split_73 : ad_D mm_Formula_split 73 (.baload) 1 74 := ⟨by decide +kernel, rfl⟩
theorem dd_Formula_split_74 : ad_D mm_Formula_split 74 (.invokestatic 30) 3 77 := ⟨by decide +kernel, rfl⟩
theorem dd_Formula_split_77 : ad_D mm_Formula_split 77 (.iload 6) 2 79 := ⟨by decide +kernel, rfl⟩
theorem dd_Formula_split_79 : ad_D mm_Formula_split 79 (.if_icmp .ne 9) 3 82 := ⟨by decide +kernel, rfl⟩
theorem dd_Formula_split_82 : ad_D mm_Formula_split 82 (.iinc 4 1) 3 85 := ⟨by decide +kernel, rfl⟩
theorem dd_Formula_split_85 : ad_D mm_Formula_split 85 (.goto (-30)) 3 88 := ⟨by decide +kernel, rfl⟩
theorem dd_Formula_split_88 : ad_D mm_Formula_split 88 (.iload 6) 2 90 := ⟨by decide +kernel, rfl⟩
theorem dd_Formula_split_90 : ad_D mm_Formula_split 90 (.bipush 97) 2 92 := ⟨by decide +kernel, rfl⟩
theorem dd_Formula_split_92 : ad_D mm_Formula_split 92 (.if_icmp .ne 20) 3 95 := ⟨by decide +kernel, rfl⟩
theorem dd_Formula_split_95 : ad_D mm_Formula_split 95 (.aload_n 0) 1 96 := ⟨by decide +kernel, rfl⟩
theorem dd_Formula_split_96 : ad_D mm_Formula_split 96 (.aload_n 1) 1 97 := ⟨by decide +kernel, rfl⟩
theorem dd_Formula_split_97 : ad_D mm_Formula_split 97 (.iload 5) 2 99 := ⟨by decide +kernel, rfl⟩
theorem dd_Formula_split_99 : ad_D mm_Formula_split 99 (.iload 4) 2 101 := ⟨by decide +kernel, rfl⟩
theorem dd_Formula_split_101 : ad_D mm_Formula_split 101 (.invokestatic 34) 3 104 := ⟨by decide +kernel, rfl⟩
theorem dd_Formula_split_104 : ad_D mm_Formula_split 104 (.iload 5) 2 106 := ⟨by decide +kernel, rfl⟩
theorem dd_Formula_split_106 : ad_D mm_Formula_split 106 (.invokevirtual 38) 3 109 := ⟨by decide +kernel, rfl⟩
theorem dd_Formula_split_109 : ad_D mm_Formula_split 109 (.goto 42) 3 112 := ⟨by decide +kernel, rfl⟩
theorem dd_Formula_split_112 : ad_D mm_Formula_split 112 (.iload 6) 2 114 := ⟨by decide +kernel, rfl⟩
theorem dd_Formula_split_114 : ad_D mm_Formula_split 114 (.bipush 48) 2 116 := ⟨by decide +kernel, rfl⟩
theorem dd_Formula_split_116 : ad_D mm_Formula_split 116 (.if_icmp .ne 20) 3 119 := ⟨by decide +kernel, rfl⟩
theorem dd_Formula_split_119 : ad_D mm_Formula_split 119 (.aload_n 0) 1 120 := ⟨by decide +kernel, rfl⟩
theorem dd_Formula_split_120 : ad_D mm_Formula_split 120 (.aload_n 1) 1 121 := ⟨by decide +kernel, rfl⟩
theorem dd_Formula_split_121 : ad_D mm_Formula_split 121 (.iload 5) 2 123 := ⟨by decide +kernel, rfl⟩
theorem dd_Formula_split_123 : ad_D mm_Formula_split 123 (.iload 4) 2 125 := ⟨by decide +kernel, rfl⟩
theorem dd_Formula_split_125 : ad_D mm_Formula_split 125 (.invokestatic 42) 3 128 := ⟨by decide +kernel, rfl⟩
theorem dd_Formula_split_128 : ad_D mm_Formula_split 128 (.iload 5) 2 130 := ⟨by decide +kernel, rfl⟩
theorem dd_Formula_split_130 : ad_D mm_Formula_split 130 (.invokevirtual 38) 3 133 := ⟨by decide +kernel, rfl⟩
theorem dd_Formula_split_133 : ad_D mm_Formula_split 133 (.goto 18) 3 136 := ⟨by decide +kernel, rfl⟩
theorem dd_Formula_split_136 : ad_D mm_Formula_split 136 (.iload 6) 2 138 := ⟨by decide +kernel, rfl⟩
theorem dd_Formula_split_138 : ad_D mm_Formula_split 138 (.bipush 32) 2 140 := ⟨by decide +kernel, rfl⟩
theorem dd_Formula_split_140 : ad_D mm_Formula_split 140 (.if_icmp .eq 11) 3 143 := ⟨by decide +kernel, rfl⟩
theorem dd_Formula_split_143 : ad_D mm_Formula_split 143 (.aload_n 0) 1 144 := ⟨by decide +kernel, rfl⟩
theorem dd_Formula_split_144 : ad_D mm_Formula_split 144 (.iload 6) 2 146 := ⟨by decide +kernel, rfl⟩
theorem dd_Formula_split_146 : ad_D mm_Formula_split 146 (.iload 5) 2 148 := ⟨by decide +kernel, rfl⟩
theorem dd_Formula_split_148 : ad_D mm_Formula_split 148 (.invokevirtual 38) 3 151 := ⟨by decide +kernel, rfl⟩
theorem dd_Formula_split_151 : ad_D mm_Formula_split 151 (.iinc 4 1) 3 154 := ⟨by decide +kernel, rfl⟩
theorem dd_Formula_split_154 : ad_D mm_Formula_split 154 (.goto (-139)) 3 157 := ⟨by decide +kernel, rfl⟩
theorem dd_Formula_split_157 : ad_D mm_Formula_split 157 (.aload_n 0) 1 158 := ⟨by decide +kernel, rfl⟩
theorem dd_Formula_split_158 : ad_D mm_Formula_split 158 (.iconst 0) 1 159 := ⟨by decide +kernel, rfl⟩
theorem dd_Formula_split_159 : ad_D mm_Formula_split 159 (.iload_n 3) 1 160 := ⟨by decide +kernel, rfl⟩
theorem dd_Formula_split_160 : ad_D mm_Formula_split 160 (.invokevirtual 38) 3 163 := ⟨by decide +kernel, rfl⟩
theorem dd_Formula_split_163 : ad_D mm_Formula_split 163 (.return_) 1 164 := ⟨by decide +kernel, rfl⟩
theorem dd_Formula_kindOf_0 : ad_D mm_Formula_kindOf 0 (.iload_n 0) 1 1 := ⟨by decide +kernel, rfl⟩
theorem dd_Formula_kindOf_1 : ad_D mm_Formula_kindOf 1 (.bipush 97) 2 3 := ⟨by decide +kernel, rfl⟩
theorem dd_Formula_kindOf_3 : ad_D mm_Formula_kindOf 3 (.bipush 122) 2 5 := ⟨by decide +kernel, rfl⟩
theorem dd_Formula_kindOf_5 : ad_D mm_Formula_kindOf 5 (.invokestatic 45) 3 8 := ⟨by decide +kernel, rfl⟩
theorem dd_Formula_kindOf_8 : ad_D mm_Formula_kindOf 8 (.ifCond .ne 14) 3 11 := ⟨by decide +kernel, rfl⟩
theorem dd_Formula_kindOf_11 : ad_D mm_Formula_kindOf 11 (.iload_n 0) 1 12 := ⟨by decide +kernel, rfl⟩
theorem dd_Formula_kindOf_12 : ad_D mm_Formula_kindOf 12 (.bipush 65) 2 14 := ⟨by decide +kernel, rfl⟩
theorem dd_Formula_kindOf_14 : ad_D mm_Formula_kindOf 14 (.bipush 90) 2 16 := ⟨by decide +kernel, rfl⟩
theorem dd_Formula_kindOf_16 : ad_D mm_Formula_kindOf 16 (.invokestatic 45) 3 19 := ⟨by decide +kernel, rfl⟩
theorem dd_Formula_kindOf_19 : ad_D mm_Formula_kindOf 19 (.ifCond .eq 6) 3 22 := ⟨by decide +kernel, rfl⟩
theorem dd_Formula_kindOf_22 : ad_D mm_Formula_kindOf 22 (.bipush 97) 2 24 := ⟨by decide +kernel, rfl⟩
theorem dd_Formula_kindOf_24 : ad_D mm_Formula_kindOf 24 (.ireturn) 1 25 := ⟨by decide +kernel, rfl⟩
theorem dd_Formula_kindOf_25 : ad_D mm_Formula_kindOf 25 (.iload_n 0) 1 26 := ⟨by decide +kernel, rfl⟩
theorem dd_Formula_kindOf_26 : ad_D mm_Formula_kindOf 26 (.bipush 48) 2 28 := ⟨by decide +kernel, rfl⟩
theorem dd_Formula_kindOf_28 : ad_D mm_Formula_kindOf 28 (.bipush 57) 2 30 := ⟨by decide +kernel, rfl⟩
theorem dd_Formula_kindOf_30 : ad_D mm_Formula_kindOf 30 (.invokestatic 45) 3 33 := ⟨by decide +kernel, rfl⟩
theorem dd_Formula_kindOf_33 : ad_D mm_Formula_kindOf 33 (.ifCond .eq 6) 3 36 := ⟨by decide +kernel, rfl⟩
theorem dd_Formula_kindOf_36 : ad_D mm_Formula_kindOf 36 (.bipush 48) 2 38 := ⟨by decide +kernel, rfl⟩
theorem dd_Formula_kindOf_38 : ad_D mm_Formula_kindOf 38 (.ireturn) 1 39 := ⟨by decide +kernel, rfl⟩
theorem dd_Formula_kindOf_39 : ad_D mm_Formula_kindOf 39 (.iload_n 0) 1 40 := ⟨by decide +kernel, rfl⟩
theorem dd_Formula_kindOf_40 : ad_D mm_Formula_kindOf 40 (.bipush 43) 2 42 := ⟨by decide +kernel, rfl⟩
theorem dd_Formula_kindOf_42 : ad_D mm_Formula_kindOf 42 (.if_icmp .eq 39) 3 45 := ⟨by decide +kernel, rfl⟩
theorem dd_Formula_kindOf_45 : ad_D mm_Formula_kindOf 45 (.iload_n 0) 1 46 := ⟨by decide +kernel, rfl⟩
theorem dd_Formula_kindOf_46 : ad_D mm_Formula_kindOf 46 (.bipush 45) 2 48 := ⟨by decide +kernel, rfl⟩
theorem dd_Formula_kindOf_48 : ad_D mm_Formula_kindOf 48 (.if_icmp .eq 33) 3 51 := ⟨by decide +kernel, rfl⟩
theorem dd_Formula_kindOf_51 : ad_D mm_Formula_kindOf 51 (.iload_n 0) 1 52 := ⟨by decide +kernel, rfl⟩
theorem dd_Formula_kindOf_52 : ad_D mm_Formula_kindOf 52 (.bipush 42) 2 54 := ⟨by decide +kernel, rfl⟩
theorem dd_Formula_kindOf_54 : ad_D mm_Formula_kindOf 54 (.if_icmp .eq 27) 3 57 := ⟨by decide +kernel, rfl⟩
theorem dd_Formula_kindOf_57 : ad_D mm_Formula_kindOf 57 (.iload_n 0) 1 58 := ⟨by decide +kernel, rfl⟩
theorem dd_Formula_kindOf_58 : ad_D mm_Formula_kindOf 58 (.bipush 47) 2 60 := ⟨by decide +kernel, rfl⟩
theorem dd_Formula_kindOf_60 : ad_D mm_Formula_kindOf 60 (.if_icmp .eq 21) 3 63 := ⟨by decide +kernel, rfl⟩
theorem dd_Formula_kindOf_63 : ad_D mm_Formula_kindOf 63 (.iload_n 0) 1 64 := ⟨by decide +kernel, rfl⟩
theorem dd_Formula_kindOf_64 : ad_D mm_Formula_kindOf 64 (.bipush 40) 2 66 := ⟨by decide +kernel, rfl⟩
theorem dd_Formula_kindOf_66 : ad_D mm_Formula_kindOf 66 (.if_icmp .eq 15) 3 69 := ⟨by decide +kernel, rfl⟩
theorem dd_Formula_kindOf_69 : ad_D mm_Formula_kindOf 69 (.iload_n 0) 1 70 := ⟨by decide +kernel, rfl⟩
theorem dd_Formula_kindOf_70 : ad_D mm_Formula_kindOf 70 (.bipush 41) 2 72 := ⟨by decide +kernel, rfl⟩
theorem dd_Formula_kindOf_72 : ad_D mm_Formula_kindOf 72 (.if_icmp .eq 9) 3 75 := ⟨by decide +kernel, rfl⟩
theorem dd_Formula_kindOf_75 : ad_D mm_Formula_kindOf 75 (.iload_n 0) 1 76 := ⟨by decide +kernel, rfl⟩
theorem dd_Formula_kindOf_76 : ad_D mm_Formula_kindOf 76 (.bipush 44) 2 78 := ⟨by decide +kernel, rfl⟩
theorem dd_Formula_kindOf_78 : ad_D mm_Formula_kindOf 78 (.if_icmp .ne 7) 3 81 := ⟨by decide +kernel, rfl⟩
theorem dd_Formula_kindOf_81 : ad_D mm_Formula_kindOf 81 (.iconst 1) 1 82 := ⟨by decide +kernel, rfl⟩
theorem dd_Formula_kindOf_82 : ad_D mm_Formula_kindOf 82 (.goto 4) 3 85 := ⟨by decide +kernel, rfl⟩
theorem dd_Formula_kindOf_85 : ad_D mm_Formula_kindOf 85 (.iconst 0) 1 86 := ⟨by decide +kernel, rfl⟩
theorem dd_Formula_kindOf_86 : ad_D mm_Formula_kindOf 86 (.istore_n 1) 1 87 := ⟨by decide +kernel, rfl⟩
theorem dd_Formula_kindOf_87 : ad_D mm_Formula_kindOf 87 (.iload_n 1) 1 88 := ⟨by decide +kernel, rfl⟩
theorem dd_Formula_kindOf_88 : ad_D mm_Formula_kindOf 88 (.ifCond .ne 9) 3 91 := ⟨by decide +kernel, rfl⟩
theorem dd_Formula_kindOf_91 : ad_D mm_Formula_kindOf 91 (.iload_n 0) 1 92 := ⟨by decide +kernel, rfl⟩
theorem dd_Formula_kindOf_92 : ad_D mm_Formula_kindOf 92 (.bipush 32) 2 94 := ⟨by decide +kernel, rfl⟩
theorem dd_Formula_kindOf_94 : ad_D mm_Formula_kindOf 94 (.if_icmp .ne 7) 3 97 := ⟨by decide +kernel, rfl⟩
theorem dd_Formula_kindOf_97 : ad_D mm_Formula_kindOf 97 (.iload_n 0) 1 98 := ⟨by decide +kernel, rfl⟩
theorem dd_Formula_kindOf_98 : ad_D mm_Formula_kindOf 98 (.goto 4) 3 101 := ⟨by decide +kernel, rfl⟩
theorem dd_Formula_kindOf_101 : ad_D mm_Formula_kindOf 101 (.iconst 1) 1 102 := ⟨by decide +kernel, rfl⟩
theorem dd_Formula_kindOf_102 : ad_D mm_Formula_kindOf 102 (.ireturn) 1 103 := ⟨by decide +kernel, rfl⟩
theorem dd_Formula_wordToken_0 : ad_D mm_Formula_wordToken 0 (.iload_n 1) 1 1 := ⟨by decide +kernel, rfl⟩
theorem dd_Formula_wordToken_1 : ad_D mm_Formula_wordToken 1 (.ifCond .lt 9) 3 4 := ⟨by decide +kernel, rfl⟩
theorem dd_Formula_wordToken_4 : ad_D mm_Formula_wordToken 4 (.iload_n 2) 1 5 := ⟨by decide +kernel, rfl⟩
theorem dd_Formula_wordToken_5 : ad_D mm_Formula_wordToken 5 (.aload_n 0) 1 6 := ⟨by decide +kernel, rfl⟩
theorem dd_Formula_wordToken_6 : ad_D mm_Formula_wordToken 6 (.arraylength) 1 7 := ⟨by decide +kernel, rfl⟩
theorem dd_Formula_wordToken_7 : ad_D mm_Formula_wordToken 7 (.if_icmp .lt 5) 3 10 := ⟨by decide +kernel, rfl⟩
theorem dd_Formula_wordToken_10 : ad_D mm_Formula_wordToken 10 (.iconst 1) 1 11 := ⟨by decide +kernel, rfl⟩
theorem dd_Formula_wordToken_11 : ad_D mm_Formula_wordToken 11 (.ireturn) 1 12 := ⟨by decide +kernel, rfl⟩
theorem dd_Formula_wordToken_12 : ad_D mm_Formula_wordToken 12 (.iload_n 1) 1 13 := ⟨by decide +kernel, rfl⟩
theorem dd_Formula_wordToken_13 : ad_D mm_Formula_wordToken 13 (.iload_n 2) 1 14 := ⟨by decide +kernel, rfl⟩
theorem dd_Formula_wordToken_14 : ad_D mm_Formula_wordToken 14 (.if_icmp .gt 9) 3 17 := ⟨by decide +kernel, rfl⟩
theorem dd_Formula_wordToken_17 : ad_D mm_Formula_wordToken 17 (.aload_n 0) 1 18 := ⟨by decide +kernel, rfl⟩
theorem dd_Formula_wordToken_18 : ad_D mm_Formula_wordToken 18 (.iload_n 1) 1 19 := ⟨by decide +kernel, rfl⟩
theorem dd_Formula_wordToken_19 : ad_D mm_Formula_wordToken 19 (.baload) 1 20 := ⟨by decide +kernel, rfl⟩
theorem dd_Formula_wordToken_20 : ad_D mm_Formula_wordToken 20 (.goto 4) 3 23 := ⟨by decide +kernel, rfl⟩
theorem dd_Formula_wordToken_23 : ad_D mm_Formula_wordToken 23 (.iconst 1) 1 24 := ⟨by decide +kernel, rfl⟩
theorem dd_Formula_wordToken_24 : ad_D mm_Formula_wordToken 24 (.istore_n 3) 1 25 := ⟨by decide +kernel, rfl⟩
theorem dd_Formula_wordToken_25 : ad_D mm_Formula_wordToken 25 (.iload_n 2) 1 26 := ⟨by decide +kernel, rfl⟩
theorem dd_Formula_wordToken_26 : ad_D mm_Formula_wordToken 26 (.iload_n 1) 1 27 := ⟨by decide +kernel, rfl⟩
theorem dd_Formula_wordToken_27 : ad_D mm_Formula_wordToken 27 (.if_icmp .ne 39) 3 30 := ⟨by decide +kernel, rfl⟩
theorem dd_Formula_wordToken_30 : ad_D mm_Formula_wordToken 30 (.iload_n 3) 1 31 := ⟨by decide +kernel, rfl⟩
theorem dd_Formula_wordToken_31 : ad_D mm_Formula_wordToken 31 (.bipush 116) 2 33 := ⟨by decide +kernel, rfl⟩
theorem dd_Formula_wordToken_33 : ad_D mm_Formula_wordToken 33 (.if_icmp .eq 27) 3 36 := ⟨by decide +kernel, rfl⟩
theorem dd_Formula_wordToken_36 : ad_D mm_Formula_wordToken 36 (.iload_n 3) 1 37 := ⟨by decide +kernel, rfl⟩
theorem dd_Formula_wordToken_37 : ad_D mm_Formula_wordToken 37 (.bipush 115) 2 39 := ⟨by decide +kernel, rfl⟩
theorem dd_Formula_wordToken_39 : ad_D mm_Formula_wordToken 39 (.if_icmp .eq 21) 3 42 := ⟨by decide +kernel, rfl⟩
theorem dd_Formula_wordToken_42 : ad_D mm_Formula_wordToken 42 (.iload_n 3) 1 43 := ⟨by decide +kernel, rfl⟩
theorem dd_Formula_wordToken_43 : ad_D mm_Formula_wordToken 43 (.bipush 109) 2 45 := ⟨by decide +kernel, rfl⟩
theorem dd_Formula_wordToken_45 : ad_D mm_Formula_wordToken 45 (.if_icmp .eq 15) 3 48 := ⟨by decide +kernel, rfl⟩
theorem dd_Formula_wordToken_48 : ad_D mm_Formula_wordToken 48 (.iload_n 3) 1 49 := ⟨by decide +kernel, rfl⟩
theorem dd_Formula_wordToken_49 : ad_D mm_Formula_wordToken 49 (.bipush 98) 2 51 := ⟨by decide +kernel, rfl⟩
theorem dd_Formula_wordToken_51 : ad_D mm_Formula_wordToken 51 (.if_icmp .eq 9) 3 54 := ⟨by decide +kernel, rfl⟩
theorem dd_Formula_wordToken_54 : ad_D mm_Formula_wordToken 54 (.iload_n 3) 1 55 := ⟨by decide +kernel, rfl⟩
theorem dd_Formula_wordToken_55 : ad_D mm_Formula_wordToken 55 (.bipush 104) 2 57 := ⟨by decide +kernel, rfl⟩
theorem dd_Formula_wordToken_57 : ad_D mm_Formula_wordToken 57 (.if_icmp .ne 7) 3 60 := ⟨by decide +kernel, rfl⟩
theorem dd_Formula_wordToken_60 : ad_D mm_Formula_wordToken 60 (.iload_n 3) 1 61 := ⟨by decide +kernel, rfl⟩
theorem dd_Formula_wordToken_61 : ad_D mm_Formula_wordToken 61 (.goto 4) 3 64 := ⟨by decide +kernel, rfl⟩
theorem dd_Formula_wordToken_64 : ad_D mm_Formula_wordToken 64 (.iconst 1) 1 65 := ⟨by decide +kernel, rfl⟩
theorem dd_Formula_wordToken_65 : ad_D mm_Formula_wordToken 65 (.ireturn) 1 66 := ⟨by decide +kernel, rfl⟩
theorem dd_Formula_wordToken_66 : ad_D mm_Formula_wordToken 66 (.iload_n 2) 1 67 := ⟨by decide +kernel, rfl⟩
theorem dd_Formula_wordToken_67 : ad_D mm_Formula_wordToken 67 (.iload_n 1) 1 68 := ⟨by decide +kernel, rfl⟩
theorem dd_Formula_wordToken_68 : ad_D mm_Formula_wordToken 68 (.iconst 2) 1 69 := ⟨by decide +kernel, rfl⟩
theorem dd_Formula_wordToken_69 : ad_D mm_Formula_wordToken 69 (.iadd) 1 70 := ⟨by decide +kernel, rfl⟩
theorem dd_Formula_wordToken_70 : ad_D mm_Formula_wordToken 70 (.if_icmp .ne 9) 3 73 := ⟨by decide +kernel, rfl⟩
theorem dd_Formula_wordToken_73 : ad_D mm_Formula_wordToken 73 (.iload_n 3) 1 74 := ⟨by decide +kernel, rfl⟩
theorem dd_Formula_wordToken_74 : ad_D mm_Formula_wordToken 74 (.bipush 109) 2 76 := ⟨by decide +kernel, rfl⟩
theorem dd_Formula_wordToken_76 : ad_D mm_Formula_wordToken 76 (.if_icmp .eq 5) 3 79 := ⟨by decide +kernel, rfl⟩
theorem dd_Formula_wordToken_79 : ad_D mm_Formula_wordToken 79 (.iconst 1) 1 80 := ⟨by decide +kernel, rfl⟩
theorem dd_Formula_wordToken_80 : ad_D mm_Formula_wordToken 80 (.ireturn) 1 81 := ⟨by decide +kernel, rfl⟩
theorem dd_Formula_wordToken_81 : ad_D mm_Formula_wordToken 81 (.aload_n 0) 1 82 := ⟨by decide +kernel, rfl⟩
theorem dd_Formula_wordToken_82 : ad_D mm_Formula_wordToken 82 (.iload_n 1) 1 83 := ⟨by decide +kernel, rfl⟩
theorem dd_Formula_wordToken_83 : ad_D mm_Formula_wordToken 83 (.iconst 1) 1 84 := ⟨by decide +kernel, rfl⟩
theorem dd_Formula_wordToken_84 : ad_D mm_Formula_wordToken 84 (.iadd) 1 85 := ⟨by decide +kernel, rfl⟩
theorem dd_Formula_wordToken_85 : ad_D mm_Formula_wordToken 85 (.baload) 1 86 := ⟨by decide +kernel, rfl⟩
theorem dd_Formula_wordToken_86 : ad_D mm_Formula_wordToken 86 (.bipush 105) 2 88 := ⟨by decide +kernel, rfl⟩
theorem dd_Formula_wordToken_88 : ad_D mm_Formula_wordToken 88 (.if_icmp .ne 13) 3 91 := ⟨by decide +kernel, rfl⟩
theorem dd_Formula_wordToken_91 : ad_D mm_Formula_wordToken 91 (.aload_n 0) 1 92 := ⟨by decide +kernel, rfl⟩
theorem dd_Formula_wordToken_92 : ad_D mm_Formula_wordToken 92 (.iload_n 2) 1 93 := ⟨by decide +kernel, rfl⟩
theorem dd_Formula_wordToken_93 : ad_D mm_Formula_wordToken 93 (.baload) 1 94 := ⟨by decide +kernel, rfl⟩
theorem dd_Formula_wordToken_94 : ad_D mm_Formula_wordToken 94 (.bipush 110) 2 96 := ⟨by decide +kernel, rfl⟩
theorem dd_Formula_wordToken_96 : ad_D mm_Formula_wordToken 96 (.if_icmp .ne 5) 3 99 := ⟨by decide +kernel, rfl⟩
theorem dd_Formula_wordToken_99 : ad_D mm_Formula_wordToken 99 (.iconst 2) 1 100 := ⟨by decide +kernel, rfl⟩
theorem dd_Formula_wordToken_100 : ad_D mm_Formula_wordToken 100 (.ireturn) 1 101 := ⟨by decide +kernel, rfl⟩
theorem dd_Formula_wordToken_101 : ad_D mm_Formula_wordToken 101 (.aload_n 0) 1 102 := ⟨by decide +kernel, rfl⟩
theorem dd_Formula_wordToken_102 : ad_D mm_Formula_wordToken 102 (.iload_n 1) 1 103 := ⟨by decide +kernel, rfl⟩
theorem dd_Formula_wordToken_103 : ad_D mm_Formula_wordToken 103 (.iconst 1) 1 104 := ⟨by decide +kernel, rfl⟩
theorem dd_Formula_wordToken_104 : ad_D mm_Formula_wordToken 104 (.iadd) 1 105 := ⟨by decide +kernel, rfl⟩
theorem dd_Formula_wordToken_105 : ad_D mm_Formula_wordToken 105 (.baload) 1 106 := ⟨by decide +kernel, rfl⟩
theorem dd_Formula_wordToken_106 : ad_D mm_Formula_wordToken 106 (.bipush 97) 2 108 := ⟨by decide +kernel, rfl⟩
theorem dd_Formula_wordToken_108 : ad_D mm_Formula_wordToken 108 (.if_icmp .ne 15) 3 111 := ⟨by decide +kernel, rfl⟩
theorem dd_Formula_wordToken_111 : ad_D mm_Formula_wordToken 111 (.aload_n 0) 1 112 := ⟨by decide +kernel, rfl⟩
theorem dd_Formula_wordToken_112 : ad_D mm_Formula_wordToken 112 (.iload_n 2) 1 113 := ⟨by decide +kernel, rfl⟩
theorem dd_Formula_wordToken_113 : ad_D mm_Formula_wordToken 113 (.baload) 1 114 := ⟨by decide +kernel, rfl⟩
theorem dd_Formula_wordToken_114 : ad_D mm_Formula_wordToken 114 (.bipush 120) 2 116 := ⟨by decide +kernel, rfl⟩
theorem dd_Formula_wordToken_116 : ad_D mm_Formula_wordToken 116 (.if_icmp .ne 7) 3 119 := ⟨by decide +kernel, rfl⟩
theorem dd_Formula_wordToken_119 : ad_D mm_Formula_wordToken 119 (.iconst 3) 1 120 := ⟨by decide +kernel, rfl⟩
theorem dd_Formula_wordToken_120 : ad_D mm_Formula_wordToken 120 (.goto 4) 3 123 := ⟨by decide +kernel, rfl⟩
theorem dd_Formula_wordToken_123 : ad_D mm_Formula_wordToken 123 (.iconst 1) 1 124 := ⟨by decide +kernel, rfl⟩
theorem dd_Formula_wordToken_124 : ad_D mm_Formula_wordToken 124 (.ireturn) 1 125 := ⟨by decide +kernel, rfl⟩
theorem dd_Formula_put_0 : ad_D mm_Formula_put 0 (.aload_n 0) 1 1 := ⟨by decide +kernel, rfl⟩
theorem dd_Formula_put_1 : ad_D mm_Formula_put 1 (.getfield 20) 3 4 := ⟨by decide +kernel, rfl⟩
theorem dd_Formula_put_4 : ad_D mm_Formula_put 4 (.aload_n 0) 1 5 := ⟨by decide +kernel, rfl⟩
theorem dd_Formula_put_5 : ad_D mm_Formula_put 5 (.getfield 13) 3 8 := ⟨by decide +kernel, rfl⟩
theorem dd_Formula_put_8 : ad_D mm_Formula_put 8 (.arraylength) 1 9 := ⟨by decide +kernel, rfl⟩
theorem dd_Formula_put_9 : ad_D mm_Formula_put 9 (.if_icmp .ge 45) 3 12 := ⟨by decide +kernel, rfl⟩
theorem dd_Formula_put_12 : ad_D mm_Formula_put 12 (.aload_n 0) 1 13 := ⟨by decide +kernel, rfl⟩
theorem dd_Formula_put_13 : ad_D mm_Formula_put 13 (.getfield 20) 3 16 := ⟨by decide +kernel, rfl⟩
theorem dd_Formula_put_16 : ad_D mm_Formula_put 16 (.aload_n 0) 1 17 := ⟨by decide +kernel, rfl⟩
theorem dd_Formula_put_17 : ad_D mm_Formula_put 17 (.getfield 17) 3 20 := ⟨by decide +kernel, rfl⟩
theorem dd_Formula_put_20 : ad_D mm_Formula_put 20 (.arraylength) 1 21 := ⟨by decide +kernel, rfl⟩
theorem dd_Formula_put_21 : ad_D mm_Formula_put 21 (.if_icmp .ge 33) 3 24 := ⟨by decide +kernel, rfl⟩
theorem dd_Formula_put_24 : ad_D mm_Formula_put 24 (.aload_n 0) 1 25 := ⟨by decide +kernel, rfl⟩
theorem dd_Formula_put_25 : ad_D mm_Formula_put 25 (.getfield 13) 3 28 := ⟨by decide +kernel, rfl⟩
theorem dd_Formula_put_28 : ad_D mm_Formula_put 28 (.aload_n 0) 1 29 := ⟨by decide +kernel, rfl⟩
theorem dd_Formula_put_29 : ad_D mm_Formula_put 29 (.getfield 20) 3 32 := ⟨by decide +kernel, rfl⟩
theorem dd_Formula_put_32 : ad_D mm_Formula_put 32 (.iload_n 1) 1 33 := ⟨by decide +kernel, rfl⟩
theorem dd_Formula_put_33 : ad_D mm_Formula_put 33 (.iastore) 1 34 := ⟨by decide +kernel, rfl⟩
theorem dd_Formula_put_34 : ad_D mm_Formula_put 34 (.aload_n 0) 1 35 := ⟨by decide +kernel, rfl⟩
theorem dd_Formula_put_35 : ad_D mm_Formula_put 35 (.getfield 17) 3 38 := ⟨by decide +kernel, rfl⟩
theorem dd_Formula_put_38 : ad_D mm_Formula_put 38 (.aload_n 0) 1 39 := ⟨by decide +kernel, rfl⟩
theorem dd_Formula_put_39 : ad_D mm_Formula_put 39 (.getfield 20) 3 42 := ⟨by decide +kernel, rfl⟩
theorem dd_Formula_put_42 : ad_D mm_Formula_put 42 (.iload_n 2) 1 43 := ⟨by decide +kernel, rfl⟩
theorem dd_Formula_put_43 : ad_D mm_Formula_put 43 (.iastore) 1 44 := ⟨by decide +kernel, rfl⟩
theorem dd_Formula_put_44 : ad_D mm_Formula_put 44 (.aload_n 0) 1 45 := ⟨by decide +kernel, rfl⟩
theorem dd_Formula_put_45 : ad_D mm_Formula_put 45 (.dup) 1 46 := ⟨by decide +kernel, rfl⟩
theorem dd_Formula_put_46 : ad_D mm_Formula_put 46 (.getfield 20) 3 49 := ⟨by decide +kernel, rfl⟩
theorem dd_Formula_put_49 : ad_D mm_Formula_put 49 (.iconst 1) 1 50 := ⟨by decide +kernel, rfl⟩
theorem dd_Formula_put_50 : ad_D mm_Formula_put 50 (.iadd) 1 51 := ⟨by decide +kernel, rfl⟩
theorem dd_Formula_put_51 : ad_D mm_Formula_put 51 (.putfield 20) 3 54 := ⟨by decide +kernel, rfl⟩
theorem dd_Formula_put_54 : ad_D mm_Formula_put 54 (.return_) 1 55 := ⟨by decide +kernel, rfl⟩
theorem dd_Formula_numberToken_0 : ad_D mm_Formula_numberToken 0 (.iconst 0) 1 1 := ⟨by decide +kernel, rfl⟩
theorem dd_Formula_numberToken_1 : ad_D mm_Formula_numberToken 1 (.istore_n 3) 1 2 := ⟨by decide +kernel, rfl⟩
theorem dd_Formula_numberToken_2 : ad_D mm_Formula_numberToken 2 (.iconst 0) 1 3 := ⟨by decide +kernel, rfl⟩
theorem dd_Formula_numberToken_3 : ad_D mm_Formula_numberToken 3 (.iload_n 1) 1 4 := ⟨by decide +kernel, rfl⟩
theorem dd_Formula_numberToken_4 : ad_D mm_Formula_numberToken 4 (.invokestatic 49) 3 7 := ⟨by decide +kernel, rfl⟩
theorem dd_Formula_numberToken_7 : ad_D mm_Formula_numberToken 7 (.istore 4) 2 9 := ⟨by decide +kernel, rfl⟩
theorem dd_Formula_numberToken_9 : ad_D mm_Formula_numberToken 9 (.iload 4) 2 11 := ⟨by decide +kernel, rfl⟩
theorem dd_Formula_numberToken_11 : ad_D mm_Formula_numberToken 11 (.iload_n 2) 1 12 := ⟨by decide +kernel, rfl⟩
theorem dd_Formula_numberToken_12 : ad_D mm_Formula_numberToken 12 (.if_icmp .gt 35) 3 15 := ⟨by decide +kernel, rfl⟩
theorem dd_Formula_numberToken_15 : ad_D mm_Formula_numberToken 15 (.iload 4) 2 17 := ⟨by decide +kernel, rfl⟩
theorem dd_Formula_numberToken_17 : ad_D mm_Formula_numberToken 17 (.aload_n 0) 1 18 := ⟨by decide +kernel, rfl⟩
theorem dd_Formula_numberToken_18 : ad_D mm_Formula_numberToken 18 (.arraylength) 1 19 := ⟨by decide +kernel, rfl⟩
theorem dd_Formula_numberToken_19 : ad_D mm_Formula_numberToken 19 (.if_icmp .ge 28) 3 22 := ⟨by decide +kernel, rfl⟩
theorem dd_Formula_numberToken_22 : ad_D mm_Formula_numberToken 22 (.iload_n 3) 1 23 := ⟨by decide +kernel, rfl⟩
theorem dd_Formula_numberToken_23 : ad_D mm_Formula_numberToken 23 (.bipush 10) 2 25 := ⟨by decide +kernel, rfl⟩
theorem dd_Formula_numberToken_25 : ad_D mm_Formula_numberToken 25 (.imul) 1 26 := ⟨by decide +kernel, rfl⟩
theorem dd_Formula_numberToken_26 : ad_D mm_Formula_numberToken 26 (.aload_n 0) 1 27 := ⟨by decide +kernel, rfl⟩
theorem dd_Formula_numberToken_27 : ad_D mm_Formula_numberToken 27 (.iload 4) 2 29 := ⟨by decide +kernel, rfl⟩
theorem dd_Formula_numberToken_29 : ad_D mm_Formula_numberToken 29 (.baload) 1 30 := ⟨by decide +kernel, rfl⟩
theorem dd_Formula_numberToken_30 : ad_D mm_Formula_numberToken 30 (.iadd) 1 31 := ⟨by decide +kernel, rfl⟩
theorem dd_Formula_numberToken_31 : ad_D mm_Formula_numberToken 31 (.bipush 48) 2 33 := ⟨by decide +kernel, rfl⟩
theorem dd_Formula_numberToken_33 : ad_D mm_Formula_numberToken 33 (.isub) 1 34 := ⟨by decide +kernel, rfl⟩
theorem dd_Formula_numberToken_34 : ad_D mm_Formula_numberToken 34 (.sipush 10000) 3 37 := ⟨by decide +kernel, rfl⟩
theorem dd_Formula_numberToken_37 : ad_D mm_Formula_numberToken 37 (.invokestatic 24) 3 40 := ⟨by decide +kernel, rfl⟩
theorem dd_Formula_numberToken_40 : ad_D mm_Formula_numberToken 40 (.istore_n 3) 1 41 := ⟨by decide +kernel, rfl⟩
theorem dd_Formula_numberToken_41 : ad_D mm_Formula_numberToken 41 (.iinc 4 1) 3 44 := ⟨by decide +kernel, rfl⟩
theorem dd_Formula_numberToken_44 : ad_D mm_Formula_numberToken 44 (.goto (-35)) 3 47 := ⟨by decide +kernel, rfl⟩
theorem dd_Formula_numberToken_47 : ad_D mm_Formula_numberToken 47 (.sipush 1000) 3 50 := ⟨by decide +kernel, rfl⟩
theorem dd_Formula_numberToken_50 : ad_D mm_Formula_numberToken 50 (.iload_n 3) 1 51 := ⟨by decide +kernel, rfl⟩
theorem dd_Formula_numberToken_51 : ad_D mm_Formula_numberToken 51 (.iadd) 1 52 := ⟨by decide +kernel, rfl⟩
theorem dd_Formula_numberToken_52 : ad_D mm_Formula_numberToken 52 (.ireturn) 1 53 := ⟨by decide +kernel, rfl⟩
theorem dd_X_fault_0 : ad_D mm_X_fault 0 (.iload_n 1) 1 1 := ⟨by decide +kernel, rfl⟩
theorem dd_X_fault_1 : ad_D mm_X_fault 1 (.lookupswitch 37 #[(0, 27), (1, 32)]) 27 28 := ⟨by decide +kernel, rfl⟩
theorem dd_X_fault_28 : ad_D mm_X_fault 28 (.aload_n 0) 1 29 := ⟨by decide +kernel, rfl⟩
theorem dd_X_fault_29 : ad_D mm_X_fault 29 (.getfield 70) 3 32 := ⟨by decide +kernel, rfl⟩
theorem dd_X_fault_32 : ad_D mm_X_fault 32 (.ireturn) 1 33 := ⟨by decide +kernel, rfl⟩
theorem dd_X_fault_33 : ad_D mm_X_fault 33 (.aload_n 0) 1 34 := ⟨by decide +kernel, rfl⟩
theorem dd_X_fault_34 : ad_D mm_X_fault 34 (.getfield 73) 3 37 := ⟨by decide +kernel, rfl⟩
theorem dd_X_fault_37 : ad_D mm_X_fault 37 (.ireturn) 1 38 := ⟨by decide +kernel, rfl⟩
theorem dd_X_fault_38 : ad_D mm_X_fault 38 (.iconst (-1)) 1 39 := ⟨by decide +kernel, rfl⟩
theorem dd_X_fault_39 : ad_D mm_X_fault 39 (.ireturn) 1 40 := ⟨by decide +kernel, rfl⟩
theorem dd_X_tells_0 : ad_D mm_X_tells 0 (.iload_n 1) 1 1 := ⟨by decide +kernel, rfl⟩
theorem dd_X_tells_1 : ad_D mm_X_tells 1 (.invokestatic 169) 3 4 := ⟨by decide +kernel, rfl⟩
theorem dd_X_tells_4 : ad_D mm_X_tells 4 (.ifCond .eq 37) 3 7 := ⟨by decide +kernel, rfl⟩
theorem dd_X_tells_7 : ad_D mm_X_tells 7 (.iload_n 2) 1 8 := ⟨by decide +kernel, rfl⟩
theorem dd_X_tells_8 : ad_D mm_X_tells 8 (.invokestatic 169) 3 11 := ⟨by decide +kernel, rfl⟩
theorem dd_X_tells_11 : ad_D mm_X_tells 11 (.ifCond .eq 30) 3 14 := ⟨by decide +kernel, rfl⟩
theorem dd_X_tells_14 : ad_D mm_X_tells 14 (.iload_n 3) 1 15 := ⟨by decide +kernel, rfl⟩
theorem dd_X_tells_15 : ad_D mm_X_tells 15 (.invokestatic 169) 3 18 := ⟨by decide +kernel, rfl⟩
theorem dd_X_tells_18 : ad_D mm_X_tells 18 (.ifCond .eq 23) 3 21 := ⟨by decide +kernel, rfl⟩
theorem dd_X_tells_21 : ad_D mm_X_tells 21 (.iload 4) 2 23 := ⟨by decide +kernel, rfl⟩
theorem dd_X_tells_23 : ad_D mm_X_tells 23 (.invokestatic 169) 3 26 := ⟨by decide +kernel, rfl⟩
theorem dd_X_tells_26 : ad_D mm_X_tells 26 (.ifCond .eq 15) 3 29 := ⟨by decide +kernel, rfl⟩
theorem dd_X_tells_29 : ad_D mm_X_tells 29 (.iload 5) 2 31 := ⟨by decide +kernel, rfl⟩
theorem dd_X_tells_31 : ad_D mm_X_tells 31 (.invokestatic 169) 3 34 := ⟨by decide +kernel, rfl⟩
theorem dd_X_tells_34 : ad_D mm_X_tells 34 (.ifCond .eq 7) 3 37 := ⟨by decide +kernel, rfl⟩
theorem dd_X_tells_37 : ad_D mm_X_tells 37 (.iconst 1) 1 38 := ⟨by decide +kernel, rfl⟩
theorem dd_X_tells_38 : ad_D mm_X_tells 38 (.goto 4) 3 41 := ⟨by decide +kernel, rfl⟩
theorem dd_X_tells_41 : ad_D mm_X_tells 41 (.iconst 0) 1 42 := ⟨by decide +kernel, rfl⟩
theorem dd_X_tells_42 : ad_D mm_X_tells 42 (.istore 6) 2 44 := ⟨by decide +kernel, rfl⟩
theorem dd_X_tells_44 : ad_D mm_X_tells 44 (.iload 6) 2 46 := ⟨by decide +kernel, rfl⟩
theorem dd_X_tells_46 : ad_D mm_X_tells 46 (.ifCond .eq 20) 3 49 := ⟨by decide +kernel, rfl⟩
theorem dd_X_tells_49 : ad_D mm_X_tells 49 (.aload_n 0) 1 50 := ⟨by decide +kernel, rfl⟩
theorem dd_X_tells_50 : ad_D mm_X_tells 50 (.getfield 63) 3 53 := ⟨by decide +kernel, rfl⟩
theorem dd_X_tells_53 : ad_D mm_X_tells 53 (.iload_n 1) 1 54 := ⟨by decide +kernel, rfl⟩
theorem dd_X_tells_54 : ad_D mm_X_tells 54 (.iload_n 2) 1 55 := ⟨by decide +kernel, rfl⟩
theorem dd_X_tells_55 : ad_D mm_X_tells 55 (.iload_n 3) 1 56 := ⟨by decide +kernel, rfl⟩
theorem dd_X_tells_56 : ad_D mm_X_tells 56 (.iload 4) 2 58 := ⟨by decide +kernel, rfl⟩
theorem dd_X_tells_58 : ad_D mm_X_tells 58 (.iload 5) 2 60 := ⟨by decide +kernel, rfl⟩
theorem dd_X_tells_60 : ad_D mm_X_tells 60 (.invokevirtual 159) 3 63 := ⟨by decide +kernel, rfl⟩
theorem dd_X_tells_63 : ad_D mm_X_tells 63 (.goto 5) 3 66 := ⟨by decide +kernel, rfl⟩
theorem dd_X_tells_66 : ad_D mm_X_tells 66 (.ldc 173) 2 68 := ⟨by decide +kernel, rfl⟩
theorem dd_X_tells_68 : ad_D mm_X_tells 68 (.ireturn) 1 69 := ⟨by decide +kernel, rfl⟩
theorem dd_X_isTold_0 : ad_D mm_X_isTold 0 (.iload_n 0) 1 1 := ⟨by decide +kernel, rfl⟩
theorem dd_X_isTold_1 : ad_D mm_X_isTold 1 (.ldc_w 356) 3 4 := ⟨by decide +kernel, rfl⟩
theorem dd_X_isTold_4 : ad_D mm_X_isTold 4 (.ldc_w 357) 3 7 := ⟨by decide +kernel, rfl⟩
theorem dd_X_isTold_7 : ad_D mm_X_isTold 7 (.invokestatic 76) 3 10 := ⟨by decide +kernel, rfl⟩
theorem dd_X_isTold_10 : ad_D mm_X_isTold 10 (.ireturn) 1 11 := ⟨by decide +kernel, rfl⟩
theorem dd_X_sweet_0 : ad_D mm_X_sweet 0 (.aload_n 0) 1 1 := ⟨by decide +kernel, rfl⟩
theorem dd_X_sweet_1 : ad_D mm_X_sweet 1 (.iload_n 1) 1 2 := ⟨by decide +kernel, rfl⟩
theorem dd_X_sweet_2 : ad_D mm_X_sweet 2 (.invokevirtual 121) 3 5 := ⟨by decide +kernel, rfl⟩
theorem dd_X_sweet_5 : ad_D mm_X_sweet 5 (.astore_n 3) 1 6 := ⟨by decide +kernel, rfl⟩
theorem dd_X_sweet_6 : ad_D mm_X_sweet 6 (.aload_n 3) 1 7 := ⟨by decide +kernel, rfl⟩
theorem dd_X_sweet_7 : ad_D mm_X_sweet 7 (.ifnull 14) 3 10 := ⟨by decide +kernel, rfl⟩
theorem dd_X_sweet_10 : ad_D mm_X_sweet 10 (.iload_n 2) 1 11 := ⟨by decide +kernel, rfl⟩
theorem dd_X_sweet_11 : ad_D mm_X_sweet 11 (.iconst 0) 1 12 := ⟨by decide +kernel, rfl⟩
theorem dd_X_sweet_12 : ad_D mm_X_sweet 12 (.sipush 4000) 3 15 := ⟨by decide +kernel, rfl⟩
theorem dd_X_sweet_15 : ad_D mm_X_sweet 15 (.invokestatic 76) 3 18 := ⟨by decide +kernel, rfl⟩
theorem dd_X_sweet_18 : ad_D mm_X_sweet 18 (.ifCond .ne 5) 3 21 := ⟨by decide +kernel, rfl⟩
theorem dd_X_sweet_21 : ad_D mm_X_sweet 21 (.iconst (-1)) 1 22 := ⟨by decide +kernel, rfl⟩
theorem dd_X_sweet_22 : ad_D mm_X_sweet 22 (.ireturn) 1 23 := ⟨by decide +kernel, rfl⟩
theorem dd_X_sweet_23 : ad_D mm_X_sweet 23 (.aload_n 3) 1 24 := ⟨by decide +kernel, rfl⟩
theorem dd_X_sweet_24 : ad_D mm_X_sweet 24 (.iload_n 2) 1 25 := ⟨by decide +kernel, rfl⟩
theorem dd_X_sweet_25 : ad_D mm_X_sweet 25 (.invokevirtual 174) 3 28 := ⟨by decide +kernel, rfl⟩
theorem dd_X_sweet_28 : ad_D mm_X_sweet 28 (.ireturn) 1 29 := ⟨by decide +kernel, rfl⟩
theorem dd_X_fieldOf_0 : ad_D mm_X_fieldOf 0 (.aload_n 0) 1 1 := ⟨by decide +kernel, rfl⟩
theorem dd_X_fieldOf_1 : ad_D mm_X_fieldOf 1 (.iload_n 1) 1 2 := ⟨by decide +kernel, rfl⟩
theorem dd_X_fieldOf_2 : ad_D mm_X_fieldOf 2 (.invokevirtual 121) 3 5 := ⟨by decide +kernel, rfl⟩
theorem dd_X_fieldOf_5 : ad_D mm_X_fieldOf 5 (.astore_n 3) 1 6 := ⟨by decide +kernel, rfl⟩
theorem dd_X_fieldOf_6 : ad_D mm_X_fieldOf 6 (.aload_n 3) 1 7 := ⟨by decide +kernel, rfl⟩
theorem dd_X_fieldOf_7 : ad_D mm_X_fieldOf 7 (.ifnonnull 5) 3 10 := ⟨by decide +kernel, rfl⟩
theorem dd_X_fieldOf_10 : ad_D mm_X_fieldOf 10 (.iconst (-1)) 1 11 := ⟨by decide +kernel, rfl⟩
theorem dd_X_fieldOf_11 : ad_D mm_X_fieldOf 11 (.ireturn) 1 12 := ⟨by decide +kernel, rfl⟩
theorem dd_X_fieldOf_12 : ad_D mm_X_fieldOf 12 (.iload_n 2) 1 13 := ⟨by decide +kernel, rfl⟩
theorem dd_X_fieldOf_13 : ad_D mm_X_fieldOf 13 (.tableswitch 86 0 6 #[43, 48, 53, 58, 63, 76, 81]) 43 56 := ⟨by decide +kernel, rfl⟩
theorem dd_X_fieldOf_56 : ad_D mm_X_fieldOf 56 (.aload_n 3) 1 57 := ⟨by decide +kernel, rfl⟩
theorem dd_X_fieldOf_57 : ad_D mm_X_fieldOf 57 (.getfield 131) 3 60 := ⟨by decide +kernel, rfl⟩
theorem dd_X_fieldOf_60 : ad_D mm_X_fieldOf 60 (.ireturn) 1 61 := ⟨by decide +kernel, rfl⟩
theorem dd_X_fieldOf_61 : ad_D mm_X_fieldOf 61 (.aload_n 3) 1 62 := ⟨by decide +kernel, rfl⟩
theorem dd_X_fieldOf_62 : ad_D mm_X_fieldOf 62 (.getfield 178) 3 65 := ⟨by decide +kernel, rfl⟩
theorem dd_X_fieldOf_65 : ad_D mm_X_fieldOf 65 (.ireturn) 1 66 := ⟨by decide +kernel, rfl⟩
theorem dd_X_fieldOf_66 : ad_D mm_X_fieldOf 66 (.aload_n 3) 1 67 := ⟨by decide +kernel, rfl⟩
theorem dd_X_fieldOf_67 : ad_D mm_X_fieldOf 67 (.getfield 125) 3 70 := ⟨by decide +kernel, rfl⟩
theorem dd_X_fieldOf_70 : ad_D mm_X_fieldOf 70 (.ireturn) 1 71 := ⟨by decide +kernel, rfl⟩
theorem dd_X_fieldOf_71 : ad_D mm_X_fieldOf 71 (.aload_n 3) 1 72 := ⟨by decide +kernel, rfl⟩
theorem dd_X_fieldOf_72 : ad_D mm_X_fieldOf 72 (.getfield 181) 3 75 := ⟨by decide +kernel, rfl⟩
theorem dd_X_fieldOf_75 : ad_D mm_X_fieldOf 75 (.ireturn) 1 76 := ⟨by decide +kernel, rfl⟩
theorem dd_X_fieldOf_76 : ad_D mm_X_fieldOf 76 (.aload_n 3) 1 77 := ⟨by decide +kernel, rfl⟩
theorem dd_X_fieldOf_77 : ad_D mm_X_fieldOf 77 (.getfield 134) 3 80 := ⟨by decide +kernel, rfl⟩
theorem dd_X_fieldOf_80 : ad_D mm_X_fieldOf 80 (.ifCond .eq 7) 3 83 := ⟨by decide +kernel, rfl⟩
theorem dd_X_fieldOf_83 : ad_D mm_X_fieldOf 83 (.iconst 1) 1 84 := ⟨by decide +kernel, rfl⟩
theorem dd_X_fieldOf_84 : ad_D mm_X_fieldOf 84 (.goto 4) 3 87 := ⟨by decide +kernel, rfl⟩
theorem dd_X_fieldOf_87 : ad_D mm_X_fieldOf 87 (.iconst 0) 1 88 := ⟨by decide +kernel, rfl⟩
theorem dd_X_fieldOf_88 : ad_D mm_X_fieldOf 88 (.ireturn) 1 89 := ⟨by decide +kernel, rfl⟩
theorem dd_X_fieldOf_89 : ad_D mm_X_fieldOf 89 (.aload_n 3) 1 90 := ⟨by decide +kernel, rfl⟩
theorem dd_X_fieldOf_90 : ad_D mm_X_fieldOf 90 (.getfield 138) 3 93 := ⟨by decide +kernel, rfl⟩
theorem dd_X_fieldOf_93 : ad_D mm_X_fieldOf 93 (.ireturn) 1 94 := ⟨by decide +kernel, rfl⟩
theorem dd_X_fieldOf_94 : ad_D mm_X_fieldOf 94 (.aload_n 3) 1 95 := ⟨by decide +kernel, rfl⟩
theorem dd_X_fieldOf_95 : ad_D mm_X_fieldOf 95 (.getfield 184) 3 98 := ⟨by decide +kernel, rfl⟩
theorem dd_X_fieldOf_98 : ad_D mm_X_fieldOf 98 (.ireturn) 1 99 := ⟨by decide +kernel, rfl⟩
theorem dd_X_fieldOf_99 : ad_D mm_X_fieldOf 99 (.iconst (-1)) 1 100 := ⟨by decide +kernel, rfl⟩
theorem dd_X_fieldOf_100 : ad_D mm_X_fieldOf 100 (.ireturn) 1 101 := ⟨by decide +kernel, rfl⟩
theorem dd_X_load_0 : ad_D mm_X_load 0 (.aload_n 0) 1 1 := ⟨by decide +kernel, rfl⟩
theorem dd_X_load_1 : ad_D mm_X_load 1 (.iload_n 1) 1 2 := ⟨by decide +kernel, rfl⟩
theorem dd_X_load_2 : ad_D mm_X_load 2 (.invokevirtual 187) 3 5 := ⟨by decide +kernel, rfl⟩
theorem dd_X_load_5 : ad_D mm_X_load 5 (.astore_n 3) 1 6 := ⟨by decide +kernel, rfl⟩
theorem dd_X_load_6 : ad_D mm_X_load 6 (.aload_n 3) 1 7 := ⟨by decide +kernel, rfl⟩
theorem dd_X_load_7 : ad_D mm_X_load 7 (.ifnonnull 5) 3 10 := ⟨by decide +kernel, rfl⟩
theorem dd_X_load_10 : ad_D mm_X_load 10 (.iconst (-1)) 1 11 := ⟨by decide +kernel, rfl⟩
theorem dd_X_load_11 : ad_D mm_X_load 11 (.ireturn) 1 12 := ⟨by decide +kernel, rfl⟩
theorem dd_X_load_12 : ad_D mm_X_load 12 (.iload_n 2) 1 13 := ⟨by decide +kernel, rfl⟩
theorem dd_X_load_13 : ad_D mm_X_load 13 (.tableswitch 107 0 8 #[51, 59, 64, 69, 74, 79, 84, 89, 102]) 51 64 := ⟨by decide +kernel, rfl⟩
theorem dd_X_load_64 : ad_D mm_X_load 64 (.aload_n 3) 1 65 := ⟨by decide +kernel, rfl⟩
theorem dd_X_load_65 : ad_D mm_X_load 65 (.getfield 191) 3 68 := ⟨by decide +kernel, rfl⟩
theorem dd_X_load_68 : ad_D mm_X_load 68 (.getfield 196) 3 71 := ⟨by decide +kernel, rfl⟩
theorem dd_X_load_71 : ad_D mm_X_load 71 (.ireturn) 1 72 := ⟨by decide +kernel, rfl⟩
theorem dd_X_load_72 : ad_D mm_X_load 72 (.aload_n 3) 1 73 := ⟨by decide +kernel, rfl⟩
theorem dd_X_load_73 : ad_D mm_X_load 73 (.getfield 199) 3 76 := ⟨by decide +kernel, rfl⟩
theorem dd_X_load_76 : ad_D mm_X_load 76 (.ireturn) 1 77 := ⟨by decide +kernel, rfl⟩
theorem dd_X_load_77 : ad_D mm_X_load 77 (.aload_n 3) 1 78 := ⟨by decide +kernel, rfl⟩
theorem dd_X_load_78 : ad_D mm_X_load 78 (.getfield 202) 3 81 := ⟨by decide +kernel, rfl⟩
theorem dd_X_load_81 : ad_D mm_X_load 81 (.ireturn) 1 82 := ⟨by decide +kernel, rfl⟩
theorem dd_X_load_82 : ad_D mm_X_load 82 (.aload_n 3) 1 83 := ⟨by decide +kernel, rfl⟩
theorem dd_X_load_83 : ad_D mm_X_load 83 (.getfield 205) 3 86 := ⟨by decide +kernel, rfl⟩
theorem dd_X_load_86 : ad_D mm_X_load 86 (.ireturn) 1 87 := ⟨by decide +kernel, rfl⟩
theorem dd_X_load_87 : ad_D mm_X_load 87 (.aload_n 3) 1 88 := ⟨by decide +kernel, rfl⟩
theorem dd_X_load_88 : ad_D mm_X_load 88 (.getfield 208) 3 91 := ⟨by decide +kernel, rfl⟩
theorem dd_X_load_91 : ad_D mm_X_load 91 (.ireturn) 1 92 := ⟨by decide +kernel, rfl⟩
theorem dd_X_load_92 : ad_D mm_X_load 92 (.aload_n 3) 1 93 := ⟨by decide +kernel, rfl⟩
theorem dd_X_load_93 : ad_D mm_X_load 93 (.getfield 211) 3 96 := ⟨by decide +kernel, rfl⟩
theorem dd_X_load_96 : ad_D mm_X_load 96 (.ireturn) 1 97 := ⟨by decide +kernel, rfl⟩
theorem dd_X_load_97 : ad_D mm_X_load 97 (.aload_n 3) 1 98 := ⟨by decide +kernel, rfl⟩
theorem dd_X_load_98 : ad_D mm_X_load 98 (.getfield 214) 3 101 := ⟨by decide +kernel, rfl⟩
theorem dd_X_load_101 : ad_D mm_X_load 101 (.ireturn) 1 102 := ⟨by decide +kernel, rfl⟩
theorem dd_X_load_102 : ad_D mm_X_load 102 (.aload_n 3) 1 103 := ⟨by decide +kernel, rfl⟩
theorem dd_X_load_103 : ad_D mm_X_load 103 (.invokevirtual 217) 3 106 := ⟨by decide +kernel, rfl⟩
theorem dd_X_load_106 : ad_D mm_X_load 106 (.ifCond .eq 7) 3 109 := ⟨by decide +kernel, rfl⟩
theorem dd_X_load_109 : ad_D mm_X_load 109 (.iconst 1) 1 110 := ⟨by decide +kernel, rfl⟩
theorem dd_X_load_110 : ad_D mm_X_load 110 (.goto 4) 3 113 := ⟨by decide +kernel, rfl⟩
theorem dd_X_load_113 : ad_D mm_X_load 113 (.iconst 0) 1 114 := ⟨by decide +kernel, rfl⟩
theorem dd_X_load_114 : ad_D mm_X_load 114 (.ireturn) 1 115 := ⟨by decide +kernel, rfl⟩
theorem dd_X_load_115 : ad_D mm_X_load 115 (.aload_n 3) 1 116 := ⟨by decide +kernel, rfl⟩
theorem dd_X_load_116 : ad_D mm_X_load 116 (.getfield 221) 3 119 := ⟨by decide +kernel, rfl⟩
theorem dd_X_load_119 : ad_D mm_X_load 119 (.ireturn) 1 120 := ⟨by decide +kernel, rfl⟩
theorem dd_X_load_120 : ad_D mm_X_load 120 (.iconst (-1)) 1 121 := ⟨by decide +kernel, rfl⟩
theorem dd_X_load_121 : ad_D mm_X_load 121 (.ireturn) 1 122 := ⟨by decide +kernel, rfl⟩
theorem dd_X_findLoad_0 : ad_D mm_X_findLoad 0 (.aload_n 0) 1 1 := ⟨by decide +kernel, rfl⟩
theorem dd_X_findLoad_1 : ad_D mm_X_findLoad 1 (.getfield 260) 3 4 := ⟨by decide +kernel, rfl⟩
theorem dd_X_findLoad_4 : ad_D mm_X_findLoad 4 (.astore_n 2) 1 5 := ⟨by decide +kernel, rfl⟩
theorem dd_X_findLoad_5 : ad_D mm_X_findLoad 5 (.aload_n 2) 1 6 := ⟨by decide +kernel, rfl⟩
theorem dd_X_findLoad_6 : ad_D mm_X_findLoad 6 (.ifnull 21) 3 9 := ⟨by decide +kernel, rfl⟩
theorem dd_X_findLoad_9 : ad_D mm_X_findLoad 9 (.aload_n 2) 1 10 := ⟨by decide +kernel, rfl⟩
theorem dd_X_findLoad_10 : ad_D mm_X_findLoad 10 (.getfield 259) 3 13 := ⟨by decide +kernel, rfl⟩
theorem dd_X_findLoad_13 : ad_D mm_X_findLoad 13 (.iload_n 1) 1 14 := ⟨by decide +kernel, rfl⟩
theorem dd_X_findLoad_14 : ad_D mm_X_findLoad 14 (.if_icmp .ne 5) 3 17 := ⟨by decide +kernel, rfl⟩
theorem dd_X_findLoad_17 : ad_D mm_X_findLoad 17 (.aload_n 2) 1 18 := ⟨by decide +kernel, rfl⟩
theorem dd_X_findLoad_18 : ad_D mm_X_findLoad 18 (.areturn) 1 19 := ⟨by decide +kernel, rfl⟩
theorem dd_X_findLoad_19 : ad_D mm_X_findLoad 19 (.aload_n 2) 1 20 := ⟨by decide +kernel, rfl⟩
theorem dd_X_findLoad_20 : ad_D mm_X_findLoad 20 (.getfield 263) 3 23 := ⟨by decide +kernel, rfl⟩
theorem dd_X_findLoad_23 : ad_D mm_X_findLoad 23 (.astore_n 2) 1 24 := ⟨by decide +kernel, rfl⟩
theorem dd_X_findLoad_24 : ad_D mm_X_findLoad 24 (.goto (-19)) 3 27 := ⟨by decide +kernel, rfl⟩
theorem dd_X_findLoad_27 : ad_D mm_X_findLoad 27 (.aconst_null) 1 28 := ⟨by decide +kernel, rfl⟩
theorem dd_X_findLoad_28 : ad_D mm_X_findLoad 28 (.areturn) 1 29 := ⟨by decide +kernel, rfl⟩
theorem dd_X_bundle_0 : ad_D mm_X_bundle 0 (.aload_n 0) 1 1 := ⟨by decide +kernel, rfl⟩
theorem dd_X_bundle_1 : ad_D mm_X_bundle 1 (.getfield 42) 3 4 := ⟨by decide +kernel, rfl⟩
theorem dd_X_bundle_4 : ad_D mm_X_bundle 4 (.iload_n 1) 1 5 := ⟨by decide +kernel, rfl⟩
theorem dd_X_bundle_5 : ad_D mm_X_bundle 5 (.invokevirtual 224) 3 8 := ⟨by decide +kernel, rfl⟩
theorem dd_X_bundle_8 : ad_D mm_X_bundle 8 (.ireturn) 1 9 := ⟨by decide +kernel, rfl⟩
theorem dd_Bundles_fieldOfTon_0 : ad_D mm_Bundles_fieldOfTon 0 (.iload_n 1) 1 1 := ⟨by decide +kernel, rfl⟩
theorem dd_Bundles_fieldOfTon_1 : ad_D mm_Bundles_fieldOfTon 1 (.ifCond .ge 5) 3 4 := ⟨by decide +kernel, rfl⟩
theorem dd_Bundles_fieldOfTon_4 : ad_D mm_Bundles_fieldOfTon 4 (.iconst (-1)) 1 5 := ⟨by decide +kernel, rfl⟩
theorem dd_Bundles_fieldOfTon_5 : ad_D mm_Bundles_fieldOfTon 5 (.ireturn) 1 6 := ⟨by decide +kernel, rfl⟩
theorem dd_Bundles_fieldOfTon_6 : ad_D mm_Bundles_fieldOfTon 6 (.aload_n 0) 1 7 := ⟨by decide +kernel, rfl⟩
theorem dd_Bundles_fieldOfTon_7 : ad_D mm_Bundles_fieldOfTon 7 (.getfield 31) 3 10 := ⟨by decide +kernel, rfl⟩
theorem dd_Bundles_fieldOfTon_10 : ad_D mm_Bundles_fieldOfTon 10 (.astore_n 2) 1 11 := ⟨by decide +kernel, rfl⟩
theorem dd_Bundles_fieldOfTon_11 : ad_D mm_Bundles_fieldOfTon 11 (.aload_n 2) 1 12 := ⟨by decide +kernel, rfl⟩
theorem dd_Bundles_fieldOfTon_12 : ad_D mm_Bundles_fieldOfTon 12 (.ifnull 24) 3 15 := ⟨by decide +kernel, rfl⟩
theorem dd_Bundles_fieldOfTon_15 : ad_D mm_Bundles_fieldOfTon 15 (.iload_n 1) 1 16 := ⟨by decide +kernel, rfl⟩
theorem dd_Bundles_fieldOfTon_16 : ad_D mm_Bundles_fieldOfTon 16 (.aload_n 2) 1 17 := ⟨by decide +kernel, rfl⟩
theorem dd_Bundles_fieldOfTon_17 : ad_D mm_Bundles_fieldOfTon 17 (.getfield 25) 3 20 := ⟨by decide +kernel, rfl⟩
theorem dd_Bundles_fieldOfTon_20 : ad_D mm_Bundles_fieldOfTon 20 (.if_icmp .ge 8) 3 23 := ⟨by decide +kernel, rfl⟩
theorem dd_Bundles_fieldOfTon_23 : ad_D mm_Bundles_fieldOfTon 23 (.aload_n 2) 1 24 := ⟨by decide +kernel, rfl⟩
theorem dd_Bundles_fieldOfTon_24 : ad_D mm_Bundles_fieldOfTon 24 (.getfield 19) 3 27 := ⟨by decide +kernel, rfl⟩
theorem dd_Bundles_fieldOfTon_27 : ad_D mm_Bundles_fieldOfTon 27 (.ireturn) 1 28 := ⟨by decide +kernel, rfl⟩
theorem dd_Bundles_fieldOfTon_28 : ad_D mm_Bundles_fieldOfTon 28 (.aload_n 2) 1 29 := ⟨by decide +kernel, rfl⟩
theorem dd_Bundles_fieldOfTon_29 : ad_D mm_Bundles_fieldOfTon 29 (.getfield 34) 3 32 := ⟨by decide +kernel, rfl⟩
theorem dd_Bundles_fieldOfTon_32 : ad_D mm_Bundles_fieldOfTon 32 (.astore_n 2) 1 33 := ⟨by decide +kernel, rfl⟩
theorem dd_Bundles_fieldOfTon_33 : ad_D mm_Bundles_fieldOfTon 33 (.goto (-22)) 3 36 := ⟨by decide +kernel, rfl⟩
theorem dd_Bundles_fieldOfTon_36 : ad_D mm_Bundles_fieldOfTon 36 (.iconst (-1)) 1 37 := ⟨by decide +kernel, rfl⟩
theorem dd_Bundles_fieldOfTon_37 : ad_D mm_Bundles_fieldOfTon 37 (.ireturn) 1 38 := ⟨by decide +kernel, rfl⟩
theorem dd_X_best_0 : ad_D mm_X_best 0 (.aload_n 0) 1 1 := ⟨by decide +kernel, rfl⟩
theorem dd_X_best_1 : ad_D mm_X_best 1 (.iload_n 1) 1 2 := ⟨by decide +kernel, rfl⟩
theorem dd_X_best_2 : ad_D mm_X_best 2 (.iload_n 2) 1 3 := ⟨by decide +kernel, rfl⟩
theorem dd_X_best_3 : ad_D mm_X_best 3 (.invokevirtual 227) 3 6 := ⟨by decide +kernel, rfl⟩
theorem dd_X_best_6 : ad_D mm_X_best 6 (.ifCond .eq 13) 3 9 := ⟨by decide +kernel, rfl⟩
theorem dd_X_best_9 : ad_D mm_X_best 9 (.aload_n 0) 1 10 := ⟨by decide +kernel, rfl⟩
theorem dd_X_best_10 : ad_D mm_X_best 10 (.getfield 49) 3 13 := ⟨by decide +kernel, rfl⟩
theorem dd_X_best_13 : ad_D mm_X_best 13 (.getfield 231) 3 16 := ⟨by decide +kernel, rfl⟩
theorem dd_X_best_16 : ad_D mm_X_best 16 (.goto 4) 3 19 := ⟨by decide +kernel, rfl⟩
theorem dd_X_best_19 : ad_D mm_X_best 19 (.iconst (-1)) 1 20 := ⟨by decide +kernel, rfl⟩
theorem dd_X_best_20 : ad_D mm_X_best 20 (.ireturn) 1 21 := ⟨by decide +kernel, rfl⟩
theorem dd_X_choose_0 : ad_D mm_X_choose 0 (.iload_n 2) 1 1 := ⟨by decide +kernel, rfl⟩
theorem dd_X_choose_1 : ad_D mm_X_choose 1 (.iconst 1) 1 2 := ⟨by decide +kernel, rfl⟩
theorem dd_X_choose_2 : ad_D mm_X_choose 2 (.bipush 9) 2 4 := ⟨by decide +kernel, rfl⟩
theorem dd_X_choose_4 : ad_D mm_X_choose 4 (.invokestatic 76) 3 7 := ⟨by decide +kernel, rfl⟩
theorem dd_X_choose_7 : ad_D mm_X_choose 7 (.ifCond .eq 14) 3 10 := ⟨by decide +kernel, rfl⟩
theorem dd_X_choose_10 : ad_D mm_X_choose 10 (.iload_n 1) 1 11 := ⟨by decide +kernel, rfl⟩
theorem dd_X_choose_11 : ad_D mm_X_choose 11 (.aload_n 0) 1 12 := ⟨by decide +kernel, rfl⟩
theorem dd_X_choose_12 : ad_D mm_X_choose 12 (.invokevirtual 340) 3 15 := ⟨by decide +kernel, rfl⟩
theorem dd_X_choose_15 : ad_D mm_X_choose 15 (.iconst (-1)) 1 16 := ⟨by decide +kernel, rfl⟩
theorem dd_X_choose_16 : ad_D mm_X_choose 16 (.ixor) 1 17 := ⟨by decide +kernel, rfl⟩
theorem dd_X_choose_17 : ad_D mm_X_choose 17 (.iand) 1 18 := ⟨by decide +kernel, rfl⟩
theorem dd_X_choose_18 : ad_D mm_X_choose 18 (.ifCond .eq 5) 3 21 := ⟨by decide +kernel, rfl⟩
theorem dd_X_choose_21 : ad_D mm_X_choose 21 (.iconst 0) 1 22 := ⟨by decide +kernel, rfl⟩
theorem dd_X_choose_22 : ad_D mm_X_choose 22 (.ireturn) 1 23 := ⟨by decide +kernel, rfl⟩
theorem dd_X_choose_23 : ad_D mm_X_choose 23 (.aload_n 0) 1 24 := ⟨by decide +kernel, rfl⟩
theorem dd_X_choose_24 : ad_D mm_X_choose 24 (.getfield 49) 3 27 := ⟨by decide +kernel, rfl⟩
theorem dd_X_choose_27 : ad_D mm_X_choose 27 (.aload_n 0) 1 28 := ⟨by decide +kernel, rfl⟩
theorem dd_X_choose_28 : ad_D mm_X_choose 28 (.getfield 19) 3 31 := ⟨by decide +kernel, rfl⟩
theorem dd_X_choose_31 : ad_D mm_X_choose 31 (.invokevirtual 343) 3 34 := ⟨by decide +kernel, rfl⟩
theorem dd_X_choose_34 : ad_D mm_X_choose 34 (.aload_n 0) 1 35 := ⟨by decide +kernel, rfl⟩
theorem dd_X_choose_35 : ad_D mm_X_choose 35 (.getfield 102) 3 38 := ⟨by decide +kernel, rfl⟩
theorem dd_X_choose_38 : ad_D mm_X_choose 38 (.astore_n 3) 1 39 := ⟨by decide +kernel, rfl⟩
theorem dd_X_choose_39 : ad_D mm_X_choose 39 (.aload_n 3) 1 40 := ⟨by decide +kernel, rfl⟩
theorem dd_X_choose_40 : ad_D mm_X_choose 40 (.ifnull 57) 3 43 := ⟨by decide +kernel, rfl⟩
theorem dd_X_choose_43 : ad_D mm_X_choose 43 (.iload_n 1) 1 44 := ⟨by decide +kernel, rfl⟩
theorem dd_X_choose_44 : ad_D mm_X_choose 44 (.aload_n 3) 1 45 := ⟨by decide +kernel, rfl⟩
theorem dd_X_choose_45 : ad_D mm_X_choose 45 (.getfield 196) 3 48 := ⟨by decide +kernel, rfl⟩
theorem dd_X_choose_48 : ad_D mm_X_choose 48 (.invokestatic 346) 3 51 := ⟨by decide +kernel, rfl⟩
theorem dd_X_choose_51 : ad_D mm_X_choose 51 (.ifCond .eq 38) 3 54 := ⟨by decide +kernel, rfl⟩
theorem dd_X_choose_54 : ad_D mm_X_choose 54 (.aload_n 3) 1 55 := ⟨by decide +kernel, rfl⟩
theorem dd_X_choose_55 : ad_D mm_X_choose 55 (.getfield 178) 3 58 := ⟨by decide +kernel, rfl⟩
theorem dd_X_choose_58 : ad_D mm_X_choose 58 (.aload_n 0) 1 59 := ⟨by decide +kernel, rfl⟩
theorem dd_X_choose_59 : ad_D mm_X_choose 59 (.getfield 13) 3 62 := ⟨by decide +kernel, rfl⟩
theorem dd_X_choose_62 : ad_D mm_X_choose 62 (.iadd) 1 63 := ⟨by decide +kernel, rfl⟩
theorem dd_X_choose_63 : ad_D mm_X_choose 63 (.iconst 1) 1 64 := ⟨by decide +kernel, rfl⟩
theorem dd_X_choose_64 : ad_D mm_X_choose 64 (.isub) 1 65 := ⟨by decide +kernel, rfl⟩
theorem dd_X_choose_65 : ad_D mm_X_choose 65 (.aload_n 0) 1 66 := ⟨by decide +kernel, rfl⟩
theorem dd_X_choose_66 : ad_D mm_X_choose 66 (.getfield 13) 3 69 := ⟨by decide +kernel, rfl⟩
theorem dd_X_choose_69 : ad_D mm_X_choose 69 (.invokestatic 337) 3 72 := ⟨by decide +kernel, rfl⟩
theorem dd_X_choose_72 : ad_D mm_X_choose 72 (.istore 4) 2 74 := ⟨by decide +kernel, rfl⟩
theorem dd_X_choose_74 : ad_D mm_X_choose 74 (.aload_n 0) 1 75 := ⟨by decide +kernel, rfl⟩
theorem dd_X_choose_75 : ad_D mm_X_choose 75 (.getfield 49) 3 78 := ⟨by decide +kernel, rfl⟩
theorem dd_X_choose_78 : ad_D mm_X_choose 78 (.aload_n 3) 1 79 := ⟨by decide +kernel, rfl⟩
theorem dd_X_choose_79 : ad_D mm_X_choose 79 (.aload_n 0) 1 80 := ⟨by decide +kernel, rfl⟩
theorem dd_X_choose_80 : ad_D mm_X_choose 80 (.getfield 80) 3 83 := ⟨by decide +kernel, rfl⟩
theorem dd_X_choose_83 : ad_D mm_X_choose 83 (.iload 4) 2 85 := ⟨by decide +kernel, rfl⟩
theorem dd_X_choose_85 : ad_D mm_X_choose 85 (.iadd) 1 86 := ⟨by decide +kernel, rfl⟩
theorem dd_X_choose_86 : ad_D mm_X_choose 86 (.invokevirtual 349) 3 89 := ⟨by decide +kernel, rfl⟩
theorem dd_X_choose_89 : ad_D mm_X_choose 89 (.aload_n 3) 1 90 := ⟨by decide +kernel, rfl⟩
theorem dd_X_choose_90 : ad_D mm_X_choose 90 (.getfield 105) 3 93 := ⟨by decide +kernel, rfl⟩
theorem dd_X_choose_93 : ad_D mm_X_choose 93 (.astore_n 3) 1 94 := ⟨by decide +kernel, rfl⟩
theorem dd_X_choose_94 : ad_D mm_X_choose 94 (.goto (-55)) 3 97 := ⟨by decide +kernel, rfl⟩
theorem dd_X_choose_97 : ad_D mm_X_choose 97 (.aload_n 0) 1 98 := ⟨by decide +kernel, rfl⟩
theorem dd_X_choose_98 : ad_D mm_X_choose 98 (.getfield 49) 3 101 := ⟨by decide +kernel, rfl⟩
theorem dd_X_choose_101 : ad_D mm_X_choose 101 (.iload_n 2) 1 102 := ⟨by decide +kernel, rfl⟩
theorem dd_X_choose_102 : ad_D mm_X_choose 102 (.invokevirtual 353) 3 105 := ⟨by decide +kernel, rfl⟩
theorem dd_X_choose_105 : ad_D mm_X_choose 105 (.iconst 1) 1 106 := ⟨by decide +kernel, rfl⟩
theorem dd_X_choose_106 : ad_D mm_X_choose 106 (.ireturn) 1 107 := ⟨by decide +kernel, rfl⟩
theorem dd_X_standingFields_0 : ad_D mm_X_standingFields 0 (.iconst 0) 1 1 := ⟨by decide +kernel, rfl⟩
theorem dd_X_standingFields_1 : ad_D mm_X_standingFields 1 (.istore_n 1) 1 2 := ⟨by decide +kernel, rfl⟩
theorem dd_X_standingFields_2 : ad_D mm_X_standingFields 2 (.aload_n 0) 1 3 := ⟨by decide +kernel, rfl⟩
theorem dd_X_standingFields_3 : ad_D mm_X_standingFields 3 (.getfield 102) 3 6 := ⟨by decide +kernel, rfl⟩
theorem dd_X_standingFields_6 : ad_D mm_X_standingFields 6 (.astore_n 2) 1 7 := ⟨by decide +kernel, rfl⟩
theorem dd_X_standingFields_7 : ad_D mm_X_standingFields 7 (.aload_n 2) 1 8 := ⟨by decide +kernel, rfl⟩
theorem dd_X_standingFields_8 : ad_D mm_X_standingFields 8 (.ifnull 27) 3 11 := ⟨by decide +kernel, rfl⟩
theorem dd_X_standingFields_11 : ad_D mm_X_standingFields 11 (.aload_n 2) 1 12 := ⟨by decide +kernel, rfl⟩
theorem dd_X_standingFields_12 : ad_D mm_X_standingFields 12 (.getfield 125) 3 15 := ⟨by decide +kernel, rfl⟩
theorem dd_X_standingFields_15 : ad_D mm_X_standingFields 15 (.ifCond .ne 12) 3 18 := ⟨by decide +kernel, rfl⟩
theorem dd_X_standingFields_18 : ad_D mm_X_standingFields 18 (.iload_n 1) 1 19 := ⟨by decide +kernel, rfl⟩
theorem dd_X_standingFields_19 : ad_D mm_X_standingFields 19 (.iconst 1) 1 20 := ⟨by decide +kernel, rfl⟩
theorem dd_X_standingFields_20 : ad_D mm_X_standingFields 20 (.aload_n 2) 1 21 := ⟨by decide +kernel, rfl⟩
theorem dd_X_standingFields_21 : ad_D mm_X_standingFields 21 (.getfield 196) 3 24 := ⟨by decide +kernel, rfl⟩
theorem dd_X_standingFields_24 : ad_D mm_X_standingFields 24 (.ishl) 1 25 := ⟨by decide +kernel, rfl⟩
theorem dd_X_standingFields_25 : ad_D mm_X_standingFields 25 (.ior) 1 26 := ⟨by decide +kernel, rfl⟩
theorem dd_X_standingFields_26 : ad_D mm_X_standingFields 26 (.istore_n 1) 1 27 := ⟨by decide +kernel, rfl⟩
theorem dd_X_standingFields_27 : ad_D mm_X_standingFields 27 (.aload_n 2) 1 28 := ⟨by decide +kernel, rfl⟩
theorem dd_X_standingFields_28 : ad_D mm_X_standingFields 28 (.getfield 105) 3 31 := ⟨by decide +kernel, rfl⟩
theorem dd_X_standingFields_31 : ad_D mm_X_standingFields 31 (.astore_n 2) 1 32 := ⟨by decide +kernel, rfl⟩
theorem dd_X_standingFields_32 : ad_D mm_X_standingFields 32 (.goto (-25)) 3 35 := ⟨by decide +kernel, rfl⟩
theorem dd_X_standingFields_35 : ad_D mm_X_standingFields 35 (.iload_n 1) 1 36 := ⟨by decide +kernel, rfl⟩
theorem dd_X_standingFields_36 : ad_D mm_X_standingFields 36 (.ireturn) 1 37 := ⟨by decide +kernel, rfl⟩
theorem dd_Chooser_clear_0 : ad_D mm_Chooser_clear 0 (.aload_n 0) 1 1 := ⟨by decide +kernel, rfl⟩
theorem dd_Chooser_clear_1 : ad_D mm_Chooser_clear 1 (.iload_n 1) 1 2 := ⟨by decide +kernel, rfl⟩
theorem dd_Chooser_clear_2 : ad_D mm_Chooser_clear 2 (.putfield 32) 3 5 := ⟨by decide +kernel, rfl⟩
theorem dd_Chooser_clear_5 : ad_D mm_Chooser_clear 5 (.aload_n 0) 1 6 := ⟨by decide +kernel, rfl⟩
theorem dd_Chooser_clear_6 : ad_D mm_Chooser_clear 6 (.iconst 0) 1 7 := ⟨by decide +kernel, rfl⟩
theorem dd_Chooser_clear_7 : ad_D mm_Chooser_clear 7 (.putfield 36) 3 10 := ⟨by decide +kernel, rfl⟩
theorem dd_Chooser_clear_10 : ad_D mm_Chooser_clear 10 (.aload_n 0) 1 11 := ⟨by decide +kernel, rfl⟩
theorem dd_Chooser_clear_11 : ad_D mm_Chooser_clear 11 (.iconst 0) 1 12 := ⟨by decide +kernel, rfl⟩
theorem dd_Chooser_clear_12 : ad_D mm_Chooser_clear 12 (.putfield 39) 3 15 := ⟨by decide +kernel, rfl⟩
theorem dd_Chooser_clear_15 : ad_D mm_Chooser_clear 15 (.return_) 1 16 := ⟨by decide +kernel, rfl⟩
theorem dd_X_holdsBit_0 : ad_D mm_X_holdsBit 0 (.iload_n 0) 1 1 := ⟨by decide +kernel, rfl⟩
theorem dd_X_holdsBit_1 : ad_D mm_X_holdsBit 1 (.iload_n 1) 1 2 := ⟨by decide +kernel, rfl⟩
theorem dd_X_holdsBit_2 : ad_D mm_X_holdsBit 2 (.ishr) 1 3 := ⟨by decide +kernel, rfl⟩
theorem dd_X_holdsBit_3 : ad_D mm_X_holdsBit 3 (.iconst 1) 1 4 := ⟨by decide +kernel, rfl⟩
theorem dd_X_holdsBit_4 : ad_D mm_X_holdsBit 4 (.iand) 1 5 := ⟨by decide +kernel, rfl⟩
theorem dd_X_holdsBit_5 : ad_D mm_X_holdsBit 5 (.ifCond .eq 7) 3 8 := ⟨by decide +kernel, rfl⟩
theorem dd_X_holdsBit_8 : ad_D mm_X_holdsBit 8 (.iconst 1) 1 9 := ⟨by decide +kernel, rfl⟩
theorem dd_X_holdsBit_9 : ad_D mm_X_holdsBit 9 (.goto 4) 3 12 := ⟨by decide +kernel, rfl⟩
theorem dd_X_holdsBit_12 : ad_D mm_X_holdsBit 12 (.iconst 0) 1 13 := ⟨by decide +kernel, rfl⟩
theorem dd_X_holdsBit_13 : ad_D mm_X_holdsBit 13 (.ireturn) 1 14 := ⟨by decide +kernel, rfl⟩
theorem dd_Chooser_offer_0 : ad_D mm_Chooser_offer 0 (.aload_n 1) 1 1 := ⟨by decide +kernel, rfl⟩
theorem dd_Chooser_offer_1 : ad_D mm_Chooser_offer 1 (.getfield 42) 3 4 := ⟨by decide +kernel, rfl⟩
theorem dd_Chooser_offer_4 : ad_D mm_Chooser_offer 4 (.istore_n 3) 1 5 := ⟨by decide +kernel, rfl⟩
theorem dd_Chooser_offer_5 : ad_D mm_Chooser_offer 5 (.iload_n 2) 1 6 := ⟨by decide +kernel, rfl⟩
theorem dd_Chooser_offer_6 : ad_D mm_Chooser_offer 6 (.aload_n 1) 1 7 := ⟨by decide +kernel, rfl⟩
theorem dd_Chooser_offer_7 : ad_D mm_Chooser_offer 7 (.invokevirtual 47) 3 10 := ⟨by decide +kernel, rfl⟩
theorem dd_Chooser_offer_10 : ad_D mm_Chooser_offer 10 (.iadd) 1 11 := ⟨by decide +kernel, rfl⟩
theorem dd_Chooser_offer_11 : ad_D mm_Chooser_offer 11 (.istore 4) 2 13 := ⟨by decide +kernel, rfl⟩
theorem dd_Chooser_offer_13 : ad_D mm_Chooser_offer 13 (.iload_n 2) 1 14 := ⟨by decide +kernel, rfl⟩
theorem dd_Chooser_offer_14 : ad_D mm_Chooser_offer 14 (.aload_n 1) 1 15 := ⟨by decide +kernel, rfl⟩
theorem dd_Chooser_offer_15 : ad_D mm_Chooser_offer 15 (.invokevirtual 51) 3 18 := ⟨by decide +kernel, rfl⟩
theorem dd_Chooser_offer_18 : ad_D mm_Chooser_offer 18 (.iadd) 1 19 := ⟨by decide +kernel, rfl⟩
theorem dd_Chooser_offer_19 : ad_D mm_Chooser_offer 19 (.istore 5) 2 21 := ⟨by decide +kernel, rfl⟩
theorem dd_Chooser_offer_21 : ad_D mm_Chooser_offer 21 (.aload_n 1) 1 22 := ⟨by decide +kernel, rfl⟩
theorem dd_Chooser_offer_22 : ad_D mm_Chooser_offer 22 (.getfield 54) 3 25 := ⟨by decide +kernel, rfl⟩
theorem dd_Chooser_offer_25 : ad_D mm_Chooser_offer 25 (.aload_n 1) 1 26 := ⟨by decide +kernel, rfl⟩
theorem dd_Chooser_offer_26 : ad_D mm_Chooser_offer 26 (.iload_n 2) 1 27 := ⟨by decide +kernel, rfl⟩
theorem dd_Chooser_offer_27 : ad_D mm_Chooser_offer 27 (.invokevirtual 56) 3 30 := ⟨by decide +kernel, rfl⟩
theorem dd_Chooser_offer_30 : ad_D mm_Chooser_offer 30 (.imul) 1 31 := ⟨by decide +kernel, rfl⟩
theorem dd_Chooser_offer_31 : ad_D mm_Chooser_offer 31 (.istore 6) 2 33 := ⟨by decide +kernel, rfl⟩
theorem dd_Chooser_offer_33 : ad_D mm_Chooser_offer 33 (.iload 6) 2 35 := ⟨by decide +kernel, rfl⟩
theorem dd_Chooser_offer_35 : ad_D mm_Chooser_offer 35 (.ifCond .eq 30) 3 38 := ⟨by decide +kernel, rfl⟩
theorem dd_Chooser_offer_38 : ad_D mm_Chooser_offer 38 (.aload_n 1) 1 39 := ⟨by decide +kernel, rfl⟩
theorem dd_Chooser_offer_39 : ad_D mm_Chooser_offer 39 (.getfield 54) 3 42 := ⟨by decide +kernel, rfl⟩
theorem dd_Chooser_offer_42 : ad_D mm_Chooser_offer 42 (.aload_n 0) 1 43 := ⟨by decide +kernel, rfl⟩
theorem dd_Chooser_offer_43 : ad_D mm_Chooser_offer 43 (.getfield 32) 3 46 := ⟨by decide +kernel, rfl⟩
theorem dd_Chooser_offer_46 : ad_D mm_Chooser_offer 46 (.iload 5) 2 48 := ⟨by decide +kernel, rfl⟩
theorem dd_Chooser_offer_48 : ad_D mm_Chooser_offer 48 (.iload 4) 2 50 := ⟨by decide +kernel, rfl⟩
theorem dd_Chooser_offer_50 : ad_D mm_Chooser_offer 50 (.isub) 1 51 := ⟨by decide +kernel, rfl⟩
theorem dd_Chooser_offer_51 : ad_D mm_Chooser_offer 51 (.imul) 1 52 := ⟨by decide +kernel, rfl⟩
theorem dd_Chooser_offer_52 : ad_D mm_Chooser_offer 52 (.if_icmp .gt 13) 3 55 := ⟨by decide +kernel, rfl⟩
theorem dd_Chooser_offer_55 : ad_D mm_Chooser_offer 55 (.iload_n 3) 1 56 := ⟨by decide +kernel, rfl⟩
theorem dd_Chooser_offer_56 : ad_D mm_Chooser_offer 56 (.iconst 0) 1 57 := ⟨by decide +kernel, rfl⟩
theorem dd_Chooser_offer_57 : ad_D mm_Chooser_offer 57 (.bipush 15) 2 59 := ⟨by decide +kernel, rfl⟩
theorem dd_Chooser_offer_59 : ad_D mm_Chooser_offer 59 (.invokestatic 60) 3 62 := ⟨by decide +kernel, rfl⟩
theorem dd_Chooser_offer_62 : ad_D mm_Chooser_offer 62 (.ifCond .ne 4) 3 65 := ⟨by decide +kernel, rfl⟩
theorem dd_Chooser_offer_65 : ad_D mm_Chooser_offer 65 (.return_) 1 66 := ⟨by decide +kernel, rfl⟩
theorem dd_Chooser_offer_66 : ad_D mm_Chooser_offer 66 (.aload_n 0) 1 67 := ⟨by decide +kernel, rfl⟩
theorem dd_Chooser_offer_67 : ad_D mm_Chooser_offer 67 (.getfield 9) 3 70 := ⟨by decide +kernel, rfl⟩
theorem dd_Chooser_offer_70 : ad_D mm_Chooser_offer 70 (.iload_n 3) 1 71 := ⟨by decide +kernel, rfl⟩
theorem dd_Chooser_offer_71 : ad_D mm_Chooser_offer 71 (.aload_n 1) 1 72 := ⟨by decide +kernel, rfl⟩
theorem dd_Chooser_offer_72 : ad_D mm_Chooser_offer 72 (.getfield 54) 3 75 := ⟨by decide +kernel, rfl⟩
theorem dd_Chooser_offer_75 : ad_D mm_Chooser_offer 75 (.iastore) 1 76 := ⟨by decide +kernel, rfl⟩
theorem dd_Chooser_offer_76 : ad_D mm_Chooser_offer 76 (.aload_n 0) 1 77 := ⟨by decide +kernel, rfl⟩
theorem dd_Chooser_offer_77 : ad_D mm_Chooser_offer 77 (.getfield 15) 3 80 := ⟨by decide +kernel, rfl⟩
theorem dd_Chooser_offer_80 : ad_D mm_Chooser_offer 80 (.iload_n 3) 1 81 := ⟨by decide +kernel, rfl⟩
theorem dd_Chooser_offer_81 : ad_D mm_Chooser_offer 81 (.iload 6) 2 83 := ⟨by decide +kernel, rfl⟩
theorem dd_Chooser_offer_83 : ad_D mm_Chooser_offer 83 (.iastore) 1 84 := ⟨by decide +kernel, rfl⟩
theorem dd_Chooser_offer_84 : ad_D mm_Chooser_offer 84 (.aload_n 0) 1 85 := ⟨by decide +kernel, rfl⟩
theorem dd_Chooser_offer_85 : ad_D mm_Chooser_offer 85 (.getfield 18) 3 88 := ⟨by decide +kernel, rfl⟩
theorem dd_Chooser_offer_88 : ad_D mm_Chooser_offer 88 (.iload_n 3) 1 89 := ⟨by decide +kernel, rfl⟩
theorem dd_Chooser_offer_89 : ad_D mm_Chooser_offer 89 (.iload 4) 2 91 := ⟨by decide +kernel, rfl⟩
theorem dd_Chooser_offer_91 : ad_D mm_Chooser_offer 91 (.iastore) 1 92 := ⟨by decide +kernel, rfl⟩
theorem dd_Chooser_offer_92 : ad_D mm_Chooser_offer 92 (.iload 5) 2 94 := ⟨by decide +kernel, rfl⟩
theorem dd_Chooser_offer_94 : ad_D mm_Chooser_offer 94 (.iconst 4) 1 95 := ⟨by decide +kernel, rfl⟩
theorem dd_Chooser_offer_95 : ad_D mm_Chooser_offer 95 (.ishl) 1 96 := ⟨by decide +kernel, rfl⟩
theorem dd_Chooser_offer_96 : ad_D mm_Chooser_offer 96 (.iload_n 3) 1 97 := ⟨by decide +kernel, rfl⟩
theorem dd_Chooser_offer_97 : ad_D mm_Chooser_offer 97 (.ior) 1 98 := ⟨by decide +kernel, rfl⟩
theorem dd_Chooser_offer_98 : ad_D mm_Chooser_offer 98 (.aload_n 0) 1 99 := ⟨by decide +kernel, rfl⟩
theorem dd_Chooser_offer_99 : ad_D mm_Chooser_offer 99 (.getfield 21) 3 102 := ⟨by decide +kernel, rfl⟩
theorem dd_Chooser_offer_102 : ad_D mm_Chooser_offer 102 (.aload_n 0) 1 103 := ⟨by decide +kernel, rfl⟩
theorem dd_Chooser_offer_103 : ad_D mm_Chooser_offer 103 (.getfield 39) 3 106 := ⟨by decide +kernel, rfl⟩
theorem dd_Chooser_offer_106 : ad_D mm_Chooser_offer 106 (.invokestatic 64) 3 109 := ⟨by decide +kernel, rfl⟩
theorem dd_Chooser_offer_109 : ad_D mm_Chooser_offer 109 (.iload 6) 2 111 := ⟨by decide +kernel, rfl⟩
theorem dd_Chooser_offer_111 : ad_D mm_Chooser_offer 111 (.iconst 4) 1 112 := ⟨by decide +kernel, rfl⟩
theorem dd_Chooser_offer_112 : ad_D mm_Chooser_offer 112 (.ishl) 1 113 := ⟨by decide +kernel, rfl⟩
theorem dd_Chooser_offer_113 : ad_D mm_Chooser_offer 113 (.iload_n 3) 1 114 := ⟨by decide +kernel, rfl⟩
theorem dd_Chooser_offer_114 : ad_D mm_Chooser_offer 114 (.ior) 1 115 := ⟨by decide +kernel, rfl⟩
theorem dd_Chooser_offer_115 : ad_D mm_Chooser_offer 115 (.aload_n 0) 1 116 := ⟨by decide +kernel, rfl⟩
theorem dd_Chooser_offer_116 : ad_D mm_Chooser_offer 116 (.getfield 24) 3 119 := ⟨by decide +kernel, rfl⟩
theorem dd_Chooser_offer_119 : ad_D mm_Chooser_offer 119 (.aload_n 0) 1 120 := ⟨by decide +kernel, rfl⟩
theorem dd_Chooser_offer_120 : ad_D mm_Chooser_offer 120 (.getfield 39) 3 123 := ⟨by decide +kernel, rfl⟩
theorem dd_Chooser_offer_123 : ad_D mm_Chooser_offer 123 (.invokestatic 64) 3 126 := ⟨by decide +kernel, rfl⟩
theorem dd_Chooser_offer_126 : ad_D mm_Chooser_offer 126 (.aload_n 0) 1 127 := ⟨by decide +kernel, rfl⟩
theorem dd_Chooser_offer_127 : ad_D mm_Chooser_offer 127 (.dup) 1 128 := ⟨by decide +kernel, rfl⟩
theorem dd_Chooser_offer_128 : ad_D mm_Chooser_offer 128 (.getfield 36) 3 131 := ⟨by decide +kernel, rfl⟩
theorem dd_Chooser_offer_131 : ad_D mm_Chooser_offer 131 (.iconst 1) 1 132 := ⟨by decide +kernel, rfl⟩
theorem dd_Chooser_offer_132 : ad_D mm_Chooser_offer 132 (.iload_n 3) 1 133 := ⟨by decide +kernel, rfl⟩
theorem dd_Chooser_offer_133 : ad_D mm_Chooser_offer 133 (.ishl) 1 134 := ⟨by decide +kernel, rfl⟩
theorem dd_Chooser_offer_134 : ad_D mm_Chooser_offer 134 (.ior) 1 135 := ⟨by decide +kernel, rfl⟩
theorem dd_Chooser_offer_135 : ad_D mm_Chooser_offer 135 (.putfield 36) 3 138 := ⟨by decide +kernel, rfl⟩
theorem dd_Chooser_offer_138 : ad_D mm_Chooser_offer 138 (.aload_n 0) 1 139 := ⟨by decide +kernel, rfl⟩
theorem dd_Chooser_offer_139 : ad_D mm_Chooser_offer 139 (.dup) 1 140 := ⟨by decide +kernel, rfl⟩
theorem dd_Chooser_offer_140 : ad_D mm_Chooser_offer 140 (.getfield 39) 3 143 := ⟨by decide +kernel, rfl⟩
theorem dd_Chooser_offer_143 : ad_D mm_Chooser_offer 143 (.iconst 1) 1 144 := ⟨by decide +kernel, rfl⟩
theorem dd_Chooser_offer_144 : ad_D mm_Chooser_offer 144 (.iadd) 1 145 := ⟨by decide +kernel, rfl⟩
theorem dd_Chooser_offer_145 : ad_D mm_Chooser_offer 145 (.putfield 39) 3 148 := ⟨by decide +kernel, rfl⟩
theorem dd_Chooser_offer_148 : ad_D mm_Chooser_offer 148 (.return_) 1 149 := ⟨by decide +kernel, rfl⟩
theorem dd_Chooser_insert_0 : ad_D mm_Chooser_insert 0 (.iload_n 2) 1 1 := ⟨by decide +kernel, rfl⟩
theorem dd_Chooser_insert_1 : ad_D mm_Chooser_insert 1 (.aload_n 1) 1 2 := ⟨by decide +kernel, rfl⟩
theorem dd_Chooser_insert_2 : ad_D mm_Chooser_insert 2 (.arraylength) 1 3 := ⟨by decide +kernel, rfl⟩
theorem dd_Chooser_insert_3 : ad_D mm_Chooser_insert 3 (.iconst 1) 1 4 := ⟨by decide +kernel, rfl⟩
theorem dd_Chooser_insert_4 : ad_D mm_Chooser_insert 4 (.isub) 1 5 := ⟨by decide +kernel, rfl⟩
theorem dd_Chooser_insert_5 : ad_D mm_Chooser_insert 5 (.invokestatic 68) 3 8 := ⟨by decide +kernel, rfl⟩
theorem dd_Chooser_insert_8 : ad_D mm_Chooser_insert 8 (.istore_n 3) 1 9 := ⟨by decide +kernel, rfl⟩
theorem dd_Chooser_insert_9 : ad_D mm_Chooser_insert 9 (.iload_n 3) 1 10 := ⟨by decide +kernel, rfl⟩
theorem dd_Chooser_insert_10 : ad_D mm_Chooser_insert 10 (.ifCond .le 26) 3 13 := ⟨by decide +kernel, rfl⟩
theorem dd_Chooser_insert_13 : ad_D mm_Chooser_insert 13 (.aload_n 1) 1 14 := ⟨by decide +kernel, rfl⟩
theorem dd_Chooser_insert_14 : ad_D mm_Chooser_insert 14 (.iload_n 3) 1 15 := ⟨by decide +kernel, rfl⟩
theorem dd_Chooser_insert_15 : ad_D mm_Chooser_insert 15 (.iconst 1) 1 16 := ⟨by decide +kernel, rfl⟩
theorem dd_Chooser_insert_16 : ad_D mm_Chooser_insert 16 (.isub) 1 17 := ⟨by decide +kernel, rfl⟩
theorem dd_Chooser_insert_17 : ad_D mm_Chooser_insert 17 (.iaload) 1 18 := ⟨by decide +kernel, rfl⟩
theorem dd_Chooser_insert_18 : ad_D mm_Chooser_insert 18 (.iload_n 0) 1 19 := ⟨by decide +kernel, rfl⟩
theorem dd_Chooser_insert_19 : ad_D mm_Chooser_insert 19 (.if_icmp .le 17) 3 22 := ⟨by decide +kernel, rfl⟩
theorem dd_Chooser_insert_22 : ad_D mm_Chooser_insert 22 (.aload_n 1) 1 23 := ⟨by decide +kernel, rfl⟩
theorem dd_Chooser_insert_23 : ad_D mm_Chooser_insert 23 (.iload_n 3) 1 24 := ⟨by decide +kernel, rfl⟩
theorem dd_Chooser_insert_24 : ad_D mm_Chooser_insert 24 (.aload_n 1) 1 25 := ⟨by decide +kernel, rfl⟩
theorem dd_Chooser_insert_25 : ad_D mm_Chooser_insert 25 (.iload_n 3) 1 26 := ⟨by decide +kernel, rfl⟩
theorem dd_Chooser_insert_26 : ad_D mm_Chooser_insert 26 (.iconst 1) 1 27 := ⟨by decide +kernel, rfl⟩
theorem dd_Chooser_insert_27 : ad_D mm_Chooser_insert 27 (.isub) 1 28 := ⟨by decide +kernel, rfl⟩
theorem dd_Chooser_insert_28 : ad_D mm_Chooser_insert 28 (.iaload) 1 29 := ⟨by decide +kernel, rfl⟩
theorem dd_Chooser_insert_29 : ad_D mm_Chooser_insert 29 (.iastore) 1 30 := ⟨by decide +kernel, rfl⟩
theorem dd_Chooser_insert_30 : ad_D mm_Chooser_insert 30 (.iinc 3 (-1)) 3 33 := ⟨by decide +kernel, rfl⟩
theorem dd_Chooser_insert_33 : ad_D mm_Chooser_insert 33 (.goto (-24)) 3 36 := ⟨by decide +kernel, rfl⟩
theorem dd_Chooser_insert_36 : ad_D mm_Chooser_insert 36 (.aload_n 1) 1 37 := ⟨by decide +kernel, rfl⟩
theorem dd_Chooser_insert_37 : ad_D mm_Chooser_insert 37 (.iload_n 3) 1 38 := ⟨by decide +kernel, rfl⟩
theorem dd_Chooser_insert_38 : ad_D mm_Chooser_insert 38 (.iload_n 0) 1 39 := ⟨by decide +kernel, rfl⟩
theorem dd_Chooser_insert_39 : ad_D mm_Chooser_insert 39 (.iastore) 1 40 := ⟨by decide +kernel, rfl⟩
theorem dd_Chooser_insert_40 : ad_D mm_Chooser_insert 40 (.return_) 1 41 := ⟨by decide +kernel, rfl⟩
theorem dd_Chooser_decide_0 : ad_D mm_Chooser_decide 0 (.iconst 1) 1 1 := ⟨by decide +kernel, rfl⟩
theorem dd_Chooser_decide_1 : ad_D mm_Chooser_decide 1 (.istore_n 2) 1 2 := ⟨by decide +kernel, rfl⟩
theorem dd_Chooser_decide_2 : ad_D mm_Chooser_decide 2 (.iload_n 2) 1 3 := ⟨by decide +kernel, rfl⟩
theorem dd_Chooser_decide_3 : ad_D mm_Chooser_decide 3 (.bipush 16) 2 5 := ⟨by decide +kernel, rfl⟩
theorem dd_Chooser_decide_5 : ad_D mm_Chooser_decide 5 (.if_icmp .gt 14) 3 8 := ⟨by decide +kernel, rfl⟩
theorem dd_Chooser_decide_8 : ad_D mm_Chooser_decide 8 (.aload_n 0) 1 9 := ⟨by decide +kernel, rfl⟩
theorem dd_Chooser_decide_9 : ad_D mm_Chooser_decide 9 (.iload_n 2) 1 10 := ⟨by decide +kernel, rfl⟩
theorem dd_Chooser_decide_10 : ad_D mm_Chooser_decide 10 (.invokevirtual 74) 3 13 := ⟨by decide +kernel, rfl⟩
theorem dd_Chooser_decide_13 : ad_D mm_Chooser_decide 13 (.iinc 2 1) 3 16 := ⟨by decide +kernel, rfl⟩
theorem dd_Chooser_decide_16 : ad_D mm_Chooser_decide 16 (.goto (-14)) 3 19 := ⟨by decide +kernel, rfl⟩
theorem dd_Chooser_decide_19 : ad_D mm_Chooser_decide 19 (.aload_n 0) 1 20 := ⟨by decide +kernel, rfl⟩
theorem dd_Chooser_decide_20 : ad_D mm_Chooser_decide 20 (.aload_n 0) 1 21 := ⟨by decide +kernel, rfl⟩
theorem dd_Chooser_decide_21 : ad_D mm_Chooser_decide 21 (.iload_n 1) 1 22 := ⟨by decide +kernel, rfl⟩
theorem dd_Chooser_decide_22 : ad_D mm_Chooser_decide 22 (.invokevirtual 78) 3 25 := ⟨by decide +kernel, rfl⟩
theorem dd_Chooser_decide_25 : ad_D mm_Chooser_decide 25 (.iconst 1) 1 26 := ⟨by decide +kernel, rfl⟩
theorem dd_Chooser_decide_26 : ad_D mm_Chooser_decide 26 (.isub) 1 27 := ⟨by decide +kernel, rfl⟩
theorem dd_Chooser_decide_27 : ad_D mm_Chooser_decide 27 (.putfield 81) 3 30 := ⟨by decide +kernel, rfl⟩
theorem dd_Chooser_decide_30 : ad_D mm_Chooser_decide 30 (.aload_n 0) 1 31 := ⟨by decide +kernel, rfl⟩
theorem dd_Chooser_decide_31 : ad_D mm_Chooser_decide 31 (.iconst 0) 1 32 := ⟨by decide +kernel, rfl⟩
theorem dd_Chooser_decide_32 : ad_D mm_Chooser_decide 32 (.putfield 84) 3 35 := ⟨by decide +kernel, rfl⟩
theorem dd_Chooser_decide_35 : ad_D mm_Chooser_decide 35 (.aload_n 0) 1 36 := ⟨by decide +kernel, rfl⟩
theorem dd_Chooser_decide_36 : ad_D mm_Chooser_decide 36 (.bipush 16) 2 38 := ⟨by decide +kernel, rfl⟩
theorem dd_Chooser_decide_38 : ad_D mm_Chooser_decide 38 (.iload_n 1) 1 39 := ⟨by decide +kernel, rfl⟩
theorem dd_Chooser_decide_39 : ad_D mm_Chooser_decide 39 (.iconst 0) 1 40 := ⟨by decide +kernel, rfl⟩
theorem dd_Chooser_decide_40 : ad_D mm_Chooser_decide 40 (.iconst 0) 1 41 := ⟨by decide +kernel, rfl⟩
theorem dd_Chooser_decide_41 : ad_D mm_Chooser_decide 41 (.invokevirtual 87) 3 44 := ⟨by decide +kernel, rfl⟩
theorem dd_Chooser_decide_44 : ad_D mm_Chooser_decide 44 (.return_) 1 45 := ⟨by decide +kernel, rfl⟩
theorem dd_Chooser_sumDearest_0 : ad_D mm_Chooser_sumDearest 0 (.iconst 0) 1 1 := ⟨by decide +kernel, rfl⟩
theorem dd_Chooser_sumDearest_1 : ad_D mm_Chooser_sumDearest 1 (.istore_n 2) 1 2 := ⟨by decide +kernel, rfl⟩
theorem dd_Chooser_sumDearest_2 : ad_D mm_Chooser_sumDearest 2 (.aload_n 0) 1 3 := ⟨by decide +kernel, rfl⟩
theorem dd_Chooser_sumDearest_3 : ad_D mm_Chooser_sumDearest 3 (.getfield 39) 3 6 := ⟨by decide +kernel, rfl⟩
theorem dd_Chooser_sumDearest_6 : ad_D mm_Chooser_sumDearest 6 (.iconst 1) 1 7 := ⟨by decide +kernel, rfl⟩
theorem dd_Chooser_sumDearest_7 : ad_D mm_Chooser_sumDearest 7 (.isub) 1 8 := ⟨by decide +kernel, rfl⟩
theorem dd_Chooser_sumDearest_8 : ad_D mm_Chooser_sumDearest 8 (.istore_n 3) 1 9 := ⟨by decide +kernel, rfl⟩
theorem dd_Chooser_sumDearest_9 : ad_D mm_Chooser_sumDearest 9 (.iload_n 3) 1 10 := ⟨by decide +kernel, rfl⟩
theorem dd_Chooser_sumDearest_10 : ad_D mm_Chooser_sumDearest 10 (.ifCond .lt 61) 3 13 := ⟨by decide +kernel, rfl⟩
theorem dd_Chooser_sumDearest_13 : ad_D mm_Chooser_sumDearest 13 (.iload_n 2) 1 14 := ⟨by decide +kernel, rfl⟩
theorem dd_Chooser_sumDearest_14 : ad_D mm_Chooser_sumDearest 14 (.bipush 9) 2 16 := ⟨by decide +kernel, rfl⟩
theorem dd_Chooser_sumDearest_16 : ad_D mm_Chooser_sumDearest 16 (.if_icmp .ge 55) 3 19 := ⟨by decide +kernel, rfl⟩
theorem dd_Chooser_sumDearest_19 : ad_D mm_Chooser_sumDearest 19 (.aload_n 0) 1 20 := ⟨by decide +kernel, rfl⟩
theorem dd_Chooser_sumDearest_20 : ad_D mm_Chooser_sumDearest 20 (.getfield 24) 3 23 := ⟨by decide +kernel, rfl⟩
theorem dd_Chooser_sumDearest_23 : ad_D mm_Chooser_sumDearest 23 (.iload_n 3) 1 24 := ⟨by decide +kernel, rfl⟩
theorem dd_Chooser_sumDearest_24 : ad_D mm_Chooser_sumDearest 24 (.iaload) 1 25 := ⟨by decide +kernel, rfl⟩
theorem dd_Chooser_sumDearest_25 : ad_D mm_Chooser_sumDearest 25 (.bipush 15) 2 27 := ⟨by decide +kernel, rfl⟩
theorem dd_Chooser_sumDearest_27 : ad_D mm_Chooser_sumDearest 27 (.iand) 1 28 := ⟨by decide +kernel, rfl⟩
theorem dd_Chooser_sumDearest_28 : ad_D mm_Chooser_sumDearest 28 (.istore 4) 2 30 := ⟨by decide +kernel, rfl⟩
theorem dd_Chooser_sumDearest_30 : ad_D mm_Chooser_sumDearest 30 (.iload 4) 2 32 := ⟨by decide +kernel, rfl⟩
theorem dd_Chooser_sumDearest_32 : ad_D mm_Chooser_sumDearest 32 (.iload_n 1) 1 33 := ⟨by decide +kernel, rfl⟩
theorem dd_Chooser_sumDearest_33 : ad_D mm_Chooser_sumDearest 33 (.if_icmp .ge 32) 3 36 := ⟨by decide +kernel, rfl⟩
theorem dd_Chooser_sumDearest_36 : ad_D mm_Chooser_sumDearest 36 (.aload_n 0) 1 37 := ⟨by decide +kernel, rfl⟩
theorem dd_Chooser_sumDearest_37 : ad_D mm_Chooser_sumDearest 37 (.getfield 29) 3 40 := ⟨by decide +kernel, rfl⟩
theorem dd_Chooser_sumDearest_40 : ad_D mm_Chooser_sumDearest 40 (.iload_n 1) 1 41 := ⟨by decide +kernel, rfl⟩
theorem dd_Chooser_sumDearest_41 : ad_D mm_Chooser_sumDearest 41 (.aaload) 1 42 := ⟨by decide +kernel, rfl⟩
theorem dd_Chooser_sumDearest_42 : ad_D mm_Chooser_sumDearest 42 (.iload_n 2) 1 43 := ⟨by decide +kernel, rfl⟩
theorem dd_Chooser_sumDearest_43 : ad_D mm_Chooser_sumDearest 43 (.iconst 1) 1 44 := ⟨by decide +kernel, rfl⟩
theorem dd_Chooser_sumDearest_44 : ad_D mm_Chooser_sumDearest 44 (.iadd) 1 45 := ⟨by decide +kernel, rfl⟩
theorem dd_Chooser_sumDearest_45 : ad_D mm_Chooser_sumDearest 45 (.aload_n 0) 1 46 := ⟨by decide +kernel, rfl⟩
theorem dd_Chooser_sumDearest_46 : ad_D mm_Chooser_sumDearest 46 (.getfield 29) 3 49 := ⟨by decide +kernel, rfl⟩
theorem dd_Chooser_sumDearest_49 : ad_D mm_Chooser_sumDearest 49 (.iload_n 1) 1 50 := ⟨by decide +kernel, rfl⟩
theorem dd_Chooser_sumDearest_50 : ad_D mm_Chooser_sumDearest 50 (.aaload) 1 51 := ⟨by decide +kernel, rfl⟩
theorem dd_Chooser_sumDearest_51 : ad_D mm_Chooser_sumDearest 51 (.iload_n 2) 1 52 := ⟨by decide +kernel, rfl⟩
theorem dd_Chooser_sumDearest_52 : ad_D mm_Chooser_sumDearest 52 (.iaload) 1 53 := ⟨by decide +kernel, rfl⟩
theorem dd_Chooser_sumDearest_53 : ad_D mm_Chooser_sumDearest 53 (.aload_n 0) 1 54 := ⟨by decide +kernel, rfl⟩
theorem dd_Chooser_sumDearest_54 : ad_D mm_Chooser_sumDearest 54 (.getfield 15) 3 57 := ⟨by decide +kernel, rfl⟩
theorem dd_Chooser_sumDearest_57 : ad_D mm_Chooser_sumDearest 57 (.iload 4) 2 59 := ⟨by decide +kernel, rfl⟩
theorem dd_Chooser_sumDearest_59 : ad_D mm_Chooser_sumDearest 59 (.iaload) 1 60 := ⟨by decide +kernel, rfl⟩
theorem dd_Chooser_sumDearest_60 : ad_D mm_Chooser_sumDearest 60 (.iadd) 1 61 := ⟨by decide +kernel, rfl⟩
theorem dd_Chooser_sumDearest_61 : ad_D mm_Chooser_sumDearest 61 (.iastore) 1 62 := ⟨by decide +kernel, rfl⟩
theorem dd_Chooser_sumDearest_62 : ad_D mm_Chooser_sumDearest 62 (.iinc 2 1) 3 65 := ⟨by decide +kernel, rfl⟩
theorem dd_Chooser_sumDearest_65 : ad_D mm_Chooser_sumDearest 65 (.iinc 3 (-1)) 3 68 := ⟨by decide +kernel, rfl⟩
theorem dd_Chooser_sumDearest_68 : ad_D mm_Chooser_sumDearest 68 (.goto (-59)) 3 71 := ⟨by decide +kernel, rfl⟩
theorem dd_Chooser_sumDearest_71 : ad_D mm_Chooser_sumDearest 71 (.iload_n 2) 1 72 := ⟨by decide +kernel, rfl⟩
theorem dd_Chooser_sumDearest_72 : ad_D mm_Chooser_sumDearest 72 (.bipush 9) 2 74 := ⟨by decide +kernel, rfl⟩
theorem dd_Chooser_sumDearest_74 : ad_D mm_Chooser_sumDearest 74 (.if_icmp .ge 27) 3 77 := ⟨by decide +kernel, rfl⟩
theorem dd_Chooser_sumDearest_77 : ad_D mm_Chooser_sumDearest 77 (.aload_n 0) 1 78 := ⟨by decide +kernel, rfl⟩
theorem dd_Chooser_sumDearest_78 : ad_D mm_Chooser_sumDearest 78 (.getfield 29) 3 81 := ⟨by decide +kernel, rfl⟩
theorem dd_Chooser_sumDearest_81 : ad_D mm_Chooser_sumDearest 81 (.iload_n 1) 1 82 := ⟨by decide +kernel, rfl⟩
theorem dd_Chooser_sumDearest_82 : ad_D mm_Chooser_sumDearest 82 (.aaload) 1 83 := ⟨by decide +kernel, rfl⟩
theorem dd_Chooser_sumDearest_83 : ad_D mm_Chooser_sumDearest 83 (.iload_n 2) 1 84 := ⟨by decide +kernel, rfl⟩
theorem dd_Chooser_sumDearest_84 : ad_D mm_Chooser_sumDearest 84 (.iconst 1) 1 85 := ⟨by decide +kernel, rfl⟩
theorem dd_Chooser_sumDearest_85 : ad_D mm_Chooser_sumDearest 85 (.iadd) 1 86 := ⟨by decide +kernel, rfl⟩
theorem dd_Chooser_sumDearest_86 : ad_D mm_Chooser_sumDearest 86 (.aload_n 0) 1 87 := ⟨by decide +kernel, rfl⟩
theorem dd_Chooser_sumDearest_87 : ad_D mm_Chooser_sumDearest 87 (.getfield 29) 3 90 := ⟨by decide +kernel, rfl⟩
theorem dd_Chooser_sumDearest_90 : ad_D mm_Chooser_sumDearest 90 (.iload_n 1) 1 91 := ⟨by decide +kernel, rfl⟩
theorem dd_Chooser_sumDearest_91 : ad_D mm_Chooser_sumDearest 91 (.aaload) 1 92 := ⟨by decide +kernel, rfl⟩
theorem dd_Chooser_sumDearest_92 : ad_D mm_Chooser_sumDearest 92 (.iload_n 2) 1 93 := ⟨by decide +kernel, rfl⟩
theorem dd_Chooser_sumDearest_93 : ad_D mm_Chooser_sumDearest 93 (.iaload) 1 94 := ⟨by decide +kernel, rfl⟩
theorem dd_Chooser_sumDearest_94 : ad_D mm_Chooser_sumDearest 94 (.iastore) 1 95 := ⟨by decide +kernel, rfl⟩
theorem dd_Chooser_sumDearest_95 : ad_D mm_Chooser_sumDearest 95 (.iinc 2 1) 3 98 := ⟨by decide +kernel, rfl⟩
theorem dd_Chooser_sumDearest_98 : ad_D mm_Chooser_sumDearest 98 (.goto (-27)) 3 101 := ⟨by decide +kernel, rfl⟩
theorem dd_Chooser_sumDearest_101 : ad_D mm_Chooser_sumDearest 101 (.return_) 1 102 := ⟨by decide +kernel, rfl⟩
theorem dd_Chooser_worthOfDearestThatFit_0 : ad_D mm_Chooser_worthOfDearestThatFit 0 (.iconst 0) 1 1 := ⟨by decide +kernel, rfl⟩
theorem dd_Chooser_worthOfDearestThatFit_1 : ad_D mm_Chooser_worthOfDearestThatFit 1 (.istore_n 2) 1 2 := ⟨by decide +kernel, rfl⟩
theorem dd_Chooser_worthOfDearestThatFit_2 : ad_D mm_Chooser_worthOfDearestThatFit 2 (.iload_n 1) 1 3 := ⟨by decide +kernel, rfl⟩
theorem dd_Chooser_worthOfDearestThatFit_3 : ad_D mm_Chooser_worthOfDearestThatFit 3 (.istore_n 3) 1 4 := ⟨by decide +kernel, rfl⟩
theorem dd_Chooser_worthOfDearestThatFit_4 : ad_D mm_Chooser_worthOfDearestThatFit 4 (.iconst 0) 1 5 := ⟨by decide +kernel, rfl⟩
theorem dd_Chooser_worthOfDearestThatFit_5 : ad_D mm_Chooser_worthOfDearestThatFit 5 (.istore 4) 2 7 := ⟨by decide +kernel, rfl⟩
theorem dd_Chooser_worthOfDearestThatFit_7 : ad_D mm_Chooser_worthOfDearestThatFit 7 (.aload_n 0) 1 8 := ⟨by decide +kernel, rfl⟩
theorem dd_Chooser_worthOfDearestThatFit_8 : ad_D mm_Chooser_worthOfDearestThatFit 8 (.getfield 39) 3 11 := ⟨by decide +kernel, rfl⟩
theorem dd_Chooser_worthOfDearestThatFit_11 : ad_D mm_Chooser_worthOfDearestThatFit 11 (.iconst 1) 1 12 := ⟨by decide +kernel, rfl⟩
theorem dd_Chooser_worthOfDearestThatFit_12 : ad_D mm_Chooser_worthOfDearestThatFit 12 (.isub) 1 13 := ⟨by decide +kernel, rfl⟩
theorem dd_Chooser_worthOfDearestThatFit_13 : ad_D mm_Chooser_worthOfDearestThatFit 13 (.istore 5) 2 15 := ⟨by decide +kernel, rfl⟩
theorem dd_Chooser_worthOfDearestThatFit_15 : ad_D mm_Chooser_worthOfDearestThatFit 15 (.iload 5) 2 17 := ⟨by decide +kernel, rfl⟩
theorem dd_Chooser_worthOfDearestThatFit_17 : ad_D mm_Chooser_worthOfDearestThatFit 17 (.ifCond .lt 62) 3 20 := ⟨by decide +kernel, rfl⟩
theorem dd_Chooser_worthOfDearestThatFit_20 : ad_D mm_Chooser_worthOfDearestThatFit 20 (.iload_n 3) 1 21 := ⟨by decide +kernel, rfl⟩
theorem dd_Chooser_worthOfDearestThatFit_21 : ad_D mm_Chooser_worthOfDearestThatFit 21 (.ifCond .le 58) 3 24 := ⟨by decide +kernel, rfl⟩
theorem dd_Chooser_worthOfDearestThatFit_24 : ad_D mm_Chooser_worthOfDearestThatFit 24 (.aload_n 0) 1 25 := ⟨by decide +kernel, rfl⟩
theorem dd_Chooser_worthOfDearestThatFit_25 : ad_D mm_Chooser_worthOfDearestThatFit 25 (.getfield 24) 3 28 := ⟨by decide +kernel, rfl⟩
theorem dd_Chooser_worthOfDearestThatFit_28 : ad_D mm_Chooser_worthOfDearestThatFit 28 (.iload 5) 2 30 := ⟨by decide +kernel, rfl⟩
theorem dd_Chooser_worthOfDearestThatFit_30 : ad_D mm_Chooser_worthOfDearestThatFit 30 (.iaload) 1 31 := ⟨by decide +kernel, rfl⟩
theorem dd_Chooser_worthOfDearestThatFit_31 : ad_D mm_Chooser_worthOfDearestThatFit 31 (.bipush 15) 2 33 := ⟨by decide +kernel, rfl⟩
theorem dd_Chooser_worthOfDearestThatFit_33 : ad_D mm_Chooser_worthOfDearestThatFit 33 (.iand) 1 34 := ⟨by decide +kernel, rfl⟩
theorem dd_Chooser_worthOfDearestThatFit_34 : ad_D mm_Chooser_worthOfDearestThatFit 34 (.istore 6) 2 36 := ⟨by decide +kernel, rfl⟩
theorem dd_Chooser_worthOfDearestThatFit_36 : ad_D mm_Chooser_worthOfDearestThatFit 36 (.aload_n 0) 1 37 := ⟨by decide +kernel, rfl⟩
theorem dd_Chooser_worthOfDearestThatFit_37 : ad_D mm_Chooser_worthOfDearestThatFit 37 (.iload_n 2) 1 38 := ⟨by decide +kernel, rfl⟩
theorem dd_Chooser_worthOfDearestThatFit_38 : ad_D mm_Chooser_worthOfDearestThatFit 38 (.iconst 1) 1 39 := ⟨by decide +kernel, rfl⟩
theorem dd_Chooser_worthOfDearestThatFit_39 : ad_D mm_Chooser_worthOfDearestThatFit 39 (.iload 6) 2 41 := ⟨by decide +kernel, rfl⟩
theorem dd_Chooser_worthOfDearestThatFit_41 : ad_D mm_Chooser_worthOfDearestThatFit 41 (.ishl) 1 42 := ⟨by decide +kernel, rfl⟩
theorem dd_Chooser_worthOfDearestThatFit_42 : ad_D mm_Chooser_worthOfDearestThatFit 42 (.ior) 1 43 := ⟨by decide +kernel, rfl⟩
theorem dd_Chooser_worthOfDearestThatFit_43 : ad_D mm_Chooser_worthOfDearestThatFit 43 (.iload 6) 2 45 := ⟨by decide +kernel, rfl⟩
theorem dd_Chooser_worthOfDearestThatFit_45 : ad_D mm_Chooser_worthOfDearestThatFit 45 (.invokevirtual 91) 3 48 := ⟨by decide +kernel, rfl⟩
theorem dd_Chooser_worthOfDearestThatFit_48 : ad_D mm_Chooser_worthOfDearestThatFit 48 (.ifCond .eq 25) 3 51 := ⟨by decide +kernel, rfl⟩
theorem dd_Chooser_worthOfDearestThatFit_51 : ad_D mm_Chooser_worthOfDearestThatFit 51 (.iload_n 2) 1 52 := ⟨by decide +kernel, rfl⟩
theorem dd_Chooser_worthOfDearestThatFit_52 : ad_D mm_Chooser_worthOfDearestThatFit 52 (.iconst 1) 1 53 := ⟨by decide +kernel, rfl⟩
theorem dd_Chooser_worthOfDearestThatFit_53 : ad_D mm_Chooser_worthOfDearestThatFit 53 (.iload 6) 2 55 := ⟨by decide +kernel, rfl⟩
theorem dd_Chooser_worthOfDearestThatFit_55 : ad_D mm_Chooser_worthOfDearestThatFit 55 (.ishl) 1 56 := ⟨by decide +kernel, rfl⟩
theorem dd_Chooser_worthOfDearestThatFit_56 : ad_D mm_Chooser_worthOfDearestThatFit 56 (.ior) 1 57 := ⟨by decide +kernel, rfl⟩
theorem dd_Chooser_worthOfDearestThatFit_57 : ad_D mm_Chooser_worthOfDearestThatFit 57 (.istore_n 2) 1 58 := ⟨by decide +kernel, rfl⟩
theorem dd_Chooser_worthOfDearestThatFit_58 : ad_D mm_Chooser_worthOfDearestThatFit 58 (.iload 4) 2 60 := ⟨by decide +kernel, rfl⟩
theorem dd_Chooser_worthOfDearestThatFit_60 : ad_D mm_Chooser_worthOfDearestThatFit 60 (.aload_n 0) 1 61 := ⟨by decide +kernel, rfl⟩
theorem dd_Chooser_worthOfDearestThatFit_61 : ad_D mm_Chooser_worthOfDearestThatFit 61 (.getfield 15) 3 64 := ⟨by decide +kernel, rfl⟩
theorem dd_Chooser_worthOfDearestThatFit_64 : ad_D mm_Chooser_worthOfDearestThatFit 64 (.iload 6) 2 66 := ⟨by decide +kernel, rfl⟩
theorem dd_Chooser_worthOfDearestThatFit_66 : ad_D mm_Chooser_worthOfDearestThatFit 66 (.iaload) 1 67 := ⟨by decide +kernel, rfl⟩
theorem dd_Chooser_worthOfDearestThatFit_67 : ad_D mm_Chooser_worthOfDearestThatFit 67 (.iadd) 1 68 := ⟨by decide +kernel, rfl⟩
theorem dd_Chooser_worthOfDearestThatFit_68 : ad_D mm_Chooser_worthOfDearestThatFit 68 (.istore 4) 2 70 := ⟨by decide +kernel, rfl⟩
theorem dd_Chooser_worthOfDearestThatFit_70 : ad_D mm_Chooser_worthOfDearestThatFit 70 (.iinc 3 (-1)) 3 73 := ⟨by decide +kernel, rfl⟩
theorem dd_Chooser_worthOfDearestThatFit_73 : ad_D mm_Chooser_worthOfDearestThatFit 73 (.iinc 5 (-1)) 3 76 := ⟨by decide +kernel, rfl⟩
theorem dd_Chooser_worthOfDearestThatFit_76 : ad_D mm_Chooser_worthOfDearestThatFit 76 (.goto (-61)) 3 79 := ⟨by decide +kernel, rfl⟩
theorem dd_Chooser_worthOfDearestThatFit_79 : ad_D mm_Chooser_worthOfDearestThatFit 79 (.iload 4) 2 81 := ⟨by decide +kernel, rfl⟩
theorem dd_Chooser_worthOfDearestThatFit_81 : ad_D mm_Chooser_worthOfDearestThatFit 81 (.ireturn) 1 82 := ⟨by decide +kernel, rfl⟩
theorem dd_Chooser_fits_0 : ad_D mm_Chooser_fits 0 (.aload_n 0) 1 1 := ⟨by decide +kernel, rfl⟩
theorem dd_Chooser_fits_1 : ad_D mm_Chooser_fits 1 (.getfield 18) 3 4 := ⟨by decide +kernel, rfl⟩
theorem dd_Chooser_fits_4 : ad_D mm_Chooser_fits 4 (.iload_n 2) 1 5 := ⟨by decide +kernel, rfl⟩
theorem dd_Chooser_fits_5 : ad_D mm_Chooser_fits 5 (.bipush 15) 2 7 := ⟨by decide +kernel, rfl⟩
theorem dd_Chooser_fits_7 : ad_D mm_Chooser_fits 7 (.iand) 1 8 := ⟨by decide +kernel, rfl⟩
theorem dd_Chooser_fits_8 : ad_D mm_Chooser_fits 8 (.iaload) 1 9 := ⟨by decide +kernel, rfl⟩
theorem dd_Chooser_fits_9 : ad_D mm_Chooser_fits 9 (.istore_n 3) 1 10 := ⟨by decide +kernel, rfl⟩
theorem dd_Chooser_fits_10 : ad_D mm_Chooser_fits 10 (.iconst 0) 1 11 := ⟨by decide +kernel, rfl⟩
theorem dd_Chooser_fits_11 : ad_D mm_Chooser_fits 11 (.istore 4) 2 13 := ⟨by decide +kernel, rfl⟩
theorem dd_Chooser_fits_13 : ad_D mm_Chooser_fits 13 (.iload 4) 2 15 := ⟨by decide +kernel, rfl⟩
theorem dd_Chooser_fits_15 : ad_D mm_Chooser_fits 15 (.aload_n 0) 1 16 := ⟨by decide +kernel, rfl⟩
theorem dd_Chooser_fits_16 : ad_D mm_Chooser_fits 16 (.getfield 39) 3 19 := ⟨by decide +kernel, rfl⟩
theorem dd_Chooser_fits_19 : ad_D mm_Chooser_fits 19 (.if_icmp .ge 58) 3 22 := ⟨by decide +kernel, rfl⟩
theorem dd_Chooser_fits_22 : ad_D mm_Chooser_fits 22 (.aload_n 0) 1 23 := ⟨by decide +kernel, rfl⟩
theorem dd_Chooser_fits_23 : ad_D mm_Chooser_fits 23 (.getfield 21) 3 26 := ⟨by decide +kernel, rfl⟩
theorem dd_Chooser_fits_26 : ad_D mm_Chooser_fits 26 (.iload 4) 2 28 := ⟨by decide +kernel, rfl⟩
theorem dd_Chooser_fits_28 : ad_D mm_Chooser_fits 28 (.iaload) 1 29 := ⟨by decide +kernel, rfl⟩
theorem dd_Chooser_fits_29 : ad_D mm_Chooser_fits 29 (.bipush 15) 2 31 := ⟨by decide +kernel, rfl⟩
theorem dd_Chooser_fits_31 : ad_D mm_Chooser_fits 31 (.iand) 1 32 := ⟨by decide +kernel, rfl⟩
theorem dd_Chooser_fits_32 : ad_D mm_Chooser_fits 32 (.istore 5) 2 34 := ⟨by decide +kernel, rfl⟩
theorem dd_Chooser_fits_34 : ad_D mm_Chooser_fits 34 (.iload_n 1) 1 35 := ⟨by decide +kernel, rfl⟩
theorem dd_Chooser_fits_35 : ad_D mm_Chooser_fits 35 (.iload 5) 2 37 := ⟨by decide +kernel, rfl⟩
theorem dd_Chooser_fits_37 : ad_D mm_Chooser_fits 37 (.invokestatic 95) 3 40 := ⟨by decide +kernel, rfl⟩
theorem dd_Chooser_fits_40 : ad_D mm_Chooser_fits 40 (.ifCond .eq 31) 3 43 := ⟨by decide +kernel, rfl⟩
theorem dd_Chooser_fits_43 : ad_D mm_Chooser_fits 43 (.aload_n 0) 1 44 := ⟨by decide +kernel, rfl⟩
theorem dd_Chooser_fits_44 : ad_D mm_Chooser_fits 44 (.getfield 18) 3 47 := ⟨by decide +kernel, rfl⟩
theorem dd_Chooser_fits_47 : ad_D mm_Chooser_fits 47 (.iload 5) 2 49 := ⟨by decide +kernel, rfl⟩
theorem dd_Chooser_fits_49 : ad_D mm_Chooser_fits 49 (.iaload) 1 50 := ⟨by decide +kernel, rfl⟩
theorem dd_Chooser_fits_50 : ad_D mm_Chooser_fits 50 (.iload_n 3) 1 51 := ⟨by decide +kernel, rfl⟩
theorem dd_Chooser_fits_51 : ad_D mm_Chooser_fits 51 (.if_icmp .gt 20) 3 54 := ⟨by decide +kernel, rfl⟩
theorem dd_Chooser_fits_54 : ad_D mm_Chooser_fits 54 (.aload_n 0) 1 55 := ⟨by decide +kernel, rfl⟩
theorem dd_Chooser_fits_55 : ad_D mm_Chooser_fits 55 (.aload_n 0) 1 56 := ⟨by decide +kernel, rfl⟩
theorem dd_Chooser_fits_56 : ad_D mm_Chooser_fits 56 (.getfield 18) 3 59 := ⟨by decide +kernel, rfl⟩
theorem dd_Chooser_fits_59 : ad_D mm_Chooser_fits 59 (.iload 5) 2 61 := ⟨by decide +kernel, rfl⟩
theorem dd_Chooser_fits_61 : ad_D mm_Chooser_fits 61 (.iaload) 1 62 := ⟨by decide +kernel, rfl⟩
theorem dd_Chooser_fits_62 : ad_D mm_Chooser_fits 62 (.iload_n 1) 1 63 := ⟨by decide +kernel, rfl⟩
theorem dd_Chooser_fits_63 : ad_D mm_Chooser_fits 63 (.invokevirtual 98) 3 66 := ⟨by decide +kernel, rfl⟩
theorem dd_Chooser_fits_66 : ad_D mm_Chooser_fits 66 (.ifCond .ne 5) 3 69 := ⟨by decide +kernel, rfl⟩
theorem dd_Chooser_fits_69 : ad_D mm_Chooser_fits 69 (.iconst 0) 1 70 := ⟨by decide +kernel, rfl⟩
theorem dd_Chooser_fits_70 : ad_D mm_Chooser_fits 70 (.ireturn) 1 71 := ⟨by decide +kernel, rfl⟩
theorem dd_Chooser_fits_71 : ad_D mm_Chooser_fits 71 (.iinc 4 1) 3 74 := ⟨by decide +kernel, rfl⟩
theorem dd_Chooser_fits_74 : ad_D mm_Chooser_fits 74 (.goto (-61)) 3 77 := ⟨by decide +kernel, rfl⟩
theorem dd_Chooser_fits_77 : ad_D mm_Chooser_fits 77 (.iconst 1) 1 78 := ⟨by decide +kernel, rfl⟩
theorem dd_Chooser_fits_78 : ad_D mm_Chooser_fits 78 (.ireturn) 1 79 := ⟨by decide +kernel, rfl⟩
theorem dd_Chooser_fitsFrom_0 : ad_D mm_Chooser_fitsFrom 0 (.iconst 0) 1 1 := ⟨by decide +kernel, rfl⟩
theorem dd_Chooser_fitsFrom_1 : ad_D mm_Chooser_fitsFrom 1 (.istore_n 3) 1 2 := ⟨by decide +kernel, rfl⟩
theorem dd_Chooser_fitsFrom_2 : ad_D mm_Chooser_fitsFrom 2 (.iconst 0) 1 3 := ⟨by decide +kernel, rfl⟩
theorem dd_Chooser_fitsFrom_3 : ad_D mm_Chooser_fitsFrom 3 (.istore 4) 2 5 := ⟨by decide +kernel, rfl⟩
theorem dd_Chooser_fitsFrom_5 : ad_D mm_Chooser_fitsFrom 5 (.iload 4) 2 7 := ⟨by decide +kernel, rfl⟩
theorem dd_Chooser_fitsFrom_7 : ad_D mm_Chooser_fitsFrom 7 (.aload_n 0) 1 8 := ⟨by decide +kernel, rfl⟩
theorem dd_Chooser_fitsFrom_8 : ad_D mm_Chooser_fitsFrom 8 (.getfield 39) 3 11 := ⟨by decide +kernel, rfl⟩
theorem dd_Chooser_fitsFrom_11 : ad_D mm_Chooser_fitsFrom 11 (.if_icmp .ge 77) 3 14 := ⟨by decide +kernel, rfl⟩
theorem dd_Chooser_fitsFrom_14 : ad_D mm_Chooser_fitsFrom 14 (.aload_n 0) 1 15 := ⟨by decide +kernel, rfl⟩
theorem dd_Chooser_fitsFrom_15 : ad_D mm_Chooser_fitsFrom 15 (.getfield 21) 3 18 := ⟨by decide +kernel, rfl⟩
theorem dd_Chooser_fitsFrom_18 : ad_D mm_Chooser_fitsFrom 18 (.iload 4) 2 20 := ⟨by decide +kernel, rfl⟩
theorem dd_Chooser_fitsFrom_20 : ad_D mm_Chooser_fitsFrom 20 (.iaload) 1 21 := ⟨by decide +kernel, rfl⟩
theorem dd_Chooser_fitsFrom_21 : ad_D mm_Chooser_fitsFrom 21 (.bipush 15) 2 23 := ⟨by decide +kernel, rfl⟩
theorem dd_Chooser_fitsFrom_23 : ad_D mm_Chooser_fitsFrom 23 (.iand) 1 24 := ⟨by decide +kernel, rfl⟩
theorem dd_Chooser_fitsFrom_24 : ad_D mm_Chooser_fitsFrom 24 (.istore 5) 2 26 := ⟨by decide +kernel, rfl⟩
theorem dd_Chooser_fitsFrom_26 : ad_D mm_Chooser_fitsFrom 26 (.iload_n 2) 1 27 := ⟨by decide +kernel, rfl⟩
theorem dd_Chooser_fitsFrom_27 : ad_D mm_Chooser_fitsFrom 27 (.iload 5) 2 29 := ⟨by decide +kernel, rfl⟩
theorem dd_Chooser_fitsFrom_29 : ad_D mm_Chooser_fitsFrom 29 (.invokestatic 95) 3 32 := ⟨by decide +kernel, rfl⟩
theorem dd_Chooser_fitsFrom_32 : ad_D mm_Chooser_fitsFrom 32 (.ifCond .eq 50) 3 35 := ⟨by decide +kernel, rfl⟩
theorem dd_Chooser_fitsFrom_35 : ad_D mm_Chooser_fitsFrom 35 (.aload_n 0) 1 36 := ⟨by decide +kernel, rfl⟩
theorem dd_Chooser_fitsFrom_36 : ad_D mm_Chooser_fitsFrom 36 (.getfield 18) 3 39 := ⟨by decide +kernel, rfl⟩
theorem dd_Chooser_fitsFrom_39 : ad_D mm_Chooser_fitsFrom 39 (.iload 5) 2 41 := ⟨by decide +kernel, rfl⟩
theorem dd_Chooser_fitsFrom_41 : ad_D mm_Chooser_fitsFrom 41 (.iaload) 1 42 := ⟨by decide +kernel, rfl⟩
theorem dd_Chooser_fitsFrom_42 : ad_D mm_Chooser_fitsFrom 42 (.iload_n 1) 1 43 := ⟨by decide +kernel, rfl⟩
theorem dd_Chooser_fitsFrom_43 : ad_D mm_Chooser_fitsFrom 43 (.if_icmp .lt 39) 3 46 := ⟨by decide +kernel, rfl⟩
theorem dd_Chooser_fitsFrom_46 : ad_D mm_Chooser_fitsFrom 46 (.iload_n 3) 1 47 := ⟨by decide +kernel, rfl⟩
theorem dd_Chooser_fitsFrom_47 : ad_D mm_Chooser_fitsFrom 47 (.aload_n 0) 1 48 := ⟨by decide +kernel, rfl⟩
theorem dd_Chooser_fitsFrom_48 : ad_D mm_Chooser_fitsFrom 48 (.getfield 9) 3 51 := ⟨by decide +kernel, rfl⟩
theorem dd_Chooser_fitsFrom_51 : ad_D mm_Chooser_fitsFrom 51 (.iload 5) 2 53 := ⟨by decide +kernel, rfl⟩
theorem dd_Chooser_fitsFrom_53 : ad_D mm_Chooser_fitsFrom 53 (.iaload) 1 54 := ⟨by decide +kernel, rfl⟩
theorem dd_Chooser_fitsFrom_54 : ad_D mm_Chooser_fitsFrom 54 (.iadd) 1 55 := ⟨by decide +kernel, rfl⟩
theorem dd_Chooser_fitsFrom_55 : ad_D mm_Chooser_fitsFrom 55 (.istore_n 3) 1 56 := ⟨by decide +kernel, rfl⟩
theorem dd_Chooser_fitsFrom_56 : ad_D mm_Chooser_fitsFrom 56 (.aload_n 0) 1 57 := ⟨by decide +kernel, rfl⟩
theorem dd_Chooser_fitsFrom_57 : ad_D mm_Chooser_fitsFrom 57 (.getfield 21) 3 60 := ⟨by decide +kernel, rfl⟩
theorem dd_Chooser_fitsFrom_60 : ad_D mm_Chooser_fitsFrom 60 (.iload 4) 2 62 := ⟨by decide +kernel, rfl⟩
theorem dd_Chooser_fitsFrom_62 : ad_D mm_Chooser_fitsFrom 62 (.iaload) 1 63 := ⟨by decide +kernel, rfl⟩
theorem dd_Chooser_fitsFrom_63 : ad_D mm_Chooser_fitsFrom 63 (.iconst 4) 1 64 := ⟨by decide +kernel, rfl⟩
theorem dd_Chooser_fitsFrom_64 : ad_D mm_Chooser_fitsFrom 64 (.ishr) 1 65 := ⟨by decide +kernel, rfl⟩
theorem dd_Chooser_fitsFrom_65 : ad_D mm_Chooser_fitsFrom 65 (.istore 6) 2 67 := ⟨by decide +kernel, rfl⟩
theorem dd_Chooser_fitsFrom_67 : ad_D mm_Chooser_fitsFrom 67 (.iload_n 3) 1 68 := ⟨by decide +kernel, rfl⟩
theorem dd_Chooser_fitsFrom_68 : ad_D mm_Chooser_fitsFrom 68 (.aload_n 0) 1 69 := ⟨by decide +kernel, rfl⟩
theorem dd_Chooser_fitsFrom_69 : ad_D mm_Chooser_fitsFrom 69 (.getfield 32) 3 72 := ⟨by decide +kernel, rfl⟩
theorem dd_Chooser_fitsFrom_72 : ad_D mm_Chooser_fitsFrom 72 (.iload 6) 2 74 := ⟨by decide +kernel, rfl⟩
theorem dd_Chooser_fitsFrom_74 : ad_D mm_Chooser_fitsFrom 74 (.iload_n 1) 1 75 := ⟨by decide +kernel, rfl⟩
theorem dd_Chooser_fitsFrom_75 : ad_D mm_Chooser_fitsFrom 75 (.isub) 1 76 := ⟨by decide +kernel, rfl⟩
theorem dd_Chooser_fitsFrom_76 : ad_D mm_Chooser_fitsFrom 76 (.imul) 1 77 := ⟨by decide +kernel, rfl⟩
theorem dd_Chooser_fitsFrom_77 : ad_D mm_Chooser_fitsFrom 77 (.if_icmp .le 5) 3 80 := ⟨by decide +kernel, rfl⟩
theorem dd_Chooser_fitsFrom_80 : ad_D mm_Chooser_fitsFrom 80 (.iconst 0) 1 81 := ⟨by decide +kernel, rfl⟩
theorem dd_Chooser_fitsFrom_81 : ad_D mm_Chooser_fitsFrom 81 (.ireturn) 1 82 := ⟨by decide +kernel, rfl⟩
theorem dd_Chooser_fitsFrom_82 : ad_D mm_Chooser_fitsFrom 82 (.iinc 4 1) 3 85 := ⟨by decide +kernel, rfl⟩
theorem dd_Chooser_fitsFrom_85 : ad_D mm_Chooser_fitsFrom 85 (.goto (-80)) 3 88 := ⟨by decide +kernel, rfl⟩
theorem dd_Chooser_fitsFrom_88 : ad_D mm_Chooser_fitsFrom 88 (.iconst 1) 1 89 := ⟨by decide +kernel, rfl⟩
theorem dd_Chooser_fitsFrom_89 : ad_D mm_Chooser_fitsFrom 89 (.ireturn) 1 90 := ⟨by decide +kernel, rfl⟩
theorem dd_Chooser_search_0 : ad_D mm_Chooser_search 0 (.iload_n 1) 1 1 := ⟨by decide +kernel, rfl⟩
theorem dd_Chooser_search_1 : ad_D mm_Chooser_search 1 (.iconst 0) 1 2 := ⟨by decide +kernel, rfl⟩
theorem dd_Chooser_search_2 : ad_D mm_Chooser_search 2 (.bipush 16) 2 4 := ⟨by decide +kernel, rfl⟩
theorem dd_Chooser_search_4 : ad_D mm_Chooser_search 4 (.invokestatic 60) 3 7 := ⟨by decide +kernel, rfl⟩
theorem dd_Chooser_search_7 : ad_D mm_Chooser_search 7 (.ifCond .eq 13) 3 10 := ⟨by decide +kernel, rfl⟩
theorem dd_Chooser_search_10 : ad_D mm_Chooser_search 10 (.iload_n 2) 1 11 := ⟨by decide +kernel, rfl⟩
theorem dd_Chooser_search_11 : ad_D mm_Chooser_search 11 (.iconst 0) 1 12 := ⟨by decide +kernel, rfl⟩
theorem dd_Chooser_search_12 : ad_D mm_Chooser_search 12 (.bipush 9) 2 14 := ⟨by decide +kernel, rfl⟩
theorem dd_Chooser_search_14 : ad_D mm_Chooser_search 14 (.invokestatic 60) 3 17 := ⟨by decide +kernel, rfl⟩
theorem dd_Chooser_search_17 : ad_D mm_Chooser_search 17 (.ifCond .ne 4) 3 20 := ⟨by decide +kernel, rfl⟩
theorem dd_Chooser_search_20 : ad_D mm_Chooser_search 20 (.return_) 1 21 := ⟨by decide +kernel, rfl⟩
theorem dd_Chooser_search_21 : ad_D mm_Chooser_search 21 (.iload_n 3) 1 22 := ⟨by decide +kernel, rfl⟩
theorem dd_Chooser_search_22 : ad_D mm_Chooser_search 22 (.aload_n 0) 1 23 := ⟨by decide +kernel, rfl⟩
theorem dd_Chooser_search_23 : ad_D mm_Chooser_search 23 (.getfield 29) 3 26 := ⟨by decide +kernel, rfl⟩
theorem dd_Chooser_search_26 : ad_D mm_Chooser_search 26 (.iload_n 1) 1 27 := ⟨by decide +kernel, rfl⟩
theorem dd_Chooser_search_27 : ad_D mm_Chooser_search 27 (.aaload) 1 28 := ⟨by decide +kernel, rfl⟩
theorem dd_Chooser_search_28 : ad_D mm_Chooser_search 28 (.iload_n 2) 1 29 := ⟨by decide +kernel, rfl⟩
theorem dd_Chooser_search_29 : ad_D mm_Chooser_search 29 (.iaload) 1 30 := ⟨by decide +kernel, rfl⟩
theorem dd_Chooser_search_30 : ad_D mm_Chooser_search 30 (.iadd) 1 31 := ⟨by decide +kernel, rfl⟩
theorem dd_Chooser_search_31 : ad_D mm_Chooser_search 31 (.aload_n 0) 1 32 := ⟨by decide +kernel, rfl⟩
theorem dd_Chooser_search_32 : ad_D mm_Chooser_search 32 (.getfield 81) 3 35 := ⟨by decide +kernel, rfl⟩
theorem dd_Chooser_search_35 : ad_D mm_Chooser_search 35 (.if_icmp .gt 4) 3 38 := ⟨by decide +kernel, rfl⟩
theorem dd_Chooser_search_38 : ad_D mm_Chooser_search 38 (.return_) 1 39 := ⟨by decide +kernel, rfl⟩
theorem dd_Chooser_search_39 : ad_D mm_Chooser_search 39 (.iload_n 1) 1 40 := ⟨by decide +kernel, rfl⟩
theorem dd_Chooser_search_40 : ad_D mm_Chooser_search 40 (.ifCond .ne 15) 3 43 := ⟨by decide +kernel, rfl⟩
theorem dd_Chooser_search_43 : ad_D mm_Chooser_search 43 (.aload_n 0) 1 44 := ⟨by decide +kernel, rfl⟩
theorem dd_Chooser_search_44 : ad_D mm_Chooser_search 44 (.iload_n 3) 1 45 := ⟨by decide +kernel, rfl⟩
theorem dd_Chooser_search_45 : ad_D mm_Chooser_search 45 (.putfield 81) 3 48 := ⟨by decide +kernel, rfl⟩
theorem dd_Chooser_search_48 : ad_D mm_Chooser_search 48 (.aload_n 0) 1 49 := ⟨by decide +kernel, rfl⟩
theorem dd_Chooser_search_49 : ad_D mm_Chooser_search 49 (.iload 4) 2 51 := ⟨by decide +kernel, rfl⟩
theorem dd_Chooser_search_51 : ad_D mm_Chooser_search 51 (.putfield 84) 3 54 := ⟨by decide +kernel, rfl⟩
theorem dd_Chooser_search_54 : ad_D mm_Chooser_search 54 (.return_) 1 55 := ⟨by decide +kernel, rfl⟩
theorem dd_Chooser_search_55 : ad_D mm_Chooser_search 55 (.iload_n 1) 1 56 := ⟨by decide +kernel, rfl⟩
theorem dd_Chooser_search_56 : ad_D mm_Chooser_search 56 (.iconst 1) 1 57 := ⟨by decide +kernel, rfl⟩
theorem dd_Chooser_search_57 : ad_D mm_Chooser_search 57 (.isub) 1 58 := ⟨by decide +kernel, rfl⟩
theorem dd_Chooser_search_58 : ad_D mm_Chooser_search 58 (.istore 5) 2 60 := ⟨by decide +kernel, rfl⟩
theorem dd_Chooser_search_60 : ad_D mm_Chooser_search 60 (.aload_n 0) 1 61 := ⟨by decide +kernel, rfl⟩
theorem dd_Chooser_search_61 : ad_D mm_Chooser_search 61 (.iload 5) 2 63 := ⟨by decide +kernel, rfl⟩
theorem dd_Chooser_search_63 : ad_D mm_Chooser_search 63 (.iload_n 2) 1 64 := ⟨by decide +kernel, rfl⟩
theorem dd_Chooser_search_64 : ad_D mm_Chooser_search 64 (.iload_n 3) 1 65 := ⟨by decide +kernel, rfl⟩
theorem dd_Chooser_search_65 : ad_D mm_Chooser_search 65 (.iload 4) 2 67 := ⟨by decide +kernel, rfl⟩
theorem dd_Chooser_search_67 : ad_D mm_Chooser_search 67 (.invokevirtual 87) 3 70 := ⟨by decide +kernel, rfl⟩
theorem dd_Chooser_search_70 : ad_D mm_Chooser_search 70 (.iload 4) 2 72 := ⟨by decide +kernel, rfl⟩
theorem dd_Chooser_search_72 : ad_D mm_Chooser_search 72 (.iconst 1) 1 73 := ⟨by decide +kernel, rfl⟩
theorem dd_Chooser_search_73 : ad_D mm_Chooser_search 73 (.iload 5) 2 75 := ⟨by decide +kernel, rfl⟩
theorem dd_Chooser_search_75 : ad_D mm_Chooser_search 75 (.ishl) 1 76 := ⟨by decide +kernel, rfl⟩
theorem dd_Chooser_search_76 : ad_D mm_Chooser_search 76 (.ior) 1 77 := ⟨by decide +kernel, rfl⟩
theorem dd_Chooser_search_77 : ad_D mm_Chooser_search 77 (.istore 6) 2 79 := ⟨by decide +kernel, rfl⟩
theorem dd_Chooser_search_79 : ad_D mm_Chooser_search 79 (.iload_n 2) 1 80 := ⟨by decide +kernel, rfl⟩
theorem dd_Chooser_search_80 : ad_D mm_Chooser_search 80 (.ifCond .le 46) 3 83 := ⟨by decide +kernel, rfl⟩
theorem dd_Chooser_search_83 : ad_D mm_Chooser_search 83 (.aload_n 0) 1 84 := ⟨by decide +kernel, rfl⟩
theorem dd_Chooser_search_84 : ad_D mm_Chooser_search 84 (.getfield 36) 3 87 := ⟨by decide +kernel, rfl⟩
theorem dd_Chooser_search_87 : ad_D mm_Chooser_search 87 (.iload 5) 2 89 := ⟨by decide +kernel, rfl⟩
theorem dd_Chooser_search_89 : ad_D mm_Chooser_search 89 (.invokestatic 95) 3 92 := ⟨by decide +kernel, rfl⟩
theorem dd_Chooser_search_92 : ad_D mm_Chooser_search 92 (.ifCond .eq 34) 3 95 := ⟨by decide +kernel, rfl⟩
theorem dd_Chooser_search_95 : ad_D mm_Chooser_search 95 (.aload_n 0) 1 96 := ⟨by decide +kernel, rfl⟩
theorem dd_Chooser_search_96 : ad_D mm_Chooser_search 96 (.iload 6) 2 98 := ⟨by decide +kernel, rfl⟩
theorem dd_Chooser_search_98 : ad_D mm_Chooser_search 98 (.iload 5) 2 100 := ⟨by decide +kernel, rfl⟩
theorem dd_Chooser_search_100 : ad_D mm_Chooser_search 100 (.invokevirtual 91) 3 103 := ⟨by decide +kernel, rfl⟩
theorem dd_Chooser_search_103 : ad_D mm_Chooser_search 103 (.ifCond .eq 23) 3 106 := ⟨by decide +kernel, rfl⟩
theorem dd_Chooser_search_106 : ad_D mm_Chooser_search 106 (.aload_n 0) 1 107 := ⟨by decide +kernel, rfl⟩
theorem dd_Chooser_search_107 : ad_D mm_Chooser_search 107 (.iload 5) 2 109 := ⟨by decide +kernel, rfl⟩
theorem dd_Chooser_search_109 : ad_D mm_Chooser_search 109 (.iload_n 2) 1 110 := ⟨by decide +kernel, rfl⟩
theorem dd_Chooser_search_110 : ad_D mm_Chooser_search 110 (.iconst 1) 1 111 := ⟨by decide +kernel, rfl⟩
theorem dd_Chooser_search_111 : ad_D mm_Chooser_search 111 (.isub) 1 112 := ⟨by decide +kernel, rfl⟩
theorem dd_Chooser_search_112 : ad_D mm_Chooser_search 112 (.iload_n 3) 1 113 := ⟨by decide +kernel, rfl⟩
theorem dd_Chooser_search_113 : ad_D mm_Chooser_search 113 (.aload_n 0) 1 114 := ⟨by decide +kernel, rfl⟩
theorem dd_Chooser_search_114 : ad_D mm_Chooser_search 114 (.getfield 15) 3 117 := ⟨by decide +kernel, rfl⟩
theorem dd_Chooser_search_117 : ad_D mm_Chooser_search 117 (.iload 5) 2 119 := ⟨by decide +kernel, rfl⟩
theorem dd_Chooser_search_119 : ad_D mm_Chooser_search 119 (.iaload) 1 120 := ⟨by decide +kernel, rfl⟩
theorem dd_Chooser_search_120 : ad_D mm_Chooser_search 120 (.iadd) 1 121 := ⟨by decide +kernel, rfl⟩
theorem dd_Chooser_search_121 : ad_D mm_Chooser_search 121 (.iload 6) 2 123 := ⟨by decide +kernel, rfl⟩
theorem dd_Chooser_search_123 : ad_D mm_Chooser_search 123 (.invokevirtual 87) 3 126 := ⟨by decide +kernel, rfl⟩
theorem dd_Chooser_search_126 : ad_D mm_Chooser_search 126 (.return_) 1 127 := ⟨by decide +kernel, rfl⟩
theorem dd_X_bestSet_0 : ad_D mm_X_bestSet 0 (.aload_n 0) 1 1 := ⟨by decide +kernel, rfl⟩
theorem dd_X_bestSet_1 : ad_D mm_X_bestSet 1 (.iload_n 1) 1 2 := ⟨by decide +kernel, rfl⟩
theorem dd_X_bestSet_2 : ad_D mm_X_bestSet 2 (.iload_n 2) 1 3 := ⟨by decide +kernel, rfl⟩
theorem dd_X_bestSet_3 : ad_D mm_X_bestSet 3 (.invokevirtual 227) 3 6 := ⟨by decide +kernel, rfl⟩
theorem dd_X_bestSet_6 : ad_D mm_X_bestSet 6 (.ifCond .eq 13) 3 9 := ⟨by decide +kernel, rfl⟩
theorem dd_X_bestSet_9 : ad_D mm_X_bestSet 9 (.aload_n 0) 1 10 := ⟨by decide +kernel, rfl⟩
theorem dd_X_bestSet_10 : ad_D mm_X_bestSet 10 (.getfield 49) 3 13 := ⟨by decide +kernel, rfl⟩
theorem dd_X_bestSet_13 : ad_D mm_X_bestSet 13 (.getfield 234) 3 16 := ⟨by decide +kernel, rfl⟩
theorem dd_X_bestSet_16 : ad_D mm_X_bestSet 16 (.goto 4) 3 19 := ⟨by decide +kernel, rfl⟩
theorem dd_X_bestSet_19 : ad_D mm_X_bestSet 19 (.iconst (-1)) 1 20 := ⟨by decide +kernel, rfl⟩
theorem dd_X_bestSet_20 : ad_D mm_X_bestSet 20 (.ireturn) 1 21 := ⟨by decide +kernel, rfl⟩
theorem dd_X_paid_0 : ad_D mm_X_paid 0 (.aload_n 0) 1 1 := ⟨by decide +kernel, rfl⟩
theorem dd_X_paid_1 : ad_D mm_X_paid 1 (.getfield 28) 3 4 := ⟨by decide +kernel, rfl⟩
theorem dd_X_paid_4 : ad_D mm_X_paid 4 (.iload_n 1) 1 5 := ⟨by decide +kernel, rfl⟩
theorem dd_X_paid_5 : ad_D mm_X_paid 5 (.invokevirtual 237) 3 8 := ⟨by decide +kernel, rfl⟩
theorem dd_X_paid_8 : ad_D mm_X_paid 8 (.lreturn) 1 9 := ⟨by decide +kernel, rfl⟩
theorem dd_Farms_earnedBy_0 : ad_D mm_Farms_earnedBy 0 (.iload_n 1) 1 1 := ⟨by decide +kernel, rfl⟩
theorem dd_Farms_earnedBy_1 : ad_D mm_Farms_earnedBy 1 (.iconst 0) 1 2 := ⟨by decide +kernel, rfl⟩
theorem dd_Farms_earnedBy_2 : ad_D mm_Farms_earnedBy 2 (.aload_n 0) 1 3 := ⟨by decide +kernel, rfl⟩
theorem dd_Farms_earnedBy_3 : ad_D mm_Farms_earnedBy 3 (.getfield 19) 3 6 := ⟨by decide +kernel, rfl⟩
theorem dd_Farms_earnedBy_6 : ad_D mm_Farms_earnedBy 6 (.iconst 1) 1 7 := ⟨by decide +kernel, rfl⟩
theorem dd_Farms_earnedBy_7 : ad_D mm_Farms_earnedBy 7 (.isub) 1 8 := ⟨by decide +kernel, rfl⟩
theorem dd_Farms_earnedBy_8 : ad_D mm_Farms_earnedBy 8 (.invokestatic 30) 3 11 := ⟨by decide +kernel, rfl⟩
theorem dd_Farms_earnedBy_11 : ad_D mm_Farms_earnedBy 11 (.ifCond .eq 12) 3 14 := ⟨by decide +kernel, rfl⟩
theorem dd_Farms_earnedBy_14 : ad_D mm_Farms_earnedBy 14 (.aload_n 0) 1 15 := ⟨by decide +kernel, rfl⟩
theorem dd_Farms_earnedBy_15 : ad_D mm_Farms_earnedBy 15 (.getfield 11) 3 18 := ⟨by decide +kernel, rfl⟩
theorem dd_Farms_earnedBy_18 : ad_D mm_Farms_earnedBy 18 (.iload_n 1) 1 19 := ⟨by decide +kernel, rfl⟩
theorem dd_Farms_earnedBy_19 : ad_D mm_Farms_earnedBy 19 (.laload) 1 20 := ⟨by decide +kernel, rfl⟩
theorem dd_Farms_earnedBy_20 : ad_D mm_Farms_earnedBy 20 (.goto 4) 3 23 := ⟨by decide +kernel, rfl⟩
theorem dd_Farms_earnedBy_23 : ad_D mm_Farms_earnedBy 23 (.lconst 0) 1 24 := ⟨by decide +kernel, rfl⟩
theorem dd_Farms_earnedBy_24 : ad_D mm_Farms_earnedBy 24 (.lreturn) 1 25 := ⟨by decide +kernel, rfl⟩
theorem dd_X_about_0 : ad_D mm_X_about 0 (.iload_n 1) 1 1 := ⟨by decide +kernel, rfl⟩
theorem dd_X_about_1 : ad_D mm_X_about 1 (.tableswitch 126 0 10 #[59, 64, 72, 77, 82, 87, 92, 100, 108, 113, 118]) 59 60 := ⟨by decide +kernel, rfl⟩
theorem dd_X_about_60 : ad_D mm_X_about 60 (.aload_n 0) 1 61 := ⟨by decide +kernel, rfl⟩
theorem dd_X_about_61 : ad_D mm_X_about 61 (.getfield 80) 3 64 := ⟨by decide +kernel, rfl⟩
theorem dd_X_about_64 : ad_D mm_X_about 64 (.ireturn) 1 65 := ⟨by decide +kernel, rfl⟩
theorem dd_X_about_65 : ad_D mm_X_about 65 (.aload_n 0) 1 66 := ⟨by decide +kernel, rfl⟩
theorem dd_X_about_66 : ad_D mm_X_about 66 (.getfield 28) 3 69 := ⟨by decide +kernel, rfl⟩
theorem dd_X_about_69 : ad_D mm_X_about 69 (.getfield 87) 3 72 := ⟨by decide +kernel, rfl⟩
theorem dd_X_about_72 : ad_D mm_X_about 72 (.ireturn) 1 73 := ⟨by decide +kernel, rfl⟩
theorem dd_X_about_73 : ad_D mm_X_about 73 (.aload_n 0) 1 74 := ⟨by decide +kernel, rfl⟩
theorem dd_X_about_74 : ad_D mm_X_about 74 (.invokevirtual 90) 3 77 := ⟨by decide +kernel, rfl⟩
theorem dd_X_about_77 : ad_D mm_X_about 77 (.ireturn) 1 78 := ⟨by decide +kernel, rfl⟩
theorem dd_X_about_78 : ad_D mm_X_about 78 (.aload_n 0) 1 79 := ⟨by decide +kernel, rfl⟩
theorem dd_X_about_79 : ad_D mm_X_about 79 (.invokevirtual 241) 3 82 := ⟨by decide +kernel, rfl⟩
theorem dd_X_about_82 : ad_D mm_X_about 82 (.ireturn) 1 83 := ⟨by decide +kernel, rfl⟩
theorem dd_X_about_83 : ad_D mm_X_about 83 (.aload_n 0) 1 84 := ⟨by decide +kernel, rfl⟩
theorem dd_X_about_84 : ad_D mm_X_about 84 (.invokevirtual 128) 3 87 := ⟨by decide +kernel, rfl⟩
theorem dd_X_about_87 : ad_D mm_X_about 87 (.ireturn) 1 88 := ⟨by decide +kernel, rfl⟩
theorem dd_X_about_88 : ad_D mm_X_about 88 (.aload_n 0) 1 89 := ⟨by decide +kernel, rfl⟩
theorem dd_X_about_89 : ad_D mm_X_about 89 (.invokevirtual 244) 3 92 := ⟨by decide +kernel, rfl⟩
theorem dd_X_about_92 : ad_D mm_X_about 92 (.ireturn) 1 93 := ⟨by decide +kernel, rfl⟩
theorem dd_X_about_93 : ad_D mm_X_about 93 (.aload_n 0) 1 94 := ⟨by decide +kernel, rfl⟩
theorem dd_X_about_94 : ad_D mm_X_about 94 (.getfield 28) 3 97 := ⟨by decide +kernel, rfl⟩
theorem dd_X_about_97 : ad_D mm_X_about 97 (.invokevirtual 115) 3 100 := ⟨by decide +kernel, rfl⟩
theorem dd_X_about_100 : ad_D mm_X_about 100 (.ireturn) 1 101 := ⟨by decide +kernel, rfl⟩
theorem dd_X_about_101 : ad_D mm_X_about 101 (.aload_n 0) 1 102 := ⟨by decide +kernel, rfl⟩
theorem dd_X_about_102 : ad_D mm_X_about 102 (.getfield 42) 3 105 := ⟨by decide +kernel, rfl⟩
theorem dd_X_about_105 : ad_D mm_X_about 105 (.invokevirtual 247) 3 108 := ⟨by decide +kernel, rfl⟩
theorem dd_X_about_108 : ad_D mm_X_about 108 (.ireturn) 1 109 := ⟨by decide +kernel, rfl⟩
theorem dd_X_about_109 : ad_D mm_X_about 109 (.aload_n 0) 1 110 := ⟨by decide +kernel, rfl⟩
theorem dd_X_about_110 : ad_D mm_X_about 110 (.invokevirtual 249) 3 113 := ⟨by decide +kernel, rfl⟩
theorem dd_X_about_113 : ad_D mm_X_about 113 (.ireturn) 1 114 := ⟨by decide +kernel, rfl⟩
theorem dd_X_about_114 : ad_D mm_X_about 114 (.aload_n 0) 1 115 := ⟨by decide +kernel, rfl⟩
theorem dd_X_about_115 : ad_D mm_X_about 115 (.getfield 22) 3 118 := ⟨by decide +kernel, rfl⟩
theorem dd_X_about_118 : ad_D mm_X_about 118 (.ireturn) 1 119 := ⟨by decide +kernel, rfl⟩
theorem dd_X_about_119 : ad_D mm_X_about 119 (.aload_n 0) 1 120 := ⟨by decide +kernel, rfl⟩
theorem dd_X_about_120 : ad_D mm_X_about 120 (.getfield 56) 3 123 := ⟨by decide +kernel, rfl⟩
theorem dd_X_about_123 : ad_D mm_X_about 123 (.getfield 145) 3 126 := ⟨by decide +kernel, rfl⟩
theorem dd_X_about_126 : ad_D mm_X_about 126 (.ireturn) 1 127 := ⟨by decide +kernel, rfl⟩
theorem dd_X_about_127 : ad_D mm_X_about 127 (.iload_n 1) 1 128 := ⟨by decide +kernel, rfl⟩
theorem dd_X_about_128 : ad_D mm_X_about 128 (.bipush 20) 2 130 := ⟨by decide +kernel, rfl⟩
theorem dd_X_about_130 : ad_D mm_X_about 130 (.if_icmp .ge 7) 3 133 := ⟨by decide +kernel, rfl⟩
theorem dd_X_about_133 : ad_D mm_X_about 133 (.iconst (-1)) 1 134 := ⟨by decide +kernel, rfl⟩
theorem dd_X_about_134 : ad_D mm_X_about 134 (.goto 14) 3 137 := ⟨by decide +kernel, rfl⟩
theorem dd_X_about_137 : ad_D mm_X_about 137 (.aload_n 0) 1 138 := ⟨by decide +kernel, rfl⟩
theorem dd_X_about_138 : ad_D mm_X_about 138 (.getfield 28) 3 141 := ⟨by decide +kernel, rfl⟩
theorem dd_X_about_141 : ad_D mm_X_about 141 (.iload_n 1) 1 142 := ⟨by decide +kernel, rfl⟩
theorem dd_X_about_142 : ad_D mm_X_about 142 (.bipush 20) 2 144 := ⟨by decide +kernel, rfl⟩
theorem dd_X_about_144 : ad_D mm_X_about 144 (.isub) 1 145 := ⟨by decide +kernel, rfl⟩
theorem dd_X_about_145 : ad_D mm_X_about 145 (.invokevirtual 252) 3 148 := ⟨by decide +kernel, rfl⟩
theorem dd_X_about_148 : ad_D mm_X_about 148 (.ireturn) 1 149 := ⟨by decide +kernel, rfl⟩
theorem dd_X_tonsLost_0 : ad_D mm_X_tonsLost 0 (.iconst 0) 1 1 := ⟨by decide +kernel, rfl⟩
theorem dd_X_tonsLost_1 : ad_D mm_X_tonsLost 1 (.istore_n 1) 1 2 := ⟨by decide +kernel, rfl⟩
theorem dd_X_tonsLost_2 : ad_D mm_X_tonsLost 2 (.aload_n 0) 1 3 := ⟨by decide +kernel, rfl⟩
theorem dd_X_tonsLost_3 : ad_D mm_X_tonsLost 3 (.getfield 260) 3 6 := ⟨by decide +kernel, rfl⟩
theorem dd_X_tonsLost_6 : ad_D mm_X_tonsLost 6 (.astore_n 2) 1 7 := ⟨by decide +kernel, rfl⟩
theorem dd_X_tonsLost_7 : ad_D mm_X_tonsLost 7 (.aload_n 2) 1 8 := ⟨by decide +kernel, rfl⟩
theorem dd_X_tonsLost_8 : ad_D mm_X_tonsLost 8 (.ifnull 18) 3 11 := ⟨by decide +kernel, rfl⟩
theorem dd_X_tonsLost_11 : ad_D mm_X_tonsLost 11 (.iload_n 1) 1 12 := ⟨by decide +kernel, rfl⟩
theorem dd_X_tonsLost_12 : ad_D mm_X_tonsLost 12 (.aload_n 2) 1 13 := ⟨by decide +kernel, rfl⟩
theorem dd_X_tonsLost_13 : ad_D mm_X_tonsLost 13 (.getfield 214) 3 16 := ⟨by decide +kernel, rfl⟩
theorem dd_X_tonsLost_16 : ad_D mm_X_tonsLost 16 (.iadd) 1 17 := ⟨by decide +kernel, rfl⟩
theorem dd_X_tonsLost_17 : ad_D mm_X_tonsLost 17 (.istore_n 1) 1 18 := ⟨by decide +kernel, rfl⟩
theorem dd_X_tonsLost_18 : ad_D mm_X_tonsLost 18 (.aload_n 2) 1 19 := ⟨by decide +kernel, rfl⟩
theorem dd_X_tonsLost_19 : ad_D mm_X_tonsLost 19 (.getfield 263) 3 22 := ⟨by decide +kernel, rfl⟩
theorem dd_X_tonsLost_22 : ad_D mm_X_tonsLost 22 (.astore_n 2) 1 23 := ⟨by decide +kernel, rfl⟩
theorem dd_X_tonsLost_23 : ad_D mm_X_tonsLost 23 (.goto (-16)) 3 26 := ⟨by decide +kernel, rfl⟩
theorem dd_X_tonsLost_26 : ad_D mm_X_tonsLost 26 (.iload_n 1) 1 27 := ⟨by decide +kernel, rfl⟩
theorem dd_X_tonsLost_27 : ad_D mm_X_tonsLost 27 (.ireturn) 1 28 := ⟨by decide +kernel, rfl⟩
end
section
theorem dd_L_law_0 : ad_D mm_L_law 0 (.new 7) 3 3 := ⟨by decide +kernel, rfl⟩
theorem dd_L_law_3 : ad_D mm_L_law 3 (.dup) 1 4 := ⟨by decide +kernel, rfl⟩
theorem dd_L_law_4 : ad_D mm_L_law 4 (.invokespecial 9) 3 7 := ⟨by decide +kernel, rfl⟩
theorem dd_L_law_7 : ad_D mm_L_law 7 (.astore_n 1) 1 8 := ⟨by decide +kernel, rfl⟩
theorem dd_L_law_8 : ad_D mm_L_law 8 (.new 10) 3 11 := ⟨by decide +kernel, rfl⟩
theorem dd_L_law_11 : ad_D mm_L_law 11 (.dup) 1 12 := ⟨by decide +kernel, rfl⟩
theorem dd_L_law_12 : ad_D mm_L_law 12 (.invokespecial 12) 3 15 := ⟨by decide +kernel, rfl⟩
theorem dd_L_law_15 : ad_D mm_L_law 15 (.astore_n 2) 1 16 := ⟨by decide +kernel, rfl⟩
theorem dd_L_law_16 : ad_D mm_L_law 16 (.iconst 0) 1 17 := ⟨by decide +kernel, rfl⟩
theorem dd_L_law_17 : ad_D mm_L_law 17 (.istore_n 3) 1 18 := ⟨by decide +kernel, rfl⟩
theorem dd_L_law_18 : ad_D mm_L_law 18 (.iload_n 3) 1 19 := ⟨by decide +kernel, rfl⟩
theorem dd_L_law_19 : ad_D mm_L_law 19 (.aload_n 0) 1 20 := ⟨by decide +kernel, rfl⟩
theorem dd_L_law_20 : ad_D mm_L_law 20 (.arraylength) 1 21 := ⟨by decide +kernel, rfl⟩
theorem dd_L_law_21 : ad_D mm_L_law 21 (.bipush 7) 2 23 := ⟨by decide +kernel, rfl⟩
theorem dd_L_law_23 : ad_D mm_L_law 23 (.isub) 1 24 := ⟨by decide +kernel, rfl⟩
theorem dd_L_law_24 : ad_D mm_L_law 24 (.if_icmp .gt 853) 3 27 := ⟨by decide +kernel, rfl⟩
theorem dd_L_law_27 : ad_D mm_L_law 27 (.aload_n 0) 1 28 := ⟨by decide +kernel, rfl⟩
theorem dd_L_law_28 : ad_D mm_L_law 28 (.iload_n 3) 1 29 := ⟨by decide +kernel, rfl⟩
theorem dd_L_law_29 : ad_D mm_L_law 29 (.iaload) 1 30 := ⟨by decide +kernel, rfl⟩
theorem dd_L_law_30 : ad_D mm_L_law 30 (.bipush 31) 2 32 := ⟨by decide +kernel, rfl⟩
theorem dd_L_law_32 : ad_D mm_L_law 32 (.iand) 1 33 := ⟨by decide +kernel, rfl⟩
theorem dd_L_law_33 : ad_D mm_L_law 33 (.tableswitch 838 0 21 #[103, 156, 169, 244, 303, 326, 339, 372, 395, 418, 481, 504, 517, 540, 603, 636, 669, 702, 725, 758, 791, 815]) 103 136 := ⟨by decide +kernel, rfl⟩
theorem dd_L_law_136 : ad_D mm_L_law 136 (.aload_n 1) 1 137 := ⟨by decide +kernel, rfl⟩
theorem dd_L_law_137 : ad_D mm_L_law 137 (.aload_n 0) 1 138 := ⟨by decide +kernel, rfl⟩
theorem dd_L_law_138 : ad_D mm_L_law 138 (.iload_n 3) 1 139 := ⟨by decide +kernel, rfl⟩
theorem dd_L_law_139 : ad_D mm_L_law 139 (.iconst 1) 1 140 := ⟨by decide +kernel, rfl⟩
theorem dd_L_law_140 : ad_D mm_L_law 140 (.iadd) 1 141 := ⟨by decide +kernel, rfl⟩
theorem dd_L_law_141 : ad_D mm_L_law 141 (.iaload) 1 142 := ⟨by decide +kernel, rfl⟩
theorem dd_L_law_142 : ad_D mm_L_law 142 (.aload_n 0) 1 143 := ⟨by decide +kernel, rfl⟩
theorem dd_L_law_143 : ad_D mm_L_law 143 (.iload_n 3) 1 144 := ⟨by decide +kernel, rfl⟩
theorem dd_L_law_144 : ad_D mm_L_law 144 (.iconst 2) 1 145 := ⟨by decide +kernel, rfl⟩
theorem dd_L_law_145 : ad_D mm_L_law 145 (.iadd) 1 146 := ⟨by decide +kernel, rfl⟩
theorem dd_L_law_146 : ad_D mm_L_law 146 (.iaload) 1 147 := ⟨by decide +kernel, rfl⟩
theorem dd_L_law_147 : ad_D mm_L_law 147 (.aload_n 0) 1 148 := ⟨by decide +kernel, rfl⟩
theorem dd_L_law_148 : ad_D mm_L_law 148 (.iload_n 3) 1 149 := ⟨by decide +kernel, rfl⟩
theorem dd_L_law_149 : ad_D mm_L_law 149 (.iconst 3) 1 150 := ⟨by decide +kernel, rfl⟩
theorem dd_L_law_150 : ad_D mm_L_law 150 (.iadd) 1 151 := ⟨by decide +kernel, rfl⟩
theorem dd_L_law_151 : ad_D mm_L_law 151 (.iaload) 1 152 := ⟨by decide +kernel, rfl⟩
theorem dd_L_law_152 : ad_D mm_L_law 152 (.aload_n 0) 1 153 := ⟨by decide +kernel, rfl⟩
theorem dd_L_law_153 : ad_D mm_L_law 153 (.iload_n 3) 1 154 := ⟨by decide +kernel, rfl⟩
theorem dd_L_law_154 : ad_D mm_L_law 154 (.iconst 4) 1 155 := ⟨by decide +kernel, rfl⟩
theorem dd_L_law_155 : ad_D mm_L_law 155 (.iadd) 1 156 := ⟨by decide +kernel, rfl⟩
theorem dd_L_law_156 : ad_D mm_L_law 156 (.iaload) 1 157 := ⟨by decide +kernel, rfl⟩
theorem dd_L_law_157 : ad_D mm_L_law 157 (.invokevirtual 13) 3 160 := ⟨by decide +kernel, rfl⟩
theorem dd_L_law_160 : ad_D mm_L_law 160 (.aload_n 2) 1 161 := ⟨by decide +kernel, rfl⟩
theorem dd_L_law_161 : ad_D mm_L_law 161 (.aload_n 0) 1 162 := ⟨by decide +kernel, rfl⟩
theorem dd_L_law_162 : ad_D mm_L_law 162 (.iload_n 3) 1 163 := ⟨by decide +kernel, rfl⟩
theorem dd_L_law_163 : ad_D mm_L_law 163 (.iconst 1) 1 164 := ⟨by decide +kernel, rfl⟩
theorem dd_L_law_164 : ad_D mm_L_law 164 (.iadd) 1 165 := ⟨by decide +kernel, rfl⟩
theorem dd_L_law_165 : ad_D mm_L_law 165 (.iaload) 1 166 := ⟨by decide +kernel, rfl⟩
theorem dd_L_law_166 : ad_D mm_L_law 166 (.aload_n 0) 1 167 := ⟨by decide +kernel, rfl⟩
theorem dd_L_law_167 : ad_D mm_L_law 167 (.iload_n 3) 1 168 := ⟨by decide +kernel, rfl⟩
theorem dd_L_law_168 : ad_D mm_L_law 168 (.iconst 2) 1 169 := ⟨by decide +kernel, rfl⟩
theorem dd_L_law_169 : ad_D mm_L_law 169 (.iadd) 1 170 := ⟨by decide +kernel, rfl⟩
theorem dd_L_law_170 : ad_D mm_L_law 170 (.iaload) 1 171 := ⟨by decide +kernel, rfl⟩
theorem dd_L_law_171 : ad_D mm_L_law 171 (.aload_n 0) 1 172 := ⟨by decide +kernel, rfl⟩
theorem dd_L_law_172 : ad_D mm_L_law 172 (.iload_n 3) 1 173 := ⟨by decide +kernel, rfl⟩
theorem dd_L_law_173 : ad_D mm_L_law 173 (.iconst 3) 1 174 := ⟨by decide +kernel, rfl⟩
theorem dd_L_law_174 : ad_D mm_L_law 174 (.iadd) 1 175 := ⟨by decide +kernel, rfl⟩
theorem dd_L_law_175 : ad_D mm_L_law 175 (.iaload) 1 176 := ⟨by decide +kernel, rfl⟩
theorem dd_L_law_176 : ad_D mm_L_law 176 (.aload_n 0) 1 177 := ⟨by decide +kernel, rfl⟩
theorem dd_L_law_177 : ad_D mm_L_law 177 (.iload_n 3) 1 178 := ⟨by decide +kernel, rfl⟩
theorem dd_L_law_178 : ad_D mm_L_law 178 (.iconst 4) 1 179 := ⟨by decide +kernel, rfl⟩
theorem dd_L_law_179 : ad_D mm_L_law 179 (.iadd) 1 180 := ⟨by decide +kernel, rfl⟩
theorem dd_L_law_180 : ad_D mm_L_law 180 (.iaload) 1 181 := ⟨by decide +kernel, rfl⟩
theorem dd_L_law_181 : ad_D mm_L_law 181 (.invokevirtual 17) 3 184 := ⟨by decide +kernel, rfl⟩
theorem dd_L_law_184 : ad_D mm_L_law 184 (.if_icmp .eq 687) 3 187 := ⟨by decide +kernel, rfl⟩
theorem dd_L_law_187 : ad_D mm_L_law 187 (.iconst 0) 1 188 := ⟨by decide +kernel, rfl⟩
theorem dd_L_law_188 : ad_D mm_L_law 188 (.ireturn) 1 189 := ⟨by decide +kernel, rfl⟩
theorem dd_L_law_189 : ad_D mm_L_law 189 (.aload_n 1) 1 190 := ⟨by decide +kernel, rfl⟩
theorem dd_L_law_190 : ad_D mm_L_law 190 (.invokevirtual 18) 3 193 := ⟨by decide +kernel, rfl⟩
theorem dd_L_law_193 : ad_D mm_L_law 193 (.aload_n 2) 1 194 := ⟨by decide +kernel, rfl⟩
theorem dd_L_law_194 : ad_D mm_L_law 194 (.invokevirtual 22) 3 197 := ⟨by decide +kernel, rfl⟩
theorem dd_L_law_197 : ad_D mm_L_law 197 (.if_icmp .eq 674) 3 200 := ⟨by decide +kernel, rfl⟩
theorem dd_L_law_200 : ad_D mm_L_law 200 (.iconst 0) 1 201 := ⟨by decide +kernel, rfl⟩
theorem dd_L_law_201 : ad_D mm_L_law 201 (.ireturn) 1 202 := ⟨by decide +kernel, rfl⟩
theorem dd_L_law_202 : ad_D mm_L_law 202 (.aload_n 1) 1 203 := ⟨by decide +kernel, rfl⟩
theorem dd_L_law_203 : ad_D mm_L_law 203 (.aload_n 0) 1 204 := ⟨by decide +kernel, rfl⟩
theorem dd_L_law_204 : ad_D mm_L_law 204 (.iload_n 3) 1 205 := ⟨by decide +kernel, rfl⟩
theorem dd_L_law_205 : ad_D mm_L_law 205 (.iconst 1) 1 206 := ⟨by decide +kernel, rfl⟩
theorem dd_L_law_206 : ad_D mm_L_law 206 (.iadd) 1 207 := ⟨by decide +kernel, rfl⟩
theorem dd_L_law_207 : ad_D mm_L_law 207 (.iaload) 1 208 := ⟨by decide +kernel, rfl⟩
theorem dd_L_law_208 : ad_D mm_L_law 208 (.aload_n 0) 1 209 := ⟨by decide +kernel, rfl⟩
theorem dd_L_law_209 : ad_D mm_L_law 209 (.iload_n 3) 1 210 := ⟨by decide +kernel, rfl⟩
theorem dd_L_law_210 : ad_D mm_L_law 210 (.iconst 2) 1 211 := ⟨by decide +kernel, rfl⟩
theorem dd_L_law_211 : ad_D mm_L_law 211 (.iadd) 1 212 := ⟨by decide +kernel, rfl⟩
theorem dd_L_law_212 : ad_D mm_L_law 212 (.iaload) 1 213 := ⟨by decide +kernel, rfl⟩
theorem dd_L_law_213 : ad_D mm_L_law 213 (.aload_n 0) 1 214 := ⟨by decide +kernel, rfl⟩
theorem dd_L_law_214 : ad_D mm_L_law 214 (.iload_n 3) 1 215 := ⟨by decide +kernel, rfl⟩
theorem dd_L_law_215 : ad_D mm_L_law 215 (.iconst 3) 1 216 := ⟨by decide +kernel, rfl⟩
theorem dd_L_law_216 : ad_D mm_L_law 216 (.iadd) 1 217 := ⟨by decide +kernel, rfl⟩
theorem dd_L_law_217 : ad_D mm_L_law 217 (.iaload) 1 218 := ⟨by decide +kernel, rfl⟩
theorem dd_L_law_218 : ad_D mm_L_law 218 (.aload_n 0) 1 219 := ⟨by decide +kernel, rfl⟩
theorem dd_L_law_219 : ad_D mm_L_law 219 (.iload_n 3) 1 220 := ⟨by decide +kernel, rfl⟩
theorem dd_L_law_220 : ad_D mm_L_law 220 (.iconst 4) 1 221 := ⟨by decide +kernel, rfl⟩
theorem dd_L_law_221 : ad_D mm_L_law 221 (.iadd) 1 222 := ⟨by decide +kernel, rfl⟩
theorem dd_L_law_222 : ad_D mm_L_law 222 (.iaload) 1 223 := ⟨by decide +kernel, rfl⟩
theorem dd_L_law_223 : ad_D mm_L_law 223 (.aload_n 0) 1 224 := ⟨by decide +kernel, rfl⟩
theorem dd_L_law_224 : ad_D mm_L_law 224 (.iload_n 3) 1 225 := ⟨by decide +kernel, rfl⟩
theorem dd_L_law_225 : ad_D mm_L_law 225 (.iconst 5) 1 226 := ⟨by decide +kernel, rfl⟩
theorem dd_L_law_226 : ad_D mm_L_law 226 (.iadd) 1 227 := ⟨by decide +kernel, rfl⟩
theorem dd_L_law_227 : ad_D mm_L_law 227 (.iaload) 1 228 := ⟨by decide +kernel, rfl⟩
theorem dd_L_law_228 : ad_D mm_L_law 228 (.aload_n 0) 1 229 := ⟨by decide +kernel, rfl⟩
theorem dd_L_law_229 : ad_D mm_L_law 229 (.iload_n 3) 1 230 := ⟨by decide +kernel, rfl⟩
theorem dd_L_law_230 : ad_D mm_L_law 230 (.bipush 6) 2 232 := ⟨by decide +kernel, rfl⟩
theorem dd_L_law_232 : ad_D mm_L_law 232 (.iadd) 1 233 := ⟨by decide +kernel, rfl⟩
theorem dd_L_law_233 : ad_D mm_L_law 233 (.iaload) 1 234 := ⟨by decide +kernel, rfl⟩
theorem dd_L_law_234 : ad_D mm_L_law 234 (.invokevirtual 23) 3 237 := ⟨by decide +kernel, rfl⟩
theorem dd_L_law_237 : ad_D mm_L_law 237 (.aload_n 2) 1 238 := ⟨by decide +kernel, rfl⟩
theorem dd_L_law_238 : ad_D mm_L_law 238 (.aload_n 0) 1 239 := ⟨by decide +kernel, rfl⟩
theorem dd_L_law_239 : ad_D mm_L_law 239 (.iload_n 3) 1 240 := ⟨by decide +kernel, rfl⟩
theorem dd_L_law_240 : ad_D mm_L_law 240 (.iconst 1) 1 241 := ⟨by decide +kernel, rfl⟩
theorem dd_L_law_241 : ad_D mm_L_law 241 (.iadd) 1 242 := ⟨by decide +kernel, rfl⟩
theorem dd_L_law_242 : ad_D mm_L_law 242 (.iaload) 1 243 := ⟨by decide +kernel, rfl⟩
theorem dd_L_law_243 : ad_D mm_L_law 243 (.aload_n 0) 1 244 := ⟨by decide +kernel, rfl⟩
theorem dd_L_law_244 : ad_D mm_L_law 244 (.iload_n 3) 1 245 := ⟨by decide +kernel, rfl⟩
theorem dd_L_law_245 : ad_D mm_L_law 245 (.iconst 2) 1 246 := ⟨by decide +kernel, rfl⟩
theorem dd_L_law_246 : ad_D mm_L_law 246 (.iadd) 1 247 := ⟨by decide +kernel, rfl⟩
theorem dd_L_law_247 : ad_D mm_L_law 247 (.iaload) 1 248 := ⟨by decide +kernel, rfl⟩
theorem dd_L_law_248 : ad_D mm_L_law 248 (.aload_n 0) 1 249 := ⟨by decide +kernel, rfl⟩
theorem dd_L_law_249 : ad_D mm_L_law 249 (.iload_n 3) 1 250 := ⟨by decide +kernel, rfl⟩
theorem dd_L_law_250 : ad_D mm_L_law 250 (.iconst 3) 1 251 := ⟨by decide +kernel, rfl⟩
theorem dd_L_law_251 : ad_D mm_L_law 251 (.iadd) 1 252 := ⟨by decide +kernel, rfl⟩
theorem dd_L_law_252 : ad_D mm_L_law 252 (.iaload) 1 253 := ⟨by decide +kernel, rfl⟩
theorem dd_L_law_253 : ad_D mm_L_law 253 (.aload_n 0) 1 254 := ⟨by decide +kernel, rfl⟩
theorem dd_L_law_254 : ad_D mm_L_law 254 (.iload_n 3) 1 255 := ⟨by decide +kernel, rfl⟩
theorem dd_L_law_255 : ad_D mm_L_law 255 (.iconst 4) 1 256 := ⟨by decide +kernel, rfl⟩
theorem dd_L_law_256 : ad_D mm_L_law 256 (.iadd) 1 257 := ⟨by decide +kernel, rfl⟩
theorem dd_L_law_257 : ad_D mm_L_law 257 (.iaload) 1 258 := ⟨by decide +kernel, rfl⟩
theorem dd_L_law_258 : ad_D mm_L_law 258 (.aload_n 0) 1 259 := ⟨by decide +kernel, rfl⟩
theorem dd_L_law_259 : ad_D mm_L_law 259 (.iload_n 3) 1 260 := ⟨by decide +kernel, rfl⟩
theorem dd_L_law_260 : ad_D mm_L_law 260 (.iconst 5) 1 261 := ⟨by decide +kernel, rfl⟩
theorem dd_L_law_261 : ad_D mm_L_law 261 (.iadd) 1 262 := ⟨by decide +kernel, rfl⟩
theorem dd_L_law_262 : ad_D mm_L_law 262 (.iaload) 1 263 := ⟨by decide +kernel, rfl⟩
theorem dd_L_law_263 : ad_D mm_L_law 263 (.aload_n 0) 1 264 := ⟨by decide +kernel, rfl⟩
theorem dd_L_law_264 : ad_D mm_L_law 264 (.iload_n 3) 1 265 := ⟨by decide +kernel, rfl⟩
theorem dd_L_law_265 : ad_D mm_L_law 265 (.bipush 6) 2 267 := ⟨by decide +kernel, rfl⟩
theorem dd_L_law_267 : ad_D mm_L_law 267 (.iadd) 1 268 := ⟨by decide +kernel, rfl⟩
theorem dd_L_law_268 : ad_D mm_L_law 268 (.iaload) 1 269 := ⟨by decide +kernel, rfl⟩
theorem dd_L_law_269 : ad_D mm_L_law 269 (.invokevirtual 27) 3 272 := ⟨by decide +kernel, rfl⟩
theorem dd_L_law_272 : ad_D mm_L_law 272 (.if_icmp .eq 599) 3 275 := ⟨by decide +kernel, rfl⟩
theorem dd_L_law_275 : ad_D mm_L_law 275 (.iconst 0) 1 276 := ⟨by decide +kernel, rfl⟩
theorem dd_L_law_276 : ad_D mm_L_law 276 (.ireturn) 1 277 := ⟨by decide +kernel, rfl⟩
theorem dd_L_law_277 : ad_D mm_L_law 277 (.aload_n 1) 1 278 := ⟨by decide +kernel, rfl⟩
theorem dd_L_law_278 : ad_D mm_L_law 278 (.aload_n 0) 1 279 := ⟨by decide +kernel, rfl⟩
theorem dd_L_law_279 : ad_D mm_L_law 279 (.iload_n 3) 1 280 := ⟨by decide +kernel, rfl⟩
theorem dd_L_law_280 : ad_D mm_L_law 280 (.iconst 1) 1 281 := ⟨by decide +kernel, rfl⟩
theorem dd_L_law_281 : ad_D mm_L_law 281 (.iadd) 1 282 := ⟨by decide +kernel, rfl⟩
theorem dd_L_law_282 : ad_D mm_L_law 282 (.iaload) 1 283 := ⟨by decide +kernel, rfl⟩
theorem dd_L_law_283 : ad_D mm_L_law 283 (.ifCond .eq 7) 3 286 := ⟨by decide +kernel, rfl⟩
theorem dd_L_law_286 : ad_D mm_L_law 286 (.iconst 1) 1 287 := ⟨by decide +kernel, rfl⟩
theorem dd_L_law_287 : ad_D mm_L_law 287 (.goto 4) 3 290 := ⟨by decide +kernel, rfl⟩
theorem dd_L_law_290 : ad_D mm_L_law 290 (.iconst 0) 1 291 := ⟨by decide +kernel, rfl⟩
theorem dd_L_law_291 : ad_D mm_L_law 291 (.aload_n 0) 1 292 := ⟨by decide +kernel, rfl⟩
theorem dd_L_law_292 : ad_D mm_L_law 292 (.iload_n 3) 1 293 := ⟨by decide +kernel, rfl⟩
theorem dd_L_law_293 : ad_D mm_L_law 293 (.iconst 2) 1 294 := ⟨by decide +kernel, rfl⟩
theorem dd_L_law_294 : ad_D mm_L_law 294 (.iadd) 1 295 := ⟨by decide +kernel, rfl⟩
theorem dd_L_law_295 : ad_D mm_L_law 295 (.iaload) 1 296 := ⟨by decide +kernel, rfl⟩
theorem dd_L_law_296 : ad_D mm_L_law 296 (.aload_n 0) 1 297 := ⟨by decide +kernel, rfl⟩
theorem dd_L_law_297 : ad_D mm_L_law 297 (.iload_n 3) 1 298 := ⟨by decide +kernel, rfl⟩
theorem dd_L_law_298 : ad_D mm_L_law 298 (.iconst 3) 1 299 := ⟨by decide +kernel, rfl⟩
theorem dd_L_law_299 : ad_D mm_L_law 299 (.iadd) 1 300 := ⟨by decide +kernel, rfl⟩
theorem dd_L_law_300 : ad_D mm_L_law 300 (.iaload) 1 301 := ⟨by decide +kernel, rfl⟩
theorem dd_L_law_301 : ad_D mm_L_law 301 (.invokevirtual 28) 3 304 := ⟨by decide +kernel, rfl⟩
theorem dd_L_law_304 : ad_D mm_L_law 304 (.aload_n 2) 1 305 := ⟨by decide +kernel, rfl⟩
theorem dd_L_law_305 : ad_D mm_L_law 305 (.aload_n 0) 1 306 := ⟨by decide +kernel, rfl⟩
theorem dd_L_law_306 : ad_D mm_L_law 306 (.iload_n 3) 1 307 := ⟨by decide +kernel, rfl⟩
theorem dd_L_law_307 : ad_D mm_L_law 307 (.iconst 1) 1 308 := ⟨by decide +kernel, rfl⟩
theorem dd_L_law_308 : ad_D mm_L_law 308 (.iadd) 1 309 := ⟨by decide +kernel, rfl⟩
theorem dd_L_law_309 : ad_D mm_L_law 309 (.iaload) 1 310 := ⟨by decide +kernel, rfl⟩
theorem dd_L_law_310 : ad_D mm_L_law 310 (.ifCond .eq 7) 3 313 := ⟨by decide +kernel, rfl⟩
theorem dd_L_law_313 : ad_D mm_L_law 313 (.iconst 1) 1 314 := ⟨by decide +kernel, rfl⟩
theorem dd_L_law_314 : ad_D mm_L_law 314 (.goto 4) 3 317 := ⟨by decide +kernel, rfl⟩
theorem dd_L_law_317 : ad_D mm_L_law 317 (.iconst 0) 1 318 := ⟨by decide +kernel, rfl⟩
theorem dd_L_law_318 : ad_D mm_L_law 318 (.aload_n 0) 1 319 := ⟨by decide +kernel, rfl⟩
theorem dd_L_law_319 : ad_D mm_L_law 319 (.iload_n 3) 1 320 := ⟨by decide +kernel, rfl⟩
theorem dd_L_law_320 : ad_D mm_L_law 320 (.iconst 2) 1 321 := ⟨by decide +kernel, rfl⟩
theorem dd_L_law_321 : ad_D mm_L_law 321 (.iadd) 1 322 := ⟨by decide +kernel, rfl⟩
theorem dd_L_law_322 : ad_D mm_L_law 322 (.iaload) 1 323 := ⟨by decide +kernel, rfl⟩
theorem dd_L_law_323 : ad_D mm_L_law 323 (.aload_n 0) 1 324 := ⟨by decide +kernel, rfl⟩
theorem dd_L_law_324 : ad_D mm_L_law 324 (.iload_n 3) 1 325 := ⟨by decide +kernel, rfl⟩
theorem dd_L_law_325 : ad_D mm_L_law 325 (.iconst 3) 1 326 := ⟨by decide +kernel, rfl⟩
theorem dd_L_law_326 : ad_D mm_L_law 326 (.iadd) 1 327 := ⟨by decide +kernel, rfl⟩
theorem dd_L_law_327 : ad_D mm_L_law 327 (.iaload) 1 328 := ⟨by decide +kernel, rfl⟩
theorem dd_L_law_328 : ad_D mm_L_law 328 (.invokevirtual 32) 3 331 := ⟨by decide +kernel, rfl⟩
theorem dd_L_law_331 : ad_D mm_L_law 331 (.if_icmp .eq 540) 3 334 := ⟨by decide +kernel, rfl⟩
theorem dd_L_law_334 : ad_D mm_L_law 334 (.iconst 0) 1 335 := ⟨by decide +kernel, rfl⟩
theorem dd_L_law_335 : ad_D mm_L_law 335 (.ireturn) 1 336 := ⟨by decide +kernel, rfl⟩
theorem dd_L_law_336 : ad_D mm_L_law 336 (.aload_n 1) 1 337 := ⟨by decide +kernel, rfl⟩
theorem dd_L_law_337 : ad_D mm_L_law 337 (.aload_n 0) 1 338 := ⟨by decide +kernel, rfl⟩
theorem dd_L_law_338 : ad_D mm_L_law 338 (.iload_n 3) 1 339 := ⟨by decide +kernel, rfl⟩
theorem dd_L_law_339 : ad_D mm_L_law 339 (.iconst 1) 1 340 := ⟨by decide +kernel, rfl⟩
theorem dd_L_law_340 : ad_D mm_L_law 340 (.iadd) 1 341 := ⟨by decide +kernel, rfl⟩
theorem dd_L_law_341 : ad_D mm_L_law 341 (.iaload) 1 342 := ⟨by decide +kernel, rfl⟩
theorem dd_L_law_342 : ad_D mm_L_law 342 (.invokevirtual 33) 3 345 := ⟨by decide +kernel, rfl⟩
theorem dd_L_law_345 : ad_D mm_L_law 345 (.aload_n 2) 1 346 := ⟨by decide +kernel, rfl⟩
theorem dd_L_law_346 : ad_D mm_L_law 346 (.aload_n 0) 1 347 := ⟨by decide +kernel, rfl⟩
theorem dd_L_law_347 : ad_D mm_L_law 347 (.iload_n 3) 1 348 := ⟨by decide +kernel, rfl⟩
theorem dd_L_law_348 : ad_D mm_L_law 348 (.iconst 1) 1 349 := ⟨by decide +kernel, rfl⟩
theorem dd_L_law_349 : ad_D mm_L_law 349 (.iadd) 1 350 := ⟨by decide +kernel, rfl⟩
theorem dd_L_law_350 : ad_D mm_L_law 350 (.iaload) 1 351 := ⟨by decide +kernel, rfl⟩
theorem dd_L_law_351 : ad_D mm_L_law 351 (.invokevirtual 37) 3 354 := ⟨by decide +kernel, rfl⟩
theorem dd_L_law_354 : ad_D mm_L_law 354 (.if_icmp .eq 517) 3 357 := ⟨by decide +kernel, rfl⟩
theorem dd_L_law_357 : ad_D mm_L_law 357 (.iconst 0) 1 358 := ⟨by decide +kernel, rfl⟩
theorem dd_L_law_358 : ad_D mm_L_law 358 (.ireturn) 1 359 := ⟨by decide +kernel, rfl⟩
theorem dd_L_law_359 : ad_D mm_L_law 359 (.aload_n 1) 1 360 := ⟨by decide +kernel, rfl⟩
theorem dd_L_law_360 : ad_D mm_L_law 360 (.invokevirtual 38) 3 363 := ⟨by decide +kernel, rfl⟩
theorem dd_L_law_363 : ad_D mm_L_law 363 (.aload_n 2) 1 364 := ⟨by decide +kernel, rfl⟩
theorem dd_L_law_364 : ad_D mm_L_law 364 (.invokevirtual 41) 3 367 := ⟨by decide +kernel, rfl⟩
theorem dd_L_law_367 : ad_D mm_L_law 367 (.if_icmp .eq 504) 3 370 := ⟨by decide +kernel, rfl⟩
theorem dd_L_law_370 : ad_D mm_L_law 370 (.iconst 0) 1 371 := ⟨by decide +kernel, rfl⟩
theorem dd_L_law_371 : ad_D mm_L_law 371 (.ireturn) 1 372 := ⟨by decide +kernel, rfl⟩
theorem dd_L_law_372 : ad_D mm_L_law 372 (.aload_n 1) 1 373 := ⟨by decide +kernel, rfl⟩
theorem dd_L_law_373 : ad_D mm_L_law 373 (.aload_n 0) 1 374 := ⟨by decide +kernel, rfl⟩
theorem dd_L_law_374 : ad_D mm_L_law 374 (.iload_n 3) 1 375 := ⟨by decide +kernel, rfl⟩
theorem dd_L_law_375 : ad_D mm_L_law 375 (.iconst 1) 1 376 := ⟨by decide +kernel, rfl⟩
theorem dd_L_law_376 : ad_D mm_L_law 376 (.iadd) 1 377 := ⟨by decide +kernel, rfl⟩
theorem dd_L_law_377 : ad_D mm_L_law 377 (.iaload) 1 378 := ⟨by decide +kernel, rfl⟩
theorem dd_L_law_378 : ad_D mm_L_law 378 (.aload_n 0) 1 379 := ⟨by decide +kernel, rfl⟩
theorem dd_L_law_379 : ad_D mm_L_law 379 (.iload_n 3) 1 380 := ⟨by decide +kernel, rfl⟩
theorem dd_L_law_380 : ad_D mm_L_law 380 (.iconst 2) 1 381 := ⟨by decide +kernel, rfl⟩
theorem dd_L_law_381 : ad_D mm_L_law 381 (.iadd) 1 382 := ⟨by decide +kernel, rfl⟩
theorem dd_L_law_382 : ad_D mm_L_law 382 (.iaload) 1 383 := ⟨by decide +kernel, rfl⟩
theorem dd_L_law_383 : ad_D mm_L_law 383 (.invokevirtual 42) 3 386 := ⟨by decide +kernel, rfl⟩
theorem dd_L_law_386 : ad_D mm_L_law 386 (.aload_n 2) 1 387 := ⟨by decide +kernel, rfl⟩
theorem dd_L_law_387 : ad_D mm_L_law 387 (.aload_n 0) 1 388 := ⟨by decide +kernel, rfl⟩
theorem dd_L_law_388 : ad_D mm_L_law 388 (.iload_n 3) 1 389 := ⟨by decide +kernel, rfl⟩
theorem dd_L_law_389 : ad_D mm_L_law 389 (.iconst 1) 1 390 := ⟨by decide +kernel, rfl⟩
theorem dd_L_law_390 : ad_D mm_L_law 390 (.iadd) 1 391 := ⟨by decide +kernel, rfl⟩
theorem dd_L_law_391 : ad_D mm_L_law 391 (.iaload) 1 392 := ⟨by decide +kernel, rfl⟩
theorem dd_L_law_392 : ad_D mm_L_law 392 (.aload_n 0) 1 393 := ⟨by decide +kernel, rfl⟩
theorem dd_L_law_393 : ad_D mm_L_law 393 (.iload_n 3) 1 394 := ⟨by decide +kernel, rfl⟩
theorem dd_L_law_394 : ad_D mm_L_law 394 (.iconst 2) 1 395 := ⟨by decide +kernel, rfl⟩
theorem dd_L_law_395 : ad_D mm_L_law 395 (.iadd) 1 396 := ⟨by decide +kernel, rfl⟩
theorem dd_L_law_396 : ad_D mm_L_law 396 (.iaload) 1 397 := ⟨by decide +kernel, rfl⟩
theorem dd_L_law_397 : ad_D mm_L_law 397 (.invokevirtual 46) 3 400 := ⟨by decide +kernel, rfl⟩
theorem dd_L_law_400 : ad_D mm_L_law 400 (.if_icmp .eq 471) 3 403 := ⟨by decide +kernel, rfl⟩
theorem dd_L_law_403 : ad_D mm_L_law 403 (.iconst 0) 1 404 := ⟨by decide +kernel, rfl⟩
theorem dd_L_law_404 : ad_D mm_L_law 404 (.ireturn) 1 405 := ⟨by decide +kernel, rfl⟩
theorem dd_L_law_405 : ad_D mm_L_law 405 (.aload_n 1) 1 406 := ⟨by decide +kernel, rfl⟩
theorem dd_L_law_406 : ad_D mm_L_law 406 (.aload_n 0) 1 407 := ⟨by decide +kernel, rfl⟩
theorem dd_L_law_407 : ad_D mm_L_law 407 (.iload_n 3) 1 408 := ⟨by decide +kernel, rfl⟩
theorem dd_L_law_408 : ad_D mm_L_law 408 (.iconst 1) 1 409 := ⟨by decide +kernel, rfl⟩
theorem dd_L_law_409 : ad_D mm_L_law 409 (.iadd) 1 410 := ⟨by decide +kernel, rfl⟩
theorem dd_L_law_410 : ad_D mm_L_law 410 (.iaload) 1 411 := ⟨by decide +kernel, rfl⟩
theorem dd_L_law_411 : ad_D mm_L_law 411 (.invokevirtual 47) 3 414 := ⟨by decide +kernel, rfl⟩
theorem dd_L_law_414 : ad_D mm_L_law 414 (.aload_n 2) 1 415 := ⟨by decide +kernel, rfl⟩
theorem dd_L_law_415 : ad_D mm_L_law 415 (.aload_n 0) 1 416 := ⟨by decide +kernel, rfl⟩
theorem dd_L_law_416 : ad_D mm_L_law 416 (.iload_n 3) 1 417 := ⟨by decide +kernel, rfl⟩
theorem dd_L_law_417 : ad_D mm_L_law 417 (.iconst 1) 1 418 := ⟨by decide +kernel, rfl⟩
theorem dd_L_law_418 : ad_D mm_L_law 418 (.iadd) 1 419 := ⟨by decide +kernel, rfl⟩
theorem dd_L_law_419 : ad_D mm_L_law 419 (.iaload) 1 420 := ⟨by decide +kernel, rfl⟩
theorem dd_L_law_420 : ad_D mm_L_law 420 (.invokevirtual 51) 3 423 := ⟨by decide +kernel, rfl⟩
theorem dd_L_law_423 : ad_D mm_L_law 423 (.if_icmp .eq 448) 3 426 := ⟨by decide +kernel, rfl⟩
theorem dd_L_law_426 : ad_D mm_L_law 426 (.iconst 0) 1 427 := ⟨by decide +kernel, rfl⟩
theorem dd_L_law_427 : ad_D mm_L_law 427 (.ireturn) 1 428 := ⟨by decide +kernel, rfl⟩
theorem dd_L_law_428 : ad_D mm_L_law 428 (.aload_n 1) 1 429 := ⟨by decide +kernel, rfl⟩
theorem dd_L_law_429 : ad_D mm_L_law 429 (.aload_n 0) 1 430 := ⟨by decide +kernel, rfl⟩
theorem dd_L_law_430 : ad_D mm_L_law 430 (.iload_n 3) 1 431 := ⟨by decide +kernel, rfl⟩
theorem dd_L_law_431 : ad_D mm_L_law 431 (.iconst 1) 1 432 := ⟨by decide +kernel, rfl⟩
theorem dd_L_law_432 : ad_D mm_L_law 432 (.iadd) 1 433 := ⟨by decide +kernel, rfl⟩
theorem dd_L_law_433 : ad_D mm_L_law 433 (.iaload) 1 434 := ⟨by decide +kernel, rfl⟩
theorem dd_L_law_434 : ad_D mm_L_law 434 (.invokevirtual 52) 3 437 := ⟨by decide +kernel, rfl⟩
theorem dd_L_law_437 : ad_D mm_L_law 437 (.aload_n 2) 1 438 := ⟨by decide +kernel, rfl⟩
theorem dd_L_law_438 : ad_D mm_L_law 438 (.aload_n 0) 1 439 := ⟨by decide +kernel, rfl⟩
theorem dd_L_law_439 : ad_D mm_L_law 439 (.iload_n 3) 1 440 := ⟨by decide +kernel, rfl⟩
theorem dd_L_law_440 : ad_D mm_L_law 440 (.iconst 1) 1 441 := ⟨by decide +kernel, rfl⟩
theorem dd_L_law_441 : ad_D mm_L_law 441 (.iadd) 1 442 := ⟨by decide +kernel, rfl⟩
theorem dd_L_law_442 : ad_D mm_L_law 442 (.iaload) 1 443 := ⟨by decide +kernel, rfl⟩
theorem dd_L_law_443 : ad_D mm_L_law 443 (.invokevirtual 55) 3 446 := ⟨by decide +kernel, rfl⟩
theorem dd_L_law_446 : ad_D mm_L_law 446 (.if_icmp .eq 425) 3 449 := ⟨by decide +kernel, rfl⟩
theorem dd_L_law_449 : ad_D mm_L_law 449 (.iconst 0) 1 450 := ⟨by decide +kernel, rfl⟩
theorem dd_L_law_450 : ad_D mm_L_law 450 (.ireturn) 1 451 := ⟨by decide +kernel, rfl⟩
theorem dd_L_law_451 : ad_D mm_L_law 451 (.aload_n 1) 1 452 := ⟨by decide +kernel, rfl⟩
theorem dd_L_law_452 : ad_D mm_L_law 452 (.aload_n 0) 1 453 := ⟨by decide +kernel, rfl⟩
theorem dd_L_law_453 : ad_D mm_L_law 453 (.iload_n 3) 1 454 := ⟨by decide +kernel, rfl⟩
theorem dd_L_law_454 : ad_D mm_L_law 454 (.iconst 1) 1 455 := ⟨by decide +kernel, rfl⟩
theorem dd_L_law_455 : ad_D mm_L_law 455 (.iadd) 1 456 := ⟨by decide +kernel, rfl⟩
theorem dd_L_law_456 : ad_D mm_L_law 456 (.iaload) 1 457 := ⟨by decide +kernel, rfl⟩
theorem dd_L_law_457 : ad_D mm_L_law 457 (.aload_n 0) 1 458 := ⟨by decide +kernel, rfl⟩
theorem dd_L_law_458 : ad_D mm_L_law 458 (.iload_n 3) 1 459 := ⟨by decide +kernel, rfl⟩
theorem dd_L_law_459 : ad_D mm_L_law 459 (.iconst 2) 1 460 := ⟨by decide +kernel, rfl⟩
theorem dd_L_law_460 : ad_D mm_L_law 460 (.iadd) 1 461 := ⟨by decide +kernel, rfl⟩
theorem dd_L_law_461 : ad_D mm_L_law 461 (.iaload) 1 462 := ⟨by decide +kernel, rfl⟩
theorem dd_L_law_462 : ad_D mm_L_law 462 (.aload_n 0) 1 463 := ⟨by decide +kernel, rfl⟩
theorem dd_L_law_463 : ad_D mm_L_law 463 (.iload_n 3) 1 464 := ⟨by decide +kernel, rfl⟩
theorem dd_L_law_464 : ad_D mm_L_law 464 (.iconst 3) 1 465 := ⟨by decide +kernel, rfl⟩
theorem dd_L_law_465 : ad_D mm_L_law 465 (.iadd) 1 466 := ⟨by decide +kernel, rfl⟩
theorem dd_L_law_466 : ad_D mm_L_law 466 (.iaload) 1 467 := ⟨by decide +kernel, rfl⟩
theorem dd_L_law_467 : ad_D mm_L_law 467 (.aload_n 0) 1 468 := ⟨by decide +kernel, rfl⟩
theorem dd_L_law_468 : ad_D mm_L_law 468 (.iload_n 3) 1 469 := ⟨by decide +kernel, rfl⟩
theorem dd_L_law_469 : ad_D mm_L_law 469 (.iconst 4) 1 470 := ⟨by decide +kernel, rfl⟩
theorem dd_L_law_470 : ad_D mm_L_law 470 (.iadd) 1 471 := ⟨by decide +kernel, rfl⟩
theorem dd_L_law_471 : ad_D mm_L_law 471 (.iaload) 1 472 := ⟨by decide +kernel, rfl⟩
theorem dd_L_law_472 : ad_D mm_L_law 472 (.aload_n 0) 1 473 := ⟨by decide +kernel, rfl⟩
theorem dd_L_law_473 : ad_D mm_L_law 473 (.iload_n 3) 1 474 := ⟨by decide +kernel, rfl⟩
theorem dd_L_law_474 : ad_D mm_L_law 474 (.iconst 5) 1 475 := ⟨by decide +kernel, rfl⟩
theorem dd_L_law_475 : ad_D mm_L_law 475 (.iadd) 1 476 := ⟨by decide +kernel, rfl⟩
theorem dd_L_law_476 : ad_D mm_L_law 476 (.iaload) 1 477 := ⟨by decide +kernel, rfl⟩
theorem dd_L_law_477 : ad_D mm_L_law 477 (.invokevirtual 56) 3 480 := ⟨by decide +kernel, rfl⟩
theorem dd_L_law_480 : ad_D mm_L_law 480 (.aload_n 2) 1 481 := ⟨by decide +kernel, rfl⟩
theorem dd_L_law_481 : ad_D mm_L_law 481 (.aload_n 0) 1 482 := ⟨by decide +kernel, rfl⟩
theorem dd_L_law_482 : ad_D mm_L_law 482 (.iload_n 3) 1 483 := ⟨by decide +kernel, rfl⟩
theorem dd_L_law_483 : ad_D mm_L_law 483 (.iconst 1) 1 484 := ⟨by decide +kernel, rfl⟩
theorem dd_L_law_484 : ad_D mm_L_law 484 (.iadd) 1 485 := ⟨by decide +kernel, rfl⟩
theorem dd_L_law_485 : ad_D mm_L_law 485 (.iaload) 1 486 := ⟨by decide +kernel, rfl⟩
theorem dd_L_law_486 : ad_D mm_L_law 486 (.aload_n 0) 1 487 := ⟨by decide +kernel, rfl⟩
theorem dd_L_law_487 : ad_D mm_L_law 487 (.iload_n 3) 1 488 := ⟨by decide +kernel, rfl⟩
theorem dd_L_law_488 : ad_D mm_L_law 488 (.iconst 2) 1 489 := ⟨by decide +kernel, rfl⟩
theorem dd_L_law_489 : ad_D mm_L_law 489 (.iadd) 1 490 := ⟨by decide +kernel, rfl⟩
theorem dd_L_law_490 : ad_D mm_L_law 490 (.iaload) 1 491 := ⟨by decide +kernel, rfl⟩
theorem dd_L_law_491 : ad_D mm_L_law 491 (.aload_n 0) 1 492 := ⟨by decide +kernel, rfl⟩
theorem dd_L_law_492 : ad_D mm_L_law 492 (.iload_n 3) 1 493 := ⟨by decide +kernel, rfl⟩
theorem dd_L_law_493 : ad_D mm_L_law 493 (.iconst 3) 1 494 := ⟨by decide +kernel, rfl⟩
theorem dd_L_law_494 : ad_D mm_L_law 494 (.iadd) 1 495 := ⟨by decide +kernel, rfl⟩
theorem dd_L_law_495 : ad_D mm_L_law 495 (.iaload) 1 496 := ⟨by decide +kernel, rfl⟩
theorem dd_L_law_496 : ad_D mm_L_law 496 (.aload_n 0) 1 497 := ⟨by decide +kernel, rfl⟩
theorem dd_L_law_497 : ad_D mm_L_law 497 (.iload_n 3) 1 498 := ⟨by decide +kernel, rfl⟩
theorem dd_L_law_498 : ad_D mm_L_law 498 (.iconst 4) 1 499 := ⟨by decide +kernel, rfl⟩
theorem dd_L_law_499 : ad_D mm_L_law 499 (.iadd) 1 500 := ⟨by decide +kernel, rfl⟩
theorem dd_L_law_500 : ad_D mm_L_law 500 (.iaload) 1 501 := ⟨by decide +kernel, rfl⟩
theorem dd_L_law_501 : ad_D mm_L_law 501 (.aload_n 0) 1 502 := ⟨by decide +kernel, rfl⟩
theorem dd_L_law_502 : ad_D mm_L_law 502 (.iload_n 3) 1 503 := ⟨by decide +kernel, rfl⟩
theorem dd_L_law_503 : ad_D mm_L_law 503 (.iconst 5) 1 504 := ⟨by decide +kernel, rfl⟩
theorem dd_L_law_504 : ad_D mm_L_law 504 (.iadd) 1 505 := ⟨by decide +kernel, rfl⟩
theorem dd_L_law_505 : ad_D mm_L_law 505 (.iaload) 1 506 := ⟨by decide +kernel, rfl⟩
theorem dd_L_law_506 : ad_D mm_L_law 506 (.invokevirtual 60) 3 509 := ⟨by decide +kernel, rfl⟩
theorem dd_L_law_509 : ad_D mm_L_law 509 (.if_icmp .eq 362) 3 512 := ⟨by decide +kernel, rfl⟩
theorem dd_L_law_512 : ad_D mm_L_law 512 (.iconst 0) 1 513 := ⟨by decide +kernel, rfl⟩
theorem dd_L_law_513 : ad_D mm_L_law 513 (.ireturn) 1 514 := ⟨by decide +kernel, rfl⟩
theorem dd_L_law_514 : ad_D mm_L_law 514 (.aload_n 1) 1 515 := ⟨by decide +kernel, rfl⟩
theorem dd_L_law_515 : ad_D mm_L_law 515 (.aload_n 0) 1 516 := ⟨by decide +kernel, rfl⟩
theorem dd_L_law_516 : ad_D mm_L_law 516 (.iload_n 3) 1 517 := ⟨by decide +kernel, rfl⟩
theorem dd_L_law_517 : ad_D mm_L_law 517 (.iconst 1) 1 518 := ⟨by decide +kernel, rfl⟩
theorem dd_L_law_518 : ad_D mm_L_law 518 (.iadd) 1 519 := ⟨by decide +kernel, rfl⟩
theorem dd_L_law_519 : ad_D mm_L_law 519 (.iaload) 1 520 := ⟨by decide +kernel, rfl⟩
theorem dd_L_law_520 : ad_D mm_L_law 520 (.invokevirtual 61) 3 523 := ⟨by decide +kernel, rfl⟩
theorem dd_L_law_523 : ad_D mm_L_law 523 (.aload_n 2) 1 524 := ⟨by decide +kernel, rfl⟩
theorem dd_L_law_524 : ad_D mm_L_law 524 (.aload_n 0) 1 525 := ⟨by decide +kernel, rfl⟩
theorem dd_L_law_525 : ad_D mm_L_law 525 (.iload_n 3) 1 526 := ⟨by decide +kernel, rfl⟩
theorem dd_L_law_526 : ad_D mm_L_law 526 (.iconst 1) 1 527 := ⟨by decide +kernel, rfl⟩
theorem dd_L_law_527 : ad_D mm_L_law 527 (.iadd) 1 528 := ⟨by decide +kernel, rfl⟩
theorem dd_L_law_528 : ad_D mm_L_law 528 (.iaload) 1 529 := ⟨by decide +kernel, rfl⟩
theorem dd_L_law_529 : ad_D mm_L_law 529 (.invokevirtual 64) 3 532 := ⟨by decide +kernel, rfl⟩
theorem dd_L_law_532 : ad_D mm_L_law 532 (.if_icmp .eq 339) 3 535 := ⟨by decide +kernel, rfl⟩
theorem dd_L_law_535 : ad_D mm_L_law 535 (.iconst 0) 1 536 := ⟨by decide +kernel, rfl⟩
theorem dd_L_law_536 : ad_D mm_L_law 536 (.ireturn) 1 537 := ⟨by decide +kernel, rfl⟩
theorem dd_L_law_537 : ad_D mm_L_law 537 (.aload_n 1) 1 538 := ⟨by decide +kernel, rfl⟩
theorem dd_L_law_538 : ad_D mm_L_law 538 (.invokevirtual 65) 3 541 := ⟨by decide +kernel, rfl⟩
theorem dd_L_law_541 : ad_D mm_L_law 541 (.aload_n 2) 1 542 := ⟨by decide +kernel, rfl⟩
theorem dd_L_law_542 : ad_D mm_L_law 542 (.invokevirtual 69) 3 545 := ⟨by decide +kernel, rfl⟩
theorem dd_L_law_545 : ad_D mm_L_law 545 (.if_icmp .eq 326) 3 548 := ⟨by decide +kernel, rfl⟩
theorem dd_L_law_548 : ad_D mm_L_law 548 (.iconst 0) 1 549 := ⟨by decide +kernel, rfl⟩
theorem dd_L_law_549 : ad_D mm_L_law 549 (.ireturn) 1 550 := ⟨by decide +kernel, rfl⟩
theorem dd_L_law_550 : ad_D mm_L_law 550 (.aload_n 1) 1 551 := ⟨by decide +kernel, rfl⟩
theorem dd_L_law_551 : ad_D mm_L_law 551 (.aload_n 0) 1 552 := ⟨by decide +kernel, rfl⟩
theorem dd_L_law_552 : ad_D mm_L_law 552 (.iload_n 3) 1 553 := ⟨by decide +kernel, rfl⟩
theorem dd_L_law_553 : ad_D mm_L_law 553 (.iconst 1) 1 554 := ⟨by decide +kernel, rfl⟩
theorem dd_L_law_554 : ad_D mm_L_law 554 (.iadd) 1 555 := ⟨by decide +kernel, rfl⟩
theorem dd_L_law_555 : ad_D mm_L_law 555 (.iaload) 1 556 := ⟨by decide +kernel, rfl⟩
theorem dd_L_law_556 : ad_D mm_L_law 556 (.invokevirtual 70) 3 559 := ⟨by decide +kernel, rfl⟩
theorem dd_L_law_559 : ad_D mm_L_law 559 (.aload_n 2) 1 560 := ⟨by decide +kernel, rfl⟩
theorem dd_L_law_560 : ad_D mm_L_law 560 (.aload_n 0) 1 561 := ⟨by decide +kernel, rfl⟩
theorem dd_L_law_561 : ad_D mm_L_law 561 (.iload_n 3) 1 562 := ⟨by decide +kernel, rfl⟩
theorem dd_L_law_562 : ad_D mm_L_law 562 (.iconst 1) 1 563 := ⟨by decide +kernel, rfl⟩
theorem dd_L_law_563 : ad_D mm_L_law 563 (.iadd) 1 564 := ⟨by decide +kernel, rfl⟩
theorem dd_L_law_564 : ad_D mm_L_law 564 (.iaload) 1 565 := ⟨by decide +kernel, rfl⟩
theorem dd_L_law_565 : ad_D mm_L_law 565 (.invokevirtual 73) 3 568 := ⟨by decide +kernel, rfl⟩
theorem dd_L_law_568 : ad_D mm_L_law 568 (.if_icmp .eq 303) 3 571 := ⟨by decide +kernel, rfl⟩
theorem dd_L_law_571 : ad_D mm_L_law 571 (.iconst 0) 1 572 := ⟨by decide +kernel, rfl⟩
theorem dd_L_law_572 : ad_D mm_L_law 572 (.ireturn) 1 573 := ⟨by decide +kernel, rfl⟩
theorem dd_L_law_573 : ad_D mm_L_law 573 (.aload_n 1) 1 574 := ⟨by decide +kernel, rfl⟩
theorem dd_L_law_574 : ad_D mm_L_law 574 (.aload_n 0) 1 575 := ⟨by decide +kernel, rfl⟩
theorem dd_L_law_575 : ad_D mm_L_law 575 (.iload_n 3) 1 576 := ⟨by decide +kernel, rfl⟩
theorem dd_L_law_576 : ad_D mm_L_law 576 (.iconst 1) 1 577 := ⟨by decide +kernel, rfl⟩
theorem dd_L_law_577 : ad_D mm_L_law 577 (.iadd) 1 578 := ⟨by decide +kernel, rfl⟩
theorem dd_L_law_578 : ad_D mm_L_law 578 (.iaload) 1 579 := ⟨by decide +kernel, rfl⟩
theorem dd_L_law_579 : ad_D mm_L_law 579 (.aload_n 0) 1 580 := ⟨by decide +kernel, rfl⟩
theorem dd_L_law_580 : ad_D mm_L_law 580 (.iload_n 3) 1 581 := ⟨by decide +kernel, rfl⟩
theorem dd_L_law_581 : ad_D mm_L_law 581 (.iconst 2) 1 582 := ⟨by decide +kernel, rfl⟩
theorem dd_L_law_582 : ad_D mm_L_law 582 (.iadd) 1 583 := ⟨by decide +kernel, rfl⟩
theorem dd_L_law_583 : ad_D mm_L_law 583 (.iaload) 1 584 := ⟨by decide +kernel, rfl⟩
theorem dd_L_law_584 : ad_D mm_L_law 584 (.aload_n 0) 1 585 := ⟨by decide +kernel, rfl⟩
theorem dd_L_law_585 : ad_D mm_L_law 585 (.iload_n 3) 1 586 := ⟨by decide +kernel, rfl⟩
theorem dd_L_law_586 : ad_D mm_L_law 586 (.iconst 3) 1 587 := ⟨by decide +kernel, rfl⟩
theorem dd_L_law_587 : ad_D mm_L_law 587 (.iadd) 1 588 := ⟨by decide +kernel, rfl⟩
theorem dd_L_law_588 : ad_D mm_L_law 588 (.iaload) 1 589 := ⟨by decide +kernel, rfl⟩
theorem dd_L_law_589 : ad_D mm_L_law 589 (.aload_n 0) 1 590 := ⟨by decide +kernel, rfl⟩
theorem dd_L_law_590 : ad_D mm_L_law 590 (.iload_n 3) 1 591 := ⟨by decide +kernel, rfl⟩
theorem dd_L_law_591 : ad_D mm_L_law 591 (.iconst 4) 1 592 := ⟨by decide +kernel, rfl⟩
theorem dd_L_law_592 : ad_D mm_L_law 592 (.iadd) 1 593 := ⟨by decide +kernel, rfl⟩
theorem dd_L_law_593 : ad_D mm_L_law 593 (.iaload) 1 594 := ⟨by decide +kernel, rfl⟩
theorem dd_L_law_594 : ad_D mm_L_law 594 (.aload_n 0) 1 595 := ⟨by decide +kernel, rfl⟩
theorem dd_L_law_595 : ad_D mm_L_law 595 (.iload_n 3) 1 596 := ⟨by decide +kernel, rfl⟩
theorem dd_L_law_596 : ad_D mm_L_law 596 (.iconst 5) 1 597 := ⟨by decide +kernel, rfl⟩
theorem dd_L_law_597 : ad_D mm_L_law 597 (.iadd) 1 598 := ⟨by decide +kernel, rfl⟩
theorem dd_L_law_598 : ad_D mm_L_law 598 (.iaload) 1 599 := ⟨by decide +kernel, rfl⟩
theorem dd_L_law_599 : ad_D mm_L_law 599 (.invokevirtual 74) 3 602 := ⟨by decide +kernel, rfl⟩
theorem dd_L_law_602 : ad_D mm_L_law 602 (.aload_n 2) 1 603 := ⟨by decide +kernel, rfl⟩
theorem dd_L_law_603 : ad_D mm_L_law 603 (.aload_n 0) 1 604 := ⟨by decide +kernel, rfl⟩
theorem dd_L_law_604 : ad_D mm_L_law 604 (.iload_n 3) 1 605 := ⟨by decide +kernel, rfl⟩
theorem dd_L_law_605 : ad_D mm_L_law 605 (.iconst 1) 1 606 := ⟨by decide +kernel, rfl⟩
theorem dd_L_law_606 : ad_D mm_L_law 606 (.iadd) 1 607 := ⟨by decide +kernel, rfl⟩
theorem dd_L_law_607 : ad_D mm_L_law 607 (.iaload) 1 608 := ⟨by decide +kernel, rfl⟩
theorem dd_L_law_608 : ad_D mm_L_law 608 (.aload_n 0) 1 609 := ⟨by decide +kernel, rfl⟩
theorem dd_L_law_609 : ad_D mm_L_law 609 (.iload_n 3) 1 610 := ⟨by decide +kernel, rfl⟩
theorem dd_L_law_610 : ad_D mm_L_law 610 (.iconst 2) 1 611 := ⟨by decide +kernel, rfl⟩
theorem dd_L_law_611 : ad_D mm_L_law 611 (.iadd) 1 612 := ⟨by decide +kernel, rfl⟩
theorem dd_L_law_612 : ad_D mm_L_law 612 (.iaload) 1 613 := ⟨by decide +kernel, rfl⟩
theorem dd_L_law_613 : ad_D mm_L_law 613 (.aload_n 0) 1 614 := ⟨by decide +kernel, rfl⟩
theorem dd_L_law_614 : ad_D mm_L_law 614 (.iload_n 3) 1 615 := ⟨by decide +kernel, rfl⟩
theorem dd_L_law_615 : ad_D mm_L_law 615 (.iconst 3) 1 616 := ⟨by decide +kernel, rfl⟩
theorem dd_L_law_616 : ad_D mm_L_law 616 (.iadd) 1 617 := ⟨by decide +kernel, rfl⟩
theorem dd_L_law_617 : ad_D mm_L_law 617 (.iaload) 1 618 := ⟨by decide +kernel, rfl⟩
theorem dd_L_law_618 : ad_D mm_L_law 618 (.aload_n 0) 1 619 := ⟨by decide +kernel, rfl⟩
theorem dd_L_law_619 : ad_D mm_L_law 619 (.iload_n 3) 1 620 := ⟨by decide +kernel, rfl⟩
theorem dd_L_law_620 : ad_D mm_L_law 620 (.iconst 4) 1 621 := ⟨by decide +kernel, rfl⟩
theorem dd_L_law_621 : ad_D mm_L_law 621 (.iadd) 1 622 := ⟨by decide +kernel, rfl⟩
theorem dd_L_law_622 : ad_D mm_L_law 622 (.iaload) 1 623 := ⟨by decide +kernel, rfl⟩
theorem dd_L_law_623 : ad_D mm_L_law 623 (.aload_n 0) 1 624 := ⟨by decide +kernel, rfl⟩
theorem dd_L_law_624 : ad_D mm_L_law 624 (.iload_n 3) 1 625 := ⟨by decide +kernel, rfl⟩
theorem dd_L_law_625 : ad_D mm_L_law 625 (.iconst 5) 1 626 := ⟨by decide +kernel, rfl⟩
theorem dd_L_law_626 : ad_D mm_L_law 626 (.iadd) 1 627 := ⟨by decide +kernel, rfl⟩
theorem dd_L_law_627 : ad_D mm_L_law 627 (.iaload) 1 628 := ⟨by decide +kernel, rfl⟩
theorem dd_L_law_628 : ad_D mm_L_law 628 (.invokevirtual 77) 3 631 := ⟨by decide +kernel, rfl⟩
theorem dd_L_law_631 : ad_D mm_L_law 631 (.if_icmp .eq 240) 3 634 := ⟨by decide +kernel, rfl⟩
theorem dd_L_law_634 : ad_D mm_L_law 634 (.iconst 0) 1 635 := ⟨by decide +kernel, rfl⟩
theorem dd_L_law_635 : ad_D mm_L_law 635 (.ireturn) 1 636 := ⟨by decide +kernel, rfl⟩
theorem dd_L_law_636 : ad_D mm_L_law 636 (.aload_n 1) 1 637 := ⟨by decide +kernel, rfl⟩
theorem dd_L_law_637 : ad_D mm_L_law 637 (.aload_n 0) 1 638 := ⟨by decide +kernel, rfl⟩
theorem dd_L_law_638 : ad_D mm_L_law 638 (.iload_n 3) 1 639 := ⟨by decide +kernel, rfl⟩
theorem dd_L_law_639 : ad_D mm_L_law 639 (.iconst 1) 1 640 := ⟨by decide +kernel, rfl⟩
theorem dd_L_law_640 : ad_D mm_L_law 640 (.iadd) 1 641 := ⟨by decide +kernel, rfl⟩
theorem dd_L_law_641 : ad_D mm_L_law 641 (.iaload) 1 642 := ⟨by decide +kernel, rfl⟩
theorem dd_L_law_642 : ad_D mm_L_law 642 (.aload_n 0) 1 643 := ⟨by decide +kernel, rfl⟩
theorem dd_L_law_643 : ad_D mm_L_law 643 (.iload_n 3) 1 644 := ⟨by decide +kernel, rfl⟩
theorem dd_L_law_644 : ad_D mm_L_law 644 (.iconst 2) 1 645 := ⟨by decide +kernel, rfl⟩
theorem dd_L_law_645 : ad_D mm_L_law 645 (.iadd) 1 646 := ⟨by decide +kernel, rfl⟩
theorem dd_L_law_646 : ad_D mm_L_law 646 (.iaload) 1 647 := ⟨by decide +kernel, rfl⟩
theorem dd_L_law_647 : ad_D mm_L_law 647 (.invokevirtual 78) 3 650 := ⟨by decide +kernel, rfl⟩
theorem dd_L_law_650 : ad_D mm_L_law 650 (.aload_n 2) 1 651 := ⟨by decide +kernel, rfl⟩
theorem dd_L_law_651 : ad_D mm_L_law 651 (.aload_n 0) 1 652 := ⟨by decide +kernel, rfl⟩
theorem dd_L_law_652 : ad_D mm_L_law 652 (.iload_n 3) 1 653 := ⟨by decide +kernel, rfl⟩
theorem dd_L_law_653 : ad_D mm_L_law 653 (.iconst 1) 1 654 := ⟨by decide +kernel, rfl⟩
theorem dd_L_law_654 : ad_D mm_L_law 654 (.iadd) 1 655 := ⟨by decide +kernel, rfl⟩
theorem dd_L_law_655 : ad_D mm_L_law 655 (.iaload) 1 656 := ⟨by decide +kernel, rfl⟩
theorem dd_L_law_656 : ad_D mm_L_law 656 (.aload_n 0) 1 657 := ⟨by decide +kernel, rfl⟩
theorem dd_L_law_657 : ad_D mm_L_law 657 (.iload_n 3) 1 658 := ⟨by decide +kernel, rfl⟩
theorem dd_L_law_658 : ad_D mm_L_law 658 (.iconst 2) 1 659 := ⟨by decide +kernel, rfl⟩
theorem dd_L_law_659 : ad_D mm_L_law 659 (.iadd) 1 660 := ⟨by decide +kernel, rfl⟩
theorem dd_L_law_660 : ad_D mm_L_law 660 (.iaload) 1 661 := ⟨by decide +kernel, rfl⟩
theorem dd_L_law_661 : ad_D mm_L_law 661 (.invokevirtual 82) 3 664 := ⟨by decide +kernel, rfl⟩
theorem dd_L_law_664 : ad_D mm_L_law 664 (.if_icmp .eq 207) 3 667 := ⟨by decide +kernel, rfl⟩
theorem dd_L_law_667 : ad_D mm_L_law 667 (.iconst 0) 1 668 := ⟨by decide +kernel, rfl⟩
theorem dd_L_law_668 : ad_D mm_L_law 668 (.ireturn) 1 669 := ⟨by decide +kernel, rfl⟩
theorem dd_L_law_669 : ad_D mm_L_law 669 (.aload_n 1) 1 670 := ⟨by decide +kernel, rfl⟩
theorem dd_L_law_670 : ad_D mm_L_law 670 (.aload_n 0) 1 671 := ⟨by decide +kernel, rfl⟩
theorem dd_L_law_671 : ad_D mm_L_law 671 (.iload_n 3) 1 672 := ⟨by decide +kernel, rfl⟩
theorem dd_L_law_672 : ad_D mm_L_law 672 (.iconst 1) 1 673 := ⟨by decide +kernel, rfl⟩
theorem dd_L_law_673 : ad_D mm_L_law 673 (.iadd) 1 674 := ⟨by decide +kernel, rfl⟩
theorem dd_L_law_674 : ad_D mm_L_law 674 (.iaload) 1 675 := ⟨by decide +kernel, rfl⟩
theorem dd_L_law_675 : ad_D mm_L_law 675 (.aload_n 0) 1 676 := ⟨by decide +kernel, rfl⟩
theorem dd_L_law_676 : ad_D mm_L_law 676 (.iload_n 3) 1 677 := ⟨by decide +kernel, rfl⟩
theorem dd_L_law_677 : ad_D mm_L_law 677 (.iconst 2) 1 678 := ⟨by decide +kernel, rfl⟩
theorem dd_L_law_678 : ad_D mm_L_law 678 (.iadd) 1 679 := ⟨by decide +kernel, rfl⟩
theorem dd_L_law_679 : ad_D mm_L_law 679 (.iaload) 1 680 := ⟨by decide +kernel, rfl⟩
theorem dd_L_law_680 : ad_D mm_L_law 680 (.invokevirtual 83) 3 683 := ⟨by decide +kernel, rfl⟩
theorem dd_L_law_683 : ad_D mm_L_law 683 (.aload_n 2) 1 684 := ⟨by decide +kernel, rfl⟩
theorem dd_L_law_684 : ad_D mm_L_law 684 (.aload_n 0) 1 685 := ⟨by decide +kernel, rfl⟩
theorem dd_L_law_685 : ad_D mm_L_law 685 (.iload_n 3) 1 686 := ⟨by decide +kernel, rfl⟩
theorem dd_L_law_686 : ad_D mm_L_law 686 (.iconst 1) 1 687 := ⟨by decide +kernel, rfl⟩
theorem dd_L_law_687 : ad_D mm_L_law 687 (.iadd) 1 688 := ⟨by decide +kernel, rfl⟩
theorem dd_L_law_688 : ad_D mm_L_law 688 (.iaload) 1 689 := ⟨by decide +kernel, rfl⟩
theorem dd_L_law_689 : ad_D mm_L_law 689 (.aload_n 0) 1 690 := ⟨by decide +kernel, rfl⟩
theorem dd_L_law_690 : ad_D mm_L_law 690 (.iload_n 3) 1 691 := ⟨by decide +kernel, rfl⟩
theorem dd_L_law_691 : ad_D mm_L_law 691 (.iconst 2) 1 692 := ⟨by decide +kernel, rfl⟩
theorem dd_L_law_692 : ad_D mm_L_law 692 (.iadd) 1 693 := ⟨by decide +kernel, rfl⟩
theorem dd_L_law_693 : ad_D mm_L_law 693 (.iaload) 1 694 := ⟨by decide +kernel, rfl⟩
theorem dd_L_law_694 : ad_D mm_L_law 694 (.invokevirtual 86) 3 697 := ⟨by decide +kernel, rfl⟩
theorem dd_L_law_697 : ad_D mm_L_law 697 (.if_icmp .eq 174) 3 700 := ⟨by decide +kernel, rfl⟩
theorem dd_L_law_700 : ad_D mm_L_law 700 (.iconst 0) 1 701 := ⟨by decide +kernel, rfl⟩
theorem dd_L_law_701 : ad_D mm_L_law 701 (.ireturn) 1 702 := ⟨by decide +kernel, rfl⟩
theorem dd_L_law_702 : ad_D mm_L_law 702 (.aload_n 1) 1 703 := ⟨by decide +kernel, rfl⟩
theorem dd_L_law_703 : ad_D mm_L_law 703 (.aload_n 0) 1 704 := ⟨by decide +kernel, rfl⟩
theorem dd_L_law_704 : ad_D mm_L_law 704 (.iload_n 3) 1 705 := ⟨by decide +kernel, rfl⟩
theorem dd_L_law_705 : ad_D mm_L_law 705 (.iconst 1) 1 706 := ⟨by decide +kernel, rfl⟩
theorem dd_L_law_706 : ad_D mm_L_law 706 (.iadd) 1 707 := ⟨by decide +kernel, rfl⟩
theorem dd_L_law_707 : ad_D mm_L_law 707 (.iaload) 1 708 := ⟨by decide +kernel, rfl⟩
theorem dd_L_law_708 : ad_D mm_L_law 708 (.aload_n 0) 1 709 := ⟨by decide +kernel, rfl⟩
theorem dd_L_law_709 : ad_D mm_L_law 709 (.iload_n 3) 1 710 := ⟨by decide +kernel, rfl⟩
theorem dd_L_law_710 : ad_D mm_L_law 710 (.iconst 2) 1 711 := ⟨by decide +kernel, rfl⟩
theorem dd_L_law_711 : ad_D mm_L_law 711 (.iadd) 1 712 := ⟨by decide +kernel, rfl⟩
theorem dd_L_law_712 : ad_D mm_L_law 712 (.iaload) 1 713 := ⟨by decide +kernel, rfl⟩
theorem dd_L_law_713 : ad_D mm_L_law 713 (.invokevirtual 87) 3 716 := ⟨by decide +kernel, rfl⟩
theorem dd_L_law_716 : ad_D mm_L_law 716 (.aload_n 2) 1 717 := ⟨by decide +kernel, rfl⟩
theorem dd_L_law_717 : ad_D mm_L_law 717 (.aload_n 0) 1 718 := ⟨by decide +kernel, rfl⟩
theorem dd_L_law_718 : ad_D mm_L_law 718 (.iload_n 3) 1 719 := ⟨by decide +kernel, rfl⟩
theorem dd_L_law_719 : ad_D mm_L_law 719 (.iconst 1) 1 720 := ⟨by decide +kernel, rfl⟩
theorem dd_L_law_720 : ad_D mm_L_law 720 (.iadd) 1 721 := ⟨by decide +kernel, rfl⟩
theorem dd_L_law_721 : ad_D mm_L_law 721 (.iaload) 1 722 := ⟨by decide +kernel, rfl⟩
theorem dd_L_law_722 : ad_D mm_L_law 722 (.aload_n 0) 1 723 := ⟨by decide +kernel, rfl⟩
theorem dd_L_law_723 : ad_D mm_L_law 723 (.iload_n 3) 1 724 := ⟨by decide +kernel, rfl⟩
theorem dd_L_law_724 : ad_D mm_L_law 724 (.iconst 2) 1 725 := ⟨by decide +kernel, rfl⟩
theorem dd_L_law_725 : ad_D mm_L_law 725 (.iadd) 1 726 := ⟨by decide +kernel, rfl⟩
theorem dd_L_law_726 : ad_D mm_L_law 726 (.iaload) 1 727 := ⟨by decide +kernel, rfl⟩
theorem dd_L_law_727 : ad_D mm_L_law 727 (.invokevirtual 90) 3 730 := ⟨by decide +kernel, rfl⟩
theorem dd_L_law_730 : ad_D mm_L_law 730 (.if_icmp .eq 141) 3 733 := ⟨by decide +kernel, rfl⟩
theorem dd_L_law_733 : ad_D mm_L_law 733 (.iconst 0) 1 734 := ⟨by decide +kernel, rfl⟩
theorem dd_L_law_734 : ad_D mm_L_law 734 (.ireturn) 1 735 := ⟨by decide +kernel, rfl⟩
theorem dd_L_law_735 : ad_D mm_L_law 735 (.aload_n 1) 1 736 := ⟨by decide +kernel, rfl⟩
theorem dd_L_law_736 : ad_D mm_L_law 736 (.aload_n 0) 1 737 := ⟨by decide +kernel, rfl⟩
theorem dd_L_law_737 : ad_D mm_L_law 737 (.iload_n 3) 1 738 := ⟨by decide +kernel, rfl⟩
theorem dd_L_law_738 : ad_D mm_L_law 738 (.iconst 1) 1 739 := ⟨by decide +kernel, rfl⟩
theorem dd_L_law_739 : ad_D mm_L_law 739 (.iadd) 1 740 := ⟨by decide +kernel, rfl⟩
theorem dd_L_law_740 : ad_D mm_L_law 740 (.iaload) 1 741 := ⟨by decide +kernel, rfl⟩
theorem dd_L_law_741 : ad_D mm_L_law 741 (.invokevirtual 91) 3 744 := ⟨by decide +kernel, rfl⟩
theorem dd_L_law_744 : ad_D mm_L_law 744 (.aload_n 2) 1 745 := ⟨by decide +kernel, rfl⟩
theorem dd_L_law_745 : ad_D mm_L_law 745 (.aload_n 0) 1 746 := ⟨by decide +kernel, rfl⟩
theorem dd_L_law_746 : ad_D mm_L_law 746 (.iload_n 3) 1 747 := ⟨by decide +kernel, rfl⟩
theorem dd_L_law_747 : ad_D mm_L_law 747 (.iconst 1) 1 748 := ⟨by decide +kernel, rfl⟩
theorem dd_L_law_748 : ad_D mm_L_law 748 (.iadd) 1 749 := ⟨by decide +kernel, rfl⟩
theorem dd_L_law_749 : ad_D mm_L_law 749 (.iaload) 1 750 := ⟨by decide +kernel, rfl⟩
theorem dd_L_law_750 : ad_D mm_L_law 750 (.invokevirtual 94) 3 753 := ⟨by decide +kernel, rfl⟩
theorem dd_L_law_753 : ad_D mm_L_law 753 (.if_icmp .eq 118) 3 756 := ⟨by decide +kernel, rfl⟩
theorem dd_L_law_756 : ad_D mm_L_law 756 (.iconst 0) 1 757 := ⟨by decide +kernel, rfl⟩
theorem dd_L_law_757 : ad_D mm_L_law 757 (.ireturn) 1 758 := ⟨by decide +kernel, rfl⟩
theorem dd_L_law_758 : ad_D mm_L_law 758 (.aload_n 1) 1 759 := ⟨by decide +kernel, rfl⟩
theorem dd_L_law_759 : ad_D mm_L_law 759 (.aload_n 0) 1 760 := ⟨by decide +kernel, rfl⟩
theorem dd_L_law_760 : ad_D mm_L_law 760 (.iload_n 3) 1 761 := ⟨by decide +kernel, rfl⟩
theorem dd_L_law_761 : ad_D mm_L_law 761 (.iconst 1) 1 762 := ⟨by decide +kernel, rfl⟩
theorem dd_L_law_762 : ad_D mm_L_law 762 (.iadd) 1 763 := ⟨by decide +kernel, rfl⟩
theorem dd_L_law_763 : ad_D mm_L_law 763 (.iaload) 1 764 := ⟨by decide +kernel, rfl⟩
theorem dd_L_law_764 : ad_D mm_L_law 764 (.aload_n 0) 1 765 := ⟨by decide +kernel, rfl⟩
theorem dd_L_law_765 : ad_D mm_L_law 765 (.iload_n 3) 1 766 := ⟨by decide +kernel, rfl⟩
theorem dd_L_law_766 : ad_D mm_L_law 766 (.iconst 2) 1 767 := ⟨by decide +kernel, rfl⟩
theorem dd_L_law_767 : ad_D mm_L_law 767 (.iadd) 1 768 := ⟨by decide +kernel, rfl⟩
theorem dd_L_law_768 : ad_D mm_L_law 768 (.iaload) 1 769 := ⟨by decide +kernel, rfl⟩
theorem dd_L_law_769 : ad_D mm_L_law 769 (.invokevirtual 95) 3 772 := ⟨by decide +kernel, rfl⟩
theorem dd_L_law_772 : ad_D mm_L_law 772 (.aload_n 2) 1 773 := ⟨by decide +kernel, rfl⟩
theorem dd_L_law_773 : ad_D mm_L_law 773 (.aload_n 0) 1 774 := ⟨by decide +kernel, rfl⟩
theorem dd_L_law_774 : ad_D mm_L_law 774 (.iload_n 3) 1 775 := ⟨by decide +kernel, rfl⟩
theorem dd_L_law_775 : ad_D mm_L_law 775 (.iconst 1) 1 776 := ⟨by decide +kernel, rfl⟩
theorem dd_L_law_776 : ad_D mm_L_law 776 (.iadd) 1 777 := ⟨by decide +kernel, rfl⟩
theorem dd_L_law_777 : ad_D mm_L_law 777 (.iaload) 1 778 := ⟨by decide +kernel, rfl⟩
theorem dd_L_law_778 : ad_D mm_L_law 778 (.aload_n 0) 1 779 := ⟨by decide +kernel, rfl⟩
theorem dd_L_law_779 : ad_D mm_L_law 779 (.iload_n 3) 1 780 := ⟨by decide +kernel, rfl⟩
theorem dd_L_law_780 : ad_D mm_L_law 780 (.iconst 2) 1 781 := ⟨by decide +kernel, rfl⟩
theorem dd_L_law_781 : ad_D mm_L_law 781 (.iadd) 1 782 := ⟨by decide +kernel, rfl⟩
theorem dd_L_law_782 : ad_D mm_L_law 782 (.iaload) 1 783 := ⟨by decide +kernel, rfl⟩
theorem dd_L_law_783 : ad_D mm_L_law 783 (.invokevirtual 98) 3 786 := ⟨by decide +kernel, rfl⟩
theorem dd_L_law_786 : ad_D mm_L_law 786 (.if_icmp .eq 85) 3 789 := ⟨by decide +kernel, rfl⟩
theorem dd_L_law_789 : ad_D mm_L_law 789 (.iconst 0) 1 790 := ⟨by decide +kernel, rfl⟩
theorem dd_L_law_790 : ad_D mm_L_law 790 (.ireturn) 1 791 := ⟨by decide +kernel, rfl⟩
theorem dd_L_law_791 : ad_D mm_L_law 791 (.aload_n 1) 1 792 := ⟨by decide +kernel, rfl⟩
theorem dd_L_law_792 : ad_D mm_L_law 792 (.aload_n 0) 1 793 := ⟨by decide +kernel, rfl⟩
theorem dd_L_law_793 : ad_D mm_L_law 793 (.iload_n 3) 1 794 := ⟨by decide +kernel, rfl⟩
theorem dd_L_law_794 : ad_D mm_L_law 794 (.iconst 1) 1 795 := ⟨by decide +kernel, rfl⟩
theorem dd_L_law_795 : ad_D mm_L_law 795 (.iadd) 1 796 := ⟨by decide +kernel, rfl⟩
theorem dd_L_law_796 : ad_D mm_L_law 796 (.iaload) 1 797 := ⟨by decide +kernel, rfl⟩
theorem dd_L_law_797 : ad_D mm_L_law 797 (.aload_n 0) 1 798 := ⟨by decide +kernel, rfl⟩
theorem dd_L_law_798 : ad_D mm_L_law 798 (.iload_n 3) 1 799 := ⟨by decide +kernel, rfl⟩
theorem dd_L_law_799 : ad_D mm_L_law 799 (.iconst 2) 1 800 := ⟨by decide +kernel, rfl⟩
theorem dd_L_law_800 : ad_D mm_L_law 800 (.iadd) 1 801 := ⟨by decide +kernel, rfl⟩
theorem dd_L_law_801 : ad_D mm_L_law 801 (.iaload) 1 802 := ⟨by decide +kernel, rfl⟩
theorem dd_L_law_802 : ad_D mm_L_law 802 (.invokevirtual 99) 3 805 := ⟨by decide +kernel, rfl⟩
theorem dd_L_law_805 : ad_D mm_L_law 805 (.aload_n 2) 1 806 := ⟨by decide +kernel, rfl⟩
theorem dd_L_law_806 : ad_D mm_L_law 806 (.aload_n 0) 1 807 := ⟨by decide +kernel, rfl⟩
theorem dd_L_law_807 : ad_D mm_L_law 807 (.iload_n 3) 1 808 := ⟨by decide +kernel, rfl⟩
theorem dd_L_law_808 : ad_D mm_L_law 808 (.iconst 1) 1 809 := ⟨by decide +kernel, rfl⟩
theorem dd_L_law_809 : ad_D mm_L_law 809 (.iadd) 1 810 := ⟨by decide +kernel, rfl⟩
theorem dd_L_law_810 : ad_D mm_L_law 810 (.iaload) 1 811 := ⟨by decide +kernel, rfl⟩
theorem dd_L_law_811 : ad_D mm_L_law 811 (.aload_n 0) 1 812 := ⟨by decide +kernel, rfl⟩
theorem dd_L_law_812 : ad_D mm_L_law 812 (.iload_n 3) 1 813 := ⟨by decide +kernel, rfl⟩
theorem dd_L_law_813 : ad_D mm_L_law 813 (.iconst 2) 1 814 := ⟨by decide +kernel, rfl⟩
theorem dd_L_law_814 : ad_D mm_L_law 814 (.iadd) 1 815 := ⟨by decide +kernel, rfl⟩
theorem dd_L_law_815 : ad_D mm_L_law 815 (.iaload) 1 816 := ⟨by decide +kernel, rfl⟩
theorem dd_L_law_816 : ad_D mm_L_law 816 (.invokevirtual 102) 3 819 := ⟨by decide +kernel, rfl⟩
theorem dd_L_law_819 : ad_D mm_L_law 819 (.if_icmp .eq 52) 3 822 := ⟨by decide +kernel, rfl⟩
theorem dd_L_law_822 : ad_D mm_L_law 822 (.iconst 0) 1 823 := ⟨by decide +kernel, rfl⟩
theorem dd_L_law_823 : ad_D mm_L_law 823 (.ireturn) 1 824 := ⟨by decide +kernel, rfl⟩
theorem dd_L_law_824 : ad_D mm_L_law 824 (.aload_n 1) 1 825 := ⟨by decide +kernel, rfl⟩
theorem dd_L_law_825 : ad_D mm_L_law 825 (.aload_n 0) 1 826 := ⟨by decide +kernel, rfl⟩
theorem dd_L_law_826 : ad_D mm_L_law 826 (.iload_n 3) 1 827 := ⟨by decide +kernel, rfl⟩
theorem dd_L_law_827 : ad_D mm_L_law 827 (.iconst 1) 1 828 := ⟨by decide +kernel, rfl⟩
theorem dd_L_law_828 : ad_D mm_L_law 828 (.iadd) 1 829 := ⟨by decide +kernel, rfl⟩
theorem dd_L_law_829 : ad_D mm_L_law 829 (.iaload) 1 830 := ⟨by decide +kernel, rfl⟩
theorem dd_L_law_830 : ad_D mm_L_law 830 (.invokevirtual 103) 3 833 := ⟨by decide +kernel, rfl⟩
theorem dd_L_law_833 : ad_D mm_L_law 833 (.aload_n 2) 1 834 := ⟨by decide +kernel, rfl⟩
theorem dd_L_law_834 : ad_D mm_L_law 834 (.aload_n 0) 1 835 := ⟨by decide +kernel, rfl⟩
theorem dd_L_law_835 : ad_D mm_L_law 835 (.iload_n 3) 1 836 := ⟨by decide +kernel, rfl⟩
theorem dd_L_law_836 : ad_D mm_L_law 836 (.iconst 1) 1 837 := ⟨by decide +kernel, rfl⟩
theorem dd_L_law_837 : ad_D mm_L_law 837 (.iadd) 1 838 := ⟨by decide +kernel, rfl⟩
theorem dd_L_law_838 : ad_D mm_L_law 838 (.iaload) 1 839 := ⟨by decide +kernel, rfl⟩
theorem dd_L_law_839 : ad_D mm_L_law 839 (.invokevirtual 107) 3 842 := ⟨by decide +kernel, rfl⟩
theorem dd_L_law_842 : ad_D mm_L_law 842 (.lcmp) 1 843 := ⟨by decide +kernel, rfl⟩
theorem dd_L_law_843 : ad_D mm_L_law 843 (.ifCond .eq 28) 3 846 := ⟨by decide +kernel, rfl⟩
theorem dd_L_law_846 : ad_D mm_L_law 846 (.iconst 0) 1 847 := ⟨by decide +kernel, rfl⟩
theorem dd_L_law_847 : ad_D mm_L_law 847 (.ireturn) 1 848 := ⟨by decide +kernel, rfl⟩
theorem dd_L_law_848 : ad_D mm_L_law 848 (.aload_n 1) 1 849 := ⟨by decide +kernel, rfl⟩
theorem dd_L_law_849 : ad_D mm_L_law 849 (.aload_n 0) 1 850 := ⟨by decide +kernel, rfl⟩
theorem dd_L_law_850 : ad_D mm_L_law 850 (.iload_n 3) 1 851 := ⟨by decide +kernel, rfl⟩
theorem dd_L_law_851 : ad_D mm_L_law 851 (.iconst 1) 1 852 := ⟨by decide +kernel, rfl⟩
theorem dd_L_law_852 : ad_D mm_L_law 852 (.iadd) 1 853 := ⟨by decide +kernel, rfl⟩
theorem dd_L_law_853 : ad_D mm_L_law 853 (.iaload) 1 854 := ⟨by decide +kernel, rfl⟩
theorem dd_L_law_854 : ad_D mm_L_law 854 (.invokevirtual 108) 3 857 := ⟨by decide +kernel, rfl⟩
theorem dd_L_law_857 : ad_D mm_L_law 857 (.aload_n 2) 1 858 := ⟨by decide +kernel, rfl⟩
theorem dd_L_law_858 : ad_D mm_L_law 858 (.aload_n 0) 1 859 := ⟨by decide +kernel, rfl⟩
theorem dd_L_law_859 : ad_D mm_L_law 859 (.iload_n 3) 1 860 := ⟨by decide +kernel, rfl⟩
theorem dd_L_law_860 : ad_D mm_L_law 860 (.iconst 1) 1 861 := ⟨by decide +kernel, rfl⟩
theorem dd_L_law_861 : ad_D mm_L_law 861 (.iadd) 1 862 := ⟨by decide +kernel, rfl⟩
theorem dd_L_law_862 : ad_D mm_L_law 862 (.iaload) 1 863 := ⟨by decide +kernel, rfl⟩
theorem dd_L_law_863 : ad_D mm_L_law 863 (.invokevirtual 111) 3 866 := ⟨by decide +kernel, rfl⟩
theorem dd_L_law_866 : ad_D mm_L_law 866 (.if_icmp .eq 5) 3 869 := ⟨by decide +kernel, rfl⟩
theorem dd_L_law_869 : ad_D mm_L_law 869 (.iconst 0) 1 870 := ⟨by decide +kernel, rfl⟩
theorem dd_L_law_870 : ad_D mm_L_law 870 (.ireturn) 1 871 := ⟨by decide +kernel, rfl⟩
theorem dd_L_law_871 : ad_D mm_L_law 871 (.iinc 3 7) 3 874 := ⟨by decide +kernel, rfl⟩
theorem dd_L_law_874 : ad_D mm_L_law 874 (.goto (-856)) 3 877 := ⟨by decide +kernel, rfl⟩
theorem dd_L_law_877 : ad_D mm_L_law 877 (.iconst 1) 1 878 := ⟨by decide +kernel, rfl⟩
theorem dd_L_law_878 : ad_D mm_L_law 878 (.ireturn) 1 879 := ⟨by decide +kernel, rfl⟩
end
