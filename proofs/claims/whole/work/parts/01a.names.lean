-- ===== PART A: goes FIRST, ahead of the names: the tables' words, and 'selects' of the private methods out of them =====
/-- a private method of a class that the tables say can be made, by its rows of tables_1 -/
def lw_okq (q : MethodName × Nat) : Prop := (q.1.cls ≠ "java/lang/invoke/MethodHandle" ∧ q.1.cls ≠ "java/lang/invoke/VarHandle") ∧ Cond.instantiable q.1.cls q.2 ∈ tables_1 ∧ Cond.privateMethod q.1 ∈ tables_1 ∧ Cond.instanceMethod q.1 ∈ tables_1
theorem lw_p0 : lw_okq (⟨"PoleBehind", "rowOf", "(I)LPoleBehind$Row;"⟩, 10) := ⟨⟨by decide +kernel, by decide +kernel⟩, List.mem_of_getElem? (i := 15) (by decide +kernel), List.mem_of_getElem? (i := 183) (by decide +kernel), List.mem_of_getElem? (i := 184) (by decide +kernel)⟩
theorem lw_p1 : lw_okq (⟨"PoleBehind", "failed", "(I)I"⟩, 10) := ⟨⟨by decide +kernel, by decide +kernel⟩, List.mem_of_getElem? (i := 15) (by decide +kernel), List.mem_of_getElem? (i := 198) (by decide +kernel), List.mem_of_getElem? (i := 199) (by decide +kernel)⟩
theorem lw_p2 : lw_okq (⟨"PoleBehind$TextReader", "goesOn", "(ILPoleBehind$River;)Z"⟩, 1) := ⟨⟨by decide +kernel, by decide +kernel⟩, List.mem_of_getElem? (i := 56) (by decide +kernel), List.mem_of_getElem? (i := 222) (by decide +kernel), List.mem_of_getElem? (i := 223) (by decide +kernel)⟩
theorem lw_p3 : lw_okq (⟨"PoleBehind$TextReader", "goesOnByPace", "(ILPoleBehind$River;)Z"⟩, 1) := ⟨⟨by decide +kernel, by decide +kernel⟩, List.mem_of_getElem? (i := 56) (by decide +kernel), List.mem_of_getElem? (i := 226) (by decide +kernel), List.mem_of_getElem? (i := 227) (by decide +kernel)⟩
theorem lw_p4 : lw_okq (⟨"PoleBehind$TextReader", "goesOnByMud", "(ILPoleBehind$River;)Z"⟩, 1) := ⟨⟨by decide +kernel, by decide +kernel⟩, List.mem_of_getElem? (i := 56) (by decide +kernel), List.mem_of_getElem? (i := 230) (by decide +kernel), List.mem_of_getElem? (i := 231) (by decide +kernel)⟩
theorem lw_p5 : lw_okq (⟨"PoleBehind$TextReader", "goesOnByBridge", "(LPoleBehind$River;)Z"⟩, 1) := ⟨⟨by decide +kernel, by decide +kernel⟩, List.mem_of_getElem? (i := 56) (by decide +kernel), List.mem_of_getElem? (i := 242) (by decide +kernel), List.mem_of_getElem? (i := 243) (by decide +kernel)⟩
theorem lw_p6 : lw_okq (⟨"PoleBehind$TextReader", "goesOnByLetter", "(ILPoleBehind$River;)Z"⟩, 1) := ⟨⟨by decide +kernel, by decide +kernel⟩, List.mem_of_getElem? (i := 56) (by decide +kernel), List.mem_of_getElem? (i := 250) (by decide +kernel), List.mem_of_getElem? (i := 251) (by decide +kernel)⟩
theorem lw_p7 : lw_okq (⟨"PoleBehind$TextReader", "goesOnByCell", "(IZLPoleBehind$River;)Z"⟩, 1) := ⟨⟨by decide +kernel, by decide +kernel⟩, List.mem_of_getElem? (i := 56) (by decide +kernel), List.mem_of_getElem? (i := 254) (by decide +kernel), List.mem_of_getElem? (i := 255) (by decide +kernel)⟩
theorem lw_p8 : lw_okq (⟨"PoleBehind", "takeDraft", "()V"⟩, 10) := ⟨⟨by decide +kernel, by decide +kernel⟩, List.mem_of_getElem? (i := 15) (by decide +kernel), List.mem_of_getElem? (i := 262) (by decide +kernel), List.mem_of_getElem? (i := 263) (by decide +kernel)⟩
theorem lw_p9 : lw_okq (⟨"PoleBehind", "travel", "(IIIIZ)I"⟩, 10) := ⟨⟨by decide +kernel, by decide +kernel⟩, List.mem_of_getElem? (i := 15) (by decide +kernel), List.mem_of_getElem? (i := 324) (by decide +kernel), List.mem_of_getElem? (i := 325) (by decide +kernel)⟩
theorem lw_p10 : lw_okq (⟨"PoleBehind", "carryOut", "(LPoleBehind$Row;III)I"⟩, 10) := ⟨⟨by decide +kernel, by decide +kernel⟩, List.mem_of_getElem? (i := 15) (by decide +kernel), List.mem_of_getElem? (i := 328) (by decide +kernel), List.mem_of_getElem? (i := 329) (by decide +kernel)⟩
theorem lw_p11 : lw_okq (⟨"PoleBehind$River", "tea", "()I"⟩, 6) := ⟨⟨by decide +kernel, by decide +kernel⟩, List.mem_of_getElem? (i := 25) (by decide +kernel), List.mem_of_getElem? (i := 356) (by decide +kernel), List.mem_of_getElem? (i := 357) (by decide +kernel)⟩
theorem lw_p12 : lw_okq (⟨"PoleBehind$River", "hasBridgeWithin", "(II)Z"⟩, 6) := ⟨⟨by decide +kernel, by decide +kernel⟩, List.mem_of_getElem? (i := 25) (by decide +kernel), List.mem_of_getElem? (i := 368) (by decide +kernel), List.mem_of_getElem? (i := 369) (by decide +kernel)⟩
theorem lw_p13 : lw_okq (⟨"PoleBehind$River", "allAfter", "(J)J"⟩, 6) := ⟨⟨by decide +kernel, by decide +kernel⟩, List.mem_of_getElem? (i := 25) (by decide +kernel), List.mem_of_getElem? (i := 408) (by decide +kernel), List.mem_of_getElem? (i := 409) (by decide +kernel)⟩
theorem lw_p14 : lw_okq (⟨"PoleBehind$River", "eachAfter", "(I)J"⟩, 6) := ⟨⟨by decide +kernel, by decide +kernel⟩, List.mem_of_getElem? (i := 25) (by decide +kernel), List.mem_of_getElem? (i := 416) (by decide +kernel), List.mem_of_getElem? (i := 417) (by decide +kernel)⟩
theorem lw_p15 : lw_okq (⟨"PoleBehind$SureTable", "bestByAnyAct", "(LPoleBehind$River;II)J"⟩, 2) := ⟨⟨by decide +kernel, by decide +kernel⟩, List.mem_of_getElem? (i := 107) (by decide +kernel), List.mem_of_getElem? (i := 437) (by decide +kernel), List.mem_of_getElem? (i := 438) (by decide +kernel)⟩
def lw_privs_1 : List (MethodName × Nat) := [(⟨"PoleBehind", "rowOf", "(I)LPoleBehind$Row;"⟩, 10), (⟨"PoleBehind", "failed", "(I)I"⟩, 10), (⟨"PoleBehind$TextReader", "goesOn", "(ILPoleBehind$River;)Z"⟩, 1), (⟨"PoleBehind$TextReader", "goesOnByPace", "(ILPoleBehind$River;)Z"⟩, 1), (⟨"PoleBehind$TextReader", "goesOnByMud", "(ILPoleBehind$River;)Z"⟩, 1), (⟨"PoleBehind$TextReader", "goesOnByBridge", "(LPoleBehind$River;)Z"⟩, 1), (⟨"PoleBehind$TextReader", "goesOnByLetter", "(ILPoleBehind$River;)Z"⟩, 1), (⟨"PoleBehind$TextReader", "goesOnByCell", "(IZLPoleBehind$River;)Z"⟩, 1), (⟨"PoleBehind", "takeDraft", "()V"⟩, 10), (⟨"PoleBehind", "travel", "(IIIIZ)I"⟩, 10), (⟨"PoleBehind", "carryOut", "(LPoleBehind$Row;III)I"⟩, 10), (⟨"PoleBehind$River", "tea", "()I"⟩, 6), (⟨"PoleBehind$River", "hasBridgeWithin", "(II)Z"⟩, 6), (⟨"PoleBehind$River", "allAfter", "(J)J"⟩, 6), (⟨"PoleBehind$River", "eachAfter", "(I)J"⟩, 6), (⟨"PoleBehind$SureTable", "bestByAnyAct", "(LPoleBehind$River;II)J"⟩, 2)]
theorem lw_r1 : ∀ q ∈ lw_privs_1, lw_okq q := List.forall_mem_cons.mpr ⟨lw_p0, List.forall_mem_cons.mpr ⟨lw_p1, List.forall_mem_cons.mpr ⟨lw_p2, List.forall_mem_cons.mpr ⟨lw_p3, List.forall_mem_cons.mpr ⟨lw_p4, List.forall_mem_cons.mpr ⟨lw_p5, List.forall_mem_cons.mpr ⟨lw_p6, List.forall_mem_cons.mpr ⟨lw_p7, List.forall_mem_cons.mpr ⟨lw_p8, List.forall_mem_cons.mpr ⟨lw_p9, List.forall_mem_cons.mpr ⟨lw_p10, List.forall_mem_cons.mpr ⟨lw_p11, List.forall_mem_cons.mpr ⟨lw_p12, List.forall_mem_cons.mpr ⟨lw_p13, List.forall_mem_cons.mpr ⟨lw_p14, List.forall_mem_cons.mpr ⟨lw_p15, fun _ h => absurd h List.not_mem_nil⟩⟩⟩⟩⟩⟩⟩⟩⟩⟩⟩⟩⟩⟩⟩⟩
theorem lw_p16 : lw_okq (⟨"PoleBehind$SureTable", "bestByAct", "(LPoleBehind$River;III)J"⟩, 2) := ⟨⟨by decide +kernel, by decide +kernel⟩, List.mem_of_getElem? (i := 107) (by decide +kernel), List.mem_of_getElem? (i := 441) (by decide +kernel), List.mem_of_getElem? (i := 442) (by decide +kernel)⟩
theorem lw_p17 : lw_okq (⟨"PoleBehind$SureTable", "firstBestAct", "(LPoleBehind$River;II)I"⟩, 2) := ⟨⟨by decide +kernel, by decide +kernel⟩, List.mem_of_getElem? (i := 107) (by decide +kernel), List.mem_of_getElem? (i := 466) (by decide +kernel), List.mem_of_getElem? (i := 467) (by decide +kernel)⟩
theorem lw_p18 : lw_okq (⟨"PoleBehind$WayTable", "waysByAnyAct", "(LPoleBehind$River;II)I"⟩, 1) := ⟨⟨by decide +kernel, by decide +kernel⟩, List.mem_of_getElem? (i := 121) (by decide +kernel), List.mem_of_getElem? (i := 510) (by decide +kernel), List.mem_of_getElem? (i := 511) (by decide +kernel)⟩
theorem lw_p19 : lw_okq (⟨"PoleBehind$WayTable", "firstActWithWays", "(LPoleBehind$River;II)I"⟩, 1) := ⟨⟨by decide +kernel, by decide +kernel⟩, List.mem_of_getElem? (i := 121) (by decide +kernel), List.mem_of_getElem? (i := 525) (by decide +kernel), List.mem_of_getElem? (i := 526) (by decide +kernel)⟩
theorem lw_p20 : lw_okq (⟨"PoleBehind", "travelFor", "(IIIIII)I"⟩, 10) := ⟨⟨by decide +kernel, by decide +kernel⟩, List.mem_of_getElem? (i := 15) (by decide +kernel), List.mem_of_getElem? (i := 533) (by decide +kernel), List.mem_of_getElem? (i := 534) (by decide +kernel)⟩
theorem lw_p21 : lw_okq (⟨"PoleBehind$Row", "cutToLane", "(I)I"⟩, 3) := ⟨⟨by decide +kernel, by decide +kernel⟩, List.mem_of_getElem? (i := 130) (by decide +kernel), List.mem_of_getElem? (i := 582) (by decide +kernel), List.mem_of_getElem? (i := 583) (by decide +kernel)⟩
theorem lw_p22 : lw_okq (⟨"PoleBehind", "clayTelling", "(I)I"⟩, 10) := ⟨⟨by decide +kernel, by decide +kernel⟩, List.mem_of_getElem? (i := 15) (by decide +kernel), List.mem_of_getElem? (i := 602) (by decide +kernel), List.mem_of_getElem? (i := 603) (by decide +kernel)⟩
theorem lw_p23 : lw_okq (⟨"PoleBehind", "leaveTrace", "(I)V"⟩, 10) := ⟨⟨by decide +kernel, by decide +kernel⟩, List.mem_of_getElem? (i := 15) (by decide +kernel), List.mem_of_getElem? (i := 606) (by decide +kernel), List.mem_of_getElem? (i := 607) (by decide +kernel)⟩
theorem lw_p24 : lw_okq (⟨"PoleBehind", "muddyTelling", "(I)I"⟩, 10) := ⟨⟨by decide +kernel, by decide +kernel⟩, List.mem_of_getElem? (i := 15) (by decide +kernel), List.mem_of_getElem? (i := 610) (by decide +kernel), List.mem_of_getElem? (i := 611) (by decide +kernel)⟩
theorem lw_p25 : lw_okq (⟨"PoleBehind", "gravelTelling", "(I)I"⟩, 10) := ⟨⟨by decide +kernel, by decide +kernel⟩, List.mem_of_getElem? (i := 15) (by decide +kernel), List.mem_of_getElem? (i := 614) (by decide +kernel), List.mem_of_getElem? (i := 615) (by decide +kernel)⟩
theorem lw_p26 : lw_okq (⟨"PoleBehindModel", "refused", "(I)I"⟩, 30) := ⟨⟨by decide +kernel, by decide +kernel⟩, List.mem_of_getElem? (i := 644) (by decide +kernel), List.mem_of_getElem? (i := 752) (by decide +kernel), List.mem_of_getElem? (i := 753) (by decide +kernel)⟩
theorem lw_p27 : lw_okq (⟨"PoleBehindModel", "cellsBarred", "(IIIJ)I"⟩, 30) := ⟨⟨by decide +kernel, by decide +kernel⟩, List.mem_of_getElem? (i := 644) (by decide +kernel), List.mem_of_getElem? (i := 757) (by decide +kernel), List.mem_of_getElem? (i := 758) (by decide +kernel)⟩
theorem lw_p28 : lw_okq (⟨"PoleBehindModel", "failed", "(I)I"⟩, 30) := ⟨⟨by decide +kernel, by decide +kernel⟩, List.mem_of_getElem? (i := 644) (by decide +kernel), List.mem_of_getElem? (i := 761) (by decide +kernel), List.mem_of_getElem? (i := 762) (by decide +kernel)⟩
theorem lw_p29 : lw_okq (⟨"PoleBehindModel", "readsRiver", "(II)Z"⟩, 30) := ⟨⟨by decide +kernel, by decide +kernel⟩, List.mem_of_getElem? (i := 644) (by decide +kernel), List.mem_of_getElem? (i := 768) (by decide +kernel), List.mem_of_getElem? (i := 769) (by decide +kernel)⟩
theorem lw_p30 : lw_okq (⟨"PoleBehindModel", "codeAt", "(II)I"⟩, 30) := ⟨⟨by decide +kernel, by decide +kernel⟩, List.mem_of_getElem? (i := 644) (by decide +kernel), List.mem_of_getElem? (i := 772) (by decide +kernel), List.mem_of_getElem? (i := 773) (by decide +kernel)⟩
theorem lw_p31 : lw_okq (⟨"PoleBehindModel", "figure", "(III)I"⟩, 30) := ⟨⟨by decide +kernel, by decide +kernel⟩, List.mem_of_getElem? (i := 644) (by decide +kernel), List.mem_of_getElem? (i := 776) (by decide +kernel), List.mem_of_getElem? (i := 777) (by decide +kernel)⟩
def lw_privs_2 : List (MethodName × Nat) := [(⟨"PoleBehind$SureTable", "bestByAct", "(LPoleBehind$River;III)J"⟩, 2), (⟨"PoleBehind$SureTable", "firstBestAct", "(LPoleBehind$River;II)I"⟩, 2), (⟨"PoleBehind$WayTable", "waysByAnyAct", "(LPoleBehind$River;II)I"⟩, 1), (⟨"PoleBehind$WayTable", "firstActWithWays", "(LPoleBehind$River;II)I"⟩, 1), (⟨"PoleBehind", "travelFor", "(IIIIII)I"⟩, 10), (⟨"PoleBehind$Row", "cutToLane", "(I)I"⟩, 3), (⟨"PoleBehind", "clayTelling", "(I)I"⟩, 10), (⟨"PoleBehind", "leaveTrace", "(I)V"⟩, 10), (⟨"PoleBehind", "muddyTelling", "(I)I"⟩, 10), (⟨"PoleBehind", "gravelTelling", "(I)I"⟩, 10), (⟨"PoleBehindModel", "refused", "(I)I"⟩, 30), (⟨"PoleBehindModel", "cellsBarred", "(IIIJ)I"⟩, 30), (⟨"PoleBehindModel", "failed", "(I)I"⟩, 30), (⟨"PoleBehindModel", "readsRiver", "(II)Z"⟩, 30), (⟨"PoleBehindModel", "codeAt", "(II)I"⟩, 30), (⟨"PoleBehindModel", "figure", "(III)I"⟩, 30)]
theorem lw_r2 : ∀ q ∈ lw_privs_2, lw_okq q := List.forall_mem_cons.mpr ⟨lw_p16, List.forall_mem_cons.mpr ⟨lw_p17, List.forall_mem_cons.mpr ⟨lw_p18, List.forall_mem_cons.mpr ⟨lw_p19, List.forall_mem_cons.mpr ⟨lw_p20, List.forall_mem_cons.mpr ⟨lw_p21, List.forall_mem_cons.mpr ⟨lw_p22, List.forall_mem_cons.mpr ⟨lw_p23, List.forall_mem_cons.mpr ⟨lw_p24, List.forall_mem_cons.mpr ⟨lw_p25, List.forall_mem_cons.mpr ⟨lw_p26, List.forall_mem_cons.mpr ⟨lw_p27, List.forall_mem_cons.mpr ⟨lw_p28, List.forall_mem_cons.mpr ⟨lw_p29, List.forall_mem_cons.mpr ⟨lw_p30, List.forall_mem_cons.mpr ⟨lw_p31, fun _ h => absurd h List.not_mem_nil⟩⟩⟩⟩⟩⟩⟩⟩⟩⟩⟩⟩⟩⟩⟩⟩
theorem lw_p32 : lw_okq (⟨"PoleBehindModel", "readsCell", "(II)Z"⟩, 30) := ⟨⟨by decide +kernel, by decide +kernel⟩, List.mem_of_getElem? (i := 644) (by decide +kernel), List.mem_of_getElem? (i := 780) (by decide +kernel), List.mem_of_getElem? (i := 781) (by decide +kernel)⟩
theorem lw_p33 : lw_okq (⟨"PoleBehindModel", "noPlace", "(I)Z"⟩, 30) := ⟨⟨by decide +kernel, by decide +kernel⟩, List.mem_of_getElem? (i := 644) (by decide +kernel), List.mem_of_getElem? (i := 788) (by decide +kernel), List.mem_of_getElem? (i := 789) (by decide +kernel)⟩
theorem lw_p34 : lw_okq (⟨"PoleBehindModel", "holdsOf", "(I)I"⟩, 30) := ⟨⟨by decide +kernel, by decide +kernel⟩, List.mem_of_getElem? (i := 644) (by decide +kernel), List.mem_of_getElem? (i := 792) (by decide +kernel), List.mem_of_getElem? (i := 793) (by decide +kernel)⟩
theorem lw_p35 : lw_okq (⟨"PoleBehindModel", "planBarred", "(IIIIZ)I"⟩, 30) := ⟨⟨by decide +kernel, by decide +kernel⟩, List.mem_of_getElem? (i := 644) (by decide +kernel), List.mem_of_getElem? (i := 808) (by decide +kernel), List.mem_of_getElem? (i := 809) (by decide +kernel)⟩
theorem lw_p36 : lw_okq (⟨"PoleBehindModel", "actsBarred", "(IIII)I"⟩, 30) := ⟨⟨by decide +kernel, by decide +kernel⟩, List.mem_of_getElem? (i := 644) (by decide +kernel), List.mem_of_getElem? (i := 813) (by decide +kernel), List.mem_of_getElem? (i := 814) (by decide +kernel)⟩
theorem lw_p37 : lw_okq (⟨"PoleBehindModel", "goPlan", "(II)V"⟩, 30) := ⟨⟨by decide +kernel, by decide +kernel⟩, List.mem_of_getElem? (i := 644) (by decide +kernel), List.mem_of_getElem? (i := 817) (by decide +kernel), List.mem_of_getElem? (i := 818) (by decide +kernel)⟩
theorem lw_p38 : lw_okq (⟨"PoleBehindModel", "beginPlan", "()V"⟩, 30) := ⟨⟨by decide +kernel, by decide +kernel⟩, List.mem_of_getElem? (i := 644) (by decide +kernel), List.mem_of_getElem? (i := 821) (by decide +kernel), List.mem_of_getElem? (i := 822) (by decide +kernel)⟩
theorem lw_p39 : lw_okq (⟨"PoleBehindModel", "canAct", "(III)Z"⟩, 30) := ⟨⟨by decide +kernel, by decide +kernel⟩, List.mem_of_getElem? (i := 644) (by decide +kernel), List.mem_of_getElem? (i := 825) (by decide +kernel), List.mem_of_getElem? (i := 826) (by decide +kernel)⟩
theorem lw_p40 : lw_okq (⟨"PoleBehindModel", "cellBy", "(II)I"⟩, 30) := ⟨⟨by decide +kernel, by decide +kernel⟩, List.mem_of_getElem? (i := 644) (by decide +kernel), List.mem_of_getElem? (i := 832) (by decide +kernel), List.mem_of_getElem? (i := 833) (by decide +kernel)⟩
theorem lw_p41 : lw_okq (⟨"PoleBehindModel", "goTurn", "(I)V"⟩, 30) := ⟨⟨by decide +kernel, by decide +kernel⟩, List.mem_of_getElem? (i := 644) (by decide +kernel), List.mem_of_getElem? (i := 836) (by decide +kernel), List.mem_of_getElem? (i := 837) (by decide +kernel)⟩
theorem lw_p42 : lw_okq (⟨"PoleBehindModel", "staysBy", "(II)I"⟩, 30) := ⟨⟨by decide +kernel, by decide +kernel⟩, List.mem_of_getElem? (i := 644) (by decide +kernel), List.mem_of_getElem? (i := 841) (by decide +kernel), List.mem_of_getElem? (i := 842) (by decide +kernel)⟩
theorem lw_p43 : lw_okq (⟨"PoleBehindModel", "soonestNow", "()I"⟩, 30) := ⟨⟨by decide +kernel, by decide +kernel⟩, List.mem_of_getElem? (i := 644) (by decide +kernel), List.mem_of_getElem? (i := 863) (by decide +kernel), List.mem_of_getElem? (i := 864) (by decide +kernel)⟩
theorem lw_p44 : lw_okq (⟨"PoleBehindModel", "isThere", "()Z"⟩, 30) := ⟨⟨by decide +kernel, by decide +kernel⟩, List.mem_of_getElem? (i := 644) (by decide +kernel), List.mem_of_getElem? (i := 867) (by decide +kernel), List.mem_of_getElem? (i := 868) (by decide +kernel)⟩
theorem lw_p45 : lw_okq (⟨"PoleBehindModel", "goAll", "()Z"⟩, 30) := ⟨⟨by decide +kernel, by decide +kernel⟩, List.mem_of_getElem? (i := 644) (by decide +kernel), List.mem_of_getElem? (i := 871) (by decide +kernel), List.mem_of_getElem? (i := 872) (by decide +kernel)⟩
theorem lw_p46 : lw_okq (⟨"PoleBehindModel", "surestTurns", "(I)I"⟩, 30) := ⟨⟨by decide +kernel, by decide +kernel⟩, List.mem_of_getElem? (i := 644) (by decide +kernel), List.mem_of_getElem? (i := 882) (by decide +kernel), List.mem_of_getElem? (i := 883) (by decide +kernel)⟩
theorem lw_p47 : lw_okq (⟨"PoleBehindModel", "layBest", "()V"⟩, 30) := ⟨⟨by decide +kernel, by decide +kernel⟩, List.mem_of_getElem? (i := 644) (by decide +kernel), List.mem_of_getElem? (i := 886) (by decide +kernel), List.mem_of_getElem? (i := 887) (by decide +kernel)⟩
def lw_privs_3 : List (MethodName × Nat) := [(⟨"PoleBehindModel", "readsCell", "(II)Z"⟩, 30), (⟨"PoleBehindModel", "noPlace", "(I)Z"⟩, 30), (⟨"PoleBehindModel", "holdsOf", "(I)I"⟩, 30), (⟨"PoleBehindModel", "planBarred", "(IIIIZ)I"⟩, 30), (⟨"PoleBehindModel", "actsBarred", "(IIII)I"⟩, 30), (⟨"PoleBehindModel", "goPlan", "(II)V"⟩, 30), (⟨"PoleBehindModel", "beginPlan", "()V"⟩, 30), (⟨"PoleBehindModel", "canAct", "(III)Z"⟩, 30), (⟨"PoleBehindModel", "cellBy", "(II)I"⟩, 30), (⟨"PoleBehindModel", "goTurn", "(I)V"⟩, 30), (⟨"PoleBehindModel", "staysBy", "(II)I"⟩, 30), (⟨"PoleBehindModel", "soonestNow", "()I"⟩, 30), (⟨"PoleBehindModel", "isThere", "()Z"⟩, 30), (⟨"PoleBehindModel", "goAll", "()Z"⟩, 30), (⟨"PoleBehindModel", "surestTurns", "(I)I"⟩, 30), (⟨"PoleBehindModel", "layBest", "()V"⟩, 30)]
theorem lw_r3 : ∀ q ∈ lw_privs_3, lw_okq q := List.forall_mem_cons.mpr ⟨lw_p32, List.forall_mem_cons.mpr ⟨lw_p33, List.forall_mem_cons.mpr ⟨lw_p34, List.forall_mem_cons.mpr ⟨lw_p35, List.forall_mem_cons.mpr ⟨lw_p36, List.forall_mem_cons.mpr ⟨lw_p37, List.forall_mem_cons.mpr ⟨lw_p38, List.forall_mem_cons.mpr ⟨lw_p39, List.forall_mem_cons.mpr ⟨lw_p40, List.forall_mem_cons.mpr ⟨lw_p41, List.forall_mem_cons.mpr ⟨lw_p42, List.forall_mem_cons.mpr ⟨lw_p43, List.forall_mem_cons.mpr ⟨lw_p44, List.forall_mem_cons.mpr ⟨lw_p45, List.forall_mem_cons.mpr ⟨lw_p46, List.forall_mem_cons.mpr ⟨lw_p47, fun _ h => absurd h List.not_mem_nil⟩⟩⟩⟩⟩⟩⟩⟩⟩⟩⟩⟩⟩⟩⟩⟩
theorem lw_p48 : lw_okq (⟨"PoleBehindModel", "bestBy", "(IIII)J"⟩, 30) := ⟨⟨by decide +kernel, by decide +kernel⟩, List.mem_of_getElem? (i := 644) (by decide +kernel), List.mem_of_getElem? (i := 893) (by decide +kernel), List.mem_of_getElem? (i := 894) (by decide +kernel)⟩
theorem lw_p49 : lw_okq (⟨"PoleBehindModel", "isWay", "(II)Z"⟩, 30) := ⟨⟨by decide +kernel, by decide +kernel⟩, List.mem_of_getElem? (i := 644) (by decide +kernel), List.mem_of_getElem? (i := 919) (by decide +kernel), List.mem_of_getElem? (i := 920) (by decide +kernel)⟩
theorem lw_p50 : lw_okq (⟨"PoleBehindModel", "areSo", "(I)Z"⟩, 30) := ⟨⟨by decide +kernel, by decide +kernel⟩, List.mem_of_getElem? (i := 644) (by decide +kernel), List.mem_of_getElem? (i := 923) (by decide +kernel), List.mem_of_getElem? (i := 924) (by decide +kernel)⟩
theorem lw_p51 : lw_okq (⟨"PoleBehindModel", "shareBarred", "(IIIIII)I"⟩, 30) := ⟨⟨by decide +kernel, by decide +kernel⟩, List.mem_of_getElem? (i := 644) (by decide +kernel), List.mem_of_getElem? (i := 931) (by decide +kernel), List.mem_of_getElem? (i := 932) (by decide +kernel)⟩
theorem lw_p52 : lw_okq (⟨"PoleBehindModel", "noCell", "(II)I"⟩, 30) := ⟨⟨by decide +kernel, by decide +kernel⟩, List.mem_of_getElem? (i := 644) (by decide +kernel), List.mem_of_getElem? (i := 957) (by decide +kernel), List.mem_of_getElem? (i := 958) (by decide +kernel)⟩
theorem lw_p53 : lw_okq (⟨"PoleBehindModel", "failedLong", "(I)J"⟩, 30) := ⟨⟨by decide +kernel, by decide +kernel⟩, List.mem_of_getElem? (i := 644) (by decide +kernel), List.mem_of_getElem? (i := 965) (by decide +kernel), List.mem_of_getElem? (i := 966) (by decide +kernel)⟩
theorem lw_p54 : lw_okq (⟨"PoleBehindModel", "traced", "(I)V"⟩, 30) := ⟨⟨by decide +kernel, by decide +kernel⟩, List.mem_of_getElem? (i := 644) (by decide +kernel), List.mem_of_getElem? (i := 977) (by decide +kernel), List.mem_of_getElem? (i := 978) (by decide +kernel)⟩
theorem lw_p55 : lw_okq (⟨"PoleBehindModel", "bridgesMany", "()I"⟩, 30) := ⟨⟨by decide +kernel, by decide +kernel⟩, List.mem_of_getElem? (i := 644) (by decide +kernel), List.mem_of_getElem? (i := 1001) (by decide +kernel), List.mem_of_getElem? (i := 1002) (by decide +kernel)⟩
def lw_privs_4 : List (MethodName × Nat) := [(⟨"PoleBehindModel", "bestBy", "(IIII)J"⟩, 30), (⟨"PoleBehindModel", "isWay", "(II)Z"⟩, 30), (⟨"PoleBehindModel", "areSo", "(I)Z"⟩, 30), (⟨"PoleBehindModel", "shareBarred", "(IIIIII)I"⟩, 30), (⟨"PoleBehindModel", "noCell", "(II)I"⟩, 30), (⟨"PoleBehindModel", "failedLong", "(I)J"⟩, 30), (⟨"PoleBehindModel", "traced", "(I)V"⟩, 30), (⟨"PoleBehindModel", "bridgesMany", "()I"⟩, 30)]
theorem lw_r4 : ∀ q ∈ lw_privs_4, lw_okq q := List.forall_mem_cons.mpr ⟨lw_p48, List.forall_mem_cons.mpr ⟨lw_p49, List.forall_mem_cons.mpr ⟨lw_p50, List.forall_mem_cons.mpr ⟨lw_p51, List.forall_mem_cons.mpr ⟨lw_p52, List.forall_mem_cons.mpr ⟨lw_p53, List.forall_mem_cons.mpr ⟨lw_p54, List.forall_mem_cons.mpr ⟨lw_p55, fun _ h => absurd h List.not_mem_nil⟩⟩⟩⟩⟩⟩⟩⟩
def lw_privs : List (MethodName × Nat) := lw_privs_1 ++ (lw_privs_2 ++ (lw_privs_3 ++ (lw_privs_4)))
def lw_tbl : List Cond := k2_sels lw_privs ++ tables_1
theorem lw_privs_ok : ∀ q ∈ lw_privs, lw_okq q := by
  show ∀ q ∈ lw_privs_1 ++ (lw_privs_2 ++ (lw_privs_3 ++ (lw_privs_4))), lw_okq q
  exact List.forall_mem_append.mpr ⟨lw_r1, List.forall_mem_append.mpr ⟨lw_r2, List.forall_mem_append.mpr ⟨lw_r3, lw_r4⟩⟩⟩
-- ===== end of PART A; then your names; then what follows =====
/-! ===== BEGIN words of one list among another's, by their places ===== -/
theorem goodIn_r {big : List Cond} (ws : List Cond) (ps : List Nat) (hp : ws = ps.filterMap (fun i => big[i]?)) (h : ws.all goodWord = true) : GoodIn big ws := by
  intro w hw
  have h1 := List.all_eq_true.mp h w hw
  rw [hp] at hw
  obtain ⟨i, -, hi⟩ := List.mem_filterMap.mp hw
  have hm : w ∈ big := by first | exact List.mem_of_getElem? hi | exact List.getElem?_mem hi
  exact ⟨hm, good_of_word h1⟩
theorem goodIn_app {big a b : List Cond} (ha : GoodIn big a) (hb : GoodIn big b) : GoodIn big (a ++ b) := fun w h => (List.mem_append.mp h).elim (ha w) (hb w)
theorem goodIn_ca {big a b : List Cond} {c : Cond} (ha : GoodIn big (c :: a)) (hb : GoodIn big b) : GoodIn big (c :: (a ++ b)) := fun w h => (List.mem_cons.mp h).elim (fun e => ha w (List.mem_cons.mpr (Or.inl e))) (fun h => (List.mem_append.mp h).elim (fun h => ha w (List.mem_cons.mpr (Or.inr h))) (hb w))
theorem goodIn_sub {big ws : List Cond} (hm : ∀ w ∈ ws, w ∈ big) (h : ws.all goodWord = true) : GoodIn big ws := fun w hw => ⟨hm w hw, good_of_word (List.all_eq_true.mp h w hw)⟩
/-! ===== END ===== -/

/-! ===== BEGIN printed: names, fields, word lists, decode rows ===== -/
def RX0 : String := "PoleBehind$Journey"
def TX0 : u_T := fun k => match k with
  | 0 => ("PoleBehind$Journey", "acts", "[I", true)
  | 1 => ("PoleBehind$Journey", "cells", "[I", true)
  | 2 => ("PoleBehind$Journey", "turns", "I", false)
  | 3 => ("PoleBehind$Journey", "firstWrong", "I", false)
  | _ => ("PoleBehind$Journey", "spot", "I", false)
def tyX0 : Nat → FieldType := fun k => match k with
  | 0 => .array .int
  | 1 => .array .int
  | 2 => .int
  | 3 => .int
  | _ => .int
abbrev wsX00 : List Cond := u_ws RX0 TX0 5
theorem nmX0 : ∀ a, a < 5 → ∀ b, b < 5 → a ≠ b → (TX0 a).2.1 ≠ (TX0 b).2.1 := by decide +kernel
theorem tyX0_ok : ∀ k, k < 5 → parseFieldDescriptor (TX0 k).2.2.1 = some (tyX0 k) := by decide +kernel
abbrev cX0_init : ByteArray := prog_2_method_1_code
def yX0_init : MethodName := ⟨RX0, "<init>", "()V"⟩
abbrev cX0_readActs : ByteArray := prog_2_method_2_code
def yX0_readActs : MethodName := ⟨RX0, "readActs", "(LPoleBehind$Row;II)Z"⟩
abbrev cX0_go : ByteArray := prog_2_method_3_code
def yX0_go : MethodName := ⟨RX0, "go", "(LPoleBehind$River;)V"⟩
abbrev cX0_dryParts : ByteArray := prog_2_method_4_code
def yX0_dryParts : MethodName := ⟨RX0, "dryParts", "(LPoleBehind$River;II)J"⟩
abbrev cX0_poledCells : ByteArray := prog_2_method_5_code
def yX0_poledCells : MethodName := ⟨RX0, "poledCells", "()I"⟩
def RX1 : String := "PoleBehind$Readings"
def TX1 : u_T := fun k => match k with
  | 0 => ("PoleBehind$Readings", "turnRow", "[I", true)
  | 1 => ("PoleBehind$Readings", "cellRow", "[I", true)
  | _ => ("PoleBehind$Readings", "count", "I", false)
def tyX1 : Nat → FieldType := fun k => match k with
  | 0 => .array .int
  | 1 => .array .int
  | _ => .int
abbrev wsX10 : List Cond := u_ws RX1 TX1 3
theorem nmX1 : ∀ a, a < 3 → ∀ b, b < 3 → a ≠ b → (TX1 a).2.1 ≠ (TX1 b).2.1 := by decide +kernel
theorem tyX1_ok : ∀ k, k < 3 → parseFieldDescriptor (TX1 k).2.2.1 = some (tyX1 k) := by decide +kernel
abbrev cX1_init : ByteArray := prog_3_method_1_code
def yX1_init : MethodName := ⟨RX1, "<init>", "()V"⟩
abbrev cX1_add : ByteArray := prog_3_method_2_code
def yX1_add : MethodName := ⟨RX1, "add", "(II)V"⟩
abbrev cX1_allow : ByteArray := prog_3_method_3_code
def yX1_allow : MethodName := ⟨RX1, "allow", "(II)Z"⟩
def RX2 : String := "PoleBehind$River"
def TX2 : u_T := fun k => match k with
  | 0 => ("PoleBehind$River", "kindRow", "[I", true)
  | 1 => ("PoleBehind$River", "mudRow", "[I", true)
  | 2 => ("PoleBehind$River", "deepRow", "[Z", true)
  | 3 => ("PoleBehind$River", "bridgeRow", "[Z", true)
  | 4 => ("PoleBehind$River", "count", "I", false)
  | _ => ("PoleBehind$River", "paceAtFirst", "I", false)
def tyX2 : Nat → FieldType := fun k => match k with
  | 0 => .array .int
  | 1 => .array .int
  | 2 => .array .boolean
  | 3 => .array .boolean
  | 4 => .int
  | _ => .int
abbrev wsX20 : List Cond := u_ws RX2 TX2 6
theorem nmX2 : ∀ a, a < 6 → ∀ b, b < 6 → a ≠ b → (TX2 a).2.1 ≠ (TX2 b).2.1 := by decide +kernel
theorem tyX2_ok : ∀ k, k < 6 → parseFieldDescriptor (TX2 k).2.2.1 = some (tyX2 k) := by decide +kernel
abbrev cX2_init : ByteArray := prog_4_method_1_code
def yX2_init : MethodName := ⟨RX2, "<init>", "()V"⟩
abbrev cX2_isNone : ByteArray := prog_4_method_2_code
def yX2_isNone : MethodName := ⟨RX2, "isNone", "()Z"⟩
abbrev cX2_has : ByteArray := prog_4_method_3_code
def yX2_has : MethodName := ⟨RX2, "has", "(I)Z"⟩
abbrev cX2_clear : ByteArray := prog_4_method_4_code
def yX2_clear : MethodName := ⟨RX2, "clear", "()V"⟩
abbrev cX2_add : ByteArray := prog_4_method_5_code
def yX2_add : MethodName := ⟨RX2, "add", "(IZ)V"⟩
abbrev cX2_setMud : ByteArray := prog_4_method_6_code
def yX2_setMud : MethodName := ⟨RX2, "setMud", "(II)V"⟩
abbrev cX2_setBridged : ByteArray := prog_4_method_7_code
def yX2_setBridged : MethodName := ⟨RX2, "setBridged", "(IZ)V"⟩
abbrev cX2_kindOf : ByteArray := prog_4_method_8_code
def yX2_kindOf : MethodName := ⟨RX2, "kindOf", "(I)I"⟩
abbrev cX2_mudOf : ByteArray := prog_4_method_9_code
def yX2_mudOf : MethodName := ⟨RX2, "mudOf", "(I)I"⟩
abbrev cX2_isDeep : ByteArray := prog_4_method_10_code
def yX2_isDeep : MethodName := ⟨RX2, "isDeep", "(I)Z"⟩
abbrev cX2_isBridged : ByteArray := prog_4_method_11_code
def yX2_isBridged : MethodName := ⟨RX2, "isBridged", "(I)Z"⟩
abbrev cX2_bridgeCount : ByteArray := prog_4_method_12_code
def yX2_bridgeCount : MethodName := ⟨RX2, "bridgeCount", "()I"⟩
abbrev cX2_holdsIn : ByteArray := prog_4_method_13_code
def yX2_holdsIn : MethodName := ⟨RX2, "holdsIn", "(I)I"⟩
abbrev cX2_holdsIf : ByteArray := prog_4_method_14_code
def yX2_holdsIf : MethodName := ⟨RX2, "holdsIf", "(III)I"⟩
abbrev cX2_start : ByteArray := prog_4_method_15_code
def yX2_start : MethodName := ⟨RX2, "start", "()I"⟩
abbrev cX2_spots : ByteArray := prog_4_method_16_code
def yX2_spots : MethodName := ⟨RX2, "spots", "()I"⟩
abbrev cX2_tea : ByteArray := prog_4_method_17_code
def yX2_tea : MethodName := ⟨RX2, "tea", "()I"⟩
abbrev cX2_isAtTea : ByteArray := prog_4_method_18_code
def yX2_isAtTea : MethodName := ⟨RX2, "isAtTea", "(I)Z"⟩
abbrev cX2_after : ByteArray := prog_4_method_19_code
def yX2_after : MethodName := ⟨RX2, "after", "(II)I"⟩
abbrev cX2_paceAfter : ByteArray := prog_4_method_20_code
def yX2_paceAfter : MethodName := ⟨RX2, "paceAfter", "(II)I"⟩
abbrev cX2_hasBridgeWithin : ByteArray := prog_4_method_21_code
def yX2_hasBridgeWithin : MethodName := ⟨RX2, "hasBridgeWithin", "(II)Z"⟩
abbrev cX2_fewestTurns : ByteArray := prog_4_method_22_code
def yX2_fewestTurns : MethodName := ⟨RX2, "fewestTurns", "()I"⟩
abbrev cX2_allAfter : ByteArray := prog_4_method_23_code
def yX2_allAfter : MethodName := ⟨RX2, "allAfter", "(J)J"⟩
abbrev cX2_eachAfter : ByteArray := prog_4_method_24_code
def yX2_eachAfter : MethodName := ⟨RX2, "eachAfter", "(I)J"⟩
def RX3 : String := "PoleBehind$Row"
def TX3 : u_T := fun k => match k with
  | 0 => ("PoleBehind$Row", "numbers", "[I", true)
  | 1 => ("PoleBehind$Row", "lane", "I", false)
  | _ => ("PoleBehind$Row", "length", "I", false)
def tyX3 : Nat → FieldType := fun k => match k with
  | 0 => .array .int
  | 1 => .int
  | _ => .int
abbrev wsX30 : List Cond := u_ws RX3 TX3 3
theorem nmX3 : ∀ a, a < 3 → ∀ b, b < 3 → a ≠ b → (TX3 a).2.1 ≠ (TX3 b).2.1 := by decide +kernel
theorem tyX3_ok : ∀ k, k < 3 → parseFieldDescriptor (TX3 k).2.2.1 = some (tyX3 k) := by decide +kernel
abbrev cX3_init : ByteArray := prog_5_method_1_code
def yX3_init : MethodName := ⟨RX3, "<init>", "()V"⟩
abbrev cX3_isNothing : ByteArray := prog_5_method_2_code
def yX3_isNothing : MethodName := ⟨RX3, "isNothing", "()Z"⟩
abbrev cX3_begin : ByteArray := prog_5_method_3_code
def yX3_begin : MethodName := ⟨RX3, "begin", "(II)V"⟩
abbrev cX3_faultAs : ByteArray := prog_5_method_4_code
def yX3_faultAs : MethodName := ⟨RX3, "faultAs", "(I)I"⟩
abbrev cX3_has : ByteArray := prog_5_method_5_code
def yX3_has : MethodName := ⟨RX3, "has", "(I)Z"⟩
abbrev cX3_hasStretch : ByteArray := prog_5_method_6_code
def yX3_hasStretch : MethodName := ⟨RX3, "hasStretch", "(II)Z"⟩
abbrev cX3_at : ByteArray := prog_5_method_7_code
def yX3_at : MethodName := ⟨RX3, "at", "(I)I"⟩
abbrev cX3_become : ByteArray := prog_5_method_8_code
def yX3_become : MethodName := ⟨RX3, "become", "(II)V"⟩
abbrev cX3_cutToLane : ByteArray := prog_5_method_9_code
def yX3_cutToLane : MethodName := ⟨RX3, "cutToLane", "(I)I"⟩
def RX4 : String := "PoleBehind$SureTable"
def TX4 : u_T := fun k => match k with
  | 0 => ("PoleBehind$SureTable", "best", "[J", true)
  | _ => ("PoleBehind$SureTable", "stands", "Z", false)
def tyX4 : Nat → FieldType := fun k => match k with
  | 0 => .array .long
  | _ => .boolean
abbrev wsX40 : List Cond := u_ws RX4 TX4 2
theorem nmX4 : ∀ a, a < 2 → ∀ b, b < 2 → a ≠ b → (TX4 a).2.1 ≠ (TX4 b).2.1 := by decide +kernel
theorem tyX4_ok : ∀ k, k < 2 → parseFieldDescriptor (TX4 k).2.2.1 = some (tyX4 k) := by decide +kernel
abbrev cX4_init : ByteArray := prog_6_method_1_code
def yX4_init : MethodName := ⟨RX4, "<init>", "()V"⟩
abbrev cX4_forget : ByteArray := prog_6_method_2_code
def yX4_forget : MethodName := ⟨RX4, "forget", "()V"⟩
abbrev cX4_fill : ByteArray := prog_6_method_3_code
def yX4_fill : MethodName := ⟨RX4, "fill", "(LPoleBehind$River;)V"⟩
abbrev cX4_surestTurns : ByteArray := prog_6_method_4_code
def yX4_surestTurns : MethodName := ⟨RX4, "surestTurns", "(LPoleBehind$River;I)I"⟩
abbrev cX4_actOf : ByteArray := prog_6_method_5_code
def yX4_actOf : MethodName := ⟨RX4, "actOf", "(LPoleBehind$River;II)I"⟩
abbrev cX4_bestOf : ByteArray := prog_6_method_6_code
def yX4_bestOf : MethodName := ⟨RX4, "bestOf", "(II)J"⟩
abbrev cX4_bestByAnyAct : ByteArray := prog_6_method_7_code
def yX4_bestByAnyAct : MethodName := ⟨RX4, "bestByAnyAct", "(LPoleBehind$River;II)J"⟩
abbrev cX4_bestByAct : ByteArray := prog_6_method_8_code
def yX4_bestByAct : MethodName := ⟨RX4, "bestByAct", "(LPoleBehind$River;III)J"⟩
abbrev cX4_firstBestAct : ByteArray := prog_6_method_9_code
def yX4_firstBestAct : MethodName := ⟨RX4, "firstBestAct", "(LPoleBehind$River;II)I"⟩
def RX5 : String := "PoleBehind$TextReader"
def TX5 : u_T := fun k => match k with
  | _ => ("PoleBehind$TextReader", "stage", "I", false)
def tyX5 : Nat → FieldType := fun k => match k with
  | _ => .int
abbrev wsX50 : List Cond := u_ws RX5 TX5 1
theorem nmX5 : ∀ a, a < 1 → ∀ b, b < 1 → a ≠ b → (TX5 a).2.1 ≠ (TX5 b).2.1 := by decide +kernel
theorem tyX5_ok : ∀ k, k < 1 → parseFieldDescriptor (TX5 k).2.2.1 = some (tyX5 k) := by decide +kernel
abbrev cX5_init : ByteArray := prog_7_method_1_code
def yX5_init : MethodName := ⟨RX5, "<init>", "()V"⟩
abbrev cX5_firstFault : ByteArray := prog_7_method_2_code
def yX5_firstFault : MethodName := ⟨RX5, "firstFault", "(LPoleBehind$Row;IILPoleBehind$River;)I"⟩
abbrev cX5_goesOn : ByteArray := prog_7_method_3_code
def yX5_goesOn : MethodName := ⟨RX5, "goesOn", "(ILPoleBehind$River;)Z"⟩
abbrev cX5_goesOnByPace : ByteArray := prog_7_method_4_code
def yX5_goesOnByPace : MethodName := ⟨RX5, "goesOnByPace", "(ILPoleBehind$River;)Z"⟩
abbrev cX5_goesOnByMud : ByteArray := prog_7_method_5_code
def yX5_goesOnByMud : MethodName := ⟨RX5, "goesOnByMud", "(ILPoleBehind$River;)Z"⟩
abbrev cX5_goesOnByBridge : ByteArray := prog_7_method_6_code
def yX5_goesOnByBridge : MethodName := ⟨RX5, "goesOnByBridge", "(LPoleBehind$River;)Z"⟩
abbrev cX5_goesOnByLetter : ByteArray := prog_7_method_7_code
def yX5_goesOnByLetter : MethodName := ⟨RX5, "goesOnByLetter", "(ILPoleBehind$River;)Z"⟩
abbrev cX5_goesOnByCell : ByteArray := prog_7_method_8_code
def yX5_goesOnByCell : MethodName := ⟨RX5, "goesOnByCell", "(IZLPoleBehind$River;)Z"⟩
def RX6 : String := "PoleBehind$WayTable"
def TX6 : u_T := fun k => match k with
  | _ => ("PoleBehind$WayTable", "ways", "[I", true)
def tyX6 : Nat → FieldType := fun k => match k with
  | _ => .array .int
abbrev wsX60 : List Cond := u_ws RX6 TX6 1
theorem nmX6 : ∀ a, a < 1 → ∀ b, b < 1 → a ≠ b → (TX6 a).2.1 ≠ (TX6 b).2.1 := by decide +kernel
theorem tyX6_ok : ∀ k, k < 1 → parseFieldDescriptor (TX6 k).2.2.1 = some (tyX6 k) := by decide +kernel
abbrev cX6_init : ByteArray := prog_8_method_1_code
def yX6_init : MethodName := ⟨RX6, "<init>", "()V"⟩
abbrev cX6_fill : ByteArray := prog_8_method_2_code
def yX6_fill : MethodName := ⟨RX6, "fill", "(LPoleBehind$River;LPoleBehind$Readings;I)V"⟩
abbrev cX6_waysFrom : ByteArray := prog_8_method_3_code
def yX6_waysFrom : MethodName := ⟨RX6, "waysFrom", "(II)I"⟩
abbrev cX6_actOf : ByteArray := prog_8_method_4_code
def yX6_actOf : MethodName := ⟨RX6, "actOf", "(LPoleBehind$River;II)I"⟩
abbrev cX6_waysByAnyAct : ByteArray := prog_8_method_5_code
def yX6_waysByAnyAct : MethodName := ⟨RX6, "waysByAnyAct", "(LPoleBehind$River;II)I"⟩
abbrev cX6_firstActWithWays : ByteArray := prog_8_method_6_code
def yX6_firstActWithWays : MethodName := ⟨RX6, "firstActWithWays", "(LPoleBehind$River;II)I"⟩
def RX7 : String := "PoleBehind"
def TX7 : u_T := fun k => match k with
  | 0 => ("PoleBehind", "sheets", "[LPoleBehind$Row;", true)
  | 1 => ("PoleBehind", "water", "LPoleBehind$River;", false)
  | 2 => ("PoleBehind", "draft", "LPoleBehind$River;", false)
  | 3 => ("PoleBehind", "reader", "LPoleBehind$TextReader;", true)
  | 4 => ("PoleBehind", "journey", "LPoleBehind$Journey;", true)
  | 5 => ("PoleBehind", "readings", "LPoleBehind$Readings;", true)
  | 6 => ("PoleBehind", "sureTable", "LPoleBehind$SureTable;", true)
  | 7 => ("PoleBehind", "wayTable", "LPoleBehind$WayTable;", true)
  | 8 => ("PoleBehind", "traced", "I", false)
  | _ => ("PoleBehind", "lastFault", "I", false)
def tyX7 : Nat → FieldType := fun k => match k with
  | 0 => .array (.object "PoleBehind$Row")
  | 1 => .object "PoleBehind$River"
  | 2 => .object "PoleBehind$River"
  | 3 => .object "PoleBehind$TextReader"
  | 4 => .object "PoleBehind$Journey"
  | 5 => .object "PoleBehind$Readings"
  | 6 => .object "PoleBehind$SureTable"
  | 7 => .object "PoleBehind$WayTable"
  | 8 => .int
  | _ => .int
abbrev wsX70 : List Cond := u_ws RX7 TX7 10
theorem nmX7 : ∀ a, a < 10 → ∀ b, b < 10 → a ≠ b → (TX7 a).2.1 ≠ (TX7 b).2.1 := by decide +kernel
theorem tyX7_ok : ∀ k, k < 10 → parseFieldDescriptor (TX7 k).2.2.1 = some (tyX7 k) := by decide +kernel
abbrev cX7_init : ByteArray := prog_1_method_1_code
def yX7_init : MethodName := ⟨RX7, "<init>", "()V"⟩
abbrev cX7_river : ByteArray := prog_1_method_2_code
def yX7_river : MethodName := ⟨RX7, "river", "(IIII)I"⟩
abbrev cX7_ofCell : ByteArray := prog_1_method_3_code
def yX7_ofCell : MethodName := ⟨RX7, "ofCell", "(II)I"⟩
abbrev cX7_pace : ByteArray := prog_1_method_4_code
def yX7_pace : MethodName := ⟨RX7, "pace", "(I)I"⟩
abbrev cX7_bridge : ByteArray := prog_1_method_5_code
def yX7_bridge : MethodName := ⟨RX7, "bridge", "(IZ)I"⟩
abbrev cX7_takeDraft : ByteArray := prog_1_method_6_code
def yX7_takeDraft : MethodName := ⟨RX7, "takeDraft", "()V"⟩
abbrev cX7_plan : ByteArray := prog_1_method_7_code
def yX7_plan : MethodName := ⟨RX7, "plan", "(IIIII)I"⟩
abbrev cX7_dry : ByteArray := prog_1_method_8_code
def yX7_dry : MethodName := ⟨RX7, "dry", "(IIIII)J"⟩
abbrev cX7_travel : ByteArray := prog_1_method_9_code
def yX7_travel : MethodName := ⟨RX7, "travel", "(IIIIZ)I"⟩
abbrev cX7_carryOut : ByteArray := prog_1_method_10_code
def yX7_carryOut : MethodName := ⟨RX7, "carryOut", "(LPoleBehind$Row;III)I"⟩
abbrev cX7_soonest : ByteArray := prog_1_method_11_code
def yX7_soonest : MethodName := ⟨RX7, "soonest", "()I"⟩
abbrev cX7_surest : ByteArray := prog_1_method_12_code
def yX7_surest : MethodName := ⟨RX7, "surest", "(II)I"⟩
abbrev cX7_sure : ByteArray := prog_1_method_13_code
def yX7_sure : MethodName := ⟨RX7, "sure", "(II)J"⟩
abbrev cX7_cost : ByteArray := prog_1_method_14_code
def yX7_cost : MethodName := ⟨RX7, "cost", "(I)I"⟩
abbrev cX7_reading : ByteArray := prog_1_method_15_code
def yX7_reading : MethodName := ⟨RX7, "reading", "(II)I"⟩
abbrev cX7_back : ByteArray := prog_1_method_16_code
def yX7_back : MethodName := ⟨RX7, "back", "(I)I"⟩
abbrev cX7_ways : ByteArray := prog_1_method_17_code
def yX7_ways : MethodName := ⟨RX7, "ways", "(II)I"⟩
abbrev cX7_kinds : ByteArray := prog_1_method_18_code
def yX7_kinds : MethodName := ⟨RX7, "kinds", "(IIIIII)I"⟩
abbrev cX7_muds : ByteArray := prog_1_method_19_code
def yX7_muds : MethodName := ⟨RX7, "muds", "(IIIIII)I"⟩
abbrev cX7_odds : ByteArray := prog_1_method_20_code
def yX7_odds : MethodName := ⟨RX7, "odds", "(IIIII)J"⟩
abbrev cX7_travelFor : ByteArray := prog_1_method_21_code
def yX7_travelFor : MethodName := ⟨RX7, "travelFor", "(IIIIII)I"⟩
abbrev cX7_sheet : ByteArray := prog_1_method_22_code
def yX7_sheet : MethodName := ⟨RX7, "sheet", "(III)I"⟩
abbrev cX7_lose : ByteArray := prog_1_method_23_code
def yX7_lose : MethodName := ⟨RX7, "lose", "(I)I"⟩
abbrev cX7_put : ByteArray := prog_1_method_24_code
def yX7_put : MethodName := ⟨RX7, "put", "(III)I"⟩
abbrev cX7_cell : ByteArray := prog_1_method_25_code
def yX7_cell : MethodName := ⟨RX7, "cell", "(III)J"⟩
abbrev cX7_copy : ByteArray := prog_1_method_26_code
def yX7_copy : MethodName := ⟨RX7, "copy", "(IIIII)I"⟩
abbrev cX7_tell : ByteArray := prog_1_method_27_code
def yX7_tell : MethodName := ⟨RX7, "tell", "(I)I"⟩
abbrev cX7_sound : ByteArray := prog_1_method_28_code
def yX7_sound : MethodName := ⟨RX7, "sound", "(I)I"⟩
abbrev cX7_as : ByteArray := prog_1_method_29_code
def yX7_as : MethodName := ⟨RX7, "as", "(II)I"⟩
abbrev cX7_trace : ByteArray := prog_1_method_30_code
def yX7_trace : MethodName := ⟨RX7, "trace", "()I"⟩
abbrev cX7_fault : ByteArray := prog_1_method_31_code
def yX7_fault : MethodName := ⟨RX7, "fault", "()I"⟩
abbrev cX7_many : ByteArray := prog_1_method_32_code
def yX7_many : MethodName := ⟨RX7, "many", "(I)I"⟩
abbrev cX7_gravelTelling : ByteArray := prog_1_method_33_code
def yX7_gravelTelling : MethodName := ⟨RX7, "gravelTelling", "(I)I"⟩
abbrev cX7_muddyTelling : ByteArray := prog_1_method_34_code
def yX7_muddyTelling : MethodName := ⟨RX7, "muddyTelling", "(I)I"⟩
abbrev cX7_clayTelling : ByteArray := prog_1_method_35_code
def yX7_clayTelling : MethodName := ⟨RX7, "clayTelling", "(I)I"⟩
abbrev cX7_leaveTrace : ByteArray := prog_1_method_36_code
def yX7_leaveTrace : MethodName := ⟨RX7, "leaveTrace", "(I)V"⟩
abbrev cX7_failed : ByteArray := prog_1_method_37_code
def yX7_failed : MethodName := ⟨RX7, "failed", "(I)I"⟩
abbrev cX7_rowOf : ByteArray := prog_1_method_38_code
def yX7_rowOf : MethodName := ⟨RX7, "rowOf", "(I)LPoleBehind$Row;"⟩
abbrev cX7_isLane : ByteArray := prog_1_method_39_code
def yX7_isLane : MethodName := ⟨RX7, "isLane", "(I)Z"⟩
abbrev cX7_isUpperOrLower : ByteArray := prog_1_method_40_code
def yX7_isUpperOrLower : MethodName := ⟨RX7, "isUpperOrLower", "(I)Z"⟩
abbrev cX7_asBit : ByteArray := prog_1_method_41_code
def yX7_asBit : MethodName := ⟨RX7, "asBit", "(Z)I"⟩
abbrev cX7_cellOf : ByteArray := prog_1_method_42_code
def yX7_cellOf : MethodName := ⟨RX7, "cellOf", "(I)I"⟩
abbrev cX7_paceOf : ByteArray := prog_1_method_43_code
def yX7_paceOf : MethodName := ⟨RX7, "paceOf", "(I)I"⟩
abbrev cX7_tenTo : ByteArray := prog_1_method_44_code
def yX7_tenTo : MethodName := ⟨RX7, "tenTo", "(I)J"⟩
abbrev cX7_inLeastTerms : ByteArray := prog_1_method_45_code
def yX7_inLeastTerms : MethodName := ⟨RX7, "inLeastTerms", "(JJI)J"⟩
abbrev cX7_dryTenths : ByteArray := prog_1_method_46_code
def yX7_dryTenths : MethodName := ⟨RX7, "dryTenths", "(II)I"⟩
def RX8 : String := "PoleBehindModel"
def TX8 : u_T := fun k => match k with
  | 0 => ("PoleBehindModel", "fault", "I", false)
  | 1 => ("PoleBehindModel", "cells", "I", false)
  | 2 => ("PoleBehindModel", "paceFirst", "I", false)
  | 3 => ("PoleBehindModel", "kindOf", "[I", true)
  | 4 => ("PoleBehindModel", "mudOf", "[I", true)
  | 5 => ("PoleBehindModel", "deepIn", "[I", true)
  | 6 => ("PoleBehindModel", "bridgeOver", "[I", true)
  | 7 => ("PoleBehindModel", "readAt", "I", false)
  | 8 => ("PoleBehindModel", "readPace", "I", false)
  | 9 => ("PoleBehindModel", "readCells", "I", false)
  | 10 => ("PoleBehindModel", "readKind", "[I", true)
  | 11 => ("PoleBehindModel", "readMud", "[I", true)
  | 12 => ("PoleBehindModel", "readDeep", "[I", true)
  | 13 => ("PoleBehindModel", "readBridge", "[I", true)
  | 14 => ("PoleBehindModel", "cellNow", "I", false)
  | 15 => ("PoleBehindModel", "paceNow", "I", false)
  | 16 => ("PoleBehindModel", "firstWrong", "I", false)
  | 17 => ("PoleBehindModel", "dryNow", "J", false)
  | 18 => ("PoleBehindModel", "poled", "I", false)
  | 19 => ("PoleBehindModel", "bestFrom", "[J", true)
  | 20 => ("PoleBehindModel", "isSeen", "[Z", true)
  | 21 => ("PoleBehindModel", "isNext", "[Z", true)
  | 22 => ("PoleBehindModel", "readings", "I", false)
  | 23 => ("PoleBehindModel", "readingIn", "[I", true)
  | 24 => ("PoleBehindModel", "readingAt", "[I", true)
  | 25 => ("PoleBehindModel", "sheetSize", "[I", true)
  | 26 => ("PoleBehindModel", "sheetLane", "[I", true)
  | 27 => ("PoleBehindModel", "sheet", "[I", true)
  | 28 => ("PoleBehindModel", "hands", "[I", true)
  | _ => ("PoleBehindModel", "traceNow", "I", false)
def tyX8 : Nat → FieldType := fun k => match k with
  | 0 => .int
  | 1 => .int
  | 2 => .int
  | 3 => .array .int
  | 4 => .array .int
  | 5 => .array .int
  | 6 => .array .int
  | 7 => .int
  | 8 => .int
  | 9 => .int
  | 10 => .array .int
  | 11 => .array .int
  | 12 => .array .int
  | 13 => .array .int
  | 14 => .int
  | 15 => .int
  | 16 => .int
  | 17 => .long
  | 18 => .int
  | 19 => .array .long
  | 20 => .array .boolean
  | 21 => .array .boolean
  | 22 => .int
  | 23 => .array .int
  | 24 => .array .int
  | 25 => .array .int
  | 26 => .array .int
  | 27 => .array .int
  | 28 => .array .int
  | _ => .int
abbrev wsX80 : List Cond := u_ws RX8 TX8 30
theorem nmX8 : ∀ a, a < 30 → ∀ b, b < 30 → a ≠ b → (TX8 a).2.1 ≠ (TX8 b).2.1 := by decide +kernel
theorem tyX8_ok : ∀ k, k < 30 → parseFieldDescriptor (TX8 k).2.2.1 = some (tyX8 k) := by decide +kernel
abbrev cX8_init : ByteArray := prog_10_method_1_code
def yX8_init : MethodName := ⟨RX8, "<init>", "()V"⟩
abbrev cX8_in : ByteArray := prog_10_method_2_code
def yX8_in : MethodName := ⟨RX8, "in", "(JJJ)Z"⟩
abbrev cX8_lost : ByteArray := prog_10_method_3_code
def yX8_lost : MethodName := ⟨RX8, "lost", "()J"⟩
abbrev cX8_tens : ByteArray := prog_10_method_4_code
def yX8_tens : MethodName := ⟨RX8, "tens", "(I)J"⟩
abbrev cX8_told : ByteArray := prog_10_method_5_code
def yX8_told : MethodName := ⟨RX8, "told", "(JJI)J"⟩
abbrev cX8_refused : ByteArray := prog_10_method_6_code
def yX8_refused : MethodName := ⟨RX8, "refused", "(I)I"⟩
abbrev cX8_failed : ByteArray := prog_10_method_7_code
def yX8_failed : MethodName := ⟨RX8, "failed", "(I)I"⟩
abbrev cX8_failedLong : ByteArray := prog_10_method_8_code
def yX8_failedLong : MethodName := ⟨RX8, "failedLong", "(I)J"⟩
abbrev cX8_noPlace : ByteArray := prog_10_method_9_code
def yX8_noPlace : MethodName := ⟨RX8, "noPlace", "(I)Z"⟩
abbrev cX8_codeAt : ByteArray := prog_10_method_10_code
def yX8_codeAt : MethodName := ⟨RX8, "codeAt", "(II)I"⟩
abbrev cX8_figure : ByteArray := prog_10_method_11_code
def yX8_figure : MethodName := ⟨RX8, "figure", "(III)I"⟩
abbrev cX8_readsCell : ByteArray := prog_10_method_12_code
def yX8_readsCell : MethodName := ⟨RX8, "readsCell", "(II)Z"⟩
abbrev cX8_readsRiver : ByteArray := prog_10_method_13_code
def yX8_readsRiver : MethodName := ⟨RX8, "readsRiver", "(II)Z"⟩
abbrev cX8_cellsBarred : ByteArray := prog_10_method_14_code
def yX8_cellsBarred : MethodName := ⟨RX8, "cellsBarred", "(IIIJ)I"⟩
abbrev cX8_river : ByteArray := prog_10_method_15_code
def yX8_river : MethodName := ⟨RX8, "river", "(IIII)I"⟩
abbrev cX8_holdsOf : ByteArray := prog_10_method_16_code
def yX8_holdsOf : MethodName := ⟨RX8, "holdsOf", "(I)I"⟩
abbrev cX8_ofCell : ByteArray := prog_10_method_17_code
def yX8_ofCell : MethodName := ⟨RX8, "ofCell", "(II)I"⟩
abbrev cX8_pace : ByteArray := prog_10_method_18_code
def yX8_pace : MethodName := ⟨RX8, "pace", "(I)I"⟩
abbrev cX8_bridge : ByteArray := prog_10_method_19_code
def yX8_bridge : MethodName := ⟨RX8, "bridge", "(IZ)I"⟩
abbrev cX8_paceBy : ByteArray := prog_10_method_20_code
def yX8_paceBy : MethodName := ⟨RX8, "paceBy", "(II)I"⟩
abbrev cX8_cellBy : ByteArray := prog_10_method_21_code
def yX8_cellBy : MethodName := ⟨RX8, "cellBy", "(II)I"⟩
abbrev cX8_canAct : ByteArray := prog_10_method_22_code
def yX8_canAct : MethodName := ⟨RX8, "canAct", "(III)Z"⟩
abbrev cX8_staysBy : ByteArray := prog_10_method_23_code
def yX8_staysBy : MethodName := ⟨RX8, "staysBy", "(II)I"⟩
abbrev cX8_beginPlan : ByteArray := prog_10_method_24_code
def yX8_beginPlan : MethodName := ⟨RX8, "beginPlan", "()V"⟩
abbrev cX8_goTurn : ByteArray := prog_10_method_25_code
def yX8_goTurn : MethodName := ⟨RX8, "goTurn", "(I)V"⟩
abbrev cX8_goPlan : ByteArray := prog_10_method_26_code
def yX8_goPlan : MethodName := ⟨RX8, "goPlan", "(II)V"⟩
abbrev cX8_actsBarred : ByteArray := prog_10_method_27_code
def yX8_actsBarred : MethodName := ⟨RX8, "actsBarred", "(IIII)I"⟩
abbrev cX8_planBarred : ByteArray := prog_10_method_28_code
def yX8_planBarred : MethodName := ⟨RX8, "planBarred", "(IIIIZ)I"⟩
abbrev cX8_plan : ByteArray := prog_10_method_29_code
def yX8_plan : MethodName := ⟨RX8, "plan", "(IIIII)I"⟩
abbrev cX8_dry : ByteArray := prog_10_method_30_code
def yX8_dry : MethodName := ⟨RX8, "dry", "(IIIII)J"⟩
abbrev cX8_placeOf : ByteArray := prog_10_method_31_code
def yX8_placeOf : MethodName := ⟨RX8, "placeOf", "(III)I"⟩
abbrev cX8_bestBy : ByteArray := prog_10_method_32_code
def yX8_bestBy : MethodName := ⟨RX8, "bestBy", "(IIII)J"⟩
abbrev cX8_layBest : ByteArray := prog_10_method_33_code
def yX8_layBest : MethodName := ⟨RX8, "layBest", "()V"⟩
abbrev cX8_goAll : ByteArray := prog_10_method_34_code
def yX8_goAll : MethodName := ⟨RX8, "goAll", "()Z"⟩
abbrev cX8_isThere : ByteArray := prog_10_method_35_code
def yX8_isThere : MethodName := ⟨RX8, "isThere", "()Z"⟩
abbrev cX8_soonestNow : ByteArray := prog_10_method_36_code
def yX8_soonestNow : MethodName := ⟨RX8, "soonestNow", "()I"⟩
abbrev cX8_soonest : ByteArray := prog_10_method_37_code
def yX8_soonest : MethodName := ⟨RX8, "soonest", "()I"⟩
abbrev cX8_surestTurns : ByteArray := prog_10_method_38_code
def yX8_surestTurns : MethodName := ⟨RX8, "surestTurns", "(I)I"⟩
abbrev cX8_surest : ByteArray := prog_10_method_39_code
def yX8_surest : MethodName := ⟨RX8, "surest", "(II)I"⟩
abbrev cX8_sure : ByteArray := prog_10_method_40_code
def yX8_sure : MethodName := ⟨RX8, "sure", "(II)J"⟩
abbrev cX8_cost : ByteArray := prog_10_method_41_code
def yX8_cost : MethodName := ⟨RX8, "cost", "(I)I"⟩
abbrev cX8_reading : ByteArray := prog_10_method_42_code
def yX8_reading : MethodName := ⟨RX8, "reading", "(II)I"⟩
abbrev cX8_back : ByteArray := prog_10_method_43_code
def yX8_back : MethodName := ⟨RX8, "back", "(I)I"⟩
abbrev cX8_areSo : ByteArray := prog_10_method_44_code
def yX8_areSo : MethodName := ⟨RX8, "areSo", "(I)Z"⟩
abbrev cX8_isWay : ByteArray := prog_10_method_45_code
def yX8_isWay : MethodName := ⟨RX8, "isWay", "(II)Z"⟩
abbrev cX8_ways : ByteArray := prog_10_method_46_code
def yX8_ways : MethodName := ⟨RX8, "ways", "(II)I"⟩
abbrev cX8_shareBarred : ByteArray := prog_10_method_47_code
def yX8_shareBarred : MethodName := ⟨RX8, "shareBarred", "(IIIIII)I"⟩
abbrev cX8_kinds : ByteArray := prog_10_method_48_code
def yX8_kinds : MethodName := ⟨RX8, "kinds", "(IIIIII)I"⟩
abbrev cX8_muds : ByteArray := prog_10_method_49_code
def yX8_muds : MethodName := ⟨RX8, "muds", "(IIIIII)I"⟩
abbrev cX8_odds : ByteArray := prog_10_method_50_code
def yX8_odds : MethodName := ⟨RX8, "odds", "(IIIII)J"⟩
abbrev cX8_bridgesMany : ByteArray := prog_10_method_51_code
def yX8_bridgesMany : MethodName := ⟨RX8, "bridgesMany", "()I"⟩
abbrev cX8_noSheet : ByteArray := prog_10_method_52_code
def yX8_noSheet : MethodName := ⟨RX8, "noSheet", "(I)Z"⟩
abbrev cX8_sheet : ByteArray := prog_10_method_53_code
def yX8_sheet : MethodName := ⟨RX8, "sheet", "(III)I"⟩
abbrev cX8_lose : ByteArray := prog_10_method_54_code
def yX8_lose : MethodName := ⟨RX8, "lose", "(I)I"⟩
abbrev cX8_noCell : ByteArray := prog_10_method_55_code
def yX8_noCell : MethodName := ⟨RX8, "noCell", "(II)I"⟩
abbrev cX8_put : ByteArray := prog_10_method_56_code
def yX8_put : MethodName := ⟨RX8, "put", "(III)I"⟩
abbrev cX8_cell : ByteArray := prog_10_method_57_code
def yX8_cell : MethodName := ⟨RX8, "cell", "(III)J"⟩
abbrev cX8_isBeyond : ByteArray := prog_10_method_58_code
def yX8_isBeyond : MethodName := ⟨RX8, "isBeyond", "(IJI)Z"⟩
abbrev cX8_copy : ByteArray := prog_10_method_59_code
def yX8_copy : MethodName := ⟨RX8, "copy", "(IIIII)I"⟩
abbrev cX8_traced : ByteArray := prog_10_method_60_code
def yX8_traced : MethodName := ⟨RX8, "traced", "(I)V"⟩
abbrev cX8_tell : ByteArray := prog_10_method_61_code
def yX8_tell : MethodName := ⟨RX8, "tell", "(I)I"⟩
abbrev cX8_sound : ByteArray := prog_10_method_62_code
def yX8_sound : MethodName := ⟨RX8, "sound", "(I)I"⟩
abbrev cX8_as : ByteArray := prog_10_method_63_code
def yX8_as : MethodName := ⟨RX8, "as", "(II)I"⟩
abbrev cX8_trace : ByteArray := prog_10_method_64_code
def yX8_trace : MethodName := ⟨RX8, "trace", "()I"⟩
abbrev cX8_fault : ByteArray := prog_10_method_65_code
def yX8_fault : MethodName := ⟨RX8, "fault", "()I"⟩
abbrev cX8_many : ByteArray := prog_10_method_66_code
def yX8_many : MethodName := ⟨RX8, "many", "(I)I"⟩
def RJ6 : String := "java/lang/Integer"
def TJ6 : u_T := fun k => match k with
  | _ => ("", "", "", false)
def tyJ6 : Nat → FieldType := fun k => match k with
  | _ => .int
abbrev wsJ60 : List Cond := u_ws RJ6 TJ6 0
theorem nmJ6 : ∀ a, a < 0 → ∀ b, b < 0 → a ≠ b → (TJ6 a).2.1 ≠ (TJ6 b).2.1 := by decide +kernel
theorem tyJ6_ok : ∀ k, k < 0 → parseFieldDescriptor (TJ6 k).2.2.1 = some (tyJ6 k) := by decide +kernel
abbrev cJ6_bitCount_0f7a4 : ByteArray := prog_11_method_49_code
def yJ6_bitCount_0f7a4 : MethodName := ⟨RJ6, "bitCount", "(I)I"⟩
def RJ9 : String := "java/lang/Math"
def TJ9 : u_T := fun k => match k with
  | _ => ("", "", "", false)
def tyJ9 : Nat → FieldType := fun k => match k with
  | _ => .int
abbrev wsJ90 : List Cond := u_ws RJ9 TJ9 0
theorem nmJ9 : ∀ a, a < 0 → ∀ b, b < 0 → a ≠ b → (TJ9 a).2.1 ≠ (TJ9 b).2.1 := by decide +kernel
theorem tyJ9_ok : ∀ k, k < 0 → parseFieldDescriptor (TJ9 k).2.2.1 = some (tyJ9 k) := by decide +kernel
abbrev cJ9_max_7cf53 : ByteArray := prog_12_method_65_code
def yJ9_max_7cf53 : MethodName := ⟨RJ9, "max", "(II)I"⟩
abbrev cJ9_max_f86c9 : ByteArray := prog_12_method_66_code
def yJ9_max_f86c9 : MethodName := ⟨RJ9, "max", "(JJ)J"⟩
abbrev cJ9_min_7cf53 : ByteArray := prog_12_method_69_code
def yJ9_min_7cf53 : MethodName := ⟨RJ9, "min", "(II)I"⟩
def RJ10 : String := "java/lang/System"
def TJ10 : u_T := fun k => match k with
  | _ => ("", "", "", false)
def tyJ10 : Nat → FieldType := fun k => match k with
  | _ => .int
abbrev wsJ100 : List Cond := u_ws RJ10 TJ10 0
theorem nmJ10 : ∀ a, a < 0 → ∀ b, b < 0 → a ≠ b → (TJ10 a).2.1 ≠ (TJ10 b).2.1 := by decide +kernel
theorem tyJ10_ok : ∀ k, k < 0 → parseFieldDescriptor (TJ10 k).2.2.1 = some (tyJ10 k) := by decide +kernel
def RJ7 : String := "java/util/Arrays"
def TJ7 : u_T := fun k => match k with
  | _ => ("", "", "", false)
def tyJ7 : Nat → FieldType := fun k => match k with
  | _ => .int
abbrev wsJ70 : List Cond := u_ws RJ7 TJ7 0
theorem nmJ7 : ∀ a, a < 0 → ∀ b, b < 0 → a ≠ b → (TJ7 a).2.1 ≠ (TJ7 b).2.1 := by decide +kernel
theorem tyJ7_ok : ∀ k, k < 0 → parseFieldDescriptor (TJ7 k).2.2.1 = some (tyJ7 k) := by decide +kernel
abbrev cJ7_fill_d0a16 : ByteArray := prog_14_method_101_code
def yJ7_fill_d0a16 : MethodName := ⟨RJ7, "fill", "([JJ)V"⟩
abbrev cJ7_fill_53178 : ByteArray := prog_14_method_103_code
def yJ7_fill_53178 : MethodName := ⟨RJ7, "fill", "([II)V"⟩
def RL : String := "PoleBehindLaw"
abbrev cL_law : ByteArray := code
def yL_law : MethodName := ⟨RL, "law", "([I)Z"⟩
