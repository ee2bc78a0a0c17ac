-- ===== PART A: goes FIRST, ahead of the names: the tables' words, and 'selects' of the private methods out of them =====
/-- a private method of a class that the tables say can be made, by its rows of tables_1 -/
def lw_okq (q : MethodName × Nat) : Prop := (q.1.cls ≠ "java/lang/invoke/MethodHandle" ∧ q.1.cls ≠ "java/lang/invoke/VarHandle") ∧ Cond.instantiable q.1.cls q.2 ∈ tables_1 ∧ Cond.privateMethod q.1 ∈ tables_1 ∧ Cond.instanceMethod q.1 ∈ tables_1
theorem lw_p0 : lw_okq (⟨"NightCats$Text", "wipe", "()V"⟩, 10) := ⟨⟨by decide +kernel, by decide +kernel⟩, List.mem_of_getElem? (i := 190) (by decide +kernel), List.mem_of_getElem? (i := 196) (by decide +kernel), List.mem_of_getElem? (i := 197) (by decide +kernel)⟩
theorem lw_p1 : lw_okq (⟨"NightCats$Reader", "scan", "()V"⟩, 12) := ⟨⟨by decide +kernel, by decide +kernel⟩, List.mem_of_getElem? (i := 246) (by decide +kernel), List.mem_of_getElem? (i := 450) (by decide +kernel), List.mem_of_getElem? (i := 451) (by decide +kernel)⟩
theorem lw_p2 : lw_okq (⟨"NightCats$Reader", "scanToken", "(I)I"⟩, 12) := ⟨⟨by decide +kernel, by decide +kernel⟩, List.mem_of_getElem? (i := 246) (by decide +kernel), List.mem_of_getElem? (i := 454) (by decide +kernel), List.mem_of_getElem? (i := 455) (by decide +kernel)⟩
theorem lw_p3 : lw_okq (⟨"NightCats$Reader", "scanWord", "(I)I"⟩, 12) := ⟨⟨by decide +kernel, by decide +kernel⟩, List.mem_of_getElem? (i := 246) (by decide +kernel), List.mem_of_getElem? (i := 461) (by decide +kernel), List.mem_of_getElem? (i := 462) (by decide +kernel)⟩
theorem lw_p4 : lw_okq (⟨"NightCats$Reader", "isWord", "(III)Z"⟩, 12) := ⟨⟨by decide +kernel, by decide +kernel⟩, List.mem_of_getElem? (i := 246) (by decide +kernel), List.mem_of_getElem? (i := 476) (by decide +kernel), List.mem_of_getElem? (i := 477) (by decide +kernel)⟩
theorem lw_p5 : lw_okq (⟨"NightCats$Reader", "scanNumber", "(I)I"⟩, 12) := ⟨⟨by decide +kernel, by decide +kernel⟩, List.mem_of_getElem? (i := 246) (by decide +kernel), List.mem_of_getElem? (i := 521) (by decide +kernel), List.mem_of_getElem? (i := 522) (by decide +kernel)⟩
theorem lw_p6 : lw_okq (⟨"NightCats$Reader", "clause", "()V"⟩, 12) := ⟨⟨by decide +kernel, by decide +kernel⟩, List.mem_of_getElem? (i := 246) (by decide +kernel), List.mem_of_getElem? (i := 584) (by decide +kernel), List.mem_of_getElem? (i := 585) (by decide +kernel)⟩
theorem lw_p7 : lw_okq (⟨"NightCats$Reader", "blame", "(I)V"⟩, 12) := ⟨⟨by decide +kernel, by decide +kernel⟩, List.mem_of_getElem? (i := 246) (by decide +kernel), List.mem_of_getElem? (i := 588) (by decide +kernel), List.mem_of_getElem? (i := 589) (by decide +kernel)⟩
theorem lw_p8 : lw_okq (⟨"NightCats$Reader", "next", "()V"⟩, 12) := ⟨⟨by decide +kernel, by decide +kernel⟩, List.mem_of_getElem? (i := 246) (by decide +kernel), List.mem_of_getElem? (i := 600) (by decide +kernel), List.mem_of_getElem? (i := 601) (by decide +kernel)⟩
theorem lw_p9 : lw_okq (⟨"NightCats$Reader", "lawOf", "(I)V"⟩, 12) := ⟨⟨by decide +kernel, by decide +kernel⟩, List.mem_of_getElem? (i := 246) (by decide +kernel), List.mem_of_getElem? (i := 604) (by decide +kernel), List.mem_of_getElem? (i := 605) (by decide +kernel)⟩
theorem lw_p10 : lw_okq (⟨"NightCats$Reader", "sum", "(I)V"⟩, 12) := ⟨⟨by decide +kernel, by decide +kernel⟩, List.mem_of_getElem? (i := 246) (by decide +kernel), List.mem_of_getElem? (i := 608) (by decide +kernel), List.mem_of_getElem? (i := 609) (by decide +kernel)⟩
theorem lw_p11 : lw_okq (⟨"NightCats$Reader", "product", "(I)V"⟩, 12) := ⟨⟨by decide +kernel, by decide +kernel⟩, List.mem_of_getElem? (i := 246) (by decide +kernel), List.mem_of_getElem? (i := 612) (by decide +kernel), List.mem_of_getElem? (i := 613) (by decide +kernel)⟩
theorem lw_p12 : lw_okq (⟨"NightCats$Reader", "one", "(I)V"⟩, 12) := ⟨⟨by decide +kernel, by decide +kernel⟩, List.mem_of_getElem? (i := 246) (by decide +kernel), List.mem_of_getElem? (i := 616) (by decide +kernel), List.mem_of_getElem? (i := 617) (by decide +kernel)⟩
theorem lw_p13 : lw_okq (⟨"NightCats$Reader", "number", "(II)I"⟩, 12) := ⟨⟨by decide +kernel, by decide +kernel⟩, List.mem_of_getElem? (i := 246) (by decide +kernel), List.mem_of_getElem? (i := 620) (by decide +kernel), List.mem_of_getElem? (i := 621) (by decide +kernel)⟩
theorem lw_p14 : lw_okq (⟨"NightCats$Reader", "opened", "(I)V"⟩, 12) := ⟨⟨by decide +kernel, by decide +kernel⟩, List.mem_of_getElem? (i := 246) (by decide +kernel), List.mem_of_getElem? (i := 628) (by decide +kernel), List.mem_of_getElem? (i := 629) (by decide +kernel)⟩
theorem lw_p15 : lw_okq (⟨"NightCats$Reader", "expect", "(I)V"⟩, 12) := ⟨⟨by decide +kernel, by decide +kernel⟩, List.mem_of_getElem? (i := 246) (by decide +kernel), List.mem_of_getElem? (i := 632) (by decide +kernel), List.mem_of_getElem? (i := 633) (by decide +kernel)⟩
def lw_privs_1 : List (MethodName × Nat) := [(⟨"NightCats$Text", "wipe", "()V"⟩, 10), (⟨"NightCats$Reader", "scan", "()V"⟩, 12), (⟨"NightCats$Reader", "scanToken", "(I)I"⟩, 12), (⟨"NightCats$Reader", "scanWord", "(I)I"⟩, 12), (⟨"NightCats$Reader", "isWord", "(III)Z"⟩, 12), (⟨"NightCats$Reader", "scanNumber", "(I)I"⟩, 12), (⟨"NightCats$Reader", "clause", "()V"⟩, 12), (⟨"NightCats$Reader", "blame", "(I)V"⟩, 12), (⟨"NightCats$Reader", "next", "()V"⟩, 12), (⟨"NightCats$Reader", "lawOf", "(I)V"⟩, 12), (⟨"NightCats$Reader", "sum", "(I)V"⟩, 12), (⟨"NightCats$Reader", "product", "(I)V"⟩, 12), (⟨"NightCats$Reader", "one", "(I)V"⟩, 12), (⟨"NightCats$Reader", "number", "(II)I"⟩, 12), (⟨"NightCats$Reader", "opened", "(I)V"⟩, 12), (⟨"NightCats$Reader", "expect", "(I)V"⟩, 12)]
theorem lw_r1 : ∀ q ∈ lw_privs_1, lw_okq q := List.forall_mem_cons.mpr ⟨lw_p0, List.forall_mem_cons.mpr ⟨lw_p1, List.forall_mem_cons.mpr ⟨lw_p2, List.forall_mem_cons.mpr ⟨lw_p3, List.forall_mem_cons.mpr ⟨lw_p4, List.forall_mem_cons.mpr ⟨lw_p5, List.forall_mem_cons.mpr ⟨lw_p6, List.forall_mem_cons.mpr ⟨lw_p7, List.forall_mem_cons.mpr ⟨lw_p8, List.forall_mem_cons.mpr ⟨lw_p9, List.forall_mem_cons.mpr ⟨lw_p10, List.forall_mem_cons.mpr ⟨lw_p11, List.forall_mem_cons.mpr ⟨lw_p12, List.forall_mem_cons.mpr ⟨lw_p13, List.forall_mem_cons.mpr ⟨lw_p14, List.forall_mem_cons.mpr ⟨lw_p15, fun _ h => absurd h List.not_mem_nil⟩⟩⟩⟩⟩⟩⟩⟩⟩⟩⟩⟩⟩⟩⟩⟩
theorem lw_p16 : lw_okq (⟨"NightCats$Reader", "choice", "(I)V"⟩, 12) := ⟨⟨by decide +kernel, by decide +kernel⟩, List.mem_of_getElem? (i := 246) (by decide +kernel), List.mem_of_getElem? (i := 636) (by decide +kernel), List.mem_of_getElem? (i := 637) (by decide +kernel)⟩
theorem lw_p17 : lw_okq (⟨"NightCats$Reader", "either", "(I)V"⟩, 12) := ⟨⟨by decide +kernel, by decide +kernel⟩, List.mem_of_getElem? (i := 246) (by decide +kernel), List.mem_of_getElem? (i := 640) (by decide +kernel), List.mem_of_getElem? (i := 641) (by decide +kernel)⟩
theorem lw_p18 : lw_okq (⟨"NightCats$Reader", "both", "(I)V"⟩, 12) := ⟨⟨by decide +kernel, by decide +kernel⟩, List.mem_of_getElem? (i := 246) (by decide +kernel), List.mem_of_getElem? (i := 644) (by decide +kernel), List.mem_of_getElem? (i := 645) (by decide +kernel)⟩
theorem lw_p19 : lw_okq (⟨"NightCats$Reader", "ask", "(I)V"⟩, 12) := ⟨⟨by decide +kernel, by decide +kernel⟩, List.mem_of_getElem? (i := 246) (by decide +kernel), List.mem_of_getElem? (i := 648) (by decide +kernel), List.mem_of_getElem? (i := 649) (by decide +kernel)⟩
theorem lw_p20 : lw_okq (⟨"NightCats$Reader", "name", "()V"⟩, 12) := ⟨⟨by decide +kernel, by decide +kernel⟩, List.mem_of_getElem? (i := 246) (by decide +kernel), List.mem_of_getElem? (i := 659) (by decide +kernel), List.mem_of_getElem? (i := 660) (by decide +kernel)⟩
theorem lw_p21 : lw_okq (⟨"NightCats$Reader", "blameUnless", "(Z)V"⟩, 12) := ⟨⟨by decide +kernel, by decide +kernel⟩, List.mem_of_getElem? (i := 246) (by decide +kernel), List.mem_of_getElem? (i := 663) (by decide +kernel), List.mem_of_getElem? (i := 664) (by decide +kernel)⟩
theorem lw_p22 : lw_okq (⟨"NightCats$Reader", "deed", "(I)V"⟩, 12) := ⟨⟨by decide +kernel, by decide +kernel⟩, List.mem_of_getElem? (i := 246) (by decide +kernel), List.mem_of_getElem? (i := 671) (by decide +kernel), List.mem_of_getElem? (i := 672) (by decide +kernel)⟩
theorem lw_p23 : lw_okq (⟨"NightCats", "isText", "(I)Z"⟩, 11) := ⟨⟨by decide +kernel, by decide +kernel⟩, List.mem_of_getElem? (i := 22) (by decide +kernel), List.mem_of_getElem? (i := 691) (by decide +kernel), List.mem_of_getElem? (i := 692) (by decide +kernel)⟩
theorem lw_p24 : lw_okq (⟨"NightCats", "enter", "(IIZ)Z"⟩, 11) := ⟨⟨by decide +kernel, by decide +kernel⟩, List.mem_of_getElem? (i := 22) (by decide +kernel), List.mem_of_getElem? (i := 699) (by decide +kernel), List.mem_of_getElem? (i := 700) (by decide +kernel)⟩
theorem lw_p25 : lw_okq (⟨"NightCats", "keepIf", "(Z)V"⟩, 11) := ⟨⟨by decide +kernel, by decide +kernel⟩, List.mem_of_getElem? (i := 22) (by decide +kernel), List.mem_of_getElem? (i := 719) (by decide +kernel), List.mem_of_getElem? (i := 720) (by decide +kernel)⟩
theorem lw_p26 : lw_okq (⟨"NightCats$Night", "note", "(III)V"⟩, 13) := ⟨⟨by decide +kernel, by decide +kernel⟩, List.mem_of_getElem? (i := 36) (by decide +kernel), List.mem_of_getElem? (i := 737) (by decide +kernel), List.mem_of_getElem? (i := 738) (by decide +kernel)⟩
theorem lw_p27 : lw_okq (⟨"NightCats", "leave", "(IZ)I"⟩, 11) := ⟨⟨by decide +kernel, by decide +kernel⟩, List.mem_of_getElem? (i := 22) (by decide +kernel), List.mem_of_getElem? (i := 745) (by decide +kernel), List.mem_of_getElem? (i := 746) (by decide +kernel)⟩
theorem lw_p28 : lw_okq (⟨"NightCats", "walk", "(IZZ)Z"⟩, 11) := ⟨⟨by decide +kernel, by decide +kernel⟩, List.mem_of_getElem? (i := 22) (by decide +kernel), List.mem_of_getElem? (i := 758) (by decide +kernel), List.mem_of_getElem? (i := 759) (by decide +kernel)⟩
theorem lw_p29 : lw_okq (⟨"NightCats", "pass", "(Z)I"⟩, 11) := ⟨⟨by decide +kernel, by decide +kernel⟩, List.mem_of_getElem? (i := 22) (by decide +kernel), List.mem_of_getElem? (i := 771) (by decide +kernel), List.mem_of_getElem? (i := 772) (by decide +kernel)⟩
theorem lw_p30 : lw_okq (⟨"NightCats", "rule", "()LNightCats$Text;"⟩, 11) := ⟨⟨by decide +kernel, by decide +kernel⟩, List.mem_of_getElem? (i := 22) (by decide +kernel), List.mem_of_getElem? (i := 784) (by decide +kernel), List.mem_of_getElem? (i := 785) (by decide +kernel)⟩
theorem lw_p31 : lw_okq (⟨"NightCats$Law", "run", "([IIILNightCats$Night;II)I"⟩, 2) := ⟨⟨by decide +kernel, by decide +kernel⟩, List.mem_of_getElem? (i := 295) (by decide +kernel), List.mem_of_getElem? (i := 795) (by decide +kernel), List.mem_of_getElem? (i := 796) (by decide +kernel)⟩
def lw_privs_2 : List (MethodName × Nat) := [(⟨"NightCats$Reader", "choice", "(I)V"⟩, 12), (⟨"NightCats$Reader", "either", "(I)V"⟩, 12), (⟨"NightCats$Reader", "both", "(I)V"⟩, 12), (⟨"NightCats$Reader", "ask", "(I)V"⟩, 12), (⟨"NightCats$Reader", "name", "()V"⟩, 12), (⟨"NightCats$Reader", "blameUnless", "(Z)V"⟩, 12), (⟨"NightCats$Reader", "deed", "(I)V"⟩, 12), (⟨"NightCats", "isText", "(I)Z"⟩, 11), (⟨"NightCats", "enter", "(IIZ)Z"⟩, 11), (⟨"NightCats", "keepIf", "(Z)V"⟩, 11), (⟨"NightCats$Night", "note", "(III)V"⟩, 13), (⟨"NightCats", "leave", "(IZ)I"⟩, 11), (⟨"NightCats", "walk", "(IZZ)Z"⟩, 11), (⟨"NightCats", "pass", "(Z)I"⟩, 11), (⟨"NightCats", "rule", "()LNightCats$Text;"⟩, 11), (⟨"NightCats$Law", "run", "([IIILNightCats$Night;II)I"⟩, 2)]
theorem lw_r2 : ∀ q ∈ lw_privs_2, lw_okq q := List.forall_mem_cons.mpr ⟨lw_p16, List.forall_mem_cons.mpr ⟨lw_p17, List.forall_mem_cons.mpr ⟨lw_p18, List.forall_mem_cons.mpr ⟨lw_p19, List.forall_mem_cons.mpr ⟨lw_p20, List.forall_mem_cons.mpr ⟨lw_p21, List.forall_mem_cons.mpr ⟨lw_p22, List.forall_mem_cons.mpr ⟨lw_p23, List.forall_mem_cons.mpr ⟨lw_p24, List.forall_mem_cons.mpr ⟨lw_p25, List.forall_mem_cons.mpr ⟨lw_p26, List.forall_mem_cons.mpr ⟨lw_p27, List.forall_mem_cons.mpr ⟨lw_p28, List.forall_mem_cons.mpr ⟨lw_p29, List.forall_mem_cons.mpr ⟨lw_p30, List.forall_mem_cons.mpr ⟨lw_p31, fun _ h => absurd h List.not_mem_nil⟩⟩⟩⟩⟩⟩⟩⟩⟩⟩⟩⟩⟩⟩⟩⟩
theorem lw_p32 : lw_okq (⟨"NightCats$Law", "push", "(I)V"⟩, 2) := ⟨⟨by decide +kernel, by decide +kernel⟩, List.mem_of_getElem? (i := 295) (by decide +kernel), List.mem_of_getElem? (i := 801) (by decide +kernel), List.mem_of_getElem? (i := 802) (by decide +kernel)⟩
theorem lw_p33 : lw_okq (⟨"NightCats$Law", "pop", "()I"⟩, 2) := ⟨⟨by decide +kernel, by decide +kernel⟩, List.mem_of_getElem? (i := 295) (by decide +kernel), List.mem_of_getElem? (i := 805) (by decide +kernel), List.mem_of_getElem? (i := 806) (by decide +kernel)⟩
theorem lw_p34 : lw_okq (⟨"NightCats", "act", "(III)Z"⟩, 11) := ⟨⟨by decide +kernel, by decide +kernel⟩, List.mem_of_getElem? (i := 22) (by decide +kernel), List.mem_of_getElem? (i := 852) (by decide +kernel), List.mem_of_getElem? (i := 853) (by decide +kernel)⟩
theorem lw_p35 : lw_okq (⟨"NightCats", "allPass", "(I)Z"⟩, 11) := ⟨⟨by decide +kernel, by decide +kernel⟩, List.mem_of_getElem? (i := 22) (by decide +kernel), List.mem_of_getElem? (i := 861) (by decide +kernel), List.mem_of_getElem? (i := 862) (by decide +kernel)⟩
theorem lw_p36 : lw_okq (⟨"NightCats", "drawn", "(I)V"⟩, 11) := ⟨⟨by decide +kernel, by decide +kernel⟩, List.mem_of_getElem? (i := 22) (by decide +kernel), List.mem_of_getElem? (i := 870) (by decide +kernel), List.mem_of_getElem? (i := 871) (by decide +kernel)⟩
theorem lw_p37 : lw_okq (⟨"NightCats", "bestPairs", "(IZ)I"⟩, 11) := ⟨⟨by decide +kernel, by decide +kernel⟩, List.mem_of_getElem? (i := 22) (by decide +kernel), List.mem_of_getElem? (i := 951) (by decide +kernel), List.mem_of_getElem? (i := 952) (by decide +kernel)⟩
theorem lw_p38 : lw_okq (⟨"NightCats$Pairs", "gather", "(LNightCats$Night;)V"⟩, 7) := ⟨⟨by decide +kernel, by decide +kernel⟩, List.mem_of_getElem? (i := 308) (by decide +kernel), List.mem_of_getElem? (i := 959) (by decide +kernel), List.mem_of_getElem? (i := 960) (by decide +kernel)⟩
theorem lw_p39 : lw_okq (⟨"NightCats$Pairs", "least", "(LNightCats$Night;II)I"⟩, 7) := ⟨⟨by decide +kernel, by decide +kernel⟩, List.mem_of_getElem? (i := 308) (by decide +kernel), List.mem_of_getElem? (i := 974) (by decide +kernel), List.mem_of_getElem? (i := 975) (by decide +kernel)⟩
theorem lw_p40 : lw_okq (⟨"NightCats$Pairs", "paired", "(LNightCats$Night;III)I"⟩, 7) := ⟨⟨by decide +kernel, by decide +kernel⟩, List.mem_of_getElem? (i := 308) (by decide +kernel), List.mem_of_getElem? (i := 981) (by decide +kernel), List.mem_of_getElem? (i := 982) (by decide +kernel)⟩
theorem lw_p41 : lw_okq (⟨"NightCats$Pairs", "chosen", "(LNightCats$Night;II)I"⟩, 7) := ⟨⟨by decide +kernel, by decide +kernel⟩, List.mem_of_getElem? (i := 308) (by decide +kernel), List.mem_of_getElem? (i := 999) (by decide +kernel), List.mem_of_getElem? (i := 1000) (by decide +kernel)⟩
theorem lw_p42 : lw_okq (⟨"NightCats", "fitsClues", "(I)Z"⟩, 11) := ⟨⟨by decide +kernel, by decide +kernel⟩, List.mem_of_getElem? (i := 22) (by decide +kernel), List.mem_of_getElem? (i := 1070) (by decide +kernel), List.mem_of_getElem? (i := 1071) (by decide +kernel)⟩
theorem lw_p43 : lw_okq (⟨"NightCats", "mostAlike", "(II)I"⟩, 11) := ⟨⟨by decide +kernel, by decide +kernel⟩, List.mem_of_getElem? (i := 22) (by decide +kernel), List.mem_of_getElem? (i := 1090) (by decide +kernel), List.mem_of_getElem? (i := 1091) (by decide +kernel)⟩
theorem lw_p44 : lw_okq (⟨"NightCats", "fitsClaims", "(LNightCats$Text;)Z"⟩, 11) := ⟨⟨by decide +kernel, by decide +kernel⟩, List.mem_of_getElem? (i := 22) (by decide +kernel), List.mem_of_getElem? (i := 1155) (by decide +kernel), List.mem_of_getElem? (i := 1156) (by decide +kernel)⟩
theorem lw_p45 : lw_okq (⟨"NightCatsModel", "beginHouse", "(I)V"⟩, 33) := ⟨⟨by decide +kernel, by decide +kernel⟩, List.mem_of_getElem? (i := 1226) (by decide +kernel), List.mem_of_getElem? (i := 1347) (by decide +kernel), List.mem_of_getElem? (i := 1348) (by decide +kernel)⟩
theorem lw_p46 : lw_okq (⟨"NightCatsModel", "layOf", "(III)V"⟩, 33) := ⟨⟨by decide +kernel, by decide +kernel⟩, List.mem_of_getElem? (i := 1226) (by decide +kernel), List.mem_of_getElem? (i := 1351) (by decide +kernel), List.mem_of_getElem? (i := 1352) (by decide +kernel)⟩
theorem lw_p47 : lw_okq (⟨"NightCatsModel", "beginCat", "(I)V"⟩, 33) := ⟨⟨by decide +kernel, by decide +kernel⟩, List.mem_of_getElem? (i := 1226) (by decide +kernel), List.mem_of_getElem? (i := 1359) (by decide +kernel), List.mem_of_getElem? (i := 1360) (by decide +kernel)⟩
def lw_privs_3 : List (MethodName × Nat) := [(⟨"NightCats$Law", "push", "(I)V"⟩, 2), (⟨"NightCats$Law", "pop", "()I"⟩, 2), (⟨"NightCats", "act", "(III)Z"⟩, 11), (⟨"NightCats", "allPass", "(I)Z"⟩, 11), (⟨"NightCats", "drawn", "(I)V"⟩, 11), (⟨"NightCats", "bestPairs", "(IZ)I"⟩, 11), (⟨"NightCats$Pairs", "gather", "(LNightCats$Night;)V"⟩, 7), (⟨"NightCats$Pairs", "least", "(LNightCats$Night;II)I"⟩, 7), (⟨"NightCats$Pairs", "paired", "(LNightCats$Night;III)I"⟩, 7), (⟨"NightCats$Pairs", "chosen", "(LNightCats$Night;II)I"⟩, 7), (⟨"NightCats", "fitsClues", "(I)Z"⟩, 11), (⟨"NightCats", "mostAlike", "(II)I"⟩, 11), (⟨"NightCats", "fitsClaims", "(LNightCats$Text;)Z"⟩, 11), (⟨"NightCatsModel", "beginHouse", "(I)V"⟩, 33), (⟨"NightCatsModel", "layOf", "(III)V"⟩, 33), (⟨"NightCatsModel", "beginCat", "(I)V"⟩, 33)]
theorem lw_r3 : ∀ q ∈ lw_privs_3, lw_okq q := List.forall_mem_cons.mpr ⟨lw_p32, List.forall_mem_cons.mpr ⟨lw_p33, List.forall_mem_cons.mpr ⟨lw_p34, List.forall_mem_cons.mpr ⟨lw_p35, List.forall_mem_cons.mpr ⟨lw_p36, List.forall_mem_cons.mpr ⟨lw_p37, List.forall_mem_cons.mpr ⟨lw_p38, List.forall_mem_cons.mpr ⟨lw_p39, List.forall_mem_cons.mpr ⟨lw_p40, List.forall_mem_cons.mpr ⟨lw_p41, List.forall_mem_cons.mpr ⟨lw_p42, List.forall_mem_cons.mpr ⟨lw_p43, List.forall_mem_cons.mpr ⟨lw_p44, List.forall_mem_cons.mpr ⟨lw_p45, List.forall_mem_cons.mpr ⟨lw_p46, List.forall_mem_cons.mpr ⟨lw_p47, fun _ h => absurd h List.not_mem_nil⟩⟩⟩⟩⟩⟩⟩⟩⟩⟩⟩⟩⟩⟩⟩⟩
theorem lw_p48 : lw_okq (⟨"NightCatsModel", "lay", "(III)V"⟩, 33) := ⟨⟨by decide +kernel, by decide +kernel⟩, List.mem_of_getElem? (i := 1226) (by decide +kernel), List.mem_of_getElem? (i := 1363) (by decide +kernel), List.mem_of_getElem? (i := 1364) (by decide +kernel)⟩
theorem lw_p49 : lw_okq (⟨"NightCatsModel", "four", "(I)V"⟩, 33) := ⟨⟨by decide +kernel, by decide +kernel⟩, List.mem_of_getElem? (i := 1226) (by decide +kernel), List.mem_of_getElem? (i := 1371) (by decide +kernel), List.mem_of_getElem? (i := 1372) (by decide +kernel)⟩
theorem lw_p50 : lw_okq (⟨"NightCatsModel", "readText", "()I"⟩, 33) := ⟨⟨by decide +kernel, by decide +kernel⟩, List.mem_of_getElem? (i := 1226) (by decide +kernel), List.mem_of_getElem? (i := 1383) (by decide +kernel), List.mem_of_getElem? (i := 1384) (by decide +kernel)⟩
theorem lw_p51 : lw_okq (⟨"NightCatsModel", "nextToken", "()V"⟩, 33) := ⟨⟨by decide +kernel, by decide +kernel⟩, List.mem_of_getElem? (i := 1226) (by decide +kernel), List.mem_of_getElem? (i := 1387) (by decide +kernel), List.mem_of_getElem? (i := 1388) (by decide +kernel)⟩
theorem lw_p52 : lw_okq (⟨"NightCatsModel", "byteAt", "(I)I"⟩, 33) := ⟨⟨by decide +kernel, by decide +kernel⟩, List.mem_of_getElem? (i := 1226) (by decide +kernel), List.mem_of_getElem? (i := 1391) (by decide +kernel), List.mem_of_getElem? (i := 1392) (by decide +kernel)⟩
theorem lw_p53 : lw_okq (⟨"NightCatsModel", "clause", "()I"⟩, 33) := ⟨⟨by decide +kernel, by decide +kernel⟩, List.mem_of_getElem? (i := 1226) (by decide +kernel), List.mem_of_getElem? (i := 1406) (by decide +kernel), List.mem_of_getElem? (i := 1407) (by decide +kernel)⟩
theorem lw_p54 : lw_okq (⟨"NightCatsModel", "sortOf", "()I"⟩, 33) := ⟨⟨by decide +kernel, by decide +kernel⟩, List.mem_of_getElem? (i := 1226) (by decide +kernel), List.mem_of_getElem? (i := 1410) (by decide +kernel), List.mem_of_getElem? (i := 1411) (by decide +kernel)⟩
theorem lw_p55 : lw_okq (⟨"NightCatsModel", "isWord", "(J)Z"⟩, 33) := ⟨⟨by decide +kernel, by decide +kernel⟩, List.mem_of_getElem? (i := 1226) (by decide +kernel), List.mem_of_getElem? (i := 1426) (by decide +kernel), List.mem_of_getElem? (i := 1427) (by decide +kernel)⟩
theorem lw_p56 : lw_okq (⟨"NightCatsModel", "body", "(II)I"⟩, 33) := ⟨⟨by decide +kernel, by decide +kernel⟩, List.mem_of_getElem? (i := 1226) (by decide +kernel), List.mem_of_getElem? (i := 1433) (by decide +kernel), List.mem_of_getElem? (i := 1434) (by decide +kernel)⟩
theorem lw_p57 : lw_okq (⟨"NightCatsModel", "pair", "(IIJI)I"⟩, 33) := ⟨⟨by decide +kernel, by decide +kernel⟩, List.mem_of_getElem? (i := 1226) (by decide +kernel), List.mem_of_getElem? (i := 1437) (by decide +kernel), List.mem_of_getElem? (i := 1438) (by decide +kernel)⟩
theorem lw_p58 : lw_okq (⟨"NightCatsModel", "figure", "(III)I"⟩, 33) := ⟨⟨by decide +kernel, by decide +kernel⟩, List.mem_of_getElem? (i := 1226) (by decide +kernel), List.mem_of_getElem? (i := 1441) (by decide +kernel), List.mem_of_getElem? (i := 1442) (by decide +kernel)⟩
theorem lw_p59 : lw_okq (⟨"NightCatsModel", "lawClause", "(I)I"⟩, 33) := ⟨⟨by decide +kernel, by decide +kernel⟩, List.mem_of_getElem? (i := 1226) (by decide +kernel), List.mem_of_getElem? (i := 1445) (by decide +kernel), List.mem_of_getElem? (i := 1446) (by decide +kernel)⟩
theorem lw_p60 : lw_okq (⟨"NightCatsModel", "summed", "()I"⟩, 33) := ⟨⟨by decide +kernel, by decide +kernel⟩, List.mem_of_getElem? (i := 1226) (by decide +kernel), List.mem_of_getElem? (i := 1449) (by decide +kernel), List.mem_of_getElem? (i := 1450) (by decide +kernel)⟩
theorem lw_p61 : lw_okq (⟨"NightCatsModel", "behindOne", "()I"⟩, 33) := ⟨⟨by decide +kernel, by decide +kernel⟩, List.mem_of_getElem? (i := 1226) (by decide +kernel), List.mem_of_getElem? (i := 1453) (by decide +kernel), List.mem_of_getElem? (i := 1454) (by decide +kernel)⟩
theorem lw_p62 : lw_okq (⟨"NightCatsModel", "betweenOf", "()I"⟩, 33) := ⟨⟨by decide +kernel, by decide +kernel⟩, List.mem_of_getElem? (i := 1226) (by decide +kernel), List.mem_of_getElem? (i := 1457) (by decide +kernel), List.mem_of_getElem? (i := 1458) (by decide +kernel)⟩
theorem lw_p63 : lw_okq (⟨"NightCatsModel", "openNow", "()I"⟩, 33) := ⟨⟨by decide +kernel, by decide +kernel⟩, List.mem_of_getElem? (i := 1226) (by decide +kernel), List.mem_of_getElem? (i := 1461) (by decide +kernel), List.mem_of_getElem? (i := 1462) (by decide +kernel)⟩
def lw_privs_4 : List (MethodName × Nat) := [(⟨"NightCatsModel", "lay", "(III)V"⟩, 33), (⟨"NightCatsModel", "four", "(I)V"⟩, 33), (⟨"NightCatsModel", "readText", "()I"⟩, 33), (⟨"NightCatsModel", "nextToken", "()V"⟩, 33), (⟨"NightCatsModel", "byteAt", "(I)I"⟩, 33), (⟨"NightCatsModel", "clause", "()I"⟩, 33), (⟨"NightCatsModel", "sortOf", "()I"⟩, 33), (⟨"NightCatsModel", "isWord", "(J)Z"⟩, 33), (⟨"NightCatsModel", "body", "(II)I"⟩, 33), (⟨"NightCatsModel", "pair", "(IIJI)I"⟩, 33), (⟨"NightCatsModel", "figure", "(III)I"⟩, 33), (⟨"NightCatsModel", "lawClause", "(I)I"⟩, 33), (⟨"NightCatsModel", "summed", "()I"⟩, 33), (⟨"NightCatsModel", "behindOne", "()I"⟩, 33), (⟨"NightCatsModel", "betweenOf", "()I"⟩, 33), (⟨"NightCatsModel", "openNow", "()I"⟩, 33)]
theorem lw_r4 : ∀ q ∈ lw_privs_4, lw_okq q := List.forall_mem_cons.mpr ⟨lw_p48, List.forall_mem_cons.mpr ⟨lw_p49, List.forall_mem_cons.mpr ⟨lw_p50, List.forall_mem_cons.mpr ⟨lw_p51, List.forall_mem_cons.mpr ⟨lw_p52, List.forall_mem_cons.mpr ⟨lw_p53, List.forall_mem_cons.mpr ⟨lw_p54, List.forall_mem_cons.mpr ⟨lw_p55, List.forall_mem_cons.mpr ⟨lw_p56, List.forall_mem_cons.mpr ⟨lw_p57, List.forall_mem_cons.mpr ⟨lw_p58, List.forall_mem_cons.mpr ⟨lw_p59, List.forall_mem_cons.mpr ⟨lw_p60, List.forall_mem_cons.mpr ⟨lw_p61, List.forall_mem_cons.mpr ⟨lw_p62, List.forall_mem_cons.mpr ⟨lw_p63, fun _ h => absurd h List.not_mem_nil⟩⟩⟩⟩⟩⟩⟩⟩⟩⟩⟩⟩⟩⟩⟩⟩
theorem lw_p64 : lw_okq (⟨"NightCatsModel", "openAt", "()I"⟩, 33) := ⟨⟨by decide +kernel, by decide +kernel⟩, List.mem_of_getElem? (i := 1226) (by decide +kernel), List.mem_of_getElem? (i := 1465) (by decide +kernel), List.mem_of_getElem? (i := 1466) (by decide +kernel)⟩
theorem lw_p65 : lw_okq (⟨"NightCatsModel", "isCompared", "()Z"⟩, 33) := ⟨⟨by decide +kernel, by decide +kernel⟩, List.mem_of_getElem? (i := 1226) (by decide +kernel), List.mem_of_getElem? (i := 1469) (by decide +kernel), List.mem_of_getElem? (i := 1470) (by decide +kernel)⟩
theorem lw_p66 : lw_okq (⟨"NightCatsModel", "compareOf", "()I"⟩, 33) := ⟨⟨by decide +kernel, by decide +kernel⟩, List.mem_of_getElem? (i := 1226) (by decide +kernel), List.mem_of_getElem? (i := 1476) (by decide +kernel), List.mem_of_getElem? (i := 1477) (by decide +kernel)⟩
theorem lw_p67 : lw_okq (⟨"NightCatsModel", "settle", "(I)V"⟩, 33) := ⟨⟨by decide +kernel, by decide +kernel⟩, List.mem_of_getElem? (i := 1226) (by decide +kernel), List.mem_of_getElem? (i := 1480) (by decide +kernel), List.mem_of_getElem? (i := 1481) (by decide +kernel)⟩
theorem lw_p68 : lw_okq (⟨"NightCatsModel", "emit", "(II)V"⟩, 33) := ⟨⟨by decide +kernel, by decide +kernel⟩, List.mem_of_getElem? (i := 1226) (by decide +kernel), List.mem_of_getElem? (i := 1484) (by decide +kernel), List.mem_of_getElem? (i := 1485) (by decide +kernel)⟩
theorem lw_p69 : lw_okq (⟨"NightCatsModel", "partOf", "(I)I"⟩, 33) := ⟨⟨by decide +kernel, by decide +kernel⟩, List.mem_of_getElem? (i := 1226) (by decide +kernel), List.mem_of_getElem? (i := 1488) (by decide +kernel), List.mem_of_getElem? (i := 1489) (by decide +kernel)⟩
theorem lw_p70 : lw_okq (⟨"NightCatsModel", "endOne", "()I"⟩, 33) := ⟨⟨by decide +kernel, by decide +kernel⟩, List.mem_of_getElem? (i := 1226) (by decide +kernel), List.mem_of_getElem? (i := 1492) (by decide +kernel), List.mem_of_getElem? (i := 1493) (by decide +kernel)⟩
theorem lw_p71 : lw_okq (⟨"NightCatsModel", "beginOne", "()I"⟩, 33) := ⟨⟨by decide +kernel, by decide +kernel⟩, List.mem_of_getElem? (i := 1226) (by decide +kernel), List.mem_of_getElem? (i := 1496) (by decide +kernel), List.mem_of_getElem? (i := 1497) (by decide +kernel)⟩
theorem lw_p72 : lw_okq (⟨"NightCatsModel", "nameOf", "()I"⟩, 33) := ⟨⟨by decide +kernel, by decide +kernel⟩, List.mem_of_getElem? (i := 1226) (by decide +kernel), List.mem_of_getElem? (i := 1500) (by decide +kernel), List.mem_of_getElem? (i := 1501) (by decide +kernel)⟩
theorem lw_p73 : lw_okq (⟨"NightCatsModel", "isOf", "(I)Z"⟩, 33) := ⟨⟨by decide +kernel, by decide +kernel⟩, List.mem_of_getElem? (i := 1226) (by decide +kernel), List.mem_of_getElem? (i := 1507) (by decide +kernel), List.mem_of_getElem? (i := 1508) (by decide +kernel)⟩
theorem lw_p74 : lw_okq (⟨"NightCatsModel", "opened", "(I)I"⟩, 33) := ⟨⟨by decide +kernel, by decide +kernel⟩, List.mem_of_getElem? (i := 1226) (by decide +kernel), List.mem_of_getElem? (i := 1511) (by decide +kernel), List.mem_of_getElem? (i := 1512) (by decide +kernel)⟩
theorem lw_p75 : lw_okq (⟨"NightCatsModel", "isAskAhead", "()Z"⟩, 33) := ⟨⟨by decide +kernel, by decide +kernel⟩, List.mem_of_getElem? (i := 1226) (by decide +kernel), List.mem_of_getElem? (i := 1515) (by decide +kernel), List.mem_of_getElem? (i := 1516) (by decide +kernel)⟩
theorem lw_p76 : lw_okq (⟨"NightCatsModel", "canLet", "(II)Z"⟩, 33) := ⟨⟨by decide +kernel, by decide +kernel⟩, List.mem_of_getElem? (i := 1226) (by decide +kernel), List.mem_of_getElem? (i := 1535) (by decide +kernel), List.mem_of_getElem? (i := 1536) (by decide +kernel)⟩
theorem lw_p77 : lw_okq (⟨"NightCatsModel", "isCat", "(I)Z"⟩, 33) := ⟨⟨by decide +kernel, by decide +kernel⟩, List.mem_of_getElem? (i := 1226) (by decide +kernel), List.mem_of_getElem? (i := 1539) (by decide +kernel), List.mem_of_getElem? (i := 1540) (by decide +kernel)⟩
theorem lw_p78 : lw_okq (⟨"NightCatsModel", "isHouse", "(I)Z"⟩, 33) := ⟨⟨by decide +kernel, by decide +kernel⟩, List.mem_of_getElem? (i := 1226) (by decide +kernel), List.mem_of_getElem? (i := 1543) (by decide +kernel), List.mem_of_getElem? (i := 1544) (by decide +kernel)⟩
theorem lw_p79 : lw_okq (⟨"NightCatsModel", "isWithout", "(I)Z"⟩, 33) := ⟨⟨by decide +kernel, by decide +kernel⟩, List.mem_of_getElem? (i := 1226) (by decide +kernel), List.mem_of_getElem? (i := 1547) (by decide +kernel), List.mem_of_getElem? (i := 1548) (by decide +kernel)⟩
def lw_privs_5 : List (MethodName × Nat) := [(⟨"NightCatsModel", "openAt", "()I"⟩, 33), (⟨"NightCatsModel", "isCompared", "()Z"⟩, 33), (⟨"NightCatsModel", "compareOf", "()I"⟩, 33), (⟨"NightCatsModel", "settle", "(I)V"⟩, 33), (⟨"NightCatsModel", "emit", "(II)V"⟩, 33), (⟨"NightCatsModel", "partOf", "(I)I"⟩, 33), (⟨"NightCatsModel", "endOne", "()I"⟩, 33), (⟨"NightCatsModel", "beginOne", "()I"⟩, 33), (⟨"NightCatsModel", "nameOf", "()I"⟩, 33), (⟨"NightCatsModel", "isOf", "(I)Z"⟩, 33), (⟨"NightCatsModel", "opened", "(I)I"⟩, 33), (⟨"NightCatsModel", "isAskAhead", "()Z"⟩, 33), (⟨"NightCatsModel", "canLet", "(II)Z"⟩, 33), (⟨"NightCatsModel", "isCat", "(I)Z"⟩, 33), (⟨"NightCatsModel", "isHouse", "(I)Z"⟩, 33), (⟨"NightCatsModel", "isWithout", "(I)Z"⟩, 33)]
theorem lw_r5 : ∀ q ∈ lw_privs_5, lw_okq q := List.forall_mem_cons.mpr ⟨lw_p64, List.forall_mem_cons.mpr ⟨lw_p65, List.forall_mem_cons.mpr ⟨lw_p66, List.forall_mem_cons.mpr ⟨lw_p67, List.forall_mem_cons.mpr ⟨lw_p68, List.forall_mem_cons.mpr ⟨lw_p69, List.forall_mem_cons.mpr ⟨lw_p70, List.forall_mem_cons.mpr ⟨lw_p71, List.forall_mem_cons.mpr ⟨lw_p72, List.forall_mem_cons.mpr ⟨lw_p73, List.forall_mem_cons.mpr ⟨lw_p74, List.forall_mem_cons.mpr ⟨lw_p75, List.forall_mem_cons.mpr ⟨lw_p76, List.forall_mem_cons.mpr ⟨lw_p77, List.forall_mem_cons.mpr ⟨lw_p78, List.forall_mem_cons.mpr ⟨lw_p79, fun _ h => absurd h List.not_mem_nil⟩⟩⟩⟩⟩⟩⟩⟩⟩⟩⟩⟩⟩⟩⟩⟩
theorem lw_p80 : lw_okq (⟨"NightCatsModel", "get", "(II)I"⟩, 33) := ⟨⟨by decide +kernel, by decide +kernel⟩, List.mem_of_getElem? (i := 1226) (by decide +kernel), List.mem_of_getElem? (i := 1551) (by decide +kernel), List.mem_of_getElem? (i := 1552) (by decide +kernel)⟩
theorem lw_p81 : lw_okq (⟨"NightCatsModel", "catIn", "(I)I"⟩, 33) := ⟨⟨by decide +kernel, by decide +kernel⟩, List.mem_of_getElem? (i := 1226) (by decide +kernel), List.mem_of_getElem? (i := 1555) (by decide +kernel), List.mem_of_getElem? (i := 1556) (by decide +kernel)⟩
theorem lw_p82 : lw_okq (⟨"NightCatsModel", "keep", "()V"⟩, 33) := ⟨⟨by decide +kernel, by decide +kernel⟩, List.mem_of_getElem? (i := 1226) (by decide +kernel), List.mem_of_getElem? (i := 1559) (by decide +kernel), List.mem_of_getElem? (i := 1560) (by decide +kernel)⟩
theorem lw_p83 : lw_okq (⟨"NightCatsModel", "letNow", "(II)V"⟩, 33) := ⟨⟨by decide +kernel, by decide +kernel⟩, List.mem_of_getElem? (i := 1226) (by decide +kernel), List.mem_of_getElem? (i := 1563) (by decide +kernel), List.mem_of_getElem? (i := 1564) (by decide +kernel)⟩
theorem lw_p84 : lw_okq (⟨"NightCatsModel", "getOf", "(II)I"⟩, 33) := ⟨⟨by decide +kernel, by decide +kernel⟩, List.mem_of_getElem? (i := 1226) (by decide +kernel), List.mem_of_getElem? (i := 1567) (by decide +kernel), List.mem_of_getElem? (i := 1568) (by decide +kernel)⟩
theorem lw_p85 : lw_okq (⟨"NightCatsModel", "write", "(III)V"⟩, 33) := ⟨⟨by decide +kernel, by decide +kernel⟩, List.mem_of_getElem? (i := 1226) (by decide +kernel), List.mem_of_getElem? (i := 1574) (by decide +kernel), List.mem_of_getElem? (i := 1575) (by decide +kernel)⟩
theorem lw_p86 : lw_okq (⟨"NightCatsModel", "outNow", "(II)V"⟩, 33) := ⟨⟨by decide +kernel, by decide +kernel⟩, List.mem_of_getElem? (i := 1226) (by decide +kernel), List.mem_of_getElem? (i := 1582) (by decide +kernel), List.mem_of_getElem? (i := 1583) (by decide +kernel)⟩
theorem lw_p87 : lw_okq (⟨"NightCatsModel", "canGo", "(I)Z"⟩, 33) := ⟨⟨by decide +kernel, by decide +kernel⟩, List.mem_of_getElem? (i := 1226) (by decide +kernel), List.mem_of_getElem? (i := 1590) (by decide +kernel), List.mem_of_getElem? (i := 1591) (by decide +kernel)⟩
theorem lw_p88 : lw_okq (⟨"NightCatsModel", "goNow", "(IZ)V"⟩, 33) := ⟨⟨by decide +kernel, by decide +kernel⟩, List.mem_of_getElem? (i := 1226) (by decide +kernel), List.mem_of_getElem? (i := 1594) (by decide +kernel), List.mem_of_getElem? (i := 1595) (by decide +kernel)⟩
theorem lw_p89 : lw_okq (⟨"NightCatsModel", "arePassed", "(I)Z"⟩, 33) := ⟨⟨by decide +kernel, by decide +kernel⟩, List.mem_of_getElem? (i := 1226) (by decide +kernel), List.mem_of_getElem? (i := 1602) (by decide +kernel), List.mem_of_getElem? (i := 1603) (by decide +kernel)⟩
theorem lw_p90 : lw_okq (⟨"NightCatsModel", "pass", "()V"⟩, 33) := ⟨⟨by decide +kernel, by decide +kernel⟩, List.mem_of_getElem? (i := 1226) (by decide +kernel), List.mem_of_getElem? (i := 1606) (by decide +kernel), List.mem_of_getElem? (i := 1607) (by decide +kernel)⟩
theorem lw_p91 : lw_okq (⟨"NightCatsModel", "takeNow", "(I)V"⟩, 33) := ⟨⟨by decide +kernel, by decide +kernel⟩, List.mem_of_getElem? (i := 1226) (by decide +kernel), List.mem_of_getElem? (i := 1610) (by decide +kernel), List.mem_of_getElem? (i := 1611) (by decide +kernel)⟩
theorem lw_p92 : lw_okq (⟨"NightCatsModel", "takesOf", "(III)I"⟩, 33) := ⟨⟨by decide +kernel, by decide +kernel⟩, List.mem_of_getElem? (i := 1226) (by decide +kernel), List.mem_of_getElem? (i := 1614) (by decide +kernel), List.mem_of_getElem? (i := 1615) (by decide +kernel)⟩
theorem lw_p93 : lw_okq (⟨"NightCatsModel", "name", "(I)V"⟩, 33) := ⟨⟨by decide +kernel, by decide +kernel⟩, List.mem_of_getElem? (i := 1226) (by decide +kernel), List.mem_of_getElem? (i := 1618) (by decide +kernel), List.mem_of_getElem? (i := 1619) (by decide +kernel)⟩
theorem lw_p94 : lw_okq (⟨"NightCatsModel", "placeOf", "(I)I"⟩, 33) := ⟨⟨by decide +kernel, by decide +kernel⟩, List.mem_of_getElem? (i := 1226) (by decide +kernel), List.mem_of_getElem? (i := 1622) (by decide +kernel), List.mem_of_getElem? (i := 1623) (by decide +kernel)⟩
theorem lw_p95 : lw_okq (⟨"NightCatsModel", "says", "(IIII)I"⟩, 33) := ⟨⟨by decide +kernel, by decide +kernel⟩, List.mem_of_getElem? (i := 1226) (by decide +kernel), List.mem_of_getElem? (i := 1626) (by decide +kernel), List.mem_of_getElem? (i := 1627) (by decide +kernel)⟩
def lw_privs_6 : List (MethodName × Nat) := [(⟨"NightCatsModel", "get", "(II)I"⟩, 33), (⟨"NightCatsModel", "catIn", "(I)I"⟩, 33), (⟨"NightCatsModel", "keep", "()V"⟩, 33), (⟨"NightCatsModel", "letNow", "(II)V"⟩, 33), (⟨"NightCatsModel", "getOf", "(II)I"⟩, 33), (⟨"NightCatsModel", "write", "(III)V"⟩, 33), (⟨"NightCatsModel", "outNow", "(II)V"⟩, 33), (⟨"NightCatsModel", "canGo", "(I)Z"⟩, 33), (⟨"NightCatsModel", "goNow", "(IZ)V"⟩, 33), (⟨"NightCatsModel", "arePassed", "(I)Z"⟩, 33), (⟨"NightCatsModel", "pass", "()V"⟩, 33), (⟨"NightCatsModel", "takeNow", "(I)V"⟩, 33), (⟨"NightCatsModel", "takesOf", "(III)I"⟩, 33), (⟨"NightCatsModel", "name", "(I)V"⟩, 33), (⟨"NightCatsModel", "placeOf", "(I)I"⟩, 33), (⟨"NightCatsModel", "says", "(IIII)I"⟩, 33)]
theorem lw_r6 : ∀ q ∈ lw_privs_6, lw_okq q := List.forall_mem_cons.mpr ⟨lw_p80, List.forall_mem_cons.mpr ⟨lw_p81, List.forall_mem_cons.mpr ⟨lw_p82, List.forall_mem_cons.mpr ⟨lw_p83, List.forall_mem_cons.mpr ⟨lw_p84, List.forall_mem_cons.mpr ⟨lw_p85, List.forall_mem_cons.mpr ⟨lw_p86, List.forall_mem_cons.mpr ⟨lw_p87, List.forall_mem_cons.mpr ⟨lw_p88, List.forall_mem_cons.mpr ⟨lw_p89, List.forall_mem_cons.mpr ⟨lw_p90, List.forall_mem_cons.mpr ⟨lw_p91, List.forall_mem_cons.mpr ⟨lw_p92, List.forall_mem_cons.mpr ⟨lw_p93, List.forall_mem_cons.mpr ⟨lw_p94, List.forall_mem_cons.mpr ⟨lw_p95, fun _ h => absurd h List.not_mem_nil⟩⟩⟩⟩⟩⟩⟩⟩⟩⟩⟩⟩⟩⟩⟩⟩
theorem lw_p96 : lw_okq (⟨"NightCatsModel", "summedUp", "(II)J"⟩, 33) := ⟨⟨by decide +kernel, by decide +kernel⟩, List.mem_of_getElem? (i := 1226) (by decide +kernel), List.mem_of_getElem? (i := 1630) (by decide +kernel), List.mem_of_getElem? (i := 1631) (by decide +kernel)⟩
theorem lw_p97 : lw_okq (⟨"NightCatsModel", "chillOf", "(J)J"⟩, 33) := ⟨⟨by decide +kernel, by decide +kernel⟩, List.mem_of_getElem? (i := 1226) (by decide +kernel), List.mem_of_getElem? (i := 1634) (by decide +kernel), List.mem_of_getElem? (i := 1635) (by decide +kernel)⟩
theorem lw_p98 : lw_okq (⟨"NightCatsModel", "goesOf", "(I)I"⟩, 33) := ⟨⟨by decide +kernel, by decide +kernel⟩, List.mem_of_getElem? (i := 1226) (by decide +kernel), List.mem_of_getElem? (i := 1659) (by decide +kernel), List.mem_of_getElem? (i := 1660) (by decide +kernel)⟩
theorem lw_p99 : lw_okq (⟨"NightCatsModel", "drawnBy", "(I)I"⟩, 33) := ⟨⟨by decide +kernel, by decide +kernel⟩, List.mem_of_getElem? (i := 1226) (by decide +kernel), List.mem_of_getElem? (i := 1663) (by decide +kernel), List.mem_of_getElem? (i := 1664) (by decide +kernel)⟩
theorem lw_p100 : lw_okq (⟨"NightCatsModel", "anew", "()V"⟩, 33) := ⟨⟨by decide +kernel, by decide +kernel⟩, List.mem_of_getElem? (i := 1226) (by decide +kernel), List.mem_of_getElem? (i := 1667) (by decide +kernel), List.mem_of_getElem? (i := 1668) (by decide +kernel)⟩
theorem lw_p101 : lw_okq (⟨"NightCatsModel", "isPlayed", "(I)Z"⟩, 33) := ⟨⟨by decide +kernel, by decide +kernel⟩, List.mem_of_getElem? (i := 1226) (by decide +kernel), List.mem_of_getElem? (i := 1678) (by decide +kernel), List.mem_of_getElem? (i := 1679) (by decide +kernel)⟩
theorem lw_p102 : lw_okq (⟨"NightCatsModel", "happens", "(I)V"⟩, 33) := ⟨⟨by decide +kernel, by decide +kernel⟩, List.mem_of_getElem? (i := 1226) (by decide +kernel), List.mem_of_getElem? (i := 1691) (by decide +kernel), List.mem_of_getElem? (i := 1692) (by decide +kernel)⟩
theorem lw_p103 : lw_okq (⟨"NightCatsModel", "allTaken", "()I"⟩, 33) := ⟨⟨by decide +kernel, by decide +kernel⟩, List.mem_of_getElem? (i := 1226) (by decide +kernel), List.mem_of_getElem? (i := 1715) (by decide +kernel), List.mem_of_getElem? (i := 1716) (by decide +kernel)⟩
theorem lw_p104 : lw_okq (⟨"NightCatsModel", "lineOf", "(II)I"⟩, 33) := ⟨⟨by decide +kernel, by decide +kernel⟩, List.mem_of_getElem? (i := 1226) (by decide +kernel), List.mem_of_getElem? (i := 1723) (by decide +kernel), List.mem_of_getElem? (i := 1724) (by decide +kernel)⟩
theorem lw_p105 : lw_okq (⟨"NightCatsModel", "farOf", "(II)I"⟩, 33) := ⟨⟨by decide +kernel, by decide +kernel⟩, List.mem_of_getElem? (i := 1226) (by decide +kernel), List.mem_of_getElem? (i := 1756) (by decide +kernel), List.mem_of_getElem? (i := 1757) (by decide +kernel)⟩
theorem lw_p106 : lw_okq (⟨"NightCatsModel", "bestMatch", "(Z)I"⟩, 33) := ⟨⟨by decide +kernel, by decide +kernel⟩, List.mem_of_getElem? (i := 1226) (by decide +kernel), List.mem_of_getElem? (i := 1785) (by decide +kernel), List.mem_of_getElem? (i := 1786) (by decide +kernel)⟩
theorem lw_p107 : lw_okq (⟨"NightCatsModel", "mostPairs", "()I"⟩, 33) := ⟨⟨by decide +kernel, by decide +kernel⟩, List.mem_of_getElem? (i := 1226) (by decide +kernel), List.mem_of_getElem? (i := 1789) (by decide +kernel), List.mem_of_getElem? (i := 1790) (by decide +kernel)⟩
theorem lw_p108 : lw_okq (⟨"NightCatsModel", "isMatch", "(I)Z"⟩, 33) := ⟨⟨by decide +kernel, by decide +kernel⟩, List.mem_of_getElem? (i := 1226) (by decide +kernel), List.mem_of_getElem? (i := 1799) (by decide +kernel), List.mem_of_getElem? (i := 1800) (by decide +kernel)⟩
theorem lw_p109 : lw_okq (⟨"NightCatsModel", "fewestCats", "()I"⟩, 33) := ⟨⟨by decide +kernel, by decide +kernel⟩, List.mem_of_getElem? (i := 1226) (by decide +kernel), List.mem_of_getElem? (i := 1830) (by decide +kernel), List.mem_of_getElem? (i := 1831) (by decide +kernel)⟩
theorem lw_p110 : lw_okq (⟨"NightCatsModel", "areTracks", "(I)Z"⟩, 33) := ⟨⟨by decide +kernel, by decide +kernel⟩, List.mem_of_getElem? (i := 1226) (by decide +kernel), List.mem_of_getElem? (i := 1834) (by decide +kernel), List.mem_of_getElem? (i := 1835) (by decide +kernel)⟩
theorem lw_p111 : lw_okq (⟨"NightCatsModel", "canFollow", "(I)Z"⟩, 33) := ⟨⟨by decide +kernel, by decide +kernel⟩, List.mem_of_getElem? (i := 1226) (by decide +kernel), List.mem_of_getElem? (i := 1838) (by decide +kernel), List.mem_of_getElem? (i := 1839) (by decide +kernel)⟩
def lw_privs_7 : List (MethodName × Nat) := [(⟨"NightCatsModel", "summedUp", "(II)J"⟩, 33), (⟨"NightCatsModel", "chillOf", "(J)J"⟩, 33), (⟨"NightCatsModel", "goesOf", "(I)I"⟩, 33), (⟨"NightCatsModel", "drawnBy", "(I)I"⟩, 33), (⟨"NightCatsModel", "anew", "()V"⟩, 33), (⟨"NightCatsModel", "isPlayed", "(I)Z"⟩, 33), (⟨"NightCatsModel", "happens", "(I)V"⟩, 33), (⟨"NightCatsModel", "allTaken", "()I"⟩, 33), (⟨"NightCatsModel", "lineOf", "(II)I"⟩, 33), (⟨"NightCatsModel", "farOf", "(II)I"⟩, 33), (⟨"NightCatsModel", "bestMatch", "(Z)I"⟩, 33), (⟨"NightCatsModel", "mostPairs", "()I"⟩, 33), (⟨"NightCatsModel", "isMatch", "(I)Z"⟩, 33), (⟨"NightCatsModel", "fewestCats", "()I"⟩, 33), (⟨"NightCatsModel", "areTracks", "(I)Z"⟩, 33), (⟨"NightCatsModel", "canFollow", "(I)Z"⟩, 33)]
theorem lw_r7 : ∀ q ∈ lw_privs_7, lw_okq q := List.forall_mem_cons.mpr ⟨lw_p96, List.forall_mem_cons.mpr ⟨lw_p97, List.forall_mem_cons.mpr ⟨lw_p98, List.forall_mem_cons.mpr ⟨lw_p99, List.forall_mem_cons.mpr ⟨lw_p100, List.forall_mem_cons.mpr ⟨lw_p101, List.forall_mem_cons.mpr ⟨lw_p102, List.forall_mem_cons.mpr ⟨lw_p103, List.forall_mem_cons.mpr ⟨lw_p104, List.forall_mem_cons.mpr ⟨lw_p105, List.forall_mem_cons.mpr ⟨lw_p106, List.forall_mem_cons.mpr ⟨lw_p107, List.forall_mem_cons.mpr ⟨lw_p108, List.forall_mem_cons.mpr ⟨lw_p109, List.forall_mem_cons.mpr ⟨lw_p110, List.forall_mem_cons.mpr ⟨lw_p111, fun _ h => absurd h List.not_mem_nil⟩⟩⟩⟩⟩⟩⟩⟩⟩⟩⟩⟩⟩⟩⟩⟩
theorem lw_p112 : lw_okq (⟨"NightCatsModel", "areOne", "(II)Z"⟩, 33) := ⟨⟨by decide +kernel, by decide +kernel⟩, List.mem_of_getElem? (i := 1226) (by decide +kernel), List.mem_of_getElem? (i := 1842) (by decide +kernel), List.mem_of_getElem? (i := 1843) (by decide +kernel)⟩
theorem lw_p113 : lw_okq (⟨"NightCatsModel", "isSight", "(I)Z"⟩, 33) := ⟨⟨by decide +kernel, by decide +kernel⟩, List.mem_of_getElem? (i := 1226) (by decide +kernel), List.mem_of_getElem? (i := 1850) (by decide +kernel), List.mem_of_getElem? (i := 1851) (by decide +kernel)⟩
theorem lw_p114 : lw_okq (⟨"NightCatsModel", "mostAlike", "(II)I"⟩, 33) := ⟨⟨by decide +kernel, by decide +kernel⟩, List.mem_of_getElem? (i := 1226) (by decide +kernel), List.mem_of_getElem? (i := 1876) (by decide +kernel), List.mem_of_getElem? (i := 1877) (by decide +kernel)⟩
theorem lw_p115 : lw_okq (⟨"NightCatsModel", "layJoins", "()V"⟩, 33) := ⟨⟨by decide +kernel, by decide +kernel⟩, List.mem_of_getElem? (i := 1226) (by decide +kernel), List.mem_of_getElem? (i := 1888) (by decide +kernel), List.mem_of_getElem? (i := 1889) (by decide +kernel)⟩
theorem lw_p116 : lw_okq (⟨"NightCatsModel", "areJoined", "(I)Z"⟩, 33) := ⟨⟨by decide +kernel, by decide +kernel⟩, List.mem_of_getElem? (i := 1226) (by decide +kernel), List.mem_of_getElem? (i := 1892) (by decide +kernel), List.mem_of_getElem? (i := 1893) (by decide +kernel)⟩
theorem lw_p117 : lw_okq (⟨"NightCatsModel", "pieceBy", "(II)I"⟩, 33) := ⟨⟨by decide +kernel, by decide +kernel⟩, List.mem_of_getElem? (i := 1226) (by decide +kernel), List.mem_of_getElem? (i := 1896) (by decide +kernel), List.mem_of_getElem? (i := 1897) (by decide +kernel)⟩
theorem lw_p118 : lw_okq (⟨"NightCatsModel", "firstBit", "(I)I"⟩, 33) := ⟨⟨by decide +kernel, by decide +kernel⟩, List.mem_of_getElem? (i := 1226) (by decide +kernel), List.mem_of_getElem? (i := 1900) (by decide +kernel), List.mem_of_getElem? (i := 1901) (by decide +kernel)⟩
theorem lw_p119 : lw_okq (⟨"NightCatsModel", "layGame", "(II)I"⟩, 33) := ⟨⟨by decide +kernel, by decide +kernel⟩, List.mem_of_getElem? (i := 1226) (by decide +kernel), List.mem_of_getElem? (i := 1925) (by decide +kernel), List.mem_of_getElem? (i := 1926) (by decide +kernel)⟩
theorem lw_p120 : lw_okq (⟨"NightCatsModel", "playOf", "(II)I"⟩, 33) := ⟨⟨by decide +kernel, by decide +kernel⟩, List.mem_of_getElem? (i := 1226) (by decide +kernel), List.mem_of_getElem? (i := 1929) (by decide +kernel), List.mem_of_getElem? (i := 1930) (by decide +kernel)⟩
theorem lw_p121 : lw_okq (⟨"NightCatsModel", "canPlay", "(IIII)Z"⟩, 33) := ⟨⟨by decide +kernel, by decide +kernel⟩, List.mem_of_getElem? (i := 1226) (by decide +kernel), List.mem_of_getElem? (i := 1933) (by decide +kernel), List.mem_of_getElem? (i := 1934) (by decide +kernel)⟩
def lw_privs_8 : List (MethodName × Nat) := [(⟨"NightCatsModel", "areOne", "(II)Z"⟩, 33), (⟨"NightCatsModel", "isSight", "(I)Z"⟩, 33), (⟨"NightCatsModel", "mostAlike", "(II)I"⟩, 33), (⟨"NightCatsModel", "layJoins", "()V"⟩, 33), (⟨"NightCatsModel", "areJoined", "(I)Z"⟩, 33), (⟨"NightCatsModel", "pieceBy", "(II)I"⟩, 33), (⟨"NightCatsModel", "firstBit", "(I)I"⟩, 33), (⟨"NightCatsModel", "layGame", "(II)I"⟩, 33), (⟨"NightCatsModel", "playOf", "(II)I"⟩, 33), (⟨"NightCatsModel", "canPlay", "(IIII)Z"⟩, 33)]
theorem lw_r8 : ∀ q ∈ lw_privs_8, lw_okq q := List.forall_mem_cons.mpr ⟨lw_p112, List.forall_mem_cons.mpr ⟨lw_p113, List.forall_mem_cons.mpr ⟨lw_p114, List.forall_mem_cons.mpr ⟨lw_p115, List.forall_mem_cons.mpr ⟨lw_p116, List.forall_mem_cons.mpr ⟨lw_p117, List.forall_mem_cons.mpr ⟨lw_p118, List.forall_mem_cons.mpr ⟨lw_p119, List.forall_mem_cons.mpr ⟨lw_p120, List.forall_mem_cons.mpr ⟨lw_p121, fun _ h => absurd h List.not_mem_nil⟩⟩⟩⟩⟩⟩⟩⟩⟩⟩
def lw_privs : List (MethodName × Nat) := lw_privs_1 ++ (lw_privs_2 ++ (lw_privs_3 ++ (lw_privs_4 ++ (lw_privs_5 ++ (lw_privs_6 ++ (lw_privs_7 ++ (lw_privs_8)))))))
def lw_tbl : List Cond := k2_sels lw_privs ++ tables_1
theorem lw_privs_ok : ∀ q ∈ lw_privs, lw_okq q := by
  show ∀ q ∈ lw_privs_1 ++ (lw_privs_2 ++ (lw_privs_3 ++ (lw_privs_4 ++ (lw_privs_5 ++ (lw_privs_6 ++ (lw_privs_7 ++ (lw_privs_8))))))), lw_okq q
  exact List.forall_mem_append.mpr ⟨lw_r1, List.forall_mem_append.mpr ⟨lw_r2, List.forall_mem_append.mpr ⟨lw_r3, List.forall_mem_append.mpr ⟨lw_r4, List.forall_mem_append.mpr ⟨lw_r5, List.forall_mem_append.mpr ⟨lw_r6, List.forall_mem_append.mpr ⟨lw_r7, lw_r8⟩⟩⟩⟩⟩⟩⟩

def RX0 : String := "NightCats$Joins"
def TX0 : u_T := fun k => match k with
  | 0 => ("NightCats$Joins", "lowest", "[I", true)
  | 1 => ("NightCats$Joins", "order", "[I", true)
  | _ => ("NightCats$Joins", "ways", "I", false)
def tyX0 : Nat → FieldType := fun k => match k with
  | 0 => .array .int
  | 1 => .array .int
  | _ => .int
abbrev wsX00 : List Cond := u_ws RX0 TX0 3
theorem nmX0 : ∀ a, a < 3 → ∀ b, b < 3 → a ≠ b → (TX0 a).2.1 ≠ (TX0 b).2.1 := by decide +kernel
theorem tyX0_ok : ∀ k, k < 3 → parseFieldDescriptor (TX0 k).2.2.1 = some (tyX0 k) := by decide +kernel
abbrev cX0_init : ByteArray := prog_2_method_1_code
def yX0_init : MethodName := ⟨RX0, "<init>", "()V"⟩
abbrev cX0_join : ByteArray := prog_2_method_2_code
def yX0_join : MethodName := ⟨RX0, "join", "(LNightCats$Notes;)V"⟩
abbrev cX0_extend : ByteArray := prog_2_method_3_code
def yX0_extend : MethodName := ⟨RX0, "extend", "(LNightCats$Joins;LNightCats$Notes;II)V"⟩
abbrev cX0_follows : ByteArray := prog_2_method_4_code
def yX0_follows : MethodName := ⟨RX0, "follows", "(LNightCats$Notes;II)Z"⟩
abbrev cX0_whole : ByteArray := prog_2_method_5_code
def yX0_whole : MethodName := ⟨RX0, "whole", "(LNightCats$Notes;)J"⟩
def RX1 : String := "NightCats$Law"
def TX1 : u_T := fun k => match k with
  | 0 => ("NightCats$Law", "stack", "[I", true)
  | _ => ("NightCats$Law", "top", "I", false)
def tyX1 : Nat → FieldType := fun k => match k with
  | 0 => .array .int
  | _ => .int
abbrev wsX10 : List Cond := u_ws RX1 TX1 2
theorem nmX1 : ∀ a, a < 2 → ∀ b, b < 2 → a ≠ b → (TX1 a).2.1 ≠ (TX1 b).2.1 := by decide +kernel
theorem tyX1_ok : ∀ k, k < 2 → parseFieldDescriptor (TX1 k).2.2.1 = some (tyX1 k) := by decide +kernel
abbrev cX1_init : ByteArray := prog_3_method_1_code
def yX1_init : MethodName := ⟨RX1, "<init>", "()V"⟩
abbrev cX1_taking : ByteArray := prog_3_method_2_code
def yX1_taking : MethodName := ⟨RX1, "taking", "(LNightCats$Text;LNightCats$Night;II)I"⟩
abbrev cX1_going : ByteArray := prog_3_method_3_code
def yX1_going : MethodName := ⟨RX1, "going", "(LNightCats$Text;LNightCats$Night;I)I"⟩
abbrev cX1_run : ByteArray := prog_3_method_4_code
def yX1_run : MethodName := ⟨RX1, "run", "([IIILNightCats$Night;II)I"⟩
abbrev cX1_push : ByteArray := prog_3_method_5_code
def yX1_push : MethodName := ⟨RX1, "push", "(I)V"⟩
abbrev cX1_pop : ByteArray := prog_3_method_6_code
def yX1_pop : MethodName := ⟨RX1, "pop", "()I"⟩
abbrev cX1_isName : ByteArray := prog_3_method_7_code
def yX1_isName : MethodName := ⟨RX1, "isName", "(I)Z"⟩
abbrev cX1_named : ByteArray := prog_3_method_8_code
def yX1_named : MethodName := ⟨RX1, "named", "(ILNightCats$Night;II)I"⟩
abbrev cX1_ofOne : ByteArray := prog_3_method_9_code
def yX1_ofOne : MethodName := ⟨RX1, "ofOne", "(IILNightCats$Night;)I"⟩
abbrev cX1_ofTwo : ByteArray := prog_3_method_10_code
def yX1_ofTwo : MethodName := ⟨RX1, "ofTwo", "(IJJ)J"⟩
abbrev cX1_compares : ByteArray := prog_3_method_11_code
def yX1_compares : MethodName := ⟨RX1, "compares", "(IJJ)Z"⟩
abbrev cX1_limited : ByteArray := prog_3_method_12_code
def yX1_limited : MethodName := ⟨RX1, "limited", "(J)I"⟩
def RX2 : String := "NightCats$Night"
def TX2 : u_T := fun k => match k with
  | 0 => ("NightCats$Night", "door", "[I", true)
  | 1 => ("NightCats$Night", "dream", "[I", true)
  | 2 => ("NightCats$Night", "came", "[I", true)
  | 3 => ("NightCats$Night", "cold", "[I", true)
  | 4 => ("NightCats$Night", "place", "[I", true)
  | 5 => ("NightCats$Night", "home", "[I", true)
  | 6 => ("NightCats$Night", "taken", "[I", true)
  | 7 => ("NightCats$Night", "book", "[I", true)
  | 8 => ("NightCats$Night", "houses", "I", false)
  | 9 => ("NightCats$Night", "cats", "I", false)
  | 10 => ("NightCats$Night", "booked", "I", false)
  | 11 => ("NightCats$Night", "hour", "I", false)
  | _ => ("NightCats$Night", "x", "I", false)
def tyX2 : Nat → FieldType := fun k => match k with
  | 0 => .array .int
  | 1 => .array .int
  | 2 => .array .int
  | 3 => .array .int
  | 4 => .array .int
  | 5 => .array .int
  | 6 => .array .int
  | 7 => .array .int
  | 8 => .int
  | 9 => .int
  | 10 => .int
  | 11 => .int
  | _ => .int
abbrev wsX20 : List Cond := u_ws RX2 TX2 13
theorem nmX2 : ∀ a, a < 13 → ∀ b, b < 13 → a ≠ b → (TX2 a).2.1 ≠ (TX2 b).2.1 := by decide +kernel
theorem tyX2_ok : ∀ k, k < 13 → parseFieldDescriptor (TX2 k).2.2.1 = some (tyX2 k) := by decide +kernel
abbrev cX2_init : ByteArray := prog_4_method_1_code
def yX2_init : MethodName := ⟨RX2, "<init>", "()V"⟩
abbrev cX2_isHouse : ByteArray := prog_4_method_2_code
def yX2_isHouse : MethodName := ⟨RX2, "isHouse", "(I)Z"⟩
abbrev cX2_isCat : ByteArray := prog_4_method_3_code
def yX2_isCat : MethodName := ⟨RX2, "isCat", "(I)Z"⟩
abbrev cX2_build : ByteArray := prog_4_method_4_code
def yX2_build : MethodName := ⟨RX2, "build", "(II)I"⟩
abbrev cX2_bring : ByteArray := prog_4_method_5_code
def yX2_bring : MethodName := ⟨RX2, "bring", "(II)I"⟩
abbrev cX2_guest : ByteArray := prog_4_method_6_code
def yX2_guest : MethodName := ⟨RX2, "guest", "(I)I"⟩
abbrev cX2_canEnter : ByteArray := prog_4_method_7_code
def yX2_canEnter : MethodName := ⟨RX2, "canEnter", "(II)Z"⟩
abbrev cX2_enter : ByteArray := prog_4_method_8_code
def yX2_enter : MethodName := ⟨RX2, "enter", "(II)V"⟩
abbrev cX2_leave : ByteArray := prog_4_method_9_code
def yX2_leave : MethodName := ⟨RX2, "leave", "(III)V"⟩
abbrev cX2_move : ByteArray := prog_4_method_10_code
def yX2_move : MethodName := ⟨RX2, "move", "(II)V"⟩
abbrev cX2_wander : ByteArray := prog_4_method_11_code
def yX2_wander : MethodName := ⟨RX2, "wander", "(I)V"⟩
abbrev cX2_draw : ByteArray := prog_4_method_12_code
def yX2_draw : MethodName := ⟨RX2, "draw", "()I"⟩
abbrev cX2_take : ByteArray := prog_4_method_13_code
def yX2_take : MethodName := ⟨RX2, "take", "(III)I"⟩
abbrev cX2_note : ByteArray := prog_4_method_14_code
def yX2_note : MethodName := ⟨RX2, "note", "(III)V"⟩
abbrev cX2_away : ByteArray := prog_4_method_15_code
def yX2_away : MethodName := ⟨RX2, "away", "(II)I"⟩
abbrev cX2_catsAt : ByteArray := prog_4_method_16_code
def yX2_catsAt : MethodName := ⟨RX2, "catsAt", "(I)I"⟩
abbrev cX2_rank : ByteArray := prog_4_method_17_code
def yX2_rank : MethodName := ⟨RX2, "rank", "(I)I"⟩
abbrev cX2_write : ByteArray := prog_4_method_18_code
def yX2_write : MethodName := ⟨RX2, "write", "([II)V"⟩
abbrev cX2_restore : ByteArray := prog_4_method_19_code
def yX2_restore : MethodName := ⟨RX2, "restore", "([II)V"⟩
abbrev cX2_become : ByteArray := prog_4_method_20_code
def yX2_become : MethodName := ⟨RX2, "become", "(LNightCats$Night;)V"⟩
def RX3 : String := "NightCats$Notes"
def TX3 : u_T := fun k => match k with
  | 0 => ("NightCats$Notes", "most", "I", true)
  | 1 => ("NightCats$Notes", "first", "[I", true)
  | 2 => ("NightCats$Notes", "second", "[I", true)
  | 3 => ("NightCats$Notes", "third", "[I", true)
  | _ => ("NightCats$Notes", "count", "I", false)
def tyX3 : Nat → FieldType := fun k => match k with
  | 0 => .int
  | 1 => .array .int
  | 2 => .array .int
  | 3 => .array .int
  | _ => .int
abbrev wsX30 : List Cond := u_ws RX3 TX3 5
theorem nmX3 : ∀ a, a < 5 → ∀ b, b < 5 → a ≠ b → (TX3 a).2.1 ≠ (TX3 b).2.1 := by decide +kernel
theorem tyX3_ok : ∀ k, k < 5 → parseFieldDescriptor (TX3 k).2.2.1 = some (tyX3 k) := by decide +kernel
abbrev cX3_init : ByteArray := prog_5_method_1_code
def yX3_init : MethodName := ⟨RX3, "<init>", "(I)V"⟩
abbrev cX3_has : ByteArray := prog_5_method_2_code
def yX3_has : MethodName := ⟨RX3, "has", "(I)Z"⟩
abbrev cX3_add : ByteArray := prog_5_method_3_code
def yX3_add : MethodName := ⟨RX3, "add", "(III)Z"⟩
abbrev cX3_become : ByteArray := prog_5_method_4_code
def yX3_become : MethodName := ⟨RX3, "become", "(LNightCats$Notes;)V"⟩
def RX4 : String := "NightCats$Pairs"
def TX4 : u_T := fun k => match k with
  | 0 => ("NightCats$Pairs", "best", "[I", true)
  | 1 => ("NightCats$Pairs", "cat", "[I", true)
  | 2 => ("NightCats$Pairs", "house", "[I", true)
  | 3 => ("NightCats$Pairs", "cats", "I", false)
  | 4 => ("NightCats$Pairs", "houses", "I", false)
  | 5 => ("NightCats$Pairs", "byFarthest", "Z", false)
  | _ => ("NightCats$Pairs", "most", "I", false)
def tyX4 : Nat → FieldType := fun k => match k with
  | 0 => .array .int
  | 1 => .array .int
  | 2 => .array .int
  | 3 => .int
  | 4 => .int
  | 5 => .boolean
  | _ => .int
abbrev wsX40 : List Cond := u_ws RX4 TX4 7
theorem nmX4 : ∀ a, a < 7 → ∀ b, b < 7 → a ≠ b → (TX4 a).2.1 ≠ (TX4 b).2.1 := by decide +kernel
theorem tyX4_ok : ∀ k, k < 7 → parseFieldDescriptor (TX4 k).2.2.1 = some (tyX4 k) := by decide +kernel
abbrev cX4_init : ByteArray := prog_6_method_1_code
def yX4_init : MethodName := ⟨RX4, "<init>", "()V"⟩
abbrev cX4_settle : ByteArray := prog_6_method_2_code
def yX4_settle : MethodName := ⟨RX4, "settle", "(LNightCats$Night;Z)V"⟩
abbrev cX4_gather : ByteArray := prog_6_method_3_code
def yX4_gather : MethodName := ⟨RX4, "gather", "(LNightCats$Night;)V"⟩
abbrev cX4_least : ByteArray := prog_6_method_4_code
def yX4_least : MethodName := ⟨RX4, "least", "(LNightCats$Night;II)I"⟩
abbrev cX4_paired : ByteArray := prog_6_method_5_code
def yX4_paired : MethodName := ⟨RX4, "paired", "(LNightCats$Night;III)I"⟩
abbrev cX4_cell : ByteArray := prog_6_method_6_code
def yX4_cell : MethodName := ⟨RX4, "cell", "(II)I"⟩
abbrev cX4_leastSteps : ByteArray := prog_6_method_7_code
def yX4_leastSteps : MethodName := ⟨RX4, "leastSteps", "()I"⟩
abbrev cX4_partner : ByteArray := prog_6_method_8_code
def yX4_partner : MethodName := ⟨RX4, "partner", "(LNightCats$Night;I)I"⟩
abbrev cX4_chosen : ByteArray := prog_6_method_9_code
def yX4_chosen : MethodName := ⟨RX4, "chosen", "(LNightCats$Night;II)I"⟩
def RX5 : String := "NightCats$Reader"
def TX5 : u_T := fun k => match k with
  | 0 => ("NightCats$Reader", "tape", "[I", true)
  | 1 => ("NightCats$Reader", "draft", "LNightCats$Text;", true)
  | 2 => ("NightCats$Reader", "length", "I", false)
  | 3 => ("NightCats$Reader", "fault", "I", false)
  | 4 => ("NightCats$Reader", "faultAt", "I", false)
  | 5 => ("NightCats$Reader", "kinds", "[I", true)
  | 6 => ("NightCats$Reader", "starts", "[I", true)
  | 7 => ("NightCats$Reader", "values", "[I", true)
  | 8 => ("NightCats$Reader", "tokens", "I", false)
  | 9 => ("NightCats$Reader", "token", "I", false)
  | 10 => ("NightCats$Reader", "kind", "I", false)
  | _ => ("NightCats$Reader", "law", "I", false)
def tyX5 : Nat → FieldType := fun k => match k with
  | 0 => .array .int
  | 1 => .object "NightCats$Text"
  | 2 => .int
  | 3 => .int
  | 4 => .int
  | 5 => .array .int
  | 6 => .array .int
  | 7 => .array .int
  | 8 => .int
  | 9 => .int
  | 10 => .int
  | _ => .int
abbrev wsX50 : List Cond := u_ws RX5 TX5 12
theorem nmX5 : ∀ a, a < 12 → ∀ b, b < 12 → a ≠ b → (TX5 a).2.1 ≠ (TX5 b).2.1 := by decide +kernel
theorem tyX5_ok : ∀ k, k < 12 → parseFieldDescriptor (TX5 k).2.2.1 = some (tyX5 k) := by decide +kernel
abbrev cX5_init : ByteArray := prog_7_method_1_code
def yX5_init : MethodName := ⟨RX5, "<init>", "()V"⟩
abbrev cX5_append : ByteArray := prog_7_method_2_code
def yX5_append : MethodName := ⟨RX5, "append", "(I)V"⟩
abbrev cX5_read : ByteArray := prog_7_method_3_code
def yX5_read : MethodName := ⟨RX5, "read", "()Z"⟩
abbrev cX5_blame : ByteArray := prog_7_method_4_code
def yX5_blame : MethodName := ⟨RX5, "blame", "(I)V"⟩
abbrev cX5_scan : ByteArray := prog_7_method_5_code
def yX5_scan : MethodName := ⟨RX5, "scan", "()V"⟩
abbrev cX5_scanToken : ByteArray := prog_7_method_6_code
def yX5_scanToken : MethodName := ⟨RX5, "scanToken", "(I)I"⟩
abbrev cX5_isLetter : ByteArray := prog_7_method_7_code
def yX5_isLetter : MethodName := ⟨RX5, "isLetter", "(I)Z"⟩
abbrev cX5_isDigit : ByteArray := prog_7_method_8_code
def yX5_isDigit : MethodName := ⟨RX5, "isDigit", "(I)Z"⟩
abbrev cX5_scanWord : ByteArray := prog_7_method_9_code
def yX5_scanWord : MethodName := ⟨RX5, "scanWord", "(I)I"⟩
abbrev cX5_isWord : ByteArray := prog_7_method_10_code
def yX5_isWord : MethodName := ⟨RX5, "isWord", "(III)Z"⟩
abbrev cX5_scanNumber : ByteArray := prog_7_method_11_code
def yX5_scanNumber : MethodName := ⟨RX5, "scanNumber", "(I)I"⟩
abbrev cX5_next : ByteArray := prog_7_method_12_code
def yX5_next : MethodName := ⟨RX5, "next", "()V"⟩
abbrev cX5_expect : ByteArray := prog_7_method_13_code
def yX5_expect : MethodName := ⟨RX5, "expect", "(I)V"⟩
abbrev cX5_number : ByteArray := prog_7_method_14_code
def yX5_number : MethodName := ⟨RX5, "number", "(II)I"⟩
abbrev cX5_clause : ByteArray := prog_7_method_15_code
def yX5_clause : MethodName := ⟨RX5, "clause", "()V"⟩
abbrev cX5_lawOf : ByteArray := prog_7_method_16_code
def yX5_lawOf : MethodName := ⟨RX5, "lawOf", "(I)V"⟩
abbrev cX5_deed : ByteArray := prog_7_method_17_code
def yX5_deed : MethodName := ⟨RX5, "deed", "(I)V"⟩
abbrev cX5_sum : ByteArray := prog_7_method_18_code
def yX5_sum : MethodName := ⟨RX5, "sum", "(I)V"⟩
abbrev cX5_product : ByteArray := prog_7_method_19_code
def yX5_product : MethodName := ⟨RX5, "product", "(I)V"⟩
abbrev cX5_one : ByteArray := prog_7_method_20_code
def yX5_one : MethodName := ⟨RX5, "one", "(I)V"⟩
abbrev cX5_opened : ByteArray := prog_7_method_21_code
def yX5_opened : MethodName := ⟨RX5, "opened", "(I)V"⟩
abbrev cX5_choice : ByteArray := prog_7_method_22_code
def yX5_choice : MethodName := ⟨RX5, "choice", "(I)V"⟩
abbrev cX5_either : ByteArray := prog_7_method_23_code
def yX5_either : MethodName := ⟨RX5, "either", "(I)V"⟩
abbrev cX5_both : ByteArray := prog_7_method_24_code
def yX5_both : MethodName := ⟨RX5, "both", "(I)V"⟩
abbrev cX5_ask : ByteArray := prog_7_method_25_code
def yX5_ask : MethodName := ⟨RX5, "ask", "(I)V"⟩
abbrev cX5_isComparison : ByteArray := prog_7_method_26_code
def yX5_isComparison : MethodName := ⟨RX5, "isComparison", "(I)Z"⟩
abbrev cX5_name : ByteArray := prog_7_method_27_code
def yX5_name : MethodName := ⟨RX5, "name", "()V"⟩
abbrev cX5_blameUnless : ByteArray := prog_7_method_28_code
def yX5_blameUnless : MethodName := ⟨RX5, "blameUnless", "(Z)V"⟩
def RX6 : String := "NightCats$Steps"
def TX6 : u_T := fun k => match k with
  | 0 => ("NightCats$Steps", "rows", "[I", true)
  | 1 => ("NightCats$Steps", "first", "I", false)
  | _ => ("NightCats$Steps", "count", "I", false)
def tyX6 : Nat → FieldType := fun k => match k with
  | 0 => .array .int
  | 1 => .int
  | _ => .int
abbrev wsX60 : List Cond := u_ws RX6 TX6 3
theorem nmX6 : ∀ a, a < 3 → ∀ b, b < 3 → a ≠ b → (TX6 a).2.1 ≠ (TX6 b).2.1 := by decide +kernel
theorem tyX6_ok : ∀ k, k < 3 → parseFieldDescriptor (TX6 k).2.2.1 = some (tyX6 k) := by decide +kernel
abbrev cX6_init : ByteArray := prog_8_method_1_code
def yX6_init : MethodName := ⟨RX6, "<init>", "()V"⟩
abbrev cX6_keep : ByteArray := prog_8_method_2_code
def yX6_keep : MethodName := ⟨RX6, "keep", "(LNightCats$Night;)V"⟩
abbrev cX6_takeBack : ByteArray := prog_8_method_3_code
def yX6_takeBack : MethodName := ⟨RX6, "takeBack", "(LNightCats$Night;)V"⟩
abbrev cX6_become : ByteArray := prog_8_method_4_code
def yX6_become : MethodName := ⟨RX6, "become", "(LNightCats$Steps;)V"⟩
def RX7 : String := "NightCats$Text"
def TX7 : u_T := fun k => match k with
  | 0 => ("NightCats$Text", "kind", "[I", true)
  | 1 => ("NightCats$Text", "first", "[I", true)
  | 2 => ("NightCats$Text", "second", "[I", true)
  | 3 => ("NightCats$Text", "code", "[I", true)
  | 4 => ("NightCats$Text", "clauses", "I", false)
  | 5 => ("NightCats$Text", "used", "I", false)
  | 6 => ("NightCats$Text", "takesFrom", "I", false)
  | 7 => ("NightCats$Text", "takesTo", "I", false)
  | 8 => ("NightCats$Text", "goesFrom", "I", false)
  | _ => ("NightCats$Text", "goesTo", "I", false)
def tyX7 : Nat → FieldType := fun k => match k with
  | 0 => .array .int
  | 1 => .array .int
  | 2 => .array .int
  | 3 => .array .int
  | 4 => .int
  | 5 => .int
  | 6 => .int
  | 7 => .int
  | 8 => .int
  | _ => .int
abbrev wsX70 : List Cond := u_ws RX7 TX7 10
theorem nmX7 : ∀ a, a < 10 → ∀ b, b < 10 → a ≠ b → (TX7 a).2.1 ≠ (TX7 b).2.1 := by decide +kernel
theorem tyX7_ok : ∀ k, k < 10 → parseFieldDescriptor (TX7 k).2.2.1 = some (tyX7 k) := by decide +kernel
abbrev cX7_init : ByteArray := prog_9_method_1_code
def yX7_init : MethodName := ⟨RX7, "<init>", "()V"⟩
abbrev cX7_wipe : ByteArray := prog_9_method_2_code
def yX7_wipe : MethodName := ⟨RX7, "wipe", "()V"⟩
abbrev cX7_hasTakes : ByteArray := prog_9_method_3_code
def yX7_hasTakes : MethodName := ⟨RX7, "hasTakes", "()Z"⟩
abbrev cX7_hasGoes : ByteArray := prog_9_method_4_code
def yX7_hasGoes : MethodName := ⟨RX7, "hasGoes", "()Z"⟩
abbrev cX7_add : ByteArray := prog_9_method_5_code
def yX7_add : MethodName := ⟨RX7, "add", "(III)V"⟩
abbrev cX7_put : ByteArray := prog_9_method_6_code
def yX7_put : MethodName := ⟨RX7, "put", "(I)I"⟩
abbrev cX7_land : ByteArray := prog_9_method_7_code
def yX7_land : MethodName := ⟨RX7, "land", "(I)V"⟩
abbrev cX7_become : ByteArray := prog_9_method_8_code
def yX7_become : MethodName := ⟨RX7, "become", "(LNightCats$Text;)V"⟩
def RX8 : String := "NightCats$Tracks"
def TX8 : u_T := fun k => match k with
  | 0 => ("NightCats$Tracks", "owner", "[I", true)
  | 1 => ("NightCats$Tracks", "friends", "[I", true)
  | 2 => ("NightCats$Tracks", "group", "[I", true)
  | _ => ("NightCats$Tracks", "cats", "I", false)
def tyX8 : Nat → FieldType := fun k => match k with
  | 0 => .array .int
  | 1 => .array .int
  | 2 => .array .int
  | _ => .int
abbrev wsX80 : List Cond := u_ws RX8 TX8 4
theorem nmX8 : ∀ a, a < 4 → ∀ b, b < 4 → a ≠ b → (TX8 a).2.1 ≠ (TX8 b).2.1 := by decide +kernel
theorem tyX8_ok : ∀ k, k < 4 → parseFieldDescriptor (TX8 k).2.2.1 = some (tyX8 k) := by decide +kernel
abbrev cX8_init : ByteArray := prog_10_method_1_code
def yX8_init : MethodName := ⟨RX8, "<init>", "()V"⟩
abbrev cX8_follow : ByteArray := prog_10_method_2_code
def yX8_follow : MethodName := ⟨RX8, "follow", "(LNightCats$Notes;)V"⟩
abbrev cX8_friendsOf : ByteArray := prog_10_method_3_code
def yX8_friendsOf : MethodName := ⟨RX8, "friendsOf", "(LNightCats$Notes;I)I"⟩
abbrev cX8_assign : ByteArray := prog_10_method_4_code
def yX8_assign : MethodName := ⟨RX8, "assign", "(LNightCats$Tracks;IIII)Z"⟩
def RX9 : String := "NightCats$World"
def TX9 : u_T := fun k => match k with
  | 0 => ("NightCats$World", "night", "LNightCats$Night;", true)
  | 1 => ("NightCats$World", "steps", "LNightCats$Steps;", true)
  | 2 => ("NightCats$World", "sights", "LNightCats$Notes;", true)
  | 3 => ("NightCats$World", "clues", "LNightCats$Notes;", true)
  | 4 => ("NightCats$World", "pieces", "LNightCats$Notes;", true)
  | 5 => ("NightCats$World", "claims", "LNightCats$Notes;", true)
  | 6 => ("NightCats$World", "texts", "I", false)
  | _ => ("NightCats$World", "ruling", "I", false)
def tyX9 : Nat → FieldType := fun k => match k with
  | 0 => .object "NightCats$Night"
  | 1 => .object "NightCats$Steps"
  | 2 => .object "NightCats$Notes"
  | 3 => .object "NightCats$Notes"
  | 4 => .object "NightCats$Notes"
  | 5 => .object "NightCats$Notes"
  | 6 => .int
  | _ => .int
abbrev wsX90 : List Cond := u_ws RX9 TX9 8
theorem nmX9 : ∀ a, a < 8 → ∀ b, b < 8 → a ≠ b → (TX9 a).2.1 ≠ (TX9 b).2.1 := by decide +kernel
theorem tyX9_ok : ∀ k, k < 8 → parseFieldDescriptor (TX9 k).2.2.1 = some (tyX9 k) := by decide +kernel
abbrev cX9_init : ByteArray := prog_11_method_1_code
def yX9_init : MethodName := ⟨RX9, "<init>", "()V"⟩
abbrev cX9_become : ByteArray := prog_11_method_2_code
def yX9_become : MethodName := ⟨RX9, "become", "(LNightCats$World;)V"⟩
def RX10 : String := "NightCats"
def TX10 : u_T := fun k => match k with
  | 0 => ("NightCats", "now", "LNightCats$World;", true)
  | 1 => ("NightCats", "kept", "LNightCats$World;", true)
  | 2 => ("NightCats", "texts", "[LNightCats$Text;", true)
  | 3 => ("NightCats", "bare", "LNightCats$Text;", true)
  | 4 => ("NightCats", "reader", "LNightCats$Reader;", true)
  | 5 => ("NightCats", "law", "LNightCats$Law;", true)
  | 6 => ("NightCats", "pairs", "LNightCats$Pairs;", true)
  | 7 => ("NightCats", "tracks", "LNightCats$Tracks;", true)
  | 8 => ("NightCats", "chain", "LNightCats$Joins;", true)
  | 9 => ("NightCats", "alike", "[I", true)
  | _ => ("NightCats", "spare", "[I", true)
def tyX10 : Nat → FieldType := fun k => match k with
  | 0 => .object "NightCats$World"
  | 1 => .object "NightCats$World"
  | 2 => .array (.object "NightCats$Text")
  | 3 => .object "NightCats$Text"
  | 4 => .object "NightCats$Reader"
  | 5 => .object "NightCats$Law"
  | 6 => .object "NightCats$Pairs"
  | 7 => .object "NightCats$Tracks"
  | 8 => .object "NightCats$Joins"
  | 9 => .array .int
  | _ => .array .int
abbrev wsX100 : List Cond := u_ws RX10 TX10 11
theorem nmX10 : ∀ a, a < 11 → ∀ b, b < 11 → a ≠ b → (TX10 a).2.1 ≠ (TX10 b).2.1 := by decide +kernel
theorem tyX10_ok : ∀ k, k < 11 → parseFieldDescriptor (TX10 k).2.2.1 = some (tyX10 k) := by decide +kernel
abbrev cX10_init : ByteArray := prog_1_method_1_code
def yX10_init : MethodName := ⟨RX10, "<init>", "()V"⟩
abbrev cX10_house : ByteArray := prog_1_method_2_code
def yX10_house : MethodName := ⟨RX10, "house", "(II)I"⟩
abbrev cX10_cat : ByteArray := prog_1_method_3_code
def yX10_cat : MethodName := ⟨RX10, "cat", "(II)I"⟩
abbrev cX10_feed : ByteArray := prog_1_method_4_code
def yX10_feed : MethodName := ⟨RX10, "feed", "(IIIII)I"⟩
abbrev cX10_end : ByteArray := prog_1_method_5_code
def yX10_end : MethodName := ⟨RX10, "end", "(I)I"⟩
abbrev cX10_text : ByteArray := prog_1_method_6_code
def yX10_text : MethodName := ⟨RX10, "text", "()I"⟩
abbrev cX10_fault : ByteArray := prog_1_method_7_code
def yX10_fault : MethodName := ⟨RX10, "fault", "(I)I"⟩
abbrev cX10_by : ByteArray := prog_1_method_8_code
def yX10_by : MethodName := ⟨RX10, "by", "(I)Z"⟩
abbrev cX10_let : ByteArray := prog_1_method_9_code
def yX10_let : MethodName := ⟨RX10, "let", "(II)Z"⟩
abbrev cX10_out : ByteArray := prog_1_method_10_code
def yX10_out : MethodName := ⟨RX10, "out", "(I)I"⟩
abbrev cX10_go : ByteArray := prog_1_method_11_code
def yX10_go : MethodName := ⟨RX10, "go", "(IZ)Z"⟩
abbrev cX10_hour : ByteArray := prog_1_method_12_code
def yX10_hour : MethodName := ⟨RX10, "hour", "(I)I"⟩
abbrev cX10_played : ByteArray := prog_1_method_13_code
def yX10_played : MethodName := ⟨RX10, "played", "(I)I"⟩
abbrev cX10_years : ByteArray := prog_1_method_14_code
def yX10_years : MethodName := ⟨RX10, "years", "(II)I"⟩
abbrev cX10_undo : ByteArray := prog_1_method_15_code
def yX10_undo : MethodName := ⟨RX10, "undo", "()I"⟩
abbrev cX10_of : ByteArray := prog_1_method_16_code
def yX10_of : MethodName := ⟨RX10, "of", "(II)I"⟩
abbrev cX10_ofHouse : ByteArray := prog_1_method_17_code
def yX10_ofHouse : MethodName := ⟨RX10, "ofHouse", "(II)I"⟩
abbrev cX10_takes : ByteArray := prog_1_method_18_code
def yX10_takes : MethodName := ⟨RX10, "takes", "(II)I"⟩
abbrev cX10_goes : ByteArray := prog_1_method_19_code
def yX10_goes : MethodName := ⟨RX10, "goes", "(I)I"⟩
abbrev cX10_is : ByteArray := prog_1_method_20_code
def yX10_is : MethodName := ⟨RX10, "is", "(I)I"⟩
abbrev cX10_book : ByteArray := prog_1_method_21_code
def yX10_book : MethodName := ⟨RX10, "book", "(II)I"⟩
abbrev cX10_foretold : ByteArray := prog_1_method_22_code
def yX10_foretold : MethodName := ⟨RX10, "foretold", "(III)I"⟩
abbrev cX10_far : ByteArray := prog_1_method_23_code
def yX10_far : MethodName := ⟨RX10, "far", "(II)I"⟩
abbrev cX10_match : ByteArray := prog_1_method_24_code
def yX10_match : MethodName := ⟨RX10, "match", "(I)I"⟩
abbrev cX10_matched : ByteArray := prog_1_method_25_code
def yX10_matched : MethodName := ⟨RX10, "matched", "(I)I"⟩
abbrev cX10_latest : ByteArray := prog_1_method_26_code
def yX10_latest : MethodName := ⟨RX10, "latest", "(I)I"⟩
abbrev cX10_orders : ByteArray := prog_1_method_27_code
def yX10_orders : MethodName := ⟨RX10, "orders", "()J"⟩
abbrev cX10_order : ByteArray := prog_1_method_28_code
def yX10_order : MethodName := ⟨RX10, "order", "(I)I"⟩
abbrev cX10_seen : ByteArray := prog_1_method_29_code
def yX10_seen : MethodName := ⟨RX10, "seen", "(II)I"⟩
abbrev cX10_fewest : ByteArray := prog_1_method_30_code
def yX10_fewest : MethodName := ⟨RX10, "fewest", "()I"⟩
abbrev cX10_track : ByteArray := prog_1_method_31_code
def yX10_track : MethodName := ⟨RX10, "track", "(I)I"⟩
abbrev cX10_same : ByteArray := prog_1_method_32_code
def yX10_same : MethodName := ⟨RX10, "same", "(II)Z"⟩
abbrev cX10_told : ByteArray := prog_1_method_33_code
def yX10_told : MethodName := ⟨RX10, "told", "(II)I"⟩
abbrev cX10_which : ByteArray := prog_1_method_34_code
def yX10_which : MethodName := ⟨RX10, "which", "()I"⟩
abbrev cX10_likely : ByteArray := prog_1_method_35_code
def yX10_likely : MethodName := ⟨RX10, "likely", "(IZ)J"⟩
abbrev cX10_askNext : ByteArray := prog_1_method_36_code
def yX10_askNext : MethodName := ⟨RX10, "askNext", "()I"⟩
abbrev cX10_piece : ByteArray := prog_1_method_37_code
def yX10_piece : MethodName := ⟨RX10, "piece", "(II)I"⟩
abbrev cX10_joins : ByteArray := prog_1_method_38_code
def yX10_joins : MethodName := ⟨RX10, "joins", "(I)I"⟩
abbrev cX10_dream : ByteArray := prog_1_method_39_code
def yX10_dream : MethodName := ⟨RX10, "dream", "()J"⟩
abbrev cX10_price : ByteArray := prog_1_method_40_code
def yX10_price : MethodName := ⟨RX10, "price", "(I)I"⟩
abbrev cX10_chances : ByteArray := prog_1_method_41_code
def yX10_chances : MethodName := ⟨RX10, "chances", "(IIZ)J"⟩
abbrev cX10_game : ByteArray := prog_1_method_42_code
def yX10_game : MethodName := ⟨RX10, "game", "(II)I"⟩
abbrev cX10_play : ByteArray := prog_1_method_43_code
def yX10_play : MethodName := ⟨RX10, "play", "(II)I"⟩
abbrev cX10_said : ByteArray := prog_1_method_44_code
def yX10_said : MethodName := ⟨RX10, "said", "(III)I"⟩
abbrev cX10_whose : ByteArray := prog_1_method_45_code
def yX10_whose : MethodName := ⟨RX10, "whose", "()I"⟩
abbrev cX10_nearest : ByteArray := prog_1_method_46_code
def yX10_nearest : MethodName := ⟨RX10, "nearest", "(I)I"⟩
abbrev cX10_at : ByteArray := prog_1_method_47_code
def yX10_at : MethodName := ⟨RX10, "at", "(I)I"⟩
abbrev cX10_gap : ByteArray := prog_1_method_48_code
def yX10_gap : MethodName := ⟨RX10, "gap", "()I"⟩
abbrev cX10_share : ByteArray := prog_1_method_49_code
def yX10_share : MethodName := ⟨RX10, "share", "(IZ)I"⟩
abbrev cX10_coldest : ByteArray := prog_1_method_50_code
def yX10_coldest : MethodName := ⟨RX10, "coldest", "()I"⟩
abbrev cX10_dreamless : ByteArray := prog_1_method_51_code
def yX10_dreamless : MethodName := ⟨RX10, "dreamless", "()I"⟩
abbrev cX10_free : ByteArray := prog_1_method_52_code
def yX10_free : MethodName := ⟨RX10, "free", "()I"⟩
abbrev cX10_ledger : ByteArray := prog_1_method_53_code
def yX10_ledger : MethodName := ⟨RX10, "ledger", "(I)I"⟩
abbrev cX10_image : ByteArray := prog_1_method_54_code
def yX10_image : MethodName := ⟨RX10, "image", "()I"⟩
abbrev cX10_back : ByteArray := prog_1_method_55_code
def yX10_back : MethodName := ⟨RX10, "back", "()I"⟩
abbrev cX10_about : ByteArray := prog_1_method_56_code
def yX10_about : MethodName := ⟨RX10, "about", "(I)I"⟩
abbrev cX10_within : ByteArray := prog_1_method_57_code
def yX10_within : MethodName := ⟨RX10, "within", "(III)Z"⟩
abbrev cX10_hasBit : ByteArray := prog_1_method_58_code
def yX10_hasBit : MethodName := ⟨RX10, "hasBit", "(II)Z"⟩
abbrev cX10_total : ByteArray := prog_1_method_59_code
def yX10_total : MethodName := ⟨RX10, "total", "([II)I"⟩
abbrev cX10_ratio : ByteArray := prog_1_method_60_code
def yX10_ratio : MethodName := ⟨RX10, "ratio", "(JJZ)J"⟩
abbrev cX10_isText : ByteArray := prog_1_method_61_code
def yX10_isText : MethodName := ⟨RX10, "isText", "(I)Z"⟩
abbrev cX10_rule : ByteArray := prog_1_method_62_code
def yX10_rule : MethodName := ⟨RX10, "rule", "()LNightCats$Text;"⟩
abbrev cX10_enter : ByteArray := prog_1_method_63_code
def yX10_enter : MethodName := ⟨RX10, "enter", "(IIZ)Z"⟩
abbrev cX10_leave : ByteArray := prog_1_method_64_code
def yX10_leave : MethodName := ⟨RX10, "leave", "(IZ)I"⟩
abbrev cX10_walk : ByteArray := prog_1_method_65_code
def yX10_walk : MethodName := ⟨RX10, "walk", "(IZZ)Z"⟩
abbrev cX10_pass : ByteArray := prog_1_method_66_code
def yX10_pass : MethodName := ⟨RX10, "pass", "(Z)I"⟩
abbrev cX10_keepIf : ByteArray := prog_1_method_67_code
def yX10_keepIf : MethodName := ⟨RX10, "keepIf", "(Z)V"⟩
abbrev cX10_act : ByteArray := prog_1_method_68_code
def yX10_act : MethodName := ⟨RX10, "act", "(III)Z"⟩
abbrev cX10_allPass : ByteArray := prog_1_method_69_code
def yX10_allPass : MethodName := ⟨RX10, "allPass", "(I)Z"⟩
abbrev cX10_drawn : ByteArray := prog_1_method_70_code
def yX10_drawn : MethodName := ⟨RX10, "drawn", "(I)V"⟩
abbrev cX10_hourOf : ByteArray := prog_1_method_71_code
def yX10_hourOf : MethodName := ⟨RX10, "hourOf", "(I)I"⟩
abbrev cX10_catOf : ByteArray := prog_1_method_72_code
def yX10_catOf : MethodName := ⟨RX10, "catOf", "(I)I"⟩
abbrev cX10_houseOf : ByteArray := prog_1_method_73_code
def yX10_houseOf : MethodName := ⟨RX10, "houseOf", "(I)I"⟩
abbrev cX10_deedOf : ByteArray := prog_1_method_74_code
def yX10_deedOf : MethodName := ⟨RX10, "deedOf", "(I)I"⟩
abbrev cX10_bestPairs : ByteArray := prog_1_method_75_code
def yX10_bestPairs : MethodName := ⟨RX10, "bestPairs", "(IZ)I"⟩
abbrev cX10_tell : ByteArray := prog_1_method_76_code
def yX10_tell : MethodName := ⟨RX10, "tell", "(LNightCats$Notes;IIIZ)I"⟩
abbrev cX10_canBeOne : ByteArray := prog_1_method_77_code
def yX10_canBeOne : MethodName := ⟨RX10, "canBeOne", "(LNightCats$Notes;II)Z"⟩
abbrev cX10_around : ByteArray := prog_1_method_78_code
def yX10_around : MethodName := ⟨RX10, "around", "(II)I"⟩
abbrev cX10_fitsClues : ByteArray := prog_1_method_79_code
def yX10_fitsClues : MethodName := ⟨RX10, "fitsClues", "(I)Z"⟩
abbrev cX10_mostAlike : ByteArray := prog_1_method_80_code
def yX10_mostAlike : MethodName := ⟨RX10, "mostAlike", "(II)I"⟩
abbrev cX10_fitsClaims : ByteArray := prog_1_method_81_code
def yX10_fitsClaims : MethodName := ⟨RX10, "fitsClaims", "(LNightCats$Text;)Z"⟩
abbrev cX10_isMove : ByteArray := prog_1_method_82_code
def yX10_isMove : MethodName := ⟨RX10, "isMove", "(II)Z"⟩
abbrev cX10_isLost : ByteArray := prog_1_method_83_code
def yX10_isLost : MethodName := ⟨RX10, "isLost", "(II)Z"⟩
def RX11 : String := "NightCatsModel"
def TX11 : u_T := fun k => match k with
  | 0 => ("NightCatsModel", "a", "[I", true)
  | 1 => ("NightCatsModel", "image", "[I", true)
  | 2 => ("NightCatsModel", "texts", "[I", true)
  | 3 => ("NightCatsModel", "tape", "[I", true)
  | 4 => ("NightCatsModel", "taped", "I", false)
  | 5 => ("NightCatsModel", "fault", "I", false)
  | 6 => ("NightCatsModel", "faultPlace", "I", false)
  | 7 => ("NightCatsModel", "cursor", "I", false)
  | 8 => ("NightCatsModel", "place", "I", false)
  | 9 => ("NightCatsModel", "token", "I", false)
  | 10 => ("NightCatsModel", "number", "I", false)
  | 11 => ("NightCatsModel", "word", "J", false)
  | 12 => ("NightCatsModel", "text0", "I", false)
  | 13 => ("NightCatsModel", "written", "I", false)
  | 14 => ("NightCatsModel", "sort0", "I", false)
  | 15 => ("NightCatsModel", "pile", "[I", true)
  | 16 => ("NightCatsModel", "piled", "I", false)
  | 17 => ("NightCatsModel", "opens", "I", false)
  | 18 => ("NightCatsModel", "isWhole", "Z", false)
  | 19 => ("NightCatsModel", "once", "I", false)
  | 20 => ("NightCatsModel", "named", "[I", true)
  | 21 => ("NightCatsModel", "values", "[J", true)
  | 22 => ("NightCatsModel", "truth", "[Z", true)
  | 23 => ("NightCatsModel", "isWritten", "Z", false)
  | 24 => ("NightCatsModel", "tookAll", "I", false)
  | 25 => ("NightCatsModel", "aside", "[I", true)
  | 26 => ("NightCatsModel", "pairs", "I", false)
  | 27 => ("NightCatsModel", "steps", "I", false)
  | 28 => ("NightCatsModel", "farthest", "I", false)
  | 29 => ("NightCatsModel", "tracks", "[I", true)
  | 30 => ("NightCatsModel", "firstJoin", "I", false)
  | 31 => ("NightCatsModel", "joinWays", "I", false)
  | _ => ("NightCatsModel", "wins", "[Z", true)
def tyX11 : Nat → FieldType := fun k => match k with
  | 0 => .array .int
  | 1 => .array .int
  | 2 => .array .int
  | 3 => .array .int
  | 4 => .int
  | 5 => .int
  | 6 => .int
  | 7 => .int
  | 8 => .int
  | 9 => .int
  | 10 => .int
  | 11 => .long
  | 12 => .int
  | 13 => .int
  | 14 => .int
  | 15 => .array .int
  | 16 => .int
  | 17 => .int
  | 18 => .boolean
  | 19 => .int
  | 20 => .array .int
  | 21 => .array .long
  | 22 => .array .boolean
  | 23 => .boolean
  | 24 => .int
  | 25 => .array .int
  | 26 => .int
  | 27 => .int
  | 28 => .int
  | 29 => .array .int
  | 30 => .int
  | 31 => .int
  | _ => .array .boolean
abbrev wsX110 : List Cond := u_ws RX11 TX11 33
theorem nmX11 : ∀ a, a < 33 → ∀ b, b < 33 → a ≠ b → (TX11 a).2.1 ≠ (TX11 b).2.1 := by decide +kernel
theorem tyX11_ok : ∀ k, k < 33 → parseFieldDescriptor (TX11 k).2.2.1 = some (tyX11 k) := by decide +kernel
abbrev cX11_init : ByteArray := prog_13_method_1_code
def yX11_init : MethodName := ⟨RX11, "<init>", "()V"⟩
abbrev cX11_copy : ByteArray := prog_13_method_2_code
def yX11_copy : MethodName := ⟨RX11, "copy", "([I[I)V"⟩
abbrev cX11_isIn : ByteArray := prog_13_method_3_code
def yX11_isIn : MethodName := ⟨RX11, "isIn", "(III)Z"⟩
abbrev cX11_held : ByteArray := prog_13_method_4_code
def yX11_held : MethodName := ⟨RX11, "held", "(JII)I"⟩
abbrev cX11_has : ByteArray := prog_13_method_5_code
def yX11_has : MethodName := ⟨RX11, "has", "(II)Z"⟩
abbrev cX11_bits : ByteArray := prog_13_method_6_code
def yX11_bits : MethodName := ⟨RX11, "bits", "(I)I"⟩
abbrev cX11_isHouse : ByteArray := prog_13_method_7_code
def yX11_isHouse : MethodName := ⟨RX11, "isHouse", "(I)Z"⟩
abbrev cX11_isCat : ByteArray := prog_13_method_8_code
def yX11_isCat : MethodName := ⟨RX11, "isCat", "(I)Z"⟩
abbrev cX11_isPlace : ByteArray := prog_13_method_9_code
def yX11_isPlace : MethodName := ⟨RX11, "isPlace", "(I)Z"⟩
abbrev cX11_get : ByteArray := prog_13_method_10_code
def yX11_get : MethodName := ⟨RX11, "get", "(II)I"⟩
abbrev cX11_lay : ByteArray := prog_13_method_11_code
def yX11_lay : MethodName := ⟨RX11, "lay", "(III)V"⟩
abbrev cX11_getOf : ByteArray := prog_13_method_12_code
def yX11_getOf : MethodName := ⟨RX11, "getOf", "(II)I"⟩
abbrev cX11_layOf : ByteArray := prog_13_method_13_code
def yX11_layOf : MethodName := ⟨RX11, "layOf", "(III)V"⟩
abbrev cX11_isWithout : ByteArray := prog_13_method_14_code
def yX11_isWithout : MethodName := ⟨RX11, "isWithout", "(I)Z"⟩
abbrev cX11_placeOf : ByteArray := prog_13_method_15_code
def yX11_placeOf : MethodName := ⟨RX11, "placeOf", "(I)I"⟩
abbrev cX11_catIn : ByteArray := prog_13_method_16_code
def yX11_catIn : MethodName := ⟨RX11, "catIn", "(I)I"⟩
abbrev cX11_apart : ByteArray := prog_13_method_17_code
def yX11_apart : MethodName := ⟨RX11, "apart", "(II)I"⟩
abbrev cX11_farOf : ByteArray := prog_13_method_18_code
def yX11_farOf : MethodName := ⟨RX11, "farOf", "(II)I"⟩
abbrev cX11_house : ByteArray := prog_13_method_19_code
def yX11_house : MethodName := ⟨RX11, "house", "(II)I"⟩
abbrev cX11_beginHouse : ByteArray := prog_13_method_20_code
def yX11_beginHouse : MethodName := ⟨RX11, "beginHouse", "(I)V"⟩
abbrev cX11_cat : ByteArray := prog_13_method_21_code
def yX11_cat : MethodName := ⟨RX11, "cat", "(II)I"⟩
abbrev cX11_beginCat : ByteArray := prog_13_method_22_code
def yX11_beginCat : MethodName := ⟨RX11, "beginCat", "(I)V"⟩
abbrev cX11_four : ByteArray := prog_13_method_23_code
def yX11_four : MethodName := ⟨RX11, "four", "(I)V"⟩
abbrev cX11_feed : ByteArray := prog_13_method_24_code
def yX11_feed : MethodName := ⟨RX11, "feed", "(IIIII)I"⟩
abbrev cX11_end : ByteArray := prog_13_method_25_code
def yX11_end : MethodName := ⟨RX11, "end", "(I)I"⟩
abbrev cX11_byteAt : ByteArray := prog_13_method_26_code
def yX11_byteAt : MethodName := ⟨RX11, "byteAt", "(I)I"⟩
abbrev cX11_isLetterByte : ByteArray := prog_13_method_27_code
def yX11_isLetterByte : MethodName := ⟨RX11, "isLetterByte", "(I)Z"⟩
abbrev cX11_isFigure : ByteArray := prog_13_method_28_code
def yX11_isFigure : MethodName := ⟨RX11, "isFigure", "(I)Z"⟩
abbrev cX11_isSign : ByteArray := prog_13_method_29_code
def yX11_isSign : MethodName := ⟨RX11, "isSign", "(I)Z"⟩
abbrev cX11_nextToken : ByteArray := prog_13_method_30_code
def yX11_nextToken : MethodName := ⟨RX11, "nextToken", "()V"⟩
abbrev cX11_w2 : ByteArray := prog_13_method_31_code
def yX11_w2 : MethodName := ⟨RX11, "w2", "(II)J"⟩
abbrev cX11_w3 : ByteArray := prog_13_method_32_code
def yX11_w3 : MethodName := ⟨RX11, "w3", "(III)J"⟩
abbrev cX11_w4 : ByteArray := prog_13_method_33_code
def yX11_w4 : MethodName := ⟨RX11, "w4", "(IIII)J"⟩
abbrev cX11_w5 : ByteArray := prog_13_method_34_code
def yX11_w5 : MethodName := ⟨RX11, "w5", "(IIIII)J"⟩
abbrev cX11_w6 : ByteArray := prog_13_method_35_code
def yX11_w6 : MethodName := ⟨RX11, "w6", "(IIIIII)J"⟩
abbrev cX11_isWord : ByteArray := prog_13_method_36_code
def yX11_isWord : MethodName := ⟨RX11, "isWord", "(J)Z"⟩
abbrev cX11_emit : ByteArray := prog_13_method_37_code
def yX11_emit : MethodName := ⟨RX11, "emit", "(II)V"⟩
abbrev cX11_nameOf : ByteArray := prog_13_method_38_code
def yX11_nameOf : MethodName := ⟨RX11, "nameOf", "()I"⟩
abbrev cX11_isOf : ByteArray := prog_13_method_39_code
def yX11_isOf : MethodName := ⟨RX11, "isOf", "(I)Z"⟩
abbrev cX11_rank : ByteArray := prog_13_method_40_code
def yX11_rank : MethodName := ⟨RX11, "rank", "(I)I"⟩
abbrev cX11_settle : ByteArray := prog_13_method_41_code
def yX11_settle : MethodName := ⟨RX11, "settle", "(I)V"⟩
abbrev cX11_openAt : ByteArray := prog_13_method_42_code
def yX11_openAt : MethodName := ⟨RX11, "openAt", "()I"⟩
abbrev cX11_openNow : ByteArray := prog_13_method_43_code
def yX11_openNow : MethodName := ⟨RX11, "openNow", "()I"⟩
abbrev cX11_isCompared : ByteArray := prog_13_method_44_code
def yX11_isCompared : MethodName := ⟨RX11, "isCompared", "()Z"⟩
abbrev cX11_isAskAhead : ByteArray := prog_13_method_45_code
def yX11_isAskAhead : MethodName := ⟨RX11, "isAskAhead", "()Z"⟩
abbrev cX11_opened : ByteArray := prog_13_method_46_code
def yX11_opened : MethodName := ⟨RX11, "opened", "(I)I"⟩
abbrev cX11_beginOne : ByteArray := prog_13_method_47_code
def yX11_beginOne : MethodName := ⟨RX11, "beginOne", "()I"⟩
abbrev cX11_endOne : ByteArray := prog_13_method_48_code
def yX11_endOne : MethodName := ⟨RX11, "endOne", "()I"⟩
abbrev cX11_compareOf : ByteArray := prog_13_method_49_code
def yX11_compareOf : MethodName := ⟨RX11, "compareOf", "()I"⟩
abbrev cX11_betweenOf : ByteArray := prog_13_method_50_code
def yX11_betweenOf : MethodName := ⟨RX11, "betweenOf", "()I"⟩
abbrev cX11_partOf : ByteArray := prog_13_method_51_code
def yX11_partOf : MethodName := ⟨RX11, "partOf", "(I)I"⟩
abbrev cX11_behindOne : ByteArray := prog_13_method_52_code
def yX11_behindOne : MethodName := ⟨RX11, "behindOne", "()I"⟩
abbrev cX11_summed : ByteArray := prog_13_method_53_code
def yX11_summed : MethodName := ⟨RX11, "summed", "()I"⟩
abbrev cX11_figure : ByteArray := prog_13_method_54_code
def yX11_figure : MethodName := ⟨RX11, "figure", "(III)I"⟩
abbrev cX11_lawClause : ByteArray := prog_13_method_55_code
def yX11_lawClause : MethodName := ⟨RX11, "lawClause", "(I)I"⟩
abbrev cX11_pair : ByteArray := prog_13_method_56_code
def yX11_pair : MethodName := ⟨RX11, "pair", "(IIJI)I"⟩
abbrev cX11_body : ByteArray := prog_13_method_57_code
def yX11_body : MethodName := ⟨RX11, "body", "(II)I"⟩
abbrev cX11_sortOf : ByteArray := prog_13_method_58_code
def yX11_sortOf : MethodName := ⟨RX11, "sortOf", "()I"⟩
abbrev cX11_clause : ByteArray := prog_13_method_59_code
def yX11_clause : MethodName := ⟨RX11, "clause", "()I"⟩
abbrev cX11_readText : ByteArray := prog_13_method_60_code
def yX11_readText : MethodName := ⟨RX11, "readText", "()I"⟩
abbrev cX11_text : ByteArray := prog_13_method_61_code
def yX11_text : MethodName := ⟨RX11, "text", "()I"⟩
abbrev cX11_fault : ByteArray := prog_13_method_62_code
def yX11_fault : MethodName := ⟨RX11, "fault", "(I)I"⟩
abbrev cX11_by : ByteArray := prog_13_method_63_code
def yX11_by : MethodName := ⟨RX11, "by", "(I)Z"⟩
abbrev cX11_clip : ByteArray := prog_13_method_64_code
def yX11_clip : MethodName := ⟨RX11, "clip", "(J)J"⟩
abbrev cX11_two : ByteArray := prog_13_method_65_code
def yX11_two : MethodName := ⟨RX11, "two", "(IJJ)J"⟩
abbrev cX11_isAsked : ByteArray := prog_13_method_66_code
def yX11_isAsked : MethodName := ⟨RX11, "isAsked", "(IJJ)Z"⟩
abbrev cX11_chillOf : ByteArray := prog_13_method_67_code
def yX11_chillOf : MethodName := ⟨RX11, "chillOf", "(J)J"⟩
abbrev cX11_byTen : ByteArray := prog_13_method_68_code
def yX11_byTen : MethodName := ⟨RX11, "byTen", "(J)J"⟩
abbrev cX11_turnOf : ByteArray := prog_13_method_69_code
def yX11_turnOf : MethodName := ⟨RX11, "turnOf", "(JJ)J"⟩
abbrev cX11_joined : ByteArray := prog_13_method_70_code
def yX11_joined : MethodName := ⟨RX11, "joined", "(IZZ)Z"⟩
abbrev cX11_summedUp : ByteArray := prog_13_method_71_code
def yX11_summedUp : MethodName := ⟨RX11, "summedUp", "(II)J"⟩
abbrev cX11_says : ByteArray := prog_13_method_72_code
def yX11_says : MethodName := ⟨RX11, "says", "(IIII)I"⟩
abbrev cX11_name : ByteArray := prog_13_method_73_code
def yX11_name : MethodName := ⟨RX11, "name", "(I)V"⟩
abbrev cX11_takesOf : ByteArray := prog_13_method_74_code
def yX11_takesOf : MethodName := ⟨RX11, "takesOf", "(III)I"⟩
abbrev cX11_goesOf : ByteArray := prog_13_method_75_code
def yX11_goesOf : MethodName := ⟨RX11, "goesOf", "(I)I"⟩
abbrev cX11_write : ByteArray := prog_13_method_76_code
def yX11_write : MethodName := ⟨RX11, "write", "(III)V"⟩
abbrev cX11_drawnBy : ByteArray := prog_13_method_77_code
def yX11_drawnBy : MethodName := ⟨RX11, "drawnBy", "(I)I"⟩
abbrev cX11_anew : ByteArray := prog_13_method_78_code
def yX11_anew : MethodName := ⟨RX11, "anew", "()V"⟩
abbrev cX11_canLet : ByteArray := prog_13_method_79_code
def yX11_canLet : MethodName := ⟨RX11, "canLet", "(II)Z"⟩
abbrev cX11_letNow : ByteArray := prog_13_method_80_code
def yX11_letNow : MethodName := ⟨RX11, "letNow", "(II)V"⟩
abbrev cX11_outNow : ByteArray := prog_13_method_81_code
def yX11_outNow : MethodName := ⟨RX11, "outNow", "(II)V"⟩
abbrev cX11_canGo : ByteArray := prog_13_method_82_code
def yX11_canGo : MethodName := ⟨RX11, "canGo", "(I)Z"⟩
abbrev cX11_goNow : ByteArray := prog_13_method_83_code
def yX11_goNow : MethodName := ⟨RX11, "goNow", "(IZ)V"⟩
abbrev cX11_takeNow : ByteArray := prog_13_method_84_code
def yX11_takeNow : MethodName := ⟨RX11, "takeNow", "(I)V"⟩
abbrev cX11_pass : ByteArray := prog_13_method_85_code
def yX11_pass : MethodName := ⟨RX11, "pass", "()V"⟩
abbrev cX11_keep : ByteArray := prog_13_method_86_code
def yX11_keep : MethodName := ⟨RX11, "keep", "()V"⟩
abbrev cX11_undo : ByteArray := prog_13_method_87_code
def yX11_undo : MethodName := ⟨RX11, "undo", "()I"⟩
abbrev cX11_let : ByteArray := prog_13_method_88_code
def yX11_let : MethodName := ⟨RX11, "let", "(II)Z"⟩
abbrev cX11_out : ByteArray := prog_13_method_89_code
def yX11_out : MethodName := ⟨RX11, "out", "(I)I"⟩
abbrev cX11_go : ByteArray := prog_13_method_90_code
def yX11_go : MethodName := ⟨RX11, "go", "(IZ)Z"⟩
abbrev cX11_arePassed : ByteArray := prog_13_method_91_code
def yX11_arePassed : MethodName := ⟨RX11, "arePassed", "(I)Z"⟩
abbrev cX11_hour : ByteArray := prog_13_method_92_code
def yX11_hour : MethodName := ⟨RX11, "hour", "(I)I"⟩
abbrev cX11_isPlayed : ByteArray := prog_13_method_93_code
def yX11_isPlayed : MethodName := ⟨RX11, "isPlayed", "(I)Z"⟩
abbrev cX11_played : ByteArray := prog_13_method_94_code
def yX11_played : MethodName := ⟨RX11, "played", "(I)I"⟩
abbrev cX11_happens : ByteArray := prog_13_method_95_code
def yX11_happens : MethodName := ⟨RX11, "happens", "(I)V"⟩
abbrev cX11_years : ByteArray := prog_13_method_96_code
def yX11_years : MethodName := ⟨RX11, "years", "(II)I"⟩
abbrev cX11_of : ByteArray := prog_13_method_97_code
def yX11_of : MethodName := ⟨RX11, "of", "(II)I"⟩
abbrev cX11_ofHouse : ByteArray := prog_13_method_98_code
def yX11_ofHouse : MethodName := ⟨RX11, "ofHouse", "(II)I"⟩
abbrev cX11_takes : ByteArray := prog_13_method_99_code
def yX11_takes : MethodName := ⟨RX11, "takes", "(II)I"⟩
abbrev cX11_goes : ByteArray := prog_13_method_100_code
def yX11_goes : MethodName := ⟨RX11, "goes", "(I)I"⟩
abbrev cX11_allTaken : ByteArray := prog_13_method_101_code
def yX11_allTaken : MethodName := ⟨RX11, "allTaken", "()I"⟩
abbrev cX11_is : ByteArray := prog_13_method_102_code
def yX11_is : MethodName := ⟨RX11, "is", "(I)I"⟩
abbrev cX11_lineOf : ByteArray := prog_13_method_103_code
def yX11_lineOf : MethodName := ⟨RX11, "lineOf", "(II)I"⟩
abbrev cX11_book : ByteArray := prog_13_method_104_code
def yX11_book : MethodName := ⟨RX11, "book", "(II)I"⟩
abbrev cX11_ledger : ByteArray := prog_13_method_105_code
def yX11_ledger : MethodName := ⟨RX11, "ledger", "(I)I"⟩
abbrev cX11_at : ByteArray := prog_13_method_106_code
def yX11_at : MethodName := ⟨RX11, "at", "(I)I"⟩
abbrev cX11_gap : ByteArray := prog_13_method_107_code
def yX11_gap : MethodName := ⟨RX11, "gap", "()I"⟩
abbrev cX11_coldest : ByteArray := prog_13_method_108_code
def yX11_coldest : MethodName := ⟨RX11, "coldest", "()I"⟩
abbrev cX11_dreamless : ByteArray := prog_13_method_109_code
def yX11_dreamless : MethodName := ⟨RX11, "dreamless", "()I"⟩
abbrev cX11_free : ByteArray := prog_13_method_110_code
def yX11_free : MethodName := ⟨RX11, "free", "()I"⟩
abbrev cX11_nearest : ByteArray := prog_13_method_111_code
def yX11_nearest : MethodName := ⟨RX11, "nearest", "(I)I"⟩
abbrev cX11_divisor : ByteArray := prog_13_method_112_code
def yX11_divisor : MethodName := ⟨RX11, "divisor", "(JJ)J"⟩
abbrev cX11_part : ByteArray := prog_13_method_113_code
def yX11_part : MethodName := ⟨RX11, "part", "(JJZ)J"⟩
abbrev cX11_share : ByteArray := prog_13_method_114_code
def yX11_share : MethodName := ⟨RX11, "share", "(IZ)I"⟩
abbrev cX11_foretold : ByteArray := prog_13_method_115_code
def yX11_foretold : MethodName := ⟨RX11, "foretold", "(III)I"⟩
abbrev cX11_far : ByteArray := prog_13_method_116_code
def yX11_far : MethodName := ⟨RX11, "far", "(II)I"⟩
abbrev cX11_digitBy : ByteArray := prog_13_method_117_code
def yX11_digitBy : MethodName := ⟨RX11, "digitBy", "(II)I"⟩
abbrev cX11_isMatch : ByteArray := prog_13_method_118_code
def yX11_isMatch : MethodName := ⟨RX11, "isMatch", "(I)Z"⟩
abbrev cX11_mostPairs : ByteArray := prog_13_method_119_code
def yX11_mostPairs : MethodName := ⟨RX11, "mostPairs", "()I"⟩
abbrev cX11_bestMatch : ByteArray := prog_13_method_120_code
def yX11_bestMatch : MethodName := ⟨RX11, "bestMatch", "(Z)I"⟩
abbrev cX11_match : ByteArray := prog_13_method_121_code
def yX11_match : MethodName := ⟨RX11, "match", "(I)I"⟩
abbrev cX11_matched : ByteArray := prog_13_method_122_code
def yX11_matched : MethodName := ⟨RX11, "matched", "(I)I"⟩
abbrev cX11_latest : ByteArray := prog_13_method_123_code
def yX11_latest : MethodName := ⟨RX11, "latest", "(I)I"⟩
abbrev cX11_orders : ByteArray := prog_13_method_124_code
def yX11_orders : MethodName := ⟨RX11, "orders", "()J"⟩
abbrev cX11_order : ByteArray := prog_13_method_125_code
def yX11_order : MethodName := ⟨RX11, "order", "(I)I"⟩
abbrev cX11_isSight : ByteArray := prog_13_method_126_code
def yX11_isSight : MethodName := ⟨RX11, "isSight", "(I)Z"⟩
abbrev cX11_seen : ByteArray := prog_13_method_127_code
def yX11_seen : MethodName := ⟨RX11, "seen", "(II)I"⟩
abbrev cX11_areOne : ByteArray := prog_13_method_128_code
def yX11_areOne : MethodName := ⟨RX11, "areOne", "(II)Z"⟩
abbrev cX11_canFollow : ByteArray := prog_13_method_129_code
def yX11_canFollow : MethodName := ⟨RX11, "canFollow", "(I)Z"⟩
abbrev cX11_areTracks : ByteArray := prog_13_method_130_code
def yX11_areTracks : MethodName := ⟨RX11, "areTracks", "(I)Z"⟩
abbrev cX11_fewestCats : ByteArray := prog_13_method_131_code
def yX11_fewestCats : MethodName := ⟨RX11, "fewestCats", "()I"⟩
abbrev cX11_fewest : ByteArray := prog_13_method_132_code
def yX11_fewest : MethodName := ⟨RX11, "fewest", "()I"⟩
abbrev cX11_track : ByteArray := prog_13_method_133_code
def yX11_track : MethodName := ⟨RX11, "track", "(I)I"⟩
abbrev cX11_same : ByteArray := prog_13_method_134_code
def yX11_same : MethodName := ⟨RX11, "same", "(II)Z"⟩
abbrev cX11_told : ByteArray := prog_13_method_135_code
def yX11_told : MethodName := ⟨RX11, "told", "(II)I"⟩
abbrev cX11_which : ByteArray := prog_13_method_136_code
def yX11_which : MethodName := ⟨RX11, "which", "()I"⟩
abbrev cX11_likely : ByteArray := prog_13_method_137_code
def yX11_likely : MethodName := ⟨RX11, "likely", "(IZ)J"⟩
abbrev cX11_mostAlike : ByteArray := prog_13_method_138_code
def yX11_mostAlike : MethodName := ⟨RX11, "mostAlike", "(II)I"⟩
abbrev cX11_askNext : ByteArray := prog_13_method_139_code
def yX11_askNext : MethodName := ⟨RX11, "askNext", "()I"⟩
abbrev cX11_piece : ByteArray := prog_13_method_140_code
def yX11_piece : MethodName := ⟨RX11, "piece", "(II)I"⟩
abbrev cX11_pieceBy : ByteArray := prog_13_method_141_code
def yX11_pieceBy : MethodName := ⟨RX11, "pieceBy", "(II)I"⟩
abbrev cX11_firstBit : ByteArray := prog_13_method_142_code
def yX11_firstBit : MethodName := ⟨RX11, "firstBit", "(I)I"⟩
abbrev cX11_areJoined : ByteArray := prog_13_method_143_code
def yX11_areJoined : MethodName := ⟨RX11, "areJoined", "(I)Z"⟩
abbrev cX11_layJoins : ByteArray := prog_13_method_144_code
def yX11_layJoins : MethodName := ⟨RX11, "layJoins", "()V"⟩
abbrev cX11_joins : ByteArray := prog_13_method_145_code
def yX11_joins : MethodName := ⟨RX11, "joins", "(I)I"⟩
abbrev cX11_dream : ByteArray := prog_13_method_146_code
def yX11_dream : MethodName := ⟨RX11, "dream", "()J"⟩
abbrev cX11_price : ByteArray := prog_13_method_147_code
def yX11_price : MethodName := ⟨RX11, "price", "(I)I"⟩
abbrev cX11_chances : ByteArray := prog_13_method_148_code
def yX11_chances : MethodName := ⟨RX11, "chances", "(IIZ)J"⟩
abbrev cX11_canPlay : ByteArray := prog_13_method_149_code
def yX11_canPlay : MethodName := ⟨RX11, "canPlay", "(IIII)Z"⟩
abbrev cX11_playOf : ByteArray := prog_13_method_150_code
def yX11_playOf : MethodName := ⟨RX11, "playOf", "(II)I"⟩
abbrev cX11_layGame : ByteArray := prog_13_method_151_code
def yX11_layGame : MethodName := ⟨RX11, "layGame", "(II)I"⟩
abbrev cX11_isHeap : ByteArray := prog_13_method_152_code
def yX11_isHeap : MethodName := ⟨RX11, "isHeap", "(I)Z"⟩
abbrev cX11_game : ByteArray := prog_13_method_153_code
def yX11_game : MethodName := ⟨RX11, "game", "(II)I"⟩
abbrev cX11_play : ByteArray := prog_13_method_154_code
def yX11_play : MethodName := ⟨RX11, "play", "(II)I"⟩
abbrev cX11_said : ByteArray := prog_13_method_155_code
def yX11_said : MethodName := ⟨RX11, "said", "(III)I"⟩
abbrev cX11_whose : ByteArray := prog_13_method_156_code
def yX11_whose : MethodName := ⟨RX11, "whose", "()I"⟩
abbrev cX11_image : ByteArray := prog_13_method_157_code
def yX11_image : MethodName := ⟨RX11, "image", "()I"⟩
abbrev cX11_back : ByteArray := prog_13_method_158_code
def yX11_back : MethodName := ⟨RX11, "back", "()I"⟩
abbrev cX11_about : ByteArray := prog_13_method_159_code
def yX11_about : MethodName := ⟨RX11, "about", "(I)I"⟩
def RJ11 : String := "java/lang/Character"
abbrev cJ11_isValidCodePoint_9a6ad : ByteArray := prog_14_method_11_code
def yJ11_isValidCodePoint_9a6ad : MethodName := ⟨RJ11, "isValidCodePoint", "(I)Z"⟩
abbrev cJ11_highSurrogate_5068e : ByteArray := prog_14_method_28_code
def yJ11_highSurrogate_5068e : MethodName := ⟨RJ11, "highSurrogate", "(I)C"⟩
abbrev cJ11_lowSurrogate_5068e : ByteArray := prog_14_method_29_code
def yJ11_lowSurrogate_5068e : MethodName := ⟨RJ11, "lowSurrogate", "(I)C"⟩
def RJ6 : String := "java/lang/Integer"
abbrev cJ6_bitCount_0f7a4 : ByteArray := prog_15_method_49_code
def yJ6_bitCount_0f7a4 : MethodName := ⟨RJ6, "bitCount", "(I)I"⟩
def RJ9 : String := "java/lang/Math"
abbrev cJ9_abs_0f7a4 : ByteArray := prog_16_method_59_code
def yJ9_abs_0f7a4 : MethodName := ⟨RJ9, "abs", "(I)I"⟩
abbrev cJ9_abs_067f4 : ByteArray := prog_16_method_61_code
def yJ9_abs_067f4 : MethodName := ⟨RJ9, "abs", "(J)J"⟩
abbrev cJ9_max_7cf53 : ByteArray := prog_16_method_65_code
def yJ9_max_7cf53 : MethodName := ⟨RJ9, "max", "(II)I"⟩
abbrev cJ9_max_f86c9 : ByteArray := prog_16_method_66_code
def yJ9_max_f86c9 : MethodName := ⟨RJ9, "max", "(JJ)J"⟩
abbrev cJ9_min_7cf53 : ByteArray := prog_16_method_69_code
def yJ9_min_7cf53 : MethodName := ⟨RJ9, "min", "(II)I"⟩
abbrev cJ9_min_f86c9 : ByteArray := prog_16_method_70_code
def yJ9_min_f86c9 : MethodName := ⟨RJ9, "min", "(JJ)J"⟩
def RJ0 : String := "java/lang/String"
abbrev cJ0_length_8abf5 : ByteArray := prog_17_method_54_code
def yJ0_length_8abf5 : MethodName := ⟨RJ0, "length", "()I"⟩
abbrev cJ0_charAt_5068e : ByteArray := prog_17_method_56_code
def yJ0_charAt_5068e : MethodName := ⟨RJ0, "charAt", "(I)C"⟩
abbrev cJ0_indexOf_0f7a4 : ByteArray := prog_17_method_79_code
def yJ0_indexOf_0f7a4 : MethodName := ⟨RJ0, "indexOf", "(I)I"⟩
abbrev cJ0_indexOf_7cf53 : ByteArray := prog_17_method_80_code
def yJ0_indexOf_7cf53 : MethodName := ⟨RJ0, "indexOf", "(II)I"⟩
abbrev cJ0_coder_7d493 : ByteArray := prog_17_method_152_code
def yJ0_coder_7d493 : MethodName := ⟨RJ0, "coder", "()B"⟩
abbrev cJ0_isLatin1_aae02 : ByteArray := prog_17_method_154_code
def yJ0_isLatin1_aae02 : MethodName := ⟨RJ0, "isLatin1", "()Z"⟩
abbrev cJ0_checkIndex_df160 : ByteArray := prog_17_method_155_code
def yJ0_checkIndex_df160 : MethodName := ⟨RJ0, "checkIndex", "(II)V"⟩
abbrev cJ0_checkBoundsBeginEnd_23922 : ByteArray := prog_17_method_158_code
def yJ0_checkBoundsBeginEnd_23922 : MethodName := ⟨RJ0, "checkBoundsBeginEnd", "(III)V"⟩
def RJ1 : String := "java/lang/StringLatin1"
abbrev cJ1_charAt_3b067 : ByteArray := prog_18_method_2_code
def yJ1_charAt_3b067 : MethodName := ⟨RJ1, "charAt", "([BI)C"⟩
abbrev cJ1_canEncode_9a6ad : ByteArray := prog_18_method_4_code
def yJ1_canEncode_9a6ad : MethodName := ⟨RJ1, "canEncode", "(I)Z"⟩
abbrev cJ1_indexOf_4cfef : ByteArray := prog_18_method_22_code
def yJ1_indexOf_4cfef : MethodName := ⟨RJ1, "indexOf", "([BIII)I"⟩
abbrev cJ1_indexOfChar_4cfef : ByteArray := prog_18_method_23_code
def yJ1_indexOfChar_4cfef : MethodName := ⟨RJ1, "indexOfChar", "([BIII)I"⟩
def RJ2 : String := "java/lang/StringUTF16"
abbrev cJ2_getChar_3b067 : ByteArray := prog_19_method_5_code
def yJ2_getChar_3b067 : MethodName := ⟨RJ2, "getChar", "([BI)C"⟩
abbrev cJ2_length_9d52b : ByteArray := prog_19_method_6_code
def yJ2_length_9d52b : MethodName := ⟨RJ2, "length", "([B)I"⟩
abbrev cJ2_indexOf_4cfef : ByteArray := prog_19_method_40_code
def yJ2_indexOf_4cfef : MethodName := ⟨RJ2, "indexOf", "([BIII)I"⟩
abbrev cJ2_indexOfChar_4cfef : ByteArray := prog_19_method_47_code
def yJ2_indexOfChar_4cfef : MethodName := ⟨RJ2, "indexOfChar", "([BIII)I"⟩
abbrev cJ2_indexOfCharUnsafe_4cfef : ByteArray := prog_19_method_48_code
def yJ2_indexOfCharUnsafe_4cfef : MethodName := ⟨RJ2, "indexOfCharUnsafe", "([BIII)I"⟩
abbrev cJ2_indexOfSupplementary_4cfef : ByteArray := prog_19_method_49_code
def yJ2_indexOfSupplementary_4cfef : MethodName := ⟨RJ2, "indexOfSupplementary", "([BIII)I"⟩
abbrev cJ2_charAt_3b067 : ByteArray := prog_19_method_83_code
def yJ2_charAt_3b067 : MethodName := ⟨RJ2, "charAt", "([BI)C"⟩
abbrev cJ2_checkIndex_2214a : ByteArray := prog_19_method_91_code
def yJ2_checkIndex_2214a : MethodName := ⟨RJ2, "checkIndex", "(I[B)V"⟩
abbrev cJ2_checkBoundsBeginEnd_d044e : ByteArray := prog_19_method_93_code
def yJ2_checkBoundsBeginEnd_d044e : MethodName := ⟨RJ2, "checkBoundsBeginEnd", "(II[B)V"⟩
def RJ10 : String := "java/lang/System"
def RJ3 : String := "jdk/internal/util/Preconditions"
abbrev cJ3_checkIndex_8e157 : ByteArray := prog_21_method_11_code
def yJ3_checkIndex_8e157 : MethodName := ⟨RJ3, "checkIndex", "(IILjava/util/function/BiFunction;)I"⟩
abbrev cJ3_checkFromToIndex_8c36e : ByteArray := prog_21_method_12_code
def yJ3_checkFromToIndex_8c36e : MethodName := ⟨RJ3, "checkFromToIndex", "(IIILjava/util/function/BiFunction;)I"⟩
