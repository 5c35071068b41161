section
-- ===== PART A: goes FIRST, ahead of the names: the tables' words, and 'selects' of the private methods out of them =====
/-- a private method of a class that the tables say can be made, by its rows of tables_1 -/
def lw_okq (q : MethodName × Nat) : Prop := (q.1.cls ≠ "java/lang/invoke/MethodHandle" ∧ q.1.cls ≠ "java/lang/invoke/VarHandle") ∧ Cond.instantiable q.1.cls q.2 ∈ tables_1 ∧ Cond.privateMethod q.1 ∈ tables_1 ∧ Cond.instanceMethod q.1 ∈ tables_1
theorem lw_p0 : lw_okq (⟨"BarberMinutes", "store", "(I)V"⟩, 15) := ⟨⟨by decide +kernel, by decide +kernel⟩, List.mem_of_getElem? (i := 23) (by decide +kernel), List.mem_of_getElem? (i := 378) (by decide +kernel), List.mem_of_getElem? (i := 379) (by decide +kernel)⟩
theorem lw_p1 : lw_okq (⟨"BarberMinutes", "refused", "(I)I"⟩, 15) := ⟨⟨by decide +kernel, by decide +kernel⟩, List.mem_of_getElem? (i := 23) (by decide +kernel), List.mem_of_getElem? (i := 386) (by decide +kernel), List.mem_of_getElem? (i := 387) (by decide +kernel)⟩
theorem lw_p2 : lw_okq (⟨"BarberMinutes$Reader", "stepOn", "()V"⟩, 14) := ⟨⟨by decide +kernel, by decide +kernel⟩, List.mem_of_getElem? (i := 31) (by decide +kernel), List.mem_of_getElem? (i := 401) (by decide +kernel), List.mem_of_getElem? (i := 402) (by decide +kernel)⟩
theorem lw_p3 : lw_okq (⟨"BarberMinutes$Reader", "readLetters", "()V"⟩, 14) := ⟨⟨by decide +kernel, by decide +kernel⟩, List.mem_of_getElem? (i := 31) (by decide +kernel), List.mem_of_getElem? (i := 408) (by decide +kernel), List.mem_of_getElem? (i := 409) (by decide +kernel)⟩
theorem lw_p4 : lw_okq (⟨"BarberMinutes$Reader", "readDigits", "()V"⟩, 14) := ⟨⟨by decide +kernel, by decide +kernel⟩, List.mem_of_getElem? (i := 31) (by decide +kernel), List.mem_of_getElem? (i := 420) (by decide +kernel), List.mem_of_getElem? (i := 421) (by decide +kernel)⟩
theorem lw_p5 : lw_okq (⟨"BarberMinutes$Reader", "readLine", "()V"⟩, 14) := ⟨⟨by decide +kernel, by decide +kernel⟩, List.mem_of_getElem? (i := 31) (by decide +kernel), List.mem_of_getElem? (i := 424) (by decide +kernel), List.mem_of_getElem? (i := 425) (by decide +kernel)⟩
theorem lw_p6 : lw_okq (⟨"BarberMinutes$Reader", "lineHere", "()I"⟩, 14) := ⟨⟨by decide +kernel, by decide +kernel⟩, List.mem_of_getElem? (i := 31) (by decide +kernel), List.mem_of_getElem? (i := 428) (by decide +kernel), List.mem_of_getElem? (i := 429) (by decide +kernel)⟩
theorem lw_p7 : lw_okq (⟨"BarberMinutes$Reader", "isWord", "(Ljava/lang/String;)Z"⟩, 14) := ⟨⟨by decide +kernel, by decide +kernel⟩, List.mem_of_getElem? (i := 31) (by decide +kernel), List.mem_of_getElem? (i := 443) (by decide +kernel), List.mem_of_getElem? (i := 444) (by decide +kernel)⟩
theorem lw_p8 : lw_okq (⟨"BarberMinutes$Reader", "fail", "(I)V"⟩, 14) := ⟨⟨by decide +kernel, by decide +kernel⟩, List.mem_of_getElem? (i := 31) (by decide +kernel), List.mem_of_getElem? (i := 495) (by decide +kernel), List.mem_of_getElem? (i := 496) (by decide +kernel)⟩
theorem lw_p9 : lw_okq (⟨"BarberMinutes$Reader", "told", "(I)I"⟩, 14) := ⟨⟨by decide +kernel, by decide +kernel⟩, List.mem_of_getElem? (i := 31) (by decide +kernel), List.mem_of_getElem? (i := 499) (by decide +kernel), List.mem_of_getElem? (i := 500) (by decide +kernel)⟩
theorem lw_p10 : lw_okq (⟨"BarberMinutes$Reader", "readTown", "()V"⟩, 14) := ⟨⟨by decide +kernel, by decide +kernel⟩, List.mem_of_getElem? (i := 31) (by decide +kernel), List.mem_of_getElem? (i := 520) (by decide +kernel), List.mem_of_getElem? (i := 521) (by decide +kernel)⟩
theorem lw_p11 : lw_okq (⟨"BarberMinutes$Reader", "takeWord", "(Ljava/lang/String;)V"⟩, 14) := ⟨⟨by decide +kernel, by decide +kernel⟩, List.mem_of_getElem? (i := 31) (by decide +kernel), List.mem_of_getElem? (i := 525) (by decide +kernel), List.mem_of_getElem? (i := 526) (by decide +kernel)⟩
theorem lw_p12 : lw_okq (⟨"BarberMinutes$Reader", "takeWhole", "(II)I"⟩, 14) := ⟨⟨by decide +kernel, by decide +kernel⟩, List.mem_of_getElem? (i := 31) (by decide +kernel), List.mem_of_getElem? (i := 529) (by decide +kernel), List.mem_of_getElem? (i := 530) (by decide +kernel)⟩
theorem lw_p13 : lw_okq (⟨"BarberMinutes$Reader", "readMan", "()V"⟩, 14) := ⟨⟨by decide +kernel, by decide +kernel⟩, List.mem_of_getElem? (i := 31) (by decide +kernel), List.mem_of_getElem? (i := 535) (by decide +kernel), List.mem_of_getElem? (i := 536) (by decide +kernel)⟩
theorem lw_p14 : lw_okq (⟨"BarberMinutes$Reader", "takeNewName", "(II)V"⟩, 14) := ⟨⟨by decide +kernel, by decide +kernel⟩, List.mem_of_getElem? (i := 31) (by decide +kernel), List.mem_of_getElem? (i := 539) (by decide +kernel), List.mem_of_getElem? (i := 540) (by decide +kernel)⟩
theorem lw_p15 : lw_okq (⟨"BarberMinutes$Reader", "nameHere", "()I"⟩, 14) := ⟨⟨by decide +kernel, by decide +kernel⟩, List.mem_of_getElem? (i := 31) (by decide +kernel), List.mem_of_getElem? (i := 543) (by decide +kernel), List.mem_of_getElem? (i := 544) (by decide +kernel)⟩
def lw_privs_1 : List (MethodName × Nat) := [(⟨"BarberMinutes", "store", "(I)V"⟩, 15), (⟨"BarberMinutes", "refused", "(I)I"⟩, 15), (⟨"BarberMinutes$Reader", "stepOn", "()V"⟩, 14), (⟨"BarberMinutes$Reader", "readLetters", "()V"⟩, 14), (⟨"BarberMinutes$Reader", "readDigits", "()V"⟩, 14), (⟨"BarberMinutes$Reader", "readLine", "()V"⟩, 14), (⟨"BarberMinutes$Reader", "lineHere", "()I"⟩, 14), (⟨"BarberMinutes$Reader", "isWord", "(Ljava/lang/String;)Z"⟩, 14), (⟨"BarberMinutes$Reader", "fail", "(I)V"⟩, 14), (⟨"BarberMinutes$Reader", "told", "(I)I"⟩, 14), (⟨"BarberMinutes$Reader", "readTown", "()V"⟩, 14), (⟨"BarberMinutes$Reader", "takeWord", "(Ljava/lang/String;)V"⟩, 14), (⟨"BarberMinutes$Reader", "takeWhole", "(II)I"⟩, 14), (⟨"BarberMinutes$Reader", "readMan", "()V"⟩, 14), (⟨"BarberMinutes$Reader", "takeNewName", "(II)V"⟩, 14), (⟨"BarberMinutes$Reader", "nameHere", "()I"⟩, 14)]
theorem lw_r1 : ∀ q ∈ lw_privs_1, lw_okq q := List.forall_mem_cons.mpr ⟨lw_p0, List.forall_mem_cons.mpr ⟨lw_p1, List.forall_mem_cons.mpr ⟨lw_p2, List.forall_mem_cons.mpr ⟨lw_p3, List.forall_mem_cons.mpr ⟨lw_p4, List.forall_mem_cons.mpr ⟨lw_p5, List.forall_mem_cons.mpr ⟨lw_p6, List.forall_mem_cons.mpr ⟨lw_p7, List.forall_mem_cons.mpr ⟨lw_p8, List.forall_mem_cons.mpr ⟨lw_p9, List.forall_mem_cons.mpr ⟨lw_p10, List.forall_mem_cons.mpr ⟨lw_p11, List.forall_mem_cons.mpr ⟨lw_p12, List.forall_mem_cons.mpr ⟨lw_p13, List.forall_mem_cons.mpr ⟨lw_p14, List.forall_mem_cons.mpr ⟨lw_p15, fun _ h => absurd h List.not_mem_nil⟩⟩⟩⟩⟩⟩⟩⟩⟩⟩⟩⟩⟩⟩⟩⟩
theorem lw_p16 : lw_okq (⟨"BarberMinutes$Reader", "colourHere", "()I"⟩, 14) := ⟨⟨by decide +kernel, by decide +kernel⟩, List.mem_of_getElem? (i := 31) (by decide +kernel), List.mem_of_getElem? (i := 547) (by decide +kernel), List.mem_of_getElem? (i := 548) (by decide +kernel)⟩
theorem lw_p17 : lw_okq (⟨"BarberMinutes$Reader", "readMotion", "()V"⟩, 14) := ⟨⟨by decide +kernel, by decide +kernel⟩, List.mem_of_getElem? (i := 31) (by decide +kernel), List.mem_of_getElem? (i := 560) (by decide +kernel), List.mem_of_getElem? (i := 561) (by decide +kernel)⟩
theorem lw_p18 : lw_okq (⟨"BarberMinutes$Reader", "readAgainst", "()V"⟩, 14) := ⟨⟨by decide +kernel, by decide +kernel⟩, List.mem_of_getElem? (i := 31) (by decide +kernel), List.mem_of_getElem? (i := 571) (by decide +kernel), List.mem_of_getElem? (i := 572) (by decide +kernel)⟩
theorem lw_p19 : lw_okq (⟨"BarberMinutes$Reader", "toldHere", "(I)I"⟩, 14) := ⟨⟨by decide +kernel, by decide +kernel⟩, List.mem_of_getElem? (i := 31) (by decide +kernel), List.mem_of_getElem? (i := 575) (by decide +kernel), List.mem_of_getElem? (i := 576) (by decide +kernel)⟩
theorem lw_p20 : lw_okq (⟨"BarberMinutes$Reader", "readAmends", "()V"⟩, 14) := ⟨⟨by decide +kernel, by decide +kernel⟩, List.mem_of_getElem? (i := 31) (by decide +kernel), List.mem_of_getElem? (i := 579) (by decide +kernel), List.mem_of_getElem? (i := 580) (by decide +kernel)⟩
theorem lw_p21 : lw_okq (⟨"BarberMinutes$Reader", "readQuarrel", "()V"⟩, 14) := ⟨⟨by decide +kernel, by decide +kernel⟩, List.mem_of_getElem? (i := 31) (by decide +kernel), List.mem_of_getElem? (i := 583) (by decide +kernel), List.mem_of_getElem? (i := 584) (by decide +kernel)⟩
theorem lw_p22 : lw_okq (⟨"BarberMinutes$Reader", "readChair", "()V"⟩, 14) := ⟨⟨by decide +kernel, by decide +kernel⟩, List.mem_of_getElem? (i := 31) (by decide +kernel), List.mem_of_getElem? (i := 587) (by decide +kernel), List.mem_of_getElem? (i := 588) (by decide +kernel)⟩
theorem lw_p23 : lw_okq (⟨"BarberMinutes$Reader", "readHeap", "()V"⟩, 14) := ⟨⟨by decide +kernel, by decide +kernel⟩, List.mem_of_getElem? (i := 31) (by decide +kernel), List.mem_of_getElem? (i := 596) (by decide +kernel), List.mem_of_getElem? (i := 597) (by decide +kernel)⟩
theorem lw_p24 : lw_okq (⟨"BarberMinutes", "granted", "(I)I"⟩, 15) := ⟨⟨by decide +kernel, by decide +kernel⟩, List.mem_of_getElem? (i := 23) (by decide +kernel), List.mem_of_getElem? (i := 615) (by decide +kernel), List.mem_of_getElem? (i := 616) (by decide +kernel)⟩
theorem lw_p25 : lw_okq (⟨"BarberMinutes", "lacksMan", "(I)Z"⟩, 15) := ⟨⟨by decide +kernel, by decide +kernel⟩, List.mem_of_getElem? (i := 23) (by decide +kernel), List.mem_of_getElem? (i := 631) (by decide +kernel), List.mem_of_getElem? (i := 632) (by decide +kernel)⟩
theorem lw_p26 : lw_okq (⟨"BarberMinutes$Minutes", "saysYes", "(LBarberMinutes$Town;II)Z"⟩, 4) := ⟨⟨by decide +kernel, by decide +kernel⟩, List.mem_of_getElem? (i := 192) (by decide +kernel), List.mem_of_getElem? (i := 643) (by decide +kernel), List.mem_of_getElem? (i := 644) (by decide +kernel)⟩
theorem lw_p27 : lw_okq (⟨"BarberMinutes", "lacksMotion", "(I)Z"⟩, 15) := ⟨⟨by decide +kernel, by decide +kernel⟩, List.mem_of_getElem? (i := 23) (by decide +kernel), List.mem_of_getElem? (i := 651) (by decide +kernel), List.mem_of_getElem? (i := 652) (by decide +kernel)⟩
theorem lw_p28 : lw_okq (⟨"BarberMinutes", "noTown", "()Z"⟩, 15) := ⟨⟨by decide +kernel, by decide +kernel⟩, List.mem_of_getElem? (i := 23) (by decide +kernel), List.mem_of_getElem? (i := 681) (by decide +kernel), List.mem_of_getElem? (i := 682) (by decide +kernel)⟩
theorem lw_p29 : lw_okq (⟨"BarberMinutes", "lookAhead", "(I)V"⟩, 15) := ⟨⟨by decide +kernel, by decide +kernel⟩, List.mem_of_getElem? (i := 23) (by decide +kernel), List.mem_of_getElem? (i := 737) (by decide +kernel), List.mem_of_getElem? (i := 738) (by decide +kernel)⟩
theorem lw_p30 : lw_okq (⟨"BarberMinutes", "weeksUntilEnough", "(I)I"⟩, 15) := ⟨⟨by decide +kernel, by decide +kernel⟩, List.mem_of_getElem? (i := 23) (by decide +kernel), List.mem_of_getElem? (i := 758) (by decide +kernel), List.mem_of_getElem? (i := 759) (by decide +kernel)⟩
theorem lw_p31 : lw_okq (⟨"BarberMinutes", "lacksAgenda", "(I)Z"⟩, 15) := ⟨⟨by decide +kernel, by decide +kernel⟩, List.mem_of_getElem? (i := 23) (by decide +kernel), List.mem_of_getElem? (i := 774) (by decide +kernel), List.mem_of_getElem? (i := 775) (by decide +kernel)⟩
def lw_privs_2 : List (MethodName × Nat) := [(⟨"BarberMinutes$Reader", "colourHere", "()I"⟩, 14), (⟨"BarberMinutes$Reader", "readMotion", "()V"⟩, 14), (⟨"BarberMinutes$Reader", "readAgainst", "()V"⟩, 14), (⟨"BarberMinutes$Reader", "toldHere", "(I)I"⟩, 14), (⟨"BarberMinutes$Reader", "readAmends", "()V"⟩, 14), (⟨"BarberMinutes$Reader", "readQuarrel", "()V"⟩, 14), (⟨"BarberMinutes$Reader", "readChair", "()V"⟩, 14), (⟨"BarberMinutes$Reader", "readHeap", "()V"⟩, 14), (⟨"BarberMinutes", "granted", "(I)I"⟩, 15), (⟨"BarberMinutes", "lacksMan", "(I)Z"⟩, 15), (⟨"BarberMinutes$Minutes", "saysYes", "(LBarberMinutes$Town;II)Z"⟩, 4), (⟨"BarberMinutes", "lacksMotion", "(I)Z"⟩, 15), (⟨"BarberMinutes", "noTown", "()Z"⟩, 15), (⟨"BarberMinutes", "lookAhead", "(I)V"⟩, 15), (⟨"BarberMinutes", "weeksUntilEnough", "(I)I"⟩, 15), (⟨"BarberMinutes", "lacksAgenda", "(I)Z"⟩, 15)]
theorem lw_r2 : ∀ q ∈ lw_privs_2, lw_okq q := List.forall_mem_cons.mpr ⟨lw_p16, List.forall_mem_cons.mpr ⟨lw_p17, List.forall_mem_cons.mpr ⟨lw_p18, List.forall_mem_cons.mpr ⟨lw_p19, List.forall_mem_cons.mpr ⟨lw_p20, List.forall_mem_cons.mpr ⟨lw_p21, List.forall_mem_cons.mpr ⟨lw_p22, List.forall_mem_cons.mpr ⟨lw_p23, List.forall_mem_cons.mpr ⟨lw_p24, List.forall_mem_cons.mpr ⟨lw_p25, List.forall_mem_cons.mpr ⟨lw_p26, List.forall_mem_cons.mpr ⟨lw_p27, List.forall_mem_cons.mpr ⟨lw_p28, List.forall_mem_cons.mpr ⟨lw_p29, List.forall_mem_cons.mpr ⟨lw_p30, List.forall_mem_cons.mpr ⟨lw_p31, fun _ h => absurd h List.not_mem_nil⟩⟩⟩⟩⟩⟩⟩⟩⟩⟩⟩⟩⟩⟩⟩⟩
theorem lw_p32 : lw_okq (⟨"BarberMinutes", "refusedOf", "(Z)Z"⟩, 15) := ⟨⟨by decide +kernel, by decide +kernel⟩, List.mem_of_getElem? (i := 23) (by decide +kernel), List.mem_of_getElem? (i := 778) (by decide +kernel), List.mem_of_getElem? (i := 779) (by decide +kernel)⟩
theorem lw_p33 : lw_okq (⟨"BarberMinutes$Agenda", "takeStep", "(LBarberMinutes$Town;II)I"⟩, 5) := ⟨⟨by decide +kernel, by decide +kernel⟩, List.mem_of_getElem? (i := 244) (by decide +kernel), List.mem_of_getElem? (i := 792) (by decide +kernel), List.mem_of_getElem? (i := 793) (by decide +kernel)⟩
theorem lw_p34 : lw_okq (⟨"BarberMinutes$Agenda", "explore", "(LBarberMinutes$Town;III)V"⟩, 5) := ⟨⟨by decide +kernel, by decide +kernel⟩, List.mem_of_getElem? (i := 244) (by decide +kernel), List.mem_of_getElem? (i := 815) (by decide +kernel), List.mem_of_getElem? (i := 816) (by decide +kernel)⟩
theorem lw_p35 : lw_okq (⟨"BarberMinutes$Agenda", "canCarry", "(LBarberMinutes$Town;II)Z"⟩, 5) := ⟨⟨by decide +kernel, by decide +kernel⟩, List.mem_of_getElem? (i := 244) (by decide +kernel), List.mem_of_getElem? (i := 835) (by decide +kernel), List.mem_of_getElem? (i := 836) (by decide +kernel)⟩
theorem lw_p36 : lw_okq (⟨"BarberMinutes", "lacksNeeds", "(I)Z"⟩, 15) := ⟨⟨by decide +kernel, by decide +kernel⟩, List.mem_of_getElem? (i := 23) (by decide +kernel), List.mem_of_getElem? (i := 844) (by decide +kernel), List.mem_of_getElem? (i := 845) (by decide +kernel)⟩
theorem lw_p37 : lw_okq (⟨"BarberMinutes$Town", "isQuietWithout", "(I)Z"⟩, 19) := ⟨⟨by decide +kernel, by decide +kernel⟩, List.mem_of_getElem? (i := 83) (by decide +kernel), List.mem_of_getElem? (i := 892) (by decide +kernel), List.mem_of_getElem? (i := 893) (by decide +kernel)⟩
theorem lw_p38 : lw_okq (⟨"BarberMinutes", "lacksChair", "(I)Z"⟩, 15) := ⟨⟨by decide +kernel, by decide +kernel⟩, List.mem_of_getElem? (i := 23) (by decide +kernel), List.mem_of_getElem? (i := 900) (by decide +kernel), List.mem_of_getElem? (i := 901) (by decide +kernel)⟩
theorem lw_p39 : lw_okq (⟨"BarberMinutes$Tour", "walk", "(LBarberMinutes$Town;III)V"⟩, 3) := ⟨⟨by decide +kernel, by decide +kernel⟩, List.mem_of_getElem? (i := 271) (by decide +kernel), List.mem_of_getElem? (i := 920) (by decide +kernel), List.mem_of_getElem? (i := 921) (by decide +kernel)⟩
theorem lw_p40 : lw_okq (⟨"BarberMinutes$Tour", "weigh", "(LBarberMinutes$Town;II)V"⟩, 3) := ⟨⟨by decide +kernel, by decide +kernel⟩, List.mem_of_getElem? (i := 271) (by decide +kernel), List.mem_of_getElem? (i := 924) (by decide +kernel), List.mem_of_getElem? (i := 925) (by decide +kernel)⟩
theorem lw_p41 : lw_okq (⟨"BarberMinutes", "cannotSweep", "()Z"⟩, 15) := ⟨⟨by decide +kernel, by decide +kernel⟩, List.mem_of_getElem? (i := 23) (by decide +kernel), List.mem_of_getElem? (i := 938) (by decide +kernel), List.mem_of_getElem? (i := 939) (by decide +kernel)⟩
theorem lw_p42 : lw_okq (⟨"BarberMinutes$Sweepings", "explainsHeaps", "(LBarberMinutes$Town;I)Z"⟩, 3) := ⟨⟨by decide +kernel, by decide +kernel⟩, List.mem_of_getElem? (i := 289) (by decide +kernel), List.mem_of_getElem? (i := 946) (by decide +kernel), List.mem_of_getElem? (i := 947) (by decide +kernel)⟩
theorem lw_p43 : lw_okq (⟨"BarberMinutes", "lacksLather", "(I)Z"⟩, 15) := ⟨⟨by decide +kernel, by decide +kernel⟩, List.mem_of_getElem? (i := 23) (by decide +kernel), List.mem_of_getElem? (i := 996) (by decide +kernel), List.mem_of_getElem? (i := 997) (by decide +kernel)⟩
theorem lw_p44 : lw_okq (⟨"BarberMinutes$Chance", "reduce", "(JJ)V"⟩, 3) := ⟨⟨by decide +kernel, by decide +kernel⟩, List.mem_of_getElem? (i := 309) (by decide +kernel), List.mem_of_getElem? (i := 1028) (by decide +kernel), List.mem_of_getElem? (i := 1029) (by decide +kernel)⟩
theorem lw_p45 : lw_okq (⟨"BarberMinutes", "lacksDraws", "(II)Z"⟩, 15) := ⟨⟨by decide +kernel, by decide +kernel⟩, List.mem_of_getElem? (i := 23) (by decide +kernel), List.mem_of_getElem? (i := 1046) (by decide +kernel), List.mem_of_getElem? (i := 1047) (by decide +kernel)⟩
theorem lw_p46 : lw_okq (⟨"java/lang/Throwable", "fillInStackTrace", "(I)Ljava/lang/Throwable;"⟩, 6) := ⟨⟨by decide +kernel, by decide +kernel⟩, List.mem_of_getElem? (i := 1158) (by decide +kernel), List.mem_of_getElem? (i := 1156) (by decide +kernel), List.mem_of_getElem? (i := 1157) (by decide +kernel)⟩
theorem lw_p47 : lw_okq (⟨"BarberMinutesModel", "good", "()V"⟩, 35) := ⟨⟨by decide +kernel, by decide +kernel⟩, List.mem_of_getElem? (i := 1183) (by decide +kernel), List.mem_of_getElem? (i := 1307) (by decide +kernel), List.mem_of_getElem? (i := 1308) (by decide +kernel)⟩
def lw_privs_3 : List (MethodName × Nat) := [(⟨"BarberMinutes", "refusedOf", "(Z)Z"⟩, 15), (⟨"BarberMinutes$Agenda", "takeStep", "(LBarberMinutes$Town;II)I"⟩, 5), (⟨"BarberMinutes$Agenda", "explore", "(LBarberMinutes$Town;III)V"⟩, 5), (⟨"BarberMinutes$Agenda", "canCarry", "(LBarberMinutes$Town;II)Z"⟩, 5), (⟨"BarberMinutes", "lacksNeeds", "(I)Z"⟩, 15), (⟨"BarberMinutes$Town", "isQuietWithout", "(I)Z"⟩, 19), (⟨"BarberMinutes", "lacksChair", "(I)Z"⟩, 15), (⟨"BarberMinutes$Tour", "walk", "(LBarberMinutes$Town;III)V"⟩, 3), (⟨"BarberMinutes$Tour", "weigh", "(LBarberMinutes$Town;II)V"⟩, 3), (⟨"BarberMinutes", "cannotSweep", "()Z"⟩, 15), (⟨"BarberMinutes$Sweepings", "explainsHeaps", "(LBarberMinutes$Town;I)Z"⟩, 3), (⟨"BarberMinutes", "lacksLather", "(I)Z"⟩, 15), (⟨"BarberMinutes$Chance", "reduce", "(JJ)V"⟩, 3), (⟨"BarberMinutes", "lacksDraws", "(II)Z"⟩, 15), (⟨"java/lang/Throwable", "fillInStackTrace", "(I)Ljava/lang/Throwable;"⟩, 6), (⟨"BarberMinutesModel", "good", "()V"⟩, 35)]
theorem lw_r3 : ∀ q ∈ lw_privs_3, lw_okq q := List.forall_mem_cons.mpr ⟨lw_p32, List.forall_mem_cons.mpr ⟨lw_p33, List.forall_mem_cons.mpr ⟨lw_p34, List.forall_mem_cons.mpr ⟨lw_p35, List.forall_mem_cons.mpr ⟨lw_p36, List.forall_mem_cons.mpr ⟨lw_p37, List.forall_mem_cons.mpr ⟨lw_p38, List.forall_mem_cons.mpr ⟨lw_p39, List.forall_mem_cons.mpr ⟨lw_p40, List.forall_mem_cons.mpr ⟨lw_p41, List.forall_mem_cons.mpr ⟨lw_p42, List.forall_mem_cons.mpr ⟨lw_p43, List.forall_mem_cons.mpr ⟨lw_p44, List.forall_mem_cons.mpr ⟨lw_p45, List.forall_mem_cons.mpr ⟨lw_p46, List.forall_mem_cons.mpr ⟨lw_p47, fun _ h => absurd h List.not_mem_nil⟩⟩⟩⟩⟩⟩⟩⟩⟩⟩⟩⟩⟩⟩⟩⟩
theorem lw_p48 : lw_okq (⟨"BarberMinutesModel", "no", "(I)I"⟩, 35) := ⟨⟨by decide +kernel, by decide +kernel⟩, List.mem_of_getElem? (i := 1183) (by decide +kernel), List.mem_of_getElem? (i := 1314) (by decide +kernel), List.mem_of_getElem? (i := 1315) (by decide +kernel)⟩
theorem lw_p49 : lw_okq (⟨"BarberMinutesModel", "next", "()V"⟩, 35) := ⟨⟨by decide +kernel, by decide +kernel⟩, List.mem_of_getElem? (i := 1183) (by decide +kernel), List.mem_of_getElem? (i := 1318) (by decide +kernel), List.mem_of_getElem? (i := 1319) (by decide +kernel)⟩
theorem lw_p50 : lw_okq (⟨"BarberMinutesModel", "see", "(I)I"⟩, 35) := ⟨⟨by decide +kernel, by decide +kernel⟩, List.mem_of_getElem? (i := 1183) (by decide +kernel), List.mem_of_getElem? (i := 1322) (by decide +kernel), List.mem_of_getElem? (i := 1323) (by decide +kernel)⟩
theorem lw_p51 : lw_okq (⟨"BarberMinutesModel", "readLine", "()V"⟩, 35) := ⟨⟨by decide +kernel, by decide +kernel⟩, List.mem_of_getElem? (i := 1183) (by decide +kernel), List.mem_of_getElem? (i := 1332) (by decide +kernel), List.mem_of_getElem? (i := 1333) (by decide +kernel)⟩
theorem lw_p52 : lw_okq (⟨"BarberMinutesModel", "isWord", "(Ljava/lang/String;)Z"⟩, 35) := ⟨⟨by decide +kernel, by decide +kernel⟩, List.mem_of_getElem? (i := 1183) (by decide +kernel), List.mem_of_getElem? (i := 1337) (by decide +kernel), List.mem_of_getElem? (i := 1338) (by decide +kernel)⟩
theorem lw_p53 : lw_okq (⟨"BarberMinutesModel", "townLine", "()V"⟩, 35) := ⟨⟨by decide +kernel, by decide +kernel⟩, List.mem_of_getElem? (i := 1183) (by decide +kernel), List.mem_of_getElem? (i := 1343) (by decide +kernel), List.mem_of_getElem? (i := 1344) (by decide +kernel)⟩
theorem lw_p54 : lw_okq (⟨"BarberMinutesModel", "wrong", "(II)V"⟩, 35) := ⟨⟨by decide +kernel, by decide +kernel⟩, List.mem_of_getElem? (i := 1183) (by decide +kernel), List.mem_of_getElem? (i := 1347) (by decide +kernel), List.mem_of_getElem? (i := 1348) (by decide +kernel)⟩
theorem lw_p55 : lw_okq (⟨"BarberMinutesModel", "after", "(Ljava/lang/String;II)I"⟩, 35) := ⟨⟨by decide +kernel, by decide +kernel⟩, List.mem_of_getElem? (i := 1183) (by decide +kernel), List.mem_of_getElem? (i := 1352) (by decide +kernel), List.mem_of_getElem? (i := 1353) (by decide +kernel)⟩
theorem lw_p56 : lw_okq (⟨"BarberMinutesModel", "must", "(Ljava/lang/String;)V"⟩, 35) := ⟨⟨by decide +kernel, by decide +kernel⟩, List.mem_of_getElem? (i := 1183) (by decide +kernel), List.mem_of_getElem? (i := 1356) (by decide +kernel), List.mem_of_getElem? (i := 1357) (by decide +kernel)⟩
theorem lw_p57 : lw_okq (⟨"BarberMinutesModel", "takesWord", "(Ljava/lang/String;)Z"⟩, 35) := ⟨⟨by decide +kernel, by decide +kernel⟩, List.mem_of_getElem? (i := 1183) (by decide +kernel), List.mem_of_getElem? (i := 1360) (by decide +kernel), List.mem_of_getElem? (i := 1361) (by decide +kernel)⟩
theorem lw_p58 : lw_okq (⟨"BarberMinutesModel", "number", "(II)I"⟩, 35) := ⟨⟨by decide +kernel, by decide +kernel⟩, List.mem_of_getElem? (i := 1183) (by decide +kernel), List.mem_of_getElem? (i := 1364) (by decide +kernel), List.mem_of_getElem? (i := 1365) (by decide +kernel)⟩
theorem lw_p59 : lw_okq (⟨"BarberMinutesModel", "begins", "(Ljava/lang/String;Z)Z"⟩, 35) := ⟨⟨by decide +kernel, by decide +kernel⟩, List.mem_of_getElem? (i := 1183) (by decide +kernel), List.mem_of_getElem? (i := 1371) (by decide +kernel), List.mem_of_getElem? (i := 1372) (by decide +kernel)⟩
theorem lw_p60 : lw_okq (⟨"BarberMinutesModel", "pass", "()V"⟩, 35) := ⟨⟨by decide +kernel, by decide +kernel⟩, List.mem_of_getElem? (i := 1183) (by decide +kernel), List.mem_of_getElem? (i := 1375) (by decide +kernel), List.mem_of_getElem? (i := 1376) (by decide +kernel)⟩
theorem lw_p61 : lw_okq (⟨"BarberMinutesModel", "manLine", "()V"⟩, 35) := ⟨⟨by decide +kernel, by decide +kernel⟩, List.mem_of_getElem? (i := 1183) (by decide +kernel), List.mem_of_getElem? (i := 1379) (by decide +kernel), List.mem_of_getElem? (i := 1380) (by decide +kernel)⟩
theorem lw_p62 : lw_okq (⟨"BarberMinutesModel", "newName", "(I)V"⟩, 35) := ⟨⟨by decide +kernel, by decide +kernel⟩, List.mem_of_getElem? (i := 1183) (by decide +kernel), List.mem_of_getElem? (i := 1383) (by decide +kernel), List.mem_of_getElem? (i := 1384) (by decide +kernel)⟩
theorem lw_p63 : lw_okq (⟨"BarberMinutesModel", "mustName", "()V"⟩, 35) := ⟨⟨by decide +kernel, by decide +kernel⟩, List.mem_of_getElem? (i := 1183) (by decide +kernel), List.mem_of_getElem? (i := 1387) (by decide +kernel), List.mem_of_getElem? (i := 1388) (by decide +kernel)⟩
def lw_privs_4 : List (MethodName × Nat) := [(⟨"BarberMinutesModel", "no", "(I)I"⟩, 35), (⟨"BarberMinutesModel", "next", "()V"⟩, 35), (⟨"BarberMinutesModel", "see", "(I)I"⟩, 35), (⟨"BarberMinutesModel", "readLine", "()V"⟩, 35), (⟨"BarberMinutesModel", "isWord", "(Ljava/lang/String;)Z"⟩, 35), (⟨"BarberMinutesModel", "townLine", "()V"⟩, 35), (⟨"BarberMinutesModel", "wrong", "(II)V"⟩, 35), (⟨"BarberMinutesModel", "after", "(Ljava/lang/String;II)I"⟩, 35), (⟨"BarberMinutesModel", "must", "(Ljava/lang/String;)V"⟩, 35), (⟨"BarberMinutesModel", "takesWord", "(Ljava/lang/String;)Z"⟩, 35), (⟨"BarberMinutesModel", "number", "(II)I"⟩, 35), (⟨"BarberMinutesModel", "begins", "(Ljava/lang/String;Z)Z"⟩, 35), (⟨"BarberMinutesModel", "pass", "()V"⟩, 35), (⟨"BarberMinutesModel", "manLine", "()V"⟩, 35), (⟨"BarberMinutesModel", "newName", "(I)V"⟩, 35), (⟨"BarberMinutesModel", "mustName", "()V"⟩, 35)]
theorem lw_r4 : ∀ q ∈ lw_privs_4, lw_okq q := List.forall_mem_cons.mpr ⟨lw_p48, List.forall_mem_cons.mpr ⟨lw_p49, List.forall_mem_cons.mpr ⟨lw_p50, List.forall_mem_cons.mpr ⟨lw_p51, List.forall_mem_cons.mpr ⟨lw_p52, List.forall_mem_cons.mpr ⟨lw_p53, List.forall_mem_cons.mpr ⟨lw_p54, List.forall_mem_cons.mpr ⟨lw_p55, List.forall_mem_cons.mpr ⟨lw_p56, List.forall_mem_cons.mpr ⟨lw_p57, List.forall_mem_cons.mpr ⟨lw_p58, List.forall_mem_cons.mpr ⟨lw_p59, List.forall_mem_cons.mpr ⟨lw_p60, List.forall_mem_cons.mpr ⟨lw_p61, List.forall_mem_cons.mpr ⟨lw_p62, List.forall_mem_cons.mpr ⟨lw_p63, fun _ h => absurd h List.not_mem_nil⟩⟩⟩⟩⟩⟩⟩⟩⟩⟩⟩⟩⟩⟩⟩⟩
theorem lw_p64 : lw_okq (⟨"BarberMinutesModel", "find", "()I"⟩, 35) := ⟨⟨by decide +kernel, by decide +kernel⟩, List.mem_of_getElem? (i := 1183) (by decide +kernel), List.mem_of_getElem? (i := 1397) (by decide +kernel), List.mem_of_getElem? (i := 1398) (by decide +kernel)⟩
theorem lw_p65 : lw_okq (⟨"BarberMinutesModel", "colourHere", "()I"⟩, 35) := ⟨⟨by decide +kernel, by decide +kernel⟩, List.mem_of_getElem? (i := 1183) (by decide +kernel), List.mem_of_getElem? (i := 1401) (by decide +kernel), List.mem_of_getElem? (i := 1402) (by decide +kernel)⟩
theorem lw_p66 : lw_okq (⟨"BarberMinutesModel", "motionLine", "()V"⟩, 35) := ⟨⟨by decide +kernel, by decide +kernel⟩, List.mem_of_getElem? (i := 1183) (by decide +kernel), List.mem_of_getElem? (i := 1410) (by decide +kernel), List.mem_of_getElem? (i := 1411) (by decide +kernel)⟩
theorem lw_p67 : lw_okq (⟨"BarberMinutesModel", "againstLine", "()V"⟩, 35) := ⟨⟨by decide +kernel, by decide +kernel⟩, List.mem_of_getElem? (i := 1183) (by decide +kernel), List.mem_of_getElem? (i := 1417) (by decide +kernel), List.mem_of_getElem? (i := 1418) (by decide +kernel)⟩
theorem lw_p68 : lw_okq (⟨"BarberMinutesModel", "manHere", "()I"⟩, 35) := ⟨⟨by decide +kernel, by decide +kernel⟩, List.mem_of_getElem? (i := 1183) (by decide +kernel), List.mem_of_getElem? (i := 1421) (by decide +kernel), List.mem_of_getElem? (i := 1422) (by decide +kernel)⟩
theorem lw_p69 : lw_okq (⟨"BarberMinutesModel", "named", "(II)I"⟩, 35) := ⟨⟨by decide +kernel, by decide +kernel⟩, List.mem_of_getElem? (i := 1183) (by decide +kernel), List.mem_of_getElem? (i := 1425) (by decide +kernel), List.mem_of_getElem? (i := 1426) (by decide +kernel)⟩
theorem lw_p70 : lw_okq (⟨"BarberMinutesModel", "motionHere", "()I"⟩, 35) := ⟨⟨by decide +kernel, by decide +kernel⟩, List.mem_of_getElem? (i := 1183) (by decide +kernel), List.mem_of_getElem? (i := 1429) (by decide +kernel), List.mem_of_getElem? (i := 1430) (by decide +kernel)⟩
theorem lw_p71 : lw_okq (⟨"BarberMinutesModel", "amendsLine", "()V"⟩, 35) := ⟨⟨by decide +kernel, by decide +kernel⟩, List.mem_of_getElem? (i := 1183) (by decide +kernel), List.mem_of_getElem? (i := 1436) (by decide +kernel), List.mem_of_getElem? (i := 1437) (by decide +kernel)⟩
theorem lw_p72 : lw_okq (⟨"BarberMinutesModel", "quarrelLine", "()V"⟩, 35) := ⟨⟨by decide +kernel, by decide +kernel⟩, List.mem_of_getElem? (i := 1183) (by decide +kernel), List.mem_of_getElem? (i := 1440) (by decide +kernel), List.mem_of_getElem? (i := 1441) (by decide +kernel)⟩
theorem lw_p73 : lw_okq (⟨"BarberMinutesModel", "chairLine", "()V"⟩, 35) := ⟨⟨by decide +kernel, by decide +kernel⟩, List.mem_of_getElem? (i := 1183) (by decide +kernel), List.mem_of_getElem? (i := 1444) (by decide +kernel), List.mem_of_getElem? (i := 1445) (by decide +kernel)⟩
theorem lw_p74 : lw_okq (⟨"BarberMinutesModel", "heapLine", "()V"⟩, 35) := ⟨⟨by decide +kernel, by decide +kernel⟩, List.mem_of_getElem? (i := 1183) (by decide +kernel), List.mem_of_getElem? (i := 1449) (by decide +kernel), List.mem_of_getElem? (i := 1450) (by decide +kernel)⟩
theorem lw_p75 : lw_okq (⟨"BarberMinutesModel", "asTold", "([I)V"⟩, 35) := ⟨⟨by decide +kernel, by decide +kernel⟩, List.mem_of_getElem? (i := 1183) (by decide +kernel), List.mem_of_getElem? (i := 1456) (by decide +kernel), List.mem_of_getElem? (i := 1457) (by decide +kernel)⟩
theorem lw_p76 : lw_okq (⟨"BarberMinutesModel", "isMan", "(I)Z"⟩, 35) := ⟨⟨by decide +kernel, by decide +kernel⟩, List.mem_of_getElem? (i := 1183) (by decide +kernel), List.mem_of_getElem? (i := 1472) (by decide +kernel), List.mem_of_getElem? (i := 1473) (by decide +kernel)⟩
theorem lw_p77 : lw_okq (⟨"BarberMinutesModel", "isBald", "([II)Z"⟩, 35) := ⟨⟨by decide +kernel, by decide +kernel⟩, List.mem_of_getElem? (i := 1183) (by decide +kernel), List.mem_of_getElem? (i := 1476) (by decide +kernel), List.mem_of_getElem? (i := 1477) (by decide +kernel)⟩
theorem lw_p78 : lw_okq (⟨"BarberMinutesModel", "saidBy", "(I)I"⟩, 35) := ⟨⟨by decide +kernel, by decide +kernel⟩, List.mem_of_getElem? (i := 1183) (by decide +kernel), List.mem_of_getElem? (i := 1480) (by decide +kernel), List.mem_of_getElem? (i := 1481) (by decide +kernel)⟩
theorem lw_p79 : lw_okq (⟨"BarberMinutesModel", "doesSay", "([III)Z"⟩, 35) := ⟨⟨by decide +kernel, by decide +kernel⟩, List.mem_of_getElem? (i := 1183) (by decide +kernel), List.mem_of_getElem? (i := 1484) (by decide +kernel), List.mem_of_getElem? (i := 1485) (by decide +kernel)⟩
def lw_privs_5 : List (MethodName × Nat) := [(⟨"BarberMinutesModel", "find", "()I"⟩, 35), (⟨"BarberMinutesModel", "colourHere", "()I"⟩, 35), (⟨"BarberMinutesModel", "motionLine", "()V"⟩, 35), (⟨"BarberMinutesModel", "againstLine", "()V"⟩, 35), (⟨"BarberMinutesModel", "manHere", "()I"⟩, 35), (⟨"BarberMinutesModel", "named", "(II)I"⟩, 35), (⟨"BarberMinutesModel", "motionHere", "()I"⟩, 35), (⟨"BarberMinutesModel", "amendsLine", "()V"⟩, 35), (⟨"BarberMinutesModel", "quarrelLine", "()V"⟩, 35), (⟨"BarberMinutesModel", "chairLine", "()V"⟩, 35), (⟨"BarberMinutesModel", "heapLine", "()V"⟩, 35), (⟨"BarberMinutesModel", "asTold", "([I)V"⟩, 35), (⟨"BarberMinutesModel", "isMan", "(I)Z"⟩, 35), (⟨"BarberMinutesModel", "isBald", "([II)Z"⟩, 35), (⟨"BarberMinutesModel", "saidBy", "(I)I"⟩, 35), (⟨"BarberMinutesModel", "doesSay", "([III)Z"⟩, 35)]
theorem lw_r5 : ∀ q ∈ lw_privs_5, lw_okq q := List.forall_mem_cons.mpr ⟨lw_p64, List.forall_mem_cons.mpr ⟨lw_p65, List.forall_mem_cons.mpr ⟨lw_p66, List.forall_mem_cons.mpr ⟨lw_p67, List.forall_mem_cons.mpr ⟨lw_p68, List.forall_mem_cons.mpr ⟨lw_p69, List.forall_mem_cons.mpr ⟨lw_p70, List.forall_mem_cons.mpr ⟨lw_p71, List.forall_mem_cons.mpr ⟨lw_p72, List.forall_mem_cons.mpr ⟨lw_p73, List.forall_mem_cons.mpr ⟨lw_p74, List.forall_mem_cons.mpr ⟨lw_p75, List.forall_mem_cons.mpr ⟨lw_p76, List.forall_mem_cons.mpr ⟨lw_p77, List.forall_mem_cons.mpr ⟨lw_p78, List.forall_mem_cons.mpr ⟨lw_p79, fun _ h => absurd h List.not_mem_nil⟩⟩⟩⟩⟩⟩⟩⟩⟩⟩⟩⟩⟩⟩⟩⟩
theorem lw_p80 : lw_okq (⟨"BarberMinutesModel", "isMotion", "(I)Z"⟩, 35) := ⟨⟨by decide +kernel, by decide +kernel⟩, List.mem_of_getElem? (i := 1183) (by decide +kernel), List.mem_of_getElem? (i := 1492) (by decide +kernel), List.mem_of_getElem? (i := 1493) (by decide +kernel)⟩
theorem lw_p81 : lw_okq (⟨"BarberMinutesModel", "mayBePut", "([II)Z"⟩, 35) := ⟨⟨by decide +kernel, by decide +kernel⟩, List.mem_of_getElem? (i := 1183) (by decide +kernel), List.mem_of_getElem? (i := 1496) (by decide +kernel), List.mem_of_getElem? (i := 1497) (by decide +kernel)⟩
theorem lw_p82 : lw_okq (⟨"BarberMinutesModel", "yesOf", "([II)I"⟩, 35) := ⟨⟨by decide +kernel, by decide +kernel⟩, List.mem_of_getElem? (i := 1183) (by decide +kernel), List.mem_of_getElem? (i := 1500) (by decide +kernel), List.mem_of_getElem? (i := 1501) (by decide +kernel)⟩
theorem lw_p83 : lw_okq (⟨"BarberMinutesModel", "sayersOf", "([II)I"⟩, 35) := ⟨⟨by decide +kernel, by decide +kernel⟩, List.mem_of_getElem? (i := 1183) (by decide +kernel), List.mem_of_getElem? (i := 1504) (by decide +kernel), List.mem_of_getElem? (i := 1505) (by decide +kernel)⟩
theorem lw_p84 : lw_okq (⟨"BarberMinutesModel", "votesOf", "(I)I"⟩, 35) := ⟨⟨by decide +kernel, by decide +kernel⟩, List.mem_of_getElem? (i := 1183) (by decide +kernel), List.mem_of_getElem? (i := 1508) (by decide +kernel), List.mem_of_getElem? (i := 1509) (by decide +kernel)⟩
theorem lw_p85 : lw_okq (⟨"BarberMinutesModel", "baldOf", "([I)I"⟩, 35) := ⟨⟨by decide +kernel, by decide +kernel⟩, List.mem_of_getElem? (i := 1183) (by decide +kernel), List.mem_of_getElem? (i := 1520) (by decide +kernel), List.mem_of_getElem? (i := 1521) (by decide +kernel)⟩
theorem lw_p86 : lw_okq (⟨"BarberMinutesModel", "isEnough", "([II)Z"⟩, 35) := ⟨⟨by decide +kernel, by decide +kernel⟩, List.mem_of_getElem? (i := 1183) (by decide +kernel), List.mem_of_getElem? (i := 1532) (by decide +kernel), List.mem_of_getElem? (i := 1533) (by decide +kernel)⟩
theorem lw_p87 : lw_okq (⟨"BarberMinutesModel", "hairy", "()I"⟩, 35) := ⟨⟨by decide +kernel, by decide +kernel⟩, List.mem_of_getElem? (i := 1183) (by decide +kernel), List.mem_of_getElem? (i := 1540) (by decide +kernel), List.mem_of_getElem? (i := 1541) (by decide +kernel)⟩
theorem lw_p88 : lw_okq (⟨"BarberMinutesModel", "allMen", "()I"⟩, 35) := ⟨⟨by decide +kernel, by decide +kernel⟩, List.mem_of_getElem? (i := 1183) (by decide +kernel), List.mem_of_getElem? (i := 1544) (by decide +kernel), List.mem_of_getElem? (i := 1545) (by decide +kernel)⟩
theorem lw_p89 : lw_okq (⟨"BarberMinutesModel", "depthOf", "(I)I"⟩, 35) := ⟨⟨by decide +kernel, by decide +kernel⟩, List.mem_of_getElem? (i := 1183) (by decide +kernel), List.mem_of_getElem? (i := 1556) (by decide +kernel), List.mem_of_getElem? (i := 1557) (by decide +kernel)⟩
theorem lw_p90 : lw_okq (⟨"BarberMinutesModel", "why", "(ZZ)I"⟩, 35) := ⟨⟨by decide +kernel, by decide +kernel⟩, List.mem_of_getElem? (i := 1183) (by decide +kernel), List.mem_of_getElem? (i := 1564) (by decide +kernel), List.mem_of_getElem? (i := 1565) (by decide +kernel)⟩
theorem lw_p91 : lw_okq (⟨"BarberMinutesModel", "goOver", "(I)V"⟩, 35) := ⟨⟨by decide +kernel, by decide +kernel⟩, List.mem_of_getElem? (i := 1183) (by decide +kernel), List.mem_of_getElem? (i := 1568) (by decide +kernel), List.mem_of_getElem? (i := 1569) (by decide +kernel)⟩
theorem lw_p92 : lw_okq (⟨"BarberMinutesModel", "weekOf", "([I)V"⟩, 35) := ⟨⟨by decide +kernel, by decide +kernel⟩, List.mem_of_getElem? (i := 1183) (by decide +kernel), List.mem_of_getElem? (i := 1572) (by decide +kernel), List.mem_of_getElem? (i := 1573) (by decide +kernel)⟩
theorem lw_p93 : lw_okq (⟨"BarberMinutesModel", "carryOf", "(I)I"⟩, 35) := ⟨⟨by decide +kernel, by decide +kernel⟩, List.mem_of_getElem? (i := 1183) (by decide +kernel), List.mem_of_getElem? (i := 1584) (by decide +kernel), List.mem_of_getElem? (i := 1585) (by decide +kernel)⟩
theorem lw_p94 : lw_okq (⟨"BarberMinutesModel", "isRowOf", "(II)Z"⟩, 35) := ⟨⟨by decide +kernel, by decide +kernel⟩, List.mem_of_getElem? (i := 1183) (by decide +kernel), List.mem_of_getElem? (i := 1600) (by decide +kernel), List.mem_of_getElem? (i := 1601) (by decide +kernel)⟩
theorem lw_p95 : lw_okq (⟨"BarberMinutesModel", "goBy", "(II)I"⟩, 35) := ⟨⟨by decide +kernel, by decide +kernel⟩, List.mem_of_getElem? (i := 1183) (by decide +kernel), List.mem_of_getElem? (i := 1604) (by decide +kernel), List.mem_of_getElem? (i := 1605) (by decide +kernel)⟩
def lw_privs_6 : List (MethodName × Nat) := [(⟨"BarberMinutesModel", "isMotion", "(I)Z"⟩, 35), (⟨"BarberMinutesModel", "mayBePut", "([II)Z"⟩, 35), (⟨"BarberMinutesModel", "yesOf", "([II)I"⟩, 35), (⟨"BarberMinutesModel", "sayersOf", "([II)I"⟩, 35), (⟨"BarberMinutesModel", "votesOf", "(I)I"⟩, 35), (⟨"BarberMinutesModel", "baldOf", "([I)I"⟩, 35), (⟨"BarberMinutesModel", "isEnough", "([II)Z"⟩, 35), (⟨"BarberMinutesModel", "hairy", "()I"⟩, 35), (⟨"BarberMinutesModel", "allMen", "()I"⟩, 35), (⟨"BarberMinutesModel", "depthOf", "(I)I"⟩, 35), (⟨"BarberMinutesModel", "why", "(ZZ)I"⟩, 35), (⟨"BarberMinutesModel", "goOver", "(I)V"⟩, 35), (⟨"BarberMinutesModel", "weekOf", "([I)V"⟩, 35), (⟨"BarberMinutesModel", "carryOf", "(I)I"⟩, 35), (⟨"BarberMinutesModel", "isRowOf", "(II)Z"⟩, 35), (⟨"BarberMinutesModel", "goBy", "(II)I"⟩, 35)]
theorem lw_r6 : ∀ q ∈ lw_privs_6, lw_okq q := List.forall_mem_cons.mpr ⟨lw_p80, List.forall_mem_cons.mpr ⟨lw_p81, List.forall_mem_cons.mpr ⟨lw_p82, List.forall_mem_cons.mpr ⟨lw_p83, List.forall_mem_cons.mpr ⟨lw_p84, List.forall_mem_cons.mpr ⟨lw_p85, List.forall_mem_cons.mpr ⟨lw_p86, List.forall_mem_cons.mpr ⟨lw_p87, List.forall_mem_cons.mpr ⟨lw_p88, List.forall_mem_cons.mpr ⟨lw_p89, List.forall_mem_cons.mpr ⟨lw_p90, List.forall_mem_cons.mpr ⟨lw_p91, List.forall_mem_cons.mpr ⟨lw_p92, List.forall_mem_cons.mpr ⟨lw_p93, List.forall_mem_cons.mpr ⟨lw_p94, List.forall_mem_cons.mpr ⟨lw_p95, fun _ h => absurd h List.not_mem_nil⟩⟩⟩⟩⟩⟩⟩⟩⟩⟩⟩⟩⟩⟩⟩⟩
theorem lw_p96 : lw_okq (⟨"BarberMinutesModel", "putOf", "([II)Z"⟩, 35) := ⟨⟨by decide +kernel, by decide +kernel⟩, List.mem_of_getElem? (i := 1183) (by decide +kernel), List.mem_of_getElem? (i := 1608) (by decide +kernel), List.mem_of_getElem? (i := 1609) (by decide +kernel)⟩
theorem lw_p97 : lw_okq (⟨"BarberMinutesModel", "cutBy", "([II)V"⟩, 35) := ⟨⟨by decide +kernel, by decide +kernel⟩, List.mem_of_getElem? (i := 1183) (by decide +kernel), List.mem_of_getElem? (i := 1612) (by decide +kernel), List.mem_of_getElem? (i := 1613) (by decide +kernel)⟩
theorem lw_p98 : lw_okq (⟨"BarberMinutesModel", "bestOf", "(I)I"⟩, 35) := ⟨⟨by decide +kernel, by decide +kernel⟩, List.mem_of_getElem? (i := 1183) (by decide +kernel), List.mem_of_getElem? (i := 1620) (by decide +kernel), List.mem_of_getElem? (i := 1621) (by decide +kernel)⟩
theorem lw_p99 : lw_okq (⟨"BarberMinutesModel", "turnsOf", "(II)I"⟩, 35) := ⟨⟨by decide +kernel, by decide +kernel⟩, List.mem_of_getElem? (i := 1183) (by decide +kernel), List.mem_of_getElem? (i := 1643) (by decide +kernel), List.mem_of_getElem? (i := 1644) (by decide +kernel)⟩
theorem lw_p100 : lw_okq (⟨"BarberMinutesModel", "partingOf", "()I"⟩, 35) := ⟨⟨by decide +kernel, by decide +kernel⟩, List.mem_of_getElem? (i := 1183) (by decide +kernel), List.mem_of_getElem? (i := 1666) (by decide +kernel), List.mem_of_getElem? (i := 1667) (by decide +kernel)⟩
theorem lw_p101 : lw_okq (⟨"BarberMinutesModel", "quarrelsOf", "(II)I"⟩, 35) := ⟨⟨by decide +kernel, by decide +kernel⟩, List.mem_of_getElem? (i := 1183) (by decide +kernel), List.mem_of_getElem? (i := 1670) (by decide +kernel), List.mem_of_getElem? (i := 1671) (by decide +kernel)⟩
theorem lw_p102 : lw_okq (⟨"BarberMinutesModel", "isChair", "(I)Z"⟩, 35) := ⟨⟨by decide +kernel, by decide +kernel⟩, List.mem_of_getElem? (i := 1183) (by decide +kernel), List.mem_of_getElem? (i := 1686) (by decide +kernel), List.mem_of_getElem? (i := 1687) (by decide +kernel)⟩
theorem lw_p103 : lw_okq (⟨"BarberMinutesModel", "apartOf", "(II)I"⟩, 35) := ⟨⟨by decide +kernel, by decide +kernel⟩, List.mem_of_getElem? (i := 1183) (by decide +kernel), List.mem_of_getElem? (i := 1690) (by decide +kernel), List.mem_of_getElem? (i := 1691) (by decide +kernel)⟩
theorem lw_p104 : lw_okq (⟨"BarberMinutesModel", "seekRound", "()V"⟩, 35) := ⟨⟨by decide +kernel, by decide +kernel⟩, List.mem_of_getElem? (i := 1183) (by decide +kernel), List.mem_of_getElem? (i := 1698) (by decide +kernel), List.mem_of_getElem? (i := 1699) (by decide +kernel)⟩
theorem lw_p105 : lw_okq (⟨"BarberMinutesModel", "tryRound", "(III)V"⟩, 35) := ⟨⟨by decide +kernel, by decide +kernel⟩, List.mem_of_getElem? (i := 1183) (by decide +kernel), List.mem_of_getElem? (i := 1703) (by decide +kernel), List.mem_of_getElem? (i := 1704) (by decide +kernel)⟩
theorem lw_p106 : lw_okq (⟨"BarberMinutesModel", "seekSets", "(I)I"⟩, 35) := ⟨⟨by decide +kernel, by decide +kernel⟩, List.mem_of_getElem? (i := 1183) (by decide +kernel), List.mem_of_getElem? (i := 1715) (by decide +kernel), List.mem_of_getElem? (i := 1716) (by decide +kernel)⟩
theorem lw_p107 : lw_okq (⟨"BarberMinutesModel", "doesFit", "(I)Z"⟩, 35) := ⟨⟨by decide +kernel, by decide +kernel⟩, List.mem_of_getElem? (i := 1183) (by decide +kernel), List.mem_of_getElem? (i := 1719) (by decide +kernel), List.mem_of_getElem? (i := 1720) (by decide +kernel)⟩
theorem lw_p108 : lw_okq (⟨"BarberMinutesModel", "askOf", "()I"⟩, 35) := ⟨⟨by decide +kernel, by decide +kernel⟩, List.mem_of_getElem? (i := 1183) (by decide +kernel), List.mem_of_getElem? (i := 1739) (by decide +kernel), List.mem_of_getElem? (i := 1740) (by decide +kernel)⟩
theorem lw_p109 : lw_okq (⟨"BarberMinutesModel", "leavesOf", "(I)I"⟩, 35) := ⟨⟨by decide +kernel, by decide +kernel⟩, List.mem_of_getElem? (i := 1183) (by decide +kernel), List.mem_of_getElem? (i := 1743) (by decide +kernel), List.mem_of_getElem? (i := 1744) (by decide +kernel)⟩
theorem lw_p110 : lw_okq (⟨"BarberMinutesModel", "seekRests", "(I)I"⟩, 35) := ⟨⟨by decide +kernel, by decide +kernel⟩, List.mem_of_getElem? (i := 1183) (by decide +kernel), List.mem_of_getElem? (i := 1762) (by decide +kernel), List.mem_of_getElem? (i := 1763) (by decide +kernel)⟩
theorem lw_p111 : lw_okq (⟨"BarberMinutesModel", "tryShaves", "(I)V"⟩, 35) := ⟨⟨by decide +kernel, by decide +kernel⟩, List.mem_of_getElem? (i := 1183) (by decide +kernel), List.mem_of_getElem? (i := 1777) (by decide +kernel), List.mem_of_getElem? (i := 1778) (by decide +kernel)⟩
def lw_privs_7 : List (MethodName × Nat) := [(⟨"BarberMinutesModel", "putOf", "([II)Z"⟩, 35), (⟨"BarberMinutesModel", "cutBy", "([II)V"⟩, 35), (⟨"BarberMinutesModel", "bestOf", "(I)I"⟩, 35), (⟨"BarberMinutesModel", "turnsOf", "(II)I"⟩, 35), (⟨"BarberMinutesModel", "partingOf", "()I"⟩, 35), (⟨"BarberMinutesModel", "quarrelsOf", "(II)I"⟩, 35), (⟨"BarberMinutesModel", "isChair", "(I)Z"⟩, 35), (⟨"BarberMinutesModel", "apartOf", "(II)I"⟩, 35), (⟨"BarberMinutesModel", "seekRound", "()V"⟩, 35), (⟨"BarberMinutesModel", "tryRound", "(III)V"⟩, 35), (⟨"BarberMinutesModel", "seekSets", "(I)I"⟩, 35), (⟨"BarberMinutesModel", "doesFit", "(I)Z"⟩, 35), (⟨"BarberMinutesModel", "askOf", "()I"⟩, 35), (⟨"BarberMinutesModel", "leavesOf", "(I)I"⟩, 35), (⟨"BarberMinutesModel", "seekRests", "(I)I"⟩, 35), (⟨"BarberMinutesModel", "tryShaves", "(I)V"⟩, 35)]
theorem lw_r7 : ∀ q ∈ lw_privs_7, lw_okq q := List.forall_mem_cons.mpr ⟨lw_p96, List.forall_mem_cons.mpr ⟨lw_p97, List.forall_mem_cons.mpr ⟨lw_p98, List.forall_mem_cons.mpr ⟨lw_p99, List.forall_mem_cons.mpr ⟨lw_p100, List.forall_mem_cons.mpr ⟨lw_p101, List.forall_mem_cons.mpr ⟨lw_p102, List.forall_mem_cons.mpr ⟨lw_p103, List.forall_mem_cons.mpr ⟨lw_p104, List.forall_mem_cons.mpr ⟨lw_p105, List.forall_mem_cons.mpr ⟨lw_p106, List.forall_mem_cons.mpr ⟨lw_p107, List.forall_mem_cons.mpr ⟨lw_p108, List.forall_mem_cons.mpr ⟨lw_p109, List.forall_mem_cons.mpr ⟨lw_p110, List.forall_mem_cons.mpr ⟨lw_p111, fun _ h => absurd h List.not_mem_nil⟩⟩⟩⟩⟩⟩⟩⟩⟩⟩⟩⟩⟩⟩⟩⟩
theorem lw_p112 : lw_okq (⟨"BarberMinutesModel", "shavesWhy", "(ZIII)I"⟩, 35) := ⟨⟨by decide +kernel, by decide +kernel⟩, List.mem_of_getElem? (i := 1183) (by decide +kernel), List.mem_of_getElem? (i := 1792) (by decide +kernel), List.mem_of_getElem? (i := 1793) (by decide +kernel)⟩
theorem lw_p113 : lw_okq (⟨"BarberMinutesModel", "note", "()V"⟩, 35) := ⟨⟨by decide +kernel, by decide +kernel⟩, List.mem_of_getElem? (i := 1183) (by decide +kernel), List.mem_of_getElem? (i := 1806) (by decide +kernel), List.mem_of_getElem? (i := 1807) (by decide +kernel)⟩
theorem lw_p114 : lw_okq (⟨"BarberMinutesModel", "isNot", "(I)Z"⟩, 35) := ⟨⟨by decide +kernel, by decide +kernel⟩, List.mem_of_getElem? (i := 1183) (by decide +kernel), List.mem_of_getElem? (i := 1822) (by decide +kernel), List.mem_of_getElem? (i := 1823) (by decide +kernel)⟩
def lw_privs_8 : List (MethodName × Nat) := [(⟨"BarberMinutesModel", "shavesWhy", "(ZIII)I"⟩, 35), (⟨"BarberMinutesModel", "note", "()V"⟩, 35), (⟨"BarberMinutesModel", "isNot", "(I)Z"⟩, 35)]
theorem lw_r8 : ∀ q ∈ lw_privs_8, lw_okq q := List.forall_mem_cons.mpr ⟨lw_p112, List.forall_mem_cons.mpr ⟨lw_p113, List.forall_mem_cons.mpr ⟨lw_p114, fun _ h => absurd h List.not_mem_nil⟩⟩⟩
def lw_privs : List (MethodName × Nat) := lw_privs_1 ++ (lw_privs_2 ++ (lw_privs_3 ++ (lw_privs_4 ++ (lw_privs_5 ++ (lw_privs_6 ++ (lw_privs_7 ++ (lw_privs_8)))))))
def lw_tbl : List Cond := k2_sels lw_privs ++ tables_1
theorem lw_privs_ok : ∀ q ∈ lw_privs, lw_okq q := by
  show ∀ q ∈ lw_privs_1 ++ (lw_privs_2 ++ (lw_privs_3 ++ (lw_privs_4 ++ (lw_privs_5 ++ (lw_privs_6 ++ (lw_privs_7 ++ (lw_privs_8))))))), lw_okq q
  exact List.forall_mem_append.mpr ⟨lw_r1, List.forall_mem_append.mpr ⟨lw_r2, List.forall_mem_append.mpr ⟨lw_r3, List.forall_mem_append.mpr ⟨lw_r4, List.forall_mem_append.mpr ⟨lw_r5, List.forall_mem_append.mpr ⟨lw_r6, List.forall_mem_append.mpr ⟨lw_r7, lw_r8⟩⟩⟩⟩⟩⟩⟩
-- ===== end of PART A; then your names; then what follows =====
end
section
def RX0 : String := "BarberMinutes$Agenda"
def TX0 : u_T := fun k => match k with
  | 0 => ("BarberMinutes$Agenda", "steps", "[LBarberMinutes$Minutes;", true)
  | 1 => ("BarberMinutes$Agenda", "weeks", "I", false)
  | 2 => ("BarberMinutes$Agenda", "bestRow", "I", false)
  | 3 => ("BarberMinutes$Agenda", "bestWorth", "I", false)
  | _ => ("BarberMinutes$Agenda", "bestCarried", "I", false)
def tyX0 : Nat → FieldType := fun k => match k with
  | 0 => .array (.object "BarberMinutes$Minutes")
  | 1 => .int
  | 2 => .int
  | 3 => .int
  | _ => .int
abbrev wsX00 : List Cond := u_ws RX0 TX0 5
theorem nmX0 : ∀ a, a < 5 → ∀ b, b < 5 → a ≠ b → (TX0 a).2.1 ≠ (TX0 b).2.1 := by decide +kernel
theorem tyX0_ok : ∀ k, k < 5 → parseFieldDescriptor (TX0 k).2.2.1 = some (tyX0 k) := by decide +kernel
abbrev cX0_init : ByteArray := prog_2_method_1_code
def yX0_init : MethodName := ⟨RX0, "<init>", "()V"⟩
abbrev cX0_isRow : ByteArray := prog_2_method_2_code
def yX0_isRow : MethodName := ⟨RX0, "isRow", "(LBarberMinutes$Town;II)Z"⟩
abbrev cX0_worthOfRow : ByteArray := prog_2_method_3_code
def yX0_worthOfRow : MethodName := ⟨RX0, "worthOfRow", "(LBarberMinutes$Town;LBarberMinutes$Minutes;II)I"⟩
abbrev cX0_search : ByteArray := prog_2_method_4_code
def yX0_search : MethodName := ⟨RX0, "search", "(LBarberMinutes$Town;LBarberMinutes$Minutes;I)V"⟩
abbrev cX0_explore : ByteArray := prog_2_method_5_code
def yX0_explore : MethodName := ⟨RX0, "explore", "(LBarberMinutes$Town;III)V"⟩
abbrev cX0_takeStep : ByteArray := prog_2_method_6_code
def yX0_takeStep : MethodName := ⟨RX0, "takeStep", "(LBarberMinutes$Town;II)I"⟩
abbrev cX0_fewestWeeks : ByteArray := prog_2_method_7_code
def yX0_fewestWeeks : MethodName := ⟨RX0, "fewestWeeks", "(LBarberMinutes$Town;LBarberMinutes$Minutes;I)I"⟩
abbrev cX0_canCarry : ByteArray := prog_2_method_8_code
def yX0_canCarry : MethodName := ⟨RX0, "canCarry", "(LBarberMinutes$Town;II)Z"⟩
def RX1 : String := "BarberMinutes$Chance"
def TX1 : u_T := fun k => match k with
  | 0 => ("BarberMinutes$Chance", "upper", "J", false)
  | 1 => ("BarberMinutes$Chance", "lower", "J", false)
  | _ => ("BarberMinutes$Chance", "seed", "I", false)
def tyX1 : Nat → FieldType := fun k => match k with
  | 0 => .long
  | 1 => .long
  | _ => .int
abbrev wsX10 : List Cond := u_ws RX1 TX1 3
theorem nmX1 : ∀ a, a < 3 → ∀ b, b < 3 → a ≠ b → (TX1 a).2.1 ≠ (TX1 b).2.1 := by decide +kernel
theorem tyX1_ok : ∀ k, k < 3 → parseFieldDescriptor (TX1 k).2.2.1 = some (tyX1 k) := by decide +kernel
abbrev cX1_init : ByteArray := prog_3_method_1_code
def yX1_init : MethodName := ⟨RX1, "<init>", "()V"⟩
abbrev cX1_weighEnough : ByteArray := prog_3_method_2_code
def yX1_weighEnough : MethodName := ⟨RX1, "weighEnough", "(LBarberMinutes$Town;LBarberMinutes$Minutes;I)V"⟩
abbrev cX1_weighYes : ByteArray := prog_3_method_3_code
def yX1_weighYes : MethodName := ⟨RX1, "weighYes", "(LBarberMinutes$Town;LBarberMinutes$Minutes;I)V"⟩
abbrev cX1_power : ByteArray := prog_3_method_4_code
def yX1_power : MethodName := ⟨RX1, "power", "(II)J"⟩
abbrev cX1_reduce : ByteArray := prog_3_method_5_code
def yX1_reduce : MethodName := ⟨RX1, "reduce", "(JJ)V"⟩
abbrev cX1_passShavingWeek : ByteArray := prog_3_method_6_code
def yX1_passShavingWeek : MethodName := ⟨RX1, "passShavingWeek", "(LBarberMinutes$Town;LBarberMinutes$Minutes;)V"⟩
def RX2 : String := "BarberMinutes$Minutes"
def TX2 : u_T := fun k => match k with
  | 0 => ("BarberMinutes$Minutes", "hair", "[I", true)
  | 1 => ("BarberMinutes$Minutes", "fallen", "[I", true)
  | 2 => ("BarberMinutes$Minutes", "carried", "I", false)
  | _ => ("BarberMinutes$Minutes", "weeks", "I", false)
def tyX2 : Nat → FieldType := fun k => match k with
  | 0 => .array .int
  | 1 => .array .int
  | 2 => .int
  | _ => .int
abbrev wsX20 : List Cond := u_ws RX2 TX2 4
theorem nmX2 : ∀ a, a < 4 → ∀ b, b < 4 → a ≠ b → (TX2 a).2.1 ≠ (TX2 b).2.1 := by decide +kernel
theorem tyX2_ok : ∀ k, k < 4 → parseFieldDescriptor (TX2 k).2.2.1 = some (tyX2 k) := by decide +kernel
abbrev cX2_init : ByteArray := prog_4_method_1_code
def yX2_init : MethodName := ⟨RX2, "<init>", "()V"⟩
abbrev cX2_begin : ByteArray := prog_4_method_2_code
def yX2_begin : MethodName := ⟨RX2, "begin", "(LBarberMinutes$Town;)V"⟩
abbrev cX2_copy : ByteArray := prog_4_method_3_code
def yX2_copy : MethodName := ⟨RX2, "copy", "(LBarberMinutes$Minutes;)V"⟩
abbrev cX2_passWeek : ByteArray := prog_4_method_4_code
def yX2_passWeek : MethodName := ⟨RX2, "passWeek", "(LBarberMinutes$Town;)V"⟩
abbrev cX2_isBald : ByteArray := prog_4_method_5_code
def yX2_isBald : MethodName := ⟨RX2, "isBald", "(LBarberMinutes$Town;I)Z"⟩
abbrev cX2_baldMen : ByteArray := prog_4_method_6_code
def yX2_baldMen : MethodName := ⟨RX2, "baldMen", "(LBarberMinutes$Town;)I"⟩
abbrev cX2_hairyMen : ByteArray := prog_4_method_7_code
def yX2_hairyMen : MethodName := ⟨RX2, "hairyMen", "(LBarberMinutes$Town;)I"⟩
abbrev cX2_saysYes : ByteArray := prog_4_method_8_code
def yX2_saysYes : MethodName := ⟨RX2, "saysYes", "(LBarberMinutes$Town;II)Z"⟩
abbrev cX2_motionsLiked : ByteArray := prog_4_method_9_code
def yX2_motionsLiked : MethodName := ⟨RX2, "motionsLiked", "(LBarberMinutes$Town;I)I"⟩
abbrev cX2_yesMen : ByteArray := prog_4_method_10_code
def yX2_yesMen : MethodName := ⟨RX2, "yesMen", "(LBarberMinutes$Town;I)I"⟩
abbrev cX2_yesVotes : ByteArray := prog_4_method_11_code
def yX2_yesVotes : MethodName := ⟨RX2, "yesVotes", "(LBarberMinutes$Town;I)I"⟩
abbrev cX2_hasEnough : ByteArray := prog_4_method_12_code
def yX2_hasEnough : MethodName := ⟨RX2, "hasEnough", "(LBarberMinutes$Town;I)Z"⟩
abbrev cX2_wasCarried : ByteArray := prog_4_method_13_code
def yX2_wasCarried : MethodName := ⟨RX2, "wasCarried", "(I)Z"⟩
abbrev cX2_mayBePut : ByteArray := prog_4_method_14_code
def yX2_mayBePut : MethodName := ⟨RX2, "mayBePut", "(LBarberMinutes$Town;I)Z"⟩
abbrev cX2_cutFor : ByteArray := prog_4_method_15_code
def yX2_cutFor : MethodName := ⟨RX2, "cutFor", "(LBarberMinutes$Town;I)Z"⟩
abbrev cX2_cutOff : ByteArray := prog_4_method_16_code
def yX2_cutOff : MethodName := ⟨RX2, "cutOff", "(LBarberMinutes$Town;II)V"⟩
abbrev cX2_turns : ByteArray := prog_4_method_17_code
def yX2_turns : MethodName := ⟨RX2, "turns", "(LBarberMinutes$Town;II)I"⟩
def RX3 : String := "BarberMinutes$Past"
def TX3 : u_T := fun k => match k with
  | 0 => ("BarberMinutes$Past", "before", "[LBarberMinutes$Minutes;", true)
  | 1 => ("BarberMinutes$Past", "drawn", "[LBarberMinutes$Minutes;", true)
  | 2 => ("BarberMinutes$Past", "next", "I", false)
  | 3 => ("BarberMinutes$Past", "acts", "I", false)
  | _ => ("BarberMinutes$Past", "images", "I", false)
def tyX3 : Nat → FieldType := fun k => match k with
  | 0 => .array (.object "BarberMinutes$Minutes")
  | 1 => .array (.object "BarberMinutes$Minutes")
  | 2 => .int
  | 3 => .int
  | _ => .int
abbrev wsX30 : List Cond := u_ws RX3 TX3 5
theorem nmX3 : ∀ a, a < 5 → ∀ b, b < 5 → a ≠ b → (TX3 a).2.1 ≠ (TX3 b).2.1 := by decide +kernel
theorem tyX3_ok : ∀ k, k < 5 → parseFieldDescriptor (TX3 k).2.2.1 = some (tyX3 k) := by decide +kernel
abbrev cX3_init : ByteArray := prog_5_method_1_code
def yX3_init : MethodName := ⟨RX3, "<init>", "()V"⟩
abbrev cX3_forget : ByteArray := prog_5_method_2_code
def yX3_forget : MethodName := ⟨RX3, "forget", "()V"⟩
abbrev cX3_keep : ByteArray := prog_5_method_3_code
def yX3_keep : MethodName := ⟨RX3, "keep", "(LBarberMinutes$Minutes;)V"⟩
abbrev cX3_takeBack : ByteArray := prog_5_method_4_code
def yX3_takeBack : MethodName := ⟨RX3, "takeBack", "(LBarberMinutes$Minutes;)Z"⟩
abbrev cX3_draw : ByteArray := prog_5_method_5_code
def yX3_draw : MethodName := ⟨RX3, "draw", "(LBarberMinutes$Minutes;)I"⟩
abbrev cX3_restore : ByteArray := prog_5_method_6_code
def yX3_restore : MethodName := ⟨RX3, "restore", "(ILBarberMinutes$Minutes;)Z"⟩
def RX4 : String := "BarberMinutes$Reader"
def TX4 : u_T := fun k => match k with
  | 0 => ("BarberMinutes$Reader", "text", "[B", false)
  | 1 => ("BarberMinutes$Reader", "end", "I", false)
  | 2 => ("BarberMinutes$Reader", "next", "I", false)
  | 3 => ("BarberMinutes$Reader", "kind", "I", false)
  | 4 => ("BarberMinutes$Reader", "start", "I", false)
  | 5 => ("BarberMinutes$Reader", "value", "I", false)
  | 6 => ("BarberMinutes$Reader", "word", "J", false)
  | 7 => ("BarberMinutes$Reader", "town", "LBarberMinutes$Town;", false)
  | 8 => ("BarberMinutes$Reader", "townTold", "Z", false)
  | 9 => ("BarberMinutes$Reader", "fault", "I", false)
  | 10 => ("BarberMinutes$Reader", "names", "I", false)
  | 11 => ("BarberMinutes$Reader", "nameWord", "[J", true)
  | 12 => ("BarberMinutes$Reader", "nameSort", "[I", true)
  | _ => ("BarberMinutes$Reader", "nameNumber", "[I", true)
def tyX4 : Nat → FieldType := fun k => match k with
  | 0 => .array .byte
  | 1 => .int
  | 2 => .int
  | 3 => .int
  | 4 => .int
  | 5 => .int
  | 6 => .long
  | 7 => .object "BarberMinutes$Town"
  | 8 => .boolean
  | 9 => .int
  | 10 => .int
  | 11 => .array .long
  | 12 => .array .int
  | _ => .array .int
abbrev wsX40 : List Cond := u_ws RX4 TX4 14
theorem nmX4 : ∀ a, a < 14 → ∀ b, b < 14 → a ≠ b → (TX4 a).2.1 ≠ (TX4 b).2.1 := by decide +kernel
theorem tyX4_ok : ∀ k, k < 14 → parseFieldDescriptor (TX4 k).2.2.1 = some (tyX4 k) := by decide +kernel
abbrev cX4_init : ByteArray := prog_6_method_1_code
def yX4_init : MethodName := ⟨RX4, "<init>", "()V"⟩
abbrev cX4_read : ByteArray := prog_6_method_2_code
def yX4_read : MethodName := ⟨RX4, "read", "([BILBarberMinutes$Town;)I"⟩
abbrev cX4_place : ByteArray := prog_6_method_3_code
def yX4_place : MethodName := ⟨RX4, "place", "()I"⟩
abbrev cX4_fail : ByteArray := prog_6_method_4_code
def yX4_fail : MethodName := ⟨RX4, "fail", "(I)V"⟩
abbrev cX4_readLine : ByteArray := prog_6_method_5_code
def yX4_readLine : MethodName := ⟨RX4, "readLine", "()V"⟩
abbrev cX4_room : ByteArray := prog_6_method_6_code
def yX4_room : MethodName := ⟨RX4, "room", "(I)I"⟩
abbrev cX4_told : ByteArray := prog_6_method_7_code
def yX4_told : MethodName := ⟨RX4, "told", "(I)I"⟩
abbrev cX4_readTown : ByteArray := prog_6_method_8_code
def yX4_readTown : MethodName := ⟨RX4, "readTown", "()V"⟩
abbrev cX4_readMan : ByteArray := prog_6_method_9_code
def yX4_readMan : MethodName := ⟨RX4, "readMan", "()V"⟩
abbrev cX4_readMotion : ByteArray := prog_6_method_10_code
def yX4_readMotion : MethodName := ⟨RX4, "readMotion", "()V"⟩
abbrev cX4_readAgainst : ByteArray := prog_6_method_11_code
def yX4_readAgainst : MethodName := ⟨RX4, "readAgainst", "()V"⟩
abbrev cX4_readAmends : ByteArray := prog_6_method_12_code
def yX4_readAmends : MethodName := ⟨RX4, "readAmends", "()V"⟩
abbrev cX4_readQuarrel : ByteArray := prog_6_method_13_code
def yX4_readQuarrel : MethodName := ⟨RX4, "readQuarrel", "()V"⟩
abbrev cX4_readChair : ByteArray := prog_6_method_14_code
def yX4_readChair : MethodName := ⟨RX4, "readChair", "()V"⟩
abbrev cX4_readHeap : ByteArray := prog_6_method_15_code
def yX4_readHeap : MethodName := ⟨RX4, "readHeap", "()V"⟩
abbrev cX4_takeWord : ByteArray := prog_6_method_16_code
def yX4_takeWord : MethodName := ⟨RX4, "takeWord", "(Ljava/lang/String;)V"⟩
abbrev cX4_takeWhole : ByteArray := prog_6_method_17_code
def yX4_takeWhole : MethodName := ⟨RX4, "takeWhole", "(II)I"⟩
abbrev cX4_takeNewName : ByteArray := prog_6_method_18_code
def yX4_takeNewName : MethodName := ⟨RX4, "takeNewName", "(II)V"⟩
abbrev cX4_toldHere : ByteArray := prog_6_method_19_code
def yX4_toldHere : MethodName := ⟨RX4, "toldHere", "(I)I"⟩
abbrev cX4_nameHere : ByteArray := prog_6_method_20_code
def yX4_nameHere : MethodName := ⟨RX4, "nameHere", "()I"⟩
abbrev cX4_colourHere : ByteArray := prog_6_method_21_code
def yX4_colourHere : MethodName := ⟨RX4, "colourHere", "()I"⟩
abbrev cX4_lineHere : ByteArray := prog_6_method_22_code
def yX4_lineHere : MethodName := ⟨RX4, "lineHere", "()I"⟩
abbrev cX4_firstWord : ByteArray := prog_6_method_23_code
def yX4_firstWord : MethodName := ⟨RX4, "firstWord", "(I)Ljava/lang/String;"⟩
abbrev cX4_isWord : ByteArray := prog_6_method_24_code
def yX4_isWord : MethodName := ⟨RX4, "isWord", "(Ljava/lang/String;)Z"⟩
abbrev cX4_packedWith : ByteArray := prog_6_method_25_code
def yX4_packedWith : MethodName := ⟨RX4, "packedWith", "(JI)J"⟩
abbrev cX4_stepOn : ByteArray := prog_6_method_26_code
def yX4_stepOn : MethodName := ⟨RX4, "stepOn", "()V"⟩
abbrev cX4_readLetters : ByteArray := prog_6_method_27_code
def yX4_readLetters : MethodName := ⟨RX4, "readLetters", "()V"⟩
abbrev cX4_readDigits : ByteArray := prog_6_method_28_code
def yX4_readDigits : MethodName := ⟨RX4, "readDigits", "()V"⟩
abbrev cX4_isLetter : ByteArray := prog_6_method_29_code
def yX4_isLetter : MethodName := ⟨RX4, "isLetter", "(I)Z"⟩
abbrev cX4_isDigit : ByteArray := prog_6_method_30_code
def yX4_isDigit : MethodName := ⟨RX4, "isDigit", "(I)Z"⟩
def RX5 : String := "BarberMinutes$Sweepings"
def TX5 : u_T := fun k => match k with
  | 0 => ("BarberMinutes$Sweepings", "sets", "[I", true)
  | 1 => ("BarberMinutes$Sweepings", "count", "I", false)
  | _ => ("BarberMinutes$Sweepings", "trial", "LBarberMinutes$Minutes;", true)
def tyX5 : Nat → FieldType := fun k => match k with
  | 0 => .array .int
  | 1 => .int
  | _ => .object "BarberMinutes$Minutes"
abbrev wsX50 : List Cond := u_ws RX5 TX5 3
theorem nmX5 : ∀ a, a < 3 → ∀ b, b < 3 → a ≠ b → (TX5 a).2.1 ≠ (TX5 b).2.1 := by decide +kernel
theorem tyX5_ok : ∀ k, k < 3 → parseFieldDescriptor (TX5 k).2.2.1 = some (tyX5 k) := by decide +kernel
abbrev cX5_init : ByteArray := prog_7_method_1_code
def yX5_init : MethodName := ⟨RX5, "<init>", "()V"⟩
abbrev cX5_find : ByteArray := prog_7_method_2_code
def yX5_find : MethodName := ⟨RX5, "find", "(LBarberMinutes$Town;)V"⟩
abbrev cX5_explainsHeaps : ByteArray := prog_7_method_3_code
def yX5_explainsHeaps : MethodName := ⟨RX5, "explainsHeaps", "(LBarberMinutes$Town;I)Z"⟩
abbrev cX5_inSome : ByteArray := prog_7_method_4_code
def yX5_inSome : MethodName := ⟨RX5, "inSome", "()I"⟩
abbrev cX5_inAll : ByteArray := prog_7_method_5_code
def yX5_inAll : MethodName := ⟨RX5, "inAll", "()I"⟩
abbrev cX5_leftAtMost : ByteArray := prog_7_method_6_code
def yX5_leftAtMost : MethodName := ⟨RX5, "leftAtMost", "(I)I"⟩
abbrev cX5_question : ByteArray := prog_7_method_7_code
def yX5_question : MethodName := ⟨RX5, "question", "(LBarberMinutes$Town;)I"⟩
def RX6 : String := "BarberMinutes$Tour"
def TX6 : u_T := fun k => match k with
  | 0 => ("BarberMinutes$Tour", "order", "[I", true)
  | 1 => ("BarberMinutes$Tour", "best", "[I", true)
  | _ => ("BarberMinutes$Tour", "far", "I", false)
def tyX6 : Nat → FieldType := fun k => match k with
  | 0 => .array .int
  | 1 => .array .int
  | _ => .int
abbrev wsX60 : List Cond := u_ws RX6 TX6 3
theorem nmX6 : ∀ a, a < 3 → ∀ b, b < 3 → a ≠ b → (TX6 a).2.1 ≠ (TX6 b).2.1 := by decide +kernel
theorem tyX6_ok : ∀ k, k < 3 → parseFieldDescriptor (TX6 k).2.2.1 = some (tyX6 k) := by decide +kernel
abbrev cX6_init : ByteArray := prog_8_method_1_code
def yX6_init : MethodName := ⟨RX6, "<init>", "()V"⟩
abbrev cX6_find : ByteArray := prog_8_method_2_code
def yX6_find : MethodName := ⟨RX6, "find", "(LBarberMinutes$Town;)V"⟩
abbrev cX6_walk : ByteArray := prog_8_method_3_code
def yX6_walk : MethodName := ⟨RX6, "walk", "(LBarberMinutes$Town;III)V"⟩
abbrev cX6_weigh : ByteArray := prog_8_method_4_code
def yX6_weigh : MethodName := ⟨RX6, "weigh", "(LBarberMinutes$Town;II)V"⟩
def RX7 : String := "BarberMinutes$Town"
def TX7 : u_T := fun k => match k with
  | 0 => ("BarberMinutes$Town", "grows", "I", false)
  | 1 => ("BarberMinutes$Town", "baldBelow", "I", false)
  | 2 => ("BarberMinutes$Town", "shaveChance", "I", false)
  | 3 => ("BarberMinutes$Town", "men", "I", false)
  | 4 => ("BarberMinutes$Town", "colour", "[I", true)
  | 5 => ("BarberMinutes$Town", "firstHair", "[I", true)
  | 6 => ("BarberMinutes$Town", "votes", "[I", true)
  | 7 => ("BarberMinutes$Town", "against", "[I", true)
  | 8 => ("BarberMinutes$Town", "quarrels", "[I", true)
  | 9 => ("BarberMinutes$Town", "motions", "I", false)
  | 10 => ("BarberMinutes$Town", "cuts", "[I", true)
  | 11 => ("BarberMinutes$Town", "needs", "[I", true)
  | 12 => ("BarberMinutes$Town", "worth", "[I", true)
  | 13 => ("BarberMinutes$Town", "amends", "[I", true)
  | 14 => ("BarberMinutes$Town", "rows", "[I", true)
  | 15 => ("BarberMinutes$Town", "chairs", "I", false)
  | 16 => ("BarberMinutes$Town", "chairAt", "[I", true)
  | 17 => ("BarberMinutes$Town", "heap", "[I", true)
  | _ => ("BarberMinutes$Town", "heapsTold", "I", false)
def tyX7 : Nat → FieldType := fun k => match k with
  | 0 => .int
  | 1 => .int
  | 2 => .int
  | 3 => .int
  | 4 => .array .int
  | 5 => .array .int
  | 6 => .array .int
  | 7 => .array .int
  | 8 => .array .int
  | 9 => .int
  | 10 => .array .int
  | 11 => .array .int
  | 12 => .array .int
  | 13 => .array .int
  | 14 => .array .int
  | 15 => .int
  | 16 => .array .int
  | 17 => .array .int
  | _ => .int
abbrev wsX70 : List Cond := u_ws RX7 TX7 19
theorem nmX7 : ∀ a, a < 19 → ∀ b, b < 19 → a ≠ b → (TX7 a).2.1 ≠ (TX7 b).2.1 := by decide +kernel
theorem tyX7_ok : ∀ k, k < 19 → parseFieldDescriptor (TX7 k).2.2.1 = some (tyX7 k) := by decide +kernel
abbrev cX7_init : ByteArray := prog_9_method_1_code
def yX7_init : MethodName := ⟨RX7, "<init>", "()V"⟩
abbrev cX7_clear : ByteArray := prog_9_method_2_code
def yX7_clear : MethodName := ⟨RX7, "clear", "()V"⟩
abbrev cX7_addMan : ByteArray := prog_9_method_3_code
def yX7_addMan : MethodName := ⟨RX7, "addMan", "(III)V"⟩
abbrev cX7_addMotion : ByteArray := prog_9_method_4_code
def yX7_addMotion : MethodName := ⟨RX7, "addMotion", "(III)V"⟩
abbrev cX7_addChair : ByteArray := prog_9_method_5_code
def yX7_addChair : MethodName := ⟨RX7, "addChair", "(I)V"⟩
abbrev cX7_bitsOf : ByteArray := prog_9_method_6_code
def yX7_bitsOf : MethodName := ⟨RX7, "bitsOf", "([II)I"⟩
abbrev cX7_votesOf : ByteArray := prog_9_method_7_code
def yX7_votesOf : MethodName := ⟨RX7, "votesOf", "(I)I"⟩
abbrev cX7_amenders : ByteArray := prog_9_method_8_code
def yX7_amenders : MethodName := ⟨RX7, "amenders", "(I)I"⟩
abbrev cX7_rowUpTo : ByteArray := prog_9_method_9_code
def yX7_rowUpTo : MethodName := ⟨RX7, "rowUpTo", "(I)I"⟩
abbrev cX7_quarrelsTold : ByteArray := prog_9_method_10_code
def yX7_quarrelsTold : MethodName := ⟨RX7, "quarrelsTold", "()I"⟩
abbrev cX7_quarrelsAcross : ByteArray := prog_9_method_11_code
def yX7_quarrelsAcross : MethodName := ⟨RX7, "quarrelsAcross", "(I)I"⟩
abbrev cX7_bestSide : ByteArray := prog_9_method_12_code
def yX7_bestSide : MethodName := ⟨RX7, "bestSide", "()I"⟩
abbrev cX7_fewestQuarrellers : ByteArray := prog_9_method_13_code
def yX7_fewestQuarrellers : MethodName := ⟨RX7, "fewestQuarrellers", "()I"⟩
abbrev cX7_isQuietWithout : ByteArray := prog_9_method_14_code
def yX7_isQuietWithout : MethodName := ⟨RX7, "isQuietWithout", "(I)Z"⟩
abbrev cX7_wayBetween : ByteArray := prog_9_method_15_code
def yX7_wayBetween : MethodName := ⟨RX7, "wayBetween", "(II)I"⟩
def RX8 : String := "BarberMinutes"
def TX8 : u_T := fun k => match k with
  | 0 => ("BarberMinutes", "tape", "[B", true)
  | 1 => ("BarberMinutes", "taped", "I", false)
  | 2 => ("BarberMinutes", "reader", "LBarberMinutes$Reader;", true)
  | 3 => ("BarberMinutes", "town", "LBarberMinutes$Town;", false)
  | 4 => ("BarberMinutes", "spare", "LBarberMinutes$Town;", false)
  | 5 => ("BarberMinutes", "now", "LBarberMinutes$Minutes;", true)
  | 6 => ("BarberMinutes", "trial", "LBarberMinutes$Minutes;", true)
  | 7 => ("BarberMinutes", "past", "LBarberMinutes$Past;", true)
  | 8 => ("BarberMinutes", "agenda", "LBarberMinutes$Agenda;", true)
  | 9 => ("BarberMinutes", "tour", "LBarberMinutes$Tour;", true)
  | 10 => ("BarberMinutes", "sweepings", "LBarberMinutes$Sweepings;", true)
  | 11 => ("BarberMinutes", "chance", "LBarberMinutes$Chance;", true)
  | 12 => ("BarberMinutes", "fault", "I", false)
  | 13 => ("BarberMinutes", "place", "I", false)
  | _ => ("BarberMinutes", "trouble", "I", false)
def tyX8 : Nat → FieldType := fun k => match k with
  | 0 => .array .byte
  | 1 => .int
  | 2 => .object "BarberMinutes$Reader"
  | 3 => .object "BarberMinutes$Town"
  | 4 => .object "BarberMinutes$Town"
  | 5 => .object "BarberMinutes$Minutes"
  | 6 => .object "BarberMinutes$Minutes"
  | 7 => .object "BarberMinutes$Past"
  | 8 => .object "BarberMinutes$Agenda"
  | 9 => .object "BarberMinutes$Tour"
  | 10 => .object "BarberMinutes$Sweepings"
  | 11 => .object "BarberMinutes$Chance"
  | 12 => .int
  | 13 => .int
  | _ => .int
abbrev wsX80 : List Cond := u_ws RX8 TX8 15
theorem nmX8 : ∀ a, a < 15 → ∀ b, b < 15 → a ≠ b → (TX8 a).2.1 ≠ (TX8 b).2.1 := by decide +kernel
theorem tyX8_ok : ∀ k, k < 15 → parseFieldDescriptor (TX8 k).2.2.1 = some (tyX8 k) := by decide +kernel
abbrev cX8_init : ByteArray := prog_1_method_1_code
def yX8_init : MethodName := ⟨RX8, "<init>", "()V"⟩
abbrev cX8_feed : ByteArray := prog_1_method_2_code
def yX8_feed : MethodName := ⟨RX8, "feed", "(IIIII)I"⟩
abbrev cX8_store : ByteArray := prog_1_method_3_code
def yX8_store : MethodName := ⟨RX8, "store", "(I)V"⟩
abbrev cX8_town : ByteArray := prog_1_method_4_code
def yX8_town : MethodName := ⟨RX8, "town", "(I)I"⟩
abbrev cX8_fault : ByteArray := prog_1_method_5_code
def yX8_fault : MethodName := ⟨RX8, "fault", "()I"⟩
abbrev cX8_where : ByteArray := prog_1_method_6_code
def yX8_where : MethodName := ⟨RX8, "where", "()I"⟩
abbrev cX8_man : ByteArray := prog_1_method_7_code
def yX8_man : MethodName := ⟨RX8, "man", "(II)I"⟩
abbrev cX8_motion : ByteArray := prog_1_method_8_code
def yX8_motion : MethodName := ⟨RX8, "motion", "(II)I"⟩
abbrev cX8_floor : ByteArray := prog_1_method_9_code
def yX8_floor : MethodName := ⟨RX8, "floor", "(I)I"⟩
abbrev cX8_bald : ByteArray := prog_1_method_10_code
def yX8_bald : MethodName := ⟨RX8, "bald", "()I"⟩
abbrev cX8_longest : ByteArray := prog_1_method_11_code
def yX8_longest : MethodName := ⟨RX8, "longest", "()I"⟩
abbrev cX8_ready : ByteArray := prog_1_method_12_code
def yX8_ready : MethodName := ⟨RX8, "ready", "()I"⟩
abbrev cX8_quorum : ByteArray := prog_1_method_13_code
def yX8_quorum : MethodName := ⟨RX8, "quorum", "()I"⟩
abbrev cX8_behind : ByteArray := prog_1_method_14_code
def yX8_behind : MethodName := ⟨RX8, "behind", "(I)I"⟩
abbrev cX8_depth : ByteArray := prog_1_method_15_code
def yX8_depth : MethodName := ⟨RX8, "depth", "(I)I"⟩
abbrev cX8_longIn : ByteArray := prog_1_method_16_code
def yX8_longIn : MethodName := ⟨RX8, "longIn", "(II)I"⟩
abbrev cX8_yesIn : ByteArray := prog_1_method_17_code
def yX8_yesIn : MethodName := ⟨RX8, "yesIn", "(II)I"⟩
abbrev cX8_carryIn : ByteArray := prog_1_method_18_code
def yX8_carryIn : MethodName := ⟨RX8, "carryIn", "(I)I"⟩
abbrev cX8_hairyIn : ByteArray := prog_1_method_19_code
def yX8_hairyIn : MethodName := ⟨RX8, "hairyIn", "()I"⟩
abbrev cX8_soonest : ByteArray := prog_1_method_20_code
def yX8_soonest : MethodName := ⟨RX8, "soonest", "()I"⟩
abbrev cX8_lookAhead : ByteArray := prog_1_method_21_code
def yX8_lookAhead : MethodName := ⟨RX8, "lookAhead", "(I)V"⟩
abbrev cX8_weeksUntilEnough : ByteArray := prog_1_method_22_code
def yX8_weeksUntilEnough : MethodName := ⟨RX8, "weeksUntilEnough", "(I)I"⟩
abbrev cX8_worthOf : ByteArray := prog_1_method_23_code
def yX8_worthOf : MethodName := ⟨RX8, "worthOf", "(II)I"⟩
abbrev cX8_bestRow : ByteArray := prog_1_method_24_code
def yX8_bestRow : MethodName := ⟨RX8, "bestRow", "(I)I"⟩
abbrev cX8_bestWorth : ByteArray := prog_1_method_25_code
def yX8_bestWorth : MethodName := ⟨RX8, "bestWorth", "(I)I"⟩
abbrev cX8_bestCarried : ByteArray := prog_1_method_26_code
def yX8_bestCarried : MethodName := ⟨RX8, "bestCarried", "(I)I"⟩
abbrev cX8_weeksFor : ByteArray := prog_1_method_27_code
def yX8_weeksFor : MethodName := ⟨RX8, "weeksFor", "(I)I"⟩
abbrev cX8_lacksAgenda : ByteArray := prog_1_method_28_code
def yX8_lacksAgenda : MethodName := ⟨RX8, "lacksAgenda", "(I)Z"⟩
abbrev cX8_swings : ByteArray := prog_1_method_29_code
def yX8_swings : MethodName := ⟨RX8, "swings", "(II)I"⟩
abbrev cX8_mighty : ByteArray := prog_1_method_30_code
def yX8_mighty : MethodName := ⟨RX8, "mighty", "(I)I"⟩
abbrev cX8_outvoted : ByteArray := prog_1_method_31_code
def yX8_outvoted : MethodName := ⟨RX8, "outvoted", "(I)I"⟩
abbrev cX8_bench : ByteArray := prog_1_method_32_code
def yX8_bench : MethodName := ⟨RX8, "bench", "(I)I"⟩
abbrev cX8_parting : ByteArray := prog_1_method_33_code
def yX8_parting : MethodName := ⟨RX8, "parting", "()I"⟩
abbrev cX8_left : ByteArray := prog_1_method_34_code
def yX8_left : MethodName := ⟨RX8, "left", "()I"⟩
abbrev cX8_peace : ByteArray := prog_1_method_35_code
def yX8_peace : MethodName := ⟨RX8, "peace", "()I"⟩
abbrev cX8_lacksNeeds : ByteArray := prog_1_method_36_code
def yX8_lacksNeeds : MethodName := ⟨RX8, "lacksNeeds", "(I)Z"⟩
abbrev cX8_apart : ByteArray := prog_1_method_37_code
def yX8_apart : MethodName := ⟨RX8, "apart", "(II)I"⟩
abbrev cX8_round : ByteArray := prog_1_method_38_code
def yX8_round : MethodName := ⟨RX8, "round", "()I"⟩
abbrev cX8_roundAt : ByteArray := prog_1_method_39_code
def yX8_roundAt : MethodName := ⟨RX8, "roundAt", "(I)I"⟩
abbrev cX8_fits : ByteArray := prog_1_method_40_code
def yX8_fits : MethodName := ⟨RX8, "fits", "()I"⟩
abbrev cX8_fitAt : ByteArray := prog_1_method_41_code
def yX8_fitAt : MethodName := ⟨RX8, "fitAt", "(I)I"⟩
abbrev cX8_could : ByteArray := prog_1_method_42_code
def yX8_could : MethodName := ⟨RX8, "could", "()I"⟩
abbrev cX8_surely : ByteArray := prog_1_method_43_code
def yX8_surely : MethodName := ⟨RX8, "surely", "()I"⟩
abbrev cX8_ask : ByteArray := prog_1_method_44_code
def yX8_ask : MethodName := ⟨RX8, "ask", "()I"⟩
abbrev cX8_askLeaves : ByteArray := prog_1_method_45_code
def yX8_askLeaves : MethodName := ⟨RX8, "askLeaves", "()I"⟩
abbrev cX8_cannotSweep : ByteArray := prog_1_method_46_code
def yX8_cannotSweep : MethodName := ⟨RX8, "cannotSweep", "()Z"⟩
abbrev cX8_talk : ByteArray := prog_1_method_47_code
def yX8_talk : MethodName := ⟨RX8, "talk", "(IZZZ)I"⟩
abbrev cX8_rests : ByteArray := prog_1_method_48_code
def yX8_rests : MethodName := ⟨RX8, "rests", "(I)I"⟩
abbrev cX8_rest : ByteArray := prog_1_method_49_code
def yX8_rest : MethodName := ⟨RX8, "rest", "(I)I"⟩
abbrev cX8_lacksLather : ByteArray := prog_1_method_50_code
def yX8_lacksLather : MethodName := ⟨RX8, "lacksLather", "(I)Z"⟩
abbrev cX8_share : ByteArray := prog_1_method_51_code
def yX8_share : MethodName := ⟨RX8, "share", "(IZZ)I"⟩
abbrev cX8_isRest : ByteArray := prog_1_method_52_code
def yX8_isRest : MethodName := ⟨RX8, "isRest", "(II)Z"⟩
abbrev cX8_odds : ByteArray := prog_1_method_53_code
def yX8_odds : MethodName := ⟨RX8, "odds", "(IZ)J"⟩
abbrev cX8_mean : ByteArray := prog_1_method_54_code
def yX8_mean : MethodName := ⟨RX8, "mean", "(IZ)J"⟩
abbrev cX8_shaves : ByteArray := prog_1_method_55_code
def yX8_shaves : MethodName := ⟨RX8, "shaves", "(III)I"⟩
abbrev cX8_carries : ByteArray := prog_1_method_56_code
def yX8_carries : MethodName := ⟨RX8, "carries", "(III)I"⟩
abbrev cX8_lacksDraws : ByteArray := prog_1_method_57_code
def yX8_lacksDraws : MethodName := ⟨RX8, "lacksDraws", "(II)Z"⟩
abbrev cX8_put : ByteArray := prog_1_method_58_code
def yX8_put : MethodName := ⟨RX8, "put", "(I)I"⟩
abbrev cX8_week : ByteArray := prog_1_method_59_code
def yX8_week : MethodName := ⟨RX8, "week", "()I"⟩
abbrev cX8_shave : ByteArray := prog_1_method_60_code
def yX8_shave : MethodName := ⟨RX8, "shave", "(I)I"⟩
abbrev cX8_undo : ByteArray := prog_1_method_61_code
def yX8_undo : MethodName := ⟨RX8, "undo", "()Z"⟩
abbrev cX8_image : ByteArray := prog_1_method_62_code
def yX8_image : MethodName := ⟨RX8, "image", "()I"⟩
abbrev cX8_back : ByteArray := prog_1_method_63_code
def yX8_back : MethodName := ⟨RX8, "back", "(I)Z"⟩
abbrev cX8_led : ByteArray := prog_1_method_64_code
def yX8_led : MethodName := ⟨RX8, "led", "(I)I"⟩
abbrev cX8_size : ByteArray := prog_1_method_65_code
def yX8_size : MethodName := ⟨RX8, "size", "(I)I"⟩
abbrev cX8_trouble : ByteArray := prog_1_method_66_code
def yX8_trouble : MethodName := ⟨RX8, "trouble", "()I"⟩
abbrev cX8_refused : ByteArray := prog_1_method_67_code
def yX8_refused : MethodName := ⟨RX8, "refused", "(I)I"⟩
abbrev cX8_refusedOf : ByteArray := prog_1_method_68_code
def yX8_refusedOf : MethodName := ⟨RX8, "refusedOf", "(Z)Z"⟩
abbrev cX8_granted : ByteArray := prog_1_method_69_code
def yX8_granted : MethodName := ⟨RX8, "granted", "(I)I"⟩
abbrev cX8_noTown : ByteArray := prog_1_method_70_code
def yX8_noTown : MethodName := ⟨RX8, "noTown", "()Z"⟩
abbrev cX8_lacksMan : ByteArray := prog_1_method_71_code
def yX8_lacksMan : MethodName := ⟨RX8, "lacksMan", "(I)Z"⟩
abbrev cX8_lacksMotion : ByteArray := prog_1_method_72_code
def yX8_lacksMotion : MethodName := ⟨RX8, "lacksMotion", "(I)Z"⟩
abbrev cX8_lacksChair : ByteArray := prog_1_method_73_code
def yX8_lacksChair : MethodName := ⟨RX8, "lacksChair", "(I)Z"⟩
def RX9 : String := "BarberMinutesModel"
def TX9 : u_T := fun k => match k with
  | 0 => ("BarberMinutesModel", "thrown", "I", false)
  | 1 => ("BarberMinutesModel", "tape", "[I", true)
  | 2 => ("BarberMinutesModel", "taped", "I", false)
  | 3 => ("BarberMinutesModel", "size", "I", false)
  | 4 => ("BarberMinutesModel", "at", "I", false)
  | 5 => ("BarberMinutesModel", "end", "I", false)
  | 6 => ("BarberMinutesModel", "token", "I", false)
  | 7 => ("BarberMinutesModel", "whole", "I", false)
  | 8 => ("BarberMinutesModel", "nameSize", "I", false)
  | 9 => ("BarberMinutesModel", "fault", "I", false)
  | 10 => ("BarberMinutesModel", "place", "I", false)
  | 11 => ("BarberMinutesModel", "trouble", "I", false)
  | 12 => ("BarberMinutesModel", "letters", "[I", true)
  | 13 => ("BarberMinutesModel", "failed", "Z", false)
  | 14 => ("BarberMinutesModel", "hasTown", "Z", false)
  | 15 => ("BarberMinutesModel", "\x72", "[I", true)
  | 16 => ("BarberMinutesModel", "fresh", "[I", true)
  | 17 => ("BarberMinutesModel", "st", "[I", true)
  | 18 => ("BarberMinutesModel", "undone", "[I", true)
  | 19 => ("BarberMinutesModel", "kept", "[I", true)
  | 20 => ("BarberMinutesModel", "undos", "I", false)
  | 21 => ("BarberMinutesModel", "images", "I", false)
  | 22 => ("BarberMinutesModel", "trial", "[I", true)
  | 23 => ("BarberMinutesModel", "way", "[I", true)
  | 24 => ("BarberMinutesModel", "best", "[I", true)
  | 25 => ("BarberMinutesModel", "leastWay", "I", false)
  | 26 => ("BarberMinutesModel", "often", "[I", true)
  | 27 => ("BarberMinutesModel", "setMany", "I", false)
  | 28 => ("BarberMinutesModel", "someOf", "I", false)
  | 29 => ("BarberMinutesModel", "allOf", "I", false)
  | 30 => ("BarberMinutesModel", "firstRest", "I", false)
  | 31 => ("BarberMinutesModel", "allWeight", "J", false)
  | 32 => ("BarberMinutesModel", "enoughWeight", "J", false)
  | 33 => ("BarberMinutesModel", "yesSum", "J", false)
  | _ => ("BarberMinutesModel", "carriedIn", "I", false)
def tyX9 : Nat → FieldType := fun k => match k with
  | 0 => .int
  | 1 => .array .int
  | 2 => .int
  | 3 => .int
  | 4 => .int
  | 5 => .int
  | 6 => .int
  | 7 => .int
  | 8 => .int
  | 9 => .int
  | 10 => .int
  | 11 => .int
  | 12 => .array .int
  | 13 => .boolean
  | 14 => .boolean
  | 15 => .array .int
  | 16 => .array .int
  | 17 => .array .int
  | 18 => .array .int
  | 19 => .array .int
  | 20 => .int
  | 21 => .int
  | 22 => .array .int
  | 23 => .array .int
  | 24 => .array .int
  | 25 => .int
  | 26 => .array .int
  | 27 => .int
  | 28 => .int
  | 29 => .int
  | 30 => .int
  | 31 => .long
  | 32 => .long
  | 33 => .long
  | _ => .int
abbrev wsX90 : List Cond := u_ws RX9 TX9 35
theorem nmX9 : ∀ a, a < 35 → ∀ b, b < 35 → a ≠ b → (TX9 a).2.1 ≠ (TX9 b).2.1 := by decide +kernel
theorem tyX9_ok : ∀ k, k < 35 → parseFieldDescriptor (TX9 k).2.2.1 = some (tyX9 k) := by decide +kernel
abbrev cX9_init : ByteArray := prog_11_method_1_code
def yX9_init : MethodName := ⟨RX9, "<init>", "()V"⟩
abbrev cX9_thrown : ByteArray := prog_11_method_2_code
def yX9_thrown : MethodName := ⟨RX9, "thrown", "()I"⟩
abbrev cX9_good : ByteArray := prog_11_method_3_code
def yX9_good : MethodName := ⟨RX9, "good", "()V"⟩
abbrev cX9_no : ByteArray := prog_11_method_4_code
def yX9_no : MethodName := ⟨RX9, "no", "(I)I"⟩
abbrev cX9_isNot : ByteArray := prog_11_method_5_code
def yX9_isNot : MethodName := ⟨RX9, "isNot", "(I)Z"⟩
abbrev cX9_in : ByteArray := prog_11_method_6_code
def yX9_in : MethodName := ⟨RX9, "in", "(III)Z"⟩
abbrev cX9_hasBit : ByteArray := prog_11_method_7_code
def yX9_hasBit : MethodName := ⟨RX9, "hasBit", "(II)Z"⟩
abbrev cX9_ones : ByteArray := prog_11_method_8_code
def yX9_ones : MethodName := ⟨RX9, "ones", "(I)I"⟩
abbrev cX9_copy : ByteArray := prog_11_method_9_code
def yX9_copy : MethodName := ⟨RX9, "copy", "([II[III)V"⟩
abbrev cX9_lowest : ByteArray := prog_11_method_10_code
def yX9_lowest : MethodName := ⟨RX9, "lowest", "(JJZ)J"⟩
abbrev cX9_feed : ByteArray := prog_11_method_11_code
def yX9_feed : MethodName := ⟨RX9, "feed", "(IIIII)I"⟩
abbrev cX9_see : ByteArray := prog_11_method_12_code
def yX9_see : MethodName := ⟨RX9, "see", "(I)I"⟩
abbrev cX9_isSmall : ByteArray := prog_11_method_13_code
def yX9_isSmall : MethodName := ⟨RX9, "isSmall", "(I)Z"⟩
abbrev cX9_isDigit : ByteArray := prog_11_method_14_code
def yX9_isDigit : MethodName := ⟨RX9, "isDigit", "(I)Z"⟩
abbrev cX9_next : ByteArray := prog_11_method_15_code
def yX9_next : MethodName := ⟨RX9, "next", "()V"⟩
abbrev cX9_wrong : ByteArray := prog_11_method_16_code
def yX9_wrong : MethodName := ⟨RX9, "wrong", "(II)V"⟩
abbrev cX9_isWord : ByteArray := prog_11_method_17_code
def yX9_isWord : MethodName := ⟨RX9, "isWord", "(Ljava/lang/String;)Z"⟩
abbrev cX9_takesWord : ByteArray := prog_11_method_18_code
def yX9_takesWord : MethodName := ⟨RX9, "takesWord", "(Ljava/lang/String;)Z"⟩
abbrev cX9_must : ByteArray := prog_11_method_19_code
def yX9_must : MethodName := ⟨RX9, "must", "(Ljava/lang/String;)V"⟩
abbrev cX9_mustName : ByteArray := prog_11_method_20_code
def yX9_mustName : MethodName := ⟨RX9, "mustName", "()V"⟩
abbrev cX9_find : ByteArray := prog_11_method_21_code
def yX9_find : MethodName := ⟨RX9, "find", "()I"⟩
abbrev cX9_newName : ByteArray := prog_11_method_22_code
def yX9_newName : MethodName := ⟨RX9, "newName", "(I)V"⟩
abbrev cX9_named : ByteArray := prog_11_method_23_code
def yX9_named : MethodName := ⟨RX9, "named", "(II)I"⟩
abbrev cX9_manHere : ByteArray := prog_11_method_24_code
def yX9_manHere : MethodName := ⟨RX9, "manHere", "()I"⟩
abbrev cX9_motionHere : ByteArray := prog_11_method_25_code
def yX9_motionHere : MethodName := ⟨RX9, "motionHere", "()I"⟩
abbrev cX9_pass : ByteArray := prog_11_method_26_code
def yX9_pass : MethodName := ⟨RX9, "pass", "()V"⟩
abbrev cX9_number : ByteArray := prog_11_method_27_code
def yX9_number : MethodName := ⟨RX9, "number", "(II)I"⟩
abbrev cX9_after : ByteArray := prog_11_method_28_code
def yX9_after : MethodName := ⟨RX9, "after", "(Ljava/lang/String;II)I"⟩
abbrev cX9_colourHere : ByteArray := prog_11_method_29_code
def yX9_colourHere : MethodName := ⟨RX9, "colourHere", "()I"⟩
abbrev cX9_town : ByteArray := prog_11_method_30_code
def yX9_town : MethodName := ⟨RX9, "town", "(I)I"⟩
abbrev cX9_asTold : ByteArray := prog_11_method_31_code
def yX9_asTold : MethodName := ⟨RX9, "asTold", "([I)V"⟩
abbrev cX9_begins : ByteArray := prog_11_method_32_code
def yX9_begins : MethodName := ⟨RX9, "begins", "(Ljava/lang/String;Z)Z"⟩
abbrev cX9_readLine : ByteArray := prog_11_method_33_code
def yX9_readLine : MethodName := ⟨RX9, "readLine", "()V"⟩
abbrev cX9_townLine : ByteArray := prog_11_method_34_code
def yX9_townLine : MethodName := ⟨RX9, "townLine", "()V"⟩
abbrev cX9_manLine : ByteArray := prog_11_method_35_code
def yX9_manLine : MethodName := ⟨RX9, "manLine", "()V"⟩
abbrev cX9_motionLine : ByteArray := prog_11_method_36_code
def yX9_motionLine : MethodName := ⟨RX9, "motionLine", "()V"⟩
abbrev cX9_againstLine : ByteArray := prog_11_method_37_code
def yX9_againstLine : MethodName := ⟨RX9, "againstLine", "()V"⟩
abbrev cX9_amendsLine : ByteArray := prog_11_method_38_code
def yX9_amendsLine : MethodName := ⟨RX9, "amendsLine", "()V"⟩
abbrev cX9_quarrelLine : ByteArray := prog_11_method_39_code
def yX9_quarrelLine : MethodName := ⟨RX9, "quarrelLine", "()V"⟩
abbrev cX9_chairLine : ByteArray := prog_11_method_40_code
def yX9_chairLine : MethodName := ⟨RX9, "chairLine", "()V"⟩
abbrev cX9_heapLine : ByteArray := prog_11_method_41_code
def yX9_heapLine : MethodName := ⟨RX9, "heapLine", "()V"⟩
abbrev cX9_fault : ByteArray := prog_11_method_42_code
def yX9_fault : MethodName := ⟨RX9, "fault", "()I"⟩
abbrev cX9_where : ByteArray := prog_11_method_43_code
def yX9_where : MethodName := ⟨RX9, "where", "()I"⟩
abbrev cX9_isMan : ByteArray := prog_11_method_44_code
def yX9_isMan : MethodName := ⟨RX9, "isMan", "(I)Z"⟩
abbrev cX9_isMotion : ByteArray := prog_11_method_45_code
def yX9_isMotion : MethodName := ⟨RX9, "isMotion", "(I)Z"⟩
abbrev cX9_isChair : ByteArray := prog_11_method_46_code
def yX9_isChair : MethodName := ⟨RX9, "isChair", "(I)Z"⟩
abbrev cX9_allMen : ByteArray := prog_11_method_47_code
def yX9_allMen : MethodName := ⟨RX9, "allMen", "()I"⟩
abbrev cX9_isBald : ByteArray := prog_11_method_48_code
def yX9_isBald : MethodName := ⟨RX9, "isBald", "([II)Z"⟩
abbrev cX9_baldOf : ByteArray := prog_11_method_49_code
def yX9_baldOf : MethodName := ⟨RX9, "baldOf", "([I)I"⟩
abbrev cX9_doesSay : ByteArray := prog_11_method_50_code
def yX9_doesSay : MethodName := ⟨RX9, "doesSay", "([III)Z"⟩
abbrev cX9_sayersOf : ByteArray := prog_11_method_51_code
def yX9_sayersOf : MethodName := ⟨RX9, "sayersOf", "([II)I"⟩
abbrev cX9_votesOf : ByteArray := prog_11_method_52_code
def yX9_votesOf : MethodName := ⟨RX9, "votesOf", "(I)I"⟩
abbrev cX9_yesOf : ByteArray := prog_11_method_53_code
def yX9_yesOf : MethodName := ⟨RX9, "yesOf", "([II)I"⟩
abbrev cX9_isEnough : ByteArray := prog_11_method_54_code
def yX9_isEnough : MethodName := ⟨RX9, "isEnough", "([II)Z"⟩
abbrev cX9_mayBePut : ByteArray := prog_11_method_55_code
def yX9_mayBePut : MethodName := ⟨RX9, "mayBePut", "([II)Z"⟩
abbrev cX9_cutBy : ByteArray := prog_11_method_56_code
def yX9_cutBy : MethodName := ⟨RX9, "cutBy", "([II)V"⟩
abbrev cX9_putOf : ByteArray := prog_11_method_57_code
def yX9_putOf : MethodName := ⟨RX9, "putOf", "([II)Z"⟩
abbrev cX9_weekOf : ByteArray := prog_11_method_58_code
def yX9_weekOf : MethodName := ⟨RX9, "weekOf", "([I)V"⟩
abbrev cX9_goOver : ByteArray := prog_11_method_59_code
def yX9_goOver : MethodName := ⟨RX9, "goOver", "(I)V"⟩
abbrev cX9_man : ByteArray := prog_11_method_60_code
def yX9_man : MethodName := ⟨RX9, "man", "(II)I"⟩
abbrev cX9_saidBy : ByteArray := prog_11_method_61_code
def yX9_saidBy : MethodName := ⟨RX9, "saidBy", "(I)I"⟩
abbrev cX9_motion : ByteArray := prog_11_method_62_code
def yX9_motion : MethodName := ⟨RX9, "motion", "(II)I"⟩
abbrev cX9_floor : ByteArray := prog_11_method_63_code
def yX9_floor : MethodName := ⟨RX9, "floor", "(I)I"⟩
abbrev cX9_bald : ByteArray := prog_11_method_64_code
def yX9_bald : MethodName := ⟨RX9, "bald", "()I"⟩
abbrev cX9_longest : ByteArray := prog_11_method_65_code
def yX9_longest : MethodName := ⟨RX9, "longest", "()I"⟩
abbrev cX9_ready : ByteArray := prog_11_method_66_code
def yX9_ready : MethodName := ⟨RX9, "ready", "()I"⟩
abbrev cX9_hairy : ByteArray := prog_11_method_67_code
def yX9_hairy : MethodName := ⟨RX9, "hairy", "()I"⟩
abbrev cX9_quorum : ByteArray := prog_11_method_68_code
def yX9_quorum : MethodName := ⟨RX9, "quorum", "()I"⟩
abbrev cX9_behind : ByteArray := prog_11_method_69_code
def yX9_behind : MethodName := ⟨RX9, "behind", "(I)I"⟩
abbrev cX9_depthOf : ByteArray := prog_11_method_70_code
def yX9_depthOf : MethodName := ⟨RX9, "depthOf", "(I)I"⟩
abbrev cX9_depth : ByteArray := prog_11_method_71_code
def yX9_depth : MethodName := ⟨RX9, "depth", "(I)I"⟩
abbrev cX9_why : ByteArray := prog_11_method_72_code
def yX9_why : MethodName := ⟨RX9, "why", "(ZZ)I"⟩
abbrev cX9_longIn : ByteArray := prog_11_method_73_code
def yX9_longIn : MethodName := ⟨RX9, "longIn", "(II)I"⟩
abbrev cX9_yesIn : ByteArray := prog_11_method_74_code
def yX9_yesIn : MethodName := ⟨RX9, "yesIn", "(II)I"⟩
abbrev cX9_carryOf : ByteArray := prog_11_method_75_code
def yX9_carryOf : MethodName := ⟨RX9, "carryOf", "(I)I"⟩
abbrev cX9_carryIn : ByteArray := prog_11_method_76_code
def yX9_carryIn : MethodName := ⟨RX9, "carryIn", "(I)I"⟩
abbrev cX9_hairyIn : ByteArray := prog_11_method_77_code
def yX9_hairyIn : MethodName := ⟨RX9, "hairyIn", "()I"⟩
abbrev cX9_soonest : ByteArray := prog_11_method_78_code
def yX9_soonest : MethodName := ⟨RX9, "soonest", "()I"⟩
abbrev cX9_goBy : ByteArray := prog_11_method_79_code
def yX9_goBy : MethodName := ⟨RX9, "goBy", "(II)I"⟩
abbrev cX9_isRowOf : ByteArray := prog_11_method_80_code
def yX9_isRowOf : MethodName := ⟨RX9, "isRowOf", "(II)Z"⟩
abbrev cX9_worthOf : ByteArray := prog_11_method_81_code
def yX9_worthOf : MethodName := ⟨RX9, "worthOf", "(II)I"⟩
abbrev cX9_rowsOf : ByteArray := prog_11_method_82_code
def yX9_rowsOf : MethodName := ⟨RX9, "rowsOf", "(I)I"⟩
abbrev cX9_bestOf : ByteArray := prog_11_method_83_code
def yX9_bestOf : MethodName := ⟨RX9, "bestOf", "(I)I"⟩
abbrev cX9_bestRow : ByteArray := prog_11_method_84_code
def yX9_bestRow : MethodName := ⟨RX9, "bestRow", "(I)I"⟩
abbrev cX9_bestWorth : ByteArray := prog_11_method_85_code
def yX9_bestWorth : MethodName := ⟨RX9, "bestWorth", "(I)I"⟩
abbrev cX9_bestCarried : ByteArray := prog_11_method_86_code
def yX9_bestCarried : MethodName := ⟨RX9, "bestCarried", "(I)I"⟩
abbrev cX9_weeksFor : ByteArray := prog_11_method_87_code
def yX9_weeksFor : MethodName := ⟨RX9, "weeksFor", "(I)I"⟩
abbrev cX9_turnsOf : ByteArray := prog_11_method_88_code
def yX9_turnsOf : MethodName := ⟨RX9, "turnsOf", "(II)I"⟩
abbrev cX9_swings : ByteArray := prog_11_method_89_code
def yX9_swings : MethodName := ⟨RX9, "swings", "(II)I"⟩
abbrev cX9_mighty : ByteArray := prog_11_method_90_code
def yX9_mighty : MethodName := ⟨RX9, "mighty", "(I)I"⟩
abbrev cX9_outvoted : ByteArray := prog_11_method_91_code
def yX9_outvoted : MethodName := ⟨RX9, "outvoted", "(I)I"⟩
abbrev cX9_bench : ByteArray := prog_11_method_92_code
def yX9_bench : MethodName := ⟨RX9, "bench", "(I)I"⟩
abbrev cX9_quarrelsOf : ByteArray := prog_11_method_93_code
def yX9_quarrelsOf : MethodName := ⟨RX9, "quarrelsOf", "(II)I"⟩
abbrev cX9_partingOf : ByteArray := prog_11_method_94_code
def yX9_partingOf : MethodName := ⟨RX9, "partingOf", "()I"⟩
abbrev cX9_parting : ByteArray := prog_11_method_95_code
def yX9_parting : MethodName := ⟨RX9, "parting", "()I"⟩
abbrev cX9_left : ByteArray := prog_11_method_96_code
def yX9_left : MethodName := ⟨RX9, "left", "()I"⟩
abbrev cX9_peace : ByteArray := prog_11_method_97_code
def yX9_peace : MethodName := ⟨RX9, "peace", "()I"⟩
abbrev cX9_apartOf : ByteArray := prog_11_method_98_code
def yX9_apartOf : MethodName := ⟨RX9, "apartOf", "(II)I"⟩
abbrev cX9_apart : ByteArray := prog_11_method_99_code
def yX9_apart : MethodName := ⟨RX9, "apart", "(II)I"⟩
abbrev cX9_tryRound : ByteArray := prog_11_method_100_code
def yX9_tryRound : MethodName := ⟨RX9, "tryRound", "(III)V"⟩
abbrev cX9_seekRound : ByteArray := prog_11_method_101_code
def yX9_seekRound : MethodName := ⟨RX9, "seekRound", "()V"⟩
abbrev cX9_round : ByteArray := prog_11_method_102_code
def yX9_round : MethodName := ⟨RX9, "round", "()I"⟩
abbrev cX9_roundAt : ByteArray := prog_11_method_103_code
def yX9_roundAt : MethodName := ⟨RX9, "roundAt", "(I)I"⟩
abbrev cX9_doesFit : ByteArray := prog_11_method_104_code
def yX9_doesFit : MethodName := ⟨RX9, "doesFit", "(I)Z"⟩
abbrev cX9_seekSets : ByteArray := prog_11_method_105_code
def yX9_seekSets : MethodName := ⟨RX9, "seekSets", "(I)I"⟩
abbrev cX9_fits : ByteArray := prog_11_method_106_code
def yX9_fits : MethodName := ⟨RX9, "fits", "()I"⟩
abbrev cX9_fitAt : ByteArray := prog_11_method_107_code
def yX9_fitAt : MethodName := ⟨RX9, "fitAt", "(I)I"⟩
abbrev cX9_could : ByteArray := prog_11_method_108_code
def yX9_could : MethodName := ⟨RX9, "could", "()I"⟩
abbrev cX9_surely : ByteArray := prog_11_method_109_code
def yX9_surely : MethodName := ⟨RX9, "surely", "()I"⟩
abbrev cX9_leavesOf : ByteArray := prog_11_method_110_code
def yX9_leavesOf : MethodName := ⟨RX9, "leavesOf", "(I)I"⟩
abbrev cX9_askOf : ByteArray := prog_11_method_111_code
def yX9_askOf : MethodName := ⟨RX9, "askOf", "()I"⟩
abbrev cX9_ask : ByteArray := prog_11_method_112_code
def yX9_ask : MethodName := ⟨RX9, "ask", "()I"⟩
abbrev cX9_askLeaves : ByteArray := prog_11_method_113_code
def yX9_askLeaves : MethodName := ⟨RX9, "askLeaves", "()I"⟩
abbrev cX9_talkOf : ByteArray := prog_11_method_114_code
def yX9_talkOf : MethodName := ⟨RX9, "talkOf", "(IZZ)I"⟩
abbrev cX9_talk : ByteArray := prog_11_method_115_code
def yX9_talk : MethodName := ⟨RX9, "talk", "(IZZZ)I"⟩
abbrev cX9_isRest : ByteArray := prog_11_method_116_code
def yX9_isRest : MethodName := ⟨RX9, "isRest", "(IZZ)Z"⟩
abbrev cX9_seekRests : ByteArray := prog_11_method_117_code
def yX9_seekRests : MethodName := ⟨RX9, "seekRests", "(I)I"⟩
abbrev cX9_rests : ByteArray := prog_11_method_118_code
def yX9_rests : MethodName := ⟨RX9, "rests", "(I)I"⟩
abbrev cX9_rest : ByteArray := prog_11_method_119_code
def yX9_rest : MethodName := ⟨RX9, "rest", "(I)I"⟩
abbrev cX9_tryShaves : ByteArray := prog_11_method_120_code
def yX9_tryShaves : MethodName := ⟨RX9, "tryShaves", "(I)V"⟩
abbrev cX9_odds : ByteArray := prog_11_method_121_code
def yX9_odds : MethodName := ⟨RX9, "odds", "(IZ)J"⟩
abbrev cX9_mean : ByteArray := prog_11_method_122_code
def yX9_mean : MethodName := ⟨RX9, "mean", "(IZ)J"⟩
abbrev cX9_shavesWhy : ByteArray := prog_11_method_123_code
def yX9_shavesWhy : MethodName := ⟨RX9, "shavesWhy", "(ZIII)I"⟩
abbrev cX9_shaves : ByteArray := prog_11_method_124_code
def yX9_shaves : MethodName := ⟨RX9, "shaves", "(III)I"⟩
abbrev cX9_carries : ByteArray := prog_11_method_125_code
def yX9_carries : MethodName := ⟨RX9, "carries", "(III)I"⟩
abbrev cX9_note : ByteArray := prog_11_method_126_code
def yX9_note : MethodName := ⟨RX9, "note", "()V"⟩
abbrev cX9_put : ByteArray := prog_11_method_127_code
def yX9_put : MethodName := ⟨RX9, "put", "(I)I"⟩
abbrev cX9_week : ByteArray := prog_11_method_128_code
def yX9_week : MethodName := ⟨RX9, "week", "()I"⟩
abbrev cX9_shave : ByteArray := prog_11_method_129_code
def yX9_shave : MethodName := ⟨RX9, "shave", "(I)I"⟩
abbrev cX9_undo : ByteArray := prog_11_method_130_code
def yX9_undo : MethodName := ⟨RX9, "undo", "()Z"⟩
abbrev cX9_image : ByteArray := prog_11_method_131_code
abbrev vwCl : List vw_C := [(RX0, TX0, 5), (RX1, TX1, 3), (RX2, TX2, 4), (RX3, TX3, 5), (RX4, TX4, 14), (RX5, TX5, 3), (RX6, TX6, 3), (RX7, TX7, 19), (RX8, TX8, 15), (RX9, TX9, 35)]
end
section
/-! THE ENGINE: an abstract run of the bytecode over a picture of the world; a value is (tag, number): 0 an int, 1 a cell of the world, 2 null, 3 an int variable, 4 a long, 5 a cell that was there before, 6 a long variable -/
abbrev ev_A : Type := Nat × Int
abbrev ev_C : Type := Nat × List ev_A
abbrev ev_K : Type := List (Int × Int)
abbrev ev_G : Type := List Nat × (Nat → Nat) × List Value
abbrev ev_S : Type := Nat × List (Nat × ev_A) × List ev_A × List ev_C × ev_K × Nat × Nat
def ev_v (g : ev_G) (a : ev_A) : Option Value :=
  match a.1 with
  | 0 => some (.int (Int32.ofInt a.2))
  | 1 => (g.1[a.2.toNat]?).map Value.ref
  | 2 => some .null
  | 3 => match g.2.2[a.2.toNat]? with
    | some (.int x) => some (.int x)
    | _ => none
  | 4 => some (.long (Int64.ofInt a.2))
  | 5 => some (.ref (g.2.1 a.2.toNat))
  | 6 => match g.2.2[a.2.toNat]? with
    | some (.long x) => some (.long x)
    | _ => none
  | 7 => match g.2.2[a.2.toNat]? with
    | some .null => some .null
    | some (.ref x) => some (.ref x)
    | _ => none
  | _ => none
def ev_le (g g' : ev_G) : Prop := (∃ l, g'.1 = g.1 ++ l) ∧ g'.2.1 = g.2.1 ∧ ∃ l, g'.2.2 = g.2.2 ++ l
theorem ev_le_rf (g : ev_G) : ev_le g g := ⟨⟨[], by simp⟩, rfl, ⟨[], by simp⟩⟩
theorem ev_le_tr {a b c : ev_G} (h1 : ev_le a b) (h2 : ev_le b c) : ev_le a c := by
  obtain ⟨⟨l1, e1⟩, e2, ⟨l3, e3⟩⟩ := h1
  obtain ⟨⟨k1, f1⟩, f2, ⟨k3, f3⟩⟩ := h2
  exact ⟨⟨l1 ++ k1, by rw [f1, e1, List.append_assoc]⟩, f2.trans e2, ⟨l3 ++ k3, by rw [f3, e3, List.append_assoc]⟩⟩
theorem ev_ap {α : Type} {l k : List α} {i : Nat} {x : α} (h : l[i]? = some x) : (l ++ k)[i]? = some x := by
  rw [List.getElem?_append_left (List.getElem?_eq_some_iff.mp h).1]; exact h
theorem ev_v_le {g g' : ev_G} {a : ev_A} {v : Value} (h : ev_le g g') (hv : ev_v g a = some v) : ev_v g' a = some v := by
  obtain ⟨⟨l1, e1⟩, e2, ⟨l3, e3⟩⟩ := h
  obtain ⟨t, n⟩ := a
  unfold ev_v at hv ⊢
  split at hv
  · exact hv
  · cases hq : g.1[n.toNat]? with
    | none => simp [hq] at hv
    | some q =>
      simp only [hq, Option.map_some] at hv
      simp only [e1, ev_ap hq, Option.map_some]
      exact hv
  · exact hv
  · cases hq : g.2.2[n.toNat]? with
    | none => simp [hq] at hv
    | some q =>
      simp only [hq] at hv
      simp only [e3, ev_ap hq]
      exact hv
  · exact hv
  · simp only [e2]; exact hv
  · cases hq : g.2.2[n.toNat]? with
    | none => simp [hq] at hv
    | some q =>
      simp only [hq] at hv
      simp only [e3, ev_ap hq]
      exact hv
  · cases hq : g.2.2[n.toNat]? with
    | none => simp [hq] at hv
    | some q =>
      simp only [hq] at hv
      simp only [e3, ev_ap hq]
      exact hv
  · cases hv
/-- an int value -/
def ev_isI (a : ev_A) : Bool := a.1 == 0 || a.1 == 3
def ev_isL (a : ev_A) : Bool := a.1 == 4 || a.1 == 6
theorem ev_vI {g : ev_G} {a : ev_A} {v : Value} (h : ev_isI a = true) (hv : ev_v g a = some v) : ∃ x : Int32, v = .int x := by
  obtain ⟨t, n⟩ := a
  simp only [ev_isI, Bool.or_eq_true, beq_iff_eq] at h
  rcases h with h | h
  · subst h
    exact ⟨_, (Option.some.inj hv).symm⟩
  · subst h
    simp only [ev_v] at hv
    split at hv
    · exact ⟨_, (Option.some.inj hv).symm⟩
    · cases hv
theorem ev_vL {g : ev_G} {a : ev_A} {v : Value} (h : ev_isL a = true) (hv : ev_v g a = some v) : ∃ x : Int64, v = .long x := by
  obtain ⟨t, n⟩ := a
  simp only [ev_isL, Bool.or_eq_true, beq_iff_eq] at h
  rcases h with h | h
  · subst h
    exact ⟨_, (Option.some.inj hv).symm⟩
  · subst h
    simp only [ev_v] at hv
    split at hv
    · exact ⟨_, (Option.some.inj hv).symm⟩
    · cases hv
theorem ev_cat {g : ev_G} {a : ev_A} {v : Value} (hv : ev_v g a = some v) : (ev_isL a = true ∧ v.category = 2) ∨ (ev_isL a = false ∧ v.category = 1) := by
  obtain ⟨t, n⟩ := a
  unfold ev_v at hv
  split at hv
  · rename_i h
    simp only at h
    subst h
    cases hv
    exact Or.inr ⟨rfl, rfl⟩
  · rename_i h
    simp only at h
    subst h
    cases hq : g.1[n.toNat]? with
    | none => simp [hq] at hv
    | some q =>
      simp only [hq, Option.map_some] at hv
      cases hv
      exact Or.inr ⟨rfl, rfl⟩
  · rename_i h
    simp only at h
    subst h
    cases hv
    exact Or.inr ⟨rfl, rfl⟩
  · rename_i h
    simp only at h
    subst h
    split at hv
    · cases hv
      exact Or.inr ⟨rfl, rfl⟩
    · cases hv
  · rename_i h
    simp only at h
    subst h
    cases hv
    exact Or.inl ⟨rfl, rfl⟩
  · rename_i h
    simp only at h
    subst h
    cases hv
    exact Or.inr ⟨rfl, rfl⟩
  · rename_i h
    simp only at h
    subst h
    split at hv
    · cases hv
      exact Or.inl ⟨rfl, rfl⟩
    · cases hv
  · rename_i h
    simp only at h
    subst h
    split at hv
    · cases hv
      exact Or.inr ⟨rfl, rfl⟩
    · cases hv
      exact Or.inr ⟨rfl, rfl⟩
    · cases hv
  · cases hv
/-- the words that a callee may take along -/
def lw_good : List Cond := lw_tbl.filter goodWord
theorem lw_good_in {w : Cond} (h : w ∈ lw_good) : w ∈ lw_tbl := (List.mem_filter.mp h).1
theorem lw_good_at {w : Cond} (i : Nat) (h : lw_tbl[i]? = some w) (hg : goodWord w = true) : w ∈ lw_good := List.mem_filter.mpr ⟨List.mem_of_getElem? h, hg⟩
theorem lw_good_good {ws : List Cond} (hy : ∀ w ∈ ws, w ∈ lw_good) : GoodIn lw_good ws := fun w h => ⟨hy w h, good_of_word (List.mem_filter.mp (hy w h)).2⟩
/-- the types of arrays that the worlds hold -/
def ev_ty : Nat → FieldType
  | 0 => .int
  | 1 => .byte
  | 2 => .long
  | _ => .object "BarberMinutes$Minutes"
def ev_ar (g : ev_G) (t : Nat) (cs : List ev_A) (a : (Nat → Int32) ⊕ (Nat → Int64) ⊕ (Nat → UInt32) ⊕ (Nat → UInt64) ⊕ (Nat → Option Nat)) : Prop :=
  match a with
  | .inl f => t < 2 ∧ ∀ (j : Nat) (x : ev_A), cs[j]? = some x → ev_v g x = some (.int (f j))
  | .inr (.inl f) => t = 2 ∧ ∀ (j : Nat) (x : ev_A), cs[j]? = some x → ev_v g x = some (.long (f j))
  | .inr (.inr (.inr (.inr f))) => t = 3 ∧ ∀ (j : Nat) (x : ev_A), cs[j]? = some x → ev_v g x = some (va_rf (f j))
  | _ => False
def ev_c (s : State) (g : ev_G) (c : ev_C) (x : va_E) : Prop := match x with
  | .inr o => c.1 = o.1 ∧ c.1 < 100 ∧ o.2.length = c.2.length ∧ ∀ (j : Nat) (a : ev_A), c.2[j]? = some a → ∃ v, ev_v g a = some v ∧ o.2[j]? = some v
  | .inl a => ∃ t, t < 4 ∧ c.1 = 100 + t ∧ a.2.1 = c.2.length ∧ ArrOfT s a.1 (ev_ty t) ∧ va_RA s a.1 (ev_ty t) ∧ ev_ar g t c.2 a.2.2
theorem ev_ar_le {g g' : ev_G} {t : Nat} {cs : List ev_A} {a} (h : ev_le g g') (h1 : ev_ar g t cs a) : ev_ar g' t cs a := by
  unfold ev_ar at h1 ⊢
  split at h1
  · exact ⟨h1.1, fun j x hx => ev_v_le h (h1.2 j x hx)⟩
  · exact ⟨h1.1, fun j x hx => ev_v_le h (h1.2 j x hx)⟩
  · exact ⟨h1.1, fun j x hx => ev_v_le h (h1.2 j x hx)⟩
  · exact h1
theorem ev_c_le {s : State} {g g' : ev_G} {c : ev_C} {x : va_E} (h : ev_le g g') (h1 : ev_c s g c x) : ev_c s g' c x := by
  cases x with
  | inr o =>
    obtain ⟨a1, a2, a3, a4⟩ := h1
    exact ⟨a1, a2, a3, fun j a hj => by
      obtain ⟨v, b1, b2⟩ := a4 j a hj
      exact ⟨v, ev_v_le h b1, b2⟩⟩
  | inl a =>
    obtain ⟨t, a1, a2, a3, a4, a5, a6⟩ := h1
    exact ⟨t, a1, a2, a3, a4, a5, ev_ar_le h a6⟩
theorem ev_c_moved {u U : State} {g : ev_G} {c : ev_C} {x : va_E} (hvm : u.vm.Alike U.vm) (h1 : ev_c u g c x) : ev_c U g c x := by
  cases x with
  | inr o => exact h1
  | inl a =>
    obtain ⟨t, a1, a2, a3, a4, a5, a6⟩ := h1
    exact ⟨t, a1, a2, a3, arrOfT_moved hvm a4, a5.moved hvm, a6⟩
def ev_w (s : State) (g : ev_G) (w : List ev_C) (ws : va_W) : Prop := g.1 = ws.map (fun q => q.1) ∧ w.length = ws.length ∧ ∀ (k : Nat) (c : ev_C) (q : Nat × va_E), w[k]? = some c → ws[k]? = some q → ev_c s g c q.2
theorem ev_w_moved {u U : State} {g : ev_G} {w : List ev_C} {ws : va_W} (hvm : u.vm.Alike U.vm) (h : ev_w u g w ws) : ev_w U g w ws := ⟨h.1, h.2.1, fun k c q h1 h2 => ev_c_moved hvm (h.2.2 k c q h1 h2)⟩
/-- the bounds of the variables -/
def ev_b (K : ev_K) (E : List Value) : Prop := K.length = E.length ∧ ∀ (k : Nat) (r : Int × Int) (x : Int32), K[k]? = some r → E[k]? = some (.int x) → r.1 ≤ x.toInt ∧ x.toInt ≤ r.2
def ev_l (g : ev_G) (L : List (Nat × ev_A)) (nL : Nat) (ls : Array Slot) : Prop := ls.size = nL ∧ lv_wf ls ∧ ∀ q ∈ L, ∃ v, ev_v g q.2 = some v ∧ ls[q.1]? = some (.val v)
theorem ev_l_le {g g' : ev_G} {L : List (Nat × ev_A)} {nL : Nat} {ls : Array Slot} (h : ev_le g g') (h1 : ev_l g L nL ls) : ev_l g' L nL ls := ⟨h1.1, h1.2.1, fun q hq => by
  obtain ⟨v, a, b⟩ := h1.2.2 q hq
  exact ⟨v, ev_v_le h a, b⟩⟩
def ev_s (g : ev_G) : List ev_A → List Value → Prop
  | [], [] => True
  | a :: st, v :: sc => ev_v g a = some v ∧ ev_s g st sc
  | _, _ => False
theorem ev_s_le {g g' : ev_G} (h : ev_le g g') : ∀ {st : List ev_A} {sc : List Value}, ev_s g st sc → ev_s g' st sc
  | [], [], _ => trivial
  | [], _ :: _, h1 => h1.elim
  | _ :: _, [], h1 => h1.elim
  | a :: st, v :: sc, h1 => ⟨ev_v_le h h1.1, ev_s_le h h1.2⟩
theorem ev_s_cons {g : ev_G} {a : ev_A} {st : List ev_A} {sc : List Value} (h : ev_s g (a :: st) sc) : ∃ v sc', sc = v :: sc' ∧ ev_v g a = some v ∧ ev_s g st sc' := by
  cases sc with
  | nil => exact h.elim
  | cons v sc' => exact ⟨v, sc', rfl, h.1, h.2⟩
theorem ev_s_nil {g : ev_G} {sc : List Value} (h : ev_s g [] sc) : sc = [] := by
  cases sc with
  | nil => rfl
  | cons v sc' => exact h.elim
/-- what holds between a picture and the machine -/
def ev_R (s : State) (A : Nat → Prop) (D : va_G) (nL : Nat) (g : ev_G) (S : ev_S) (ws : va_W) (H : Heap) (locs : List Loc) (ls : Array Slot) (sc : List Value) : Prop :=
  va_P D vwCl ws H ∧ va_D A ws ∧ va_S A s.heap H locs ∧ ev_w s g S.2.2.2.1 ws ∧ ev_b S.2.2.2.2.1 g.2.2 ∧ ev_l g S.2.1 nL ls ∧ ev_s g S.2.2.1 sc
/-- the goal from a picture: the machine comes to an end with Q, wherever it stands as the picture says -/
def ev_Go (p : Program) (l : Launch) (e : Env) (R : Room) (s : State) (m : MethodId) (args : Array Value) (below : List Frame) (meth : Method) (c : Code) (Q : State → Prop) (nL : Nat) (D : va_G) (A : Nat → Prop) (g0 : ev_G) (S : ev_S) : Prop :=
  ∀ (g : ev_G) (ws : va_W) (H : Heap) (locs : List Loc) (ls : Array Slot) (sc : List Value), ev_le g0 g → ev_R s A D nL g S ws H locs ls sc → W p l e R s m args below meth c H locs S.2.2.2.2.2.1 S.2.2.2.2.2.2 Q (F0 m S.1 ls sc)
/-- the text constants: class, pool number, text, bytes; the k-th stands at X (1 + 2 k), its bytes at X (2 + 2 k) -/
def ev_strs : List (String × Nat × String × List Int32) := [("BarberMinutes$Reader", 217, "town", [116, 111, 119, 110]),
  ("BarberMinutes$Reader", 218, "man", [109, 97, 110]),
  ("BarberMinutes$Reader", 220, "motion", [109, 111, 116, 105, 111, 110]),
  ("BarberMinutes$Reader", 222, "against", [97, 103, 97, 105, 110, 115, 116]),
  ("BarberMinutes$Reader", 223, "amends", [97, 109, 101, 110, 100, 115]),
  ("BarberMinutes$Reader", 224, "quarrel", [113, 117, 97, 114, 114, 101, 108]),
  ("BarberMinutes$Reader", 226, "chair", [99, 104, 97, 105, 114]),
  ("BarberMinutes$Reader", 228, "heap", [104, 101, 97, 112]),
  ("BarberMinutes$Reader", 131, "grows", [103, 114, 111, 119, 115]),
  ("BarberMinutes$Reader", 142, "bald", [98, 97, 108, 100]),
  ("BarberMinutes$Reader", 147, "shave", [115, 104, 97, 118, 101]),
  ("BarberMinutes$Reader", 207, "fair", [102, 97, 105, 114]),
  ("BarberMinutes$Reader", 209, "dark", [100, 97, 114, 107]),
  ("BarberMinutes$Reader", 211, "grey", [103, 114, 101, 121]),
  ("BarberMinutes$Reader", 159, "long", [108, 111, 110, 103]),
  ("BarberMinutes$Reader", 161, "votes", [118, 111, 116, 101, 115]),
  ("BarberMinutes$Reader", 167, "cuts", [99, 117, 116, 115]),
  ("BarberMinutes$Reader", 169, "needs", [110, 101, 101, 100, 115]),
  ("BarberMinutes$Reader", 171, "worth", [119, 111, 114, 116, 104]),
  ("BarberMinutes$Reader", 182, "at", [97, 116]),
  ("BarberMinutesModel", 116, "town", [116, 111, 119, 110]),
  ("BarberMinutesModel", 216, "grows", [103, 114, 111, 119, 115]),
  ("BarberMinutesModel", 222, "bald", [98, 97, 108, 100]),
  ("BarberMinutesModel", 224, "shave", [115, 104, 97, 118, 101]),
  ("BarberMinutesModel", 118, "man", [109, 97, 110]),
  ("BarberMinutesModel", 120, "motion", [109, 111, 116, 105, 111, 110]),
  ("BarberMinutesModel", 122, "against", [97, 103, 97, 105, 110, 115, 116]),
  ("BarberMinutesModel", 124, "amends", [97, 109, 101, 110, 100, 115]),
  ("BarberMinutesModel", 126, "quarrel", [113, 117, 97, 114, 114, 101, 108]),
  ("BarberMinutesModel", 128, "chair", [99, 104, 97, 105, 114]),
  ("BarberMinutesModel", 130, "heap", [104, 101, 97, 112]),
  ("BarberMinutesModel", 153, "fair", [102, 97, 105, 114]),
  ("BarberMinutesModel", 155, "dark", [100, 97, 114, 107]),
  ("BarberMinutesModel", 157, "grey", [103, 114, 101, 121]),
  ("BarberMinutesModel", 233, "long", [108, 111, 110, 103]),
  ("BarberMinutesModel", 235, "votes", [118, 111, 116, 101, 115]),
  ("BarberMinutesModel", 237, "cuts", [99, 117, 116, 115]),
  ("BarberMinutesModel", 239, "needs", [110, 101, 101, 100, 115]),
  ("BarberMinutesModel", 241, "worth", [119, 111, 114, 116, 104]),
  ("BarberMinutesModel", 253, "at", [97, 116])]
/-- words that are not good: links to private members of a nest mate, arrays over a class -/
def lw_nest : List Cond := lw_tbl.filter (fun w => match w with | .methodLinkNest _ _ _ _ => true | .fieldLinkNest _ _ _ _ _ _ => true | _ => false)
/-- what was there before: text constants and a static -/
def ev_E (X : Nat → Nat) (A : Nat → Prop) (U : State) (H : Heap) : Prop :=
  (∀ (k : Nat) (r : String × Nat × String × List Int32), ev_strs[k]? = some r → va_O "java/lang/String" (X (1 + 2 * k)) A U H ∧ va_OF "java/lang/String" "coder" "B" (.int 0) (X (1 + 2 * k)) A U H ∧ va_OF "java/lang/String" "value" "[B" (.ref (X (2 + 2 * k))) (X (1 + 2 * k)) A U H ∧ va_T .byte (X (2 + 2 * k)) r.2.2.2.length (fun j => .int (r.2.2.2.getD j 0)) A U H)
  ∧ va_Z "java/lang/String" "COMPACT_STRINGS" "Z" (.int 1) A U H ∧ va_Zq "jdk/internal/util/Preconditions" "SIOOBE_FORMATTER" "Ljava/util/function/BiFunction;" A U H
def ev_N (X : Nat → Nat) (A : Nat → Prop) (U : State) (H : Heap) : Prop := ((∀ w ∈ lw_nest, va_Nw w U) ∧ va_AO "BarberMinutes$Minutes" U) ∧ (∀ (k : Nat) (r : String × Nat × String × List Int32), ev_strs[k]? = some r → vk_R r.1 r.2.1 r.2.2.1 (X (1 + 2 * k)) U) ∧ ev_E X A U H
theorem ev_E_moved {X : Nat → Nat} {A : Nat → Prop} {u U : State} {H : Heap} (hvm : u.vm.Alike U.vm) (h : ev_E X A u H) : ev_E X A U H := ⟨fun k r hr => ⟨va_O.moved hvm (h.1 k r hr).1, va_OF.moved hvm (h.1 k r hr).2.1, va_OF.moved hvm (h.1 k r hr).2.2.1, va_T.moved hvm (h.1 k r hr).2.2.2⟩, va_Z.moved hvm h.2.1, va_Zq.moved hvm h.2.2⟩
theorem ev_E_kept {X : Nat → Nat} {A : Nat → Prop} {U : State} {H H1 : Heap} (h : ev_E X A U H) (hq : ∀ a : Nat, a < H.size → ¬ A a → H1[a]? = H[a]?) : ev_E X A U H1 := ⟨fun k r hr => ⟨va_O.kept (h.1 k r hr).1 hq, va_OF.kept (h.1 k r hr).2.1 hq, va_OF.kept (h.1 k r hr).2.2.1 hq, va_T.kept (h.1 k r hr).2.2.2 hq⟩, va_Z.kept h.2.1 hq, va_Zq.kept h.2.2 hq⟩
theorem ev_E_narrow {X : Nat → Nat} {A B : Nat → Prop} {U : State} {H : Heap} (h : ev_E X A U H) (hAB : ∀ q, B q → A q) : ev_E X B U H := ⟨fun k r hr => ⟨va_O.narrow (h.1 k r hr).1 hAB, va_OF.narrow (h.1 k r hr).2.1 hAB, va_OF.narrow (h.1 k r hr).2.2.1 hAB, va_T.narrow (h.1 k r hr).2.2.2 hAB⟩, va_Z.narrow h.2.1 hAB, va_Zq.narrow h.2.2 hAB⟩
theorem ev_N_on {w : Cond} (h : w ∈ lw_nest) : w.onTables = true := by
  have h := (List.mem_filter.mp h).2
  split at h
  · rfl
  · rfl
  · cases h
theorem ev_N_same {X : Nat → Nat} {A : Nat → Prop} {u U : State} {H : Heap} (h : u.vm = U.vm) (hN : ev_N X A u H) : ev_N X A U H := ⟨⟨fun w hw => (hN.1.1 w hw).same (ev_N_on hw) h, hN.1.2.moved (by rw [h]; exact Vm.Alike.refl _)⟩, fun k r hr => (hN.2.1 k r hr).same h.symm, ev_E_moved (by rw [h]; exact Vm.Alike.refl _) hN.2.2⟩
theorem ev_N_call {X : Nat → Nat} {A B : Nat → Prop} {s U : State} {H : Heap} {locs : List Loc} (hW : s.WarmedH U.vm) (hU : U.heap = H) (hS : va_S A s.heap H locs) (hAB : ∀ q, B q → A q) (hN : ev_N X A s s.heap) : ev_N X B U U.heap := by
  refine ⟨⟨fun w hw => ?_, hN.1.2.moved hW.alike⟩, fun k r hr => (hN.2.1 k r hr).warm hW, ?_⟩
  · have h := (List.mem_filter.mp hw).2
    have hz := hN.1.1 w hw
    split at h
    · exact va_Nw.warmM hW hz
    · exact va_Nw.warmF hW hz
    · cases h
  · rw [hU]
    exact ev_E_moved hW.alike (ev_E_narrow (ev_E_kept hN.2.2 hS.2.1) hAB)
/-- the fixed facts of a frame -/
def ev_X (p : Program) (R : Room) (s : State) (m : MethodId) (args : Array Value) (meth : Method) (c : Code) (cc : ByteArray) (nL : Nat) (own : String) (ini : Bool) (D : va_G) (A : Nat → Prop) (capC capS : Nat) (g0 : ev_G) (Ls : Nat) : Prop :=
  p.tables.exec = Jvm.exec ∧ c.code = cc ∧ c.maxLocals = nL ∧ s.vm.findClass own = some m.cls ∧ (∀ w ∈ lw_good, w.before args s = true) ∧ va_K D vwCl [] s ∧ (∀ q : Nat, s.heap.size ≤ q → A q) ∧ ev_N g0.2.1 A s s.heap ∧ (ini = true → meth.name = "<init>") ∧ R.cells = capC ∧ R.slots = capS ∧ 1 ≤ R.frames ∧ 40 ≤ R.locals ∧ ∀ L, Ls = L + 1 → ∃ xs : Nat → Int32, va_X (g0.2.1 0) L xs s s.heap ∧ g0.2.1 0 < s.heap.size ∧ ¬ A (g0.2.1 0) ∧ ∀ j : Nat, j < L → g0.2.2[j]? = some (.int (xs j))
end
section
/-! operands, frame data, operations -/
abbrev ev_P : Type := Nat × Nat × Bool × String × Nat × Nat
abbrev ev_T : Type := Int × Int × Int × List Int
abbrev ev_O : Type := (ev_P → ev_T → Option (Instr × Nat × List Cond)) × (ev_P → ev_T → ev_S → Option (List ev_S))
def ev_Snd (o : ev_O) : Prop := ∀ (p : Program) (l : Launch) (e : Env) (R : Room) (s : State) (m : MethodId) (args : Array Value) (below : List Frame) (meth : Method) (c : Code) (cc : ByteArray) (Q : State → Prop) (D : va_G) (A : Nat → Prop) (g0 : ev_G) (P : ev_P) (t : ev_T) (S : ev_S) (i : Instr) (n : Nat) (cs : List Cond) (Ss : List ev_S),
  ev_X p R s m args meth c cc P.2.2.2.2.1 P.2.2.2.1 P.2.2.1 D A P.1 P.2.1 g0 P.2.2.2.2.2 → o.1 P t = some (i, n, cs) → decode cc S.1 = .ok (i, n) → (∀ w ∈ cs, w ∈ lw_good) → o.2 P t S = some Ss → (∀ S' ∈ Ss, ev_Go p l e R s m args below meth c Q P.2.2.2.2.1 D A g0 S') → ev_Go p l e R s m args below meth c Q P.2.2.2.2.1 D A g0 S
theorem ev_lo (x : Int32) : (-2147483648 : Int) ≤ x.toInt := by have := Int32.le_toInt x; omega
theorem ev_hi (x : Int32) : x.toInt ≤ (2147483647 : Int) := by have := Int32.toInt_lt x; omega
def ev_full : Int × Int := (-2147483648, 2147483647)
theorem ev_full_ok (x : Int32) : ev_full.1 ≤ x.toInt ∧ x.toInt ≤ ev_full.2 := ⟨ev_lo x, ev_hi x⟩
theorem ev_v0 (g : ev_G) (x : Int32) : ev_v g (0, x.toInt) = some (.int x) := by
  show some (Value.int (Int32.ofInt x.toInt)) = _
  rw [Int32.ofInt_toInt]
theorem ev_v4 (g : ev_G) (x : Int64) : ev_v g (4, x.toInt) = some (.long x) := by
  show some (Value.long (Int64.ofInt x.toInt)) = _
  rw [Int64.ofInt_toInt]
theorem ev_v3 {g : ev_G} {k : Nat} {x : Int32} (h : g.2.2[k]? = some (.int x)) : ev_v g (3, (k : Int)) = some (.int x) := by
  simp [ev_v, h]
theorem ev_v6 {g : ev_G} {k : Nat} {x : Int64} (h : g.2.2[k]? = some (.long x)) : ev_v g (6, (k : Int)) = some (.long x) := by
  simp [ev_v, h]
theorem ev_w_le {s : State} {g g' : ev_G} {w : List ev_C} {ws : va_W} (h : ev_le g g') (h1 : g'.1 = g.1) (hw : ev_w s g w ws) : ev_w s g' w ws := ⟨h1.trans hw.1, hw.2.1, fun k c q a b => ev_c_le h (hw.2.2 k c q a b)⟩
/-- a name for a new value -/
theorem ev_fresh {s : State} {A : Nat → Prop} {D : va_G} {nL : Nat} {g : ev_G} {pc : Nat} {L : List (Nat × ev_A)} {st : List ev_A} {w : List ev_C} {K : ev_K} {ce sl : Nat} {ws : va_W} {H : Heap} {locs : List Loc} {ls : Array Slot} {sc : List Value} (hR : ev_R s A D nL g (pc, L, st, w, K, ce, sl) ws H locs ls sc) (v : Value) (r : Int × Int) (hr : ∀ x, v = .int x → r.1 ≤ x.toInt ∧ x.toInt ≤ r.2) :
    ∃ g' : ev_G, ev_le g g' ∧ ev_R s A D nL g' (pc, L, st, w, K ++ [r], ce, sl) ws H locs ls sc ∧ g'.2.2[K.length]? = some v := by
  obtain ⟨hP, hD, hS, hW, hB, hL, hs⟩ := hR
  have hle : ev_le g (g.1, g.2.1, g.2.2 ++ [v]) := ⟨⟨[], by simp⟩, rfl, ⟨[v], rfl⟩⟩
  have hlen : K.length = g.2.2.length := hB.1
  refine ⟨(g.1, g.2.1, g.2.2 ++ [v]), hle, ⟨hP, hD, hS, ev_w_le hle rfl hW, ⟨by simp [hlen], fun k q x h1 h2 => ?_⟩, ev_l_le hle hL, ev_s_le hle hs⟩, by simp [hlen]⟩
  dsimp only at h1 h2
  by_cases hk : k < K.length
  · rw [List.getElem?_append_left hk] at h1
    rw [List.getElem?_append_left (by omega)] at h2
    exact hB.2 k q x h1 h2
  · rw [List.getElem?_append_right (by omega)] at h1
    rw [List.getElem?_append_right (by omega)] at h2
    have hz : k - K.length < 1 := (List.getElem?_eq_some_iff.mp h1).1
    have hz2 : k - g.2.2.length = 0 := by omega
    have hz3 : k - K.length = 0 := by omega
    rw [hz3] at h1
    rw [hz2] at h2
    cases h1
    exact hr x (Option.some.inj h2)
def ev_adv (S : ev_S) (n : Nat) (st : List ev_A) : ev_S := (S.1 + n, S.2.1, st, S.2.2.2)
def ev_advK (S : ev_S) (n : Nat) (st : List ev_A) (r : Int × Int) : ev_S := (S.1 + n, S.2.1, st, S.2.2.2.1, S.2.2.2.2.1 ++ [r], S.2.2.2.2.2)

def ev_iconst : ev_O := (fun _ t => some (.iconst t.1, 1, []), fun _ t S => some [ev_adv S 1 ((0, (Int32.ofInt t.1).toInt) :: S.2.2.1)])
theorem ev_iconst_ok : ev_Snd ev_iconst := by
  intro p l e R s m args below meth c cc Q D A g0 P t S i n cs Ss X h1 hd hw h2 hk g ws H locs ls sc hle hR
  obtain ⟨hx, hb, hml, hown, hts, hK, hA, hN, hini, hcC, hcS, hf, hlc, hscr⟩ := X
  obtain ⟨pc, L, st, w, K, ce, sl⟩ := S
  have h1 : some ((.iconst t.1 : Instr), (1 : Nat), ([] : List Cond)) = some (i, n, cs) := h1
  cases h1
  have h2 : some [ev_adv (pc, L, st, w, K, ce, sl) 1 ((0, (Int32.ofInt t.1).toInt) :: st)] = some Ss := h2
  cases h2
  obtain ⟨hP, hD, hS, hW, hB, hL, hs⟩ := hR
  exact lv_iconst (v := Int32.ofInt t.1) hx hb hd rfl (hk _ (List.mem_singleton.mpr rfl) g ws H locs ls _ hle ⟨hP, hD, hS, hW, hB, hL, ev_v0 g _, hs⟩)

def ev_bipush : ev_O := (fun _ t => some (.bipush t.1, 2, []), fun _ t S => some [ev_adv S 2 ((0, ((Int8.ofInt t.1).toInt32).toInt) :: S.2.2.1)])
theorem ev_bipush_ok : ev_Snd ev_bipush := by
  intro p l e R s m args below meth c cc Q D A g0 P t S i n cs Ss X h1 hd hw h2 hk g ws H locs ls sc hle hR
  obtain ⟨hx, hb, hml, hown, hts, hK, hA, hN, hini, hcC, hcS, hf, hlc, hscr⟩ := X
  obtain ⟨pc, L, st, w, K, ce, sl⟩ := S
  have h1 : some ((.bipush t.1 : Instr), (2 : Nat), ([] : List Cond)) = some (i, n, cs) := h1
  cases h1
  have h2 : some [ev_adv (pc, L, st, w, K, ce, sl) 2 ((0, ((Int8.ofInt t.1).toInt32).toInt) :: st)] = some Ss := h2
  cases h2
  obtain ⟨hP, hD, hS, hW, hB, hL, hs⟩ := hR
  exact lv_bipush (v := (Int8.ofInt t.1).toInt32) hx hb hd rfl (hk _ (List.mem_singleton.mpr rfl) g ws H locs ls _ hle ⟨hP, hD, hS, hW, hB, hL, ev_v0 g _, hs⟩)

def ev_sipush : ev_O := (fun _ t => some (.sipush t.1, 3, []), fun _ t S => some [ev_adv S 3 ((0, ((Int16.ofInt t.1).toInt32).toInt) :: S.2.2.1)])
theorem ev_sipush_ok : ev_Snd ev_sipush := by
  intro p l e R s m args below meth c cc Q D A g0 P t S i n cs Ss X h1 hd hw h2 hk g ws H locs ls sc hle hR
  obtain ⟨hx, hb, hml, hown, hts, hK, hA, hN, hini, hcC, hcS, hf, hlc, hscr⟩ := X
  obtain ⟨pc, L, st, w, K, ce, sl⟩ := S
  have h1 : some ((.sipush t.1 : Instr), (3 : Nat), ([] : List Cond)) = some (i, n, cs) := h1
  cases h1
  have h2 : some [ev_adv (pc, L, st, w, K, ce, sl) 3 ((0, ((Int16.ofInt t.1).toInt32).toInt) :: st)] = some Ss := h2
  cases h2
  obtain ⟨hP, hD, hS, hW, hB, hL, hs⟩ := hR
  exact lv_sipush (v := (Int16.ofInt t.1).toInt32) hx hb hd rfl (hk _ (List.mem_singleton.mpr rfl) g ws H locs ls _ hle ⟨hP, hD, hS, hW, hB, hL, ev_v0 g _, hs⟩)

def ev_lconst : ev_O := (fun _ t => if h : t.1.toNat < 2 then some (.lconst ⟨t.1.toNat, h⟩, 1, []) else none, fun _ t S => some [ev_adv S 1 ((4, (Int64.ofNat t.1.toNat).toInt) :: S.2.2.1)])
theorem ev_lconst_ok : ev_Snd ev_lconst := by
  intro p l e R s m args below meth c cc Q D A g0 P t S i n cs Ss X h1 hd hw h2 hk g ws H locs ls sc hle hR
  obtain ⟨hx, hb, hml, hown, hts, hK, hA, hN, hini, hcC, hcS, hf, hlc, hscr⟩ := X
  obtain ⟨pc, L, st, w, K, ce, sl⟩ := S
  have h1 : (if h : t.1.toNat < 2 then some ((.lconst ⟨t.1.toNat, h⟩ : Instr), (1 : Nat), ([] : List Cond)) else none) = some (i, n, cs) := h1
  have h2 : some [ev_adv (pc, L, st, w, K, ce, sl) 1 ((4, (Int64.ofNat t.1.toNat).toInt) :: st)] = some Ss := h2
  cases h2
  split at h1
  · cases h1
    obtain ⟨hP, hD, hS, hW, hB, hL, hs⟩ := hR
    exact lv_lconst (v := Int64.ofNat t.1.toNat) hx hb hd rfl (hk _ (List.mem_singleton.mpr rfl) g ws H locs ls _ hle ⟨hP, hD, hS, hW, hB, hL, ev_v4 g _, hs⟩)
  · cases h1

def ev_look : List (Nat × ev_A) → Nat → Option ev_A
  | [], _ => none
  | q :: L, i => if q.1 == i then some q.2 else ev_look L i
theorem ev_look_mem : ∀ {L : List (Nat × ev_A)} {i : Nat} {a : ev_A}, ev_look L i = some a → (i, a) ∈ L
  | [], i, a, h => by cases h
  | q :: L, i, a, h => by
    unfold ev_look at h
    split at h
    · rename_i hq
      cases h
      rw [← beq_iff_eq.mp hq]
      exact List.mem_cons_self
    · exact List.mem_cons_of_mem _ (ev_look_mem h)
def ev_isR (a : ev_A) : Bool := a.1 == 1 || a.1 == 5
theorem ev_vR {g : ev_G} {a : ev_A} {v : Value} (h : ev_isR a = true) (hv : ev_v g a = some v) : ∃ x : Nat, v = .ref x := by
  obtain ⟨t, n⟩ := a
  simp only [ev_isR, Bool.or_eq_true, beq_iff_eq] at h
  rcases h with h | h
  · subst h
    simp only [ev_v] at hv
    cases hq : g.1[n.toNat]? with
    | none => simp [hq] at hv
    | some q =>
      simp only [hq, Option.map_some] at hv
      exact ⟨q, (Option.some.inj hv).symm⟩
  · subst h
    exact ⟨_, (Option.some.inj hv).symm⟩
def ev_ld (ok : ev_A → Bool) (n : Nat) (i : Nat) (S : ev_S) : Option (List ev_S) := match ev_look S.2.1 i with
  | some a => if ok a = true then some [ev_adv S n (a :: S.2.2.1)] else none
  | none => none
theorem ev_ld_ok {ok : ev_A → Bool} {n i pc : Nat} {L : List (Nat × ev_A)} {st : List ev_A} {r} {Ss : List ev_S} (h : ev_ld ok n i (pc, L, st, r) = some Ss) : ∃ a, (i, a) ∈ L ∧ ok a = true ∧ Ss = [ev_adv (pc, L, st, r) n (a :: st)] := by
  unfold ev_ld at h
  split at h
  · rename_i a ha
    split at h
    · rename_i hok
      cases h
      exact ⟨a, ev_look_mem ha, hok, rfl⟩
    · cases h
  · cases h

def ev_iload : ev_O := (fun _ t => some (.iload t.1.toNat, 2, []), fun _ t S => ev_ld ev_isI 2 t.1.toNat S)
theorem ev_iload_ok : ev_Snd ev_iload := by
  intro p l e R s m args below meth c cc Q D A g0 P t S i n cs Ss X h1 hd hw h2 hk g ws H locs ls sc hle hR
  obtain ⟨hx, hb, hml, hown, hts, hK, hA, hN, hini, hcC, hcS, hf, hlc, hscr⟩ := X
  obtain ⟨pc, L, st, w, K, ce, sl⟩ := S
  have h1 : some ((.iload t.1.toNat : Instr), (2 : Nat), ([] : List Cond)) = some (i, n, cs) := h1
  cases h1
  obtain ⟨a, ha, hok, rfl⟩ := ev_ld_ok h2
  obtain ⟨hP, hD, hS, hW, hB, hL, hs⟩ := hR
  obtain ⟨v, hv, hl⟩ := hL.2.2 _ ha
  obtain ⟨x, rfl⟩ := ev_vI hok hv
  exact lv_iload hx hb hd hl (hk _ (List.mem_singleton.mpr rfl) g ws H locs ls _ hle ⟨hP, hD, hS, hW, hB, hL, hv, hs⟩)
def ev_iloadn : ev_O := (fun _ t => if h : t.1.toNat < 4 then some (.iload_n ⟨t.1.toNat, h⟩, 1, []) else none, fun _ t S => ev_ld ev_isI 1 t.1.toNat S)
theorem ev_iloadn_ok : ev_Snd ev_iloadn := by
  intro p l e R s m args below meth c cc Q D A g0 P t S i n cs Ss X h1 hd hw h2 hk g ws H locs ls sc hle hR
  obtain ⟨hx, hb, hml, hown, hts, hK, hA, hN, hini, hcC, hcS, hf, hlc, hscr⟩ := X
  obtain ⟨pc, L, st, w, K, ce, sl⟩ := S
  have h1 : (if h : t.1.toNat < 4 then some ((.iload_n ⟨t.1.toNat, h⟩ : Instr), (1 : Nat), ([] : List Cond)) else none) = some (i, n, cs) := h1
  split at h1
  · cases h1
    obtain ⟨a, ha, hok, rfl⟩ := ev_ld_ok h2
    obtain ⟨hP, hD, hS, hW, hB, hL, hs⟩ := hR
    obtain ⟨v, hv, hl⟩ := hL.2.2 _ ha
    obtain ⟨x, rfl⟩ := ev_vI hok hv
    exact lv_iload_n hx hb hd rfl hl (hk _ (List.mem_singleton.mpr rfl) g ws H locs ls _ hle ⟨hP, hD, hS, hW, hB, hL, hv, hs⟩)
  · cases h1

def ev_lload : ev_O := (fun _ t => some (.lload t.1.toNat, 2, []), fun _ t S => ev_ld ev_isL 2 t.1.toNat S)
theorem ev_lload_ok : ev_Snd ev_lload := by
  intro p l e R s m args below meth c cc Q D A g0 P t S i n cs Ss X h1 hd hw h2 hk g ws H locs ls sc hle hR
  obtain ⟨hx, hb, hml, hown, hts, hK, hA, hN, hini, hcC, hcS, hf, hlc, hscr⟩ := X
  obtain ⟨pc, L, st, w, K, ce, sl⟩ := S
  have h1 : some ((.lload t.1.toNat : Instr), (2 : Nat), ([] : List Cond)) = some (i, n, cs) := h1
  cases h1
  obtain ⟨a, ha, hok, rfl⟩ := ev_ld_ok h2
  obtain ⟨hP, hD, hS, hW, hB, hL, hs⟩ := hR
  obtain ⟨v, hv, hl⟩ := hL.2.2 _ ha
  obtain ⟨x, rfl⟩ := ev_vL hok hv
  exact lv_lload hx hb hd hl (hk _ (List.mem_singleton.mpr rfl) g ws H locs ls _ hle ⟨hP, hD, hS, hW, hB, hL, hv, hs⟩)
def ev_lloadn : ev_O := (fun _ t => if h : t.1.toNat < 4 then some (.lload_n ⟨t.1.toNat, h⟩, 1, []) else none, fun _ t S => ev_ld ev_isL 1 t.1.toNat S)
theorem ev_lloadn_ok : ev_Snd ev_lloadn := by
  intro p l e R s m args below meth c cc Q D A g0 P t S i n cs Ss X h1 hd hw h2 hk g ws H locs ls sc hle hR
  obtain ⟨hx, hb, hml, hown, hts, hK, hA, hN, hini, hcC, hcS, hf, hlc, hscr⟩ := X
  obtain ⟨pc, L, st, w, K, ce, sl⟩ := S
  have h1 : (if h : t.1.toNat < 4 then some ((.lload_n ⟨t.1.toNat, h⟩ : Instr), (1 : Nat), ([] : List Cond)) else none) = some (i, n, cs) := h1
  split at h1
  · cases h1
    obtain ⟨a, ha, hok, rfl⟩ := ev_ld_ok h2
    obtain ⟨hP, hD, hS, hW, hB, hL, hs⟩ := hR
    obtain ⟨v, hv, hl⟩ := hL.2.2 _ ha
    obtain ⟨x, rfl⟩ := ev_vL hok hv
    exact lv_lload_n hx hb hd rfl hl (hk _ (List.mem_singleton.mpr rfl) g ws H locs ls _ hle ⟨hP, hD, hS, hW, hB, hL, hv, hs⟩)
  · cases h1

def ev_aload : ev_O := (fun _ t => some (.aload t.1.toNat, 2, []), fun _ t S => ev_ld ev_isR 2 t.1.toNat S)
theorem ev_aload_ok : ev_Snd ev_aload := by
  intro p l e R s m args below meth c cc Q D A g0 P t S i n cs Ss X h1 hd hw h2 hk g ws H locs ls sc hle hR
  obtain ⟨hx, hb, hml, hown, hts, hK, hA, hN, hini, hcC, hcS, hf, hlc, hscr⟩ := X
  obtain ⟨pc, L, st, w, K, ce, sl⟩ := S
  have h1 : some ((.aload t.1.toNat : Instr), (2 : Nat), ([] : List Cond)) = some (i, n, cs) := h1
  cases h1
  obtain ⟨a, ha, hok, rfl⟩ := ev_ld_ok h2
  obtain ⟨hP, hD, hS, hW, hB, hL, hs⟩ := hR
  obtain ⟨v, hv, hl⟩ := hL.2.2 _ ha
  obtain ⟨x, rfl⟩ := ev_vR hok hv
  exact lv_aload hx hb hd hl (hk _ (List.mem_singleton.mpr rfl) g ws H locs ls _ hle ⟨hP, hD, hS, hW, hB, hL, hv, hs⟩)
def ev_aloadn : ev_O := (fun _ t => if h : t.1.toNat < 4 then some (.aload_n ⟨t.1.toNat, h⟩, 1, []) else none, fun _ t S => ev_ld ev_isR 1 t.1.toNat S)
theorem ev_aloadn_ok : ev_Snd ev_aloadn := by
  intro p l e R s m args below meth c cc Q D A g0 P t S i n cs Ss X h1 hd hw h2 hk g ws H locs ls sc hle hR
  obtain ⟨hx, hb, hml, hown, hts, hK, hA, hN, hini, hcC, hcS, hf, hlc, hscr⟩ := X
  obtain ⟨pc, L, st, w, K, ce, sl⟩ := S
  have h1 : (if h : t.1.toNat < 4 then some ((.aload_n ⟨t.1.toNat, h⟩ : Instr), (1 : Nat), ([] : List Cond)) else none) = some (i, n, cs) := h1
  split at h1
  · cases h1
    obtain ⟨a, ha, hok, rfl⟩ := ev_ld_ok h2
    obtain ⟨hP, hD, hS, hW, hB, hL, hs⟩ := hR
    obtain ⟨v, hv, hl⟩ := hL.2.2 _ ha
    obtain ⟨x, rfl⟩ := ev_vR hok hv
    exact lv_aload_n hx hb hd rfl hl (hk _ (List.mem_singleton.mpr rfl) g ws H locs ls _ hle ⟨hP, hD, hS, hW, hB, hL, hv, hs⟩)
  · cases h1

def ev_conc (g : ev_G) (L : List (Nat × ev_A)) : List (Nat × Value) := L.filterMap (fun q => (ev_v g q.2).map (fun v => (q.1, v)))
theorem ev_conc_has {g : ev_G} {L : List (Nat × ev_A)} {nL : Nat} {ls : Array Slot} (h : ev_l g L nL ls) : lv_has ls nL (ev_conc g L) := by
  refine ⟨h.1, h.2.1, fun q hq => ?_⟩
  obtain ⟨r, hr, he⟩ := List.mem_filterMap.mp hq
  obtain ⟨v, a, b⟩ := h.2.2 r hr
  rw [a] at he
  cases he
  exact b
theorem ev_conc_mem {g : ev_G} {L : List (Nat × ev_A)} {q : Nat × ev_A} {v : Value} (h : q ∈ L) (hv : ev_v g q.2 = some v) : (q.1, v) ∈ ev_conc g L := List.mem_filterMap.mpr ⟨q, h, by rw [hv]; rfl⟩
def ev_st1 (L : List (Nat × ev_A)) (i : Nat) (a : ev_A) : List (Nat × ev_A) := (i, a) :: L.filter (fun q => !(q.1 == i) && !(q.1 + 1 == i && ev_isL q.2))
def ev_st2 (L : List (Nat × ev_A)) (i : Nat) (a : ev_A) : List (Nat × ev_A) := (i, a) :: L.filter (fun q => !(q.1 == i) && (!(q.1 == i + 1) && !(q.1 + 1 == i && ev_isL q.2)))
theorem ev_isL_cat {g : ev_G} {a : ev_A} {v : Value} (hv : ev_v g a = some v) : ev_isL a = (v.category == 2) := by
  rcases ev_cat hv with ⟨h1, h2⟩ | ⟨h1, h2⟩ <;> rw [h1, h2] <;> rfl
theorem ev_st1_ok {g : ev_G} {L : List (Nat × ev_A)} {nL i : Nat} {ls ls' : Array Slot} {a : ev_A} {v : Value} (h : ev_l g L nL ls) (hv : ev_v g a = some v) (h' : lv_has ls' nL ((i, v) :: (ev_conc g L).filter (fun q => !(q.1 == i) && !(q.1 + 1 == i && q.2.category == 2)))) : ev_l g (ev_st1 L i a) nL ls' := by
  refine ⟨h'.1, h'.2.1, fun q hq => ?_⟩
  rcases List.mem_cons.mp hq with rfl | hq
  · exact ⟨v, hv, h'.2.2 _ List.mem_cons_self⟩
  · obtain ⟨q1, q2⟩ := List.mem_filter.mp hq
    obtain ⟨x, a1, a2⟩ := h.2.2 q q1
    refine ⟨x, a1, h'.2.2 (q.1, x) (List.mem_cons_of_mem _ (List.mem_filter.mpr ⟨ev_conc_mem q1 a1, ?_⟩))⟩
    rw [ev_isL_cat a1] at q2
    exact q2
theorem ev_st2_ok {g : ev_G} {L : List (Nat × ev_A)} {nL i : Nat} {ls ls' : Array Slot} {a : ev_A} {v : Value} (h : ev_l g L nL ls) (hv : ev_v g a = some v) (h' : lv_has ls' nL ((i, v) :: (ev_conc g L).filter (fun q => !(q.1 == i) && (!(q.1 == i + 1) && !(q.1 + 1 == i && q.2.category == 2))))) : ev_l g (ev_st2 L i a) nL ls' := by
  refine ⟨h'.1, h'.2.1, fun q hq => ?_⟩
  rcases List.mem_cons.mp hq with rfl | hq
  · exact ⟨v, hv, h'.2.2 _ List.mem_cons_self⟩
  · obtain ⟨q1, q2⟩ := List.mem_filter.mp hq
    obtain ⟨x, a1, a2⟩ := h.2.2 q q1
    refine ⟨x, a1, h'.2.2 (q.1, x) (List.mem_cons_of_mem _ (List.mem_filter.mpr ⟨ev_conc_mem q1 a1, ?_⟩))⟩
    rw [ev_isL_cat a1] at q2
    exact q2
def ev_sto (ok : ev_A → Bool) (wide : Nat) (n i nL : Nat) (S : ev_S) : Option (List ev_S) := match S.2.2.1 with
  | a :: st => if ok a = true ∧ i + wide < nL then some [(S.1 + n, (if wide = 0 then ev_st1 S.2.1 i a else ev_st2 S.2.1 i a), st, S.2.2.2)] else none
  | [] => none
theorem ev_sto_ok {ok : ev_A → Bool} {wide n i nL pc : Nat} {L : List (Nat × ev_A)} {st : List ev_A} {r} {Ss : List ev_S} (h : ev_sto ok wide n i nL (pc, L, st, r) = some Ss) : ∃ a st', st = a :: st' ∧ ok a = true ∧ i + wide < nL ∧ Ss = [(pc + n, (if wide = 0 then ev_st1 L i a else ev_st2 L i a), st', r)] := by
  unfold ev_sto at h
  split at h
  · rename_i a st' e
    split at h
    · rename_i hok
      cases h
      exact ⟨a, st', e, hok.1, hok.2, rfl⟩
    · cases h
  · cases h

def ev_istore : ev_O := (fun _ t => some (.istore t.1.toNat, 2, []), fun P t S => ev_sto ev_isI 0 2 t.1.toNat P.2.2.2.2.1 S)
theorem ev_istore_ok : ev_Snd ev_istore := by
  intro p l e R s m args below meth c cc Q D A g0 P t S i n cs Ss X h1 hd hw h2 hk g ws H locs ls sc hle hR
  obtain ⟨hx, hb, hml, hown, hts, hK, hA, hN, hini, hcC, hcS, hf, hlc, hscr⟩ := X
  obtain ⟨pc, L, st, w, K, ce, sl⟩ := S
  have h1 : some ((.istore t.1.toNat : Instr), (2 : Nat), ([] : List Cond)) = some (i, n, cs) := h1
  cases h1
  · obtain ⟨a, st', rfl, hok, hi, rfl⟩ := ev_sto_ok h2
    obtain ⟨hP, hD, hS, hW, hB, hL, hs⟩ := hR
    obtain ⟨v, sc', rfl, hv, hs2⟩ := ev_s_cons hs
    obtain ⟨x, rfl⟩ := ev_vI hok hv
    exact lv_istore hx hb hd (ev_conc_has hL) hi rfl (fun ls' hl' => hk _ (List.mem_singleton.mpr rfl) g ws H locs ls' _ hle ⟨hP, hD, hS, hW, hB, ev_st1_ok hL hv hl', hs2⟩)
def ev_istoren : ev_O := (fun _ t => if h : t.1.toNat < 4 then some (.istore_n ⟨t.1.toNat, h⟩, 1, []) else none, fun P t S => ev_sto ev_isI 0 1 t.1.toNat P.2.2.2.2.1 S)
theorem ev_istoren_ok : ev_Snd ev_istoren := by
  intro p l e R s m args below meth c cc Q D A g0 P t S i n cs Ss X h1 hd hw h2 hk g ws H locs ls sc hle hR
  obtain ⟨hx, hb, hml, hown, hts, hK, hA, hN, hini, hcC, hcS, hf, hlc, hscr⟩ := X
  obtain ⟨pc, L, st, w, K, ce, sl⟩ := S
  have h1 : (if h : t.1.toNat < 4 then some ((.istore_n ⟨t.1.toNat, h⟩ : Instr), (1 : Nat), ([] : List Cond)) else none) = some (i, n, cs) := h1
  split at h1
  · cases h1
    obtain ⟨a, st', rfl, hok, hi, rfl⟩ := ev_sto_ok h2
    obtain ⟨hP, hD, hS, hW, hB, hL, hs⟩ := hR
    obtain ⟨v, sc', rfl, hv, hs2⟩ := ev_s_cons hs
    obtain ⟨x, rfl⟩ := ev_vI hok hv
    exact lv_istore_n hx hb hd rfl (ev_conc_has hL) hi rfl (fun ls' hl' => hk _ (List.mem_singleton.mpr rfl) g ws H locs ls' _ hle ⟨hP, hD, hS, hW, hB, ev_st1_ok hL hv hl', hs2⟩)
  · cases h1

def ev_lstore : ev_O := (fun _ t => some (.lstore t.1.toNat, 2, []), fun P t S => ev_sto ev_isL 1 2 t.1.toNat P.2.2.2.2.1 S)
theorem ev_lstore_ok : ev_Snd ev_lstore := by
  intro p l e R s m args below meth c cc Q D A g0 P t S i n cs Ss X h1 hd hw h2 hk g ws H locs ls sc hle hR
  obtain ⟨hx, hb, hml, hown, hts, hK, hA, hN, hini, hcC, hcS, hf, hlc, hscr⟩ := X
  obtain ⟨pc, L, st, w, K, ce, sl⟩ := S
  have h1 : some ((.lstore t.1.toNat : Instr), (2 : Nat), ([] : List Cond)) = some (i, n, cs) := h1
  cases h1
  · obtain ⟨a, st', rfl, hok, hi, rfl⟩ := ev_sto_ok h2
    obtain ⟨hP, hD, hS, hW, hB, hL, hs⟩ := hR
    obtain ⟨v, sc', rfl, hv, hs2⟩ := ev_s_cons hs
    obtain ⟨x, rfl⟩ := ev_vL hok hv
    exact lv_lstore hx hb hd (ev_conc_has hL) hi rfl (fun ls' hl' => hk _ (List.mem_singleton.mpr rfl) g ws H locs ls' _ hle ⟨hP, hD, hS, hW, hB, ev_st2_ok hL hv hl', hs2⟩)
def ev_lstoren : ev_O := (fun _ t => if h : t.1.toNat < 4 then some (.lstore_n ⟨t.1.toNat, h⟩, 1, []) else none, fun P t S => ev_sto ev_isL 1 1 t.1.toNat P.2.2.2.2.1 S)
theorem ev_lstoren_ok : ev_Snd ev_lstoren := by
  intro p l e R s m args below meth c cc Q D A g0 P t S i n cs Ss X h1 hd hw h2 hk g ws H locs ls sc hle hR
  obtain ⟨hx, hb, hml, hown, hts, hK, hA, hN, hini, hcC, hcS, hf, hlc, hscr⟩ := X
  obtain ⟨pc, L, st, w, K, ce, sl⟩ := S
  have h1 : (if h : t.1.toNat < 4 then some ((.lstore_n ⟨t.1.toNat, h⟩ : Instr), (1 : Nat), ([] : List Cond)) else none) = some (i, n, cs) := h1
  split at h1
  · cases h1
    obtain ⟨a, st', rfl, hok, hi, rfl⟩ := ev_sto_ok h2
    obtain ⟨hP, hD, hS, hW, hB, hL, hs⟩ := hR
    obtain ⟨v, sc', rfl, hv, hs2⟩ := ev_s_cons hs
    obtain ⟨x, rfl⟩ := ev_vL hok hv
    exact lv_lstore_n hx hb hd rfl (ev_conc_has hL) hi rfl (fun ls' hl' => hk _ (List.mem_singleton.mpr rfl) g ws H locs ls' _ hle ⟨hP, hD, hS, hW, hB, ev_st2_ok hL hv hl', hs2⟩)
  · cases h1

def ev_astore : ev_O := (fun _ t => some (.astore t.1.toNat, 2, []), fun P t S => ev_sto ev_isR 0 2 t.1.toNat P.2.2.2.2.1 S)
theorem ev_astore_ok : ev_Snd ev_astore := by
  intro p l e R s m args below meth c cc Q D A g0 P t S i n cs Ss X h1 hd hw h2 hk g ws H locs ls sc hle hR
  obtain ⟨hx, hb, hml, hown, hts, hK, hA, hN, hini, hcC, hcS, hf, hlc, hscr⟩ := X
  obtain ⟨pc, L, st, w, K, ce, sl⟩ := S
  have h1 : some ((.astore t.1.toNat : Instr), (2 : Nat), ([] : List Cond)) = some (i, n, cs) := h1
  cases h1
  · obtain ⟨a, st', rfl, hok, hi, rfl⟩ := ev_sto_ok h2
    obtain ⟨hP, hD, hS, hW, hB, hL, hs⟩ := hR
    obtain ⟨v, sc', rfl, hv, hs2⟩ := ev_s_cons hs
    obtain ⟨x, rfl⟩ := ev_vR hok hv
    exact lv_astore hx hb hd (ev_conc_has hL) hi rfl (fun ls' hl' => hk _ (List.mem_singleton.mpr rfl) g ws H locs ls' _ hle ⟨hP, hD, hS, hW, hB, ev_st1_ok hL hv hl', hs2⟩)
def ev_astoren : ev_O := (fun _ t => if h : t.1.toNat < 4 then some (.astore_n ⟨t.1.toNat, h⟩, 1, []) else none, fun P t S => ev_sto ev_isR 0 1 t.1.toNat P.2.2.2.2.1 S)
theorem ev_astoren_ok : ev_Snd ev_astoren := by
  intro p l e R s m args below meth c cc Q D A g0 P t S i n cs Ss X h1 hd hw h2 hk g ws H locs ls sc hle hR
  obtain ⟨hx, hb, hml, hown, hts, hK, hA, hN, hini, hcC, hcS, hf, hlc, hscr⟩ := X
  obtain ⟨pc, L, st, w, K, ce, sl⟩ := S
  have h1 : (if h : t.1.toNat < 4 then some ((.astore_n ⟨t.1.toNat, h⟩ : Instr), (1 : Nat), ([] : List Cond)) else none) = some (i, n, cs) := h1
  split at h1
  · cases h1
    obtain ⟨a, st', rfl, hok, hi, rfl⟩ := ev_sto_ok h2
    obtain ⟨hP, hD, hS, hW, hB, hL, hs⟩ := hR
    obtain ⟨v, sc', rfl, hv, hs2⟩ := ev_s_cons hs
    obtain ⟨x, rfl⟩ := ev_vR hok hv
    exact lv_astore_n hx hb hd rfl (ev_conc_has hL) hi rfl (fun ls' hl' => hk _ (List.mem_singleton.mpr rfl) g ws H locs ls' _ hle ⟨hP, hD, hS, hW, hB, ev_st1_ok hL hv hl', hs2⟩)
  · cases h1
end
section
/-! arithmetic -/
/-- two ints: a number if both are numbers, else a new variable -/
def ev_bin (f : Int32 → Int32 → Int32) (ok : Int32 → Bool) (n : Nat) (S : ev_S) : Option (List ev_S) := match S.2.2.1 with
  | y :: x :: st =>
    if ev_isI x = true ∧ ev_isI y = true then
      (if x.1 = 0 ∧ y.1 = 0 then (if ok (Int32.ofInt y.2) = true then some [ev_adv S n ((0, (f (Int32.ofInt x.2) (Int32.ofInt y.2)).toInt) :: st)] else none)
       else if y.1 = 0 then (if ok (Int32.ofInt y.2) = true then some [ev_advK S n ((3, (S.2.2.2.2.1.length : Int)) :: st) ev_full] else none)
       else if ok 0 = true then some [ev_advK S n ((3, (S.2.2.2.2.1.length : Int)) :: st) ev_full] else none)
    else none
  | _ => none
theorem ev_bin_ok (f : Int32 → Int32 → Int32) (ok : Int32 → Bool) (hok0 : ok 0 = true → ∀ y, ok y = true) {n pc : Nat} {L : List (Nat × ev_A)} {st : List ev_A} {w : List ev_C} {K : ev_K} {ce sl : Nat} {Ss : List ev_S} (h : ev_bin f ok n (pc, L, st, w, K, ce, sl) = some Ss)
    {s : State} {A : Nat → Prop} {D : va_G} {nL : Nat} {g : ev_G} {ws : va_W} {H : Heap} {locs : List Loc} {ls : Array Slot} {sc : List Value} (hR : ev_R s A D nL g (pc, L, st, w, K, ce, sl) ws H locs ls sc) :
    ∃ (x y : Int32) (rest : List Value) (S' : ev_S), sc = .int y :: .int x :: rest ∧ ok y = true ∧ Ss = [S'] ∧ S'.1 = pc + n ∧ S'.2.2.2.2.2 = (ce, sl) ∧ ∃ g', ev_le g g' ∧ ev_R s A D nL g' S' ws H locs ls (.int (f x y) :: rest) := by
  unfold ev_bin at h
  split at h
  · rename_i y x st' e
    dsimp only at e
    subst e
    split at h
    · rename_i hi
      have hR0 := hR
      obtain ⟨hP, hD, hS, hW, hB, hL, hs⟩ := hR0
      obtain ⟨vy, sc1, rfl, hvy, hs1⟩ := ev_s_cons hs
      obtain ⟨vx, sc2, rfl, hvx, hs2⟩ := ev_s_cons hs1
      obtain ⟨y0, rfl⟩ := ev_vI hi.2 hvy
      obtain ⟨x0, rfl⟩ := ev_vI hi.1 hvx
      have fr : ∃ g', ev_le g g' ∧ ev_R s A D nL g' (ev_advK (pc, L, y :: x :: st', w, K, ce, sl) n ((3, (K.length : Int)) :: st') ev_full) ws H locs ls (.int (f x0 y0) :: sc2) := by
        obtain ⟨g', l1, ⟨hP, hD, hS, hW, hB, hL, hs⟩, e1⟩ := ev_fresh hR (.int (f x0 y0)) ev_full (fun z hz => by cases hz; exact ev_full_ok _)
        exact ⟨g', l1, hP, hD, hS, hW, hB, hL, ev_v3 e1, hs.2.2⟩
      split at h
      · rename_i hz
        split at h
        · rename_i hy
          cases h
          obtain ⟨xt, xn⟩ := x
          obtain ⟨yt, yn⟩ := y
          obtain ⟨rfl, rfl⟩ := hz
          have ex : Int32.ofInt xn = x0 := Value.int.inj (Option.some.inj hvx)
          have ey : Int32.ofInt yn = y0 := Value.int.inj (Option.some.inj hvy)
          dsimp only at hy ⊢
          rw [ex, ey]
          exact ⟨x0, y0, sc2, _, rfl, by rw [← ey]; exact hy, rfl, rfl, rfl, g, ev_le_rf g, hP, hD, hS, hW, hB, hL, ev_v0 g _, hs2⟩
        · cases h
      · split at h
        · rename_i hz
          split at h
          · rename_i hy
            cases h
            obtain ⟨yt, yn⟩ := y
            have hz : yt = 0 := hz
            subst hz
            have ey : Int32.ofInt yn = y0 := Value.int.inj (Option.some.inj hvy)
            exact ⟨x0, y0, sc2, _, rfl, by rw [← ey]; exact hy, rfl, rfl, rfl, fr⟩
          · cases h
        · split at h
          · rename_i hy
            cases h
            exact ⟨x0, y0, sc2, _, rfl, hok0 hy _, rfl, rfl, rfl, fr⟩
          · cases h
    · cases h
  · cases h
theorem ev_Go_eq {p : Program} {l : Launch} {e : Env} {R : Room} {s : State} {m : MethodId} {args : Array Value} {below : List Frame} {meth : Method} {c : Code} {Q : State → Prop} {nL : Nat} {D : va_G} {A : Nat → Prop} {g0 : ev_G} {S : ev_S} {pc ce sl : Nat} (h : ev_Go p l e R s m args below meth c Q nL D A g0 S) (h1 : S.1 = pc) (h2 : S.2.2.2.2.2 = (ce, sl))
    {g : ev_G} {ws : va_W} {H : Heap} {locs : List Loc} {ls : Array Slot} {sc : List Value} (hle : ev_le g0 g) (hR : ev_R s A D nL g S ws H locs ls sc) : W p l e R s m args below meth c H locs ce sl Q (F0 m pc ls sc) := by
  have := h g ws H locs ls sc hle hR
  rw [h1, h2] at this
  exact this

def ev_iadd : ev_O := (fun _ _ => some (.iadd, 1, []), fun _ _ S => ev_bin (fun x y => x + y) (fun _ => true) 1 S)
theorem ev_iadd_ok : ev_Snd ev_iadd := by
  intro p l e R s m args below meth c cc Q D A g0 P t S i n cs Ss X h1 hd hw h2 hk g ws H locs ls sc hle hR
  obtain ⟨hx, hb, hml, hown, hts, hK, hA, hN, hini, hcC, hcS, hf, hlc, hscr⟩ := X
  obtain ⟨pc, L, st, w, K, ce, sl⟩ := S
  have h1 : some ((.iadd : Instr), (1 : Nat), ([] : List Cond)) = some (i, n, cs) := h1
  cases h1
  · obtain ⟨x0, y0, rest, S', rfl, hy, rfl, e1, e2, g', l1, hR'⟩ := ev_bin_ok (fun x y => x + y) (fun _ => true) (fun _ _ => rfl) (show ev_bin (fun x y => x + y) (fun _ => true) 1 (pc, L, st, w, K, ce, sl) = some Ss from h2) hR
    exact lv_iadd hx hb hd (ev_Go_eq (hk S' (List.mem_singleton.mpr rfl)) e1 e2 (ev_le_tr hle l1) hR')

def ev_isub : ev_O := (fun _ _ => some (.isub, 1, []), fun _ _ S => ev_bin (fun x y => x - y) (fun _ => true) 1 S)
theorem ev_isub_ok : ev_Snd ev_isub := by
  intro p l e R s m args below meth c cc Q D A g0 P t S i n cs Ss X h1 hd hw h2 hk g ws H locs ls sc hle hR
  obtain ⟨hx, hb, hml, hown, hts, hK, hA, hN, hini, hcC, hcS, hf, hlc, hscr⟩ := X
  obtain ⟨pc, L, st, w, K, ce, sl⟩ := S
  have h1 : some ((.isub : Instr), (1 : Nat), ([] : List Cond)) = some (i, n, cs) := h1
  cases h1
  · obtain ⟨x0, y0, rest, S', rfl, hy, rfl, e1, e2, g', l1, hR'⟩ := ev_bin_ok (fun x y => x - y) (fun _ => true) (fun _ _ => rfl) (show ev_bin (fun x y => x - y) (fun _ => true) 1 (pc, L, st, w, K, ce, sl) = some Ss from h2) hR
    exact lv_isub hx hb hd (ev_Go_eq (hk S' (List.mem_singleton.mpr rfl)) e1 e2 (ev_le_tr hle l1) hR')

def ev_imul : ev_O := (fun _ _ => some (.imul, 1, []), fun _ _ S => ev_bin (fun x y => x * y) (fun _ => true) 1 S)
theorem ev_imul_ok : ev_Snd ev_imul := by
  intro p l e R s m args below meth c cc Q D A g0 P t S i n cs Ss X h1 hd hw h2 hk g ws H locs ls sc hle hR
  obtain ⟨hx, hb, hml, hown, hts, hK, hA, hN, hini, hcC, hcS, hf, hlc, hscr⟩ := X
  obtain ⟨pc, L, st, w, K, ce, sl⟩ := S
  have h1 : some ((.imul : Instr), (1 : Nat), ([] : List Cond)) = some (i, n, cs) := h1
  cases h1
  · obtain ⟨x0, y0, rest, S', rfl, hy, rfl, e1, e2, g', l1, hR'⟩ := ev_bin_ok (fun x y => x * y) (fun _ => true) (fun _ _ => rfl) (show ev_bin (fun x y => x * y) (fun _ => true) 1 (pc, L, st, w, K, ce, sl) = some Ss from h2) hR
    exact lv_imul hx hb hd (ev_Go_eq (hk S' (List.mem_singleton.mpr rfl)) e1 e2 (ev_le_tr hle l1) hR')

def ev_iand : ev_O := (fun _ _ => some (.iand, 1, []), fun _ _ S => ev_bin (fun x y => x &&& y) (fun _ => true) 1 S)
theorem ev_iand_ok : ev_Snd ev_iand := by
  intro p l e R s m args below meth c cc Q D A g0 P t S i n cs Ss X h1 hd hw h2 hk g ws H locs ls sc hle hR
  obtain ⟨hx, hb, hml, hown, hts, hK, hA, hN, hini, hcC, hcS, hf, hlc, hscr⟩ := X
  obtain ⟨pc, L, st, w, K, ce, sl⟩ := S
  have h1 : some ((.iand : Instr), (1 : Nat), ([] : List Cond)) = some (i, n, cs) := h1
  cases h1
  · obtain ⟨x0, y0, rest, S', rfl, hy, rfl, e1, e2, g', l1, hR'⟩ := ev_bin_ok (fun x y => x &&& y) (fun _ => true) (fun _ _ => rfl) (show ev_bin (fun x y => x &&& y) (fun _ => true) 1 (pc, L, st, w, K, ce, sl) = some Ss from h2) hR
    exact lv_iand hx hb hd (ev_Go_eq (hk S' (List.mem_singleton.mpr rfl)) e1 e2 (ev_le_tr hle l1) hR')

def ev_ior : ev_O := (fun _ _ => some (.ior, 1, []), fun _ _ S => ev_bin (fun x y => x ||| y) (fun _ => true) 1 S)
theorem ev_ior_ok : ev_Snd ev_ior := by
  intro p l e R s m args below meth c cc Q D A g0 P t S i n cs Ss X h1 hd hw h2 hk g ws H locs ls sc hle hR
  obtain ⟨hx, hb, hml, hown, hts, hK, hA, hN, hini, hcC, hcS, hf, hlc, hscr⟩ := X
  obtain ⟨pc, L, st, w, K, ce, sl⟩ := S
  have h1 : some ((.ior : Instr), (1 : Nat), ([] : List Cond)) = some (i, n, cs) := h1
  cases h1
  · obtain ⟨x0, y0, rest, S', rfl, hy, rfl, e1, e2, g', l1, hR'⟩ := ev_bin_ok (fun x y => x ||| y) (fun _ => true) (fun _ _ => rfl) (show ev_bin (fun x y => x ||| y) (fun _ => true) 1 (pc, L, st, w, K, ce, sl) = some Ss from h2) hR
    exact lv_ior hx hb hd (ev_Go_eq (hk S' (List.mem_singleton.mpr rfl)) e1 e2 (ev_le_tr hle l1) hR')

def ev_ixor : ev_O := (fun _ _ => some (.ixor, 1, []), fun _ _ S => ev_bin (fun x y => x ^^^ y) (fun _ => true) 1 S)
theorem ev_ixor_ok : ev_Snd ev_ixor := by
  intro p l e R s m args below meth c cc Q D A g0 P t S i n cs Ss X h1 hd hw h2 hk g ws H locs ls sc hle hR
  obtain ⟨hx, hb, hml, hown, hts, hK, hA, hN, hini, hcC, hcS, hf, hlc, hscr⟩ := X
  obtain ⟨pc, L, st, w, K, ce, sl⟩ := S
  have h1 : some ((.ixor : Instr), (1 : Nat), ([] : List Cond)) = some (i, n, cs) := h1
  cases h1
  · obtain ⟨x0, y0, rest, S', rfl, hy, rfl, e1, e2, g', l1, hR'⟩ := ev_bin_ok (fun x y => x ^^^ y) (fun _ => true) (fun _ _ => rfl) (show ev_bin (fun x y => x ^^^ y) (fun _ => true) 1 (pc, L, st, w, K, ce, sl) = some Ss from h2) hR
    exact lv_ixor hx hb hd (ev_Go_eq (hk S' (List.mem_singleton.mpr rfl)) e1 e2 (ev_le_tr hle l1) hR')

def ev_ishl : ev_O := (fun _ _ => some (.ishl, 1, []), fun _ _ S => ev_bin (fun x y => x <<< (y &&& 31)) (fun _ => true) 1 S)
theorem ev_ishl_ok : ev_Snd ev_ishl := by
  intro p l e R s m args below meth c cc Q D A g0 P t S i n cs Ss X h1 hd hw h2 hk g ws H locs ls sc hle hR
  obtain ⟨hx, hb, hml, hown, hts, hK, hA, hN, hini, hcC, hcS, hf, hlc, hscr⟩ := X
  obtain ⟨pc, L, st, w, K, ce, sl⟩ := S
  have h1 : some ((.ishl : Instr), (1 : Nat), ([] : List Cond)) = some (i, n, cs) := h1
  cases h1
  · obtain ⟨x0, y0, rest, S', rfl, hy, rfl, e1, e2, g', l1, hR'⟩ := ev_bin_ok (fun x y => x <<< (y &&& 31)) (fun _ => true) (fun _ _ => rfl) (show ev_bin (fun x y => x <<< (y &&& 31)) (fun _ => true) 1 (pc, L, st, w, K, ce, sl) = some Ss from h2) hR
    exact lv_ishl hx hb hd (ev_Go_eq (hk S' (List.mem_singleton.mpr rfl)) e1 e2 (ev_le_tr hle l1) hR')

def ev_ishr : ev_O := (fun _ _ => some (.ishr, 1, []), fun _ _ S => ev_bin (fun x y => x >>> (y &&& 31)) (fun _ => true) 1 S)
theorem ev_ishr_ok : ev_Snd ev_ishr := by
  intro p l e R s m args below meth c cc Q D A g0 P t S i n cs Ss X h1 hd hw h2 hk g ws H locs ls sc hle hR
  obtain ⟨hx, hb, hml, hown, hts, hK, hA, hN, hini, hcC, hcS, hf, hlc, hscr⟩ := X
  obtain ⟨pc, L, st, w, K, ce, sl⟩ := S
  have h1 : some ((.ishr : Instr), (1 : Nat), ([] : List Cond)) = some (i, n, cs) := h1
  cases h1
  · obtain ⟨x0, y0, rest, S', rfl, hy, rfl, e1, e2, g', l1, hR'⟩ := ev_bin_ok (fun x y => x >>> (y &&& 31)) (fun _ => true) (fun _ _ => rfl) (show ev_bin (fun x y => x >>> (y &&& 31)) (fun _ => true) 1 (pc, L, st, w, K, ce, sl) = some Ss from h2) hR
    exact lv_ishr hx hb hd (ev_Go_eq (hk S' (List.mem_singleton.mpr rfl)) e1 e2 (ev_le_tr hle l1) hR')

def ev_iushr : ev_O := (fun _ _ => some (.iushr, 1, []), fun _ _ S => ev_bin (fun x y => (x.toUInt32 >>> (y.toUInt32 &&& Int32.toUInt32 31)).toInt32) (fun _ => true) 1 S)
theorem ev_iushr_ok : ev_Snd ev_iushr := by
  intro p l e R s m args below meth c cc Q D A g0 P t S i n cs Ss X h1 hd hw h2 hk g ws H locs ls sc hle hR
  obtain ⟨hx, hb, hml, hown, hts, hK, hA, hN, hini, hcC, hcS, hf, hlc, hscr⟩ := X
  obtain ⟨pc, L, st, w, K, ce, sl⟩ := S
  have h1 : some ((.iushr : Instr), (1 : Nat), ([] : List Cond)) = some (i, n, cs) := h1
  cases h1
  · obtain ⟨x0, y0, rest, S', rfl, hy, rfl, e1, e2, g', l1, hR'⟩ := ev_bin_ok (fun x y => (x.toUInt32 >>> (y.toUInt32 &&& Int32.toUInt32 31)).toInt32) (fun _ => true) (fun _ _ => rfl) (show ev_bin (fun x y => (x.toUInt32 >>> (y.toUInt32 &&& Int32.toUInt32 31)).toInt32) (fun _ => true) 1 (pc, L, st, w, K, ce, sl) = some Ss from h2) hR
    exact lv_iushr hx hb hd rfl (ev_Go_eq (hk S' (List.mem_singleton.mpr rfl)) e1 e2 (ev_le_tr hle l1) hR')

def ev_idiv : ev_O := (fun _ _ => some (.idiv, 1, []), fun _ _ S => ev_bin (fun x y => x / y) (fun y => !(y == 0)) 1 S)
theorem ev_idiv_ok : ev_Snd ev_idiv := by
  intro p l e R s m args below meth c cc Q D A g0 P t S i n cs Ss X h1 hd hw h2 hk g ws H locs ls sc hle hR
  obtain ⟨hx, hb, hml, hown, hts, hK, hA, hN, hini, hcC, hcS, hf, hlc, hscr⟩ := X
  obtain ⟨pc, L, st, w, K, ce, sl⟩ := S
  have h1 : some ((.idiv : Instr), (1 : Nat), ([] : List Cond)) = some (i, n, cs) := h1
  cases h1
  · obtain ⟨x0, y0, rest, S', rfl, hy, rfl, e1, e2, g', l1, hR'⟩ := ev_bin_ok (fun x y => x / y) (fun y => !(y == 0)) (fun h => by simp at h) (show ev_bin (fun x y => x / y) (fun y => !(y == 0)) 1 (pc, L, st, w, K, ce, sl) = some Ss from h2) hR
    have hne : ¬ y0 = 0 := by simpa using hy
    exact lv_idiv hx hb hd hne (ev_Go_eq (hk S' (List.mem_singleton.mpr rfl)) e1 e2 (ev_le_tr hle l1) hR')

def ev_irem : ev_O := (fun _ _ => some (.irem, 1, []), fun _ _ S => ev_bin (fun x y => x - x / y * y) (fun y => !(y == 0)) 1 S)
theorem ev_irem_ok : ev_Snd ev_irem := by
  intro p l e R s m args below meth c cc Q D A g0 P t S i n cs Ss X h1 hd hw h2 hk g ws H locs ls sc hle hR
  obtain ⟨hx, hb, hml, hown, hts, hK, hA, hN, hini, hcC, hcS, hf, hlc, hscr⟩ := X
  obtain ⟨pc, L, st, w, K, ce, sl⟩ := S
  have h1 : some ((.irem : Instr), (1 : Nat), ([] : List Cond)) = some (i, n, cs) := h1
  cases h1
  · obtain ⟨x0, y0, rest, S', rfl, hy, rfl, e1, e2, g', l1, hR'⟩ := ev_bin_ok (fun x y => x - x / y * y) (fun y => !(y == 0)) (fun h => by simp at h) (show ev_bin (fun x y => x - x / y * y) (fun y => !(y == 0)) 1 (pc, L, st, w, K, ce, sl) = some Ss from h2) hR
    have hne : ¬ y0 = 0 := by simpa using hy
    exact lv_irem hx hb hd hne (ev_Go_eq (hk S' (List.mem_singleton.mpr rfl)) e1 e2 (ev_le_tr hle l1) hR')

def ev_una (f : Int32 → Int32) (n : Nat) (r : Int × Int) (S : ev_S) : Option (List ev_S) := match S.2.2.1 with
  | x :: st =>
    if ev_isI x = true then
      (if x.1 = 0 then some [ev_adv S n ((0, (f (Int32.ofInt x.2)).toInt) :: st)]
       else some [ev_advK S n ((3, (S.2.2.2.2.1.length : Int)) :: st) r])
    else none
  | _ => none
theorem ev_una_ok (f : Int32 → Int32) (r : Int × Int) (hr : ∀ x, r.1 ≤ (f x).toInt ∧ (f x).toInt ≤ r.2) {n pc : Nat} {L : List (Nat × ev_A)} {st : List ev_A} {w : List ev_C} {K : ev_K} {ce sl : Nat} {Ss : List ev_S} (h : ev_una f n r (pc, L, st, w, K, ce, sl) = some Ss)
    {s : State} {A : Nat → Prop} {D : va_G} {nL : Nat} {g : ev_G} {ws : va_W} {H : Heap} {locs : List Loc} {ls : Array Slot} {sc : List Value} (hR : ev_R s A D nL g (pc, L, st, w, K, ce, sl) ws H locs ls sc) :
    ∃ (x : Int32) (rest : List Value) (S' : ev_S), sc = .int x :: rest ∧ Ss = [S'] ∧ S'.1 = pc + n ∧ S'.2.2.2.2.2 = (ce, sl) ∧ ∃ g', ev_le g g' ∧ ev_R s A D nL g' S' ws H locs ls (.int (f x) :: rest) := by
  unfold ev_una at h
  split at h
  · rename_i x st' e
    dsimp only at e
    subst e
    split at h
    · rename_i hi
      have hR0 := hR
      obtain ⟨hP, hD, hS, hW, hB, hL, hs⟩ := hR0
      obtain ⟨vx, sc2, rfl, hvx, hs2⟩ := ev_s_cons hs
      obtain ⟨x0, rfl⟩ := ev_vI hi hvx
      split at h
      · rename_i hz
        cases h
        obtain ⟨xt, xn⟩ := x
        have hz : xt = 0 := hz
        subst hz
        have ex : Int32.ofInt xn = x0 := Value.int.inj (Option.some.inj hvx)
        dsimp only
        rw [ex]
        exact ⟨x0, sc2, _, rfl, rfl, rfl, rfl, g, ev_le_rf g, hP, hD, hS, hW, hB, hL, ev_v0 g _, hs2⟩
      · cases h
        obtain ⟨g', l1, ⟨hP, hD, hS, hW, hB, hL, hs⟩, e1⟩ := ev_fresh hR (.int (f x0)) r (fun z hz => by cases hz; exact hr _)
        exact ⟨x0, sc2, _, rfl, rfl, rfl, rfl, g', l1, hP, hD, hS, hW, hB, hL, ev_v3 e1, hs.2⟩
    · cases h
  · cases h

def ev_ineg : ev_O := (fun _ _ => some (.ineg, 1, []), fun _ _ S => ev_una (fun x => -x) 1 ev_full S)
theorem ev_ineg_ok : ev_Snd ev_ineg := by
  intro p l e R s m args below meth c cc Q D A g0 P t S i n cs Ss X h1 hd hw h2 hk g ws H locs ls sc hle hR
  obtain ⟨hx, hb, hml, hown, hts, hK, hA, hN, hini, hcC, hcS, hf, hlc, hscr⟩ := X
  obtain ⟨pc, L, st, w, K, ce, sl⟩ := S
  have h1 : some ((.ineg : Instr), (1 : Nat), ([] : List Cond)) = some (i, n, cs) := h1
  cases h1
  · obtain ⟨x0, rest, S', rfl, rfl, e1, e2, g', l1, hR'⟩ := ev_una_ok (fun x => -x) ev_full (fun _ => ev_full_ok _) (show ev_una (fun x => -x) 1 ev_full (pc, L, st, w, K, ce, sl) = some Ss from h2) hR
    exact lv_ineg hx hb hd (ev_Go_eq (hk S' (List.mem_singleton.mpr rfl)) e1 e2 (ev_le_tr hle l1) hR')

def ev_i2b : ev_O := (fun _ _ => some (.i2b, 1, []), fun _ _ S => ev_una (fun x => x.toInt8.toInt32) 1 ev_full S)
theorem ev_i2b_ok : ev_Snd ev_i2b := by
  intro p l e R s m args below meth c cc Q D A g0 P t S i n cs Ss X h1 hd hw h2 hk g ws H locs ls sc hle hR
  obtain ⟨hx, hb, hml, hown, hts, hK, hA, hN, hini, hcC, hcS, hf, hlc, hscr⟩ := X
  obtain ⟨pc, L, st, w, K, ce, sl⟩ := S
  have h1 : some ((.i2b : Instr), (1 : Nat), ([] : List Cond)) = some (i, n, cs) := h1
  cases h1
  · obtain ⟨x0, rest, S', rfl, rfl, e1, e2, g', l1, hR'⟩ := ev_una_ok (fun x => x.toInt8.toInt32) ev_full (fun _ => ev_full_ok _) (show ev_una (fun x => x.toInt8.toInt32) 1 ev_full (pc, L, st, w, K, ce, sl) = some Ss from h2) hR
    exact lv_i2b hx hb hd rfl (ev_Go_eq (hk S' (List.mem_singleton.mpr rfl)) e1 e2 (ev_le_tr hle l1) hR')

def ev_i2l : ev_O := (fun _ _ => some (.i2l, 1, []), fun _ _ S => match S.2.2.1 with
  | x :: st => if ev_isI x = true then (if x.1 = 0 then some [ev_adv S 1 ((4, ((Int32.ofInt x.2).toInt64).toInt) :: st)] else some [ev_advK S 1 ((6, (S.2.2.2.2.1.length : Int)) :: st) ev_full]) else none
  | _ => none)
theorem ev_i2l_ok : ev_Snd ev_i2l := by
  intro p l e R s m args below meth c cc Q D A g0 P t S i n cs Ss X h1 hd hw h2 hk g ws H locs ls sc hle hR
  obtain ⟨hx, hb, hml, hown, hts, hK, hA, hN, hini, hcC, hcS, hf, hlc, hscr⟩ := X
  obtain ⟨pc, L, st, w, K, ce, sl⟩ := S
  have h1 : some ((.i2l : Instr), (1 : Nat), ([] : List Cond)) = some (i, n, cs) := h1
  cases h1
  unfold ev_i2l at h2
  dsimp only at h2
  split at h2
  · rename_i x st'
    split at h2
    · rename_i hi
      have hR0 := hR
      obtain ⟨hP, hD, hS, hW, hB, hL, hs⟩ := hR0
      obtain ⟨vx, sc2, rfl, hvx, hs2⟩ := ev_s_cons hs
      obtain ⟨x0, rfl⟩ := ev_vI hi hvx
      split at h2
      · rename_i hz
        cases h2
        obtain ⟨xt, xn⟩ := x
        have hz : xt = 0 := hz
        subst hz
        have ex : Int32.ofInt xn = x0 := Value.int.inj (Option.some.inj hvx)
        exact lv_i2l hx hb hd rfl (hk _ (List.mem_singleton.mpr rfl) g ws H locs ls _ hle ⟨hP, hD, hS, hW, hB, hL, by dsimp only; rw [ex]; exact ev_v4 g _, hs2⟩)
      · cases h2
        obtain ⟨g', l1, ⟨hP, hD, hS, hW, hB, hL, hs⟩, e1⟩ := ev_fresh hR (.long x0.toInt64) ev_full (fun z hz => by cases hz)
        exact lv_i2l hx hb hd rfl (hk _ (List.mem_singleton.mpr rfl) g' ws H locs ls _ (ev_le_tr hle l1) ⟨hP, hD, hS, hW, hB, hL, ev_v6 e1, hs.2⟩)
    · cases h2
  · cases h2
def ev_lcmp : ev_O := (fun _ _ => some (.lcmp, 1, []), fun _ _ S => match S.2.2.1 with
  | y :: x :: st => if ev_isL x = true ∧ ev_isL y = true then (if x.1 = 4 ∧ y.1 = 4 then some [ev_adv S 1 ((0, (lg_cmp (Int64.ofInt x.2) (Int64.ofInt y.2)).toInt) :: st)] else some [ev_advK S 1 ((3, (S.2.2.2.2.1.length : Int)) :: st) ev_full]) else none
  | _ => none)
theorem ev_lcmp_ok : ev_Snd ev_lcmp := by
  intro p l e R s m args below meth c cc Q D A g0 P t S i n cs Ss X h1 hd hw h2 hk g ws H locs ls sc hle hR
  obtain ⟨hx, hb, hml, hown, hts, hK, hA, hN, hini, hcC, hcS, hf, hlc, hscr⟩ := X
  obtain ⟨pc, L, st, w, K, ce, sl⟩ := S
  have h1 : some ((.lcmp : Instr), (1 : Nat), ([] : List Cond)) = some (i, n, cs) := h1
  cases h1
  unfold ev_lcmp at h2
  dsimp only at h2
  split at h2
  · rename_i y x st'
    split at h2
    · rename_i hi
      have hR0 := hR
      obtain ⟨hP, hD, hS, hW, hB, hL, hs⟩ := hR0
      obtain ⟨vy, sc1, rfl, hvy, hs1⟩ := ev_s_cons hs
      obtain ⟨vx, sc2, rfl, hvx, hs2⟩ := ev_s_cons hs1
      obtain ⟨y0, rfl⟩ := ev_vL hi.2 hvy
      obtain ⟨x0, rfl⟩ := ev_vL hi.1 hvx
      split at h2
      · rename_i hz
        cases h2
        obtain ⟨xt, xn⟩ := x
        obtain ⟨yt, yn⟩ := y
        obtain ⟨rfl, rfl⟩ := hz
        have ex : Int64.ofInt xn = x0 := Value.long.inj (Option.some.inj hvx)
        have ey : Int64.ofInt yn = y0 := Value.long.inj (Option.some.inj hvy)
        exact W.lcmp hx hb hd (hk _ (List.mem_singleton.mpr rfl) g ws H locs ls _ hle ⟨hP, hD, hS, hW, hB, hL, by dsimp only; rw [ex, ey]; exact ev_v0 g _, hs2⟩)
      · cases h2
        obtain ⟨g', l1, ⟨hP, hD, hS, hW, hB, hL, hs⟩, e1⟩ := ev_fresh hR (.int (lg_cmp x0 y0)) ev_full (fun z hz => ev_full_ok _)
        exact W.lcmp hx hb hd (hk _ (List.mem_singleton.mpr rfl) g' ws H locs ls _ (ev_le_tr hle l1) ⟨hP, hD, hS, hW, hB, hL, ev_v3 e1, hs.2.2⟩)
    · cases h2
  · cases h2
/-! the stack -/
def ev_dup : ev_O := (fun _ _ => some (.dup, 1, []), fun _ _ S => match S.2.2.1 with
  | x :: st => if ev_isL x = false then some [ev_adv S 1 (x :: x :: st)] else none
  | _ => none)
theorem ev_cat1 {g : ev_G} {a : ev_A} {v : Value} (hv : ev_v g a = some v) (h : ev_isL a = false) : v.category = 1 := by
  rcases ev_cat hv with ⟨h1, h2⟩ | ⟨h1, h2⟩
  · rw [h] at h1; cases h1
  · exact h2
theorem ev_cat2 {g : ev_G} {a : ev_A} {v : Value} (hv : ev_v g a = some v) (h : ev_isL a = true) : v.category = 2 := by
  rcases ev_cat hv with ⟨h1, h2⟩ | ⟨h1, h2⟩
  · exact h2
  · rw [h] at h1; cases h1
theorem ev_dup_ok : ev_Snd ev_dup := by
  intro p l e R s m args below meth c cc Q D A g0 P t S i n cs Ss X h1 hd hw h2 hk g ws H locs ls sc hle hR
  obtain ⟨hx, hb, hml, hown, hts, hK, hA, hN, hini, hcC, hcS, hf, hlc, hscr⟩ := X
  obtain ⟨pc, L, st, w, K, ce, sl⟩ := S
  have h1 : some ((.dup : Instr), (1 : Nat), ([] : List Cond)) = some (i, n, cs) := h1
  cases h1
  unfold ev_dup at h2
  dsimp only at h2
  split at h2
  · rename_i x st'
    split at h2
    · rename_i hi
      cases h2
      obtain ⟨hP, hD, hS, hW, hB, hL, hs⟩ := hR
      obtain ⟨vx, sc2, rfl, hvx, hs2⟩ := ev_s_cons hs
      exact lv_dup hx hb hd (ev_cat1 hvx hi) (hk _ (List.mem_singleton.mpr rfl) g ws H locs ls _ hle ⟨hP, hD, hS, hW, hB, hL, hvx, hvx, hs2⟩)
    · cases h2
  · cases h2
def ev_pop : ev_O := (fun _ _ => some (.pop, 1, []), fun _ _ S => match S.2.2.1 with
  | x :: st => if ev_isL x = false then some [ev_adv S 1 st] else none
  | _ => none)
theorem ev_pop_ok : ev_Snd ev_pop := by
  intro p l e R s m args below meth c cc Q D A g0 P t S i n cs Ss X h1 hd hw h2 hk g ws H locs ls sc hle hR
  obtain ⟨hx, hb, hml, hown, hts, hK, hA, hN, hini, hcC, hcS, hf, hlc, hscr⟩ := X
  obtain ⟨pc, L, st, w, K, ce, sl⟩ := S
  have h1 : some ((.pop : Instr), (1 : Nat), ([] : List Cond)) = some (i, n, cs) := h1
  cases h1
  unfold ev_pop at h2
  dsimp only at h2
  split at h2
  · rename_i x st'
    split at h2
    · rename_i hi
      cases h2
      obtain ⟨hP, hD, hS, hW, hB, hL, hs⟩ := hR
      obtain ⟨vx, sc2, rfl, hvx, hs2⟩ := ev_s_cons hs
      exact lv_pop hx hb hd (ev_cat1 hvx hi) (hk _ (List.mem_singleton.mpr rfl) g ws H locs ls _ hle ⟨hP, hD, hS, hW, hB, hL, hs2⟩)
    · cases h2
  · cases h2
def ev_dup2 : ev_O := (fun _ _ => some (.dup2, 1, []), fun _ _ S => match S.2.2.1 with
  | x :: y :: st => if ev_isL x = false ∧ ev_isL y = false then some [ev_adv S 1 (x :: y :: x :: y :: st)] else none
  | _ => none)
theorem ev_dup2_ok : ev_Snd ev_dup2 := by
  intro p l e R s m args below meth c cc Q D A g0 P t S i n cs Ss X h1 hd hw h2 hk g ws H locs ls sc hle hR
  obtain ⟨hx, hb, hml, hown, hts, hK, hA, hN, hini, hcC, hcS, hf, hlc, hscr⟩ := X
  obtain ⟨pc, L, st, w, K, ce, sl⟩ := S
  have h1 : some ((.dup2 : Instr), (1 : Nat), ([] : List Cond)) = some (i, n, cs) := h1
  cases h1
  unfold ev_dup2 at h2
  dsimp only at h2
  split at h2
  · rename_i x y st'
    split at h2
    · rename_i hi
      cases h2
      obtain ⟨hP, hD, hS, hW, hB, hL, hs⟩ := hR
      obtain ⟨vx, sc1, rfl, hvx, hs1⟩ := ev_s_cons hs
      obtain ⟨vy, sc2, rfl, hvy, hs2⟩ := ev_s_cons hs1
      exact lv_dup2_11 hx hb hd (ev_cat1 hvx hi.1) (ev_cat1 hvy hi.2) (hk _ (List.mem_singleton.mpr rfl) g ws H locs ls _ hle ⟨hP, hD, hS, hW, hB, hL, hvx, hvy, hvx, hvy, hs2⟩)
    · cases h2
  · cases h2
/-! iinc -/
def ev_iinc : ev_O := (fun _ t => some (.iinc t.1.toNat t.2.1, 3, []), fun P t S => match ev_look S.2.1 t.1.toNat with
  | some x => if ev_isI x = true ∧ t.1.toNat < P.2.2.2.2.1 then (if x.1 = 0 then some [(S.1 + 3, ev_st1 S.2.1 t.1.toNat (0, (Int32.ofInt x.2 + Int32.ofInt t.2.1).toInt), S.2.2)] else some [(S.1 + 3, ev_st1 S.2.1 t.1.toNat (3, (S.2.2.2.2.1.length : Int)), S.2.2.1, S.2.2.2.1, S.2.2.2.2.1 ++ [ev_full], S.2.2.2.2.2)]) else none
  | none => none)
theorem ev_iinc_ok : ev_Snd ev_iinc := by
  intro p l e R s m args below meth c cc Q D A g0 P t S i n cs Ss X h1 hd hw h2 hk g ws H locs ls sc hle hR
  obtain ⟨hx, hb, hml, hown, hts, hK, hA, hN, hini, hcC, hcS, hf, hlc, hscr⟩ := X
  obtain ⟨pc, L, st, w, K, ce, sl⟩ := S
  have h1 : some ((.iinc t.1.toNat t.2.1 : Instr), (3 : Nat), ([] : List Cond)) = some (i, n, cs) := h1
  cases h1
  unfold ev_iinc at h2
  dsimp only at h2
  split at h2
  · rename_i x ha
    split at h2
    · rename_i hi
      have hR0 := hR
      obtain ⟨hP, hD, hS, hW, hB, hL, hs⟩ := hR0
      obtain ⟨v, hv, hl⟩ := hL.2.2 _ (ev_look_mem ha)
      dsimp only at hv hl
      obtain ⟨x0, rfl⟩ := ev_vI hi.1 hv
      split at h2
      · rename_i hz
        cases h2
        obtain ⟨xt, xn⟩ := x
        have hz : xt = 0 := hz
        subst hz
        have ex : Int32.ofInt xn = x0 := Value.int.inj (Option.some.inj hv)
        obtain ⟨k, hk1⟩ := List.getElem?_of_mem (ev_conc_mem (ev_look_mem ha) hv)
        refine lv_iinc hx hb hd (ev_conc_has hL) hk1 rfl hi.2 rfl (fun ls' hl' => hk _ (List.mem_singleton.mpr rfl) g ws H locs ls' _ hle ⟨hP, hD, hS, hW, hB, ev_st1_ok hL ?_ hl', hs⟩)
        dsimp only
        rw [ex]
        exact ev_v0 g _
      · cases h2
        obtain ⟨g', l1, ⟨hP, hD, hS, hW, hB, hL, hs⟩, e1⟩ := ev_fresh hR (.int (x0 + Int32.ofInt t.2.1)) ev_full (fun z hz => ev_full_ok _)
        have hv := ev_v_le l1 hv
        obtain ⟨k, hk1⟩ := List.getElem?_of_mem (ev_conc_mem (ev_look_mem ha) hv)
        exact lv_iinc hx hb hd (ev_conc_has hL) hk1 rfl hi.2 rfl (fun ls' hl' => hk _ (List.mem_singleton.mpr rfl) g' ws H locs ls' _ (ev_le_tr hle l1) ⟨hP, hD, hS, hW, hB, ev_st1_ok hL (ev_v3 e1) hl', hs⟩)
    · cases h2
  · cases h2
/-! branches: 0 eq, 1 ne, 2 lt, 3 ge, 4 gt, 5 le -/
def ev_cmp (r : Nat) (x y : Int32) : Bool := match r with
  | 0 => decide (x = y)
  | 1 => !decide (x = y)
  | 2 => decide (x < y)
  | 3 => decide (y ≤ x)
  | 4 => decide (y < x)
  | _ => decide (x ≤ y)
def ev_neg (r : Nat) : Nat := match r with
  | 0 => 1
  | 1 => 0
  | 2 => 3
  | 3 => 2
  | 4 => 5
  | _ => 4
theorem ev_neg_ok (r : Nat) (x y : Int32) : ev_cmp (ev_neg r) x y = !ev_cmp r x y := by
  match r with
  | 0 => simp [ev_neg, ev_cmp]
  | 1 => simp [ev_neg, ev_cmp]
  | 2 => show decide (y ≤ x) = !decide (x < y); rw [← decide_not]; exact decide_eq_decide.mpr Int32.not_lt.symm
  | 3 => show decide (x < y) = !decide (y ≤ x); rw [← decide_not]; exact decide_eq_decide.mpr Int32.not_le.symm
  | 4 => show decide (x ≤ y) = !decide (y < x); rw [← decide_not]; exact decide_eq_decide.mpr Int32.not_lt.symm
  | n + 5 => show decide (y < x) = !decide (x ≤ y); rw [← decide_not]; exact decide_eq_decide.mpr Int32.not_le.symm
def ev_swp (r : Nat) : Nat := match r with
  | 0 => 0
  | 1 => 1
  | 2 => 4
  | 3 => 5
  | 4 => 2
  | _ => 3
theorem ev_swp_ok (r : Nat) (x y : Int32) : ev_cmp (ev_swp r) y x = ev_cmp r x y := by
  match r with
  | 0 => simp [ev_swp, ev_cmp, eq_comm]
  | 1 => simp [ev_swp, ev_cmp, eq_comm]
  | 2 => rfl
  | 3 => rfl
  | 4 => rfl
  | n + 5 => rfl
def ev_ref (r : Nat) (b : Int × Int) (c : Int) : Int × Int := match r with
  | 0 => (max b.1 c, min b.2 c)
  | 1 => (if b.1 = c then c + 1 else b.1, if b.2 = c then c - 1 else b.2)
  | 2 => (b.1, min b.2 (c - 1))
  | 3 => (max b.1 c, b.2)
  | 4 => (max b.1 (c + 1), b.2)
  | _ => (b.1, min b.2 c)
theorem ev_ref_ok {r : Nat} {b : Int × Int} {x y : Int32} (hb : b.1 ≤ x.toInt ∧ x.toInt ≤ b.2) (h : ev_cmp r x y = true) : (ev_ref r b y.toInt).1 ≤ x.toInt ∧ x.toInt ≤ (ev_ref r b y.toInt).2 := by
  match r, h with
  | 0, h =>
    have h : x = y := by simpa [ev_cmp] using h
    subst h
    simp only [ev_ref]
    omega
  | 1, h =>
    have h : ¬ x = y := by simpa [ev_cmp] using h
    have h : ¬ x.toInt = y.toInt := fun q => h (Int32.toInt_inj.mp q)
    simp only [ev_ref]
    constructor <;> split <;> omega
  | 2, h =>
    have h : x < y := by simpa [ev_cmp] using h
    rw [Int32.lt_iff_toInt_lt] at h
    simp only [ev_ref]
    omega
  | 3, h =>
    have h : y ≤ x := by simpa [ev_cmp] using h
    rw [Int32.le_iff_toInt_le] at h
    simp only [ev_ref]
    omega
  | 4, h =>
    have h : y < x := by simpa [ev_cmp] using h
    rw [Int32.lt_iff_toInt_lt] at h
    simp only [ev_ref]
    omega
  | n + 5, h =>
    have h : x ≤ y := by simpa [ev_cmp] using h
    rw [Int32.le_iff_toInt_le] at h
    simp only [ev_ref]
    omega
/-- the bounds under which 'x r y' holds: none if it can't -/
def ev_nar (r : Nat) (a : ev_A) (c : Int32) (K : ev_K) : List ev_K := match K[a.2.toNat]? with
  | some b => if (ev_ref r b c.toInt).1 ≤ (ev_ref r b c.toInt).2 then [K.set a.2.toNat (ev_ref r b c.toInt)] else []
  | none => [K]
def ev_br (r : Nat) (x y : ev_A) (K : ev_K) : List ev_K :=
  if x.1 = 0 ∧ y.1 = 0 then (if ev_cmp r (Int32.ofInt x.2) (Int32.ofInt y.2) = true then [K] else [])
  else if x.1 = 3 ∧ y.1 = 0 then ev_nar r x (Int32.ofInt y.2) K
  else if x.1 = 0 ∧ y.1 = 3 then ev_nar (ev_swp r) y (Int32.ofInt x.2) K
  else [K]
theorem ev_b_set {K : ev_K} {E : List Value} {k : Nat} {b : Int × Int} {x : Int32} (h : ev_b K E) (hx : E[k]? = some (.int x)) (hb : b.1 ≤ x.toInt ∧ x.toInt ≤ b.2) : ev_b (K.set k b) E := by
  refine ⟨by rw [List.length_set]; exact h.1, fun j q z h1 h2 => ?_⟩
  by_cases hj : j = k
  · subst hj
    have hl : j < (K.set j b).length := (List.getElem?_eq_some_iff.mp h1).1
    rw [List.length_set] at hl
    rw [List.getElem?_set_self hl] at h1
    cases h1
    rw [hx] at h2
    cases h2
    exact hb
  · rw [List.getElem?_set_ne (Ne.symm hj)] at h1
    exact h.2 j q z h1 h2
theorem ev_var {g : ev_G} {a : ev_A} {x : Int32} (h : a.1 = 3) (hv : ev_v g a = some (.int x)) : g.2.2[a.2.toNat]? = some (.int x) := by
  obtain ⟨t, n⟩ := a
  have h : t = 3 := h
  subst h
  simp only [ev_v] at hv
  split at hv
  · rename_i z hz
    cases hv
    exact hz
  · cases hv
theorem ev_nar_ok {r : Nat} {a : ev_A} {K : ev_K} {g : ev_G} {x y : Int32} (hB : ev_b K g.2.2) (ht : a.1 = 3) (hv : ev_v g a = some (.int x)) (h : ev_cmp r x y = true) : ∃ K' ∈ ev_nar r a y K, ev_b K' g.2.2 := by
  have hE := ev_var ht hv
  unfold ev_nar
  split
  · rename_i b hb
    have h1 := hB.2 _ b x hb hE
    have h2 := ev_ref_ok h1 h
    rw [if_pos (Int.le_trans h2.1 h2.2)]
    exact ⟨_, List.mem_singleton.mpr rfl, ev_b_set hB hE h2⟩
  · exact ⟨_, List.mem_singleton.mpr rfl, hB⟩
theorem ev_br_ok {r : Nat} {a b : ev_A} {K : ev_K} {g : ev_G} {x y : Int32} (hB : ev_b K g.2.2) (ha : ev_v g a = some (.int x)) (hb : ev_v g b = some (.int y)) (h : ev_cmp r x y = true) : ∃ K' ∈ ev_br r a b K, ev_b K' g.2.2 := by
  have cst : ∀ {z : ev_A} {n : Int32}, z.1 = 0 → ev_v g z = some (.int n) → Int32.ofInt z.2 = n := by
    intro z n hz hv
    obtain ⟨t, k⟩ := z
    have hz : t = 0 := hz
    subst hz
    exact Value.int.inj (Option.some.inj hv)
  unfold ev_br
  split
  · rename_i hz
    rw [cst hz.1 ha, cst hz.2 hb, if_pos h]
    exact ⟨_, List.mem_singleton.mpr rfl, hB⟩
  · split
    · rename_i hz
      rw [cst hz.2 hb]
      exact ev_nar_ok hB hz.1 ha h
    · split
      · rename_i hz
        rw [cst hz.1 ha]
        exact ev_nar_ok hB hz.2 hb (by rw [ev_swp_ok]; exact h)
      · exact ⟨_, List.mem_singleton.mpr rfl, hB⟩
def ev_setK (S : ev_S) (pc : Nat) (st : List ev_A) (K : ev_K) : ev_S := (pc, S.2.1, st, S.2.2.2.1, K, S.2.2.2.2.2)
def ev_fork (r : Nat) (x y : ev_A) (off : Int) (st : List ev_A) (S : ev_S) : Option (List ev_S) :=
  if 0 ≤ (S.1 : Int) + off then some ((ev_br r x y S.2.2.2.2.1).map (ev_setK S ((S.1 : Int) + off).toNat st) ++ (ev_br (ev_neg r) x y S.2.2.2.2.1).map (ev_setK S (S.1 + 3) st)) else none
def ev_cnd (r : Nat) : ClassFile.Cond := match r with
  | 0 => .eq
  | 1 => .ne
  | 2 => .lt
  | 3 => .ge
  | 4 => .gt
  | _ => .le
end
section
theorem ev_fork_ok {r : Nat} {a b : ev_A} {off : Int} {st' : List ev_A} {pc : Nat} {L : List (Nat × ev_A)} {st : List ev_A} {w : List ev_C} {K : ev_K} {ce sl : Nat} {Ss : List ev_S} (h : ev_fork r a b off st' (pc, L, st, w, K, ce, sl) = some Ss)
    {p : Program} {l : Launch} {e : Env} {R : Room} {s : State} {m : MethodId} {args : Array Value} {below : List Frame} {meth : Method} {c : Code} {Q : State → Prop} {nL : Nat} {D : va_G} {A : Nat → Prop} {g0 : ev_G} (hk : ∀ S' ∈ Ss, ev_Go p l e R s m args below meth c Q nL D A g0 S')
    {g : ev_G} {ws : va_W} {H : Heap} {locs : List Loc} {ls : Array Slot} {sc : List Value} (hle : ev_le g0 g) (hP : va_P D vwCl ws H) (hD : va_D A ws) (hS : va_S A s.heap H locs) (hW : ev_w s g w ws) (hB : ev_b K g.2.2) (hL : ev_l g L nL ls) (hs : ev_s g st' sc) {x y : Int32} (ha : ev_v g a = some (.int x)) (hb : ev_v g b = some (.int y)) :
    ∃ tgt : Nat, (pc : Int) + off = (tgt : Int) ∧ (ev_cmp r x y = true → W p l e R s m args below meth c H locs ce sl Q (F0 m tgt ls sc)) ∧ (ev_cmp r x y = false → W p l e R s m args below meth c H locs ce sl Q (F0 m (pc + 3) ls sc)) := by
  unfold ev_fork at h
  split at h
  · rename_i h0
    dsimp only at h0
    cases h
    refine ⟨((pc : Int) + off).toNat, by omega, fun hc => ?_, fun hc => ?_⟩
    · obtain ⟨K', h1, h2⟩ := ev_br_ok hB ha hb hc
      exact hk _ (List.mem_append_left _ (List.mem_map.mpr ⟨K', h1, rfl⟩)) g ws H locs ls sc hle ⟨hP, hD, hS, hW, h2, hL, hs⟩
    · obtain ⟨K', h1, h2⟩ := ev_br_ok (r := ev_neg r) hB ha hb (by rw [ev_neg_ok, hc]; rfl)
      exact hk _ (List.mem_append_right _ (List.mem_map.mpr ⟨K', h1, rfl⟩)) g ws H locs ls sc hle ⟨hP, hD, hS, hW, h2, hL, hs⟩
  · cases h

def ev_icmp_eq : ev_O := (fun _ t => some (.if_icmp .eq t.1, 3, []), fun _ t S => match S.2.2.1 with
  | y :: x :: st => if ev_isI x = true ∧ ev_isI y = true then ev_fork 0 x y t.1 st S else none
  | _ => none)
theorem ev_icmp_eq_ok : ev_Snd ev_icmp_eq := by
  intro p l e R s m args below meth c cc Q D A g0 P t S i n cs Ss X h1 hd hw h2 hk g ws H locs ls sc hle hR
  obtain ⟨hx, hb, hml, hown, hts, hK, hA, hN, hini, hcC, hcS, hf, hlc, hscr⟩ := X
  obtain ⟨pc, L, st, w, K, ce, sl⟩ := S
  have h1 : some ((.if_icmp .eq t.1 : Instr), (3 : Nat), ([] : List Cond)) = some (i, n, cs) := h1
  cases h1
  unfold ev_icmp_eq at h2
  dsimp only at h2
  split at h2
  · rename_i y x st'
    split at h2
    · rename_i hi
      obtain ⟨hP, hD, hS, hW, hB, hL, hs⟩ := hR
      obtain ⟨vy, sc1, rfl, hvy, hs1⟩ := ev_s_cons hs
      obtain ⟨vx, sc2, rfl, hvx, hs2⟩ := ev_s_cons hs1
      obtain ⟨y0, rfl⟩ := ev_vI hi.2 hvy
      obtain ⟨x0, rfl⟩ := ev_vI hi.1 hvx
      obtain ⟨tgt, ht, k1, k2⟩ := ev_fork_ok h2 hk hle hP hD hS hW hB hL hs2 hvx hvy
      exact lv_icmp_eq hx hb hd ht (fun q => k1 (by simpa [ev_cmp] using q)) (fun q => k2 (by simpa [ev_cmp] using q))
    · cases h2
  · cases h2
def ev_if_eq : ev_O := (fun _ t => some (.ifCond .eq t.1, 3, []), fun _ t S => match S.2.2.1 with
  | x :: st => if ev_isI x = true then ev_fork 0 x (0, 0) t.1 st S else none
  | _ => none)
theorem ev_if_eq_ok : ev_Snd ev_if_eq := by
  intro p l e R s m args below meth c cc Q D A g0 P t S i n cs Ss X h1 hd hw h2 hk g ws H locs ls sc hle hR
  obtain ⟨hx, hb, hml, hown, hts, hK, hA, hN, hini, hcC, hcS, hf, hlc, hscr⟩ := X
  obtain ⟨pc, L, st, w, K, ce, sl⟩ := S
  have h1 : some ((.ifCond .eq t.1 : Instr), (3 : Nat), ([] : List Cond)) = some (i, n, cs) := h1
  cases h1
  unfold ev_if_eq at h2
  dsimp only at h2
  split at h2
  · rename_i x st'
    split at h2
    · rename_i hi
      obtain ⟨hP, hD, hS, hW, hB, hL, hs⟩ := hR
      obtain ⟨vx, sc2, rfl, hvx, hs2⟩ := ev_s_cons hs
      obtain ⟨x0, rfl⟩ := ev_vI hi hvx
      obtain ⟨tgt, ht, k1, k2⟩ := ev_fork_ok h2 hk hle hP hD hS hW hB hL hs2 hvx (show ev_v g (0, 0) = some (.int 0) from rfl)
      exact lv_if_eq hx hb hd ht (fun q => k1 (by simpa [ev_cmp] using q)) (fun q => k2 (by simpa [ev_cmp] using q))
    · cases h2
  · cases h2

def ev_icmp_ne : ev_O := (fun _ t => some (.if_icmp .ne t.1, 3, []), fun _ t S => match S.2.2.1 with
  | y :: x :: st => if ev_isI x = true ∧ ev_isI y = true then ev_fork 1 x y t.1 st S else none
  | _ => none)
theorem ev_icmp_ne_ok : ev_Snd ev_icmp_ne := by
  intro p l e R s m args below meth c cc Q D A g0 P t S i n cs Ss X h1 hd hw h2 hk g ws H locs ls sc hle hR
  obtain ⟨hx, hb, hml, hown, hts, hK, hA, hN, hini, hcC, hcS, hf, hlc, hscr⟩ := X
  obtain ⟨pc, L, st, w, K, ce, sl⟩ := S
  have h1 : some ((.if_icmp .ne t.1 : Instr), (3 : Nat), ([] : List Cond)) = some (i, n, cs) := h1
  cases h1
  unfold ev_icmp_ne at h2
  dsimp only at h2
  split at h2
  · rename_i y x st'
    split at h2
    · rename_i hi
      obtain ⟨hP, hD, hS, hW, hB, hL, hs⟩ := hR
      obtain ⟨vy, sc1, rfl, hvy, hs1⟩ := ev_s_cons hs
      obtain ⟨vx, sc2, rfl, hvx, hs2⟩ := ev_s_cons hs1
      obtain ⟨y0, rfl⟩ := ev_vI hi.2 hvy
      obtain ⟨x0, rfl⟩ := ev_vI hi.1 hvx
      obtain ⟨tgt, ht, k1, k2⟩ := ev_fork_ok h2 hk hle hP hD hS hW hB hL hs2 hvx hvy
      exact lv_icmp_ne hx hb hd ht (fun q => k1 (by simpa [ev_cmp] using q)) (fun q => k2 (by simpa [ev_cmp] using q))
    · cases h2
  · cases h2
def ev_if_ne : ev_O := (fun _ t => some (.ifCond .ne t.1, 3, []), fun _ t S => match S.2.2.1 with
  | x :: st => if ev_isI x = true then ev_fork 1 x (0, 0) t.1 st S else none
  | _ => none)
theorem ev_if_ne_ok : ev_Snd ev_if_ne := by
  intro p l e R s m args below meth c cc Q D A g0 P t S i n cs Ss X h1 hd hw h2 hk g ws H locs ls sc hle hR
  obtain ⟨hx, hb, hml, hown, hts, hK, hA, hN, hini, hcC, hcS, hf, hlc, hscr⟩ := X
  obtain ⟨pc, L, st, w, K, ce, sl⟩ := S
  have h1 : some ((.ifCond .ne t.1 : Instr), (3 : Nat), ([] : List Cond)) = some (i, n, cs) := h1
  cases h1
  unfold ev_if_ne at h2
  dsimp only at h2
  split at h2
  · rename_i x st'
    split at h2
    · rename_i hi
      obtain ⟨hP, hD, hS, hW, hB, hL, hs⟩ := hR
      obtain ⟨vx, sc2, rfl, hvx, hs2⟩ := ev_s_cons hs
      obtain ⟨x0, rfl⟩ := ev_vI hi hvx
      obtain ⟨tgt, ht, k1, k2⟩ := ev_fork_ok h2 hk hle hP hD hS hW hB hL hs2 hvx (show ev_v g (0, 0) = some (.int 0) from rfl)
      exact lv_if_ne hx hb hd ht (fun q => k1 (by simpa [ev_cmp] using q)) (fun q => k2 (by simpa [ev_cmp] using q))
    · cases h2
  · cases h2

def ev_icmp_lt : ev_O := (fun _ t => some (.if_icmp .lt t.1, 3, []), fun _ t S => match S.2.2.1 with
  | y :: x :: st => if ev_isI x = true ∧ ev_isI y = true then ev_fork 2 x y t.1 st S else none
  | _ => none)
theorem ev_icmp_lt_ok : ev_Snd ev_icmp_lt := by
  intro p l e R s m args below meth c cc Q D A g0 P t S i n cs Ss X h1 hd hw h2 hk g ws H locs ls sc hle hR
  obtain ⟨hx, hb, hml, hown, hts, hK, hA, hN, hini, hcC, hcS, hf, hlc, hscr⟩ := X
  obtain ⟨pc, L, st, w, K, ce, sl⟩ := S
  have h1 : some ((.if_icmp .lt t.1 : Instr), (3 : Nat), ([] : List Cond)) = some (i, n, cs) := h1
  cases h1
  unfold ev_icmp_lt at h2
  dsimp only at h2
  split at h2
  · rename_i y x st'
    split at h2
    · rename_i hi
      obtain ⟨hP, hD, hS, hW, hB, hL, hs⟩ := hR
      obtain ⟨vy, sc1, rfl, hvy, hs1⟩ := ev_s_cons hs
      obtain ⟨vx, sc2, rfl, hvx, hs2⟩ := ev_s_cons hs1
      obtain ⟨y0, rfl⟩ := ev_vI hi.2 hvy
      obtain ⟨x0, rfl⟩ := ev_vI hi.1 hvx
      obtain ⟨tgt, ht, k1, k2⟩ := ev_fork_ok h2 hk hle hP hD hS hW hB hL hs2 hvx hvy
      exact lv_icmp_lt hx hb hd ht (fun q => k1 (by simpa [ev_cmp] using q)) (fun q => k2 (by simpa [ev_cmp] using q))
    · cases h2
  · cases h2
def ev_if_lt : ev_O := (fun _ t => some (.ifCond .lt t.1, 3, []), fun _ t S => match S.2.2.1 with
  | x :: st => if ev_isI x = true then ev_fork 2 x (0, 0) t.1 st S else none
  | _ => none)
theorem ev_if_lt_ok : ev_Snd ev_if_lt := by
  intro p l e R s m args below meth c cc Q D A g0 P t S i n cs Ss X h1 hd hw h2 hk g ws H locs ls sc hle hR
  obtain ⟨hx, hb, hml, hown, hts, hK, hA, hN, hini, hcC, hcS, hf, hlc, hscr⟩ := X
  obtain ⟨pc, L, st, w, K, ce, sl⟩ := S
  have h1 : some ((.ifCond .lt t.1 : Instr), (3 : Nat), ([] : List Cond)) = some (i, n, cs) := h1
  cases h1
  unfold ev_if_lt at h2
  dsimp only at h2
  split at h2
  · rename_i x st'
    split at h2
    · rename_i hi
      obtain ⟨hP, hD, hS, hW, hB, hL, hs⟩ := hR
      obtain ⟨vx, sc2, rfl, hvx, hs2⟩ := ev_s_cons hs
      obtain ⟨x0, rfl⟩ := ev_vI hi hvx
      obtain ⟨tgt, ht, k1, k2⟩ := ev_fork_ok h2 hk hle hP hD hS hW hB hL hs2 hvx (show ev_v g (0, 0) = some (.int 0) from rfl)
      exact lv_if_lt hx hb hd ht (fun q => k1 (by simpa [ev_cmp] using q)) (fun q => k2 (by simpa [ev_cmp] using q))
    · cases h2
  · cases h2

def ev_icmp_ge : ev_O := (fun _ t => some (.if_icmp .ge t.1, 3, []), fun _ t S => match S.2.2.1 with
  | y :: x :: st => if ev_isI x = true ∧ ev_isI y = true then ev_fork 3 x y t.1 st S else none
  | _ => none)
theorem ev_icmp_ge_ok : ev_Snd ev_icmp_ge := by
  intro p l e R s m args below meth c cc Q D A g0 P t S i n cs Ss X h1 hd hw h2 hk g ws H locs ls sc hle hR
  obtain ⟨hx, hb, hml, hown, hts, hK, hA, hN, hini, hcC, hcS, hf, hlc, hscr⟩ := X
  obtain ⟨pc, L, st, w, K, ce, sl⟩ := S
  have h1 : some ((.if_icmp .ge t.1 : Instr), (3 : Nat), ([] : List Cond)) = some (i, n, cs) := h1
  cases h1
  unfold ev_icmp_ge at h2
  dsimp only at h2
  split at h2
  · rename_i y x st'
    split at h2
    · rename_i hi
      obtain ⟨hP, hD, hS, hW, hB, hL, hs⟩ := hR
      obtain ⟨vy, sc1, rfl, hvy, hs1⟩ := ev_s_cons hs
      obtain ⟨vx, sc2, rfl, hvx, hs2⟩ := ev_s_cons hs1
      obtain ⟨y0, rfl⟩ := ev_vI hi.2 hvy
      obtain ⟨x0, rfl⟩ := ev_vI hi.1 hvx
      obtain ⟨tgt, ht, k1, k2⟩ := ev_fork_ok h2 hk hle hP hD hS hW hB hL hs2 hvx hvy
      exact lv_icmp_ge hx hb hd ht (fun q => k1 (by simpa [ev_cmp] using q)) (fun q => k2 (by simpa [ev_cmp] using q))
    · cases h2
  · cases h2
def ev_if_ge : ev_O := (fun _ t => some (.ifCond .ge t.1, 3, []), fun _ t S => match S.2.2.1 with
  | x :: st => if ev_isI x = true then ev_fork 3 x (0, 0) t.1 st S else none
  | _ => none)
theorem ev_if_ge_ok : ev_Snd ev_if_ge := by
  intro p l e R s m args below meth c cc Q D A g0 P t S i n cs Ss X h1 hd hw h2 hk g ws H locs ls sc hle hR
  obtain ⟨hx, hb, hml, hown, hts, hK, hA, hN, hini, hcC, hcS, hf, hlc, hscr⟩ := X
  obtain ⟨pc, L, st, w, K, ce, sl⟩ := S
  have h1 : some ((.ifCond .ge t.1 : Instr), (3 : Nat), ([] : List Cond)) = some (i, n, cs) := h1
  cases h1
  unfold ev_if_ge at h2
  dsimp only at h2
  split at h2
  · rename_i x st'
    split at h2
    · rename_i hi
      obtain ⟨hP, hD, hS, hW, hB, hL, hs⟩ := hR
      obtain ⟨vx, sc2, rfl, hvx, hs2⟩ := ev_s_cons hs
      obtain ⟨x0, rfl⟩ := ev_vI hi hvx
      obtain ⟨tgt, ht, k1, k2⟩ := ev_fork_ok h2 hk hle hP hD hS hW hB hL hs2 hvx (show ev_v g (0, 0) = some (.int 0) from rfl)
      exact lv_if_ge hx hb hd ht (fun q => k1 (by simpa [ev_cmp] using q)) (fun q => k2 (by simpa [ev_cmp] using q))
    · cases h2
  · cases h2

def ev_icmp_gt : ev_O := (fun _ t => some (.if_icmp .gt t.1, 3, []), fun _ t S => match S.2.2.1 with
  | y :: x :: st => if ev_isI x = true ∧ ev_isI y = true then ev_fork 4 x y t.1 st S else none
  | _ => none)
theorem ev_icmp_gt_ok : ev_Snd ev_icmp_gt := by
  intro p l e R s m args below meth c cc Q D A g0 P t S i n cs Ss X h1 hd hw h2 hk g ws H locs ls sc hle hR
  obtain ⟨hx, hb, hml, hown, hts, hK, hA, hN, hini, hcC, hcS, hf, hlc, hscr⟩ := X
  obtain ⟨pc, L, st, w, K, ce, sl⟩ := S
  have h1 : some ((.if_icmp .gt t.1 : Instr), (3 : Nat), ([] : List Cond)) = some (i, n, cs) := h1
  cases h1
  unfold ev_icmp_gt at h2
  dsimp only at h2
  split at h2
  · rename_i y x st'
    split at h2
    · rename_i hi
      obtain ⟨hP, hD, hS, hW, hB, hL, hs⟩ := hR
      obtain ⟨vy, sc1, rfl, hvy, hs1⟩ := ev_s_cons hs
      obtain ⟨vx, sc2, rfl, hvx, hs2⟩ := ev_s_cons hs1
      obtain ⟨y0, rfl⟩ := ev_vI hi.2 hvy
      obtain ⟨x0, rfl⟩ := ev_vI hi.1 hvx
      obtain ⟨tgt, ht, k1, k2⟩ := ev_fork_ok h2 hk hle hP hD hS hW hB hL hs2 hvx hvy
      exact lv_icmp_gt hx hb hd ht (fun q => k1 (by simpa [ev_cmp] using q)) (fun q => k2 (by simpa [ev_cmp] using q))
    · cases h2
  · cases h2
def ev_if_gt : ev_O := (fun _ t => some (.ifCond .gt t.1, 3, []), fun _ t S => match S.2.2.1 with
  | x :: st => if ev_isI x = true then ev_fork 4 x (0, 0) t.1 st S else none
  | _ => none)
theorem ev_if_gt_ok : ev_Snd ev_if_gt := by
  intro p l e R s m args below meth c cc Q D A g0 P t S i n cs Ss X h1 hd hw h2 hk g ws H locs ls sc hle hR
  obtain ⟨hx, hb, hml, hown, hts, hK, hA, hN, hini, hcC, hcS, hf, hlc, hscr⟩ := X
  obtain ⟨pc, L, st, w, K, ce, sl⟩ := S
  have h1 : some ((.ifCond .gt t.1 : Instr), (3 : Nat), ([] : List Cond)) = some (i, n, cs) := h1
  cases h1
  unfold ev_if_gt at h2
  dsimp only at h2
  split at h2
  · rename_i x st'
    split at h2
    · rename_i hi
      obtain ⟨hP, hD, hS, hW, hB, hL, hs⟩ := hR
      obtain ⟨vx, sc2, rfl, hvx, hs2⟩ := ev_s_cons hs
      obtain ⟨x0, rfl⟩ := ev_vI hi hvx
      obtain ⟨tgt, ht, k1, k2⟩ := ev_fork_ok h2 hk hle hP hD hS hW hB hL hs2 hvx (show ev_v g (0, 0) = some (.int 0) from rfl)
      exact lv_if_gt hx hb hd ht (fun q => k1 (by simpa [ev_cmp] using q)) (fun q => k2 (by simpa [ev_cmp] using q))
    · cases h2
  · cases h2

def ev_icmp_le : ev_O := (fun _ t => some (.if_icmp .le t.1, 3, []), fun _ t S => match S.2.2.1 with
  | y :: x :: st => if ev_isI x = true ∧ ev_isI y = true then ev_fork 5 x y t.1 st S else none
  | _ => none)
theorem ev_icmp_le_ok : ev_Snd ev_icmp_le := by
  intro p l e R s m args below meth c cc Q D A g0 P t S i n cs Ss X h1 hd hw h2 hk g ws H locs ls sc hle hR
  obtain ⟨hx, hb, hml, hown, hts, hK, hA, hN, hini, hcC, hcS, hf, hlc, hscr⟩ := X
  obtain ⟨pc, L, st, w, K, ce, sl⟩ := S
  have h1 : some ((.if_icmp .le t.1 : Instr), (3 : Nat), ([] : List Cond)) = some (i, n, cs) := h1
  cases h1
  unfold ev_icmp_le at h2
  dsimp only at h2
  split at h2
  · rename_i y x st'
    split at h2
    · rename_i hi
      obtain ⟨hP, hD, hS, hW, hB, hL, hs⟩ := hR
      obtain ⟨vy, sc1, rfl, hvy, hs1⟩ := ev_s_cons hs
      obtain ⟨vx, sc2, rfl, hvx, hs2⟩ := ev_s_cons hs1
      obtain ⟨y0, rfl⟩ := ev_vI hi.2 hvy
      obtain ⟨x0, rfl⟩ := ev_vI hi.1 hvx
      obtain ⟨tgt, ht, k1, k2⟩ := ev_fork_ok h2 hk hle hP hD hS hW hB hL hs2 hvx hvy
      exact lv_icmp_le hx hb hd ht (fun q => k1 (by simpa [ev_cmp] using q)) (fun q => k2 (by simpa [ev_cmp] using q))
    · cases h2
  · cases h2
def ev_if_le : ev_O := (fun _ t => some (.ifCond .le t.1, 3, []), fun _ t S => match S.2.2.1 with
  | x :: st => if ev_isI x = true then ev_fork 5 x (0, 0) t.1 st S else none
  | _ => none)
theorem ev_if_le_ok : ev_Snd ev_if_le := by
  intro p l e R s m args below meth c cc Q D A g0 P t S i n cs Ss X h1 hd hw h2 hk g ws H locs ls sc hle hR
  obtain ⟨hx, hb, hml, hown, hts, hK, hA, hN, hini, hcC, hcS, hf, hlc, hscr⟩ := X
  obtain ⟨pc, L, st, w, K, ce, sl⟩ := S
  have h1 : some ((.ifCond .le t.1 : Instr), (3 : Nat), ([] : List Cond)) = some (i, n, cs) := h1
  cases h1
  unfold ev_if_le at h2
  dsimp only at h2
  split at h2
  · rename_i x st'
    split at h2
    · rename_i hi
      obtain ⟨hP, hD, hS, hW, hB, hL, hs⟩ := hR
      obtain ⟨vx, sc2, rfl, hvx, hs2⟩ := ev_s_cons hs
      obtain ⟨x0, rfl⟩ := ev_vI hi hvx
      obtain ⟨tgt, ht, k1, k2⟩ := ev_fork_ok h2 hk hle hP hD hS hW hB hL hs2 hvx (show ev_v g (0, 0) = some (.int 0) from rfl)
      exact lv_if_le hx hb hd ht (fun q => k1 (by simpa [ev_cmp] using q)) (fun q => k2 (by simpa [ev_cmp] using q))
    · cases h2
  · cases h2

def ev_goto : ev_O := (fun _ t => some (.goto t.1, 3, []), fun _ t S => if 0 ≤ (S.1 : Int) + t.1 then some [(((S.1 : Int) + t.1).toNat, S.2)] else none)
theorem ev_goto_ok : ev_Snd ev_goto := by
  intro p l e R s m args below meth c cc Q D A g0 P t S i n cs Ss X h1 hd hw h2 hk g ws H locs ls sc hle hR
  obtain ⟨hx, hb, hml, hown, hts, hK, hA, hN, hini, hcC, hcS, hf, hlc, hscr⟩ := X
  obtain ⟨pc, L, st, w, K, ce, sl⟩ := S
  have h1 : some ((.goto t.1 : Instr), (3 : Nat), ([] : List Cond)) = some (i, n, cs) := h1
  cases h1
  unfold ev_goto at h2
  dsimp only at h2
  split at h2
  · rename_i h0
    cases h2
    exact lv_goto (tgt := ((pc : Int) + t.1).toNat) hx hb hd (by omega) (hk _ (List.mem_singleton.mpr rfl) g ws H locs ls sc hle hR)
  · cases h2
/-! a switch over a row of numbers -/
def ev_swV (b : Int × Int) (lo hi : Int) (offs : List Int) (dflt : Int) (k : Nat) (st : List ev_A) (S : ev_S) : List ev_S :=
  (List.range offs.length).filterMap (fun (j : Nat) => if b.1 ≤ lo + (j : Int) ∧ lo + (j : Int) ≤ b.2 then some (ev_setK S ((S.1 : Int) + offs.getD j 0).toNat st (S.2.2.2.2.1.set k (lo + (j : Int), lo + (j : Int)))) else none)
  ++ [ev_setK S ((S.1 : Int) + dflt).toNat st (S.2.2.2.2.1.set k (b.1, min b.2 (lo - 1))), ev_setK S ((S.1 : Int) + dflt).toNat st (S.2.2.2.2.1.set k (max b.1 (hi + 1), b.2))].filter (fun S' => match S'.2.2.2.2.1[k]? with
    | some q => decide (q.1 ≤ q.2)
    | none => true)
def ev_sw : ev_O := (fun _ t => match t.2.2.2 with
  | len :: offs => some (.tableswitch t.1 t.2.1 t.2.2.1 offs.toArray, len.toNat, [])
  | [] => none, fun _ t S => match t.2.2.2, S.2.2.1 with
  | _ :: offs, x :: st =>
    if ev_isI x = true ∧ t.2.2.1 - t.2.1 + 1 = (offs.length : Int) ∧ 0 ≤ (S.1 : Int) + t.1 ∧ offs.all (fun o => decide (0 ≤ (S.1 : Int) + o)) = true then
      (if x.1 = 0 then
        (if (Int32.ofInt x.2).toInt < t.2.1 ∨ t.2.2.1 < (Int32.ofInt x.2).toInt then some [((((S.1 : Int) + t.1).toNat), S.2.1, st, S.2.2.2)] else some [((((S.1 : Int) + offs.getD ((Int32.ofInt x.2).toInt - t.2.1).toNat 0).toNat), S.2.1, st, S.2.2.2)])
       else match S.2.2.2.2.1[x.2.toNat]? with
        | some b => some (ev_swV b t.2.1 t.2.2.1 offs t.1 x.2.toNat st S)
        | none => none)
    else none
  | _, _ => none)
theorem ev_sw_ok : ev_Snd ev_sw := by
  intro p l e R s m args below meth c cc Q D A g0 P t S i n cs Ss X h1 hd hw h2 hk g ws H locs ls sc hle hR
  obtain ⟨hx, hb, hml, hown, hts, hK, hA, hN, hini, hcC, hcS, hf, hlc, hscr⟩ := X
  obtain ⟨pc, L, st, w, K, ce, sl⟩ := S
  obtain ⟨dflt, lo, hi, offs0⟩ := t
  cases offs0 with
  | nil => cases h1
  | cons len offs =>
    have h1 : some ((.tableswitch dflt lo hi offs.toArray : Instr), len.toNat, ([] : List Cond)) = some (i, n, cs) := h1
    cases h1
    unfold ev_sw at h2
    dsimp only at h2
    cases st with
    | nil => cases h2
    | cons x st' =>
      dsimp only at h2
      split at h2
      · rename_i hi0
        obtain ⟨hI, hlen, hd0, hall⟩ := hi0
        have hin : ∀ j : Nat, j < offs.length → ∃ o : Int, offs[j]? = some o ∧ offs.getD j 0 = o ∧ 0 ≤ (pc : Int) + o := by
          intro j hj
          refine ⟨offs[j], List.getElem?_eq_getElem hj, by simp [List.getD, List.getElem?_eq_getElem hj], ?_⟩
          have := List.all_eq_true.mp hall offs[j] (List.getElem_mem hj)
          simpa using this
        obtain ⟨hP, hD, hS, hW, hB, hL, hs⟩ := hR
        obtain ⟨vx, sc2, rfl, hvx, hs2⟩ := ev_s_cons hs
        obtain ⟨x0, rfl⟩ := ev_vI hI hvx
        have hin2 : ¬ x0.toInt < lo → ¬ hi < x0.toInt → ∃ o : Int, offs.toArray[(x0.toInt - lo).toNat]? = some o ∧ offs.getD (x0.toInt - lo).toNat 0 = o ∧ (pc : Int) + o = (((pc : Int) + o).toNat : Int) := by
          intro q1 q2
          obtain ⟨o, a1, a2, a3⟩ := hin (x0.toInt - lo).toNat (by omega)
          exact ⟨o, by simpa using a1, a2, by omega⟩
        split at h2
        · rename_i hz
          obtain ⟨xt, xn⟩ := x
          have hz : xt = 0 := hz
          subst hz
          have ex : Int32.ofInt xn = x0 := Value.int.inj (Option.some.inj hvx)
          dsimp only at h2
          rw [ex] at h2
          split at h2
          · rename_i hq
            cases h2
            exact lv_tableOut (tgt := ((pc : Int) + dflt).toNat) hx hb hd hq (by omega) (hk _ (List.mem_singleton.mpr rfl) g ws H locs ls sc2 hle ⟨hP, hD, hS, hW, hB, hL, hs2⟩)
          · rename_i hq
            cases h2
            have q1 : ¬ x0.toInt < lo := fun z => hq (Or.inl z)
            have q2 : ¬ hi < x0.toInt := fun z => hq (Or.inr z)
            obtain ⟨o, a1, a2, a3⟩ := hin2 q1 q2
            exact lv_tableIn hx hb hd q1 q2 a1 a3 (by
              have := hk _ (List.mem_singleton.mpr rfl) g ws H locs ls sc2 hle ⟨hP, hD, hS, hW, hB, hL, hs2⟩
              dsimp only at this
              rw [a2] at this
              exact this)
        · rename_i hz
          have h3 : x.1 = 3 := by
            simp only [ev_isI, Bool.or_eq_true, beq_iff_eq] at hI
            rcases hI with q | q
            · exact absurd q hz
            · exact q
          split at h2
          · rename_i b hb0
            cases h2
            have hE := ev_var h3 hvx
            have hbd := hB.2 _ b x0 hb0 hE
            have hkl : x.2.toNat < K.length := (List.getElem?_eq_some_iff.mp hb0).1
            by_cases q1 : x0.toInt < lo
            · refine lv_tableOut (tgt := ((pc : Int) + dflt).toNat) hx hb hd (Or.inl q1) (by omega) (hk (ev_setK (pc, L, x :: st', w, K, ce, sl) ((pc : Int) + dflt).toNat st' (K.set x.2.toNat (b.1, min b.2 (lo - 1)))) (List.mem_append_right _ (List.mem_filter.mpr ⟨List.mem_cons_self, ?_⟩)) g ws H locs ls sc2 hle ⟨hP, hD, hS, hW, ev_b_set hB hE (by dsimp only; omega), hL, hs2⟩)
              simp only [ev_setK, List.getElem?_set_self hkl, decide_eq_true_eq]
              omega
            · by_cases q2 : hi < x0.toInt
              · refine lv_tableOut (tgt := ((pc : Int) + dflt).toNat) hx hb hd (Or.inr q2) (by omega) (hk (ev_setK (pc, L, x :: st', w, K, ce, sl) ((pc : Int) + dflt).toNat st' (K.set x.2.toNat (max b.1 (hi + 1), b.2))) (List.mem_append_right _ (List.mem_filter.mpr ⟨List.mem_cons_of_mem _ List.mem_cons_self, ?_⟩)) g ws H locs ls sc2 hle ⟨hP, hD, hS, hW, ev_b_set hB hE (by dsimp only; omega), hL, hs2⟩)
                simp only [ev_setK, List.getElem?_set_self hkl, decide_eq_true_eq]
                omega
              · obtain ⟨o, a1, a2, a3⟩ := hin2 q1 q2
                have hj : lo + ((x0.toInt - lo).toNat : Int) = x0.toInt := by omega
                have hmem : ev_setK (pc, L, x :: st', w, K, ce, sl) ((pc : Int) + o).toNat st' (K.set x.2.toNat (x0.toInt, x0.toInt)) ∈ ev_swV b lo hi offs dflt x.2.toNat st' (pc, L, x :: st', w, K, ce, sl) := by
                  refine List.mem_append_left _ (List.mem_filterMap.mpr ⟨(x0.toInt - lo).toNat, List.mem_range.mpr (by omega), ?_⟩)
                  rw [hj, if_pos hbd, a2]
                exact lv_tableIn hx hb hd q1 q2 a1 a3 (hk _ hmem g ws H locs ls sc2 hle ⟨hP, hD, hS, hW, ev_b_set hB hE (by dsimp only; omega), hL, hs2⟩)
          · cases h2
      · cases h2
end
section
/-! the words of the classes' fields among the tables' -/
theorem lw_good_ps {ws : List Cond} (ps : List Nat) (hp : ws = ps.filterMap (fun i => lw_tbl[i]?)) (h : ws.all goodWord = true) : ∀ w ∈ ws, w ∈ lw_good := by
  intro w hw
  have h1 := List.all_eq_true.mp h w hw
  rw [hp] at hw
  obtain ⟨i, -, hi⟩ := List.mem_filterMap.mp hw
  exact lw_good_at i hi h1
set_option maxRecDepth 100000 in
theorem ev_in0 : ∀ w ∈ u_ws RX0 TX0 5, w ∈ lw_good := lw_good_ps [374, 376, 378, 380, 382] (by decide +kernel) (by decide +kernel)
set_option maxRecDepth 100000 in
theorem ev_in1 : ∀ w ∈ u_ws RX1 TX1 3, w ∈ lw_good := lw_good_ps [435, 437, 439] (by decide +kernel) (by decide +kernel)
set_option maxRecDepth 100000 in
theorem ev_in2 : ∀ w ∈ u_ws RX2 TX2 4, w ∈ lw_good := lw_good_ps [322, 324, 326, 328] (by decide +kernel) (by decide +kernel)
set_option maxRecDepth 100000 in
theorem ev_in3 : ∀ w ∈ u_ws RX3 TX3 5, w ∈ lw_good := lw_good_ps [347, 349, 351, 353, 355] (by decide +kernel) (by decide +kernel)
set_option maxRecDepth 100000 in
theorem ev_in4 : ∀ w ∈ u_ws RX4 TX4 14, w ∈ lw_good := lw_good_ps [165, 167, 169, 171, 173, 175, 177, 179, 181, 183, 185, 187, 189, 191] (by decide +kernel) (by decide +kernel)
set_option maxRecDepth 100000 in
theorem ev_in5 : ∀ w ∈ u_ws RX5 TX5 3, w ∈ lw_good := lw_good_ps [416, 418, 420] (by decide +kernel) (by decide +kernel)
set_option maxRecDepth 100000 in
theorem ev_in6 : ∀ w ∈ u_ws RX6 TX6 3, w ∈ lw_good := lw_good_ps [396, 398, 400] (by decide +kernel) (by decide +kernel)
set_option maxRecDepth 100000 in
theorem ev_in7 : ∀ w ∈ u_ws RX7 TX7 19, w ∈ lw_good := lw_good_ps [267, 269, 271, 273, 275, 277, 279, 281, 283, 285, 287, 289, 291, 293, 295, 297, 299, 301, 303] (by decide +kernel) (by decide +kernel)
set_option maxRecDepth 100000 in
theorem ev_in8 : ∀ w ∈ u_ws RX8 TX8 15, w ∈ lw_good := lw_good_ps [457, 459, 461, 463, 465, 467, 469, 471, 473, 475, 477, 479, 481, 483, 485] (by decide +kernel) (by decide +kernel)
set_option maxRecDepth 100000 in
theorem ev_in9 : ∀ w ∈ u_ws RX9 TX9 35, w ∈ lw_good := lw_good_ps [1338, 1340, 1342, 1344, 1346, 1348, 1350, 1352, 1354, 1356, 1358, 1360, 1362, 1364, 1366, 1368, 1370, 1372, 1374, 1376, 1378, 1380, 1382, 1384, 1386, 1388, 1390, 1392, 1394, 1396, 1398, 1400, 1402, 1404, 1406] (by decide +kernel) (by decide +kernel)
def ev_tyl : List (Nat → FieldType) := [tyX0, tyX1, tyX2, tyX3, tyX4, tyX5, tyX6, tyX7, tyX8, tyX9]
/-- what is known of a class by its number -/
def ev_cok (r : vw_C) (ty : Nat → FieldType) : Prop := (∀ w ∈ u_ws r.1 r.2.1 r.2.2, w ∈ lw_good) ∧ (∀ k, k < r.2.2 → parseFieldDescriptor (r.2.1 k).2.2.1 = some (ty k)) ∧ (∀ a, a < r.2.2 → ∀ b, b < r.2.2 → a ≠ b → (r.2.1 a).2.1 ≠ (r.2.1 b).2.1) ∧ r.2.2 < 100
theorem ev_cls : ∀ (ci : Nat) (r : vw_C) (ty : Nat → FieldType), vwCl[ci]? = some r → ev_tyl[ci]? = some ty → ev_cok r ty
  | 0, r, ty, h1, h2 => by cases h1; cases h2; exact ⟨ev_in0, tyX0_ok, nmX0, by decide⟩
  | 1, r, ty, h1, h2 => by cases h1; cases h2; exact ⟨ev_in1, tyX1_ok, nmX1, by decide⟩
  | 2, r, ty, h1, h2 => by cases h1; cases h2; exact ⟨ev_in2, tyX2_ok, nmX2, by decide⟩
  | 3, r, ty, h1, h2 => by cases h1; cases h2; exact ⟨ev_in3, tyX3_ok, nmX3, by decide⟩
  | 4, r, ty, h1, h2 => by cases h1; cases h2; exact ⟨ev_in4, tyX4_ok, nmX4, by decide⟩
  | 5, r, ty, h1, h2 => by cases h1; cases h2; exact ⟨ev_in5, tyX5_ok, nmX5, by decide⟩
  | 6, r, ty, h1, h2 => by cases h1; cases h2; exact ⟨ev_in6, tyX6_ok, nmX6, by decide⟩
  | 7, r, ty, h1, h2 => by cases h1; cases h2; exact ⟨ev_in7, tyX7_ok, nmX7, by decide⟩
  | 8, r, ty, h1, h2 => by cases h1; cases h2; exact ⟨ev_in8, tyX8_ok, nmX8, by decide⟩
  | 9, r, ty, h1, h2 => by cases h1; cases h2; exact ⟨ev_in9, tyX9_ok, nmX9, by decide⟩
  | n + 10, r, ty, h1, h2 => by cases h1
end
section
/-! cells -/
theorem ev_ref1 {s : State} {g : ev_G} {w : List ev_C} {ws : va_W} {a : ev_A} {v : Value} {cl : ev_C} (hW : ev_w s g w ws) (ht : a.1 = 1) (hv : ev_v g a = some v) (hc : w[a.2.toNat]? = some cl) : ∃ ad x, v = .ref ad ∧ ws[a.2.toNat]? = some (ad, x) ∧ ev_c s g cl x := by
  obtain ⟨t, n⟩ := a
  have ht : t = 1 := ht
  subst ht
  simp only [ev_v] at hv
  cases hq : g.1[n.toNat]? with
  | none => simp [hq] at hv
  | some ad =>
    simp only [hq, Option.map_some] at hv
    cases hv
    rw [hW.1, List.getElem?_map] at hq
    cases hz : ws[n.toNat]? with
    | none => simp [hz] at hq
    | some z =>
      simp only [hz, Option.map_some] at hq
      cases hq
      exact ⟨z.1, z.2, rfl, rfl, hW.2.2 _ cl z hc hz⟩
theorem ev_w_set {s : State} {g : ev_G} {w : List ev_C} {ws : va_W} {q ad : Nat} {x0 x : va_E} {cl : ev_C} (hW : ev_w s g w ws) (hq : ws[q]? = some (ad, x0)) (hc : ev_c s g cl x) : ev_w s g (w.set q cl) (ws.set q (ad, x)) := by
  have hl := (List.getElem?_eq_some_iff.mp hq).1
  refine ⟨?_, by rw [List.length_set, List.length_set]; exact hW.2.1, fun k c z h1 h2 => ?_⟩
  · rw [hW.1]
    apply List.ext_getElem?
    intro j
    rw [List.getElem?_map, List.getElem?_map]
    by_cases hj : j = q
    · subst hj
      rw [List.getElem?_set_self hl, hq]
      rfl
    · rw [List.getElem?_set_ne (Ne.symm hj)]
  · by_cases hk : k = q
    · subst hk
      have hl2 : k < w.length := by rw [hW.2.1]; exact hl
      rw [List.getElem?_set_self hl2] at h1
      rw [List.getElem?_set_self hl] at h2
      cases h1
      cases h2
      exact hc
    · rw [List.getElem?_set_ne (Ne.symm hk)] at h1 h2
      exact hW.2.2 k c z h1 h2
theorem ev_w_push {s : State} {g : ev_G} {w : List ev_C} {ws : va_W} {ad : Nat} {x : va_E} {cl : ev_C} (hW : ev_w s g w ws) (hc : ev_c s (g.1 ++ [ad], g.2.1, g.2.2) cl x) : ev_le g (g.1 ++ [ad], g.2.1, g.2.2) ∧ ev_w s (g.1 ++ [ad], g.2.1, g.2.2) (w ++ [cl]) (ws ++ [(ad, x)]) ∧ ev_v (g.1 ++ [ad], g.2.1, g.2.2) (1, (w.length : Int)) = some (.ref ad) := by
  have hle : ev_le g (g.1 ++ [ad], g.2.1, g.2.2) := ⟨⟨[ad], rfl⟩, rfl, ⟨[], by simp⟩⟩
  have hlg : g.1.length = w.length := by rw [hW.1, List.length_map, hW.2.1]
  refine ⟨hle, ⟨by rw [List.map_append]; dsimp only; rw [hW.1]; rfl, by rw [List.length_append, List.length_append, hW.2.1]; rfl, fun k c z h1 h2 => ?_⟩, ?_⟩
  · by_cases hk : k < w.length
    · rw [List.getElem?_append_left hk] at h1
      rw [List.getElem?_append_left (by rw [← hW.2.1]; exact hk)] at h2
      exact ev_c_le hle (hW.2.2 k c z h1 h2)
    · rw [List.getElem?_append_right (by omega)] at h1
      rw [List.getElem?_append_right (by have := hW.2.1; omega)] at h2
      have hz : k - w.length < 1 := (List.getElem?_eq_some_iff.mp h1).1
      have h3 : k - w.length = 0 := by omega
      have h4 : k - ws.length = 0 := by have := hW.2.1; omega
      rw [h3] at h1
      rw [h4] at h2
      cases h1
      cases h2
      exact hc
  · simp [ev_v, ← hlg]
/-! fields -/
def ev_fc (own : String) (idx : Nat) (ci k : Nat) : Option (List Cond) := match vwCl[ci]? with
  | some r => some [.fieldLink own idx (r.2.1 k).1 (r.2.1 k).2.1 (r.2.1 k).2.2.1]
  | none => none
def ev_get : ev_O := (fun P t => match vwCl[t.1.toNat]? with
  | some r => some (.getfield t.2.2.1.toNat, 3, [.fieldLink P.2.2.2.1 t.2.2.1.toNat (r.2.1 t.2.1.toNat).1 (r.2.1 t.2.1.toNat).2.1 (r.2.1 t.2.1.toNat).2.2.1])
  | none => none, fun _ t S => match S.2.2.1 with
  | x :: st => (match S.2.2.2.1[x.2.toNat]?, vwCl[t.1.toNat]? with
    | some cl, some r => if x.1 = 1 ∧ cl.1 = t.1.toNat ∧ t.2.1.toNat < r.2.2 then (match cl.2[t.2.1.toNat]? with
      | some a => some [ev_adv S 3 (a :: st)]
      | none => none) else none
    | _, _ => none)
  | [] => none)
theorem ev_get_ok : ev_Snd ev_get := by
  intro p l e R s m args below meth c cc Q D A g0 P t S i n cs Ss X h1 hd hw h2 hk g ws H locs ls sc hle hR
  obtain ⟨hx, hb, hml, hown, hts, hK, hA, hN, hini, hcC, hcS, hf, hlc, hscr⟩ := X
  obtain ⟨pc, L, st, w, K, ce, sl⟩ := S
  obtain ⟨t1, t2, t3, t4⟩ := t
  unfold ev_get at h1 h2
  dsimp only at h1 h2
  cases hr : vwCl[t1.toNat]? with
  | none => simp [hr] at h1
  | some r =>
    rw [hr] at h1 h2
    dsimp only at h1
    cases h1
    cases st with
    | nil => cases h2
    | cons x st' =>
      dsimp only at h2
      split at h2
      · rename_i cl r' hcl hr'
        cases hr'
        split at h2
        · rename_i hc
          obtain ⟨hc1, hc2, hc3⟩ := hc
          split at h2
          · rename_i a ha
            cases h2
            obtain ⟨hP, hD, hS, hW, hB, hL, hs⟩ := hR
            obtain ⟨vx, sc2, rfl, hvx, hs2⟩ := ev_s_cons hs
            obtain ⟨ad, x0, rfl, hws, hcc⟩ := ev_ref1 hW hc1 hvx hcl
            cases x0 with
            | inl z =>
              obtain ⟨tt, b1, b2, -⟩ := hcc
              have : t1.toNat < 10 := (List.getElem?_eq_some_iff.mp hr).1
              omega
            | inr o =>
              obtain ⟨ci, fs⟩ := o
              obtain ⟨b1, b2, b3, b4⟩ := hcc
              dsimp only at b1 b3 b4
              obtain ⟨v, d1, d2⟩ := b4 _ a ha
              have hci : vwCl[ci]? = some r := by rw [← b1, hc2]; exact hr
              obtain ⟨ty, hty⟩ : ∃ ty, ev_tyl[ci]? = some ty := ⟨_, List.getElem?_eq_getElem (show ci < ev_tyl.length from (List.getElem?_eq_some_iff.mp hci).1)⟩
              exact va_get hx hb hts (ev_cls ci r ty hci hty).1 hown hK hP _ hws hci t2.toNat hc3 (hts _ (hw _ (List.mem_singleton.mpr rfl))) (fun _ h => h) d2 hd (hk _ (List.mem_singleton.mpr rfl) g ws H locs ls _ hle ⟨hP, hD, hS, hW, hB, hL, d1, hs2⟩)
          · cases h2
        · cases h2
      · cases h2
/-- a value that a field of this type may hold -/
def ev_fit (ty : FieldType) (a : ev_A) : Bool := match ty with
  | .int => ev_isI a
  | .long => ev_isL a
  | .boolean => a.1 == 0 && (a.2 == 0 || a.2 == 1)
  | .char => a.1 == 0 && (decide (0 ≤ a.2) && decide (a.2.toNat < 65536))
  | .byte => a.1 == 0 && a.2 == 0
  | .object _ => a.1 == 1 || a.1 == 2 || a.1 == 5
  | .array _ => a.1 == 1 || a.1 == 2 || a.1 == 5
  | _ => false
theorem ev_vN {g : ev_G} {a : ev_A} {v : Value} (h : (a.1 == 1 || a.1 == 2 || a.1 == 5) = true) (hv : ev_v g a = some v) : v = .null ∨ ∃ x : Nat, v = .ref x := by
  by_cases h2 : a.1 = 2
  · obtain ⟨t, n⟩ := a
    have h2 : t = 2 := h2
    subst h2
    exact Or.inl (Option.some.inj hv).symm
  · refine Or.inr (ev_vR ?_ hv)
    simp only [Bool.or_eq_true, beq_iff_eq] at h
    simp only [ev_isR, Bool.or_eq_true, beq_iff_eq]
    rcases h with (h | h) | h
    · exact Or.inl h
    · exact absurd h h2
    · exact Or.inr h
theorem ev_fit_ok {ty : FieldType} {a : ev_A} {g : ev_G} {v : Value} (h : ev_fit ty a = true) (hv : ev_v g a = some v) : narrow ty v = v ∧ fits ty v = true := by
  unfold ev_fit at h
  split at h
  · obtain ⟨x, rfl⟩ := ev_vI h hv
    exact ⟨rfl, rfl⟩
  · obtain ⟨x, rfl⟩ := ev_vL h hv
    exact ⟨rfl, rfl⟩
  · obtain ⟨t, n⟩ := a
    simp only [Bool.and_eq_true, Bool.or_eq_true, beq_iff_eq] at h
    obtain ⟨rfl, h⟩ := h
    have hv := Option.some.inj hv
    rcases h with rfl | rfl
    · subst hv
      exact ⟨by decide, by decide⟩
    · subst hv
      exact ⟨by decide, by decide⟩
  · obtain ⟨t, n⟩ := a
    simp only [Bool.and_eq_true, beq_iff_eq, decide_eq_true_eq] at h
    obtain ⟨rfl, h0, h1⟩ := h
    have hv := Option.some.inj hv
    subst hv
    dsimp only at h0 h1 ⊢
    have e : Int32.ofInt n = nI n.toNat := by
      have : n = ((n.toNat : Nat) : Int) := by omega
      rw [this]
      rfl
    rw [e]
    exact pk_charN h1
  · obtain ⟨t, n⟩ := a
    simp only [Bool.and_eq_true, beq_iff_eq] at h
    obtain ⟨rfl, rfl⟩ := h
    have hv := Option.some.inj hv
    subst hv
    exact ⟨by decide, by decide⟩
  · rcases ev_vN h hv with rfl | ⟨x, rfl⟩ <;> exact ⟨rfl, rfl⟩
  · rcases ev_vN h hv with rfl | ⟨x, rfl⟩ <;> exact ⟨rfl, rfl⟩
  · cases h

def ev_put : ev_O := (fun P t => match vwCl[t.1.toNat]? with
  | some r => some (.putfield t.2.2.1.toNat, 3, [.fieldLink P.2.2.2.1 t.2.2.1.toNat (r.2.1 t.2.1.toNat).1 (r.2.1 t.2.1.toNat).2.1 (r.2.1 t.2.1.toNat).2.2.1])
  | none => none, fun P t S => match S.2.2.1 with
  | a :: x :: st => (match S.2.2.2.1[x.2.toNat]?, vwCl[t.1.toNat]?, ev_tyl[t.1.toNat]? with
    | some cl, some r, some ty => if x.1 = 1 ∧ cl.1 = t.1.toNat ∧ t.2.1.toNat < r.2.2 ∧ t.2.1.toNat < cl.2.length ∧ ev_fit (ty t.2.1.toNat) a = true ∧ ((r.2.1 t.2.1.toNat).2.2.2 = false) then some [(S.1 + 3, S.2.1, st, S.2.2.2.1.set x.2.toNat (cl.1, cl.2.set t.2.1.toNat a), S.2.2.2.2)] else none
    | _, _, _ => none)
  | _ => none)
theorem ev_put_ok : ev_Snd ev_put := by
  intro p l e R s m args below meth c cc Q D A g0 P t S i n cs Ss X h1 hd hw h2 hk g ws H locs ls sc hle hR
  obtain ⟨hx, hb, hml, hown, hts, hK, hA, hN, hini, hcC, hcS, hf, hlc, hscr⟩ := X
  obtain ⟨pc, L, st, w, K, ce, sl⟩ := S
  obtain ⟨t1, t2, t3, t4⟩ := t
  unfold ev_put at h1 h2
  dsimp only at h1 h2
  cases hr : vwCl[t1.toNat]? with
  | none => simp [hr] at h1
  | some r =>
    rw [hr] at h1 h2
    dsimp only at h1
    cases h1
    split at h2
    · rename_i a x st'
      split at h2
      · rename_i cl r' ty hcl hr' hty
        cases hr'
        split at h2
        · rename_i hc
          obtain ⟨hc1, hc2, hc3, hlen, hft, hfin⟩ := hc
          cases h2
          obtain ⟨hP, hD, hS, hW, hB, hL, hs⟩ := hR
          obtain ⟨va, sc1, rfl, hva, hs1⟩ := ev_s_cons hs
          obtain ⟨vx, sc2, rfl, hvx, hs2⟩ := ev_s_cons hs1
          obtain ⟨ad, x0, rfl, hws, hcc⟩ := ev_ref1 hW hc1 hvx hcl
          cases x0 with
          | inl z =>
            obtain ⟨tt, b1, b2, -⟩ := hcc
            have : t1.toNat < 10 := (List.getElem?_eq_some_iff.mp hr).1
            omega
          | inr o =>
            obtain ⟨ci, fs⟩ := o
            obtain ⟨b1, b2, b3, b4⟩ := hcc
            dsimp only at b1 b3 b4
            have hci : vwCl[ci]? = some r := by rw [← b1, hc2]; exact hr
            have hty : ev_tyl[ci]? = some ty := by rw [← b1, hc2]; exact hty
            obtain ⟨k1, k2, k3, -⟩ := ev_cls ci r ty hci hty
            obtain ⟨hn, hfit⟩ := ev_fit_ok hft hva
            refine va_put hx hb hts k1 ty k2 k3 hown hK hP hD hS _ hws hci t2.toNat hc3 (hts _ (hw _ (List.mem_singleton.mpr rfl))) (fun _ h => h) hfin (k2 _ hc3) hn hfit (by rw [b3]; exact hlen) hd (fun H1 locs1 hP1 hD1 hS1 => hk _ (List.mem_singleton.mpr rfl) g _ H1 locs1 ls _ hle ⟨hP1, hD1, hS1, ev_w_set hW hws ⟨b1, b2, by rw [List.length_set, List.length_set]; exact b3, fun j a' hj => ?_⟩, hB, hL, hs2⟩)
            dsimp only at hj ⊢
            by_cases hjk : j = t2.toNat
            · subst hjk
              rw [List.getElem?_set_self hlen] at hj
              cases hj
              exact ⟨va, hva, List.getElem?_set_self (by rw [b3]; exact hlen)⟩
            · rw [List.getElem?_set_ne (Ne.symm hjk)] at hj
              obtain ⟨v, d1, d2⟩ := b4 j a' hj
              exact ⟨v, d1, by rw [List.getElem?_set_ne (Ne.symm hjk)]; exact d2⟩
        · cases h2
      · cases h2
    · cases h2

def ev_putF : ev_O := (fun P t => match vwCl[t.1.toNat]? with
  | some r => some (.putfield t.2.2.1.toNat, 3, [.fieldLink P.2.2.2.1 t.2.2.1.toNat (r.2.1 t.2.1.toNat).1 (r.2.1 t.2.1.toNat).2.1 (r.2.1 t.2.1.toNat).2.2.1])
  | none => none, fun P t S => match S.2.2.1 with
  | a :: x :: st => (match S.2.2.2.1[x.2.toNat]?, vwCl[t.1.toNat]?, ev_tyl[t.1.toNat]? with
    | some cl, some r, some ty => if x.1 = 1 ∧ cl.1 = t.1.toNat ∧ t.2.1.toNat < r.2.2 ∧ t.2.1.toNat < cl.2.length ∧ ev_fit (ty t.2.1.toNat) a = true ∧ ((r.2.1 t.2.1.toNat).2.2.2 = true ∧ P.2.2.1 = true ∧ (r.2.1 t.2.1.toNat).1 = P.2.2.2.1) then some [(S.1 + 3, S.2.1, st, S.2.2.2.1.set x.2.toNat (cl.1, cl.2.set t.2.1.toNat a), S.2.2.2.2)] else none
    | _, _, _ => none)
  | _ => none)
theorem ev_putF_ok : ev_Snd ev_putF := by
  intro p l e R s m args below meth c cc Q D A g0 P t S i n cs Ss X h1 hd hw h2 hk g ws H locs ls sc hle hR
  obtain ⟨hx, hb, hml, hown, hts, hK, hA, hN, hini, hcC, hcS, hf, hlc, hscr⟩ := X
  obtain ⟨pc, L, st, w, K, ce, sl⟩ := S
  obtain ⟨t1, t2, t3, t4⟩ := t
  unfold ev_putF at h1 h2
  dsimp only at h1 h2
  cases hr : vwCl[t1.toNat]? with
  | none => simp [hr] at h1
  | some r =>
    rw [hr] at h1 h2
    dsimp only at h1
    cases h1
    split at h2
    · rename_i a x st'
      split at h2
      · rename_i cl r' ty hcl hr' hty
        cases hr'
        split at h2
        · rename_i hc
          obtain ⟨hc1, hc2, hc3, hlen, hft, hfin⟩ := hc
          cases h2
          obtain ⟨hP, hD, hS, hW, hB, hL, hs⟩ := hR
          obtain ⟨va, sc1, rfl, hva, hs1⟩ := ev_s_cons hs
          obtain ⟨vx, sc2, rfl, hvx, hs2⟩ := ev_s_cons hs1
          obtain ⟨ad, x0, rfl, hws, hcc⟩ := ev_ref1 hW hc1 hvx hcl
          cases x0 with
          | inl z =>
            obtain ⟨tt, b1, b2, -⟩ := hcc
            have : t1.toNat < 10 := (List.getElem?_eq_some_iff.mp hr).1
            omega
          | inr o =>
            obtain ⟨ci, fs⟩ := o
            obtain ⟨b1, b2, b3, b4⟩ := hcc
            dsimp only at b1 b3 b4
            have hci : vwCl[ci]? = some r := by rw [← b1, hc2]; exact hr
            have hty : ev_tyl[ci]? = some ty := by rw [← b1, hc2]; exact hty
            obtain ⟨k1, k2, k3, -⟩ := ev_cls ci r ty hci hty
            obtain ⟨hn, hfit⟩ := ev_fit_ok hft hva
            refine va_putF hx hb hts k1 ty k2 k3 hown hK hP hD hS _ hws hci t2.toNat hc3 (hts _ (hw _ (List.mem_singleton.mpr rfl))) (fun _ h => h) hfin.1 (hini hfin.2.1) hfin.2.2 (k2 _ hc3) hn hfit (by rw [b3]; exact hlen) hd (fun H1 locs1 hP1 hD1 hS1 => hk _ (List.mem_singleton.mpr rfl) g _ H1 locs1 ls _ hle ⟨hP1, hD1, hS1, ev_w_set hW hws ⟨b1, b2, by rw [List.length_set, List.length_set]; exact b3, fun j a' hj => ?_⟩, hB, hL, hs2⟩)
            dsimp only at hj ⊢
            by_cases hjk : j = t2.toNat
            · subst hjk
              rw [List.getElem?_set_self hlen] at hj
              cases hj
              exact ⟨va, hva, List.getElem?_set_self (by rw [b3]; exact hlen)⟩
            · rw [List.getElem?_set_ne (Ne.symm hjk)] at hj
              obtain ⟨v, d1, d2⟩ := b4 j a' hj
              exact ⟨v, d1, by rw [List.getElem?_set_ne (Ne.symm hjk)]; exact d2⟩
        · cases h2
      · cases h2
    · cases h2

/-! arrays -/
/-- an array's cell, at a number within it -/
def ev_ix (t : Nat) (x i : ev_A) (w : List ev_C) : Option (List ev_A × Nat) := match w[x.2.toNat]? with
  | some cl => if x.1 = 1 ∧ cl.1 = 100 + t ∧ i.1 = 0 ∧ 0 ≤ (Int32.ofInt i.2).toInt ∧ (Int32.ofInt i.2).toInt < (cl.2.length : Int) then some (cl.2, (Int32.ofInt i.2).toNatClampNeg) else none
  | none => none
theorem ev_ix_ok {t : Nat} (ht : t < 4) {x i : ev_A} {w : List ev_C} {cs : List ev_A} {j : Nat} (h : ev_ix t x i w = some (cs, j)) {s : State} {g : ev_G} {ws : va_W} (hW : ev_w s g w ws) {vx vi : Value} (hx : ev_v g x = some vx) (hi : ev_v g i = some vi) :
    ∃ (ad : Nat) (cA : ClassId) (n : Nat) (arr : (Nat → Int32) ⊕ (Nat → Int64) ⊕ (Nat → UInt32) ⊕ (Nat → UInt64) ⊕ (Nat → Option Nat)) (i0 : Int32), vx = .ref ad ∧ vi = .int i0 ∧ ws[x.2.toNat]? = some (ad, .inl (cA, n, arr)) ∧ n = cs.length ∧ vp_in i0 n ∧ i0.toNatClampNeg = j ∧ j < cs.length ∧ ArrOfT s cA (ev_ty t) ∧ va_RA s cA (ev_ty t) ∧ ev_ar g t cs arr ∧ w[x.2.toNat]? = some (100 + t, cs) := by
  unfold ev_ix at h
  split at h
  · rename_i cl hcl
    split at h
    · rename_i hc
      obtain ⟨h1, h2, h3, h4, h5⟩ := hc
      cases h
      obtain ⟨ad, x0, rfl, hws, hcc⟩ := ev_ref1 hW h1 hx hcl
      obtain ⟨it, iv⟩ := i
      have h3 : it = 0 := h3
      subst h3
      have hi : vi = .int (Int32.ofInt iv) := (Option.some.inj hi).symm
      subst hi
      cases x0 with
      | inr o =>
        obtain ⟨b1, b2, -⟩ := hcc
        omega
      | inl z =>
        obtain ⟨cA, n, arr⟩ := z
        obtain ⟨tt, b1, b2, b3, b4, b5, b6⟩ := hcc
        have : tt = t := by omega
        subst this
        dsimp only at b3 b4 b5 b6 h4 h5
        have hv : vp_in (Int32.ofInt iv) n := by rw [vp_in_iff, b3]; exact ⟨h4, h5⟩
        have hj : (Int32.ofInt iv).toNatClampNeg < cl.2.length := by
          have h9 := hv
          unfold vp_in at h9
          rw [b3] at h9
          exact Nat.lt_of_not_le (fun q => h9 (Or.inr q))
        exact ⟨ad, cA, n, arr, _, rfl, rfl, hws, b3, hv, rfl, hj, b4, b5, b6, by rw [hcl, ← h2]⟩
    · cases h
  · cases h
theorem ev_K1 {D : va_G} {s : State} {cA : ClassId} {ty : FieldType} (hK : va_K D vwCl [] s) (h1 : ArrOfT s cA ty) (h2 : va_RA s cA ty) : va_K D vwCl [(cA, ty)] s := ⟨hK.1, fun k q hk => by
  have hz : k < 1 := (List.getElem?_eq_some_iff.mp hk).1
  rw [show k = 0 by omega] at hk
  cases hk
  exact ⟨h1, h2⟩⟩

def ev_iaload : ev_O := (fun _ _ => some (.iaload, 1, []), fun _ _ S => match S.2.2.1 with
  | i :: x :: st => (match ev_ix 0 x i S.2.2.2.1 with
    | some (cs, j) => (match cs[j]? with
      | some a => some [ev_adv S 1 (a :: st)]
      | none => none)
    | none => none)
  | _ => none)
theorem ev_iaload_ok : ev_Snd ev_iaload := by
  intro p l e R s m args below meth c cc Q D A g0 P t S i n cs Ss X h1 hd hw h2 hk g ws H locs ls sc hle hR
  obtain ⟨hx, hb, hml, hown, hts, hK, hA, hN, hini, hcC, hcS, hf, hlc, hscr⟩ := X
  obtain ⟨pc, L, st, w, K, ce, sl⟩ := S
  have h1 : some ((.iaload : Instr), (1 : Nat), ([] : List Cond)) = some (i, n, cs) := h1
  cases h1
  unfold ev_iaload at h2
  dsimp only at h2
  split at h2
  · rename_i i x st'
    split at h2
    · rename_i cs j hix
      split at h2
      · rename_i a ha
        cases h2
        obtain ⟨hP, hD, hS, hW, hB, hL, hs⟩ := hR
        obtain ⟨vi, sc2, rfl, hvi, hs2⟩ := ev_s_cons hs
        obtain ⟨vx, sc3, rfl, hvx, hs3⟩ := ev_s_cons hs2
        obtain ⟨ad, cA, n, arr, i0, rfl, rfl, hws, hn, hv, hj, hjl, b4, b5, b6, hwc⟩ := ev_ix_ok (by decide) hix hW hvx hvi
        cases arr with
        | inl f =>
          exact va_iald hx hb (ev_K1 hK b4 b5) hP _ 0 hws rfl hv hd (hk _ (List.mem_singleton.mpr rfl) g ws H locs ls _ hle ⟨hP, hD, hS, hW, hB, hL, by rw [hj]; exact b6.2 j a ha, hs3⟩)
        | inr z => rcases z with z | z | z | z <;> first | exact b6.elim | (have := b6.1; omega)
      · cases h2
    · cases h2
  · cases h2

def ev_baload : ev_O := (fun _ _ => some (.baload, 1, []), fun _ _ S => match S.2.2.1 with
  | i :: x :: st => (match ev_ix 1 x i S.2.2.2.1 with
    | some (cs, j) => (match cs[j]? with
      | some a => some [ev_adv S 1 (a :: st)]
      | none => none)
    | none => none)
  | _ => none)
theorem ev_baload_ok : ev_Snd ev_baload := by
  intro p l e R s m args below meth c cc Q D A g0 P t S i n cs Ss X h1 hd hw h2 hk g ws H locs ls sc hle hR
  obtain ⟨hx, hb, hml, hown, hts, hK, hA, hN, hini, hcC, hcS, hf, hlc, hscr⟩ := X
  obtain ⟨pc, L, st, w, K, ce, sl⟩ := S
  have h1 : some ((.baload : Instr), (1 : Nat), ([] : List Cond)) = some (i, n, cs) := h1
  cases h1
  unfold ev_baload at h2
  dsimp only at h2
  split at h2
  · rename_i i x st'
    split at h2
    · rename_i cs j hix
      split at h2
      · rename_i a ha
        cases h2
        obtain ⟨hP, hD, hS, hW, hB, hL, hs⟩ := hR
        obtain ⟨vi, sc2, rfl, hvi, hs2⟩ := ev_s_cons hs
        obtain ⟨vx, sc3, rfl, hvx, hs3⟩ := ev_s_cons hs2
        obtain ⟨ad, cA, n, arr, i0, rfl, rfl, hws, hn, hv, hj, hjl, b4, b5, b6, hwc⟩ := ev_ix_ok (by decide) hix hW hvx hvi
        cases arr with
        | inl f =>
          exact va_bald hx hb (ev_K1 hK b4 b5) hP _ 0 hws rfl hv hd (hk _ (List.mem_singleton.mpr rfl) g ws H locs ls _ hle ⟨hP, hD, hS, hW, hB, hL, by rw [hj]; exact b6.2 j a ha, hs3⟩)
        | inr z => rcases z with z | z | z | z <;> first | exact b6.elim | (have := b6.1; omega)
      · cases h2
    · cases h2
  · cases h2

def ev_laload : ev_O := (fun _ _ => some (.laload, 1, []), fun _ _ S => match S.2.2.1 with
  | i :: x :: st => (match ev_ix 2 x i S.2.2.2.1 with
    | some (cs, j) => (match cs[j]? with
      | some a => some [ev_adv S 1 (a :: st)]
      | none => none)
    | none => none)
  | _ => none)
theorem ev_laload_ok : ev_Snd ev_laload := by
  intro p l e R s m args below meth c cc Q D A g0 P t S i n cs Ss X h1 hd hw h2 hk g ws H locs ls sc hle hR
  obtain ⟨hx, hb, hml, hown, hts, hK, hA, hN, hini, hcC, hcS, hf, hlc, hscr⟩ := X
  obtain ⟨pc, L, st, w, K, ce, sl⟩ := S
  have h1 : some ((.laload : Instr), (1 : Nat), ([] : List Cond)) = some (i, n, cs) := h1
  cases h1
  unfold ev_laload at h2
  dsimp only at h2
  split at h2
  · rename_i i x st'
    split at h2
    · rename_i cs j hix
      split at h2
      · rename_i a ha
        cases h2
        obtain ⟨hP, hD, hS, hW, hB, hL, hs⟩ := hR
        obtain ⟨vi, sc2, rfl, hvi, hs2⟩ := ev_s_cons hs
        obtain ⟨vx, sc3, rfl, hvx, hs3⟩ := ev_s_cons hs2
        obtain ⟨ad, cA, n, arr, i0, rfl, rfl, hws, hn, hv, hj, hjl, b4, b5, b6, hwc⟩ := ev_ix_ok (by decide) hix hW hvx hvi
        rcases arr with f | f | f | f | f
        · have := b6.1; omega
        · exact va_lald hx hb (ev_K1 hK b4 b5) hP _ 0 hws rfl hv hd (hk _ (List.mem_singleton.mpr rfl) g ws H locs ls _ hle ⟨hP, hD, hS, hW, hB, hL, by rw [hj]; exact b6.2 j a ha, hs3⟩)
        · exact b6.elim
        · exact b6.elim
        · have := b6.1; omega
      · cases h2
    · cases h2
  · cases h2

def ev_aaload : ev_O := (fun _ _ => some (.aaload, 1, []), fun _ _ S => match S.2.2.1 with
  | i :: x :: st => (match ev_ix 3 x i S.2.2.2.1 with
    | some (cs, j) => (match cs[j]? with
      | some a => some [ev_adv S 1 (a :: st)]
      | none => none)
    | none => none)
  | _ => none)
theorem ev_aaload_ok : ev_Snd ev_aaload := by
  intro p l e R s m args below meth c cc Q D A g0 P t S i n cs Ss X h1 hd hw h2 hk g ws H locs ls sc hle hR
  obtain ⟨hx, hb, hml, hown, hts, hK, hA, hN, hini, hcC, hcS, hf, hlc, hscr⟩ := X
  obtain ⟨pc, L, st, w, K, ce, sl⟩ := S
  have h1 : some ((.aaload : Instr), (1 : Nat), ([] : List Cond)) = some (i, n, cs) := h1
  cases h1
  unfold ev_aaload at h2
  dsimp only at h2
  split at h2
  · rename_i i x st'
    split at h2
    · rename_i cs j hix
      split at h2
      · rename_i a ha
        cases h2
        obtain ⟨hP, hD, hS, hW, hB, hL, hs⟩ := hR
        obtain ⟨vi, sc2, rfl, hvi, hs2⟩ := ev_s_cons hs
        obtain ⟨vx, sc3, rfl, hvx, hs3⟩ := ev_s_cons hs2
        obtain ⟨ad, cA, n, arr, i0, rfl, rfl, hws, hn, hv, hj, hjl, b4, b5, b6, hwc⟩ := ev_ix_ok (by decide) hix hW hvx hvi
        rcases arr with f | f | f | f | f
        · have := b6.1; omega
        · have := b6.1; omega
        · exact b6.elim
        · exact b6.elim
        · exact va_aldq hx hb (ev_K1 hK b4 b5) hP _ 0 hws rfl hv hd (hk _ (List.mem_singleton.mpr rfl) g ws H locs ls _ hle ⟨hP, hD, hS, hW, hB, hL, by rw [hj]; exact b6.2 j a ha, hs3⟩)
      · cases h2
    · cases h2
  · cases h2

theorem ev_set_rel {α : Type} {cs : List ev_A} {j : Nat} {a : ev_A} {g : ev_G} {F : α → Value} {f : Nat → α} {v : α} (hj : j < cs.length) (h : ∀ (k : Nat) (x : ev_A), cs[k]? = some x → ev_v g x = some (F (f k))) (ha : ev_v g a = some (F v)) : ∀ (k : Nat) (x : ev_A), (cs.set j a)[k]? = some x → ev_v g x = some (F (if k = j then v else f k)) := by
  intro k x hk
  by_cases hkj : k = j
  · subst hkj
    rw [List.getElem?_set_self hj] at hk
    cases hk
    rw [if_pos rfl]
    exact ha
  · rw [List.getElem?_set_ne (Ne.symm hkj)] at hk
    rw [if_neg hkj]
    exact h k x hk
def ev_iastore : ev_O := (fun _ _ => some (.iastore, 1, []), fun _ _ S => match S.2.2.1 with
  | a :: i :: x :: st => (match ev_ix 0 x i S.2.2.2.1 with
    | some (cs, j) => if ev_isI a = true then some [(S.1 + 1, S.2.1, st, S.2.2.2.1.set x.2.toNat (100, cs.set j a), S.2.2.2.2)] else none
    | none => none)
  | _ => none)
theorem ev_iastore_ok : ev_Snd ev_iastore := by
  intro p l e R s m args below meth c cc Q D A g0 P t S i n cs Ss X h1 hd hw h2 hk g ws H locs ls sc hle hR
  obtain ⟨hx, hb, hml, hown, hts, hK, hA, hN, hini, hcC, hcS, hf, hlc, hscr⟩ := X
  obtain ⟨pc, L, st, w, K, ce, sl⟩ := S
  have h1 : some ((.iastore : Instr), (1 : Nat), ([] : List Cond)) = some (i, n, cs) := h1
  cases h1
  unfold ev_iastore at h2
  dsimp only at h2
  split at h2
  · rename_i a i x st'
    split at h2
    · rename_i cs j hix
      split at h2
      · rename_i ha
        cases h2
        obtain ⟨hP, hD, hS, hW, hB, hL, hs⟩ := hR
        obtain ⟨va, sc1, rfl, hva, hs1⟩ := ev_s_cons hs
        obtain ⟨vi, sc2, rfl, hvi, hs2⟩ := ev_s_cons hs1
        obtain ⟨vx, sc3, rfl, hvx, hs3⟩ := ev_s_cons hs2
        obtain ⟨a0, rfl⟩ := ev_vI ha hva
        obtain ⟨ad, cA, n, arr, i0, rfl, rfl, hws, hn, hv, hj, hjl, b4, b5, b6, hwc⟩ := ev_ix_ok (by decide) hix hW hvx hvi
        cases arr with
        | inl f =>
          refine va_iast hx hb (ev_K1 hK b4 b5) hP hD hS _ 0 hws rfl hv hd (fun H1 locs1 hP1 hD1 hS1 => hk _ (List.mem_singleton.mpr rfl) g _ H1 locs1 ls _ hle ⟨hP1, hD1, hS1, ev_w_set hW hws ⟨0, by decide, rfl, by rw [List.length_set]; exact hn, b4, b5, by decide, ?_⟩, hB, hL, hs3⟩)
          rw [hj]
          exact ev_set_rel (F := Value.int) hjl b6.2 hva
        | inr z => rcases z with z | z | z | z <;> first | exact b6.elim | (have := b6.1; omega)
      · cases h2
    · cases h2
  · cases h2
/-- a byte into an array of bytes: a number is cut, a variable gets a new name -/
def ev_bastore : ev_O := (fun _ _ => some (.bastore, 1, []), fun _ _ S => match S.2.2.1 with
  | a :: i :: x :: st => (match ev_ix 1 x i S.2.2.2.1 with
    | some (cs, j) => if ev_isI a = true then (if a.1 = 0 then some [(S.1 + 1, S.2.1, st, S.2.2.2.1.set x.2.toNat (101, cs.set j (0, (vp_nar .byte (Int32.ofInt a.2)).toInt)), S.2.2.2.2)] else some [(S.1 + 1, S.2.1, st, S.2.2.2.1.set x.2.toNat (101, cs.set j (3, (S.2.2.2.2.1.length : Int))), S.2.2.2.2.1 ++ [ev_full], S.2.2.2.2.2)]) else none
    | none => none)
  | _ => none)
theorem ev_bastore_ok : ev_Snd ev_bastore := by
  intro p l e R s m args below meth c cc Q D A g0 P t S i n cs Ss X h1 hd hw h2 hk g ws H locs ls sc hle hR
  obtain ⟨hx, hb, hml, hown, hts, hK, hA, hN, hini, hcC, hcS, hf, hlc, hscr⟩ := X
  obtain ⟨pc, L, st, w, K, ce, sl⟩ := S
  have h1 : some ((.bastore : Instr), (1 : Nat), ([] : List Cond)) = some (i, n, cs) := h1
  cases h1
  unfold ev_bastore at h2
  dsimp only at h2
  split at h2
  · rename_i a i x st'
    split at h2
    · rename_i cs j hix
      split at h2
      · rename_i ha
        have hR0 := hR
        obtain ⟨hP, hD, hS, hW, hB, hL, hs⟩ := hR0
        obtain ⟨va, sc1, rfl, hva, hs1⟩ := ev_s_cons hs
        obtain ⟨vi, sc2, rfl, hvi, hs2⟩ := ev_s_cons hs1
        obtain ⟨vx, sc3, rfl, hvx, hs3⟩ := ev_s_cons hs2
        obtain ⟨a0, rfl⟩ := ev_vI ha hva
        obtain ⟨ad, cA, n, arr, i0, rfl, rfl, hws, hn, hv, hj, hjl, b4, b5, b6, hwc⟩ := ev_ix_ok (by decide) hix hW hvx hvi
        cases arr with
        | inl f =>
          split at h2
          · rename_i hz
            cases h2
            obtain ⟨at_, an⟩ := a
            have hz : at_ = 0 := hz
            subst hz
            have ea : Int32.ofInt an = a0 := Value.int.inj (Option.some.inj hva)
            refine va_bast hx hb (ev_K1 hK b4 b5) hP hD hS _ 0 hws rfl hv hd (fun H1 locs1 hP1 hD1 hS1 => hk _ (List.mem_singleton.mpr rfl) g _ H1 locs1 ls _ hle ⟨hP1, hD1, hS1, ev_w_set hW hws ⟨1, by decide, rfl, by rw [List.length_set]; exact hn, b4, b5, by decide, ?_⟩, hB, hL, hs3⟩)
            rw [hj]
            dsimp only
            rw [ea]
            exact ev_set_rel (F := Value.int) hjl b6.2 (ev_v0 g _)
          · cases h2
            obtain ⟨g', l1, ⟨hP, hD, hS, hW, hB, hL, hs⟩, e1⟩ := ev_fresh hR (.int (vp_nar .byte a0)) ev_full (fun z hz => ev_full_ok _)
            refine va_bast hx hb (ev_K1 hK b4 b5) hP hD hS _ 0 hws rfl hv hd (fun H1 locs1 hP1 hD1 hS1 => hk _ (List.mem_singleton.mpr rfl) g' _ H1 locs1 ls _ (ev_le_tr hle l1) ⟨hP1, hD1, hS1, ev_w_set hW hws ⟨1, by decide, rfl, by rw [List.length_set]; exact hn, b4, b5, by decide, ?_⟩, hB, hL, hs.2.2.2⟩)
            rw [hj]
            exact ev_set_rel (F := Value.int) hjl (fun k x hk => ev_v_le l1 (b6.2 k x hk)) (ev_v3 e1)
        | inr z => rcases z with z | z | z | z <;> first | exact b6.elim | (have := b6.1; omega)
      · cases h2
    · cases h2
  · cases h2
end
section
/-! new cells, lengths, small library calls -/
def ev_cs (st : List ev_A) : Nat := (st.map (fun a => if ev_isL a = true then 2 else 1)).sum
theorem ev_cs_ok {g : ev_G} : ∀ {st : List ev_A} {sc : List Value}, ev_s g st sc → (sc.map fun v => v.category).sum = ev_cs st
  | [], [], _ => rfl
  | [], _ :: _, h => h.elim
  | _ :: _, [], h => h.elim
  | a :: st, v :: sc, h => by
    have ih := ev_cs_ok h.2
    simp only [ev_cs, List.map_cons, List.sum_cons] at ih ⊢
    rw [ih]
    rcases ev_cat h.1 with ⟨q1, q2⟩ | ⟨q1, q2⟩ <;> rw [q1, q2] <;> rfl
theorem ev_nn {x : Int32} (h : 0 ≤ x.toInt) : ¬ x < 0 := by
  rw [Int32.lt_iff_toInt_lt]
  exact Int.not_lt.mpr h
/-- how many places a new array has -/
def ev_len (a : ev_A) : Option Nat := if a.1 = 0 ∧ 0 ≤ (Int32.ofInt a.2).toInt ∧ (Int32.ofInt a.2).toNatClampNeg ≤ 100000 then some (Int32.ofInt a.2).toNatClampNeg else none
theorem ev_len_ok {a : ev_A} {n : Nat} {g : ev_G} {v : Value} (h : ev_len a = some n) (hv : ev_v g a = some v) : ∃ x : Int32, v = .int x ∧ ¬ x < 0 ∧ x.toNatClampNeg = n ∧ n ≤ 100000 := by
  unfold ev_len at h
  split at h
  · rename_i hc
    cases h
    obtain ⟨t, k⟩ := a
    obtain ⟨h1, h2, h3⟩ := hc
    have h1 : t = 0 := h1
    subst h1
    exact ⟨_, (Option.some.inj hv).symm, ev_nn h2, rfl, h3⟩
  · cases h

def ev_newI : ev_O := (fun _ _ => some (.newarray .int, 2, [.arrayClass .int]), fun P _ S => match S.2.2.1 with
  | a :: st => (match ev_len a with
    | some n => if S.2.2.2.2.2.1 + 1 ≤ P.1 ∧ S.2.2.2.2.2.2 + n ≤ P.2.1 then some [(S.1 + 2, S.2.1, (1, (S.2.2.2.1.length : Int)) :: st, S.2.2.2.1 ++ [(100, List.replicate n (0, 0))], S.2.2.2.2.1, S.2.2.2.2.2.1 + 1, S.2.2.2.2.2.2 + n)] else none
    | none => none)
  | _ => none)
theorem ev_newI_ok : ev_Snd ev_newI := by
  intro p l e R s m args below meth c cc Q D A g0 P t S i n cs Ss X h1 hd hw h2 hk g ws H locs ls sc hle hR
  obtain ⟨hx, hb, hml, hown, hts, hK, hA, hN, hini, hcC, hcS, hf, hlc, hscr⟩ := X
  obtain ⟨pc, L, st, w, K, ce, sl⟩ := S
  have h1 : some ((.newarray .int : Instr), (2 : Nat), ([.arrayClass .int] : List Cond)) = some (i, n, cs) := h1
  cases h1
  unfold ev_newI at h2
  dsimp only at h2
  split at h2
  · rename_i a st'
    split at h2
    · rename_i n hn
      split at h2
      · rename_i hc
        cases h2
        obtain ⟨hP, hD, hS, hW, hB, hL, hs⟩ := hR
        obtain ⟨va, sc1, rfl, hva, hs1⟩ := ev_s_cons hs
        obtain ⟨x, rfl, x1, x2, x3⟩ := ev_len_ok hn hva
        refine va_newa hx hb (atype := .int) (hts _ (hw _ (List.mem_singleton.mpr rfl))) rfl hK hP hD hS hA (a0 := (n, .inl (fun _ => 0))) (fun cA => rfl) x1 x2 (by simp only [componentBytes, newarray.typeOf]; omega) (by rw [hcC]; exact hc.1) (by rw [hcS]; exact hc.2) hd (fun q cA H1 hK1 hP1 hD1 hS1 => ?_)
        obtain ⟨k1, k2⟩ := hK1.2 0 _ rfl
        have hcell : ev_c s (g.1 ++ [q], g.2.1, g.2.2) (100, List.replicate n (0, 0)) (.inl (cA, n, .inl (fun _ => 0))) := by
          refine ⟨0, by decide, rfl, by simp, k1, k2, by decide, fun j y hj => ?_⟩
          rw [List.getElem?_replicate] at hj
          split at hj
          · cases hj
            rfl
          · cases hj
        obtain ⟨l1, w1, v1⟩ := ev_w_push hW hcell
        exact hk _ (List.mem_singleton.mpr rfl) _ _ H1 locs ls _ (ev_le_tr hle l1) ⟨hP1, hD1, hS1, w1, hB, ev_l_le l1 hL, v1, ev_s_le l1 hs1⟩
      · cases h2
    · cases h2
  · cases h2

def ev_newB : ev_O := (fun _ _ => some (.newarray .byte, 2, [.arrayClass .byte]), fun P _ S => match S.2.2.1 with
  | a :: st => (match ev_len a with
    | some n => if S.2.2.2.2.2.1 + 1 ≤ P.1 ∧ S.2.2.2.2.2.2 + n ≤ P.2.1 then some [(S.1 + 2, S.2.1, (1, (S.2.2.2.1.length : Int)) :: st, S.2.2.2.1 ++ [(101, List.replicate n (0, 0))], S.2.2.2.2.1, S.2.2.2.2.2.1 + 1, S.2.2.2.2.2.2 + n)] else none
    | none => none)
  | _ => none)
theorem ev_newB_ok : ev_Snd ev_newB := by
  intro p l e R s m args below meth c cc Q D A g0 P t S i n cs Ss X h1 hd hw h2 hk g ws H locs ls sc hle hR
  obtain ⟨hx, hb, hml, hown, hts, hK, hA, hN, hini, hcC, hcS, hf, hlc, hscr⟩ := X
  obtain ⟨pc, L, st, w, K, ce, sl⟩ := S
  have h1 : some ((.newarray .byte : Instr), (2 : Nat), ([.arrayClass .byte] : List Cond)) = some (i, n, cs) := h1
  cases h1
  unfold ev_newB at h2
  dsimp only at h2
  split at h2
  · rename_i a st'
    split at h2
    · rename_i n hn
      split at h2
      · rename_i hc
        cases h2
        obtain ⟨hP, hD, hS, hW, hB, hL, hs⟩ := hR
        obtain ⟨va, sc1, rfl, hva, hs1⟩ := ev_s_cons hs
        obtain ⟨x, rfl, x1, x2, x3⟩ := ev_len_ok hn hva
        refine va_newa hx hb (atype := .byte) (hts _ (hw _ (List.mem_singleton.mpr rfl))) rfl hK hP hD hS hA (a0 := (n, .inl (fun _ => 0))) (fun cA => rfl) x1 x2 (by simp only [componentBytes, newarray.typeOf]; omega) (by rw [hcC]; exact hc.1) (by rw [hcS]; exact hc.2) hd (fun q cA H1 hK1 hP1 hD1 hS1 => ?_)
        obtain ⟨k1, k2⟩ := hK1.2 0 _ rfl
        have hcell : ev_c s (g.1 ++ [q], g.2.1, g.2.2) (101, List.replicate n (0, 0)) (.inl (cA, n, .inl (fun _ => 0))) := by
          refine ⟨1, by decide, rfl, by simp, k1, k2, by decide, fun j y hj => ?_⟩
          rw [List.getElem?_replicate] at hj
          split at hj
          · cases hj
            rfl
          · cases hj
        obtain ⟨l1, w1, v1⟩ := ev_w_push hW hcell
        exact hk _ (List.mem_singleton.mpr rfl) _ _ H1 locs ls _ (ev_le_tr hle l1) ⟨hP1, hD1, hS1, w1, hB, ev_l_le l1 hL, v1, ev_s_le l1 hs1⟩
      · cases h2
    · cases h2
  · cases h2

def ev_newJ : ev_O := (fun _ _ => some (.newarray .long, 2, [.arrayClass .long]), fun P _ S => match S.2.2.1 with
  | a :: st => (match ev_len a with
    | some n => if S.2.2.2.2.2.1 + 1 ≤ P.1 ∧ S.2.2.2.2.2.2 + n ≤ P.2.1 then some [(S.1 + 2, S.2.1, (1, (S.2.2.2.1.length : Int)) :: st, S.2.2.2.1 ++ [(102, List.replicate n (4, 0))], S.2.2.2.2.1, S.2.2.2.2.2.1 + 1, S.2.2.2.2.2.2 + n)] else none
    | none => none)
  | _ => none)
theorem ev_newJ_ok : ev_Snd ev_newJ := by
  intro p l e R s m args below meth c cc Q D A g0 P t S i n cs Ss X h1 hd hw h2 hk g ws H locs ls sc hle hR
  obtain ⟨hx, hb, hml, hown, hts, hK, hA, hN, hini, hcC, hcS, hf, hlc, hscr⟩ := X
  obtain ⟨pc, L, st, w, K, ce, sl⟩ := S
  have h1 : some ((.newarray .long : Instr), (2 : Nat), ([.arrayClass .long] : List Cond)) = some (i, n, cs) := h1
  cases h1
  unfold ev_newJ at h2
  dsimp only at h2
  split at h2
  · rename_i a st'
    split at h2
    · rename_i n hn
      split at h2
      · rename_i hc
        cases h2
        obtain ⟨hP, hD, hS, hW, hB, hL, hs⟩ := hR
        obtain ⟨va, sc1, rfl, hva, hs1⟩ := ev_s_cons hs
        obtain ⟨x, rfl, x1, x2, x3⟩ := ev_len_ok hn hva
        refine va_newa hx hb (atype := .long) (hts _ (hw _ (List.mem_singleton.mpr rfl))) rfl hK hP hD hS hA (a0 := (n, .inr (.inl (fun _ => 0)))) (fun cA => rfl) x1 x2 (by simp only [componentBytes, newarray.typeOf]; omega) (by rw [hcC]; exact hc.1) (by rw [hcS]; exact hc.2) hd (fun q cA H1 hK1 hP1 hD1 hS1 => ?_)
        obtain ⟨k1, k2⟩ := hK1.2 0 _ rfl
        have hcell : ev_c s (g.1 ++ [q], g.2.1, g.2.2) (102, List.replicate n (4, 0)) (.inl (cA, n, .inr (.inl (fun _ => 0)))) := by
          refine ⟨2, by decide, rfl, by simp, k1, k2, by decide, fun j y hj => ?_⟩
          rw [List.getElem?_replicate] at hj
          split at hj
          · cases hj
            rfl
          · cases hj
        obtain ⟨l1, w1, v1⟩ := ev_w_push hW hcell
        exact hk _ (List.mem_singleton.mpr rfl) _ _ H1 locs ls _ (ev_le_tr hle l1) ⟨hP1, hD1, hS1, w1, hB, ev_l_le l1 hL, v1, ev_s_le l1 hs1⟩
      · cases h2
    · cases h2
  · cases h2

def ev_newQ : ev_O := (fun P t => some (.anewarray t.1.toNat, 3, [.classLink P.2.2.2.1 t.1.toNat "BarberMinutes$Minutes"]), fun P _ S => match S.2.2.1 with
  | a :: st => (match ev_len a with
    | some n => if S.2.2.2.2.2.1 + 1 ≤ P.1 ∧ S.2.2.2.2.2.2 + n ≤ P.2.1 then some [(S.1 + 3, S.2.1, (1, (S.2.2.2.1.length : Int)) :: st, S.2.2.2.1 ++ [(103, List.replicate n (2, 0))], S.2.2.2.2.1, S.2.2.2.2.2.1 + 1, S.2.2.2.2.2.2 + n)] else none
    | none => none)
  | _ => none)
theorem ev_newQ_ok : ev_Snd ev_newQ := by
  intro p l e R s m args below meth c cc Q D A g0 P t S i n cs Ss X h1 hd hw h2 hk g ws H locs ls sc hle hR
  obtain ⟨hx, hb, hml, hown, hts, hK, hA, hN, hini, hcC, hcS, hf, hlc, hscr⟩ := X
  obtain ⟨pc, L, st, w, K, ce, sl⟩ := S
  have h1 : some ((.anewarray t.1.toNat : Instr), (3 : Nat), ([.classLink P.2.2.2.1 t.1.toNat "BarberMinutes$Minutes"] : List Cond)) = some (i, n, cs) := h1
  cases h1
  unfold ev_newQ at h2
  dsimp only at h2
  split at h2
  · rename_i a st'
    split at h2
    · rename_i n hn
      split at h2
      · rename_i hc
        cases h2
        obtain ⟨hP, hD, hS, hW, hB, hL, hs⟩ := hR
        obtain ⟨va, sc1, rfl, hva, hs1⟩ := ev_s_cons hs
        obtain ⟨x, rfl, x1, x2, x3⟩ := ev_len_ok hn hva
        refine va_newq hx hb hown (hts _ (hw _ (List.mem_singleton.mpr rfl))) hN.1.2 hK hP hD hS hA x1 x2 (by omega) (by rw [hcC]; exact hc.1) (by rw [hcS]; exact hc.2) hd (fun q cA H1 hK1 hP1 hD1 hS1 => ?_)
        obtain ⟨k1, k2⟩ := hK1.2 0 _ rfl
        have hcell : ev_c s (g.1 ++ [q], g.2.1, g.2.2) (103, List.replicate n (2, 0)) (.inl (cA, n, .inr (.inr (.inr (.inr (fun _ => none)))))) := by
          refine ⟨3, by decide, rfl, by simp, k1, k2, rfl, fun j y hj => ?_⟩
          rw [List.getElem?_replicate] at hj
          split at hj
          · cases hj
            rfl
          · cases hj
        obtain ⟨l1, w1, v1⟩ := ev_w_push hW hcell
        exact hk _ (List.mem_singleton.mpr rfl) _ _ H1 locs ls _ (ev_le_tr hle l1) ⟨hP1, hD1, hS1, w1, hB, ev_l_le l1 hL, v1, ev_s_le l1 hs1⟩
      · cases h2
    · cases h2
  · cases h2
def ev_def (ty : FieldType) : ev_A := match ty with
  | .int => (0, 0)
  | .boolean => (0, 0)
  | .long => (4, 0)
  | .object _ => (2, 0)
  | .array _ => (2, 0)
  | _ => (9, 0)
theorem ev_def_ok (g : ev_G) {ty : FieldType} (h : ((ev_def ty).1 == 9) = false) : ev_v g (ev_def ty) = some (defaultValue ty) := by
  cases ty <;> first | rfl | (simp [ev_def] at h)
def ev_new : ev_O := (fun P t => match vwCl[t.1.toNat]? with
  | some r => some (.new t.2.2.1.toNat, 3, [.classLink P.2.2.2.1 t.2.2.1.toNat r.1, .instantiable r.1 r.2.2, .initialized r.1])
  | none => none, fun P t S => match vwCl[t.1.toNat]?, ev_tyl[t.1.toNat]? with
  | some r, some ty => if S.2.2.2.2.2.1 + 1 ≤ P.1 ∧ S.2.2.2.2.2.2 + r.2.2 ≤ P.2.1 ∧ (List.range r.2.2).all (fun j => !((ev_def (ty j)).1 == 9)) = true then some [(S.1 + 3, S.2.1, (1, (S.2.2.2.1.length : Int)) :: S.2.2.1, S.2.2.2.1 ++ [(t.1.toNat, (List.range r.2.2).map (fun j => ev_def (ty j)))], S.2.2.2.2.1, S.2.2.2.2.2.1 + 1, S.2.2.2.2.2.2 + r.2.2)] else none
  | _, _ => none)
theorem ev_new_ok : ev_Snd ev_new := by
  intro p l e R s m args below meth c cc Q D A g0 P t S i n cs Ss X h1 hd hw h2 hk g ws H locs ls sc hle hR
  obtain ⟨hx, hb, hml, hown, hts, hK, hA, hN, hini, hcC, hcS, hf, hlc, hscr⟩ := X
  obtain ⟨pc, L, st, w, K, ce, sl⟩ := S
  obtain ⟨t1, t2, t3, t4⟩ := t
  unfold ev_new at h1 h2
  dsimp only at h1 h2
  cases hr : vwCl[t1.toNat]? with
  | none => simp [hr] at h1
  | some r =>
    rw [hr] at h1 h2
    dsimp only at h1
    cases h1
    split at h2
    · rename_i r' ty hr' hty
      cases hr'
      split at h2
      · rename_i hc
        obtain ⟨hc1, hc2, hc3⟩ := hc
        cases h2
        obtain ⟨hP, hD, hS, hW, hB, hL, hs⟩ := hR
        obtain ⟨k1, k2, k3, k4⟩ := ev_cls _ r ty hr hty
        have hlt : t1.toNat < 10 := (List.getElem?_eq_some_iff.mp hr).1
        refine va_new (fs := (List.range r.2.2).map (fun j => defaultValue (ty j))) hx hb hts k1 ty k2 hown (hts _ (hw _ (by simp))) (hts _ (hw _ (by simp))) (hts _ (hw _ (by simp))) hK hP hD hS hA hr (fun j hj => by simp [vp_V, List.getD, hj]) (by rw [hcC]; exact hc1) (by rw [hcS]; exact hc2) hd (fun q H1 hP1 hD1 hS1 => ?_)
        have hcell : ev_c s (g.1 ++ [q], g.2.1, g.2.2) (t1.toNat, (List.range r.2.2).map (fun j => ev_def (ty j))) (.inr (t1.toNat, (List.range r.2.2).map (fun j => defaultValue (ty j)))) := by
          refine ⟨rfl, by omega, by simp, fun j a hj => ?_⟩
          dsimp only at hj ⊢
          rw [List.getElem?_map] at hj ⊢
          cases hz : (List.range r.2.2)[j]? with
          | none => simp [hz] at hj
          | some z =>
            simp only [hz, Option.map_some] at hj ⊢
            cases hj
            refine ⟨_, ev_def_ok _ ?_, rfl⟩
            have := List.all_eq_true.mp hc3 z (List.mem_of_getElem? hz)
            simpa using this
        obtain ⟨l1, w1, v1⟩ := ev_w_push hW hcell
        exact hk _ (List.mem_singleton.mpr rfl) _ _ H1 locs ls _ (ev_le_tr hle l1) ⟨hP1, hD1, hS1, w1, hB, ev_l_le l1 hL, v1, ev_s_le l1 hs⟩
      · cases h2
    · cases h2
def ev_aastore : ev_O := (fun _ _ => some (.aastore, 1, []), fun _ _ S => match S.2.2.1 with
  | a :: i :: x :: st => (match ev_ix 3 x i S.2.2.2.1, S.2.2.2.1[a.2.toNat]? with
    | some (cs, j), some cl => if a.1 = 1 ∧ cl.1 = 2 then some [(S.1 + 1, S.2.1, st, S.2.2.2.1.set x.2.toNat (103, cs.set j a), S.2.2.2.2)] else none
    | _, _ => none)
  | _ => none)
theorem ev_aastore_ok : ev_Snd ev_aastore := by
  intro p l e R s m args below meth c cc Q D A g0 P t S i n cs Ss X h1 hd hw h2 hk g ws H locs ls sc hle hR
  obtain ⟨hx, hb, hml, hown, hts, hK, hA, hN, hini, hcC, hcS, hf, hlc, hscr⟩ := X
  obtain ⟨pc, L, st, w, K, ce, sl⟩ := S
  have h1 : some ((.aastore : Instr), (1 : Nat), ([] : List Cond)) = some (i, n, cs) := h1
  cases h1
  unfold ev_aastore at h2
  dsimp only at h2
  split at h2
  · rename_i a i x st'
    split at h2
    · rename_i cs j cl hix hcl
      split at h2
      · rename_i ha
        cases h2
        obtain ⟨hP, hD, hS, hW, hB, hL, hs⟩ := hR
        obtain ⟨va, sc1, rfl, hva, hs1⟩ := ev_s_cons hs
        obtain ⟨vi, sc2, rfl, hvi, hs2⟩ := ev_s_cons hs1
        obtain ⟨vx, sc3, rfl, hvx, hs3⟩ := ev_s_cons hs2
        obtain ⟨ad2, y0, rfl, hws2, hcc⟩ := ev_ref1 hW ha.1 hva hcl
        obtain ⟨ad, cA, n, arr, i0, rfl, rfl, hws, hn, hv, hj, hjl, b4, b5, b6, hwc⟩ := ev_ix_ok (by decide) hix hW hvx hvi
        cases y0 with
        | inl z =>
          obtain ⟨tt, c1, c2, -⟩ := hcc
          omega
        | inr o =>
          obtain ⟨ci, vs⟩ := o
          obtain ⟨c1, -⟩ := hcc
          have c1 : ci = 2 := by dsimp only at c1; omega
          subst c1
          rcases arr with f | f | f | f | f
          · have := b6.1; omega
          · have := b6.1; omega
          · exact b6.elim
          · exact b6.elim
          · refine va_astq hx hb (ev_K1 hK b4 b5) hP hD hS _ 0 _ 2 (r := (RX2, TX2, 4)) hws rfl hws2 rfl hv hd (fun H1 locs1 hP1 hD1 hS1 => hk _ (List.mem_singleton.mpr rfl) g _ H1 locs1 ls _ hle ⟨hP1, hD1, hS1, ev_w_set hW hws ⟨3, by decide, rfl, by rw [List.length_set]; exact hn, b4, b5, rfl, ?_⟩, hB, hL, hs3⟩)
            rw [hj]
            exact ev_set_rel (F := va_rf) (v := some ad2) hjl b6.2 hva
      · cases h2
    · cases h2
  · cases h2
def ev_alen : ev_O := (fun _ _ => some (.arraylength, 1, []), fun P _ S => match S.2.2.1 with
  | x :: st => if x.1 = 5 then (if x.2 = 0 ∧ 1 ≤ P.2.2.2.2.2 then some [ev_adv S 1 ((0, (Int32.ofNat (P.2.2.2.2.2 - 1)).toInt) :: st)] else none) else (match S.2.2.2.1[x.2.toNat]? with
    | some cl => if x.1 = 1 ∧ 100 ≤ cl.1 then some [ev_adv S 1 ((0, (Int32.ofNat cl.2.length).toInt) :: st)] else none
    | none => none)
  | _ => none)
theorem ev_alen_ok : ev_Snd ev_alen := by
  intro p l e R s m args below meth c cc Q D A g0 P t S i n cs Ss X h1 hd hw h2 hk g ws H locs ls sc hle hR
  obtain ⟨hx, hb, hml, hown, hts, hK, hA, hN, hini, hcC, hcS, hf, hlc, hscr⟩ := X
  obtain ⟨pc, L, st, w, K, ce, sl⟩ := S
  have h1 : some ((.arraylength : Instr), (1 : Nat), ([] : List Cond)) = some (i, n, cs) := h1
  cases h1
  unfold ev_alen at h2
  dsimp only at h2
  split at h2
  · rename_i x st'
    obtain ⟨hP, hD, hS, hW, hB, hL, hs⟩ := hR
    obtain ⟨vx, sc1, rfl, hvx, hs1⟩ := ev_s_cons hs
    split at h2
    · rename_i h5
      split at h2
      · rename_i hc
        cases h2
        obtain ⟨xt, xn⟩ := x
        have h5 : xt = 5 := h5
        subst h5
        have hc1 : xn = 0 := hc.1
        subst hc1
        obtain ⟨xs, s1, s2, s3, s4⟩ := hscr (P.2.2.2.2.2 - 1) (by omega)
        have e0 : g.2.1 = g0.2.1 := hle.2.1
        have hvx : vx = .ref (g0.2.1 0) := by rw [← e0]; exact (Option.some.inj hvx).symm
        subst hvx
        exact va_slen hx hb s1 s2 s3 hS hd (hk _ (List.mem_singleton.mpr rfl) g ws H locs ls _ hle ⟨hP, hD, hS, hW, hB, hL, ev_v0 g _, hs1⟩)
      · cases h2
    · split at h2
      · rename_i cl hcl
        split at h2
        · rename_i hc
          cases h2
          obtain ⟨ad, y0, rfl, hws, hcc⟩ := ev_ref1 hW hc.1 hvx hcl
          cases y0 with
          | inr o =>
            obtain ⟨c1, c2, -⟩ := hcc
            omega
          | inl z =>
            obtain ⟨cA, n, arr⟩ := z
            obtain ⟨tt, c1, c2, c3, c4, c5, c6⟩ := hcc
            exact va_alen hx hb (ev_K1 hK c4 c5) hP _ 0 hws rfl rfl hd (hk _ (List.mem_singleton.mpr rfl) g ws H locs ls _ hle ⟨hP, hD, hS, hW, hB, hL, by dsimp only at c3 ⊢; rw [c3]; exact ev_v0 g _, hs1⟩)
        · cases h2
      · cases h2
  · cases h2
/-- the law's own script: its j-th number is the j-th variable -/
def ev_sald : ev_O := (fun _ _ => some (.iaload, 1, []), fun P _ S => match S.2.2.1 with
  | i :: x :: st => if x.1 = 5 ∧ x.2 = 0 ∧ i.1 = 0 ∧ 1 ≤ P.2.2.2.2.2 ∧ 0 ≤ (Int32.ofInt i.2).toInt ∧ (Int32.ofInt i.2).toInt < ((P.2.2.2.2.2 - 1 : Nat) : Int) then some [ev_adv S 1 ((3, ((Int32.ofInt i.2).toNatClampNeg : Int)) :: st)] else none
  | _ => none)
theorem ev_sald_ok : ev_Snd ev_sald := by
  intro p l e R s m args below meth c cc Q D A g0 P t S i n cs Ss X h1 hd hw h2 hk g ws H locs ls sc hle hR
  obtain ⟨hx, hb, hml, hown, hts, hK, hA, hN, hini, hcC, hcS, hf, hlc, hscr⟩ := X
  obtain ⟨pc, L, st, w, K, ce, sl⟩ := S
  have h1 : some ((.iaload : Instr), (1 : Nat), ([] : List Cond)) = some (i, n, cs) := h1
  cases h1
  unfold ev_sald at h2
  dsimp only at h2
  split at h2
  · rename_i i x st'
    split at h2
    · rename_i hc
      cases h2
      obtain ⟨h5, h50, hi0, hL1, hi1, hi2⟩ := hc
      obtain ⟨hP, hD, hS, hW, hB, hL, hs⟩ := hR
      obtain ⟨vi, sc1, rfl, hvi, hs1⟩ := ev_s_cons hs
      obtain ⟨vx, sc2, rfl, hvx, hs2⟩ := ev_s_cons hs1
      obtain ⟨xt, xn⟩ := x
      have h5 : xt = 5 := h5
      subst h5
      have h50 : xn = 0 := h50
      subst h50
      obtain ⟨it, iv⟩ := i
      have hi0 : it = 0 := hi0
      subst hi0
      have hvi : vi = .int (Int32.ofInt iv) := (Option.some.inj hvi).symm
      subst hvi
      obtain ⟨xs, s1, s2, s3, s4⟩ := hscr (P.2.2.2.2.2 - 1) (by omega)
      have e0 : g.2.1 = g0.2.1 := hle.2.1
      have hvx : vx = .ref (g0.2.1 0) := by rw [← e0]; exact (Option.some.inj hvx).symm
      subst hvx
      have hv : vp_in (Int32.ofInt iv) (P.2.2.2.2.2 - 1) := by rw [vp_in_iff]; exact ⟨hi1, hi2⟩
      have hj : (Int32.ofInt iv).toNatClampNeg < P.2.2.2.2.2 - 1 := by
        have h9 := hv
        unfold vp_in at h9
        exact Nat.lt_of_not_le (fun q => h9 (Or.inr q))
      obtain ⟨l3, e3⟩ := hle.2.2
      have he : g.2.2[(Int32.ofInt iv).toNatClampNeg]? = some (.int (xs (Int32.ofInt iv).toNatClampNeg)) := by rw [e3]; exact ev_ap (s4 _ hj)
      exact va_sld hx hb s1 s2 s3 hS hv hd (hk _ (List.mem_singleton.mpr rfl) g ws H locs ls _ hle ⟨hP, hD, hS, hW, hB, hL, ev_v3 he, hs2⟩)
    · cases h2
  · cases h2
/-! calls of the library by one row -/
def ev_oinit : ev_O := (fun P t => some (.invokespecial t.1.toNat, 3, [.methodLink P.2.2.2.1 t.1.toNat objectInit, .instanceMethod objectInit, .code objectInit ⟨#[0xb1]⟩ 1 none]), fun _ _ S => match S.2.2.1 with
  | x :: st => if ev_isR x = true ∧ ev_cs st ≤ 8 then some [ev_adv S 3 st] else none
  | _ => none)
theorem ev_oinit_ok : ev_Snd ev_oinit := by
  intro p l e R s m args below meth c cc Q D A g0 P t S i n cs Ss X h1 hd hw h2 hk g ws H locs ls sc hle hR
  obtain ⟨hx, hb, hml, hown, hts, hK, hA, hN, hini, hcC, hcS, hf, hlc, hscr⟩ := X
  obtain ⟨pc, L, st, w, K, ce, sl⟩ := S
  have h1 : some ((.invokespecial t.1.toNat : Instr), (3 : Nat), ([.methodLink P.2.2.2.1 t.1.toNat objectInit, .instanceMethod objectInit, .code objectInit ⟨#[0xb1]⟩ 1 none] : List Cond)) = some (i, n, cs) := h1
  cases h1
  unfold ev_oinit at h2
  dsimp only at h2
  split at h2
  · rename_i x st'
    split at h2
    · rename_i hc
      cases h2
      obtain ⟨hP, hD, hS, hW, hB, hL, hs⟩ := hR
      obtain ⟨vx, sc1, rfl, hvx, hs1⟩ := ev_s_cons hs
      obtain ⟨ad, rfl⟩ := ev_vR hc.1 hvx
      refine W.objInit hx hb hown (hts _ (hw _ (by simp))) (hts _ (hw _ (by simp))) (hts _ (hw _ (by simp))) (g := F0 m pc ls (.ref ad :: sc1)) rfl (hL.1.trans hml.symm) (a := ad) (rest := sc1) rfl hd hf ?_ (hk _ (List.mem_singleton.mpr rfl) g ws H locs ls _ hle ⟨hP, hD, hS, hW, hB, hL, hs1⟩)
      rw [ev_cs_ok hs1]
      show 2 * 0 + _ + 12 ≤ _
      omega
    · cases h2
  · cases h2

def ev_mmin : ev_O := (fun P t => some (.invokestatic t.1.toNat, 3, [.methodLink P.2.2.2.1 t.1.toNat Lib.Math.min.name, .static Lib.Math.min.name, .initialized "java/lang/Math", .code Lib.Math.min.name Lib.Math.min.code 2 (some .int)]), fun P _ S => match S.2.2.1 with
  | _ :: _ :: st => if ev_cs st ≤ 8 ∧ S.2.2.2.2.2.1 ≤ P.1 ∧ S.2.2.2.2.2.2 ≤ P.2.1 then ev_bin (fun x y => if y < x then y else x) (fun _ => true) 3 S else none
  | _ => none)
theorem ev_mmin_ok : ev_Snd ev_mmin := by
  intro p l e R s m args below meth c cc Q D A g0 P t S i n cs Ss X h1 hd hw h2 hk g ws H locs ls sc hle hR
  obtain ⟨hx, hb, hml, hown, hts, hK, hA, hN, hini, hcC, hcS, hf, hlc, hscr⟩ := X
  obtain ⟨pc, L, st, w, K, ce, sl⟩ := S
  have h1 : some ((.invokestatic t.1.toNat : Instr), (3 : Nat), ([.methodLink P.2.2.2.1 t.1.toNat Lib.Math.min.name, .static Lib.Math.min.name, .initialized "java/lang/Math", .code Lib.Math.min.name Lib.Math.min.code 2 (some .int)] : List Cond)) = some (i, n, cs) := h1
  cases h1
  unfold ev_mmin at h2
  dsimp only at h2
  split at h2
  · rename_i y x st'
    split at h2
    · rename_i hc
      have hs0 := hR.2.2.2.2.2.2
      have hl0 := hR.2.2.2.2.2.1.1
      obtain ⟨x0, y0, rest, S', rfl, hy, rfl, e1, e2, g', l1, hR'⟩ := ev_bin_ok (fun x y => if y < x then y else x) (fun _ => true) (fun _ _ => rfl) h2 hR
      have hsum := ev_cs_ok hs0.2.2
      exact va_mmin hx hb (hml.trans hl0.symm) hown (hts _ (hw _ (by simp))) (hts _ (hw _ (by simp))) (hts _ (hw _ (by simp))) (hts _ (hw _ (by simp))) hf (by omega) (by rw [hcC]; exact hc.2.1) (by rw [hcS]; exact hc.2.2) hd (ev_Go_eq (hk S' (List.mem_singleton.mpr rfl)) e1 e2 (ev_le_tr hle l1) hR')
    · cases h2
  · cases h2

def ev_ldc : ev_O := (fun P t => some (.ldc t.2.1.toNat, 2, [.constant P.2.2.2.1 t.2.1.toNat (Int32.ofInt t.1)]), fun _ t S => some [ev_adv S 2 ((0, (Int32.ofInt t.1).toInt) :: S.2.2.1)])
theorem ev_ldc_ok : ev_Snd ev_ldc := by
  intro p l e R s m args below meth c cc Q D A g0 P t S i n cs Ss X h1 hd hw h2 hk g ws H locs ls sc hle hR
  obtain ⟨hx, hb, hml, hown, hts, hK, hA, hN, hini, hcC, hcS, hf, hlc, hscr⟩ := X
  obtain ⟨pc, L, st, w, K, ce, sl⟩ := S
  have h1 : some ((.ldc t.2.1.toNat : Instr), (2 : Nat), ([.constant P.2.2.2.1 t.2.1.toNat (Int32.ofInt t.1)] : List Cond)) = some (i, n, cs) := h1
  cases h1
  have h2 : some [ev_adv (pc, L, st, w, K, ce, sl) 2 ((0, (Int32.ofInt t.1).toInt) :: st)] = some Ss := h2
  cases h2
  obtain ⟨hP, hD, hS, hW, hB, hL, hs⟩ := hR
  exact W.ldc hx hb hown (hts _ (hw _ (List.mem_singleton.mpr rfl))) (g := F0 m pc ls sc) rfl hd (hk _ (List.mem_singleton.mpr rfl) g ws H locs ls _ hle ⟨hP, hD, hS, hW, hB, hL, ev_v0 g _, hs⟩)

/-! text constants -/
def ev_ldcS : ev_O := (fun P t => match ev_strs[t.1.toNat]? with
  | some r => if r.1 = P.2.2.2.1 then some (.ldc r.2.1, 2, []) else none
  | none => none, fun _ t S => some [ev_adv S 2 ((5, 1 + 2 * (t.1.toNat : Int)) :: S.2.2.1)])
theorem ev_x5 {g : ev_G} {k : Nat} : ev_v g (5, 1 + 2 * (k : Int)) = some (.ref (g.2.1 (1 + 2 * k))) := by
  show some (Value.ref (g.2.1 (1 + 2 * (k : Int)).toNat)) = _
  rw [show (1 + 2 * (k : Int)).toNat = 1 + 2 * k by omega]
theorem ev_ldcS_ok : ev_Snd ev_ldcS := by
  intro p l e R s m args below meth c cc Q D A g0 P t S i n cs Ss X h1 hd hw h2 hk g ws H locs ls sc hle hR
  obtain ⟨hx, hb, hml, hown, hts, hK, hA, hN, hini, hcC, hcS, hf, hlc, hscr⟩ := X
  obtain ⟨pc, L, st, w, K, ce, sl⟩ := S
  unfold ev_ldcS at h1
  dsimp only at h1
  have h2 : some [ev_adv (pc, L, st, w, K, ce, sl) 2 ((5, 1 + 2 * (t.1.toNat : Int)) :: st)] = some Ss := h2
  cases h2
  split at h1
  · rename_i r hr
    split at h1
    · rename_i ho
      cases h1
      obtain ⟨hP, hD, hS, hW, hB, hL, hs⟩ := hR
      have e0 : g.2.1 = g0.2.1 := hle.2.1
      have hz := hN.2.1 _ r hr
      rw [ho] at hz
      exact va_ldcS hx hb hown hz hd (hk _ (List.mem_singleton.mpr rfl) g ws H locs ls _ hle ⟨hP, hD, hS, hW, hB, hL, by rw [← e0]; exact ev_x5, hs⟩)
    · cases h1
  · cases h1
/-- a text, by its value -/
def ev_isS (a : ev_A) : Bool := a.1 == 5 && (decide (a.2.toNat % 2 = 1) && decide (a.2.toNat / 2 < 40))
theorem ev_isS_ok {a : ev_A} {g : ev_G} {v : Value} (h : ev_isS a = true) (hv : ev_v g a = some v) : ∃ r, ev_strs[a.2.toNat / 2]? = some r ∧ a.2.toNat = 1 + 2 * (a.2.toNat / 2) ∧ v = .ref (g.2.1 (1 + 2 * (a.2.toNat / 2))) := by
  simp only [ev_isS, Bool.and_eq_true, beq_iff_eq, decide_eq_true_eq] at h
  obtain ⟨h1, h2, h3⟩ := h
  obtain ⟨t, n⟩ := a
  have h1 : t = 5 := h1
  subst h1
  dsimp only at h2 h3 ⊢
  refine ⟨_, List.getElem?_eq_getElem (show n.toNat / 2 < ev_strs.length from h3), by omega, ?_⟩
  rw [show 1 + 2 * (n.toNat / 2) = n.toNat by omega]
  exact (Option.some.inj hv).symm
def ev_getV : ev_O := (fun P t => some (.getfield t.1.toNat, 3, [.fieldLink P.2.2.2.1 t.1.toNat "java/lang/String" "value" "[B"]), fun _ _ S => match S.2.2.1 with
  | x :: st => if ev_isS x = true then some [ev_adv S 3 ((5, 2 + 2 * ((x.2.toNat / 2 : Nat) : Int)) :: st)] else none
  | _ => none)
theorem ev_x52 {g : ev_G} {k : Nat} : ev_v g (5, 2 + 2 * (k : Int)) = some (.ref (g.2.1 (2 + 2 * k))) := by
  show some (Value.ref (g.2.1 (2 + 2 * (k : Int)).toNat)) = _
  rw [show (2 + 2 * (k : Int)).toNat = 2 + 2 * k by omega]
theorem ev_getV_ok : ev_Snd ev_getV := by
  intro p l e R s m args below meth c cc Q D A g0 P t S i n cs Ss X h1 hd hw h2 hk g ws H locs ls sc hle hR
  obtain ⟨hx, hb, hml, hown, hts, hK, hA, hN, hini, hcC, hcS, hf, hlc, hscr⟩ := X
  obtain ⟨pc, L, st, w, K, ce, sl⟩ := S
  have h1 : some ((.getfield t.1.toNat : Instr), (3 : Nat), ([.fieldLink P.2.2.2.1 t.1.toNat "java/lang/String" "value" "[B"] : List Cond)) = some (i, n, cs) := h1
  cases h1
  unfold ev_getV at h2
  dsimp only at h2
  split at h2
  · rename_i x st'
    split at h2
    · rename_i hc
      cases h2
      obtain ⟨hP, hD, hS, hW, hB, hL, hs⟩ := hR
      obtain ⟨vx, sc1, rfl, hvx, hs1⟩ := ev_s_cons hs
      obtain ⟨r, hr, e1, rfl⟩ := ev_isS_ok hc hvx
      have e0 : g.2.1 = g0.2.1 := hle.2.1
      rw [e0]
      exact vk_getf hx hb (hN.2.2.1 _ r hr).2.2.1 hS hown (hts _ (hw _ (List.mem_singleton.mpr rfl))) (fun _ h => h) hd (hk _ (List.mem_singleton.mpr rfl) g ws H locs ls _ hle ⟨hP, hD, hS, hW, hB, hL, by rw [← e0]; exact ev_x52, hs1⟩)
    · cases h2
  · cases h2
def ev_getC : ev_O := (fun P t => some (.getfield t.1.toNat, 3, [.fieldLink P.2.2.2.1 t.1.toNat "java/lang/String" "coder" "B"]), fun _ _ S => match S.2.2.1 with
  | x :: st => if ev_isS x = true then some [ev_adv S 3 ((0, 0) :: st)] else none
  | _ => none)
theorem ev_getC_ok : ev_Snd ev_getC := by
  intro p l e R s m args below meth c cc Q D A g0 P t S i n cs Ss X h1 hd hw h2 hk g ws H locs ls sc hle hR
  obtain ⟨hx, hb, hml, hown, hts, hK, hA, hN, hini, hcC, hcS, hf, hlc, hscr⟩ := X
  obtain ⟨pc, L, st, w, K, ce, sl⟩ := S
  have h1 : some ((.getfield t.1.toNat : Instr), (3 : Nat), ([.fieldLink P.2.2.2.1 t.1.toNat "java/lang/String" "coder" "B"] : List Cond)) = some (i, n, cs) := h1
  cases h1
  unfold ev_getC at h2
  dsimp only at h2
  split at h2
  · rename_i x st'
    split at h2
    · rename_i hc
      cases h2
      obtain ⟨hP, hD, hS, hW, hB, hL, hs⟩ := hR
      obtain ⟨vx, sc1, rfl, hvx, hs1⟩ := ev_s_cons hs
      obtain ⟨r, hr, e1, rfl⟩ := ev_isS_ok hc hvx
      have e0 : g.2.1 = g0.2.1 := hle.2.1
      rw [e0]
      exact vk_getf hx hb (hN.2.2.1 _ r hr).2.1 hS hown (hts _ (hw _ (List.mem_singleton.mpr rfl))) (fun _ h => h) hd (hk _ (List.mem_singleton.mpr rfl) g ws H locs ls _ hle ⟨hP, hD, hS, hW, hB, hL, rfl, hs1⟩)
    · cases h2
  · cases h2
def ev_gets : ev_O := (fun P t => some (.getstatic t.1.toNat, 3, [.fieldLink P.2.2.2.1 t.1.toNat "java/lang/String" "COMPACT_STRINGS" "Z"]), fun _ _ S => some [ev_adv S 3 ((0, 1) :: S.2.2.1)])
theorem ev_gets_ok : ev_Snd ev_gets := by
  intro p l e R s m args below meth c cc Q D A g0 P t S i n cs Ss X h1 hd hw h2 hk g ws H locs ls sc hle hR
  obtain ⟨hx, hb, hml, hown, hts, hK, hA, hN, hini, hcC, hcS, hf, hlc, hscr⟩ := X
  obtain ⟨pc, L, st, w, K, ce, sl⟩ := S
  have h1 : some ((.getstatic t.1.toNat : Instr), (3 : Nat), ([.fieldLink P.2.2.2.1 t.1.toNat "java/lang/String" "COMPACT_STRINGS" "Z"] : List Cond)) = some (i, n, cs) := h1
  cases h1
  have h2 : some [ev_adv (pc, L, st, w, K, ce, sl) 3 ((0, 1) :: st)] = some Ss := h2
  cases h2
  obtain ⟨hP, hD, hS, hW, hB, hL, hs⟩ := hR
  exact va_gets hx hb hN.2.2.2.1 hS hown (hts _ (hw _ (List.mem_singleton.mpr rfl))) (fun _ h => h) hd (hk _ (List.mem_singleton.mpr rfl) g ws H locs ls _ hle ⟨hP, hD, hS, hW, hB, hL, rfl, hs⟩)
/-- a text's bytes -/
def ev_isY (a : ev_A) : Bool := a.1 == 5 && (decide (a.2.toNat % 2 = 0) && (decide (2 ≤ a.2.toNat) && decide (a.2.toNat / 2 - 1 < 40)))
theorem ev_isY_ok {a : ev_A} {g : ev_G} {v : Value} (h : ev_isY a = true) (hv : ev_v g a = some v) : ∃ r, ev_strs[a.2.toNat / 2 - 1]? = some r ∧ v = .ref (g.2.1 (2 + 2 * (a.2.toNat / 2 - 1))) := by
  simp only [ev_isY, Bool.and_eq_true, beq_iff_eq, decide_eq_true_eq] at h
  obtain ⟨h1, h2, h3, h4⟩ := h
  obtain ⟨t, n⟩ := a
  have h1 : t = 5 := h1
  subst h1
  dsimp only at h2 h3 h4 ⊢
  refine ⟨_, List.getElem?_eq_getElem (show n.toNat / 2 - 1 < ev_strs.length from h4), ?_⟩
  rw [show 2 + 2 * (n.toNat / 2 - 1) = n.toNat by omega]
  exact (Option.some.inj hv).symm
def ev_alenS : ev_O := (fun _ _ => some (.arraylength, 1, []), fun _ _ S => match S.2.2.1 with
  | x :: st => if ev_isY x = true then (match ev_strs[x.2.toNat / 2 - 1]? with
    | some r => some [ev_adv S 1 ((0, (Int32.ofNat r.2.2.2.length).toInt) :: st)]
    | none => none) else none
  | _ => none)
theorem ev_alenS_ok : ev_Snd ev_alenS := by
  intro p l e R s m args below meth c cc Q D A g0 P t S i n cs Ss X h1 hd hw h2 hk g ws H locs ls sc hle hR
  obtain ⟨hx, hb, hml, hown, hts, hK, hA, hN, hini, hcC, hcS, hf, hlc, hscr⟩ := X
  obtain ⟨pc, L, st, w, K, ce, sl⟩ := S
  have h1 : some ((.arraylength : Instr), (1 : Nat), ([] : List Cond)) = some (i, n, cs) := h1
  cases h1
  unfold ev_alenS at h2
  dsimp only at h2
  split at h2
  · rename_i x st'
    split at h2
    · rename_i hc
      split at h2
      · rename_i r hr
        cases h2
        obtain ⟨hP, hD, hS, hW, hB, hL, hs⟩ := hR
        obtain ⟨vx, sc1, rfl, hvx, hs1⟩ := ev_s_cons hs
        obtain ⟨r', hr', rfl⟩ := ev_isY_ok hc hvx
        have e0 : g.2.1 = g0.2.1 := hle.2.1
        rw [e0]
        exact va_tlen hx hb (hN.2.2.1 _ r hr).2.2.2 hS rfl hd (hk _ (List.mem_singleton.mpr rfl) g ws H locs ls _ hle ⟨hP, hD, hS, hW, hB, hL, ev_v0 g _, hs1⟩)
      · cases h2
    · cases h2
  · cases h2
def ev_baloadS : ev_O := (fun _ _ => some (.baload, 1, []), fun _ _ S => match S.2.2.1 with
  | i :: x :: st => if ev_isY x = true then (match ev_strs[x.2.toNat / 2 - 1]? with
    | some r => if i.1 = 0 ∧ 0 ≤ (Int32.ofInt i.2).toInt ∧ (Int32.ofInt i.2).toInt < (r.2.2.2.length : Int) then some [ev_adv S 1 ((0, (r.2.2.2.getD (Int32.ofInt i.2).toNatClampNeg 0).toInt) :: st)] else none
    | none => none) else none
  | _ => none)
theorem ev_baloadS_ok : ev_Snd ev_baloadS := by
  intro p l e R s m args below meth c cc Q D A g0 P t S i n cs Ss X h1 hd hw h2 hk g ws H locs ls sc hle hR
  obtain ⟨hx, hb, hml, hown, hts, hK, hA, hN, hini, hcC, hcS, hf, hlc, hscr⟩ := X
  obtain ⟨pc, L, st, w, K, ce, sl⟩ := S
  have h1 : some ((.baload : Instr), (1 : Nat), ([] : List Cond)) = some (i, n, cs) := h1
  cases h1
  unfold ev_baloadS at h2
  dsimp only at h2
  split at h2
  · rename_i i x st'
    split at h2
    · rename_i hc
      split at h2
      · rename_i r hr
        split at h2
        · rename_i hi
          cases h2
          obtain ⟨hP, hD, hS, hW, hB, hL, hs⟩ := hR
          obtain ⟨vi, sc1, rfl, hvi, hs1⟩ := ev_s_cons hs
          obtain ⟨vx, sc2, rfl, hvx, hs2⟩ := ev_s_cons hs1
          obtain ⟨r', hr', rfl⟩ := ev_isY_ok hc hvx
          obtain ⟨it, iv⟩ := i
          have hi0 : it = 0 := hi.1
          subst hi0
          have hvi : vi = .int (Int32.ofInt iv) := (Option.some.inj hvi).symm
          subst hvi
          have e0 : g.2.1 = g0.2.1 := hle.2.1
          rw [e0]
          exact va_tb hx hb (hN.2.2.1 _ r hr).2.2.2 hS (by rw [vp_in_iff]; exact hi.2) rfl hd (hk _ (List.mem_singleton.mpr rfl) g ws H locs ls _ hle ⟨hP, hD, hS, hW, hB, hL, ev_v0 g _, hs2⟩)
        · cases h2
      · cases h2
    · cases h2
  · cases h2
def ev_i2c : ev_O := (fun _ _ => some (.i2c, 1, []), fun _ _ S => ev_una (fun x => (x.toUInt32 % 65536).toInt32) 1 ev_full S)
theorem ev_i2c_ok : ev_Snd ev_i2c := by
  intro p l e R s m args below meth c cc Q D A g0 P t S i n cs Ss X h1 hd hw h2 hk g ws H locs ls sc hle hR
  obtain ⟨hx, hb, hml, hown, hts, hK, hA, hN, hini, hcC, hcS, hf, hlc, hscr⟩ := X
  obtain ⟨pc, L, st, w, K, ce, sl⟩ := S
  have h1 : some ((.i2c : Instr), (1 : Nat), ([] : List Cond)) = some (i, n, cs) := h1
  cases h1
  obtain ⟨x0, rest, S', rfl, rfl, e1, e2, g', l1, hR'⟩ := ev_una_ok (fun x => (x.toUInt32 % 65536).toInt32) ev_full (fun _ => ev_full_ok _) (show ev_una (fun x => (x.toUInt32 % 65536).toInt32) 1 ev_full (pc, L, st, w, K, ce, sl) = some Ss from h2) hR
  exact lv_i2c hx hb hd rfl (ev_Go_eq (hk S' (List.mem_singleton.mpr rfl)) e1 e2 (ev_le_tr hle l1) hR')

/-! longs -/
def ev_binL (f : Int64 → Int64 → Int64) (nz : Bool) (S : ev_S) : Option (List ev_S) := match S.2.2.1 with
  | y :: x :: st =>
    if ev_isL x = true ∧ ev_isL y = true then
      (if x.1 = 4 ∧ y.1 = 4 then (if nz = false ∨ ¬ Int64.ofInt y.2 = 0 then some [ev_adv S 1 ((4, (f (Int64.ofInt x.2) (Int64.ofInt y.2)).toInt) :: st)] else none)
       else if nz = false then some [ev_advK S 1 ((6, (S.2.2.2.2.1.length : Int)) :: st) ev_full] else none)
    else none
  | _ => none
theorem ev_binL_ok (f : Int64 → Int64 → Int64) (nz : Bool) {pc : Nat} {L : List (Nat × ev_A)} {st : List ev_A} {w : List ev_C} {K : ev_K} {ce sl : Nat} {Ss : List ev_S} (h : ev_binL f nz (pc, L, st, w, K, ce, sl) = some Ss)
    {s : State} {A : Nat → Prop} {D : va_G} {nL : Nat} {g : ev_G} {ws : va_W} {H : Heap} {locs : List Loc} {ls : Array Slot} {sc : List Value} (hR : ev_R s A D nL g (pc, L, st, w, K, ce, sl) ws H locs ls sc) :
    ∃ (x y : Int64) (rest : List Value) (S' : ev_S), sc = .long y :: .long x :: rest ∧ (nz = false ∨ ¬ y = 0) ∧ Ss = [S'] ∧ S'.1 = pc + 1 ∧ S'.2.2.2.2.2 = (ce, sl) ∧ ∃ g', ev_le g g' ∧ ev_R s A D nL g' S' ws H locs ls (.long (f x y) :: rest) := by
  unfold ev_binL at h
  split at h
  · rename_i y x st' e
    dsimp only at e
    subst e
    split at h
    · rename_i hi
      have hR0 := hR
      obtain ⟨hP, hD, hS, hW, hB, hL, hs⟩ := hR0
      obtain ⟨vy, sc1, rfl, hvy, hs1⟩ := ev_s_cons hs
      obtain ⟨vx, sc2, rfl, hvx, hs2⟩ := ev_s_cons hs1
      obtain ⟨y0, rfl⟩ := ev_vL hi.2 hvy
      obtain ⟨x0, rfl⟩ := ev_vL hi.1 hvx
      split at h
      · rename_i hz
        split at h
        · rename_i hy
          cases h
          obtain ⟨xt, xn⟩ := x
          obtain ⟨yt, yn⟩ := y
          obtain ⟨rfl, rfl⟩ := hz
          have ex : Int64.ofInt xn = x0 := Value.long.inj (Option.some.inj hvx)
          have ey : Int64.ofInt yn = y0 := Value.long.inj (Option.some.inj hvy)
          dsimp only at hy ⊢
          rw [ex, ey]
          exact ⟨x0, y0, sc2, _, rfl, by rw [← ey]; exact hy, rfl, rfl, rfl, g, ev_le_rf g, hP, hD, hS, hW, hB, hL, ev_v4 g _, hs2⟩
        · cases h
      · split at h
        · rename_i hz
          cases h
          obtain ⟨g', l1, ⟨hP, hD, hS, hW, hB, hL, hs⟩, e1⟩ := ev_fresh hR (.long (f x0 y0)) ev_full (fun z hz => by cases hz)
          exact ⟨x0, y0, sc2, _, rfl, Or.inl hz, rfl, rfl, rfl, g', l1, hP, hD, hS, hW, hB, hL, ev_v6 e1, hs.2.2⟩
        · cases h
    · cases h
  · cases h

def ev_ladd : ev_O := (fun _ _ => some (.ladd, 1, []), fun _ _ S => ev_binL (fun x y => x + y) false S)
theorem ev_ladd_ok : ev_Snd ev_ladd := by
  intro p l e R s m args below meth c cc Q D A g0 P t S i n cs Ss X h1 hd hw h2 hk g ws H locs ls sc hle hR
  obtain ⟨hx, hb, hml, hown, hts, hK, hA, hN, hini, hcC, hcS, hf, hlc, hscr⟩ := X
  obtain ⟨pc, L, st, w, K, ce, sl⟩ := S
  have h1 : some ((.ladd : Instr), (1 : Nat), ([] : List Cond)) = some (i, n, cs) := h1
  cases h1
  obtain ⟨x0, y0, rest, S', rfl, hy, rfl, e1, e2, g', l1, hR'⟩ := ev_binL_ok (fun x y => x + y) false (show ev_binL (fun x y => x + y) false (pc, L, st, w, K, ce, sl) = some Ss from h2) hR
  exact lv_ladd hx hb hd (ev_Go_eq (hk S' (List.mem_singleton.mpr rfl)) e1 e2 (ev_le_tr hle l1) hR')

def ev_lsub : ev_O := (fun _ _ => some (.lsub, 1, []), fun _ _ S => ev_binL (fun x y => x - y) false S)
theorem ev_lsub_ok : ev_Snd ev_lsub := by
  intro p l e R s m args below meth c cc Q D A g0 P t S i n cs Ss X h1 hd hw h2 hk g ws H locs ls sc hle hR
  obtain ⟨hx, hb, hml, hown, hts, hK, hA, hN, hini, hcC, hcS, hf, hlc, hscr⟩ := X
  obtain ⟨pc, L, st, w, K, ce, sl⟩ := S
  have h1 : some ((.lsub : Instr), (1 : Nat), ([] : List Cond)) = some (i, n, cs) := h1
  cases h1
  obtain ⟨x0, y0, rest, S', rfl, hy, rfl, e1, e2, g', l1, hR'⟩ := ev_binL_ok (fun x y => x - y) false (show ev_binL (fun x y => x - y) false (pc, L, st, w, K, ce, sl) = some Ss from h2) hR
  exact lv_lsub hx hb hd (ev_Go_eq (hk S' (List.mem_singleton.mpr rfl)) e1 e2 (ev_le_tr hle l1) hR')

def ev_lmul : ev_O := (fun _ _ => some (.lmul, 1, []), fun _ _ S => ev_binL (fun x y => x * y) false S)
theorem ev_lmul_ok : ev_Snd ev_lmul := by
  intro p l e R s m args below meth c cc Q D A g0 P t S i n cs Ss X h1 hd hw h2 hk g ws H locs ls sc hle hR
  obtain ⟨hx, hb, hml, hown, hts, hK, hA, hN, hini, hcC, hcS, hf, hlc, hscr⟩ := X
  obtain ⟨pc, L, st, w, K, ce, sl⟩ := S
  have h1 : some ((.lmul : Instr), (1 : Nat), ([] : List Cond)) = some (i, n, cs) := h1
  cases h1
  obtain ⟨x0, y0, rest, S', rfl, hy, rfl, e1, e2, g', l1, hR'⟩ := ev_binL_ok (fun x y => x * y) false (show ev_binL (fun x y => x * y) false (pc, L, st, w, K, ce, sl) = some Ss from h2) hR
  exact lv_lmul hx hb hd (ev_Go_eq (hk S' (List.mem_singleton.mpr rfl)) e1 e2 (ev_le_tr hle l1) hR')

def ev_ldiv : ev_O := (fun _ _ => some (.ldiv, 1, []), fun _ _ S => ev_binL (fun x y => x / y) true S)
theorem ev_ldiv_ok : ev_Snd ev_ldiv := by
  intro p l e R s m args below meth c cc Q D A g0 P t S i n cs Ss X h1 hd hw h2 hk g ws H locs ls sc hle hR
  obtain ⟨hx, hb, hml, hown, hts, hK, hA, hN, hini, hcC, hcS, hf, hlc, hscr⟩ := X
  obtain ⟨pc, L, st, w, K, ce, sl⟩ := S
  have h1 : some ((.ldiv : Instr), (1 : Nat), ([] : List Cond)) = some (i, n, cs) := h1
  cases h1
  obtain ⟨x0, y0, rest, S', rfl, hy, rfl, e1, e2, g', l1, hR'⟩ := ev_binL_ok (fun x y => x / y) true (show ev_binL (fun x y => x / y) true (pc, L, st, w, K, ce, sl) = some Ss from h2) hR
  exact lv_ldiv hx hb hd (by rcases hy with hy | hy; cases hy; exact hy) (ev_Go_eq (hk S' (List.mem_singleton.mpr rfl)) e1 e2 (ev_le_tr hle l1) hR')

def ev_lrem : ev_O := (fun _ _ => some (.lrem, 1, []), fun _ _ S => ev_binL (fun x y => x - x / y * y) true S)
theorem ev_lrem_ok : ev_Snd ev_lrem := by
  intro p l e R s m args below meth c cc Q D A g0 P t S i n cs Ss X h1 hd hw h2 hk g ws H locs ls sc hle hR
  obtain ⟨hx, hb, hml, hown, hts, hK, hA, hN, hini, hcC, hcS, hf, hlc, hscr⟩ := X
  obtain ⟨pc, L, st, w, K, ce, sl⟩ := S
  have h1 : some ((.lrem : Instr), (1 : Nat), ([] : List Cond)) = some (i, n, cs) := h1
  cases h1
  obtain ⟨x0, y0, rest, S', rfl, hy, rfl, e1, e2, g', l1, hR'⟩ := ev_binL_ok (fun x y => x - x / y * y) true (show ev_binL (fun x y => x - x / y * y) true (pc, L, st, w, K, ce, sl) = some Ss from h2) hR
  exact lv_lrem hx hb hd (by rcases hy with hy | hy; cases hy; exact hy) (ev_Go_eq (hk S' (List.mem_singleton.mpr rfl)) e1 e2 (ev_le_tr hle l1) hR')

def ev_ldc2 : ev_O := (fun P t => some (.ldc2_w t.2.1.toNat, 3, [.constantLong P.2.2.2.1 t.2.1.toNat (Int64.ofInt t.1)]), fun _ t S => some [ev_adv S 3 ((4, (Int64.ofInt t.1).toInt) :: S.2.2.1)])
theorem ev_ldc2_ok : ev_Snd ev_ldc2 := by
  intro p l e R s m args below meth c cc Q D A g0 P t S i n cs Ss X h1 hd hw h2 hk g ws H locs ls sc hle hR
  obtain ⟨hx, hb, hml, hown, hts, hK, hA, hN, hini, hcC, hcS, hf, hlc, hscr⟩ := X
  obtain ⟨pc, L, st, w, K, ce, sl⟩ := S
  have h1 : some ((.ldc2_w t.2.1.toNat : Instr), (3 : Nat), ([.constantLong P.2.2.2.1 t.2.1.toNat (Int64.ofInt t.1)] : List Cond)) = some (i, n, cs) := h1
  cases h1
  have h2 : some [ev_adv (pc, L, st, w, K, ce, sl) 3 ((4, (Int64.ofInt t.1).toInt) :: st)] = some Ss := h2
  cases h2
  obtain ⟨hP, hD, hS, hW, hB, hL, hs⟩ := hR
  exact W.ldc2 hx hb hown (hts _ (hw _ (List.mem_singleton.mpr rfl))) (g := F0 m pc ls sc) rfl hd (hk _ (List.mem_singleton.mpr rfl) g ws H locs ls _ hle ⟨hP, hD, hS, hW, hB, hL, ev_v4 g _, hs⟩)

/-- a static of which only this is known: null, or a cell -/
def ev_getsF : ev_O := (fun P t => some (.getstatic t.1.toNat, 3, [.fieldLink P.2.2.2.1 t.1.toNat "jdk/internal/util/Preconditions" "SIOOBE_FORMATTER" "Ljava/util/function/BiFunction;"]), fun _ _ S => some [ev_advK S 3 ((7, (S.2.2.2.2.1.length : Int)) :: S.2.2.1) ev_full])
theorem ev_getsF_ok : ev_Snd ev_getsF := by
  intro p l e R s m args below meth c cc Q D A g0 P t S i n cs Ss X h1 hd hw h2 hk g ws H locs ls sc hle hR
  obtain ⟨hx, hb, hml, hown, hts, hK, hA, hN, hini, hcC, hcS, hf, hlc, hscr⟩ := X
  obtain ⟨pc, L, st, w, K, ce, sl⟩ := S
  have h1 : some ((.getstatic t.1.toNat : Instr), (3 : Nat), ([.fieldLink P.2.2.2.1 t.1.toNat "jdk/internal/util/Preconditions" "SIOOBE_FORMATTER" "Ljava/util/function/BiFunction;"] : List Cond)) = some (i, n, cs) := h1
  cases h1
  have h2 : some [ev_advK (pc, L, st, w, K, ce, sl) 3 ((7, (K.length : Int)) :: st) ev_full] = some Ss := h2
  cases h2
  rcases hN.2.2.2.2 with hz | ⟨q, hz⟩
  · obtain ⟨g', l1, ⟨hP, hD, hS, hW, hB, hL, hs⟩, e1⟩ := ev_fresh hR .null ev_full (fun z hz => by cases hz)
    exact va_gets hx hb hz hS hown (hts _ (hw _ (List.mem_singleton.mpr rfl))) (fun _ h => h) hd (hk _ (List.mem_singleton.mpr rfl) g' ws H locs ls _ (ev_le_tr hle l1) ⟨hP, hD, hS, hW, hB, hL, by simp [ev_v, e1], hs⟩)
  · obtain ⟨g', l1, ⟨hP, hD, hS, hW, hB, hL, hs⟩, e1⟩ := ev_fresh hR (.ref q) ev_full (fun z hz => by cases hz)
    exact va_gets hx hb hz hS hown (hts _ (hw _ (List.mem_singleton.mpr rfl))) (fun _ h => h) hd (hk _ (List.mem_singleton.mpr rfl) g' ws H locs ls _ (ev_le_tr hle l1) ⟨hP, hD, hS, hW, hB, hL, by simp [ev_v, e1], hs⟩)

def ev_ldcw : ev_O := (fun P t => some (.ldc_w t.2.1.toNat, 3, [.constant P.2.2.2.1 t.2.1.toNat (Int32.ofInt t.1)]), fun _ t S => some [ev_adv S 3 ((0, (Int32.ofInt t.1).toInt) :: S.2.2.1)])
theorem ev_ldcw_ok : ev_Snd ev_ldcw := by
  intro p l e R s m args below meth c cc Q D A g0 P t S i n cs Ss X h1 hd hw h2 hk g ws H locs ls sc hle hR
  obtain ⟨hx, hb, hml, hown, hts, hK, hA, hN, hini, hcC, hcS, hf, hlc, hscr⟩ := X
  obtain ⟨pc, L, st, w, K, ce, sl⟩ := S
  have h1 : some ((.ldc_w t.2.1.toNat : Instr), (3 : Nat), ([.constant P.2.2.2.1 t.2.1.toNat (Int32.ofInt t.1)] : List Cond)) = some (i, n, cs) := h1
  cases h1
  have h2 : some [ev_adv (pc, L, st, w, K, ce, sl) 3 ((0, (Int32.ofInt t.1).toInt) :: st)] = some Ss := h2
  cases h2
  obtain ⟨hP, hD, hS, hW, hB, hL, hs⟩ := hR
  exact lv_ldcw hx hb hown (hts _ (hw _ (List.mem_singleton.mpr rfl))) hd (hk _ (List.mem_singleton.mpr rfl) g ws H locs ls _ hle ⟨hP, hD, hS, hW, hB, hL, ev_v0 g _, hs⟩)
end
section
/-! THE RUN: rows of a method by their places, calls, ends -/
abbrev ev_Row : Type := Nat × ev_T
abbrev ev_MI : Type := MethodName × ByteArray × Nat × Option FieldType × Nat × Nat × List (Nat × ev_Row)
abbrev ev_Out : Type := Option ev_A × List ev_C × ev_K
def ev_ops : List ev_O := [ev_iconst, ev_bipush, ev_sipush, ev_lconst, ev_iload, ev_iloadn, ev_lload, ev_lloadn, ev_aload, ev_aloadn, ev_istore, ev_istoren, ev_lstore, ev_lstoren, ev_astore, ev_astoren,
  ev_iadd, ev_isub, ev_imul, ev_iand, ev_ior, ev_ixor, ev_ishl, ev_ishr, ev_iushr, ev_idiv, ev_irem, ev_ineg, ev_i2b, ev_i2l, ev_lcmp, ev_dup, ev_pop, ev_dup2, ev_iinc,
  ev_icmp_eq, ev_icmp_ne, ev_icmp_lt, ev_icmp_ge, ev_icmp_gt, ev_icmp_le, ev_if_eq, ev_if_ne, ev_if_lt, ev_if_ge, ev_if_gt, ev_if_le, ev_goto, ev_sw,
  ev_get, ev_put, ev_putF, ev_iaload, ev_baload, ev_laload, ev_aaload, ev_iastore, ev_bastore, ev_newI, ev_newB, ev_newJ, ev_newQ, ev_new, ev_aastore, ev_alen, ev_sald, ev_oinit, ev_mmin, ev_ldc, ev_ldcS, ev_getV, ev_getC, ev_gets, ev_alenS, ev_baloadS, ev_i2c, ev_ladd, ev_lsub, ev_lmul, ev_ldiv, ev_lrem, ev_ldc2, ev_getsF, ev_ldcw]
theorem ev_c1 {o : ev_O} {l : List ev_O} (h : ev_Snd o) (h2 : ∀ o ∈ l, ev_Snd o) : ∀ o' ∈ o :: l, ev_Snd o' := List.forall_mem_cons.mpr ⟨h, h2⟩
theorem ev_ops_ok : ∀ o ∈ ev_ops, ev_Snd o :=
  ev_c1 ev_iconst_ok (ev_c1 ev_bipush_ok (ev_c1 ev_sipush_ok (ev_c1 ev_lconst_ok (ev_c1 ev_iload_ok (ev_c1 ev_iloadn_ok (ev_c1 ev_lload_ok (ev_c1 ev_lloadn_ok (ev_c1 ev_aload_ok (ev_c1 ev_aloadn_ok (ev_c1 ev_istore_ok (ev_c1 ev_istoren_ok (ev_c1 ev_lstore_ok (ev_c1 ev_lstoren_ok (ev_c1 ev_astore_ok (ev_c1 ev_astoren_ok
  (ev_c1 ev_iadd_ok (ev_c1 ev_isub_ok (ev_c1 ev_imul_ok (ev_c1 ev_iand_ok (ev_c1 ev_ior_ok (ev_c1 ev_ixor_ok (ev_c1 ev_ishl_ok (ev_c1 ev_ishr_ok (ev_c1 ev_iushr_ok (ev_c1 ev_idiv_ok (ev_c1 ev_irem_ok (ev_c1 ev_ineg_ok (ev_c1 ev_i2b_ok (ev_c1 ev_i2l_ok (ev_c1 ev_lcmp_ok (ev_c1 ev_dup_ok (ev_c1 ev_pop_ok (ev_c1 ev_dup2_ok (ev_c1 ev_iinc_ok
  (ev_c1 ev_icmp_eq_ok (ev_c1 ev_icmp_ne_ok (ev_c1 ev_icmp_lt_ok (ev_c1 ev_icmp_ge_ok (ev_c1 ev_icmp_gt_ok (ev_c1 ev_icmp_le_ok (ev_c1 ev_if_eq_ok (ev_c1 ev_if_ne_ok (ev_c1 ev_if_lt_ok (ev_c1 ev_if_ge_ok (ev_c1 ev_if_gt_ok (ev_c1 ev_if_le_ok (ev_c1 ev_goto_ok (ev_c1 ev_sw_ok
  (ev_c1 ev_get_ok (ev_c1 ev_put_ok (ev_c1 ev_putF_ok (ev_c1 ev_iaload_ok (ev_c1 ev_baload_ok (ev_c1 ev_laload_ok (ev_c1 ev_aaload_ok (ev_c1 ev_iastore_ok (ev_c1 ev_bastore_ok (ev_c1 ev_newI_ok (ev_c1 ev_newB_ok (ev_c1 ev_newJ_ok (ev_c1 ev_newQ_ok (ev_c1 ev_new_ok (ev_c1 ev_aastore_ok (ev_c1 ev_alen_ok (ev_c1 ev_sald_ok (ev_c1 ev_oinit_ok (ev_c1 ev_mmin_ok (ev_c1 ev_ldc_ok (ev_c1 ev_ldcS_ok (ev_c1 ev_getV_ok (ev_c1 ev_getC_ok (ev_c1 ev_gets_ok (ev_c1 ev_alenS_ok (ev_c1 ev_baloadS_ok (ev_c1 ev_i2c_ok (ev_c1 ev_ladd_ok (ev_c1 ev_lsub_ok (ev_c1 ev_lmul_ok (ev_c1 ev_ldiv_ok (ev_c1 ev_lrem_ok (ev_c1 ev_ldc2_ok (ev_c1 ev_getsF_ok (ev_c1 ev_ldcw_ok (fun _ h => nomatch h))))))))))))))))))))))))))))))))))))))))))))))))))))))))))))))))))))))))))))))))))))
def ev_at {α : Type} : List (Nat × α) → Nat → Option α
  | [], _ => none
  | q :: l, i => if q.1 == i then some q.2 else ev_at l i
theorem ev_at_mem {α : Type} : ∀ {l : List (Nat × α)} {i : Nat} {a : α}, ev_at l i = some a → (i, a) ∈ l
  | [], i, a, h => by cases h
  | q :: l, i, a, h => by
    unfold ev_at at h
    split at h
    · rename_i hq
      cases h
      rw [← beq_iff_eq.mp hq]
      exact List.mem_cons_self
    · exact List.mem_cons_of_mem _ (ev_at_mem h)
/-- what an instruction's row says: the instruction, its length, the words that it needs -/
def ev_rowI (ms : List ev_MI) (P : ev_P) (r : ev_Row) : Option (Instr × Nat × List Cond) :=
  match r.1 with
  | 200 => (match ms[r.2.1.toNat]? with
    | some mi => some (.invokevirtual r.2.2.1.toNat, 3, [.methodLink P.2.2.2.1 r.2.2.1.toNat mi.1, .instanceMethod mi.1, .selects mi.1.cls mi.1 mi.1, .initialized mi.1.cls])
    | none => none)
  | 201 => (match ms[r.2.1.toNat]? with
    | some mi => some (.invokestatic r.2.2.1.toNat, 3, [.methodLink P.2.2.2.1 r.2.2.1.toNat mi.1, .static mi.1, .initialized mi.1.cls])
    | none => none)
  | 202 => (match ms[r.2.1.toNat]? with
    | some mi => some (.invokespecial r.2.2.1.toNat, 3, [.methodLink P.2.2.2.1 r.2.2.1.toNat mi.1, .instanceMethod mi.1, .initialized mi.1.cls])
    | none => none)
  | 203 => (match ms[r.2.1.toNat]? with
    | some mi => some (.invokespecial r.2.2.1.toNat, 3, [.instanceMethod mi.1, .initialized mi.1.cls])
    | none => none)
  | 210 => some (.ireturn, 1, [])
  | 211 => some (.lreturn, 1, [])
  | 212 => some (.areturn, 1, [])
  | 213 => some (.return_, 1, [])
  | k => (match ev_ops[k]? with
    | some o => o.1 P r.2
    | none => none)
/-- a row is right: the instruction stands there, the tables have its words; a nest mate's private constructor by its link -/
def ev_RowOK (ms : List ev_MI) (P : ev_P) (cc : ByteArray) (q : Nat × ev_Row) : Prop :=
  (∃ i n cs, ev_rowI ms P q.2 = some (i, n, cs) ∧ decode cc q.1 = .ok (i, n) ∧ ∀ w ∈ cs, w ∈ lw_good) ∧ (q.2.1 = 203 → ∀ mi, ms[q.2.2.1.toNat]? = some mi → Cond.methodLinkNest P.2.2.2.1 q.2.2.2.1.toNat mi.1 "BarberMinutes" ∈ lw_nest)
/-- a method is right -/
def ev_MOK (ms : List ev_MI) (mi : ev_MI) : Prop :=
  plainName mi.1.cls = true ∧ Cond.code mi.1 mi.2.1 mi.2.2.1 mi.2.2.2.1 ∈ lw_good ∧ mi.2.2.1 ≤ 21 ∧ (mi.1.cls ≠ "java/lang/invoke/MethodHandle" ∧ mi.1.cls ≠ "java/lang/invoke/VarHandle") ∧
  ∀ q ∈ mi.2.2.2.2.2.2, ev_RowOK ms (mi.2.2.2.2.1, mi.2.2.2.2.2.1, decide (mi.1.name = "<init>"), mi.1.cls, mi.2.2.1, 0) mi.2.1 q
def ev_args : Nat → List ev_A → List (Nat × ev_A)
  | _, [] => []
  | i, a :: as => (i, a) :: ev_args (i + if ev_isL a = true then 2 else 1) as
def ev_all (f : ev_S → Option (List ev_S)) : List ev_S → Option (List ev_S)
  | [] => some []
  | S :: r => match f S with
    | some a => (match ev_all f r with
      | some b => some (a ++ b)
      | none => none)
    | none => none
theorem ev_all_ok {f : ev_S → Option (List ev_S)} : ∀ {Ss o : List ev_S}, ev_all f Ss = some o → ∀ S ∈ Ss, ∃ o', f S = some o' ∧ ∀ x ∈ o', x ∈ o
  | [], o, h => fun S hS => nomatch hS
  | S :: r, o, h => by
    unfold ev_all at h
    split at h
    · rename_i a ha
      split at h
      · rename_i b hb
        cases h
        intro S' hS'
        rcases List.mem_cons.mp hS' with rfl | hS'
        · exact ⟨a, ha, fun x hx => List.mem_append_left _ hx⟩
        · obtain ⟨o', h1, h2⟩ := ev_all_ok hb S' hS'
          exact ⟨o', h1, fun x hx => List.mem_append_right _ (h2 x hx)⟩
      · cases h
    · cases h
/-- how many words a call's descriptor takes: told by its row, held against the descriptor -/
def ev_nar1 (y : MethodName) (n : Nat) : Bool := decide ((parseMethodDescriptor y.desc).map (fun d => d.parameters.length) = some n)
/-- a call: what it takes off the stack -/
def ev_take (recv : Bool) (n : Nat) (st : List ev_A) : Option (List ev_A × List ev_A) :=
  if recv = true then (match st.drop n with
    | x :: rest => if (st.take n).length = n then some (x :: (st.take n).reverse, rest) else none
    | [] => none)
  else (if (st.take n).length = n then some ((st.take n).reverse, st.drop n) else none)
def ev_c5 (op : Nat) (as : List ev_A) (w : List ev_C) (cls : String) : Bool := if op = 200 then (match as with
    | x :: _ => if x.1 = 5 then (decide (x.2.toNat % 2 = 1) && (decide (x.2.toNat / 2 < 40) && decide (cls = "java/lang/String"))) else (match w[x.2.toNat]? with
      | some cl => decide (x.1 = 1) && decide ((vwCl[cl.1]?).map (fun q => q.1) = some cls)
      | none => false)
    | [] => false) else true
def ev_c6 (op : Nat) (as : List ev_A) (mi : ev_MI) : Bool := if op = 202 ∨ op = 203 then decide (mi.1.name = "<init>") && mi.2.2.2.1.isNone && (match as with
    | x :: _ => ev_isR x
    | [] => false) else true
def ev_inv (ms : List ev_MI) (call : Nat → List ev_A → List ev_C → ev_K → Option (List ev_Out)) (P : ev_P) (r : ev_Row) (S : ev_S) : Option (List ev_S) :=
  match ms[r.2.1.toNat]? with
  | some mi => (match ev_take (!(r.1 == 201)) r.2.2.2.1.toNat S.2.2.1 with
    | some (as, rest) =>
      if ev_cs rest ≤ 8 ∧ S.2.2.2.2.2.1 + mi.2.2.2.2.1 ≤ P.1 ∧ S.2.2.2.2.2.2 + mi.2.2.2.2.2.1 ≤ P.2.1 ∧ ev_nar1 mi.1 r.2.2.2.1.toNat = true
        ∧ ev_c5 r.1 as S.2.2.2.1 mi.1.cls = true ∧ ev_c6 r.1 as mi = true
      then (match call r.2.1.toNat as S.2.2.2.1 S.2.2.2.2.1 with
        | some outs => some (outs.map (fun o => (S.1 + 3, S.2.1, o.1.toList ++ rest, o.2.1, o.2.2, S.2.2.2.2.2.1 + mi.2.2.2.2.1, S.2.2.2.2.2.2 + mi.2.2.2.2.2.1)))
        | none => none)
      else none
    | none => none)
  | none => none
def ev_run (ms : List ev_MI) (call : Nat → List ev_A → List ev_C → ev_K → Option (List ev_Out)) (P : ev_P) (rows : List (Nat × ev_Row)) (stops : List Nat) : Nat → ev_S → Option (List ev_S)
  | 0, _ => none
  | n + 1, S =>
    if stops.contains S.1 = true then some [S] else
    match ev_at rows S.1 with
    | none => none
    | some r =>
      if 210 ≤ r.1 then some [S]
      else if 200 ≤ r.1 then (match ev_inv ms call P r S with
        | some Ss => ev_all (ev_run ms call P rows stops n) Ss
        | none => none)
      else (match ev_ops[r.1]? with
        | some o => (match o.2 P r.2 S with
          | some Ss => ev_all (ev_run ms call P rows stops n) Ss
          | none => none)
        | none => none)
/-- a method's end: what it answers -/
def ev_end (ret : Option FieldType) (mc ms : Nat) (rows : List (Nat × ev_Row)) (S : ev_S) : Option ev_Out :=
  if S.2.2.2.2.2.1 ≤ mc ∧ S.2.2.2.2.2.2 ≤ ms then
    match ev_at rows S.1 with
    | none => none
    | some r => match r.1, ret, S.2.2.1 with
      | 210, some ty, [a] => if ev_isI a = true ∧ ev_fit ty a = true then some (some a, S.2.2.2.1, S.2.2.2.2.1) else none
      | 211, some .long, [a] => if ev_isL a = true then some (some a, S.2.2.2.1, S.2.2.2.2.1) else none
      | 212, some (.object _), [a] => if (a.1 == 1 || a.1 == 2 || a.1 == 5) = true then some (some a, S.2.2.2.1, S.2.2.2.2.1) else none
      | 213, none, [] => some (none, S.2.2.2.1, S.2.2.2.2.1)
      | _, _, _ => none
  else none
def ev_ends (ret : Option FieldType) (mc ms : Nat) (rows : List (Nat × ev_Row)) : List ev_S → Option (List ev_Out)
  | [] => some []
  | S :: r => match ev_end ret mc ms rows S with
    | some a => (match ev_ends ret mc ms rows r with
      | some b => some (a :: b)
      | none => none)
    | none => none
theorem ev_ends_ok {ret : Option FieldType} {mc ms : Nat} {rows : List (Nat × ev_Row)} : ∀ {Ss : List ev_S} {o : List ev_Out}, ev_ends ret mc ms rows Ss = some o → ∀ S ∈ Ss, ∃ x, ev_end ret mc ms rows S = some x ∧ x ∈ o
  | [], o, h => fun S hS => nomatch hS
  | S :: r, o, h => by
    unfold ev_ends at h
    split at h
    · rename_i a ha
      split at h
      · rename_i b hb
        cases h
        intro S' hS'
        rcases List.mem_cons.mp hS' with rfl | hS'
        · exact ⟨a, ha, List.mem_cons_self⟩
        · obtain ⟨x, h1, h2⟩ := ev_ends_ok hb S' hS'
          exact ⟨x, h1, List.mem_cons_of_mem _ h2⟩
      · cases h
    · cases h
def ev_exec (ms : List ev_MI) : Nat → Nat → List ev_A → List ev_C → ev_K → Option (List ev_Out)
  | 0, _, _, _, _ => none
  | d + 1, k, as, w, K => match ms[k]? with
    | none => none
    | some mi => if ev_cs as ≤ mi.2.2.1 then (match ev_run ms (ev_exec ms d) (mi.2.2.2.2.1, mi.2.2.2.2.2.1, decide (mi.1.name = "<init>"), mi.1.cls, mi.2.2.1, 0) mi.2.2.2.2.2.2 [] 20000 (0, ev_args 0 as, [], w, K, 0, 0) with
      | some fs => ev_ends mi.2.2.2.1 mi.2.2.2.2.1 mi.2.2.2.2.2.1 mi.2.2.2.2.2.2 fs
      | none => none) else none
end
section
/-! THE RUN IS RIGHT -/
def ev_rm (d mc ms : Nat) : Room := { frames := d + 1, cells := mc, slots := ms, locals := 40 * (d + 1) }
def ev_rv (g : ev_G) : Option ev_A → Option Value → Prop
  | none, none => True
  | some a, some v => ev_v g a = some v
  | _, _ => False
def ev_Q (D : va_G) (g : ev_G) (A : Nat → Prop) (outs : List ev_Out) : Array Value → State → Outcome → State → Prop := fun _ st oc t =>
  (∃ (o : ev_Out) (g' : ev_G) (ws' : va_W) (v : Option Value), o ∈ outs ∧ oc = .returned v ∧ ev_rv g' o.1 v ∧ ev_le g g' ∧ va_P D vwCl ws' t.heap ∧ va_D A ws' ∧ ev_w t g' o.2.1 ws' ∧ ev_b o.2.2 g'.2.2) ∧ va_F A st t
def ev_Pb (D : va_G) (g : ev_G) (ws : va_W) (sz : Nat) (w : List ev_C) (U : State) : Prop := U.heap.size = sz ∧ va_P D vwCl ws U.heap ∧ va_K D vwCl [] U ∧ va_D (fun _ => True) ws ∧ ev_w U g w ws ∧ ev_N g.2.1 (va_A ws sz) U U.heap
def ev_Met (l : Launch) (mi : ev_MI) (d : Nat) (D : va_G) (g : ev_G) (ws : va_W) (sz : Nat) (w : List ev_C) (asc : List Value) (outs : List ev_Out) : Prop :=
  Met l mi.1 (Cond.code mi.1 mi.2.1 mi.2.2.1 mi.2.2.2.1 :: lw_good) (ev_rm d mi.2.2.2.2.1 mi.2.2.2.2.2.1) (va_Pc asc (ev_Pb D g ws sz w)) (ev_Q D g (va_A ws sz) outs) mi.2.2.2.2.1 mi.2.2.2.2.2.1 (va_A ws sz)
/-- calls are right, at a depth -/
def ev_Cs (ms : List ev_MI) (call : Nat → List ev_A → List ev_C → ev_K → Option (List ev_Out)) (d : Nat) : Prop :=
  ∀ (k : Nat) (mi : ev_MI) (as : List ev_A) (w : List ev_C) (K : ev_K) (outs : List ev_Out), ms[k]? = some mi → call k as w K = some outs → ∃ d', d = d' + 1 ∧ ∀ (l : Launch) (D : va_G) (g : ev_G) (ws : va_W) (sz : Nat) (asc : List Value), ev_s g as asc → ev_b K g.2.2 → ev_Met l mi d' D g ws sz w asc outs
theorem ev_s_app {g : ev_G} : ∀ {a b : List ev_A} {x y : List Value}, ev_s g a x → ev_s g b y → ev_s g (a ++ b) (x ++ y)
  | [], _, [], _, _, h => h
  | [], _, _ :: _, _, h, _ => h.elim
  | _ :: _, _, [], _, h, _ => h.elim
  | _ :: _, _, _ :: _, _, h1, h2 => ⟨h1.1, ev_s_app h1.2 h2⟩
theorem ev_s_rev {g : ev_G} : ∀ {a : List ev_A} {x : List Value}, ev_s g a x → ev_s g a.reverse x.reverse
  | [], [], _ => trivial
  | [], _ :: _, h => h.elim
  | _ :: _, [], h => h.elim
  | a :: as, x :: xs, h => by
    rw [List.reverse_cons, List.reverse_cons]
    exact ev_s_app (ev_s_rev h.2) ⟨h.1, trivial⟩
theorem ev_s_split {g : ev_G} : ∀ (n : Nat) {a : List ev_A} {x : List Value}, ev_s g a x → ev_s g (a.take n) (x.take n) ∧ ev_s g (a.drop n) (x.drop n)
  | 0, _, _, h => ⟨trivial, h⟩
  | _ + 1, [], [], _ => ⟨trivial, trivial⟩
  | _ + 1, [], _ :: _, h => h.elim
  | _ + 1, _ :: _, [], h => h.elim
  | n + 1, _ :: _, _ :: _, h => ⟨⟨h.1, (ev_s_split n h.2).1⟩, (ev_s_split n h.2).2⟩
theorem ev_s_len {g : ev_G} : ∀ {a : List ev_A} {x : List Value}, ev_s g a x → a.length = x.length
  | [], [], _ => rfl
  | [], _ :: _, h => h.elim
  | _ :: _, [], h => h.elim
  | _ :: _, _ :: _, h => congrArg Nat.succ (ev_s_len h.2)
/-- what a call takes: the arguments as a list, in their order; the stack below them -/
theorem ev_take_ok {recv : Bool} {n : Nat} {st as rest : List ev_A} (h : ev_take recv n st = some (as, rest)) {g : ev_G} {sc : List Value} (hs : ev_s g st sc) :
    ∃ (xs restc : List Value), xs.length = n ∧ ev_s g rest restc ∧ ((recv = true ∧ ∃ (a : ev_A) (as' : List ev_A) (v : Value), as = a :: as' ∧ ev_v g a = some v ∧ ev_s g as' xs ∧ sc = xs.reverse ++ v :: restc) ∨ (recv = false ∧ ev_s g as xs ∧ sc = xs.reverse ++ restc)) := by
  obtain ⟨t1, t2⟩ := ev_s_split n hs
  have hsp : sc = sc.take n ++ sc.drop n := (List.take_append_drop n sc).symm
  unfold ev_take at h
  split at h
  · rename_i hr
    split at h
    · rename_i x rest' hd
      split at h
      · rename_i hl
        cases h
        rw [hd] at t2
        obtain ⟨v, sc', e1, e2, e3⟩ := ev_s_cons t2
        refine ⟨(sc.take n).reverse, sc', by rw [List.length_reverse, ← ev_s_len t1]; exact hl, e3, Or.inl ⟨hr, x, _, v, rfl, e2, ev_s_rev t1, ?_⟩⟩
        rw [List.reverse_reverse, ← e1]
        exact hsp
      · cases h
    · cases h
  · rename_i hr
    split at h
    · rename_i hl
      cases h
      refine ⟨(sc.take n).reverse, sc.drop n, by rw [List.length_reverse, ← ev_s_len t1]; exact hl, t2, Or.inr ⟨by simpa using hr, ev_s_rev t1, ?_⟩⟩
      rw [List.reverse_reverse]
      exact hsp
    · cases h
/-- behind a call -/
theorem ev_callW {p : Program} {l : Launch} {e : Env} {R : Room} {s : State} {m : MethodId} {args : Array Value} {below : List Frame} {meth : Method} {c : Code} {H : Heap} {locs : List Loc} {ce sl mc ms pc : Nat} {ls : Array Slot} {rest st0 : List Value} {a : Array Value} {A A1 : Nat → Prop} {H0 : Heap} {free : Addr → Prop} {Q : State → Prop} {D : va_G} {g : ev_G} {outs : List ev_Out}
    (hr : va_Run p l e R s m args below meth c H locs ce sl mc ms (F0 m pc ls st0) rest (ev_Q D g A1 outs a) free) (hS : va_S A H0 H locs) (hA : ∀ q, A1 q → A q) (hf : ∀ q, free q → A q)
    (kk : ∀ (o : ev_Out) (g' : ev_G) (ws' : va_W) (v : Option Value) (t : State) (H1 : Heap) (locs1 : List Loc), o ∈ outs → t.heap = H1 → s.vm.Alike t.vm → ev_rv g' o.1 v → ev_le g g' → va_P D vwCl ws' H1 → va_D A1 ws' → ev_w t g' o.2.1 ws' → ev_b o.2.2 g'.2.2 → va_S A H0 H1 locs1 → W p l e R s m args below meth c H1 locs1 (ce + mc) (sl + ms) Q (F0 m (pc + 3) ls (v.toList ++ rest))) :
    W p l e R s m args below meth c H locs ce sl Q (F0 m pc ls st0) := by
  intro T hT X
  obtain ⟨v, st₀, t, T', L, h0, X', hL, e1, e2, ⟨⟨o, g', ws', v', ho, hv, hrv, hle, hP, hD, hw, hb⟩, hz, hk⟩, st⟩ := hr T hT X
  cases hv
  rw [h0] at hz hk
  obtain ⟨t2, a1, b1⟩ := kk o g' ws' v t T'.heap (locs ++ L) ho e1.symm (by rw [← e2]; exact X'.warmed.alike) hrv hle (by rw [e1]; exact hP) hD hw hb
    ⟨Nat.le_trans hS.1 (by rw [e1]; exact hz), fun q h1 h2 => by rw [e1, hk q (Nat.lt_of_lt_of_le h1 hS.1) (fun z => h2 (hA q z))]; exact hS.2.1 q h1 h2, fun q hq => by
      rcases List.mem_append.mp hq with h | h
      · exact hS.2.2 q h
      · exact hf _ (hL q h)⟩ T' rfl X'
  exact ⟨t2, st t2 a1, b1⟩
theorem ev_Pb_blind {D : va_G} {g : ev_G} {ws : va_W} {sz : Nat} {w : List ev_C} {asc : List Value} : FrameBlind (va_Pc asc (ev_Pb D g ws sz w)) := fun a U gf mk q => by
  obtain ⟨q0, q1, q2, q3, q4, q5, q6⟩ := q
  exact ⟨q0, q1, q2, va_K.moved (u := U) (U := U.calling gf mk a) (Vm.Alike.refl U.vm) q3, q4, ev_w_moved (u := U) (U := U.calling gf mk a) (Vm.Alike.refl U.vm) q5, ev_N_same (u := U) (U := U.calling gf mk a) rfl q6⟩
theorem ev_rowI_op {ms : List ev_MI} {P : ev_P} {r : ev_Row} (h : r.1 < 200) : ev_rowI ms P r = (match ev_ops[r.1]? with
    | some o => o.1 P r.2
    | none => none) := by
  unfold ev_rowI
  split
  · omega
  · omega
  · omega
  · omega
  · omega
  · omega
  · omega
  · omega
  · rfl
section EVS
variable {p : Program} {l : Launch} {e : Env} {R : Room} {s : State} {m : MethodId} {args : Array Value} {below : List Frame} {meth : Method} {c : Code} {cc : ByteArray} {Q : State → Prop} {D : va_G} {A : Nat → Prop} {g0 : ev_G} {P : ev_P} {ms : List ev_MI} {call : Nat → List ev_A → List ev_C → ev_K → Option (List ev_Out)} {d : Nat}
set_option maxHeartbeats 4000000 in
theorem ev_inv_ok (hMS : ∀ (k : Nat) (mi : ev_MI), ms[k]? = some mi → ev_MOK ms mi) (hC : ev_Cs ms call d) (hRm : d + 1 ≤ R.frames ∧ 40 * (d + 1) ≤ R.locals) (X : ev_X p R s m args meth c cc P.2.2.2.2.1 P.2.2.2.1 P.2.2.1 D A P.1 P.2.1 g0 P.2.2.2.2.2)
    {q : Nat × ev_Row} (hq : ev_RowOK ms P cc q) (h200 : 200 ≤ q.2.1) (h210 : q.2.1 < 210) {S : ev_S} (hpc : S.1 = q.1) {Ss : List ev_S} (h : ev_inv ms call P q.2 S = some Ss) (hk : ∀ S' ∈ Ss, ev_Go p l e R s m args below meth c Q P.2.2.2.2.1 D A g0 S') : ev_Go p l e R s m args below meth c Q P.2.2.2.2.1 D A g0 S := by
  intro g ws H locs ls sc hle hR
  obtain ⟨hx, hb, hml, hown, hts, hK, hA, hN, hini, hcC, hcS, hf, hlc, hscr⟩ := X
  obtain ⟨pc, L, st, w, K, ce, sl⟩ := S
  obtain ⟨qpc, op, t1, t2, t3, t4⟩ := q
  have hpc : pc = qpc := hpc
  subst hpc
  obtain ⟨⟨i, n, cs, hi, hd, hw⟩, hnest⟩ := hq
  dsimp only at hi hd hnest h200 h210
  unfold ev_inv at h
  dsimp only at h
  split at h
  · rename_i mi hmi
    obtain ⟨hpl, hcd, hnL, hmh, -⟩ := hMS _ mi hmi
    split at h
    · rename_i as rest htk
      split at h
      · rename_i hc
        obtain ⟨hc1, hc2, hc3, hc4, hc5, hc6⟩ := hc
        split at h
        · rename_i outs hcall
          cases h
          obtain ⟨hP, hD, hS, hW, hB, hL, hs⟩ := hR
          obtain ⟨d', rfl, hM⟩ := hC _ mi as w K outs hmi hcall
          have hnp : (parseMethodDescriptor mi.1.desc).map (fun d => d.parameters.length) = some t3.toNat := by simpa [ev_nar1] using hc4
          have hroom : (ev_rm d' mi.2.2.2.2.1 mi.2.2.2.2.2.1).frames + 1 ≤ R.frames ∧ 8 + (mi.2.2.1 + 11) + (ev_rm d' mi.2.2.2.2.1 mi.2.2.2.2.2.1).locals ≤ R.locals := by
            simp only [ev_rm]
            omega
          have hG : GoodIn lw_good (Cond.code mi.1 mi.2.1 mi.2.2.1 mi.2.2.2.1 :: lw_good) := lw_good_good (fun w h => by
            rcases List.mem_cons.mp h with rfl | h
            · exact hcd
            · exact h)
          have hcap : ce + mi.2.2.2.2.1 ≤ R.cells ∧ sl + mi.2.2.2.2.2.1 ≤ R.slots := by rw [hcC, hcS]; exact ⟨hc2, hc3⟩
          have hfree : ∀ q, va_A ws H.size q → A q := by
            intro q h
            rcases h with ⟨k, e, h⟩ | h
            · exact hD.2 k (q, e) h
            · exact hA q (Nat.le_trans hS.1 h)
          obtain ⟨xs, restc, hxl, hrest, hor⟩ := ev_take_ok htk hs
          have hsum : (restc.map fun v => v.category).sum ≤ 8 := by rw [ev_cs_ok hrest]; exact hc1
          have hkk : ∀ (o : ev_Out) (g' : ev_G) (ws' : va_W) (v : Option Value) (t : State) (H1 : Heap) (locs1 : List Loc), o ∈ outs → t.heap = H1 → s.vm.Alike t.vm → ev_rv g' o.1 v → ev_le g g' → va_P D vwCl ws' H1 → va_D (va_A ws H.size) ws' → ev_w t g' o.2.1 ws' → ev_b o.2.2 g'.2.2 → va_S A s.heap H1 locs1 → W p l e R s m args below meth c H1 locs1 (ce + mi.2.2.2.2.1) (sl + mi.2.2.2.2.2.1) Q (F0 m (pc + 3) ls (v.toList ++ restc)) := by
            intro o g' ws' v t H1 locs1 ho ht hvm hrv hle' hP1 hD1 hw1 hb1 hS1
            refine hk _ (List.mem_map.mpr ⟨o, ho, rfl⟩) g' ws' H1 locs1 ls _ (ev_le_tr hle hle') ⟨hP1, hD1.weaken (fun _ _ _ h => hfree _ h), hS1, ev_w_moved hvm.symm hw1, hb1, ev_l_le hle' hL, ?_⟩
            refine ev_s_app ?_ (ev_s_le hle' hrest)
            cases ho1 : o.1 with
            | none =>
              cases v with
              | none => exact trivial
              | some v => rw [ho1] at hrv; exact hrv.elim
            | some a =>
              cases v with
              | none => rw [ho1] at hrv; exact hrv.elim
              | some v => rw [ho1] at hrv; exact ⟨hrv, trivial⟩
          have hpre : ∀ (asc : List Value), ∀ U : State, U.heap = H → s.WarmedH U.vm → va_Pc asc (ev_Pb D g ws H.size w) asc.toArray U := fun asc U hU hWm =>
            ⟨rfl, by rw [hU], by rw [hU]; exact hP, va_K.moved hWm.alike hK, hD.weaken (fun _ _ _ _ => trivial), ev_w_moved hWm.alike hW, by rw [hle.2.1]; exact ev_N_call hWm hU hS hfree hN⟩
          have h4 : op = 200 ∨ op = 201 ∨ op = 202 ∨ op = 203 ∨ 203 < op := by omega
          rcases h4 with rfl | rfl | rfl | rfl | hbig
          · have hi : some ((.invokevirtual t2.toNat : Instr), (3 : Nat), ([.methodLink P.2.2.2.1 t2.toNat mi.1, .instanceMethod mi.1, .selects mi.1.cls mi.1 mi.1, .initialized mi.1.cls] : List Cond)) = some (i, n, cs) := by
              simpa [ev_rowI, hmi] using hi
            cases hi
            rcases hor with ⟨-, a, as', v, rfl, hva, hxs, rfl⟩ | ⟨hf0, -⟩
            · have hGV : GoodIn lw_good (wsV P.2.2.2.1 t2.toNat mi.1.cls mi.1 (Cond.code mi.1 mi.2.1 mi.2.2.1 mi.2.2.2.1 :: lw_good)) := lw_good_good (fun w h => by
                unfold wsV at h
                rcases List.mem_append.mp h with h | h
                · exact hw w h
                · exact (hG w h).1)
              have h5 : (if a.1 = 5 then (decide (a.2.toNat % 2 = 1) && (decide (a.2.toNat / 2 < 40) && decide (mi.1.cls = "java/lang/String"))) else (match w[a.2.toNat]? with
                | some cl => decide (a.1 = 1) && decide ((vwCl[cl.1]?).map (fun q => q.1) = some mi.1.cls)
                | none => false)) = true := hc5
              split at h5
              · rename_i ha5
                simp only [Bool.and_eq_true, decide_eq_true_eq] at h5
                obtain ⟨h51, h52, h53⟩ := h5
                obtain ⟨r, hr⟩ : ∃ r, ev_strs[a.2.toNat / 2]? = some r := ⟨_, List.getElem?_eq_getElem (show a.2.toNat / 2 < ev_strs.length from h52)⟩
                obtain ⟨at_, an⟩ := a
                have ha5 : at_ = 5 := ha5
                subst ha5
                have hva2 : v = .ref (g0.2.1 (1 + 2 * (an.toNat / 2))) := by
                  have : g.2.1 = g0.2.1 := hle.2.1
                  rw [← this, show 1 + 2 * (an.toNat / 2) = an.toNat by dsimp only at h51; omega]
                  exact (Option.some.inj hva).symm
                subst hva2
                obtain ⟨cell, k1, k2, k3, k4⟩ := va_O.kept (hN.2.2.1 _ r hr).1 hS.2.1
                exact ev_callW (va_runV (As := xs) (rest := restc) ⟨hx, hb, hml, hown, hts⟩ (hM l D g ws H.size (.ref _ :: xs) ⟨hva, hxs⟩ hB) (cwV t3.toNat hts hGV rfl rfl rfl ⟨rfl, hmh.1, hmh.2, hnp⟩ hroom) ⟨ev_Pb_blind, ⟨cell, k1, k2, by rw [h53]; exact k3⟩, fun U hU hWm => hpre _ U hU hWm⟩ rfl hxl hL.1 rfl (lv_room hsum) hd hcap) hS (fun q h => hfree q h) hfree hkk
              split at h5
              · rename_i cl hcl
                simp only [Bool.and_eq_true, decide_eq_true_eq] at h5
                obtain ⟨ad, x0, rfl, hws, hcc⟩ := ev_ref1 hW h5.1 hva hcl
                obtain ⟨r, hr1, hr2⟩ : ∃ r, vwCl[cl.1]? = some r ∧ r.1 = mi.1.cls := by
                  cases hz : vwCl[cl.1]? with
                  | none => rw [hz] at h5; exact absurd h5.2 (by simp)
                  | some r => rw [hz] at h5; exact ⟨r, rfl, Option.some.inj h5.2⟩
                cases x0 with
                | inl z =>
                  obtain ⟨tt, b1, b2, -⟩ := hcc
                  have : cl.1 < 10 := (List.getElem?_eq_some_iff.mp hr1).1
                  omega
                | inr o =>
                  obtain ⟨ci, fs⟩ := o
                  obtain ⟨b1, -⟩ := hcc
                  dsimp only at b1
                  rw [b1] at hr1
                  have hrecv := va_recv hK hP hr1 hws
                  rw [hr2] at hrecv
                  exact ev_callW (va_runV (As := xs) (rest := restc) ⟨hx, hb, hml, hown, hts⟩ (hM l D g ws H.size (.ref ad :: xs) ⟨hva, hxs⟩ hB) (cwV t3.toNat hts hGV rfl rfl rfl ⟨rfl, hmh.1, hmh.2, hnp⟩ hroom) ⟨ev_Pb_blind, hrecv, fun U hU hWm => hpre _ U hU hWm⟩ rfl hxl hL.1 rfl (lv_room hsum) hd hcap) hS (fun q h => hfree q h) hfree hkk
              · cases h5
            · cases hf0
          · have hi : some ((.invokestatic t2.toNat : Instr), (3 : Nat), ([.methodLink P.2.2.2.1 t2.toNat mi.1, .static mi.1, .initialized mi.1.cls] : List Cond)) = some (i, n, cs) := by
              simpa [ev_rowI, hmi] using hi
            cases hi
            rcases hor with ⟨hf0, -⟩ | ⟨-, hxs, rfl⟩
            · cases hf0
            · have hGS : GoodIn lw_good (va_wsS P.2.2.2.1 t2.toNat mi.1 (Cond.code mi.1 mi.2.1 mi.2.2.1 mi.2.2.2.1 :: lw_good)) := lw_good_good (fun w h => by
                unfold va_wsS at h
                rcases List.mem_append.mp h with h | h
                · exact hw w h
                · exact (hG w h).1)
              exact ev_callW (va_runS (As := xs) (rest := restc) ⟨hx, hb, hml, hown, hts⟩ (hM l D g ws H.size xs hxs hB) (va_cwS t3.toNat hts hGS rfl rfl rfl ⟨hmh.1, hmh.2, hnp⟩ hroom) ⟨ev_Pb_blind, fun U hU hWm => hpre _ U hU hWm⟩ rfl hxl hL.1 rfl (lv_room hsum) hd hcap) hS (fun q h => hfree q h) hfree hkk
          · have hi : some ((.invokespecial t2.toNat : Instr), (3 : Nat), ([.methodLink P.2.2.2.1 t2.toNat mi.1, .instanceMethod mi.1, .initialized mi.1.cls] : List Cond)) = some (i, n, cs) := by
              simpa [ev_rowI, hmi] using hi
            cases hi
            rcases hor with ⟨-, a, as', v, rfl, hva, hxs, rfl⟩ | ⟨hf0, -⟩
            · have h6 : (decide (mi.1.name = "<init>") && mi.2.2.2.1.isNone && ev_isR a) = true := hc6
              simp only [Bool.and_eq_true, decide_eq_true_eq, Option.isNone_iff_eq_none] at h6
              obtain ⟨⟨hy1, hy2⟩, hy3⟩ := h6
              obtain ⟨ad, rfl⟩ := ev_vR hy3 hva
              have hw3 : Cond.code mi.1 mi.2.1 mi.2.2.1 mi.2.2.2.1 = Cond.code mi.1 mi.2.1 mi.2.2.1 none := by rw [hy2]
              exact ev_callW (va_runI (As := xs) (rest := restc) ⟨hx, hb, hml, hown, hts⟩ (hM l D g ws H.size (.ref ad :: xs) ⟨hva, hxs⟩ hB) (cwI t3.toNat hts hG (by rw [hw3]) rfl rfl (hts _ (hw _ (by simp))) (hts _ (hw _ (by simp))) (hts _ (hw _ (by simp))) hy1 ⟨hmh.1, hmh.2, hnp⟩ hroom) ⟨ev_Pb_blind, fun U hU hWm => hpre _ U hU hWm⟩ rfl hxl hL.1 rfl (lv_room hsum) hd hcap) hS (fun q h => hfree q h) hfree hkk
            · cases hf0
          · have hi : some ((.invokespecial t2.toNat : Instr), (3 : Nat), ([.instanceMethod mi.1, .initialized mi.1.cls] : List Cond)) = some (i, n, cs) := by
              simpa [ev_rowI, hmi] using hi
            cases hi
            rcases hor with ⟨-, a, as', v, rfl, hva, hxs, rfl⟩ | ⟨hf0, -⟩
            · have h6 : (decide (mi.1.name = "<init>") && mi.2.2.2.1.isNone && ev_isR a) = true := hc6
              simp only [Bool.and_eq_true, decide_eq_true_eq, Option.isNone_iff_eq_none] at h6
              obtain ⟨⟨hy1, hy2⟩, hy3⟩ := h6
              obtain ⟨ad, rfl⟩ := ev_vR hy3 hva
              have hw3 : Cond.code mi.1 mi.2.1 mi.2.2.1 mi.2.2.2.1 = Cond.code mi.1 mi.2.1 mi.2.2.1 none := by rw [hy2]
              have hnl := hN.1.1 _ (hnest rfl mi hmi)
              exact ev_callW (va_runIN (As := xs) (rest := restc) ⟨hx, hb, hml, hown, hts⟩ (hM l D g ws H.size (.ref ad :: xs) ⟨hva, hxs⟩ hB) ⟨va_cnB t3.toNat hts hG (by rw [hw3]) rfl rfl hnl (hts _ (hw _ (by simp))) ⟨hmh.1, hmh.2, hnp⟩ hroom, hy1, hts _ (hw _ (by simp))⟩ ⟨ev_Pb_blind, fun U hU hWm => hpre _ U hU hWm⟩ rfl hxl hL.1 rfl (lv_room hsum) hd hcap) hS (fun q h => hfree q h) hfree hkk
            · cases hf0
          · exfalso
            have : ev_rowI ms P (op, t1, t2, t3, t4) = none := by
              unfold ev_rowI
              split
              · omega
              · omega
              · omega
              · omega
              · omega
              · omega
              · omega
              · omega
              · have : ev_ops[op]? = none := by
                  apply List.getElem?_eq_none
                  have : ev_ops.length = 84 := rfl
                  omega
                simp [this]
            rw [this] at hi
            cases hi
        · cases h
      · cases h
    · cases h
  · cases h
end EVS

section EVR
variable {p : Program} {l : Launch} {e : Env} {R : Room} {s : State} {m : MethodId} {args : Array Value} {below : List Frame} {meth : Method} {c : Code} {cc : ByteArray} {Q : State → Prop} {D : va_G} {A : Nat → Prop} {g0 : ev_G} {P : ev_P} {ms : List ev_MI} {call : Nat → List ev_A → List ev_C → ev_K → Option (List ev_Out)} {d : Nat} {rows : List (Nat × ev_Row)} {stops : List Nat}
/-- from the ends of a run back to its start -/
theorem ev_run_ok (hMS : ∀ (k : Nat) (mi : ev_MI), ms[k]? = some mi → ev_MOK ms mi) (hC : ev_Cs ms call d) (hRm : d + 1 ≤ R.frames ∧ 40 * (d + 1) ≤ R.locals) (X : ev_X p R s m args meth c cc P.2.2.2.2.1 P.2.2.2.1 P.2.2.1 D A P.1 P.2.1 g0 P.2.2.2.2.2)
    (hrows : ∀ q ∈ rows, ev_RowOK ms P cc q) : ∀ (n : Nat) (S : ev_S) (outs : List ev_S), ev_run ms call P rows stops n S = some outs → (∀ o ∈ outs, ev_Go p l e R s m args below meth c Q P.2.2.2.2.1 D A g0 o) → ev_Go p l e R s m args below meth c Q P.2.2.2.2.1 D A g0 S
  | 0, S, outs, h, hk => by cases h
  | n + 1, S, outs, h, hk => by
    unfold ev_run at h
    split at h
    · cases h
      exact hk S (List.mem_singleton.mpr rfl)
    · split at h
      · cases h
      · rename_i r hr
        have hq := hrows _ (ev_at_mem hr)
        split at h
        · cases h
          exact hk S (List.mem_singleton.mpr rfl)
        · rename_i h210
          split at h
          · rename_i h200
            split at h
            · rename_i Ss hSs
              refine ev_inv_ok hMS hC hRm X hq h200 (by dsimp only; omega) rfl hSs (fun S' hS' => ?_)
              obtain ⟨o', h1, h2⟩ := ev_all_ok h S' hS'
              exact ev_run_ok hMS hC hRm X hrows n S' o' h1 (fun x hx => hk x (h2 x hx))
            · cases h
          · rename_i h200
            split at h
            · rename_i o ho
              split at h
              · rename_i Ss hSs
                obtain ⟨⟨i, k, cs, hi, hd, hw⟩, -⟩ := hq
                rw [ev_rowI_op (by dsimp only; omega)] at hi
                dsimp only at hi hd
                rw [ho] at hi
                refine ev_ops_ok o (List.mem_of_getElem? ho) p l e R s m args below meth c cc Q D A g0 P r.2 S i k cs Ss X hi hd hw hSs (fun S' hS' => ?_)
                obtain ⟨o', h1, h2⟩ := ev_all_ok h S' hS'
                exact ev_run_ok hMS hC hRm X hrows n S' o' h1 (fun x hx => hk x (h2 x hx))
              · cases h
            · cases h
end EVR
theorem ev_args_ok {g : ev_G} : ∀ {as : List ev_A} {xs : List Value} (i : Nat), ev_s g as xs → ∀ q ∈ ev_args i as, ∃ v, ev_v g q.2 = some v ∧ (q.1, v) ∈ lv_args i xs
  | [], [], i, _, q, hq => nomatch hq
  | [], _ :: _, i, h, q, hq => h.elim
  | _ :: _, [], i, h, q, hq => h.elim
  | a :: as, x :: xs, i, h, q, hq => by
    unfold ev_args at hq
    rcases List.mem_cons.mp hq with rfl | hq
    · exact ⟨x, h.1, by unfold lv_args; exact List.mem_cons_self⟩
    · obtain ⟨v, h1, h2⟩ := ev_args_ok (i + if ev_isL a = true then 2 else 1) h.2 q hq
      refine ⟨v, h1, ?_⟩
      unfold lv_args
      refine List.mem_cons_of_mem _ ?_
      rcases ev_cat h.1 with ⟨q1, q2⟩ | ⟨q1, q2⟩
      · rw [if_pos q2]
        rw [if_pos q1] at h2
        exact h2
      · rw [if_neg (by omega)]
        rw [if_neg (by rw [q1]; decide)] at h2
        exact h2
theorem ev_sl_len {g : ev_G} : ∀ {as : List ev_A} {xs : List Value}, ev_s g as xs → (lg_sl xs).length = ev_cs as
  | [], [], _ => rfl
  | [], _ :: _, h => h.elim
  | _ :: _, [], h => h.elim
  | a :: as, x :: xs, h => by
    have ih := ev_sl_len h.2
    simp only [lg_sl, List.flatMap_cons, List.length_append, ev_cs, List.map_cons, List.sum_cons] at ih ⊢
    rw [ih]
    rcases ev_cat h.1 with ⟨q1, q2⟩ | ⟨q1, q2⟩ <;> rw [q1, q2] <;> rfl
set_option maxHeartbeats 4000000 in
/-- the execution of methods by their rows is right, at every depth -/
theorem ev_exec_ok {ms : List ev_MI} (hMS : ∀ (k : Nat) (mi : ev_MI), ms[k]? = some mi → ev_MOK ms mi) : ∀ d : Nat, ev_Cs ms (ev_exec ms d) d
  | 0 => fun k mi as w K outs hmi h => by cases h
  | d + 1 => fun k mi as w K outs hmi h => by
    refine ⟨d, rfl, fun l D g ws sz asc hs hB => ?_⟩
    unfold ev_exec at h
    rw [hmi] at h
    dsimp only at h
    split at h
    · rename_i hcs
      split at h
      · rename_i fs hrun
        obtain ⟨hpl, hcd, hnL, hmh, hrows⟩ := hMS k mi hmi
        refine Met.ofW (cc := mi.2.1) (maxL := mi.2.2.1) (ret := mi.2.2.2.1) hpl rfl ?_
        intro p e s m args below meth c s₁ B hml hv
        obtain ⟨rfl, hsz, hP, hK, hD0, hW, hN⟩ := hv
        subst hsz
        have hD : va_D (va_A ws s.heap.size) ws := hD0.self (sz := s.heap.size)
        have hts : ∀ w ∈ lw_good, w.before asc.toArray s = true := fun w hw => atoms_spec (ws := Cond.code mi.1 mi.2.1 mi.2.2.1 mi.2.2.2.1 :: lw_good) B.pre w (List.mem_cons_of_mem _ hw)
        have hA : ∀ q : Nat, s.heap.size ≤ q → va_A ws s.heap.size q := fun q h => Or.inr h
        have X : ev_X p (ev_rm d mi.2.2.2.2.1 mi.2.2.2.2.2.1) s m asc.toArray meth c mi.2.1 mi.2.2.1 mi.1.cls (decide (mi.1.name = "<init>")) D (va_A ws s.heap.size) mi.2.2.2.2.1 mi.2.2.2.2.2.1 g 0 :=
          ⟨B.exec, B.bytes, hml, findClass_of_methodNamed B.named, hts, hK, hA, hN, fun h => by rw [(name_of_methodNamed B.named B.method).1]; simpa using h, rfl, rfl, by simp [ev_rm], by simp only [ev_rm]; omega, fun L h => by cases h⟩
        have hlocks := B.notSynchronized
        have hr := B.returns
        have hlen : (lg_sl asc).length ≤ mi.2.2.1 := by rw [ev_sl_len hs]; exact hcs
        have hl := lv_entry asc (n := mi.2.2.1) hlen
        rw [lg_entry_eq]
        refine ev_run_ok (P := (mi.2.2.2.2.1, mi.2.2.2.2.2.1, decide (mi.1.name = "<init>"), mi.1.cls, mi.2.2.1, 0)) hMS (ev_exec_ok hMS d) ⟨by simp [ev_rm], by simp [ev_rm]⟩ X hrows 20000 _ fs hrun (fun o ho => ?_) g ws s.heap [] _ [] (ev_le_rf g) ⟨hP, hD, va_S.rf, hW, hB, ⟨hl.1, hl.2.1, fun q hq => ?_⟩, trivial⟩
        · obtain ⟨x, hx1, hx2⟩ := ev_ends_ok h o ho
          obtain ⟨pc, L, st, w', K', ce, sl⟩ := o
          intro g' ws' H locs ls sc hle ⟨hP', hD', hS', hW', hB', hL', hs'⟩
          unfold ev_end at hx1
          split at hx1
          · rename_i hcap
            refine W.widen (k := mi.2.2.2.2.1) (n := mi.2.2.2.2.2.1) hcap.1 hcap.2 ?_
            have qq : ∀ (v : Option Value) (t : State), t.heap = H → s.WarmedH t.vm → ev_rv g' x.1 v → x.2.1 = w' → x.2.2 = K' → ev_Q D g (va_A ws s.heap.size) outs asc.toArray s (.returned v) t := by
              intro v t ht hWm hv e1 e2
              exact ⟨⟨x, g', ws', v, hx2, rfl, hv, hle, by rw [ht]; exact hP', hD', by rw [e1]; exact ev_w_moved hWm.alike hW', by rw [e2]; exact hB'⟩, hS'.F ht⟩
            split at hx1
            · cases hx1
            · rename_i r hrr
              obtain ⟨⟨i, n, cs, hi, hd, -⟩, -⟩ := hrows _ (ev_at_mem hrr)
              dsimp only at hi hd
              split at hx1
              · rename_i ty a e1 e2 e3
                split at hx1
                · rename_i hf
                  cases hx1
                  dsimp only at e3
                  subst e3
                  obtain ⟨v, sc', rfl, hv, hs2⟩ := ev_s_cons hs'
                  cases ev_s_nil hs2
                  obtain ⟨x0, rfl⟩ := ev_vI hf.1 hv
                  have hi : some ((.ireturn : Instr), (1 : Nat), ([] : List Cond)) = some (i, n, cs) := by simpa [ev_rowI, e1] using hi
                  cases hi
                  exact W.zret B.exec B.bytes (hr.trans e2) (ev_fit_ok hf.2 hv).1 (fun t ht hWm => qq _ t ht hWm hv rfl rfl) hS'.2.2 hd
                · cases hx1
              · rename_i a e1 e2 e3
                split at hx1
                · rename_i hf
                  cases hx1
                  dsimp only at e3
                  subst e3
                  obtain ⟨v, sc', rfl, hv, hs2⟩ := ev_s_cons hs'
                  cases ev_s_nil hs2
                  obtain ⟨x0, rfl⟩ := ev_vL hf hv
                  have hi : some ((.lreturn : Instr), (1 : Nat), ([] : List Cond)) = some (i, n, cs) := by simpa [ev_rowI, e1] using hi
                  cases hi
                  exact W.lret B.exec B.bytes (hr.trans e2) (fun t ht hWm => qq _ t ht hWm hv rfl rfl) hS'.2.2 hd
                · cases hx1
              · rename_i nm a e1 e2 e3
                split at hx1
                · rename_i hf
                  cases hx1
                  dsimp only at e3
                  subst e3
                  obtain ⟨v, sc', rfl, hv, hs2⟩ := ev_s_cons hs'
                  cases ev_s_nil hs2
                  have hi : some ((.areturn : Instr), (1 : Nat), ([] : List Cond)) = some (i, n, cs) := by simpa [ev_rowI, e1] using hi
                  cases hi
                  exact W.aret B.exec B.bytes (hr.trans e2) (Or.inl ⟨_, rfl⟩) (ev_vN hf hv) (fun t ht hWm => qq _ t ht hWm hv rfl rfl) hS'.2.2 hd
                · cases hx1
              · rename_i e1 e2 e3
                cases hx1
                dsimp only at e3
                subst e3
                cases ev_s_nil hs'
                have hi : some ((.return_ : Instr), (1 : Nat), ([] : List Cond)) = some (i, n, cs) := by simpa [ev_rowI, e1] using hi
                cases hi
                exact W.vret B.exec B.bytes (hr.trans e2) (fun t ht hWm => qq none t ht hWm trivial rfl rfl) hS'.2.2 hd
              · cases hx1
          · cases hx1
        · obtain ⟨v, h1, h2⟩ := ev_args_ok 0 hs q hq
          exact ⟨v, h1, hl.2.2 _ h2⟩
      · cases h
    · cases h
end
section
/-! THE METHODS that are reached, by their rows -/
def mr_0 : ev_MI := (⟨"BarberMinutes", "<init>", "()V"⟩, prog_1_method_1_code, 1, none, 123, 1562, [(0, 9, 0, 0, 0, []), (1, 66, 1, 0, 0, []), (4, 9, 0, 0, 0, []), (5, 2, 900, 0, 0, []), (8, 59, 0, 0, 0, []), (10, 51, 8, 0, 9, []), (13, 9, 0, 0, 0, []), (14, 62, 4, 0, 13, []), (17, 31, 0, 0, 0, []), (18, 203, 112, 15, 0, []), (21, 51, 8, 2, 16, []), (24, 9, 0, 0, 0, []), (25, 62, 7, 0, 20, []), (28, 31, 0, 0, 0, []), (29, 203, 113, 22, 0, []), (32, 50, 8, 3, 23, []), (35, 9, 0, 0, 0, []), (36, 62, 7, 0, 20, []), (39, 31, 0, 0, 0, []), (40, 203, 113, 22, 0, []), (43, 50, 8, 4, 27, []), (46, 9, 0, 0, 0, []), (47, 62, 2, 0, 30, []), (50, 31, 0, 0, 0, []), (51, 203, 114, 32, 0, []), (54, 51, 8, 5, 33, []), (57, 9, 0, 0, 0, []), (58, 62, 2, 0, 30, []), (61, 31, 0, 0, 0, []), (62, 203, 114, 32, 0, []), (65, 51, 8, 6, 37, []), (68, 9, 0, 0, 0, []), (69, 62, 3, 0, 40, []), (72, 31, 0, 0, 0, []), (73, 202, 115, 42, 0, []), (76, 51, 8, 7, 43, []), (79, 9, 0, 0, 0, []), (80, 62, 0, 0, 47, []), (83, 31, 0, 0, 0, []), (84, 202, 116, 49, 0, []), (87, 51, 8, 8, 50, []), (90, 9, 0, 0, 0, []), (91, 62, 6, 0, 54, []), (94, 31, 0, 0, 0, []), (95, 203, 117, 56, 0, []), (98, 51, 8, 9, 57, []), (101, 9, 0, 0, 0, []), (102, 62, 5, 0, 61, []), (105, 31, 0, 0, 0, []), (106, 203, 118, 63, 0, []), (109, 51, 8, 10, 64, []), (112, 9, 0, 0, 0, []), (113, 62, 1, 0, 68, []), (116, 31, 0, 0, 0, []), (117, 203, 119, 70, 0, []), (120, 51, 8, 11, 71, []), (123, 213, 0, 0, 0, [])])
def mr_1 : ev_MI := (⟨"BarberMinutesModel", "<init>", "()V"⟩, prog_11_method_1_code, 1, none, 11, 1580, [(0, 9, 0, 0, 0, []), (1, 66, 1, 0, 0, []), (4, 9, 0, 0, 0, []), (5, 2, 900, 0, 0, []), (8, 58, 0, 0, 0, []), (10, 51, 9, 1, 7, []), (13, 9, 0, 0, 0, []), (14, 0, (-1), 0, 0, []), (15, 50, 9, 10, 13, []), (18, 9, 0, 0, 0, []), (19, 1, 8, 0, 0, []), (21, 58, 0, 0, 0, []), (23, 51, 9, 12, 17, []), (26, 9, 0, 0, 0, []), (27, 2, 213, 0, 0, []), (30, 58, 0, 0, 0, []), (32, 51, 9, 15, 20, []), (35, 9, 0, 0, 0, []), (36, 2, 213, 0, 0, []), (39, 58, 0, 0, 0, []), (41, 51, 9, 16, 23, []), (44, 9, 0, 0, 0, []), (45, 1, 11, 0, 0, []), (47, 58, 0, 0, 0, []), (49, 51, 9, 17, 26, []), (52, 9, 0, 0, 0, []), (53, 2, 176, 0, 0, []), (56, 58, 0, 0, 0, []), (58, 51, 9, 18, 29, []), (61, 9, 0, 0, 0, []), (62, 1, 33, 0, 0, []), (64, 58, 0, 0, 0, []), (66, 51, 9, 19, 32, []), (69, 9, 0, 0, 0, []), (70, 1, 11, 0, 0, []), (72, 58, 0, 0, 0, []), (74, 51, 9, 22, 35, []), (77, 9, 0, 0, 0, []), (78, 0, 5, 0, 0, []), (79, 58, 0, 0, 0, []), (81, 51, 9, 23, 38, []), (84, 9, 0, 0, 0, []), (85, 0, 5, 0, 0, []), (86, 58, 0, 0, 0, []), (88, 51, 9, 24, 41, []), (91, 9, 0, 0, 0, []), (92, 0, 5, 0, 0, []), (93, 58, 0, 0, 0, []), (95, 51, 9, 26, 44, []), (98, 213, 0, 0, 0, [])])
def mr_2 : ev_MI := (⟨"BarberMinutes", "feed", "(IIIII)I"⟩, prog_1_method_2_code, 6, (some .int), 0, 0, [(0, 9, 0, 0, 0, []), (1, 49, 8, 1, 75, []), (4, 1, 20, 0, 0, []), (6, 16, 0, 0, 0, []), (7, 2, 900, 0, 0, []), (10, 40, 5, 0, 0, []), (15, 9, 0, 0, 0, []), (16, 5, 1, 0, 0, []), (17, 200, 120, 79, 1, []), (20, 9, 0, 0, 0, []), (21, 5, 2, 0, 0, []), (22, 200, 120, 79, 1, []), (25, 9, 0, 0, 0, []), (26, 5, 3, 0, 0, []), (27, 200, 120, 79, 1, []), (30, 9, 0, 0, 0, []), (31, 4, 4, 0, 0, []), (33, 200, 120, 79, 1, []), (36, 9, 0, 0, 0, []), (37, 4, 5, 0, 0, []), (39, 200, 120, 79, 1, []), (42, 9, 0, 0, 0, []), (43, 49, 8, 1, 75, []), (46, 210, 0, 0, 0, [])])
def mr_3 : ev_MI := (⟨"BarberMinutesModel", "feed", "(IIIII)I"⟩, prog_11_method_11_code, 8, (some .int), 0, 0, [(0, 9, 0, 0, 0, []), (1, 0, 0, 0, 0, []), (2, 50, 9, 0, 47, []), (5, 9, 0, 0, 0, []), (6, 49, 9, 2, 53, []), (9, 1, 20, 0, 0, []), (11, 16, 0, 0, 0, []), (12, 2, 900, 0, 0, []), (15, 40, 5, 0, 0, []), (20, 0, 0, 0, 0, []), (21, 10, 6, 0, 0, []), (23, 4, 6, 0, 0, []), (25, 1, 20, 0, 0, []), (27, 38, 93, 0, 0, []), (30, 4, 6, 0, 0, []), (32, 0, 4, 0, 0, []), (33, 38, 7, 0, 0, []), (36, 5, 1, 0, 0, []), (37, 47, 39, 0, 0, []), (40, 4, 6, 0, 0, []), (42, 1, 8, 0, 0, []), (44, 38, 7, 0, 0, []), (47, 5, 2, 0, 0, []), (48, 47, 28, 0, 0, []), (51, 4, 6, 0, 0, []), (53, 1, 12, 0, 0, []), (55, 38, 7, 0, 0, []), (58, 5, 3, 0, 0, []), (59, 47, 17, 0, 0, []), (62, 4, 6, 0, 0, []), (64, 1, 16, 0, 0, []), (66, 38, 8, 0, 0, []), (69, 4, 4, 0, 0, []), (71, 47, 5, 0, 0, []), (74, 4, 5, 0, 0, []), (76, 10, 7, 0, 0, []), (78, 9, 0, 0, 0, []), (79, 49, 9, 1, 7, []), (82, 9, 0, 0, 0, []), (83, 49, 9, 2, 53, []), (86, 4, 7, 0, 0, []), (88, 1, 24, 0, 0, []), (90, 1, 8, 0, 0, []), (92, 4, 6, 0, 0, []), (94, 0, 4, 0, 0, []), (95, 26, 0, 0, 0, []), (96, 18, 0, 0, 0, []), (97, 17, 0, 0, 0, []), (98, 23, 0, 0, 0, []), (99, 2, 255, 0, 0, []), (102, 19, 0, 0, 0, []), (103, 56, 0, 0, 0, []), (104, 9, 0, 0, 0, []), (105, 31, 0, 0, 0, []), (106, 49, 9, 2, 53, []), (109, 0, 1, 0, 0, []), (110, 16, 0, 0, 0, []), (111, 50, 9, 2, 53, []), (114, 34, 6, 1, 0, []), (117, 47, (-94), 0, 0, []), (120, 9, 0, 0, 0, []), (121, 49, 9, 2, 53, []), (124, 210, 0, 0, 0, [])])
def mr_4 : ev_MI := (⟨"BarberMinutes", "town", "(I)I"⟩, prog_1_method_4_code, 3, (some .int), 0, 0, [(0, 5, 1, 0, 0, []), (1, 43, 11, 0, 0, []), (4, 5, 1, 0, 0, []), (5, 9, 0, 0, 0, []), (6, 49, 8, 1, 75, []), (9, 40, 9, 0, 0, []), (12, 9, 0, 0, 0, []), (13, 0, 2, 0, 0, []), (14, 200, 121, 83, 1, []), (17, 210, 0, 0, 0, []), (18, 9, 0, 0, 0, []), (19, 0, 0, 0, 0, []), (20, 50, 8, 1, 75, []), (23, 9, 0, 0, 0, []), (24, 9, 0, 0, 0, []), (25, 49, 8, 2, 16, []), (28, 9, 0, 0, 0, []), (29, 49, 8, 0, 9, []), (32, 5, 1, 0, 0, []), (33, 9, 0, 0, 0, []), (34, 49, 8, 4, 27, []), (37, 200, 122, 87, 3, []), (40, 50, 8, 12, 91, []), (43, 9, 0, 0, 0, []), (44, 49, 8, 12, 91, []), (47, 41, 20, 0, 0, []), (50, 9, 0, 0, 0, []), (51, 9, 0, 0, 0, []), (52, 49, 8, 2, 16, []), (55, 200, 123, 94, 0, []), (58, 50, 8, 13, 98, []), (61, 9, 0, 0, 0, []), (62, 0, 4, 0, 0, []), (63, 200, 121, 83, 1, []), (66, 210, 0, 0, 0, [])])
def mr_5 : ev_MI := (⟨"BarberMinutesModel", "town", "(I)I"⟩, prog_11_method_30_code, 3, (some .int), 0, 0, [(0, 9, 0, 0, 0, []), (1, 200, 141, 159, 0, []), (4, 5, 1, 0, 0, []), (5, 0, 0, 0, 0, []), (6, 9, 0, 0, 0, []), (7, 49, 9, 2, 53, []), (10, 201, 142, 138, 3, []), (13, 42, 9, 0, 0, []), (16, 9, 0, 0, 0, []), (17, 0, 2, 0, 0, []), (18, 200, 143, 162, 1, []), (21, 210, 0, 0, 0, []), (22, 9, 0, 0, 0, []), (23, 0, 0, 0, 0, []), (24, 50, 9, 2, 53, []), (27, 9, 0, 0, 0, []), (28, 0, 0, 0, 0, []), (29, 50, 9, 9, 89, []), (32, 9, 0, 0, 0, []), (33, 0, 0, 0, 0, []), (34, 50, 9, 13, 85, []), (37, 0, 0, 0, 0, []), (38, 11, 2, 0, 0, []), (39, 5, 2, 0, 0, []), (40, 2, 213, 0, 0, []), (43, 38, 16, 0, 0, []), (46, 9, 0, 0, 0, []), (47, 49, 9, 16, 23, []), (50, 5, 2, 0, 0, []), (51, 0, 0, 0, 0, []), (52, 56, 0, 0, 0, []), (53, 34, 2, 1, 0, []), (56, 47, (-17), 0, 0, []), (59, 9, 0, 0, 0, []), (60, 5, 1, 0, 0, []), (61, 50, 9, 3, 56, []), (64, 9, 0, 0, 0, []), (65, 0, 0, 0, 0, []), (66, 50, 9, 5, 59, []), (69, 9, 0, 0, 0, []), (70, 200, 144, 106, 0, []), (73, 9, 0, 0, 0, []), (74, 200, 145, 165, 0, []), (77, 9, 0, 0, 0, []), (78, 49, 9, 13, 85, []), (81, 42, 23, 0, 0, []), (104, 9, 0, 0, 0, []), (105, 49, 9, 13, 85, []), (108, 42, 19, 0, 0, []), (127, 9, 0, 0, 0, []), (128, 49, 9, 13, 85, []), (131, 42, 32, 0, 0, []), (163, 9, 0, 0, 0, []), (164, 49, 9, 13, 85, []), (167, 41, 9, 0, 0, []), (170, 9, 0, 0, 0, []), (171, 0, 4, 0, 0, []), (172, 200, 143, 162, 1, []), (175, 210, 0, 0, 0, [])])
def mr_6 : ev_MI := (⟨"BarberMinutes", "fault", "()I"⟩, prog_1_method_5_code, 1, (some .int), 0, 0, [(0, 9, 0, 0, 0, []), (1, 49, 8, 12, 91, []), (4, 210, 0, 0, 0, [])])
def mr_7 : ev_MI := (⟨"BarberMinutesModel", "fault", "()I"⟩, prog_11_method_42_code, 1, (some .int), 0, 0, [(0, 9, 0, 0, 0, []), (1, 0, 0, 0, 0, []), (2, 50, 9, 0, 47, []), (5, 9, 0, 0, 0, []), (6, 49, 9, 9, 89, []), (9, 210, 0, 0, 0, [])])
def mr_8 : ev_MI := (⟨"BarberMinutes", "where", "()I"⟩, prog_1_method_6_code, 1, (some .int), 0, 0, [(0, 9, 0, 0, 0, []), (1, 49, 8, 14, 113, []), (4, 0, 4, 0, 0, []), (5, 36, 10, 0, 0, []), (15, 0, (-1), 0, 0, []), (16, 210, 0, 0, 0, [])])
def mr_9 : ev_MI := (⟨"BarberMinutesModel", "where", "()I"⟩, prog_11_method_43_code, 1, (some .int), 0, 0, [(0, 9, 0, 0, 0, []), (1, 0, 0, 0, 0, []), (2, 50, 9, 0, 47, []), (5, 9, 0, 0, 0, []), (6, 49, 9, 11, 50, []), (9, 0, 4, 0, 0, []), (10, 36, 10, 0, 0, []), (20, 0, (-1), 0, 0, []), (21, 210, 0, 0, 0, [])])
def mr_10 : ev_MI := (⟨"BarberMinutes", "man", "(II)I"⟩, prog_1_method_7_code, 3, (some .int), 0, 0, [(0, 9, 0, 0, 0, []), (1, 5, 1, 0, 0, []), (2, 200, 150, 116, 1, []), (5, 42, 13, 0, 0, []), (18, 9, 0, 0, 0, []), (19, 0, 1, 0, 0, []), (20, 200, 121, 83, 1, []), (23, 210, 0, 0, 0, [])])
def mr_11 : ev_MI := (⟨"BarberMinutesModel", "man", "(II)I"⟩, prog_11_method_60_code, 3, (some .int), 0, 0, [(0, 9, 0, 0, 0, []), (1, 200, 141, 159, 0, []), (4, 9, 0, 0, 0, []), (5, 5, 1, 0, 0, []), (6, 200, 151, 282, 1, []), (9, 41, 13, 0, 0, []), (22, 9, 0, 0, 0, []), (23, 0, 1, 0, 0, []), (24, 200, 143, 162, 1, []), (27, 210, 0, 0, 0, [])])
def mr_12 : ev_MI := (⟨"BarberMinutes", "motion", "(II)I"⟩, prog_1_method_8_code, 3, (some .int), 0, 0, [(0, 9, 0, 0, 0, []), (1, 5, 1, 0, 0, []), (2, 200, 152, 144, 1, []), (5, 42, 13, 0, 0, []), (18, 9, 0, 0, 0, []), (19, 0, 1, 0, 0, []), (20, 200, 121, 83, 1, []), (23, 210, 0, 0, 0, [])])
def mr_13 : ev_MI := (⟨"BarberMinutesModel", "motion", "(II)I"⟩, prog_11_method_62_code, 3, (some .int), 0, 0, [(0, 9, 0, 0, 0, []), (1, 200, 141, 159, 0, []), (4, 9, 0, 0, 0, []), (5, 5, 1, 0, 0, []), (6, 200, 153, 288, 1, []), (9, 41, 13, 0, 0, []), (22, 9, 0, 0, 0, []), (23, 0, 1, 0, 0, []), (24, 200, 143, 162, 1, []), (27, 210, 0, 0, 0, [])])
def mr_14 : ev_MI := (⟨"BarberMinutes", "floor", "(I)I"⟩, prog_1_method_9_code, 2, (some .int), 0, 0, [(0, 9, 0, 0, 0, []), (1, 200, 154, 171, 0, []), (4, 42, 12, 0, 0, []), (16, 9, 0, 0, 0, []), (17, 0, 1, 0, 0, []), (18, 200, 121, 83, 1, []), (21, 210, 0, 0, 0, [])])
def mr_15 : ev_MI := (⟨"BarberMinutesModel", "floor", "(I)I"⟩, prog_11_method_63_code, 2, (some .int), 0, 0, [(0, 9, 0, 0, 0, []), (1, 200, 141, 159, 0, []), (4, 9, 0, 0, 0, []), (5, 49, 9, 14, 176, []), (8, 41, 24, 0, 0, []), (32, 9, 0, 0, 0, []), (33, 0, 1, 0, 0, []), (34, 200, 143, 162, 1, []), (37, 210, 0, 0, 0, [])])
def mr_16 : ev_MI := (⟨"BarberMinutes", "bald", "()I"⟩, prog_1_method_10_code, 1, (some .int), 0, 0, [(0, 9, 0, 0, 0, []), (1, 200, 154, 171, 0, []), (4, 41, 11, 0, 0, []), (7, 9, 0, 0, 0, []), (8, 0, 1, 0, 0, []), (9, 200, 121, 83, 1, []), (12, 47, 18, 0, 0, []), (30, 210, 0, 0, 0, [])])
def mr_17 : ev_MI := (⟨"BarberMinutesModel", "bald", "()I"⟩, prog_11_method_64_code, 1, (some .int), 0, 0, [(0, 9, 0, 0, 0, []), (1, 200, 141, 159, 0, []), (4, 9, 0, 0, 0, []), (5, 49, 9, 14, 176, []), (8, 41, 14, 0, 0, []), (22, 9, 0, 0, 0, []), (23, 0, 1, 0, 0, []), (24, 200, 143, 162, 1, []), (27, 210, 0, 0, 0, [])])
def mr_18 : ev_MI := (⟨"BarberMinutes", "longest", "()I"⟩, prog_1_method_11_code, 3, (some .int), 0, 0, [(0, 9, 0, 0, 0, []), (1, 200, 154, 171, 0, []), (4, 41, 9, 0, 0, []), (7, 9, 0, 0, 0, []), (8, 0, 1, 0, 0, []), (9, 200, 121, 83, 1, []), (12, 210, 0, 0, 0, [])])
def mr_19 : ev_MI := (⟨"BarberMinutesModel", "longest", "()I"⟩, prog_11_method_65_code, 3, (some .int), 0, 0, [(0, 9, 0, 0, 0, []), (1, 200, 141, 159, 0, []), (4, 9, 0, 0, 0, []), (5, 49, 9, 14, 176, []), (8, 42, 9, 0, 0, []), (11, 9, 0, 0, 0, []), (12, 0, 1, 0, 0, []), (13, 200, 143, 162, 1, []), (16, 210, 0, 0, 0, [])])
def mr_20 : ev_MI := (⟨"BarberMinutes", "ready", "()I"⟩, prog_1_method_12_code, 3, (some .int), 0, 0, [(0, 9, 0, 0, 0, []), (1, 200, 154, 171, 0, []), (4, 41, 9, 0, 0, []), (7, 9, 0, 0, 0, []), (8, 0, 1, 0, 0, []), (9, 200, 121, 83, 1, []), (12, 210, 0, 0, 0, [])])
def mr_21 : ev_MI := (⟨"BarberMinutesModel", "ready", "()I"⟩, prog_11_method_66_code, 3, (some .int), 0, 0, [(0, 9, 0, 0, 0, []), (1, 200, 141, 159, 0, []), (4, 9, 0, 0, 0, []), (5, 49, 9, 14, 176, []), (8, 42, 9, 0, 0, []), (11, 9, 0, 0, 0, []), (12, 0, 1, 0, 0, []), (13, 200, 143, 162, 1, []), (16, 210, 0, 0, 0, [])])
def mr_22 : ev_MI := (⟨"BarberMinutes", "quorum", "()I"⟩, prog_1_method_13_code, 1, (some .int), 0, 0, [(0, 9, 0, 0, 0, []), (1, 200, 154, 171, 0, []), (4, 41, 11, 0, 0, []), (7, 9, 0, 0, 0, []), (8, 0, 1, 0, 0, []), (9, 200, 121, 83, 1, []), (12, 47, 25, 0, 0, []), (37, 210, 0, 0, 0, [])])
def mr_23 : ev_MI := (⟨"BarberMinutesModel", "quorum", "()I"⟩, prog_11_method_68_code, 1, (some .int), 0, 0, [(0, 9, 0, 0, 0, []), (1, 200, 141, 159, 0, []), (4, 9, 0, 0, 0, []), (5, 49, 9, 14, 176, []), (8, 41, 14, 0, 0, []), (22, 9, 0, 0, 0, []), (23, 0, 1, 0, 0, []), (24, 200, 143, 162, 1, []), (27, 210, 0, 0, 0, [])])
def mr_24 : ev_MI := (⟨"BarberMinutes", "behind", "(I)I"⟩, prog_1_method_14_code, 2, (some .int), 0, 0, [(0, 9, 0, 0, 0, []), (1, 5, 1, 0, 0, []), (2, 200, 152, 144, 1, []), (5, 41, 11, 0, 0, []), (8, 9, 0, 0, 0, []), (9, 0, 1, 0, 0, []), (10, 200, 121, 83, 1, []), (13, 47, 15, 0, 0, []), (28, 210, 0, 0, 0, [])])
def mr_25 : ev_MI := (⟨"BarberMinutesModel", "behind", "(I)I"⟩, prog_11_method_69_code, 4, (some .int), 0, 0, [(0, 9, 0, 0, 0, []), (1, 200, 141, 159, 0, []), (4, 9, 0, 0, 0, []), (5, 5, 1, 0, 0, []), (6, 200, 153, 288, 1, []), (9, 42, 9, 0, 0, []), (12, 9, 0, 0, 0, []), (13, 0, 1, 0, 0, []), (14, 200, 143, 162, 1, []), (17, 210, 0, 0, 0, [])])
def mr_26 : ev_MI := (⟨"BarberMinutes", "depth", "(I)I"⟩, prog_1_method_15_code, 2, (some .int), 0, 0, [(0, 9, 0, 0, 0, []), (1, 5, 1, 0, 0, []), (2, 200, 152, 144, 1, []), (5, 41, 11, 0, 0, []), (8, 9, 0, 0, 0, []), (9, 0, 1, 0, 0, []), (10, 200, 121, 83, 1, []), (13, 47, 15, 0, 0, []), (28, 210, 0, 0, 0, [])])
def mr_27 : ev_MI := (⟨"BarberMinutesModel", "depth", "(I)I"⟩, prog_11_method_71_code, 2, (some .int), 0, 0, [(0, 9, 0, 0, 0, []), (1, 200, 141, 159, 0, []), (4, 9, 0, 0, 0, []), (5, 5, 1, 0, 0, []), (6, 200, 153, 288, 1, []), (9, 41, 11, 0, 0, []), (20, 9, 0, 0, 0, []), (21, 0, 1, 0, 0, []), (22, 200, 143, 162, 1, []), (25, 210, 0, 0, 0, [])])
def mr_28 : ev_MI := (⟨"BarberMinutes", "longIn", "(II)I"⟩, prog_1_method_16_code, 3, (some .int), 0, 0, [(0, 9, 0, 0, 0, []), (1, 5, 1, 0, 0, []), (2, 200, 150, 116, 1, []), (5, 41, 9, 0, 0, []), (8, 9, 0, 0, 0, []), (9, 0, 1, 0, 0, []), (10, 200, 121, 83, 1, []), (13, 210, 0, 0, 0, [])])
def mr_29 : ev_MI := (⟨"BarberMinutesModel", "longIn", "(II)I"⟩, prog_11_method_73_code, 4, (some .int), 0, 0, [(0, 9, 0, 0, 0, []), (1, 200, 141, 159, 0, []), (4, 9, 0, 0, 0, []), (5, 9, 0, 0, 0, []), (6, 5, 1, 0, 0, []), (7, 200, 151, 282, 1, []), (10, 5, 2, 0, 0, []), (11, 0, 0, 0, 0, []), (12, 1, 60, 0, 0, []), (14, 201, 142, 138, 3, []), (17, 200, 155, 307, 2, []), (20, 11, 3, 0, 0, []), (21, 5, 3, 0, 0, []), (22, 41, 9, 0, 0, []), (25, 9, 0, 0, 0, []), (26, 5, 3, 0, 0, []), (27, 200, 143, 162, 1, []), (30, 210, 0, 0, 0, [])])
def mr_30 : ev_MI := (⟨"BarberMinutes", "yesIn", "(II)I"⟩, prog_1_method_17_code, 3, (some .int), 0, 0, [(0, 9, 0, 0, 0, []), (1, 5, 1, 0, 0, []), (2, 200, 152, 144, 1, []), (5, 41, 9, 0, 0, []), (8, 9, 0, 0, 0, []), (9, 0, 1, 0, 0, []), (10, 200, 121, 83, 1, []), (13, 210, 0, 0, 0, [])])
def mr_31 : ev_MI := (⟨"BarberMinutesModel", "yesIn", "(II)I"⟩, prog_11_method_74_code, 4, (some .int), 0, 0, [(0, 9, 0, 0, 0, []), (1, 200, 141, 159, 0, []), (4, 9, 0, 0, 0, []), (5, 9, 0, 0, 0, []), (6, 5, 1, 0, 0, []), (7, 200, 153, 288, 1, []), (10, 5, 2, 0, 0, []), (11, 0, 0, 0, 0, []), (12, 1, 60, 0, 0, []), (14, 201, 142, 138, 3, []), (17, 200, 155, 307, 2, []), (20, 11, 3, 0, 0, []), (21, 5, 3, 0, 0, []), (22, 41, 9, 0, 0, []), (25, 9, 0, 0, 0, []), (26, 5, 3, 0, 0, []), (27, 200, 143, 162, 1, []), (30, 210, 0, 0, 0, [])])
def mr_32 : ev_MI := (⟨"BarberMinutes", "carryIn", "(I)I"⟩, prog_1_method_18_code, 2, (some .int), 0, 0, [(0, 9, 0, 0, 0, []), (1, 5, 1, 0, 0, []), (2, 200, 152, 144, 1, []), (5, 41, 11, 0, 0, []), (8, 9, 0, 0, 0, []), (9, 0, 1, 0, 0, []), (10, 200, 121, 83, 1, []), (13, 47, 12, 0, 0, []), (25, 210, 0, 0, 0, [])])
def mr_33 : ev_MI := (⟨"BarberMinutesModel", "carryIn", "(I)I"⟩, prog_11_method_76_code, 2, (some .int), 0, 0, [(0, 9, 0, 0, 0, []), (1, 200, 141, 159, 0, []), (4, 9, 0, 0, 0, []), (5, 5, 1, 0, 0, []), (6, 200, 153, 288, 1, []), (9, 41, 11, 0, 0, []), (20, 9, 0, 0, 0, []), (21, 0, 1, 0, 0, []), (22, 200, 143, 162, 1, []), (25, 210, 0, 0, 0, [])])
def mr_34 : ev_MI := (⟨"BarberMinutes", "hairyIn", "()I"⟩, prog_1_method_19_code, 2, (some .int), 0, 0, [(0, 9, 0, 0, 0, []), (1, 200, 154, 171, 0, []), (4, 41, 9, 0, 0, []), (7, 9, 0, 0, 0, []), (8, 0, 1, 0, 0, []), (9, 200, 121, 83, 1, []), (12, 210, 0, 0, 0, [])])
def mr_35 : ev_MI := (⟨"BarberMinutesModel", "hairyIn", "()I"⟩, prog_11_method_77_code, 2, (some .int), 0, 0, [(0, 9, 0, 0, 0, []), (1, 200, 141, 159, 0, []), (4, 9, 0, 0, 0, []), (5, 49, 9, 14, 176, []), (8, 42, 9, 0, 0, []), (11, 9, 0, 0, 0, []), (12, 0, 1, 0, 0, []), (13, 200, 143, 162, 1, []), (16, 210, 0, 0, 0, [])])
def mr_36 : ev_MI := (⟨"BarberMinutes", "soonest", "()I"⟩, prog_1_method_20_code, 5, (some .int), 0, 0, [(0, 9, 0, 0, 0, []), (1, 200, 154, 171, 0, []), (4, 41, 9, 0, 0, []), (7, 9, 0, 0, 0, []), (8, 0, 1, 0, 0, []), (9, 200, 121, 83, 1, []), (12, 210, 0, 0, 0, [])])
def mr_37 : ev_MI := (⟨"BarberMinutesModel", "soonest", "()I"⟩, prog_11_method_78_code, 4, (some .int), 0, 0, [(0, 9, 0, 0, 0, []), (1, 200, 141, 159, 0, []), (4, 9, 0, 0, 0, []), (5, 49, 9, 14, 176, []), (8, 42, 9, 0, 0, []), (11, 9, 0, 0, 0, []), (12, 0, 1, 0, 0, []), (13, 200, 143, 162, 1, []), (16, 210, 0, 0, 0, [])])
def mr_38 : ev_MI := (⟨"BarberMinutes", "worthOf", "(II)I"⟩, prog_1_method_23_code, 4, (some .int), 0, 0, [(0, 9, 0, 0, 0, []), (1, 5, 2, 0, 0, []), (2, 200, 156, 213, 1, []), (5, 41, 5, 0, 0, []), (8, 0, (-1), 0, 0, []), (9, 210, 0, 0, 0, [])])
def mr_39 : ev_MI := (⟨"BarberMinutesModel", "worthOf", "(II)I"⟩, prog_11_method_81_code, 5, (some .int), 0, 0, [(0, 9, 0, 0, 0, []), (1, 200, 141, 159, 0, []), (4, 9, 0, 0, 0, []), (5, 9, 0, 0, 0, []), (6, 49, 9, 14, 176, []), (9, 9, 0, 0, 0, []), (10, 49, 9, 14, 176, []), (13, 41, 25, 0, 0, []), (38, 0, 0, 0, 0, []), (39, 200, 155, 307, 2, []), (42, 11, 3, 0, 0, []), (43, 5, 3, 0, 0, []), (44, 41, 9, 0, 0, []), (47, 9, 0, 0, 0, []), (48, 5, 3, 0, 0, []), (49, 200, 143, 162, 1, []), (52, 210, 0, 0, 0, [])])
def mr_40 : ev_MI := (⟨"BarberMinutes", "bestRow", "(I)I"⟩, prog_1_method_24_code, 2, (some .int), 0, 0, [(0, 9, 0, 0, 0, []), (1, 5, 1, 0, 0, []), (2, 200, 156, 213, 1, []), (5, 41, 5, 0, 0, []), (8, 0, (-1), 0, 0, []), (9, 210, 0, 0, 0, [])])
def mr_41 : ev_MI := (⟨"BarberMinutesModel", "bestRow", "(I)I"⟩, prog_11_method_84_code, 3, (some .int), 0, 0, [(0, 9, 0, 0, 0, []), (1, 200, 141, 159, 0, []), (4, 9, 0, 0, 0, []), (5, 9, 0, 0, 0, []), (6, 49, 9, 14, 176, []), (9, 5, 1, 0, 0, []), (10, 0, 1, 0, 0, []), (11, 0, 4, 0, 0, []), (12, 201, 142, 138, 3, []), (15, 200, 155, 307, 2, []), (18, 11, 2, 0, 0, []), (19, 5, 2, 0, 0, []), (20, 41, 11, 0, 0, []), (23, 9, 0, 0, 0, []), (24, 5, 2, 0, 0, []), (25, 200, 143, 162, 1, []), (28, 47, 8, 0, 0, []), (36, 210, 0, 0, 0, [])])
def mr_42 : ev_MI := (⟨"BarberMinutes", "bestWorth", "(I)I"⟩, prog_1_method_25_code, 2, (some .int), 0, 0, [(0, 9, 0, 0, 0, []), (1, 5, 1, 0, 0, []), (2, 200, 156, 213, 1, []), (5, 41, 5, 0, 0, []), (8, 0, (-1), 0, 0, []), (9, 210, 0, 0, 0, [])])
def mr_43 : ev_MI := (⟨"BarberMinutesModel", "bestWorth", "(I)I"⟩, prog_11_method_85_code, 3, (some .int), 0, 0, [(0, 9, 0, 0, 0, []), (1, 200, 141, 159, 0, []), (4, 9, 0, 0, 0, []), (5, 9, 0, 0, 0, []), (6, 49, 9, 14, 176, []), (9, 5, 1, 0, 0, []), (10, 0, 1, 0, 0, []), (11, 0, 4, 0, 0, []), (12, 201, 142, 138, 3, []), (15, 200, 155, 307, 2, []), (18, 11, 2, 0, 0, []), (19, 5, 2, 0, 0, []), (20, 41, 11, 0, 0, []), (23, 9, 0, 0, 0, []), (24, 5, 2, 0, 0, []), (25, 200, 143, 162, 1, []), (28, 47, 13, 0, 0, []), (41, 210, 0, 0, 0, [])])
def mr_44 : ev_MI := (⟨"BarberMinutes", "bestCarried", "(I)I"⟩, prog_1_method_26_code, 2, (some .int), 0, 0, [(0, 9, 0, 0, 0, []), (1, 5, 1, 0, 0, []), (2, 200, 156, 213, 1, []), (5, 41, 5, 0, 0, []), (8, 0, (-1), 0, 0, []), (9, 210, 0, 0, 0, [])])
def mr_45 : ev_MI := (⟨"BarberMinutesModel", "bestCarried", "(I)I"⟩, prog_11_method_86_code, 3, (some .int), 0, 0, [(0, 9, 0, 0, 0, []), (1, 200, 141, 159, 0, []), (4, 9, 0, 0, 0, []), (5, 9, 0, 0, 0, []), (6, 49, 9, 14, 176, []), (9, 5, 1, 0, 0, []), (10, 0, 1, 0, 0, []), (11, 0, 4, 0, 0, []), (12, 201, 142, 138, 3, []), (15, 200, 155, 307, 2, []), (18, 11, 2, 0, 0, []), (19, 5, 2, 0, 0, []), (20, 41, 9, 0, 0, []), (23, 9, 0, 0, 0, []), (24, 5, 2, 0, 0, []), (25, 200, 143, 162, 1, []), (28, 210, 0, 0, 0, [])])
def mr_46 : ev_MI := (⟨"BarberMinutes", "weeksFor", "(I)I"⟩, prog_1_method_27_code, 2, (some .int), 0, 0, [(0, 9, 0, 0, 0, []), (1, 5, 1, 0, 0, []), (2, 200, 152, 144, 1, []), (5, 41, 11, 0, 0, []), (8, 9, 0, 0, 0, []), (9, 0, 1, 0, 0, []), (10, 200, 121, 83, 1, []), (13, 47, 23, 0, 0, []), (36, 210, 0, 0, 0, [])])
def mr_47 : ev_MI := (⟨"BarberMinutesModel", "weeksFor", "(I)I"⟩, prog_11_method_87_code, 4, (some .int), 0, 0, [(0, 9, 0, 0, 0, []), (1, 200, 141, 159, 0, []), (4, 9, 0, 0, 0, []), (5, 5, 1, 0, 0, []), (6, 200, 153, 288, 1, []), (9, 42, 9, 0, 0, []), (12, 9, 0, 0, 0, []), (13, 0, 1, 0, 0, []), (14, 200, 143, 162, 1, []), (17, 210, 0, 0, 0, [])])
def mr_48 : ev_MI := (⟨"BarberMinutes", "swings", "(II)I"⟩, prog_1_method_29_code, 3, (some .int), 0, 0, [(0, 9, 0, 0, 0, []), (1, 5, 1, 0, 0, []), (2, 200, 150, 116, 1, []), (5, 41, 9, 0, 0, []), (8, 9, 0, 0, 0, []), (9, 0, 1, 0, 0, []), (10, 200, 121, 83, 1, []), (13, 210, 0, 0, 0, [])])
def mr_49 : ev_MI := (⟨"BarberMinutesModel", "swings", "(II)I"⟩, prog_11_method_89_code, 4, (some .int), 0, 0, [(0, 9, 0, 0, 0, []), (1, 200, 141, 159, 0, []), (4, 9, 0, 0, 0, []), (5, 9, 0, 0, 0, []), (6, 5, 1, 0, 0, []), (7, 200, 151, 282, 1, []), (10, 5, 2, 0, 0, []), (11, 0, 0, 0, 0, []), (12, 1, 54, 0, 0, []), (14, 201, 142, 138, 3, []), (17, 200, 155, 307, 2, []), (20, 11, 3, 0, 0, []), (21, 5, 3, 0, 0, []), (22, 41, 11, 0, 0, []), (25, 9, 0, 0, 0, []), (26, 5, 3, 0, 0, []), (27, 200, 143, 162, 1, []), (30, 47, 9, 0, 0, []), (39, 210, 0, 0, 0, [])])
def mr_50 : ev_MI := (⟨"BarberMinutes", "mighty", "(I)I"⟩, prog_1_method_30_code, 6, (some .int), 0, 0, [(0, 9, 0, 0, 0, []), (1, 9, 0, 0, 0, []), (2, 5, 1, 0, 0, []), (3, 200, 158, 245, 1, []), (6, 200, 157, 241, 1, []), (9, 41, 5, 0, 0, []), (12, 0, (-1), 0, 0, []), (13, 210, 0, 0, 0, [])])
def mr_51 : ev_MI := (⟨"BarberMinutesModel", "mighty", "(I)I"⟩, prog_11_method_90_code, 6, (some .int), 0, 0, [(0, 9, 0, 0, 0, []), (1, 200, 141, 159, 0, []), (4, 9, 0, 0, 0, []), (5, 9, 0, 0, 0, []), (6, 49, 9, 14, 176, []), (9, 5, 1, 0, 0, []), (10, 0, 0, 0, 0, []), (11, 1, 54, 0, 0, []), (13, 201, 142, 138, 3, []), (16, 200, 155, 307, 2, []), (19, 11, 2, 0, 0, []), (20, 5, 2, 0, 0, []), (21, 41, 9, 0, 0, []), (24, 9, 0, 0, 0, []), (25, 5, 2, 0, 0, []), (26, 200, 143, 162, 1, []), (29, 210, 0, 0, 0, [])])
def mr_52 : ev_MI := (⟨"BarberMinutes", "outvoted", "(I)I"⟩, prog_1_method_31_code, 4, (some .int), 0, 0, [(0, 9, 0, 0, 0, []), (1, 9, 0, 0, 0, []), (2, 5, 1, 0, 0, []), (3, 200, 158, 245, 1, []), (6, 200, 157, 241, 1, []), (9, 41, 5, 0, 0, []), (12, 0, (-1), 0, 0, []), (13, 210, 0, 0, 0, [])])
def mr_53 : ev_MI := (⟨"BarberMinutesModel", "outvoted", "(I)I"⟩, prog_11_method_91_code, 5, (some .int), 0, 0, [(0, 9, 0, 0, 0, []), (1, 200, 141, 159, 0, []), (4, 9, 0, 0, 0, []), (5, 9, 0, 0, 0, []), (6, 49, 9, 14, 176, []), (9, 5, 1, 0, 0, []), (10, 0, 0, 0, 0, []), (11, 1, 54, 0, 0, []), (13, 201, 142, 138, 3, []), (16, 200, 155, 307, 2, []), (19, 11, 2, 0, 0, []), (20, 5, 2, 0, 0, []), (21, 41, 9, 0, 0, []), (24, 9, 0, 0, 0, []), (25, 5, 2, 0, 0, []), (26, 200, 143, 162, 1, []), (29, 210, 0, 0, 0, [])])
def mr_54 : ev_MI := (⟨"BarberMinutes", "bench", "(I)I"⟩, prog_1_method_32_code, 7, (some .int), 0, 0, [(0, 9, 0, 0, 0, []), (1, 9, 0, 0, 0, []), (2, 5, 1, 0, 0, []), (3, 200, 158, 245, 1, []), (6, 200, 157, 241, 1, []), (9, 41, 5, 0, 0, []), (12, 0, (-1), 0, 0, []), (13, 210, 0, 0, 0, [])])
def mr_55 : ev_MI := (⟨"BarberMinutesModel", "bench", "(I)I"⟩, prog_11_method_92_code, 5, (some .int), 0, 0, [(0, 9, 0, 0, 0, []), (1, 200, 141, 159, 0, []), (4, 9, 0, 0, 0, []), (5, 9, 0, 0, 0, []), (6, 49, 9, 14, 176, []), (9, 5, 1, 0, 0, []), (10, 0, 0, 0, 0, []), (11, 1, 54, 0, 0, []), (13, 201, 142, 138, 3, []), (16, 200, 155, 307, 2, []), (19, 11, 2, 0, 0, []), (20, 5, 2, 0, 0, []), (21, 41, 9, 0, 0, []), (24, 9, 0, 0, 0, []), (25, 5, 2, 0, 0, []), (26, 200, 143, 162, 1, []), (29, 210, 0, 0, 0, [])])
def mr_56 : ev_MI := (⟨"BarberMinutes", "parting", "()I"⟩, prog_1_method_33_code, 1, (some .int), 0, 0, [(0, 9, 0, 0, 0, []), (1, 200, 154, 171, 0, []), (4, 41, 11, 0, 0, []), (7, 9, 0, 0, 0, []), (8, 0, 1, 0, 0, []), (9, 200, 121, 83, 1, []), (12, 47, 14, 0, 0, []), (26, 210, 0, 0, 0, [])])
def mr_57 : ev_MI := (⟨"BarberMinutesModel", "parting", "()I"⟩, prog_11_method_95_code, 1, (some .int), 0, 0, [(0, 9, 0, 0, 0, []), (1, 200, 141, 159, 0, []), (4, 9, 0, 0, 0, []), (5, 49, 9, 14, 176, []), (8, 41, 10, 0, 0, []), (18, 9, 0, 0, 0, []), (19, 0, 1, 0, 0, []), (20, 200, 143, 162, 1, []), (23, 210, 0, 0, 0, [])])
def mr_58 : ev_MI := (⟨"BarberMinutes", "left", "()I"⟩, prog_1_method_34_code, 1, (some .int), 0, 0, [(0, 9, 0, 0, 0, []), (1, 200, 154, 171, 0, []), (4, 41, 9, 0, 0, []), (7, 9, 0, 0, 0, []), (8, 0, 1, 0, 0, []), (9, 200, 121, 83, 1, []), (12, 210, 0, 0, 0, [])])
def mr_59 : ev_MI := (⟨"BarberMinutesModel", "left", "()I"⟩, prog_11_method_96_code, 2, (some .int), 0, 0, [(0, 9, 0, 0, 0, []), (1, 200, 141, 159, 0, []), (4, 9, 0, 0, 0, []), (5, 49, 9, 14, 176, []), (8, 42, 9, 0, 0, []), (11, 9, 0, 0, 0, []), (12, 0, 1, 0, 0, []), (13, 200, 143, 162, 1, []), (16, 210, 0, 0, 0, [])])
def mr_60 : ev_MI := (⟨"BarberMinutes", "peace", "()I"⟩, prog_1_method_35_code, 1, (some .int), 0, 0, [(0, 9, 0, 0, 0, []), (1, 200, 154, 171, 0, []), (4, 41, 11, 0, 0, []), (7, 9, 0, 0, 0, []), (8, 0, 1, 0, 0, []), (9, 200, 121, 83, 1, []), (12, 47, 14, 0, 0, []), (26, 210, 0, 0, 0, [])])
def mr_61 : ev_MI := (⟨"BarberMinutesModel", "peace", "()I"⟩, prog_11_method_97_code, 3, (some .int), 0, 0, [(0, 9, 0, 0, 0, []), (1, 200, 141, 159, 0, []), (4, 9, 0, 0, 0, []), (5, 49, 9, 14, 176, []), (8, 42, 9, 0, 0, []), (11, 9, 0, 0, 0, []), (12, 0, 1, 0, 0, []), (13, 200, 143, 162, 1, []), (16, 210, 0, 0, 0, [])])
def mr_62 : ev_MI := (⟨"BarberMinutes", "apart", "(II)I"⟩, prog_1_method_37_code, 3, (some .int), 0, 0, [(0, 9, 0, 0, 0, []), (1, 5, 1, 0, 0, []), (2, 200, 161, 269, 1, []), (5, 42, 11, 0, 0, []), (16, 9, 0, 0, 0, []), (17, 0, 1, 0, 0, []), (18, 200, 121, 83, 1, []), (21, 210, 0, 0, 0, [])])
def mr_63 : ev_MI := (⟨"BarberMinutesModel", "apart", "(II)I"⟩, prog_11_method_99_code, 3, (some .int), 0, 0, [(0, 9, 0, 0, 0, []), (1, 200, 141, 159, 0, []), (4, 9, 0, 0, 0, []), (5, 5, 1, 0, 0, []), (6, 200, 162, 344, 1, []), (9, 41, 20, 0, 0, []), (29, 9, 0, 0, 0, []), (30, 0, 1, 0, 0, []), (31, 200, 143, 162, 1, []), (34, 210, 0, 0, 0, [])])
def mr_64 : ev_MI := (⟨"BarberMinutes", "round", "()I"⟩, prog_1_method_38_code, 1, (some .int), 0, 0, [(0, 9, 0, 0, 0, []), (1, 200, 154, 171, 0, []), (4, 41, 9, 0, 0, []), (7, 9, 0, 0, 0, []), (8, 0, 1, 0, 0, []), (9, 200, 121, 83, 1, []), (12, 210, 0, 0, 0, [])])
def mr_65 : ev_MI := (⟨"BarberMinutesModel", "round", "()I"⟩, prog_11_method_102_code, 1, (some .int), 0, 0, [(0, 9, 0, 0, 0, []), (1, 200, 141, 159, 0, []), (4, 9, 0, 0, 0, []), (5, 49, 9, 14, 176, []), (8, 42, 9, 0, 0, []), (11, 9, 0, 0, 0, []), (12, 0, 1, 0, 0, []), (13, 200, 143, 162, 1, []), (16, 210, 0, 0, 0, [])])
def mr_66 : ev_MI := (⟨"BarberMinutes", "roundAt", "(I)I"⟩, prog_1_method_39_code, 2, (some .int), 0, 0, [(0, 9, 0, 0, 0, []), (1, 5, 1, 0, 0, []), (2, 200, 161, 269, 1, []), (5, 41, 9, 0, 0, []), (8, 9, 0, 0, 0, []), (9, 0, 1, 0, 0, []), (10, 200, 121, 83, 1, []), (13, 210, 0, 0, 0, [])])
def mr_67 : ev_MI := (⟨"BarberMinutesModel", "roundAt", "(I)I"⟩, prog_11_method_103_code, 2, (some .int), 0, 0, [(0, 9, 0, 0, 0, []), (1, 200, 141, 159, 0, []), (4, 9, 0, 0, 0, []), (5, 5, 1, 0, 0, []), (6, 200, 162, 344, 1, []), (9, 42, 9, 0, 0, []), (12, 9, 0, 0, 0, []), (13, 0, 1, 0, 0, []), (14, 200, 143, 162, 1, []), (17, 210, 0, 0, 0, [])])
def mr_68 : ev_MI := (⟨"BarberMinutes", "fits", "()I"⟩, prog_1_method_40_code, 1, (some .int), 0, 0, [(0, 9, 0, 0, 0, []), (1, 200, 163, 285, 0, []), (4, 41, 7, 0, 0, []), (7, 0, (-1), 0, 0, []), (8, 47, 14, 0, 0, []), (22, 210, 0, 0, 0, [])])
def mr_69 : ev_MI := (⟨"BarberMinutesModel", "fits", "()I"⟩, prog_11_method_106_code, 1, (some .int), 0, 0, [(0, 9, 0, 0, 0, []), (1, 200, 141, 159, 0, []), (4, 9, 0, 0, 0, []), (5, 49, 9, 14, 176, []), (8, 42, 9, 0, 0, []), (11, 9, 0, 0, 0, []), (12, 0, 1, 0, 0, []), (13, 200, 143, 162, 1, []), (16, 210, 0, 0, 0, [])])
def mr_70 : ev_MI := (⟨"BarberMinutes", "fitAt", "(I)I"⟩, prog_1_method_41_code, 2, (some .int), 0, 0, [(0, 9, 0, 0, 0, []), (1, 200, 163, 285, 0, []), (4, 42, 18, 0, 0, []), (22, 9, 0, 0, 0, []), (23, 0, 1, 0, 0, []), (24, 200, 121, 83, 1, []), (27, 210, 0, 0, 0, [])])
def mr_71 : ev_MI := (⟨"BarberMinutesModel", "fitAt", "(I)I"⟩, prog_11_method_107_code, 3, (some .int), 0, 0, [(0, 9, 0, 0, 0, []), (1, 200, 141, 159, 0, []), (4, 9, 0, 0, 0, []), (5, 49, 9, 14, 176, []), (8, 41, 7, 0, 0, []), (15, 9, 0, 0, 0, []), (16, 0, 1, 0, 0, []), (17, 200, 143, 162, 1, []), (20, 210, 0, 0, 0, [])])
def mr_72 : ev_MI := (⟨"BarberMinutes", "could", "()I"⟩, prog_1_method_42_code, 1, (some .int), 0, 0, [(0, 9, 0, 0, 0, []), (1, 200, 163, 285, 0, []), (4, 41, 7, 0, 0, []), (7, 0, (-1), 0, 0, []), (8, 47, 14, 0, 0, []), (22, 210, 0, 0, 0, [])])
def mr_73 : ev_MI := (⟨"BarberMinutesModel", "could", "()I"⟩, prog_11_method_108_code, 1, (some .int), 0, 0, [(0, 9, 0, 0, 0, []), (1, 200, 141, 159, 0, []), (4, 9, 0, 0, 0, []), (5, 49, 9, 14, 176, []), (8, 42, 9, 0, 0, []), (11, 9, 0, 0, 0, []), (12, 0, 1, 0, 0, []), (13, 200, 143, 162, 1, []), (16, 210, 0, 0, 0, [])])
def mr_74 : ev_MI := (⟨"BarberMinutes", "surely", "()I"⟩, prog_1_method_43_code, 1, (some .int), 0, 0, [(0, 9, 0, 0, 0, []), (1, 200, 163, 285, 0, []), (4, 41, 7, 0, 0, []), (7, 0, (-1), 0, 0, []), (8, 47, 14, 0, 0, []), (22, 210, 0, 0, 0, [])])
def mr_75 : ev_MI := (⟨"BarberMinutesModel", "surely", "()I"⟩, prog_11_method_109_code, 1, (some .int), 0, 0, [(0, 9, 0, 0, 0, []), (1, 200, 141, 159, 0, []), (4, 9, 0, 0, 0, []), (5, 49, 9, 14, 176, []), (8, 42, 9, 0, 0, []), (11, 9, 0, 0, 0, []), (12, 0, 1, 0, 0, []), (13, 200, 143, 162, 1, []), (16, 210, 0, 0, 0, [])])
def mr_76 : ev_MI := (⟨"BarberMinutes", "ask", "()I"⟩, prog_1_method_44_code, 1, (some .int), 0, 0, [(0, 9, 0, 0, 0, []), (1, 200, 163, 285, 0, []), (4, 41, 7, 0, 0, []), (7, 0, (-1), 0, 0, []), (8, 47, 18, 0, 0, []), (26, 210, 0, 0, 0, [])])
def mr_77 : ev_MI := (⟨"BarberMinutesModel", "ask", "()I"⟩, prog_11_method_112_code, 1, (some .int), 0, 0, [(0, 9, 0, 0, 0, []), (1, 200, 141, 159, 0, []), (4, 9, 0, 0, 0, []), (5, 49, 9, 14, 176, []), (8, 41, 10, 0, 0, []), (18, 9, 0, 0, 0, []), (19, 0, 1, 0, 0, []), (20, 200, 143, 162, 1, []), (23, 210, 0, 0, 0, [])])
def mr_78 : ev_MI := (⟨"BarberMinutes", "askLeaves", "()I"⟩, prog_1_method_45_code, 2, (some .int), 0, 0, [(0, 9, 0, 0, 0, []), (1, 200, 163, 285, 0, []), (4, 41, 5, 0, 0, []), (7, 0, (-1), 0, 0, []), (8, 210, 0, 0, 0, [])])
def mr_79 : ev_MI := (⟨"BarberMinutesModel", "askLeaves", "()I"⟩, prog_11_method_113_code, 2, (some .int), 0, 0, [(0, 9, 0, 0, 0, []), (1, 200, 141, 159, 0, []), (4, 9, 0, 0, 0, []), (5, 49, 9, 14, 176, []), (8, 42, 9, 0, 0, []), (11, 9, 0, 0, 0, []), (12, 0, 1, 0, 0, []), (13, 200, 143, 162, 1, []), (16, 210, 0, 0, 0, [])])
def mr_80 : ev_MI := (⟨"BarberMinutes", "talk", "(IZZZ)I"⟩, prog_1_method_47_code, 5, (some .int), 0, 0, [(0, 9, 0, 0, 0, []), (1, 5, 1, 0, 0, []), (2, 200, 164, 307, 1, []), (5, 41, 6, 0, 0, []), (8, 1, (-100), 0, 0, []), (10, 210, 0, 0, 0, [])])
def mr_81 : ev_MI := (⟨"BarberMinutesModel", "talk", "(IZZZ)I"⟩, prog_11_method_115_code, 6, (some .int), 0, 0, [(0, 9, 0, 0, 0, []), (1, 200, 141, 159, 0, []), (4, 9, 0, 0, 0, []), (5, 9, 0, 0, 0, []), (6, 49, 9, 14, 176, []), (9, 5, 1, 0, 0, []), (10, 0, 0, 0, 0, []), (11, 1, 9, 0, 0, []), (13, 201, 142, 138, 3, []), (16, 200, 155, 307, 2, []), (19, 10, 5, 0, 0, []), (21, 4, 5, 0, 0, []), (23, 42, 24, 0, 0, []), (47, 9, 0, 0, 0, []), (48, 4, 5, 0, 0, []), (50, 50, 9, 11, 50, []), (53, 1, (-100), 0, 0, []), (55, 210, 0, 0, 0, [])])
def mr_82 : ev_MI := (⟨"BarberMinutes", "rests", "(I)I"⟩, prog_1_method_48_code, 4, (some .int), 0, 0, [(0, 9, 0, 0, 0, []), (1, 5, 1, 0, 0, []), (2, 200, 164, 307, 1, []), (5, 41, 5, 0, 0, []), (8, 0, (-1), 0, 0, []), (9, 210, 0, 0, 0, [])])
def mr_83 : ev_MI := (⟨"BarberMinutesModel", "rests", "(I)I"⟩, prog_11_method_118_code, 3, (some .int), 0, 0, [(0, 9, 0, 0, 0, []), (1, 200, 141, 159, 0, []), (4, 9, 0, 0, 0, []), (5, 9, 0, 0, 0, []), (6, 49, 9, 14, 176, []), (9, 5, 1, 0, 0, []), (10, 0, 0, 0, 0, []), (11, 1, 9, 0, 0, []), (13, 201, 142, 138, 3, []), (16, 200, 155, 307, 2, []), (19, 11, 2, 0, 0, []), (20, 5, 2, 0, 0, []), (21, 41, 11, 0, 0, []), (24, 9, 0, 0, 0, []), (25, 5, 2, 0, 0, []), (26, 200, 143, 162, 1, []), (29, 47, 8, 0, 0, []), (37, 210, 0, 0, 0, [])])
def mr_84 : ev_MI := (⟨"BarberMinutes", "rest", "(I)I"⟩, prog_1_method_49_code, 3, (some .int), 0, 0, [(0, 9, 0, 0, 0, []), (1, 5, 1, 0, 0, []), (2, 200, 164, 307, 1, []), (5, 41, 5, 0, 0, []), (8, 0, (-1), 0, 0, []), (9, 210, 0, 0, 0, [])])
def mr_85 : ev_MI := (⟨"BarberMinutesModel", "rest", "(I)I"⟩, prog_11_method_119_code, 3, (some .int), 0, 0, [(0, 9, 0, 0, 0, []), (1, 200, 141, 159, 0, []), (4, 9, 0, 0, 0, []), (5, 9, 0, 0, 0, []), (6, 49, 9, 14, 176, []), (9, 5, 1, 0, 0, []), (10, 0, 0, 0, 0, []), (11, 1, 9, 0, 0, []), (13, 201, 142, 138, 3, []), (16, 200, 155, 307, 2, []), (19, 11, 2, 0, 0, []), (20, 5, 2, 0, 0, []), (21, 41, 9, 0, 0, []), (24, 9, 0, 0, 0, []), (25, 5, 2, 0, 0, []), (26, 200, 143, 162, 1, []), (29, 210, 0, 0, 0, [])])
def mr_86 : ev_MI := (⟨"BarberMinutes", "odds", "(IZ)J"⟩, prog_1_method_53_code, 3, (some .long), 0, 0, [(0, 9, 0, 0, 0, []), (1, 5, 1, 0, 0, []), (2, 200, 152, 144, 1, []), (5, 41, 10, 0, 0, []), (8, 9, 0, 0, 0, []), (9, 0, 1, 0, 0, []), (10, 200, 121, 83, 1, []), (13, 29, 0, 0, 0, []), (14, 211, 0, 0, 0, [])])
def mr_87 : ev_MI := (⟨"BarberMinutesModel", "odds", "(IZ)J"⟩, prog_11_method_121_code, 3, (some .long), 0, 0, [(0, 9, 0, 0, 0, []), (1, 200, 141, 159, 0, []), (4, 9, 0, 0, 0, []), (5, 5, 1, 0, 0, []), (6, 200, 153, 288, 1, []), (9, 42, 10, 0, 0, []), (12, 9, 0, 0, 0, []), (13, 0, 1, 0, 0, []), (14, 200, 143, 162, 1, []), (17, 29, 0, 0, 0, []), (18, 211, 0, 0, 0, [])])
def mr_88 : ev_MI := (⟨"BarberMinutes", "mean", "(IZ)J"⟩, prog_1_method_54_code, 3, (some .long), 0, 0, [(0, 9, 0, 0, 0, []), (1, 5, 1, 0, 0, []), (2, 200, 152, 144, 1, []), (5, 41, 10, 0, 0, []), (8, 9, 0, 0, 0, []), (9, 0, 1, 0, 0, []), (10, 200, 121, 83, 1, []), (13, 29, 0, 0, 0, []), (14, 211, 0, 0, 0, [])])
def mr_89 : ev_MI := (⟨"BarberMinutesModel", "mean", "(IZ)J"⟩, prog_11_method_122_code, 3, (some .long), 0, 0, [(0, 9, 0, 0, 0, []), (1, 200, 141, 159, 0, []), (4, 9, 0, 0, 0, []), (5, 5, 1, 0, 0, []), (6, 200, 153, 288, 1, []), (9, 42, 10, 0, 0, []), (12, 9, 0, 0, 0, []), (13, 0, 1, 0, 0, []), (14, 200, 143, 162, 1, []), (17, 29, 0, 0, 0, []), (18, 211, 0, 0, 0, [])])
def mr_90 : ev_MI := (⟨"BarberMinutes", "shaves", "(III)I"⟩, prog_1_method_55_code, 5, (some .int), 0, 0, [(0, 9, 0, 0, 0, []), (1, 5, 1, 0, 0, []), (2, 200, 150, 116, 1, []), (5, 41, 9, 0, 0, []), (8, 9, 0, 0, 0, []), (9, 0, 1, 0, 0, []), (10, 200, 121, 83, 1, []), (13, 210, 0, 0, 0, [])])
def mr_91 : ev_MI := (⟨"BarberMinutesModel", "shaves", "(III)I"⟩, prog_11_method_124_code, 5, (some .int), 0, 0, [(0, 9, 0, 0, 0, []), (1, 200, 141, 159, 0, []), (4, 9, 0, 0, 0, []), (5, 9, 0, 0, 0, []), (6, 5, 1, 0, 0, []), (7, 200, 151, 282, 1, []), (10, 0, (-1), 0, 0, []), (11, 5, 2, 0, 0, []), (12, 5, 3, 0, 0, []), (13, 200, 165, 418, 4, []), (16, 10, 4, 0, 0, []), (18, 4, 4, 0, 0, []), (20, 41, 12, 0, 0, []), (23, 9, 0, 0, 0, []), (24, 4, 4, 0, 0, []), (26, 200, 143, 162, 1, []), (29, 47, 9, 0, 0, []), (38, 210, 0, 0, 0, [])])
def mr_92 : ev_MI := (⟨"BarberMinutes", "carries", "(III)I"⟩, prog_1_method_56_code, 6, (some .int), 0, 0, [(0, 9, 0, 0, 0, []), (1, 5, 1, 0, 0, []), (2, 200, 152, 144, 1, []), (5, 41, 9, 0, 0, []), (8, 9, 0, 0, 0, []), (9, 0, 1, 0, 0, []), (10, 200, 121, 83, 1, []), (13, 210, 0, 0, 0, [])])
def mr_93 : ev_MI := (⟨"BarberMinutesModel", "carries", "(III)I"⟩, prog_11_method_125_code, 5, (some .int), 0, 0, [(0, 9, 0, 0, 0, []), (1, 200, 141, 159, 0, []), (4, 9, 0, 0, 0, []), (5, 9, 0, 0, 0, []), (6, 5, 1, 0, 0, []), (7, 200, 153, 288, 1, []), (10, 5, 1, 0, 0, []), (11, 5, 2, 0, 0, []), (12, 5, 3, 0, 0, []), (13, 200, 165, 418, 4, []), (16, 10, 4, 0, 0, []), (18, 4, 4, 0, 0, []), (20, 41, 12, 0, 0, []), (23, 9, 0, 0, 0, []), (24, 4, 4, 0, 0, []), (26, 200, 143, 162, 1, []), (29, 47, 7, 0, 0, []), (36, 210, 0, 0, 0, [])])
def mr_94 : ev_MI := (⟨"BarberMinutes", "put", "(I)I"⟩, prog_1_method_58_code, 2, (some .int), 0, 0, [(0, 9, 0, 0, 0, []), (1, 5, 1, 0, 0, []), (2, 200, 152, 144, 1, []), (5, 41, 9, 0, 0, []), (8, 9, 0, 0, 0, []), (9, 0, 1, 0, 0, []), (10, 200, 121, 83, 1, []), (13, 210, 0, 0, 0, [])])
def mr_95 : ev_MI := (⟨"BarberMinutesModel", "put", "(I)I"⟩, prog_11_method_127_code, 2, (some .int), 0, 0, [(0, 9, 0, 0, 0, []), (1, 200, 141, 159, 0, []), (4, 9, 0, 0, 0, []), (5, 5, 1, 0, 0, []), (6, 200, 153, 288, 1, []), (9, 42, 9, 0, 0, []), (12, 9, 0, 0, 0, []), (13, 0, 1, 0, 0, []), (14, 200, 143, 162, 1, []), (17, 210, 0, 0, 0, [])])
def mr_96 : ev_MI := (⟨"BarberMinutes", "week", "()I"⟩, prog_1_method_59_code, 1, (some .int), 0, 0, [(0, 9, 0, 0, 0, []), (1, 200, 154, 171, 0, []), (4, 41, 9, 0, 0, []), (7, 9, 0, 0, 0, []), (8, 0, 1, 0, 0, []), (9, 200, 121, 83, 1, []), (12, 210, 0, 0, 0, [])])
def mr_97 : ev_MI := (⟨"BarberMinutesModel", "week", "()I"⟩, prog_11_method_128_code, 1, (some .int), 0, 0, [(0, 9, 0, 0, 0, []), (1, 200, 141, 159, 0, []), (4, 9, 0, 0, 0, []), (5, 49, 9, 14, 176, []), (8, 42, 9, 0, 0, []), (11, 9, 0, 0, 0, []), (12, 0, 1, 0, 0, []), (13, 200, 143, 162, 1, []), (16, 210, 0, 0, 0, [])])
def mr_98 : ev_MI := (⟨"BarberMinutes", "shave", "(I)I"⟩, prog_1_method_60_code, 3, (some .int), 0, 0, [(0, 9, 0, 0, 0, []), (1, 5, 1, 0, 0, []), (2, 200, 150, 116, 1, []), (5, 41, 9, 0, 0, []), (8, 9, 0, 0, 0, []), (9, 0, 1, 0, 0, []), (10, 200, 121, 83, 1, []), (13, 210, 0, 0, 0, [])])
def mr_99 : ev_MI := (⟨"BarberMinutesModel", "shave", "(I)I"⟩, prog_11_method_129_code, 3, (some .int), 0, 0, [(0, 9, 0, 0, 0, []), (1, 200, 141, 159, 0, []), (4, 9, 0, 0, 0, []), (5, 5, 1, 0, 0, []), (6, 200, 151, 282, 1, []), (9, 42, 9, 0, 0, []), (12, 9, 0, 0, 0, []), (13, 0, 1, 0, 0, []), (14, 200, 143, 162, 1, []), (17, 210, 0, 0, 0, [])])
def mr_100 : ev_MI := (⟨"BarberMinutes", "undo", "()Z"⟩, prog_1_method_61_code, 1, (some .boolean), 0, 0, [(0, 9, 0, 0, 0, []), (1, 49, 8, 7, 43, []), (4, 9, 0, 0, 0, []), (5, 49, 8, 5, 33, []), (8, 200, 166, 355, 1, []), (11, 42, 12, 0, 0, []), (14, 9, 0, 0, 0, []), (15, 1, 6, 0, 0, []), (17, 200, 121, 83, 1, []), (20, 32, 0, 0, 0, []), (21, 0, 0, 0, 0, []), (22, 210, 0, 0, 0, [])])
def mr_101 : ev_MI := (⟨"BarberMinutesModel", "undo", "()Z"⟩, prog_11_method_130_code, 1, (some .boolean), 0, 0, [(0, 9, 0, 0, 0, []), (1, 200, 141, 159, 0, []), (4, 9, 0, 0, 0, []), (5, 49, 9, 20, 179, []), (8, 42, 10, 0, 0, []), (11, 9, 0, 0, 0, []), (12, 1, 6, 0, 0, []), (14, 200, 167, 425, 1, []), (17, 210, 0, 0, 0, [])])
def mr_102 : ev_MI := (⟨"BarberMinutes", "image", "()I"⟩, prog_1_method_62_code, 2, (some .int), 0, 0, [(0, 9, 0, 0, 0, []), (1, 200, 154, 171, 0, []), (4, 41, 9, 0, 0, []), (7, 9, 0, 0, 0, []), (8, 0, 1, 0, 0, []), (9, 200, 121, 83, 1, []), (12, 210, 0, 0, 0, [])])
def mr_103 : ev_MI := (⟨"BarberMinutesModel", "image", "()I"⟩, prog_11_method_131_code, 1, (some .int), 0, 0, [(0, 9, 0, 0, 0, []), (1, 200, 141, 159, 0, []), (4, 9, 0, 0, 0, []), (5, 49, 9, 14, 176, []), (8, 42, 9, 0, 0, []), (11, 9, 0, 0, 0, []), (12, 0, 1, 0, 0, []), (13, 200, 143, 162, 1, []), (16, 210, 0, 0, 0, [])])
def mr_104 : ev_MI := (⟨"BarberMinutes", "back", "(I)Z"⟩, prog_1_method_63_code, 2, (some .boolean), 0, 0, [(0, 9, 0, 0, 0, []), (1, 49, 8, 7, 43, []), (4, 5, 1, 0, 0, []), (5, 9, 0, 0, 0, []), (6, 49, 8, 5, 33, []), (9, 200, 168, 363, 2, []), (12, 42, 11, 0, 0, []), (15, 9, 0, 0, 0, []), (16, 0, 1, 0, 0, []), (17, 200, 121, 83, 1, []), (20, 32, 0, 0, 0, []), (21, 0, 0, 0, 0, []), (22, 210, 0, 0, 0, [])])
def mr_105 : ev_MI := (⟨"BarberMinutesModel", "back", "(I)Z"⟩, prog_11_method_132_code, 2, (some .boolean), 0, 0, [(0, 9, 0, 0, 0, []), (1, 200, 141, 159, 0, []), (4, 5, 1, 0, 0, []), (5, 0, 0, 0, 0, []), (6, 9, 0, 0, 0, []), (7, 49, 9, 21, 182, []), (10, 0, 1, 0, 0, []), (11, 17, 0, 0, 0, []), (12, 201, 142, 138, 3, []), (15, 42, 9, 0, 0, []), (18, 9, 0, 0, 0, []), (19, 0, 1, 0, 0, []), (20, 200, 167, 425, 1, []), (23, 210, 0, 0, 0, [])])
def mr_106 : ev_MI := (⟨"BarberMinutesModel", "led", "(I)I"⟩, prog_11_method_133_code, 4, (some .int), 0, 0, [(0, 0, 0, 0, 0, []), (1, 11, 2, 0, 0, []), (2, 0, 0, 0, 0, []), (3, 11, 3, 0, 0, []), (4, 9, 0, 0, 0, []), (5, 49, 9, 14, 176, []), (8, 41, 51, 0, 0, []), (59, 9, 0, 0, 0, []), (60, 0, 1, 0, 0, []), (61, 50, 9, 0, 47, []), (64, 0, 0, 0, 0, []), (65, 210, 0, 0, 0, [])])
def mr_107 : ev_MI := (⟨"BarberMinutesModel", "thrown", "()I"⟩, prog_11_method_2_code, 1, (some .int), 0, 0, [(0, 9, 0, 0, 0, []), (1, 49, 9, 0, 47, []), (4, 210, 0, 0, 0, [])])
def mr_108 : ev_MI := (⟨"BarberMinutes", "size", "(I)I"⟩, prog_1_method_65_code, 2, (some .int), 0, 0, [(0, 5, 1, 0, 0, []), (1, 48, 203, 0, 13, [71, 71, 79, 87, 95, 103, 111, 129, 147, 155, 163, 174, 182, 190, 198]), (72, 9, 0, 0, 0, []), (73, 49, 8, 3, 23, []), (76, 49, 7, 0, 370, []), (79, 210, 0, 0, 0, []), (80, 9, 0, 0, 0, []), (81, 49, 8, 3, 23, []), (84, 49, 7, 1, 373, []), (87, 210, 0, 0, 0, []), (88, 9, 0, 0, 0, []), (89, 49, 8, 3, 23, []), (92, 49, 7, 2, 376, []), (95, 210, 0, 0, 0, []), (96, 9, 0, 0, 0, []), (97, 49, 8, 3, 23, []), (100, 49, 7, 3, 107, []), (103, 210, 0, 0, 0, []), (104, 9, 0, 0, 0, []), (105, 49, 8, 3, 23, []), (108, 49, 7, 9, 182, []), (111, 210, 0, 0, 0, []), (112, 9, 0, 0, 0, []), (113, 49, 8, 3, 23, []), (116, 49, 7, 7, 134, []), (119, 9, 0, 0, 0, []), (120, 49, 8, 3, 23, []), (123, 49, 7, 3, 107, []), (126, 201, 169, 379, 2, []), (129, 210, 0, 0, 0, []), (130, 9, 0, 0, 0, []), (131, 49, 8, 3, 23, []), (134, 49, 7, 13, 156, []), (137, 9, 0, 0, 0, []), (138, 49, 8, 3, 23, []), (141, 49, 7, 9, 182, []), (144, 201, 169, 379, 2, []), (147, 210, 0, 0, 0, []), (148, 9, 0, 0, 0, []), (149, 49, 8, 3, 23, []), (152, 200, 160, 260, 0, []), (155, 210, 0, 0, 0, []), (156, 9, 0, 0, 0, []), (157, 49, 8, 3, 23, []), (160, 49, 7, 15, 383, []), (163, 210, 0, 0, 0, []), (164, 9, 0, 0, 0, []), (165, 49, 8, 3, 23, []), (168, 49, 7, 18, 386, []), (171, 201, 159, 252, 1, []), (174, 210, 0, 0, 0, []), (175, 9, 0, 0, 0, []), (176, 49, 8, 5, 33, []), (179, 49, 2, 3, 348, []), (182, 210, 0, 0, 0, []), (183, 9, 0, 0, 0, []), (184, 49, 8, 7, 43, []), (187, 49, 3, 3, 389, []), (190, 210, 0, 0, 0, []), (191, 9, 0, 0, 0, []), (192, 49, 8, 7, 43, []), (195, 49, 3, 4, 392, []), (198, 210, 0, 0, 0, []), (199, 9, 0, 0, 0, []), (200, 49, 8, 1, 75, []), (203, 210, 0, 0, 0, []), (204, 0, (-1), 0, 0, []), (205, 210, 0, 0, 0, [])])
def mr_109 : ev_MI := (⟨"BarberMinutesModel", "size", "(I)I"⟩, prog_11_method_134_code, 2, (some .int), 0, 0, [(0, 9, 0, 0, 0, []), (1, 0, 0, 0, 0, []), (2, 50, 9, 0, 47, []), (5, 5, 1, 0, 0, []), (6, 1, 13, 0, 0, []), (8, 36, 8, 0, 0, []), (11, 9, 0, 0, 0, []), (12, 49, 9, 2, 53, []), (15, 210, 0, 0, 0, []), (16, 9, 0, 0, 0, []), (17, 49, 9, 14, 176, []), (20, 42, 19, 0, 0, []), (23, 5, 1, 0, 0, []), (24, 0, 0, 0, 0, []), (25, 1, 12, 0, 0, []), (27, 201, 142, 138, 3, []), (30, 41, 7, 0, 0, []), (33, 0, 0, 0, 0, []), (34, 47, 4, 0, 0, []), (37, 0, (-1), 0, 0, []), (38, 210, 0, 0, 0, [])])
def mr_110 : ev_MI := (⟨"BarberMinutes", "trouble", "()I"⟩, prog_1_method_66_code, 1, (some .int), 0, 0, [(0, 9, 0, 0, 0, []), (1, 49, 8, 14, 113, []), (4, 210, 0, 0, 0, [])])
def mr_111 : ev_MI := (⟨"BarberMinutesModel", "trouble", "()I"⟩, prog_11_method_135_code, 1, (some .int), 0, 0, [(0, 9, 0, 0, 0, []), (1, 0, 0, 0, 0, []), (2, 50, 9, 0, 47, []), (5, 9, 0, 0, 0, []), (6, 49, 9, 11, 50, []), (9, 210, 0, 0, 0, [])])
def mr_112 : ev_MI := (⟨"BarberMinutes$Reader", "<init>", "()V"⟩, prog_6_method_1_code, 1, none, 3, 48, [(0, 9, 0, 0, 0, []), (1, 66, 3, 0, 0, []), (4, 9, 0, 0, 0, []), (5, 1, 16, 0, 0, []), (7, 60, 0, 0, 0, []), (9, 51, 4, 11, 11, []), (12, 9, 0, 0, 0, []), (13, 1, 16, 0, 0, []), (15, 58, 0, 0, 0, []), (17, 51, 4, 12, 15, []), (20, 9, 0, 0, 0, []), (21, 1, 16, 0, 0, []), (23, 58, 0, 0, 0, []), (25, 51, 4, 13, 19, []), (28, 213, 0, 0, 0, [])])
def mr_113 : ev_MI := (⟨"BarberMinutes$Town", "<init>", "()V"⟩, prog_9_method_1_code, 1, none, 12, 63, [(0, 9, 0, 0, 0, []), (1, 66, 3, 0, 0, []), (4, 9, 0, 0, 0, []), (5, 1, 6, 0, 0, []), (7, 58, 0, 0, 0, []), (9, 51, 7, 4, 9, []), (12, 9, 0, 0, 0, []), (13, 1, 6, 0, 0, []), (15, 58, 0, 0, 0, []), (17, 51, 7, 5, 15, []), (20, 9, 0, 0, 0, []), (21, 1, 6, 0, 0, []), (23, 58, 0, 0, 0, []), (25, 51, 7, 6, 18, []), (28, 9, 0, 0, 0, []), (29, 1, 6, 0, 0, []), (31, 58, 0, 0, 0, []), (33, 51, 7, 7, 21, []), (36, 9, 0, 0, 0, []), (37, 1, 6, 0, 0, []), (39, 58, 0, 0, 0, []), (41, 51, 7, 8, 24, []), (44, 9, 0, 0, 0, []), (45, 0, 5, 0, 0, []), (46, 58, 0, 0, 0, []), (48, 51, 7, 10, 27, []), (51, 9, 0, 0, 0, []), (52, 0, 5, 0, 0, []), (53, 58, 0, 0, 0, []), (55, 51, 7, 11, 30, []), (58, 9, 0, 0, 0, []), (59, 0, 5, 0, 0, []), (60, 58, 0, 0, 0, []), (62, 51, 7, 12, 33, []), (65, 9, 0, 0, 0, []), (66, 0, 5, 0, 0, []), (67, 58, 0, 0, 0, []), (69, 51, 7, 13, 36, []), (72, 9, 0, 0, 0, []), (73, 0, 5, 0, 0, []), (74, 58, 0, 0, 0, []), (76, 51, 7, 14, 39, []), (79, 9, 0, 0, 0, []), (80, 0, 5, 0, 0, []), (81, 58, 0, 0, 0, []), (83, 51, 7, 16, 42, []), (86, 9, 0, 0, 0, []), (87, 0, 3, 0, 0, []), (88, 58, 0, 0, 0, []), (90, 51, 7, 17, 45, []), (93, 213, 0, 0, 0, [])])
def mr_114 : ev_MI := (⟨"BarberMinutes$Minutes", "<init>", "()V"⟩, prog_4_method_1_code, 1, none, 2, 9, [(0, 9, 0, 0, 0, []), (1, 66, 3, 0, 0, []), (4, 9, 0, 0, 0, []), (5, 1, 6, 0, 0, []), (7, 58, 0, 0, 0, []), (9, 51, 2, 0, 9, []), (12, 9, 0, 0, 0, []), (13, 0, 3, 0, 0, []), (14, 58, 0, 0, 0, []), (16, 51, 2, 1, 15, []), (19, 213, 0, 0, 0, [])])
def mr_115 : ev_MI := (⟨"BarberMinutes$Past", "<init>", "()V"⟩, prog_5_method_1_code, 2, none, 59, 266, [(0, 9, 0, 0, 0, []), (1, 66, 3, 0, 0, []), (4, 9, 0, 0, 0, []), (5, 1, 16, 0, 0, []), (7, 61, 9, 0, 0, []), (10, 51, 3, 0, 11, []), (13, 9, 0, 0, 0, []), (14, 0, 3, 0, 0, []), (15, 61, 9, 0, 0, []), (18, 51, 3, 1, 17, []), (21, 0, 0, 0, 0, []), (22, 11, 1, 0, 0, []), (23, 5, 1, 0, 0, []), (24, 1, 16, 0, 0, []), (26, 38, 22, 0, 0, []), (29, 9, 0, 0, 0, []), (30, 49, 3, 0, 11, []), (33, 5, 1, 0, 0, []), (34, 62, 2, 0, 9, []), (37, 31, 0, 0, 0, []), (38, 203, 114, 20, 0, []), (41, 63, 0, 0, 0, []), (42, 34, 1, 1, 0, []), (45, 47, (-22), 0, 0, []), (48, 0, 0, 0, 0, []), (49, 11, 1, 0, 0, []), (50, 5, 1, 0, 0, []), (51, 0, 3, 0, 0, []), (52, 38, 22, 0, 0, []), (55, 9, 0, 0, 0, []), (56, 49, 3, 1, 17, []), (59, 5, 1, 0, 0, []), (60, 62, 2, 0, 9, []), (63, 31, 0, 0, 0, []), (64, 203, 114, 20, 0, []), (67, 63, 0, 0, 0, []), (68, 34, 1, 1, 0, []), (71, 47, (-21), 0, 0, []), (74, 213, 0, 0, 0, [])])
def mr_116 : ev_MI := (⟨"BarberMinutes$Agenda", "<init>", "()V"⟩, prog_2_method_1_code, 2, none, 16, 70, [(0, 9, 0, 0, 0, []), (1, 66, 3, 0, 0, []), (4, 9, 0, 0, 0, []), (5, 0, 5, 0, 0, []), (6, 61, 9, 0, 0, []), (9, 51, 0, 0, 11, []), (12, 0, 0, 0, 0, []), (13, 11, 1, 0, 0, []), (14, 5, 1, 0, 0, []), (15, 0, 4, 0, 0, []), (16, 39, 22, 0, 0, []), (19, 9, 0, 0, 0, []), (20, 49, 0, 0, 11, []), (23, 5, 1, 0, 0, []), (24, 62, 2, 0, 9, []), (27, 31, 0, 0, 0, []), (28, 203, 114, 17, 0, []), (31, 63, 0, 0, 0, []), (32, 34, 1, 1, 0, []), (35, 47, (-21), 0, 0, []), (38, 213, 0, 0, 0, [])])
def mr_117 : ev_MI := (⟨"BarberMinutes$Tour", "<init>", "()V"⟩, prog_8_method_1_code, 1, none, 2, 10, [(0, 9, 0, 0, 0, []), (1, 66, 3, 0, 0, []), (4, 9, 0, 0, 0, []), (5, 0, 5, 0, 0, []), (6, 58, 0, 0, 0, []), (8, 51, 6, 0, 9, []), (11, 9, 0, 0, 0, []), (12, 0, 5, 0, 0, []), (13, 58, 0, 0, 0, []), (15, 51, 6, 1, 15, []), (18, 213, 0, 0, 0, [])])
def mr_118 : ev_MI := (⟨"BarberMinutes$Sweepings", "<init>", "()V"⟩, prog_7_method_1_code, 1, none, 4, 45, [(0, 9, 0, 0, 0, []), (1, 66, 3, 0, 0, []), (4, 9, 0, 0, 0, []), (5, 1, 32, 0, 0, []), (7, 58, 0, 0, 0, []), (9, 51, 5, 0, 9, []), (12, 9, 0, 0, 0, []), (13, 62, 2, 0, 15, []), (16, 31, 0, 0, 0, []), (17, 203, 114, 17, 0, []), (20, 51, 5, 2, 18, []), (23, 213, 0, 0, 0, [])])
def mr_119 : ev_MI := (⟨"BarberMinutes$Chance", "<init>", "()V"⟩, prog_3_method_1_code, 1, none, 0, 0, [(0, 9, 0, 0, 0, []), (1, 66, 3, 0, 0, []), (4, 213, 0, 0, 0, [])])
def mr_120 : ev_MI := (⟨"BarberMinutes", "store", "(I)V"⟩, prog_1_method_3_code, 3, none, 0, 0, [(0, 1, 24, 0, 0, []), (2, 11, 2, 0, 0, []), (3, 5, 2, 0, 0, []), (4, 43, 42, 0, 0, []), (7, 9, 0, 0, 0, []), (8, 49, 8, 1, 75, []), (11, 2, 900, 0, 0, []), (14, 38, 32, 0, 0, []), (17, 9, 0, 0, 0, []), (18, 49, 8, 0, 9, []), (21, 9, 0, 0, 0, []), (22, 49, 8, 1, 75, []), (25, 5, 1, 0, 0, []), (26, 5, 2, 0, 0, []), (27, 23, 0, 0, 0, []), (28, 28, 0, 0, 0, []), (29, 57, 0, 0, 0, []), (30, 9, 0, 0, 0, []), (31, 31, 0, 0, 0, []), (32, 49, 8, 1, 75, []), (35, 0, 1, 0, 0, []), (36, 16, 0, 0, 0, []), (37, 50, 8, 1, 75, []), (40, 34, 2, (-8), 0, []), (43, 47, (-40), 0, 0, []), (46, 213, 0, 0, 0, [])])
def mr_121 : ev_MI := (⟨"BarberMinutes", "refused", "(I)I"⟩, prog_1_method_67_code, 2, (some .int), 0, 0, [(0, 9, 0, 0, 0, []), (1, 5, 1, 0, 0, []), (2, 50, 8, 14, 113, []), (5, 0, (-1), 0, 0, []), (6, 210, 0, 0, 0, [])])
def mr_122 : ev_MI := (⟨"BarberMinutes$Reader", "read", "([BILBarberMinutes$Town;)I"⟩, prog_6_method_2_code, 5, (some .int), 0, 0, [(0, 9, 0, 0, 0, []), (1, 9, 1, 0, 0, []), (2, 50, 4, 0, 22, []), (5, 9, 0, 0, 0, []), (6, 5, 2, 0, 0, []), (7, 9, 1, 0, 0, []), (8, 64, 0, 0, 0, []), (9, 67, 26, 0, 0, []), (12, 50, 4, 1, 32, []), (15, 9, 0, 0, 0, []), (16, 0, 0, 0, 0, []), (17, 50, 4, 2, 36, []), (20, 9, 0, 0, 0, []), (21, 9, 3, 0, 0, []), (22, 50, 4, 7, 39, []), (25, 9, 0, 0, 0, []), (26, 49, 4, 7, 39, []), (29, 200, 124, 43, 0, []), (32, 9, 0, 0, 0, []), (33, 0, 0, 0, 0, []), (34, 50, 4, 8, 48, []), (37, 9, 0, 0, 0, []), (38, 0, 0, 0, 0, []), (39, 50, 4, 9, 52, []), (42, 9, 0, 0, 0, []), (43, 0, 0, 0, 0, []), (44, 50, 4, 10, 55, []), (47, 9, 0, 0, 0, []), (48, 200, 125, 58, 0, []), (51, 9, 0, 0, 0, []), (52, 200, 126, 61, 0, []), (55, 0, 0, 0, 0, []), (56, 10, 4, 0, 0, []), (58, 4, 4, 0, 0, []), (60, 2, 900, 0, 0, []), (63, 38, 32, 0, 0, []), (66, 9, 0, 0, 0, []), (67, 49, 4, 9, 52, []), (70, 42, 25, 0, 0, []), (95, 9, 0, 0, 0, []), (96, 49, 4, 3, 64, []), (99, 41, 8, 0, 0, []), (102, 9, 0, 0, 0, []), (103, 0, 1, 0, 0, []), (104, 200, 127, 67, 1, []), (107, 9, 0, 0, 0, []), (108, 49, 4, 7, 39, []), (111, 49, 7, 3, 71, []), (114, 42, 9, 0, 0, []), (117, 9, 0, 0, 0, []), (118, 1, 6, 0, 0, []), (120, 200, 127, 67, 1, []), (123, 9, 0, 0, 0, []), (124, 49, 4, 9, 52, []), (127, 210, 0, 0, 0, [])])
def mr_123 : ev_MI := (⟨"BarberMinutes$Reader", "place", "()I"⟩, prog_6_method_3_code, 1, (some .int), 0, 0, [(0, 9, 0, 0, 0, []), (1, 49, 4, 4, 74, []), (4, 210, 0, 0, 0, [])])
def mr_124 : ev_MI := (⟨"BarberMinutes$Town", "clear", "()V"⟩, prog_9_method_2_code, 2, none, 0, 0, [(0, 9, 0, 0, 0, []), (1, 0, 0, 0, 0, []), (2, 50, 7, 0, 48, []), (5, 9, 0, 0, 0, []), (6, 0, 0, 0, 0, []), (7, 50, 7, 1, 52, []), (10, 9, 0, 0, 0, []), (11, 0, 0, 0, 0, []), (12, 50, 7, 2, 55, []), (15, 9, 0, 0, 0, []), (16, 0, 0, 0, 0, []), (17, 50, 7, 3, 58, []), (20, 9, 0, 0, 0, []), (21, 0, 0, 0, 0, []), (22, 50, 7, 9, 61, []), (25, 9, 0, 0, 0, []), (26, 0, 0, 0, 0, []), (27, 50, 7, 15, 64, []), (30, 9, 0, 0, 0, []), (31, 0, 0, 0, 0, []), (32, 50, 7, 18, 67, []), (35, 0, 0, 0, 0, []), (36, 11, 1, 0, 0, []), (37, 5, 1, 0, 0, []), (38, 0, 3, 0, 0, []), (39, 38, 16, 0, 0, []), (42, 9, 0, 0, 0, []), (43, 49, 7, 17, 45, []), (46, 5, 1, 0, 0, []), (47, 0, 0, 0, 0, []), (48, 56, 0, 0, 0, []), (49, 34, 1, 1, 0, []), (52, 47, (-15), 0, 0, []), (55, 213, 0, 0, 0, [])])
def mr_125 : ev_MI := (⟨"BarberMinutes$Reader", "stepOn", "()V"⟩, prog_6_method_26_code, 1, none, 0, 0, [(0, 9, 0, 0, 0, []), (1, 49, 4, 9, 52, []), (4, 41, 4, 0, 0, []), (7, 213, 0, 0, 0, []), (8, 9, 0, 0, 0, []), (9, 49, 4, 2, 36, []), (12, 9, 0, 0, 0, []), (13, 49, 4, 1, 32, []), (16, 38, 30, 0, 0, []), (19, 9, 0, 0, 0, []), (20, 49, 4, 0, 22, []), (23, 9, 0, 0, 0, []), (24, 49, 4, 2, 36, []), (27, 53, 0, 0, 0, []), (28, 1, 32, 0, 0, []), (30, 36, 16, 0, 0, []), (46, 9, 0, 0, 0, []), (47, 9, 0, 0, 0, []), (48, 49, 4, 2, 36, []), (51, 50, 4, 4, 74, []), (54, 9, 0, 0, 0, []), (55, 0, 0, 0, 0, []), (56, 50, 4, 5, 197, []), (59, 9, 0, 0, 0, []), (60, 3, 0, 0, 0, []), (61, 50, 4, 6, 203, []), (64, 9, 0, 0, 0, []), (65, 49, 4, 2, 36, []), (68, 9, 0, 0, 0, []), (69, 49, 4, 1, 32, []), (72, 37, 11, 0, 0, []), (75, 9, 0, 0, 0, []), (76, 0, 0, 0, 0, []), (77, 50, 4, 3, 64, []), (80, 47, 80, 0, 0, []), (83, 9, 0, 0, 0, []), (84, 49, 4, 0, 22, []), (87, 9, 0, 0, 0, []), (88, 49, 4, 2, 36, []), (91, 53, 0, 0, 0, []), (92, 201, 128, 246, 1, []), (95, 41, 10, 0, 0, []), (105, 9, 0, 0, 0, []), (106, 49, 4, 0, 22, []), (109, 9, 0, 0, 0, []), (110, 49, 4, 2, 36, []), (113, 53, 0, 0, 0, []), (114, 201, 129, 253, 1, []), (117, 41, 10, 0, 0, []), (127, 9, 0, 0, 0, []), (128, 9, 0, 0, 0, []), (129, 49, 4, 0, 22, []), (132, 9, 0, 0, 0, []), (133, 49, 4, 2, 36, []), (136, 53, 0, 0, 0, []), (137, 1, 59, 0, 0, []), (139, 36, 7, 0, 0, []), (146, 0, 4, 0, 0, []), (147, 50, 4, 3, 64, []), (150, 9, 0, 0, 0, []), (151, 31, 0, 0, 0, []), (152, 49, 4, 2, 36, []), (155, 0, 1, 0, 0, []), (156, 16, 0, 0, 0, []), (157, 50, 4, 2, 36, []), (160, 213, 0, 0, 0, [])])
def mr_126 : ev_MI := (⟨"BarberMinutes$Reader", "readLine", "()V"⟩, prog_6_method_5_code, 2, none, 0, 0, [(0, 9, 0, 0, 0, []), (1, 200, 130, 77, 0, []), (4, 11, 1, 0, 0, []), (5, 5, 1, 0, 0, []), (6, 0, (-1), 0, 0, []), (7, 36, 11, 0, 0, []), (10, 9, 0, 0, 0, []), (11, 0, 1, 0, 0, []), (12, 200, 127, 67, 1, []), (15, 47, 59, 0, 0, []), (74, 9, 0, 0, 0, []), (75, 200, 125, 58, 0, []), (78, 9, 0, 0, 0, []), (79, 49, 4, 9, 52, []), (82, 42, 7, 0, 0, []), (89, 0, (-1), 0, 0, []), (90, 48, 102, 0, 7, [46, 46, 53, 60, 67, 74, 81, 88, 95]), (192, 213, 0, 0, 0, [])])
def mr_127 : ev_MI := (⟨"BarberMinutes$Reader", "fail", "(I)V"⟩, prog_6_method_4_code, 2, none, 0, 0, [(0, 9, 0, 0, 0, []), (1, 49, 4, 9, 52, []), (4, 42, 8, 0, 0, []), (7, 9, 0, 0, 0, []), (8, 5, 1, 0, 0, []), (9, 50, 4, 9, 52, []), (12, 213, 0, 0, 0, [])])
def mr_128 : ev_MI := (⟨"BarberMinutes$Reader", "isLetter", "(I)Z"⟩, prog_6_method_29_code, 1, (some .boolean), 0, 0, [(0, 5, 0, 0, 0, []), (1, 1, 97, 0, 0, []), (3, 37, 13, 0, 0, []), (16, 0, 0, 0, 0, []), (17, 210, 0, 0, 0, [])])
def mr_129 : ev_MI := (⟨"BarberMinutes$Reader", "isDigit", "(I)Z"⟩, prog_6_method_30_code, 1, (some .boolean), 0, 0, [(0, 5, 0, 0, 0, []), (1, 1, 48, 0, 0, []), (3, 37, 13, 0, 0, []), (16, 0, 0, 0, 0, []), (17, 210, 0, 0, 0, [])])
def mr_130 : ev_MI := (⟨"BarberMinutes$Reader", "lineHere", "()I"⟩, prog_6_method_22_code, 2, (some .int), 0, 0, [(0, 0, 0, 0, 0, []), (1, 11, 1, 0, 0, []), (2, 5, 1, 0, 0, []), (3, 1, 8, 0, 0, []), (5, 38, 22, 0, 0, []), (8, 9, 0, 0, 0, []), (9, 5, 1, 0, 0, []), (10, 201, 131, 213, 1, []), (13, 200, 132, 193, 1, []), (16, 41, 5, 0, 0, []), (21, 34, 1, 1, 0, []), (24, 47, (-22), 0, 0, []), (27, 0, (-1), 0, 0, []), (28, 210, 0, 0, 0, [])])
def mr_131 : ev_MI := (⟨"BarberMinutes$Reader", "firstWord", "(I)Ljava/lang/String;"⟩, prog_6_method_23_code, 1, (some (.object "java/lang/String")), 0, 0, [(0, 5, 0, 0, 0, []), (1, 48, 64, 0, 6, [43, 43, 46, 49, 52, 55, 58, 61]), (44, 69, 0, 0, 0, []), (46, 212, 0, 0, 0, []), (47, 69, 1, 0, 0, []), (49, 212, 0, 0, 0, []), (50, 69, 2, 0, 0, []), (52, 212, 0, 0, 0, []), (53, 69, 3, 0, 0, []), (55, 212, 0, 0, 0, []), (56, 69, 4, 0, 0, []), (58, 212, 0, 0, 0, []), (59, 69, 5, 0, 0, []), (61, 212, 0, 0, 0, []), (62, 69, 6, 0, 0, []), (64, 212, 0, 0, 0, []), (65, 69, 7, 0, 0, []), (67, 212, 0, 0, 0, [])])
def mr_132 : ev_MI := (⟨"BarberMinutes$Reader", "isWord", "(Ljava/lang/String;)Z"⟩, prog_6_method_24_code, 5, (some .boolean), 0, 0, [(0, 3, 0, 0, 0, []), (1, 13, 2, 0, 0, []), (2, 0, 0, 0, 0, []), (3, 10, 4, 0, 0, []), (5, 4, 4, 0, 0, []), (7, 9, 1, 0, 0, []), (8, 200, 133, 229, 0, []), (11, 38, 20, 0, 0, []), (14, 7, 2, 0, 0, []), (15, 9, 1, 0, 0, []), (16, 4, 4, 0, 0, []), (18, 200, 134, 234, 1, []), (21, 201, 135, 238, 2, []), (24, 13, 2, 0, 0, []), (25, 34, 4, 1, 0, []), (28, 47, (-23), 0, 0, []), (31, 9, 0, 0, 0, []), (32, 49, 4, 3, 64, []), (35, 0, 1, 0, 0, []), (36, 36, 16, 0, 0, []), (52, 0, 0, 0, 0, []), (53, 210, 0, 0, 0, [])])
def mr_133 : ev_MI := (⟨"java/lang/String", "length", "()I"⟩, prog_19_method_54_code, 1, (some .int), 0, 0, [(0, 9, 0, 0, 0, []), (1, 70, 9, 0, 0, []), (4, 73, 0, 0, 0, []), (5, 9, 0, 0, 0, []), (6, 200, 136, 335, 0, []), (9, 23, 0, 0, 0, []), (10, 210, 0, 0, 0, [])])
def mr_134 : ev_MI := (⟨"java/lang/String", "charAt", "(I)C"⟩, prog_19_method_56_code, 2, (some .char), 0, 0, [(0, 9, 0, 0, 0, []), (1, 200, 137, 492, 0, []), (4, 41, 12, 0, 0, []), (7, 9, 0, 0, 0, []), (8, 70, 9, 0, 0, []), (11, 5, 1, 0, 0, []), (12, 201, 138, 495, 2, []), (15, 210, 0, 0, 0, [])])
def mr_135 : ev_MI := (⟨"BarberMinutes$Reader", "packedWith", "(JI)J"⟩, prog_6_method_25_code, 3, (some .long), 0, 0, [(0, 7, 0, 0, 0, []), (1, 81, 32, 242, 0, []), (4, 78, 0, 0, 0, []), (5, 5, 2, 0, 0, []), (6, 29, 0, 0, 0, []), (7, 76, 0, 0, 0, []), (8, 81, 97, 244, 0, []), (11, 77, 0, 0, 0, []), (12, 3, 1, 0, 0, []), (13, 76, 0, 0, 0, []), (14, 211, 0, 0, 0, [])])
def mr_136 : ev_MI := (⟨"java/lang/String", "coder", "()B"⟩, prog_19_method_152_code, 1, (some .byte), 0, 0, [(0, 72, 38, 0, 0, []), (3, 41, 10, 0, 0, []), (6, 9, 0, 0, 0, []), (7, 71, 15, 0, 0, []), (10, 47, 4, 0, 0, []), (14, 210, 0, 0, 0, [])])
def mr_137 : ev_MI := (⟨"java/lang/String", "isLatin1", "()Z"⟩, prog_19_method_154_code, 1, (some .boolean), 0, 0, [(0, 72, 38, 0, 0, []), (3, 41, 14, 0, 0, []), (6, 9, 0, 0, 0, []), (7, 71, 15, 0, 0, []), (10, 42, 7, 0, 0, []), (13, 0, 1, 0, 0, []), (14, 47, 4, 0, 0, []), (18, 210, 0, 0, 0, [])])
def mr_138 : ev_MI := (⟨"java/lang/StringLatin1", "charAt", "([BI)C"⟩, prog_20_method_2_code, 2, (some .char), 0, 0, [(0, 5, 1, 0, 0, []), (1, 9, 0, 0, 0, []), (2, 73, 0, 0, 0, []), (3, 201, 139, 9, 2, []), (6, 9, 0, 0, 0, []), (7, 5, 1, 0, 0, []), (8, 74, 0, 0, 0, []), (9, 2, 255, 0, 0, []), (12, 19, 0, 0, 0, []), (13, 75, 0, 0, 0, []), (14, 210, 0, 0, 0, [])])
def mr_139 : ev_MI := (⟨"java/lang/String", "checkIndex", "(II)V"⟩, prog_19_method_155_code, 2, none, 0, 0, [(0, 5, 0, 0, 0, []), (1, 5, 1, 0, 0, []), (2, 82, 1053, 0, 0, []), (5, 201, 140, 1059, 3, []), (8, 32, 0, 0, 0, []), (9, 213, 0, 0, 0, [])])
def mr_140 : ev_MI := (⟨"jdk/internal/util/Preconditions", "checkIndex", "(IILjava/util/function/BiFunction;)I"⟩, prog_27_method_11_code, 3, (some .int), 0, 0, [(0, 5, 0, 0, 0, []), (1, 43, 8, 0, 0, []), (4, 5, 0, 0, 0, []), (5, 5, 1, 0, 0, []), (6, 37, 10, 0, 0, []), (16, 5, 0, 0, 0, []), (17, 210, 0, 0, 0, [])])
def mr_141 : ev_MI := (⟨"BarberMinutesModel", "good", "()V"⟩, prog_11_method_3_code, 1, none, 0, 0, [(0, 9, 0, 0, 0, []), (1, 0, 0, 0, 0, []), (2, 50, 9, 0, 47, []), (5, 9, 0, 0, 0, []), (6, 0, 0, 0, 0, []), (7, 50, 9, 11, 50, []), (10, 213, 0, 0, 0, [])])
def mr_142 : ev_MI := (⟨"BarberMinutesModel", "in", "(III)Z"⟩, prog_11_method_6_code, 3, (some .boolean), 0, 0, [(0, 5, 0, 0, 0, []), (1, 5, 1, 0, 0, []), (2, 37, 12, 0, 0, []), (5, 5, 0, 0, 0, []), (6, 5, 2, 0, 0, []), (7, 39, 7, 0, 0, []), (10, 0, 1, 0, 0, []), (11, 47, 4, 0, 0, []), (14, 0, 0, 0, 0, []), (15, 210, 0, 0, 0, [])])
def mr_143 : ev_MI := (⟨"BarberMinutesModel", "no", "(I)I"⟩, prog_11_method_4_code, 2, (some .int), 0, 0, [(0, 9, 0, 0, 0, []), (1, 5, 1, 0, 0, []), (2, 50, 9, 11, 50, []), (5, 0, (-1), 0, 0, []), (6, 210, 0, 0, 0, [])])
def mr_144 : ev_MI := (⟨"BarberMinutesModel", "next", "()V"⟩, prog_11_method_15_code, 4, none, 0, 0, [(0, 9, 0, 0, 0, []), (1, 49, 9, 5, 59, []), (4, 11, 1, 0, 0, []), (5, 9, 0, 0, 0, []), (6, 5, 1, 0, 0, []), (7, 200, 147, 62, 1, []), (10, 1, 32, 0, 0, []), (12, 36, 9, 0, 0, []), (21, 9, 0, 0, 0, []), (22, 5, 1, 0, 0, []), (23, 50, 9, 4, 66, []), (26, 9, 0, 0, 0, []), (27, 5, 1, 0, 0, []), (28, 200, 147, 62, 1, []), (31, 11, 2, 0, 0, []), (32, 9, 0, 0, 0, []), (33, 0, 0, 0, 0, []), (34, 50, 9, 8, 69, []), (37, 9, 0, 0, 0, []), (38, 0, 0, 0, 0, []), (39, 50, 9, 7, 72, []), (42, 5, 2, 0, 0, []), (43, 0, (-1), 0, 0, []), (44, 36, 16, 0, 0, []), (47, 9, 0, 0, 0, []), (48, 0, 0, 0, 0, []), (49, 50, 9, 6, 75, []), (52, 9, 0, 0, 0, []), (53, 5, 1, 0, 0, []), (54, 50, 9, 5, 59, []), (57, 47, 184, 0, 0, []), (241, 213, 0, 0, 0, [])])
def mr_145 : ev_MI := (⟨"BarberMinutesModel", "readLine", "()V"⟩, prog_11_method_33_code, 1, none, 0, 0, [(0, 9, 0, 0, 0, []), (1, 69, 20, 0, 0, []), (3, 200, 148, 102, 1, []), (6, 41, 10, 0, 0, []), (16, 9, 0, 0, 0, []), (17, 69, 24, 0, 0, []), (19, 9, 0, 0, 0, []), (20, 49, 9, 16, 23, []), (23, 0, 3, 0, 0, []), (24, 52, 0, 0, 0, []), (25, 1, 6, 0, 0, []), (27, 38, 7, 0, 0, []), (30, 0, 1, 0, 0, []), (31, 47, 4, 0, 0, []), (35, 200, 149, 191, 2, []), (38, 41, 10, 0, 0, []), (48, 9, 0, 0, 0, []), (49, 69, 25, 0, 0, []), (51, 9, 0, 0, 0, []), (52, 49, 9, 16, 23, []), (55, 0, 4, 0, 0, []), (56, 52, 0, 0, 0, []), (57, 0, 5, 0, 0, []), (58, 38, 7, 0, 0, []), (61, 0, 1, 0, 0, []), (62, 47, 4, 0, 0, []), (66, 200, 149, 191, 2, []), (69, 41, 10, 0, 0, []), (79, 9, 0, 0, 0, []), (80, 69, 26, 0, 0, []), (82, 9, 0, 0, 0, []), (83, 49, 9, 16, 23, []), (86, 0, 5, 0, 0, []), (87, 52, 0, 0, 0, []), (88, 1, 9, 0, 0, []), (90, 38, 7, 0, 0, []), (93, 0, 1, 0, 0, []), (94, 47, 4, 0, 0, []), (98, 200, 149, 191, 2, []), (101, 41, 10, 0, 0, []), (111, 9, 0, 0, 0, []), (112, 69, 27, 0, 0, []), (114, 9, 0, 0, 0, []), (115, 49, 9, 16, 23, []), (118, 1, 6, 0, 0, []), (120, 52, 0, 0, 0, []), (121, 1, 6, 0, 0, []), (123, 38, 7, 0, 0, []), (126, 0, 1, 0, 0, []), (127, 47, 4, 0, 0, []), (131, 200, 149, 191, 2, []), (134, 41, 10, 0, 0, []), (144, 9, 0, 0, 0, []), (145, 69, 28, 0, 0, []), (147, 9, 0, 0, 0, []), (148, 49, 9, 16, 23, []), (151, 1, 7, 0, 0, []), (153, 52, 0, 0, 0, []), (154, 1, 9, 0, 0, []), (156, 38, 7, 0, 0, []), (159, 0, 1, 0, 0, []), (160, 47, 4, 0, 0, []), (164, 200, 149, 191, 2, []), (167, 41, 10, 0, 0, []), (177, 9, 0, 0, 0, []), (178, 69, 29, 0, 0, []), (180, 9, 0, 0, 0, []), (181, 49, 9, 16, 23, []), (184, 1, 8, 0, 0, []), (186, 52, 0, 0, 0, []), (187, 0, 5, 0, 0, []), (188, 38, 7, 0, 0, []), (191, 0, 1, 0, 0, []), (192, 47, 4, 0, 0, []), (196, 200, 149, 191, 2, []), (199, 41, 10, 0, 0, []), (209, 9, 0, 0, 0, []), (210, 69, 30, 0, 0, []), (212, 0, 1, 0, 0, []), (213, 200, 149, 191, 2, []), (216, 41, 10, 0, 0, []), (226, 9, 0, 0, 0, []), (227, 0, 1, 0, 0, []), (228, 9, 0, 0, 0, []), (229, 49, 9, 4, 66, []), (232, 200, 146, 112, 2, []), (235, 213, 0, 0, 0, [])])
def mr_146 : ev_MI := (⟨"BarberMinutesModel", "wrong", "(II)V"⟩, prog_11_method_16_code, 3, none, 0, 0, [(0, 9, 0, 0, 0, []), (1, 49, 9, 13, 85, []), (4, 41, 4, 0, 0, []), (8, 9, 0, 0, 0, []), (9, 0, 1, 0, 0, []), (10, 50, 9, 13, 85, []), (13, 9, 0, 0, 0, []), (14, 5, 1, 0, 0, []), (15, 50, 9, 9, 89, []), (18, 9, 0, 0, 0, []), (19, 5, 2, 0, 0, []), (20, 50, 9, 10, 13, []), (23, 213, 0, 0, 0, [])])
def mr_147 : ev_MI := (⟨"BarberMinutesModel", "see", "(I)I"⟩, prog_11_method_12_code, 2, (some .int), 0, 0, [(0, 5, 1, 0, 0, []), (1, 9, 0, 0, 0, []), (2, 49, 9, 3, 56, []), (5, 38, 12, 0, 0, []), (17, 0, (-1), 0, 0, []), (18, 210, 0, 0, 0, [])])
def mr_148 : ev_MI := (⟨"BarberMinutesModel", "isWord", "(Ljava/lang/String;)Z"⟩, prog_11_method_17_code, 4, (some .boolean), 0, 0, [(0, 9, 0, 0, 0, []), (1, 49, 9, 13, 85, []), (4, 42, 22, 0, 0, []), (7, 9, 0, 0, 0, []), (8, 49, 9, 6, 75, []), (11, 0, 2, 0, 0, []), (12, 36, 14, 0, 0, []), (26, 0, 0, 0, 0, []), (27, 210, 0, 0, 0, [])])
def mr_149 : ev_MI := (⟨"BarberMinutesModel", "begins", "(Ljava/lang/String;Z)Z"⟩, prog_11_method_32_code, 3, (some .boolean), 0, 0, [(0, 9, 0, 0, 0, []), (1, 9, 1, 0, 0, []), (2, 200, 148, 102, 1, []), (5, 42, 5, 0, 0, []), (8, 0, 0, 0, 0, []), (9, 210, 0, 0, 0, [])])
def mr_150 : ev_MI := (⟨"BarberMinutes", "lacksMan", "(I)Z"⟩, prog_1_method_71_code, 2, (some .boolean), 0, 0, [(0, 5, 1, 0, 0, []), (1, 43, 14, 0, 0, []), (4, 5, 1, 0, 0, []), (5, 9, 0, 0, 0, []), (6, 49, 8, 3, 23, []), (9, 49, 7, 3, 107, []), (12, 37, 7, 0, 0, []), (15, 0, 1, 0, 0, []), (16, 47, 4, 0, 0, []), (20, 210, 0, 0, 0, [])])
def mr_151 : ev_MI := (⟨"BarberMinutesModel", "isMan", "(I)Z"⟩, prog_11_method_44_code, 2, (some .boolean), 0, 0, [(0, 9, 0, 0, 0, []), (1, 49, 9, 14, 176, []), (4, 41, 23, 0, 0, []), (27, 0, 0, 0, 0, []), (28, 210, 0, 0, 0, [])])
def mr_152 : ev_MI := (⟨"BarberMinutes", "lacksMotion", "(I)Z"⟩, prog_1_method_72_code, 2, (some .boolean), 0, 0, [(0, 5, 1, 0, 0, []), (1, 43, 14, 0, 0, []), (4, 5, 1, 0, 0, []), (5, 9, 0, 0, 0, []), (6, 49, 8, 3, 23, []), (9, 49, 7, 9, 182, []), (12, 37, 7, 0, 0, []), (15, 0, 1, 0, 0, []), (16, 47, 4, 0, 0, []), (20, 210, 0, 0, 0, [])])
def mr_153 : ev_MI := (⟨"BarberMinutesModel", "isMotion", "(I)Z"⟩, prog_11_method_45_code, 2, (some .boolean), 0, 0, [(0, 9, 0, 0, 0, []), (1, 49, 9, 14, 176, []), (4, 41, 23, 0, 0, []), (27, 0, 0, 0, 0, []), (28, 210, 0, 0, 0, [])])
def mr_154 : ev_MI := (⟨"BarberMinutes", "noTown", "()Z"⟩, prog_1_method_70_code, 1, (some .boolean), 0, 0, [(0, 9, 0, 0, 0, []), (1, 49, 8, 3, 23, []), (4, 49, 7, 3, 107, []), (7, 42, 7, 0, 0, []), (10, 0, 1, 0, 0, []), (11, 47, 4, 0, 0, []), (15, 210, 0, 0, 0, [])])
def mr_155 : ev_MI := (⟨"BarberMinutesModel", "why", "(ZZ)I"⟩, prog_11_method_72_code, 3, (some .int), 0, 0, [(0, 5, 1, 0, 0, []), (1, 42, 7, 0, 0, []), (4, 0, 1, 0, 0, []), (5, 47, 12, 0, 0, []), (17, 210, 0, 0, 0, [])])
def mr_156 : ev_MI := (⟨"BarberMinutes", "lacksAgenda", "(I)Z"⟩, prog_1_method_28_code, 2, (some .boolean), 0, 0, [(0, 9, 0, 0, 0, []), (1, 5, 1, 0, 0, []), (2, 0, 1, 0, 0, []), (3, 37, 8, 0, 0, []), (6, 5, 1, 0, 0, []), (7, 0, 4, 0, 0, []), (8, 40, 7, 0, 0, []), (11, 0, 1, 0, 0, []), (12, 47, 4, 0, 0, []), (15, 0, 0, 0, 0, []), (16, 200, 157, 241, 1, []), (19, 210, 0, 0, 0, [])])
def mr_157 : ev_MI := (⟨"BarberMinutes", "refusedOf", "(Z)Z"⟩, prog_1_method_68_code, 2, (some .boolean), 0, 0, [(0, 9, 0, 0, 0, []), (1, 200, 154, 171, 0, []), (4, 41, 12, 0, 0, []), (7, 9, 0, 0, 0, []), (8, 0, 1, 0, 0, []), (9, 200, 121, 83, 1, []), (12, 32, 0, 0, 0, []), (13, 47, 13, 0, 0, []), (26, 5, 1, 0, 0, []), (27, 42, 10, 0, 0, []), (30, 9, 0, 0, 0, []), (31, 200, 154, 171, 0, []), (34, 41, 7, 0, 0, []), (37, 0, 1, 0, 0, []), (38, 47, 4, 0, 0, []), (42, 210, 0, 0, 0, [])])
def mr_158 : ev_MI := (⟨"BarberMinutes", "lacksNeeds", "(I)Z"⟩, prog_1_method_36_code, 2, (some .boolean), 0, 0, [(0, 5, 1, 0, 0, []), (1, 43, 9, 0, 0, []), (4, 5, 1, 0, 0, []), (5, 1, 54, 0, 0, []), (7, 40, 7, 0, 0, []), (10, 0, 1, 0, 0, []), (11, 47, 4, 0, 0, []), (14, 0, 0, 0, 0, []), (15, 210, 0, 0, 0, [])])
def mr_159 : ev_MI := (⟨"java/lang/Integer", "bitCount", "(I)I"⟩, prog_16_method_49_code, 1, (some .int), 0, 0, [(0, 5, 0, 0, 0, []), (1, 5, 0, 0, 0, []), (2, 0, 1, 0, 0, []), (3, 24, 0, 0, 0, []), (4, 83, 1431655765, 265, 0, []), (7, 19, 0, 0, 0, []), (8, 17, 0, 0, 0, []), (9, 11, 0, 0, 0, []), (10, 5, 0, 0, 0, []), (11, 83, 858993459, 266, 0, []), (14, 19, 0, 0, 0, []), (15, 5, 0, 0, 0, []), (16, 0, 2, 0, 0, []), (17, 24, 0, 0, 0, []), (18, 83, 858993459, 266, 0, []), (21, 19, 0, 0, 0, []), (22, 16, 0, 0, 0, []), (23, 11, 0, 0, 0, []), (24, 5, 0, 0, 0, []), (25, 5, 0, 0, 0, []), (26, 0, 4, 0, 0, []), (27, 24, 0, 0, 0, []), (28, 16, 0, 0, 0, []), (29, 83, 252645135, 267, 0, []), (32, 19, 0, 0, 0, []), (33, 11, 0, 0, 0, []), (34, 5, 0, 0, 0, []), (35, 5, 0, 0, 0, []), (36, 1, 8, 0, 0, []), (38, 24, 0, 0, 0, []), (39, 16, 0, 0, 0, []), (40, 11, 0, 0, 0, []), (41, 5, 0, 0, 0, []), (42, 5, 0, 0, 0, []), (43, 1, 16, 0, 0, []), (45, 24, 0, 0, 0, []), (46, 16, 0, 0, 0, []), (47, 11, 0, 0, 0, []), (48, 5, 0, 0, 0, []), (49, 1, 63, 0, 0, []), (51, 19, 0, 0, 0, []), (52, 210, 0, 0, 0, [])])
def mr_160 : ev_MI := (⟨"BarberMinutes$Town", "quarrelsTold", "()I"⟩, prog_9_method_10_code, 1, (some .int), 0, 0, [(0, 9, 0, 0, 0, []), (1, 49, 7, 8, 24, []), (4, 9, 0, 0, 0, []), (5, 49, 7, 3, 58, []), (8, 201, 169, 76, 2, []), (11, 0, 2, 0, 0, []), (12, 25, 0, 0, 0, []), (13, 210, 0, 0, 0, [])])
def mr_161 : ev_MI := (⟨"BarberMinutes", "lacksChair", "(I)Z"⟩, prog_1_method_73_code, 2, (some .boolean), 0, 0, [(0, 5, 1, 0, 0, []), (1, 43, 14, 0, 0, []), (4, 5, 1, 0, 0, []), (5, 9, 0, 0, 0, []), (6, 49, 8, 3, 23, []), (9, 49, 7, 15, 383, []), (12, 37, 7, 0, 0, []), (15, 0, 1, 0, 0, []), (16, 47, 4, 0, 0, []), (20, 210, 0, 0, 0, [])])
def mr_162 : ev_MI := (⟨"BarberMinutesModel", "isChair", "(I)Z"⟩, prog_11_method_46_code, 2, (some .boolean), 0, 0, [(0, 9, 0, 0, 0, []), (1, 49, 9, 14, 176, []), (4, 41, 24, 0, 0, []), (28, 0, 0, 0, 0, []), (29, 210, 0, 0, 0, [])])
def mr_163 : ev_MI := (⟨"BarberMinutes", "cannotSweep", "()Z"⟩, prog_1_method_46_code, 1, (some .boolean), 0, 0, [(0, 9, 0, 0, 0, []), (1, 200, 154, 171, 0, []), (4, 41, 11, 0, 0, []), (7, 9, 0, 0, 0, []), (8, 0, 1, 0, 0, []), (9, 200, 121, 83, 1, []), (12, 32, 0, 0, 0, []), (13, 0, 1, 0, 0, []), (14, 210, 0, 0, 0, [])])
def mr_164 : ev_MI := (⟨"BarberMinutes", "lacksLather", "(I)Z"⟩, prog_1_method_50_code, 2, (some .boolean), 0, 0, [(0, 9, 0, 0, 0, []), (1, 5, 1, 0, 0, []), (2, 43, 9, 0, 0, []), (5, 5, 1, 0, 0, []), (6, 1, 9, 0, 0, []), (8, 40, 7, 0, 0, []), (11, 0, 1, 0, 0, []), (12, 47, 4, 0, 0, []), (15, 0, 0, 0, 0, []), (16, 200, 157, 241, 1, []), (19, 210, 0, 0, 0, [])])
def mr_165 : ev_MI := (⟨"BarberMinutesModel", "shavesWhy", "(ZIII)I"⟩, prog_11_method_123_code, 8, (some .int), 0, 0, [(0, 5, 1, 0, 0, []), (1, 42, 5, 0, 0, []), (4, 0, 1, 0, 0, []), (5, 210, 0, 0, 0, [])])
def mr_166 : ev_MI := (⟨"BarberMinutes$Past", "takeBack", "(LBarberMinutes$Minutes;)Z"⟩, prog_5_method_4_code, 2, (some .boolean), 0, 0, [(0, 9, 0, 0, 0, []), (1, 49, 3, 3, 21, []), (4, 42, 5, 0, 0, []), (7, 0, 0, 0, 0, []), (8, 210, 0, 0, 0, [])])
def mr_167 : ev_MI := (⟨"BarberMinutesModel", "isNot", "(I)Z"⟩, prog_11_method_5_code, 2, (some .boolean), 0, 0, [(0, 9, 0, 0, 0, []), (1, 5, 1, 0, 0, []), (2, 50, 9, 11, 50, []), (5, 0, 0, 0, 0, []), (6, 210, 0, 0, 0, [])])
def mr_168 : ev_MI := (⟨"BarberMinutes$Past", "restore", "(ILBarberMinutes$Minutes;)Z"⟩, prog_5_method_6_code, 3, (some .boolean), 0, 0, [(0, 5, 1, 0, 0, []), (1, 43, 11, 0, 0, []), (4, 5, 1, 0, 0, []), (5, 9, 0, 0, 0, []), (6, 49, 3, 4, 25, []), (9, 37, 5, 0, 0, []), (12, 0, 0, 0, 0, []), (13, 210, 0, 0, 0, [])])
def mr_169 : ev_MI := (⟨"BarberMinutes$Town", "bitsOf", "([II)I"⟩, prog_9_method_6_code, 4, (some .int), 0, 0, [(0, 0, 0, 0, 0, []), (1, 11, 2, 0, 0, []), (2, 0, 0, 0, 0, []), (3, 11, 3, 0, 0, []), (4, 5, 3, 0, 0, []), (5, 5, 1, 0, 0, []), (6, 38, 24, 0, 0, []), (30, 5, 2, 0, 0, []), (31, 210, 0, 0, 0, [])])
def ev_ms : List ev_MI := [mr_0, mr_1, mr_2, mr_3, mr_4, mr_5, mr_6, mr_7, mr_8, mr_9, mr_10, mr_11, mr_12, mr_13, mr_14, mr_15, mr_16, mr_17, mr_18, mr_19, mr_20, mr_21, mr_22, mr_23, mr_24, mr_25, mr_26, mr_27, mr_28, mr_29, mr_30, mr_31, mr_32, mr_33, mr_34, mr_35, mr_36, mr_37, mr_38, mr_39, mr_40, mr_41, mr_42, mr_43, mr_44, mr_45, mr_46, mr_47, mr_48, mr_49, mr_50, mr_51, mr_52, mr_53, mr_54, mr_55, mr_56, mr_57, mr_58, mr_59, mr_60, mr_61, mr_62, mr_63, mr_64, mr_65, mr_66, mr_67, mr_68, mr_69, mr_70, mr_71, mr_72, mr_73, mr_74, mr_75, mr_76, mr_77, mr_78, mr_79, mr_80, mr_81, mr_82, mr_83, mr_84, mr_85, mr_86, mr_87, mr_88, mr_89, mr_90, mr_91, mr_92, mr_93, mr_94, mr_95, mr_96, mr_97, mr_98, mr_99, mr_100, mr_101, mr_102, mr_103, mr_104, mr_105, mr_106, mr_107, mr_108, mr_109, mr_110, mr_111, mr_112, mr_113, mr_114, mr_115, mr_116, mr_117, mr_118, mr_119, mr_120, mr_121, mr_122, mr_123, mr_124, mr_125, mr_126, mr_127, mr_128, mr_129, mr_130, mr_131, mr_132, mr_133, mr_134, mr_135, mr_136, mr_137, mr_138, mr_139, mr_140, mr_141, mr_142, mr_143, mr_144, mr_145, mr_146, mr_147, mr_148, mr_149, mr_150, mr_151, mr_152, mr_153, mr_154, mr_155, mr_156, mr_157, mr_158, mr_159, mr_160, mr_161, mr_162, mr_163, mr_164, mr_165, mr_166, mr_167, mr_168, mr_169]
def law_a : List (Nat × ev_Row) := [(0, 62, 8, 0, 8, []), (3, 31, 0, 0, 0, []), (4, 202, 0, 15, 0, []), (7, 15, 1, 0, 0, []), (8, 62, 9, 0, 16, []), (11, 31, 0, 0, 0, []), (12, 202, 1, 18, 0, []), (15, 15, 2, 0, 0, []), (16, 0, 1, 0, 0, []), (17, 60, 0, 0, 0, []), (19, 15, 3, 0, 0, []), (20, 0, 0, 0, 0, []), (21, 10, 4, 0, 0, [])]
def law_h : List (Nat × ev_Row) := [(23, 4, 4, 0, 0, []), (25, 9, 0, 0, 0, []), (26, 64, 0, 0, 0, []), (27, 1, 6, 0, 0, []), (29, 17, 0, 0, 0, []), (30, 39, 1728, 0, 0, []), (1758, 0, 1, 0, 0, []), (1759, 210, 0, 0, 0, [])]
def law_b : List (Nat × ev_Row) := [(23, 4, 4, 0, 0, []), (25, 9, 0, 0, 0, []), (26, 64, 0, 0, 0, []), (27, 1, 6, 0, 0, []), (29, 17, 0, 0, 0, []), (30, 39, 1728, 0, 0, []), (33, 9, 0, 0, 0, []), (34, 4, 4, 0, 0, []), (36, 65, 0, 0, 0, []), (37, 1, 63, 0, 0, []), (39, 19, 0, 0, 0, []), (40, 48, 1712, 0, 54, [236, 236, 309, 334, 347, 360, 397, 434, 459, 472, 485, 498, 511, 536, 561, 598, 635, 660, 673, 686, 723, 748, 773, 798, 823, 860, 885, 910, 935, 948, 961, 974, 1011, 1024, 1049, 1062, 1087, 1100, 1113, 1126, 1139, 1248, 1273, 1298, 1352, 1406, 1455, 1504, 1529, 1542, 1567, 1580, 1593, 1618, 1674, 1699]), (276, 9, 1, 0, 0, []), (277, 9, 0, 0, 0, []), (278, 4, 4, 0, 0, []), (280, 0, 1, 0, 0, []), (281, 16, 0, 0, 0, []), (282, 65, 0, 0, 0, []), (283, 9, 0, 0, 0, []), (284, 4, 4, 0, 0, []), (286, 0, 2, 0, 0, []), (287, 16, 0, 0, 0, []), (288, 65, 0, 0, 0, []), (289, 9, 0, 0, 0, []), (290, 4, 4, 0, 0, []), (292, 0, 3, 0, 0, []), (293, 16, 0, 0, 0, []), (294, 65, 0, 0, 0, []), (295, 9, 0, 0, 0, []), (296, 4, 4, 0, 0, []), (298, 0, 4, 0, 0, []), (299, 16, 0, 0, 0, []), (300, 65, 0, 0, 0, []), (301, 9, 0, 0, 0, []), (302, 4, 4, 0, 0, []), (304, 0, 5, 0, 0, []), (305, 16, 0, 0, 0, []), (306, 65, 0, 0, 0, []), (307, 200, 2, 19, 5, []), (310, 9, 2, 0, 0, []), (311, 9, 0, 0, 0, []), (312, 4, 4, 0, 0, []), (314, 0, 1, 0, 0, []), (315, 16, 0, 0, 0, []), (316, 65, 0, 0, 0, []), (317, 9, 0, 0, 0, []), (318, 4, 4, 0, 0, []), (320, 0, 2, 0, 0, []), (321, 16, 0, 0, 0, []), (322, 65, 0, 0, 0, []), (323, 9, 0, 0, 0, []), (324, 4, 4, 0, 0, []), (326, 0, 3, 0, 0, []), (327, 16, 0, 0, 0, []), (328, 65, 0, 0, 0, []), (329, 9, 0, 0, 0, []), (330, 4, 4, 0, 0, []), (332, 0, 4, 0, 0, []), (333, 16, 0, 0, 0, []), (334, 65, 0, 0, 0, []), (335, 9, 0, 0, 0, []), (336, 4, 4, 0, 0, []), (338, 0, 5, 0, 0, []), (339, 16, 0, 0, 0, []), (340, 65, 0, 0, 0, []), (341, 200, 3, 23, 5, []), (344, 35, 1408, 0, 0, []), (349, 9, 1, 0, 0, []), (350, 9, 0, 0, 0, []), (351, 4, 4, 0, 0, []), (353, 0, 1, 0, 0, []), (354, 16, 0, 0, 0, []), (355, 65, 0, 0, 0, []), (356, 200, 4, 24, 1, []), (359, 9, 2, 0, 0, []), (360, 9, 0, 0, 0, []), (361, 4, 4, 0, 0, []), (363, 0, 1, 0, 0, []), (364, 16, 0, 0, 0, []), (365, 65, 0, 0, 0, []), (366, 200, 5, 27, 1, []), (369, 35, 1383, 0, 0, []), (374, 9, 1, 0, 0, []), (375, 200, 6, 28, 0, []), (378, 9, 2, 0, 0, []), (379, 200, 7, 32, 0, []), (382, 35, 1370, 0, 0, []), (387, 9, 1, 0, 0, []), (388, 200, 8, 33, 0, []), (391, 9, 2, 0, 0, []), (392, 200, 9, 36, 0, []), (395, 35, 1357, 0, 0, []), (400, 9, 1, 0, 0, []), (401, 9, 0, 0, 0, []), (402, 4, 4, 0, 0, []), (404, 0, 1, 0, 0, []), (405, 16, 0, 0, 0, []), (406, 65, 0, 0, 0, []), (407, 9, 0, 0, 0, []), (408, 4, 4, 0, 0, []), (410, 0, 2, 0, 0, []), (411, 16, 0, 0, 0, []), (412, 65, 0, 0, 0, []), (413, 200, 10, 37, 2, []), (416, 9, 2, 0, 0, []), (417, 9, 0, 0, 0, []), (418, 4, 4, 0, 0, []), (420, 0, 1, 0, 0, []), (421, 16, 0, 0, 0, []), (422, 65, 0, 0, 0, []), (423, 9, 0, 0, 0, []), (424, 4, 4, 0, 0, []), (426, 0, 2, 0, 0, []), (427, 16, 0, 0, 0, []), (428, 65, 0, 0, 0, []), (429, 200, 11, 41, 2, []), (432, 35, 1320, 0, 0, []), (437, 9, 1, 0, 0, []), (438, 9, 0, 0, 0, []), (439, 4, 4, 0, 0, []), (441, 0, 1, 0, 0, []), (442, 16, 0, 0, 0, []), (443, 65, 0, 0, 0, []), (444, 9, 0, 0, 0, []), (445, 4, 4, 0, 0, []), (447, 0, 2, 0, 0, []), (448, 16, 0, 0, 0, []), (449, 65, 0, 0, 0, []), (450, 200, 12, 42, 2, []), (453, 9, 2, 0, 0, []), (454, 9, 0, 0, 0, []), (455, 4, 4, 0, 0, []), (457, 0, 1, 0, 0, []), (458, 16, 0, 0, 0, []), (459, 65, 0, 0, 0, []), (460, 9, 0, 0, 0, []), (461, 4, 4, 0, 0, []), (463, 0, 2, 0, 0, []), (464, 16, 0, 0, 0, []), (465, 65, 0, 0, 0, []), (466, 200, 13, 45, 2, []), (469, 35, 1283, 0, 0, []), (474, 9, 1, 0, 0, []), (475, 9, 0, 0, 0, []), (476, 4, 4, 0, 0, []), (478, 0, 1, 0, 0, []), (479, 16, 0, 0, 0, []), (480, 65, 0, 0, 0, []), (481, 200, 14, 46, 1, []), (484, 9, 2, 0, 0, []), (485, 9, 0, 0, 0, []), (486, 4, 4, 0, 0, []), (488, 0, 1, 0, 0, []), (489, 16, 0, 0, 0, []), (490, 65, 0, 0, 0, []), (491, 200, 15, 49, 1, []), (494, 35, 1258, 0, 0, []), (499, 9, 1, 0, 0, []), (500, 200, 16, 50, 0, []), (503, 9, 2, 0, 0, []), (504, 200, 17, 53, 0, []), (507, 35, 1245, 0, 0, []), (512, 9, 1, 0, 0, []), (513, 200, 18, 54, 0, []), (516, 9, 2, 0, 0, []), (517, 200, 19, 57, 0, []), (520, 35, 1232, 0, 0, []), (525, 9, 1, 0, 0, []), (526, 200, 20, 58, 0, []), (529, 9, 2, 0, 0, []), (530, 200, 21, 61, 0, []), (533, 35, 1219, 0, 0, []), (538, 9, 1, 0, 0, []), (539, 200, 22, 62, 0, []), (542, 9, 2, 0, 0, []), (543, 200, 23, 65, 0, []), (546, 35, 1206, 0, 0, []), (551, 9, 1, 0, 0, []), (552, 9, 0, 0, 0, []), (553, 4, 4, 0, 0, []), (555, 0, 1, 0, 0, []), (556, 16, 0, 0, 0, []), (557, 65, 0, 0, 0, []), (558, 200, 24, 66, 1, []), (561, 9, 2, 0, 0, []), (562, 9, 0, 0, 0, []), (563, 4, 4, 0, 0, []), (565, 0, 1, 0, 0, []), (566, 16, 0, 0, 0, []), (567, 65, 0, 0, 0, []), (568, 200, 25, 69, 1, []), (571, 35, 1181, 0, 0, []), (576, 9, 1, 0, 0, []), (577, 9, 0, 0, 0, []), (578, 4, 4, 0, 0, []), (580, 0, 1, 0, 0, []), (581, 16, 0, 0, 0, []), (582, 65, 0, 0, 0, []), (583, 200, 26, 70, 1, []), (586, 9, 2, 0, 0, []), (587, 9, 0, 0, 0, []), (588, 4, 4, 0, 0, []), (590, 0, 1, 0, 0, []), (591, 16, 0, 0, 0, []), (592, 65, 0, 0, 0, []), (593, 200, 27, 73, 1, []), (596, 35, 1156, 0, 0, []), (601, 9, 1, 0, 0, []), (602, 9, 0, 0, 0, []), (603, 4, 4, 0, 0, []), (605, 0, 1, 0, 0, []), (606, 16, 0, 0, 0, []), (607, 65, 0, 0, 0, []), (608, 9, 0, 0, 0, []), (609, 4, 4, 0, 0, []), (611, 0, 2, 0, 0, []), (612, 16, 0, 0, 0, []), (613, 65, 0, 0, 0, []), (614, 200, 28, 74, 2, []), (617, 9, 2, 0, 0, []), (618, 9, 0, 0, 0, []), (619, 4, 4, 0, 0, []), (621, 0, 1, 0, 0, []), (622, 16, 0, 0, 0, []), (623, 65, 0, 0, 0, []), (624, 9, 0, 0, 0, []), (625, 4, 4, 0, 0, []), (627, 0, 2, 0, 0, []), (628, 16, 0, 0, 0, []), (629, 65, 0, 0, 0, []), (630, 200, 29, 77, 2, []), (633, 35, 1119, 0, 0, []), (638, 9, 1, 0, 0, []), (639, 9, 0, 0, 0, []), (640, 4, 4, 0, 0, []), (642, 0, 1, 0, 0, []), (643, 16, 0, 0, 0, []), (644, 65, 0, 0, 0, []), (645, 9, 0, 0, 0, []), (646, 4, 4, 0, 0, []), (648, 0, 2, 0, 0, []), (649, 16, 0, 0, 0, []), (650, 65, 0, 0, 0, []), (651, 200, 30, 78, 2, []), (654, 9, 2, 0, 0, []), (655, 9, 0, 0, 0, []), (656, 4, 4, 0, 0, []), (658, 0, 1, 0, 0, []), (659, 16, 0, 0, 0, []), (660, 65, 0, 0, 0, []), (661, 9, 0, 0, 0, []), (662, 4, 4, 0, 0, []), (664, 0, 2, 0, 0, []), (665, 16, 0, 0, 0, []), (666, 65, 0, 0, 0, []), (667, 200, 31, 81, 2, []), (670, 35, 1082, 0, 0, []), (675, 9, 1, 0, 0, []), (676, 9, 0, 0, 0, []), (677, 4, 4, 0, 0, []), (679, 0, 1, 0, 0, []), (680, 16, 0, 0, 0, []), (681, 65, 0, 0, 0, []), (682, 200, 32, 82, 1, []), (685, 9, 2, 0, 0, []), (686, 9, 0, 0, 0, []), (687, 4, 4, 0, 0, []), (689, 0, 1, 0, 0, []), (690, 16, 0, 0, 0, []), (691, 65, 0, 0, 0, []), (692, 200, 33, 85, 1, []), (695, 35, 1057, 0, 0, []), (700, 9, 1, 0, 0, []), (701, 200, 34, 86, 0, []), (704, 9, 2, 0, 0, []), (705, 200, 35, 89, 0, []), (708, 35, 1044, 0, 0, []), (713, 9, 1, 0, 0, []), (714, 200, 36, 90, 0, []), (717, 9, 2, 0, 0, []), (718, 200, 37, 93, 0, []), (721, 35, 1031, 0, 0, []), (726, 9, 1, 0, 0, []), (727, 9, 0, 0, 0, []), (728, 4, 4, 0, 0, []), (730, 0, 1, 0, 0, []), (731, 16, 0, 0, 0, []), (732, 65, 0, 0, 0, []), (733, 9, 0, 0, 0, []), (734, 4, 4, 0, 0, []), (736, 0, 2, 0, 0, []), (737, 16, 0, 0, 0, []), (738, 65, 0, 0, 0, []), (739, 200, 38, 94, 2, []), (742, 9, 2, 0, 0, []), (743, 9, 0, 0, 0, []), (744, 4, 4, 0, 0, []), (746, 0, 1, 0, 0, []), (747, 16, 0, 0, 0, []), (748, 65, 0, 0, 0, []), (749, 9, 0, 0, 0, []), (750, 4, 4, 0, 0, []), (752, 0, 2, 0, 0, []), (753, 16, 0, 0, 0, []), (754, 65, 0, 0, 0, []), (755, 200, 39, 97, 2, []), (758, 35, 994, 0, 0, []), (763, 9, 1, 0, 0, []), (764, 9, 0, 0, 0, []), (765, 4, 4, 0, 0, []), (767, 0, 1, 0, 0, []), (768, 16, 0, 0, 0, []), (769, 65, 0, 0, 0, []), (770, 200, 40, 98, 1, []), (773, 9, 2, 0, 0, []), (774, 9, 0, 0, 0, []), (775, 4, 4, 0, 0, []), (777, 0, 1, 0, 0, []), (778, 16, 0, 0, 0, []), (779, 65, 0, 0, 0, []), (780, 200, 41, 101, 1, []), (783, 35, 969, 0, 0, []), (788, 9, 1, 0, 0, []), (789, 9, 0, 0, 0, []), (790, 4, 4, 0, 0, []), (792, 0, 1, 0, 0, []), (793, 16, 0, 0, 0, []), (794, 65, 0, 0, 0, []), (795, 200, 42, 102, 1, []), (798, 9, 2, 0, 0, []), (799, 9, 0, 0, 0, []), (800, 4, 4, 0, 0, []), (802, 0, 1, 0, 0, []), (803, 16, 0, 0, 0, []), (804, 65, 0, 0, 0, []), (805, 200, 43, 105, 1, []), (808, 35, 944, 0, 0, []), (813, 9, 1, 0, 0, []), (814, 9, 0, 0, 0, []), (815, 4, 4, 0, 0, []), (817, 0, 1, 0, 0, []), (818, 16, 0, 0, 0, []), (819, 65, 0, 0, 0, []), (820, 200, 44, 106, 1, []), (823, 9, 2, 0, 0, []), (824, 9, 0, 0, 0, []), (825, 4, 4, 0, 0, []), (827, 0, 1, 0, 0, []), (828, 16, 0, 0, 0, []), (829, 65, 0, 0, 0, []), (830, 200, 45, 109, 1, []), (833, 35, 919, 0, 0, []), (838, 9, 1, 0, 0, []), (839, 9, 0, 0, 0, []), (840, 4, 4, 0, 0, []), (842, 0, 1, 0, 0, []), (843, 16, 0, 0, 0, []), (844, 65, 0, 0, 0, []), (845, 200, 46, 110, 1, []), (848, 9, 2, 0, 0, []), (849, 9, 0, 0, 0, []), (850, 4, 4, 0, 0, []), (852, 0, 1, 0, 0, []), (853, 16, 0, 0, 0, []), (854, 65, 0, 0, 0, []), (855, 200, 47, 113, 1, []), (858, 35, 894, 0, 0, []), (863, 9, 1, 0, 0, []), (864, 9, 0, 0, 0, []), (865, 4, 4, 0, 0, []), (867, 0, 1, 0, 0, []), (868, 16, 0, 0, 0, []), (869, 65, 0, 0, 0, []), (870, 9, 0, 0, 0, []), (871, 4, 4, 0, 0, []), (873, 0, 2, 0, 0, []), (874, 16, 0, 0, 0, []), (875, 65, 0, 0, 0, []), (876, 200, 48, 114, 2, []), (879, 9, 2, 0, 0, []), (880, 9, 0, 0, 0, []), (881, 4, 4, 0, 0, []), (883, 0, 1, 0, 0, []), (884, 16, 0, 0, 0, []), (885, 65, 0, 0, 0, []), (886, 9, 0, 0, 0, []), (887, 4, 4, 0, 0, []), (889, 0, 2, 0, 0, []), (890, 16, 0, 0, 0, []), (891, 65, 0, 0, 0, []), (892, 200, 49, 117, 2, []), (895, 35, 857, 0, 0, []), (900, 9, 1, 0, 0, []), (901, 9, 0, 0, 0, []), (902, 4, 4, 0, 0, []), (904, 0, 1, 0, 0, []), (905, 16, 0, 0, 0, []), (906, 65, 0, 0, 0, []), (907, 200, 50, 118, 1, []), (910, 9, 2, 0, 0, []), (911, 9, 0, 0, 0, []), (912, 4, 4, 0, 0, []), (914, 0, 1, 0, 0, []), (915, 16, 0, 0, 0, []), (916, 65, 0, 0, 0, []), (917, 200, 51, 121, 1, []), (920, 35, 832, 0, 0, []), (925, 9, 1, 0, 0, []), (926, 9, 0, 0, 0, []), (927, 4, 4, 0, 0, []), (929, 0, 1, 0, 0, []), (930, 16, 0, 0, 0, []), (931, 65, 0, 0, 0, []), (932, 200, 52, 122, 1, []), (935, 9, 2, 0, 0, []), (936, 9, 0, 0, 0, []), (937, 4, 4, 0, 0, []), (939, 0, 1, 0, 0, []), (940, 16, 0, 0, 0, []), (941, 65, 0, 0, 0, []), (942, 200, 53, 125, 1, []), (945, 35, 807, 0, 0, []), (950, 9, 1, 0, 0, []), (951, 9, 0, 0, 0, []), (952, 4, 4, 0, 0, []), (954, 0, 1, 0, 0, []), (955, 16, 0, 0, 0, []), (956, 65, 0, 0, 0, []), (957, 200, 54, 126, 1, []), (960, 9, 2, 0, 0, []), (961, 9, 0, 0, 0, []), (962, 4, 4, 0, 0, []), (964, 0, 1, 0, 0, []), (965, 16, 0, 0, 0, []), (966, 65, 0, 0, 0, []), (967, 200, 55, 129, 1, []), (970, 35, 782, 0, 0, []), (975, 9, 1, 0, 0, []), (976, 200, 56, 130, 0, []), (979, 9, 2, 0, 0, []), (980, 200, 57, 133, 0, []), (983, 35, 769, 0, 0, []), (988, 9, 1, 0, 0, []), (989, 200, 58, 134, 0, []), (992, 9, 2, 0, 0, []), (993, 200, 59, 137, 0, []), (996, 35, 756, 0, 0, []), (1001, 9, 1, 0, 0, []), (1002, 200, 60, 138, 0, []), (1005, 9, 2, 0, 0, []), (1006, 200, 61, 141, 0, []), (1009, 35, 743, 0, 0, []), (1014, 9, 1, 0, 0, []), (1015, 9, 0, 0, 0, []), (1016, 4, 4, 0, 0, []), (1018, 0, 1, 0, 0, []), (1019, 16, 0, 0, 0, []), (1020, 65, 0, 0, 0, []), (1021, 9, 0, 0, 0, []), (1022, 4, 4, 0, 0, []), (1024, 0, 2, 0, 0, []), (1025, 16, 0, 0, 0, []), (1026, 65, 0, 0, 0, []), (1027, 200, 62, 142, 2, []), (1030, 9, 2, 0, 0, []), (1031, 9, 0, 0, 0, []), (1032, 4, 4, 0, 0, []), (1034, 0, 1, 0, 0, []), (1035, 16, 0, 0, 0, []), (1036, 65, 0, 0, 0, []), (1037, 9, 0, 0, 0, []), (1038, 4, 4, 0, 0, []), (1040, 0, 2, 0, 0, []), (1041, 16, 0, 0, 0, []), (1042, 65, 0, 0, 0, []), (1043, 200, 63, 145, 2, []), (1046, 35, 706, 0, 0, []), (1051, 9, 1, 0, 0, []), (1052, 200, 64, 146, 0, []), (1055, 9, 2, 0, 0, []), (1056, 200, 65, 149, 0, []), (1059, 35, 693, 0, 0, []), (1064, 9, 1, 0, 0, []), (1065, 9, 0, 0, 0, []), (1066, 4, 4, 0, 0, []), (1068, 0, 1, 0, 0, []), (1069, 16, 0, 0, 0, []), (1070, 65, 0, 0, 0, []), (1071, 200, 66, 150, 1, []), (1074, 9, 2, 0, 0, []), (1075, 9, 0, 0, 0, []), (1076, 4, 4, 0, 0, []), (1078, 0, 1, 0, 0, []), (1079, 16, 0, 0, 0, []), (1080, 65, 0, 0, 0, []), (1081, 200, 67, 153, 1, []), (1084, 35, 668, 0, 0, []), (1089, 9, 1, 0, 0, []), (1090, 200, 68, 154, 0, []), (1093, 9, 2, 0, 0, []), (1094, 200, 69, 157, 0, []), (1097, 35, 655, 0, 0, []), (1102, 9, 1, 0, 0, []), (1103, 9, 0, 0, 0, []), (1104, 4, 4, 0, 0, []), (1106, 0, 1, 0, 0, []), (1107, 16, 0, 0, 0, []), (1108, 65, 0, 0, 0, []), (1109, 200, 70, 158, 1, []), (1112, 9, 2, 0, 0, []), (1113, 9, 0, 0, 0, []), (1114, 4, 4, 0, 0, []), (1116, 0, 1, 0, 0, []), (1117, 16, 0, 0, 0, []), (1118, 65, 0, 0, 0, []), (1119, 200, 71, 161, 1, []), (1122, 35, 630, 0, 0, []), (1127, 9, 1, 0, 0, []), (1128, 200, 72, 162, 0, []), (1131, 9, 2, 0, 0, []), (1132, 200, 73, 165, 0, []), (1135, 35, 617, 0, 0, []), (1140, 9, 1, 0, 0, []), (1141, 200, 74, 166, 0, []), (1144, 9, 2, 0, 0, []), (1145, 200, 75, 169, 0, []), (1148, 35, 604, 0, 0, []), (1153, 9, 1, 0, 0, []), (1154, 200, 76, 170, 0, []), (1157, 9, 2, 0, 0, []), (1158, 200, 77, 173, 0, []), (1161, 35, 591, 0, 0, []), (1166, 9, 1, 0, 0, []), (1167, 200, 78, 174, 0, []), (1170, 9, 2, 0, 0, []), (1171, 200, 79, 177, 0, []), (1174, 35, 578, 0, 0, []), (1179, 9, 1, 0, 0, []), (1180, 9, 0, 0, 0, []), (1181, 4, 4, 0, 0, []), (1183, 0, 1, 0, 0, []), (1184, 16, 0, 0, 0, []), (1185, 65, 0, 0, 0, []), (1186, 9, 0, 0, 0, []), (1187, 4, 4, 0, 0, []), (1189, 0, 2, 0, 0, []), (1190, 16, 0, 0, 0, []), (1191, 65, 0, 0, 0, []), (1192, 41, 7, 0, 0, []), (1195, 0, 1, 0, 0, []), (1196, 47, 4, 0, 0, []), (1199, 0, 0, 0, 0, []), (1200, 9, 0, 0, 0, []), (1201, 4, 4, 0, 0, []), (1203, 0, 3, 0, 0, []), (1204, 16, 0, 0, 0, []), (1205, 65, 0, 0, 0, []), (1206, 41, 7, 0, 0, []), (1209, 0, 1, 0, 0, []), (1210, 47, 4, 0, 0, []), (1213, 0, 0, 0, 0, []), (1214, 9, 0, 0, 0, []), (1215, 4, 4, 0, 0, []), (1217, 0, 4, 0, 0, []), (1218, 16, 0, 0, 0, []), (1219, 65, 0, 0, 0, []), (1220, 41, 7, 0, 0, []), (1223, 0, 1, 0, 0, []), (1224, 47, 4, 0, 0, []), (1227, 0, 0, 0, 0, []), (1228, 200, 80, 178, 4, []), (1231, 9, 2, 0, 0, []), (1232, 9, 0, 0, 0, []), (1233, 4, 4, 0, 0, []), (1235, 0, 1, 0, 0, []), (1236, 16, 0, 0, 0, []), (1237, 65, 0, 0, 0, []), (1238, 9, 0, 0, 0, []), (1239, 4, 4, 0, 0, []), (1241, 0, 2, 0, 0, []), (1242, 16, 0, 0, 0, []), (1243, 65, 0, 0, 0, []), (1244, 41, 7, 0, 0, []), (1247, 0, 1, 0, 0, []), (1248, 47, 4, 0, 0, []), (1251, 0, 0, 0, 0, []), (1252, 9, 0, 0, 0, []), (1253, 4, 4, 0, 0, []), (1255, 0, 3, 0, 0, []), (1256, 16, 0, 0, 0, []), (1257, 65, 0, 0, 0, []), (1258, 41, 7, 0, 0, []), (1261, 0, 1, 0, 0, []), (1262, 47, 4, 0, 0, []), (1265, 0, 0, 0, 0, []), (1266, 9, 0, 0, 0, []), (1267, 4, 4, 0, 0, []), (1269, 0, 4, 0, 0, []), (1270, 16, 0, 0, 0, []), (1271, 65, 0, 0, 0, []), (1272, 41, 7, 0, 0, []), (1275, 0, 1, 0, 0, []), (1276, 47, 4, 0, 0, []), (1279, 0, 0, 0, 0, []), (1280, 200, 81, 182, 4, []), (1283, 35, 469, 0, 0, []), (1288, 9, 1, 0, 0, []), (1289, 9, 0, 0, 0, []), (1290, 4, 4, 0, 0, []), (1292, 0, 1, 0, 0, []), (1293, 16, 0, 0, 0, []), (1294, 65, 0, 0, 0, []), (1295, 200, 82, 183, 1, []), (1298, 9, 2, 0, 0, []), (1299, 9, 0, 0, 0, []), (1300, 4, 4, 0, 0, []), (1302, 0, 1, 0, 0, []), (1303, 16, 0, 0, 0, []), (1304, 65, 0, 0, 0, []), (1305, 200, 83, 186, 1, []), (1308, 35, 444, 0, 0, []), (1313, 9, 1, 0, 0, []), (1314, 9, 0, 0, 0, []), (1315, 4, 4, 0, 0, []), (1317, 0, 1, 0, 0, []), (1318, 16, 0, 0, 0, []), (1319, 65, 0, 0, 0, []), (1320, 200, 84, 187, 1, []), (1323, 9, 2, 0, 0, []), (1324, 9, 0, 0, 0, []), (1325, 4, 4, 0, 0, []), (1327, 0, 1, 0, 0, []), (1328, 16, 0, 0, 0, []), (1329, 65, 0, 0, 0, []), (1330, 200, 85, 190, 1, []), (1333, 35, 419, 0, 0, []), (1338, 9, 1, 0, 0, []), (1339, 9, 0, 0, 0, []), (1340, 4, 4, 0, 0, []), (1342, 0, 1, 0, 0, []), (1343, 16, 0, 0, 0, []), (1344, 65, 0, 0, 0, []), (1345, 9, 0, 0, 0, []), (1346, 4, 4, 0, 0, []), (1348, 0, 2, 0, 0, []), (1349, 16, 0, 0, 0, []), (1350, 65, 0, 0, 0, []), (1351, 41, 7, 0, 0, []), (1354, 0, 1, 0, 0, []), (1355, 47, 4, 0, 0, []), (1358, 0, 0, 0, 0, []), (1359, 200, 86, 191, 2, []), (1362, 9, 2, 0, 0, []), (1363, 9, 0, 0, 0, []), (1364, 4, 4, 0, 0, []), (1366, 0, 1, 0, 0, []), (1367, 16, 0, 0, 0, []), (1368, 65, 0, 0, 0, []), (1369, 9, 0, 0, 0, []), (1370, 4, 4, 0, 0, []), (1372, 0, 2, 0, 0, []), (1373, 16, 0, 0, 0, []), (1374, 65, 0, 0, 0, []), (1375, 41, 7, 0, 0, []), (1378, 0, 1, 0, 0, []), (1379, 47, 4, 0, 0, []), (1382, 0, 0, 0, 0, []), (1383, 200, 87, 195, 2, []), (1386, 30, 0, 0, 0, []), (1387, 41, 365, 0, 0, []), (1392, 9, 1, 0, 0, []), (1393, 9, 0, 0, 0, []), (1394, 4, 4, 0, 0, []), (1396, 0, 1, 0, 0, []), (1397, 16, 0, 0, 0, []), (1398, 65, 0, 0, 0, []), (1399, 9, 0, 0, 0, []), (1400, 4, 4, 0, 0, []), (1402, 0, 2, 0, 0, []), (1403, 16, 0, 0, 0, []), (1404, 65, 0, 0, 0, []), (1405, 41, 7, 0, 0, []), (1408, 0, 1, 0, 0, []), (1409, 47, 4, 0, 0, []), (1412, 0, 0, 0, 0, []), (1413, 200, 88, 196, 2, []), (1416, 9, 2, 0, 0, []), (1417, 9, 0, 0, 0, []), (1418, 4, 4, 0, 0, []), (1420, 0, 1, 0, 0, []), (1421, 16, 0, 0, 0, []), (1422, 65, 0, 0, 0, []), (1423, 9, 0, 0, 0, []), (1424, 4, 4, 0, 0, []), (1426, 0, 2, 0, 0, []), (1427, 16, 0, 0, 0, []), (1428, 65, 0, 0, 0, []), (1429, 41, 7, 0, 0, []), (1432, 0, 1, 0, 0, []), (1433, 47, 4, 0, 0, []), (1436, 0, 0, 0, 0, []), (1437, 200, 89, 199, 2, []), (1440, 30, 0, 0, 0, []), (1441, 41, 311, 0, 0, []), (1446, 9, 1, 0, 0, []), (1447, 9, 0, 0, 0, []), (1448, 4, 4, 0, 0, []), (1450, 0, 1, 0, 0, []), (1451, 16, 0, 0, 0, []), (1452, 65, 0, 0, 0, []), (1453, 9, 0, 0, 0, []), (1454, 4, 4, 0, 0, []), (1456, 0, 2, 0, 0, []), (1457, 16, 0, 0, 0, []), (1458, 65, 0, 0, 0, []), (1459, 9, 0, 0, 0, []), (1460, 4, 4, 0, 0, []), (1462, 0, 3, 0, 0, []), (1463, 16, 0, 0, 0, []), (1464, 65, 0, 0, 0, []), (1465, 200, 90, 200, 3, []), (1468, 9, 2, 0, 0, []), (1469, 9, 0, 0, 0, []), (1470, 4, 4, 0, 0, []), (1472, 0, 1, 0, 0, []), (1473, 16, 0, 0, 0, []), (1474, 65, 0, 0, 0, []), (1475, 9, 0, 0, 0, []), (1476, 4, 4, 0, 0, []), (1478, 0, 2, 0, 0, []), (1479, 16, 0, 0, 0, []), (1480, 65, 0, 0, 0, []), (1481, 9, 0, 0, 0, []), (1482, 4, 4, 0, 0, []), (1484, 0, 3, 0, 0, []), (1485, 16, 0, 0, 0, []), (1486, 65, 0, 0, 0, []), (1487, 200, 91, 204, 3, []), (1490, 35, 262, 0, 0, []), (1495, 9, 1, 0, 0, []), (1496, 9, 0, 0, 0, []), (1497, 4, 4, 0, 0, []), (1499, 0, 1, 0, 0, []), (1500, 16, 0, 0, 0, []), (1501, 65, 0, 0, 0, []), (1502, 9, 0, 0, 0, []), (1503, 4, 4, 0, 0, []), (1505, 0, 2, 0, 0, []), (1506, 16, 0, 0, 0, []), (1507, 65, 0, 0, 0, []), (1508, 9, 0, 0, 0, []), (1509, 4, 4, 0, 0, []), (1511, 0, 3, 0, 0, []), (1512, 16, 0, 0, 0, []), (1513, 65, 0, 0, 0, []), (1514, 200, 92, 205, 3, []), (1517, 9, 2, 0, 0, []), (1518, 9, 0, 0, 0, []), (1519, 4, 4, 0, 0, []), (1521, 0, 1, 0, 0, []), (1522, 16, 0, 0, 0, []), (1523, 65, 0, 0, 0, []), (1524, 9, 0, 0, 0, []), (1525, 4, 4, 0, 0, []), (1527, 0, 2, 0, 0, []), (1528, 16, 0, 0, 0, []), (1529, 65, 0, 0, 0, []), (1530, 9, 0, 0, 0, []), (1531, 4, 4, 0, 0, []), (1533, 0, 3, 0, 0, []), (1534, 16, 0, 0, 0, []), (1535, 65, 0, 0, 0, []), (1536, 200, 93, 208, 3, []), (1539, 35, 213, 0, 0, []), (1544, 9, 1, 0, 0, []), (1545, 9, 0, 0, 0, []), (1546, 4, 4, 0, 0, []), (1548, 0, 1, 0, 0, []), (1549, 16, 0, 0, 0, []), (1550, 65, 0, 0, 0, []), (1551, 200, 94, 209, 1, []), (1554, 9, 2, 0, 0, []), (1555, 9, 0, 0, 0, []), (1556, 4, 4, 0, 0, []), (1558, 0, 1, 0, 0, []), (1559, 16, 0, 0, 0, []), (1560, 65, 0, 0, 0, []), (1561, 200, 95, 212, 1, []), (1564, 35, 188, 0, 0, []), (1569, 9, 1, 0, 0, []), (1570, 200, 96, 213, 0, []), (1573, 9, 2, 0, 0, []), (1574, 200, 97, 216, 0, []), (1577, 35, 175, 0, 0, []), (1582, 9, 1, 0, 0, []), (1583, 9, 0, 0, 0, []), (1584, 4, 4, 0, 0, []), (1586, 0, 1, 0, 0, []), (1587, 16, 0, 0, 0, []), (1588, 65, 0, 0, 0, []), (1589, 200, 98, 217, 1, []), (1592, 9, 2, 0, 0, []), (1593, 9, 0, 0, 0, []), (1594, 4, 4, 0, 0, []), (1596, 0, 1, 0, 0, []), (1597, 16, 0, 0, 0, []), (1598, 65, 0, 0, 0, []), (1599, 200, 99, 220, 1, []), (1602, 35, 150, 0, 0, []), (1607, 9, 1, 0, 0, []), (1608, 200, 100, 221, 0, []), (1611, 9, 2, 0, 0, []), (1612, 200, 101, 225, 0, []), (1615, 35, 137, 0, 0, []), (1620, 9, 1, 0, 0, []), (1621, 200, 102, 226, 0, []), (1624, 9, 2, 0, 0, []), (1625, 200, 103, 229, 0, []), (1628, 35, 124, 0, 0, []), (1633, 9, 1, 0, 0, []), (1634, 9, 0, 0, 0, []), (1635, 4, 4, 0, 0, []), (1637, 0, 1, 0, 0, []), (1638, 16, 0, 0, 0, []), (1639, 65, 0, 0, 0, []), (1640, 200, 104, 230, 1, []), (1643, 9, 2, 0, 0, []), (1644, 9, 0, 0, 0, []), (1645, 4, 4, 0, 0, []), (1647, 0, 1, 0, 0, []), (1648, 16, 0, 0, 0, []), (1649, 65, 0, 0, 0, []), (1650, 200, 105, 234, 1, []), (1653, 35, 99, 0, 0, []), (1658, 9, 1, 0, 0, []), (1659, 9, 0, 0, 0, []), (1660, 4, 4, 0, 0, []), (1662, 0, 1, 0, 0, []), (1663, 16, 0, 0, 0, []), (1664, 65, 0, 0, 0, []), (1665, 9, 3, 0, 0, []), (1669, 10, 5, 0, 0, []), (1671, 9, 2, 0, 0, []), (1672, 9, 0, 0, 0, []), (1673, 4, 4, 0, 0, []), (1675, 0, 1, 0, 0, []), (1676, 16, 0, 0, 0, []), (1677, 65, 0, 0, 0, []), (1678, 200, 106, 240, 1, []), (1681, 10, 6, 0, 0, []), (1683, 9, 2, 0, 0, []), (1684, 200, 107, 241, 0, []), (1687, 4, 5, 0, 0, []), (1689, 35, 5, 0, 0, []), (1694, 4, 5, 0, 0, []), (1696, 42, 15, 0, 0, []), (1711, 47, 41, 0, 0, []), (1714, 9, 1, 0, 0, []), (1715, 9, 0, 0, 0, []), (1716, 4, 4, 0, 0, []), (1718, 0, 1, 0, 0, []), (1719, 16, 0, 0, 0, []), (1720, 65, 0, 0, 0, []), (1721, 200, 108, 244, 1, []), (1724, 9, 2, 0, 0, []), (1725, 9, 0, 0, 0, []), (1726, 4, 4, 0, 0, []), (1728, 0, 1, 0, 0, []), (1729, 16, 0, 0, 0, []), (1730, 65, 0, 0, 0, []), (1731, 200, 109, 247, 1, []), (1734, 35, 18, 0, 0, []), (1739, 9, 1, 0, 0, []), (1740, 200, 110, 248, 0, []), (1743, 9, 2, 0, 0, []), (1744, 200, 111, 251, 0, []), (1747, 35, 5, 0, 0, []), (1752, 34, 4, 6, 0, []), (1755, 47, (-1732), 0, 0, []), (1758, 0, 1, 0, 0, []), (1759, 210, 0, 0, 0, [])]
abbrev law_P (Ls : Nat) : ev_P := (600002, 7302232, false, "BarberMinutesLaw", 7, Ls)
end
section
/-! their checks -/
def ev_chk (ms : List ev_MI) (P : ev_P) (cc : ByteArray) (q : Nat × ev_Row) (ps : List Nat) : Bool := match ev_rowI ms P q.2 with
  | some (i, n, cs) => decide (decode cc q.1 = .ok (i, n)) && (decide (cs.map some = ps.map (fun j => lw_tbl[j]?)) && cs.all goodWord)
  | none => false
def ev_chkN (ms : List ev_MI) (P : ev_P) (q : Nat × ev_Row) (n : Nat) : Bool := if q.2.1 = 203 then (match ms[q.2.2.1.toNat]? with
  | some mi => decide (lw_tbl[n]? = some (Cond.methodLinkNest P.2.2.2.1 q.2.2.2.1.toNat mi.1 "BarberMinutes"))
  | none => true) else true
def ev_chkAll (ms : List ev_MI) (P : ev_P) (cc : ByteArray) : List (Nat × ev_Row) → List (List Nat × Nat) → Bool
  | [], [] => true
  | q :: rows, p :: ps => ev_chk ms P cc q p.1 && (ev_chkN ms P q p.2 && ev_chkAll ms P cc rows ps)
  | _, _ => false
theorem ev_chkAll_ok {ms : List ev_MI} {P : ev_P} {cc : ByteArray} : ∀ {rows : List (Nat × ev_Row)} {ps : List (List Nat × Nat)}, ev_chkAll ms P cc rows ps = true → ∀ q ∈ rows, ev_RowOK ms P cc q
  | [], [], _ => fun q hq => nomatch hq
  | [], _ :: _, h => by cases h
  | _ :: _, [], h => by cases h
  | q :: rows, p :: ps, h => by
    unfold ev_chkAll at h
    simp only [Bool.and_eq_true] at h
    obtain ⟨h1, h2, h3⟩ := h
    intro q' hq'
    rcases List.mem_cons.mp hq' with rfl | hq'
    · refine ⟨?_, fun h203 mi hmi => ?_⟩
      · unfold ev_chk at h1
        split at h1
        · rename_i i n cs hi
          simp only [Bool.and_eq_true, decide_eq_true_eq] at h1
          obtain ⟨a1, a2, a3⟩ := h1
          refine ⟨i, n, cs, hi, a1, fun w hw => ?_⟩
          have hg := List.all_eq_true.mp a3 w hw
          have hm : some w ∈ p.1.map (fun j => lw_tbl[j]?) := by rw [← a2]; exact List.mem_map.mpr ⟨w, hw, rfl⟩
          obtain ⟨j, -, hj⟩ := List.mem_map.mp hm
          exact lw_good_at j hj hg
        · cases h1
      · unfold ev_chkN at h2
        rw [if_pos h203, hmi] at h2
        have h2 := of_decide_eq_true h2
        exact List.mem_filter.mpr ⟨List.mem_of_getElem? h2, rfl⟩
    · exact ev_chkAll_ok h3 q' hq'
def ev_chkM (ms : List ev_MI) (mi : ev_MI) (j : Nat) (ps : List (List Nat × Nat)) : Bool :=
  plainName mi.1.cls && (decide (lw_tbl[j]? = some (Cond.code mi.1 mi.2.1 mi.2.2.1 mi.2.2.2.1)) && (decide (mi.2.2.1 ≤ 21) && (decide (mi.1.cls ≠ "java/lang/invoke/MethodHandle" ∧ mi.1.cls ≠ "java/lang/invoke/VarHandle") && ev_chkAll ms (mi.2.2.2.2.1, mi.2.2.2.2.2.1, decide (mi.1.name = "<init>"), mi.1.cls, mi.2.2.1, 0) mi.2.1 mi.2.2.2.2.2.2 ps)))
theorem ev_chkM_ok {ms : List ev_MI} {mi : ev_MI} {j : Nat} {ps : List (List Nat × Nat)} (h : ev_chkM ms mi j ps = true) : ev_MOK ms mi := by
  unfold ev_chkM at h
  simp only [Bool.and_eq_true, decide_eq_true_eq] at h
  obtain ⟨h1, h2, h3, h4, h5⟩ := h
  refine ⟨h1, lw_good_at j h2 ?_, h3, h4, ev_chkAll_ok h5⟩
  rfl
end
section
/-! checks of methods -/
set_option maxRecDepth 1000000 in
theorem mk_0 : ev_MOK ev_ms mr_0 := ev_chkM_ok (j := 141) (ps := [([], 0), ([142, 143, 144], 0), ([], 0), ([], 0), ([194], 0), ([442], 0), ([], 0), ([145, 146, 117], 0), ([], 0), ([148, 117], 147), ([444], 0), ([], 0), ([197, 198, 118], 0), ([], 0), ([200, 118], 199), ([445], 0), ([], 0), ([197, 198, 118], 0), ([], 0), ([200, 118], 199), ([446], 0), ([], 0), ([306, 307, 119], 0), ([], 0), ([309, 119], 308), ([447], 0), ([], 0), ([306, 307, 119], 0), ([], 0), ([309, 119], 308), ([448], 0), ([], 0), ([331, 332, 120], 0), ([], 0), ([333, 334, 120], 0), ([449], 0), ([], 0), ([358, 359, 121], 0), ([], 0), ([360, 361, 121], 0), ([450], 0), ([], 0), ([385, 386, 122], 0), ([], 0), ([388, 122], 387), ([451], 0), ([], 0), ([403, 404, 123], 0), ([], 0), ([406, 123], 405), ([452], 0), ([], 0), ([423, 424, 124], 0), ([], 0), ([426, 124], 425), ([453], 0), ([], 0)]) (by decide +kernel)
set_option maxRecDepth 1000000 in
theorem mk_1 : ev_MOK ev_ms mr_1 := ev_chkM_ok (j := 1301) (ps := [([], 0), ([1302, 143, 144], 0), ([], 0), ([], 0), ([196], 0), ([1304], 0), ([], 0), ([], 0), ([1313], 0), ([], 0), ([], 0), ([196], 0), ([1315], 0), ([], 0), ([], 0), ([196], 0), ([1318], 0), ([], 0), ([], 0), ([196], 0), ([1319], 0), ([], 0), ([], 0), ([196], 0), ([1320], 0), ([], 0), ([], 0), ([196], 0), ([1321], 0), ([], 0), ([], 0), ([196], 0), ([1322], 0), ([], 0), ([], 0), ([196], 0), ([1325], 0), ([], 0), ([], 0), ([196], 0), ([1326], 0), ([], 0), ([], 0), ([196], 0), ([1327], 0), ([], 0), ([], 0), ([196], 0), ([1329], 0), ([], 0)]) (by decide +kernel)
set_option maxRecDepth 1000000 in
theorem mk_2 : ev_MOK ev_ms mr_2 := ev_chkM_ok (j := 491) (ps := [([], 0), ([443], 0), ([], 0), ([], 0), ([], 0), ([], 0), ([], 0), ([], 0), ([492, 494, 0, 116], 0), ([], 0), ([], 0), ([492, 494, 0, 116], 0), ([], 0), ([], 0), ([492, 494, 0, 116], 0), ([], 0), ([], 0), ([492, 494, 0, 116], 0), ([], 0), ([], 0), ([492, 494, 0, 116], 0), ([], 0), ([443], 0), ([], 0)]) (by decide +kernel)
set_option maxRecDepth 1000000 in
theorem mk_3 : ev_MOK ev_ms mr_3 := ev_chkM_ok (j := 1416) (ps := [([], 0), ([], 0), ([1303], 0), ([], 0), ([1305], 0), ([], 0), ([], 0), ([], 0), ([], 0), ([], 0), ([], 0), ([], 0), ([], 0), ([], 0), ([], 0), ([], 0), ([], 0), ([], 0), ([], 0), ([], 0), ([], 0), ([], 0), ([], 0), ([], 0), ([], 0), ([], 0), ([], 0), ([], 0), ([], 0), ([], 0), ([], 0), ([], 0), ([], 0), ([], 0), ([], 0), ([], 0), ([], 0), ([1304], 0), ([], 0), ([1305], 0), ([], 0), ([], 0), ([], 0), ([], 0), ([], 0), ([], 0), ([], 0), ([], 0), ([], 0), ([], 0), ([], 0), ([], 0), ([], 0), ([], 0), ([1305], 0), ([], 0), ([], 0), ([1305], 0), ([], 0), ([], 0), ([], 0), ([1305], 0), ([], 0)]) (by decide +kernel)
set_option maxRecDepth 1000000 in
theorem mk_4 : ev_MOK ev_ms mr_4 := ev_chkM_ok (j := 499) (ps := [([], 0), ([], 0), ([], 0), ([], 0), ([443], 0), ([], 0), ([], 0), ([], 0), ([500, 502, 1, 116], 0), ([], 0), ([], 0), ([], 0), ([443], 0), ([], 0), ([], 0), ([444], 0), ([], 0), ([442], 0), ([], 0), ([], 0), ([446], 0), ([504, 505, 506, 117], 0), ([454], 0), ([], 0), ([454], 0), ([], 0), ([], 0), ([], 0), ([444], 0), ([714, 715, 716, 117], 0), ([455], 0), ([], 0), ([], 0), ([500, 502, 1, 116], 0), ([], 0)]) (by decide +kernel)
set_option maxRecDepth 1000000 in
theorem mk_5 : ev_MOK ev_ms mr_5 := ev_chkM_ok (j := 1420) (ps := [([], 0), ([1421, 1423, 47, 125], 0), ([], 0), ([], 0), ([], 0), ([1305], 0), ([1425, 1426, 125], 0), ([], 0), ([], 0), ([], 0), ([1428, 1430, 48, 125], 0), ([], 0), ([], 0), ([], 0), ([1305], 0), ([], 0), ([], 0), ([1312], 0), ([], 0), ([], 0), ([1316], 0), ([], 0), ([], 0), ([], 0), ([], 0), ([], 0), ([], 0), ([1319], 0), ([], 0), ([], 0), ([], 0), ([], 0), ([], 0), ([], 0), ([], 0), ([1306], 0), ([], 0), ([], 0), ([1308], 0), ([], 0), ([1432, 1434, 49, 125], 0), ([], 0), ([1446, 1448, 51, 125], 0), ([], 0), ([1316], 0), ([], 0), ([], 0), ([1316], 0), ([], 0), ([], 0), ([1316], 0), ([], 0), ([], 0), ([1316], 0), ([], 0), ([], 0), ([], 0), ([1428, 1430, 48, 125], 0), ([], 0)]) (by decide +kernel)
end
section
/-! checks of methods -/
set_option maxRecDepth 1000000 in
theorem mk_6 : ev_MOK ev_ms mr_6 := ev_chkM_ok (j := 736) (ps := [([], 0), ([454], 0), ([], 0)]) (by decide +kernel)
set_option maxRecDepth 1000000 in
theorem mk_7 : ev_MOK ev_ms mr_7 := ev_chkM_ok (j := 1577) (ps := [([], 0), ([], 0), ([1303], 0), ([], 0), ([1312], 0), ([], 0)]) (by decide +kernel)
set_option maxRecDepth 1000000 in
theorem mk_8 : ev_MOK ev_ms mr_8 := ev_chkM_ok (j := 740) (ps := [([], 0), ([456], 0), ([], 0), ([], 0), ([], 0), ([], 0)]) (by decide +kernel)
set_option maxRecDepth 1000000 in
theorem mk_9 : ev_MOK ev_ms mr_9 := ev_chkM_ok (j := 1581) (ps := [([], 0), ([], 0), ([1303], 0), ([], 0), ([1314], 0), ([], 0), ([], 0), ([], 0), ([], 0)]) (by decide +kernel)
set_option maxRecDepth 1000000 in
theorem mk_10 : ev_MOK ev_ms mr_10 := ev_chkM_ok (j := 744) (ps := [([], 0), ([], 0), ([745, 747, 25, 116], 0), ([], 0), ([], 0), ([], 0), ([500, 502, 1, 116], 0), ([], 0)]) (by decide +kernel)
set_option maxRecDepth 1000000 in
theorem mk_11 : ev_MOK ev_ms mr_11 := ev_chkM_ok (j := 1585) (ps := [([], 0), ([1421, 1423, 47, 125], 0), ([], 0), ([], 0), ([1586, 1588, 76, 125], 0), ([], 0), ([], 0), ([], 0), ([1428, 1430, 48, 125], 0), ([], 0)]) (by decide +kernel)
set_option maxRecDepth 1000000 in
theorem mk_12 : ev_MOK ev_ms mr_12 := ev_chkM_ok (j := 764) (ps := [([], 0), ([], 0), ([765, 767, 27, 116], 0), ([], 0), ([], 0), ([], 0), ([500, 502, 1, 116], 0), ([], 0)]) (by decide +kernel)
set_option maxRecDepth 1000000 in
theorem mk_13 : ev_MOK ev_ms mr_13 := ev_chkM_ok (j := 1605) (ps := [([], 0), ([1421, 1423, 47, 125], 0), ([], 0), ([], 0), ([1606, 1608, 80, 125], 0), ([], 0), ([], 0), ([], 0), ([1428, 1430, 48, 125], 0), ([], 0)]) (by decide +kernel)
set_option maxRecDepth 1000000 in
theorem mk_14 : ev_MOK ev_ms mr_14 := ev_chkM_ok (j := 794) (ps := [([], 0), ([795, 797, 28, 116], 0), ([], 0), ([], 0), ([], 0), ([500, 502, 1, 116], 0), ([], 0)]) (by decide +kernel)
set_option maxRecDepth 1000000 in
theorem mk_15 : ev_MOK ev_ms mr_15 := ev_chkM_ok (j := 1629) (ps := [([], 0), ([1421, 1423, 47, 125], 0), ([], 0), ([1317], 0), ([], 0), ([], 0), ([], 0), ([1428, 1430, 48, 125], 0), ([], 0)]) (by decide +kernel)
set_option maxRecDepth 1000000 in
theorem mk_16 : ev_MOK ev_ms mr_16 := ev_chkM_ok (j := 802) (ps := [([], 0), ([795, 797, 28, 116], 0), ([], 0), ([], 0), ([], 0), ([500, 502, 1, 116], 0), ([], 0), ([], 0)]) (by decide +kernel)
set_option maxRecDepth 1000000 in
theorem mk_17 : ev_MOK ev_ms mr_17 := ev_chkM_ok (j := 1633) (ps := [([], 0), ([1421, 1423, 47, 125], 0), ([], 0), ([1317], 0), ([], 0), ([], 0), ([], 0), ([1428, 1430, 48, 125], 0), ([], 0)]) (by decide +kernel)
set_option maxRecDepth 1000000 in
theorem mk_18 : ev_MOK ev_ms mr_18 := ev_chkM_ok (j := 811) (ps := [([], 0), ([795, 797, 28, 116], 0), ([], 0), ([], 0), ([], 0), ([500, 502, 1, 116], 0), ([], 0)]) (by decide +kernel)
set_option maxRecDepth 1000000 in
theorem mk_19 : ev_MOK ev_ms mr_19 := ev_chkM_ok (j := 1641) (ps := [([], 0), ([1421, 1423, 47, 125], 0), ([], 0), ([1317], 0), ([], 0), ([], 0), ([], 0), ([1428, 1430, 48, 125], 0), ([], 0)]) (by decide +kernel)
set_option maxRecDepth 1000000 in
theorem mk_20 : ev_MOK ev_ms mr_20 := ev_chkM_ok (j := 815) (ps := [([], 0), ([795, 797, 28, 116], 0), ([], 0), ([], 0), ([], 0), ([500, 502, 1, 116], 0), ([], 0)]) (by decide +kernel)
set_option maxRecDepth 1000000 in
theorem mk_21 : ev_MOK ev_ms mr_21 := ev_chkM_ok (j := 1645) (ps := [([], 0), ([1421, 1423, 47, 125], 0), ([], 0), ([1317], 0), ([], 0), ([], 0), ([], 0), ([1428, 1430, 48, 125], 0), ([], 0)]) (by decide +kernel)
set_option maxRecDepth 1000000 in
theorem mk_22 : ev_MOK ev_ms mr_22 := ev_chkM_ok (j := 824) (ps := [([], 0), ([795, 797, 28, 116], 0), ([], 0), ([], 0), ([], 0), ([500, 502, 1, 116], 0), ([], 0), ([], 0)]) (by decide +kernel)
set_option maxRecDepth 1000000 in
theorem mk_23 : ev_MOK ev_ms mr_23 := ev_chkM_ok (j := 1653) (ps := [([], 0), ([1421, 1423, 47, 125], 0), ([], 0), ([1317], 0), ([], 0), ([], 0), ([], 0), ([1428, 1430, 48, 125], 0), ([], 0)]) (by decide +kernel)
set_option maxRecDepth 1000000 in
theorem mk_24 : ev_MOK ev_ms mr_24 := ev_chkM_ok (j := 834) (ps := [([], 0), ([], 0), ([765, 767, 27, 116], 0), ([], 0), ([], 0), ([], 0), ([500, 502, 1, 116], 0), ([], 0), ([], 0)]) (by decide +kernel)
set_option maxRecDepth 1000000 in
theorem mk_25 : ev_MOK ev_ms mr_25 := ev_chkM_ok (j := 1665) (ps := [([], 0), ([1421, 1423, 47, 125], 0), ([], 0), ([], 0), ([1606, 1608, 80, 125], 0), ([], 0), ([], 0), ([], 0), ([1428, 1430, 48, 125], 0), ([], 0)]) (by decide +kernel)
set_option maxRecDepth 1000000 in
theorem mk_26 : ev_MOK ev_ms mr_26 := ev_chkM_ok (j := 842) (ps := [([], 0), ([], 0), ([765, 767, 27, 116], 0), ([], 0), ([], 0), ([], 0), ([500, 502, 1, 116], 0), ([], 0), ([], 0)]) (by decide +kernel)
set_option maxRecDepth 1000000 in
theorem mk_27 : ev_MOK ev_ms mr_27 := ev_chkM_ok (j := 1669) (ps := [([], 0), ([1421, 1423, 47, 125], 0), ([], 0), ([], 0), ([1606, 1608, 80, 125], 0), ([], 0), ([], 0), ([], 0), ([1428, 1430, 48, 125], 0), ([], 0)]) (by decide +kernel)
set_option maxRecDepth 1000000 in
theorem mk_28 : ev_MOK ev_ms mr_28 := ev_chkM_ok (j := 850) (ps := [([], 0), ([], 0), ([745, 747, 25, 116], 0), ([], 0), ([], 0), ([], 0), ([500, 502, 1, 116], 0), ([], 0)]) (by decide +kernel)
set_option maxRecDepth 1000000 in
theorem mk_29 : ev_MOK ev_ms mr_29 := ev_chkM_ok (j := 1677) (ps := [([], 0), ([1421, 1423, 47, 125], 0), ([], 0), ([], 0), ([], 0), ([1586, 1588, 76, 125], 0), ([], 0), ([], 0), ([], 0), ([1425, 1426, 125], 0), ([1678, 1680, 90, 125], 0), ([], 0), ([], 0), ([], 0), ([], 0), ([], 0), ([1428, 1430, 48, 125], 0), ([], 0)]) (by decide +kernel)
set_option maxRecDepth 1000000 in
theorem mk_30 : ev_MOK ev_ms mr_30 := ev_chkM_ok (j := 867) (ps := [([], 0), ([], 0), ([765, 767, 27, 116], 0), ([], 0), ([], 0), ([], 0), ([500, 502, 1, 116], 0), ([], 0)]) (by decide +kernel)
set_option maxRecDepth 1000000 in
theorem mk_31 : ev_MOK ev_ms mr_31 := ev_chkM_ok (j := 1693) (ps := [([], 0), ([1421, 1423, 47, 125], 0), ([], 0), ([], 0), ([], 0), ([1606, 1608, 80, 125], 0), ([], 0), ([], 0), ([], 0), ([1425, 1426, 125], 0), ([1678, 1680, 90, 125], 0), ([], 0), ([], 0), ([], 0), ([], 0), ([], 0), ([1428, 1430, 48, 125], 0), ([], 0)]) (by decide +kernel)
set_option maxRecDepth 1000000 in
theorem mk_32 : ev_MOK ev_ms mr_32 := ev_chkM_ok (j := 871) (ps := [([], 0), ([], 0), ([765, 767, 27, 116], 0), ([], 0), ([], 0), ([], 0), ([500, 502, 1, 116], 0), ([], 0), ([], 0)]) (by decide +kernel)
set_option maxRecDepth 1000000 in
theorem mk_33 : ev_MOK ev_ms mr_33 := ev_chkM_ok (j := 1697) (ps := [([], 0), ([1421, 1423, 47, 125], 0), ([], 0), ([], 0), ([1606, 1608, 80, 125], 0), ([], 0), ([], 0), ([], 0), ([1428, 1430, 48, 125], 0), ([], 0)]) (by decide +kernel)
set_option maxRecDepth 1000000 in
theorem mk_34 : ev_MOK ev_ms mr_34 := ev_chkM_ok (j := 879) (ps := [([], 0), ([795, 797, 28, 116], 0), ([], 0), ([], 0), ([], 0), ([500, 502, 1, 116], 0), ([], 0)]) (by decide +kernel)
set_option maxRecDepth 1000000 in
theorem mk_35 : ev_MOK ev_ms mr_35 := ev_chkM_ok (j := 1705) (ps := [([], 0), ([1421, 1423, 47, 125], 0), ([], 0), ([1317], 0), ([], 0), ([], 0), ([], 0), ([1428, 1430, 48, 125], 0), ([], 0)]) (by decide +kernel)
end
section
/-! checks of methods -/
set_option maxRecDepth 1000000 in
theorem mk_36 : ev_MOK ev_ms mr_36 := ev_chkM_ok (j := 883) (ps := [([], 0), ([795, 797, 28, 116], 0), ([], 0), ([], 0), ([], 0), ([500, 502, 1, 116], 0), ([], 0)]) (by decide +kernel)
set_option maxRecDepth 1000000 in
theorem mk_37 : ev_MOK ev_ms mr_37 := ev_chkM_ok (j := 1709) (ps := [([], 0), ([1421, 1423, 47, 125], 0), ([], 0), ([1317], 0), ([], 0), ([], 0), ([], 0), ([1428, 1430, 48, 125], 0), ([], 0)]) (by decide +kernel)
set_option maxRecDepth 1000000 in
theorem mk_38 : ev_MOK ev_ms mr_38 := ev_chkM_ok (j := 887) (ps := [([], 0), ([], 0), ([888, 890, 31, 116], 0), ([], 0), ([], 0), ([], 0)]) (by decide +kernel)
set_option maxRecDepth 1000000 in
theorem mk_39 : ev_MOK ev_ms mr_39 := ev_chkM_ok (j := 1713) (ps := [([], 0), ([1421, 1423, 47, 125], 0), ([], 0), ([], 0), ([1317], 0), ([], 0), ([1317], 0), ([], 0), ([], 0), ([1678, 1680, 90, 125], 0), ([], 0), ([], 0), ([], 0), ([], 0), ([], 0), ([1428, 1430, 48, 125], 0), ([], 0)]) (by decide +kernel)
set_option maxRecDepth 1000000 in
theorem mk_40 : ev_MOK ev_ms mr_40 := ev_chkM_ok (j := 923) (ps := [([], 0), ([], 0), ([888, 890, 31, 116], 0), ([], 0), ([], 0), ([], 0)]) (by decide +kernel)
set_option maxRecDepth 1000000 in
theorem mk_41 : ev_MOK ev_ms mr_41 := ev_chkM_ok (j := 1733) (ps := [([], 0), ([1421, 1423, 47, 125], 0), ([], 0), ([], 0), ([1317], 0), ([], 0), ([], 0), ([], 0), ([1425, 1426, 125], 0), ([1678, 1680, 90, 125], 0), ([], 0), ([], 0), ([], 0), ([], 0), ([], 0), ([1428, 1430, 48, 125], 0), ([], 0), ([], 0)]) (by decide +kernel)
set_option maxRecDepth 1000000 in
theorem mk_42 : ev_MOK ev_ms mr_42 := ev_chkM_ok (j := 936) (ps := [([], 0), ([], 0), ([888, 890, 31, 116], 0), ([], 0), ([], 0), ([], 0)]) (by decide +kernel)
set_option maxRecDepth 1000000 in
theorem mk_43 : ev_MOK ev_ms mr_43 := ev_chkM_ok (j := 1744) (ps := [([], 0), ([1421, 1423, 47, 125], 0), ([], 0), ([], 0), ([1317], 0), ([], 0), ([], 0), ([], 0), ([1425, 1426, 125], 0), ([1678, 1680, 90, 125], 0), ([], 0), ([], 0), ([], 0), ([], 0), ([], 0), ([1428, 1430, 48, 125], 0), ([], 0), ([], 0)]) (by decide +kernel)
set_option maxRecDepth 1000000 in
theorem mk_44 : ev_MOK ev_ms mr_44 := ev_chkM_ok (j := 940) (ps := [([], 0), ([], 0), ([888, 890, 31, 116], 0), ([], 0), ([], 0), ([], 0)]) (by decide +kernel)
set_option maxRecDepth 1000000 in
theorem mk_45 : ev_MOK ev_ms mr_45 := ev_chkM_ok (j := 1748) (ps := [([], 0), ([1421, 1423, 47, 125], 0), ([], 0), ([], 0), ([1317], 0), ([], 0), ([], 0), ([], 0), ([1425, 1426, 125], 0), ([1678, 1680, 90, 125], 0), ([], 0), ([], 0), ([], 0), ([], 0), ([], 0), ([1428, 1430, 48, 125], 0), ([], 0)]) (by decide +kernel)
set_option maxRecDepth 1000000 in
theorem mk_46 : ev_MOK ev_ms mr_46 := ev_chkM_ok (j := 944) (ps := [([], 0), ([], 0), ([765, 767, 27, 116], 0), ([], 0), ([], 0), ([], 0), ([500, 502, 1, 116], 0), ([], 0), ([], 0)]) (by decide +kernel)
set_option maxRecDepth 1000000 in
theorem mk_47 : ev_MOK ev_ms mr_47 := ev_chkM_ok (j := 1752) (ps := [([], 0), ([1421, 1423, 47, 125], 0), ([], 0), ([], 0), ([1606, 1608, 80, 125], 0), ([], 0), ([], 0), ([], 0), ([1428, 1430, 48, 125], 0), ([], 0)]) (by decide +kernel)
set_option maxRecDepth 1000000 in
theorem mk_48 : ev_MOK ev_ms mr_48 := ev_chkM_ok (j := 957) (ps := [([], 0), ([], 0), ([745, 747, 25, 116], 0), ([], 0), ([], 0), ([], 0), ([500, 502, 1, 116], 0), ([], 0)]) (by decide +kernel)
set_option maxRecDepth 1000000 in
theorem mk_49 : ev_MOK ev_ms mr_49 := ev_chkM_ok (j := 1756) (ps := [([], 0), ([1421, 1423, 47, 125], 0), ([], 0), ([], 0), ([], 0), ([1586, 1588, 76, 125], 0), ([], 0), ([], 0), ([], 0), ([1425, 1426, 125], 0), ([1678, 1680, 90, 125], 0), ([], 0), ([], 0), ([], 0), ([], 0), ([], 0), ([1428, 1430, 48, 125], 0), ([], 0), ([], 0)]) (by decide +kernel)
set_option maxRecDepth 1000000 in
theorem mk_50 : ev_MOK ev_ms mr_50 := ev_chkM_ok (j := 970) (ps := [([], 0), ([], 0), ([], 0), ([958, 960, 36, 116], 0), ([892, 894, 32, 116], 0), ([], 0), ([], 0), ([], 0)]) (by decide +kernel)
set_option maxRecDepth 1000000 in
theorem mk_51 : ev_MOK ev_ms mr_51 := ev_chkM_ok (j := 1764) (ps := [([], 0), ([1421, 1423, 47, 125], 0), ([], 0), ([], 0), ([1317], 0), ([], 0), ([], 0), ([], 0), ([1425, 1426, 125], 0), ([1678, 1680, 90, 125], 0), ([], 0), ([], 0), ([], 0), ([], 0), ([], 0), ([1428, 1430, 48, 125], 0), ([], 0)]) (by decide +kernel)
set_option maxRecDepth 1000000 in
theorem mk_52 : ev_MOK ev_ms mr_52 := ev_chkM_ok (j := 974) (ps := [([], 0), ([], 0), ([], 0), ([958, 960, 36, 116], 0), ([892, 894, 32, 116], 0), ([], 0), ([], 0), ([], 0)]) (by decide +kernel)
set_option maxRecDepth 1000000 in
theorem mk_53 : ev_MOK ev_ms mr_53 := ev_chkM_ok (j := 1768) (ps := [([], 0), ([1421, 1423, 47, 125], 0), ([], 0), ([], 0), ([1317], 0), ([], 0), ([], 0), ([], 0), ([1425, 1426, 125], 0), ([1678, 1680, 90, 125], 0), ([], 0), ([], 0), ([], 0), ([], 0), ([], 0), ([1428, 1430, 48, 125], 0), ([], 0)]) (by decide +kernel)
set_option maxRecDepth 1000000 in
theorem mk_54 : ev_MOK ev_ms mr_54 := ev_chkM_ok (j := 978) (ps := [([], 0), ([], 0), ([], 0), ([958, 960, 36, 116], 0), ([892, 894, 32, 116], 0), ([], 0), ([], 0), ([], 0)]) (by decide +kernel)
set_option maxRecDepth 1000000 in
theorem mk_55 : ev_MOK ev_ms mr_55 := ev_chkM_ok (j := 1772) (ps := [([], 0), ([1421, 1423, 47, 125], 0), ([], 0), ([], 0), ([1317], 0), ([], 0), ([], 0), ([], 0), ([1425, 1426, 125], 0), ([1678, 1680, 90, 125], 0), ([], 0), ([], 0), ([], 0), ([], 0), ([], 0), ([1428, 1430, 48, 125], 0), ([], 0)]) (by decide +kernel)
set_option maxRecDepth 1000000 in
theorem mk_56 : ev_MOK ev_ms mr_56 := ev_chkM_ok (j := 983) (ps := [([], 0), ([795, 797, 28, 116], 0), ([], 0), ([], 0), ([], 0), ([500, 502, 1, 116], 0), ([], 0), ([], 0)]) (by decide +kernel)
set_option maxRecDepth 1000000 in
theorem mk_57 : ev_MOK ev_ms mr_57 := ev_chkM_ok (j := 1779) (ps := [([], 0), ([1421, 1423, 47, 125], 0), ([], 0), ([1317], 0), ([], 0), ([], 0), ([], 0), ([1428, 1430, 48, 125], 0), ([], 0)]) (by decide +kernel)
set_option maxRecDepth 1000000 in
theorem mk_58 : ev_MOK ev_ms mr_58 := ev_chkM_ok (j := 995) (ps := [([], 0), ([795, 797, 28, 116], 0), ([], 0), ([], 0), ([], 0), ([500, 502, 1, 116], 0), ([], 0)]) (by decide +kernel)
set_option maxRecDepth 1000000 in
theorem mk_59 : ev_MOK ev_ms mr_59 := ev_chkM_ok (j := 1791) (ps := [([], 0), ([1421, 1423, 47, 125], 0), ([], 0), ([1317], 0), ([], 0), ([], 0), ([], 0), ([1428, 1430, 48, 125], 0), ([], 0)]) (by decide +kernel)
end
section
/-! checks of methods -/
set_option maxRecDepth 1000000 in
theorem mk_60 : ev_MOK ev_ms mr_60 := ev_chkM_ok (j := 1001) (ps := [([], 0), ([795, 797, 28, 116], 0), ([], 0), ([], 0), ([], 0), ([500, 502, 1, 116], 0), ([], 0), ([], 0)]) (by decide +kernel)
set_option maxRecDepth 1000000 in
theorem mk_61 : ev_MOK ev_ms mr_61 := ev_chkM_ok (j := 1795) (ps := [([], 0), ([1421, 1423, 47, 125], 0), ([], 0), ([1317], 0), ([], 0), ([], 0), ([], 0), ([1428, 1430, 48, 125], 0), ([], 0)]) (by decide +kernel)
set_option maxRecDepth 1000000 in
theorem mk_62 : ev_MOK ev_ms mr_62 := ev_chkM_ok (j := 1013) (ps := [([], 0), ([], 0), ([1014, 1016, 38, 116], 0), ([], 0), ([], 0), ([], 0), ([500, 502, 1, 116], 0), ([], 0)]) (by decide +kernel)
set_option maxRecDepth 1000000 in
theorem mk_63 : ev_MOK ev_ms mr_63 := ev_chkM_ok (j := 1799) (ps := [([], 0), ([1421, 1423, 47, 125], 0), ([], 0), ([], 0), ([1800, 1802, 102, 125], 0), ([], 0), ([], 0), ([], 0), ([1428, 1430, 48, 125], 0), ([], 0)]) (by decide +kernel)
set_option maxRecDepth 1000000 in
theorem mk_64 : ev_MOK ev_ms mr_64 := ev_chkM_ok (j := 1029) (ps := [([], 0), ([795, 797, 28, 116], 0), ([], 0), ([], 0), ([], 0), ([500, 502, 1, 116], 0), ([], 0)]) (by decide +kernel)
set_option maxRecDepth 1000000 in
theorem mk_65 : ev_MOK ev_ms mr_65 := ev_chkM_ok (j := 1811) (ps := [([], 0), ([1421, 1423, 47, 125], 0), ([], 0), ([1317], 0), ([], 0), ([], 0), ([], 0), ([1428, 1430, 48, 125], 0), ([], 0)]) (by decide +kernel)
set_option maxRecDepth 1000000 in
theorem mk_66 : ev_MOK ev_ms mr_66 := ev_chkM_ok (j := 1047) (ps := [([], 0), ([], 0), ([1014, 1016, 38, 116], 0), ([], 0), ([], 0), ([], 0), ([500, 502, 1, 116], 0), ([], 0)]) (by decide +kernel)
set_option maxRecDepth 1000000 in
theorem mk_67 : ev_MOK ev_ms mr_67 := ev_chkM_ok (j := 1824) (ps := [([], 0), ([1421, 1423, 47, 125], 0), ([], 0), ([], 0), ([1800, 1802, 102, 125], 0), ([], 0), ([], 0), ([], 0), ([1428, 1430, 48, 125], 0), ([], 0)]) (by decide +kernel)
set_option maxRecDepth 1000000 in
theorem mk_68 : ev_MOK ev_ms mr_68 := ev_chkM_ok (j := 1051) (ps := [([], 0), ([1052, 1054, 41, 116], 0), ([], 0), ([], 0), ([], 0), ([], 0)]) (by decide +kernel)
set_option maxRecDepth 1000000 in
theorem mk_69 : ev_MOK ev_ms mr_69 := ev_chkM_ok (j := 1828) (ps := [([], 0), ([1421, 1423, 47, 125], 0), ([], 0), ([1317], 0), ([], 0), ([], 0), ([], 0), ([1428, 1430, 48, 125], 0), ([], 0)]) (by decide +kernel)
set_option maxRecDepth 1000000 in
theorem mk_70 : ev_MOK ev_ms mr_70 := ev_chkM_ok (j := 1069) (ps := [([], 0), ([1052, 1054, 41, 116], 0), ([], 0), ([], 0), ([], 0), ([500, 502, 1, 116], 0), ([], 0)]) (by decide +kernel)
set_option maxRecDepth 1000000 in
theorem mk_71 : ev_MOK ev_ms mr_71 := ev_chkM_ok (j := 1840) (ps := [([], 0), ([1421, 1423, 47, 125], 0), ([], 0), ([1317], 0), ([], 0), ([], 0), ([], 0), ([1428, 1430, 48, 125], 0), ([], 0)]) (by decide +kernel)
set_option maxRecDepth 1000000 in
theorem mk_72 : ev_MOK ev_ms mr_72 := ev_chkM_ok (j := 1073) (ps := [([], 0), ([1052, 1054, 41, 116], 0), ([], 0), ([], 0), ([], 0), ([], 0)]) (by decide +kernel)
set_option maxRecDepth 1000000 in
theorem mk_73 : ev_MOK ev_ms mr_73 := ev_chkM_ok (j := 1844) (ps := [([], 0), ([1421, 1423, 47, 125], 0), ([], 0), ([1317], 0), ([], 0), ([], 0), ([], 0), ([1428, 1430, 48, 125], 0), ([], 0)]) (by decide +kernel)
set_option maxRecDepth 1000000 in
theorem mk_74 : ev_MOK ev_ms mr_74 := ev_chkM_ok (j := 1081) (ps := [([], 0), ([1052, 1054, 41, 116], 0), ([], 0), ([], 0), ([], 0), ([], 0)]) (by decide +kernel)
set_option maxRecDepth 1000000 in
theorem mk_75 : ev_MOK ev_ms mr_75 := ev_chkM_ok (j := 1848) (ps := [([], 0), ([1421, 1423, 47, 125], 0), ([], 0), ([1317], 0), ([], 0), ([], 0), ([], 0), ([1428, 1430, 48, 125], 0), ([], 0)]) (by decide +kernel)
set_option maxRecDepth 1000000 in
theorem mk_76 : ev_MOK ev_ms mr_76 := ev_chkM_ok (j := 1089) (ps := [([], 0), ([1052, 1054, 41, 116], 0), ([], 0), ([], 0), ([], 0), ([], 0)]) (by decide +kernel)
set_option maxRecDepth 1000000 in
theorem mk_77 : ev_MOK ev_ms mr_77 := ev_chkM_ok (j := 1852) (ps := [([], 0), ([1421, 1423, 47, 125], 0), ([], 0), ([1317], 0), ([], 0), ([], 0), ([], 0), ([1428, 1430, 48, 125], 0), ([], 0)]) (by decide +kernel)
set_option maxRecDepth 1000000 in
theorem mk_78 : ev_MOK ev_ms mr_78 := ev_chkM_ok (j := 1104) (ps := [([], 0), ([1052, 1054, 41, 116], 0), ([], 0), ([], 0), ([], 0)]) (by decide +kernel)
set_option maxRecDepth 1000000 in
theorem mk_79 : ev_MOK ev_ms mr_79 := ev_chkM_ok (j := 1864) (ps := [([], 0), ([1421, 1423, 47, 125], 0), ([], 0), ([1317], 0), ([], 0), ([], 0), ([], 0), ([1428, 1430, 48, 125], 0), ([], 0)]) (by decide +kernel)
set_option maxRecDepth 1000000 in
theorem mk_80 : ev_MOK ev_ms mr_80 := ev_chkM_ok (j := 1109) (ps := [([], 0), ([], 0), ([1110, 1112, 43, 116], 0), ([], 0), ([], 0), ([], 0)]) (by decide +kernel)
set_option maxRecDepth 1000000 in
theorem mk_81 : ev_MOK ev_ms mr_81 := ev_chkM_ok (j := 1868) (ps := [([], 0), ([1421, 1423, 47, 125], 0), ([], 0), ([], 0), ([1317], 0), ([], 0), ([], 0), ([], 0), ([1425, 1426, 125], 0), ([1678, 1680, 90, 125], 0), ([], 0), ([], 0), ([], 0), ([], 0), ([], 0), ([1314], 0), ([], 0), ([], 0)]) (by decide +kernel)
set_option maxRecDepth 1000000 in
theorem mk_82 : ev_MOK ev_ms mr_82 := ev_chkM_ok (j := 1120) (ps := [([], 0), ([], 0), ([1110, 1112, 43, 116], 0), ([], 0), ([], 0), ([], 0)]) (by decide +kernel)
set_option maxRecDepth 1000000 in
theorem mk_83 : ev_MOK ev_ms mr_83 := ev_chkM_ok (j := 1875) (ps := [([], 0), ([1421, 1423, 47, 125], 0), ([], 0), ([], 0), ([1317], 0), ([], 0), ([], 0), ([], 0), ([1425, 1426, 125], 0), ([1678, 1680, 90, 125], 0), ([], 0), ([], 0), ([], 0), ([], 0), ([], 0), ([1428, 1430, 48, 125], 0), ([], 0), ([], 0)]) (by decide +kernel)
set_option maxRecDepth 1000000 in
theorem mk_84 : ev_MOK ev_ms mr_84 := ev_chkM_ok (j := 1127) (ps := [([], 0), ([], 0), ([1110, 1112, 43, 116], 0), ([], 0), ([], 0), ([], 0)]) (by decide +kernel)
set_option maxRecDepth 1000000 in
theorem mk_85 : ev_MOK ev_ms mr_85 := ev_chkM_ok (j := 1886) (ps := [([], 0), ([1421, 1423, 47, 125], 0), ([], 0), ([], 0), ([1317], 0), ([], 0), ([], 0), ([], 0), ([1425, 1426, 125], 0), ([1678, 1680, 90, 125], 0), ([], 0), ([], 0), ([], 0), ([], 0), ([], 0), ([1428, 1430, 48, 125], 0), ([], 0)]) (by decide +kernel)
set_option maxRecDepth 1000000 in
theorem mk_86 : ev_MOK ev_ms mr_86 := ev_chkM_ok (j := 1131) (ps := [([], 0), ([], 0), ([765, 767, 27, 116], 0), ([], 0), ([], 0), ([], 0), ([500, 502, 1, 116], 0), ([], 0), ([], 0)]) (by decide +kernel)
set_option maxRecDepth 1000000 in
theorem mk_87 : ev_MOK ev_ms mr_87 := ev_chkM_ok (j := 1890) (ps := [([], 0), ([1421, 1423, 47, 125], 0), ([], 0), ([], 0), ([1606, 1608, 80, 125], 0), ([], 0), ([], 0), ([], 0), ([1428, 1430, 48, 125], 0), ([], 0), ([], 0)]) (by decide +kernel)
set_option maxRecDepth 1000000 in
theorem mk_88 : ev_MOK ev_ms mr_88 := ev_chkM_ok (j := 1149) (ps := [([], 0), ([], 0), ([765, 767, 27, 116], 0), ([], 0), ([], 0), ([], 0), ([500, 502, 1, 116], 0), ([], 0), ([], 0)]) (by decide +kernel)
set_option maxRecDepth 1000000 in
theorem mk_89 : ev_MOK ev_ms mr_89 := ev_chkM_ok (j := 1901) (ps := [([], 0), ([1421, 1423, 47, 125], 0), ([], 0), ([], 0), ([1606, 1608, 80, 125], 0), ([], 0), ([], 0), ([], 0), ([1428, 1430, 48, 125], 0), ([], 0), ([], 0)]) (by decide +kernel)
end
section
/-! checks of methods -/
set_option maxRecDepth 1000000 in
theorem mk_90 : ev_MOK ev_ms mr_90 := ev_chkM_ok (j := 1159) (ps := [([], 0), ([], 0), ([745, 747, 25, 116], 0), ([], 0), ([], 0), ([], 0), ([500, 502, 1, 116], 0), ([], 0)]) (by decide +kernel)
set_option maxRecDepth 1000000 in
theorem mk_91 : ev_MOK ev_ms mr_91 := ev_chkM_ok (j := 1905) (ps := [([], 0), ([1421, 1423, 47, 125], 0), ([], 0), ([], 0), ([], 0), ([1586, 1588, 76, 125], 0), ([], 0), ([], 0), ([], 0), ([1906, 1908, 112, 125], 0), ([], 0), ([], 0), ([], 0), ([], 0), ([], 0), ([1428, 1430, 48, 125], 0), ([], 0), ([], 0)]) (by decide +kernel)
set_option maxRecDepth 1000000 in
theorem mk_92 : ev_MOK ev_ms mr_92 := ev_chkM_ok (j := 1174) (ps := [([], 0), ([], 0), ([765, 767, 27, 116], 0), ([], 0), ([], 0), ([], 0), ([500, 502, 1, 116], 0), ([], 0)]) (by decide +kernel)
set_option maxRecDepth 1000000 in
theorem mk_93 : ev_MOK ev_ms mr_93 := ev_chkM_ok (j := 1915) (ps := [([], 0), ([1421, 1423, 47, 125], 0), ([], 0), ([], 0), ([], 0), ([1606, 1608, 80, 125], 0), ([], 0), ([], 0), ([], 0), ([1906, 1908, 112, 125], 0), ([], 0), ([], 0), ([], 0), ([], 0), ([], 0), ([1428, 1430, 48, 125], 0), ([], 0), ([], 0)]) (by decide +kernel)
set_option maxRecDepth 1000000 in
theorem mk_94 : ev_MOK ev_ms mr_94 := ev_chkM_ok (j := 1178) (ps := [([], 0), ([], 0), ([765, 767, 27, 116], 0), ([], 0), ([], 0), ([], 0), ([500, 502, 1, 116], 0), ([], 0)]) (by decide +kernel)
set_option maxRecDepth 1000000 in
theorem mk_95 : ev_MOK ev_ms mr_95 := ev_chkM_ok (j := 1919) (ps := [([], 0), ([1421, 1423, 47, 125], 0), ([], 0), ([], 0), ([1606, 1608, 80, 125], 0), ([], 0), ([], 0), ([], 0), ([1428, 1430, 48, 125], 0), ([], 0)]) (by decide +kernel)
set_option maxRecDepth 1000000 in
theorem mk_96 : ev_MOK ev_ms mr_96 := ev_chkM_ok (j := 1189) (ps := [([], 0), ([795, 797, 28, 116], 0), ([], 0), ([], 0), ([], 0), ([500, 502, 1, 116], 0), ([], 0)]) (by decide +kernel)
set_option maxRecDepth 1000000 in
theorem mk_97 : ev_MOK ev_ms mr_97 := ev_chkM_ok (j := 1927) (ps := [([], 0), ([1421, 1423, 47, 125], 0), ([], 0), ([1317], 0), ([], 0), ([], 0), ([], 0), ([1428, 1430, 48, 125], 0), ([], 0)]) (by decide +kernel)
set_option maxRecDepth 1000000 in
theorem mk_98 : ev_MOK ev_ms mr_98 := ev_chkM_ok (j := 1193) (ps := [([], 0), ([], 0), ([745, 747, 25, 116], 0), ([], 0), ([], 0), ([], 0), ([500, 502, 1, 116], 0), ([], 0)]) (by decide +kernel)
set_option maxRecDepth 1000000 in
theorem mk_99 : ev_MOK ev_ms mr_99 := ev_chkM_ok (j := 1931) (ps := [([], 0), ([1421, 1423, 47, 125], 0), ([], 0), ([], 0), ([1586, 1588, 76, 125], 0), ([], 0), ([], 0), ([], 0), ([1428, 1430, 48, 125], 0), ([], 0)]) (by decide +kernel)
set_option maxRecDepth 1000000 in
theorem mk_100 : ev_MOK ev_ms mr_100 := ev_chkM_ok (j := 1198) (ps := [([], 0), ([449], 0), ([], 0), ([447], 0), ([1199, 1200, 1201, 120], 0), ([], 0), ([], 0), ([], 0), ([500, 502, 1, 116], 0), ([], 0), ([], 0), ([], 0)]) (by decide +kernel)
set_option maxRecDepth 1000000 in
theorem mk_101 : ev_MOK ev_ms mr_101 := ev_chkM_ok (j := 1935) (ps := [([], 0), ([1421, 1423, 47, 125], 0), ([], 0), ([1323], 0), ([], 0), ([], 0), ([], 0), ([1936, 1938, 114, 125], 0), ([], 0)]) (by decide +kernel)
set_option maxRecDepth 1000000 in
theorem mk_102 : ev_MOK ev_ms mr_102 := ev_chkM_ok (j := 1206) (ps := [([], 0), ([795, 797, 28, 116], 0), ([], 0), ([], 0), ([], 0), ([500, 502, 1, 116], 0), ([], 0)]) (by decide +kernel)
set_option maxRecDepth 1000000 in
theorem mk_103 : ev_MOK ev_ms mr_103 := ev_chkM_ok (j := 1943) (ps := [([], 0), ([1421, 1423, 47, 125], 0), ([], 0), ([1317], 0), ([], 0), ([], 0), ([], 0), ([1428, 1430, 48, 125], 0), ([], 0)]) (by decide +kernel)
set_option maxRecDepth 1000000 in
theorem mk_104 : ev_MOK ev_ms mr_104 := ev_chkM_ok (j := 1214) (ps := [([], 0), ([449], 0), ([], 0), ([], 0), ([447], 0), ([1215, 1216, 1217, 120], 0), ([], 0), ([], 0), ([], 0), ([500, 502, 1, 116], 0), ([], 0), ([], 0), ([], 0)]) (by decide +kernel)
set_option maxRecDepth 1000000 in
theorem mk_105 : ev_MOK ev_ms mr_105 := ev_chkM_ok (j := 1947) (ps := [([], 0), ([1421, 1423, 47, 125], 0), ([], 0), ([], 0), ([], 0), ([1324], 0), ([], 0), ([], 0), ([1425, 1426, 125], 0), ([], 0), ([], 0), ([], 0), ([1936, 1938, 114, 125], 0), ([], 0)]) (by decide +kernel)
set_option maxRecDepth 1000000 in
theorem mk_106 : ev_MOK ev_ms mr_106 := ev_chkM_ok (j := 1951) (ps := [([], 0), ([], 0), ([], 0), ([], 0), ([], 0), ([1317], 0), ([], 0), ([], 0), ([], 0), ([1303], 0), ([], 0), ([], 0)]) (by decide +kernel)
set_option maxRecDepth 1000000 in
theorem mk_107 : ev_MOK ev_ms mr_107 := ev_chkM_ok (j := 1412) (ps := [([], 0), ([1303], 0), ([], 0)]) (by decide +kernel)
set_option maxRecDepth 1000000 in
theorem mk_108 : ev_MOK ev_ms mr_108 := ev_chkM_ok (j := 1222) (ps := [([], 0), ([], 0), ([], 0), ([445], 0), ([206], 0), ([], 0), ([], 0), ([445], 0), ([210], 0), ([], 0), ([], 0), ([445], 0), ([214], 0), ([], 0), ([], 0), ([445], 0), ([219], 0), ([], 0), ([], 0), ([445], 0), ([240], 0), ([], 0), ([], 0), ([445], 0), ([230], 0), ([], 0), ([445], 0), ([219], 0), ([1223, 618, 118], 0), ([], 0), ([], 0), ([445], 0), ([253], 0), ([], 0), ([445], 0), ([240], 0), ([1223, 618, 118], 0), ([], 0), ([], 0), ([445], 0), ([996, 627, 628, 118], 0), ([], 0), ([], 0), ([445], 0), ([259], 0), ([], 0), ([], 0), ([445], 0), ([266], 0), ([979, 621, 131], 0), ([], 0), ([], 0), ([447], 0), ([321], 0), ([], 0), ([], 0), ([449], 0), ([344], 0), ([], 0), ([], 0), ([449], 0), ([346], 0), ([], 0), ([], 0), ([443], 0), ([], 0), ([], 0), ([], 0)]) (by decide +kernel)
set_option maxRecDepth 1000000 in
theorem mk_109 : ev_MOK ev_ms mr_109 := ev_chkM_ok (j := 1955) (ps := [([], 0), ([], 0), ([1303], 0), ([], 0), ([], 0), ([], 0), ([], 0), ([1305], 0), ([], 0), ([], 0), ([1317], 0), ([], 0), ([], 0), ([], 0), ([], 0), ([1425, 1426, 125], 0), ([], 0), ([], 0), ([], 0), ([], 0), ([], 0)]) (by decide +kernel)
end
section
/-! checks of methods -/
set_option maxRecDepth 1000000 in
theorem mk_110 : ev_MOK ev_ms mr_110 := ev_chkM_ok (j := 1227) (ps := [([], 0), ([456], 0), ([], 0)]) (by decide +kernel)
set_option maxRecDepth 1000000 in
theorem mk_111 : ev_MOK ev_ms mr_111 := ev_chkM_ok (j := 1959) (ps := [([], 0), ([], 0), ([1303], 0), ([], 0), ([1314], 0), ([], 0)]) (by decide +kernel)
set_option maxRecDepth 1000000 in
theorem mk_112 : ev_MOK ev_ms mr_112 := ev_chkM_ok (j := 149) (ps := [([], 0), ([150, 143, 144], 0), ([], 0), ([], 0), ([195], 0), ([162], 0), ([], 0), ([], 0), ([196], 0), ([163], 0), ([], 0), ([], 0), ([196], 0), ([164], 0), ([], 0)]) (by decide +kernel)
set_option maxRecDepth 1000000 in
theorem mk_113 : ev_MOK ev_ms mr_113 := ev_chkM_ok (j := 201) (ps := [([], 0), ([202, 143, 144], 0), ([], 0), ([], 0), ([196], 0), ([220], 0), ([], 0), ([], 0), ([196], 0), ([223], 0), ([], 0), ([], 0), ([196], 0), ([225], 0), ([], 0), ([], 0), ([196], 0), ([228], 0), ([], 0), ([], 0), ([196], 0), ([232], 0), ([], 0), ([], 0), ([196], 0), ([241], 0), ([], 0), ([], 0), ([196], 0), ([244], 0), ([], 0), ([], 0), ([196], 0), ([248], 0), ([], 0), ([], 0), ([196], 0), ([251], 0), ([], 0), ([], 0), ([196], 0), ([255], 0), ([], 0), ([], 0), ([196], 0), ([260], 0), ([], 0), ([], 0), ([196], 0), ([261], 0), ([], 0)]) (by decide +kernel)
set_option maxRecDepth 1000000 in
theorem mk_114 : ev_MOK ev_ms mr_114 := ev_chkM_ok (j := 310) (ps := [([], 0), ([311, 143, 144], 0), ([], 0), ([], 0), ([196], 0), ([312], 0), ([], 0), ([], 0), ([196], 0), ([315], 0), ([], 0)]) (by decide +kernel)
set_option maxRecDepth 1000000 in
theorem mk_115 : ev_MOK ev_ms mr_115 := ev_chkM_ok (j := 335) (ps := [([], 0), ([336, 143, 144], 0), ([], 0), ([], 0), ([337], 0), ([340], 0), ([], 0), ([], 0), ([337], 0), ([341], 0), ([], 0), ([], 0), ([], 0), ([], 0), ([], 0), ([], 0), ([340], 0), ([], 0), ([337, 307, 119], 0), ([], 0), ([309, 119], 339), ([], 0), ([], 0), ([], 0), ([], 0), ([], 0), ([], 0), ([], 0), ([], 0), ([], 0), ([341], 0), ([], 0), ([337, 307, 119], 0), ([], 0), ([309, 119], 339), ([], 0), ([], 0), ([], 0), ([], 0)]) (by decide +kernel)
set_option maxRecDepth 1000000 in
theorem mk_116 : ev_MOK ev_ms mr_116 := ev_chkM_ok (j := 362) (ps := [([], 0), ([363, 143, 144], 0), ([], 0), ([], 0), ([364], 0), ([366], 0), ([], 0), ([], 0), ([], 0), ([], 0), ([], 0), ([], 0), ([366], 0), ([], 0), ([364, 307, 119], 0), ([], 0), ([309, 119], 365), ([], 0), ([], 0), ([], 0), ([], 0)]) (by decide +kernel)
set_option maxRecDepth 1000000 in
theorem mk_117 : ev_MOK ev_ms mr_117 := ev_chkM_ok (j := 389) (ps := [([], 0), ([390, 143, 144], 0), ([], 0), ([], 0), ([196], 0), ([391], 0), ([], 0), ([], 0), ([196], 0), ([392], 0), ([], 0)]) (by decide +kernel)
set_option maxRecDepth 1000000 in
theorem mk_118 : ev_MOK ev_ms mr_118 := ev_chkM_ok (j := 407) (ps := [([], 0), ([408, 143, 144], 0), ([], 0), ([], 0), ([196], 0), ([411], 0), ([], 0), ([409, 307, 119], 0), ([], 0), ([309, 119], 410), ([415], 0), ([], 0)]) (by decide +kernel)
set_option maxRecDepth 1000000 in
theorem mk_119 : ev_MOK ev_ms mr_119 := ev_chkM_ok (j := 427) (ps := [([], 0), ([428, 143, 144], 0), ([], 0)]) (by decide +kernel)
set_option maxRecDepth 1000000 in
theorem mk_120 : ev_MOK ev_ms mr_120 := ev_chkM_ok (j := 495) (ps := [([], 0), ([], 0), ([], 0), ([], 0), ([], 0), ([443], 0), ([], 0), ([], 0), ([], 0), ([442], 0), ([], 0), ([443], 0), ([], 0), ([], 0), ([], 0), ([], 0), ([], 0), ([], 0), ([], 0), ([443], 0), ([], 0), ([], 0), ([443], 0), ([], 0), ([], 0), ([], 0)]) (by decide +kernel)
set_option maxRecDepth 1000000 in
theorem mk_121 : ev_MOK ev_ms mr_121 := ev_chkM_ok (j := 503) (ps := [([], 0), ([], 0), ([456], 0), ([], 0), ([], 0)]) (by decide +kernel)
set_option maxRecDepth 1000000 in
theorem mk_122 : ev_MOK ev_ms mr_122 := ev_chkM_ok (j := 507) (ps := [([], 0), ([], 0), ([151], 0), ([], 0), ([], 0), ([], 0), ([], 0), ([508, 509, 126, 510], 0), ([152], 0), ([], 0), ([], 0), ([153], 0), ([], 0), ([], 0), ([158], 0), ([], 0), ([158], 0), ([511, 512, 513, 118], 0), ([], 0), ([], 0), ([159], 0), ([], 0), ([], 0), ([160], 0), ([], 0), ([], 0), ([161], 0), ([], 0), ([515, 517, 2, 117], 0), ([], 0), ([538, 540, 5, 117], 0), ([], 0), ([], 0), ([], 0), ([], 0), ([], 0), ([], 0), ([160], 0), ([], 0), ([], 0), ([154], 0), ([], 0), ([], 0), ([], 0), ([609, 611, 8, 117], 0), ([], 0), ([158], 0), ([217], 0), ([], 0), ([], 0), ([], 0), ([609, 611, 8, 117], 0), ([], 0), ([160], 0), ([], 0)]) (by decide +kernel)
set_option maxRecDepth 1000000 in
theorem mk_123 : ev_MOK ev_ms mr_123 := ev_chkM_ok (j := 717) (ps := [([], 0), ([155], 0), ([], 0)]) (by decide +kernel)
end
section
/-! checks of methods -/
set_option maxRecDepth 1000000 in
theorem mk_124 : ev_MOK ev_ms mr_124 := ev_chkM_ok (j := 514) (ps := [([], 0), ([], 0), ([203], 0), ([], 0), ([], 0), ([207], 0), ([], 0), ([], 0), ([211], 0), ([], 0), ([], 0), ([215], 0), ([], 0), ([], 0), ([236], 0), ([], 0), ([], 0), ([257], 0), ([], 0), ([], 0), ([264], 0), ([], 0), ([], 0), ([], 0), ([], 0), ([], 0), ([], 0), ([261], 0), ([], 0), ([], 0), ([], 0), ([], 0), ([], 0), ([], 0)]) (by decide +kernel)
set_option maxRecDepth 1000000 in
theorem mk_125 : ev_MOK ev_ms mr_125 := ev_chkM_ok (j := 518) (ps := [([], 0), ([160], 0), ([], 0), ([], 0), ([], 0), ([153], 0), ([], 0), ([152], 0), ([], 0), ([], 0), ([151], 0), ([], 0), ([153], 0), ([], 0), ([], 0), ([], 0), ([], 0), ([], 0), ([153], 0), ([155], 0), ([], 0), ([], 0), ([156], 0), ([], 0), ([], 0), ([157], 0), ([], 0), ([153], 0), ([], 0), ([152], 0), ([], 0), ([], 0), ([], 0), ([154], 0), ([], 0), ([], 0), ([151], 0), ([], 0), ([153], 0), ([], 0), ([519, 520, 117], 0), ([], 0), ([], 0), ([151], 0), ([], 0), ([153], 0), ([], 0), ([531, 532, 117], 0), ([], 0), ([], 0), ([], 0), ([151], 0), ([], 0), ([153], 0), ([], 0), ([], 0), ([], 0), ([], 0), ([154], 0), ([], 0), ([], 0), ([153], 0), ([], 0), ([], 0), ([153], 0), ([], 0)]) (by decide +kernel)
set_option maxRecDepth 1000000 in
theorem mk_126 : ev_MOK ev_ms mr_126 := ev_chkM_ok (j := 541) (ps := [([], 0), ([542, 544, 6, 117], 0), ([], 0), ([], 0), ([], 0), ([], 0), ([], 0), ([], 0), ([609, 611, 8, 117], 0), ([], 0), ([], 0), ([515, 517, 2, 117], 0), ([], 0), ([160], 0), ([], 0), ([], 0), ([], 0), ([], 0)]) (by decide +kernel)
set_option maxRecDepth 1000000 in
theorem mk_127 : ev_MOK ev_ms mr_127 := ev_chkM_ok (j := 612) (ps := [([], 0), ([160], 0), ([], 0), ([], 0), ([], 0), ([160], 0), ([], 0)]) (by decide +kernel)
set_option maxRecDepth 1000000 in
theorem mk_128 : ev_MOK ev_ms mr_128 := ev_chkM_ok (j := 521) (ps := [([], 0), ([], 0), ([], 0), ([], 0), ([], 0)]) (by decide +kernel)
set_option maxRecDepth 1000000 in
theorem mk_129 : ev_MOK ev_ms mr_129 := ev_chkM_ok (j := 533) (ps := [([], 0), ([], 0), ([], 0), ([], 0), ([], 0)]) (by decide +kernel)
set_option maxRecDepth 1000000 in
theorem mk_130 : ev_MOK ev_ms mr_130 := ev_chkM_ok (j := 545) (ps := [([], 0), ([], 0), ([], 0), ([], 0), ([], 0), ([], 0), ([], 0), ([546, 547, 117], 0), ([557, 559, 7, 117], 0), ([], 0), ([], 0), ([], 0), ([], 0), ([], 0)]) (by decide +kernel)
set_option maxRecDepth 1000000 in
theorem mk_131 : ev_MOK ev_ms mr_131 := ev_chkM_ok (j := 548) (ps := [([], 0), ([], 0), ([], 0), ([], 0), ([], 0), ([], 0), ([], 0), ([], 0), ([], 0), ([], 0), ([], 0), ([], 0), ([], 0), ([], 0), ([], 0), ([], 0), ([], 0), ([], 0)]) (by decide +kernel)
set_option maxRecDepth 1000000 in
theorem mk_132 : ev_MOK ev_ms mr_132 := ev_chkM_ok (j := 560) (ps := [([], 0), ([], 0), ([], 0), ([], 0), ([], 0), ([], 0), ([561, 562, 563, 127], 0), ([], 0), ([], 0), ([], 0), ([], 0), ([571, 572, 573, 127], 0), ([526, 527, 117], 0), ([], 0), ([], 0), ([], 0), ([], 0), ([154], 0), ([], 0), ([], 0), ([], 0), ([], 0)]) (by decide +kernel)
set_option maxRecDepth 1000000 in
theorem mk_133 : ev_MOK ev_ms mr_133 := ev_chkM_ok (j := 564) (ps := [([], 0), ([1974], 0), ([], 0), ([], 0), ([565, 566, 567, 127], 0), ([], 0), ([], 0)]) (by decide +kernel)
set_option maxRecDepth 1000000 in
theorem mk_134 : ev_MOK ev_ms mr_134 := ev_chkM_ok (j := 574) (ps := [([], 0), ([575, 576, 577, 127], 0), ([], 0), ([], 0), ([1974], 0), ([], 0), ([579, 580, 128], 0), ([], 0)]) (by decide +kernel)
set_option maxRecDepth 1000000 in
theorem mk_135 : ev_MOK ev_ms mr_135 := ev_chkM_ok (j := 528) (ps := [([], 0), ([529], 0), ([], 0), ([], 0), ([], 0), ([], 0), ([530], 0), ([], 0), ([], 0), ([], 0), ([], 0)]) (by decide +kernel)
set_option maxRecDepth 1000000 in
theorem mk_136 : ev_MOK ev_ms mr_136 := ev_chkM_ok (j := 568) (ps := [([569], 0), ([], 0), ([], 0), ([1975], 0), ([], 0), ([], 0)]) (by decide +kernel)
set_option maxRecDepth 1000000 in
theorem mk_137 : ev_MOK ev_ms mr_137 := ev_chkM_ok (j := 578) (ps := [([569], 0), ([], 0), ([], 0), ([1975], 0), ([], 0), ([], 0), ([], 0), ([], 0)]) (by decide +kernel)
set_option maxRecDepth 1000000 in
theorem mk_138 : ev_MOK ev_ms mr_138 := ev_chkM_ok (j := 581) (ps := [([], 0), ([], 0), ([], 0), ([582, 583, 127], 0), ([], 0), ([], 0), ([], 0), ([], 0), ([], 0), ([], 0), ([], 0)]) (by decide +kernel)
set_option maxRecDepth 1000000 in
theorem mk_139 : ev_MOK ev_ms mr_139 := ev_chkM_ok (j := 584) (ps := [([], 0), ([], 0), ([585], 0), ([587, 588, 129], 0), ([], 0), ([], 0)]) (by decide +kernel)
set_option maxRecDepth 1000000 in
theorem mk_140 : ev_MOK ev_ms mr_140 := ev_chkM_ok (j := 589) (ps := [([], 0), ([], 0), ([], 0), ([], 0), ([], 0), ([], 0), ([], 0)]) (by decide +kernel)
set_option maxRecDepth 1000000 in
theorem mk_141 : ev_MOK ev_ms mr_141 := ev_chkM_ok (j := 1424) (ps := [([], 0), ([], 0), ([1303], 0), ([], 0), ([], 0), ([1314], 0), ([], 0)]) (by decide +kernel)
end
section
/-! checks of methods -/
set_option maxRecDepth 1000000 in
theorem mk_142 : ev_MOK ev_ms mr_142 := ev_chkM_ok (j := 1427) (ps := [([], 0), ([], 0), ([], 0), ([], 0), ([], 0), ([], 0), ([], 0), ([], 0), ([], 0), ([], 0)]) (by decide +kernel)
set_option maxRecDepth 1000000 in
theorem mk_143 : ev_MOK ev_ms mr_143 := ev_chkM_ok (j := 1431) (ps := [([], 0), ([], 0), ([1314], 0), ([], 0), ([], 0)]) (by decide +kernel)
set_option maxRecDepth 1000000 in
theorem mk_144 : ev_MOK ev_ms mr_144 := ev_chkM_ok (j := 1435) (ps := [([], 0), ([1308], 0), ([], 0), ([], 0), ([], 0), ([1436, 1438, 50, 125], 0), ([], 0), ([], 0), ([], 0), ([], 0), ([1307], 0), ([], 0), ([], 0), ([1436, 1438, 50, 125], 0), ([], 0), ([], 0), ([], 0), ([1311], 0), ([], 0), ([], 0), ([1310], 0), ([], 0), ([], 0), ([], 0), ([], 0), ([], 0), ([1309], 0), ([], 0), ([], 0), ([1308], 0), ([], 0), ([], 0)]) (by decide +kernel)
set_option maxRecDepth 1000000 in
theorem mk_145 : ev_MOK ev_ms mr_145 := ev_chkM_ok (j := 1449) (ps := [([], 0), ([], 0), ([1451, 1453, 52, 125], 0), ([], 0), ([], 0), ([], 0), ([], 0), ([1319], 0), ([], 0), ([], 0), ([], 0), ([], 0), ([], 0), ([], 0), ([1485, 1487, 59, 125], 0), ([], 0), ([], 0), ([], 0), ([], 0), ([1319], 0), ([], 0), ([], 0), ([], 0), ([], 0), ([], 0), ([], 0), ([1485, 1487, 59, 125], 0), ([], 0), ([], 0), ([], 0), ([], 0), ([1319], 0), ([], 0), ([], 0), ([], 0), ([], 0), ([], 0), ([], 0), ([1485, 1487, 59, 125], 0), ([], 0), ([], 0), ([], 0), ([], 0), ([1319], 0), ([], 0), ([], 0), ([], 0), ([], 0), ([], 0), ([], 0), ([1485, 1487, 59, 125], 0), ([], 0), ([], 0), ([], 0), ([], 0), ([1319], 0), ([], 0), ([], 0), ([], 0), ([], 0), ([], 0), ([], 0), ([1485, 1487, 59, 125], 0), ([], 0), ([], 0), ([], 0), ([], 0), ([1319], 0), ([], 0), ([], 0), ([], 0), ([], 0), ([], 0), ([], 0), ([1485, 1487, 59, 125], 0), ([], 0), ([], 0), ([], 0), ([], 0), ([1485, 1487, 59, 125], 0), ([], 0), ([], 0), ([], 0), ([], 0), ([1307], 0), ([1461, 1463, 54, 125], 0), ([], 0)]) (by decide +kernel)
set_option maxRecDepth 1000000 in
theorem mk_146 : ev_MOK ev_ms mr_146 := ev_chkM_ok (j := 1464) (ps := [([], 0), ([1316], 0), ([], 0), ([], 0), ([], 0), ([1316], 0), ([], 0), ([], 0), ([1312], 0), ([], 0), ([], 0), ([1313], 0), ([], 0)]) (by decide +kernel)
set_option maxRecDepth 1000000 in
theorem mk_147 : ev_MOK ev_ms mr_147 := ev_chkM_ok (j := 1439) (ps := [([], 0), ([], 0), ([1306], 0), ([], 0), ([], 0), ([], 0)]) (by decide +kernel)
set_option maxRecDepth 1000000 in
theorem mk_148 : ev_MOK ev_ms mr_148 := ev_chkM_ok (j := 1454) (ps := [([], 0), ([1316], 0), ([], 0), ([], 0), ([1309], 0), ([], 0), ([], 0), ([], 0), ([], 0)]) (by decide +kernel)
set_option maxRecDepth 1000000 in
theorem mk_149 : ev_MOK ev_ms mr_149 := ev_chkM_ok (j := 1488) (ps := [([], 0), ([], 0), ([1451, 1453, 52, 125], 0), ([], 0), ([], 0), ([], 0)]) (by decide +kernel)
set_option maxRecDepth 1000000 in
theorem mk_150 : ev_MOK ev_ms mr_150 := ev_chkM_ok (j := 748) (ps := [([], 0), ([], 0), ([], 0), ([], 0), ([445], 0), ([219], 0), ([], 0), ([], 0), ([], 0), ([], 0)]) (by decide +kernel)
set_option maxRecDepth 1000000 in
theorem mk_151 : ev_MOK ev_ms mr_151 := ev_chkM_ok (j := 1589) (ps := [([], 0), ([1317], 0), ([], 0), ([], 0), ([], 0)]) (by decide +kernel)
set_option maxRecDepth 1000000 in
theorem mk_152 : ev_MOK ev_ms mr_152 := ev_chkM_ok (j := 768) (ps := [([], 0), ([], 0), ([], 0), ([], 0), ([445], 0), ([240], 0), ([], 0), ([], 0), ([], 0), ([], 0)]) (by decide +kernel)
set_option maxRecDepth 1000000 in
theorem mk_153 : ev_MOK ev_ms mr_153 := ev_chkM_ok (j := 1609) (ps := [([], 0), ([1317], 0), ([], 0), ([], 0), ([], 0)]) (by decide +kernel)
set_option maxRecDepth 1000000 in
theorem mk_154 : ev_MOK ev_ms mr_154 := ev_chkM_ok (j := 798) (ps := [([], 0), ([445], 0), ([219], 0), ([], 0), ([], 0), ([], 0), ([], 0)]) (by decide +kernel)
set_option maxRecDepth 1000000 in
theorem mk_155 : ev_MOK ev_ms mr_155 := ev_chkM_ok (j := 1681) (ps := [([], 0), ([], 0), ([], 0), ([], 0), ([], 0)]) (by decide +kernel)
set_option maxRecDepth 1000000 in
theorem mk_156 : ev_MOK ev_ms mr_156 := ev_chkM_ok (j := 891) (ps := [([], 0), ([], 0), ([], 0), ([], 0), ([], 0), ([], 0), ([], 0), ([], 0), ([], 0), ([], 0), ([892, 894, 32, 116], 0), ([], 0)]) (by decide +kernel)
set_option maxRecDepth 1000000 in
theorem mk_157 : ev_MOK ev_ms mr_157 := ev_chkM_ok (j := 895) (ps := [([], 0), ([795, 797, 28, 116], 0), ([], 0), ([], 0), ([], 0), ([500, 502, 1, 116], 0), ([], 0), ([], 0), ([], 0), ([], 0), ([], 0), ([795, 797, 28, 116], 0), ([], 0), ([], 0), ([], 0), ([], 0)]) (by decide +kernel)
set_option maxRecDepth 1000000 in
theorem mk_158 : ev_MOK ev_ms mr_158 := ev_chkM_ok (j := 961) (ps := [([], 0), ([], 0), ([], 0), ([], 0), ([], 0), ([], 0), ([], 0), ([], 0), ([], 0)]) (by decide +kernel)
set_option maxRecDepth 1000000 in
theorem mk_159 : ev_MOK ev_ms mr_159 := ev_chkM_ok (j := 622) (ps := [([], 0), ([], 0), ([], 0), ([], 0), ([623], 0), ([], 0), ([], 0), ([], 0), ([], 0), ([624], 0), ([], 0), ([], 0), ([], 0), ([], 0), ([624], 0), ([], 0), ([], 0), ([], 0), ([], 0), ([], 0), ([], 0), ([], 0), ([], 0), ([625], 0), ([], 0), ([], 0), ([], 0), ([], 0), ([], 0), ([], 0), ([], 0), ([], 0), ([], 0), ([], 0), ([], 0), ([], 0), ([], 0), ([], 0), ([], 0), ([], 0), ([], 0), ([], 0)]) (by decide +kernel)
end
section
/-! checks of methods -/
set_option maxRecDepth 1000000 in
theorem mk_160 : ev_MOK ev_ms mr_160 := ev_chkM_ok (j := 629) (ps := [([], 0), ([232], 0), ([], 0), ([215], 0), ([630, 618, 118], 0), ([], 0), ([], 0), ([], 0)]) (by decide +kernel)
set_option maxRecDepth 1000000 in
theorem mk_161 : ev_MOK ev_ms mr_161 := ev_chkM_ok (j := 1017) (ps := [([], 0), ([], 0), ([], 0), ([], 0), ([445], 0), ([259], 0), ([], 0), ([], 0), ([], 0), ([], 0)]) (by decide +kernel)
set_option maxRecDepth 1000000 in
theorem mk_162 : ev_MOK ev_ms mr_162 := ev_chkM_ok (j := 1803) (ps := [([], 0), ([1317], 0), ([], 0), ([], 0), ([], 0)]) (by decide +kernel)
set_option maxRecDepth 1000000 in
theorem mk_163 : ev_MOK ev_ms mr_163 := ev_chkM_ok (j := 1055) (ps := [([], 0), ([795, 797, 28, 116], 0), ([], 0), ([], 0), ([], 0), ([500, 502, 1, 116], 0), ([], 0), ([], 0), ([], 0)]) (by decide +kernel)
set_option maxRecDepth 1000000 in
theorem mk_164 : ev_MOK ev_ms mr_164 := ev_chkM_ok (j := 1113) (ps := [([], 0), ([], 0), ([], 0), ([], 0), ([], 0), ([], 0), ([], 0), ([], 0), ([], 0), ([892, 894, 32, 116], 0), ([], 0)]) (by decide +kernel)
set_option maxRecDepth 1000000 in
theorem mk_165 : ev_MOK ev_ms mr_165 := ev_chkM_ok (j := 1909) (ps := [([], 0), ([], 0), ([], 0), ([], 0)]) (by decide +kernel)
set_option maxRecDepth 1000000 in
theorem mk_166 : ev_MOK ev_ms mr_166 := ev_chkM_ok (j := 1202) (ps := [([], 0), ([343], 0), ([], 0), ([], 0), ([], 0)]) (by decide +kernel)
set_option maxRecDepth 1000000 in
theorem mk_167 : ev_MOK ev_ms mr_167 := ev_chkM_ok (j := 1939) (ps := [([], 0), ([], 0), ([1314], 0), ([], 0), ([], 0)]) (by decide +kernel)
set_option maxRecDepth 1000000 in
theorem mk_168 : ev_MOK ev_ms mr_168 := ev_chkM_ok (j := 1218) (ps := [([], 0), ([], 0), ([], 0), ([], 0), ([345], 0), ([], 0), ([], 0), ([], 0)]) (by decide +kernel)
set_option maxRecDepth 1000000 in
theorem mk_169 : ev_MOK ev_ms mr_169 := ev_chkM_ok (j := 619) (ps := [([], 0), ([], 0), ([], 0), ([], 0), ([], 0), ([], 0), ([], 0), ([], 0), ([], 0)]) (by decide +kernel)
end
section
/-! the law's rows -/
set_option maxRecDepth 1000000 in
theorem law_a_ok : ∀ q ∈ law_a, ev_RowOK ev_ms (law_P 0) code q := ev_chkAll_ok (ps := [([137, 138, 116], 0), ([], 0), ([139, 140, 116], 0), ([], 0), ([1297, 1298, 125], 0), ([], 0), ([1299, 1300, 125], 0), ([], 0), ([], 0), ([195], 0), ([], 0), ([], 0), ([], 0)]) (by decide +kernel)
set_option maxRecDepth 1000000 in
theorem law_h_ok : ∀ Ls, Ls < 7 → ∀ q ∈ law_h, ev_RowOK ev_ms (law_P Ls) code q
  | 0, _ => ev_chkAll_ok (ps := [([], 0), ([], 0), ([], 0), ([], 0), ([], 0), ([], 0), ([], 0), ([], 0)]) (by decide +kernel)
  | 1, _ => ev_chkAll_ok (ps := [([], 0), ([], 0), ([], 0), ([], 0), ([], 0), ([], 0), ([], 0), ([], 0)]) (by decide +kernel)
  | 2, _ => ev_chkAll_ok (ps := [([], 0), ([], 0), ([], 0), ([], 0), ([], 0), ([], 0), ([], 0), ([], 0)]) (by decide +kernel)
  | 3, _ => ev_chkAll_ok (ps := [([], 0), ([], 0), ([], 0), ([], 0), ([], 0), ([], 0), ([], 0), ([], 0)]) (by decide +kernel)
  | 4, _ => ev_chkAll_ok (ps := [([], 0), ([], 0), ([], 0), ([], 0), ([], 0), ([], 0), ([], 0), ([], 0)]) (by decide +kernel)
  | 5, _ => ev_chkAll_ok (ps := [([], 0), ([], 0), ([], 0), ([], 0), ([], 0), ([], 0), ([], 0), ([], 0)]) (by decide +kernel)
  | 6, _ => ev_chkAll_ok (ps := [([], 0), ([], 0), ([], 0), ([], 0), ([], 0), ([], 0), ([], 0), ([], 0)]) (by decide +kernel)
  | n + 7, h => absurd h (by omega)
end
section
/-! the law's rows -/
def law_b0 : List (Nat × ev_Row) := [(23, 4, 4, 0, 0, []), (25, 9, 0, 0, 0, []), (26, 64, 0, 0, 0, []), (27, 1, 6, 0, 0, []), (29, 17, 0, 0, 0, []), (30, 39, 1728, 0, 0, []), (33, 9, 0, 0, 0, []), (34, 4, 4, 0, 0, []), (36, 65, 0, 0, 0, []), (37, 1, 63, 0, 0, []), (39, 19, 0, 0, 0, []), (40, 48, 1712, 0, 54, [236, 236, 309, 334, 347, 360, 397, 434, 459, 472, 485, 498, 511, 536, 561, 598, 635, 660, 673, 686, 723, 748, 773, 798, 823, 860, 885, 910, 935, 948, 961, 974, 1011, 1024, 1049, 1062, 1087, 1100, 1113, 1126, 1139, 1248, 1273, 1298, 1352, 1406, 1455, 1504, 1529, 1542, 1567, 1580, 1593, 1618, 1674, 1699]), (276, 9, 1, 0, 0, []), (277, 9, 0, 0, 0, []), (278, 4, 4, 0, 0, []), (280, 0, 1, 0, 0, []), (281, 16, 0, 0, 0, []), (282, 65, 0, 0, 0, []), (283, 9, 0, 0, 0, []), (284, 4, 4, 0, 0, []), (286, 0, 2, 0, 0, []), (287, 16, 0, 0, 0, []), (288, 65, 0, 0, 0, []), (289, 9, 0, 0, 0, []), (290, 4, 4, 0, 0, []), (292, 0, 3, 0, 0, []), (293, 16, 0, 0, 0, []), (294, 65, 0, 0, 0, []), (295, 9, 0, 0, 0, []), (296, 4, 4, 0, 0, []), (298, 0, 4, 0, 0, []), (299, 16, 0, 0, 0, []), (300, 65, 0, 0, 0, []), (301, 9, 0, 0, 0, []), (302, 4, 4, 0, 0, []), (304, 0, 5, 0, 0, []), (305, 16, 0, 0, 0, []), (306, 65, 0, 0, 0, []), (307, 200, 2, 19, 5, []), (310, 9, 2, 0, 0, []), (311, 9, 0, 0, 0, []), (312, 4, 4, 0, 0, []), (314, 0, 1, 0, 0, []), (315, 16, 0, 0, 0, []), (316, 65, 0, 0, 0, []), (317, 9, 0, 0, 0, []), (318, 4, 4, 0, 0, []), (320, 0, 2, 0, 0, []), (321, 16, 0, 0, 0, []), (322, 65, 0, 0, 0, []), (323, 9, 0, 0, 0, []), (324, 4, 4, 0, 0, []), (326, 0, 3, 0, 0, []), (327, 16, 0, 0, 0, []), (328, 65, 0, 0, 0, []), (329, 9, 0, 0, 0, []), (330, 4, 4, 0, 0, []), (332, 0, 4, 0, 0, []), (333, 16, 0, 0, 0, []), (334, 65, 0, 0, 0, [])]
set_option maxRecDepth 1000000 in
theorem law_b0_ok : ∀ q ∈ law_b0, ev_RowOK ev_ms (law_P 7) code q := ev_chkAll_ok (ps := [([], 0), ([], 0), ([], 0), ([], 0), ([], 0), ([], 0), ([], 0), ([], 0), ([], 0), ([], 0), ([], 0), ([], 0), ([], 0), ([], 0), ([], 0), ([], 0), ([], 0), ([], 0), ([], 0), ([], 0), ([], 0), ([], 0), ([], 0), ([], 0), ([], 0), ([], 0), ([], 0), ([], 0), ([], 0), ([], 0), ([], 0), ([], 0), ([], 0), ([], 0), ([], 0), ([], 0), ([], 0), ([], 0), ([488, 489, 490, 116], 0), ([], 0), ([], 0), ([], 0), ([], 0), ([], 0), ([], 0), ([], 0), ([], 0), ([], 0), ([], 0), ([], 0), ([], 0), ([], 0), ([], 0), ([], 0), ([], 0), ([], 0), ([], 0), ([], 0), ([], 0), ([], 0)]) (by decide +kernel)
def law_b1 : List (Nat × ev_Row) := [(335, 9, 0, 0, 0, []), (336, 4, 4, 0, 0, []), (338, 0, 5, 0, 0, []), (339, 16, 0, 0, 0, []), (340, 65, 0, 0, 0, []), (341, 200, 3, 23, 5, []), (344, 35, 1408, 0, 0, []), (349, 9, 1, 0, 0, []), (350, 9, 0, 0, 0, []), (351, 4, 4, 0, 0, []), (353, 0, 1, 0, 0, []), (354, 16, 0, 0, 0, []), (355, 65, 0, 0, 0, []), (356, 200, 4, 24, 1, []), (359, 9, 2, 0, 0, []), (360, 9, 0, 0, 0, []), (361, 4, 4, 0, 0, []), (363, 0, 1, 0, 0, []), (364, 16, 0, 0, 0, []), (365, 65, 0, 0, 0, []), (366, 200, 5, 27, 1, []), (369, 35, 1383, 0, 0, []), (374, 9, 1, 0, 0, []), (375, 200, 6, 28, 0, []), (378, 9, 2, 0, 0, []), (379, 200, 7, 32, 0, []), (382, 35, 1370, 0, 0, []), (387, 9, 1, 0, 0, []), (388, 200, 8, 33, 0, []), (391, 9, 2, 0, 0, []), (392, 200, 9, 36, 0, []), (395, 35, 1357, 0, 0, []), (400, 9, 1, 0, 0, []), (401, 9, 0, 0, 0, []), (402, 4, 4, 0, 0, []), (404, 0, 1, 0, 0, []), (405, 16, 0, 0, 0, []), (406, 65, 0, 0, 0, []), (407, 9, 0, 0, 0, []), (408, 4, 4, 0, 0, []), (410, 0, 2, 0, 0, []), (411, 16, 0, 0, 0, []), (412, 65, 0, 0, 0, []), (413, 200, 10, 37, 2, []), (416, 9, 2, 0, 0, []), (417, 9, 0, 0, 0, []), (418, 4, 4, 0, 0, []), (420, 0, 1, 0, 0, []), (421, 16, 0, 0, 0, []), (422, 65, 0, 0, 0, []), (423, 9, 0, 0, 0, []), (424, 4, 4, 0, 0, []), (426, 0, 2, 0, 0, []), (427, 16, 0, 0, 0, []), (428, 65, 0, 0, 0, []), (429, 200, 11, 41, 2, []), (432, 35, 1320, 0, 0, []), (437, 9, 1, 0, 0, []), (438, 9, 0, 0, 0, []), (439, 4, 4, 0, 0, [])]
set_option maxRecDepth 1000000 in
theorem law_b1_ok : ∀ q ∈ law_b1, ev_RowOK ev_ms (law_P 7) code q := ev_chkAll_ok (ps := [([], 0), ([], 0), ([], 0), ([], 0), ([], 0), ([1413, 1414, 1415, 125], 0), ([], 0), ([], 0), ([], 0), ([], 0), ([], 0), ([], 0), ([], 0), ([496, 497, 498, 116], 0), ([], 0), ([], 0), ([], 0), ([], 0), ([], 0), ([], 0), ([1417, 1418, 1419, 125], 0), ([], 0), ([], 0), ([733, 734, 735, 116], 0), ([], 0), ([1574, 1575, 1576, 125], 0), ([], 0), ([], 0), ([737, 738, 739, 116], 0), ([], 0), ([1578, 1579, 1580, 125], 0), ([], 0), ([], 0), ([], 0), ([], 0), ([], 0), ([], 0), ([], 0), ([], 0), ([], 0), ([], 0), ([], 0), ([], 0), ([741, 742, 743, 116], 0), ([], 0), ([], 0), ([], 0), ([], 0), ([], 0), ([], 0), ([], 0), ([], 0), ([], 0), ([], 0), ([], 0), ([1582, 1583, 1584, 125], 0), ([], 0), ([], 0), ([], 0), ([], 0)]) (by decide +kernel)
def law_b2 : List (Nat × ev_Row) := [(441, 0, 1, 0, 0, []), (442, 16, 0, 0, 0, []), (443, 65, 0, 0, 0, []), (444, 9, 0, 0, 0, []), (445, 4, 4, 0, 0, []), (447, 0, 2, 0, 0, []), (448, 16, 0, 0, 0, []), (449, 65, 0, 0, 0, []), (450, 200, 12, 42, 2, []), (453, 9, 2, 0, 0, []), (454, 9, 0, 0, 0, []), (455, 4, 4, 0, 0, []), (457, 0, 1, 0, 0, []), (458, 16, 0, 0, 0, []), (459, 65, 0, 0, 0, []), (460, 9, 0, 0, 0, []), (461, 4, 4, 0, 0, []), (463, 0, 2, 0, 0, []), (464, 16, 0, 0, 0, []), (465, 65, 0, 0, 0, []), (466, 200, 13, 45, 2, []), (469, 35, 1283, 0, 0, []), (474, 9, 1, 0, 0, []), (475, 9, 0, 0, 0, []), (476, 4, 4, 0, 0, []), (478, 0, 1, 0, 0, []), (479, 16, 0, 0, 0, []), (480, 65, 0, 0, 0, []), (481, 200, 14, 46, 1, []), (484, 9, 2, 0, 0, []), (485, 9, 0, 0, 0, []), (486, 4, 4, 0, 0, []), (488, 0, 1, 0, 0, []), (489, 16, 0, 0, 0, []), (490, 65, 0, 0, 0, []), (491, 200, 15, 49, 1, []), (494, 35, 1258, 0, 0, []), (499, 9, 1, 0, 0, []), (500, 200, 16, 50, 0, []), (503, 9, 2, 0, 0, []), (504, 200, 17, 53, 0, []), (507, 35, 1245, 0, 0, []), (512, 9, 1, 0, 0, []), (513, 200, 18, 54, 0, []), (516, 9, 2, 0, 0, []), (517, 200, 19, 57, 0, []), (520, 35, 1232, 0, 0, []), (525, 9, 1, 0, 0, []), (526, 200, 20, 58, 0, []), (529, 9, 2, 0, 0, []), (530, 200, 21, 61, 0, []), (533, 35, 1219, 0, 0, []), (538, 9, 1, 0, 0, []), (539, 200, 22, 62, 0, []), (542, 9, 2, 0, 0, []), (543, 200, 23, 65, 0, []), (546, 35, 1206, 0, 0, []), (551, 9, 1, 0, 0, []), (552, 9, 0, 0, 0, []), (553, 4, 4, 0, 0, [])]
set_option maxRecDepth 1000000 in
theorem law_b2_ok : ∀ q ∈ law_b2, ev_RowOK ev_ms (law_P 7) code q := ev_chkAll_ok (ps := [([], 0), ([], 0), ([], 0), ([], 0), ([], 0), ([], 0), ([], 0), ([], 0), ([761, 762, 763, 116], 0), ([], 0), ([], 0), ([], 0), ([], 0), ([], 0), ([], 0), ([], 0), ([], 0), ([], 0), ([], 0), ([], 0), ([1602, 1603, 1604, 125], 0), ([], 0), ([], 0), ([], 0), ([], 0), ([], 0), ([], 0), ([], 0), ([791, 792, 793, 116], 0), ([], 0), ([], 0), ([], 0), ([], 0), ([], 0), ([], 0), ([1626, 1627, 1628, 125], 0), ([], 0), ([], 0), ([799, 800, 801, 116], 0), ([], 0), ([1630, 1631, 1632, 125], 0), ([], 0), ([], 0), ([808, 809, 810, 116], 0), ([], 0), ([1638, 1639, 1640, 125], 0), ([], 0), ([], 0), ([812, 813, 814, 116], 0), ([], 0), ([1642, 1643, 1644, 125], 0), ([], 0), ([], 0), ([821, 822, 823, 116], 0), ([], 0), ([1650, 1651, 1652, 125], 0), ([], 0), ([], 0), ([], 0), ([], 0)]) (by decide +kernel)
end
section
/-! the law's rows -/
def law_b3 : List (Nat × ev_Row) := [(555, 0, 1, 0, 0, []), (556, 16, 0, 0, 0, []), (557, 65, 0, 0, 0, []), (558, 200, 24, 66, 1, []), (561, 9, 2, 0, 0, []), (562, 9, 0, 0, 0, []), (563, 4, 4, 0, 0, []), (565, 0, 1, 0, 0, []), (566, 16, 0, 0, 0, []), (567, 65, 0, 0, 0, []), (568, 200, 25, 69, 1, []), (571, 35, 1181, 0, 0, []), (576, 9, 1, 0, 0, []), (577, 9, 0, 0, 0, []), (578, 4, 4, 0, 0, []), (580, 0, 1, 0, 0, []), (581, 16, 0, 0, 0, []), (582, 65, 0, 0, 0, []), (583, 200, 26, 70, 1, []), (586, 9, 2, 0, 0, []), (587, 9, 0, 0, 0, []), (588, 4, 4, 0, 0, []), (590, 0, 1, 0, 0, []), (591, 16, 0, 0, 0, []), (592, 65, 0, 0, 0, []), (593, 200, 27, 73, 1, []), (596, 35, 1156, 0, 0, []), (601, 9, 1, 0, 0, []), (602, 9, 0, 0, 0, []), (603, 4, 4, 0, 0, []), (605, 0, 1, 0, 0, []), (606, 16, 0, 0, 0, []), (607, 65, 0, 0, 0, []), (608, 9, 0, 0, 0, []), (609, 4, 4, 0, 0, []), (611, 0, 2, 0, 0, []), (612, 16, 0, 0, 0, []), (613, 65, 0, 0, 0, []), (614, 200, 28, 74, 2, []), (617, 9, 2, 0, 0, []), (618, 9, 0, 0, 0, []), (619, 4, 4, 0, 0, []), (621, 0, 1, 0, 0, []), (622, 16, 0, 0, 0, []), (623, 65, 0, 0, 0, []), (624, 9, 0, 0, 0, []), (625, 4, 4, 0, 0, []), (627, 0, 2, 0, 0, []), (628, 16, 0, 0, 0, []), (629, 65, 0, 0, 0, []), (630, 200, 29, 77, 2, []), (633, 35, 1119, 0, 0, []), (638, 9, 1, 0, 0, []), (639, 9, 0, 0, 0, []), (640, 4, 4, 0, 0, []), (642, 0, 1, 0, 0, []), (643, 16, 0, 0, 0, []), (644, 65, 0, 0, 0, []), (645, 9, 0, 0, 0, []), (646, 4, 4, 0, 0, [])]
set_option maxRecDepth 1000000 in
theorem law_b3_ok : ∀ q ∈ law_b3, ev_RowOK ev_ms (law_P 7) code q := ev_chkAll_ok (ps := [([], 0), ([], 0), ([], 0), ([831, 832, 833, 116], 0), ([], 0), ([], 0), ([], 0), ([], 0), ([], 0), ([], 0), ([1662, 1663, 1664, 125], 0), ([], 0), ([], 0), ([], 0), ([], 0), ([], 0), ([], 0), ([], 0), ([839, 840, 841, 116], 0), ([], 0), ([], 0), ([], 0), ([], 0), ([], 0), ([], 0), ([1666, 1667, 1668, 125], 0), ([], 0), ([], 0), ([], 0), ([], 0), ([], 0), ([], 0), ([], 0), ([], 0), ([], 0), ([], 0), ([], 0), ([], 0), ([847, 848, 849, 116], 0), ([], 0), ([], 0), ([], 0), ([], 0), ([], 0), ([], 0), ([], 0), ([], 0), ([], 0), ([], 0), ([], 0), ([1674, 1675, 1676, 125], 0), ([], 0), ([], 0), ([], 0), ([], 0), ([], 0), ([], 0), ([], 0), ([], 0), ([], 0)]) (by decide +kernel)
def law_b4 : List (Nat × ev_Row) := [(648, 0, 2, 0, 0, []), (649, 16, 0, 0, 0, []), (650, 65, 0, 0, 0, []), (651, 200, 30, 78, 2, []), (654, 9, 2, 0, 0, []), (655, 9, 0, 0, 0, []), (656, 4, 4, 0, 0, []), (658, 0, 1, 0, 0, []), (659, 16, 0, 0, 0, []), (660, 65, 0, 0, 0, []), (661, 9, 0, 0, 0, []), (662, 4, 4, 0, 0, []), (664, 0, 2, 0, 0, []), (665, 16, 0, 0, 0, []), (666, 65, 0, 0, 0, []), (667, 200, 31, 81, 2, []), (670, 35, 1082, 0, 0, []), (675, 9, 1, 0, 0, []), (676, 9, 0, 0, 0, []), (677, 4, 4, 0, 0, []), (679, 0, 1, 0, 0, []), (680, 16, 0, 0, 0, []), (681, 65, 0, 0, 0, []), (682, 200, 32, 82, 1, []), (685, 9, 2, 0, 0, []), (686, 9, 0, 0, 0, []), (687, 4, 4, 0, 0, []), (689, 0, 1, 0, 0, []), (690, 16, 0, 0, 0, []), (691, 65, 0, 0, 0, []), (692, 200, 33, 85, 1, []), (695, 35, 1057, 0, 0, []), (700, 9, 1, 0, 0, []), (701, 200, 34, 86, 0, []), (704, 9, 2, 0, 0, []), (705, 200, 35, 89, 0, []), (708, 35, 1044, 0, 0, []), (713, 9, 1, 0, 0, []), (714, 200, 36, 90, 0, []), (717, 9, 2, 0, 0, []), (718, 200, 37, 93, 0, []), (721, 35, 1031, 0, 0, []), (726, 9, 1, 0, 0, []), (727, 9, 0, 0, 0, []), (728, 4, 4, 0, 0, []), (730, 0, 1, 0, 0, []), (731, 16, 0, 0, 0, []), (732, 65, 0, 0, 0, []), (733, 9, 0, 0, 0, []), (734, 4, 4, 0, 0, []), (736, 0, 2, 0, 0, []), (737, 16, 0, 0, 0, []), (738, 65, 0, 0, 0, []), (739, 200, 38, 94, 2, []), (742, 9, 2, 0, 0, []), (743, 9, 0, 0, 0, []), (744, 4, 4, 0, 0, []), (746, 0, 1, 0, 0, []), (747, 16, 0, 0, 0, []), (748, 65, 0, 0, 0, [])]
set_option maxRecDepth 1000000 in
theorem law_b4_ok : ∀ q ∈ law_b4, ev_RowOK ev_ms (law_P 7) code q := ev_chkAll_ok (ps := [([], 0), ([], 0), ([], 0), ([864, 865, 866, 116], 0), ([], 0), ([], 0), ([], 0), ([], 0), ([], 0), ([], 0), ([], 0), ([], 0), ([], 0), ([], 0), ([], 0), ([1690, 1691, 1692, 125], 0), ([], 0), ([], 0), ([], 0), ([], 0), ([], 0), ([], 0), ([], 0), ([868, 869, 870, 116], 0), ([], 0), ([], 0), ([], 0), ([], 0), ([], 0), ([], 0), ([1694, 1695, 1696, 125], 0), ([], 0), ([], 0), ([876, 877, 878, 116], 0), ([], 0), ([1702, 1703, 1704, 125], 0), ([], 0), ([], 0), ([880, 881, 882, 116], 0), ([], 0), ([1706, 1707, 1708, 125], 0), ([], 0), ([], 0), ([], 0), ([], 0), ([], 0), ([], 0), ([], 0), ([], 0), ([], 0), ([], 0), ([], 0), ([], 0), ([884, 885, 886, 116], 0), ([], 0), ([], 0), ([], 0), ([], 0), ([], 0), ([], 0)]) (by decide +kernel)
def law_b5 : List (Nat × ev_Row) := [(749, 9, 0, 0, 0, []), (750, 4, 4, 0, 0, []), (752, 0, 2, 0, 0, []), (753, 16, 0, 0, 0, []), (754, 65, 0, 0, 0, []), (755, 200, 39, 97, 2, []), (758, 35, 994, 0, 0, []), (763, 9, 1, 0, 0, []), (764, 9, 0, 0, 0, []), (765, 4, 4, 0, 0, []), (767, 0, 1, 0, 0, []), (768, 16, 0, 0, 0, []), (769, 65, 0, 0, 0, []), (770, 200, 40, 98, 1, []), (773, 9, 2, 0, 0, []), (774, 9, 0, 0, 0, []), (775, 4, 4, 0, 0, []), (777, 0, 1, 0, 0, []), (778, 16, 0, 0, 0, []), (779, 65, 0, 0, 0, []), (780, 200, 41, 101, 1, []), (783, 35, 969, 0, 0, []), (788, 9, 1, 0, 0, []), (789, 9, 0, 0, 0, []), (790, 4, 4, 0, 0, []), (792, 0, 1, 0, 0, []), (793, 16, 0, 0, 0, []), (794, 65, 0, 0, 0, []), (795, 200, 42, 102, 1, []), (798, 9, 2, 0, 0, []), (799, 9, 0, 0, 0, []), (800, 4, 4, 0, 0, []), (802, 0, 1, 0, 0, []), (803, 16, 0, 0, 0, []), (804, 65, 0, 0, 0, []), (805, 200, 43, 105, 1, []), (808, 35, 944, 0, 0, []), (813, 9, 1, 0, 0, []), (814, 9, 0, 0, 0, []), (815, 4, 4, 0, 0, []), (817, 0, 1, 0, 0, []), (818, 16, 0, 0, 0, []), (819, 65, 0, 0, 0, []), (820, 200, 44, 106, 1, []), (823, 9, 2, 0, 0, []), (824, 9, 0, 0, 0, []), (825, 4, 4, 0, 0, []), (827, 0, 1, 0, 0, []), (828, 16, 0, 0, 0, []), (829, 65, 0, 0, 0, []), (830, 200, 45, 109, 1, []), (833, 35, 919, 0, 0, []), (838, 9, 1, 0, 0, []), (839, 9, 0, 0, 0, []), (840, 4, 4, 0, 0, []), (842, 0, 1, 0, 0, []), (843, 16, 0, 0, 0, []), (844, 65, 0, 0, 0, []), (845, 200, 46, 110, 1, []), (848, 9, 2, 0, 0, [])]
set_option maxRecDepth 1000000 in
theorem law_b5_ok : ∀ q ∈ law_b5, ev_RowOK ev_ms (law_P 7) code q := ev_chkAll_ok (ps := [([], 0), ([], 0), ([], 0), ([], 0), ([], 0), ([1710, 1711, 1712, 125], 0), ([], 0), ([], 0), ([], 0), ([], 0), ([], 0), ([], 0), ([], 0), ([920, 921, 922, 116], 0), ([], 0), ([], 0), ([], 0), ([], 0), ([], 0), ([], 0), ([1730, 1731, 1732, 125], 0), ([], 0), ([], 0), ([], 0), ([], 0), ([], 0), ([], 0), ([], 0), ([933, 934, 935, 116], 0), ([], 0), ([], 0), ([], 0), ([], 0), ([], 0), ([], 0), ([1741, 1742, 1743, 125], 0), ([], 0), ([], 0), ([], 0), ([], 0), ([], 0), ([], 0), ([], 0), ([937, 938, 939, 116], 0), ([], 0), ([], 0), ([], 0), ([], 0), ([], 0), ([], 0), ([1745, 1746, 1747, 125], 0), ([], 0), ([], 0), ([], 0), ([], 0), ([], 0), ([], 0), ([], 0), ([941, 942, 943, 116], 0), ([], 0)]) (by decide +kernel)
end
section
/-! the law's rows -/
def law_b6 : List (Nat × ev_Row) := [(849, 9, 0, 0, 0, []), (850, 4, 4, 0, 0, []), (852, 0, 1, 0, 0, []), (853, 16, 0, 0, 0, []), (854, 65, 0, 0, 0, []), (855, 200, 47, 113, 1, []), (858, 35, 894, 0, 0, []), (863, 9, 1, 0, 0, []), (864, 9, 0, 0, 0, []), (865, 4, 4, 0, 0, []), (867, 0, 1, 0, 0, []), (868, 16, 0, 0, 0, []), (869, 65, 0, 0, 0, []), (870, 9, 0, 0, 0, []), (871, 4, 4, 0, 0, []), (873, 0, 2, 0, 0, []), (874, 16, 0, 0, 0, []), (875, 65, 0, 0, 0, []), (876, 200, 48, 114, 2, []), (879, 9, 2, 0, 0, []), (880, 9, 0, 0, 0, []), (881, 4, 4, 0, 0, []), (883, 0, 1, 0, 0, []), (884, 16, 0, 0, 0, []), (885, 65, 0, 0, 0, []), (886, 9, 0, 0, 0, []), (887, 4, 4, 0, 0, []), (889, 0, 2, 0, 0, []), (890, 16, 0, 0, 0, []), (891, 65, 0, 0, 0, []), (892, 200, 49, 117, 2, []), (895, 35, 857, 0, 0, []), (900, 9, 1, 0, 0, []), (901, 9, 0, 0, 0, []), (902, 4, 4, 0, 0, []), (904, 0, 1, 0, 0, []), (905, 16, 0, 0, 0, []), (906, 65, 0, 0, 0, []), (907, 200, 50, 118, 1, []), (910, 9, 2, 0, 0, []), (911, 9, 0, 0, 0, []), (912, 4, 4, 0, 0, []), (914, 0, 1, 0, 0, []), (915, 16, 0, 0, 0, []), (916, 65, 0, 0, 0, []), (917, 200, 51, 121, 1, []), (920, 35, 832, 0, 0, []), (925, 9, 1, 0, 0, []), (926, 9, 0, 0, 0, []), (927, 4, 4, 0, 0, []), (929, 0, 1, 0, 0, []), (930, 16, 0, 0, 0, []), (931, 65, 0, 0, 0, []), (932, 200, 52, 122, 1, []), (935, 9, 2, 0, 0, []), (936, 9, 0, 0, 0, []), (937, 4, 4, 0, 0, []), (939, 0, 1, 0, 0, []), (940, 16, 0, 0, 0, []), (941, 65, 0, 0, 0, [])]
set_option maxRecDepth 1000000 in
theorem law_b6_ok : ∀ q ∈ law_b6, ev_RowOK ev_ms (law_P 7) code q := ev_chkAll_ok (ps := [([], 0), ([], 0), ([], 0), ([], 0), ([], 0), ([1749, 1750, 1751, 125], 0), ([], 0), ([], 0), ([], 0), ([], 0), ([], 0), ([], 0), ([], 0), ([], 0), ([], 0), ([], 0), ([], 0), ([], 0), ([954, 955, 956, 116], 0), ([], 0), ([], 0), ([], 0), ([], 0), ([], 0), ([], 0), ([], 0), ([], 0), ([], 0), ([], 0), ([], 0), ([1753, 1754, 1755, 125], 0), ([], 0), ([], 0), ([], 0), ([], 0), ([], 0), ([], 0), ([], 0), ([967, 968, 969, 116], 0), ([], 0), ([], 0), ([], 0), ([], 0), ([], 0), ([], 0), ([1761, 1762, 1763, 125], 0), ([], 0), ([], 0), ([], 0), ([], 0), ([], 0), ([], 0), ([], 0), ([971, 972, 973, 116], 0), ([], 0), ([], 0), ([], 0), ([], 0), ([], 0), ([], 0)]) (by decide +kernel)
def law_b7 : List (Nat × ev_Row) := [(942, 200, 53, 125, 1, []), (945, 35, 807, 0, 0, []), (950, 9, 1, 0, 0, []), (951, 9, 0, 0, 0, []), (952, 4, 4, 0, 0, []), (954, 0, 1, 0, 0, []), (955, 16, 0, 0, 0, []), (956, 65, 0, 0, 0, []), (957, 200, 54, 126, 1, []), (960, 9, 2, 0, 0, []), (961, 9, 0, 0, 0, []), (962, 4, 4, 0, 0, []), (964, 0, 1, 0, 0, []), (965, 16, 0, 0, 0, []), (966, 65, 0, 0, 0, []), (967, 200, 55, 129, 1, []), (970, 35, 782, 0, 0, []), (975, 9, 1, 0, 0, []), (976, 200, 56, 130, 0, []), (979, 9, 2, 0, 0, []), (980, 200, 57, 133, 0, []), (983, 35, 769, 0, 0, []), (988, 9, 1, 0, 0, []), (989, 200, 58, 134, 0, []), (992, 9, 2, 0, 0, []), (993, 200, 59, 137, 0, []), (996, 35, 756, 0, 0, []), (1001, 9, 1, 0, 0, []), (1002, 200, 60, 138, 0, []), (1005, 9, 2, 0, 0, []), (1006, 200, 61, 141, 0, []), (1009, 35, 743, 0, 0, []), (1014, 9, 1, 0, 0, []), (1015, 9, 0, 0, 0, []), (1016, 4, 4, 0, 0, []), (1018, 0, 1, 0, 0, []), (1019, 16, 0, 0, 0, []), (1020, 65, 0, 0, 0, []), (1021, 9, 0, 0, 0, []), (1022, 4, 4, 0, 0, []), (1024, 0, 2, 0, 0, []), (1025, 16, 0, 0, 0, []), (1026, 65, 0, 0, 0, []), (1027, 200, 62, 142, 2, []), (1030, 9, 2, 0, 0, []), (1031, 9, 0, 0, 0, []), (1032, 4, 4, 0, 0, []), (1034, 0, 1, 0, 0, []), (1035, 16, 0, 0, 0, []), (1036, 65, 0, 0, 0, []), (1037, 9, 0, 0, 0, []), (1038, 4, 4, 0, 0, []), (1040, 0, 2, 0, 0, []), (1041, 16, 0, 0, 0, []), (1042, 65, 0, 0, 0, []), (1043, 200, 63, 145, 2, []), (1046, 35, 706, 0, 0, []), (1051, 9, 1, 0, 0, []), (1052, 200, 64, 146, 0, []), (1055, 9, 2, 0, 0, [])]
set_option maxRecDepth 1000000 in
theorem law_b7_ok : ∀ q ∈ law_b7, ev_RowOK ev_ms (law_P 7) code q := ev_chkAll_ok (ps := [([1765, 1766, 1767, 125], 0), ([], 0), ([], 0), ([], 0), ([], 0), ([], 0), ([], 0), ([], 0), ([975, 976, 977, 116], 0), ([], 0), ([], 0), ([], 0), ([], 0), ([], 0), ([], 0), ([1769, 1770, 1771, 125], 0), ([], 0), ([], 0), ([980, 981, 982, 116], 0), ([], 0), ([1776, 1777, 1778, 125], 0), ([], 0), ([], 0), ([992, 993, 994, 116], 0), ([], 0), ([1788, 1789, 1790, 125], 0), ([], 0), ([], 0), ([998, 999, 1000, 116], 0), ([], 0), ([1792, 1793, 1794, 125], 0), ([], 0), ([], 0), ([], 0), ([], 0), ([], 0), ([], 0), ([], 0), ([], 0), ([], 0), ([], 0), ([], 0), ([], 0), ([1010, 1011, 1012, 116], 0), ([], 0), ([], 0), ([], 0), ([], 0), ([], 0), ([], 0), ([], 0), ([], 0), ([], 0), ([], 0), ([], 0), ([1796, 1797, 1798, 125], 0), ([], 0), ([], 0), ([1026, 1027, 1028, 116], 0), ([], 0)]) (by decide +kernel)
def law_b8 : List (Nat × ev_Row) := [(1056, 200, 65, 149, 0, []), (1059, 35, 693, 0, 0, []), (1064, 9, 1, 0, 0, []), (1065, 9, 0, 0, 0, []), (1066, 4, 4, 0, 0, []), (1068, 0, 1, 0, 0, []), (1069, 16, 0, 0, 0, []), (1070, 65, 0, 0, 0, []), (1071, 200, 66, 150, 1, []), (1074, 9, 2, 0, 0, []), (1075, 9, 0, 0, 0, []), (1076, 4, 4, 0, 0, []), (1078, 0, 1, 0, 0, []), (1079, 16, 0, 0, 0, []), (1080, 65, 0, 0, 0, []), (1081, 200, 67, 153, 1, []), (1084, 35, 668, 0, 0, []), (1089, 9, 1, 0, 0, []), (1090, 200, 68, 154, 0, []), (1093, 9, 2, 0, 0, []), (1094, 200, 69, 157, 0, []), (1097, 35, 655, 0, 0, []), (1102, 9, 1, 0, 0, []), (1103, 9, 0, 0, 0, []), (1104, 4, 4, 0, 0, []), (1106, 0, 1, 0, 0, []), (1107, 16, 0, 0, 0, []), (1108, 65, 0, 0, 0, []), (1109, 200, 70, 158, 1, []), (1112, 9, 2, 0, 0, []), (1113, 9, 0, 0, 0, []), (1114, 4, 4, 0, 0, []), (1116, 0, 1, 0, 0, []), (1117, 16, 0, 0, 0, []), (1118, 65, 0, 0, 0, []), (1119, 200, 71, 161, 1, []), (1122, 35, 630, 0, 0, []), (1127, 9, 1, 0, 0, []), (1128, 200, 72, 162, 0, []), (1131, 9, 2, 0, 0, []), (1132, 200, 73, 165, 0, []), (1135, 35, 617, 0, 0, []), (1140, 9, 1, 0, 0, []), (1141, 200, 74, 166, 0, []), (1144, 9, 2, 0, 0, []), (1145, 200, 75, 169, 0, []), (1148, 35, 604, 0, 0, []), (1153, 9, 1, 0, 0, []), (1154, 200, 76, 170, 0, []), (1157, 9, 2, 0, 0, []), (1158, 200, 77, 173, 0, []), (1161, 35, 591, 0, 0, []), (1166, 9, 1, 0, 0, []), (1167, 200, 78, 174, 0, []), (1170, 9, 2, 0, 0, []), (1171, 200, 79, 177, 0, []), (1174, 35, 578, 0, 0, []), (1179, 9, 1, 0, 0, []), (1180, 9, 0, 0, 0, []), (1181, 4, 4, 0, 0, [])]
set_option maxRecDepth 1000000 in
theorem law_b8_ok : ∀ q ∈ law_b8, ev_RowOK ev_ms (law_P 7) code q := ev_chkAll_ok (ps := [([1808, 1809, 1810, 125], 0), ([], 0), ([], 0), ([], 0), ([], 0), ([], 0), ([], 0), ([], 0), ([1044, 1045, 1046, 116], 0), ([], 0), ([], 0), ([], 0), ([], 0), ([], 0), ([], 0), ([1821, 1822, 1823, 125], 0), ([], 0), ([], 0), ([1048, 1049, 1050, 116], 0), ([], 0), ([1825, 1826, 1827, 125], 0), ([], 0), ([], 0), ([], 0), ([], 0), ([], 0), ([], 0), ([], 0), ([1066, 1067, 1068, 116], 0), ([], 0), ([], 0), ([], 0), ([], 0), ([], 0), ([], 0), ([1837, 1838, 1839, 125], 0), ([], 0), ([], 0), ([1070, 1071, 1072, 116], 0), ([], 0), ([1841, 1842, 1843, 125], 0), ([], 0), ([], 0), ([1078, 1079, 1080, 116], 0), ([], 0), ([1845, 1846, 1847, 125], 0), ([], 0), ([], 0), ([1086, 1087, 1088, 116], 0), ([], 0), ([1849, 1850, 1851, 125], 0), ([], 0), ([], 0), ([1101, 1102, 1103, 116], 0), ([], 0), ([1861, 1862, 1863, 125], 0), ([], 0), ([], 0), ([], 0), ([], 0)]) (by decide +kernel)
end
section
/-! the law's rows -/
def law_b9 : List (Nat × ev_Row) := [(1183, 0, 1, 0, 0, []), (1184, 16, 0, 0, 0, []), (1185, 65, 0, 0, 0, []), (1186, 9, 0, 0, 0, []), (1187, 4, 4, 0, 0, []), (1189, 0, 2, 0, 0, []), (1190, 16, 0, 0, 0, []), (1191, 65, 0, 0, 0, []), (1192, 41, 7, 0, 0, []), (1195, 0, 1, 0, 0, []), (1196, 47, 4, 0, 0, []), (1199, 0, 0, 0, 0, []), (1200, 9, 0, 0, 0, []), (1201, 4, 4, 0, 0, []), (1203, 0, 3, 0, 0, []), (1204, 16, 0, 0, 0, []), (1205, 65, 0, 0, 0, []), (1206, 41, 7, 0, 0, []), (1209, 0, 1, 0, 0, []), (1210, 47, 4, 0, 0, []), (1213, 0, 0, 0, 0, []), (1214, 9, 0, 0, 0, []), (1215, 4, 4, 0, 0, []), (1217, 0, 4, 0, 0, []), (1218, 16, 0, 0, 0, []), (1219, 65, 0, 0, 0, []), (1220, 41, 7, 0, 0, []), (1223, 0, 1, 0, 0, []), (1224, 47, 4, 0, 0, []), (1227, 0, 0, 0, 0, []), (1228, 200, 80, 178, 4, []), (1231, 9, 2, 0, 0, []), (1232, 9, 0, 0, 0, []), (1233, 4, 4, 0, 0, []), (1235, 0, 1, 0, 0, []), (1236, 16, 0, 0, 0, []), (1237, 65, 0, 0, 0, []), (1238, 9, 0, 0, 0, []), (1239, 4, 4, 0, 0, []), (1241, 0, 2, 0, 0, []), (1242, 16, 0, 0, 0, []), (1243, 65, 0, 0, 0, []), (1244, 41, 7, 0, 0, []), (1247, 0, 1, 0, 0, []), (1248, 47, 4, 0, 0, []), (1251, 0, 0, 0, 0, []), (1252, 9, 0, 0, 0, []), (1253, 4, 4, 0, 0, []), (1255, 0, 3, 0, 0, []), (1256, 16, 0, 0, 0, []), (1257, 65, 0, 0, 0, []), (1258, 41, 7, 0, 0, []), (1261, 0, 1, 0, 0, []), (1262, 47, 4, 0, 0, []), (1265, 0, 0, 0, 0, []), (1266, 9, 0, 0, 0, []), (1267, 4, 4, 0, 0, []), (1269, 0, 4, 0, 0, []), (1270, 16, 0, 0, 0, []), (1271, 65, 0, 0, 0, [])]
set_option maxRecDepth 1000000 in
theorem law_b9_ok : ∀ q ∈ law_b9, ev_RowOK ev_ms (law_P 7) code q := ev_chkAll_ok (ps := [([], 0), ([], 0), ([], 0), ([], 0), ([], 0), ([], 0), ([], 0), ([], 0), ([], 0), ([], 0), ([], 0), ([], 0), ([], 0), ([], 0), ([], 0), ([], 0), ([], 0), ([], 0), ([], 0), ([], 0), ([], 0), ([], 0), ([], 0), ([], 0), ([], 0), ([], 0), ([], 0), ([], 0), ([], 0), ([], 0), ([1106, 1107, 1108, 116], 0), ([], 0), ([], 0), ([], 0), ([], 0), ([], 0), ([], 0), ([], 0), ([], 0), ([], 0), ([], 0), ([], 0), ([], 0), ([], 0), ([], 0), ([], 0), ([], 0), ([], 0), ([], 0), ([], 0), ([], 0), ([], 0), ([], 0), ([], 0), ([], 0), ([], 0), ([], 0), ([], 0), ([], 0), ([], 0)]) (by decide +kernel)
def law_b10 : List (Nat × ev_Row) := [(1272, 41, 7, 0, 0, []), (1275, 0, 1, 0, 0, []), (1276, 47, 4, 0, 0, []), (1279, 0, 0, 0, 0, []), (1280, 200, 81, 182, 4, []), (1283, 35, 469, 0, 0, []), (1288, 9, 1, 0, 0, []), (1289, 9, 0, 0, 0, []), (1290, 4, 4, 0, 0, []), (1292, 0, 1, 0, 0, []), (1293, 16, 0, 0, 0, []), (1294, 65, 0, 0, 0, []), (1295, 200, 82, 183, 1, []), (1298, 9, 2, 0, 0, []), (1299, 9, 0, 0, 0, []), (1300, 4, 4, 0, 0, []), (1302, 0, 1, 0, 0, []), (1303, 16, 0, 0, 0, []), (1304, 65, 0, 0, 0, []), (1305, 200, 83, 186, 1, []), (1308, 35, 444, 0, 0, []), (1313, 9, 1, 0, 0, []), (1314, 9, 0, 0, 0, []), (1315, 4, 4, 0, 0, []), (1317, 0, 1, 0, 0, []), (1318, 16, 0, 0, 0, []), (1319, 65, 0, 0, 0, []), (1320, 200, 84, 187, 1, []), (1323, 9, 2, 0, 0, []), (1324, 9, 0, 0, 0, []), (1325, 4, 4, 0, 0, []), (1327, 0, 1, 0, 0, []), (1328, 16, 0, 0, 0, []), (1329, 65, 0, 0, 0, []), (1330, 200, 85, 190, 1, []), (1333, 35, 419, 0, 0, []), (1338, 9, 1, 0, 0, []), (1339, 9, 0, 0, 0, []), (1340, 4, 4, 0, 0, []), (1342, 0, 1, 0, 0, []), (1343, 16, 0, 0, 0, []), (1344, 65, 0, 0, 0, []), (1345, 9, 0, 0, 0, []), (1346, 4, 4, 0, 0, []), (1348, 0, 2, 0, 0, []), (1349, 16, 0, 0, 0, []), (1350, 65, 0, 0, 0, []), (1351, 41, 7, 0, 0, []), (1354, 0, 1, 0, 0, []), (1355, 47, 4, 0, 0, []), (1358, 0, 0, 0, 0, []), (1359, 200, 86, 191, 2, []), (1362, 9, 2, 0, 0, []), (1363, 9, 0, 0, 0, []), (1364, 4, 4, 0, 0, []), (1366, 0, 1, 0, 0, []), (1367, 16, 0, 0, 0, []), (1368, 65, 0, 0, 0, []), (1369, 9, 0, 0, 0, []), (1370, 4, 4, 0, 0, [])]
set_option maxRecDepth 1000000 in
theorem law_b10_ok : ∀ q ∈ law_b10, ev_RowOK ev_ms (law_P 7) code q := ev_chkAll_ok (ps := [([], 0), ([], 0), ([], 0), ([], 0), ([1865, 1866, 1867, 125], 0), ([], 0), ([], 0), ([], 0), ([], 0), ([], 0), ([], 0), ([], 0), ([1117, 1118, 1119, 116], 0), ([], 0), ([], 0), ([], 0), ([], 0), ([], 0), ([], 0), ([1872, 1873, 1874, 125], 0), ([], 0), ([], 0), ([], 0), ([], 0), ([], 0), ([], 0), ([], 0), ([1124, 1125, 1126, 116], 0), ([], 0), ([], 0), ([], 0), ([], 0), ([], 0), ([], 0), ([1883, 1884, 1885, 125], 0), ([], 0), ([], 0), ([], 0), ([], 0), ([], 0), ([], 0), ([], 0), ([], 0), ([], 0), ([], 0), ([], 0), ([], 0), ([], 0), ([], 0), ([], 0), ([], 0), ([1128, 1129, 1130, 116], 0), ([], 0), ([], 0), ([], 0), ([], 0), ([], 0), ([], 0), ([], 0), ([], 0)]) (by decide +kernel)
def law_b11 : List (Nat × ev_Row) := [(1372, 0, 2, 0, 0, []), (1373, 16, 0, 0, 0, []), (1374, 65, 0, 0, 0, []), (1375, 41, 7, 0, 0, []), (1378, 0, 1, 0, 0, []), (1379, 47, 4, 0, 0, []), (1382, 0, 0, 0, 0, []), (1383, 200, 87, 195, 2, []), (1386, 30, 0, 0, 0, []), (1387, 41, 365, 0, 0, []), (1392, 9, 1, 0, 0, []), (1393, 9, 0, 0, 0, []), (1394, 4, 4, 0, 0, []), (1396, 0, 1, 0, 0, []), (1397, 16, 0, 0, 0, []), (1398, 65, 0, 0, 0, []), (1399, 9, 0, 0, 0, []), (1400, 4, 4, 0, 0, []), (1402, 0, 2, 0, 0, []), (1403, 16, 0, 0, 0, []), (1404, 65, 0, 0, 0, []), (1405, 41, 7, 0, 0, []), (1408, 0, 1, 0, 0, []), (1409, 47, 4, 0, 0, []), (1412, 0, 0, 0, 0, []), (1413, 200, 88, 196, 2, []), (1416, 9, 2, 0, 0, []), (1417, 9, 0, 0, 0, []), (1418, 4, 4, 0, 0, []), (1420, 0, 1, 0, 0, []), (1421, 16, 0, 0, 0, []), (1422, 65, 0, 0, 0, []), (1423, 9, 0, 0, 0, []), (1424, 4, 4, 0, 0, []), (1426, 0, 2, 0, 0, []), (1427, 16, 0, 0, 0, []), (1428, 65, 0, 0, 0, []), (1429, 41, 7, 0, 0, []), (1432, 0, 1, 0, 0, []), (1433, 47, 4, 0, 0, []), (1436, 0, 0, 0, 0, []), (1437, 200, 89, 199, 2, []), (1440, 30, 0, 0, 0, []), (1441, 41, 311, 0, 0, []), (1446, 9, 1, 0, 0, []), (1447, 9, 0, 0, 0, []), (1448, 4, 4, 0, 0, []), (1450, 0, 1, 0, 0, []), (1451, 16, 0, 0, 0, []), (1452, 65, 0, 0, 0, []), (1453, 9, 0, 0, 0, []), (1454, 4, 4, 0, 0, []), (1456, 0, 2, 0, 0, []), (1457, 16, 0, 0, 0, []), (1458, 65, 0, 0, 0, []), (1459, 9, 0, 0, 0, []), (1460, 4, 4, 0, 0, []), (1462, 0, 3, 0, 0, []), (1463, 16, 0, 0, 0, []), (1464, 65, 0, 0, 0, [])]
set_option maxRecDepth 1000000 in
theorem law_b11_ok : ∀ q ∈ law_b11, ev_RowOK ev_ms (law_P 7) code q := ev_chkAll_ok (ps := [([], 0), ([], 0), ([], 0), ([], 0), ([], 0), ([], 0), ([], 0), ([1887, 1888, 1889, 125], 0), ([], 0), ([], 0), ([], 0), ([], 0), ([], 0), ([], 0), ([], 0), ([], 0), ([], 0), ([], 0), ([], 0), ([], 0), ([], 0), ([], 0), ([], 0), ([], 0), ([], 0), ([1146, 1147, 1148, 116], 0), ([], 0), ([], 0), ([], 0), ([], 0), ([], 0), ([], 0), ([], 0), ([], 0), ([], 0), ([], 0), ([], 0), ([], 0), ([], 0), ([], 0), ([], 0), ([1898, 1899, 1900, 125], 0), ([], 0), ([], 0), ([], 0), ([], 0), ([], 0), ([], 0), ([], 0), ([], 0), ([], 0), ([], 0), ([], 0), ([], 0), ([], 0), ([], 0), ([], 0), ([], 0), ([], 0), ([], 0)]) (by decide +kernel)
end
section
/-! the law's rows -/
def law_b12 : List (Nat × ev_Row) := [(1465, 200, 90, 200, 3, []), (1468, 9, 2, 0, 0, []), (1469, 9, 0, 0, 0, []), (1470, 4, 4, 0, 0, []), (1472, 0, 1, 0, 0, []), (1473, 16, 0, 0, 0, []), (1474, 65, 0, 0, 0, []), (1475, 9, 0, 0, 0, []), (1476, 4, 4, 0, 0, []), (1478, 0, 2, 0, 0, []), (1479, 16, 0, 0, 0, []), (1480, 65, 0, 0, 0, []), (1481, 9, 0, 0, 0, []), (1482, 4, 4, 0, 0, []), (1484, 0, 3, 0, 0, []), (1485, 16, 0, 0, 0, []), (1486, 65, 0, 0, 0, []), (1487, 200, 91, 204, 3, []), (1490, 35, 262, 0, 0, []), (1495, 9, 1, 0, 0, []), (1496, 9, 0, 0, 0, []), (1497, 4, 4, 0, 0, []), (1499, 0, 1, 0, 0, []), (1500, 16, 0, 0, 0, []), (1501, 65, 0, 0, 0, []), (1502, 9, 0, 0, 0, []), (1503, 4, 4, 0, 0, []), (1505, 0, 2, 0, 0, []), (1506, 16, 0, 0, 0, []), (1507, 65, 0, 0, 0, []), (1508, 9, 0, 0, 0, []), (1509, 4, 4, 0, 0, []), (1511, 0, 3, 0, 0, []), (1512, 16, 0, 0, 0, []), (1513, 65, 0, 0, 0, []), (1514, 200, 92, 205, 3, []), (1517, 9, 2, 0, 0, []), (1518, 9, 0, 0, 0, []), (1519, 4, 4, 0, 0, []), (1521, 0, 1, 0, 0, []), (1522, 16, 0, 0, 0, []), (1523, 65, 0, 0, 0, []), (1524, 9, 0, 0, 0, []), (1525, 4, 4, 0, 0, []), (1527, 0, 2, 0, 0, []), (1528, 16, 0, 0, 0, []), (1529, 65, 0, 0, 0, []), (1530, 9, 0, 0, 0, []), (1531, 4, 4, 0, 0, []), (1533, 0, 3, 0, 0, []), (1534, 16, 0, 0, 0, []), (1535, 65, 0, 0, 0, []), (1536, 200, 93, 208, 3, []), (1539, 35, 213, 0, 0, []), (1544, 9, 1, 0, 0, []), (1545, 9, 0, 0, 0, []), (1546, 4, 4, 0, 0, []), (1548, 0, 1, 0, 0, []), (1549, 16, 0, 0, 0, []), (1550, 65, 0, 0, 0, [])]
set_option maxRecDepth 1000000 in
theorem law_b12_ok : ∀ q ∈ law_b12, ev_RowOK ev_ms (law_P 7) code q := ev_chkAll_ok (ps := [([1156, 1157, 1158, 116], 0), ([], 0), ([], 0), ([], 0), ([], 0), ([], 0), ([], 0), ([], 0), ([], 0), ([], 0), ([], 0), ([], 0), ([], 0), ([], 0), ([], 0), ([], 0), ([], 0), ([1902, 1903, 1904, 125], 0), ([], 0), ([], 0), ([], 0), ([], 0), ([], 0), ([], 0), ([], 0), ([], 0), ([], 0), ([], 0), ([], 0), ([], 0), ([], 0), ([], 0), ([], 0), ([], 0), ([], 0), ([1171, 1172, 1173, 116], 0), ([], 0), ([], 0), ([], 0), ([], 0), ([], 0), ([], 0), ([], 0), ([], 0), ([], 0), ([], 0), ([], 0), ([], 0), ([], 0), ([], 0), ([], 0), ([], 0), ([1912, 1913, 1914, 125], 0), ([], 0), ([], 0), ([], 0), ([], 0), ([], 0), ([], 0), ([], 0)]) (by decide +kernel)
def law_b13 : List (Nat × ev_Row) := [(1551, 200, 94, 209, 1, []), (1554, 9, 2, 0, 0, []), (1555, 9, 0, 0, 0, []), (1556, 4, 4, 0, 0, []), (1558, 0, 1, 0, 0, []), (1559, 16, 0, 0, 0, []), (1560, 65, 0, 0, 0, []), (1561, 200, 95, 212, 1, []), (1564, 35, 188, 0, 0, []), (1569, 9, 1, 0, 0, []), (1570, 200, 96, 213, 0, []), (1573, 9, 2, 0, 0, []), (1574, 200, 97, 216, 0, []), (1577, 35, 175, 0, 0, []), (1582, 9, 1, 0, 0, []), (1583, 9, 0, 0, 0, []), (1584, 4, 4, 0, 0, []), (1586, 0, 1, 0, 0, []), (1587, 16, 0, 0, 0, []), (1588, 65, 0, 0, 0, []), (1589, 200, 98, 217, 1, []), (1592, 9, 2, 0, 0, []), (1593, 9, 0, 0, 0, []), (1594, 4, 4, 0, 0, []), (1596, 0, 1, 0, 0, []), (1597, 16, 0, 0, 0, []), (1598, 65, 0, 0, 0, []), (1599, 200, 99, 220, 1, []), (1602, 35, 150, 0, 0, []), (1607, 9, 1, 0, 0, []), (1608, 200, 100, 221, 0, []), (1611, 9, 2, 0, 0, []), (1612, 200, 101, 225, 0, []), (1615, 35, 137, 0, 0, []), (1620, 9, 1, 0, 0, []), (1621, 200, 102, 226, 0, []), (1624, 9, 2, 0, 0, []), (1625, 200, 103, 229, 0, []), (1628, 35, 124, 0, 0, []), (1633, 9, 1, 0, 0, []), (1634, 9, 0, 0, 0, []), (1635, 4, 4, 0, 0, []), (1637, 0, 1, 0, 0, []), (1638, 16, 0, 0, 0, []), (1639, 65, 0, 0, 0, []), (1640, 200, 104, 230, 1, []), (1643, 9, 2, 0, 0, []), (1644, 9, 0, 0, 0, []), (1645, 4, 4, 0, 0, []), (1647, 0, 1, 0, 0, []), (1648, 16, 0, 0, 0, []), (1649, 65, 0, 0, 0, []), (1650, 200, 105, 234, 1, []), (1653, 35, 99, 0, 0, []), (1658, 9, 1, 0, 0, []), (1659, 9, 0, 0, 0, []), (1660, 4, 4, 0, 0, []), (1662, 0, 1, 0, 0, []), (1663, 16, 0, 0, 0, []), (1664, 65, 0, 0, 0, [])]
set_option maxRecDepth 1000000 in
theorem law_b13_ok : ∀ q ∈ law_b13, ev_RowOK ev_ms (law_P 7) code q := ev_chkAll_ok (ps := [([1175, 1176, 1177, 116], 0), ([], 0), ([], 0), ([], 0), ([], 0), ([], 0), ([], 0), ([1916, 1917, 1918, 125], 0), ([], 0), ([], 0), ([1186, 1187, 1188, 116], 0), ([], 0), ([1924, 1925, 1926, 125], 0), ([], 0), ([], 0), ([], 0), ([], 0), ([], 0), ([], 0), ([], 0), ([1190, 1191, 1192, 116], 0), ([], 0), ([], 0), ([], 0), ([], 0), ([], 0), ([], 0), ([1928, 1929, 1930, 125], 0), ([], 0), ([], 0), ([1195, 1196, 1197, 116], 0), ([], 0), ([1932, 1933, 1934, 125], 0), ([], 0), ([], 0), ([1203, 1204, 1205, 116], 0), ([], 0), ([1940, 1941, 1942, 125], 0), ([], 0), ([], 0), ([], 0), ([], 0), ([], 0), ([], 0), ([], 0), ([1211, 1212, 1213, 116], 0), ([], 0), ([], 0), ([], 0), ([], 0), ([], 0), ([], 0), ([1944, 1945, 1946, 125], 0), ([], 0), ([], 0), ([], 0), ([], 0), ([], 0), ([], 0), ([], 0)]) (by decide +kernel)
def law_b14 : List (Nat × ev_Row) := [(1665, 9, 3, 0, 0, []), (1669, 10, 5, 0, 0, []), (1671, 9, 2, 0, 0, []), (1672, 9, 0, 0, 0, []), (1673, 4, 4, 0, 0, []), (1675, 0, 1, 0, 0, []), (1676, 16, 0, 0, 0, []), (1677, 65, 0, 0, 0, []), (1678, 200, 106, 240, 1, []), (1681, 10, 6, 0, 0, []), (1683, 9, 2, 0, 0, []), (1684, 200, 107, 241, 0, []), (1687, 4, 5, 0, 0, []), (1689, 35, 5, 0, 0, []), (1694, 4, 5, 0, 0, []), (1696, 42, 15, 0, 0, []), (1711, 47, 41, 0, 0, []), (1714, 9, 1, 0, 0, []), (1715, 9, 0, 0, 0, []), (1716, 4, 4, 0, 0, []), (1718, 0, 1, 0, 0, []), (1719, 16, 0, 0, 0, []), (1720, 65, 0, 0, 0, []), (1721, 200, 108, 244, 1, []), (1724, 9, 2, 0, 0, []), (1725, 9, 0, 0, 0, []), (1726, 4, 4, 0, 0, []), (1728, 0, 1, 0, 0, []), (1729, 16, 0, 0, 0, []), (1730, 65, 0, 0, 0, []), (1731, 200, 109, 247, 1, []), (1734, 35, 18, 0, 0, []), (1739, 9, 1, 0, 0, []), (1740, 200, 110, 248, 0, []), (1743, 9, 2, 0, 0, []), (1744, 200, 111, 251, 0, []), (1747, 35, 5, 0, 0, []), (1752, 34, 4, 6, 0, []), (1755, 47, (-1732), 0, 0, []), (1758, 0, 1, 0, 0, []), (1759, 210, 0, 0, 0, [])]
set_option maxRecDepth 1000000 in
theorem law_b14_ok : ∀ q ∈ law_b14, ev_RowOK ev_ms (law_P 7) code q := ev_chkAll_ok (ps := [([], 0), ([], 0), ([], 0), ([], 0), ([], 0), ([], 0), ([], 0), ([], 0), ([1948, 1949, 1950, 125], 0), ([], 0), ([], 0), ([1409, 1410, 1411, 125], 0), ([], 0), ([], 0), ([], 0), ([], 0), ([], 0), ([], 0), ([], 0), ([], 0), ([], 0), ([], 0), ([], 0), ([1219, 1220, 1221, 116], 0), ([], 0), ([], 0), ([], 0), ([], 0), ([], 0), ([], 0), ([1952, 1953, 1954, 125], 0), ([], 0), ([], 0), ([1224, 1225, 1226, 116], 0), ([], 0), ([1956, 1957, 1958, 125], 0), ([], 0), ([], 0), ([], 0), ([], 0), ([], 0)]) (by decide +kernel)
end
section
/-! all of them -/
def ms_0 : List ev_MI := [mr_0, mr_1, mr_2, mr_3, mr_4, mr_5, mr_6, mr_7, mr_8, mr_9, mr_10, mr_11, mr_12, mr_13, mr_14, mr_15]
theorem mb_0 : ∀ q ∈ ms_0, ev_MOK ev_ms q := List.forall_mem_cons.mpr ⟨mk_0, List.forall_mem_cons.mpr ⟨mk_1, List.forall_mem_cons.mpr ⟨mk_2, List.forall_mem_cons.mpr ⟨mk_3, List.forall_mem_cons.mpr ⟨mk_4, List.forall_mem_cons.mpr ⟨mk_5, List.forall_mem_cons.mpr ⟨mk_6, List.forall_mem_cons.mpr ⟨mk_7, List.forall_mem_cons.mpr ⟨mk_8, List.forall_mem_cons.mpr ⟨mk_9, List.forall_mem_cons.mpr ⟨mk_10, List.forall_mem_cons.mpr ⟨mk_11, List.forall_mem_cons.mpr ⟨mk_12, List.forall_mem_cons.mpr ⟨mk_13, List.forall_mem_cons.mpr ⟨mk_14, List.forall_mem_cons.mpr ⟨mk_15, fun _ h => absurd h List.not_mem_nil⟩⟩⟩⟩⟩⟩⟩⟩⟩⟩⟩⟩⟩⟩⟩⟩
def ms_1 : List ev_MI := [mr_16, mr_17, mr_18, mr_19, mr_20, mr_21, mr_22, mr_23, mr_24, mr_25, mr_26, mr_27, mr_28, mr_29, mr_30, mr_31]
theorem mb_1 : ∀ q ∈ ms_1, ev_MOK ev_ms q := List.forall_mem_cons.mpr ⟨mk_16, List.forall_mem_cons.mpr ⟨mk_17, List.forall_mem_cons.mpr ⟨mk_18, List.forall_mem_cons.mpr ⟨mk_19, List.forall_mem_cons.mpr ⟨mk_20, List.forall_mem_cons.mpr ⟨mk_21, List.forall_mem_cons.mpr ⟨mk_22, List.forall_mem_cons.mpr ⟨mk_23, List.forall_mem_cons.mpr ⟨mk_24, List.forall_mem_cons.mpr ⟨mk_25, List.forall_mem_cons.mpr ⟨mk_26, List.forall_mem_cons.mpr ⟨mk_27, List.forall_mem_cons.mpr ⟨mk_28, List.forall_mem_cons.mpr ⟨mk_29, List.forall_mem_cons.mpr ⟨mk_30, List.forall_mem_cons.mpr ⟨mk_31, fun _ h => absurd h List.not_mem_nil⟩⟩⟩⟩⟩⟩⟩⟩⟩⟩⟩⟩⟩⟩⟩⟩
def ms_2 : List ev_MI := [mr_32, mr_33, mr_34, mr_35, mr_36, mr_37, mr_38, mr_39, mr_40, mr_41, mr_42, mr_43, mr_44, mr_45, mr_46, mr_47]
theorem mb_2 : ∀ q ∈ ms_2, ev_MOK ev_ms q := List.forall_mem_cons.mpr ⟨mk_32, List.forall_mem_cons.mpr ⟨mk_33, List.forall_mem_cons.mpr ⟨mk_34, List.forall_mem_cons.mpr ⟨mk_35, List.forall_mem_cons.mpr ⟨mk_36, List.forall_mem_cons.mpr ⟨mk_37, List.forall_mem_cons.mpr ⟨mk_38, List.forall_mem_cons.mpr ⟨mk_39, List.forall_mem_cons.mpr ⟨mk_40, List.forall_mem_cons.mpr ⟨mk_41, List.forall_mem_cons.mpr ⟨mk_42, List.forall_mem_cons.mpr ⟨mk_43, List.forall_mem_cons.mpr ⟨mk_44, List.forall_mem_cons.mpr ⟨mk_45, List.forall_mem_cons.mpr ⟨mk_46, List.forall_mem_cons.mpr ⟨mk_47, fun _ h => absurd h List.not_mem_nil⟩⟩⟩⟩⟩⟩⟩⟩⟩⟩⟩⟩⟩⟩⟩⟩
def ms_3 : List ev_MI := [mr_48, mr_49, mr_50, mr_51, mr_52, mr_53, mr_54, mr_55, mr_56, mr_57, mr_58, mr_59, mr_60, mr_61, mr_62, mr_63]
theorem mb_3 : ∀ q ∈ ms_3, ev_MOK ev_ms q := List.forall_mem_cons.mpr ⟨mk_48, List.forall_mem_cons.mpr ⟨mk_49, List.forall_mem_cons.mpr ⟨mk_50, List.forall_mem_cons.mpr ⟨mk_51, List.forall_mem_cons.mpr ⟨mk_52, List.forall_mem_cons.mpr ⟨mk_53, List.forall_mem_cons.mpr ⟨mk_54, List.forall_mem_cons.mpr ⟨mk_55, List.forall_mem_cons.mpr ⟨mk_56, List.forall_mem_cons.mpr ⟨mk_57, List.forall_mem_cons.mpr ⟨mk_58, List.forall_mem_cons.mpr ⟨mk_59, List.forall_mem_cons.mpr ⟨mk_60, List.forall_mem_cons.mpr ⟨mk_61, List.forall_mem_cons.mpr ⟨mk_62, List.forall_mem_cons.mpr ⟨mk_63, fun _ h => absurd h List.not_mem_nil⟩⟩⟩⟩⟩⟩⟩⟩⟩⟩⟩⟩⟩⟩⟩⟩
def ms_4 : List ev_MI := [mr_64, mr_65, mr_66, mr_67, mr_68, mr_69, mr_70, mr_71, mr_72, mr_73, mr_74, mr_75, mr_76, mr_77, mr_78, mr_79]
theorem mb_4 : ∀ q ∈ ms_4, ev_MOK ev_ms q := List.forall_mem_cons.mpr ⟨mk_64, List.forall_mem_cons.mpr ⟨mk_65, List.forall_mem_cons.mpr ⟨mk_66, List.forall_mem_cons.mpr ⟨mk_67, List.forall_mem_cons.mpr ⟨mk_68, List.forall_mem_cons.mpr ⟨mk_69, List.forall_mem_cons.mpr ⟨mk_70, List.forall_mem_cons.mpr ⟨mk_71, List.forall_mem_cons.mpr ⟨mk_72, List.forall_mem_cons.mpr ⟨mk_73, List.forall_mem_cons.mpr ⟨mk_74, List.forall_mem_cons.mpr ⟨mk_75, List.forall_mem_cons.mpr ⟨mk_76, List.forall_mem_cons.mpr ⟨mk_77, List.forall_mem_cons.mpr ⟨mk_78, List.forall_mem_cons.mpr ⟨mk_79, fun _ h => absurd h List.not_mem_nil⟩⟩⟩⟩⟩⟩⟩⟩⟩⟩⟩⟩⟩⟩⟩⟩
def ms_5 : List ev_MI := [mr_80, mr_81, mr_82, mr_83, mr_84, mr_85, mr_86, mr_87, mr_88, mr_89, mr_90, mr_91, mr_92, mr_93, mr_94, mr_95]
theorem mb_5 : ∀ q ∈ ms_5, ev_MOK ev_ms q := List.forall_mem_cons.mpr ⟨mk_80, List.forall_mem_cons.mpr ⟨mk_81, List.forall_mem_cons.mpr ⟨mk_82, List.forall_mem_cons.mpr ⟨mk_83, List.forall_mem_cons.mpr ⟨mk_84, List.forall_mem_cons.mpr ⟨mk_85, List.forall_mem_cons.mpr ⟨mk_86, List.forall_mem_cons.mpr ⟨mk_87, List.forall_mem_cons.mpr ⟨mk_88, List.forall_mem_cons.mpr ⟨mk_89, List.forall_mem_cons.mpr ⟨mk_90, List.forall_mem_cons.mpr ⟨mk_91, List.forall_mem_cons.mpr ⟨mk_92, List.forall_mem_cons.mpr ⟨mk_93, List.forall_mem_cons.mpr ⟨mk_94, List.forall_mem_cons.mpr ⟨mk_95, fun _ h => absurd h List.not_mem_nil⟩⟩⟩⟩⟩⟩⟩⟩⟩⟩⟩⟩⟩⟩⟩⟩
def ms_6 : List ev_MI := [mr_96, mr_97, mr_98, mr_99, mr_100, mr_101, mr_102, mr_103, mr_104, mr_105, mr_106, mr_107, mr_108, mr_109, mr_110, mr_111]
theorem mb_6 : ∀ q ∈ ms_6, ev_MOK ev_ms q := List.forall_mem_cons.mpr ⟨mk_96, List.forall_mem_cons.mpr ⟨mk_97, List.forall_mem_cons.mpr ⟨mk_98, List.forall_mem_cons.mpr ⟨mk_99, List.forall_mem_cons.mpr ⟨mk_100, List.forall_mem_cons.mpr ⟨mk_101, List.forall_mem_cons.mpr ⟨mk_102, List.forall_mem_cons.mpr ⟨mk_103, List.forall_mem_cons.mpr ⟨mk_104, List.forall_mem_cons.mpr ⟨mk_105, List.forall_mem_cons.mpr ⟨mk_106, List.forall_mem_cons.mpr ⟨mk_107, List.forall_mem_cons.mpr ⟨mk_108, List.forall_mem_cons.mpr ⟨mk_109, List.forall_mem_cons.mpr ⟨mk_110, List.forall_mem_cons.mpr ⟨mk_111, fun _ h => absurd h List.not_mem_nil⟩⟩⟩⟩⟩⟩⟩⟩⟩⟩⟩⟩⟩⟩⟩⟩
def ms_7 : List ev_MI := [mr_112, mr_113, mr_114, mr_115, mr_116, mr_117, mr_118, mr_119, mr_120, mr_121, mr_122, mr_123, mr_124, mr_125, mr_126, mr_127]
theorem mb_7 : ∀ q ∈ ms_7, ev_MOK ev_ms q := List.forall_mem_cons.mpr ⟨mk_112, List.forall_mem_cons.mpr ⟨mk_113, List.forall_mem_cons.mpr ⟨mk_114, List.forall_mem_cons.mpr ⟨mk_115, List.forall_mem_cons.mpr ⟨mk_116, List.forall_mem_cons.mpr ⟨mk_117, List.forall_mem_cons.mpr ⟨mk_118, List.forall_mem_cons.mpr ⟨mk_119, List.forall_mem_cons.mpr ⟨mk_120, List.forall_mem_cons.mpr ⟨mk_121, List.forall_mem_cons.mpr ⟨mk_122, List.forall_mem_cons.mpr ⟨mk_123, List.forall_mem_cons.mpr ⟨mk_124, List.forall_mem_cons.mpr ⟨mk_125, List.forall_mem_cons.mpr ⟨mk_126, List.forall_mem_cons.mpr ⟨mk_127, fun _ h => absurd h List.not_mem_nil⟩⟩⟩⟩⟩⟩⟩⟩⟩⟩⟩⟩⟩⟩⟩⟩
def ms_8 : List ev_MI := [mr_128, mr_129, mr_130, mr_131, mr_132, mr_133, mr_134, mr_135, mr_136, mr_137, mr_138, mr_139, mr_140, mr_141, mr_142, mr_143]
theorem mb_8 : ∀ q ∈ ms_8, ev_MOK ev_ms q := List.forall_mem_cons.mpr ⟨mk_128, List.forall_mem_cons.mpr ⟨mk_129, List.forall_mem_cons.mpr ⟨mk_130, List.forall_mem_cons.mpr ⟨mk_131, List.forall_mem_cons.mpr ⟨mk_132, List.forall_mem_cons.mpr ⟨mk_133, List.forall_mem_cons.mpr ⟨mk_134, List.forall_mem_cons.mpr ⟨mk_135, List.forall_mem_cons.mpr ⟨mk_136, List.forall_mem_cons.mpr ⟨mk_137, List.forall_mem_cons.mpr ⟨mk_138, List.forall_mem_cons.mpr ⟨mk_139, List.forall_mem_cons.mpr ⟨mk_140, List.forall_mem_cons.mpr ⟨mk_141, List.forall_mem_cons.mpr ⟨mk_142, List.forall_mem_cons.mpr ⟨mk_143, fun _ h => absurd h List.not_mem_nil⟩⟩⟩⟩⟩⟩⟩⟩⟩⟩⟩⟩⟩⟩⟩⟩
def ms_9 : List ev_MI := [mr_144, mr_145, mr_146, mr_147, mr_148, mr_149, mr_150, mr_151, mr_152, mr_153, mr_154, mr_155, mr_156, mr_157, mr_158, mr_159]
theorem mb_9 : ∀ q ∈ ms_9, ev_MOK ev_ms q := List.forall_mem_cons.mpr ⟨mk_144, List.forall_mem_cons.mpr ⟨mk_145, List.forall_mem_cons.mpr ⟨mk_146, List.forall_mem_cons.mpr ⟨mk_147, List.forall_mem_cons.mpr ⟨mk_148, List.forall_mem_cons.mpr ⟨mk_149, List.forall_mem_cons.mpr ⟨mk_150, List.forall_mem_cons.mpr ⟨mk_151, List.forall_mem_cons.mpr ⟨mk_152, List.forall_mem_cons.mpr ⟨mk_153, List.forall_mem_cons.mpr ⟨mk_154, List.forall_mem_cons.mpr ⟨mk_155, List.forall_mem_cons.mpr ⟨mk_156, List.forall_mem_cons.mpr ⟨mk_157, List.forall_mem_cons.mpr ⟨mk_158, List.forall_mem_cons.mpr ⟨mk_159, fun _ h => absurd h List.not_mem_nil⟩⟩⟩⟩⟩⟩⟩⟩⟩⟩⟩⟩⟩⟩⟩⟩
def ms_10 : List ev_MI := [mr_160, mr_161, mr_162, mr_163, mr_164, mr_165, mr_166, mr_167, mr_168, mr_169]
theorem mb_10 : ∀ q ∈ ms_10, ev_MOK ev_ms q := List.forall_mem_cons.mpr ⟨mk_160, List.forall_mem_cons.mpr ⟨mk_161, List.forall_mem_cons.mpr ⟨mk_162, List.forall_mem_cons.mpr ⟨mk_163, List.forall_mem_cons.mpr ⟨mk_164, List.forall_mem_cons.mpr ⟨mk_165, List.forall_mem_cons.mpr ⟨mk_166, List.forall_mem_cons.mpr ⟨mk_167, List.forall_mem_cons.mpr ⟨mk_168, List.forall_mem_cons.mpr ⟨mk_169, fun _ h => absurd h List.not_mem_nil⟩⟩⟩⟩⟩⟩⟩⟩⟩⟩
set_option maxRecDepth 1000000 in
theorem ev_ms_eq : ev_ms = ms_0 ++ (ms_1 ++ (ms_2 ++ (ms_3 ++ (ms_4 ++ (ms_5 ++ (ms_6 ++ (ms_7 ++ (ms_8 ++ (ms_9 ++ (ms_10)))))))))) := rfl
theorem ev_ms_ok : ∀ (k : Nat) (mi : ev_MI), ev_ms[k]? = some mi → ev_MOK ev_ms mi := fun k mi h => (by rw [ev_ms_eq]; exact List.forall_mem_append.mpr ⟨mb_0, List.forall_mem_append.mpr ⟨mb_1, List.forall_mem_append.mpr ⟨mb_2, List.forall_mem_append.mpr ⟨mb_3, List.forall_mem_append.mpr ⟨mb_4, List.forall_mem_append.mpr ⟨mb_5, List.forall_mem_append.mpr ⟨mb_6, List.forall_mem_append.mpr ⟨mb_7, List.forall_mem_append.mpr ⟨mb_8, List.forall_mem_append.mpr ⟨mb_9, mb_10⟩⟩⟩⟩⟩⟩⟩⟩⟩⟩ : ∀ q ∈ ev_ms, ev_MOK ev_ms q) mi (List.mem_of_getElem? h)
set_option maxRecDepth 1000000 in
theorem law_b_eq : law_b = law_b0 ++ (law_b1 ++ (law_b2 ++ (law_b3 ++ (law_b4 ++ (law_b5 ++ (law_b6 ++ (law_b7 ++ (law_b8 ++ (law_b9 ++ (law_b10 ++ (law_b11 ++ (law_b12 ++ (law_b13 ++ (law_b14)))))))))))))) := rfl
theorem law_b_ok : ∀ q ∈ law_b, ev_RowOK ev_ms (law_P 7) code q := by rw [law_b_eq]; exact List.forall_mem_append.mpr ⟨law_b0_ok, List.forall_mem_append.mpr ⟨law_b1_ok, List.forall_mem_append.mpr ⟨law_b2_ok, List.forall_mem_append.mpr ⟨law_b3_ok, List.forall_mem_append.mpr ⟨law_b4_ok, List.forall_mem_append.mpr ⟨law_b5_ok, List.forall_mem_append.mpr ⟨law_b6_ok, List.forall_mem_append.mpr ⟨law_b7_ok, List.forall_mem_append.mpr ⟨law_b8_ok, List.forall_mem_append.mpr ⟨law_b9_ok, List.forall_mem_append.mpr ⟨law_b10_ok, List.forall_mem_append.mpr ⟨law_b11_ok, List.forall_mem_append.mpr ⟨law_b12_ok, List.forall_mem_append.mpr ⟨law_b13_ok, law_b14_ok⟩⟩⟩⟩⟩⟩⟩⟩⟩⟩⟩⟩⟩⟩
end
section
/-! THE RUNS -/
def ev_eqS (a b : ev_S) : Bool := decide (a.1 = b.1) && (decide (a.2.1 = b.2.1) && (decide (a.2.2.1 = b.2.2.1) && (decide (a.2.2.2.1 = b.2.2.2.1) && (decide (a.2.2.2.2.1 = b.2.2.2.2.1) && (decide (a.2.2.2.2.2.1 = b.2.2.2.2.2.1) && decide (a.2.2.2.2.2.2 = b.2.2.2.2.2.2))))))
theorem ev_eqS_ok {a b : ev_S} (h : ev_eqS a b = true) : a = b := by
  obtain ⟨a1, a2, a3, a4, a5, a6, a7⟩ := a
  obtain ⟨b1, b2, b3, b4, b5, b6, b7⟩ := b
  simp only [ev_eqS, Bool.and_eq_true, decide_eq_true_eq] at h
  obtain ⟨rfl, rfl, rfl, rfl, rfl, rfl, rfl⟩ := h
  rfl
def ev_eqL : List ev_S → List ev_S → Bool
  | [], [] => true
  | a :: l, b :: k => ev_eqS a b && ev_eqL l k
  | _, _ => false
theorem ev_eqL_ok : ∀ {l k : List ev_S}, ev_eqL l k = true → l = k
  | [], [], _ => rfl
  | [], _ :: _, h => by cases h
  | _ :: _, [], h => by cases h
  | a :: l, b :: k, h => by
    unfold ev_eqL at h
    simp only [Bool.and_eq_true] at h
    rw [ev_eqS_ok h.1, ev_eqL_ok h.2]
def ev_eqO (o : Option (List ev_S)) (k : List ev_S) : Bool := match o with
  | some l => ev_eqL l k
  | none => false
theorem ev_eqO_ok {o : Option (List ev_S)} {k : List ev_S} (h : ev_eqO o k = true) : o = some k := by
  unfold ev_eqO at h
  split at h
  · rw [ev_eqL_ok h]
  · cases h
def st_w : List ev_C := [(8, [(1, 1), (0, 0), (1, 2), (1, 6), (1, 19), (1, 32), (1, 35), (1, 38), (1, 98), (1, 115), (1, 118), (1, 123), (0, 0), (0, 0), (0, 0)]),
  (101, List.replicate 900 (0, 0)),
  (4, [(2, 0), (0, 0), (0, 0), (0, 0), (0, 0), (0, 0), (4, 0), (2, 0), (0, 0), (0, 0), (0, 0), (1, 3), (1, 4), (1, 5)]),
  (102, [(4, 0), (4, 0), (4, 0), (4, 0), (4, 0), (4, 0), (4, 0), (4, 0), (4, 0), (4, 0), (4, 0), (4, 0), (4, 0), (4, 0), (4, 0), (4, 0)]),
  (100, [(0, 0), (0, 0), (0, 0), (0, 0), (0, 0), (0, 0), (0, 0), (0, 0), (0, 0), (0, 0), (0, 0), (0, 0), (0, 0), (0, 0), (0, 0), (0, 0)]),
  (100, [(0, 0), (0, 0), (0, 0), (0, 0), (0, 0), (0, 0), (0, 0), (0, 0), (0, 0), (0, 0), (0, 0), (0, 0), (0, 0), (0, 0), (0, 0), (0, 0)]),
  (7, [(0, 0), (0, 0), (0, 0), (0, 0), (1, 7), (1, 8), (1, 9), (1, 10), (1, 11), (0, 0), (1, 12), (1, 13), (1, 14), (1, 15), (1, 16), (0, 0), (1, 17), (1, 18), (0, 0)]),
  (100, [(0, 0), (0, 0), (0, 0), (0, 0), (0, 0), (0, 0)]),
  (100, [(0, 0), (0, 0), (0, 0), (0, 0), (0, 0), (0, 0)]),
  (100, [(0, 0), (0, 0), (0, 0), (0, 0), (0, 0), (0, 0)]),
  (100, [(0, 0), (0, 0), (0, 0), (0, 0), (0, 0), (0, 0)]),
  (100, [(0, 0), (0, 0), (0, 0), (0, 0), (0, 0), (0, 0)]),
  (100, [(0, 0), (0, 0), (0, 0), (0, 0), (0, 0)]),
  (100, [(0, 0), (0, 0), (0, 0), (0, 0), (0, 0)]),
  (100, [(0, 0), (0, 0), (0, 0), (0, 0), (0, 0)]),
  (100, [(0, 0), (0, 0), (0, 0), (0, 0), (0, 0)]),
  (100, [(0, 0), (0, 0), (0, 0), (0, 0), (0, 0)]),
  (100, [(0, 0), (0, 0), (0, 0), (0, 0), (0, 0)]),
  (100, [(0, 0), (0, 0), (0, 0)]),
  (7, [(0, 0), (0, 0), (0, 0), (0, 0), (1, 20), (1, 21), (1, 22), (1, 23), (1, 24), (0, 0), (1, 25), (1, 26), (1, 27), (1, 28), (1, 29), (0, 0), (1, 30), (1, 31), (0, 0)]),
  (100, [(0, 0), (0, 0), (0, 0), (0, 0), (0, 0), (0, 0)]),
  (100, [(0, 0), (0, 0), (0, 0), (0, 0), (0, 0), (0, 0)]),
  (100, [(0, 0), (0, 0), (0, 0), (0, 0), (0, 0), (0, 0)]),
  (100, [(0, 0), (0, 0), (0, 0), (0, 0), (0, 0), (0, 0)]),
  (100, [(0, 0), (0, 0), (0, 0), (0, 0), (0, 0), (0, 0)]),
  (100, [(0, 0), (0, 0), (0, 0), (0, 0), (0, 0)]),
  (100, [(0, 0), (0, 0), (0, 0), (0, 0), (0, 0)]),
  (100, [(0, 0), (0, 0), (0, 0), (0, 0), (0, 0)]),
  (100, [(0, 0), (0, 0), (0, 0), (0, 0), (0, 0)]),
  (100, [(0, 0), (0, 0), (0, 0), (0, 0), (0, 0)]),
  (100, [(0, 0), (0, 0), (0, 0), (0, 0), (0, 0)]),
  (100, [(0, 0), (0, 0), (0, 0)]),
  (2, [(1, 33), (1, 34), (0, 0), (0, 0)]),
  (100, [(0, 0), (0, 0), (0, 0), (0, 0), (0, 0), (0, 0)]),
  (100, [(0, 0), (0, 0), (0, 0)]),
  (2, [(1, 36), (1, 37), (0, 0), (0, 0)]),
  (100, [(0, 0), (0, 0), (0, 0), (0, 0), (0, 0), (0, 0)]),
  (100, [(0, 0), (0, 0), (0, 0)]),
  (3, [(1, 39), (1, 40), (0, 0), (0, 0), (0, 0)]),
  (103, [(1, 41), (1, 44), (1, 47), (1, 50), (1, 53), (1, 56), (1, 59), (1, 62), (1, 65), (1, 68), (1, 71), (1, 74), (1, 77), (1, 80), (1, 83), (1, 86)]),
  (103, [(1, 89), (1, 92), (1, 95)]),
  (2, [(1, 42), (1, 43), (0, 0), (0, 0)]),
  (100, [(0, 0), (0, 0), (0, 0), (0, 0), (0, 0), (0, 0)]),
  (100, [(0, 0), (0, 0), (0, 0)]),
  (2, [(1, 45), (1, 46), (0, 0), (0, 0)]),
  (100, [(0, 0), (0, 0), (0, 0), (0, 0), (0, 0), (0, 0)]),
  (100, [(0, 0), (0, 0), (0, 0)]),
  (2, [(1, 48), (1, 49), (0, 0), (0, 0)]),
  (100, [(0, 0), (0, 0), (0, 0), (0, 0), (0, 0), (0, 0)]),
  (100, [(0, 0), (0, 0), (0, 0)]),
  (2, [(1, 51), (1, 52), (0, 0), (0, 0)]),
  (100, [(0, 0), (0, 0), (0, 0), (0, 0), (0, 0), (0, 0)]),
  (100, [(0, 0), (0, 0), (0, 0)]),
  (2, [(1, 54), (1, 55), (0, 0), (0, 0)]),
  (100, [(0, 0), (0, 0), (0, 0), (0, 0), (0, 0), (0, 0)]),
  (100, [(0, 0), (0, 0), (0, 0)]),
  (2, [(1, 57), (1, 58), (0, 0), (0, 0)]),
  (100, [(0, 0), (0, 0), (0, 0), (0, 0), (0, 0), (0, 0)]),
  (100, [(0, 0), (0, 0), (0, 0)]),
  (2, [(1, 60), (1, 61), (0, 0), (0, 0)]),
  (100, [(0, 0), (0, 0), (0, 0), (0, 0), (0, 0), (0, 0)]),
  (100, [(0, 0), (0, 0), (0, 0)]),
  (2, [(1, 63), (1, 64), (0, 0), (0, 0)]),
  (100, [(0, 0), (0, 0), (0, 0), (0, 0), (0, 0), (0, 0)]),
  (100, [(0, 0), (0, 0), (0, 0)]),
  (2, [(1, 66), (1, 67), (0, 0), (0, 0)]),
  (100, [(0, 0), (0, 0), (0, 0), (0, 0), (0, 0), (0, 0)]),
  (100, [(0, 0), (0, 0), (0, 0)]),
  (2, [(1, 69), (1, 70), (0, 0), (0, 0)]),
  (100, [(0, 0), (0, 0), (0, 0), (0, 0), (0, 0), (0, 0)]),
  (100, [(0, 0), (0, 0), (0, 0)]),
  (2, [(1, 72), (1, 73), (0, 0), (0, 0)]),
  (100, [(0, 0), (0, 0), (0, 0), (0, 0), (0, 0), (0, 0)]),
  (100, [(0, 0), (0, 0), (0, 0)]),
  (2, [(1, 75), (1, 76), (0, 0), (0, 0)]),
  (100, [(0, 0), (0, 0), (0, 0), (0, 0), (0, 0), (0, 0)]),
  (100, [(0, 0), (0, 0), (0, 0)]),
  (2, [(1, 78), (1, 79), (0, 0), (0, 0)]),
  (100, [(0, 0), (0, 0), (0, 0), (0, 0), (0, 0), (0, 0)]),
  (100, [(0, 0), (0, 0), (0, 0)]),
  (2, [(1, 81), (1, 82), (0, 0), (0, 0)]),
  (100, [(0, 0), (0, 0), (0, 0), (0, 0), (0, 0), (0, 0)]),
  (100, [(0, 0), (0, 0), (0, 0)]),
  (2, [(1, 84), (1, 85), (0, 0), (0, 0)]),
  (100, [(0, 0), (0, 0), (0, 0), (0, 0), (0, 0), (0, 0)]),
  (100, [(0, 0), (0, 0), (0, 0)]),
  (2, [(1, 87), (1, 88), (0, 0), (0, 0)]),
  (100, [(0, 0), (0, 0), (0, 0), (0, 0), (0, 0), (0, 0)]),
  (100, [(0, 0), (0, 0), (0, 0)]),
  (2, [(1, 90), (1, 91), (0, 0), (0, 0)]),
  (100, [(0, 0), (0, 0), (0, 0), (0, 0), (0, 0), (0, 0)]),
  (100, [(0, 0), (0, 0), (0, 0)]),
  (2, [(1, 93), (1, 94), (0, 0), (0, 0)]),
  (100, [(0, 0), (0, 0), (0, 0), (0, 0), (0, 0), (0, 0)]),
  (100, [(0, 0), (0, 0), (0, 0)]),
  (2, [(1, 96), (1, 97), (0, 0), (0, 0)]),
  (100, [(0, 0), (0, 0), (0, 0), (0, 0), (0, 0), (0, 0)]),
  (100, [(0, 0), (0, 0), (0, 0)]),
  (0, [(1, 99), (0, 0), (0, 0), (0, 0), (0, 0)]),
  (103, [(1, 100), (1, 103), (1, 106), (1, 109), (1, 112)]),
  (2, [(1, 101), (1, 102), (0, 0), (0, 0)]),
  (100, [(0, 0), (0, 0), (0, 0), (0, 0), (0, 0), (0, 0)]),
  (100, [(0, 0), (0, 0), (0, 0)]),
  (2, [(1, 104), (1, 105), (0, 0), (0, 0)]),
  (100, [(0, 0), (0, 0), (0, 0), (0, 0), (0, 0), (0, 0)]),
  (100, [(0, 0), (0, 0), (0, 0)]),
  (2, [(1, 107), (1, 108), (0, 0), (0, 0)]),
  (100, [(0, 0), (0, 0), (0, 0), (0, 0), (0, 0), (0, 0)]),
  (100, [(0, 0), (0, 0), (0, 0)]),
  (2, [(1, 110), (1, 111), (0, 0), (0, 0)]),
  (100, [(0, 0), (0, 0), (0, 0), (0, 0), (0, 0), (0, 0)]),
  (100, [(0, 0), (0, 0), (0, 0)]),
  (2, [(1, 113), (1, 114), (0, 0), (0, 0)]),
  (100, [(0, 0), (0, 0), (0, 0), (0, 0), (0, 0), (0, 0)]),
  (100, [(0, 0), (0, 0), (0, 0)]),
  (6, [(1, 116), (1, 117), (0, 0)]),
  (100, [(0, 0), (0, 0), (0, 0), (0, 0), (0, 0)]),
  (100, [(0, 0), (0, 0), (0, 0), (0, 0), (0, 0)]),
  (5, [(1, 119), (0, 0), (1, 120)]),
  (100, [(0, 0), (0, 0), (0, 0), (0, 0), (0, 0), (0, 0), (0, 0), (0, 0), (0, 0), (0, 0), (0, 0), (0, 0), (0, 0), (0, 0), (0, 0), (0, 0), (0, 0), (0, 0), (0, 0), (0, 0), (0, 0), (0, 0), (0, 0), (0, 0), (0, 0), (0, 0), (0, 0), (0, 0), (0, 0), (0, 0), (0, 0), (0, 0)]),
  (2, [(1, 121), (1, 122), (0, 0), (0, 0)]),
  (100, [(0, 0), (0, 0), (0, 0), (0, 0), (0, 0), (0, 0)]),
  (100, [(0, 0), (0, 0), (0, 0)]),
  (1, [(4, 0), (4, 0), (0, 0)]),
  (9, [(0, 0), (1, 125), (0, 0), (0, 0), (0, 0), (0, 0), (0, 0), (0, 0), (0, 0), (0, 0), (0, (-1)), (0, 0), (1, 126), (0, 0), (0, 0), (1, 127), (1, 128), (1, 129), (1, 130), (1, 131), (0, 0), (0, 0), (1, 132), (1, 133), (1, 134), (0, 0), (1, 135), (0, 0), (0, 0), (0, 0), (0, 0), (4, 0), (4, 0), (4, 0), (0, 0)]),
  (100, List.replicate 900 (0, 0)),
  (100, [(0, 0), (0, 0), (0, 0), (0, 0), (0, 0), (0, 0), (0, 0), (0, 0)]),
  (100, List.replicate 213 (0, 0)),
  (100, List.replicate 213 (0, 0)),
  (100, [(0, 0), (0, 0), (0, 0), (0, 0), (0, 0), (0, 0), (0, 0), (0, 0), (0, 0), (0, 0), (0, 0)]),
  (100, List.replicate 176 (0, 0)),
  (100, [(0, 0), (0, 0), (0, 0), (0, 0), (0, 0), (0, 0), (0, 0), (0, 0), (0, 0), (0, 0), (0, 0), (0, 0), (0, 0), (0, 0), (0, 0), (0, 0), (0, 0), (0, 0), (0, 0), (0, 0), (0, 0), (0, 0), (0, 0), (0, 0), (0, 0), (0, 0), (0, 0), (0, 0), (0, 0), (0, 0), (0, 0), (0, 0), (0, 0)]),
  (100, [(0, 0), (0, 0), (0, 0), (0, 0), (0, 0), (0, 0), (0, 0), (0, 0), (0, 0), (0, 0), (0, 0)]),
  (100, [(0, 0), (0, 0), (0, 0), (0, 0), (0, 0)]),
  (100, [(0, 0), (0, 0), (0, 0), (0, 0), (0, 0)]),
  (100, [(0, 0), (0, 0), (0, 0), (0, 0), (0, 0)]),
  (102, [(4, 0)])]
def st_K : ev_K := [(-2147483648, 2147483647), (-2147483648, 2147483647), (-2147483648, 2147483647), (-2147483648, 2147483647), (-2147483648, 2147483647), (-2147483648, 2147483647)]
def st_0 : ev_S := (23, [(4, (0, 0)), (3, (1, 136)), (2, (1, 124)), (1, (1, 0)), (0, (5, 0))], [], st_w, st_K, 137, 3193)
set_option maxRecDepth 1000000 in
theorem run_a : ev_run ev_ms (ev_exec ev_ms 12) (law_P 0) law_a [23] 2000 (0, [(0, (5, 0))], [], [], st_K, 0, 0) = some [st_0] := ev_eqO_ok (by decide +kernel)
end
section
/-! THE LAW'S START -/
def law_flat : List Cond := flatC (Jvm.Cond.and given_1 narrow_1)
/-- what the Statement gives of a text constant -/
def law_sc (r : String × Nat × String × List Int32) : List Cond :=
  [.exactly (.string r.1 r.2.1) "java/lang/String", .eq (.field (.string r.1 r.2.1) "java/lang/String" "coder" "B") (.int 0), .arrayOf (.field (.string r.1 r.2.1) "java/lang/String" "value" "[B") .byte, .eq (.length (.field (.string r.1 r.2.1) "java/lang/String" "value" "[B")) (.int (Int32.ofNat r.2.2.2.length))]
  ++ (List.range r.2.2.2.length).map (fun j => .eq (.elem (.field (.string r.1 r.2.1) "java/lang/String" "value" "[B") (.int (Int32.ofNat j))) (.int (r.2.2.2.getD j 0)))
set_option maxRecDepth 1000000 in
theorem law_sc_eq : ev_strs.flatMap law_sc = ([29, 30, 31, 32, 33, 34, 35, 36, 37, 38, 39, 40, 41, 42, 43, 44, 45, 46, 47, 48, 49, 50, 51, 52, 53, 54, 55, 56, 57, 58, 59, 60, 61, 62, 63, 64, 65, 66, 67, 68, 69, 70, 71, 72, 73, 74, 75, 76, 77, 78, 79, 80, 81, 82, 83, 84, 85, 86, 87, 88, 89, 90, 91, 92, 93, 94, 95, 96, 97, 98, 99, 100, 101, 102, 103, 104, 105, 106, 107, 108, 109, 110, 111, 112, 113, 114, 115, 116, 117, 118, 119, 120, 121, 122, 123, 124, 125, 126, 127, 128, 129, 130, 131, 132, 133, 134, 135, 136, 137, 138, 139, 140, 141, 142, 143, 144, 145, 146, 147, 148, 149, 150, 151, 152, 153, 154, 155, 156, 157, 158, 159, 160, 161, 162, 163, 164, 165, 166, 167, 168, 169, 170, 171, 172, 173, 174, 175, 176, 177, 178, 179, 180, 181, 182, 183, 184, 185, 186, 187, 188, 189, 190, 191, 192, 193, 194, 195, 196, 197, 198, 199, 200, 201, 202, 203, 204, 205, 206, 207, 208, 209, 211, 212, 213, 214, 215, 216, 217, 218, 219, 221, 222, 223, 224, 225, 226, 227, 228, 230, 231, 232, 233, 234, 235, 236, 237, 238, 240, 241, 242, 243, 244, 245, 246, 248, 249, 250, 251, 252, 253, 254, 255, 256, 257, 259, 260, 261, 262, 263, 264, 265, 266, 267, 268, 269, 271, 272, 273, 274, 275, 276, 277, 278, 279, 280, 282, 283, 284, 285, 286, 287, 288, 289, 290, 291, 292, 294, 295, 296, 297, 298, 299, 300, 301, 302, 304, 305, 306, 307, 308, 309, 310, 311, 313, 314, 315, 316, 317, 318, 319, 320, 322, 323, 324, 325, 326, 327, 328, 329, 331, 332, 333, 334, 335, 336, 337, 338, 340, 341, 342, 343, 344, 345, 346, 347, 349, 350, 351, 352, 353, 354, 355, 356, 357, 359, 360, 361, 362, 363, 364, 365, 366, 368, 369, 370, 371, 372, 373, 374, 375, 376, 378, 379, 380, 381, 382, 383, 384, 385, 386, 388, 389, 390, 391, 392, 393] : List Nat).filterMap (fun i => law_flat[i]?) := by decide +kernel
theorem law_sc_in {r : String × Nat × String × List Int32} (hr : r ∈ ev_strs) {w : Cond} (hw : w ∈ law_sc r) : w ∈ law_flat := by
  have h : w ∈ ev_strs.flatMap law_sc := List.mem_flatMap.mpr ⟨r, hr, hw⟩
  rw [law_sc_eq] at h
  obtain ⟨i, -, hi⟩ := List.mem_filterMap.mp h
  exact List.mem_of_getElem? hi
set_option maxRecDepth 1000000 in
theorem law_sr_eq : ev_strs.map (fun r => Cond.stringRef r.1 r.2.1 r.2.2.1) = ([549, 550, 551, 552, 553, 554, 555, 556, 638, 647, 648, 665, 666, 667, 668, 669, 678, 679, 680, 705, 1450, 1465, 1482, 1483, 1484, 1505, 1506, 1507, 1508, 1509, 1510, 1519, 1520, 1521, 1522, 1523, 1528, 1529, 1530, 1562] : List Nat).filterMap (fun i => lw_tbl[i]?) := by decide +kernel
theorem law_sr_in {r : String × Nat × String × List Int32} (hr : r ∈ ev_strs) : Cond.stringRef r.1 r.2.1 r.2.2.1 ∈ lw_tbl := by
  have h : Cond.stringRef r.1 r.2.1 r.2.2.1 ∈ ev_strs.map (fun r => Cond.stringRef r.1 r.2.1 r.2.2.1) := List.mem_map.mpr ⟨r, hr, rfl⟩
  rw [law_sr_eq] at h
  obtain ⟨i, -, hi⟩ := List.mem_filterMap.mp h
  exact List.mem_of_getElem? hi
set_option maxRecDepth 1000000 in
theorem law_in0 : Cond.instantiable RX0 5 ∈ lw_tbl := List.mem_of_getElem? (i := 359) (by decide +kernel)
set_option maxRecDepth 1000000 in
theorem law_in1 : Cond.instantiable RX1 3 ∈ lw_tbl := List.mem_of_getElem? (i := 424) (by decide +kernel)
set_option maxRecDepth 1000000 in
theorem law_in2 : Cond.instantiable RX2 4 ∈ lw_tbl := List.mem_of_getElem? (i := 307) (by decide +kernel)
set_option maxRecDepth 1000000 in
theorem law_in3 : Cond.instantiable RX3 5 ∈ lw_tbl := List.mem_of_getElem? (i := 332) (by decide +kernel)
set_option maxRecDepth 1000000 in
theorem law_in4 : Cond.instantiable RX4 14 ∈ lw_tbl := List.mem_of_getElem? (i := 146) (by decide +kernel)
set_option maxRecDepth 1000000 in
theorem law_in5 : Cond.instantiable RX5 3 ∈ lw_tbl := List.mem_of_getElem? (i := 404) (by decide +kernel)
set_option maxRecDepth 1000000 in
theorem law_in6 : Cond.instantiable RX6 3 ∈ lw_tbl := List.mem_of_getElem? (i := 386) (by decide +kernel)
set_option maxRecDepth 1000000 in
theorem law_in7 : Cond.instantiable RX7 19 ∈ lw_tbl := List.mem_of_getElem? (i := 198) (by decide +kernel)
set_option maxRecDepth 1000000 in
theorem law_in8 : Cond.instantiable RX8 15 ∈ lw_tbl := List.mem_of_getElem? (i := 138) (by decide +kernel)
set_option maxRecDepth 1000000 in
theorem law_in9 : Cond.instantiable RX9 35 ∈ lw_tbl := List.mem_of_getElem? (i := 1298) (by decide +kernel)
theorem law_inst : ∀ (ci : Nat) (r : vw_C), vwCl[ci]? = some r → Cond.instantiable r.1 r.2.2 ∈ lw_tbl
  | 0, r, h => by cases h; exact law_in0
  | 1, r, h => by cases h; exact law_in1
  | 2, r, h => by cases h; exact law_in2
  | 3, r, h => by cases h; exact law_in3
  | 4, r, h => by cases h; exact law_in4
  | 5, r, h => by cases h; exact law_in5
  | 6, r, h => by cases h; exact law_in6
  | 7, r, h => by cases h; exact law_in7
  | 8, r, h => by cases h; exact law_in8
  | 9, r, h => by cases h; exact law_in9
  | n + 10, r, h => by cases h
set_option maxRecDepth 1000000 in
theorem law_ao : Cond.arrayOver (.object "BarberMinutes$Minutes") ∈ lw_tbl := List.mem_of_getElem? (i := 338) (by decide +kernel)
set_option maxRecDepth 1000000 in
theorem law_z1 : Cond.laysStatic "java/lang/String" "COMPACT_STRINGS" "Z" ∈ lw_tbl := List.mem_of_getElem? (i := 570) (by decide +kernel)
set_option maxRecDepth 1000000 in
theorem law_z2 : Cond.initialized "java/lang/String" ∈ lw_tbl := List.mem_of_getElem? (i := 127) (by decide +kernel)
set_option maxRecDepth 1000000 in
theorem law_z3 : Cond.eq (.static "java/lang/String" "COMPACT_STRINGS" "Z") (.int 1) ∈ law_flat := List.mem_of_getElem? (i := 4) (by decide +kernel)
set_option maxRecDepth 1000000 in
theorem law_z4 : Cond.laysStatic "jdk/internal/util/Preconditions" "SIOOBE_FORMATTER" "Ljava/util/function/BiFunction;" ∈ lw_tbl := List.mem_of_getElem? (i := 586) (by decide +kernel)
set_option maxRecDepth 1000000 in
theorem law_z5 : Cond.initialized "jdk/internal/util/Preconditions" ∈ lw_tbl := List.mem_of_getElem? (i := 129) (by decide +kernel)
set_option maxRecDepth 1000000 in
theorem law_z6 : Cond.isRef (.static "jdk/internal/util/Preconditions" "SIOOBE_FORMATTER" "Ljava/util/function/BiFunction;") ∈ law_flat := List.mem_of_getElem? (i := 5) (by decide +kernel)
/-! THE CLAIM OUT OF ONE WALK OF THE LAW'S BODY. Your part is whole_start (and what it stands on); all else here is the same for every law, but numbers. -/
def R_law : String := "BarberMinutesLaw"
def lw_P (b : Addr) (xs : List Int32) (args : Array Value) (s : State) : Prop := args = #[.ref b] ∧ s.IntsAt b xs ∧ xs.length ≤ 6 ∧ (Jvm.Cond.and given_1 narrow_1).before args s = true
def lw_Q (_ : Array Value) (s : State) (o : Outcome) (t : State) : Prop := o = .returned (some (.int 1)) ∧ Framed s o t [] 600002 7302232
def lw_Z (below : List Frame) (a : Array Value) (s : State) : State → Prop := fun t => ∃ o, t.status = .running ∧ Ended t below o ∧ lw_Q a s o t
/-- the law's own end, with 1 on the stack, nothing written that was there before, its room as the claim has it -/
theorem lw_ret {p : Program} {l : Launch} {e : Env} {s : State} {m : MethodId} {below : List Frame} {meth : Method} {c : Code} {b : Nat} (hx : p.tables.exec = Jvm.exec) (hb : c.code = code) (hr : meth.sig.returnType = ret) (hlocks : meth.locks = false) {pc : Nat} {H : Heap} {ls : Array Slot} (hdg : decode code pc = .ok (.ireturn, 1)) : W p l e room_1 s m #[Value.ref b] below meth c H [] 600002 7302232 (lw_Z below #[Value.ref b] s) (F0 m pc ls [.int 1]) := by
  intro T hT X
  obtain ⟨fs, hret, hrun, hended, hW, hframe⟩ := X.leave (v := some (.int 1)) (hlocks := hlocks) (fun h => by rw [hr] at h; cases h)
  have hmeth' : T.vm.method? m = some meth := X.method'
  refine ⟨T.setFrames fs, ?_, .returned (some (.int 1)), hrun, hended, rfl, ⟨_, rfl⟩, hW, hframe⟩
  jvm_step X.here [X.here.top, hx, hb, hdg, hmeth', hr, ret, narrow_b1]
  (try refine ⟨rfl, ?_⟩); (try refine ⟨rfl, ?_⟩)
  first | (intro acts; rw [hret _ acts rfl rfl rfl]) | rw [hret _ _ rfl rfl rfl]
  exact Steps.refl _
/-- what holds at the law's entry: the machine, the code, the tables' words (any of lw_tbl by 'hts w (by decide +kernel)'), the script of L ints xs at the cell b, what the Statement gives of the start (any of its parts by flat_of_before) -/
def lw_At (p : Program) (s : State) (m : MethodId) (meth : Method) (c : Code) (b L : Nat) (xs : Nat → Int32) : Prop :=
  p.tables.exec = Jvm.exec ∧ c.code = code ∧ meth.sig.returnType = ret ∧ c.maxLocals = 7 ∧ s.vm.findClass R_law = some m.cls ∧ (∀ w ∈ lw_tbl, w.before #[Value.ref b] s = true) ∧ va_X b L xs s s.heap ∧ b < s.heap.size ∧ meth.locks = false ∧ (Jvm.Cond.and given_1 narrow_1).before #[Value.ref b] s = true
/-- the law's own cells are the new ones -/
abbrev law_A (s : State) : Nat → Prop := fun q : Nat => s.heap.size ≤ q
/-- the picture's names at the law's start: the script is X 0, the texts and their bytes behind it; six variables for its numbers -/
def law_g (X : Nat → Nat) (xs : Nat → Int32) : ev_G := ([], X, (List.range 6).map (fun j => Value.int (xs j)))
theorem law_facts {p : Program} {s : State} {m : MethodId} {meth : Method} {c : Code} {b L : Nat} {xs : Nat → Int32} (hL : L ≤ 6) (C0 : lw_At p s m meth c b L xs) :
    ∃ (D : va_G) (X : Nat → Nat), X 0 = b ∧ ∀ Ls : Nat, (Ls = 0 ∨ Ls = L + 1) → ev_X p room_1 s m #[Value.ref b] meth c code 7 "BarberMinutesLaw" false D (law_A s) 600002 7302232 (law_g X xs) Ls := by
  obtain ⟨hx, hb, hr, hml, hown, hts, hX, hbl, hlocks, hgv⟩ := C0
  have hfl : ∀ w ∈ law_flat, w.before #[Value.ref b] s = true := flat_of_before _ hgv
  have hA : ∀ a : Nat, a < s.heap.size → ¬ law_A s a := fun a h => Nat.not_le.mpr h
  have hcl : ∀ ci : Nat, ∃ q : ClassId × (Nat → Nat), ∀ r : vw_C, vwCl[ci]? = some r → u_Kn s r.1 r.2.1 r.2.2 q.1 q.2 := by
    intro ci
    cases hz : vwCl[ci]? with
    | none => exact ⟨(0, fun _ => 0), fun r h => by cases h⟩
    | some r =>
      obtain ⟨ty, hty⟩ : ∃ ty, ev_tyl[ci]? = some ty := ⟨_, List.getElem?_eq_getElem (show ci < ev_tyl.length from (List.getElem?_eq_some_iff.mp hz).1)⟩
      obtain ⟨cC, iS, hk⟩ := u_known (N := r.2.2) (fun w h => hts w (lw_good_in h)) (ev_cls ci r ty hz hty).1 (hts _ (law_inst ci r hz))
      exact ⟨(cC, iS), fun r' h => by cases h; exact hk⟩
  obtain ⟨dq, hdq⟩ := Classical.axiomOfChoice hcl
  have hst : ∀ k : Nat, ∃ q : Nat × Nat, ∀ r : String × Nat × String × List Int32, ev_strs[k]? = some r → (Term.string r.1 r.2.1).eval #[Value.ref b] s none [] s = some (.ref q.1) ∧ va_O "java/lang/String" q.1 (law_A s) s s.heap ∧ va_OF "java/lang/String" "coder" "B" (.int 0) q.1 (law_A s) s s.heap ∧ va_OF "java/lang/String" "value" "[B" (.ref q.2) q.1 (law_A s) s s.heap ∧ va_T .byte q.2 r.2.2.2.length (fun j => .int (r.2.2.2.getD j 0)) (law_A s) s s.heap := by
    intro k
    cases hz : ev_strs[k]? with
    | none => exact ⟨(0, 0), fun r h => by cases h⟩
    | some r =>
      have hr := List.mem_of_getElem? hz
      have hlen : r.2.2.2.length < 2 ^ 31 := by
        have : ∀ r ∈ ev_strs, r.2.2.2.length < 2 ^ 31 := by decide +kernel
        exact this r hr
      have w1 := hfl _ (law_sc_in hr (w := .exactly (.string r.1 r.2.1) "java/lang/String") (by simp [law_sc]))
      have w2 := hfl _ (law_sc_in hr (w := .eq (.field (.string r.1 r.2.1) "java/lang/String" "coder" "B") (.int 0)) (by simp [law_sc]))
      have w3 := hfl _ (law_sc_in hr (w := .arrayOf (.field (.string r.1 r.2.1) "java/lang/String" "value" "[B") .byte) (by simp [law_sc]))
      have w4 := hfl _ (law_sc_in hr (w := .eq (.length (.field (.string r.1 r.2.1) "java/lang/String" "value" "[B")) (.int (Int32.ofNat r.2.2.2.length))) (by simp [law_sc]))
      have w5 : ∀ j : Nat, j < r.2.2.2.length → (Cond.eq (.elem (.field (.string r.1 r.2.1) "java/lang/String" "value" "[B") (.int (Int32.ofNat j))) (.int (r.2.2.2.getD j 0))).before #[Value.ref b] s = true := fun j hj => hfl _ (law_sc_in hr (List.mem_append_right _ (List.mem_map.mpr ⟨j, List.mem_range.mpr hj, rfl⟩)))
      obtain ⟨a, cc, cA, kA, q1, q2, q3, q4, q5, q6, -⟩ := Cond.exactly_spec (args := #[Value.ref b]) (first := s) (o := none) (s := s) (idx := []) (t := .string r.1 r.2.1) (cls := "java/lang/String") w1
      obtain ⟨t, ht, hT⟩ := va_Tof (f := fun j => .int (r.2.2.2.getD j 0)) (A := law_A s) hlen w3 (va_eqt w4) (fun j hj => va_eqt (w5 j hj)) hA
      refine ⟨(a, t), fun r' h => ?_⟩
      cases h
      exact ⟨q1, ⟨cA, q3, q5, by rw [q6]; exact q2, hA a (Array.getElem?_eq_some_iff.mp q3).1⟩, vk_OFof q1 (va_eqt w2) hA, vk_OFof q1 ht hA, hT⟩
  obtain ⟨ad, had⟩ := Classical.axiomOfChoice hst
  obtain ⟨X, hX0, hX1, hX2⟩ : ∃ X : Nat → Nat, X 0 = b ∧ (∀ k : Nat, X (1 + 2 * k) = (ad k).1) ∧ ∀ k : Nat, X (2 + 2 * k) = (ad k).2 := by
    refine ⟨fun j => if j = 0 then b else if j % 2 = 1 then (ad (j / 2)).1 else (ad (j / 2 - 1)).2, by simp, fun k => ?_, fun k => ?_⟩
    · dsimp only
      rw [if_neg (by omega), if_pos (by omega), show (1 + 2 * k) / 2 = k by omega]
    · dsimp only
      rw [if_neg (by omega), if_neg (by omega), show (2 + 2 * k) / 2 - 1 = k by omega]
  refine ⟨(fun ci => (dq ci).1, fun ci => (dq ci).2), X, hX0, fun Ls hLs => ⟨hx, hb, hml, hown, fun w h => hts w (lw_good_in h), ⟨fun ci q h => hdq ci q h, fun k q h => by cases h⟩, fun q h => h, ⟨⟨fun w hw => va_Nw.of (ev_N_on hw) (hts w (List.mem_filter.mp hw).1), va_AO.of (hts _ law_ao)⟩, fun k r hr => ?_, fun k r hr => ?_, ?_, ?_⟩, fun h => (by cases h), rfl, rfl, by decide, by decide, fun L' h => ?_⟩⟩
  · show vk_R r.1 r.2.1 r.2.2.1 (X (1 + 2 * k)) s
    rw [hX1]
    exact vk_R.of (hts _ (law_sr_in (List.mem_of_getElem? hr))) (had k r hr).1
  · show va_O "java/lang/String" (X (1 + 2 * k)) _ _ _ ∧ va_OF "java/lang/String" "coder" "B" (.int 0) (X (1 + 2 * k)) _ _ _ ∧ va_OF "java/lang/String" "value" "[B" (.ref (X (2 + 2 * k))) (X (1 + 2 * k)) _ _ _ ∧ va_T .byte (X (2 + 2 * k)) r.2.2.2.length (fun j => .int (r.2.2.2.getD j 0)) _ _ _
    rw [hX1, hX2]
    exact (had k r hr).2
  · exact va_Zof (hts _ law_z1) (hts _ law_z2) (va_eqi (hfl _ law_z3)) hA
  · exact va_Zqof (hts _ law_z4) (hts _ law_z5) (hfl _ law_z6) hA
  · have hLL : L' = L := by omega
    subst hLL
    refine ⟨xs, by show va_X (X 0) L' xs s s.heap; rw [hX0]; exact hX, by show X 0 < _; rw [hX0]; exact hbl, by show ¬ law_A s (X 0); rw [hX0]; exact hA b hbl, fun j hj => ?_⟩
    show ((List.range 6).map (fun j => Value.int (xs j)))[j]? = _
    rw [List.getElem?_map, List.getElem?_range (by omega)]
    rfl
end
section
/-! ===== BEGIN exceptions that leave a method, and their catching by the caller (launches without stack traces) ===== -/
section VXA
/-! The laws vx_back, vx_callV, vx_callS, vx_callSW, vx_throw0, vx_throwS follow proofs of the library, with one case more: JvmDerived/Free/Laws.lean (Back.of_free), Shelf42/LK1.lean (callV, callS), Shelf/KitTraced.lean (throwNew0V, throwNewS). -/
/-- where a method has thrown q: the class by its name, the cell, what was written, the world -/
def vx_T (XC : String → State → State → Prop) (st : State) (q : Addr) (t : State) (mc ms : Nat) (free : Addr → Prop) : Prop :=
  ∃ (E : String) (ce : Cell) (L : List Loc), XC E st t ∧ t.heap[q]? = some ce ∧ ce.vm = .none ∧ st.vm.findClass E = some ce.cls ∧ st.WarmedH t.vm ∧ st.sameButNew ({ t with vm := st.vm } : State) L mc ms ∧ ∀ z ∈ L, free z.base
def vx_Q (Qc : Array Value → State → Outcome → State → Prop) (XC : String → State → State → Prop) (mc ms : Nat) (free : Addr → Prop) : Array Value → State → Outcome → State → Prop := fun a st o t =>
  (Qc a st o t ∧ ∃ L, FrameEnd st o t L mc ms ∧ ∀ q ∈ L, free q.base) ∨ ∃ q, o = .threw q ∧ vx_T XC st q t mc ms free
/-- a callee that returns or throws -/
def vx_Met (l : Launch) (y : MethodName) (ws : List Cond) (rm : Room) (Pc : Array Value → State → Prop) (Qc : Array Value → State → Outcome → State → Prop) (XC : String → State → State → Prop) (mc ms : Nat) (free : Addr → Prop) : Prop :=
  MetFree l y (headSpec ws rm) Pc (fun _ _ _ _ _ => True) (vx_Q Qc XC mc ms free)
def vx_Post (XC : String → State → State → Prop) (mc ms : Nat) (free : Addr → Prop) : Pt → Array Value → Addr → Pt → Prop := fun A a q B =>
  ∃ (g : JFrame) (mk : MethodId) (t : State) (L : List Loc) (E : String) (ce : Cell), B.U.heap = t.heap ∧ B.U.vm = t.vm ∧ XC E (A.U.calling g mk a) t ∧ t.heap[q]? = some ce ∧ ce.vm = .none ∧ A.U.vm.findClass E = some ce.cls ∧ B.locs = A.locs ++ L ∧ (∀ z ∈ L, free z.base) ∧ B.cells = A.cells + mc ∧ B.slots = A.slots + ms
def vx_Back (l : Launch) (R : Room) (p : Program) (e : Env) (below : List Frame) (s : State) (sargs : Array Value) (y : MethodName) (len W9 : Nat)
    (Pre : Pt → Array Value → Prop) (Post : Pt → Array Value → Option Value → Pt → Prop) (PostX : Pt → Array Value → Addr → Pt → Prop) : Prop :=
  ∀ (m : MethodId) (meth : Method) (c : Code) (A : Pt) (g : JFrame) (ig : Instr) (mk : MethodId) (a : Array Value),
    Stand p l e R s m sargs below meth c A.U A.locs A.cells A.slots → g.method = m → g.locals.size = c.maxLocals → decode c.code g.pc = .ok (ig, len) →
    2 * g.monitorRoom + (g.stack.map fun v => v.category).sum ≤ W9 → A.U.methodNamed? y = some mk → Pre A a →
    (∃ (v : Option Value) (B : Pt), Stand p l e R s m sargs below meth c B.U B.locs B.cells B.slots ∧ Post A a v B ∧
      Steps p.tables e below (doInvoke e (A.U.setTop g) [] mk a).1 (B.U.setTop { g with pc := g.pc + len, stack := v.toList ++ g.stack })) ∨
    (∃ (q : Addr) (B : Pt), Stand p l e R s m sargs below meth c B.U B.locs B.cells B.slots ∧ PostX A a q B ∧
      Steps p.tables e below (doInvoke e (A.U.setTop g) [] mk a).1 ((B.U.setTop g).pushFrame (.throwing q)))
section Payer
variable {l : Launch} {R : Room} {p : Program} {e : Env} {below : List Frame} {s : State} {sargs : Array Value} {y : MethodName} {len W9 : Nat}
theorem vx_back {ws : List Cond} {rm : Room} {Pc : Array Value → State → Prop} {Qc : Array Value → State → Outcome → State → Prop} {XC : String → State → State → Prop} {mc ms : Nat} {free : Addr → Prop} {bytes : ByteArray} {maxL : Nat} {ret : Option FieldType}
    (hM : vx_Met l y ws rm Pc Qc XC mc ms free) (hblind : FrameBlind Pc) (hrc : rm.cells = mc) (hrs : rm.slots = ms)
    (hframes : rm.frames + 1 ≤ R.frames) (hlocals : W9 + (maxL + 11) + rm.locals ≤ R.locals)
    (hws : ∀ w ∈ ws, ∀ a' U, s.WarmedH U.vm → w.before a' U = true) (hcode : Cond.code y bytes maxL ret ∈ ws) (hinit : ∀ a' U, s.WarmedH U.vm → (Cond.initialized y.cls).before a' U = true) :
    vx_Back l R p e below s sargs y len W9 (PreOf R mc ms Pc) (PostOf Qc mc ms free) (vx_Post XC mc ms free) := by
  intro m meth c A g ig mk a X hg hsize hdg hW hn hp
  have h1 : (headSpec ws rm).pre.before a A.U = true := atoms_intro fun w hw => hws w hw _ _ X.warmed
  have h2 : (Cond.code y bytes maxL ret).before a A.U = true := hws _ hcode _ _ X.warmed
  have h3 : (Cond.initialized y.cls).before a A.U = true := hinit _ _ X.warmed
  have h4 : A.cells + (headSpec ws rm).room.cells ≤ R.cells := by rw [show (headSpec ws rm).room.cells = mc from hrc]; exact hp.1
  have h5 : A.slots + (headSpec ws rm).room.slots ≤ R.slots := by rw [show (headSpec ws rm).room.slots = ms from hrs]; exact hp.2.1
  have hPc : Pc a (A.U.calling g mk a) := hblind _ _ _ _ hp.2.2
  obtain ⟨U, Ls, c0, s0⟩ := A
  dsimp only [Pt.U, Pt.locs, Pt.cells, Pt.slots] at h1 h2 h3 h4 h5 X hn hPc ⊢
  obtain ⟨methY, cY, hmY, hcY, -, hlY, -, -, -, -⟩ := Cond.code_spec hn h2
  obtain ⟨kY, hkY, -⟩ := className_of_methodNamed hn
  have hinitY : kY.init = .initialized := Cond.initialized_spec (findClass_of_methodNamed hn) hkY h3
  have h : At U g.method c below := by rw [hg]; exact X.here
  have hlocals9 : W9 + (maxL + 11) + (headSpec ws rm).room.locals ≤ R.locals := hlocals
  have happ : (headSpec ws rm).appliesLoose y e.platform (U.calling g mk a) = true :=
    Spec.appliesLoose_calling (g := g) h hdg hn hkY hinitY
      (X.room_calling (g := g) (R' := (headSpec ws rm).room) hsize hmY hcY hframes (by rw [hlY]; omega) h4 h5) h1
  obtain ⟨mid, hmid⟩ := h.above
  have hfr : (U.setTop g).frames = (.java g :: mid) ++ below := by rw [State.frames_setTop' g h.top, hmid]; rfl
  obtain ⟨o, s₂, hsteps, -, hend, hq⟩ := Steps.callFree hM p X.admits X.cas X.clock (acts := []) hfr happ hPc trivial
  have hq' : vx_Q Qc XC mc ms free a (U.calling g mk a) o s₂ := hq
  rw [State.frames_setTop' g h.top] at hend
  obtain ⟨g₀, hg0⟩ := Option.isSome_iff_exists.mp h.top
  obtain ⟨r, hr⟩ := State.topJava?_eq_some.mp hg0
  have hr' : (({ U with heap := s₂.heap, slotsUsed := s₂.slotsUsed } : State).setVm s₂.vm).frames = .java g₀ :: r := hr
  rcases hq' with ⟨hqc, L, hfe, hL⟩ | ⟨q, rfl, E, ce, L, hx, hce, hcv, hcl, hW₂, hsm, hL⟩
  · obtain ⟨⟨v, rfl⟩, hW₂, e2, q2, q3, q4, q5, q6⟩ := id hfe
    have e3 : s₂ = ({ (U.calling g mk a).setFrames s₂.frames with heap := s₂.heap, slotsUsed := s₂.slotsUsed } : State).setVm s₂.vm := by
      have : s₂ = ({ s₂ with vm := (U.calling g mk a).vm } : State).setVm s₂.vm := rfl
      rw [e2] at this
      exact this
    obtain ⟨c₂, i₂, len₂, hc₂, hd₂, hf₂⟩ := hend
    have hW' : U.WarmedH s₂.vm := hW₂
    have hcc : c₂ = c := by
      have h1 : s₂.code? g.method = U.code? g.method := by
        rw [State.code?_eq, State.code?_eq, hW'.alike.method?]
      exact Option.some.inj (hc₂.symm.trans (h1.trans h.code))
    subst hcc
    have hlen : len₂ = len := by rw [hdg] at hd₂; cases hd₂; rfl
    subst hlen
    have hs₂ : s₂ = (({ U with heap := s₂.heap, slotsUsed := s₂.slotsUsed } : State).setVm s₂.vm).setTop { g with pc := g.pc + len₂, stack := v.toList ++ g.stack } := by
      refine e3.trans ?_
      rw [hf₂, State.calling_eq h.top, State.setFrames_setFrames, State.setTop_of_frames _ hr', hr]
      rfl
    have hsame : U.sameButNew ({ U with heap := s₂.heap, slotsUsed := s₂.slotsUsed } : State) L mc ms := by
      refine ⟨?_, q2, q3, q4, q5, q6⟩
      obtain ⟨t, ht, -⟩ := State.frames_cons hr
      show ({ U with heap := s₂.heap, slotsUsed := s₂.slotsUsed } : State) = { U.setFrames U.frames with heap := s₂.heap, slotsUsed := s₂.slotsUsed }
      rw [State.setFrames_self ht]
    subst hg
    refine Or.inl ⟨v, ⟨(({ U with heap := s₂.heap, slotsUsed := s₂.slotsUsed } : State).setVm s₂.vm), Ls ++ L, c0 + mc, s0 + ms⟩,
      ⟨X.admits, X.cas, X.clock, X.frames, X.room, X.hears, X.method, X.code, (X.here.setHeapUsed s₂.heap s₂.slotsUsed).setVm hW'.alike, X.tail, State.WarmedH.trans X.warmed hW', X.limits, X.bytes, X.same.trans (hsame.setVm s.vm)⟩,
      ⟨g, mk, s₂, L, rfl, rfl, hqc, rfl, hL, rfl, rfl⟩, ?_⟩
    show Steps p.tables e below _ ((({ U with heap := s₂.heap, slotsUsed := s₂.slotsUsed } : State).setVm s₂.vm).setTop { g with pc := g.pc + len₂, stack := v.toList ++ g.stack })
    rw [← hs₂]
    exact hsteps
  · obtain ⟨e2, q2, q3, q4, q5, q6⟩ := id hsm
    have e3 : s₂ = ({ (U.calling g mk a).setFrames s₂.frames with heap := s₂.heap, slotsUsed := s₂.slotsUsed } : State).setVm s₂.vm := by
      have : s₂ = ({ s₂ with vm := (U.calling g mk a).vm } : State).setVm s₂.vm := rfl
      rw [e2] at this
      exact this
    have hf₂ : s₂.frames = .throwing q :: .java g :: U.frames.tail := hend
    have hW' : U.WarmedH s₂.vm := hW₂
    have hs₂ : s₂ = ((({ U with heap := s₂.heap, slotsUsed := s₂.slotsUsed } : State).setVm s₂.vm).setTop g).pushFrame (.throwing q) := by
      refine e3.trans ?_
      rw [hf₂, State.calling_eq h.top, State.setFrames_setFrames, State.pushFrame, State.frames_setTop _ hr', State.setTop_of_frames _ hr', State.setFrames_setFrames, hr]
      rfl
    have hsame : U.sameButNew ({ U with heap := s₂.heap, slotsUsed := s₂.slotsUsed } : State) L mc ms := by
      refine ⟨?_, q2, q3, q4, q5, q6⟩
      obtain ⟨t, ht, -⟩ := State.frames_cons hr
      show ({ U with heap := s₂.heap, slotsUsed := s₂.slotsUsed } : State) = { U.setFrames U.frames with heap := s₂.heap, slotsUsed := s₂.slotsUsed }
      rw [State.setFrames_self ht]
    subst hg
    refine Or.inr ⟨q, ⟨(({ U with heap := s₂.heap, slotsUsed := s₂.slotsUsed } : State).setVm s₂.vm), Ls ++ L, c0 + mc, s0 + ms⟩,
      ⟨X.admits, X.cas, X.clock, X.frames, X.room, X.hears, X.method, X.code, (X.here.setHeapUsed s₂.heap s₂.slotsUsed).setVm hW'.alike, X.tail, State.WarmedH.trans X.warmed hW', X.limits, X.bytes, X.same.trans (hsame.setVm s.vm)⟩,
      ⟨g, mk, s₂, L, E, ce, rfl, rfl, hx, hce, hcv, hcl, rfl, hL, rfl, rfl⟩, ?_⟩
    show Steps p.tables e below _ (((({ U with heap := s₂.heap, slotsUsed := s₂.slotsUsed } : State).setVm s₂.vm).setTop g).pushFrame (.throwing q))
    rw [← hs₂]
    exact hsteps
end Payer
section Calls
variable {p : Program} {l : Launch} {e : Env} {R : Room} {s : State} {m : MethodId} {args : Array Value} {below : List Frame} {meth : Method} {c : Code} {T : State} {locs : List Loc} {cells slots : Nat}
theorem vx_callV (X : Stand p l e R s m args below meth c T locs cells slots) (hexec : p.tables.exec = Jvm.exec) {own C : String} {index : Nat} {y : MethodName} {bytes : ByteArray} {maxL : Nat} {ret : Option FieldType}
    (hown : s.vm.findClass own = some m.cls) (hlink : (Cond.methodLink own index y).before args s = true) (hinst : (Cond.instanceMethod y).before args s = true) (hsel : (Cond.selects C y y).before args s = true)
    (hcode : (Cond.code y bytes maxL ret).before args s = true) (hy : y.cls ≠ "java/lang/invoke/MethodHandle" ∧ y.cls ≠ "java/lang/invoke/VarHandle")
    {W9 : Nat} {Pre : Pt → Array Value → Prop} {Post : Pt → Array Value → Option Value → Pt → Prop} {PostX : Pt → Array Value → Addr → Pt → Prop} (hK : vx_Back l R p e below s args y 3 W9 Pre Post PostX)
    {b : Addr} {cellB : Cell} (hcell : T.heap[b]? = some cellB) (hobj : cellB.vm.isStatics = false) (hcls : s.vm.findClass C = some cellB.cls)
    {g : JFrame} (hg : g.method = m) (hsize : g.locals.size = c.maxLocals) {argsL rest : List Value} (hlen : ∀ sig, parseMethodDescriptor y.desc = some sig → argsL.length = sig.parameters.length)
    (hstack : g.stack = argsL.reverse ++ .ref b :: rest) (hW : 2 * g.monitorRoom + (rest.map fun v => v.category).sum ≤ W9) (hdg : decode c.code g.pc = .ok (.invokevirtual index, 3))
    (hpre : ∀ vm₁, s.WarmedH vm₁ → Pre ⟨T.setVm vm₁, locs, cells, slots⟩ (Value.ref b :: argsL).toArray) :
    (∃ (v : Option Value) (vm₁ : Vm) (B : Pt), s.WarmedH vm₁ ∧ Stand p l e R s m args below meth c B.U B.locs B.cells B.slots ∧ Post ⟨T.setVm vm₁, locs, cells, slots⟩ (Value.ref b :: argsL).toArray v B ∧
      ∀ target, Steps p.tables e below (B.U.setTop { g with pc := g.pc + 3, stack := v.toList ++ rest }) target → Steps p.tables e below (T.setTop g) target) ∨
    (∃ (q : Addr) (vm₁ : Vm) (B : Pt), s.WarmedH vm₁ ∧ Stand p l e R s m args below meth c B.U B.locs B.cells B.slots ∧ PostX ⟨T.setVm vm₁, locs, cells, slots⟩ (Value.ref b :: argsL).toArray q B ∧
      Steps p.tables e below (T.setTop g) ((B.U.setTop { g with stack := rest }).pushFrame (.throwing q))) := by
  obtain ⟨mk, methM, hnamed, hmethM, hstM, habM⟩ := Cond.instanceMethod_spec hinst
  obtain ⟨methM', cM, hmethM', -, -, -, -, -, -, hsigM⟩ := Cond.code_spec hnamed hcode
  cases hmethM.symm.trans hmethM'
  obtain ⟨c2, r2, m2, q1, q2, q3, q4, kP, hkP, hkPi⟩ := Cond.selects_spec hsel
  cases hcls.symm.trans q1
  cases (State.methodFound?_of_named hnamed hy).symm.trans q2
  cases hnamed.symm.trans q3
  have hselP : selectMethod e.platform s.vm cellB.cls mk = .method mk := by rw [Launch.admits_selectMethod X.admits]; exact q4
  obtain ⟨vm₁, X₁, hstep₁⟩ := X.invokevirtual hexec hown hlink hnamed hmethM hstM hkP hkPi hy (a := b) (cell := cellB) hcell
    (fun z h => by rw [h] at hobj; cases hobj) hselP hmethM habM hkP hkPi (g := g) hg (argsL := argsL) (rest := rest) (hlen _ hsigM) hstack hdg
  rcases hK m meth c ⟨T.setVm vm₁, locs, cells, slots⟩ { g with stack := rest } (.invokevirtual index) mk (Value.ref b :: argsL).toArray X₁ hg hsize hdg hW (X₁.named hnamed) (hpre vm₁ X₁.warmed) with ⟨v, B, X', hpost, hsteps⟩ | ⟨q, B, X', hpost, hsteps⟩
  · exact Or.inl ⟨v, vm₁, B, X₁.warmed, X', hpost, fun target h => hstep₁ _ fun acts => by rw [doInvoke_state]; exact hsteps.trans h⟩
  · exact Or.inr ⟨q, vm₁, B, X₁.warmed, X', hpost, hstep₁ _ fun acts => by rw [doInvoke_state]; exact hsteps⟩
theorem vx_callS (X : Stand p l e R s m args below meth c T locs cells slots) (hexec : p.tables.exec = Jvm.exec) {own : String} {index : Nat} {y : MethodName} {bytes : ByteArray} {maxL : Nat} {ret : Option FieldType}
    (hown : s.vm.findClass own = some m.cls) (hlink : (Cond.methodLink own index y).before args s = true) (hstat : (Cond.static y).before args s = true) (hinit : (Cond.initialized y.cls).before args s = true)
    (hcode : (Cond.code y bytes maxL ret).before args s = true) (hy : y.cls ≠ "java/lang/invoke/MethodHandle" ∧ y.cls ≠ "java/lang/invoke/VarHandle")
    {W9 : Nat} {Pre : Pt → Array Value → Prop} {Post : Pt → Array Value → Option Value → Pt → Prop} {PostX : Pt → Array Value → Addr → Pt → Prop} (hK : vx_Back l R p e below s args y 3 W9 Pre Post PostX)
    {g : JFrame} (hg : g.method = m) (hsize : g.locals.size = c.maxLocals) {argsL rest : List Value} (hlen : ∀ sig, parseMethodDescriptor y.desc = some sig → argsL.length = sig.parameters.length)
    (hstack : g.stack = argsL.reverse ++ rest) (hW : 2 * g.monitorRoom + (rest.map fun v => v.category).sum ≤ W9) (hdg : decode c.code g.pc = .ok (.invokestatic index, 3))
    (hpre : ∀ vm₁, s.WarmedH vm₁ → Pre ⟨T.setVm vm₁, locs, cells, slots⟩ argsL.toArray) :
    (∃ (v : Option Value) (vm₁ : Vm) (B : Pt), s.WarmedH vm₁ ∧ Stand p l e R s m args below meth c B.U B.locs B.cells B.slots ∧ Post ⟨T.setVm vm₁, locs, cells, slots⟩ argsL.toArray v B ∧
      ∀ target, Steps p.tables e below (B.U.setTop { g with pc := g.pc + 3, stack := v.toList ++ rest }) target → Steps p.tables e below (T.setTop g) target) ∨
    (∃ (q : Addr) (vm₁ : Vm) (B : Pt), s.WarmedH vm₁ ∧ Stand p l e R s m args below meth c B.U B.locs B.cells B.slots ∧ PostX ⟨T.setVm vm₁, locs, cells, slots⟩ argsL.toArray q B ∧
      Steps p.tables e below (T.setTop g) ((B.U.setTop { g with stack := rest }).pushFrame (.throwing q))) := by
  obtain ⟨mk, hnamed⟩ := Cond.code_named hcode
  obtain ⟨methM, cM, hmethM, -, -, -, -, -, -, hsigM⟩ := Cond.code_spec hnamed hcode
  have hstatic : methM.isStatic = true := Cond.static_spec hnamed hmethM hstat
  obtain ⟨kP, hkP, -⟩ := className_of_methodNamed hnamed
  have hinitP : kP.init = .initialized := Cond.initialized_spec (findClass_of_methodNamed hnamed) hkP hinit
  obtain ⟨vm₁, X₁, hstep₁⟩ := X.invokestatic hexec hown hlink hnamed hmethM hstatic hkP hinitP hy (g := g) hg (argsL := argsL) (rest := rest) (hlen _ hsigM) hstack hdg
  rcases hK m meth c ⟨T.setVm vm₁, locs, cells, slots⟩ { g with stack := rest } (.invokestatic index) mk argsL.toArray X₁ hg hsize hdg hW (X₁.named hnamed) (hpre vm₁ X₁.warmed) with ⟨v, B, X', hpost, hsteps⟩ | ⟨q, B, X', hpost, hsteps⟩
  · exact Or.inl ⟨v, vm₁, B, X₁.warmed, X', hpost, fun target h => hstep₁ _ fun acts => by rw [doInvoke_state]; exact hsteps.trans h⟩
  · exact Or.inr ⟨q, vm₁, B, X₁.warmed, X', hpost, hstep₁ _ fun acts => by rw [doInvoke_state]; exact hsteps⟩
end Calls
theorem vx_cls {s : State} {T : State} {vm₁ : Vm} {E : String} {k : ClassId} (hW : s.WarmedH vm₁) (h : (T.setVm vm₁).vm.findClass E = some k) : s.vm.findClass E = some k := by
  have h1 : vm₁.findClass E = some k := h
  rw [hW.alike.findClass] at h1
  exact h1
/-- the method's frame g, with q thrown over it -/
def vx_W (p : Program) (l : Launch) (e : Env) (R : Room) (s : State) (m : MethodId) (args : Array Value) (below : List Frame) (meth : Method) (c : Code) (H : Heap) (locs : List Loc) (cells slots : Nat) (Q : State → Prop) (g : JFrame) (q : Addr) : Prop :=
  ∀ T : State, T.heap = H → Stand p l e R s m args below meth c T locs cells slots → ∃ t, Steps p.tables e below ((T.setTop g).pushFrame (.throwing q)) t ∧ Q t
def vx_Run (p : Program) (l : Launch) (e : Env) (R : Room) (s : State) (m : MethodId) (args : Array Value) (below : List Frame) (meth : Method) (c : Code) (H : Heap) (locs : List Loc) (cells slots mc ms : Nat) (g : JFrame) (rest : List Value) (Qa : State → Outcome → State → Prop) (XC : String → State → State → Prop) (free : Addr → Prop) : Prop :=
  ∀ T : State, T.heap = H → Stand p l e R s m args below meth c T locs cells slots →
    (∃ (v : Option Value) (st₀ t T' : State) (L : List Loc), st₀.heap = H ∧ Stand p l e R s m args below meth c T' (locs ++ L) (cells + mc) (slots + ms) ∧ (∀ q ∈ L, free q.base) ∧ T'.heap = t.heap ∧ T'.vm = t.vm ∧ Qa st₀ (.returned v) t ∧
      Goes p e below T g T' { g with pc := g.pc + 3, stack := v.toList ++ rest }) ∨
    (∃ (q : Addr) (st₀ t T' : State) (L : List Loc) (E : String) (ce : Cell), st₀.heap = H ∧ Stand p l e R s m args below meth c T' (locs ++ L) (cells + mc) (slots + ms) ∧ (∀ z ∈ L, free z.base) ∧ T'.heap = t.heap ∧ T'.vm = t.vm ∧ XC E st₀ t ∧ t.heap[q]? = some ce ∧ ce.vm = .none ∧ s.vm.findClass E = some ce.cls ∧
      Steps p.tables e below (T.setTop g) ((T'.setTop { g with stack := rest }).pushFrame (.throwing q)))
def vx_X {S : Type} (px : S → Prop) (B : String → S → State → Prop) (A : Nat → Prop) : String → State → State → Prop := fun E st t => ∃ u : S, px u ∧ B E u t ∧ va_F A st t
section Runs
variable {p : Program} {l : Launch} {e : Env} {R : Room} {s : State} {m : MethodId} {args : Array Value} {below : List Frame} {meth : Method} {c : Code} {H : Heap} {locs : List Loc} {cells slots : Nat}
variable {y : MethodName} {bytes cc : ByteArray} {maxL nL mc ms n index : Nat} {ret : Option FieldType} {ws : List Cond} {rm : Room} {Pc : Array Value → State → Prop} {Qc : Array Value → State → Outcome → State → Prop} {XC : String → State → State → Prop} {free : Addr → Prop} {Ts : List Cond} {own C : String} {b : Addr} {As rest : List Value} {g : JFrame}
theorem vx_callBack (cb : CallB R s args own index y bytes maxL ret ws rm mc ms n) (hM : vx_Met l y ws rm Pc Qc XC mc ms free) (hbl : FrameBlind Pc) : vx_Back l R p e below s args y 3 8 (PreOf R mc ms Pc) (PostOf Qc mc ms free) (vx_Post XC mc ms free) := by
  obtain ⟨hrc, hrs, hfr, hlo, hws, hcw, -, hini, -⟩ := cb
  exact vx_back (bytes := bytes) (maxL := maxL) (ret := ret) hM hbl hrc hrs hfr hlo hws hcw (fun a' U hW => word_at hW (Or.inl (by first | rfl | simp [Cond.onTables, Cond.keeps, Cond.steady])) hini)
theorem vx_runV (S : CallFix p m c cc nL s args Ts own) (hM : vx_Met l y ws rm Pc Qc XC mc ms free) (cw : CallW R s args own C index y bytes maxL ret ws rm mc ms n) (hp : PreV s H C b Pc As)
    (hg : g.method = m) (hn : As.length = n) (hsize : g.locals.size = nL) (hstack : g.stack = As.reverse ++ .ref b :: rest) (hW : 2 * g.monitorRoom + (rest.map fun v => v.category).sum ≤ 8) (hdg : decode cc g.pc = .ok (.invokevirtual index, 3)) (hf : cells + mc ≤ R.cells ∧ slots + ms ≤ R.slots) :
    vx_Run p l e R s m args below meth c H locs cells slots mc ms g rest (Qc (Value.ref b :: As).toArray) XC free := by
  have hK : vx_Back l R p e below s args y 3 8 (PreOf R mc ms Pc) (PostOf Qc mc ms free) (vx_Post XC mc ms free) := vx_callBack cw.1 hM hp.1
  obtain ⟨⟨-, -, -, -, -, -, hcode, -, hy, hlen, hl⟩, hin, hse⟩ := cw
  obtain ⟨hx, hb, hml, ho, -⟩ := S
  obtain ⟨-, ⟨cellB, hcB, hoB, hclB⟩, hPc⟩ := hp
  intro T hT X
  rcases vx_callV X hx (C := C) (bytes := bytes) (maxL := maxL) (ret := ret) ho hl hin hse hcode hy hK (by rw [hT]; exact hcB) hoB hclB hg (hsize.trans hml.symm) (argsL := As) (rest := rest) (fun sig h => hn.trans (hlen sig h)) hstack hW (by rw [hb]; exact hdg)
    (fun vm₁ hW₁ => ⟨hf.1, hf.2, hPc (T.setVm vm₁) hT hW₁⟩) with ⟨v, vm₁, ⟨U', l2, c2, s2⟩, hW₁, X', ⟨g', mk, t, L, e1, e2, hq, h1, hL, h2, h3⟩, st⟩ | ⟨q, vm₁, ⟨U', l2, c2, s2⟩, hW₁, X', ⟨g', mk, t, L, E, ce, e1, e2, hq, hce, hcv, hcl, h1, hL, h2, h3⟩, st⟩
  · dsimp only [Pt.U, Pt.locs, Pt.cells, Pt.slots] at X' e1 e2 h1 h2 h3 st
    subst h1; subst h2; subst h3
    exact Or.inl ⟨v, (T.setVm vm₁).calling g' mk (Value.ref b :: As).toArray, t, U', L, hT, X', hL, e1, e2, hq, st⟩
  · dsimp only [Pt.U, Pt.locs, Pt.cells, Pt.slots] at X' e1 e2 h1 h2 h3 st hcl
    subst h1; subst h2; subst h3
    exact Or.inr ⟨q, (T.setVm vm₁).calling g' mk (Value.ref b :: As).toArray, t, U', L, E, ce, hT, X', hL, e1, e2, hq, hce, hcv, vx_cls hW₁ hcl, st⟩
theorem vx_runS (S : CallFix p m c cc nL s args Ts own) (hM : vx_Met l y ws rm Pc Qc XC mc ms free) (cw : CallB R s args own index y bytes maxL ret ws rm mc ms n ∧ (Cond.static y).before args s = true) (hp : PreS s H Pc As)
    (hg : g.method = m) (hn : As.length = n) (hsize : g.locals.size = nL) (hstack : g.stack = As.reverse ++ rest) (hW : 2 * g.monitorRoom + (rest.map fun v => v.category).sum ≤ 8) (hdg : decode cc g.pc = .ok (.invokestatic index, 3)) (hf : cells + mc ≤ R.cells ∧ slots + ms ≤ R.slots) :
    vx_Run p l e R s m args below meth c H locs cells slots mc ms g rest (Qc As.toArray) XC free := by
  have hK : vx_Back l R p e below s args y 3 8 (PreOf R mc ms Pc) (PostOf Qc mc ms free) (vx_Post XC mc ms free) := vx_callBack cw.1 hM hp.1
  obtain ⟨⟨-, -, -, -, -, -, hcode, hini, hy, hlen, hl⟩, hstt⟩ := cw
  obtain ⟨hx, hb, hml, ho, -⟩ := S
  intro T hT X
  rcases vx_callS X hx (bytes := bytes) (maxL := maxL) (ret := ret) ho hl hstt hini hcode hy hK hg (hsize.trans hml.symm) (argsL := As) (rest := rest) (fun sig h => hn.trans (hlen sig h)) hstack hW (by rw [hb]; exact hdg)
    (fun vm₁ hW₁ => ⟨hf.1, hf.2, hp.2 (T.setVm vm₁) hT hW₁⟩) with ⟨v, vm₁, ⟨U', l2, c2, s2⟩, hW₁, X', ⟨g', mk, t, L, e1, e2, hq, h1, hL, h2, h3⟩, st⟩ | ⟨q, vm₁, ⟨U', l2, c2, s2⟩, hW₁, X', ⟨g', mk, t, L, E, ce, e1, e2, hq, hce, hcv, hcl, h1, hL, h2, h3⟩, st⟩
  · dsimp only [Pt.U, Pt.locs, Pt.cells, Pt.slots] at X' e1 e2 h1 h2 h3 st
    subst h1; subst h2; subst h3
    exact Or.inl ⟨v, (T.setVm vm₁).calling g' mk As.toArray, t, U', L, hT, X', hL, e1, e2, hq, st⟩
  · dsimp only [Pt.U, Pt.locs, Pt.cells, Pt.slots] at X' e1 e2 h1 h2 h3 st hcl
    subst h1; subst h2; subst h3
    exact Or.inr ⟨q, (T.setVm vm₁).calling g' mk As.toArray, t, U', L, E, ce, hT, X', hL, e1, e2, hq, hce, hcv, vx_cls hW₁ hcl, st⟩
end Runs
section Rows
variable {p : Program} {l : Launch} {e : Env} {R : Room} {s : State} {m : MethodId} {args : Array Value} {below : List Frame} {meth : Method} {c : Code} {H : Heap} {locs : List Loc} {cells slots : Nat} {Q : State → Prop}
variable {mc ms : Nat} {free : Addr → Prop} {A0 A1 : Nat → Prop} {H0 : Heap} {a : Array Value} {pc : Nat} {ls : Array Slot} {st0 rest : List Value}
theorem vx_keep {st₀ t T' : State} {L : List Loc} (h0 : st₀.heap = H) (e1 : T'.heap = t.heap) (hS : va_S A0 H0 H locs) (hA : ∀ q, q < H.size → A1 q → A0 q) (hf : ∀ q, free q → A0 q) (hL : ∀ q ∈ L, free q.base) (hF : va_F A1 st₀ t) :
    H.size ≤ T'.heap.size ∧ (∀ q : Nat, q < H.size → ¬ A1 q → T'.heap[q]? = H[q]?) ∧ va_S A0 H0 T'.heap (locs ++ L) := by
  obtain ⟨hz, hk⟩ := hF
  rw [h0] at hz hk
  exact ⟨by rw [e1]; exact hz, fun q h1 h2 => by rw [e1]; exact hk q h1 h2,
    ⟨Nat.le_trans hS.1 (by rw [e1]; exact hz), fun q h1 h2 => by rw [e1, hk q (Nat.lt_of_lt_of_le h1 hS.1) (fun z => h2 (hA q (Nat.lt_of_lt_of_le h1 hS.1) z))]; exact hS.2.1 q h1 h2, fun q hq => by
      rcases List.mem_append.mp hq with h | h
      · exact hS.2.2 q h
      · exact hf _ (hL q h)⟩⟩
theorem vx_calli {S SX : Type} {post : Int32 → S → Prop} {px : SX → Prop} {B : S → State → Prop} {BX : String → SX → State → Prop} {AX : Nat → Prop} (hr : vx_Run p l e R s m args below meth c H locs cells slots mc ms (F0 m pc ls st0) rest (va_Qi post B A1 a) (vx_X px BX AX) free) (hS : va_S A0 H0 H locs) (hA : ∀ q, q < H.size → A1 q → A0 q) (hf : ∀ q, free q → A0 q) (hAX : ∀ q, q < H.size → AX q → A0 q)
    (kx : ∀ (E : String) (ce : Cell) (q9 : Addr) (u : SX) (t : State) (H1 : Heap) (locs1 : List Loc), t.heap = H1 → s.vm.Alike t.vm → px u → BX E u t → H.size ≤ H1.size → (∀ q : Nat, q < H.size → ¬ AX q → H1[q]? = H[q]?) → va_S A0 H0 H1 locs1 → H1[q9]? = some ce → ce.vm = .none → s.vm.findClass E = some ce.cls → vx_W p l e R s m args below meth c H1 locs1 (cells + mc) (slots + ms) Q (F0 m pc ls rest) q9)
    (kk : ∀ (r : Int32) (u : S) (t : State) (H1 : Heap) (locs1 : List Loc), t.heap = H1 → s.vm.Alike t.vm → post r u → B u t → H.size ≤ H1.size → (∀ q : Nat, q < H.size → ¬ A1 q → H1[q]? = H[q]?) → va_S A0 H0 H1 locs1 → W p l e R s m args below meth c H1 locs1 (cells + mc) (slots + ms) Q (F0 m (pc + 3) ls (.int r :: rest))) : W p l e R s m args below meth c H locs cells slots Q (F0 m pc ls st0) := by
  intro T hT X
  rcases hr T hT X with ⟨v, st₀, t, T', L, h0, X', hL, e1, e2, ⟨⟨r, u, hv, hp, hb⟩, hF⟩, st⟩ | ⟨q, st₀, t, T', L, E, ce, h0, X', hL, e1, e2, ⟨u, hp, hb, hF⟩, hce, hcv, hcl, st⟩
  · cases hv
    obtain ⟨k1, k2, k3⟩ := vx_keep h0 e1 hS hA hf hL hF
    obtain ⟨t2, a1, b1⟩ := kk r u t T'.heap (locs ++ L) e1.symm (by rw [← e2]; exact X'.warmed.alike) hp hb k1 k2 k3 T' rfl X'
    exact ⟨t2, st t2 a1, b1⟩
  · obtain ⟨k1, k2, k3⟩ := vx_keep h0 e1 hS hAX hf hL hF
    obtain ⟨t2, a1, b1⟩ := kx E ce q u t T'.heap (locs ++ L) e1.symm (by rw [← e2]; exact X'.warmed.alike) hp hb k1 k2 k3 (by rw [e1]; exact hce) hcv hcl T' rfl X'
    exact ⟨t2, st.trans a1, b1⟩
theorem vx_calll {S SX : Type} {post : Int64 → S → Prop} {px : SX → Prop} {B : S → State → Prop} {BX : String → SX → State → Prop} {AX : Nat → Prop} (hr : vx_Run p l e R s m args below meth c H locs cells slots mc ms (F0 m pc ls st0) rest (va_Ql post B A1 a) (vx_X px BX AX) free) (hS : va_S A0 H0 H locs) (hA : ∀ q, q < H.size → A1 q → A0 q) (hf : ∀ q, free q → A0 q) (hAX : ∀ q, q < H.size → AX q → A0 q)
    (kx : ∀ (E : String) (ce : Cell) (q9 : Addr) (u : SX) (t : State) (H1 : Heap) (locs1 : List Loc), t.heap = H1 → s.vm.Alike t.vm → px u → BX E u t → H.size ≤ H1.size → (∀ q : Nat, q < H.size → ¬ AX q → H1[q]? = H[q]?) → va_S A0 H0 H1 locs1 → H1[q9]? = some ce → ce.vm = .none → s.vm.findClass E = some ce.cls → vx_W p l e R s m args below meth c H1 locs1 (cells + mc) (slots + ms) Q (F0 m pc ls rest) q9)
    (kk : ∀ (r : Int64) (u : S) (t : State) (H1 : Heap) (locs1 : List Loc), t.heap = H1 → s.vm.Alike t.vm → post r u → B u t → H.size ≤ H1.size → (∀ q : Nat, q < H.size → ¬ A1 q → H1[q]? = H[q]?) → va_S A0 H0 H1 locs1 → W p l e R s m args below meth c H1 locs1 (cells + mc) (slots + ms) Q (F0 m (pc + 3) ls (.long r :: rest))) : W p l e R s m args below meth c H locs cells slots Q (F0 m pc ls st0) := by
  intro T hT X
  rcases hr T hT X with ⟨v, st₀, t, T', L, h0, X', hL, e1, e2, ⟨⟨r, u, hv, hp, hb⟩, hF⟩, st⟩ | ⟨q, st₀, t, T', L, E, ce, h0, X', hL, e1, e2, ⟨u, hp, hb, hF⟩, hce, hcv, hcl, st⟩
  · cases hv
    obtain ⟨k1, k2, k3⟩ := vx_keep h0 e1 hS hA hf hL hF
    obtain ⟨t2, a1, b1⟩ := kk r u t T'.heap (locs ++ L) e1.symm (by rw [← e2]; exact X'.warmed.alike) hp hb k1 k2 k3 T' rfl X'
    exact ⟨t2, st t2 a1, b1⟩
  · obtain ⟨k1, k2, k3⟩ := vx_keep h0 e1 hS hAX hf hL hF
    obtain ⟨t2, a1, b1⟩ := kx E ce q u t T'.heap (locs ++ L) e1.symm (by rw [← e2]; exact X'.warmed.alike) hp hb k1 k2 k3 (by rw [e1]; exact hce) hcv hcl T' rfl X'
    exact ⟨t2, st.trans a1, b1⟩
theorem vx_callf {S SX : Type} {post : UInt32 → S → Prop} {px : SX → Prop} {B : S → State → Prop} {BX : String → SX → State → Prop} {AX : Nat → Prop} (hr : vx_Run p l e R s m args below meth c H locs cells slots mc ms (F0 m pc ls st0) rest (va_Qf post B A1 a) (vx_X px BX AX) free) (hS : va_S A0 H0 H locs) (hA : ∀ q, q < H.size → A1 q → A0 q) (hf : ∀ q, free q → A0 q) (hAX : ∀ q, q < H.size → AX q → A0 q)
    (kx : ∀ (E : String) (ce : Cell) (q9 : Addr) (u : SX) (t : State) (H1 : Heap) (locs1 : List Loc), t.heap = H1 → s.vm.Alike t.vm → px u → BX E u t → H.size ≤ H1.size → (∀ q : Nat, q < H.size → ¬ AX q → H1[q]? = H[q]?) → va_S A0 H0 H1 locs1 → H1[q9]? = some ce → ce.vm = .none → s.vm.findClass E = some ce.cls → vx_W p l e R s m args below meth c H1 locs1 (cells + mc) (slots + ms) Q (F0 m pc ls rest) q9)
    (kk : ∀ (r : UInt32) (u : S) (t : State) (H1 : Heap) (locs1 : List Loc), t.heap = H1 → s.vm.Alike t.vm → post r u → B u t → H.size ≤ H1.size → (∀ q : Nat, q < H.size → ¬ A1 q → H1[q]? = H[q]?) → va_S A0 H0 H1 locs1 → W p l e R s m args below meth c H1 locs1 (cells + mc) (slots + ms) Q (F0 m (pc + 3) ls (.float r :: rest))) : W p l e R s m args below meth c H locs cells slots Q (F0 m pc ls st0) := by
  intro T hT X
  rcases hr T hT X with ⟨v, st₀, t, T', L, h0, X', hL, e1, e2, ⟨⟨r, u, hv, hp, hb⟩, hF⟩, st⟩ | ⟨q, st₀, t, T', L, E, ce, h0, X', hL, e1, e2, ⟨u, hp, hb, hF⟩, hce, hcv, hcl, st⟩
  · cases hv
    obtain ⟨k1, k2, k3⟩ := vx_keep h0 e1 hS hA hf hL hF
    obtain ⟨t2, a1, b1⟩ := kk r u t T'.heap (locs ++ L) e1.symm (by rw [← e2]; exact X'.warmed.alike) hp hb k1 k2 k3 T' rfl X'
    exact ⟨t2, st t2 a1, b1⟩
  · obtain ⟨k1, k2, k3⟩ := vx_keep h0 e1 hS hAX hf hL hF
    obtain ⟨t2, a1, b1⟩ := kx E ce q u t T'.heap (locs ++ L) e1.symm (by rw [← e2]; exact X'.warmed.alike) hp hb k1 k2 k3 (by rw [e1]; exact hce) hcv hcl T' rfl X'
    exact ⟨t2, st.trans a1, b1⟩
theorem vx_calld {S SX : Type} {post : UInt64 → S → Prop} {px : SX → Prop} {B : S → State → Prop} {BX : String → SX → State → Prop} {AX : Nat → Prop} (hr : vx_Run p l e R s m args below meth c H locs cells slots mc ms (F0 m pc ls st0) rest (va_Qd post B A1 a) (vx_X px BX AX) free) (hS : va_S A0 H0 H locs) (hA : ∀ q, q < H.size → A1 q → A0 q) (hf : ∀ q, free q → A0 q) (hAX : ∀ q, q < H.size → AX q → A0 q)
    (kx : ∀ (E : String) (ce : Cell) (q9 : Addr) (u : SX) (t : State) (H1 : Heap) (locs1 : List Loc), t.heap = H1 → s.vm.Alike t.vm → px u → BX E u t → H.size ≤ H1.size → (∀ q : Nat, q < H.size → ¬ AX q → H1[q]? = H[q]?) → va_S A0 H0 H1 locs1 → H1[q9]? = some ce → ce.vm = .none → s.vm.findClass E = some ce.cls → vx_W p l e R s m args below meth c H1 locs1 (cells + mc) (slots + ms) Q (F0 m pc ls rest) q9)
    (kk : ∀ (r : UInt64) (u : S) (t : State) (H1 : Heap) (locs1 : List Loc), t.heap = H1 → s.vm.Alike t.vm → post r u → B u t → H.size ≤ H1.size → (∀ q : Nat, q < H.size → ¬ A1 q → H1[q]? = H[q]?) → va_S A0 H0 H1 locs1 → W p l e R s m args below meth c H1 locs1 (cells + mc) (slots + ms) Q (F0 m (pc + 3) ls (.double r :: rest))) : W p l e R s m args below meth c H locs cells slots Q (F0 m pc ls st0) := by
  intro T hT X
  rcases hr T hT X with ⟨v, st₀, t, T', L, h0, X', hL, e1, e2, ⟨⟨r, u, hv, hp, hb⟩, hF⟩, st⟩ | ⟨q, st₀, t, T', L, E, ce, h0, X', hL, e1, e2, ⟨u, hp, hb, hF⟩, hce, hcv, hcl, st⟩
  · cases hv
    obtain ⟨k1, k2, k3⟩ := vx_keep h0 e1 hS hA hf hL hF
    obtain ⟨t2, a1, b1⟩ := kk r u t T'.heap (locs ++ L) e1.symm (by rw [← e2]; exact X'.warmed.alike) hp hb k1 k2 k3 T' rfl X'
    exact ⟨t2, st t2 a1, b1⟩
  · obtain ⟨k1, k2, k3⟩ := vx_keep h0 e1 hS hAX hf hL hF
    obtain ⟨t2, a1, b1⟩ := kx E ce q u t T'.heap (locs ++ L) e1.symm (by rw [← e2]; exact X'.warmed.alike) hp hb k1 k2 k3 (by rw [e1]; exact hce) hcv hcl T' rfl X'
    exact ⟨t2, st.trans a1, b1⟩
theorem vx_callv {S SX : Type} {post : S → Prop} {px : SX → Prop} {B : S → State → Prop} {BX : String → SX → State → Prop} {AX : Nat → Prop} (hr : vx_Run p l e R s m args below meth c H locs cells slots mc ms (F0 m pc ls st0) rest (va_Qv post B A1 a) (vx_X px BX AX) free) (hS : va_S A0 H0 H locs) (hA : ∀ q, q < H.size → A1 q → A0 q) (hf : ∀ q, free q → A0 q) (hAX : ∀ q, q < H.size → AX q → A0 q)
    (kx : ∀ (E : String) (ce : Cell) (q9 : Addr) (u : SX) (t : State) (H1 : Heap) (locs1 : List Loc), t.heap = H1 → s.vm.Alike t.vm → px u → BX E u t → H.size ≤ H1.size → (∀ q : Nat, q < H.size → ¬ AX q → H1[q]? = H[q]?) → va_S A0 H0 H1 locs1 → H1[q9]? = some ce → ce.vm = .none → s.vm.findClass E = some ce.cls → vx_W p l e R s m args below meth c H1 locs1 (cells + mc) (slots + ms) Q (F0 m pc ls rest) q9)
    (kk : ∀ (u : S) (t : State) (H1 : Heap) (locs1 : List Loc), t.heap = H1 → s.vm.Alike t.vm → post u → B u t → H.size ≤ H1.size → (∀ q : Nat, q < H.size → ¬ A1 q → H1[q]? = H[q]?) → va_S A0 H0 H1 locs1 → W p l e R s m args below meth c H1 locs1 (cells + mc) (slots + ms) Q (F0 m (pc + 3) ls (rest))) : W p l e R s m args below meth c H locs cells slots Q (F0 m pc ls st0) := by
  intro T hT X
  rcases hr T hT X with ⟨v, st₀, t, T', L, h0, X', hL, e1, e2, ⟨⟨u, hv, hp, hb⟩, hF⟩, st⟩ | ⟨q, st₀, t, T', L, E, ce, h0, X', hL, e1, e2, ⟨u, hp, hb, hF⟩, hce, hcv, hcl, st⟩
  · cases hv
    obtain ⟨k1, k2, k3⟩ := vx_keep h0 e1 hS hA hf hL hF
    obtain ⟨t2, a1, b1⟩ := kk u t T'.heap (locs ++ L) e1.symm (by rw [← e2]; exact X'.warmed.alike) hp hb k1 k2 k3 T' rfl X'
    exact ⟨t2, st t2 a1, b1⟩
  · obtain ⟨k1, k2, k3⟩ := vx_keep h0 e1 hS hAX hf hL hF
    obtain ⟨t2, a1, b1⟩ := kx E ce q u t T'.heap (locs ++ L) e1.symm (by rw [← e2]; exact X'.warmed.alike) hp hb k1 k2 k3 (by rw [e1]; exact hce) hcv hcl T' rfl X'
    exact ⟨t2, st.trans a1, b1⟩
/-- the search of a handler stops at the first row, if that one takes the object -/
theorem led_go {Qh : Handler → Pre} {Eh : CtlPost} {e9 : Env} {dd : Bool} {acts : List Action} {S : State} {f : JFrame} {q : Addr} {x : ExceptionTableEntry} {suf : List ExceptionTableEntry} {c4 : ClassId} {ce : Cell} (hx : covers x f.pc = true) (h0 : x.catchType ≠ 0)
    (hlk : S.vm.ClassLinks e9.platform f.method.cls x.catchType c4) (hcT : S.heap[q]? = some ce) (hobj : ∀ k, ce.vm ≠ .statics k) (hk1 : ∃ k, S.vm.classes[ce.cls]? = some k) (hk2 : ∃ k, S.vm.classes[c4]? = some k) (hfit : S.vm.assignable ce.cls c4 = true) :
    wp (findHandler.go f q (x :: suf)) Qh Eh e9 dd acts S ↔ Qh (.found x.handlerPc) dd acts (S.setVm (S.vm.noted f.method.cls x.catchType (.cls c4))) := by
  simp only [covers] at hx
  obtain ⟨ha, ht⟩ := (resolveClass_links e9.toSetting hlk).op (op := VmOp.resolveClass f.method.cls x.catchType) rfl
  have hal : S.vm.Alike (S.vm.noted f.method.cls x.catchType (.cls c4)) := (Vm.Alike.refl S.vm).noted _ _ _
  obtain ⟨k1, hk1⟩ := hk1
  obtain ⟨k2, hk2⟩ := hk2
  obtain ⟨k1', hk1', -⟩ := hal.2.2 _ _ hk1
  obtain ⟨k2', hk2', -⟩ := hal.2.2 _ _ hk2
  have hfit' : (S.vm.noted f.method.cls x.catchType (.cls c4)).assignable ce.cls c4 = true := by rw [hal.assignable]; exact hfit
  simp [findHandler.go, hx, h0, ha, ht, hcT, hobj, hk1', hk2', hfit', VmOp.dirties, VmOp.acts]
/-- caught by the first row of the method's own table -/
theorem led_catch {own name : String} {E : String} {ce : Cell} {q : Addr} (hown : s.vm.findClass own = some m.cls) (x : ExceptionTableEntry) (suf : List ExceptionTableEntry) (hsplit : c.exceptionTable.toList = x :: suf) (hx : covers x pc = true) (h0 : x.catchType ≠ 0)
    (hlink : (Cond.classLink own x.catchType name).before args s = true) (hcast : (Cond.castable E name).before args s = true) (hcell : H[q]? = some ce) (hv : ce.vm = .none) (hcl : s.vm.findClass E = some ce.cls)
    (kk : W p l e R s m args below meth c H locs cells slots Q (F0 m x.handlerPc ls [.ref q])) : vx_W p l e R s m args below meth c H locs cells slots Q (F0 m pc ls rest) q := by
  intro T hT X
  have hpl : e.platform.magicAccessors = ({} : Platform).magicAccessors := by rw [X.admits.platform]
  obtain ⟨c3, c4, hc3, hc4, hasg⟩ := Cond.castable_spec hcast
  cases Option.some.inj (hc3.symm.trans hcl)
  obtain ⟨c5, hc5, hcl5⟩ := Cond.classLink_spec hown hlink e.platform hpl
  cases Option.some.inj (hc4.symm.trans hc5)
  obtain ⟨dk, _, _, kt, hd, _, _, _, _, hkt, _, hopen⟩ := hcl5.here
  have hlk := X.warmed.classLinks hcl5
  have hW' : s.WarmedH (T.vm.noted m.cls x.catchType (.cls c4)) := X.warmed.noted hd hopen (State.rightAt_cls hcl5)
  obtain ⟨kt', hkt', -⟩ := X.warmed.alike.2.2 _ _ hkt
  have hfit : T.vm.assignable ce.cls c4 = true := by rw [X.warmed.alike.assignable]; exact hasg
  obtain ⟨k1, hk1⟩ := Vm.classAt_of_assignable hfit ⟨kt', hkt'⟩
  have hcT : T.heap[q]? = some ce := by rw [hT]; exact hcell
  have hobj : ∀ k, ce.vm ≠ .statics k := fun k h => by rw [hv] at h; cases h
  have hfind : ∀ (Qh : Handler → Pre) (Eh : CtlPost) (dd : Bool) (acts : List Action), wp (findHandler (F0 m pc ls rest) q) Qh Eh e dd acts ((T.setTop (F0 m pc ls rest)).pushFrame (.throwing q)) ↔ Qh (.found x.handlerPc) dd acts (((T.setTop (F0 m pc ls rest)).pushFrame (.throwing q)).setVm (T.vm.noted m.cls x.catchType (.cls c4))) := by
    intro Qh Eh dd acts
    rw [Jvm.W.findHandler_eq (s := (T.setTop (F0 m pc ls rest)).pushFrame (.throwing q)) (f := F0 m pc ls rest) (meth := meth) (code := c) X.method' X.code, hsplit]
    exact led_go (S := (T.setTop (F0 m pc ls rest)).pushFrame (.throwing q)) (f := F0 m pc ls rest) hx h0 hlk hcT hobj ⟨k1, hk1⟩ ⟨kt', hkt'⟩ hfit
  obtain ⟨t, a1, b1⟩ := kk (T.setVm (T.vm.noted m.cls x.catchType (.cls c4))) hT (X.noted hW')
  refine ⟨t, ?_, b1⟩
  have hstep : (stepThrowing e ((T.setTop (F0 m pc ls rest)).pushFrame (.throwing q)) q (.java (F0 m pc ls rest) :: T.frames.tail)).Is ((((T.setTop (F0 m pc ls rest)).pushFrame (.throwing q)).setVm (T.vm.noted m.cls x.catchType (.cls c4))).setFrames (.java { (F0 m pc ls rest) with pc := x.handlerPc, stack := [.ref q] } :: T.frames.tail)) [] := by
    simp only [stepThrowing, searchFrame, vmDo]
    generalize hr : Sem.go _ e false [] ((T.setTop (F0 m pc ls rest)).pushFrame (.throwing q)) = res
    obtain ⟨as, rfl, hz⟩ := Sem.eq_ok_of hr (a := Handler.found x.handlerPc) (s' := ((T.setTop (F0 m pc ls rest)).pushFrame (.throwing q)).setVm (T.vm.noted m.cls x.catchType (.cls c4))) (acts' := []) (by simp [hfind _ _ _ _])
    exact ⟨rfl, hz⟩
  obtain ⟨hgo, hw⟩ := X.here.throwing (g := F0 m pc ls rest) q
  refine Steps.head hgo hw ?_
  rw [stepThread_throwing (frames_entered X.here.top _), hstep.1]
  obtain ⟨g₀, hg⟩ := Option.isSome_iff_exists.mp X.here.top
  obtain ⟨r, hr⟩ := State.topJava?_eq_some.mp hg
  have hr' : (T.setVm (T.vm.noted m.cls x.catchType (.cls c4))).frames = .java g₀ :: r := hr
  rw [State.setTop_of_frames _ hr'] at a1
  have key : ∀ (u : State) (v9 : Vm) (F G : List Frame), ((u.setFrames F).setVm v9).setFrames G = (u.setVm v9).setFrames G := by
    intro u v9 F G
    show ((u.setVm v9).setFrames F).setFrames G = _
    rw [State.setFrames_setFrames]
  rw [hr, List.tail_cons, State.pushFrame, key, State.setTop_of_frames _ hr, key]
  exact a1
end Rows
section Ends
variable {p : Program} {l : Launch} {e : Env} {R : Room} {s : State} {m : MethodId} {args : Array Value} {below : List Frame} {meth : Method} {c : Code} {H : Heap} {locs : List Loc} {cells slots : Nat} {Q : State → Prop}
variable {mc ms : Nat} {free : Addr → Prop} {A0 A1 : Nat → Prop} {H0 : Heap} {a : Array Value} {ls : Array Slot} {st0 rest : List Value}
variable {Qc : Array Value → State → Outcome → State → Prop} {XC : String → State → State → Prop}
/-- what a body that may throw owes at its end -/
def vx_MQ (below : List Frame) (Qc : Array Value → State → Outcome → State → Prop) (XC : String → State → State → Prop) (a : Array Value) (s : State) (mc ms : Nat) (free : Addr → Prop) : State → Prop := fun t =>
  ∃ o, t.status = .running ∧ Ended t below o ∧ vx_Q Qc XC mc ms free a s o t
theorem vx_ret {g : JFrame} {mc ms : Nat} (k : W p l e R s m args below meth c H locs cells slots (MQ below Qc args s mc ms free) g) : W p l e R s m args below meth c H locs cells slots (vx_MQ below Qc XC args s mc ms free) g := by
  intro T hT X
  obtain ⟨t, a1, o, b1, b2, b3, b4⟩ := k T hT X
  exact ⟨t, a1, o, b1, b2, Or.inl ⟨b3, b4⟩⟩
/-- not caught here: it goes on to the caller -/
theorem vx_widen {g : JFrame} {q : Addr} {k n : Nat} (h1 : cells ≤ k) (h2 : slots ≤ n) (kk : vx_W p l e R s m args below meth c H locs k n Q g q) : vx_W p l e R s m args below meth c H locs cells slots Q g q := fun T hT X => kk T hT (stand_widen X h1 h2)
theorem vx_out {pc : Nat} {E : String} {ce : Cell} {q : Addr} {mc ms : Nat} (hout : ∀ x ∈ c.exceptionTable.toList, covers x pc = false) (hlocks : meth.locks = false) (hcell : H[q]? = some ce) (hv : ce.vm = .none) (hcl : s.vm.findClass E = some ce.cls)
    (hx : ∀ t : State, t.heap = H → s.vm.Alike t.vm → XC E s t) (hf : ∀ z ∈ locs, free z.base) (hc : cells ≤ mc) (hs : slots ≤ ms) :
    vx_W p l e R s m args below meth c H locs cells slots (vx_MQ below Qc XC args s mc ms free) (F0 m pc ls rest) q := by
  intro T hT X
  obtain ⟨st1, hrun, hend, hW, hsm⟩ := X.leaveThrown q (g := F0 m pc ls rest) rfl rfl rfl hout hlocks
  have hcell9 : (T.setFrames (.throwing q :: below)).heap[q]? = some ce := by
    show T.heap[q]? = some ce
    rw [hT]; exact hcell
  exact ⟨_, st1, .threw q, hrun, hend, Or.inr ⟨q, rfl, E, ce, locs, hx _ hT hW.alike, hcell9, hv, hcl, hW, hsm.mono hc hs, hf⟩⟩
theorem vx_frame {U : State} {k n : Nat} (h : s.sameButNew ({ U with vm := s.vm } : State) locs k n) : s.heap.size ≤ U.heap.size ∧ ∀ q : Nat, q < s.heap.size → (∀ z ∈ locs, z.base ≠ q) → U.heap[q]? = s.heap[q]? := by
  obtain ⟨-, h2, -, -, -, h6⟩ := h
  refine ⟨h2, fun q hq hz => ?_⟩
  obtain ⟨c9, e1, e2, e3, e4⟩ := h6 q _ (Array.getElem?_eq_getElem hq)
  have hs : c9.slots = (s.heap[q]).slots := Array.ext_getElem? fun i => e4 i fun hm => hz _ hm rfl
  have h9 : c9 = s.heap[q] := by
    rw [hs] at e2
    exact e2
  have e5 : U.heap[q]? = some c9 := e1
  rw [e5, h9, Array.getElem?_eq_getElem hq]
/-- the words of a throw but the four that speak of the heap -/
def vx_no (w : Cond) : Bool := decide (w ≠ .isRef (.static Bundle.tN "UNASSIGNED_STACK" Bundle.steD)) && decide (w ≠ .isRef (.static Bundle.tN "SUPPRESSED_SENTINEL" Bundle.listD)) && decide (w ≠ .laysStatic Bundle.tN "UNASSIGNED_STACK" Bundle.steD) && decide (w ≠ .laysStatic Bundle.tN "SUPPRESSED_SENTINEL" Bundle.listD)
def vx_at0 (own : String) (ic : Nat) (X : String) (names : List String) : List Cond := (Bundle.ownAtoms0 own ic X names).filter vx_no
def vx_atS (own : String) (ic : Nat) (X : String) (names : List String) : List Cond := (Bundle.ownAtoms own ic X names).filter vx_no
/-- a word that the tables alone decide, or a good one -/
def vx_ot (w : Cond) : Bool := w.onTables || goodWord w
theorem vx_ot_at {args a' : Array Value} {s U : State} {w : Cond} (hW : s.WarmedH U.vm) (hvm : s.vm = U.vm) (hg : vx_ot w = true) (h : w.before args s = true) : w.before a' U = true := by
  simp only [vx_ot, Bool.or_eq_true] at hg
  rcases hg with hg | hg
  · exact va_tabs hg hvm h
  · exact word_at hW (good_of_word hg) h
/-- a list's words: the good ones out of the method's own list, the others by premises of their own -/
theorem vx_hat {args : Array Value} {s : State} {L B : List Cond} (h1 : ∀ w ∈ L.filter goodWord, w.before args s = true) (h2 : ∀ w ∈ L.filter (fun w => !goodWord w), w ∈ B) (h3 : ∀ w ∈ B, w.before args s = true) : ∀ w ∈ L, w.before args s = true := by
  intro w hw
  by_cases g : goodWord w = true
  · exact h1 w (List.mem_filter.mpr ⟨hw, g⟩)
  · refine h3 w (h2 w (List.mem_filter.mpr ⟨hw, ?_⟩))
    show (!goodWord w) = true
    cases hgw : goodWord w
    · rfl
    · exact absurd hgw g
theorem vx_c {args : Array Value} {s : State} {w : Cond} {B : List Cond} (h : w.before args s = true) (t : ∀ w ∈ B, w.before args s = true) : ∀ w' ∈ w :: B, w'.before args s = true := fun w' h' => (List.mem_cons.mp h').elim (fun e => by rw [e]; exact h) (t w')
theorem vx_n {args : Array Value} {s : State} : ∀ w ∈ ([] : List Cond), w.before args s = true := fun _ h => nomatch h
theorem vx_own {args : Array Value} {s : State} {L : List Cond} (h1 : ∀ w ∈ L.filter vx_no, w.before args s = true)
    (hU : (Cond.isRef (.static Bundle.tN "UNASSIGNED_STACK" Bundle.steD)).before args s = true) (hN : (Cond.isRef (.static Bundle.tN "SUPPRESSED_SENTINEL" Bundle.listD)).before args s = true)
    (lU : (Cond.laysStatic Bundle.tN "UNASSIGNED_STACK" Bundle.steD).before args s = true) (lN : (Cond.laysStatic Bundle.tN "SUPPRESSED_SENTINEL" Bundle.listD).before args s = true) : ∀ w ∈ L, w.before args s = true := by
  intro w hw
  by_cases e1 : w = .isRef (.static Bundle.tN "UNASSIGNED_STACK" Bundle.steD)
  · rw [e1]; exact hU
  · by_cases e2 : w = .isRef (.static Bundle.tN "SUPPRESSED_SENTINEL" Bundle.listD)
    · rw [e2]; exact hN
    · by_cases e3 : w = .laysStatic Bundle.tN "UNASSIGNED_STACK" Bundle.steD
      · rw [e3]; exact lU
      · by_cases e4 : w = .laysStatic Bundle.tN "SUPPRESSED_SENTINEL" Bundle.listD
        · rw [e4]; exact lN
        · exact h1 w (List.mem_filter.mpr ⟨hw, by unfold vx_no; rw [decide_eq_true e1, decide_eq_true e2, decide_eq_true e3, decide_eq_true e4]; rfl⟩)
/-- where a static field lies, its class's statics cell in H -/
def vx_L (C n d : String) (A : Nat → Prop) (U : State) (H : Heap) : Prop := ∃ (c : ClassId) (k : Class) (i : Nat) (f : Field) (a : Nat) (cell : Cell), U.vm.findClass C = some c ∧ U.fieldFound? C n d = some (c, k, i, f) ∧ f.isStatic = true ∧ k.statics = some a ∧ H[a]? = some cell ∧ cell.vm.isStatics = true ∧ cell.cls = c ∧ f.slot < cell.slots.size ∧ k.staticTypes[f.slot]? = some f.type ∧ ¬ A a
theorem vx_L.moved {C n d : String} {A : Nat → Prop} {u U : State} {H : Heap} (hvm : u.vm.Alike U.vm) (h : vx_L C n d A u H) : vx_L C n d A U H := by
  obtain ⟨c, k, i, f, a, cell, h1, h2, h3, h4, h5, h6, h7, h8, h9, h10⟩ := h
  obtain ⟨k', hi', he⟩ := State.fieldFound?_setVm hvm h2
  exact ⟨c, k', i, f, a, cell, by rw [hvm.findClass]; exact h1, hi', h3, by rw [he]; exact h4, h5, h6, h7, h8, by rw [he]; exact h9, h10⟩
theorem vx_L.kept {C n d : String} {A : Nat → Prop} {U : State} {H H1 : Heap} (h : vx_L C n d A U H) (hq : ∀ a : Nat, a < H.size → ¬ A a → H1[a]? = H[a]?) : vx_L C n d A U H1 := by
  obtain ⟨c, k, i, f, a, cell, h1, h2, h3, h4, h5, h6, h7, h8, h9, h10⟩ := h
  exact ⟨c, k, i, f, a, cell, h1, h2, h3, h4, by rw [hq a (Array.getElem?_eq_some_iff.mp h5).1 h10]; exact h5, h6, h7, h8, h9, h10⟩
theorem vx_L.narrow {C n d : String} {A B : Nat → Prop} {U : State} {H : Heap} (h : vx_L C n d A U H) (hAB : ∀ q, B q → A q) : vx_L C n d B U H := by
  obtain ⟨c, k, i, f, a, cell, h1, h2, h3, h4, h5, h6, h7, h8, h9, h10⟩ := h
  exact ⟨c, k, i, f, a, cell, h1, h2, h3, h4, h5, h6, h7, h8, h9, fun z => h10 (hAB _ z)⟩
theorem vx_L.word {C n d : String} {A : Nat → Prop} {s : State} {args : Array Value} (h : vx_L C n d A s s.heap) : (Cond.laysStatic C n d).before args s = true := by
  obtain ⟨c, k, i, f, a, cell, h1, h2, h3, h4, h5, h6, h7, h8, h9, -⟩ := h
  show (Cond.laysStatic C n d).holds args s none s [] = true
  exact Cond.laysStatic_of h1 h2 h3 h4 h5 h6 h7 h8 h9
/-- .. and what it holds: null or some reference -/
def vx_Zq (C n d : String) (A : Nat → Prop) (U : State) (H : Heap) : Prop := va_Zq C n d A U H ∧ vx_L C n d A U H
theorem vx_Zq.moved {C n d : String} {A : Nat → Prop} {u U : State} {H : Heap} (hvm : u.vm.Alike U.vm) (h : vx_Zq C n d A u H) : vx_Zq C n d A U H := ⟨va_Zq.moved hvm h.1, vx_L.moved hvm h.2⟩
theorem vx_Zq.kept {C n d : String} {A : Nat → Prop} {U : State} {H H1 : Heap} (h : vx_Zq C n d A U H) (hq : ∀ a : Nat, a < H.size → ¬ A a → H1[a]? = H[a]?) : vx_Zq C n d A U H1 := ⟨va_Zq.kept h.1 hq, vx_L.kept h.2 hq⟩
theorem vx_Zq.narrow {C n d : String} {A B : Nat → Prop} {U : State} {H : Heap} (h : vx_Zq C n d A U H) (hAB : ∀ q, B q → A q) : vx_Zq C n d B U H := ⟨va_Zq.narrow h.1 hAB, vx_L.narrow h.2 hAB⟩
theorem vx_Zqof {args : Array Value} {s : State} {C n d : String} {A : Nat → Prop} (hl : (Cond.laysStatic C n d).before args s = true) (hini : (Cond.initialized C).before args s = true) (h : (Cond.isRef (.static C n d)).before args s = true) (hA : ∀ a : Nat, a < s.heap.size → ¬ A a) : vx_Zq C n d A s s.heap := by
  refine ⟨va_Zqof hl hini h hA, ?_⟩
  obtain ⟨c, k, i, f, a, cell, h1, h2, h3, h4, h5, h6, h7, h8, h9⟩ := Cond.laysStatic_spec hl
  exact ⟨c, k, i, f, a, cell, h1, h2, h3, h4, h5, h6, h7, h8, h9, hA a (Array.getElem?_eq_some_iff.mp h5).1⟩
theorem vx_isRef {C n d : String} {v : Value} {A : Nat → Prop} {s : State} {args : Array Value} (h : va_Z C n d v A s s.heap) (hv : v.isRef = true) : (Cond.isRef (.static C n d)).before args s = true := by
  obtain ⟨cf, kf, fi, f, a, cell, h1, h2, h3, h4, h5, h6, h7, -⟩ := h
  have he : (Term.static C n d).eval args s none [] s = some v := by
    simp [Term.eval, State.fieldNamed?, h1, h2, h4, h5, h6, h7]
  simp only [Cond.before, Cond.holds, Cond.value, he]
  cases v <;> simp_all [Value.isRef]
theorem vx_isRefq {C n d : String} {A : Nat → Prop} {s : State} {args : Array Value} (h : va_Zq C n d A s s.heap) : (Cond.isRef (.static C n d)).before args s = true := by
  rcases h with h | ⟨t, h⟩
  · exact vx_isRef h rfl
  · exact vx_isRef h rfl
/-- the same frame, seen from here: as if the method were called anew in this heap -/
theorem vx_rebase {T : State} (X : Stand p l e R s m args below meth c T locs cells slots) {R' : Room} (hf : R'.frames ≤ R.frames) (hl : R'.locals ≤ R.locals) (hc : cells + R'.cells ≤ R.cells) (hs : slots + R'.slots ≤ R.slots) :
    Stand p l e R' ((T.setVm s.vm).setFrames (.invoking m args :: below)) m args below meth c T [] 0 0 := by
  have htop : (T.setVm s.vm).topJava?.isSome := X.here.top
  have hF : ((T.setVm s.vm).setFrames (.invoking m args :: below)).frames = .invoking m args :: below := State.frames_setFrames _ (State.cur_lt_of_top htop)
  obtain ⟨g₀, hg0⟩ := Option.isSome_iff_exists.mp htop
  obtain ⟨r, hr⟩ := State.topJava?_eq_some.mp hg0
  have hl9 : e.platform.stackLimits (T.setVm s.vm).me = e.platform.stackLimits s.me := X.limits
  have hb9 : (T.setVm s.vm).me.stackBytes = s.me.stackBytes := X.bytes
  refine ⟨X.admits, X.cas, X.clock, hF, ?_, X.hears, X.method, X.code, X.here, X.tail, X.warmed, ?_, ?_, ?_⟩
  · have h := X.room
    have hU : ((T.setVm s.vm).setFrames (.invoking m args :: below)).localsInUse = s.localsInUse := by
      rw [State.localsInUse_invoking hF (meth := meth) (c := c) X.method X.code, State.localsInUse_invoking X.frames X.method X.code]
    simp only [State.hasRoom, Bool.and_eq_true, decide_eq_true_eq] at h ⊢
    obtain ⟨⟨⟨⟨h1, h2, h3, h4, h5, h6⟩, h7⟩, h8⟩, h9⟩ := h
    rw [X.frames, List.length_cons] at h2 h3
    have q1 := X.heapSize
    have q2 := X.used
    simp only [hF, hU, List.length_cons, State.stackLimits_setFrames, State.stackBytes_setFrames, hl9, hb9]
    refine ⟨⟨⟨⟨by omega, by omega, by omega, by omega, by omega, h6⟩, ?_⟩, ?_⟩, X.book⟩
    · show T.heap.size + R'.cells ≤ e.platform.maxCells
      omega
    · show T.slotsUsed + R'.slots ≤ e.platform.maxSlots
      omega
  · rw [State.stackLimits_setFrames]; rfl
  · rw [State.stackBytes_setFrames]; rfl
  · refine ⟨?_, Nat.le_refl _, Nat.le_refl _, ?_, ?_, fun a c9 h9 => ⟨c9, h9, rfl, rfl, fun _ _ => rfl⟩⟩
    · obtain ⟨t, ht, -⟩ := State.frames_cons hr
      show T.setVm s.vm = { ((T.setVm s.vm).setFrames (.invoking m args :: below)).setFrames (T.setVm s.vm).frames with heap := T.heap, slotsUsed := T.slotsUsed }
      rw [State.setFrames_setFrames, State.setFrames_self ht]
      rfl
    · show T.slotsUsed = T.slotsUsed + ((T.heap.toList.drop T.heap.size).map (·.slots.size)).sum
      rw [List.drop_eq_nil_of_le (Nat.le_of_eq Array.length_toList)]
      rfl
    · show ((T.heap.toList.drop T.heap.size).map (·.slots.size)).sum ≤ 0
      rw [List.drop_eq_nil_of_le (Nat.le_of_eq Array.length_toList)]
      exact Nat.le_refl _
/-- 'throw new E()': new; dup; invokespecial; athrow -/
theorem vx_throw0 {cc : ByteArray} {pc : Nat} (hexec : p.tables.exec = Jvm.exec) (hb : c.code = cc) (hl : l.stackTraces = false) {own cls : String} {names : List String} {ik ic mc ms : Nat} {A : Nat → Prop}
    (hown : s.vm.findClass own = some m.cls) (hcls : Bundle.fit cls = true) (hnames : ∀ n ∈ names, Bundle.fit n = true)
    (hk : (Cond.classLink own ik cls).before args s = true) (hini : (Cond.initialized cls).before args s = true) (hat : ∀ w ∈ vx_at0 own ic cls names, w.before args s = true)
    (hgood : ∀ w ∈ Cond.classLink own ik cls :: Cond.initialized cls :: vx_at0 own ic cls names, vx_ot w = true)
    (hU : vx_Zq Bundle.tN "UNASSIGNED_STACK" Bundle.steD A s s.heap) (hN : vx_Zq Bundle.tN "SUPPRESSED_SENTINEL" Bundle.listD A s s.heap) (hS : va_S A s.heap H locs) (hsize : ls.size = c.maxLocals)
    (d0 : decode cc pc = .ok (.new ik, 3)) (d3 : decode cc (pc + 3) = .ok (.dup, 1)) (d4 : decode cc (pc + 4) = .ok (.invokespecial ic, 3)) (d7 : decode cc (pc + 7) = .ok (.athrow, 1))
    (hout : ∀ x ∈ c.exceptionTable.toList, covers x (pc + 7) = false)
    (hRframes : names.length + 3 < R.frames) (hRlocals : (rest.map fun v => v.category).sum + (13 * (names.length + 1) + 42) ≤ R.locals) (hRcells : cells + 1 ≤ R.cells) (hRslots : slots + 6 ≤ R.slots) (hlocks : meth.locks = false)
    (hx : ∀ t : State, s.vm.Alike t.vm → H.size ≤ t.heap.size → (∀ q : Nat, q < H.size → t.heap[q]? = H[q]?) → XC cls s t)
    (hf : ∀ z ∈ locs, free z.base) (hc : cells + 1 ≤ mc) (hs : slots + 6 ≤ ms) :
    W p l e R s m args below meth c H locs cells slots (vx_MQ below Qc XC args s mc ms free) (F0 m pc ls rest) := by
  intro T hT X
  have htr : e.platform.stackTraces = false := (show e.platform.stackTraces = l.stackTraces by rw [X.admits.platform]).trans hl
  have Y := vx_rebase X (R' := { frames := R.frames, locals := R.locals, cells := 1, slots := 6 }) (Nat.le_refl _) (Nat.le_refl _) hRcells hRslots
  obtain ⟨s', hA⟩ : ∃ z, z = (T.setVm s.vm).setFrames (.invoking m args :: below) := ⟨_, rfl⟩
  rw [← hA] at Y
  have hvm : s'.vm = s.vm := by rw [hA]; rfl
  have hhp : s'.heap = H := by rw [hA]; exact hT
  have hW0 : s.WarmedH s'.vm := by rw [hvm]; exact State.WarmedH.refl s
  have hat' : ∀ w ∈ vx_at0 own ic cls names, w.before args s' = true := fun w hw => vx_ot_at hW0 hvm.symm (hgood w (List.mem_cons_of_mem _ (List.mem_cons_of_mem _ hw))) (hat w hw)
  have hk' : (Cond.classLink own ik cls).before args s' = true := vx_ot_at hW0 hvm.symm (hgood _ List.mem_cons_self) hk
  have hini' : (Cond.initialized cls).before args s' = true := vx_ot_at hW0 hvm.symm (hgood _ (List.mem_cons_of_mem _ List.mem_cons_self)) hini
  have hU' : vx_Zq Bundle.tN "UNASSIGNED_STACK" Bundle.steD A s' s'.heap := by rw [hhp]; exact vx_Zq.moved hW0.alike (hU.kept hS.2.1)
  have hN' : vx_Zq Bundle.tN "SUPPRESSED_SENTINEL" Bundle.listD A s' s'.heap := by rw [hhp]; exact vx_Zq.moved hW0.alike (hN.kept hS.2.1)
  have h : ∀ w ∈ Bundle.ownAtoms0 own ic cls names, w.before args s' = true := vx_own hat' (vx_isRefq hU'.1) (vx_isRefq hN'.1) hU'.2.word hN'.2.word
  have hown' : s'.vm.findClass own = some m.cls := by rw [hvm]; exact hown
  have hins : (Cond.instantiable cls 6).before args s' = true := h _ (by simp [Bundle.ownAtoms0])
  obtain ⟨vm₁, cX, kX, hfX, hkX, -, -, X₁, st1⟩ := Y.newCold hexec (own := own) (C := cls) (index := ik) (n := 6) hown' hk' hins hini'
    (g := F0 m pc ls rest) rfl (by rw [hb]; exact d0) (Nat.le_refl _) (Nat.le_refl _)
  generalize hT1 : (T.setVm vm₁).pushCell { cls := cX, slots := kX.instanceTypes.map defaultValue, vm := .none } = T1 at X₁ st1
  have hcat : (Value.ref T.heap.size).category = 1 := rfl
  have hcellA : T1.heap[T.heap.size]? = some (freshCell cX kX) := by rw [← hT1]; exact State.heap_pushCell_size _ _
  have d3' : decode c.code (pc + 3) = .ok (.dup, 1) := by rw [hb]; exact d3
  obtain ⟨U, hsteps, hrun, hend, hW, hsame, ce, hce, hO⟩ := X₁.ctorThrow0 hexec htr (own := own) (cls := cls) (names := names) (ic := ic) hown' hcls hnames h (fun x hx => nomatch hx) hfX hkX hcellA (by rw [hhp, hT]; exact Nat.le_refl _)
    (g := { method := m, pc := pc + 4, locals := ls, stack := .ref T.heap.size :: .ref T.heap.size :: rest, locked := none }) rfl hsize rfl rfl (rest := rest) rfl
    (by rw [hb]; exact d4) (by rw [hb]; exact d7) hout hRframes (by simp only [List.map_cons, List.sum_cons, hcat]; omega) hlocks
  obtain ⟨f1, f2⟩ := vx_frame hsame
  rw [hhp] at f1 f2
  have hWs : s.WarmedH U.vm := State.WarmedH.trans hW0 hW
  have hcl : s.vm.findClass cls = some ce.cls := by
    have h9 := hO.cls
    rw [hvm] at h9
    exact h9
  have hall : s.sameButNew ({ U with vm := s.vm } : State) locs mc ms := by
    subst hA
    obtain ⟨e1, e2⟩ := hsame
    rw [State.setFrames_setFrames] at e1
    have h2 : (T.setVm s.vm).sameButNew ({ U with vm := s.vm } : State) [] (0 + 1) (0 + 6) := ⟨e1, e2⟩
    have h3 := X.same.trans h2
    rw [List.append_nil] at h3
    exact h3.mono hc hs
  refine ⟨U, ?_, .threw T.heap.size, hrun, hend, Or.inr ⟨T.heap.size, rfl, cls, ce, locs, hx U hWs.alike f1 (fun q hq => f2 q hq (fun z hz => nomatch hz)), hce, hO.vm, hcl, hWs, hall, hf⟩⟩
  refine st1 _ ?_
  show Steps p.tables e below (T1.setTop { method := m, pc := pc + 3, locals := ls, stack := .ref T.heap.size :: rest, locked := none }) _
  jvm_step X₁.here [X₁.here.top, hexec, d3', Value.category]
  exact hsteps
/-- 'throw new E("text")': new; dup; ldc; invokespecial; athrow -/
theorem vx_throwS {cc : ByteArray} {pc : Nat} (hexec : p.tables.exec = Jvm.exec) (hb : c.code = cc) (hl : l.stackTraces = false) {own cls text : String} {names : List String} {ik is ic mc ms sa : Nat} {A : Nat → Prop}
    (hown : s.vm.findClass own = some m.cls) (hcls : Bundle.fit cls = true) (hnames : ∀ n ∈ names, Bundle.fit n = true)
    (hk : (Cond.classLink own ik cls).before args s = true) (hini : (Cond.initialized cls).before args s = true) (hstr : vk_R own is text sa s) (hat : ∀ w ∈ vx_atS own ic cls names, w.before args s = true)
    (hgood : ∀ w ∈ Cond.classLink own ik cls :: Cond.initialized cls :: vx_atS own ic cls names, vx_ot w = true)
    (hU : vx_Zq Bundle.tN "UNASSIGNED_STACK" Bundle.steD A s s.heap) (hN : vx_Zq Bundle.tN "SUPPRESSED_SENTINEL" Bundle.listD A s s.heap) (hS : va_S A s.heap H locs) (hsize : ls.size = c.maxLocals)
    (d0 : decode cc pc = .ok (.new ik, 3)) (d3 : decode cc (pc + 3) = .ok (.dup, 1)) (d4 : decode cc (pc + 4) = .ok (.ldc is, 2)) (d6 : decode cc (pc + 6) = .ok (.invokespecial ic, 3)) (d9 : decode cc (pc + 9) = .ok (.athrow, 1))
    (hout : ∀ x ∈ c.exceptionTable.toList, covers x (pc + 9) = false)
    (hRframes : names.length + 3 < R.frames) (hRlocals : (rest.map fun v => v.category).sum + (13 * (names.length + 1) + 43) ≤ R.locals) (hRcells : cells + 1 ≤ R.cells) (hRslots : slots + 6 ≤ R.slots) (hlocks : meth.locks = false)
    (hx : ∀ t : State, s.vm.Alike t.vm → H.size ≤ t.heap.size → (∀ q : Nat, q < H.size → t.heap[q]? = H[q]?) → XC cls s t)
    (hf : ∀ z ∈ locs, free z.base) (hc : cells + 1 ≤ mc) (hs : slots + 6 ≤ ms) :
    W p l e R s m args below meth c H locs cells slots (vx_MQ below Qc XC args s mc ms free) (F0 m pc ls rest) := by
  intro T hT X
  have htr : e.platform.stackTraces = false := (show e.platform.stackTraces = l.stackTraces by rw [X.admits.platform]).trans hl
  have Y := vx_rebase X (R' := { frames := R.frames, locals := R.locals, cells := 1, slots := 6 }) (Nat.le_refl _) (Nat.le_refl _) hRcells hRslots
  obtain ⟨s', hA⟩ : ∃ z, z = (T.setVm s.vm).setFrames (.invoking m args :: below) := ⟨_, rfl⟩
  rw [← hA] at Y
  have hvm : s'.vm = s.vm := by rw [hA]; rfl
  have hhp : s'.heap = H := by rw [hA]; exact hT
  have hW0 : s.WarmedH s'.vm := by rw [hvm]; exact State.WarmedH.refl s
  have hat' : ∀ w ∈ vx_atS own ic cls names, w.before args s' = true := fun w hw => vx_ot_at hW0 hvm.symm (hgood w (List.mem_cons_of_mem _ (List.mem_cons_of_mem _ hw))) (hat w hw)
  have hk' : (Cond.classLink own ik cls).before args s' = true := vx_ot_at hW0 hvm.symm (hgood _ List.mem_cons_self) hk
  have hini' : (Cond.initialized cls).before args s' = true := vx_ot_at hW0 hvm.symm (hgood _ (List.mem_cons_of_mem _ List.mem_cons_self)) hini
  have hU' : vx_Zq Bundle.tN "UNASSIGNED_STACK" Bundle.steD A s' s'.heap := by rw [hhp]; exact vx_Zq.moved hW0.alike (hU.kept hS.2.1)
  have hN' : vx_Zq Bundle.tN "SUPPRESSED_SENTINEL" Bundle.listD A s' s'.heap := by rw [hhp]; exact vx_Zq.moved hW0.alike (hN.kept hS.2.1)
  have h : ∀ w ∈ Bundle.ownAtoms own ic cls names, w.before args s' = true := vx_own hat' (vx_isRefq hU'.1) (vx_isRefq hN'.1) hU'.2.word hN'.2.word
  have hown' : s'.vm.findClass own = some m.cls := by rw [hvm]; exact hown
  have hins : (Cond.instantiable cls 6).before args s' = true := h _ (by simp [Bundle.ownAtoms])
  obtain ⟨vm₁, cX, kX, hfX, hkX, -, -, X₁, st1⟩ := Y.newCold hexec (own := own) (C := cls) (index := ik) (n := 6) hown' hk' hins hini'
    (g := F0 m pc ls rest) rfl (by rw [hb]; exact d0) (Nat.le_refl _) (Nat.le_refl _)
  generalize hT1 : (T.setVm vm₁).pushCell { cls := cX, slots := kX.instanceTypes.map defaultValue, vm := .none } = T1 at X₁ st1
  have hcat : (Value.ref T.heap.size).category = 1 := rfl
  have hcellA : T1.heap[T.heap.size]? = some (freshCell cX kX) := by rw [← hT1]; exact State.heap_pushCell_size _ _
  have d3' : decode c.code (pc + 3) = .ok (.dup, 1) := by rw [hb]; exact d3
  have d4' : decode c.code (pc + 4) = .ok (.ldc is, 2) := by rw [hb]; exact d4
  have hstr' : vk_R own is text sa s' := vk_R.warm hW0 hstr
  obtain ⟨U, hsteps, hrun, hend, hW, hsame, ce, hce, hO⟩ := X₁.ctorThrowS hexec htr (own := own) (cls := cls) (names := names) (ic := ic) hown' hcls hnames h (fun x hx => nomatch hx) hfX hkX hcellA (by rw [hhp, hT]; exact Nat.le_refl _) (msg := .ref sa) rfl
    (g := { method := m, pc := pc + 6, locals := ls, stack := .ref sa :: .ref T.heap.size :: .ref T.heap.size :: rest, locked := none }) rfl hsize rfl rfl (rest := rest) rfl
    (by rw [hb]; exact d6) (by rw [hb]; exact d9) hout hRframes (by simp only [List.map_cons, List.sum_cons, hcat]; omega) hlocks
  obtain ⟨f1, f2⟩ := vx_frame hsame
  rw [hhp] at f1 f2
  have hWs : s.WarmedH U.vm := State.WarmedH.trans hW0 hW
  have hcl : s.vm.findClass cls = some ce.cls := by
    have h9 := hO.cls
    rw [hvm] at h9
    exact h9
  have hall : s.sameButNew ({ U with vm := s.vm } : State) locs mc ms := by
    subst hA
    obtain ⟨e1, e2⟩ := hsame
    rw [State.setFrames_setFrames] at e1
    have h2 : (T.setVm s.vm).sameButNew ({ U with vm := s.vm } : State) [] (0 + 1) (0 + 6) := ⟨e1, e2⟩
    have h3 := X.same.trans h2
    rw [List.append_nil] at h3
    exact h3.mono hc hs
  refine ⟨U, ?_, .threw T.heap.size, hrun, hend, Or.inr ⟨T.heap.size, rfl, cls, ce, locs, hx U hWs.alike f1 (fun q hq => f2 q hq (fun z hz => nomatch hz)), hce, hO.vm, hcl, hWs, hall, hf⟩⟩
  refine st1 _ ?_
  show Steps p.tables e below (T1.setTop { method := m, pc := pc + 3, locals := ls, stack := .ref T.heap.size :: rest, locked := none }) _
  jvm_step X₁.here [X₁.here.top, hexec, d3', Value.category]
  exact X₁.ldcString hexec (own := own) (text := text) (index := is) (a := sa) hown' hstr'.1 hstr'.2
    (g := { method := m, pc := pc + 4, locals := ls, stack := .ref T.heap.size :: .ref T.heap.size :: rest, locked := none }) rfl d4' _ hsteps
/-- 'throw new E("text")', the text by a wide index -/
theorem vx_throwSW {cc : ByteArray} {pc : Nat} (hexec : p.tables.exec = Jvm.exec) (hb : c.code = cc) (hl : l.stackTraces = false) {own cls text : String} {names : List String} {ik is ic mc ms sa : Nat} {A : Nat → Prop}
    (hown : s.vm.findClass own = some m.cls) (hcls : Bundle.fit cls = true) (hnames : ∀ n ∈ names, Bundle.fit n = true)
    (hk : (Cond.classLink own ik cls).before args s = true) (hini : (Cond.initialized cls).before args s = true) (hstr : vk_R own is text sa s) (hat : ∀ w ∈ vx_atS own ic cls names, w.before args s = true)
    (hgood : ∀ w ∈ Cond.classLink own ik cls :: Cond.initialized cls :: vx_atS own ic cls names, vx_ot w = true)
    (hU : vx_Zq Bundle.tN "UNASSIGNED_STACK" Bundle.steD A s s.heap) (hN : vx_Zq Bundle.tN "SUPPRESSED_SENTINEL" Bundle.listD A s s.heap) (hS : va_S A s.heap H locs) (hsize : ls.size = c.maxLocals)
    (d0 : decode cc pc = .ok (.new ik, 3)) (d3 : decode cc (pc + 3) = .ok (.dup, 1)) (d4 : decode cc (pc + 4) = .ok (.ldc_w is, 3)) (d7 : decode cc (pc + 7) = .ok (.invokespecial ic, 3)) (d10 : decode cc (pc + 10) = .ok (.athrow, 1))
    (hout : ∀ x ∈ c.exceptionTable.toList, covers x (pc + 10) = false)
    (hRframes : names.length + 3 < R.frames) (hRlocals : (rest.map fun v => v.category).sum + (13 * (names.length + 1) + 43) ≤ R.locals) (hRcells : cells + 1 ≤ R.cells) (hRslots : slots + 6 ≤ R.slots) (hlocks : meth.locks = false)
    (hx : ∀ t : State, s.vm.Alike t.vm → H.size ≤ t.heap.size → (∀ q : Nat, q < H.size → t.heap[q]? = H[q]?) → XC cls s t)
    (hf : ∀ z ∈ locs, free z.base) (hc : cells + 1 ≤ mc) (hs : slots + 6 ≤ ms) :
    W p l e R s m args below meth c H locs cells slots (vx_MQ below Qc XC args s mc ms free) (F0 m pc ls rest) := by
  intro T hT X
  have htr : e.platform.stackTraces = false := (show e.platform.stackTraces = l.stackTraces by rw [X.admits.platform]).trans hl
  have Y := vx_rebase X (R' := { frames := R.frames, locals := R.locals, cells := 1, slots := 6 }) (Nat.le_refl _) (Nat.le_refl _) hRcells hRslots
  obtain ⟨s', hA⟩ : ∃ z, z = (T.setVm s.vm).setFrames (.invoking m args :: below) := ⟨_, rfl⟩
  rw [← hA] at Y
  have hvm : s'.vm = s.vm := by rw [hA]; rfl
  have hhp : s'.heap = H := by rw [hA]; exact hT
  have hW0 : s.WarmedH s'.vm := by rw [hvm]; exact State.WarmedH.refl s
  have hat' : ∀ w ∈ vx_atS own ic cls names, w.before args s' = true := fun w hw => vx_ot_at hW0 hvm.symm (hgood w (List.mem_cons_of_mem _ (List.mem_cons_of_mem _ hw))) (hat w hw)
  have hk' : (Cond.classLink own ik cls).before args s' = true := vx_ot_at hW0 hvm.symm (hgood _ List.mem_cons_self) hk
  have hini' : (Cond.initialized cls).before args s' = true := vx_ot_at hW0 hvm.symm (hgood _ (List.mem_cons_of_mem _ List.mem_cons_self)) hini
  have hU' : vx_Zq Bundle.tN "UNASSIGNED_STACK" Bundle.steD A s' s'.heap := by rw [hhp]; exact vx_Zq.moved hW0.alike (hU.kept hS.2.1)
  have hN' : vx_Zq Bundle.tN "SUPPRESSED_SENTINEL" Bundle.listD A s' s'.heap := by rw [hhp]; exact vx_Zq.moved hW0.alike (hN.kept hS.2.1)
  have h : ∀ w ∈ Bundle.ownAtoms own ic cls names, w.before args s' = true := vx_own hat' (vx_isRefq hU'.1) (vx_isRefq hN'.1) hU'.2.word hN'.2.word
  have hown' : s'.vm.findClass own = some m.cls := by rw [hvm]; exact hown
  have hins : (Cond.instantiable cls 6).before args s' = true := h _ (by simp [Bundle.ownAtoms])
  obtain ⟨vm₁, cX, kX, hfX, hkX, -, -, X₁, st1⟩ := Y.newCold hexec (own := own) (C := cls) (index := ik) (n := 6) hown' hk' hins hini'
    (g := F0 m pc ls rest) rfl (by rw [hb]; exact d0) (Nat.le_refl _) (Nat.le_refl _)
  generalize hT1 : (T.setVm vm₁).pushCell { cls := cX, slots := kX.instanceTypes.map defaultValue, vm := .none } = T1 at X₁ st1
  have hcat : (Value.ref T.heap.size).category = 1 := rfl
  have hcellA : T1.heap[T.heap.size]? = some (freshCell cX kX) := by rw [← hT1]; exact State.heap_pushCell_size _ _
  have d3' : decode c.code (pc + 3) = .ok (.dup, 1) := by rw [hb]; exact d3
  have d4' : decode c.code (pc + 4) = .ok (.ldc_w is, 3) := by rw [hb]; exact d4
  have hstr' : vk_R own is text sa s' := vk_R.warm hW0 hstr
  obtain ⟨U, hsteps, hrun, hend, hW, hsame, ce, hce, hO⟩ := X₁.ctorThrowS hexec htr (own := own) (cls := cls) (names := names) (ic := ic) hown' hcls hnames h (fun x hx => nomatch hx) hfX hkX hcellA (by rw [hhp, hT]; exact Nat.le_refl _) (msg := .ref sa) rfl
    (g := { method := m, pc := pc + 7, locals := ls, stack := .ref sa :: .ref T.heap.size :: .ref T.heap.size :: rest, locked := none }) rfl hsize rfl rfl (rest := rest) rfl
    (by rw [hb]; exact d7) (by rw [hb]; exact d10) hout hRframes (by simp only [List.map_cons, List.sum_cons, hcat]; omega) hlocks
  obtain ⟨f1, f2⟩ := vx_frame hsame
  rw [hhp] at f1 f2
  have hWs : s.WarmedH U.vm := State.WarmedH.trans hW0 hW
  have hcl : s.vm.findClass cls = some ce.cls := by
    have h9 := hO.cls
    rw [hvm] at h9
    exact h9
  have hall : s.sameButNew ({ U with vm := s.vm } : State) locs mc ms := by
    subst hA
    obtain ⟨e1, e2⟩ := hsame
    rw [State.setFrames_setFrames] at e1
    have h2 : (T.setVm s.vm).sameButNew ({ U with vm := s.vm } : State) [] (0 + 1) (0 + 6) := ⟨e1, e2⟩
    have h3 := X.same.trans h2
    rw [List.append_nil] at h3
    exact h3.mono hc hs
  refine ⟨U, ?_, .threw T.heap.size, hrun, hend, Or.inr ⟨T.heap.size, rfl, cls, ce, locs, hx U hWs.alike f1 (fun q hq => f2 q hq (fun z hz => nomatch hz)), hce, hO.vm, hcl, hWs, hall, hf⟩⟩
  refine st1 _ ?_
  show Steps p.tables e below (T1.setTop { method := m, pc := pc + 3, locals := ls, stack := .ref T.heap.size :: rest, locked := none }) _
  jvm_step X₁.here [X₁.here.top, hexec, d3', Value.category]
  exact X₁.ldcStringW hexec (own := own) (text := text) (index := is) (a := sa) hown' hstr'.1 hstr'.2
    (g := { method := m, pc := pc + 4, locals := ls, stack := .ref T.heap.size :: .ref T.heap.size :: rest, locked := none }) rfl d4' _ hsteps
end Ends
section Bodies
variable {l : Launch}
theorem vx_ofW {y : MethodName} {ws ws' : List Cond} {rm : Room} {Pc : Array Value → State → Prop} {Qc : Array Value → State → Outcome → State → Prop} {XC : String → State → State → Prop} {mc ms : Nat} {free : Addr → Prop} {cc : ByteArray} {maxL : Nat} {ret : Option FieldType}
    (hy : plainName y.cls = true) (hw : ws = Cond.code y cc maxL ret :: ws')
    (body : ∀ p e s m args below meth c s₁, BodyLoose p l y (headSpec ws rm) cc maxL ret e s m args below meth c s₁ → c.maxLocals = maxL → (∀ x ∈ c.exceptionTable.toList, False) → Pc args s →
      W p l e (headSpec ws rm).room s m args below meth c s.heap [] 0 0 (vx_MQ below Qc XC args s mc ms free) (entryFrame m args maxL)) : vx_Met l y ws rm Pc Qc XC mc ms free := by
  refine MetFree.of_bodyS (code := cc) (maxLocals := maxL) (ret := ret) hy ?_ ?_
  · intro args s m h hn
    obtain ⟨meth, c, h1, h2, h3, h4, h5, h6, -, -⟩ := Cond.code_spec hn (atoms_spec (ws := ws) h _ (by rw [hw]; exact List.mem_cons_self))
    exact ⟨meth, c, h1, h2, h3, h4, h5, h6⟩
  · intro p e s m args below meth c s₁ B hml hP _
    have hh0 : s₁.heap = s.heap := by rw [B.state]; rfl
    have ht : ∀ x ∈ c.exceptionTable.toList, False := by
      obtain ⟨meth9, c9, h1, h2, -, -, -, -, h7, -⟩ := Cond.code_spec B.named (atoms_spec (ws := ws) B.pre _ (by rw [hw]; exact List.mem_cons_self))
      cases Option.some.inj (h1.symm.trans B.method)
      cases Option.some.inj (h2.symm.trans (Stand.of_body B).code)
      intro x hx
      rw [Array.isEmpty_iff.mp h7] at hx
      cases hx
    obtain ⟨t, a1, o, b1, b2, b3⟩ := body p e s m args below meth c s₁ B hml ht hP s₁ hh0 (Stand.of_body B)
    exact ⟨t, o, a1, b1, b2, b3⟩
/-- the table of a body with handlers -/
theorem vx_table {p : Program} {x y : MethodName} {S : Spec} {cc bytes : ByteArray} {maxL maxL' : Nat} {ret ret' : Option FieldType} {e : Env} {s s₁ : State} {m : MethodId} {args : Array Value} {below : List Frame} {meth : Method} {c : Code} {hh : List (Nat × Nat × Nat × Nat)}
    (B : BodyLoose p l y S cc maxL ret e s m args below meth c s₁) (h : (Cond.codeWith y bytes maxL' ret' hh).before args s = true) : c.exceptionTable.toList = tableOf hh := by
  obtain ⟨m9, meth9, c9, hn9, h1, h2, -, -, h6, -⟩ := Cond.codeWith_spec h
  cases Option.some.inj (hn9.symm.trans B.named)
  cases Option.some.inj (h1.symm.trans B.method)
  cases Option.some.inj (h2.symm.trans (Stand.of_body B).code)
  rw [← h6, table_eq]
end Bodies
end VXA
/-! ===== END ===== -/
/-! ===== BEGIN a static call of a method with an exception table ===== -/
section VXS
variable {p : Program} {l : Launch} {e : Env} {R : Room} {s : State} {m : MethodId} {args : Array Value} {below : List Frame} {meth : Method} {c : Code} {T : State} {H : Heap} {locs : List Loc} {cells slots : Nat}
abbrev vx_CSW (R : Room) (s : State) (args : Array Value) (own : String) (index : Nat) (y : MethodName) (bytes : ByteArray) (maxL : Nat) (ret : Option FieldType) (hh : List (Nat × Nat × Nat × Nat)) (ws : List Cond) (rm : Room) (mc ms n : Nat) : Prop :=
  (rm.cells = mc ∧ rm.slots = ms ∧ rm.frames + 1 ≤ R.frames ∧ 8 + (maxL + 11) + rm.locals ≤ R.locals ∧ (∀ w ∈ ws, ∀ (a' : Array Value) (U : State), s.WarmedH U.vm → w.before a' U = true) ∧ Cond.codeWith y bytes maxL ret hh ∈ ws) ∧
  (Cond.codeWith y bytes maxL ret hh).before args s = true ∧ (Cond.initialized y.cls).before args s = true ∧ (y.cls ≠ "java/lang/invoke/MethodHandle" ∧ y.cls ≠ "java/lang/invoke/VarHandle") ∧
  (∀ sig, parseMethodDescriptor y.desc = some sig → n = sig.parameters.length) ∧ (Cond.methodLink own index y).before args s = true ∧ (Cond.static y).before args s = true
theorem vx_cwSW {own : String} {index maxL mc ms : Nat} {y : MethodName} {bytes : ByteArray} {ret : Option FieldType} {hh : List (Nat × Nat × Nat × Nat)} {Ts ws ws' : List Cond} {rm : Room} (n : Nat) (ht : ∀ w ∈ Ts, w.before args s = true) (hT : GoodIn Ts (va_wsS own index y ws)) (hw : ws = Cond.codeWith y bytes maxL ret hh :: ws') (hrc : rm.cells = mc) (hrs : rm.slots = ms)
    (hd : y.cls ≠ "java/lang/invoke/MethodHandle" ∧ y.cls ≠ "java/lang/invoke/VarHandle" ∧ (parseMethodDescriptor y.desc).map (fun d => d.parameters.length) = some n) (hR : rm.frames + 1 ≤ R.frames ∧ 8 + (maxL + 11) + rm.locals ≤ R.locals) :
    vx_CSW R s args own index y bytes maxL ret hh ws rm mc ms n := by
  have ok : ∀ w ∈ va_wsS own index y ws, w.before args s = true := fun w h => ht w (hT w h).1
  have hG : GoodIn Ts ws := fun w h => hT w (by unfold va_wsS; exact List.mem_append_right _ h)
  have hc : Cond.codeWith y bytes maxL ret hh ∈ ws := by rw [hw]; exact List.mem_cons_self
  refine ⟨⟨hrc, hrs, hR.1, hR.2, pay_in ht hG, hc⟩, ht _ (hG _ hc).1, ok _ (by simp [va_wsS]), ⟨hd.1, hd.2.1⟩, fun sig h => ?_, ok _ (by simp [va_wsS]), ok _ (by simp [va_wsS])⟩
  have h2 := hd.2.2
  rw [h] at h2
  exact (Option.some.inj h2).symm
theorem vx_callSW (X : Stand p l e R s m args below meth c T locs cells slots) (hexec : p.tables.exec = Jvm.exec) {own : String} {index : Nat} {y : MethodName} {bytes : ByteArray} {maxL : Nat} {ret : Option FieldType} {hh : List (Nat × Nat × Nat × Nat)}
    (hown : s.vm.findClass own = some m.cls) (hlink : (Cond.methodLink own index y).before args s = true) (hstat : (Cond.static y).before args s = true) (hinit : (Cond.initialized y.cls).before args s = true)
    (hcode : (Cond.codeWith y bytes maxL ret hh).before args s = true) (hy : y.cls ≠ "java/lang/invoke/MethodHandle" ∧ y.cls ≠ "java/lang/invoke/VarHandle")
    {W9 : Nat} {Pre : Pt → Array Value → Prop} {Post : Pt → Array Value → Option Value → Pt → Prop} (hK : Back l R p e below s args y 3 W9 Pre Post)
    {g : JFrame} (hg : g.method = m) (hsize : g.locals.size = c.maxLocals) {argsL rest : List Value} (hlen : ∀ sig, parseMethodDescriptor y.desc = some sig → argsL.length = sig.parameters.length)
    (hstack : g.stack = argsL.reverse ++ rest) (hW : 2 * g.monitorRoom + (rest.map fun v => v.category).sum ≤ W9) (hdg : decode c.code g.pc = .ok (.invokestatic index, 3))
    (hpre : ∀ vm₁, s.WarmedH vm₁ → Pre ⟨T.setVm vm₁, locs, cells, slots⟩ argsL.toArray) :
    ∃ (v : Option Value) (vm₁ : Vm) (B : Pt), s.WarmedH vm₁ ∧ Stand p l e R s m args below meth c B.U B.locs B.cells B.slots ∧ Post ⟨T.setVm vm₁, locs, cells, slots⟩ argsL.toArray v B ∧
      ∀ target, Steps p.tables e below (B.U.setTop { g with pc := g.pc + 3, stack := v.toList ++ rest }) target → Steps p.tables e below (T.setTop g) target := by
  obtain ⟨mk, methM, cM, hnamed, hmethM, -, -, -, -, -, -, hsigM⟩ := Cond.codeWith_spec hcode
  have hstatic : methM.isStatic = true := Cond.static_spec hnamed hmethM hstat
  obtain ⟨kP, hkP, -⟩ := className_of_methodNamed hnamed
  have hinitP : kP.init = .initialized := Cond.initialized_spec (findClass_of_methodNamed hnamed) hkP hinit
  obtain ⟨vm₁, X₁, hstep₁⟩ := X.invokestatic hexec hown hlink hnamed hmethM hstatic hkP hinitP hy (g := g) hg (argsL := argsL) (rest := rest) (hlen _ hsigM) hstack hdg
  obtain ⟨v, B, X', hpost, hsteps⟩ := hK m meth c ⟨T.setVm vm₁, locs, cells, slots⟩ { g with stack := rest } (.invokestatic index) mk argsL.toArray X₁ hg hsize hdg hW (X₁.named hnamed) (hpre vm₁ X₁.warmed)
  exact ⟨v, vm₁, B, X₁.warmed, X', hpost, fun target h => hstep₁ _ fun acts => by rw [doInvoke_state]; exact hsteps.trans h⟩
theorem vx_runSW {y : MethodName} {bytes cc : ByteArray} {maxL nL mc ms n index : Nat} {ret : Option FieldType} {hh : List (Nat × Nat × Nat × Nat)} {ws : List Cond} {rm : Room} {Pc : Array Value → State → Prop} {Qc : Array Value → State → Outcome → State → Prop} {free : Addr → Prop} {Ts : List Cond} {own : String} {As rest : List Value} {g : JFrame}
    (S : CallFix p m c cc nL s args Ts own) (hM : Met l y ws rm Pc Qc mc ms free) (cw : vx_CSW R s args own index y bytes maxL ret hh ws rm mc ms n) (hp : PreS s H Pc As)
    (hg : g.method = m) (hn : As.length = n) (hsize : g.locals.size = nL) (hstack : g.stack = As.reverse ++ rest) (hW : 2 * g.monitorRoom + (rest.map fun v => v.category).sum ≤ 8) (hdg : decode cc g.pc = .ok (.invokestatic index, 3)) (hf : cells + mc ≤ R.cells ∧ slots + ms ≤ R.slots) :
    va_Run p l e R s m args below meth c H locs cells slots mc ms g rest (Qc As.toArray) (free) := by
  obtain ⟨⟨hrc, hrs, hfr, hlo, hws, hcw⟩, hcode, hini, hy, hlen, hl, hstt⟩ := cw
  have hK : Back l R p e below s args y 3 8 (PreOf R mc ms Pc) (PostOf Qc mc ms free) := va_backW (hh := hh) (bytes := bytes) (maxL := maxL) (ret := ret) hM hp.1 hrc hrs hfr hlo hws hcw (fun a' U hW => word_at hW (Or.inl (by first | rfl | simp [Cond.onTables, Cond.keeps, Cond.steady])) hini)
  obtain ⟨hx, hb, hml, ho, -⟩ := S
  intro T hT X
  obtain ⟨v, vm₁, ⟨U', l2, c2, s2⟩, hW₁, X', ⟨g', mk, t, L, e1, e2, hq, h1, hL, h2, h3⟩, st⟩ := vx_callSW X hx (hh := hh) (bytes := bytes) (maxL := maxL) (ret := ret) ho hl hstt hini hcode hy hK hg (hsize.trans hml.symm) (argsL := As) (rest := rest) (fun sig h => hn.trans (hlen sig h)) hstack hW (by rw [hb]; exact hdg)
    (fun vm₁ hW₁ => ⟨hf.1, hf.2, hp.2 (T.setVm vm₁) hT hW₁⟩)
  dsimp only [Pt.U, Pt.locs, Pt.cells, Pt.slots] at X' e1 e2 h1 h2 h3 st
  subst h1; subst h2; subst h3
  exact ⟨v, (T.setVm vm₁).calling g' mk As.toArray, t, U', L, hT, X', hL, e1, e2, hq, st⟩
theorem vx_lt {D : va_G} {cl : List vw_C} {ws : va_W} {H1 : Heap} (h : va_P D cl ws H1) {k : Nat} {q : Nat × va_E} (hk : ws[k]? = some q) : q.1 < H1.size := (h k q hk).lt
end VXS
/-! ===== END ===== -/
theorem vx_ofWH {l : Launch} {y : MethodName} {ws ws' : List Cond} {rm : Room} {Pc : Array Value → State → Prop} {Qc : Array Value → State → Outcome → State → Prop} {XC : String → State → State → Prop} {mc ms : Nat} {free : Addr → Prop} {cc : ByteArray} {maxL : Nat} {ret : Option FieldType} {hh : List (Nat × Nat × Nat × Nat)}
    (hy : plainName y.cls = true) (hw : ws = Cond.codeWith y cc maxL ret hh :: ws')
    (body : ∀ p e s m args below meth c s₁, BodyLoose p l y (headSpec ws rm) cc maxL ret e s m args below meth c s₁ → c.maxLocals = maxL → Pc args s →
      W p l e (headSpec ws rm).room s m args below meth c s.heap [] 0 0 (vx_MQ below Qc XC args s mc ms free) (entryFrame m args maxL)) : vx_Met l y ws rm Pc Qc XC mc ms free := by
  refine MetFree.of_bodyS (code := cc) (maxLocals := maxL) (ret := ret) hy ?_ ?_
  · intro args s m h hn
    obtain ⟨m9, meth, c, hn9, h1, h2, h3, h4, -, h5, h6, -⟩ := Cond.codeWith_spec (atoms_spec (ws := ws) h _ (by rw [hw]; exact List.mem_cons_self))
    cases hn.symm.trans hn9
    exact ⟨meth, c, h1, h2, h3, h4, h5, h6⟩
  · intro p e s m args below meth c s₁ B hml hP _
    have hh0 : s₁.heap = s.heap := by rw [B.state]; rfl
    obtain ⟨t, a1, o, b1, b2, b3⟩ := body p e s m args below meth c s₁ B hml hP s₁ hh0 (Stand.of_body B)
    exact ⟨t, o, a1, b1, b2, b3⟩
end
section
/-! led: the one call that throws, and the law's catching of it -/
abbrev led_E : String := "java/util/NoSuchElementException"
abbrev led_yx : MethodName := ⟨"BarberMinutes", "led", "(I)I"⟩
abbrev led_yL : MethodName := ⟨"BarberMinutesLaw", "led", "(LBarberMinutes;I[J)I"⟩
abbrev led_cx : ByteArray := prog_1_method_64_code
abbrev led_cL : ByteArray := method_3_code
def led_K : ev_K := [(-2147483648, 2147483647), (-2147483648, 2147483647), (-2147483648, 2147483647), (-2147483648, 2147483647), (-2147483648, 2147483647), (-2147483648, 2147483647), (52, 52)]
def led_rows : List (Nat × ev_Row) := [(0, 0, 0, 0, 0, []), (1, 11, 2, 0, 0, []), (2, 0, 0, 0, 0, []), (3, 11, 3, 0, 0, []), (4, 5, 3, 0, 0, []), (5, 9, 0, 0, 0, []), (6, 49, 8, 3, 23, []), (9, 49, 7, 9, 182, []), (12, 38, 30, 0, 0, [])]
set_option maxRecDepth 1000000 in
theorem led_rows_ok : ∀ q ∈ led_rows, ev_RowOK ev_ms (1, 6, false, "BarberMinutes", 4, 0) led_cx q := ev_chkAll_ok (ps := [([], 0), ([], 0), ([], 0), ([], 0), ([], 0), ([], 0), ([445], 0), ([240], 0), ([], 0)]) (by decide +kernel)
def led_42 : ev_S := (42, [(3, (0, 0)), (2, (0, 0)), (0, (1, 0)), (1, (3, 1))], [], st_w, led_K, 0, 0)
set_option maxRecDepth 1000000 in
theorem led_run : ev_run ev_ms (ev_exec ev_ms 0) (1, 6, false, "BarberMinutes", 4, 0) led_rows [42] 100 (0, ev_args 0 [(1, 0), (3, 1)], [], st_w, led_K, 0, 0) = some [led_42] := ev_eqO_ok (by decide +kernel)
def led_isC (w : Cond) : Bool := match w with
  | .castable _ _ => true
  | .declares _ => true
  | _ => false
/-- which class can stand for which, which method is declared: by the classes alone -/
def led_Ca (U : State) : Prop := ∀ w ∈ lw_tbl, led_isC w = true → w.before #[] U = true
theorem led_Ca_moved {u U : State} (hvm : u.vm.Alike U.vm) (h : led_Ca u) : led_Ca U := fun w hw hc => by
  have h1 := h w hw hc
  unfold led_isC at hc
  split at hc
  · exact va_tabs (u := u.setVm U.vm) rfl rfl (by rw [Cond.castable_setVm hvm]; exact h1)
  · exact va_tabs (u := u.setVm U.vm) rfl rfl (by rw [Cond.declares_setVm hvm]; exact h1)
  · cases hc
theorem led_Ca_use {U : State} {args : Array Value} (h : led_Ca U) {w : Cond} (hw : w ∈ lw_tbl) (hc : led_isC w = true) : w.before args U = true := by
  have h1 := h w hw hc
  unfold led_isC at hc
  split at hc
  · exact va_tabs rfl rfl h1
  · exact va_tabs rfl rfl h1
  · cases hc
set_option maxRecDepth 1000000 in
theorem led_at0 : (vx_at0 "BarberMinutes" 369 led_E ["java/lang/RuntimeException", "java/lang/Exception"]).all (fun w => decide (w ∈ lw_tbl) && (goodWord w || led_isC w)) = true := by decide +kernel
theorem led_at {w : Cond} (hw : w ∈ vx_at0 "BarberMinutes" 369 led_E ["java/lang/RuntimeException", "java/lang/Exception"]) : w ∈ lw_good ∨ (w ∈ lw_tbl ∧ led_isC w = true) := by
  have h1 := List.all_eq_true.mp led_at0 w hw
  simp only [Bool.and_eq_true, Bool.or_eq_true, decide_eq_true_eq] at h1
  obtain ⟨h2, h3 | h3⟩ := h1
  · exact Or.inl (List.mem_filter.mpr ⟨h2, h3⟩)
  · exact Or.inr ⟨h2, h3⟩
set_option maxRecDepth 1000000 in
theorem led_w1 : Cond.classLink "BarberMinutes" 367 led_E ∈ lw_good := lw_good_at 1236 (by decide +kernel) (by decide +kernel)
set_option maxRecDepth 1000000 in
theorem led_w2 : Cond.initialized led_E ∈ lw_good := lw_good_at 136 (by decide +kernel) (by decide +kernel)
set_option maxRecDepth 1000000 in
theorem led_w3 : Cond.code led_yx led_cx 4 (some .int) ∈ lw_good := lw_good_at 1235 (by decide +kernel) (by decide +kernel)
set_option maxRecDepth 1000000 in
theorem led_w4 : Cond.codeWith led_yL led_cL 4 (some .int) [(0, 9, 12, 13)] ∈ lw_good := lw_good_at 1230 (by decide +kernel) (by decide +kernel)
set_option maxRecDepth 1000000 in
theorem led_w5 : Cond.methodLink "BarberMinutesLaw" 7 led_yx ∈ lw_good := lw_good_at 1232 (by decide +kernel) (by decide +kernel)
set_option maxRecDepth 1000000 in
theorem led_w6 : Cond.instanceMethod led_yx ∈ lw_good := lw_good_at 1233 (by decide +kernel) (by decide +kernel)
set_option maxRecDepth 1000000 in
theorem led_w7 : Cond.selects "BarberMinutes" led_yx led_yx ∈ lw_good := lw_good_at 1234 (by decide +kernel) (by decide +kernel)
set_option maxRecDepth 1000000 in
theorem led_w8 : Cond.initialized "BarberMinutes" ∈ lw_good := lw_good_at 116 (by decide +kernel) (by decide +kernel)
set_option maxRecDepth 1000000 in
theorem led_w9 : Cond.classLink "BarberMinutesLaw" 13 led_E ∈ lw_good := lw_good_at 1231 (by decide +kernel) (by decide +kernel)
set_option maxRecDepth 1000000 in
theorem led_w10 : Cond.castable led_E led_E ∈ lw_tbl := List.mem_of_getElem? (i := 1238) (by decide +kernel)
set_option maxRecDepth 1000000 in
theorem led_w11 : Cond.static led_yL ∈ lw_good := lw_good_at 1229 (by decide +kernel) (by decide +kernel)
set_option maxRecDepth 1000000 in
theorem led_w12 : Cond.initialized "BarberMinutesLaw" ∈ lw_good := lw_good_at 115 (by decide +kernel) (by decide +kernel)
set_option maxRecDepth 1000000 in
theorem led_w13 : Cond.methodLink "BarberMinutesLaw" 235 led_yL ∈ lw_good := lw_good_at 1228 (by decide +kernel) (by decide +kernel)
set_option maxRecDepth 1000000 in
theorem led_w14 : Cond.laysStatic Bundle.tN "UNASSIGNED_STACK" Bundle.steD ∈ lw_tbl := List.mem_of_getElem? (i := 1263) (by decide +kernel)
set_option maxRecDepth 1000000 in
theorem led_w15 : Cond.laysStatic Bundle.tN "SUPPRESSED_SENTINEL" Bundle.listD ∈ lw_tbl := List.mem_of_getElem? (i := 1265) (by decide +kernel)
set_option maxRecDepth 1000000 in
theorem led_w16 : Cond.initialized Bundle.tN ∈ lw_tbl := List.mem_of_getElem? (i := 133) (by decide +kernel)
set_option maxRecDepth 1000000 in
theorem led_w17 : Cond.isRef (.static Bundle.tN "UNASSIGNED_STACK" Bundle.steD) ∈ law_flat := List.mem_of_getElem? (i := 17) (by decide +kernel)
set_option maxRecDepth 1000000 in
theorem led_w18 : Cond.isRef (.static Bundle.tN "SUPPRESSED_SENTINEL" Bundle.listD) ∈ law_flat := List.mem_of_getElem? (i := 18) (by decide +kernel)
/-- the two statics that a throw reads -/
def led_Th (A : Nat → Prop) (U : State) (H : Heap) : Prop := led_Ca U ∧ vx_Zq Bundle.tN "UNASSIGNED_STACK" Bundle.steD A U H ∧ vx_Zq Bundle.tN "SUPPRESSED_SENTINEL" Bundle.listD A U H
theorem led_Th_call {A B : Nat → Prop} {s U : State} {H : Heap} {locs : List Loc} (hW : s.WarmedH U.vm) (hU : U.heap = H) (hS : va_S A s.heap H locs) (hAB : ∀ q, B q → A q) (h : led_Th A s s.heap) : led_Th B U U.heap := by
  rw [hU]
  exact ⟨led_Ca_moved hW.alike h.1, ((h.2.1.kept hS.2.1).narrow hAB).moved hW.alike, ((h.2.2.kept hS.2.1).narrow hAB).moved hW.alike⟩
theorem led_start {p : Program} {s : State} {m : MethodId} {meth : Method} {c : Code} {b L : Nat} {xs : Nat → Int32} (C0 : lw_At p s m meth c b L xs) : led_Th (law_A s) s s.heap := by
  obtain ⟨hx, hb, hr, hml, hown, hts, hX, hbl, hlocks, hgv⟩ := C0
  have hfl : ∀ w ∈ law_flat, w.before #[Value.ref b] s = true := flat_of_before _ hgv
  have hA : ∀ a : Nat, a < s.heap.size → ¬ law_A s a := fun a h => Nat.not_le.mpr h
  have hc0 : led_Ca s := by
    intro w hw hc
    have h1 := hts w hw
    unfold led_isC at hc
    split at hc
    · exact va_tabs rfl rfl h1
    · exact va_tabs rfl rfl h1
    · cases hc
  exact ⟨hc0, vx_Zqof (hts _ led_w14) (hts _ led_w16) (hfl _ led_w17) hA, vx_Zqof (hts _ led_w15) (hts _ led_w16) (hfl _ led_w18) hA⟩
def led_Pb (D : va_G) (g : ev_G) (ws : va_W) (sz : Nat) (U : State) : Prop := ev_Pb D g ws sz st_w U ∧ led_Th (va_A ws sz) U U.heap
theorem led_blind {D : va_G} {g : ev_G} {ws : va_W} {sz : Nat} {asc : List Value} : FrameBlind (va_Pc asc (led_Pb D g ws sz)) := fun a U gf mk q => by
  obtain ⟨q0, q1, q2⟩ := q
  exact ⟨q0, (ev_Pb_blind a U gf mk ⟨q0, q1⟩).2, ⟨led_Ca_moved (u := U) (U := U.calling gf mk a) (Vm.Alike.refl U.vm) q2.1, q2.2.1.moved (u := U) (U := U.calling gf mk a) (Vm.Alike.refl U.vm), q2.2.2.moved (u := U) (U := U.calling gf mk a) (Vm.Alike.refl U.vm)⟩⟩
def led_px (g : ev_G) (u : ev_G × va_W) : Prop := ev_le g u.1 ∧ ev_b led_K u.1.2.2
def led_BX (D : va_G) (A : Nat → Prop) (E : String) (u : ev_G × va_W) (t : State) : Prop := E = led_E ∧ va_P D vwCl u.2 t.heap ∧ va_D A u.2 ∧ ev_w t u.1 st_w u.2
set_option maxHeartbeats 4000000 in
set_option maxRecDepth 100000 in
/-- BarberMinutes.led of an object without a town: it throws -/
theorem led_x (l : Launch) (hl0 : l.stackTraces = false) (D : va_G) (g : ev_G) (ws : va_W) (sz : Nat) (asc : List Value) (hs : ev_s g [(1, 0), (3, 1)] asc) (hB : ev_b led_K g.2.2) :
    vx_Met l led_yx (Cond.code led_yx led_cx 4 (some .int) :: lw_good) (ev_rm 7 1 6) (va_Pc asc (led_Pb D g ws sz)) (va_Qi (fun (_ : Int32) (_ : Unit) => False) (fun _ _ => True) (va_A ws sz)) (vx_X (led_px g) (led_BX D (va_A ws sz)) (va_A ws sz)) 1 6 (va_A ws sz) := by
  refine vx_ofW (cc := led_cx) (maxL := 4) (ret := some .int) (by decide) rfl ?_
  intro p e s m args below meth c s₁ B hml hno hv
  obtain ⟨rfl, ⟨hsz, hP, hK, hD0, hW, hN⟩, hTh⟩ := hv
  subst hsz
  have hD : va_D (va_A ws s.heap.size) ws := hD0.self (sz := s.heap.size)
  have hts : ∀ w ∈ lw_good, w.before asc.toArray s = true := fun w hw => atoms_spec (ws := Cond.code led_yx led_cx 4 (some .int) :: lw_good) B.pre w (List.mem_cons_of_mem _ hw)
  have hA : ∀ q : Nat, s.heap.size ≤ q → va_A ws s.heap.size q := fun q h => Or.inr h
  have hown : s.vm.findClass "BarberMinutes" = some m.cls := findClass_of_methodNamed B.named
  have X : ev_X p (ev_rm 7 1 6) s m asc.toArray meth c led_cx 4 "BarberMinutes" false D (va_A ws s.heap.size) 1 6 g 0 :=
    ⟨B.exec, B.bytes, hml, hown, hts, hK, hA, hN, (fun h => by cases h), rfl, rfl, by decide, by decide, (fun L h => by cases h)⟩
  have hlen : (lg_sl asc).length ≤ 4 := by rw [ev_sl_len hs]; decide
  have hl := lv_entry asc (n := 4) hlen
  rw [lg_entry_eq]
  refine ev_run_ok (P := (1, 6, false, "BarberMinutes", 4, 0)) ev_ms_ok (ev_exec_ok ev_ms_ok 0) ⟨by decide, by decide⟩ X led_rows_ok 100 _ _ led_run (fun o ho => ?_) g ws s.heap [] _ [] (ev_le_rf g) ⟨hP, hD, va_S.rf, hW, hB, ⟨hl.1, hl.2.1, fun q hq => ?_⟩, trivial⟩
  · cases List.mem_singleton.mp ho
    intro g' ws' H locs ls sc hle ⟨hP', hD', hS', hW', hB', hL', hs'⟩
    cases ev_s_nil hs'
    exact vx_throw0 (own := "BarberMinutes") (cls := led_E) (names := ["java/lang/RuntimeException", "java/lang/Exception"]) (ik := 367) (ic := 369) (A := va_A ws s.heap.size) B.exec B.bytes hl0 hown (by decide) (by decide) (hts _ led_w1) (hts _ led_w2) (fun w hw => by
        rcases led_at hw with h | ⟨h, h'⟩
        · exact hts w h
        · exact led_Ca_use hTh.1 h h')
      (fun w hw => by
        rcases List.mem_cons.mp hw with rfl | hw
        · rfl
        · rcases List.mem_cons.mp hw with rfl | hw
          · rfl
          · rcases led_at hw with h | ⟨-, h⟩
            · simp [vx_ot, (List.mem_filter.mp h).2]
            · unfold led_isC at h
              split at h
              · rfl
              · rfl
              · cases h)
      hTh.2.1 hTh.2.2 hS' (hL'.1.trans hml.symm) (by decide +kernel) (by decide +kernel) (by decide +kernel) (by decide +kernel) (fun x hx => (hno x hx).elim) (by decide) (by decide) (by decide) (by decide) B.notSynchronized
      (fun t hvm hz hq => ⟨(g', ws'), ⟨hle, hB'⟩, ⟨rfl, hP'.kept (fun k q hk => hq q.1 (hP' k q hk).lt), hD', ev_w_moved hvm hW'⟩, Nat.le_trans hS'.1 hz, fun q h1 h2 => (hq q (Nat.lt_of_lt_of_le h1 hS'.1)).trans (hS'.2.1 q h1 h2)⟩)
      hS'.2.2 (by decide) (by decide)
  · obtain ⟨v, h1, h2⟩ := ev_args_ok 0 hs q hq
    exact ⟨v, h1, hl.2.2 _ h2⟩
set_option maxRecDepth 1000000 in
theorem led_d4 : decode led_cL 4 = .ok (.invokevirtual 7, 3) := by decide +kernel
theorem led_met {l : Launch} {y : MethodName} {ws : List Cond} {rm : Room} {Pc : Array Value → State → Prop} {Qc : Array Value → State → Outcome → State → Prop} {mc ms : Nat} {free : Addr → Prop} (h : vx_Met l y ws rm Pc Qc (fun _ _ _ => False) mc ms free) : Met l y ws rm Pc Qc mc ms free :=
  MetFree.mono h (fun _ _ h => h) (fun _ _ _ _ _ h => h) (fun a s o t _ hq => by
    rcases hq with hq | ⟨q, -, E, ce, L, hf, -⟩
    · exact hq
    · exact hf.elim)
set_option maxHeartbeats 4000000 in
set_option maxRecDepth 100000 in
/-- the law's own led: it catches, and answers 1 -/
theorem led_L (l : Launch) (hl0 : l.stackTraces = false) (D : va_G) (g : ev_G) (ws : va_W) (sz : Nat) (ax : Nat) (v : Int32) (ao : Nat) (hx0 : ev_v g (1, 0) = some (.ref ax)) (hv0 : ev_v g (3, 1) = some (.int v)) (hB : ev_b led_K g.2.2) :
    Met l led_yL (Cond.codeWith led_yL led_cL 4 (some .int) [(0, 9, 12, 13)] :: lw_good) (ev_rm 8 1 6) (va_Pc [.ref ax, .int v, .ref ao] (led_Pb D g ws sz)) (ev_Q D g (va_A ws sz) [(some (0, 1), st_w, led_K)]) 1 6 (va_A ws sz) := by
  refine led_met (vx_ofWH (cc := led_cL) (maxL := 4) (ret := some .int) (hh := [(0, 9, 12, 13)]) (by decide) rfl ?_)
  intro p e s m args below meth c s₁ B hml hv
  obtain ⟨rfl, ⟨hsz, hP, hK, hD0, hW, hN⟩, hTh⟩ := hv
  subst hsz
  have hx := B.exec
  have hb := B.bytes
  have hr := B.returns
  have hD : va_D (va_A ws s.heap.size) ws := hD0.self (sz := s.heap.size)
  have hall := atoms_spec (ws := Cond.codeWith led_yL led_cL 4 (some .int) [(0, 9, 12, 13)] :: lw_good) B.pre
  have hts : ∀ w ∈ lw_good, w.before ([.ref ax, .int v, .ref ao] : List Value).toArray s = true := fun w hw => hall w (List.mem_cons_of_mem _ hw)
  have htab : c.exceptionTable.toList = tableOf [(0, 9, 12, 13)] := vx_table (x := led_yL) B (hall _ List.mem_cons_self)
  have hA : ∀ q : Nat, s.heap.size ≤ q → va_A ws s.heap.size q := fun q h => Or.inr h
  have hown : s.vm.findClass "BarberMinutesLaw" = some m.cls := findClass_of_methodNamed B.named
  have hl := lv_entry ([.ref ax, .int v, .ref ao]) (n := 4) (Nat.le_of_ble_eq_true rfl)
  rw [lg_entry_eq]
  generalize (lg_sl ([.ref ax, .int v, .ref ao]) ++ List.replicate (4 - (lg_sl ([.ref ax, .int v, .ref ao])).length) Slot.unset).toArray = ls at hl ⊢
  have hl : lv_has ls 4 [(0, .ref ax), (1, .int v), (2, .ref ao)] := hl
  refine lv_aload_n hx hb (k := 2) (by decide +kernel) rfl (lv_at hl 2 rfl) ?_
  refine lv_iconst (v := 0) hx hb (n := 0) (by decide +kernel) rfl ?_
  refine lv_aload_n hx hb (k := 0) (by decide +kernel) rfl (lv_at hl 0 rfl) ?_
  refine lv_iload_n hx hb (k := 1) (by decide +kernel) rfl (lv_at hl 1 rfl) ?_
  have hcl : ∃ fs : List Value, ws[0]? = some (ax, .inr (8, fs)) := by
    obtain ⟨ad, x0, e1, e2, e3⟩ := ev_ref1 (a := (1, 0)) (cl := st_w.getD 0 (0, [])) hW rfl hx0 rfl
    cases e1
    cases x0 with
    | inl z =>
      obtain ⟨tt, b1, b2, -⟩ := e3
      exact absurd b2 (by show ¬ (8 : Nat) = 100 + tt; omega)
    | inr o =>
      obtain ⟨ci, fs⟩ := o
      have b1 : (8 : Nat) = ci := e3.1
      subst b1
      exact ⟨fs, e2⟩
  obtain ⟨fs, hcl⟩ := hcl
  have hG : GoodIn lw_good (wsV "BarberMinutesLaw" 7 "BarberMinutes" led_yx (Cond.code led_yx led_cx 4 (some .int) :: lw_good)) := lw_good_good (fun w h => by
    unfold wsV at h
    rcases List.mem_append.mp h with h | h
    · simp only [List.mem_cons, List.not_mem_nil, or_false] at h
      rcases h with rfl | rfl | rfl | rfl
      · exact led_w5
      · exact led_w6
      · exact led_w7
      · exact led_w8
    · rcases List.mem_cons.mp h with rfl | h
      · exact led_w3
      · exact h)
  refine vx_calli (vx_runV (As := [.int v]) (rest := [.int 0, .ref ao]) ⟨hx, hb, hml, hown, hts⟩ (led_x l hl0 D g ws s.heap.size [.ref ax, .int v] ⟨hx0, hv0, trivial⟩ hB) (cwV 1 hts hG rfl rfl rfl (by decide +kernel) ⟨by decide, by decide⟩)
    ⟨led_blind, va_recv hK hP (ci := 8) (q := (RX8, TX8, 15)) rfl hcl, fun U hU hWm => ⟨rfl, ⟨by rw [hU], by rw [hU]; exact hP, va_K.moved hWm.alike hK, hD0, ev_w_moved hWm.alike hW, ev_N_call hWm hU va_S.rf (fun _ h => h) hN⟩, led_Th_call hWm hU va_S.rf (fun _ h => h) hTh⟩⟩
    rfl rfl hl.1 rfl (lv_room (Nat.le_of_ble_eq_true rfl)) led_d4 ⟨by decide, by decide⟩) va_S.rf (fun q _ h => h) (fun q h => h) (fun q _ h => h) ?_ ?_
  · intro E ce q9 u t H1 locs1 ht hvm hpx hbx hz hk hS1 hcell hcv hcl2
    obtain ⟨hle, hB'⟩ := hpx
    obtain ⟨rfl, hP1, hD1, hw1⟩ := hbx
    rw [ht] at hP1
    refine led_catch (name := led_E) hown ⟨0, 9, 12, 13⟩ [] (by rw [htab]; rfl) (by decide) (by decide) (hts _ led_w9) (led_Ca_use hTh.1 led_w10 rfl) hcell hcv hcl2 ?_
    refine lv_astore_n (i := 3) (lv' := [(3, .ref q9), (0, .ref ax), (1, .int v), (2, .ref ao)]) hx hb (k := 3) (by decide +kernel) rfl hl (by decide) rfl (fun ls hl => ?_)
    refine lv_iconst (v := 1) hx hb (n := 1) (by decide +kernel) rfl ?_
    refine vx_ret (W.iret (v := 1) hx hb hr (fun t2 ht2 hWm => ⟨⟨(some (0, 1), st_w, led_K), u.1, u.2, some (.int 1), List.mem_singleton.mpr rfl, rfl, rfl, hle, by rw [ht2]; exact hP1, hD1, ev_w_moved (hvm.symm.trans hWm.alike) hw1, hB'⟩, hS1.F ht2⟩) hS1.2.2 (by decide +kernel) B.notSynchronized)
  · intro r u t H1 locs1 _ _ hf
    exact hf.elim
def led_S : ev_S := (1666, [(4, (0, 0)), (3, (1, 136)), (2, (1, 124)), (1, (1, 0)), (0, (5, 0))], [(1, 136), (3, 1), (1, 0)], st_w, led_K, 137, 3193)
def led_N : ev_S := (1669, [(4, (0, 0)), (3, (1, 136)), (2, (1, 124)), (1, (1, 0)), (0, (5, 0))], [(0, 1)], st_w, led_K, 137 + 1, 3193 + 6)
set_option maxRecDepth 1000000 in
theorem led_d : decode code 1666 = .ok (.invokestatic 235, 3) := by decide +kernel
set_option maxHeartbeats 4000000 in
set_option maxRecDepth 100000 in
/-- the law at its call of led -/
theorem led_law {p : Program} {l : Launch} {e : Env} {s : State} {m : MethodId} {below : List Frame} {meth : Method} {c : Code} {b L : Nat} {xs : Nat → Int32} {Q : State → Prop} {D : va_G} {g0 : ev_G} {Ls : Nat} (hl0 : l.stackTraces = false) (C0 : lw_At p s m meth c b L xs)
    (X : ev_X p room_1 s m #[Value.ref b] meth c code 7 "BarberMinutesLaw" false D (law_A s) 600002 7302232 g0 Ls) (hk : ev_Go p l e room_1 s m #[Value.ref b] below meth c Q 7 D (law_A s) g0 led_N) : ev_Go p l e room_1 s m #[Value.ref b] below meth c Q 7 D (law_A s) g0 led_S := by
  intro g ws H locs ls sc hle hR
  obtain ⟨hx, hb, hml, hown, hts, hK, hA, hN, hini, hcC, hcS, hf, hlc, hscr⟩ := X
  obtain ⟨hP, hD, hS, hW, hB, hL, hs⟩ := hR
  obtain ⟨vo, sc1, rfl, hvo, hs1⟩ := ev_s_cons hs
  obtain ⟨vv, sc2, rfl, hvv, hs2⟩ := ev_s_cons hs1
  obtain ⟨vx, sc3, rfl, hvx, hs3⟩ := ev_s_cons hs2
  cases ev_s_nil hs3
  obtain ⟨ao, rfl⟩ := ev_vR rfl hvo
  obtain ⟨v, rfl⟩ := ev_vI rfl hvv
  obtain ⟨ax, rfl⟩ := ev_vR rfl hvx
  have hfree : ∀ q, va_A ws H.size q → law_A s q := by
    intro q h
    rcases h with ⟨k, e, h⟩ | h
    · exact hD.2 k (q, e) h
    · exact hA q (Nat.le_trans hS.1 h)
  have hG : GoodIn lw_good (va_wsS "BarberMinutesLaw" 235 led_yL (Cond.codeWith led_yL led_cL 4 (some .int) [(0, 9, 12, 13)] :: lw_good)) := lw_good_good (fun w h => by
    unfold va_wsS at h
    rcases List.mem_append.mp h with h | h
    · simp only [List.mem_cons, List.not_mem_nil, or_false] at h
      rcases h with rfl | rfl | rfl
      · exact led_w13
      · exact led_w11
      · exact led_w12
    · rcases List.mem_cons.mp h with rfl | h
      · exact led_w4
      · exact h)
  refine ev_callW (vx_runSW (As := [.ref ax, .int v, .ref ao]) (rest := []) ⟨hx, hb, hml, hown, hts⟩ (led_L l hl0 D g ws H.size ax v ao hvx hvv hB) (vx_cwSW 3 hts hG rfl rfl rfl (by decide +kernel) ⟨by decide, by decide⟩)
    ⟨led_blind, fun U hU hWm => ⟨rfl, ⟨by rw [hU], by rw [hU]; exact hP, va_K.moved hWm.alike hK, hD.weaken (fun _ _ _ _ => trivial), ev_w_moved hWm.alike hW, by rw [hle.2.1]; exact ev_N_call hWm hU hS hfree hN⟩, led_Th_call hWm hU hS hfree (led_start C0)⟩⟩
    rfl rfl hL.1 rfl (lv_room (Nat.le_of_ble_eq_true rfl)) led_d ⟨by rw [hcC]; decide, by rw [hcS]; decide⟩) hS (fun q h => hfree q h) hfree (fun o g' ws' rv t H1 locs1 ho ht hvm hrv hle' hP1 hD1 hw1 hb1 hS1 => ?_)
  cases List.mem_singleton.mp ho
  cases rv with
  | none => exact hrv.elim
  | some rv =>
    exact hk g' ws' H1 locs1 ls _ (ev_le_tr hle hle') ⟨hP1, hD1.weaken (fun _ _ _ h => hfree _ h), hS1, ev_w_moved hvm.symm hw1, hb1, ev_l_le hle' hL, hrv, trivial⟩
end
section
/-! the law behind its switch -/
def law_c0 : ev_S := (276, [(4, (0, 0)), (3, (1, 136)), (2, (1, 124)), (1, (1, 0)), (0, (5, 0))], [], st_w, [((-2147483648), 2147483647), ((-2147483648), 2147483647), ((-2147483648), 2147483647), ((-2147483648), 2147483647), ((-2147483648), 2147483647), ((-2147483648), 2147483647), (0, 0)], 137, 3193)
def law_c1 : ev_S := (349, [(4, (0, 0)), (3, (1, 136)), (2, (1, 124)), (1, (1, 0)), (0, (5, 0))], [], st_w, [((-2147483648), 2147483647), ((-2147483648), 2147483647), ((-2147483648), 2147483647), ((-2147483648), 2147483647), ((-2147483648), 2147483647), ((-2147483648), 2147483647), (1, 1)], 137, 3193)
def law_c2 : ev_S := (374, [(4, (0, 0)), (3, (1, 136)), (2, (1, 124)), (1, (1, 0)), (0, (5, 0))], [], st_w, [((-2147483648), 2147483647), ((-2147483648), 2147483647), ((-2147483648), 2147483647), ((-2147483648), 2147483647), ((-2147483648), 2147483647), ((-2147483648), 2147483647), (2, 2)], 137, 3193)
def law_c3 : ev_S := (387, [(4, (0, 0)), (3, (1, 136)), (2, (1, 124)), (1, (1, 0)), (0, (5, 0))], [], st_w, [((-2147483648), 2147483647), ((-2147483648), 2147483647), ((-2147483648), 2147483647), ((-2147483648), 2147483647), ((-2147483648), 2147483647), ((-2147483648), 2147483647), (3, 3)], 137, 3193)
def law_c4 : ev_S := (400, [(4, (0, 0)), (3, (1, 136)), (2, (1, 124)), (1, (1, 0)), (0, (5, 0))], [], st_w, [((-2147483648), 2147483647), ((-2147483648), 2147483647), ((-2147483648), 2147483647), ((-2147483648), 2147483647), ((-2147483648), 2147483647), ((-2147483648), 2147483647), (4, 4)], 137, 3193)
def law_c5 : ev_S := (437, [(4, (0, 0)), (3, (1, 136)), (2, (1, 124)), (1, (1, 0)), (0, (5, 0))], [], st_w, [((-2147483648), 2147483647), ((-2147483648), 2147483647), ((-2147483648), 2147483647), ((-2147483648), 2147483647), ((-2147483648), 2147483647), ((-2147483648), 2147483647), (5, 5)], 137, 3193)
def law_c6 : ev_S := (474, [(4, (0, 0)), (3, (1, 136)), (2, (1, 124)), (1, (1, 0)), (0, (5, 0))], [], st_w, [((-2147483648), 2147483647), ((-2147483648), 2147483647), ((-2147483648), 2147483647), ((-2147483648), 2147483647), ((-2147483648), 2147483647), ((-2147483648), 2147483647), (6, 6)], 137, 3193)
def law_c7 : ev_S := (499, [(4, (0, 0)), (3, (1, 136)), (2, (1, 124)), (1, (1, 0)), (0, (5, 0))], [], st_w, [((-2147483648), 2147483647), ((-2147483648), 2147483647), ((-2147483648), 2147483647), ((-2147483648), 2147483647), ((-2147483648), 2147483647), ((-2147483648), 2147483647), (7, 7)], 137, 3193)
def law_c8 : ev_S := (512, [(4, (0, 0)), (3, (1, 136)), (2, (1, 124)), (1, (1, 0)), (0, (5, 0))], [], st_w, [((-2147483648), 2147483647), ((-2147483648), 2147483647), ((-2147483648), 2147483647), ((-2147483648), 2147483647), ((-2147483648), 2147483647), ((-2147483648), 2147483647), (8, 8)], 137, 3193)
def law_c9 : ev_S := (525, [(4, (0, 0)), (3, (1, 136)), (2, (1, 124)), (1, (1, 0)), (0, (5, 0))], [], st_w, [((-2147483648), 2147483647), ((-2147483648), 2147483647), ((-2147483648), 2147483647), ((-2147483648), 2147483647), ((-2147483648), 2147483647), ((-2147483648), 2147483647), (9, 9)], 137, 3193)
def law_c10 : ev_S := (538, [(4, (0, 0)), (3, (1, 136)), (2, (1, 124)), (1, (1, 0)), (0, (5, 0))], [], st_w, [((-2147483648), 2147483647), ((-2147483648), 2147483647), ((-2147483648), 2147483647), ((-2147483648), 2147483647), ((-2147483648), 2147483647), ((-2147483648), 2147483647), (10, 10)], 137, 3193)
def law_c11 : ev_S := (551, [(4, (0, 0)), (3, (1, 136)), (2, (1, 124)), (1, (1, 0)), (0, (5, 0))], [], st_w, [((-2147483648), 2147483647), ((-2147483648), 2147483647), ((-2147483648), 2147483647), ((-2147483648), 2147483647), ((-2147483648), 2147483647), ((-2147483648), 2147483647), (11, 11)], 137, 3193)
def law_c12 : ev_S := (576, [(4, (0, 0)), (3, (1, 136)), (2, (1, 124)), (1, (1, 0)), (0, (5, 0))], [], st_w, [((-2147483648), 2147483647), ((-2147483648), 2147483647), ((-2147483648), 2147483647), ((-2147483648), 2147483647), ((-2147483648), 2147483647), ((-2147483648), 2147483647), (12, 12)], 137, 3193)
def law_c13 : ev_S := (601, [(4, (0, 0)), (3, (1, 136)), (2, (1, 124)), (1, (1, 0)), (0, (5, 0))], [], st_w, [((-2147483648), 2147483647), ((-2147483648), 2147483647), ((-2147483648), 2147483647), ((-2147483648), 2147483647), ((-2147483648), 2147483647), ((-2147483648), 2147483647), (13, 13)], 137, 3193)
def law_c14 : ev_S := (638, [(4, (0, 0)), (3, (1, 136)), (2, (1, 124)), (1, (1, 0)), (0, (5, 0))], [], st_w, [((-2147483648), 2147483647), ((-2147483648), 2147483647), ((-2147483648), 2147483647), ((-2147483648), 2147483647), ((-2147483648), 2147483647), ((-2147483648), 2147483647), (14, 14)], 137, 3193)
def law_c15 : ev_S := (675, [(4, (0, 0)), (3, (1, 136)), (2, (1, 124)), (1, (1, 0)), (0, (5, 0))], [], st_w, [((-2147483648), 2147483647), ((-2147483648), 2147483647), ((-2147483648), 2147483647), ((-2147483648), 2147483647), ((-2147483648), 2147483647), ((-2147483648), 2147483647), (15, 15)], 137, 3193)
def law_c16 : ev_S := (700, [(4, (0, 0)), (3, (1, 136)), (2, (1, 124)), (1, (1, 0)), (0, (5, 0))], [], st_w, [((-2147483648), 2147483647), ((-2147483648), 2147483647), ((-2147483648), 2147483647), ((-2147483648), 2147483647), ((-2147483648), 2147483647), ((-2147483648), 2147483647), (16, 16)], 137, 3193)
def law_c17 : ev_S := (713, [(4, (0, 0)), (3, (1, 136)), (2, (1, 124)), (1, (1, 0)), (0, (5, 0))], [], st_w, [((-2147483648), 2147483647), ((-2147483648), 2147483647), ((-2147483648), 2147483647), ((-2147483648), 2147483647), ((-2147483648), 2147483647), ((-2147483648), 2147483647), (17, 17)], 137, 3193)
def law_c18 : ev_S := (726, [(4, (0, 0)), (3, (1, 136)), (2, (1, 124)), (1, (1, 0)), (0, (5, 0))], [], st_w, [((-2147483648), 2147483647), ((-2147483648), 2147483647), ((-2147483648), 2147483647), ((-2147483648), 2147483647), ((-2147483648), 2147483647), ((-2147483648), 2147483647), (18, 18)], 137, 3193)
def law_c19 : ev_S := (763, [(4, (0, 0)), (3, (1, 136)), (2, (1, 124)), (1, (1, 0)), (0, (5, 0))], [], st_w, [((-2147483648), 2147483647), ((-2147483648), 2147483647), ((-2147483648), 2147483647), ((-2147483648), 2147483647), ((-2147483648), 2147483647), ((-2147483648), 2147483647), (19, 19)], 137, 3193)
def law_c20 : ev_S := (788, [(4, (0, 0)), (3, (1, 136)), (2, (1, 124)), (1, (1, 0)), (0, (5, 0))], [], st_w, [((-2147483648), 2147483647), ((-2147483648), 2147483647), ((-2147483648), 2147483647), ((-2147483648), 2147483647), ((-2147483648), 2147483647), ((-2147483648), 2147483647), (20, 20)], 137, 3193)
def law_c21 : ev_S := (813, [(4, (0, 0)), (3, (1, 136)), (2, (1, 124)), (1, (1, 0)), (0, (5, 0))], [], st_w, [((-2147483648), 2147483647), ((-2147483648), 2147483647), ((-2147483648), 2147483647), ((-2147483648), 2147483647), ((-2147483648), 2147483647), ((-2147483648), 2147483647), (21, 21)], 137, 3193)
def law_c22 : ev_S := (838, [(4, (0, 0)), (3, (1, 136)), (2, (1, 124)), (1, (1, 0)), (0, (5, 0))], [], st_w, [((-2147483648), 2147483647), ((-2147483648), 2147483647), ((-2147483648), 2147483647), ((-2147483648), 2147483647), ((-2147483648), 2147483647), ((-2147483648), 2147483647), (22, 22)], 137, 3193)
def law_c23 : ev_S := (863, [(4, (0, 0)), (3, (1, 136)), (2, (1, 124)), (1, (1, 0)), (0, (5, 0))], [], st_w, [((-2147483648), 2147483647), ((-2147483648), 2147483647), ((-2147483648), 2147483647), ((-2147483648), 2147483647), ((-2147483648), 2147483647), ((-2147483648), 2147483647), (23, 23)], 137, 3193)
def law_c24 : ev_S := (900, [(4, (0, 0)), (3, (1, 136)), (2, (1, 124)), (1, (1, 0)), (0, (5, 0))], [], st_w, [((-2147483648), 2147483647), ((-2147483648), 2147483647), ((-2147483648), 2147483647), ((-2147483648), 2147483647), ((-2147483648), 2147483647), ((-2147483648), 2147483647), (24, 24)], 137, 3193)
def law_c25 : ev_S := (925, [(4, (0, 0)), (3, (1, 136)), (2, (1, 124)), (1, (1, 0)), (0, (5, 0))], [], st_w, [((-2147483648), 2147483647), ((-2147483648), 2147483647), ((-2147483648), 2147483647), ((-2147483648), 2147483647), ((-2147483648), 2147483647), ((-2147483648), 2147483647), (25, 25)], 137, 3193)
def law_c26 : ev_S := (950, [(4, (0, 0)), (3, (1, 136)), (2, (1, 124)), (1, (1, 0)), (0, (5, 0))], [], st_w, [((-2147483648), 2147483647), ((-2147483648), 2147483647), ((-2147483648), 2147483647), ((-2147483648), 2147483647), ((-2147483648), 2147483647), ((-2147483648), 2147483647), (26, 26)], 137, 3193)
def law_c27 : ev_S := (975, [(4, (0, 0)), (3, (1, 136)), (2, (1, 124)), (1, (1, 0)), (0, (5, 0))], [], st_w, [((-2147483648), 2147483647), ((-2147483648), 2147483647), ((-2147483648), 2147483647), ((-2147483648), 2147483647), ((-2147483648), 2147483647), ((-2147483648), 2147483647), (27, 27)], 137, 3193)
def law_c28 : ev_S := (988, [(4, (0, 0)), (3, (1, 136)), (2, (1, 124)), (1, (1, 0)), (0, (5, 0))], [], st_w, [((-2147483648), 2147483647), ((-2147483648), 2147483647), ((-2147483648), 2147483647), ((-2147483648), 2147483647), ((-2147483648), 2147483647), ((-2147483648), 2147483647), (28, 28)], 137, 3193)
def law_c29 : ev_S := (1001, [(4, (0, 0)), (3, (1, 136)), (2, (1, 124)), (1, (1, 0)), (0, (5, 0))], [], st_w, [((-2147483648), 2147483647), ((-2147483648), 2147483647), ((-2147483648), 2147483647), ((-2147483648), 2147483647), ((-2147483648), 2147483647), ((-2147483648), 2147483647), (29, 29)], 137, 3193)
def law_c30 : ev_S := (1014, [(4, (0, 0)), (3, (1, 136)), (2, (1, 124)), (1, (1, 0)), (0, (5, 0))], [], st_w, [((-2147483648), 2147483647), ((-2147483648), 2147483647), ((-2147483648), 2147483647), ((-2147483648), 2147483647), ((-2147483648), 2147483647), ((-2147483648), 2147483647), (30, 30)], 137, 3193)
def law_c31 : ev_S := (1051, [(4, (0, 0)), (3, (1, 136)), (2, (1, 124)), (1, (1, 0)), (0, (5, 0))], [], st_w, [((-2147483648), 2147483647), ((-2147483648), 2147483647), ((-2147483648), 2147483647), ((-2147483648), 2147483647), ((-2147483648), 2147483647), ((-2147483648), 2147483647), (31, 31)], 137, 3193)
def law_c32 : ev_S := (1064, [(4, (0, 0)), (3, (1, 136)), (2, (1, 124)), (1, (1, 0)), (0, (5, 0))], [], st_w, [((-2147483648), 2147483647), ((-2147483648), 2147483647), ((-2147483648), 2147483647), ((-2147483648), 2147483647), ((-2147483648), 2147483647), ((-2147483648), 2147483647), (32, 32)], 137, 3193)
def law_c33 : ev_S := (1089, [(4, (0, 0)), (3, (1, 136)), (2, (1, 124)), (1, (1, 0)), (0, (5, 0))], [], st_w, [((-2147483648), 2147483647), ((-2147483648), 2147483647), ((-2147483648), 2147483647), ((-2147483648), 2147483647), ((-2147483648), 2147483647), ((-2147483648), 2147483647), (33, 33)], 137, 3193)
def law_c34 : ev_S := (1102, [(4, (0, 0)), (3, (1, 136)), (2, (1, 124)), (1, (1, 0)), (0, (5, 0))], [], st_w, [((-2147483648), 2147483647), ((-2147483648), 2147483647), ((-2147483648), 2147483647), ((-2147483648), 2147483647), ((-2147483648), 2147483647), ((-2147483648), 2147483647), (34, 34)], 137, 3193)
def law_c35 : ev_S := (1127, [(4, (0, 0)), (3, (1, 136)), (2, (1, 124)), (1, (1, 0)), (0, (5, 0))], [], st_w, [((-2147483648), 2147483647), ((-2147483648), 2147483647), ((-2147483648), 2147483647), ((-2147483648), 2147483647), ((-2147483648), 2147483647), ((-2147483648), 2147483647), (35, 35)], 137, 3193)
def law_c36 : ev_S := (1140, [(4, (0, 0)), (3, (1, 136)), (2, (1, 124)), (1, (1, 0)), (0, (5, 0))], [], st_w, [((-2147483648), 2147483647), ((-2147483648), 2147483647), ((-2147483648), 2147483647), ((-2147483648), 2147483647), ((-2147483648), 2147483647), ((-2147483648), 2147483647), (36, 36)], 137, 3193)
def law_c37 : ev_S := (1153, [(4, (0, 0)), (3, (1, 136)), (2, (1, 124)), (1, (1, 0)), (0, (5, 0))], [], st_w, [((-2147483648), 2147483647), ((-2147483648), 2147483647), ((-2147483648), 2147483647), ((-2147483648), 2147483647), ((-2147483648), 2147483647), ((-2147483648), 2147483647), (37, 37)], 137, 3193)
def law_c38 : ev_S := (1166, [(4, (0, 0)), (3, (1, 136)), (2, (1, 124)), (1, (1, 0)), (0, (5, 0))], [], st_w, [((-2147483648), 2147483647), ((-2147483648), 2147483647), ((-2147483648), 2147483647), ((-2147483648), 2147483647), ((-2147483648), 2147483647), ((-2147483648), 2147483647), (38, 38)], 137, 3193)
def law_c39 : ev_S := (1179, [(4, (0, 0)), (3, (1, 136)), (2, (1, 124)), (1, (1, 0)), (0, (5, 0))], [], st_w, [((-2147483648), 2147483647), ((-2147483648), 2147483647), ((-2147483648), 2147483647), ((-2147483648), 2147483647), ((-2147483648), 2147483647), ((-2147483648), 2147483647), (39, 39)], 137, 3193)
def law_c40 : ev_S := (1288, [(4, (0, 0)), (3, (1, 136)), (2, (1, 124)), (1, (1, 0)), (0, (5, 0))], [], st_w, [((-2147483648), 2147483647), ((-2147483648), 2147483647), ((-2147483648), 2147483647), ((-2147483648), 2147483647), ((-2147483648), 2147483647), ((-2147483648), 2147483647), (40, 40)], 137, 3193)
def law_c41 : ev_S := (1313, [(4, (0, 0)), (3, (1, 136)), (2, (1, 124)), (1, (1, 0)), (0, (5, 0))], [], st_w, [((-2147483648), 2147483647), ((-2147483648), 2147483647), ((-2147483648), 2147483647), ((-2147483648), 2147483647), ((-2147483648), 2147483647), ((-2147483648), 2147483647), (41, 41)], 137, 3193)
def law_c42 : ev_S := (1338, [(4, (0, 0)), (3, (1, 136)), (2, (1, 124)), (1, (1, 0)), (0, (5, 0))], [], st_w, [((-2147483648), 2147483647), ((-2147483648), 2147483647), ((-2147483648), 2147483647), ((-2147483648), 2147483647), ((-2147483648), 2147483647), ((-2147483648), 2147483647), (42, 42)], 137, 3193)
def law_c43 : ev_S := (1392, [(4, (0, 0)), (3, (1, 136)), (2, (1, 124)), (1, (1, 0)), (0, (5, 0))], [], st_w, [((-2147483648), 2147483647), ((-2147483648), 2147483647), ((-2147483648), 2147483647), ((-2147483648), 2147483647), ((-2147483648), 2147483647), ((-2147483648), 2147483647), (43, 43)], 137, 3193)
def law_c44 : ev_S := (1446, [(4, (0, 0)), (3, (1, 136)), (2, (1, 124)), (1, (1, 0)), (0, (5, 0))], [], st_w, [((-2147483648), 2147483647), ((-2147483648), 2147483647), ((-2147483648), 2147483647), ((-2147483648), 2147483647), ((-2147483648), 2147483647), ((-2147483648), 2147483647), (44, 44)], 137, 3193)
def law_c45 : ev_S := (1495, [(4, (0, 0)), (3, (1, 136)), (2, (1, 124)), (1, (1, 0)), (0, (5, 0))], [], st_w, [((-2147483648), 2147483647), ((-2147483648), 2147483647), ((-2147483648), 2147483647), ((-2147483648), 2147483647), ((-2147483648), 2147483647), ((-2147483648), 2147483647), (45, 45)], 137, 3193)
def law_c46 : ev_S := (1544, [(4, (0, 0)), (3, (1, 136)), (2, (1, 124)), (1, (1, 0)), (0, (5, 0))], [], st_w, [((-2147483648), 2147483647), ((-2147483648), 2147483647), ((-2147483648), 2147483647), ((-2147483648), 2147483647), ((-2147483648), 2147483647), ((-2147483648), 2147483647), (46, 46)], 137, 3193)
def law_c47 : ev_S := (1569, [(4, (0, 0)), (3, (1, 136)), (2, (1, 124)), (1, (1, 0)), (0, (5, 0))], [], st_w, [((-2147483648), 2147483647), ((-2147483648), 2147483647), ((-2147483648), 2147483647), ((-2147483648), 2147483647), ((-2147483648), 2147483647), ((-2147483648), 2147483647), (47, 47)], 137, 3193)
def law_c48 : ev_S := (1582, [(4, (0, 0)), (3, (1, 136)), (2, (1, 124)), (1, (1, 0)), (0, (5, 0))], [], st_w, [((-2147483648), 2147483647), ((-2147483648), 2147483647), ((-2147483648), 2147483647), ((-2147483648), 2147483647), ((-2147483648), 2147483647), ((-2147483648), 2147483647), (48, 48)], 137, 3193)
def law_c49 : ev_S := (1607, [(4, (0, 0)), (3, (1, 136)), (2, (1, 124)), (1, (1, 0)), (0, (5, 0))], [], st_w, [((-2147483648), 2147483647), ((-2147483648), 2147483647), ((-2147483648), 2147483647), ((-2147483648), 2147483647), ((-2147483648), 2147483647), ((-2147483648), 2147483647), (49, 49)], 137, 3193)
def law_c50 : ev_S := (1620, [(4, (0, 0)), (3, (1, 136)), (2, (1, 124)), (1, (1, 0)), (0, (5, 0))], [], st_w, [((-2147483648), 2147483647), ((-2147483648), 2147483647), ((-2147483648), 2147483647), ((-2147483648), 2147483647), ((-2147483648), 2147483647), ((-2147483648), 2147483647), (50, 50)], 137, 3193)
def law_c51 : ev_S := (1633, [(4, (0, 0)), (3, (1, 136)), (2, (1, 124)), (1, (1, 0)), (0, (5, 0))], [], st_w, [((-2147483648), 2147483647), ((-2147483648), 2147483647), ((-2147483648), 2147483647), ((-2147483648), 2147483647), ((-2147483648), 2147483647), ((-2147483648), 2147483647), (51, 51)], 137, 3193)
def law_c52 : ev_S := (1658, [(4, (0, 0)), (3, (1, 136)), (2, (1, 124)), (1, (1, 0)), (0, (5, 0))], [], st_w, [((-2147483648), 2147483647), ((-2147483648), 2147483647), ((-2147483648), 2147483647), ((-2147483648), 2147483647), ((-2147483648), 2147483647), ((-2147483648), 2147483647), (52, 52)], 137, 3193)
def law_c53 : ev_S := (1714, [(4, (0, 0)), (3, (1, 136)), (2, (1, 124)), (1, (1, 0)), (0, (5, 0))], [], st_w, [((-2147483648), 2147483647), ((-2147483648), 2147483647), ((-2147483648), 2147483647), ((-2147483648), 2147483647), ((-2147483648), 2147483647), ((-2147483648), 2147483647), (53, 53)], 137, 3193)
def law_c54 : ev_S := (1739, [(4, (0, 0)), (3, (1, 136)), (2, (1, 124)), (1, (1, 0)), (0, (5, 0))], [], st_w, [((-2147483648), 2147483647), ((-2147483648), 2147483647), ((-2147483648), 2147483647), ((-2147483648), 2147483647), ((-2147483648), 2147483647), ((-2147483648), 2147483647), (54, 54)], 137, 3193)
def law_c55 : ev_S := (1752, [(4, (0, 0)), (3, (1, 136)), (2, (1, 124)), (1, (1, 0)), (0, (5, 0))], [], st_w, [((-2147483648), 2147483647), ((-2147483648), 2147483647), ((-2147483648), 2147483647), ((-2147483648), 2147483647), ((-2147483648), 2147483647), ((-2147483648), 2147483647), ((-2147483648), (-1))], 137, 3193)
def law_c56 : ev_S := (1752, [(4, (0, 0)), (3, (1, 136)), (2, (1, 124)), (1, (1, 0)), (0, (5, 0))], [], st_w, [((-2147483648), 2147483647), ((-2147483648), 2147483647), ((-2147483648), 2147483647), ((-2147483648), 2147483647), ((-2147483648), 2147483647), ((-2147483648), 2147483647), (55, 2147483647)], 137, 3193)
def law_stops : List Nat := [276, 349, 374, 387, 400, 437, 474, 499, 512, 525, 538, 551, 576, 601, 638, 675, 700, 713, 726, 763, 788, 813, 838, 863, 900, 925, 950, 975, 988, 1001, 1014, 1051, 1064, 1089, 1102, 1127, 1140, 1153, 1166, 1179, 1288, 1313, 1338, 1392, 1446, 1495, 1544, 1569, 1582, 1607, 1620, 1633, 1658, 1714, 1739, 1752]
set_option maxRecDepth 1000000 in
theorem run_b : ev_run ev_ms (ev_exec ev_ms 12) (law_P 7) law_b law_stops 100 st_0 = some [law_c0, law_c1, law_c2, law_c3, law_c4, law_c5, law_c6, law_c7, law_c8, law_c9, law_c10, law_c11, law_c12, law_c13, law_c14, law_c15, law_c16, law_c17, law_c18, law_c19, law_c20, law_c21, law_c22, law_c23, law_c24, law_c25, law_c26, law_c27, law_c28, law_c29, law_c30, law_c31, law_c32, law_c33, law_c34, law_c35, law_c36, law_c37, law_c38, law_c39, law_c40, law_c41, law_c42, law_c43, law_c44, law_c45, law_c46, law_c47, law_c48, law_c49, law_c50, law_c51, law_c52, law_c53, law_c54, law_c55, law_c56] := ev_eqO_ok (by decide +kernel)
/-- an end of the law with true -/
def law_ok (rows : List (Nat × ev_Row)) (S : ev_S) : Bool := (match ev_at rows S.1 with
  | some r => r.1 == 210
  | none => false) && (decide (S.2.2.1 = [(0, 1)]) && (decide (S.2.2.2.2.2.1 ≤ 600002) && decide (S.2.2.2.2.2.2 ≤ 7302232)))
def law_all (rows : List (Nat × ev_Row)) (o : Option (List ev_S)) : Bool := match o with
  | some l => l.all (law_ok rows)
  | none => false
theorem law_all_ok {rows : List (Nat × ev_Row)} {o : Option (List ev_S)} (h : law_all rows o = true) : ∃ l, o = some l ∧ ∀ S ∈ l, law_ok rows S = true := by
  unfold law_all at h
  split at h
  · exact ⟨_, rfl, fun S hS => List.all_eq_true.mp h S hS⟩
  · cases h
set_option maxRecDepth 1000000 in
theorem run_h0 : law_all law_h (ev_run ev_ms (ev_exec ev_ms 12) (law_P 1) law_h [] 100 st_0) = true := by decide +kernel
set_option maxRecDepth 1000000 in
theorem run_h1 : law_all law_h (ev_run ev_ms (ev_exec ev_ms 12) (law_P 2) law_h [] 100 st_0) = true := by decide +kernel
set_option maxRecDepth 1000000 in
theorem run_h2 : law_all law_h (ev_run ev_ms (ev_exec ev_ms 12) (law_P 3) law_h [] 100 st_0) = true := by decide +kernel
set_option maxRecDepth 1000000 in
theorem run_h3 : law_all law_h (ev_run ev_ms (ev_exec ev_ms 12) (law_P 4) law_h [] 100 st_0) = true := by decide +kernel
set_option maxRecDepth 1000000 in
theorem run_h4 : law_all law_h (ev_run ev_ms (ev_exec ev_ms 12) (law_P 5) law_h [] 100 st_0) = true := by decide +kernel
set_option maxRecDepth 1000000 in
theorem run_h5 : law_all law_h (ev_run ev_ms (ev_exec ev_ms 12) (law_P 6) law_h [] 100 st_0) = true := by decide +kernel
end
section
/-! the runs of the calls -/
set_option maxRecDepth 1000000 in
theorem run_c1 : law_all law_b (ev_run ev_ms (ev_exec ev_ms 12) (law_P 7) law_b [] 5000 law_c1) = true := by decide +kernel
end
section
/-! the runs of the calls -/
end
section
/-! the runs of the calls -/
set_option maxRecDepth 1000000 in
theorem run_c0 : law_all law_b (ev_run ev_ms (ev_exec ev_ms 12) (law_P 7) law_b [] 5000 law_c0) = true := by decide +kernel
set_option maxRecDepth 1000000 in
theorem run_c2 : law_all law_b (ev_run ev_ms (ev_exec ev_ms 12) (law_P 7) law_b [] 5000 law_c2) = true := by decide +kernel
set_option maxRecDepth 1000000 in
theorem run_c4 : law_all law_b (ev_run ev_ms (ev_exec ev_ms 12) (law_P 7) law_b [] 5000 law_c4) = true := by decide +kernel
set_option maxRecDepth 1000000 in
theorem run_c7 : law_all law_b (ev_run ev_ms (ev_exec ev_ms 12) (law_P 7) law_b [] 5000 law_c7) = true := by decide +kernel
set_option maxRecDepth 1000000 in
theorem run_c8 : law_all law_b (ev_run ev_ms (ev_exec ev_ms 12) (law_P 7) law_b [] 5000 law_c8) = true := by decide +kernel
set_option maxRecDepth 1000000 in
theorem run_c11 : law_all law_b (ev_run ev_ms (ev_exec ev_ms 12) (law_P 7) law_b [] 5000 law_c11) = true := by decide +kernel
set_option maxRecDepth 1000000 in
theorem run_c13 : law_all law_b (ev_run ev_ms (ev_exec ev_ms 12) (law_P 7) law_b [] 5000 law_c13) = true := by decide +kernel
set_option maxRecDepth 1000000 in
theorem run_c15 : law_all law_b (ev_run ev_ms (ev_exec ev_ms 12) (law_P 7) law_b [] 5000 law_c15) = true := by decide +kernel
set_option maxRecDepth 1000000 in
theorem run_c16 : law_all law_b (ev_run ev_ms (ev_exec ev_ms 12) (law_P 7) law_b [] 5000 law_c16) = true := by decide +kernel
set_option maxRecDepth 1000000 in
theorem run_c19 : law_all law_b (ev_run ev_ms (ev_exec ev_ms 12) (law_P 7) law_b [] 5000 law_c19) = true := by decide +kernel
set_option maxRecDepth 1000000 in
theorem run_c21 : law_all law_b (ev_run ev_ms (ev_exec ev_ms 12) (law_P 7) law_b [] 5000 law_c21) = true := by decide +kernel
set_option maxRecDepth 1000000 in
theorem run_c23 : law_all law_b (ev_run ev_ms (ev_exec ev_ms 12) (law_P 7) law_b [] 5000 law_c23) = true := by decide +kernel
set_option maxRecDepth 1000000 in
theorem run_c24 : law_all law_b (ev_run ev_ms (ev_exec ev_ms 12) (law_P 7) law_b [] 5000 law_c24) = true := by decide +kernel
set_option maxRecDepth 1000000 in
theorem run_c26 : law_all law_b (ev_run ev_ms (ev_exec ev_ms 12) (law_P 7) law_b [] 5000 law_c26) = true := by decide +kernel
set_option maxRecDepth 1000000 in
theorem run_c27 : law_all law_b (ev_run ev_ms (ev_exec ev_ms 12) (law_P 7) law_b [] 5000 law_c27) = true := by decide +kernel
set_option maxRecDepth 1000000 in
theorem run_c28 : law_all law_b (ev_run ev_ms (ev_exec ev_ms 12) (law_P 7) law_b [] 5000 law_c28) = true := by decide +kernel
set_option maxRecDepth 1000000 in
theorem run_c30 : law_all law_b (ev_run ev_ms (ev_exec ev_ms 12) (law_P 7) law_b [] 5000 law_c30) = true := by decide +kernel
set_option maxRecDepth 1000000 in
theorem run_c33 : law_all law_b (ev_run ev_ms (ev_exec ev_ms 12) (law_P 7) law_b [] 5000 law_c33) = true := by decide +kernel
set_option maxRecDepth 1000000 in
theorem run_c34 : law_all law_b (ev_run ev_ms (ev_exec ev_ms 12) (law_P 7) law_b [] 5000 law_c34) = true := by decide +kernel
set_option maxRecDepth 1000000 in
theorem run_c36 : law_all law_b (ev_run ev_ms (ev_exec ev_ms 12) (law_P 7) law_b [] 5000 law_c36) = true := by decide +kernel
set_option maxRecDepth 1000000 in
theorem run_c44 : law_all law_b (ev_run ev_ms (ev_exec ev_ms 12) (law_P 7) law_b [] 5000 law_c44) = true := by decide +kernel
set_option maxRecDepth 1000000 in
theorem run_c45 : law_all law_b (ev_run ev_ms (ev_exec ev_ms 12) (law_P 7) law_b [] 5000 law_c45) = true := by decide +kernel
set_option maxRecDepth 1000000 in
theorem run_c46 : law_all law_b (ev_run ev_ms (ev_exec ev_ms 12) (law_P 7) law_b [] 5000 law_c46) = true := by decide +kernel
set_option maxRecDepth 1000000 in
theorem run_c47 : law_all law_b (ev_run ev_ms (ev_exec ev_ms 12) (law_P 7) law_b [] 5000 law_c47) = true := by decide +kernel
set_option maxRecDepth 1000000 in
theorem run_c49 : law_all law_b (ev_run ev_ms (ev_exec ev_ms 12) (law_P 7) law_b [] 5000 law_c49) = true := by decide +kernel
set_option maxRecDepth 1000000 in
theorem run_c54 : law_all law_b (ev_run ev_ms (ev_exec ev_ms 12) (law_P 7) law_b [] 5000 law_c54) = true := by decide +kernel
end
section
/-! the runs of the calls -/
set_option maxRecDepth 1000000 in
theorem run_c3 : law_all law_b (ev_run ev_ms (ev_exec ev_ms 12) (law_P 7) law_b [] 5000 law_c3) = true := by decide +kernel
set_option maxRecDepth 1000000 in
theorem run_c5 : law_all law_b (ev_run ev_ms (ev_exec ev_ms 12) (law_P 7) law_b [] 5000 law_c5) = true := by decide +kernel
set_option maxRecDepth 1000000 in
theorem run_c6 : law_all law_b (ev_run ev_ms (ev_exec ev_ms 12) (law_P 7) law_b [] 5000 law_c6) = true := by decide +kernel
set_option maxRecDepth 1000000 in
theorem run_c9 : law_all law_b (ev_run ev_ms (ev_exec ev_ms 12) (law_P 7) law_b [] 5000 law_c9) = true := by decide +kernel
set_option maxRecDepth 1000000 in
theorem run_c10 : law_all law_b (ev_run ev_ms (ev_exec ev_ms 12) (law_P 7) law_b [] 5000 law_c10) = true := by decide +kernel
set_option maxRecDepth 1000000 in
theorem run_c12 : law_all law_b (ev_run ev_ms (ev_exec ev_ms 12) (law_P 7) law_b [] 5000 law_c12) = true := by decide +kernel
set_option maxRecDepth 1000000 in
theorem run_c14 : law_all law_b (ev_run ev_ms (ev_exec ev_ms 12) (law_P 7) law_b [] 5000 law_c14) = true := by decide +kernel
set_option maxRecDepth 1000000 in
theorem run_c17 : law_all law_b (ev_run ev_ms (ev_exec ev_ms 12) (law_P 7) law_b [] 5000 law_c17) = true := by decide +kernel
set_option maxRecDepth 1000000 in
theorem run_c18 : law_all law_b (ev_run ev_ms (ev_exec ev_ms 12) (law_P 7) law_b [] 5000 law_c18) = true := by decide +kernel
set_option maxRecDepth 1000000 in
theorem run_c20 : law_all law_b (ev_run ev_ms (ev_exec ev_ms 12) (law_P 7) law_b [] 5000 law_c20) = true := by decide +kernel
set_option maxRecDepth 1000000 in
theorem run_c22 : law_all law_b (ev_run ev_ms (ev_exec ev_ms 12) (law_P 7) law_b [] 5000 law_c22) = true := by decide +kernel
set_option maxRecDepth 1000000 in
theorem run_c25 : law_all law_b (ev_run ev_ms (ev_exec ev_ms 12) (law_P 7) law_b [] 5000 law_c25) = true := by decide +kernel
set_option maxRecDepth 1000000 in
theorem run_c29 : law_all law_b (ev_run ev_ms (ev_exec ev_ms 12) (law_P 7) law_b [] 5000 law_c29) = true := by decide +kernel
set_option maxRecDepth 1000000 in
theorem run_c31 : law_all law_b (ev_run ev_ms (ev_exec ev_ms 12) (law_P 7) law_b [] 5000 law_c31) = true := by decide +kernel
set_option maxRecDepth 1000000 in
theorem run_c32 : law_all law_b (ev_run ev_ms (ev_exec ev_ms 12) (law_P 7) law_b [] 5000 law_c32) = true := by decide +kernel
set_option maxRecDepth 1000000 in
theorem run_c35 : law_all law_b (ev_run ev_ms (ev_exec ev_ms 12) (law_P 7) law_b [] 5000 law_c35) = true := by decide +kernel
set_option maxRecDepth 1000000 in
theorem run_c37 : law_all law_b (ev_run ev_ms (ev_exec ev_ms 12) (law_P 7) law_b [] 5000 law_c37) = true := by decide +kernel
set_option maxRecDepth 1000000 in
theorem run_c38 : law_all law_b (ev_run ev_ms (ev_exec ev_ms 12) (law_P 7) law_b [] 5000 law_c38) = true := by decide +kernel
set_option maxRecDepth 1000000 in
theorem run_c40 : law_all law_b (ev_run ev_ms (ev_exec ev_ms 12) (law_P 7) law_b [] 5000 law_c40) = true := by decide +kernel
set_option maxRecDepth 1000000 in
theorem run_c41 : law_all law_b (ev_run ev_ms (ev_exec ev_ms 12) (law_P 7) law_b [] 5000 law_c41) = true := by decide +kernel
set_option maxRecDepth 1000000 in
theorem run_c42 : law_all law_b (ev_run ev_ms (ev_exec ev_ms 12) (law_P 7) law_b [] 5000 law_c42) = true := by decide +kernel
set_option maxRecDepth 1000000 in
theorem run_c43 : law_all law_b (ev_run ev_ms (ev_exec ev_ms 12) (law_P 7) law_b [] 5000 law_c43) = true := by decide +kernel
set_option maxRecDepth 1000000 in
theorem run_c48 : law_all law_b (ev_run ev_ms (ev_exec ev_ms 12) (law_P 7) law_b [] 5000 law_c48) = true := by decide +kernel
set_option maxRecDepth 1000000 in
theorem run_c50 : law_all law_b (ev_run ev_ms (ev_exec ev_ms 12) (law_P 7) law_b [] 5000 law_c50) = true := by decide +kernel
set_option maxRecDepth 1000000 in
theorem run_c51 : law_all law_b (ev_run ev_ms (ev_exec ev_ms 12) (law_P 7) law_b [] 5000 law_c51) = true := by decide +kernel
set_option maxRecDepth 1000000 in
theorem run_c53 : law_all law_b (ev_run ev_ms (ev_exec ev_ms 12) (law_P 7) law_b [] 5000 law_c53) = true := by decide +kernel
set_option maxRecDepth 1000000 in
theorem run_c55 : law_all law_b (ev_run ev_ms (ev_exec ev_ms 12) (law_P 7) law_b [] 5000 law_c55) = true := by decide +kernel
set_option maxRecDepth 1000000 in
theorem run_c56 : law_all law_b (ev_run ev_ms (ev_exec ev_ms 12) (law_P 7) law_b [] 5000 law_c56) = true := by decide +kernel
end
section
/-! talk, in three steps: its booleans, the class's answer, the reference's -/
def law_t0 : ev_S := (1228, [(4, (0, 0)), (3, (1, 136)), (2, (1, 124)), (1, (1, 0)), (0, (5, 0))], [(0, 0), (0, 0), (0, 0), (3, 1), (1, 0)], st_w, [((-2147483648), 2147483647), ((-2147483648), 2147483647), (0, 0), (0, 0), (0, 0), ((-2147483648), 2147483647), (39, 39)], 137, 3193)
def law_t1 : ev_S := (1228, [(4, (0, 0)), (3, (1, 136)), (2, (1, 124)), (1, (1, 0)), (0, (5, 0))], [(0, 1), (0, 0), (0, 0), (3, 1), (1, 0)], st_w, [((-2147483648), 2147483647), ((-2147483648), 2147483647), (0, 0), (0, 0), ((-2147483648), 2147483647), ((-2147483648), 2147483647), (39, 39)], 137, 3193)
def law_t2 : ev_S := (1228, [(4, (0, 0)), (3, (1, 136)), (2, (1, 124)), (1, (1, 0)), (0, (5, 0))], [(0, 0), (0, 1), (0, 0), (3, 1), (1, 0)], st_w, [((-2147483648), 2147483647), ((-2147483648), 2147483647), (0, 0), ((-2147483648), 2147483647), (0, 0), ((-2147483648), 2147483647), (39, 39)], 137, 3193)
def law_t3 : ev_S := (1228, [(4, (0, 0)), (3, (1, 136)), (2, (1, 124)), (1, (1, 0)), (0, (5, 0))], [(0, 1), (0, 1), (0, 0), (3, 1), (1, 0)], st_w, [((-2147483648), 2147483647), ((-2147483648), 2147483647), (0, 0), ((-2147483648), 2147483647), ((-2147483648), 2147483647), ((-2147483648), 2147483647), (39, 39)], 137, 3193)
def law_t4 : ev_S := (1228, [(4, (0, 0)), (3, (1, 136)), (2, (1, 124)), (1, (1, 0)), (0, (5, 0))], [(0, 0), (0, 0), (0, 1), (3, 1), (1, 0)], st_w, [((-2147483648), 2147483647), ((-2147483648), 2147483647), ((-2147483648), 2147483647), (0, 0), (0, 0), ((-2147483648), 2147483647), (39, 39)], 137, 3193)
def law_t5 : ev_S := (1228, [(4, (0, 0)), (3, (1, 136)), (2, (1, 124)), (1, (1, 0)), (0, (5, 0))], [(0, 1), (0, 0), (0, 1), (3, 1), (1, 0)], st_w, [((-2147483648), 2147483647), ((-2147483648), 2147483647), ((-2147483648), 2147483647), (0, 0), ((-2147483648), 2147483647), ((-2147483648), 2147483647), (39, 39)], 137, 3193)
def law_t6 : ev_S := (1228, [(4, (0, 0)), (3, (1, 136)), (2, (1, 124)), (1, (1, 0)), (0, (5, 0))], [(0, 0), (0, 1), (0, 1), (3, 1), (1, 0)], st_w, [((-2147483648), 2147483647), ((-2147483648), 2147483647), ((-2147483648), 2147483647), ((-2147483648), 2147483647), (0, 0), ((-2147483648), 2147483647), (39, 39)], 137, 3193)
def law_t7 : ev_S := (1228, [(4, (0, 0)), (3, (1, 136)), (2, (1, 124)), (1, (1, 0)), (0, (5, 0))], [(0, 1), (0, 1), (0, 1), (3, 1), (1, 0)], st_w, [((-2147483648), 2147483647), ((-2147483648), 2147483647), ((-2147483648), 2147483647), ((-2147483648), 2147483647), ((-2147483648), 2147483647), ((-2147483648), 2147483647), (39, 39)], 137, 3193)
set_option maxRecDepth 1000000 in
theorem run_t : ev_run ev_ms (ev_exec ev_ms 12) (law_P 7) law_b [1228] 200 law_c39 = some [law_t0, law_t1, law_t2, law_t3, law_t4, law_t5, law_t6, law_t7] := ev_eqO_ok (by decide +kernel)
def law_u0_0 : ev_S := (1231, [(4, (0, 0)), (3, (1, 136)), (2, (1, 124)), (1, (1, 0)), (0, (5, 0))], [(0, (-100))], (st_w.set 0 (8, [(1, 1), (0, 0), (1, 2), (1, 6), (1, 19), (1, 32), (1, 35), (1, 38), (1, 98), (1, 115), (1, 118), (1, 123), (0, 0), (0, 0), (0, 1)])), [((-2147483648), 2147483647), ((-2147483648), (-1)), (0, 0), (0, 0), (0, 0), ((-2147483648), 2147483647), (39, 39)], 137, 3193)
def law_u0_1 : ev_S := (1231, [(4, (0, 0)), (3, (1, 136)), (2, (1, 124)), (1, (1, 0)), (0, (5, 0))], [(0, (-100))], (st_w.set 0 (8, [(1, 1), (0, 0), (1, 2), (1, 6), (1, 19), (1, 32), (1, 35), (1, 38), (1, 98), (1, 115), (1, 118), (1, 123), (0, 0), (0, 0), (0, 1)])), [((-2147483648), 2147483647), (0, 9), (0, 0), (0, 0), (0, 0), ((-2147483648), 2147483647), (39, 39)], 137, 3193)
def law_u0_2 : ev_S := (1231, [(4, (0, 0)), (3, (1, 136)), (2, (1, 124)), (1, (1, 0)), (0, (5, 0))], [(0, (-100))], (st_w.set 0 (8, [(1, 1), (0, 0), (1, 2), (1, 6), (1, 19), (1, 32), (1, 35), (1, 38), (1, 98), (1, 115), (1, 118), (1, 123), (0, 0), (0, 0), (0, 1)])), [((-2147483648), 2147483647), (10, 2147483647), (0, 0), (0, 0), (0, 0), ((-2147483648), 2147483647), (39, 39)], 137, 3193)
set_option maxRecDepth 1000000 in
theorem run_t0 : ev_run ev_ms (ev_exec ev_ms 12) (law_P 7) law_b [1231] 200 law_t0 = some [law_u0_0, law_u0_1, law_u0_2] := ev_eqO_ok (by decide +kernel)
set_option maxRecDepth 1000000 in
theorem run_u0_0 : law_all law_b (ev_run ev_ms (ev_exec ev_ms 12) (law_P 7) law_b [] 500 law_u0_0) = true := by decide +kernel
set_option maxRecDepth 1000000 in
theorem run_u0_1 : law_all law_b (ev_run ev_ms (ev_exec ev_ms 12) (law_P 7) law_b [] 500 law_u0_1) = true := by decide +kernel
set_option maxRecDepth 1000000 in
theorem run_u0_2 : law_all law_b (ev_run ev_ms (ev_exec ev_ms 12) (law_P 7) law_b [] 500 law_u0_2) = true := by decide +kernel
def law_u1_0 : ev_S := (1231, [(4, (0, 0)), (3, (1, 136)), (2, (1, 124)), (1, (1, 0)), (0, (5, 0))], [(0, (-100))], (st_w.set 0 (8, [(1, 1), (0, 0), (1, 2), (1, 6), (1, 19), (1, 32), (1, 35), (1, 38), (1, 98), (1, 115), (1, 118), (1, 123), (0, 0), (0, 0), (0, 1)])), [((-2147483648), 2147483647), ((-2147483648), (-1)), (0, 0), (0, 0), ((-2147483648), 2147483647), ((-2147483648), 2147483647), (39, 39)], 137, 3193)
def law_u1_1 : ev_S := (1231, [(4, (0, 0)), (3, (1, 136)), (2, (1, 124)), (1, (1, 0)), (0, (5, 0))], [(0, (-100))], (st_w.set 0 (8, [(1, 1), (0, 0), (1, 2), (1, 6), (1, 19), (1, 32), (1, 35), (1, 38), (1, 98), (1, 115), (1, 118), (1, 123), (0, 0), (0, 0), (0, 1)])), [((-2147483648), 2147483647), (0, 9), (0, 0), (0, 0), ((-2147483648), 2147483647), ((-2147483648), 2147483647), (39, 39)], 137, 3193)
def law_u1_2 : ev_S := (1231, [(4, (0, 0)), (3, (1, 136)), (2, (1, 124)), (1, (1, 0)), (0, (5, 0))], [(0, (-100))], (st_w.set 0 (8, [(1, 1), (0, 0), (1, 2), (1, 6), (1, 19), (1, 32), (1, 35), (1, 38), (1, 98), (1, 115), (1, 118), (1, 123), (0, 0), (0, 0), (0, 1)])), [((-2147483648), 2147483647), (10, 2147483647), (0, 0), (0, 0), ((-2147483648), 2147483647), ((-2147483648), 2147483647), (39, 39)], 137, 3193)
set_option maxRecDepth 1000000 in
theorem run_t1 : ev_run ev_ms (ev_exec ev_ms 12) (law_P 7) law_b [1231] 200 law_t1 = some [law_u1_0, law_u1_1, law_u1_2] := ev_eqO_ok (by decide +kernel)
set_option maxRecDepth 1000000 in
theorem run_u1_0 : law_all law_b (ev_run ev_ms (ev_exec ev_ms 12) (law_P 7) law_b [] 500 law_u1_0) = true := by decide +kernel
set_option maxRecDepth 1000000 in
theorem run_u1_1 : law_all law_b (ev_run ev_ms (ev_exec ev_ms 12) (law_P 7) law_b [] 500 law_u1_1) = true := by decide +kernel
set_option maxRecDepth 1000000 in
theorem run_u1_2 : law_all law_b (ev_run ev_ms (ev_exec ev_ms 12) (law_P 7) law_b [] 500 law_u1_2) = true := by decide +kernel
def law_u2_0 : ev_S := (1231, [(4, (0, 0)), (3, (1, 136)), (2, (1, 124)), (1, (1, 0)), (0, (5, 0))], [(0, (-100))], (st_w.set 0 (8, [(1, 1), (0, 0), (1, 2), (1, 6), (1, 19), (1, 32), (1, 35), (1, 38), (1, 98), (1, 115), (1, 118), (1, 123), (0, 0), (0, 0), (0, 1)])), [((-2147483648), 2147483647), ((-2147483648), (-1)), (0, 0), ((-2147483648), 2147483647), (0, 0), ((-2147483648), 2147483647), (39, 39)], 137, 3193)
def law_u2_1 : ev_S := (1231, [(4, (0, 0)), (3, (1, 136)), (2, (1, 124)), (1, (1, 0)), (0, (5, 0))], [(0, (-100))], (st_w.set 0 (8, [(1, 1), (0, 0), (1, 2), (1, 6), (1, 19), (1, 32), (1, 35), (1, 38), (1, 98), (1, 115), (1, 118), (1, 123), (0, 0), (0, 0), (0, 1)])), [((-2147483648), 2147483647), (0, 9), (0, 0), ((-2147483648), 2147483647), (0, 0), ((-2147483648), 2147483647), (39, 39)], 137, 3193)
def law_u2_2 : ev_S := (1231, [(4, (0, 0)), (3, (1, 136)), (2, (1, 124)), (1, (1, 0)), (0, (5, 0))], [(0, (-100))], (st_w.set 0 (8, [(1, 1), (0, 0), (1, 2), (1, 6), (1, 19), (1, 32), (1, 35), (1, 38), (1, 98), (1, 115), (1, 118), (1, 123), (0, 0), (0, 0), (0, 1)])), [((-2147483648), 2147483647), (10, 2147483647), (0, 0), ((-2147483648), 2147483647), (0, 0), ((-2147483648), 2147483647), (39, 39)], 137, 3193)
set_option maxRecDepth 1000000 in
theorem run_t2 : ev_run ev_ms (ev_exec ev_ms 12) (law_P 7) law_b [1231] 200 law_t2 = some [law_u2_0, law_u2_1, law_u2_2] := ev_eqO_ok (by decide +kernel)
set_option maxRecDepth 1000000 in
theorem run_u2_0 : law_all law_b (ev_run ev_ms (ev_exec ev_ms 12) (law_P 7) law_b [] 500 law_u2_0) = true := by decide +kernel
set_option maxRecDepth 1000000 in
theorem run_u2_1 : law_all law_b (ev_run ev_ms (ev_exec ev_ms 12) (law_P 7) law_b [] 500 law_u2_1) = true := by decide +kernel
set_option maxRecDepth 1000000 in
theorem run_u2_2 : law_all law_b (ev_run ev_ms (ev_exec ev_ms 12) (law_P 7) law_b [] 500 law_u2_2) = true := by decide +kernel
def law_u3_0 : ev_S := (1231, [(4, (0, 0)), (3, (1, 136)), (2, (1, 124)), (1, (1, 0)), (0, (5, 0))], [(0, (-100))], (st_w.set 0 (8, [(1, 1), (0, 0), (1, 2), (1, 6), (1, 19), (1, 32), (1, 35), (1, 38), (1, 98), (1, 115), (1, 118), (1, 123), (0, 0), (0, 0), (0, 1)])), [((-2147483648), 2147483647), ((-2147483648), (-1)), (0, 0), ((-2147483648), 2147483647), ((-2147483648), 2147483647), ((-2147483648), 2147483647), (39, 39)], 137, 3193)
def law_u3_1 : ev_S := (1231, [(4, (0, 0)), (3, (1, 136)), (2, (1, 124)), (1, (1, 0)), (0, (5, 0))], [(0, (-100))], (st_w.set 0 (8, [(1, 1), (0, 0), (1, 2), (1, 6), (1, 19), (1, 32), (1, 35), (1, 38), (1, 98), (1, 115), (1, 118), (1, 123), (0, 0), (0, 0), (0, 1)])), [((-2147483648), 2147483647), (0, 9), (0, 0), ((-2147483648), 2147483647), ((-2147483648), 2147483647), ((-2147483648), 2147483647), (39, 39)], 137, 3193)
def law_u3_2 : ev_S := (1231, [(4, (0, 0)), (3, (1, 136)), (2, (1, 124)), (1, (1, 0)), (0, (5, 0))], [(0, (-100))], (st_w.set 0 (8, [(1, 1), (0, 0), (1, 2), (1, 6), (1, 19), (1, 32), (1, 35), (1, 38), (1, 98), (1, 115), (1, 118), (1, 123), (0, 0), (0, 0), (0, 1)])), [((-2147483648), 2147483647), (10, 2147483647), (0, 0), ((-2147483648), 2147483647), ((-2147483648), 2147483647), ((-2147483648), 2147483647), (39, 39)], 137, 3193)
set_option maxRecDepth 1000000 in
theorem run_t3 : ev_run ev_ms (ev_exec ev_ms 12) (law_P 7) law_b [1231] 200 law_t3 = some [law_u3_0, law_u3_1, law_u3_2] := ev_eqO_ok (by decide +kernel)
set_option maxRecDepth 1000000 in
theorem run_u3_0 : law_all law_b (ev_run ev_ms (ev_exec ev_ms 12) (law_P 7) law_b [] 500 law_u3_0) = true := by decide +kernel
set_option maxRecDepth 1000000 in
theorem run_u3_1 : law_all law_b (ev_run ev_ms (ev_exec ev_ms 12) (law_P 7) law_b [] 500 law_u3_1) = true := by decide +kernel
set_option maxRecDepth 1000000 in
theorem run_u3_2 : law_all law_b (ev_run ev_ms (ev_exec ev_ms 12) (law_P 7) law_b [] 500 law_u3_2) = true := by decide +kernel
def law_u4_0 : ev_S := (1231, [(4, (0, 0)), (3, (1, 136)), (2, (1, 124)), (1, (1, 0)), (0, (5, 0))], [(0, (-100))], (st_w.set 0 (8, [(1, 1), (0, 0), (1, 2), (1, 6), (1, 19), (1, 32), (1, 35), (1, 38), (1, 98), (1, 115), (1, 118), (1, 123), (0, 0), (0, 0), (0, 1)])), [((-2147483648), 2147483647), ((-2147483648), (-1)), ((-2147483648), 2147483647), (0, 0), (0, 0), ((-2147483648), 2147483647), (39, 39)], 137, 3193)
def law_u4_1 : ev_S := (1231, [(4, (0, 0)), (3, (1, 136)), (2, (1, 124)), (1, (1, 0)), (0, (5, 0))], [(0, (-100))], (st_w.set 0 (8, [(1, 1), (0, 0), (1, 2), (1, 6), (1, 19), (1, 32), (1, 35), (1, 38), (1, 98), (1, 115), (1, 118), (1, 123), (0, 0), (0, 0), (0, 1)])), [((-2147483648), 2147483647), (0, 9), ((-2147483648), 2147483647), (0, 0), (0, 0), ((-2147483648), 2147483647), (39, 39)], 137, 3193)
def law_u4_2 : ev_S := (1231, [(4, (0, 0)), (3, (1, 136)), (2, (1, 124)), (1, (1, 0)), (0, (5, 0))], [(0, (-100))], (st_w.set 0 (8, [(1, 1), (0, 0), (1, 2), (1, 6), (1, 19), (1, 32), (1, 35), (1, 38), (1, 98), (1, 115), (1, 118), (1, 123), (0, 0), (0, 0), (0, 1)])), [((-2147483648), 2147483647), (10, 2147483647), ((-2147483648), 2147483647), (0, 0), (0, 0), ((-2147483648), 2147483647), (39, 39)], 137, 3193)
set_option maxRecDepth 1000000 in
theorem run_t4 : ev_run ev_ms (ev_exec ev_ms 12) (law_P 7) law_b [1231] 200 law_t4 = some [law_u4_0, law_u4_1, law_u4_2] := ev_eqO_ok (by decide +kernel)
set_option maxRecDepth 1000000 in
theorem run_u4_0 : law_all law_b (ev_run ev_ms (ev_exec ev_ms 12) (law_P 7) law_b [] 500 law_u4_0) = true := by decide +kernel
set_option maxRecDepth 1000000 in
theorem run_u4_1 : law_all law_b (ev_run ev_ms (ev_exec ev_ms 12) (law_P 7) law_b [] 500 law_u4_1) = true := by decide +kernel
set_option maxRecDepth 1000000 in
theorem run_u4_2 : law_all law_b (ev_run ev_ms (ev_exec ev_ms 12) (law_P 7) law_b [] 500 law_u4_2) = true := by decide +kernel
def law_u5_0 : ev_S := (1231, [(4, (0, 0)), (3, (1, 136)), (2, (1, 124)), (1, (1, 0)), (0, (5, 0))], [(0, (-100))], (st_w.set 0 (8, [(1, 1), (0, 0), (1, 2), (1, 6), (1, 19), (1, 32), (1, 35), (1, 38), (1, 98), (1, 115), (1, 118), (1, 123), (0, 0), (0, 0), (0, 1)])), [((-2147483648), 2147483647), ((-2147483648), (-1)), ((-2147483648), 2147483647), (0, 0), ((-2147483648), 2147483647), ((-2147483648), 2147483647), (39, 39)], 137, 3193)
def law_u5_1 : ev_S := (1231, [(4, (0, 0)), (3, (1, 136)), (2, (1, 124)), (1, (1, 0)), (0, (5, 0))], [(0, (-100))], (st_w.set 0 (8, [(1, 1), (0, 0), (1, 2), (1, 6), (1, 19), (1, 32), (1, 35), (1, 38), (1, 98), (1, 115), (1, 118), (1, 123), (0, 0), (0, 0), (0, 1)])), [((-2147483648), 2147483647), (0, 9), ((-2147483648), 2147483647), (0, 0), ((-2147483648), 2147483647), ((-2147483648), 2147483647), (39, 39)], 137, 3193)
def law_u5_2 : ev_S := (1231, [(4, (0, 0)), (3, (1, 136)), (2, (1, 124)), (1, (1, 0)), (0, (5, 0))], [(0, (-100))], (st_w.set 0 (8, [(1, 1), (0, 0), (1, 2), (1, 6), (1, 19), (1, 32), (1, 35), (1, 38), (1, 98), (1, 115), (1, 118), (1, 123), (0, 0), (0, 0), (0, 1)])), [((-2147483648), 2147483647), (10, 2147483647), ((-2147483648), 2147483647), (0, 0), ((-2147483648), 2147483647), ((-2147483648), 2147483647), (39, 39)], 137, 3193)
set_option maxRecDepth 1000000 in
theorem run_t5 : ev_run ev_ms (ev_exec ev_ms 12) (law_P 7) law_b [1231] 200 law_t5 = some [law_u5_0, law_u5_1, law_u5_2] := ev_eqO_ok (by decide +kernel)
set_option maxRecDepth 1000000 in
theorem run_u5_0 : law_all law_b (ev_run ev_ms (ev_exec ev_ms 12) (law_P 7) law_b [] 500 law_u5_0) = true := by decide +kernel
set_option maxRecDepth 1000000 in
theorem run_u5_1 : law_all law_b (ev_run ev_ms (ev_exec ev_ms 12) (law_P 7) law_b [] 500 law_u5_1) = true := by decide +kernel
set_option maxRecDepth 1000000 in
theorem run_u5_2 : law_all law_b (ev_run ev_ms (ev_exec ev_ms 12) (law_P 7) law_b [] 500 law_u5_2) = true := by decide +kernel
def law_u6_0 : ev_S := (1231, [(4, (0, 0)), (3, (1, 136)), (2, (1, 124)), (1, (1, 0)), (0, (5, 0))], [(0, (-100))], (st_w.set 0 (8, [(1, 1), (0, 0), (1, 2), (1, 6), (1, 19), (1, 32), (1, 35), (1, 38), (1, 98), (1, 115), (1, 118), (1, 123), (0, 0), (0, 0), (0, 1)])), [((-2147483648), 2147483647), ((-2147483648), (-1)), ((-2147483648), 2147483647), ((-2147483648), 2147483647), (0, 0), ((-2147483648), 2147483647), (39, 39)], 137, 3193)
def law_u6_1 : ev_S := (1231, [(4, (0, 0)), (3, (1, 136)), (2, (1, 124)), (1, (1, 0)), (0, (5, 0))], [(0, (-100))], (st_w.set 0 (8, [(1, 1), (0, 0), (1, 2), (1, 6), (1, 19), (1, 32), (1, 35), (1, 38), (1, 98), (1, 115), (1, 118), (1, 123), (0, 0), (0, 0), (0, 1)])), [((-2147483648), 2147483647), (0, 9), ((-2147483648), 2147483647), ((-2147483648), 2147483647), (0, 0), ((-2147483648), 2147483647), (39, 39)], 137, 3193)
def law_u6_2 : ev_S := (1231, [(4, (0, 0)), (3, (1, 136)), (2, (1, 124)), (1, (1, 0)), (0, (5, 0))], [(0, (-100))], (st_w.set 0 (8, [(1, 1), (0, 0), (1, 2), (1, 6), (1, 19), (1, 32), (1, 35), (1, 38), (1, 98), (1, 115), (1, 118), (1, 123), (0, 0), (0, 0), (0, 1)])), [((-2147483648), 2147483647), (10, 2147483647), ((-2147483648), 2147483647), ((-2147483648), 2147483647), (0, 0), ((-2147483648), 2147483647), (39, 39)], 137, 3193)
set_option maxRecDepth 1000000 in
theorem run_t6 : ev_run ev_ms (ev_exec ev_ms 12) (law_P 7) law_b [1231] 200 law_t6 = some [law_u6_0, law_u6_1, law_u6_2] := ev_eqO_ok (by decide +kernel)
set_option maxRecDepth 1000000 in
theorem run_u6_0 : law_all law_b (ev_run ev_ms (ev_exec ev_ms 12) (law_P 7) law_b [] 500 law_u6_0) = true := by decide +kernel
set_option maxRecDepth 1000000 in
theorem run_u6_1 : law_all law_b (ev_run ev_ms (ev_exec ev_ms 12) (law_P 7) law_b [] 500 law_u6_1) = true := by decide +kernel
set_option maxRecDepth 1000000 in
theorem run_u6_2 : law_all law_b (ev_run ev_ms (ev_exec ev_ms 12) (law_P 7) law_b [] 500 law_u6_2) = true := by decide +kernel
def law_u7_0 : ev_S := (1231, [(4, (0, 0)), (3, (1, 136)), (2, (1, 124)), (1, (1, 0)), (0, (5, 0))], [(0, (-100))], (st_w.set 0 (8, [(1, 1), (0, 0), (1, 2), (1, 6), (1, 19), (1, 32), (1, 35), (1, 38), (1, 98), (1, 115), (1, 118), (1, 123), (0, 0), (0, 0), (0, 1)])), [((-2147483648), 2147483647), ((-2147483648), (-1)), ((-2147483648), 2147483647), ((-2147483648), 2147483647), ((-2147483648), 2147483647), ((-2147483648), 2147483647), (39, 39)], 137, 3193)
def law_u7_1 : ev_S := (1231, [(4, (0, 0)), (3, (1, 136)), (2, (1, 124)), (1, (1, 0)), (0, (5, 0))], [(0, (-100))], (st_w.set 0 (8, [(1, 1), (0, 0), (1, 2), (1, 6), (1, 19), (1, 32), (1, 35), (1, 38), (1, 98), (1, 115), (1, 118), (1, 123), (0, 0), (0, 0), (0, 1)])), [((-2147483648), 2147483647), (0, 9), ((-2147483648), 2147483647), ((-2147483648), 2147483647), ((-2147483648), 2147483647), ((-2147483648), 2147483647), (39, 39)], 137, 3193)
def law_u7_2 : ev_S := (1231, [(4, (0, 0)), (3, (1, 136)), (2, (1, 124)), (1, (1, 0)), (0, (5, 0))], [(0, (-100))], (st_w.set 0 (8, [(1, 1), (0, 0), (1, 2), (1, 6), (1, 19), (1, 32), (1, 35), (1, 38), (1, 98), (1, 115), (1, 118), (1, 123), (0, 0), (0, 0), (0, 1)])), [((-2147483648), 2147483647), (10, 2147483647), ((-2147483648), 2147483647), ((-2147483648), 2147483647), ((-2147483648), 2147483647), ((-2147483648), 2147483647), (39, 39)], 137, 3193)
set_option maxRecDepth 1000000 in
theorem run_t7 : ev_run ev_ms (ev_exec ev_ms 12) (law_P 7) law_b [1231] 200 law_t7 = some [law_u7_0, law_u7_1, law_u7_2] := ev_eqO_ok (by decide +kernel)
set_option maxRecDepth 1000000 in
theorem run_u7_0 : law_all law_b (ev_run ev_ms (ev_exec ev_ms 12) (law_P 7) law_b [] 500 law_u7_0) = true := by decide +kernel
set_option maxRecDepth 1000000 in
theorem run_u7_1 : law_all law_b (ev_run ev_ms (ev_exec ev_ms 12) (law_P 7) law_b [] 500 law_u7_1) = true := by decide +kernel
set_option maxRecDepth 1000000 in
theorem run_u7_2 : law_all law_b (ev_run ev_ms (ev_exec ev_ms 12) (law_P 7) law_b [] 500 law_u7_2) = true := by decide +kernel
end
section
/-! THE LAW -/
set_option maxRecDepth 1000000 in
theorem run_led : ev_run ev_ms (ev_exec ev_ms 12) (law_P 7) law_b [1666] 100 law_c52 = some [led_S] := ev_eqO_ok (by decide +kernel)
set_option maxRecDepth 1000000 in
theorem run_ledN : law_all law_b (ev_run ev_ms (ev_exec ev_ms 12) (law_P 7) law_b [] 1000 led_N) = true := by decide +kernel
section LAW
variable {p : Program} {l : Launch} {e : Env} {s : State} {m : MethodId} {below : List Frame} {meth : Method} {c : Code} {b L : Nat} {xs : Nat → Int32} {D : va_G} {g0 : ev_G}
theorem law_fin {rows : List (Nat × ev_Row)} {P : ev_P} (C0 : lw_At p s m meth c b L xs) (hrows : ∀ q ∈ rows, ev_RowOK ev_ms P code q) {S : ev_S} (h : law_ok rows S = true) : ev_Go p l e room_1 s m #[Value.ref b] below meth c (lw_Z below #[Value.ref b] s) 7 D (law_A s) g0 S := by
  obtain ⟨hx, hb, hr, hml, hown, hts, hX, hbl, hlocks, hgv⟩ := C0
  obtain ⟨pc, L, st, w, K, ce, sl⟩ := S
  intro g ws H locs ls sc hle ⟨hP, hD, hS, hW, hB, hL, hs⟩
  unfold law_ok at h
  simp only [Bool.and_eq_true, decide_eq_true_eq] at h
  obtain ⟨h1, h2, h3, h4⟩ := h
  split at h1
  · rename_i r hr1
    obtain ⟨⟨i, n, cs, hi, hd, -⟩, -⟩ := hrows _ (ev_at_mem hr1)
    have e1 : r.1 = 210 := beq_iff_eq.mp h1
    have hi : some ((.ireturn : Instr), (1 : Nat), ([] : List Cond)) = some (i, n, cs) := by simpa [ev_rowI, e1] using hi
    cases hi
    subst h2
    obtain ⟨v, sc', rfl, hv, hs2⟩ := ev_s_cons hs
    cases ev_s_nil hs2
    have hv : Value.int 1 = v := Option.some.inj hv
    subst hv
    refine va_forget (fun q hq => hS.2.2 q hq) ?_
    refine W.widen (k := 600002) (n := 7302232) h3 h4 ?_
    exact lw_ret hx hb hr hlocks hd
  · cases h1
theorem law_from {P : ev_P} {rows : List (Nat × ev_Row)} {stops : List Nat} {n : Nat} {S : ev_S} (hnl : P.2.2.2.2.1 = 7) (C0 : lw_At p s m meth c b L xs) (X : ev_X p room_1 s m #[Value.ref b] meth c code P.2.2.2.2.1 P.2.2.2.1 P.2.2.1 D (law_A s) P.1 P.2.1 g0 P.2.2.2.2.2) (hrows : ∀ q ∈ rows, ev_RowOK ev_ms P code q)
    (h : law_all rows (ev_run ev_ms (ev_exec ev_ms 12) P rows stops n S) = true) : ev_Go p l e room_1 s m #[Value.ref b] below meth c (lw_Z below #[Value.ref b] s) 7 D (law_A s) g0 S := by
  obtain ⟨fs, h1, h2⟩ := law_all_ok h
  have := ev_run_ok (l := l) (e := e) (below := below) (Q := lw_Z below #[Value.ref b] s) ev_ms_ok (ev_exec_ok ev_ms_ok 12) ⟨by decide, by decide⟩ X hrows n S fs h1 (fun o ho => by rw [hnl]; exact law_fin C0 hrows (h2 o ho))
  rw [hnl] at this
  exact this
theorem law_talk (C0 : lw_At p s m meth c b L xs) (X7 : ev_X p room_1 s m #[Value.ref b] meth c code 7 "BarberMinutesLaw" false D (law_A s) 600002 7302232 g0 7) : ev_Go p l e room_1 s m #[Value.ref b] below meth c (lw_Z below #[Value.ref b] s) 7 D (law_A s) g0 law_c39 := by
  refine ev_run_ok (P := law_P 7) ev_ms_ok (ev_exec_ok ev_ms_ok 12) ⟨by decide, by decide⟩ X7 law_b_ok 200 _ _ run_t (fun o ho => ?_)
  simp only [List.mem_cons, List.not_mem_nil, or_false] at ho
  rcases ho with rfl | rfl | rfl | rfl | rfl | rfl | rfl | rfl
  · refine ev_run_ok (P := law_P 7) ev_ms_ok (ev_exec_ok ev_ms_ok 12) ⟨by decide, by decide⟩ X7 law_b_ok 200 _ _ run_t0 (fun o ho => ?_)
    simp only [List.mem_cons, List.not_mem_nil, or_false] at ho
    rcases ho with rfl | rfl | rfl
    · exact law_from (P := law_P 7) rfl C0 X7 law_b_ok run_u0_0
    · exact law_from (P := law_P 7) rfl C0 X7 law_b_ok run_u0_1
    · exact law_from (P := law_P 7) rfl C0 X7 law_b_ok run_u0_2
  · refine ev_run_ok (P := law_P 7) ev_ms_ok (ev_exec_ok ev_ms_ok 12) ⟨by decide, by decide⟩ X7 law_b_ok 200 _ _ run_t1 (fun o ho => ?_)
    simp only [List.mem_cons, List.not_mem_nil, or_false] at ho
    rcases ho with rfl | rfl | rfl
    · exact law_from (P := law_P 7) rfl C0 X7 law_b_ok run_u1_0
    · exact law_from (P := law_P 7) rfl C0 X7 law_b_ok run_u1_1
    · exact law_from (P := law_P 7) rfl C0 X7 law_b_ok run_u1_2
  · refine ev_run_ok (P := law_P 7) ev_ms_ok (ev_exec_ok ev_ms_ok 12) ⟨by decide, by decide⟩ X7 law_b_ok 200 _ _ run_t2 (fun o ho => ?_)
    simp only [List.mem_cons, List.not_mem_nil, or_false] at ho
    rcases ho with rfl | rfl | rfl
    · exact law_from (P := law_P 7) rfl C0 X7 law_b_ok run_u2_0
    · exact law_from (P := law_P 7) rfl C0 X7 law_b_ok run_u2_1
    · exact law_from (P := law_P 7) rfl C0 X7 law_b_ok run_u2_2
  · refine ev_run_ok (P := law_P 7) ev_ms_ok (ev_exec_ok ev_ms_ok 12) ⟨by decide, by decide⟩ X7 law_b_ok 200 _ _ run_t3 (fun o ho => ?_)
    simp only [List.mem_cons, List.not_mem_nil, or_false] at ho
    rcases ho with rfl | rfl | rfl
    · exact law_from (P := law_P 7) rfl C0 X7 law_b_ok run_u3_0
    · exact law_from (P := law_P 7) rfl C0 X7 law_b_ok run_u3_1
    · exact law_from (P := law_P 7) rfl C0 X7 law_b_ok run_u3_2
  · refine ev_run_ok (P := law_P 7) ev_ms_ok (ev_exec_ok ev_ms_ok 12) ⟨by decide, by decide⟩ X7 law_b_ok 200 _ _ run_t4 (fun o ho => ?_)
    simp only [List.mem_cons, List.not_mem_nil, or_false] at ho
    rcases ho with rfl | rfl | rfl
    · exact law_from (P := law_P 7) rfl C0 X7 law_b_ok run_u4_0
    · exact law_from (P := law_P 7) rfl C0 X7 law_b_ok run_u4_1
    · exact law_from (P := law_P 7) rfl C0 X7 law_b_ok run_u4_2
  · refine ev_run_ok (P := law_P 7) ev_ms_ok (ev_exec_ok ev_ms_ok 12) ⟨by decide, by decide⟩ X7 law_b_ok 200 _ _ run_t5 (fun o ho => ?_)
    simp only [List.mem_cons, List.not_mem_nil, or_false] at ho
    rcases ho with rfl | rfl | rfl
    · exact law_from (P := law_P 7) rfl C0 X7 law_b_ok run_u5_0
    · exact law_from (P := law_P 7) rfl C0 X7 law_b_ok run_u5_1
    · exact law_from (P := law_P 7) rfl C0 X7 law_b_ok run_u5_2
  · refine ev_run_ok (P := law_P 7) ev_ms_ok (ev_exec_ok ev_ms_ok 12) ⟨by decide, by decide⟩ X7 law_b_ok 200 _ _ run_t6 (fun o ho => ?_)
    simp only [List.mem_cons, List.not_mem_nil, or_false] at ho
    rcases ho with rfl | rfl | rfl
    · exact law_from (P := law_P 7) rfl C0 X7 law_b_ok run_u6_0
    · exact law_from (P := law_P 7) rfl C0 X7 law_b_ok run_u6_1
    · exact law_from (P := law_P 7) rfl C0 X7 law_b_ok run_u6_2
  · refine ev_run_ok (P := law_P 7) ev_ms_ok (ev_exec_ok ev_ms_ok 12) ⟨by decide, by decide⟩ X7 law_b_ok 200 _ _ run_t7 (fun o ho => ?_)
    simp only [List.mem_cons, List.not_mem_nil, or_false] at ho
    rcases ho with rfl | rfl | rfl
    · exact law_from (P := law_P 7) rfl C0 X7 law_b_ok run_u7_0
    · exact law_from (P := law_P 7) rfl C0 X7 law_b_ok run_u7_1
    · exact law_from (P := law_P 7) rfl C0 X7 law_b_ok run_u7_2
end LAW
set_option maxRecDepth 1000000 in
theorem st_K_full : ∀ r ∈ st_K, r = ((-2147483648 : Int), (2147483647 : Int)) := by decide +kernel
set_option maxHeartbeats 4000000 in
set_option maxRecDepth 100000 in
theorem whole_start {p : Program} {e : Env} {s : State} {m : MethodId} {below : List Frame} {meth : Method} {c : Code} (l : Launch) (hl0 : l.stackTraces = false) {b L : Nat} {xs : Nat → Int32} (hL : L ≤ 6) (C0 : lw_At p s m meth c b L xs) : W p l e room_1 s m #[Value.ref b] below meth c s.heap [] 0 0 (lw_Z below #[Value.ref b] s) (entryFrame m ([Value.ref b] : List Value).toArray 7) := by
  obtain ⟨D, X, hX0, hXs⟩ := law_facts hL C0
  have hl := lv_entry ([Value.ref b]) (n := 7) (Nat.le_of_ble_eq_true rfl)
  rw [lg_entry_eq]
  refine ev_run_ok (P := law_P 0) (g0 := law_g X xs) ev_ms_ok (ev_exec_ok ev_ms_ok 12) ⟨by decide, by decide⟩ (hXs 0 (Or.inl rfl)) law_a_ok 2000 _ _ run_a (fun o ho => ?_) (law_g X xs) [] s.heap [] _ [] (ev_le_rf _) ⟨(fun k q h => by cases h), ⟨(fun i j p q h => by cases h), (fun k q h => by cases h)⟩, va_S.rf, ⟨rfl, rfl, (fun k c q h => by cases h)⟩, ⟨rfl, (fun k r x h1 h2 => ?_)⟩, ⟨hl.1, hl.2.1, (fun q hq => ?_)⟩, trivial⟩
  · cases List.mem_singleton.mp ho
    by_cases h6 : L = 6
    · subst h6
      have X7 : ev_X p room_1 s m #[Value.ref b] meth c code 7 "BarberMinutesLaw" false D (law_A s) 600002 7302232 (law_g X xs) 7 := hXs 7 (Or.inr rfl)
      refine ev_run_ok (P := law_P 7) ev_ms_ok (ev_exec_ok ev_ms_ok 12) ⟨by decide, by decide⟩ X7 law_b_ok 100 _ _ run_b (fun o ho => ?_)
      simp only [List.mem_cons, List.not_mem_nil, or_false] at ho
      rcases ho with rfl | rfl | rfl | rfl | rfl | rfl | rfl | rfl | rfl | rfl | rfl | rfl | rfl | rfl | rfl | rfl | rfl | rfl | rfl | rfl | rfl | rfl | rfl | rfl | rfl | rfl | rfl | rfl | rfl | rfl | rfl | rfl | rfl | rfl | rfl | rfl | rfl | rfl | rfl | rfl | rfl | rfl | rfl | rfl | rfl | rfl | rfl | rfl | rfl | rfl | rfl | rfl | rfl | rfl | rfl | rfl | rfl
      · exact law_from (P := law_P 7) rfl C0 X7 law_b_ok run_c0
      · exact law_from (P := law_P 7) rfl C0 X7 law_b_ok run_c1
      · exact law_from (P := law_P 7) rfl C0 X7 law_b_ok run_c2
      · exact law_from (P := law_P 7) rfl C0 X7 law_b_ok run_c3
      · exact law_from (P := law_P 7) rfl C0 X7 law_b_ok run_c4
      · exact law_from (P := law_P 7) rfl C0 X7 law_b_ok run_c5
      · exact law_from (P := law_P 7) rfl C0 X7 law_b_ok run_c6
      · exact law_from (P := law_P 7) rfl C0 X7 law_b_ok run_c7
      · exact law_from (P := law_P 7) rfl C0 X7 law_b_ok run_c8
      · exact law_from (P := law_P 7) rfl C0 X7 law_b_ok run_c9
      · exact law_from (P := law_P 7) rfl C0 X7 law_b_ok run_c10
      · exact law_from (P := law_P 7) rfl C0 X7 law_b_ok run_c11
      · exact law_from (P := law_P 7) rfl C0 X7 law_b_ok run_c12
      · exact law_from (P := law_P 7) rfl C0 X7 law_b_ok run_c13
      · exact law_from (P := law_P 7) rfl C0 X7 law_b_ok run_c14
      · exact law_from (P := law_P 7) rfl C0 X7 law_b_ok run_c15
      · exact law_from (P := law_P 7) rfl C0 X7 law_b_ok run_c16
      · exact law_from (P := law_P 7) rfl C0 X7 law_b_ok run_c17
      · exact law_from (P := law_P 7) rfl C0 X7 law_b_ok run_c18
      · exact law_from (P := law_P 7) rfl C0 X7 law_b_ok run_c19
      · exact law_from (P := law_P 7) rfl C0 X7 law_b_ok run_c20
      · exact law_from (P := law_P 7) rfl C0 X7 law_b_ok run_c21
      · exact law_from (P := law_P 7) rfl C0 X7 law_b_ok run_c22
      · exact law_from (P := law_P 7) rfl C0 X7 law_b_ok run_c23
      · exact law_from (P := law_P 7) rfl C0 X7 law_b_ok run_c24
      · exact law_from (P := law_P 7) rfl C0 X7 law_b_ok run_c25
      · exact law_from (P := law_P 7) rfl C0 X7 law_b_ok run_c26
      · exact law_from (P := law_P 7) rfl C0 X7 law_b_ok run_c27
      · exact law_from (P := law_P 7) rfl C0 X7 law_b_ok run_c28
      · exact law_from (P := law_P 7) rfl C0 X7 law_b_ok run_c29
      · exact law_from (P := law_P 7) rfl C0 X7 law_b_ok run_c30
      · exact law_from (P := law_P 7) rfl C0 X7 law_b_ok run_c31
      · exact law_from (P := law_P 7) rfl C0 X7 law_b_ok run_c32
      · exact law_from (P := law_P 7) rfl C0 X7 law_b_ok run_c33
      · exact law_from (P := law_P 7) rfl C0 X7 law_b_ok run_c34
      · exact law_from (P := law_P 7) rfl C0 X7 law_b_ok run_c35
      · exact law_from (P := law_P 7) rfl C0 X7 law_b_ok run_c36
      · exact law_from (P := law_P 7) rfl C0 X7 law_b_ok run_c37
      · exact law_from (P := law_P 7) rfl C0 X7 law_b_ok run_c38
      · exact law_talk C0 X7
      · exact law_from (P := law_P 7) rfl C0 X7 law_b_ok run_c40
      · exact law_from (P := law_P 7) rfl C0 X7 law_b_ok run_c41
      · exact law_from (P := law_P 7) rfl C0 X7 law_b_ok run_c42
      · exact law_from (P := law_P 7) rfl C0 X7 law_b_ok run_c43
      · exact law_from (P := law_P 7) rfl C0 X7 law_b_ok run_c44
      · exact law_from (P := law_P 7) rfl C0 X7 law_b_ok run_c45
      · exact law_from (P := law_P 7) rfl C0 X7 law_b_ok run_c46
      · exact law_from (P := law_P 7) rfl C0 X7 law_b_ok run_c47
      · exact law_from (P := law_P 7) rfl C0 X7 law_b_ok run_c48
      · exact law_from (P := law_P 7) rfl C0 X7 law_b_ok run_c49
      · exact law_from (P := law_P 7) rfl C0 X7 law_b_ok run_c50
      · exact law_from (P := law_P 7) rfl C0 X7 law_b_ok run_c51
      · exact ev_run_ok (P := law_P 7) ev_ms_ok (ev_exec_ok ev_ms_ok 12) ⟨by decide, by decide⟩ X7 law_b_ok 100 _ _ run_led (fun o ho => by cases List.mem_singleton.mp ho; exact led_law hl0 C0 X7 (law_from (P := law_P 7) rfl C0 X7 law_b_ok run_ledN))
      · exact law_from (P := law_P 7) rfl C0 X7 law_b_ok run_c53
      · exact law_from (P := law_P 7) rfl C0 X7 law_b_ok run_c54
      · exact law_from (P := law_P 7) rfl C0 X7 law_b_ok run_c55
      · exact law_from (P := law_P 7) rfl C0 X7 law_b_ok run_c56
    · have h7 : L = 0 ∨ L = 1 ∨ L = 2 ∨ L = 3 ∨ L = 4 ∨ L = 5 := by omega
      rcases h7 with rfl | rfl | rfl | rfl | rfl | rfl
      · exact law_from (P := law_P 1) rfl C0 (hXs 1 (Or.inr rfl)) (law_h_ok 1 (by decide)) run_h0
      · exact law_from (P := law_P 2) rfl C0 (hXs 2 (Or.inr rfl)) (law_h_ok 2 (by decide)) run_h1
      · exact law_from (P := law_P 3) rfl C0 (hXs 3 (Or.inr rfl)) (law_h_ok 3 (by decide)) run_h2
      · exact law_from (P := law_P 4) rfl C0 (hXs 4 (Or.inr rfl)) (law_h_ok 4 (by decide)) run_h3
      · exact law_from (P := law_P 5) rfl C0 (hXs 5 (Or.inr rfl)) (law_h_ok 5 (by decide)) run_h4
      · exact law_from (P := law_P 6) rfl C0 (hXs 6 (Or.inr rfl)) (law_h_ok 6 (by decide)) run_h5
  · have := st_K_full r (List.mem_of_getElem? h1)
    subst this
    exact ⟨ev_lo x, ev_hi x⟩
  · cases List.mem_singleton.mp hq
    refine ⟨.ref b, ?_, hl.2.2 (0, .ref b) List.mem_cons_self⟩
    show some (Value.ref (X 0)) = _
    rw [hX0]
-- ===== YOUR PART ENDS =====
set_option maxHeartbeats 4000000 in
theorem lw_walk (l : Launch) (hl0 : l.stackTraces = false) (b : Addr) (xs : List Int32) : MetFree l x (headSpec (Jvm.Cond.code x code maxLocals ret :: tables_1) room_1) (lw_P b xs) (fun _ _ _ _ _ => True) lw_Q := by
  refine MetFree.of_bodyS (code := code) (maxLocals := maxLocals) (ret := ret) (by decide) ?_ ?_
  · intro args s m h hn
    obtain ⟨meth, c, h1, h2, h3, h4, h5, h6, -, -⟩ := Cond.code_spec hn (atoms_spec (ws := Jvm.Cond.code x code maxLocals ret :: tables_1) h _ List.mem_cons_self)
    exact ⟨meth, c, h1, h2, h3, h4, h5, h6⟩
  · intro p e s m args below meth c s₁ B hml0 hP _
    obtain ⟨rfl, hx, hbd, hgv⟩ := hP
    obtain ⟨scr, harrAt, hlist, hof, hsmall⟩ := hx
    obtain ⟨hcb, hkn, -, -⟩ := State.arrayAt?_spec harrAt
    have hown : s.vm.findClass R_law = some m.cls := findClass_of_methodNamed B.named
    have hts0 : ∀ c ∈ (Jvm.Cond.code x code maxLocals ret :: tables_1), c.before #[Value.ref b] s = true := atoms_spec (ws := Jvm.Cond.code x code maxLocals ret :: tables_1) B.pre
    have hts : ∀ w ∈ lw_tbl, w.before #[Value.ref b] s = true := k2_hts_sels lw_privs (fun w hw => hts0 w (List.mem_cons_of_mem _ hw)) lw_privs_ok
    have hml : c.maxLocals = 7 := B.maxLocals_eq (hts0 _ List.mem_cons_self)
    have X₀ : Stand p l e room_1 s m #[Value.ref b] below meth c s₁ [] 0 0 := Stand.of_body B
    have hh0 : s₁.heap = s.heap := by rw [B.state]; rfl
    have hsz : scr.slots.size = xs.length := by rw [← Array.length_toList, hlist, List.length_map]
    have hval : ∀ j : Nat, j < xs.length → scr.slots[j]? = some (.int (xs.getD j 0)) := fun j hj => by
      rw [← Array.getElem?_toList, hlist]
      simp [hj]
    have hbl : b < s.heap.size := (Array.getElem?_eq_some_iff.mp hcb).1
    have hX : va_X b xs.length (fun j => xs.getD j 0) s s.heap := ⟨scr, hcb, hof, hkn, hsz, hval⟩
    have K : W p l e room_1 s m #[Value.ref b] below meth c s₁.heap [] 0 0 (lw_Z below #[Value.ref b] s) (entryFrame m ([Value.ref b] : List Value).toArray 7) := by
      rw [hh0]
      exact whole_start l hl0 hbd ⟨B.exec, B.bytes, B.returns, hml, hown, hts, hX, hbl, B.notSynchronized, hgv⟩
    obtain ⟨t, a1, o, b1, b2, b3⟩ := K s₁ rfl X₀
    exact ⟨t, o, a1, b1, b2, b3⟩
theorem lw_pre_spec {args : Array Value} {s : State} (h : (Jvm.Cond.and given_1 narrow_1).before args s = true) (hr : rest_1_c.before args s = true) : ∃ (b : Addr) (xs : List Int32), lw_P b xs args s := by
  have hs := flat_of_before _ h
  have hq := flat_of_before _ hr
  have hc : (Cond.count 1).before args s = true := hs _ (by decide +kernel)
  have harr : (Cond.arrayOf (.arg 0) .int).before args s = true := hs _ (by decide +kernel)
  have hle : (Cond.le (.length (.arg 0)) (.int 6)).before args s = true := hs _ (by decide +kernel)
  have hlen : (Cond.isInt (.length (.arg 0))).before args s = true := hq _ (by decide +kernel)
  have hall : (Cond.all (.arg 0) (.isInt (.elem (.arg 0) (.index 0)))).before args s = true := hq _ (by decide +kernel)
  obtain ⟨b, xs, hb, hx⟩ := State.ints_of_pre rfl harr hlen hall
  have hsm : xs.length < 2 ^ 31 := hx.choose_spec.2.2.2
  have hev : (Term.length (.arg 0)).eval args s none [] s = some (.int xs.length.toInt32) := hx.length_eval hb
  have hv := Cond.le_ints hev (show (Term.int 6).eval args s none [] s = some (.int 6) from rfl)
  have hd : xs.length.toInt32 ≤ 6 := by
    simpa [Cond.before, Cond.holds, hv] using hle
  have hN : xs.length ≤ 6 := (Int32.ofNat_le_ofNat hsm (by decide)).mp (show Int32.ofNat xs.length ≤ Int32.ofNat 6 from hd)
  exact ⟨b, xs, Cond.one_arg hc (show args[0]? = some (.ref b) from hb), hx, hN, h⟩
theorem lw_comes (l : Launch) (hl0 : l.stackTraces = false) : Comes l x (Jvm.Cond.code x code maxLocals ret :: tables_1) room_1 (fun tb e args s => Calls_1 tb e args s ∧ rest_1 tb e args s ∧ Pre_1 tb e args s)
    (fun _ _ args s o t => lw_Q args s o t) := by
  intro p e ha hc hk s m args below hf hfit hheap happ hpre
  obtain ⟨b, xs, hP⟩ := lw_pre_spec hpre.2.2 hpre.2.1
  obtain ⟨k, o, h1, h2, h3, hQ⟩ := lw_walk l hl0 b xs p e ha hc hk s m args below hf ((Spec.applies_iff_loose hf).mp happ).1 hP trivial
  exact ⟨k, o, h1, h2, h3, hQ⟩
theorem lw_frame {s t : State} {o : Outcome} {args : Array Value} (h : Framed s o t [] 600002 7302232) :
    Framed s o t (fieldLocs frame_1_writes args s ++ arrayLocs frame_1_arrays args s ++ staticLocs frame_1_statics s) 600002 7302232 := h
theorem lw_limb (L : Cond) (hL : ∀ (args : Array Value) (s t : State), L.after args s (.returned (some (.int 1))) t = true) :
    ArmFor flags0 classFile x code maxLocals ret World_1 tables_1 room_1 Calls_1 rest_1 Pre_1
      (fun tb e a s o t => postC L tb e a s o t ∧ Framed s o t (fieldLocs frame_1_writes a s ++ arrayLocs frame_1_arrays a s ++ staticLocs frame_1_statics s) 600002 7302232) := by
  intro l hfl _ _ p e ha hc hk s m args below hf hfit hheap happ hpre
  have hl0 : l.stackTraces = false := by
    unfold Launch.stackTraces
    rw [hfl]
    decide +kernel
  obtain ⟨k, o, h1, h2, h3, rfl, hF⟩ := lw_comes l hl0 p e ha hc hk s m args below hf hfit hheap happ hpre
  exact ⟨k, _, h1, h2, h3, hL args s _, lw_frame hF⟩
theorem i_vc : Claimed_1_1 ∧ Claimed_1_2 := ⟨lw_limb limb_1_1 (fun args s t => by simp [limb_1_1, Cond.after, Cond.holds, Cond.value]), lw_limb limb_1_2 (fun args s t => Cond.after_iff.mpr (by
  first | (rw [show limb_1_2 = Cond.eq .result (.int 1) from rfl, Cond.eq_ints (x := 1) (y := 1) rfl rfl]; simp; done) | (simp [limb_1_2, Cond.value, Term.eval]; done)))⟩
end
