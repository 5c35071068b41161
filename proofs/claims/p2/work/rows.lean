section
-- ===== PART A: goes FIRST, ahead of the names: the tables' words, and 'selects' of the private methods out of them =====
/-- a private method of a class that the tables say can be made, by its rows of tables_1 -/
def lw_okq (q : MethodName × Nat) : Prop := (q.1.cls ≠ "java/lang/invoke/MethodHandle" ∧ q.1.cls ≠ "java/lang/invoke/VarHandle") ∧ Cond.instantiable q.1.cls q.2 ∈ tables_1 ∧ Cond.privateMethod q.1 ∈ tables_1 ∧ Cond.instanceMethod q.1 ∈ tables_1
theorem lw_p0 : lw_okq (⟨"BarberMinutes", "store", "(I)V"⟩, 15) := ⟨⟨by decide +kernel, by decide +kernel⟩, List.mem_of_getElem? (i := 23) (by decide +kernel), List.mem_of_getElem? (i := 378) (by decide +kernel), List.mem_of_getElem? (i := 379) (by decide +kernel)⟩
theorem lw_p1 : lw_okq (⟨"BarberMinutes", "refused", "(I)I"⟩, 15) := ⟨⟨by decide +kernel, by decide +kernel⟩, List.mem_of_getElem? (i := 23) (by decide +kernel), List.mem_of_getElem? (i := 386) (by decide +kernel), List.mem_of_getElem? (i := 387) (by decide +kernel)⟩
theorem lw_p2 : lw_okq (⟨"BarberMinutes$Reader", "stepOn", "()V"⟩, 14) := ⟨⟨by decide +kernel, by decide +kernel⟩, List.mem_of_getElem? (i := 31) (by decide +kernel), List.mem_of_getElem? (i := 401) (by decide +kernel), List.mem_of_getElem? (i := 402) (by decide +kernel)⟩
theorem lw_p3 : lw_okq (⟨"BarberMinutes$Reader", "readLetters", "()V"⟩, 14) := ⟨⟨by decide +kernel, by decide +kernel⟩, List.mem_of_getElem? (i := 31) (by decide +kernel), List.mem_of_getElem? (i := 408) (by decide +kernel), List.mem_of_getElem? (i := 409) (by decide +kernel)⟩
theorem lw_p4 : lw_okq (⟨"BarberMinutes$Reader", "readDigits", "()V"⟩, 14) := ⟨⟨by decide +kernel, by decide +kernel⟩, List.mem_of_getElem? (i := 31) (by decide +kernel), List.mem_of_getElem? (i := 420) (by decide +kernel), List.mem_of_getElem? (i := 421) (by decide +kernel)⟩
theorem lw_p5 : lw_okq (⟨"BarberMinutes$Reader", "readLine", "()V"⟩, 14) := ⟨⟨by decide +kernel, by decide +kernel⟩, List.mem_of_getElem? (i := 31) (by decide +kernel), List.mem_of_getElem? (i := 424) (by decide +kernel), List.mem_of_getElem? (i := 425) (by decide +kernel)⟩
theorem lw_p6 : lw_okq (⟨"BarberMinutes$Reader", "lineHere", "()I"⟩, 14) := ⟨⟨by decide +kernel, by decide +kernel⟩, List.mem_of_getElem? (i := 31) (by decide +kernel), List.mem_of_getElem? (i := 428) (by decide +kernel), List.mem_of_getElem? (i := 429) (by decide +kernel)⟩
theorem lw_p7 : lw_okq (⟨"BarberMinutes$Reader", "isWord", "(Ljava/lang/String;)Z"⟩, 14) := ⟨⟨by decide +kernel, by decide +kernel⟩, List.mem_of_getElem? (i := 31) (by decide +kernel), List.mem_of_getElem? (i := 443) (by decide +kernel), List.mem_of_getElem? (i := 444) (by decide +kernel)⟩
theorem lw_p8 : lw_okq (⟨"BarberMinutes$Reader", "fail", "(I)V"⟩, 14) := ⟨⟨by decide +kernel, by decide +kernel⟩, List.mem_of_getElem? (i := 31) (by decide +kernel), List.mem_of_getElem? (i := 495) (by decide +kernel), List.mem_of_getElem? (i := 496) (by decide +kernel)⟩
theorem lw_p9 : lw_okq (⟨"BarberMinutes$Reader", "told", "(I)I"⟩, 14) := ⟨⟨by decide +kernel, by decide +kernel⟩, List.mem_of_getElem? (i := 31) (by decide +kernel), List.mem_of_getElem? (i := 499) (by decide +kernel), List.mem_of_getElem? (i := 500) (by decide +kernel)⟩
theorem lw_p10 : lw_okq (⟨"BarberMinutes$Reader", "readTown", "()V"⟩, 14) := ⟨⟨by decide +kernel, by decide +kernel⟩, List.mem_of_getElem? (i := 31) (by decide +kernel), List.mem_of_getElem? (i := 520) (by decide +kernel), List.mem_of_getElem? (i := 521) (by decide +kernel)⟩
theorem lw_p11 : lw_okq (⟨"BarberMinutes$Reader", "takeWord", "(Ljava/lang/String;)V"⟩, 14) := ⟨⟨by decide +kernel, by decide +kernel⟩, List.mem_of_getElem? (i := 31) (by decide +kernel), List.mem_of_getElem? (i := 525) (by decide +kernel), List.mem_of_getElem? (i := 526) (by decide +kernel)⟩
theorem lw_p12 : lw_okq (⟨"BarberMinutes$Reader", "takeWhole", "(II)I"⟩, 14) := ⟨⟨by decide +kernel, by decide +kernel⟩, List.mem_of_getElem? (i := 31) (by decide +kernel), List.mem_of_getElem? (i := 529) (by decide +kernel), List.mem_of_getElem? (i := 530) (by decide +kernel)⟩
theorem lw_p13 : lw_okq (⟨"BarberMinutes$Reader", "readMan", "()V"⟩, 14) := ⟨⟨by decide +kernel, by decide +kernel⟩, List.mem_of_getElem? (i := 31) (by decide +kernel), List.mem_of_getElem? (i := 535) (by decide +kernel), List.mem_of_getElem? (i := 536) (by decide +kernel)⟩
theorem lw_p14 : lw_okq (⟨"BarberMinutes$Reader", "takeNewName", "(II)V"⟩, 14) := ⟨⟨by decide +kernel, by decide +kernel⟩, List.mem_of_getElem? (i := 31) (by decide +kernel), List.mem_of_getElem? (i := 539) (by decide +kernel), List.mem_of_getElem? (i := 540) (by decide +kernel)⟩
theorem lw_p15 : lw_okq (⟨"BarberMinutes$Reader", "nameHere", "()I"⟩, 14) := ⟨⟨by decide +kernel, by decide +kernel⟩, List.mem_of_getElem? (i := 31) (by decide +kernel), List.mem_of_getElem? (i := 543) (by decide +kernel), List.mem_of_getElem? (i := 544) (by decide +kernel)⟩
def lw_privs_1 : List (MethodName × Nat) := [(⟨"BarberMinutes", "store", "(I)V"⟩, 15), (⟨"BarberMinutes", "refused", "(I)I"⟩, 15), (⟨"BarberMinutes$Reader", "stepOn", "()V"⟩, 14), (⟨"BarberMinutes$Reader", "readLetters", "()V"⟩, 14), (⟨"BarberMinutes$Reader", "readDigits", "()V"⟩, 14), (⟨"BarberMinutes$Reader", "readLine", "()V"⟩, 14), (⟨"BarberMinutes$Reader", "lineHere", "()I"⟩, 14), (⟨"BarberMinutes$Reader", "isWord", "(Ljava/lang/String;)Z"⟩, 14), (⟨"BarberMinutes$Reader", "fail", "(I)V"⟩, 14), (⟨"BarberMinutes$Reader", "told", "(I)I"⟩, 14), (⟨"BarberMinutes$Reader", "readTown", "()V"⟩, 14), (⟨"BarberMinutes$Reader", "takeWord", "(Ljava/lang/String;)V"⟩, 14), (⟨"BarberMinutes$Reader", "takeWhole", "(II)I"⟩, 14), (⟨"BarberMinutes$Reader", "readMan", "()V"⟩, 14), (⟨"BarberMinutes$Reader", "takeNewName", "(II)V"⟩, 14), (⟨"BarberMinutes$Reader", "nameHere", "()I"⟩, 14)]
theorem lw_r1 : ∀ q ∈ lw_privs_1, lw_okq q := List.forall_mem_cons.mpr ⟨lw_p0, List.forall_mem_cons.mpr ⟨lw_p1, List.forall_mem_cons.mpr ⟨lw_p2, List.forall_mem_cons.mpr ⟨lw_p3, List.forall_mem_cons.mpr ⟨lw_p4, List.forall_mem_cons.mpr ⟨lw_p5, List.forall_mem_cons.mpr ⟨lw_p6, List.forall_mem_cons.mpr ⟨lw_p7, List.forall_mem_cons.mpr ⟨lw_p8, List.forall_mem_cons.mpr ⟨lw_p9, List.forall_mem_cons.mpr ⟨lw_p10, List.forall_mem_cons.mpr ⟨lw_p11, List.forall_mem_cons.mpr ⟨lw_p12, List.forall_mem_cons.mpr ⟨lw_p13, List.forall_mem_cons.mpr ⟨lw_p14, List.forall_mem_cons.mpr ⟨lw_p15, fun _ h => absurd h List.not_mem_nil⟩⟩⟩⟩⟩⟩⟩⟩⟩⟩⟩⟩⟩⟩⟩⟩
theorem lw_p16 : lw_okq (⟨"BarberMinutes$Reader", "colourHere", "()I"⟩, 14) := ⟨⟨by decide +kernel, by decide +kernel⟩, List.mem_of_getElem? (i := 31) (by decide +kernel), List.mem_of_getElem? (i := 547) (by decide +kernel), List.mem_of_getElem? (i := 548) (by decide +kernel)⟩
theorem lw_p17 : lw_okq (⟨"BarberMinutes$Reader", "readMotion", "()V"⟩, 14) := ⟨⟨by decide +kernel, by decide +kernel⟩, List.mem_of_getElem? (i := 31) (by decide +kernel), List.mem_of_getElem? (i := 560) (by decide +kernel), List.mem_of_getElem? (i := 561) (by decide +kernel)⟩
theorem lw_p18 : lw_okq (⟨"BarberMinutes$Reader", "readAgainst", "()V"⟩, 14) := ⟨⟨by decide +kernel, by decide +kernel⟩, List.mem_of_getElem? (i := 31) (by decide +kernel), List.mem_of_getElem? (i := 571) (by decide +kernel), List.mem_of_getElem? (i := 572) (by decide +kernel)⟩
theorem lw_p19 : lw_okq (⟨"BarberMinutes$Reader", "toldHere", "(I)I"⟩, 14) := ⟨⟨by decide +kernel, by decide +kernel⟩, List.mem_of_getElem? (i := 31) (by decide +kernel), List.mem_of_getElem? (i := 575) (by decide +kernel), List.mem_of_getElem? (i := 576) (by decide +kernel)⟩
theorem lw_p20 : lw_okq (⟨"BarberMinutes$Reader", "readAmends", "()V"⟩, 14) := ⟨⟨by decide +kernel, by decide +kernel⟩, List.mem_of_getElem? (i := 31) (by decide +kernel), List.mem_of_getElem? (i := 579) (by decide +kernel), List.mem_of_getElem? (i := 580) (by decide +kernel)⟩
theorem lw_p21 : lw_okq (⟨"BarberMinutes$Reader", "readQuarrel", "()V"⟩, 14) := ⟨⟨by decide +kernel, by decide +kernel⟩, List.mem_of_getElem? (i := 31) (by decide +kernel), List.mem_of_getElem? (i := 583) (by decide +kernel), List.mem_of_getElem? (i := 584) (by decide +kernel)⟩
theorem lw_p22 : lw_okq (⟨"BarberMinutes$Reader", "readChair", "()V"⟩, 14) := ⟨⟨by decide +kernel, by decide +kernel⟩, List.mem_of_getElem? (i := 31) (by decide +kernel), List.mem_of_getElem? (i := 587) (by decide +kernel), List.mem_of_getElem? (i := 588) (by decide +kernel)⟩
theorem lw_p23 : lw_okq (⟨"BarberMinutes$Reader", "readHeap", "()V"⟩, 14) := ⟨⟨by decide +kernel, by decide +kernel⟩, List.mem_of_getElem? (i := 31) (by decide +kernel), List.mem_of_getElem? (i := 596) (by decide +kernel), List.mem_of_getElem? (i := 597) (by decide +kernel)⟩
theorem lw_p24 : lw_okq (⟨"BarberMinutes", "granted", "(I)I"⟩, 15) := ⟨⟨by decide +kernel, by decide +kernel⟩, List.mem_of_getElem? (i := 23) (by decide +kernel), List.mem_of_getElem? (i := 615) (by decide +kernel), List.mem_of_getElem? (i := 616) (by decide +kernel)⟩
theorem lw_p25 : lw_okq (⟨"BarberMinutes", "lacksMan", "(I)Z"⟩, 15) := ⟨⟨by decide +kernel, by decide +kernel⟩, List.mem_of_getElem? (i := 23) (by decide +kernel), List.mem_of_getElem? (i := 631) (by decide +kernel), List.mem_of_getElem? (i := 632) (by decide +kernel)⟩
theorem lw_p26 : lw_okq (⟨"BarberMinutes$Minutes", "saysYes", "(LBarberMinutes$Town;II)Z"⟩, 4) := ⟨⟨by decide +kernel, by decide +kernel⟩, List.mem_of_getElem? (i := 192) (by decide +kernel), List.mem_of_getElem? (i := 643) (by decide +kernel), List.mem_of_getElem? (i := 644) (by decide +kernel)⟩
theorem lw_p27 : lw_okq (⟨"BarberMinutes", "lacksMotion", "(I)Z"⟩, 15) := ⟨⟨by decide +kernel, by decide +kernel⟩, List.mem_of_getElem? (i := 23) (by decide +kernel), List.mem_of_getElem? (i := 651) (by decide +kernel), List.mem_of_getElem? (i := 652) (by decide +kernel)⟩
theorem lw_p28 : lw_okq (⟨"BarberMinutes", "noTown", "()Z"⟩, 15) := ⟨⟨by decide +kernel, by decide +kernel⟩, List.mem_of_getElem? (i := 23) (by decide +kernel), List.mem_of_getElem? (i := 681) (by decide +kernel), List.mem_of_getElem? (i := 682) (by decide +kernel)⟩
theorem lw_p29 : lw_okq (⟨"BarberMinutes", "lookAhead", "(I)V"⟩, 15) := ⟨⟨by decide +kernel, by decide +kernel⟩, List.mem_of_getElem? (i := 23) (by decide +kernel), List.mem_of_getElem? (i := 737) (by decide +kernel), List.mem_of_getElem? (i := 738) (by decide +kernel)⟩
theorem lw_p30 : lw_okq (⟨"BarberMinutes", "weeksUntilEnough", "(I)I"⟩, 15) := ⟨⟨by decide +kernel, by decide +kernel⟩, List.mem_of_getElem? (i := 23) (by decide +kernel), List.mem_of_getElem? (i := 758) (by decide +kernel), List.mem_of_getElem? (i := 759) (by decide +kernel)⟩
theorem lw_p31 : lw_okq (⟨"BarberMinutes", "lacksAgenda", "(I)Z"⟩, 15) := ⟨⟨by decide +kernel, by decide +kernel⟩, List.mem_of_getElem? (i := 23) (by decide +kernel), List.mem_of_getElem? (i := 774) (by decide +kernel), List.mem_of_getElem? (i := 775) (by decide +kernel)⟩
def lw_privs_2 : List (MethodName × Nat) := [(⟨"BarberMinutes$Reader", "colourHere", "()I"⟩, 14), (⟨"BarberMinutes$Reader", "readMotion", "()V"⟩, 14), (⟨"BarberMinutes$Reader", "readAgainst", "()V"⟩, 14), (⟨"BarberMinutes$Reader", "toldHere", "(I)I"⟩, 14), (⟨"BarberMinutes$Reader", "readAmends", "()V"⟩, 14), (⟨"BarberMinutes$Reader", "readQuarrel", "()V"⟩, 14), (⟨"BarberMinutes$Reader", "readChair", "()V"⟩, 14), (⟨"BarberMinutes$Reader", "readHeap", "()V"⟩, 14), (⟨"BarberMinutes", "granted", "(I)I"⟩, 15), (⟨"BarberMinutes", "lacksMan", "(I)Z"⟩, 15), (⟨"BarberMinutes$Minutes", "saysYes", "(LBarberMinutes$Town;II)Z"⟩, 4), (⟨"BarberMinutes", "lacksMotion", "(I)Z"⟩, 15), (⟨"BarberMinutes", "noTown", "()Z"⟩, 15), (⟨"BarberMinutes", "lookAhead", "(I)V"⟩, 15), (⟨"BarberMinutes", "weeksUntilEnough", "(I)I"⟩, 15), (⟨"BarberMinutes", "lacksAgenda", "(I)Z"⟩, 15)]
theorem lw_r2 : ∀ q ∈ lw_privs_2, lw_okq q := List.forall_mem_cons.mpr ⟨lw_p16, List.forall_mem_cons.mpr ⟨lw_p17, List.forall_mem_cons.mpr ⟨lw_p18, List.forall_mem_cons.mpr ⟨lw_p19, List.forall_mem_cons.mpr ⟨lw_p20, List.forall_mem_cons.mpr ⟨lw_p21, List.forall_mem_cons.mpr ⟨lw_p22, List.forall_mem_cons.mpr ⟨lw_p23, List.forall_mem_cons.mpr ⟨lw_p24, List.forall_mem_cons.mpr ⟨lw_p25, List.forall_mem_cons.mpr ⟨lw_p26, List.forall_mem_cons.mpr ⟨lw_p27, List.forall_mem_cons.mpr ⟨lw_p28, List.forall_mem_cons.mpr ⟨lw_p29, List.forall_mem_cons.mpr ⟨lw_p30, List.forall_mem_cons.mpr ⟨lw_p31, fun _ h => absurd h List.not_mem_nil⟩⟩⟩⟩⟩⟩⟩⟩⟩⟩⟩⟩⟩⟩⟩⟩
theorem lw_p32 : lw_okq (⟨"BarberMinutes", "refusedOf", "(Z)Z"⟩, 15) := ⟨⟨by decide +kernel, by decide +kernel⟩, List.mem_of_getElem? (i := 23) (by decide +kernel), List.mem_of_getElem? (i := 778) (by decide +kernel), List.mem_of_getElem? (i := 779) (by decide +kernel)⟩
theorem lw_p33 : lw_okq (⟨"BarberMinutes$Agenda", "takeStep", "(LBarberMinutes$Town;II)I"⟩, 5) := ⟨⟨by decide +kernel, by decide +kernel⟩, List.mem_of_getElem? (i := 244) (by decide +kernel), List.mem_of_getElem? (i := 792) (by decide +kernel), List.mem_of_getElem? (i := 793) (by decide +kernel)⟩
theorem lw_p34 : lw_okq (⟨"BarberMinutes$Agenda", "explore", "(LBarberMinutes$Town;III)V"⟩, 5) := ⟨⟨by decide +kernel, by decide +kernel⟩, List.mem_of_getElem? (i := 244) (by decide +kernel), List.mem_of_getElem? (i := 815) (by decide +kernel), List.mem_of_getElem? (i := 816) (by decide +kernel)⟩
theorem lw_p35 : lw_okq (⟨"BarberMinutes$Agenda", "canCarry", "(LBarberMinutes$Town;II)Z"⟩, 5) := ⟨⟨by decide +kernel, by decide +kernel⟩, List.mem_of_getElem? (i := 244) (by decide +kernel), List.mem_of_getElem? (i := 835) (by decide +kernel), List.mem_of_getElem? (i := 836) (by decide +kernel)⟩
theorem lw_p36 : lw_okq (⟨"BarberMinutes", "lacksNeeds", "(I)Z"⟩, 15) := ⟨⟨by decide +kernel, by decide +kernel⟩, List.mem_of_getElem? (i := 23) (by decide +kernel), List.mem_of_getElem? (i := 844) (by decide +kernel), List.mem_of_getElem? (i := 845) (by decide +kernel)⟩
theorem lw_p37 : lw_okq (⟨"BarberMinutes$Town", "isQuietWithout", "(I)Z"⟩, 19) := ⟨⟨by decide +kernel, by decide +kernel⟩, List.mem_of_getElem? (i := 83) (by decide +kernel), List.mem_of_getElem? (i := 892) (by decide +kernel), List.mem_of_getElem? (i := 893) (by decide +kernel)⟩
theorem lw_p38 : lw_okq (⟨"BarberMinutes", "lacksChair", "(I)Z"⟩, 15) := ⟨⟨by decide +kernel, by decide +kernel⟩, List.mem_of_getElem? (i := 23) (by decide +kernel), List.mem_of_getElem? (i := 900) (by decide +kernel), List.mem_of_getElem? (i := 901) (by decide +kernel)⟩
theorem lw_p39 : lw_okq (⟨"BarberMinutes$Tour", "walk", "(LBarberMinutes$Town;III)V"⟩, 3) := ⟨⟨by decide +kernel, by decide +kernel⟩, List.mem_of_getElem? (i := 271) (by decide +kernel), List.mem_of_getElem? (i := 920) (by decide +kernel), List.mem_of_getElem? (i := 921) (by decide +kernel)⟩
theorem lw_p40 : lw_okq (⟨"BarberMinutes$Tour", "weigh", "(LBarberMinutes$Town;II)V"⟩, 3) := ⟨⟨by decide +kernel, by decide +kernel⟩, List.mem_of_getElem? (i := 271) (by decide +kernel), List.mem_of_getElem? (i := 924) (by decide +kernel), List.mem_of_getElem? (i := 925) (by decide +kernel)⟩
theorem lw_p41 : lw_okq (⟨"BarberMinutes", "cannotSweep", "()Z"⟩, 15) := ⟨⟨by decide +kernel, by decide +kernel⟩, List.mem_of_getElem? (i := 23) (by decide +kernel), List.mem_of_getElem? (i := 938) (by decide +kernel), List.mem_of_getElem? (i := 939) (by decide +kernel)⟩
theorem lw_p42 : lw_okq (⟨"BarberMinutes$Sweepings", "explainsHeaps", "(LBarberMinutes$Town;I)Z"⟩, 3) := ⟨⟨by decide +kernel, by decide +kernel⟩, List.mem_of_getElem? (i := 289) (by decide +kernel), List.mem_of_getElem? (i := 946) (by decide +kernel), List.mem_of_getElem? (i := 947) (by decide +kernel)⟩
theorem lw_p43 : lw_okq (⟨"BarberMinutes", "lacksLather", "(I)Z"⟩, 15) := ⟨⟨by decide +kernel, by decide +kernel⟩, List.mem_of_getElem? (i := 23) (by decide +kernel), List.mem_of_getElem? (i := 996) (by decide +kernel), List.mem_of_getElem? (i := 997) (by decide +kernel)⟩
theorem lw_p44 : lw_okq (⟨"BarberMinutes$Chance", "reduce", "(JJ)V"⟩, 3) := ⟨⟨by decide +kernel, by decide +kernel⟩, List.mem_of_getElem? (i := 309) (by decide +kernel), List.mem_of_getElem? (i := 1028) (by decide +kernel), List.mem_of_getElem? (i := 1029) (by decide +kernel)⟩
theorem lw_p45 : lw_okq (⟨"BarberMinutes", "lacksDraws", "(II)Z"⟩, 15) := ⟨⟨by decide +kernel, by decide +kernel⟩, List.mem_of_getElem? (i := 23) (by decide +kernel), List.mem_of_getElem? (i := 1046) (by decide +kernel), List.mem_of_getElem? (i := 1047) (by decide +kernel)⟩
theorem lw_p46 : lw_okq (⟨"java/lang/Throwable", "fillInStackTrace", "(I)Ljava/lang/Throwable;"⟩, 6) := ⟨⟨by decide +kernel, by decide +kernel⟩, List.mem_of_getElem? (i := 1158) (by decide +kernel), List.mem_of_getElem? (i := 1156) (by decide +kernel), List.mem_of_getElem? (i := 1157) (by decide +kernel)⟩
theorem lw_p47 : lw_okq (⟨"BarberMinutesModel", "good", "()V"⟩, 35) := ⟨⟨by decide +kernel, by decide +kernel⟩, List.mem_of_getElem? (i := 1183) (by decide +kernel), List.mem_of_getElem? (i := 1303) (by decide +kernel), List.mem_of_getElem? (i := 1304) (by decide +kernel)⟩
def lw_privs_3 : List (MethodName × Nat) := [(⟨"BarberMinutes", "refusedOf", "(Z)Z"⟩, 15), (⟨"BarberMinutes$Agenda", "takeStep", "(LBarberMinutes$Town;II)I"⟩, 5), (⟨"BarberMinutes$Agenda", "explore", "(LBarberMinutes$Town;III)V"⟩, 5), (⟨"BarberMinutes$Agenda", "canCarry", "(LBarberMinutes$Town;II)Z"⟩, 5), (⟨"BarberMinutes", "lacksNeeds", "(I)Z"⟩, 15), (⟨"BarberMinutes$Town", "isQuietWithout", "(I)Z"⟩, 19), (⟨"BarberMinutes", "lacksChair", "(I)Z"⟩, 15), (⟨"BarberMinutes$Tour", "walk", "(LBarberMinutes$Town;III)V"⟩, 3), (⟨"BarberMinutes$Tour", "weigh", "(LBarberMinutes$Town;II)V"⟩, 3), (⟨"BarberMinutes", "cannotSweep", "()Z"⟩, 15), (⟨"BarberMinutes$Sweepings", "explainsHeaps", "(LBarberMinutes$Town;I)Z"⟩, 3), (⟨"BarberMinutes", "lacksLather", "(I)Z"⟩, 15), (⟨"BarberMinutes$Chance", "reduce", "(JJ)V"⟩, 3), (⟨"BarberMinutes", "lacksDraws", "(II)Z"⟩, 15), (⟨"java/lang/Throwable", "fillInStackTrace", "(I)Ljava/lang/Throwable;"⟩, 6), (⟨"BarberMinutesModel", "good", "()V"⟩, 35)]
theorem lw_r3 : ∀ q ∈ lw_privs_3, lw_okq q := List.forall_mem_cons.mpr ⟨lw_p32, List.forall_mem_cons.mpr ⟨lw_p33, List.forall_mem_cons.mpr ⟨lw_p34, List.forall_mem_cons.mpr ⟨lw_p35, List.forall_mem_cons.mpr ⟨lw_p36, List.forall_mem_cons.mpr ⟨lw_p37, List.forall_mem_cons.mpr ⟨lw_p38, List.forall_mem_cons.mpr ⟨lw_p39, List.forall_mem_cons.mpr ⟨lw_p40, List.forall_mem_cons.mpr ⟨lw_p41, List.forall_mem_cons.mpr ⟨lw_p42, List.forall_mem_cons.mpr ⟨lw_p43, List.forall_mem_cons.mpr ⟨lw_p44, List.forall_mem_cons.mpr ⟨lw_p45, List.forall_mem_cons.mpr ⟨lw_p46, List.forall_mem_cons.mpr ⟨lw_p47, fun _ h => absurd h List.not_mem_nil⟩⟩⟩⟩⟩⟩⟩⟩⟩⟩⟩⟩⟩⟩⟩⟩
theorem lw_p48 : lw_okq (⟨"BarberMinutesModel", "no", "(I)I"⟩, 35) := ⟨⟨by decide +kernel, by decide +kernel⟩, List.mem_of_getElem? (i := 1183) (by decide +kernel), List.mem_of_getElem? (i := 1310) (by decide +kernel), List.mem_of_getElem? (i := 1311) (by decide +kernel)⟩
theorem lw_p49 : lw_okq (⟨"BarberMinutesModel", "next", "()V"⟩, 35) := ⟨⟨by decide +kernel, by decide +kernel⟩, List.mem_of_getElem? (i := 1183) (by decide +kernel), List.mem_of_getElem? (i := 1314) (by decide +kernel), List.mem_of_getElem? (i := 1315) (by decide +kernel)⟩
theorem lw_p50 : lw_okq (⟨"BarberMinutesModel", "see", "(I)I"⟩, 35) := ⟨⟨by decide +kernel, by decide +kernel⟩, List.mem_of_getElem? (i := 1183) (by decide +kernel), List.mem_of_getElem? (i := 1318) (by decide +kernel), List.mem_of_getElem? (i := 1319) (by decide +kernel)⟩
theorem lw_p51 : lw_okq (⟨"BarberMinutesModel", "readLine", "()V"⟩, 35) := ⟨⟨by decide +kernel, by decide +kernel⟩, List.mem_of_getElem? (i := 1183) (by decide +kernel), List.mem_of_getElem? (i := 1328) (by decide +kernel), List.mem_of_getElem? (i := 1329) (by decide +kernel)⟩
theorem lw_p52 : lw_okq (⟨"BarberMinutesModel", "isWord", "(Ljava/lang/String;)Z"⟩, 35) := ⟨⟨by decide +kernel, by decide +kernel⟩, List.mem_of_getElem? (i := 1183) (by decide +kernel), List.mem_of_getElem? (i := 1333) (by decide +kernel), List.mem_of_getElem? (i := 1334) (by decide +kernel)⟩
theorem lw_p53 : lw_okq (⟨"BarberMinutesModel", "townLine", "()V"⟩, 35) := ⟨⟨by decide +kernel, by decide +kernel⟩, List.mem_of_getElem? (i := 1183) (by decide +kernel), List.mem_of_getElem? (i := 1339) (by decide +kernel), List.mem_of_getElem? (i := 1340) (by decide +kernel)⟩
theorem lw_p54 : lw_okq (⟨"BarberMinutesModel", "wrong", "(II)V"⟩, 35) := ⟨⟨by decide +kernel, by decide +kernel⟩, List.mem_of_getElem? (i := 1183) (by decide +kernel), List.mem_of_getElem? (i := 1343) (by decide +kernel), List.mem_of_getElem? (i := 1344) (by decide +kernel)⟩
theorem lw_p55 : lw_okq (⟨"BarberMinutesModel", "after", "(Ljava/lang/String;II)I"⟩, 35) := ⟨⟨by decide +kernel, by decide +kernel⟩, List.mem_of_getElem? (i := 1183) (by decide +kernel), List.mem_of_getElem? (i := 1348) (by decide +kernel), List.mem_of_getElem? (i := 1349) (by decide +kernel)⟩
theorem lw_p56 : lw_okq (⟨"BarberMinutesModel", "must", "(Ljava/lang/String;)V"⟩, 35) := ⟨⟨by decide +kernel, by decide +kernel⟩, List.mem_of_getElem? (i := 1183) (by decide +kernel), List.mem_of_getElem? (i := 1352) (by decide +kernel), List.mem_of_getElem? (i := 1353) (by decide +kernel)⟩
theorem lw_p57 : lw_okq (⟨"BarberMinutesModel", "takesWord", "(Ljava/lang/String;)Z"⟩, 35) := ⟨⟨by decide +kernel, by decide +kernel⟩, List.mem_of_getElem? (i := 1183) (by decide +kernel), List.mem_of_getElem? (i := 1356) (by decide +kernel), List.mem_of_getElem? (i := 1357) (by decide +kernel)⟩
theorem lw_p58 : lw_okq (⟨"BarberMinutesModel", "number", "(II)I"⟩, 35) := ⟨⟨by decide +kernel, by decide +kernel⟩, List.mem_of_getElem? (i := 1183) (by decide +kernel), List.mem_of_getElem? (i := 1360) (by decide +kernel), List.mem_of_getElem? (i := 1361) (by decide +kernel)⟩
theorem lw_p59 : lw_okq (⟨"BarberMinutesModel", "begins", "(Ljava/lang/String;Z)Z"⟩, 35) := ⟨⟨by decide +kernel, by decide +kernel⟩, List.mem_of_getElem? (i := 1183) (by decide +kernel), List.mem_of_getElem? (i := 1367) (by decide +kernel), List.mem_of_getElem? (i := 1368) (by decide +kernel)⟩
theorem lw_p60 : lw_okq (⟨"BarberMinutesModel", "pass", "()V"⟩, 35) := ⟨⟨by decide +kernel, by decide +kernel⟩, List.mem_of_getElem? (i := 1183) (by decide +kernel), List.mem_of_getElem? (i := 1371) (by decide +kernel), List.mem_of_getElem? (i := 1372) (by decide +kernel)⟩
theorem lw_p61 : lw_okq (⟨"BarberMinutesModel", "manLine", "()V"⟩, 35) := ⟨⟨by decide +kernel, by decide +kernel⟩, List.mem_of_getElem? (i := 1183) (by decide +kernel), List.mem_of_getElem? (i := 1375) (by decide +kernel), List.mem_of_getElem? (i := 1376) (by decide +kernel)⟩
theorem lw_p62 : lw_okq (⟨"BarberMinutesModel", "newName", "(I)V"⟩, 35) := ⟨⟨by decide +kernel, by decide +kernel⟩, List.mem_of_getElem? (i := 1183) (by decide +kernel), List.mem_of_getElem? (i := 1379) (by decide +kernel), List.mem_of_getElem? (i := 1380) (by decide +kernel)⟩
theorem lw_p63 : lw_okq (⟨"BarberMinutesModel", "mustName", "()V"⟩, 35) := ⟨⟨by decide +kernel, by decide +kernel⟩, List.mem_of_getElem? (i := 1183) (by decide +kernel), List.mem_of_getElem? (i := 1383) (by decide +kernel), List.mem_of_getElem? (i := 1384) (by decide +kernel)⟩
def lw_privs_4 : List (MethodName × Nat) := [(⟨"BarberMinutesModel", "no", "(I)I"⟩, 35), (⟨"BarberMinutesModel", "next", "()V"⟩, 35), (⟨"BarberMinutesModel", "see", "(I)I"⟩, 35), (⟨"BarberMinutesModel", "readLine", "()V"⟩, 35), (⟨"BarberMinutesModel", "isWord", "(Ljava/lang/String;)Z"⟩, 35), (⟨"BarberMinutesModel", "townLine", "()V"⟩, 35), (⟨"BarberMinutesModel", "wrong", "(II)V"⟩, 35), (⟨"BarberMinutesModel", "after", "(Ljava/lang/String;II)I"⟩, 35), (⟨"BarberMinutesModel", "must", "(Ljava/lang/String;)V"⟩, 35), (⟨"BarberMinutesModel", "takesWord", "(Ljava/lang/String;)Z"⟩, 35), (⟨"BarberMinutesModel", "number", "(II)I"⟩, 35), (⟨"BarberMinutesModel", "begins", "(Ljava/lang/String;Z)Z"⟩, 35), (⟨"BarberMinutesModel", "pass", "()V"⟩, 35), (⟨"BarberMinutesModel", "manLine", "()V"⟩, 35), (⟨"BarberMinutesModel", "newName", "(I)V"⟩, 35), (⟨"BarberMinutesModel", "mustName", "()V"⟩, 35)]
theorem lw_r4 : ∀ q ∈ lw_privs_4, lw_okq q := List.forall_mem_cons.mpr ⟨lw_p48, List.forall_mem_cons.mpr ⟨lw_p49, List.forall_mem_cons.mpr ⟨lw_p50, List.forall_mem_cons.mpr ⟨lw_p51, List.forall_mem_cons.mpr ⟨lw_p52, List.forall_mem_cons.mpr ⟨lw_p53, List.forall_mem_cons.mpr ⟨lw_p54, List.forall_mem_cons.mpr ⟨lw_p55, List.forall_mem_cons.mpr ⟨lw_p56, List.forall_mem_cons.mpr ⟨lw_p57, List.forall_mem_cons.mpr ⟨lw_p58, List.forall_mem_cons.mpr ⟨lw_p59, List.forall_mem_cons.mpr ⟨lw_p60, List.forall_mem_cons.mpr ⟨lw_p61, List.forall_mem_cons.mpr ⟨lw_p62, List.forall_mem_cons.mpr ⟨lw_p63, fun _ h => absurd h List.not_mem_nil⟩⟩⟩⟩⟩⟩⟩⟩⟩⟩⟩⟩⟩⟩⟩⟩
theorem lw_p64 : lw_okq (⟨"BarberMinutesModel", "find", "()I"⟩, 35) := ⟨⟨by decide +kernel, by decide +kernel⟩, List.mem_of_getElem? (i := 1183) (by decide +kernel), List.mem_of_getElem? (i := 1393) (by decide +kernel), List.mem_of_getElem? (i := 1394) (by decide +kernel)⟩
theorem lw_p65 : lw_okq (⟨"BarberMinutesModel", "colourHere", "()I"⟩, 35) := ⟨⟨by decide +kernel, by decide +kernel⟩, List.mem_of_getElem? (i := 1183) (by decide +kernel), List.mem_of_getElem? (i := 1397) (by decide +kernel), List.mem_of_getElem? (i := 1398) (by decide +kernel)⟩
theorem lw_p66 : lw_okq (⟨"BarberMinutesModel", "motionLine", "()V"⟩, 35) := ⟨⟨by decide +kernel, by decide +kernel⟩, List.mem_of_getElem? (i := 1183) (by decide +kernel), List.mem_of_getElem? (i := 1406) (by decide +kernel), List.mem_of_getElem? (i := 1407) (by decide +kernel)⟩
theorem lw_p67 : lw_okq (⟨"BarberMinutesModel", "againstLine", "()V"⟩, 35) := ⟨⟨by decide +kernel, by decide +kernel⟩, List.mem_of_getElem? (i := 1183) (by decide +kernel), List.mem_of_getElem? (i := 1413) (by decide +kernel), List.mem_of_getElem? (i := 1414) (by decide +kernel)⟩
theorem lw_p68 : lw_okq (⟨"BarberMinutesModel", "manHere", "()I"⟩, 35) := ⟨⟨by decide +kernel, by decide +kernel⟩, List.mem_of_getElem? (i := 1183) (by decide +kernel), List.mem_of_getElem? (i := 1417) (by decide +kernel), List.mem_of_getElem? (i := 1418) (by decide +kernel)⟩
theorem lw_p69 : lw_okq (⟨"BarberMinutesModel", "named", "(II)I"⟩, 35) := ⟨⟨by decide +kernel, by decide +kernel⟩, List.mem_of_getElem? (i := 1183) (by decide +kernel), List.mem_of_getElem? (i := 1421) (by decide +kernel), List.mem_of_getElem? (i := 1422) (by decide +kernel)⟩
theorem lw_p70 : lw_okq (⟨"BarberMinutesModel", "motionHere", "()I"⟩, 35) := ⟨⟨by decide +kernel, by decide +kernel⟩, List.mem_of_getElem? (i := 1183) (by decide +kernel), List.mem_of_getElem? (i := 1425) (by decide +kernel), List.mem_of_getElem? (i := 1426) (by decide +kernel)⟩
theorem lw_p71 : lw_okq (⟨"BarberMinutesModel", "amendsLine", "()V"⟩, 35) := ⟨⟨by decide +kernel, by decide +kernel⟩, List.mem_of_getElem? (i := 1183) (by decide +kernel), List.mem_of_getElem? (i := 1432) (by decide +kernel), List.mem_of_getElem? (i := 1433) (by decide +kernel)⟩
theorem lw_p72 : lw_okq (⟨"BarberMinutesModel", "quarrelLine", "()V"⟩, 35) := ⟨⟨by decide +kernel, by decide +kernel⟩, List.mem_of_getElem? (i := 1183) (by decide +kernel), List.mem_of_getElem? (i := 1436) (by decide +kernel), List.mem_of_getElem? (i := 1437) (by decide +kernel)⟩
theorem lw_p73 : lw_okq (⟨"BarberMinutesModel", "chairLine", "()V"⟩, 35) := ⟨⟨by decide +kernel, by decide +kernel⟩, List.mem_of_getElem? (i := 1183) (by decide +kernel), List.mem_of_getElem? (i := 1440) (by decide +kernel), List.mem_of_getElem? (i := 1441) (by decide +kernel)⟩
theorem lw_p74 : lw_okq (⟨"BarberMinutesModel", "heapLine", "()V"⟩, 35) := ⟨⟨by decide +kernel, by decide +kernel⟩, List.mem_of_getElem? (i := 1183) (by decide +kernel), List.mem_of_getElem? (i := 1445) (by decide +kernel), List.mem_of_getElem? (i := 1446) (by decide +kernel)⟩
theorem lw_p75 : lw_okq (⟨"BarberMinutesModel", "asTold", "([I)V"⟩, 35) := ⟨⟨by decide +kernel, by decide +kernel⟩, List.mem_of_getElem? (i := 1183) (by decide +kernel), List.mem_of_getElem? (i := 1452) (by decide +kernel), List.mem_of_getElem? (i := 1453) (by decide +kernel)⟩
theorem lw_p76 : lw_okq (⟨"BarberMinutesModel", "isMan", "(I)Z"⟩, 35) := ⟨⟨by decide +kernel, by decide +kernel⟩, List.mem_of_getElem? (i := 1183) (by decide +kernel), List.mem_of_getElem? (i := 1468) (by decide +kernel), List.mem_of_getElem? (i := 1469) (by decide +kernel)⟩
theorem lw_p77 : lw_okq (⟨"BarberMinutesModel", "isBald", "([II)Z"⟩, 35) := ⟨⟨by decide +kernel, by decide +kernel⟩, List.mem_of_getElem? (i := 1183) (by decide +kernel), List.mem_of_getElem? (i := 1472) (by decide +kernel), List.mem_of_getElem? (i := 1473) (by decide +kernel)⟩
theorem lw_p78 : lw_okq (⟨"BarberMinutesModel", "saidBy", "(I)I"⟩, 35) := ⟨⟨by decide +kernel, by decide +kernel⟩, List.mem_of_getElem? (i := 1183) (by decide +kernel), List.mem_of_getElem? (i := 1476) (by decide +kernel), List.mem_of_getElem? (i := 1477) (by decide +kernel)⟩
theorem lw_p79 : lw_okq (⟨"BarberMinutesModel", "doesSay", "([III)Z"⟩, 35) := ⟨⟨by decide +kernel, by decide +kernel⟩, List.mem_of_getElem? (i := 1183) (by decide +kernel), List.mem_of_getElem? (i := 1480) (by decide +kernel), List.mem_of_getElem? (i := 1481) (by decide +kernel)⟩
def lw_privs_5 : List (MethodName × Nat) := [(⟨"BarberMinutesModel", "find", "()I"⟩, 35), (⟨"BarberMinutesModel", "colourHere", "()I"⟩, 35), (⟨"BarberMinutesModel", "motionLine", "()V"⟩, 35), (⟨"BarberMinutesModel", "againstLine", "()V"⟩, 35), (⟨"BarberMinutesModel", "manHere", "()I"⟩, 35), (⟨"BarberMinutesModel", "named", "(II)I"⟩, 35), (⟨"BarberMinutesModel", "motionHere", "()I"⟩, 35), (⟨"BarberMinutesModel", "amendsLine", "()V"⟩, 35), (⟨"BarberMinutesModel", "quarrelLine", "()V"⟩, 35), (⟨"BarberMinutesModel", "chairLine", "()V"⟩, 35), (⟨"BarberMinutesModel", "heapLine", "()V"⟩, 35), (⟨"BarberMinutesModel", "asTold", "([I)V"⟩, 35), (⟨"BarberMinutesModel", "isMan", "(I)Z"⟩, 35), (⟨"BarberMinutesModel", "isBald", "([II)Z"⟩, 35), (⟨"BarberMinutesModel", "saidBy", "(I)I"⟩, 35), (⟨"BarberMinutesModel", "doesSay", "([III)Z"⟩, 35)]
theorem lw_r5 : ∀ q ∈ lw_privs_5, lw_okq q := List.forall_mem_cons.mpr ⟨lw_p64, List.forall_mem_cons.mpr ⟨lw_p65, List.forall_mem_cons.mpr ⟨lw_p66, List.forall_mem_cons.mpr ⟨lw_p67, List.forall_mem_cons.mpr ⟨lw_p68, List.forall_mem_cons.mpr ⟨lw_p69, List.forall_mem_cons.mpr ⟨lw_p70, List.forall_mem_cons.mpr ⟨lw_p71, List.forall_mem_cons.mpr ⟨lw_p72, List.forall_mem_cons.mpr ⟨lw_p73, List.forall_mem_cons.mpr ⟨lw_p74, List.forall_mem_cons.mpr ⟨lw_p75, List.forall_mem_cons.mpr ⟨lw_p76, List.forall_mem_cons.mpr ⟨lw_p77, List.forall_mem_cons.mpr ⟨lw_p78, List.forall_mem_cons.mpr ⟨lw_p79, fun _ h => absurd h List.not_mem_nil⟩⟩⟩⟩⟩⟩⟩⟩⟩⟩⟩⟩⟩⟩⟩⟩
theorem lw_p80 : lw_okq (⟨"BarberMinutesModel", "isMotion", "(I)Z"⟩, 35) := ⟨⟨by decide +kernel, by decide +kernel⟩, List.mem_of_getElem? (i := 1183) (by decide +kernel), List.mem_of_getElem? (i := 1488) (by decide +kernel), List.mem_of_getElem? (i := 1489) (by decide +kernel)⟩
theorem lw_p81 : lw_okq (⟨"BarberMinutesModel", "mayBePut", "([II)Z"⟩, 35) := ⟨⟨by decide +kernel, by decide +kernel⟩, List.mem_of_getElem? (i := 1183) (by decide +kernel), List.mem_of_getElem? (i := 1492) (by decide +kernel), List.mem_of_getElem? (i := 1493) (by decide +kernel)⟩
theorem lw_p82 : lw_okq (⟨"BarberMinutesModel", "yesOf", "([II)I"⟩, 35) := ⟨⟨by decide +kernel, by decide +kernel⟩, List.mem_of_getElem? (i := 1183) (by decide +kernel), List.mem_of_getElem? (i := 1496) (by decide +kernel), List.mem_of_getElem? (i := 1497) (by decide +kernel)⟩
theorem lw_p83 : lw_okq (⟨"BarberMinutesModel", "sayersOf", "([II)I"⟩, 35) := ⟨⟨by decide +kernel, by decide +kernel⟩, List.mem_of_getElem? (i := 1183) (by decide +kernel), List.mem_of_getElem? (i := 1500) (by decide +kernel), List.mem_of_getElem? (i := 1501) (by decide +kernel)⟩
theorem lw_p84 : lw_okq (⟨"BarberMinutesModel", "votesOf", "(I)I"⟩, 35) := ⟨⟨by decide +kernel, by decide +kernel⟩, List.mem_of_getElem? (i := 1183) (by decide +kernel), List.mem_of_getElem? (i := 1504) (by decide +kernel), List.mem_of_getElem? (i := 1505) (by decide +kernel)⟩
theorem lw_p85 : lw_okq (⟨"BarberMinutesModel", "baldOf", "([I)I"⟩, 35) := ⟨⟨by decide +kernel, by decide +kernel⟩, List.mem_of_getElem? (i := 1183) (by decide +kernel), List.mem_of_getElem? (i := 1516) (by decide +kernel), List.mem_of_getElem? (i := 1517) (by decide +kernel)⟩
theorem lw_p86 : lw_okq (⟨"BarberMinutesModel", "isEnough", "([II)Z"⟩, 35) := ⟨⟨by decide +kernel, by decide +kernel⟩, List.mem_of_getElem? (i := 1183) (by decide +kernel), List.mem_of_getElem? (i := 1528) (by decide +kernel), List.mem_of_getElem? (i := 1529) (by decide +kernel)⟩
theorem lw_p87 : lw_okq (⟨"BarberMinutesModel", "hairy", "()I"⟩, 35) := ⟨⟨by decide +kernel, by decide +kernel⟩, List.mem_of_getElem? (i := 1183) (by decide +kernel), List.mem_of_getElem? (i := 1536) (by decide +kernel), List.mem_of_getElem? (i := 1537) (by decide +kernel)⟩
theorem lw_p88 : lw_okq (⟨"BarberMinutesModel", "allMen", "()I"⟩, 35) := ⟨⟨by decide +kernel, by decide +kernel⟩, List.mem_of_getElem? (i := 1183) (by decide +kernel), List.mem_of_getElem? (i := 1540) (by decide +kernel), List.mem_of_getElem? (i := 1541) (by decide +kernel)⟩
theorem lw_p89 : lw_okq (⟨"BarberMinutesModel", "depthOf", "(I)I"⟩, 35) := ⟨⟨by decide +kernel, by decide +kernel⟩, List.mem_of_getElem? (i := 1183) (by decide +kernel), List.mem_of_getElem? (i := 1552) (by decide +kernel), List.mem_of_getElem? (i := 1553) (by decide +kernel)⟩
theorem lw_p90 : lw_okq (⟨"BarberMinutesModel", "why", "(ZZ)I"⟩, 35) := ⟨⟨by decide +kernel, by decide +kernel⟩, List.mem_of_getElem? (i := 1183) (by decide +kernel), List.mem_of_getElem? (i := 1560) (by decide +kernel), List.mem_of_getElem? (i := 1561) (by decide +kernel)⟩
theorem lw_p91 : lw_okq (⟨"BarberMinutesModel", "goOver", "(I)V"⟩, 35) := ⟨⟨by decide +kernel, by decide +kernel⟩, List.mem_of_getElem? (i := 1183) (by decide +kernel), List.mem_of_getElem? (i := 1564) (by decide +kernel), List.mem_of_getElem? (i := 1565) (by decide +kernel)⟩
theorem lw_p92 : lw_okq (⟨"BarberMinutesModel", "weekOf", "([I)V"⟩, 35) := ⟨⟨by decide +kernel, by decide +kernel⟩, List.mem_of_getElem? (i := 1183) (by decide +kernel), List.mem_of_getElem? (i := 1568) (by decide +kernel), List.mem_of_getElem? (i := 1569) (by decide +kernel)⟩
theorem lw_p93 : lw_okq (⟨"BarberMinutesModel", "carryOf", "(I)I"⟩, 35) := ⟨⟨by decide +kernel, by decide +kernel⟩, List.mem_of_getElem? (i := 1183) (by decide +kernel), List.mem_of_getElem? (i := 1580) (by decide +kernel), List.mem_of_getElem? (i := 1581) (by decide +kernel)⟩
theorem lw_p94 : lw_okq (⟨"BarberMinutesModel", "isRowOf", "(II)Z"⟩, 35) := ⟨⟨by decide +kernel, by decide +kernel⟩, List.mem_of_getElem? (i := 1183) (by decide +kernel), List.mem_of_getElem? (i := 1596) (by decide +kernel), List.mem_of_getElem? (i := 1597) (by decide +kernel)⟩
theorem lw_p95 : lw_okq (⟨"BarberMinutesModel", "goBy", "(II)I"⟩, 35) := ⟨⟨by decide +kernel, by decide +kernel⟩, List.mem_of_getElem? (i := 1183) (by decide +kernel), List.mem_of_getElem? (i := 1600) (by decide +kernel), List.mem_of_getElem? (i := 1601) (by decide +kernel)⟩
def lw_privs_6 : List (MethodName × Nat) := [(⟨"BarberMinutesModel", "isMotion", "(I)Z"⟩, 35), (⟨"BarberMinutesModel", "mayBePut", "([II)Z"⟩, 35), (⟨"BarberMinutesModel", "yesOf", "([II)I"⟩, 35), (⟨"BarberMinutesModel", "sayersOf", "([II)I"⟩, 35), (⟨"BarberMinutesModel", "votesOf", "(I)I"⟩, 35), (⟨"BarberMinutesModel", "baldOf", "([I)I"⟩, 35), (⟨"BarberMinutesModel", "isEnough", "([II)Z"⟩, 35), (⟨"BarberMinutesModel", "hairy", "()I"⟩, 35), (⟨"BarberMinutesModel", "allMen", "()I"⟩, 35), (⟨"BarberMinutesModel", "depthOf", "(I)I"⟩, 35), (⟨"BarberMinutesModel", "why", "(ZZ)I"⟩, 35), (⟨"BarberMinutesModel", "goOver", "(I)V"⟩, 35), (⟨"BarberMinutesModel", "weekOf", "([I)V"⟩, 35), (⟨"BarberMinutesModel", "carryOf", "(I)I"⟩, 35), (⟨"BarberMinutesModel", "isRowOf", "(II)Z"⟩, 35), (⟨"BarberMinutesModel", "goBy", "(II)I"⟩, 35)]
theorem lw_r6 : ∀ q ∈ lw_privs_6, lw_okq q := List.forall_mem_cons.mpr ⟨lw_p80, List.forall_mem_cons.mpr ⟨lw_p81, List.forall_mem_cons.mpr ⟨lw_p82, List.forall_mem_cons.mpr ⟨lw_p83, List.forall_mem_cons.mpr ⟨lw_p84, List.forall_mem_cons.mpr ⟨lw_p85, List.forall_mem_cons.mpr ⟨lw_p86, List.forall_mem_cons.mpr ⟨lw_p87, List.forall_mem_cons.mpr ⟨lw_p88, List.forall_mem_cons.mpr ⟨lw_p89, List.forall_mem_cons.mpr ⟨lw_p90, List.forall_mem_cons.mpr ⟨lw_p91, List.forall_mem_cons.mpr ⟨lw_p92, List.forall_mem_cons.mpr ⟨lw_p93, List.forall_mem_cons.mpr ⟨lw_p94, List.forall_mem_cons.mpr ⟨lw_p95, fun _ h => absurd h List.not_mem_nil⟩⟩⟩⟩⟩⟩⟩⟩⟩⟩⟩⟩⟩⟩⟩⟩
theorem lw_p96 : lw_okq (⟨"BarberMinutesModel", "putOf", "([II)Z"⟩, 35) := ⟨⟨by decide +kernel, by decide +kernel⟩, List.mem_of_getElem? (i := 1183) (by decide +kernel), List.mem_of_getElem? (i := 1604) (by decide +kernel), List.mem_of_getElem? (i := 1605) (by decide +kernel)⟩
theorem lw_p97 : lw_okq (⟨"BarberMinutesModel", "cutBy", "([II)V"⟩, 35) := ⟨⟨by decide +kernel, by decide +kernel⟩, List.mem_of_getElem? (i := 1183) (by decide +kernel), List.mem_of_getElem? (i := 1608) (by decide +kernel), List.mem_of_getElem? (i := 1609) (by decide +kernel)⟩
theorem lw_p98 : lw_okq (⟨"BarberMinutesModel", "bestOf", "(I)I"⟩, 35) := ⟨⟨by decide +kernel, by decide +kernel⟩, List.mem_of_getElem? (i := 1183) (by decide +kernel), List.mem_of_getElem? (i := 1616) (by decide +kernel), List.mem_of_getElem? (i := 1617) (by decide +kernel)⟩
theorem lw_p99 : lw_okq (⟨"BarberMinutesModel", "turnsOf", "(II)I"⟩, 35) := ⟨⟨by decide +kernel, by decide +kernel⟩, List.mem_of_getElem? (i := 1183) (by decide +kernel), List.mem_of_getElem? (i := 1639) (by decide +kernel), List.mem_of_getElem? (i := 1640) (by decide +kernel)⟩
theorem lw_p100 : lw_okq (⟨"BarberMinutesModel", "partingOf", "()I"⟩, 35) := ⟨⟨by decide +kernel, by decide +kernel⟩, List.mem_of_getElem? (i := 1183) (by decide +kernel), List.mem_of_getElem? (i := 1662) (by decide +kernel), List.mem_of_getElem? (i := 1663) (by decide +kernel)⟩
theorem lw_p101 : lw_okq (⟨"BarberMinutesModel", "quarrelsOf", "(II)I"⟩, 35) := ⟨⟨by decide +kernel, by decide +kernel⟩, List.mem_of_getElem? (i := 1183) (by decide +kernel), List.mem_of_getElem? (i := 1666) (by decide +kernel), List.mem_of_getElem? (i := 1667) (by decide +kernel)⟩
theorem lw_p102 : lw_okq (⟨"BarberMinutesModel", "isChair", "(I)Z"⟩, 35) := ⟨⟨by decide +kernel, by decide +kernel⟩, List.mem_of_getElem? (i := 1183) (by decide +kernel), List.mem_of_getElem? (i := 1682) (by decide +kernel), List.mem_of_getElem? (i := 1683) (by decide +kernel)⟩
theorem lw_p103 : lw_okq (⟨"BarberMinutesModel", "apartOf", "(II)I"⟩, 35) := ⟨⟨by decide +kernel, by decide +kernel⟩, List.mem_of_getElem? (i := 1183) (by decide +kernel), List.mem_of_getElem? (i := 1686) (by decide +kernel), List.mem_of_getElem? (i := 1687) (by decide +kernel)⟩
theorem lw_p104 : lw_okq (⟨"BarberMinutesModel", "seekRound", "()V"⟩, 35) := ⟨⟨by decide +kernel, by decide +kernel⟩, List.mem_of_getElem? (i := 1183) (by decide +kernel), List.mem_of_getElem? (i := 1694) (by decide +kernel), List.mem_of_getElem? (i := 1695) (by decide +kernel)⟩
theorem lw_p105 : lw_okq (⟨"BarberMinutesModel", "tryRound", "(III)V"⟩, 35) := ⟨⟨by decide +kernel, by decide +kernel⟩, List.mem_of_getElem? (i := 1183) (by decide +kernel), List.mem_of_getElem? (i := 1699) (by decide +kernel), List.mem_of_getElem? (i := 1700) (by decide +kernel)⟩
theorem lw_p106 : lw_okq (⟨"BarberMinutesModel", "seekSets", "(I)I"⟩, 35) := ⟨⟨by decide +kernel, by decide +kernel⟩, List.mem_of_getElem? (i := 1183) (by decide +kernel), List.mem_of_getElem? (i := 1711) (by decide +kernel), List.mem_of_getElem? (i := 1712) (by decide +kernel)⟩
theorem lw_p107 : lw_okq (⟨"BarberMinutesModel", "doesFit", "(I)Z"⟩, 35) := ⟨⟨by decide +kernel, by decide +kernel⟩, List.mem_of_getElem? (i := 1183) (by decide +kernel), List.mem_of_getElem? (i := 1715) (by decide +kernel), List.mem_of_getElem? (i := 1716) (by decide +kernel)⟩
theorem lw_p108 : lw_okq (⟨"BarberMinutesModel", "askOf", "()I"⟩, 35) := ⟨⟨by decide +kernel, by decide +kernel⟩, List.mem_of_getElem? (i := 1183) (by decide +kernel), List.mem_of_getElem? (i := 1735) (by decide +kernel), List.mem_of_getElem? (i := 1736) (by decide +kernel)⟩
theorem lw_p109 : lw_okq (⟨"BarberMinutesModel", "leavesOf", "(I)I"⟩, 35) := ⟨⟨by decide +kernel, by decide +kernel⟩, List.mem_of_getElem? (i := 1183) (by decide +kernel), List.mem_of_getElem? (i := 1739) (by decide +kernel), List.mem_of_getElem? (i := 1740) (by decide +kernel)⟩
theorem lw_p110 : lw_okq (⟨"BarberMinutesModel", "seekRests", "(I)I"⟩, 35) := ⟨⟨by decide +kernel, by decide +kernel⟩, List.mem_of_getElem? (i := 1183) (by decide +kernel), List.mem_of_getElem? (i := 1758) (by decide +kernel), List.mem_of_getElem? (i := 1759) (by decide +kernel)⟩
theorem lw_p111 : lw_okq (⟨"BarberMinutesModel", "tryShaves", "(I)V"⟩, 35) := ⟨⟨by decide +kernel, by decide +kernel⟩, List.mem_of_getElem? (i := 1183) (by decide +kernel), List.mem_of_getElem? (i := 1773) (by decide +kernel), List.mem_of_getElem? (i := 1774) (by decide +kernel)⟩
def lw_privs_7 : List (MethodName × Nat) := [(⟨"BarberMinutesModel", "putOf", "([II)Z"⟩, 35), (⟨"BarberMinutesModel", "cutBy", "([II)V"⟩, 35), (⟨"BarberMinutesModel", "bestOf", "(I)I"⟩, 35), (⟨"BarberMinutesModel", "turnsOf", "(II)I"⟩, 35), (⟨"BarberMinutesModel", "partingOf", "()I"⟩, 35), (⟨"BarberMinutesModel", "quarrelsOf", "(II)I"⟩, 35), (⟨"BarberMinutesModel", "isChair", "(I)Z"⟩, 35), (⟨"BarberMinutesModel", "apartOf", "(II)I"⟩, 35), (⟨"BarberMinutesModel", "seekRound", "()V"⟩, 35), (⟨"BarberMinutesModel", "tryRound", "(III)V"⟩, 35), (⟨"BarberMinutesModel", "seekSets", "(I)I"⟩, 35), (⟨"BarberMinutesModel", "doesFit", "(I)Z"⟩, 35), (⟨"BarberMinutesModel", "askOf", "()I"⟩, 35), (⟨"BarberMinutesModel", "leavesOf", "(I)I"⟩, 35), (⟨"BarberMinutesModel", "seekRests", "(I)I"⟩, 35), (⟨"BarberMinutesModel", "tryShaves", "(I)V"⟩, 35)]
theorem lw_r7 : ∀ q ∈ lw_privs_7, lw_okq q := List.forall_mem_cons.mpr ⟨lw_p96, List.forall_mem_cons.mpr ⟨lw_p97, List.forall_mem_cons.mpr ⟨lw_p98, List.forall_mem_cons.mpr ⟨lw_p99, List.forall_mem_cons.mpr ⟨lw_p100, List.forall_mem_cons.mpr ⟨lw_p101, List.forall_mem_cons.mpr ⟨lw_p102, List.forall_mem_cons.mpr ⟨lw_p103, List.forall_mem_cons.mpr ⟨lw_p104, List.forall_mem_cons.mpr ⟨lw_p105, List.forall_mem_cons.mpr ⟨lw_p106, List.forall_mem_cons.mpr ⟨lw_p107, List.forall_mem_cons.mpr ⟨lw_p108, List.forall_mem_cons.mpr ⟨lw_p109, List.forall_mem_cons.mpr ⟨lw_p110, List.forall_mem_cons.mpr ⟨lw_p111, fun _ h => absurd h List.not_mem_nil⟩⟩⟩⟩⟩⟩⟩⟩⟩⟩⟩⟩⟩⟩⟩⟩
theorem lw_p112 : lw_okq (⟨"BarberMinutesModel", "shavesWhy", "(ZIII)I"⟩, 35) := ⟨⟨by decide +kernel, by decide +kernel⟩, List.mem_of_getElem? (i := 1183) (by decide +kernel), List.mem_of_getElem? (i := 1788) (by decide +kernel), List.mem_of_getElem? (i := 1789) (by decide +kernel)⟩
theorem lw_p113 : lw_okq (⟨"BarberMinutesModel", "note", "()V"⟩, 35) := ⟨⟨by decide +kernel, by decide +kernel⟩, List.mem_of_getElem? (i := 1183) (by decide +kernel), List.mem_of_getElem? (i := 1802) (by decide +kernel), List.mem_of_getElem? (i := 1803) (by decide +kernel)⟩
theorem lw_p114 : lw_okq (⟨"BarberMinutesModel", "isNot", "(I)Z"⟩, 35) := ⟨⟨by decide +kernel, by decide +kernel⟩, List.mem_of_getElem? (i := 1183) (by decide +kernel), List.mem_of_getElem? (i := 1818) (by decide +kernel), List.mem_of_getElem? (i := 1819) (by decide +kernel)⟩
def lw_privs_8 : List (MethodName × Nat) := [(⟨"BarberMinutesModel", "shavesWhy", "(ZIII)I"⟩, 35), (⟨"BarberMinutesModel", "note", "()V"⟩, 35), (⟨"BarberMinutesModel", "isNot", "(I)Z"⟩, 35)]
theorem lw_r8 : ∀ q ∈ lw_privs_8, lw_okq q := List.forall_mem_cons.mpr ⟨lw_p112, List.forall_mem_cons.mpr ⟨lw_p113, List.forall_mem_cons.mpr ⟨lw_p114, fun _ h => absurd h List.not_mem_nil⟩⟩⟩
def lw_privs : List (MethodName × Nat) := lw_privs_1 ++ (lw_privs_2 ++ (lw_privs_3 ++ (lw_privs_4 ++ (lw_privs_5 ++ (lw_privs_6 ++ (lw_privs_7 ++ (lw_privs_8)))))))
def lw_tbl : List Cond := k2_sels lw_privs ++ tables_1
theorem lw_privs_ok : ∀ q ∈ lw_privs, lw_okq q := by
  show ∀ q ∈ lw_privs_1 ++ (lw_privs_2 ++ (lw_privs_3 ++ (lw_privs_4 ++ (lw_privs_5 ++ (lw_privs_6 ++ (lw_privs_7 ++ (lw_privs_8))))))), lw_okq q
  exact List.forall_mem_append.mpr ⟨lw_r1, List.forall_mem_append.mpr ⟨lw_r2, List.forall_mem_append.mpr ⟨lw_r3, List.forall_mem_append.mpr ⟨lw_r4, List.forall_mem_append.mpr ⟨lw_r5, List.forall_mem_append.mpr ⟨lw_r6, List.forall_mem_append.mpr ⟨lw_r7, lw_r8⟩⟩⟩⟩⟩⟩⟩
-- ===== end of PART A; then your names; then what follows =====
end
section
def RX0 : String := "BarberMinutes$Agenda"
def TX0 : u_T := fun k => match k with
  | 0 => ("BarberMinutes$Agenda", "steps", "[LBarberMinutes$Minutes;", true)
  | 1 => ("BarberMinutes$Agenda", "weeks", "I", false)
  | 2 => ("BarberMinutes$Agenda", "bestRow", "I", false)
  | 3 => ("BarberMinutes$Agenda", "bestWorth", "I", false)
  | _ => ("BarberMinutes$Agenda", "bestCarried", "I", false)
def tyX0 : Nat → FieldType := fun k => match k with
  | 0 => .array (.object "BarberMinutes$Minutes")
  | 1 => .int
  | 2 => .int
  | 3 => .int
  | _ => .int
abbrev wsX00 : List Cond := u_ws RX0 TX0 5
theorem nmX0 : ∀ a, a < 5 → ∀ b, b < 5 → a ≠ b → (TX0 a).2.1 ≠ (TX0 b).2.1 := by decide +kernel
theorem tyX0_ok : ∀ k, k < 5 → parseFieldDescriptor (TX0 k).2.2.1 = some (tyX0 k) := by decide +kernel
abbrev cX0_init : ByteArray := prog_2_method_1_code
def yX0_init : MethodName := ⟨RX0, "<init>", "()V"⟩
abbrev cX0_isRow : ByteArray := prog_2_method_2_code
def yX0_isRow : MethodName := ⟨RX0, "isRow", "(LBarberMinutes$Town;II)Z"⟩
abbrev cX0_worthOfRow : ByteArray := prog_2_method_3_code
def yX0_worthOfRow : MethodName := ⟨RX0, "worthOfRow", "(LBarberMinutes$Town;LBarberMinutes$Minutes;II)I"⟩
abbrev cX0_search : ByteArray := prog_2_method_4_code
def yX0_search : MethodName := ⟨RX0, "search", "(LBarberMinutes$Town;LBarberMinutes$Minutes;I)V"⟩
abbrev cX0_explore : ByteArray := prog_2_method_5_code
def yX0_explore : MethodName := ⟨RX0, "explore", "(LBarberMinutes$Town;III)V"⟩
abbrev cX0_takeStep : ByteArray := prog_2_method_6_code
def yX0_takeStep : MethodName := ⟨RX0, "takeStep", "(LBarberMinutes$Town;II)I"⟩
abbrev cX0_fewestWeeks : ByteArray := prog_2_method_7_code
def yX0_fewestWeeks : MethodName := ⟨RX0, "fewestWeeks", "(LBarberMinutes$Town;LBarberMinutes$Minutes;I)I"⟩
abbrev cX0_canCarry : ByteArray := prog_2_method_8_code
def yX0_canCarry : MethodName := ⟨RX0, "canCarry", "(LBarberMinutes$Town;II)Z"⟩
def RX1 : String := "BarberMinutes$Chance"
def TX1 : u_T := fun k => match k with
  | 0 => ("BarberMinutes$Chance", "upper", "J", false)
  | 1 => ("BarberMinutes$Chance", "lower", "J", false)
  | _ => ("BarberMinutes$Chance", "seed", "I", false)
def tyX1 : Nat → FieldType := fun k => match k with
  | 0 => .long
  | 1 => .long
  | _ => .int
abbrev wsX10 : List Cond := u_ws RX1 TX1 3
theorem nmX1 : ∀ a, a < 3 → ∀ b, b < 3 → a ≠ b → (TX1 a).2.1 ≠ (TX1 b).2.1 := by decide +kernel
theorem tyX1_ok : ∀ k, k < 3 → parseFieldDescriptor (TX1 k).2.2.1 = some (tyX1 k) := by decide +kernel
abbrev cX1_init : ByteArray := prog_3_method_1_code
def yX1_init : MethodName := ⟨RX1, "<init>", "()V"⟩
abbrev cX1_weighEnough : ByteArray := prog_3_method_2_code
def yX1_weighEnough : MethodName := ⟨RX1, "weighEnough", "(LBarberMinutes$Town;LBarberMinutes$Minutes;I)V"⟩
abbrev cX1_weighYes : ByteArray := prog_3_method_3_code
def yX1_weighYes : MethodName := ⟨RX1, "weighYes", "(LBarberMinutes$Town;LBarberMinutes$Minutes;I)V"⟩
abbrev cX1_power : ByteArray := prog_3_method_4_code
def yX1_power : MethodName := ⟨RX1, "power", "(II)J"⟩
abbrev cX1_reduce : ByteArray := prog_3_method_5_code
def yX1_reduce : MethodName := ⟨RX1, "reduce", "(JJ)V"⟩
abbrev cX1_passShavingWeek : ByteArray := prog_3_method_6_code
def yX1_passShavingWeek : MethodName := ⟨RX1, "passShavingWeek", "(LBarberMinutes$Town;LBarberMinutes$Minutes;)V"⟩
def RX2 : String := "BarberMinutes$Minutes"
def TX2 : u_T := fun k => match k with
  | 0 => ("BarberMinutes$Minutes", "hair", "[I", true)
  | 1 => ("BarberMinutes$Minutes", "fallen", "[I", true)
  | 2 => ("BarberMinutes$Minutes", "carried", "I", false)
  | _ => ("BarberMinutes$Minutes", "weeks", "I", false)
def tyX2 : Nat → FieldType := fun k => match k with
  | 0 => .array .int
  | 1 => .array .int
  | 2 => .int
  | _ => .int
abbrev wsX20 : List Cond := u_ws RX2 TX2 4
theorem nmX2 : ∀ a, a < 4 → ∀ b, b < 4 → a ≠ b → (TX2 a).2.1 ≠ (TX2 b).2.1 := by decide +kernel
theorem tyX2_ok : ∀ k, k < 4 → parseFieldDescriptor (TX2 k).2.2.1 = some (tyX2 k) := by decide +kernel
abbrev cX2_init : ByteArray := prog_4_method_1_code
def yX2_init : MethodName := ⟨RX2, "<init>", "()V"⟩
abbrev cX2_begin : ByteArray := prog_4_method_2_code
def yX2_begin : MethodName := ⟨RX2, "begin", "(LBarberMinutes$Town;)V"⟩
abbrev cX2_copy : ByteArray := prog_4_method_3_code
def yX2_copy : MethodName := ⟨RX2, "copy", "(LBarberMinutes$Minutes;)V"⟩
abbrev cX2_passWeek : ByteArray := prog_4_method_4_code
def yX2_passWeek : MethodName := ⟨RX2, "passWeek", "(LBarberMinutes$Town;)V"⟩
abbrev cX2_isBald : ByteArray := prog_4_method_5_code
def yX2_isBald : MethodName := ⟨RX2, "isBald", "(LBarberMinutes$Town;I)Z"⟩
abbrev cX2_baldMen : ByteArray := prog_4_method_6_code
def yX2_baldMen : MethodName := ⟨RX2, "baldMen", "(LBarberMinutes$Town;)I"⟩
abbrev cX2_hairyMen : ByteArray := prog_4_method_7_code
def yX2_hairyMen : MethodName := ⟨RX2, "hairyMen", "(LBarberMinutes$Town;)I"⟩
abbrev cX2_saysYes : ByteArray := prog_4_method_8_code
def yX2_saysYes : MethodName := ⟨RX2, "saysYes", "(LBarberMinutes$Town;II)Z"⟩
abbrev cX2_motionsLiked : ByteArray := prog_4_method_9_code
def yX2_motionsLiked : MethodName := ⟨RX2, "motionsLiked", "(LBarberMinutes$Town;I)I"⟩
abbrev cX2_yesMen : ByteArray := prog_4_method_10_code
def yX2_yesMen : MethodName := ⟨RX2, "yesMen", "(LBarberMinutes$Town;I)I"⟩
abbrev cX2_yesVotes : ByteArray := prog_4_method_11_code
def yX2_yesVotes : MethodName := ⟨RX2, "yesVotes", "(LBarberMinutes$Town;I)I"⟩
abbrev cX2_hasEnough : ByteArray := prog_4_method_12_code
def yX2_hasEnough : MethodName := ⟨RX2, "hasEnough", "(LBarberMinutes$Town;I)Z"⟩
abbrev cX2_wasCarried : ByteArray := prog_4_method_13_code
def yX2_wasCarried : MethodName := ⟨RX2, "wasCarried", "(I)Z"⟩
abbrev cX2_mayBePut : ByteArray := prog_4_method_14_code
def yX2_mayBePut : MethodName := ⟨RX2, "mayBePut", "(LBarberMinutes$Town;I)Z"⟩
abbrev cX2_cutFor : ByteArray := prog_4_method_15_code
def yX2_cutFor : MethodName := ⟨RX2, "cutFor", "(LBarberMinutes$Town;I)Z"⟩
abbrev cX2_cutOff : ByteArray := prog_4_method_16_code
def yX2_cutOff : MethodName := ⟨RX2, "cutOff", "(LBarberMinutes$Town;II)V"⟩
abbrev cX2_turns : ByteArray := prog_4_method_17_code
def yX2_turns : MethodName := ⟨RX2, "turns", "(LBarberMinutes$Town;II)I"⟩
def RX3 : String := "BarberMinutes$Past"
def TX3 : u_T := fun k => match k with
  | 0 => ("BarberMinutes$Past", "before", "[LBarberMinutes$Minutes;", true)
  | 1 => ("BarberMinutes$Past", "drawn", "[LBarberMinutes$Minutes;", true)
  | 2 => ("BarberMinutes$Past", "next", "I", false)
  | 3 => ("BarberMinutes$Past", "acts", "I", false)
  | _ => ("BarberMinutes$Past", "images", "I", false)
def tyX3 : Nat → FieldType := fun k => match k with
  | 0 => .array (.object "BarberMinutes$Minutes")
  | 1 => .array (.object "BarberMinutes$Minutes")
  | 2 => .int
  | 3 => .int
  | _ => .int
abbrev wsX30 : List Cond := u_ws RX3 TX3 5
theorem nmX3 : ∀ a, a < 5 → ∀ b, b < 5 → a ≠ b → (TX3 a).2.1 ≠ (TX3 b).2.1 := by decide +kernel
theorem tyX3_ok : ∀ k, k < 5 → parseFieldDescriptor (TX3 k).2.2.1 = some (tyX3 k) := by decide +kernel
abbrev cX3_init : ByteArray := prog_5_method_1_code
def yX3_init : MethodName := ⟨RX3, "<init>", "()V"⟩
abbrev cX3_forget : ByteArray := prog_5_method_2_code
def yX3_forget : MethodName := ⟨RX3, "forget", "()V"⟩
abbrev cX3_keep : ByteArray := prog_5_method_3_code
def yX3_keep : MethodName := ⟨RX3, "keep", "(LBarberMinutes$Minutes;)V"⟩
abbrev cX3_takeBack : ByteArray := prog_5_method_4_code
def yX3_takeBack : MethodName := ⟨RX3, "takeBack", "(LBarberMinutes$Minutes;)Z"⟩
abbrev cX3_draw : ByteArray := prog_5_method_5_code
def yX3_draw : MethodName := ⟨RX3, "draw", "(LBarberMinutes$Minutes;)I"⟩
abbrev cX3_restore : ByteArray := prog_5_method_6_code
def yX3_restore : MethodName := ⟨RX3, "restore", "(ILBarberMinutes$Minutes;)Z"⟩
def RX4 : String := "BarberMinutes$Reader"
def TX4 : u_T := fun k => match k with
  | 0 => ("BarberMinutes$Reader", "text", "[B", false)
  | 1 => ("BarberMinutes$Reader", "end", "I", false)
  | 2 => ("BarberMinutes$Reader", "next", "I", false)
  | 3 => ("BarberMinutes$Reader", "kind", "I", false)
  | 4 => ("BarberMinutes$Reader", "start", "I", false)
  | 5 => ("BarberMinutes$Reader", "value", "I", false)
  | 6 => ("BarberMinutes$Reader", "word", "J", false)
  | 7 => ("BarberMinutes$Reader", "town", "LBarberMinutes$Town;", false)
  | 8 => ("BarberMinutes$Reader", "townTold", "Z", false)
  | 9 => ("BarberMinutes$Reader", "fault", "I", false)
  | 10 => ("BarberMinutes$Reader", "names", "I", false)
  | 11 => ("BarberMinutes$Reader", "nameWord", "[J", true)
  | 12 => ("BarberMinutes$Reader", "nameSort", "[I", true)
  | _ => ("BarberMinutes$Reader", "nameNumber", "[I", true)
def tyX4 : Nat → FieldType := fun k => match k with
  | 0 => .array .byte
  | 1 => .int
  | 2 => .int
  | 3 => .int
  | 4 => .int
  | 5 => .int
  | 6 => .long
  | 7 => .object "BarberMinutes$Town"
  | 8 => .boolean
  | 9 => .int
  | 10 => .int
  | 11 => .array .long
  | 12 => .array .int
  | _ => .array .int
abbrev wsX40 : List Cond := u_ws RX4 TX4 14
theorem nmX4 : ∀ a, a < 14 → ∀ b, b < 14 → a ≠ b → (TX4 a).2.1 ≠ (TX4 b).2.1 := by decide +kernel
theorem tyX4_ok : ∀ k, k < 14 → parseFieldDescriptor (TX4 k).2.2.1 = some (tyX4 k) := by decide +kernel
abbrev cX4_init : ByteArray := prog_6_method_1_code
def yX4_init : MethodName := ⟨RX4, "<init>", "()V"⟩
abbrev cX4_read : ByteArray := prog_6_method_2_code
def yX4_read : MethodName := ⟨RX4, "read", "([BILBarberMinutes$Town;)I"⟩
abbrev cX4_place : ByteArray := prog_6_method_3_code
def yX4_place : MethodName := ⟨RX4, "place", "()I"⟩
abbrev cX4_fail : ByteArray := prog_6_method_4_code
def yX4_fail : MethodName := ⟨RX4, "fail", "(I)V"⟩
abbrev cX4_readLine : ByteArray := prog_6_method_5_code
def yX4_readLine : MethodName := ⟨RX4, "readLine", "()V"⟩
abbrev cX4_room : ByteArray := prog_6_method_6_code
def yX4_room : MethodName := ⟨RX4, "room", "(I)I"⟩
abbrev cX4_told : ByteArray := prog_6_method_7_code
def yX4_told : MethodName := ⟨RX4, "told", "(I)I"⟩
abbrev cX4_readTown : ByteArray := prog_6_method_8_code
def yX4_readTown : MethodName := ⟨RX4, "readTown", "()V"⟩
abbrev cX4_readMan : ByteArray := prog_6_method_9_code
def yX4_readMan : MethodName := ⟨RX4, "readMan", "()V"⟩
abbrev cX4_readMotion : ByteArray := prog_6_method_10_code
def yX4_readMotion : MethodName := ⟨RX4, "readMotion", "()V"⟩
abbrev cX4_readAgainst : ByteArray := prog_6_method_11_code
def yX4_readAgainst : MethodName := ⟨RX4, "readAgainst", "()V"⟩
abbrev cX4_readAmends : ByteArray := prog_6_method_12_code
def yX4_readAmends : MethodName := ⟨RX4, "readAmends", "()V"⟩
abbrev cX4_readQuarrel : ByteArray := prog_6_method_13_code
def yX4_readQuarrel : MethodName := ⟨RX4, "readQuarrel", "()V"⟩
abbrev cX4_readChair : ByteArray := prog_6_method_14_code
def yX4_readChair : MethodName := ⟨RX4, "readChair", "()V"⟩
abbrev cX4_readHeap : ByteArray := prog_6_method_15_code
def yX4_readHeap : MethodName := ⟨RX4, "readHeap", "()V"⟩
abbrev cX4_takeWord : ByteArray := prog_6_method_16_code
def yX4_takeWord : MethodName := ⟨RX4, "takeWord", "(Ljava/lang/String;)V"⟩
abbrev cX4_takeWhole : ByteArray := prog_6_method_17_code
def yX4_takeWhole : MethodName := ⟨RX4, "takeWhole", "(II)I"⟩
abbrev cX4_takeNewName : ByteArray := prog_6_method_18_code
def yX4_takeNewName : MethodName := ⟨RX4, "takeNewName", "(II)V"⟩
abbrev cX4_toldHere : ByteArray := prog_6_method_19_code
def yX4_toldHere : MethodName := ⟨RX4, "toldHere", "(I)I"⟩
abbrev cX4_nameHere : ByteArray := prog_6_method_20_code
def yX4_nameHere : MethodName := ⟨RX4, "nameHere", "()I"⟩
abbrev cX4_colourHere : ByteArray := prog_6_method_21_code
def yX4_colourHere : MethodName := ⟨RX4, "colourHere", "()I"⟩
abbrev cX4_lineHere : ByteArray := prog_6_method_22_code
def yX4_lineHere : MethodName := ⟨RX4, "lineHere", "()I"⟩
abbrev cX4_firstWord : ByteArray := prog_6_method_23_code
def yX4_firstWord : MethodName := ⟨RX4, "firstWord", "(I)Ljava/lang/String;"⟩
abbrev cX4_isWord : ByteArray := prog_6_method_24_code
def yX4_isWord : MethodName := ⟨RX4, "isWord", "(Ljava/lang/String;)Z"⟩
abbrev cX4_packedWith : ByteArray := prog_6_method_25_code
def yX4_packedWith : MethodName := ⟨RX4, "packedWith", "(JI)J"⟩
abbrev cX4_stepOn : ByteArray := prog_6_method_26_code
def yX4_stepOn : MethodName := ⟨RX4, "stepOn", "()V"⟩
abbrev cX4_readLetters : ByteArray := prog_6_method_27_code
def yX4_readLetters : MethodName := ⟨RX4, "readLetters", "()V"⟩
abbrev cX4_readDigits : ByteArray := prog_6_method_28_code
def yX4_readDigits : MethodName := ⟨RX4, "readDigits", "()V"⟩
abbrev cX4_isLetter : ByteArray := prog_6_method_29_code
def yX4_isLetter : MethodName := ⟨RX4, "isLetter", "(I)Z"⟩
abbrev cX4_isDigit : ByteArray := prog_6_method_30_code
def yX4_isDigit : MethodName := ⟨RX4, "isDigit", "(I)Z"⟩
def RX5 : String := "BarberMinutes$Sweepings"
def TX5 : u_T := fun k => match k with
  | 0 => ("BarberMinutes$Sweepings", "sets", "[I", true)
  | 1 => ("BarberMinutes$Sweepings", "count", "I", false)
  | _ => ("BarberMinutes$Sweepings", "trial", "LBarberMinutes$Minutes;", true)
def tyX5 : Nat → FieldType := fun k => match k with
  | 0 => .array .int
  | 1 => .int
  | _ => .object "BarberMinutes$Minutes"
abbrev wsX50 : List Cond := u_ws RX5 TX5 3
theorem nmX5 : ∀ a, a < 3 → ∀ b, b < 3 → a ≠ b → (TX5 a).2.1 ≠ (TX5 b).2.1 := by decide +kernel
theorem tyX5_ok : ∀ k, k < 3 → parseFieldDescriptor (TX5 k).2.2.1 = some (tyX5 k) := by decide +kernel
abbrev cX5_init : ByteArray := prog_7_method_1_code
def yX5_init : MethodName := ⟨RX5, "<init>", "()V"⟩
abbrev cX5_find : ByteArray := prog_7_method_2_code
def yX5_find : MethodName := ⟨RX5, "find", "(LBarberMinutes$Town;)V"⟩
abbrev cX5_explainsHeaps : ByteArray := prog_7_method_3_code
def yX5_explainsHeaps : MethodName := ⟨RX5, "explainsHeaps", "(LBarberMinutes$Town;I)Z"⟩
abbrev cX5_inSome : ByteArray := prog_7_method_4_code
def yX5_inSome : MethodName := ⟨RX5, "inSome", "()I"⟩
abbrev cX5_inAll : ByteArray := prog_7_method_5_code
def yX5_inAll : MethodName := ⟨RX5, "inAll", "()I"⟩
abbrev cX5_leftAtMost : ByteArray := prog_7_method_6_code
def yX5_leftAtMost : MethodName := ⟨RX5, "leftAtMost", "(I)I"⟩
abbrev cX5_question : ByteArray := prog_7_method_7_code
def yX5_question : MethodName := ⟨RX5, "question", "(LBarberMinutes$Town;)I"⟩
def RX6 : String := "BarberMinutes$Tour"
def TX6 : u_T := fun k => match k with
  | 0 => ("BarberMinutes$Tour", "order", "[I", true)
  | 1 => ("BarberMinutes$Tour", "best", "[I", true)
  | _ => ("BarberMinutes$Tour", "far", "I", false)
def tyX6 : Nat → FieldType := fun k => match k with
  | 0 => .array .int
  | 1 => .array .int
  | _ => .int
abbrev wsX60 : List Cond := u_ws RX6 TX6 3
theorem nmX6 : ∀ a, a < 3 → ∀ b, b < 3 → a ≠ b → (TX6 a).2.1 ≠ (TX6 b).2.1 := by decide +kernel
theorem tyX6_ok : ∀ k, k < 3 → parseFieldDescriptor (TX6 k).2.2.1 = some (tyX6 k) := by decide +kernel
abbrev cX6_init : ByteArray := prog_8_method_1_code
def yX6_init : MethodName := ⟨RX6, "<init>", "()V"⟩
abbrev cX6_find : ByteArray := prog_8_method_2_code
def yX6_find : MethodName := ⟨RX6, "find", "(LBarberMinutes$Town;)V"⟩
abbrev cX6_walk : ByteArray := prog_8_method_3_code
def yX6_walk : MethodName := ⟨RX6, "walk", "(LBarberMinutes$Town;III)V"⟩
abbrev cX6_weigh : ByteArray := prog_8_method_4_code
def yX6_weigh : MethodName := ⟨RX6, "weigh", "(LBarberMinutes$Town;II)V"⟩
def RX7 : String := "BarberMinutes$Town"
def TX7 : u_T := fun k => match k with
  | 0 => ("BarberMinutes$Town", "grows", "I", false)
  | 1 => ("BarberMinutes$Town", "baldBelow", "I", false)
  | 2 => ("BarberMinutes$Town", "shaveChance", "I", false)
  | 3 => ("BarberMinutes$Town", "men", "I", false)
  | 4 => ("BarberMinutes$Town", "colour", "[I", true)
  | 5 => ("BarberMinutes$Town", "firstHair", "[I", true)
  | 6 => ("BarberMinutes$Town", "votes", "[I", true)
  | 7 => ("BarberMinutes$Town", "against", "[I", true)
  | 8 => ("BarberMinutes$Town", "quarrels", "[I", true)
  | 9 => ("BarberMinutes$Town", "motions", "I", false)
  | 10 => ("BarberMinutes$Town", "cuts", "[I", true)
  | 11 => ("BarberMinutes$Town", "needs", "[I", true)
  | 12 => ("BarberMinutes$Town", "worth", "[I", true)
  | 13 => ("BarberMinutes$Town", "amends", "[I", true)
  | 14 => ("BarberMinutes$Town", "rows", "[I", true)
  | 15 => ("BarberMinutes$Town", "chairs", "I", false)
  | 16 => ("BarberMinutes$Town", "chairAt", "[I", true)
  | 17 => ("BarberMinutes$Town", "heap", "[I", true)
  | _ => ("BarberMinutes$Town", "heapsTold", "I", false)
def tyX7 : Nat → FieldType := fun k => match k with
  | 0 => .int
  | 1 => .int
  | 2 => .int
  | 3 => .int
  | 4 => .array .int
  | 5 => .array .int
  | 6 => .array .int
  | 7 => .array .int
  | 8 => .array .int
  | 9 => .int
  | 10 => .array .int
  | 11 => .array .int
  | 12 => .array .int
  | 13 => .array .int
  | 14 => .array .int
  | 15 => .int
  | 16 => .array .int
  | 17 => .array .int
  | _ => .int
abbrev wsX70 : List Cond := u_ws RX7 TX7 19
theorem nmX7 : ∀ a, a < 19 → ∀ b, b < 19 → a ≠ b → (TX7 a).2.1 ≠ (TX7 b).2.1 := by decide +kernel
theorem tyX7_ok : ∀ k, k < 19 → parseFieldDescriptor (TX7 k).2.2.1 = some (tyX7 k) := by decide +kernel
abbrev cX7_init : ByteArray := prog_9_method_1_code
def yX7_init : MethodName := ⟨RX7, "<init>", "()V"⟩
abbrev cX7_clear : ByteArray := prog_9_method_2_code
def yX7_clear : MethodName := ⟨RX7, "clear", "()V"⟩
abbrev cX7_addMan : ByteArray := prog_9_method_3_code
def yX7_addMan : MethodName := ⟨RX7, "addMan", "(III)V"⟩
abbrev cX7_addMotion : ByteArray := prog_9_method_4_code
def yX7_addMotion : MethodName := ⟨RX7, "addMotion", "(III)V"⟩
abbrev cX7_addChair : ByteArray := prog_9_method_5_code
def yX7_addChair : MethodName := ⟨RX7, "addChair", "(I)V"⟩
abbrev cX7_bitsOf : ByteArray := prog_9_method_6_code
def yX7_bitsOf : MethodName := ⟨RX7, "bitsOf", "([II)I"⟩
abbrev cX7_votesOf : ByteArray := prog_9_method_7_code
def yX7_votesOf : MethodName := ⟨RX7, "votesOf", "(I)I"⟩
abbrev cX7_amenders : ByteArray := prog_9_method_8_code
def yX7_amenders : MethodName := ⟨RX7, "amenders", "(I)I"⟩
abbrev cX7_rowUpTo : ByteArray := prog_9_method_9_code
def yX7_rowUpTo : MethodName := ⟨RX7, "rowUpTo", "(I)I"⟩
abbrev cX7_quarrelsTold : ByteArray := prog_9_method_10_code
def yX7_quarrelsTold : MethodName := ⟨RX7, "quarrelsTold", "()I"⟩
abbrev cX7_quarrelsAcross : ByteArray := prog_9_method_11_code
def yX7_quarrelsAcross : MethodName := ⟨RX7, "quarrelsAcross", "(I)I"⟩
abbrev cX7_bestSide : ByteArray := prog_9_method_12_code
def yX7_bestSide : MethodName := ⟨RX7, "bestSide", "()I"⟩
abbrev cX7_fewestQuarrellers : ByteArray := prog_9_method_13_code
def yX7_fewestQuarrellers : MethodName := ⟨RX7, "fewestQuarrellers", "()I"⟩
abbrev cX7_isQuietWithout : ByteArray := prog_9_method_14_code
def yX7_isQuietWithout : MethodName := ⟨RX7, "isQuietWithout", "(I)Z"⟩
abbrev cX7_wayBetween : ByteArray := prog_9_method_15_code
def yX7_wayBetween : MethodName := ⟨RX7, "wayBetween", "(II)I"⟩
def RX8 : String := "BarberMinutes"
def TX8 : u_T := fun k => match k with
  | 0 => ("BarberMinutes", "tape", "[B", true)
  | 1 => ("BarberMinutes", "taped", "I", false)
  | 2 => ("BarberMinutes", "reader", "LBarberMinutes$Reader;", true)
  | 3 => ("BarberMinutes", "town", "LBarberMinutes$Town;", false)
  | 4 => ("BarberMinutes", "spare", "LBarberMinutes$Town;", false)
  | 5 => ("BarberMinutes", "now", "LBarberMinutes$Minutes;", true)
  | 6 => ("BarberMinutes", "trial", "LBarberMinutes$Minutes;", true)
  | 7 => ("BarberMinutes", "past", "LBarberMinutes$Past;", true)
  | 8 => ("BarberMinutes", "agenda", "LBarberMinutes$Agenda;", true)
  | 9 => ("BarberMinutes", "tour", "LBarberMinutes$Tour;", true)
  | 10 => ("BarberMinutes", "sweepings", "LBarberMinutes$Sweepings;", true)
  | 11 => ("BarberMinutes", "chance", "LBarberMinutes$Chance;", true)
  | 12 => ("BarberMinutes", "fault", "I", false)
  | 13 => ("BarberMinutes", "place", "I", false)
  | _ => ("BarberMinutes", "trouble", "I", false)
def tyX8 : Nat → FieldType := fun k => match k with
  | 0 => .array .byte
  | 1 => .int
  | 2 => .object "BarberMinutes$Reader"
  | 3 => .object "BarberMinutes$Town"
  | 4 => .object "BarberMinutes$Town"
  | 5 => .object "BarberMinutes$Minutes"
  | 6 => .object "BarberMinutes$Minutes"
  | 7 => .object "BarberMinutes$Past"
  | 8 => .object "BarberMinutes$Agenda"
  | 9 => .object "BarberMinutes$Tour"
  | 10 => .object "BarberMinutes$Sweepings"
  | 11 => .object "BarberMinutes$Chance"
  | 12 => .int
  | 13 => .int
  | _ => .int
abbrev wsX80 : List Cond := u_ws RX8 TX8 15
theorem nmX8 : ∀ a, a < 15 → ∀ b, b < 15 → a ≠ b → (TX8 a).2.1 ≠ (TX8 b).2.1 := by decide +kernel
theorem tyX8_ok : ∀ k, k < 15 → parseFieldDescriptor (TX8 k).2.2.1 = some (tyX8 k) := by decide +kernel
abbrev cX8_init : ByteArray := prog_1_method_1_code
def yX8_init : MethodName := ⟨RX8, "<init>", "()V"⟩
abbrev cX8_feed : ByteArray := prog_1_method_2_code
def yX8_feed : MethodName := ⟨RX8, "feed", "(IIIII)I"⟩
abbrev cX8_store : ByteArray := prog_1_method_3_code
def yX8_store : MethodName := ⟨RX8, "store", "(I)V"⟩
abbrev cX8_town : ByteArray := prog_1_method_4_code
def yX8_town : MethodName := ⟨RX8, "town", "(I)I"⟩
abbrev cX8_fault : ByteArray := prog_1_method_5_code
def yX8_fault : MethodName := ⟨RX8, "fault", "()I"⟩
abbrev cX8_where : ByteArray := prog_1_method_6_code
def yX8_where : MethodName := ⟨RX8, "where", "()I"⟩
abbrev cX8_man : ByteArray := prog_1_method_7_code
def yX8_man : MethodName := ⟨RX8, "man", "(II)I"⟩
abbrev cX8_motion : ByteArray := prog_1_method_8_code
def yX8_motion : MethodName := ⟨RX8, "motion", "(II)I"⟩
abbrev cX8_floor : ByteArray := prog_1_method_9_code
def yX8_floor : MethodName := ⟨RX8, "floor", "(I)I"⟩
abbrev cX8_bald : ByteArray := prog_1_method_10_code
def yX8_bald : MethodName := ⟨RX8, "bald", "()I"⟩
abbrev cX8_longest : ByteArray := prog_1_method_11_code
def yX8_longest : MethodName := ⟨RX8, "longest", "()I"⟩
abbrev cX8_ready : ByteArray := prog_1_method_12_code
def yX8_ready : MethodName := ⟨RX8, "ready", "()I"⟩
abbrev cX8_quorum : ByteArray := prog_1_method_13_code
def yX8_quorum : MethodName := ⟨RX8, "quorum", "()I"⟩
abbrev cX8_behind : ByteArray := prog_1_method_14_code
def yX8_behind : MethodName := ⟨RX8, "behind", "(I)I"⟩
abbrev cX8_depth : ByteArray := prog_1_method_15_code
def yX8_depth : MethodName := ⟨RX8, "depth", "(I)I"⟩
abbrev cX8_longIn : ByteArray := prog_1_method_16_code
def yX8_longIn : MethodName := ⟨RX8, "longIn", "(II)I"⟩
abbrev cX8_yesIn : ByteArray := prog_1_method_17_code
def yX8_yesIn : MethodName := ⟨RX8, "yesIn", "(II)I"⟩
abbrev cX8_carryIn : ByteArray := prog_1_method_18_code
def yX8_carryIn : MethodName := ⟨RX8, "carryIn", "(I)I"⟩
abbrev cX8_hairyIn : ByteArray := prog_1_method_19_code
def yX8_hairyIn : MethodName := ⟨RX8, "hairyIn", "()I"⟩
abbrev cX8_soonest : ByteArray := prog_1_method_20_code
def yX8_soonest : MethodName := ⟨RX8, "soonest", "()I"⟩
abbrev cX8_lookAhead : ByteArray := prog_1_method_21_code
def yX8_lookAhead : MethodName := ⟨RX8, "lookAhead", "(I)V"⟩
abbrev cX8_weeksUntilEnough : ByteArray := prog_1_method_22_code
def yX8_weeksUntilEnough : MethodName := ⟨RX8, "weeksUntilEnough", "(I)I"⟩
abbrev cX8_worthOf : ByteArray := prog_1_method_23_code
def yX8_worthOf : MethodName := ⟨RX8, "worthOf", "(II)I"⟩
abbrev cX8_bestRow : ByteArray := prog_1_method_24_code
def yX8_bestRow : MethodName := ⟨RX8, "bestRow", "(I)I"⟩
abbrev cX8_bestWorth : ByteArray := prog_1_method_25_code
def yX8_bestWorth : MethodName := ⟨RX8, "bestWorth", "(I)I"⟩
abbrev cX8_bestCarried : ByteArray := prog_1_method_26_code
def yX8_bestCarried : MethodName := ⟨RX8, "bestCarried", "(I)I"⟩
abbrev cX8_weeksFor : ByteArray := prog_1_method_27_code
def yX8_weeksFor : MethodName := ⟨RX8, "weeksFor", "(I)I"⟩
abbrev cX8_lacksAgenda : ByteArray := prog_1_method_28_code
def yX8_lacksAgenda : MethodName := ⟨RX8, "lacksAgenda", "(I)Z"⟩
abbrev cX8_swings : ByteArray := prog_1_method_29_code
def yX8_swings : MethodName := ⟨RX8, "swings", "(II)I"⟩
abbrev cX8_mighty : ByteArray := prog_1_method_30_code
def yX8_mighty : MethodName := ⟨RX8, "mighty", "(I)I"⟩
abbrev cX8_outvoted : ByteArray := prog_1_method_31_code
def yX8_outvoted : MethodName := ⟨RX8, "outvoted", "(I)I"⟩
abbrev cX8_bench : ByteArray := prog_1_method_32_code
def yX8_bench : MethodName := ⟨RX8, "bench", "(I)I"⟩
abbrev cX8_parting : ByteArray := prog_1_method_33_code
def yX8_parting : MethodName := ⟨RX8, "parting", "()I"⟩
abbrev cX8_left : ByteArray := prog_1_method_34_code
def yX8_left : MethodName := ⟨RX8, "left", "()I"⟩
abbrev cX8_peace : ByteArray := prog_1_method_35_code
def yX8_peace : MethodName := ⟨RX8, "peace", "()I"⟩
abbrev cX8_lacksNeeds : ByteArray := prog_1_method_36_code
def yX8_lacksNeeds : MethodName := ⟨RX8, "lacksNeeds", "(I)Z"⟩
abbrev cX8_apart : ByteArray := prog_1_method_37_code
def yX8_apart : MethodName := ⟨RX8, "apart", "(II)I"⟩
abbrev cX8_round : ByteArray := prog_1_method_38_code
def yX8_round : MethodName := ⟨RX8, "round", "()I"⟩
abbrev cX8_roundAt : ByteArray := prog_1_method_39_code
def yX8_roundAt : MethodName := ⟨RX8, "roundAt", "(I)I"⟩
abbrev cX8_fits : ByteArray := prog_1_method_40_code
def yX8_fits : MethodName := ⟨RX8, "fits", "()I"⟩
abbrev cX8_fitAt : ByteArray := prog_1_method_41_code
def yX8_fitAt : MethodName := ⟨RX8, "fitAt", "(I)I"⟩
abbrev cX8_could : ByteArray := prog_1_method_42_code
def yX8_could : MethodName := ⟨RX8, "could", "()I"⟩
abbrev cX8_surely : ByteArray := prog_1_method_43_code
def yX8_surely : MethodName := ⟨RX8, "surely", "()I"⟩
abbrev cX8_ask : ByteArray := prog_1_method_44_code
def yX8_ask : MethodName := ⟨RX8, "ask", "()I"⟩
abbrev cX8_askLeaves : ByteArray := prog_1_method_45_code
def yX8_askLeaves : MethodName := ⟨RX8, "askLeaves", "()I"⟩
abbrev cX8_cannotSweep : ByteArray := prog_1_method_46_code
def yX8_cannotSweep : MethodName := ⟨RX8, "cannotSweep", "()Z"⟩
abbrev cX8_talk : ByteArray := prog_1_method_47_code
def yX8_talk : MethodName := ⟨RX8, "talk", "(IZZZ)I"⟩
abbrev cX8_rests : ByteArray := prog_1_method_48_code
def yX8_rests : MethodName := ⟨RX8, "rests", "(I)I"⟩
abbrev cX8_rest : ByteArray := prog_1_method_49_code
def yX8_rest : MethodName := ⟨RX8, "rest", "(I)I"⟩
abbrev cX8_lacksLather : ByteArray := prog_1_method_50_code
def yX8_lacksLather : MethodName := ⟨RX8, "lacksLather", "(I)Z"⟩
abbrev cX8_share : ByteArray := prog_1_method_51_code
def yX8_share : MethodName := ⟨RX8, "share", "(IZZ)I"⟩
abbrev cX8_isRest : ByteArray := prog_1_method_52_code
def yX8_isRest : MethodName := ⟨RX8, "isRest", "(II)Z"⟩
abbrev cX8_odds : ByteArray := prog_1_method_53_code
def yX8_odds : MethodName := ⟨RX8, "odds", "(IZ)J"⟩
abbrev cX8_mean : ByteArray := prog_1_method_54_code
def yX8_mean : MethodName := ⟨RX8, "mean", "(IZ)J"⟩
abbrev cX8_shaves : ByteArray := prog_1_method_55_code
def yX8_shaves : MethodName := ⟨RX8, "shaves", "(III)I"⟩
abbrev cX8_carries : ByteArray := prog_1_method_56_code
def yX8_carries : MethodName := ⟨RX8, "carries", "(III)I"⟩
abbrev cX8_lacksDraws : ByteArray := prog_1_method_57_code
def yX8_lacksDraws : MethodName := ⟨RX8, "lacksDraws", "(II)Z"⟩
abbrev cX8_put : ByteArray := prog_1_method_58_code
def yX8_put : MethodName := ⟨RX8, "put", "(I)I"⟩
abbrev cX8_week : ByteArray := prog_1_method_59_code
def yX8_week : MethodName := ⟨RX8, "week", "()I"⟩
abbrev cX8_shave : ByteArray := prog_1_method_60_code
def yX8_shave : MethodName := ⟨RX8, "shave", "(I)I"⟩
abbrev cX8_undo : ByteArray := prog_1_method_61_code
def yX8_undo : MethodName := ⟨RX8, "undo", "()Z"⟩
abbrev cX8_image : ByteArray := prog_1_method_62_code
def yX8_image : MethodName := ⟨RX8, "image", "()I"⟩
abbrev cX8_back : ByteArray := prog_1_method_63_code
def yX8_back : MethodName := ⟨RX8, "back", "(I)Z"⟩
abbrev cX8_led : ByteArray := prog_1_method_64_code
def yX8_led : MethodName := ⟨RX8, "led", "(I)I"⟩
abbrev cX8_size : ByteArray := prog_1_method_65_code
def yX8_size : MethodName := ⟨RX8, "size", "(I)I"⟩
abbrev cX8_trouble : ByteArray := prog_1_method_66_code
def yX8_trouble : MethodName := ⟨RX8, "trouble", "()I"⟩
abbrev cX8_refused : ByteArray := prog_1_method_67_code
def yX8_refused : MethodName := ⟨RX8, "refused", "(I)I"⟩
abbrev cX8_refusedOf : ByteArray := prog_1_method_68_code
def yX8_refusedOf : MethodName := ⟨RX8, "refusedOf", "(Z)Z"⟩
abbrev cX8_granted : ByteArray := prog_1_method_69_code
def yX8_granted : MethodName := ⟨RX8, "granted", "(I)I"⟩
abbrev cX8_noTown : ByteArray := prog_1_method_70_code
def yX8_noTown : MethodName := ⟨RX8, "noTown", "()Z"⟩
abbrev cX8_lacksMan : ByteArray := prog_1_method_71_code
def yX8_lacksMan : MethodName := ⟨RX8, "lacksMan", "(I)Z"⟩
abbrev cX8_lacksMotion : ByteArray := prog_1_method_72_code
def yX8_lacksMotion : MethodName := ⟨RX8, "lacksMotion", "(I)Z"⟩
abbrev cX8_lacksChair : ByteArray := prog_1_method_73_code
def yX8_lacksChair : MethodName := ⟨RX8, "lacksChair", "(I)Z"⟩
def RX9 : String := "BarberMinutesModel"
def TX9 : u_T := fun k => match k with
  | 0 => ("BarberMinutesModel", "thrown", "I", false)
  | 1 => ("BarberMinutesModel", "tape", "[I", true)
  | 2 => ("BarberMinutesModel", "taped", "I", false)
  | 3 => ("BarberMinutesModel", "size", "I", false)
  | 4 => ("BarberMinutesModel", "at", "I", false)
  | 5 => ("BarberMinutesModel", "end", "I", false)
  | 6 => ("BarberMinutesModel", "token", "I", false)
  | 7 => ("BarberMinutesModel", "whole", "I", false)
  | 8 => ("BarberMinutesModel", "nameSize", "I", false)
  | 9 => ("BarberMinutesModel", "fault", "I", false)
  | 10 => ("BarberMinutesModel", "place", "I", false)
  | 11 => ("BarberMinutesModel", "trouble", "I", false)
  | 12 => ("BarberMinutesModel", "letters", "[I", true)
  | 13 => ("BarberMinutesModel", "failed", "Z", false)
  | 14 => ("BarberMinutesModel", "hasTown", "Z", false)
  | 15 => ("BarberMinutesModel", "\x72", "[I", true)
  | 16 => ("BarberMinutesModel", "fresh", "[I", true)
  | 17 => ("BarberMinutesModel", "st", "[I", true)
  | 18 => ("BarberMinutesModel", "undone", "[I", true)
  | 19 => ("BarberMinutesModel", "kept", "[I", true)
  | 20 => ("BarberMinutesModel", "undos", "I", false)
  | 21 => ("BarberMinutesModel", "images", "I", false)
  | 22 => ("BarberMinutesModel", "trial", "[I", true)
  | 23 => ("BarberMinutesModel", "way", "[I", true)
  | 24 => ("BarberMinutesModel", "best", "[I", true)
  | 25 => ("BarberMinutesModel", "leastWay", "I", false)
  | 26 => ("BarberMinutesModel", "often", "[I", true)
  | 27 => ("BarberMinutesModel", "setMany", "I", false)
  | 28 => ("BarberMinutesModel", "someOf", "I", false)
  | 29 => ("BarberMinutesModel", "allOf", "I", false)
  | 30 => ("BarberMinutesModel", "firstRest", "I", false)
  | 31 => ("BarberMinutesModel", "allWeight", "J", false)
  | 32 => ("BarberMinutesModel", "enoughWeight", "J", false)
  | 33 => ("BarberMinutesModel", "yesSum", "J", false)
  | _ => ("BarberMinutesModel", "carriedIn", "I", false)
def tyX9 : Nat → FieldType := fun k => match k with
  | 0 => .int
  | 1 => .array .int
  | 2 => .int
  | 3 => .int
  | 4 => .int
  | 5 => .int
  | 6 => .int
  | 7 => .int
  | 8 => .int
  | 9 => .int
  | 10 => .int
  | 11 => .int
  | 12 => .array .int
  | 13 => .boolean
  | 14 => .boolean
  | 15 => .array .int
  | 16 => .array .int
  | 17 => .array .int
  | 18 => .array .int
  | 19 => .array .int
  | 20 => .int
  | 21 => .int
  | 22 => .array .int
  | 23 => .array .int
  | 24 => .array .int
  | 25 => .int
  | 26 => .array .int
  | 27 => .int
  | 28 => .int
  | 29 => .int
  | 30 => .int
  | 31 => .long
  | 32 => .long
  | 33 => .long
  | _ => .int
abbrev wsX90 : List Cond := u_ws RX9 TX9 35
theorem nmX9 : ∀ a, a < 35 → ∀ b, b < 35 → a ≠ b → (TX9 a).2.1 ≠ (TX9 b).2.1 := by decide +kernel
theorem tyX9_ok : ∀ k, k < 35 → parseFieldDescriptor (TX9 k).2.2.1 = some (tyX9 k) := by decide +kernel
abbrev cX9_init : ByteArray := prog_11_method_1_code
def yX9_init : MethodName := ⟨RX9, "<init>", "()V"⟩
abbrev cX9_good : ByteArray := prog_11_method_3_code
def yX9_good : MethodName := ⟨RX9, "good", "()V"⟩
abbrev cX9_no : ByteArray := prog_11_method_4_code
def yX9_no : MethodName := ⟨RX9, "no", "(I)I"⟩
abbrev cX9_isNot : ByteArray := prog_11_method_5_code
def yX9_isNot : MethodName := ⟨RX9, "isNot", "(I)Z"⟩
abbrev cX9_in : ByteArray := prog_11_method_6_code
def yX9_in : MethodName := ⟨RX9, "in", "(III)Z"⟩
abbrev cX9_hasBit : ByteArray := prog_11_method_7_code
def yX9_hasBit : MethodName := ⟨RX9, "hasBit", "(II)Z"⟩
abbrev cX9_ones : ByteArray := prog_11_method_8_code
def yX9_ones : MethodName := ⟨RX9, "ones", "(I)I"⟩
abbrev cX9_copy : ByteArray := prog_11_method_9_code
def yX9_copy : MethodName := ⟨RX9, "copy", "([II[III)V"⟩
abbrev cX9_lowest : ByteArray := prog_11_method_10_code
def yX9_lowest : MethodName := ⟨RX9, "lowest", "(JJZ)J"⟩
abbrev cX9_feed : ByteArray := prog_11_method_11_code
def yX9_feed : MethodName := ⟨RX9, "feed", "(IIIII)I"⟩
abbrev cX9_see : ByteArray := prog_11_method_12_code
def yX9_see : MethodName := ⟨RX9, "see", "(I)I"⟩
abbrev cX9_isSmall : ByteArray := prog_11_method_13_code
def yX9_isSmall : MethodName := ⟨RX9, "isSmall", "(I)Z"⟩
abbrev cX9_isDigit : ByteArray := prog_11_method_14_code
def yX9_isDigit : MethodName := ⟨RX9, "isDigit", "(I)Z"⟩
abbrev cX9_next : ByteArray := prog_11_method_15_code
def yX9_next : MethodName := ⟨RX9, "next", "()V"⟩
abbrev cX9_wrong : ByteArray := prog_11_method_16_code
def yX9_wrong : MethodName := ⟨RX9, "wrong", "(II)V"⟩
abbrev cX9_isWord : ByteArray := prog_11_method_17_code
def yX9_isWord : MethodName := ⟨RX9, "isWord", "(Ljava/lang/String;)Z"⟩
abbrev cX9_takesWord : ByteArray := prog_11_method_18_code
def yX9_takesWord : MethodName := ⟨RX9, "takesWord", "(Ljava/lang/String;)Z"⟩
abbrev cX9_must : ByteArray := prog_11_method_19_code
def yX9_must : MethodName := ⟨RX9, "must", "(Ljava/lang/String;)V"⟩
abbrev cX9_mustName : ByteArray := prog_11_method_20_code
def yX9_mustName : MethodName := ⟨RX9, "mustName", "()V"⟩
abbrev cX9_find : ByteArray := prog_11_method_21_code
def yX9_find : MethodName := ⟨RX9, "find", "()I"⟩
abbrev cX9_newName : ByteArray := prog_11_method_22_code
def yX9_newName : MethodName := ⟨RX9, "newName", "(I)V"⟩
abbrev cX9_named : ByteArray := prog_11_method_23_code
def yX9_named : MethodName := ⟨RX9, "named", "(II)I"⟩
abbrev cX9_manHere : ByteArray := prog_11_method_24_code
def yX9_manHere : MethodName := ⟨RX9, "manHere", "()I"⟩
abbrev cX9_motionHere : ByteArray := prog_11_method_25_code
def yX9_motionHere : MethodName := ⟨RX9, "motionHere", "()I"⟩
abbrev cX9_pass : ByteArray := prog_11_method_26_code
def yX9_pass : MethodName := ⟨RX9, "pass", "()V"⟩
abbrev cX9_number : ByteArray := prog_11_method_27_code
def yX9_number : MethodName := ⟨RX9, "number", "(II)I"⟩
abbrev cX9_after : ByteArray := prog_11_method_28_code
def yX9_after : MethodName := ⟨RX9, "after", "(Ljava/lang/String;II)I"⟩
abbrev cX9_colourHere : ByteArray := prog_11_method_29_code
def yX9_colourHere : MethodName := ⟨RX9, "colourHere", "()I"⟩
abbrev cX9_town : ByteArray := prog_11_method_30_code
def yX9_town : MethodName := ⟨RX9, "town", "(I)I"⟩
abbrev cX9_asTold : ByteArray := prog_11_method_31_code
def yX9_asTold : MethodName := ⟨RX9, "asTold", "([I)V"⟩
abbrev cX9_begins : ByteArray := prog_11_method_32_code
def yX9_begins : MethodName := ⟨RX9, "begins", "(Ljava/lang/String;Z)Z"⟩
abbrev cX9_readLine : ByteArray := prog_11_method_33_code
def yX9_readLine : MethodName := ⟨RX9, "readLine", "()V"⟩
abbrev cX9_townLine : ByteArray := prog_11_method_34_code
def yX9_townLine : MethodName := ⟨RX9, "townLine", "()V"⟩
abbrev cX9_manLine : ByteArray := prog_11_method_35_code
def yX9_manLine : MethodName := ⟨RX9, "manLine", "()V"⟩
abbrev cX9_motionLine : ByteArray := prog_11_method_36_code
def yX9_motionLine : MethodName := ⟨RX9, "motionLine", "()V"⟩
abbrev cX9_againstLine : ByteArray := prog_11_method_37_code
def yX9_againstLine : MethodName := ⟨RX9, "againstLine", "()V"⟩
abbrev cX9_amendsLine : ByteArray := prog_11_method_38_code
def yX9_amendsLine : MethodName := ⟨RX9, "amendsLine", "()V"⟩
abbrev cX9_quarrelLine : ByteArray := prog_11_method_39_code
def yX9_quarrelLine : MethodName := ⟨RX9, "quarrelLine", "()V"⟩
abbrev cX9_chairLine : ByteArray := prog_11_method_40_code
def yX9_chairLine : MethodName := ⟨RX9, "chairLine", "()V"⟩
abbrev cX9_heapLine : ByteArray := prog_11_method_41_code
def yX9_heapLine : MethodName := ⟨RX9, "heapLine", "()V"⟩
abbrev cX9_fault : ByteArray := prog_11_method_42_code
def yX9_fault : MethodName := ⟨RX9, "fault", "()I"⟩
abbrev cX9_where : ByteArray := prog_11_method_43_code
def yX9_where : MethodName := ⟨RX9, "where", "()I"⟩
abbrev cX9_isMan : ByteArray := prog_11_method_44_code
def yX9_isMan : MethodName := ⟨RX9, "isMan", "(I)Z"⟩
abbrev cX9_isMotion : ByteArray := prog_11_method_45_code
def yX9_isMotion : MethodName := ⟨RX9, "isMotion", "(I)Z"⟩
abbrev cX9_isChair : ByteArray := prog_11_method_46_code
def yX9_isChair : MethodName := ⟨RX9, "isChair", "(I)Z"⟩
abbrev cX9_allMen : ByteArray := prog_11_method_47_code
def yX9_allMen : MethodName := ⟨RX9, "allMen", "()I"⟩
abbrev cX9_isBald : ByteArray := prog_11_method_48_code
def yX9_isBald : MethodName := ⟨RX9, "isBald", "([II)Z"⟩
abbrev cX9_baldOf : ByteArray := prog_11_method_49_code
def yX9_baldOf : MethodName := ⟨RX9, "baldOf", "([I)I"⟩
abbrev cX9_doesSay : ByteArray := prog_11_method_50_code
def yX9_doesSay : MethodName := ⟨RX9, "doesSay", "([III)Z"⟩
abbrev cX9_sayersOf : ByteArray := prog_11_method_51_code
def yX9_sayersOf : MethodName := ⟨RX9, "sayersOf", "([II)I"⟩
abbrev cX9_votesOf : ByteArray := prog_11_method_52_code
def yX9_votesOf : MethodName := ⟨RX9, "votesOf", "(I)I"⟩
abbrev cX9_yesOf : ByteArray := prog_11_method_53_code
def yX9_yesOf : MethodName := ⟨RX9, "yesOf", "([II)I"⟩
abbrev cX9_isEnough : ByteArray := prog_11_method_54_code
def yX9_isEnough : MethodName := ⟨RX9, "isEnough", "([II)Z"⟩
abbrev cX9_mayBePut : ByteArray := prog_11_method_55_code
def yX9_mayBePut : MethodName := ⟨RX9, "mayBePut", "([II)Z"⟩
abbrev cX9_cutBy : ByteArray := prog_11_method_56_code
def yX9_cutBy : MethodName := ⟨RX9, "cutBy", "([II)V"⟩
abbrev cX9_putOf : ByteArray := prog_11_method_57_code
def yX9_putOf : MethodName := ⟨RX9, "putOf", "([II)Z"⟩
abbrev cX9_weekOf : ByteArray := prog_11_method_58_code
def yX9_weekOf : MethodName := ⟨RX9, "weekOf", "([I)V"⟩
abbrev cX9_goOver : ByteArray := prog_11_method_59_code
def yX9_goOver : MethodName := ⟨RX9, "goOver", "(I)V"⟩
abbrev cX9_man : ByteArray := prog_11_method_60_code
def yX9_man : MethodName := ⟨RX9, "man", "(II)I"⟩
abbrev cX9_saidBy : ByteArray := prog_11_method_61_code
def yX9_saidBy : MethodName := ⟨RX9, "saidBy", "(I)I"⟩
abbrev cX9_motion : ByteArray := prog_11_method_62_code
def yX9_motion : MethodName := ⟨RX9, "motion", "(II)I"⟩
abbrev cX9_floor : ByteArray := prog_11_method_63_code
def yX9_floor : MethodName := ⟨RX9, "floor", "(I)I"⟩
abbrev cX9_bald : ByteArray := prog_11_method_64_code
def yX9_bald : MethodName := ⟨RX9, "bald", "()I"⟩
abbrev cX9_longest : ByteArray := prog_11_method_65_code
def yX9_longest : MethodName := ⟨RX9, "longest", "()I"⟩
abbrev cX9_ready : ByteArray := prog_11_method_66_code
def yX9_ready : MethodName := ⟨RX9, "ready", "()I"⟩
abbrev cX9_hairy : ByteArray := prog_11_method_67_code
def yX9_hairy : MethodName := ⟨RX9, "hairy", "()I"⟩
abbrev cX9_quorum : ByteArray := prog_11_method_68_code
def yX9_quorum : MethodName := ⟨RX9, "quorum", "()I"⟩
abbrev cX9_behind : ByteArray := prog_11_method_69_code
def yX9_behind : MethodName := ⟨RX9, "behind", "(I)I"⟩
abbrev cX9_depthOf : ByteArray := prog_11_method_70_code
def yX9_depthOf : MethodName := ⟨RX9, "depthOf", "(I)I"⟩
abbrev cX9_depth : ByteArray := prog_11_method_71_code
def yX9_depth : MethodName := ⟨RX9, "depth", "(I)I"⟩
abbrev cX9_why : ByteArray := prog_11_method_72_code
def yX9_why : MethodName := ⟨RX9, "why", "(ZZ)I"⟩
abbrev cX9_longIn : ByteArray := prog_11_method_73_code
def yX9_longIn : MethodName := ⟨RX9, "longIn", "(II)I"⟩
abbrev cX9_yesIn : ByteArray := prog_11_method_74_code
def yX9_yesIn : MethodName := ⟨RX9, "yesIn", "(II)I"⟩
abbrev cX9_carryOf : ByteArray := prog_11_method_75_code
def yX9_carryOf : MethodName := ⟨RX9, "carryOf", "(I)I"⟩
abbrev cX9_carryIn : ByteArray := prog_11_method_76_code
def yX9_carryIn : MethodName := ⟨RX9, "carryIn", "(I)I"⟩
abbrev cX9_hairyIn : ByteArray := prog_11_method_77_code
def yX9_hairyIn : MethodName := ⟨RX9, "hairyIn", "()I"⟩
abbrev cX9_soonest : ByteArray := prog_11_method_78_code
def yX9_soonest : MethodName := ⟨RX9, "soonest", "()I"⟩
abbrev cX9_goBy : ByteArray := prog_11_method_79_code
def yX9_goBy : MethodName := ⟨RX9, "goBy", "(II)I"⟩
abbrev cX9_isRowOf : ByteArray := prog_11_method_80_code
def yX9_isRowOf : MethodName := ⟨RX9, "isRowOf", "(II)Z"⟩
abbrev cX9_worthOf : ByteArray := prog_11_method_81_code
def yX9_worthOf : MethodName := ⟨RX9, "worthOf", "(II)I"⟩
abbrev cX9_rowsOf : ByteArray := prog_11_method_82_code
def yX9_rowsOf : MethodName := ⟨RX9, "rowsOf", "(I)I"⟩
abbrev cX9_bestOf : ByteArray := prog_11_method_83_code
def yX9_bestOf : MethodName := ⟨RX9, "bestOf", "(I)I"⟩
abbrev cX9_bestRow : ByteArray := prog_11_method_84_code
def yX9_bestRow : MethodName := ⟨RX9, "bestRow", "(I)I"⟩
abbrev cX9_bestWorth : ByteArray := prog_11_method_85_code
def yX9_bestWorth : MethodName := ⟨RX9, "bestWorth", "(I)I"⟩
abbrev cX9_bestCarried : ByteArray := prog_11_method_86_code
def yX9_bestCarried : MethodName := ⟨RX9, "bestCarried", "(I)I"⟩
abbrev cX9_weeksFor : ByteArray := prog_11_method_87_code
def yX9_weeksFor : MethodName := ⟨RX9, "weeksFor", "(I)I"⟩
abbrev cX9_turnsOf : ByteArray := prog_11_method_88_code
def yX9_turnsOf : MethodName := ⟨RX9, "turnsOf", "(II)I"⟩
abbrev cX9_swings : ByteArray := prog_11_method_89_code
def yX9_swings : MethodName := ⟨RX9, "swings", "(II)I"⟩
abbrev cX9_mighty : ByteArray := prog_11_method_90_code
def yX9_mighty : MethodName := ⟨RX9, "mighty", "(I)I"⟩
abbrev cX9_outvoted : ByteArray := prog_11_method_91_code
def yX9_outvoted : MethodName := ⟨RX9, "outvoted", "(I)I"⟩
abbrev cX9_bench : ByteArray := prog_11_method_92_code
def yX9_bench : MethodName := ⟨RX9, "bench", "(I)I"⟩
abbrev cX9_quarrelsOf : ByteArray := prog_11_method_93_code
def yX9_quarrelsOf : MethodName := ⟨RX9, "quarrelsOf", "(II)I"⟩
abbrev cX9_partingOf : ByteArray := prog_11_method_94_code
def yX9_partingOf : MethodName := ⟨RX9, "partingOf", "()I"⟩
abbrev cX9_parting : ByteArray := prog_11_method_95_code
def yX9_parting : MethodName := ⟨RX9, "parting", "()I"⟩
abbrev cX9_left : ByteArray := prog_11_method_96_code
def yX9_left : MethodName := ⟨RX9, "left", "()I"⟩
abbrev cX9_peace : ByteArray := prog_11_method_97_code
def yX9_peace : MethodName := ⟨RX9, "peace", "()I"⟩
abbrev cX9_apartOf : ByteArray := prog_11_method_98_code
def yX9_apartOf : MethodName := ⟨RX9, "apartOf", "(II)I"⟩
abbrev cX9_apart : ByteArray := prog_11_method_99_code
def yX9_apart : MethodName := ⟨RX9, "apart", "(II)I"⟩
abbrev cX9_tryRound : ByteArray := prog_11_method_100_code
def yX9_tryRound : MethodName := ⟨RX9, "tryRound", "(III)V"⟩
abbrev cX9_seekRound : ByteArray := prog_11_method_101_code
def yX9_seekRound : MethodName := ⟨RX9, "seekRound", "()V"⟩
abbrev cX9_round : ByteArray := prog_11_method_102_code
def yX9_round : MethodName := ⟨RX9, "round", "()I"⟩
abbrev cX9_roundAt : ByteArray := prog_11_method_103_code
def yX9_roundAt : MethodName := ⟨RX9, "roundAt", "(I)I"⟩
abbrev cX9_doesFit : ByteArray := prog_11_method_104_code
def yX9_doesFit : MethodName := ⟨RX9, "doesFit", "(I)Z"⟩
abbrev cX9_seekSets : ByteArray := prog_11_method_105_code
def yX9_seekSets : MethodName := ⟨RX9, "seekSets", "(I)I"⟩
abbrev cX9_fits : ByteArray := prog_11_method_106_code
def yX9_fits : MethodName := ⟨RX9, "fits", "()I"⟩
abbrev cX9_fitAt : ByteArray := prog_11_method_107_code
def yX9_fitAt : MethodName := ⟨RX9, "fitAt", "(I)I"⟩
abbrev cX9_could : ByteArray := prog_11_method_108_code
def yX9_could : MethodName := ⟨RX9, "could", "()I"⟩
abbrev cX9_surely : ByteArray := prog_11_method_109_code
def yX9_surely : MethodName := ⟨RX9, "surely", "()I"⟩
abbrev cX9_leavesOf : ByteArray := prog_11_method_110_code
def yX9_leavesOf : MethodName := ⟨RX9, "leavesOf", "(I)I"⟩
abbrev cX9_askOf : ByteArray := prog_11_method_111_code
def yX9_askOf : MethodName := ⟨RX9, "askOf", "()I"⟩
abbrev cX9_ask : ByteArray := prog_11_method_112_code
def yX9_ask : MethodName := ⟨RX9, "ask", "()I"⟩
abbrev cX9_askLeaves : ByteArray := prog_11_method_113_code
def yX9_askLeaves : MethodName := ⟨RX9, "askLeaves", "()I"⟩
abbrev cX9_talkOf : ByteArray := prog_11_method_114_code
def yX9_talkOf : MethodName := ⟨RX9, "talkOf", "(IZZ)I"⟩
abbrev cX9_talk : ByteArray := prog_11_method_115_code
def yX9_talk : MethodName := ⟨RX9, "talk", "(IZZZ)I"⟩
abbrev cX9_isRest : ByteArray := prog_11_method_116_code
def yX9_isRest : MethodName := ⟨RX9, "isRest", "(IZZ)Z"⟩
abbrev cX9_seekRests : ByteArray := prog_11_method_117_code
def yX9_seekRests : MethodName := ⟨RX9, "seekRests", "(I)I"⟩
abbrev cX9_rests : ByteArray := prog_11_method_118_code
def yX9_rests : MethodName := ⟨RX9, "rests", "(I)I"⟩
abbrev cX9_rest : ByteArray := prog_11_method_119_code
def yX9_rest : MethodName := ⟨RX9, "rest", "(I)I"⟩
abbrev cX9_tryShaves : ByteArray := prog_11_method_120_code
def yX9_tryShaves : MethodName := ⟨RX9, "tryShaves", "(I)V"⟩
abbrev cX9_odds : ByteArray := prog_11_method_121_code
def yX9_odds : MethodName := ⟨RX9, "odds", "(IZ)J"⟩
abbrev cX9_mean : ByteArray := prog_11_method_122_code
def yX9_mean : MethodName := ⟨RX9, "mean", "(IZ)J"⟩
abbrev cX9_shavesWhy : ByteArray := prog_11_method_123_code
def yX9_shavesWhy : MethodName := ⟨RX9, "shavesWhy", "(ZIII)I"⟩
abbrev cX9_shaves : ByteArray := prog_11_method_124_code
def yX9_shaves : MethodName := ⟨RX9, "shaves", "(III)I"⟩
abbrev cX9_carries : ByteArray := prog_11_method_125_code
def yX9_carries : MethodName := ⟨RX9, "carries", "(III)I"⟩
abbrev cX9_note : ByteArray := prog_11_method_126_code
def yX9_note : MethodName := ⟨RX9, "note", "()V"⟩
abbrev cX9_put : ByteArray := prog_11_method_127_code
def yX9_put : MethodName := ⟨RX9, "put", "(I)I"⟩
abbrev cX9_week : ByteArray := prog_11_method_128_code
def yX9_week : MethodName := ⟨RX9, "week", "()I"⟩
abbrev cX9_shave : ByteArray := prog_11_method_129_code
def yX9_shave : MethodName := ⟨RX9, "shave", "(I)I"⟩
abbrev cX9_undo : ByteArray := prog_11_method_130_code
def yX9_undo : MethodName := ⟨RX9, "undo", "()Z"⟩
abbrev cX9_image : ByteArray := prog_11_method_131_code
def yX9_image : MethodName := ⟨RX9, "image", "()I"⟩
abbrev cX9_back : ByteArray := prog_11_method_132_code
def yX9_back : MethodName := ⟨RX9, "back", "(I)Z"⟩
abbrev cX9_led : ByteArray := prog_11_method_133_code
def yX9_led : MethodName := ⟨RX9, "led", "(I)I"⟩
abbrev cX9_size : ByteArray := prog_11_method_134_code
def yX9_size : MethodName := ⟨RX9, "size", "(I)I"⟩
abbrev cX9_trouble : ByteArray := prog_11_method_135_code
def yX9_trouble : MethodName := ⟨RX9, "trouble", "()I"⟩
abbrev vwCl : List vw_C := [(RX0, TX0, 5), (RX1, TX1, 3), (RX2, TX2, 4), (RX3, TX3, 5), (RX4, TX4, 14), (RX5, TX5, 3), (RX6, TX6, 3), (RX7, TX7, 19), (RX8, TX8, 15), (RX9, TX9, 35)]
end
section
/-! THE ENGINE: an abstract run of the bytecode over a picture of the world; a value is (tag, number): 0 an int, 1 a cell of the world, 2 null, 3 an int variable, 4 a long, 5 a cell that was there before, 6 a long variable -/
abbrev ev_A : Type := Nat × Int
abbrev ev_C : Type := Nat × List ev_A
abbrev ev_K : Type := List (Int × Int)
abbrev ev_G : Type := List Nat × (Nat → Nat) × List Value
abbrev ev_S : Type := Nat × List (Nat × ev_A) × List ev_A × List ev_C × ev_K × Nat × Nat
def ev_v (g : ev_G) (a : ev_A) : Option Value :=
  match a.1 with
  | 0 => some (.int (Int32.ofInt a.2))
  | 1 => (g.1[a.2.toNat]?).map Value.ref
  | 2 => some .null
  | 3 => match g.2.2[a.2.toNat]? with
    | some (.int x) => some (.int x)
    | _ => none
  | 4 => some (.long (Int64.ofInt a.2))
  | 5 => some (.ref (g.2.1 a.2.toNat))
  | 6 => match g.2.2[a.2.toNat]? with
    | some (.long x) => some (.long x)
    | _ => none
  | 7 => match g.2.2[a.2.toNat]? with
    | some .null => some .null
    | some (.ref x) => some (.ref x)
    | _ => none
  | _ => none
def ev_le (g g' : ev_G) : Prop := (∃ l, g'.1 = g.1 ++ l) ∧ g'.2.1 = g.2.1 ∧ ∃ l, g'.2.2 = g.2.2 ++ l
theorem ev_le_rf (g : ev_G) : ev_le g g := ⟨⟨[], by simp⟩, rfl, ⟨[], by simp⟩⟩
theorem ev_le_tr {a b c : ev_G} (h1 : ev_le a b) (h2 : ev_le b c) : ev_le a c := by
  obtain ⟨⟨l1, e1⟩, e2, ⟨l3, e3⟩⟩ := h1
  obtain ⟨⟨k1, f1⟩, f2, ⟨k3, f3⟩⟩ := h2
  exact ⟨⟨l1 ++ k1, by rw [f1, e1, List.append_assoc]⟩, f2.trans e2, ⟨l3 ++ k3, by rw [f3, e3, List.append_assoc]⟩⟩
theorem ev_ap {α : Type} {l k : List α} {i : Nat} {x : α} (h : l[i]? = some x) : (l ++ k)[i]? = some x := by
  rw [List.getElem?_append_left (List.getElem?_eq_some_iff.mp h).1]; exact h
theorem ev_v_le {g g' : ev_G} {a : ev_A} {v : Value} (h : ev_le g g') (hv : ev_v g a = some v) : ev_v g' a = some v := by
  obtain ⟨⟨l1, e1⟩, e2, ⟨l3, e3⟩⟩ := h
  obtain ⟨t, n⟩ := a
  unfold ev_v at hv ⊢
  split at hv
  · exact hv
  · cases hq : g.1[n.toNat]? with
    | none => simp [hq] at hv
    | some q =>
      simp only [hq, Option.map_some] at hv
      simp only [e1, ev_ap hq, Option.map_some]
      exact hv
  · exact hv
  · cases hq : g.2.2[n.toNat]? with
    | none => simp [hq] at hv
    | some q =>
      simp only [hq] at hv
      simp only [e3, ev_ap hq]
      exact hv
  · exact hv
  · simp only [e2]; exact hv
  · cases hq : g.2.2[n.toNat]? with
    | none => simp [hq] at hv
    | some q =>
      simp only [hq] at hv
      simp only [e3, ev_ap hq]
      exact hv
  · cases hq : g.2.2[n.toNat]? with
    | none => simp [hq] at hv
    | some q =>
      simp only [hq] at hv
      simp only [e3, ev_ap hq]
      exact hv
  · cases hv
/-- an int value -/
def ev_isI (a : ev_A) : Bool := a.1 == 0 || a.1 == 3
def ev_isL (a : ev_A) : Bool := a.1 == 4 || a.1 == 6
theorem ev_vI {g : ev_G} {a : ev_A} {v : Value} (h : ev_isI a = true) (hv : ev_v g a = some v) : ∃ x : Int32, v = .int x := by
  obtain ⟨t, n⟩ := a
  simp only [ev_isI, Bool.or_eq_true, beq_iff_eq] at h
  rcases h with h | h
  · subst h
    exact ⟨_, (Option.some.inj hv).symm⟩
  · subst h
    simp only [ev_v] at hv
    split at hv
    · exact ⟨_, (Option.some.inj hv).symm⟩
    · cases hv
theorem ev_vL {g : ev_G} {a : ev_A} {v : Value} (h : ev_isL a = true) (hv : ev_v g a = some v) : ∃ x : Int64, v = .long x := by
  obtain ⟨t, n⟩ := a
  simp only [ev_isL, Bool.or_eq_true, beq_iff_eq] at h
  rcases h with h | h
  · subst h
    exact ⟨_, (Option.some.inj hv).symm⟩
  · subst h
    simp only [ev_v] at hv
    split at hv
    · exact ⟨_, (Option.some.inj hv).symm⟩
    · cases hv
theorem ev_cat {g : ev_G} {a : ev_A} {v : Value} (hv : ev_v g a = some v) : (ev_isL a = true ∧ v.category = 2) ∨ (ev_isL a = false ∧ v.category = 1) := by
  obtain ⟨t, n⟩ := a
  unfold ev_v at hv
  split at hv
  · rename_i h
    simp only at h
    subst h
    cases hv
    exact Or.inr ⟨rfl, rfl⟩
  · rename_i h
    simp only at h
    subst h
    cases hq : g.1[n.toNat]? with
    | none => simp [hq] at hv
    | some q =>
      simp only [hq, Option.map_some] at hv
      cases hv
      exact Or.inr ⟨rfl, rfl⟩
  · rename_i h
    simp only at h
    subst h
    cases hv
    exact Or.inr ⟨rfl, rfl⟩
  · rename_i h
    simp only at h
    subst h
    split at hv
    · cases hv
      exact Or.inr ⟨rfl, rfl⟩
    · cases hv
  · rename_i h
    simp only at h
    subst h
    cases hv
    exact Or.inl ⟨rfl, rfl⟩
  · rename_i h
    simp only at h
    subst h
    cases hv
    exact Or.inr ⟨rfl, rfl⟩
  · rename_i h
    simp only at h
    subst h
    split at hv
    · cases hv
      exact Or.inl ⟨rfl, rfl⟩
    · cases hv
  · rename_i h
    simp only at h
    subst h
    split at hv
    · cases hv
      exact Or.inr ⟨rfl, rfl⟩
    · cases hv
      exact Or.inr ⟨rfl, rfl⟩
    · cases hv
  · cases hv
/-- the words that a callee may take along -/
def lw_good : List Cond := lw_tbl.filter goodWord
theorem lw_good_in {w : Cond} (h : w ∈ lw_good) : w ∈ lw_tbl := (List.mem_filter.mp h).1
theorem lw_good_at {w : Cond} (i : Nat) (h : lw_tbl[i]? = some w) (hg : goodWord w = true) : w ∈ lw_good := List.mem_filter.mpr ⟨List.mem_of_getElem? h, hg⟩
theorem lw_good_good {ws : List Cond} (hy : ∀ w ∈ ws, w ∈ lw_good) : GoodIn lw_good ws := fun w h => ⟨hy w h, good_of_word (List.mem_filter.mp (hy w h)).2⟩
/-- the types of arrays that the worlds hold -/
def ev_ty : Nat → FieldType
  | 0 => .int
  | 1 => .byte
  | 2 => .long
  | _ => .object "BarberMinutes$Minutes"
def ev_ar (g : ev_G) (t : Nat) (cs : List ev_A) (a : (Nat → Int32) ⊕ (Nat → Int64) ⊕ (Nat → UInt32) ⊕ (Nat → UInt64) ⊕ (Nat → Option Nat)) : Prop :=
  match a with
  | .inl f => t < 2 ∧ ∀ (j : Nat) (x : ev_A), cs[j]? = some x → ev_v g x = some (.int (f j))
  | .inr (.inl f) => t = 2 ∧ ∀ (j : Nat) (x : ev_A), cs[j]? = some x → ev_v g x = some (.long (f j))
  | .inr (.inr (.inr (.inr f))) => t = 3 ∧ ∀ (j : Nat) (x : ev_A), cs[j]? = some x → ev_v g x = some (va_rf (f j))
  | _ => False
def ev_c (s : State) (g : ev_G) (c : ev_C) (x : va_E) : Prop := match x with
  | .inr o => c.1 = o.1 ∧ c.1 < 100 ∧ o.2.length = c.2.length ∧ ∀ (j : Nat) (a : ev_A), c.2[j]? = some a → ∃ v, ev_v g a = some v ∧ o.2[j]? = some v
  | .inl a => ∃ t, t < 4 ∧ c.1 = 100 + t ∧ a.2.1 = c.2.length ∧ ArrOfT s a.1 (ev_ty t) ∧ va_RA s a.1 (ev_ty t) ∧ ev_ar g t c.2 a.2.2
theorem ev_ar_le {g g' : ev_G} {t : Nat} {cs : List ev_A} {a} (h : ev_le g g') (h1 : ev_ar g t cs a) : ev_ar g' t cs a := by
  unfold ev_ar at h1 ⊢
  split at h1
  · exact ⟨h1.1, fun j x hx => ev_v_le h (h1.2 j x hx)⟩
  · exact ⟨h1.1, fun j x hx => ev_v_le h (h1.2 j x hx)⟩
  · exact ⟨h1.1, fun j x hx => ev_v_le h (h1.2 j x hx)⟩
  · exact h1
theorem ev_c_le {s : State} {g g' : ev_G} {c : ev_C} {x : va_E} (h : ev_le g g') (h1 : ev_c s g c x) : ev_c s g' c x := by
  cases x with
  | inr o =>
    obtain ⟨a1, a2, a3, a4⟩ := h1
    exact ⟨a1, a2, a3, fun j a hj => by
      obtain ⟨v, b1, b2⟩ := a4 j a hj
      exact ⟨v, ev_v_le h b1, b2⟩⟩
  | inl a =>
    obtain ⟨t, a1, a2, a3, a4, a5, a6⟩ := h1
    exact ⟨t, a1, a2, a3, a4, a5, ev_ar_le h a6⟩
theorem ev_c_moved {u U : State} {g : ev_G} {c : ev_C} {x : va_E} (hvm : u.vm.Alike U.vm) (h1 : ev_c u g c x) : ev_c U g c x := by
  cases x with
  | inr o => exact h1
  | inl a =>
    obtain ⟨t, a1, a2, a3, a4, a5, a6⟩ := h1
    exact ⟨t, a1, a2, a3, arrOfT_moved hvm a4, a5.moved hvm, a6⟩
def ev_w (s : State) (g : ev_G) (w : List ev_C) (ws : va_W) : Prop := g.1 = ws.map (fun q => q.1) ∧ w.length = ws.length ∧ ∀ (k : Nat) (c : ev_C) (q : Nat × va_E), w[k]? = some c → ws[k]? = some q → ev_c s g c q.2
theorem ev_w_moved {u U : State} {g : ev_G} {w : List ev_C} {ws : va_W} (hvm : u.vm.Alike U.vm) (h : ev_w u g w ws) : ev_w U g w ws := ⟨h.1, h.2.1, fun k c q h1 h2 => ev_c_moved hvm (h.2.2 k c q h1 h2)⟩
/-- the bounds of the variables -/
def ev_b (K : ev_K) (E : List Value) : Prop := K.length = E.length ∧ ∀ (k : Nat) (r : Int × Int) (x : Int32), K[k]? = some r → E[k]? = some (.int x) → r.1 ≤ x.toInt ∧ x.toInt ≤ r.2
def ev_l (g : ev_G) (L : List (Nat × ev_A)) (nL : Nat) (ls : Array Slot) : Prop := ls.size = nL ∧ lv_wf ls ∧ ∀ q ∈ L, ∃ v, ev_v g q.2 = some v ∧ ls[q.1]? = some (.val v)
theorem ev_l_le {g g' : ev_G} {L : List (Nat × ev_A)} {nL : Nat} {ls : Array Slot} (h : ev_le g g') (h1 : ev_l g L nL ls) : ev_l g' L nL ls := ⟨h1.1, h1.2.1, fun q hq => by
  obtain ⟨v, a, b⟩ := h1.2.2 q hq
  exact ⟨v, ev_v_le h a, b⟩⟩
def ev_s (g : ev_G) : List ev_A → List Value → Prop
  | [], [] => True
  | a :: st, v :: sc => ev_v g a = some v ∧ ev_s g st sc
  | _, _ => False
theorem ev_s_le {g g' : ev_G} (h : ev_le g g') : ∀ {st : List ev_A} {sc : List Value}, ev_s g st sc → ev_s g' st sc
  | [], [], _ => trivial
  | [], _ :: _, h1 => h1.elim
  | _ :: _, [], h1 => h1.elim
  | a :: st, v :: sc, h1 => ⟨ev_v_le h h1.1, ev_s_le h h1.2⟩
theorem ev_s_cons {g : ev_G} {a : ev_A} {st : List ev_A} {sc : List Value} (h : ev_s g (a :: st) sc) : ∃ v sc', sc = v :: sc' ∧ ev_v g a = some v ∧ ev_s g st sc' := by
  cases sc with
  | nil => exact h.elim
  | cons v sc' => exact ⟨v, sc', rfl, h.1, h.2⟩
theorem ev_s_nil {g : ev_G} {sc : List Value} (h : ev_s g [] sc) : sc = [] := by
  cases sc with
  | nil => rfl
  | cons v sc' => exact h.elim
/-- what holds between a picture and the machine -/
def ev_R (s : State) (A : Nat → Prop) (D : va_G) (nL : Nat) (g : ev_G) (S : ev_S) (ws : va_W) (H : Heap) (locs : List Loc) (ls : Array Slot) (sc : List Value) : Prop :=
  va_P D vwCl ws H ∧ va_D A ws ∧ va_S A s.heap H locs ∧ ev_w s g S.2.2.2.1 ws ∧ ev_b S.2.2.2.2.1 g.2.2 ∧ ev_l g S.2.1 nL ls ∧ ev_s g S.2.2.1 sc
/-- the goal from a picture: the machine comes to an end with Q, wherever it stands as the picture says -/
def ev_Go (p : Program) (l : Launch) (e : Env) (R : Room) (s : State) (m : MethodId) (args : Array Value) (below : List Frame) (meth : Method) (c : Code) (Q : State → Prop) (nL : Nat) (D : va_G) (A : Nat → Prop) (g0 : ev_G) (S : ev_S) : Prop :=
  ∀ (g : ev_G) (ws : va_W) (H : Heap) (locs : List Loc) (ls : Array Slot) (sc : List Value), ev_le g0 g → ev_R s A D nL g S ws H locs ls sc → W p l e R s m args below meth c H locs S.2.2.2.2.2.1 S.2.2.2.2.2.2 Q (F0 m S.1 ls sc)
/-- the text constants: class, pool number, text, bytes; the k-th stands at X (1 + 2 k), its bytes at X (2 + 2 k) -/
def ev_strs : List (String × Nat × String × List Int32) := [("BarberMinutes$Reader", 217, "town", [116, 111, 119, 110]),
  ("BarberMinutes$Reader", 218, "man", [109, 97, 110]),
  ("BarberMinutes$Reader", 220, "motion", [109, 111, 116, 105, 111, 110]),
  ("BarberMinutes$Reader", 222, "against", [97, 103, 97, 105, 110, 115, 116]),
  ("BarberMinutes$Reader", 223, "amends", [97, 109, 101, 110, 100, 115]),
  ("BarberMinutes$Reader", 224, "quarrel", [113, 117, 97, 114, 114, 101, 108]),
  ("BarberMinutes$Reader", 226, "chair", [99, 104, 97, 105, 114]),
  ("BarberMinutes$Reader", 228, "heap", [104, 101, 97, 112]),
  ("BarberMinutes$Reader", 131, "grows", [103, 114, 111, 119, 115]),
  ("BarberMinutes$Reader", 142, "bald", [98, 97, 108, 100]),
  ("BarberMinutes$Reader", 147, "shave", [115, 104, 97, 118, 101]),
  ("BarberMinutes$Reader", 207, "fair", [102, 97, 105, 114]),
  ("BarberMinutes$Reader", 209, "dark", [100, 97, 114, 107]),
  ("BarberMinutes$Reader", 211, "grey", [103, 114, 101, 121]),
  ("BarberMinutes$Reader", 159, "long", [108, 111, 110, 103]),
  ("BarberMinutes$Reader", 161, "votes", [118, 111, 116, 101, 115]),
  ("BarberMinutes$Reader", 167, "cuts", [99, 117, 116, 115]),
  ("BarberMinutes$Reader", 169, "needs", [110, 101, 101, 100, 115]),
  ("BarberMinutes$Reader", 171, "worth", [119, 111, 114, 116, 104]),
  ("BarberMinutes$Reader", 182, "at", [97, 116]),
  ("BarberMinutesModel", 116, "town", [116, 111, 119, 110]),
  ("BarberMinutesModel", 216, "grows", [103, 114, 111, 119, 115]),
  ("BarberMinutesModel", 222, "bald", [98, 97, 108, 100]),
  ("BarberMinutesModel", 224, "shave", [115, 104, 97, 118, 101]),
  ("BarberMinutesModel", 118, "man", [109, 97, 110]),
  ("BarberMinutesModel", 120, "motion", [109, 111, 116, 105, 111, 110]),
  ("BarberMinutesModel", 122, "against", [97, 103, 97, 105, 110, 115, 116]),
  ("BarberMinutesModel", 124, "amends", [97, 109, 101, 110, 100, 115]),
  ("BarberMinutesModel", 126, "quarrel", [113, 117, 97, 114, 114, 101, 108]),
  ("BarberMinutesModel", 128, "chair", [99, 104, 97, 105, 114]),
  ("BarberMinutesModel", 130, "heap", [104, 101, 97, 112]),
  ("BarberMinutesModel", 153, "fair", [102, 97, 105, 114]),
  ("BarberMinutesModel", 155, "dark", [100, 97, 114, 107]),
  ("BarberMinutesModel", 157, "grey", [103, 114, 101, 121]),
  ("BarberMinutesModel", 233, "long", [108, 111, 110, 103]),
  ("BarberMinutesModel", 235, "votes", [118, 111, 116, 101, 115]),
  ("BarberMinutesModel", 237, "cuts", [99, 117, 116, 115]),
  ("BarberMinutesModel", 239, "needs", [110, 101, 101, 100, 115]),
  ("BarberMinutesModel", 241, "worth", [119, 111, 114, 116, 104]),
  ("BarberMinutesModel", 253, "at", [97, 116])]
/-- words that are not good: links to private members of a nest mate, arrays over a class -/
def lw_nest : List Cond := lw_tbl.filter (fun w => match w with | .methodLinkNest _ _ _ _ => true | .fieldLinkNest _ _ _ _ _ _ => true | _ => false)
/-- what was there before: text constants and a static -/
def ev_E (X : Nat → Nat) (A : Nat → Prop) (U : State) (H : Heap) : Prop :=
  (∀ (k : Nat) (r : String × Nat × String × List Int32), ev_strs[k]? = some r → va_O "java/lang/String" (X (1 + 2 * k)) A U H ∧ va_OF "java/lang/String" "coder" "B" (.int 0) (X (1 + 2 * k)) A U H ∧ va_OF "java/lang/String" "value" "[B" (.ref (X (2 + 2 * k))) (X (1 + 2 * k)) A U H ∧ va_T .byte (X (2 + 2 * k)) r.2.2.2.length (fun j => .int (r.2.2.2.getD j 0)) A U H)
  ∧ va_Z "java/lang/String" "COMPACT_STRINGS" "Z" (.int 1) A U H ∧ va_Zq "jdk/internal/util/Preconditions" "SIOOBE_FORMATTER" "Ljava/util/function/BiFunction;" A U H
def ev_N (X : Nat → Nat) (A : Nat → Prop) (U : State) (H : Heap) : Prop := ((∀ w ∈ lw_nest, va_Nw w U) ∧ va_AO "BarberMinutes$Minutes" U) ∧ (∀ (k : Nat) (r : String × Nat × String × List Int32), ev_strs[k]? = some r → vk_R r.1 r.2.1 r.2.2.1 (X (1 + 2 * k)) U) ∧ ev_E X A U H
theorem ev_E_moved {X : Nat → Nat} {A : Nat → Prop} {u U : State} {H : Heap} (hvm : u.vm.Alike U.vm) (h : ev_E X A u H) : ev_E X A U H := ⟨fun k r hr => ⟨va_O.moved hvm (h.1 k r hr).1, va_OF.moved hvm (h.1 k r hr).2.1, va_OF.moved hvm (h.1 k r hr).2.2.1, va_T.moved hvm (h.1 k r hr).2.2.2⟩, va_Z.moved hvm h.2.1, va_Zq.moved hvm h.2.2⟩
theorem ev_E_kept {X : Nat → Nat} {A : Nat → Prop} {U : State} {H H1 : Heap} (h : ev_E X A U H) (hq : ∀ a : Nat, a < H.size → ¬ A a → H1[a]? = H[a]?) : ev_E X A U H1 := ⟨fun k r hr => ⟨va_O.kept (h.1 k r hr).1 hq, va_OF.kept (h.1 k r hr).2.1 hq, va_OF.kept (h.1 k r hr).2.2.1 hq, va_T.kept (h.1 k r hr).2.2.2 hq⟩, va_Z.kept h.2.1 hq, va_Zq.kept h.2.2 hq⟩
theorem ev_E_narrow {X : Nat → Nat} {A B : Nat → Prop} {U : State} {H : Heap} (h : ev_E X A U H) (hAB : ∀ q, B q → A q) : ev_E X B U H := ⟨fun k r hr => ⟨va_O.narrow (h.1 k r hr).1 hAB, va_OF.narrow (h.1 k r hr).2.1 hAB, va_OF.narrow (h.1 k r hr).2.2.1 hAB, va_T.narrow (h.1 k r hr).2.2.2 hAB⟩, va_Z.narrow h.2.1 hAB, va_Zq.narrow h.2.2 hAB⟩
theorem ev_N_on {w : Cond} (h : w ∈ lw_nest) : w.onTables = true := by
  have h := (List.mem_filter.mp h).2
  split at h
  · rfl
  · rfl
  · cases h
theorem ev_N_same {X : Nat → Nat} {A : Nat → Prop} {u U : State} {H : Heap} (h : u.vm = U.vm) (hN : ev_N X A u H) : ev_N X A U H := ⟨⟨fun w hw => (hN.1.1 w hw).same (ev_N_on hw) h, hN.1.2.moved (by rw [h]; exact Vm.Alike.refl _)⟩, fun k r hr => (hN.2.1 k r hr).same h.symm, ev_E_moved (by rw [h]; exact Vm.Alike.refl _) hN.2.2⟩
theorem ev_N_call {X : Nat → Nat} {A B : Nat → Prop} {s U : State} {H : Heap} {locs : List Loc} (hW : s.WarmedH U.vm) (hU : U.heap = H) (hS : va_S A s.heap H locs) (hAB : ∀ q, B q → A q) (hN : ev_N X A s s.heap) : ev_N X B U U.heap := by
  refine ⟨⟨fun w hw => ?_, hN.1.2.moved hW.alike⟩, fun k r hr => (hN.2.1 k r hr).warm hW, ?_⟩
  · have h := (List.mem_filter.mp hw).2
    have hz := hN.1.1 w hw
    split at h
    · exact va_Nw.warmM hW hz
    · exact va_Nw.warmF hW hz
    · cases h
  · rw [hU]
    exact ev_E_moved hW.alike (ev_E_narrow (ev_E_kept hN.2.2 hS.2.1) hAB)
/-- the fixed facts of a frame -/
def ev_X (p : Program) (R : Room) (s : State) (m : MethodId) (args : Array Value) (meth : Method) (c : Code) (cc : ByteArray) (nL : Nat) (own : String) (ini : Bool) (D : va_G) (A : Nat → Prop) (capC capS : Nat) (g0 : ev_G) (Ls : Nat) : Prop :=
  p.tables.exec = Jvm.exec ∧ c.code = cc ∧ c.maxLocals = nL ∧ s.vm.findClass own = some m.cls ∧ (∀ w ∈ lw_good, w.before args s = true) ∧ va_K D vwCl [] s ∧ (∀ q : Nat, s.heap.size ≤ q → A q) ∧ ev_N g0.2.1 A s s.heap ∧ (ini = true → meth.name = "<init>") ∧ R.cells = capC ∧ R.slots = capS ∧ 1 ≤ R.frames ∧ 40 ≤ R.locals ∧ ∀ L, Ls = L + 1 → ∃ xs : Nat → Int32, va_X (g0.2.1 0) L xs s s.heap ∧ g0.2.1 0 < s.heap.size ∧ ¬ A (g0.2.1 0) ∧ ∀ j : Nat, j < L → g0.2.2[j]? = some (.int (xs j))
end
section
/-! operands, frame data, operations -/
abbrev ev_P : Type := Nat × Nat × Bool × String × Nat × Nat
abbrev ev_T : Type := Int × Int × Int × List Int
abbrev ev_O : Type := (ev_P → ev_T → Option (Instr × Nat × List Cond)) × (ev_P → ev_T → ev_S → Option (List ev_S))
def ev_Snd (o : ev_O) : Prop := ∀ (p : Program) (l : Launch) (e : Env) (R : Room) (s : State) (m : MethodId) (args : Array Value) (below : List Frame) (meth : Method) (c : Code) (cc : ByteArray) (Q : State → Prop) (D : va_G) (A : Nat → Prop) (g0 : ev_G) (P : ev_P) (t : ev_T) (S : ev_S) (i : Instr) (n : Nat) (cs : List Cond) (Ss : List ev_S),
  ev_X p R s m args meth c cc P.2.2.2.2.1 P.2.2.2.1 P.2.2.1 D A P.1 P.2.1 g0 P.2.2.2.2.2 → o.1 P t = some (i, n, cs) → decode cc S.1 = .ok (i, n) → (∀ w ∈ cs, w ∈ lw_good) → o.2 P t S = some Ss → (∀ S' ∈ Ss, ev_Go p l e R s m args below meth c Q P.2.2.2.2.1 D A g0 S') → ev_Go p l e R s m args below meth c Q P.2.2.2.2.1 D A g0 S
theorem ev_lo (x : Int32) : (-2147483648 : Int) ≤ x.toInt := by have := Int32.le_toInt x; omega
theorem ev_hi (x : Int32) : x.toInt ≤ (2147483647 : Int) := by have := Int32.toInt_lt x; omega
def ev_full : Int × Int := (-2147483648, 2147483647)
theorem ev_full_ok (x : Int32) : ev_full.1 ≤ x.toInt ∧ x.toInt ≤ ev_full.2 := ⟨ev_lo x, ev_hi x⟩
theorem ev_v0 (g : ev_G) (x : Int32) : ev_v g (0, x.toInt) = some (.int x) := by
  show some (Value.int (Int32.ofInt x.toInt)) = _
  rw [Int32.ofInt_toInt]
theorem ev_v4 (g : ev_G) (x : Int64) : ev_v g (4, x.toInt) = some (.long x) := by
  show some (Value.long (Int64.ofInt x.toInt)) = _
  rw [Int64.ofInt_toInt]
theorem ev_v3 {g : ev_G} {k : Nat} {x : Int32} (h : g.2.2[k]? = some (.int x)) : ev_v g (3, (k : Int)) = some (.int x) := by
  simp [ev_v, h]
theorem ev_v6 {g : ev_G} {k : Nat} {x : Int64} (h : g.2.2[k]? = some (.long x)) : ev_v g (6, (k : Int)) = some (.long x) := by
  simp [ev_v, h]
theorem ev_w_le {s : State} {g g' : ev_G} {w : List ev_C} {ws : va_W} (h : ev_le g g') (h1 : g'.1 = g.1) (hw : ev_w s g w ws) : ev_w s g' w ws := ⟨h1.trans hw.1, hw.2.1, fun k c q a b => ev_c_le h (hw.2.2 k c q a b)⟩
/-- a name for a new value -/
theorem ev_fresh {s : State} {A : Nat → Prop} {D : va_G} {nL : Nat} {g : ev_G} {pc : Nat} {L : List (Nat × ev_A)} {st : List ev_A} {w : List ev_C} {K : ev_K} {ce sl : Nat} {ws : va_W} {H : Heap} {locs : List Loc} {ls : Array Slot} {sc : List Value} (hR : ev_R s A D nL g (pc, L, st, w, K, ce, sl) ws H locs ls sc) (v : Value) (r : Int × Int) (hr : ∀ x, v = .int x → r.1 ≤ x.toInt ∧ x.toInt ≤ r.2) :
    ∃ g' : ev_G, ev_le g g' ∧ ev_R s A D nL g' (pc, L, st, w, K ++ [r], ce, sl) ws H locs ls sc ∧ g'.2.2[K.length]? = some v := by
  obtain ⟨hP, hD, hS, hW, hB, hL, hs⟩ := hR
  have hle : ev_le g (g.1, g.2.1, g.2.2 ++ [v]) := ⟨⟨[], by simp⟩, rfl, ⟨[v], rfl⟩⟩
  have hlen : K.length = g.2.2.length := hB.1
  refine ⟨(g.1, g.2.1, g.2.2 ++ [v]), hle, ⟨hP, hD, hS, ev_w_le hle rfl hW, ⟨by simp [hlen], fun k q x h1 h2 => ?_⟩, ev_l_le hle hL, ev_s_le hle hs⟩, by simp [hlen]⟩
  dsimp only at h1 h2
  by_cases hk : k < K.length
  · rw [List.getElem?_append_left hk] at h1
    rw [List.getElem?_append_left (by omega)] at h2
    exact hB.2 k q x h1 h2
  · rw [List.getElem?_append_right (by omega)] at h1
    rw [List.getElem?_append_right (by omega)] at h2
    have hz : k - K.length < 1 := (List.getElem?_eq_some_iff.mp h1).1
    have hz2 : k - g.2.2.length = 0 := by omega
    have hz3 : k - K.length = 0 := by omega
    rw [hz3] at h1
    rw [hz2] at h2
    cases h1
    exact hr x (Option.some.inj h2)
def ev_adv (S : ev_S) (n : Nat) (st : List ev_A) : ev_S := (S.1 + n, S.2.1, st, S.2.2.2)
def ev_advK (S : ev_S) (n : Nat) (st : List ev_A) (r : Int × Int) : ev_S := (S.1 + n, S.2.1, st, S.2.2.2.1, S.2.2.2.2.1 ++ [r], S.2.2.2.2.2)

def ev_iconst : ev_O := (fun _ t => some (.iconst t.1, 1, []), fun _ t S => some [ev_adv S 1 ((0, (Int32.ofInt t.1).toInt) :: S.2.2.1)])
theorem ev_iconst_ok : ev_Snd ev_iconst := by
  intro p l e R s m args below meth c cc Q D A g0 P t S i n cs Ss X h1 hd hw h2 hk g ws H locs ls sc hle hR
  obtain ⟨hx, hb, hml, hown, hts, hK, hA, hN, hini, hcC, hcS, hf, hlc, hscr⟩ := X
  obtain ⟨pc, L, st, w, K, ce, sl⟩ := S
  have h1 : some ((.iconst t.1 : Instr), (1 : Nat), ([] : List Cond)) = some (i, n, cs) := h1
  cases h1
  have h2 : some [ev_adv (pc, L, st, w, K, ce, sl) 1 ((0, (Int32.ofInt t.1).toInt) :: st)] = some Ss := h2
  cases h2
  obtain ⟨hP, hD, hS, hW, hB, hL, hs⟩ := hR
  exact lv_iconst (v := Int32.ofInt t.1) hx hb hd rfl (hk _ (List.mem_singleton.mpr rfl) g ws H locs ls _ hle ⟨hP, hD, hS, hW, hB, hL, ev_v0 g _, hs⟩)

def ev_bipush : ev_O := (fun _ t => some (.bipush t.1, 2, []), fun _ t S => some [ev_adv S 2 ((0, ((Int8.ofInt t.1).toInt32).toInt) :: S.2.2.1)])
theorem ev_bipush_ok : ev_Snd ev_bipush := by
  intro p l e R s m args below meth c cc Q D A g0 P t S i n cs Ss X h1 hd hw h2 hk g ws H locs ls sc hle hR
  obtain ⟨hx, hb, hml, hown, hts, hK, hA, hN, hini, hcC, hcS, hf, hlc, hscr⟩ := X
  obtain ⟨pc, L, st, w, K, ce, sl⟩ := S
  have h1 : some ((.bipush t.1 : Instr), (2 : Nat), ([] : List Cond)) = some (i, n, cs) := h1
  cases h1
  have h2 : some [ev_adv (pc, L, st, w, K, ce, sl) 2 ((0, ((Int8.ofInt t.1).toInt32).toInt) :: st)] = some Ss := h2
  cases h2
  obtain ⟨hP, hD, hS, hW, hB, hL, hs⟩ := hR
  exact lv_bipush (v := (Int8.ofInt t.1).toInt32) hx hb hd rfl (hk _ (List.mem_singleton.mpr rfl) g ws H locs ls _ hle ⟨hP, hD, hS, hW, hB, hL, ev_v0 g _, hs⟩)

def ev_sipush : ev_O := (fun _ t => some (.sipush t.1, 3, []), fun _ t S => some [ev_adv S 3 ((0, ((Int16.ofInt t.1).toInt32).toInt) :: S.2.2.1)])
theorem ev_sipush_ok : ev_Snd ev_sipush := by
  intro p l e R s m args below meth c cc Q D A g0 P t S i n cs Ss X h1 hd hw h2 hk g ws H locs ls sc hle hR
  obtain ⟨hx, hb, hml, hown, hts, hK, hA, hN, hini, hcC, hcS, hf, hlc, hscr⟩ := X
  obtain ⟨pc, L, st, w, K, ce, sl⟩ := S
  have h1 : some ((.sipush t.1 : Instr), (3 : Nat), ([] : List Cond)) = some (i, n, cs) := h1
  cases h1
  have h2 : some [ev_adv (pc, L, st, w, K, ce, sl) 3 ((0, ((Int16.ofInt t.1).toInt32).toInt) :: st)] = some Ss := h2
  cases h2
  obtain ⟨hP, hD, hS, hW, hB, hL, hs⟩ := hR
  exact lv_sipush (v := (Int16.ofInt t.1).toInt32) hx hb hd rfl (hk _ (List.mem_singleton.mpr rfl) g ws H locs ls _ hle ⟨hP, hD, hS, hW, hB, hL, ev_v0 g _, hs⟩)

def ev_lconst : ev_O := (fun _ t => if h : t.1.toNat < 2 then some (.lconst ⟨t.1.toNat, h⟩, 1, []) else none, fun _ t S => some [ev_adv S 1 ((4, (Int64.ofNat t.1.toNat).toInt) :: S.2.2.1)])
theorem ev_lconst_ok : ev_Snd ev_lconst := by
  intro p l e R s m args below meth c cc Q D A g0 P t S i n cs Ss X h1 hd hw h2 hk g ws H locs ls sc hle hR
  obtain ⟨hx, hb, hml, hown, hts, hK, hA, hN, hini, hcC, hcS, hf, hlc, hscr⟩ := X
  obtain ⟨pc, L, st, w, K, ce, sl⟩ := S
  have h1 : (if h : t.1.toNat < 2 then some ((.lconst ⟨t.1.toNat, h⟩ : Instr), (1 : Nat), ([] : List Cond)) else none) = some (i, n, cs) := h1
  have h2 : some [ev_adv (pc, L, st, w, K, ce, sl) 1 ((4, (Int64.ofNat t.1.toNat).toInt) :: st)] = some Ss := h2
  cases h2
  split at h1
  · cases h1
    obtain ⟨hP, hD, hS, hW, hB, hL, hs⟩ := hR
    exact lv_lconst (v := Int64.ofNat t.1.toNat) hx hb hd rfl (hk _ (List.mem_singleton.mpr rfl) g ws H locs ls _ hle ⟨hP, hD, hS, hW, hB, hL, ev_v4 g _, hs⟩)
  · cases h1

def ev_look : List (Nat × ev_A) → Nat → Option ev_A
  | [], _ => none
  | q :: L, i => if q.1 == i then some q.2 else ev_look L i
theorem ev_look_mem : ∀ {L : List (Nat × ev_A)} {i : Nat} {a : ev_A}, ev_look L i = some a → (i, a) ∈ L
  | [], i, a, h => by cases h
  | q :: L, i, a, h => by
    unfold ev_look at h
    split at h
    · rename_i hq
      cases h
      rw [← beq_iff_eq.mp hq]
      exact List.mem_cons_self
    · exact List.mem_cons_of_mem _ (ev_look_mem h)
def ev_isR (a : ev_A) : Bool := a.1 == 1 || a.1 == 5
theorem ev_vR {g : ev_G} {a : ev_A} {v : Value} (h : ev_isR a = true) (hv : ev_v g a = some v) : ∃ x : Nat, v = .ref x := by
  obtain ⟨t, n⟩ := a
  simp only [ev_isR, Bool.or_eq_true, beq_iff_eq] at h
  rcases h with h | h
  · subst h
    simp only [ev_v] at hv
    cases hq : g.1[n.toNat]? with
    | none => simp [hq] at hv
    | some q =>
      simp only [hq, Option.map_some] at hv
      exact ⟨q, (Option.some.inj hv).symm⟩
  · subst h
    exact ⟨_, (Option.some.inj hv).symm⟩
def ev_ld (ok : ev_A → Bool) (n : Nat) (i : Nat) (S : ev_S) : Option (List ev_S) := match ev_look S.2.1 i with
  | some a => if ok a = true then some [ev_adv S n (a :: S.2.2.1)] else none
  | none => none
theorem ev_ld_ok {ok : ev_A → Bool} {n i pc : Nat} {L : List (Nat × ev_A)} {st : List ev_A} {r} {Ss : List ev_S} (h : ev_ld ok n i (pc, L, st, r) = some Ss) : ∃ a, (i, a) ∈ L ∧ ok a = true ∧ Ss = [ev_adv (pc, L, st, r) n (a :: st)] := by
  unfold ev_ld at h
  split at h
  · rename_i a ha
    split at h
    · rename_i hok
      cases h
      exact ⟨a, ev_look_mem ha, hok, rfl⟩
    · cases h
  · cases h

def ev_iload : ev_O := (fun _ t => some (.iload t.1.toNat, 2, []), fun _ t S => ev_ld ev_isI 2 t.1.toNat S)
theorem ev_iload_ok : ev_Snd ev_iload := by
  intro p l e R s m args below meth c cc Q D A g0 P t S i n cs Ss X h1 hd hw h2 hk g ws H locs ls sc hle hR
  obtain ⟨hx, hb, hml, hown, hts, hK, hA, hN, hini, hcC, hcS, hf, hlc, hscr⟩ := X
  obtain ⟨pc, L, st, w, K, ce, sl⟩ := S
  have h1 : some ((.iload t.1.toNat : Instr), (2 : Nat), ([] : List Cond)) = some (i, n, cs) := h1
  cases h1
  obtain ⟨a, ha, hok, rfl⟩ := ev_ld_ok h2
  obtain ⟨hP, hD, hS, hW, hB, hL, hs⟩ := hR
  obtain ⟨v, hv, hl⟩ := hL.2.2 _ ha
  obtain ⟨x, rfl⟩ := ev_vI hok hv
  exact lv_iload hx hb hd hl (hk _ (List.mem_singleton.mpr rfl) g ws H locs ls _ hle ⟨hP, hD, hS, hW, hB, hL, hv, hs⟩)
def ev_iloadn : ev_O := (fun _ t => if h : t.1.toNat < 4 then some (.iload_n ⟨t.1.toNat, h⟩, 1, []) else none, fun _ t S => ev_ld ev_isI 1 t.1.toNat S)
theorem ev_iloadn_ok : ev_Snd ev_iloadn := by
  intro p l e R s m args below meth c cc Q D A g0 P t S i n cs Ss X h1 hd hw h2 hk g ws H locs ls sc hle hR
  obtain ⟨hx, hb, hml, hown, hts, hK, hA, hN, hini, hcC, hcS, hf, hlc, hscr⟩ := X
  obtain ⟨pc, L, st, w, K, ce, sl⟩ := S
  have h1 : (if h : t.1.toNat < 4 then some ((.iload_n ⟨t.1.toNat, h⟩ : Instr), (1 : Nat), ([] : List Cond)) else none) = some (i, n, cs) := h1
  split at h1
  · cases h1
    obtain ⟨a, ha, hok, rfl⟩ := ev_ld_ok h2
    obtain ⟨hP, hD, hS, hW, hB, hL, hs⟩ := hR
    obtain ⟨v, hv, hl⟩ := hL.2.2 _ ha
    obtain ⟨x, rfl⟩ := ev_vI hok hv
    exact lv_iload_n hx hb hd rfl hl (hk _ (List.mem_singleton.mpr rfl) g ws H locs ls _ hle ⟨hP, hD, hS, hW, hB, hL, hv, hs⟩)
  · cases h1

def ev_lload : ev_O := (fun _ t => some (.lload t.1.toNat, 2, []), fun _ t S => ev_ld ev_isL 2 t.1.toNat S)
theorem ev_lload_ok : ev_Snd ev_lload := by
  intro p l e R s m args below meth c cc Q D A g0 P t S i n cs Ss X h1 hd hw h2 hk g ws H locs ls sc hle hR
  obtain ⟨hx, hb, hml, hown, hts, hK, hA, hN, hini, hcC, hcS, hf, hlc, hscr⟩ := X
  obtain ⟨pc, L, st, w, K, ce, sl⟩ := S
  have h1 : some ((.lload t.1.toNat : Instr), (2 : Nat), ([] : List Cond)) = some (i, n, cs) := h1
  cases h1
  obtain ⟨a, ha, hok, rfl⟩ := ev_ld_ok h2
  obtain ⟨hP, hD, hS, hW, hB, hL, hs⟩ := hR
  obtain ⟨v, hv, hl⟩ := hL.2.2 _ ha
  obtain ⟨x, rfl⟩ := ev_vL hok hv
  exact lv_lload hx hb hd hl (hk _ (List.mem_singleton.mpr rfl) g ws H locs ls _ hle ⟨hP, hD, hS, hW, hB, hL, hv, hs⟩)
def ev_lloadn : ev_O := (fun _ t => if h : t.1.toNat < 4 then some (.lload_n ⟨t.1.toNat, h⟩, 1, []) else none, fun _ t S => ev_ld ev_isL 1 t.1.toNat S)
theorem ev_lloadn_ok : ev_Snd ev_lloadn := by
  intro p l e R s m args below meth c cc Q D A g0 P t S i n cs Ss X h1 hd hw h2 hk g ws H locs ls sc hle hR
  obtain ⟨hx, hb, hml, hown, hts, hK, hA, hN, hini, hcC, hcS, hf, hlc, hscr⟩ := X
  obtain ⟨pc, L, st, w, K, ce, sl⟩ := S
  have h1 : (if h : t.1.toNat < 4 then some ((.lload_n ⟨t.1.toNat, h⟩ : Instr), (1 : Nat), ([] : List Cond)) else none) = some (i, n, cs) := h1
  split at h1
  · cases h1
    obtain ⟨a, ha, hok, rfl⟩ := ev_ld_ok h2
    obtain ⟨hP, hD, hS, hW, hB, hL, hs⟩ := hR
    obtain ⟨v, hv, hl⟩ := hL.2.2 _ ha
    obtain ⟨x, rfl⟩ := ev_vL hok hv
    exact lv_lload_n hx hb hd rfl hl (hk _ (List.mem_singleton.mpr rfl) g ws H locs ls _ hle ⟨hP, hD, hS, hW, hB, hL, hv, hs⟩)
  · cases h1

def ev_aload : ev_O := (fun _ t => some (.aload t.1.toNat, 2, []), fun _ t S => ev_ld ev_isR 2 t.1.toNat S)
theorem ev_aload_ok : ev_Snd ev_aload := by
  intro p l e R s m args below meth c cc Q D A g0 P t S i n cs Ss X h1 hd hw h2 hk g ws H locs ls sc hle hR
  obtain ⟨hx, hb, hml, hown, hts, hK, hA, hN, hini, hcC, hcS, hf, hlc, hscr⟩ := X
  obtain ⟨pc, L, st, w, K, ce, sl⟩ := S
  have h1 : some ((.aload t.1.toNat : Instr), (2 : Nat), ([] : List Cond)) = some (i, n, cs) := h1
  cases h1
  obtain ⟨a, ha, hok, rfl⟩ := ev_ld_ok h2
  obtain ⟨hP, hD, hS, hW, hB, hL, hs⟩ := hR
  obtain ⟨v, hv, hl⟩ := hL.2.2 _ ha
  obtain ⟨x, rfl⟩ := ev_vR hok hv
  exact lv_aload hx hb hd hl (hk _ (List.mem_singleton.mpr rfl) g ws H locs ls _ hle ⟨hP, hD, hS, hW, hB, hL, hv, hs⟩)
def ev_aloadn : ev_O := (fun _ t => if h : t.1.toNat < 4 then some (.aload_n ⟨t.1.toNat, h⟩, 1, []) else none, fun _ t S => ev_ld ev_isR 1 t.1.toNat S)
theorem ev_aloadn_ok : ev_Snd ev_aloadn := by
  intro p l e R s m args below meth c cc Q D A g0 P t S i n cs Ss X h1 hd hw h2 hk g ws H locs ls sc hle hR
  obtain ⟨hx, hb, hml, hown, hts, hK, hA, hN, hini, hcC, hcS, hf, hlc, hscr⟩ := X
  obtain ⟨pc, L, st, w, K, ce, sl⟩ := S
  have h1 : (if h : t.1.toNat < 4 then some ((.aload_n ⟨t.1.toNat, h⟩ : Instr), (1 : Nat), ([] : List Cond)) else none) = some (i, n, cs) := h1
  split at h1
  · cases h1
    obtain ⟨a, ha, hok, rfl⟩ := ev_ld_ok h2
    obtain ⟨hP, hD, hS, hW, hB, hL, hs⟩ := hR
    obtain ⟨v, hv, hl⟩ := hL.2.2 _ ha
    obtain ⟨x, rfl⟩ := ev_vR hok hv
    exact lv_aload_n hx hb hd rfl hl (hk _ (List.mem_singleton.mpr rfl) g ws H locs ls _ hle ⟨hP, hD, hS, hW, hB, hL, hv, hs⟩)
  · cases h1

def ev_conc (g : ev_G) (L : List (Nat × ev_A)) : List (Nat × Value) := L.filterMap (fun q => (ev_v g q.2).map (fun v => (q.1, v)))
theorem ev_conc_has {g : ev_G} {L : List (Nat × ev_A)} {nL : Nat} {ls : Array Slot} (h : ev_l g L nL ls) : lv_has ls nL (ev_conc g L) := by
  refine ⟨h.1, h.2.1, fun q hq => ?_⟩
  obtain ⟨r, hr, he⟩ := List.mem_filterMap.mp hq
  obtain ⟨v, a, b⟩ := h.2.2 r hr
  rw [a] at he
  cases he
  exact b
theorem ev_conc_mem {g : ev_G} {L : List (Nat × ev_A)} {q : Nat × ev_A} {v : Value} (h : q ∈ L) (hv : ev_v g q.2 = some v) : (q.1, v) ∈ ev_conc g L := List.mem_filterMap.mpr ⟨q, h, by rw [hv]; rfl⟩
def ev_st1 (L : List (Nat × ev_A)) (i : Nat) (a : ev_A) : List (Nat × ev_A) := (i, a) :: L.filter (fun q => !(q.1 == i) && !(q.1 + 1 == i && ev_isL q.2))
def ev_st2 (L : List (Nat × ev_A)) (i : Nat) (a : ev_A) : List (Nat × ev_A) := (i, a) :: L.filter (fun q => !(q.1 == i) && (!(q.1 == i + 1) && !(q.1 + 1 == i && ev_isL q.2)))
theorem ev_isL_cat {g : ev_G} {a : ev_A} {v : Value} (hv : ev_v g a = some v) : ev_isL a = (v.category == 2) := by
  rcases ev_cat hv with ⟨h1, h2⟩ | ⟨h1, h2⟩ <;> rw [h1, h2] <;> rfl
theorem ev_st1_ok {g : ev_G} {L : List (Nat × ev_A)} {nL i : Nat} {ls ls' : Array Slot} {a : ev_A} {v : Value} (h : ev_l g L nL ls) (hv : ev_v g a = some v) (h' : lv_has ls' nL ((i, v) :: (ev_conc g L).filter (fun q => !(q.1 == i) && !(q.1 + 1 == i && q.2.category == 2)))) : ev_l g (ev_st1 L i a) nL ls' := by
  refine ⟨h'.1, h'.2.1, fun q hq => ?_⟩
  rcases List.mem_cons.mp hq with rfl | hq
  · exact ⟨v, hv, h'.2.2 _ List.mem_cons_self⟩
  · obtain ⟨q1, q2⟩ := List.mem_filter.mp hq
    obtain ⟨x, a1, a2⟩ := h.2.2 q q1
    refine ⟨x, a1, h'.2.2 (q.1, x) (List.mem_cons_of_mem _ (List.mem_filter.mpr ⟨ev_conc_mem q1 a1, ?_⟩))⟩
    rw [ev_isL_cat a1] at q2
    exact q2
theorem ev_st2_ok {g : ev_G} {L : List (Nat × ev_A)} {nL i : Nat} {ls ls' : Array Slot} {a : ev_A} {v : Value} (h : ev_l g L nL ls) (hv : ev_v g a = some v) (h' : lv_has ls' nL ((i, v) :: (ev_conc g L).filter (fun q => !(q.1 == i) && (!(q.1 == i + 1) && !(q.1 + 1 == i && q.2.category == 2))))) : ev_l g (ev_st2 L i a) nL ls' := by
  refine ⟨h'.1, h'.2.1, fun q hq => ?_⟩
  rcases List.mem_cons.mp hq with rfl | hq
  · exact ⟨v, hv, h'.2.2 _ List.mem_cons_self⟩
  · obtain ⟨q1, q2⟩ := List.mem_filter.mp hq
    obtain ⟨x, a1, a2⟩ := h.2.2 q q1
    refine ⟨x, a1, h'.2.2 (q.1, x) (List.mem_cons_of_mem _ (List.mem_filter.mpr ⟨ev_conc_mem q1 a1, ?_⟩))⟩
    rw [ev_isL_cat a1] at q2
    exact q2
def ev_sto (ok : ev_A → Bool) (wide : Nat) (n i nL : Nat) (S : ev_S) : Option (List ev_S) := match S.2.2.1 with
  | a :: st => if ok a = true ∧ i + wide < nL then some [(S.1 + n, (if wide = 0 then ev_st1 S.2.1 i a else ev_st2 S.2.1 i a), st, S.2.2.2)] else none
  | [] => none
theorem ev_sto_ok {ok : ev_A → Bool} {wide n i nL pc : Nat} {L : List (Nat × ev_A)} {st : List ev_A} {r} {Ss : List ev_S} (h : ev_sto ok wide n i nL (pc, L, st, r) = some Ss) : ∃ a st', st = a :: st' ∧ ok a = true ∧ i + wide < nL ∧ Ss = [(pc + n, (if wide = 0 then ev_st1 L i a else ev_st2 L i a), st', r)] := by
  unfold ev_sto at h
  split at h
  · rename_i a st' e
    split at h
    · rename_i hok
      cases h
      exact ⟨a, st', e, hok.1, hok.2, rfl⟩
    · cases h
  · cases h

def ev_istore : ev_O := (fun _ t => some (.istore t.1.toNat, 2, []), fun P t S => ev_sto ev_isI 0 2 t.1.toNat P.2.2.2.2.1 S)
theorem ev_istore_ok : ev_Snd ev_istore := by
  intro p l e R s m args below meth c cc Q D A g0 P t S i n cs Ss X h1 hd hw h2 hk g ws H locs ls sc hle hR
  obtain ⟨hx, hb, hml, hown, hts, hK, hA, hN, hini, hcC, hcS, hf, hlc, hscr⟩ := X
  obtain ⟨pc, L, st, w, K, ce, sl⟩ := S
  have h1 : some ((.istore t.1.toNat : Instr), (2 : Nat), ([] : List Cond)) = some (i, n, cs) := h1
  cases h1
  · obtain ⟨a, st', rfl, hok, hi, rfl⟩ := ev_sto_ok h2
    obtain ⟨hP, hD, hS, hW, hB, hL, hs⟩ := hR
    obtain ⟨v, sc', rfl, hv, hs2⟩ := ev_s_cons hs
    obtain ⟨x, rfl⟩ := ev_vI hok hv
    exact lv_istore hx hb hd (ev_conc_has hL) hi rfl (fun ls' hl' => hk _ (List.mem_singleton.mpr rfl) g ws H locs ls' _ hle ⟨hP, hD, hS, hW, hB, ev_st1_ok hL hv hl', hs2⟩)
def ev_istoren : ev_O := (fun _ t => if h : t.1.toNat < 4 then some (.istore_n ⟨t.1.toNat, h⟩, 1, []) else none, fun P t S => ev_sto ev_isI 0 1 t.1.toNat P.2.2.2.2.1 S)
theorem ev_istoren_ok : ev_Snd ev_istoren := by
  intro p l e R s m args below meth c cc Q D A g0 P t S i n cs Ss X h1 hd hw h2 hk g ws H locs ls sc hle hR
  obtain ⟨hx, hb, hml, hown, hts, hK, hA, hN, hini, hcC, hcS, hf, hlc, hscr⟩ := X
  obtain ⟨pc, L, st, w, K, ce, sl⟩ := S
  have h1 : (if h : t.1.toNat < 4 then some ((.istore_n ⟨t.1.toNat, h⟩ : Instr), (1 : Nat), ([] : List Cond)) else none) = some (i, n, cs) := h1
  split at h1
  · cases h1
    obtain ⟨a, st', rfl, hok, hi, rfl⟩ := ev_sto_ok h2
    obtain ⟨hP, hD, hS, hW, hB, hL, hs⟩ := hR
    obtain ⟨v, sc', rfl, hv, hs2⟩ := ev_s_cons hs
    obtain ⟨x, rfl⟩ := ev_vI hok hv
    exact lv_istore_n hx hb hd rfl (ev_conc_has hL) hi rfl (fun ls' hl' => hk _ (List.mem_singleton.mpr rfl) g ws H locs ls' _ hle ⟨hP, hD, hS, hW, hB, ev_st1_ok hL hv hl', hs2⟩)
  · cases h1

def ev_lstore : ev_O := (fun _ t => some (.lstore t.1.toNat, 2, []), fun P t S => ev_sto ev_isL 1 2 t.1.toNat P.2.2.2.2.1 S)
theorem ev_lstore_ok : ev_Snd ev_lstore := by
  intro p l e R s m args below meth c cc Q D A g0 P t S i n cs Ss X h1 hd hw h2 hk g ws H locs ls sc hle hR
  obtain ⟨hx, hb, hml, hown, hts, hK, hA, hN, hini, hcC, hcS, hf, hlc, hscr⟩ := X
  obtain ⟨pc, L, st, w, K, ce, sl⟩ := S
  have h1 : some ((.lstore t.1.toNat : Instr), (2 : Nat), ([] : List Cond)) = some (i, n, cs) := h1
  cases h1
  · obtain ⟨a, st', rfl, hok, hi, rfl⟩ := ev_sto_ok h2
    obtain ⟨hP, hD, hS, hW, hB, hL, hs⟩ := hR
    obtain ⟨v, sc', rfl, hv, hs2⟩ := ev_s_cons hs
    obtain ⟨x, rfl⟩ := ev_vL hok hv
    exact lv_lstore hx hb hd (ev_conc_has hL) hi rfl (fun ls' hl' => hk _ (List.mem_singleton.mpr rfl) g ws H locs ls' _ hle ⟨hP, hD, hS, hW, hB, ev_st2_ok hL hv hl', hs2⟩)
def ev_lstoren : ev_O := (fun _ t => if h : t.1.toNat < 4 then some (.lstore_n ⟨t.1.toNat, h⟩, 1, []) else none, fun P t S => ev_sto ev_isL 1 1 t.1.toNat P.2.2.2.2.1 S)
theorem ev_lstoren_ok : ev_Snd ev_lstoren := by
  intro p l e R s m args below meth c cc Q D A g0 P t S i n cs Ss X h1 hd hw h2 hk g ws H locs ls sc hle hR
  obtain ⟨hx, hb, hml, hown, hts, hK, hA, hN, hini, hcC, hcS, hf, hlc, hscr⟩ := X
  obtain ⟨pc, L, st, w, K, ce, sl⟩ := S
  have h1 : (if h : t.1.toNat < 4 then some ((.lstore_n ⟨t.1.toNat, h⟩ : Instr), (1 : Nat), ([] : List Cond)) else none) = some (i, n, cs) := h1
  split at h1
  · cases h1
    obtain ⟨a, st', rfl, hok, hi, rfl⟩ := ev_sto_ok h2
    obtain ⟨hP, hD, hS, hW, hB, hL, hs⟩ := hR
    obtain ⟨v, sc', rfl, hv, hs2⟩ := ev_s_cons hs
    obtain ⟨x, rfl⟩ := ev_vL hok hv
    exact lv_lstore_n hx hb hd rfl (ev_conc_has hL) hi rfl (fun ls' hl' => hk _ (List.mem_singleton.mpr rfl) g ws H locs ls' _ hle ⟨hP, hD, hS, hW, hB, ev_st2_ok hL hv hl', hs2⟩)
  · cases h1

def ev_astore : ev_O := (fun _ t => some (.astore t.1.toNat, 2, []), fun P t S => ev_sto ev_isR 0 2 t.1.toNat P.2.2.2.2.1 S)
theorem ev_astore_ok : ev_Snd ev_astore := by
  intro p l e R s m args below meth c cc Q D A g0 P t S i n cs Ss X h1 hd hw h2 hk g ws H locs ls sc hle hR
  obtain ⟨hx, hb, hml, hown, hts, hK, hA, hN, hini, hcC, hcS, hf, hlc, hscr⟩ := X
  obtain ⟨pc, L, st, w, K, ce, sl⟩ := S
  have h1 : some ((.astore t.1.toNat : Instr), (2 : Nat), ([] : List Cond)) = some (i, n, cs) := h1
  cases h1
  · obtain ⟨a, st', rfl, hok, hi, rfl⟩ := ev_sto_ok h2
    obtain ⟨hP, hD, hS, hW, hB, hL, hs⟩ := hR
    obtain ⟨v, sc', rfl, hv, hs2⟩ := ev_s_cons hs
    obtain ⟨x, rfl⟩ := ev_vR hok hv
    exact lv_astore hx hb hd (ev_conc_has hL) hi rfl (fun ls' hl' => hk _ (List.mem_singleton.mpr rfl) g ws H locs ls' _ hle ⟨hP, hD, hS, hW, hB, ev_st1_ok hL hv hl', hs2⟩)
def ev_astoren : ev_O := (fun _ t => if h : t.1.toNat < 4 then some (.astore_n ⟨t.1.toNat, h⟩, 1, []) else none, fun P t S => ev_sto ev_isR 0 1 t.1.toNat P.2.2.2.2.1 S)
theorem ev_astoren_ok : ev_Snd ev_astoren := by
  intro p l e R s m args below meth c cc Q D A g0 P t S i n cs Ss X h1 hd hw h2 hk g ws H locs ls sc hle hR
  obtain ⟨hx, hb, hml, hown, hts, hK, hA, hN, hini, hcC, hcS, hf, hlc, hscr⟩ := X
  obtain ⟨pc, L, st, w, K, ce, sl⟩ := S
  have h1 : (if h : t.1.toNat < 4 then some ((.astore_n ⟨t.1.toNat, h⟩ : Instr), (1 : Nat), ([] : List Cond)) else none) = some (i, n, cs) := h1
  split at h1
  · cases h1
    obtain ⟨a, st', rfl, hok, hi, rfl⟩ := ev_sto_ok h2
    obtain ⟨hP, hD, hS, hW, hB, hL, hs⟩ := hR
    obtain ⟨v, sc', rfl, hv, hs2⟩ := ev_s_cons hs
    obtain ⟨x, rfl⟩ := ev_vR hok hv
    exact lv_astore_n hx hb hd rfl (ev_conc_has hL) hi rfl (fun ls' hl' => hk _ (List.mem_singleton.mpr rfl) g ws H locs ls' _ hle ⟨hP, hD, hS, hW, hB, ev_st1_ok hL hv hl', hs2⟩)
  · cases h1
end
section
/-! arithmetic -/
/-- two ints: a number if both are numbers, else a new variable -/
def ev_bin (f : Int32 → Int32 → Int32) (ok : Int32 → Bool) (n : Nat) (S : ev_S) : Option (List ev_S) := match S.2.2.1 with
  | y :: x :: st =>
    if ev_isI x = true ∧ ev_isI y = true then
      (if x.1 = 0 ∧ y.1 = 0 then (if ok (Int32.ofInt y.2) = true then some [ev_adv S n ((0, (f (Int32.ofInt x.2) (Int32.ofInt y.2)).toInt) :: st)] else none)
       else if y.1 = 0 then (if ok (Int32.ofInt y.2) = true then some [ev_advK S n ((3, (S.2.2.2.2.1.length : Int)) :: st) ev_full] else none)
       else if ok 0 = true then some [ev_advK S n ((3, (S.2.2.2.2.1.length : Int)) :: st) ev_full] else none)
    else none
  | _ => none
theorem ev_bin_ok (f : Int32 → Int32 → Int32) (ok : Int32 → Bool) (hok0 : ok 0 = true → ∀ y, ok y = true) {n pc : Nat} {L : List (Nat × ev_A)} {st : List ev_A} {w : List ev_C} {K : ev_K} {ce sl : Nat} {Ss : List ev_S} (h : ev_bin f ok n (pc, L, st, w, K, ce, sl) = some Ss)
    {s : State} {A : Nat → Prop} {D : va_G} {nL : Nat} {g : ev_G} {ws : va_W} {H : Heap} {locs : List Loc} {ls : Array Slot} {sc : List Value} (hR : ev_R s A D nL g (pc, L, st, w, K, ce, sl) ws H locs ls sc) :
    ∃ (x y : Int32) (rest : List Value) (S' : ev_S), sc = .int y :: .int x :: rest ∧ ok y = true ∧ Ss = [S'] ∧ S'.1 = pc + n ∧ S'.2.2.2.2.2 = (ce, sl) ∧ ∃ g', ev_le g g' ∧ ev_R s A D nL g' S' ws H locs ls (.int (f x y) :: rest) := by
  unfold ev_bin at h
  split at h
  · rename_i y x st' e
    dsimp only at e
    subst e
    split at h
    · rename_i hi
      have hR0 := hR
      obtain ⟨hP, hD, hS, hW, hB, hL, hs⟩ := hR0
      obtain ⟨vy, sc1, rfl, hvy, hs1⟩ := ev_s_cons hs
      obtain ⟨vx, sc2, rfl, hvx, hs2⟩ := ev_s_cons hs1
      obtain ⟨y0, rfl⟩ := ev_vI hi.2 hvy
      obtain ⟨x0, rfl⟩ := ev_vI hi.1 hvx
      have fr : ∃ g', ev_le g g' ∧ ev_R s A D nL g' (ev_advK (pc, L, y :: x :: st', w, K, ce, sl) n ((3, (K.length : Int)) :: st') ev_full) ws H locs ls (.int (f x0 y0) :: sc2) := by
        obtain ⟨g', l1, ⟨hP, hD, hS, hW, hB, hL, hs⟩, e1⟩ := ev_fresh hR (.int (f x0 y0)) ev_full (fun z hz => by cases hz; exact ev_full_ok _)
        exact ⟨g', l1, hP, hD, hS, hW, hB, hL, ev_v3 e1, hs.2.2⟩
      split at h
      · rename_i hz
        split at h
        · rename_i hy
          cases h
          obtain ⟨xt, xn⟩ := x
          obtain ⟨yt, yn⟩ := y
          obtain ⟨rfl, rfl⟩ := hz
          have ex : Int32.ofInt xn = x0 := Value.int.inj (Option.some.inj hvx)
          have ey : Int32.ofInt yn = y0 := Value.int.inj (Option.some.inj hvy)
          dsimp only at hy ⊢
          rw [ex, ey]
          exact ⟨x0, y0, sc2, _, rfl, by rw [← ey]; exact hy, rfl, rfl, rfl, g, ev_le_rf g, hP, hD, hS, hW, hB, hL, ev_v0 g _, hs2⟩
        · cases h
      · split at h
        · rename_i hz
          split at h
          · rename_i hy
            cases h
            obtain ⟨yt, yn⟩ := y
            have hz : yt = 0 := hz
            subst hz
            have ey : Int32.ofInt yn = y0 := Value.int.inj (Option.some.inj hvy)
            exact ⟨x0, y0, sc2, _, rfl, by rw [← ey]; exact hy, rfl, rfl, rfl, fr⟩
          · cases h
        · split at h
          · rename_i hy
            cases h
            exact ⟨x0, y0, sc2, _, rfl, hok0 hy _, rfl, rfl, rfl, fr⟩
          · cases h
    · cases h
  · cases h
theorem ev_Go_eq {p : Program} {l : Launch} {e : Env} {R : Room} {s : State} {m : MethodId} {args : Array Value} {below : List Frame} {meth : Method} {c : Code} {Q : State → Prop} {nL : Nat} {D : va_G} {A : Nat → Prop} {g0 : ev_G} {S : ev_S} {pc ce sl : Nat} (h : ev_Go p l e R s m args below meth c Q nL D A g0 S) (h1 : S.1 = pc) (h2 : S.2.2.2.2.2 = (ce, sl))
    {g : ev_G} {ws : va_W} {H : Heap} {locs : List Loc} {ls : Array Slot} {sc : List Value} (hle : ev_le g0 g) (hR : ev_R s A D nL g S ws H locs ls sc) : W p l e R s m args below meth c H locs ce sl Q (F0 m pc ls sc) := by
  have := h g ws H locs ls sc hle hR
  rw [h1, h2] at this
  exact this

def ev_iadd : ev_O := (fun _ _ => some (.iadd, 1, []), fun _ _ S => ev_bin (fun x y => x + y) (fun _ => true) 1 S)
theorem ev_iadd_ok : ev_Snd ev_iadd := by
  intro p l e R s m args below meth c cc Q D A g0 P t S i n cs Ss X h1 hd hw h2 hk g ws H locs ls sc hle hR
  obtain ⟨hx, hb, hml, hown, hts, hK, hA, hN, hini, hcC, hcS, hf, hlc, hscr⟩ := X
  obtain ⟨pc, L, st, w, K, ce, sl⟩ := S
  have h1 : some ((.iadd : Instr), (1 : Nat), ([] : List Cond)) = some (i, n, cs) := h1
  cases h1
  · obtain ⟨x0, y0, rest, S', rfl, hy, rfl, e1, e2, g', l1, hR'⟩ := ev_bin_ok (fun x y => x + y) (fun _ => true) (fun _ _ => rfl) (show ev_bin (fun x y => x + y) (fun _ => true) 1 (pc, L, st, w, K, ce, sl) = some Ss from h2) hR
    exact lv_iadd hx hb hd (ev_Go_eq (hk S' (List.mem_singleton.mpr rfl)) e1 e2 (ev_le_tr hle l1) hR')

def ev_isub : ev_O := (fun _ _ => some (.isub, 1, []), fun _ _ S => ev_bin (fun x y => x - y) (fun _ => true) 1 S)
theorem ev_isub_ok : ev_Snd ev_isub := by
  intro p l e R s m args below meth c cc Q D A g0 P t S i n cs Ss X h1 hd hw h2 hk g ws H locs ls sc hle hR
  obtain ⟨hx, hb, hml, hown, hts, hK, hA, hN, hini, hcC, hcS, hf, hlc, hscr⟩ := X
  obtain ⟨pc, L, st, w, K, ce, sl⟩ := S
  have h1 : some ((.isub : Instr), (1 : Nat), ([] : List Cond)) = some (i, n, cs) := h1
  cases h1
  · obtain ⟨x0, y0, rest, S', rfl, hy, rfl, e1, e2, g', l1, hR'⟩ := ev_bin_ok (fun x y => x - y) (fun _ => true) (fun _ _ => rfl) (show ev_bin (fun x y => x - y) (fun _ => true) 1 (pc, L, st, w, K, ce, sl) = some Ss from h2) hR
    exact lv_isub hx hb hd (ev_Go_eq (hk S' (List.mem_singleton.mpr rfl)) e1 e2 (ev_le_tr hle l1) hR')

def ev_imul : ev_O := (fun _ _ => some (.imul, 1, []), fun _ _ S => ev_bin (fun x y => x * y) (fun _ => true) 1 S)
theorem ev_imul_ok : ev_Snd ev_imul := by
  intro p l e R s m args below meth c cc Q D A g0 P t S i n cs Ss X h1 hd hw h2 hk g ws H locs ls sc hle hR
  obtain ⟨hx, hb, hml, hown, hts, hK, hA, hN, hini, hcC, hcS, hf, hlc, hscr⟩ := X
  obtain ⟨pc, L, st, w, K, ce, sl⟩ := S
  have h1 : some ((.imul : Instr), (1 : Nat), ([] : List Cond)) = some (i, n, cs) := h1
  cases h1
  · obtain ⟨x0, y0, rest, S', rfl, hy, rfl, e1, e2, g', l1, hR'⟩ := ev_bin_ok (fun x y => x * y) (fun _ => true) (fun _ _ => rfl) (show ev_bin (fun x y => x * y) (fun _ => true) 1 (pc, L, st, w, K, ce, sl) = some Ss from h2) hR
    exact lv_imul hx hb hd (ev_Go_eq (hk S' (List.mem_singleton.mpr rfl)) e1 e2 (ev_le_tr hle l1) hR')

def ev_iand : ev_O := (fun _ _ => some (.iand, 1, []), fun _ _ S => ev_bin (fun x y => x &&& y) (fun _ => true) 1 S)
theorem ev_iand_ok : ev_Snd ev_iand := by
  intro p l e R s m args below meth c cc Q D A g0 P t S i n cs Ss X h1 hd hw h2 hk g ws H locs ls sc hle hR
  obtain ⟨hx, hb, hml, hown, hts, hK, hA, hN, hini, hcC, hcS, hf, hlc, hscr⟩ := X
  obtain ⟨pc, L, st, w, K, ce, sl⟩ := S
  have h1 : some ((.iand : Instr), (1 : Nat), ([] : List Cond)) = some (i, n, cs) := h1
  cases h1
  · obtain ⟨x0, y0, rest, S', rfl, hy, rfl, e1, e2, g', l1, hR'⟩ := ev_bin_ok (fun x y => x &&& y) (fun _ => true) (fun _ _ => rfl) (show ev_bin (fun x y => x &&& y) (fun _ => true) 1 (pc, L, st, w, K, ce, sl) = some Ss from h2) hR
    exact lv_iand hx hb hd (ev_Go_eq (hk S' (List.mem_singleton.mpr rfl)) e1 e2 (ev_le_tr hle l1) hR')

def ev_ior : ev_O := (fun _ _ => some (.ior, 1, []), fun _ _ S => ev_bin (fun x y => x ||| y) (fun _ => true) 1 S)
theorem ev_ior_ok : ev_Snd ev_ior := by
  intro p l e R s m args below meth c cc Q D A g0 P t S i n cs Ss X h1 hd hw h2 hk g ws H locs ls sc hle hR
  obtain ⟨hx, hb, hml, hown, hts, hK, hA, hN, hini, hcC, hcS, hf, hlc, hscr⟩ := X
  obtain ⟨pc, L, st, w, K, ce, sl⟩ := S
  have h1 : some ((.ior : Instr), (1 : Nat), ([] : List Cond)) = some (i, n, cs) := h1
  cases h1
  · obtain ⟨x0, y0, rest, S', rfl, hy, rfl, e1, e2, g', l1, hR'⟩ := ev_bin_ok (fun x y => x ||| y) (fun _ => true) (fun _ _ => rfl) (show ev_bin (fun x y => x ||| y) (fun _ => true) 1 (pc, L, st, w, K, ce, sl) = some Ss from h2) hR
    exact lv_ior hx hb hd (ev_Go_eq (hk S' (List.mem_singleton.mpr rfl)) e1 e2 (ev_le_tr hle l1) hR')

def ev_ixor : ev_O := (fun _ _ => some (.ixor, 1, []), fun _ _ S => ev_bin (fun x y => x ^^^ y) (fun _ => true) 1 S)
theorem ev_ixor_ok : ev_Snd ev_ixor := by
  intro p l e R s m args below meth c cc Q D A g0 P t S i n cs Ss X h1 hd hw h2 hk g ws H locs ls sc hle hR
  obtain ⟨hx, hb, hml, hown, hts, hK, hA, hN, hini, hcC, hcS, hf, hlc, hscr⟩ := X
  obtain ⟨pc, L, st, w, K, ce, sl⟩ := S
  have h1 : some ((.ixor : Instr), (1 : Nat), ([] : List Cond)) = some (i, n, cs) := h1
  cases h1
  · obtain ⟨x0, y0, rest, S', rfl, hy, rfl, e1, e2, g', l1, hR'⟩ := ev_bin_ok (fun x y => x ^^^ y) (fun _ => true) (fun _ _ => rfl) (show ev_bin (fun x y => x ^^^ y) (fun _ => true) 1 (pc, L, st, w, K, ce, sl) = some Ss from h2) hR
    exact lv_ixor hx hb hd (ev_Go_eq (hk S' (List.mem_singleton.mpr rfl)) e1 e2 (ev_le_tr hle l1) hR')

def ev_ishl : ev_O := (fun _ _ => some (.ishl, 1, []), fun _ _ S => ev_bin (fun x y => x <<< (y &&& 31)) (fun _ => true) 1 S)
theorem ev_ishl_ok : ev_Snd ev_ishl := by
  intro p l e R s m args below meth c cc Q D A g0 P t S i n cs Ss X h1 hd hw h2 hk g ws H locs ls sc hle hR
  obtain ⟨hx, hb, hml, hown, hts, hK, hA, hN, hini, hcC, hcS, hf, hlc, hscr⟩ := X
  obtain ⟨pc, L, st, w, K, ce, sl⟩ := S
  have h1 : some ((.ishl : Instr), (1 : Nat), ([] : List Cond)) = some (i, n, cs) := h1
  cases h1
  · obtain ⟨x0, y0, rest, S', rfl, hy, rfl, e1, e2, g', l1, hR'⟩ := ev_bin_ok (fun x y => x <<< (y &&& 31)) (fun _ => true) (fun _ _ => rfl) (show ev_bin (fun x y => x <<< (y &&& 31)) (fun _ => true) 1 (pc, L, st, w, K, ce, sl) = some Ss from h2) hR
    exact lv_ishl hx hb hd (ev_Go_eq (hk S' (List.mem_singleton.mpr rfl)) e1 e2 (ev_le_tr hle l1) hR')

def ev_ishr : ev_O := (fun _ _ => some (.ishr, 1, []), fun _ _ S => ev_bin (fun x y => x >>> (y &&& 31)) (fun _ => true) 1 S)
theorem ev_ishr_ok : ev_Snd ev_ishr := by
  intro p l e R s m args below meth c cc Q D A g0 P t S i n cs Ss X h1 hd hw h2 hk g ws H locs ls sc hle hR
  obtain ⟨hx, hb, hml, hown, hts, hK, hA, hN, hini, hcC, hcS, hf, hlc, hscr⟩ := X
  obtain ⟨pc, L, st, w, K, ce, sl⟩ := S
  have h1 : some ((.ishr : Instr), (1 : Nat), ([] : List Cond)) = some (i, n, cs) := h1
  cases h1
  · obtain ⟨x0, y0, rest, S', rfl, hy, rfl, e1, e2, g', l1, hR'⟩ := ev_bin_ok (fun x y => x >>> (y &&& 31)) (fun _ => true) (fun _ _ => rfl) (show ev_bin (fun x y => x >>> (y &&& 31)) (fun _ => true) 1 (pc, L, st, w, K, ce, sl) = some Ss from h2) hR
    exact lv_ishr hx hb hd (ev_Go_eq (hk S' (List.mem_singleton.mpr rfl)) e1 e2 (ev_le_tr hle l1) hR')

def ev_iushr : ev_O := (fun _ _ => some (.iushr, 1, []), fun _ _ S => ev_bin (fun x y => (x.toUInt32 >>> (y.toUInt32 &&& Int32.toUInt32 31)).toInt32) (fun _ => true) 1 S)
theorem ev_iushr_ok : ev_Snd ev_iushr := by
  intro p l e R s m args below meth c cc Q D A g0 P t S i n cs Ss X h1 hd hw h2 hk g ws H locs ls sc hle hR
  obtain ⟨hx, hb, hml, hown, hts, hK, hA, hN, hini, hcC, hcS, hf, hlc, hscr⟩ := X
  obtain ⟨pc, L, st, w, K, ce, sl⟩ := S
  have h1 : some ((.iushr : Instr), (1 : Nat), ([] : List Cond)) = some (i, n, cs) := h1
  cases h1
  · obtain ⟨x0, y0, rest, S', rfl, hy, rfl, e1, e2, g', l1, hR'⟩ := ev_bin_ok (fun x y => (x.toUInt32 >>> (y.toUInt32 &&& Int32.toUInt32 31)).toInt32) (fun _ => true) (fun _ _ => rfl) (show ev_bin (fun x y => (x.toUInt32 >>> (y.toUInt32 &&& Int32.toUInt32 31)).toInt32) (fun _ => true) 1 (pc, L, st, w, K, ce, sl) = some Ss from h2) hR
    exact lv_iushr hx hb hd rfl (ev_Go_eq (hk S' (List.mem_singleton.mpr rfl)) e1 e2 (ev_le_tr hle l1) hR')

def ev_idiv : ev_O := (fun _ _ => some (.idiv, 1, []), fun _ _ S => ev_bin (fun x y => x / y) (fun y => !(y == 0)) 1 S)
theorem ev_idiv_ok : ev_Snd ev_idiv := by
  intro p l e R s m args below meth c cc Q D A g0 P t S i n cs Ss X h1 hd hw h2 hk g ws H locs ls sc hle hR
  obtain ⟨hx, hb, hml, hown, hts, hK, hA, hN, hini, hcC, hcS, hf, hlc, hscr⟩ := X
  obtain ⟨pc, L, st, w, K, ce, sl⟩ := S
  have h1 : some ((.idiv : Instr), (1 : Nat), ([] : List Cond)) = some (i, n, cs) := h1
  cases h1
  · obtain ⟨x0, y0, rest, S', rfl, hy, rfl, e1, e2, g', l1, hR'⟩ := ev_bin_ok (fun x y => x / y) (fun y => !(y == 0)) (fun h => by simp at h) (show ev_bin (fun x y => x / y) (fun y => !(y == 0)) 1 (pc, L, st, w, K, ce, sl) = some Ss from h2) hR
    have hne : ¬ y0 = 0 := by simpa using hy
    exact lv_idiv hx hb hd hne (ev_Go_eq (hk S' (List.mem_singleton.mpr rfl)) e1 e2 (ev_le_tr hle l1) hR')

def ev_irem : ev_O := (fun _ _ => some (.irem, 1, []), fun _ _ S => ev_bin (fun x y => x - x / y * y) (fun y => !(y == 0)) 1 S)
theorem ev_irem_ok : ev_Snd ev_irem := by
  intro p l e R s m args below meth c cc Q D A g0 P t S i n cs Ss X h1 hd hw h2 hk g ws H locs ls sc hle hR
  obtain ⟨hx, hb, hml, hown, hts, hK, hA, hN, hini, hcC, hcS, hf, hlc, hscr⟩ := X
  obtain ⟨pc, L, st, w, K, ce, sl⟩ := S
  have h1 : some ((.irem : Instr), (1 : Nat), ([] : List Cond)) = some (i, n, cs) := h1
  cases h1
  · obtain ⟨x0, y0, rest, S', rfl, hy, rfl, e1, e2, g', l1, hR'⟩ := ev_bin_ok (fun x y => x - x / y * y) (fun y => !(y == 0)) (fun h => by simp at h) (show ev_bin (fun x y => x - x / y * y) (fun y => !(y == 0)) 1 (pc, L, st, w, K, ce, sl) = some Ss from h2) hR
    have hne : ¬ y0 = 0 := by simpa using hy
    exact lv_irem hx hb hd hne (ev_Go_eq (hk S' (List.mem_singleton.mpr rfl)) e1 e2 (ev_le_tr hle l1) hR')

def ev_una (f : Int32 → Int32) (n : Nat) (r : Int × Int) (S : ev_S) : Option (List ev_S) := match S.2.2.1 with
  | x :: st =>
    if ev_isI x = true then
      (if x.1 = 0 then some [ev_adv S n ((0, (f (Int32.ofInt x.2)).toInt) :: st)]
       else some [ev_advK S n ((3, (S.2.2.2.2.1.length : Int)) :: st) r])
    else none
  | _ => none
theorem ev_una_ok (f : Int32 → Int32) (r : Int × Int) (hr : ∀ x, r.1 ≤ (f x).toInt ∧ (f x).toInt ≤ r.2) {n pc : Nat} {L : List (Nat × ev_A)} {st : List ev_A} {w : List ev_C} {K : ev_K} {ce sl : Nat} {Ss : List ev_S} (h : ev_una f n r (pc, L, st, w, K, ce, sl) = some Ss)
    {s : State} {A : Nat → Prop} {D : va_G} {nL : Nat} {g : ev_G} {ws : va_W} {H : Heap} {locs : List Loc} {ls : Array Slot} {sc : List Value} (hR : ev_R s A D nL g (pc, L, st, w, K, ce, sl) ws H locs ls sc) :
    ∃ (x : Int32) (rest : List Value) (S' : ev_S), sc = .int x :: rest ∧ Ss = [S'] ∧ S'.1 = pc + n ∧ S'.2.2.2.2.2 = (ce, sl) ∧ ∃ g', ev_le g g' ∧ ev_R s A D nL g' S' ws H locs ls (.int (f x) :: rest) := by
  unfold ev_una at h
  split at h
  · rename_i x st' e
    dsimp only at e
    subst e
    split at h
    · rename_i hi
      have hR0 := hR
      obtain ⟨hP, hD, hS, hW, hB, hL, hs⟩ := hR0
      obtain ⟨vx, sc2, rfl, hvx, hs2⟩ := ev_s_cons hs
      obtain ⟨x0, rfl⟩ := ev_vI hi hvx
      split at h
      · rename_i hz
        cases h
        obtain ⟨xt, xn⟩ := x
        have hz : xt = 0 := hz
        subst hz
        have ex : Int32.ofInt xn = x0 := Value.int.inj (Option.some.inj hvx)
        dsimp only
        rw [ex]
        exact ⟨x0, sc2, _, rfl, rfl, rfl, rfl, g, ev_le_rf g, hP, hD, hS, hW, hB, hL, ev_v0 g _, hs2⟩
      · cases h
        obtain ⟨g', l1, ⟨hP, hD, hS, hW, hB, hL, hs⟩, e1⟩ := ev_fresh hR (.int (f x0)) r (fun z hz => by cases hz; exact hr _)
        exact ⟨x0, sc2, _, rfl, rfl, rfl, rfl, g', l1, hP, hD, hS, hW, hB, hL, ev_v3 e1, hs.2⟩
    · cases h
  · cases h

def ev_ineg : ev_O := (fun _ _ => some (.ineg, 1, []), fun _ _ S => ev_una (fun x => -x) 1 ev_full S)
theorem ev_ineg_ok : ev_Snd ev_ineg := by
  intro p l e R s m args below meth c cc Q D A g0 P t S i n cs Ss X h1 hd hw h2 hk g ws H locs ls sc hle hR
  obtain ⟨hx, hb, hml, hown, hts, hK, hA, hN, hini, hcC, hcS, hf, hlc, hscr⟩ := X
  obtain ⟨pc, L, st, w, K, ce, sl⟩ := S
  have h1 : some ((.ineg : Instr), (1 : Nat), ([] : List Cond)) = some (i, n, cs) := h1
  cases h1
  · obtain ⟨x0, rest, S', rfl, rfl, e1, e2, g', l1, hR'⟩ := ev_una_ok (fun x => -x) ev_full (fun _ => ev_full_ok _) (show ev_una (fun x => -x) 1 ev_full (pc, L, st, w, K, ce, sl) = some Ss from h2) hR
    exact lv_ineg hx hb hd (ev_Go_eq (hk S' (List.mem_singleton.mpr rfl)) e1 e2 (ev_le_tr hle l1) hR')

def ev_i2b : ev_O := (fun _ _ => some (.i2b, 1, []), fun _ _ S => ev_una (fun x => x.toInt8.toInt32) 1 ev_full S)
theorem ev_i2b_ok : ev_Snd ev_i2b := by
  intro p l e R s m args below meth c cc Q D A g0 P t S i n cs Ss X h1 hd hw h2 hk g ws H locs ls sc hle hR
  obtain ⟨hx, hb, hml, hown, hts, hK, hA, hN, hini, hcC, hcS, hf, hlc, hscr⟩ := X
  obtain ⟨pc, L, st, w, K, ce, sl⟩ := S
  have h1 : some ((.i2b : Instr), (1 : Nat), ([] : List Cond)) = some (i, n, cs) := h1
  cases h1
  · obtain ⟨x0, rest, S', rfl, rfl, e1, e2, g', l1, hR'⟩ := ev_una_ok (fun x => x.toInt8.toInt32) ev_full (fun _ => ev_full_ok _) (show ev_una (fun x => x.toInt8.toInt32) 1 ev_full (pc, L, st, w, K, ce, sl) = some Ss from h2) hR
    exact lv_i2b hx hb hd rfl (ev_Go_eq (hk S' (List.mem_singleton.mpr rfl)) e1 e2 (ev_le_tr hle l1) hR')

def ev_i2l : ev_O := (fun _ _ => some (.i2l, 1, []), fun _ _ S => match S.2.2.1 with
  | x :: st => if ev_isI x = true then (if x.1 = 0 then some [ev_adv S 1 ((4, ((Int32.ofInt x.2).toInt64).toInt) :: st)] else some [ev_advK S 1 ((6, (S.2.2.2.2.1.length : Int)) :: st) ev_full]) else none
  | _ => none)
theorem ev_i2l_ok : ev_Snd ev_i2l := by
  intro p l e R s m args below meth c cc Q D A g0 P t S i n cs Ss X h1 hd hw h2 hk g ws H locs ls sc hle hR
  obtain ⟨hx, hb, hml, hown, hts, hK, hA, hN, hini, hcC, hcS, hf, hlc, hscr⟩ := X
  obtain ⟨pc, L, st, w, K, ce, sl⟩ := S
  have h1 : some ((.i2l : Instr), (1 : Nat), ([] : List Cond)) = some (i, n, cs) := h1
  cases h1
  unfold ev_i2l at h2
  dsimp only at h2
  split at h2
  · rename_i x st'
    split at h2
    · rename_i hi
      have hR0 := hR
      obtain ⟨hP, hD, hS, hW, hB, hL, hs⟩ := hR0
      obtain ⟨vx, sc2, rfl, hvx, hs2⟩ := ev_s_cons hs
      obtain ⟨x0, rfl⟩ := ev_vI hi hvx
      split at h2
      · rename_i hz
        cases h2
        obtain ⟨xt, xn⟩ := x
        have hz : xt = 0 := hz
        subst hz
        have ex : Int32.ofInt xn = x0 := Value.int.inj (Option.some.inj hvx)
        exact lv_i2l hx hb hd rfl (hk _ (List.mem_singleton.mpr rfl) g ws H locs ls _ hle ⟨hP, hD, hS, hW, hB, hL, by dsimp only; rw [ex]; exact ev_v4 g _, hs2⟩)
      · cases h2
        obtain ⟨g', l1, ⟨hP, hD, hS, hW, hB, hL, hs⟩, e1⟩ := ev_fresh hR (.long x0.toInt64) ev_full (fun z hz => by cases hz)
        exact lv_i2l hx hb hd rfl (hk _ (List.mem_singleton.mpr rfl) g' ws H locs ls _ (ev_le_tr hle l1) ⟨hP, hD, hS, hW, hB, hL, ev_v6 e1, hs.2⟩)
    · cases h2
  · cases h2
def ev_lcmp : ev_O := (fun _ _ => some (.lcmp, 1, []), fun _ _ S => match S.2.2.1 with
  | y :: x :: st => if ev_isL x = true ∧ ev_isL y = true then (if x.1 = 4 ∧ y.1 = 4 then some [ev_adv S 1 ((0, (lg_cmp (Int64.ofInt x.2) (Int64.ofInt y.2)).toInt) :: st)] else some [ev_advK S 1 ((3, (S.2.2.2.2.1.length : Int)) :: st) ev_full]) else none
  | _ => none)
theorem ev_lcmp_ok : ev_Snd ev_lcmp := by
  intro p l e R s m args below meth c cc Q D A g0 P t S i n cs Ss X h1 hd hw h2 hk g ws H locs ls sc hle hR
  obtain ⟨hx, hb, hml, hown, hts, hK, hA, hN, hini, hcC, hcS, hf, hlc, hscr⟩ := X
  obtain ⟨pc, L, st, w, K, ce, sl⟩ := S
  have h1 : some ((.lcmp : Instr), (1 : Nat), ([] : List Cond)) = some (i, n, cs) := h1
  cases h1
  unfold ev_lcmp at h2
  dsimp only at h2
  split at h2
  · rename_i y x st'
    split at h2
    · rename_i hi
      have hR0 := hR
      obtain ⟨hP, hD, hS, hW, hB, hL, hs⟩ := hR0
      obtain ⟨vy, sc1, rfl, hvy, hs1⟩ := ev_s_cons hs
      obtain ⟨vx, sc2, rfl, hvx, hs2⟩ := ev_s_cons hs1
      obtain ⟨y0, rfl⟩ := ev_vL hi.2 hvy
      obtain ⟨x0, rfl⟩ := ev_vL hi.1 hvx
      split at h2
      · rename_i hz
        cases h2
        obtain ⟨xt, xn⟩ := x
        obtain ⟨yt, yn⟩ := y
        obtain ⟨rfl, rfl⟩ := hz
        have ex : Int64.ofInt xn = x0 := Value.long.inj (Option.some.inj hvx)
        have ey : Int64.ofInt yn = y0 := Value.long.inj (Option.some.inj hvy)
        exact W.lcmp hx hb hd (hk _ (List.mem_singleton.mpr rfl) g ws H locs ls _ hle ⟨hP, hD, hS, hW, hB, hL, by dsimp only; rw [ex, ey]; exact ev_v0 g _, hs2⟩)
      · cases h2
        obtain ⟨g', l1, ⟨hP, hD, hS, hW, hB, hL, hs⟩, e1⟩ := ev_fresh hR (.int (lg_cmp x0 y0)) ev_full (fun z hz => ev_full_ok _)
        exact W.lcmp hx hb hd (hk _ (List.mem_singleton.mpr rfl) g' ws H locs ls _ (ev_le_tr hle l1) ⟨hP, hD, hS, hW, hB, hL, ev_v3 e1, hs.2.2⟩)
    · cases h2
  · cases h2
/-! the stack -/
def ev_dup : ev_O := (fun _ _ => some (.dup, 1, []), fun _ _ S => match S.2.2.1 with
  | x :: st => if ev_isL x = false then some [ev_adv S 1 (x :: x :: st)] else none
  | _ => none)
theorem ev_cat1 {g : ev_G} {a : ev_A} {v : Value} (hv : ev_v g a = some v) (h : ev_isL a = false) : v.category = 1 := by
  rcases ev_cat hv with ⟨h1, h2⟩ | ⟨h1, h2⟩
  · rw [h] at h1; cases h1
  · exact h2
theorem ev_cat2 {g : ev_G} {a : ev_A} {v : Value} (hv : ev_v g a = some v) (h : ev_isL a = true) : v.category = 2 := by
  rcases ev_cat hv with ⟨h1, h2⟩ | ⟨h1, h2⟩
  · exact h2
  · rw [h] at h1; cases h1
theorem ev_dup_ok : ev_Snd ev_dup := by
  intro p l e R s m args below meth c cc Q D A g0 P t S i n cs Ss X h1 hd hw h2 hk g ws H locs ls sc hle hR
  obtain ⟨hx, hb, hml, hown, hts, hK, hA, hN, hini, hcC, hcS, hf, hlc, hscr⟩ := X
  obtain ⟨pc, L, st, w, K, ce, sl⟩ := S
  have h1 : some ((.dup : Instr), (1 : Nat), ([] : List Cond)) = some (i, n, cs) := h1
  cases h1
  unfold ev_dup at h2
  dsimp only at h2
  split at h2
  · rename_i x st'
    split at h2
    · rename_i hi
      cases h2
      obtain ⟨hP, hD, hS, hW, hB, hL, hs⟩ := hR
      obtain ⟨vx, sc2, rfl, hvx, hs2⟩ := ev_s_cons hs
      exact lv_dup hx hb hd (ev_cat1 hvx hi) (hk _ (List.mem_singleton.mpr rfl) g ws H locs ls _ hle ⟨hP, hD, hS, hW, hB, hL, hvx, hvx, hs2⟩)
    · cases h2
  · cases h2
def ev_pop : ev_O := (fun _ _ => some (.pop, 1, []), fun _ _ S => match S.2.2.1 with
  | x :: st => if ev_isL x = false then some [ev_adv S 1 st] else none
  | _ => none)
theorem ev_pop_ok : ev_Snd ev_pop := by
  intro p l e R s m args below meth c cc Q D A g0 P t S i n cs Ss X h1 hd hw h2 hk g ws H locs ls sc hle hR
  obtain ⟨hx, hb, hml, hown, hts, hK, hA, hN, hini, hcC, hcS, hf, hlc, hscr⟩ := X
  obtain ⟨pc, L, st, w, K, ce, sl⟩ := S
  have h1 : some ((.pop : Instr), (1 : Nat), ([] : List Cond)) = some (i, n, cs) := h1
  cases h1
  unfold ev_pop at h2
  dsimp only at h2
  split at h2
  · rename_i x st'
    split at h2
    · rename_i hi
      cases h2
      obtain ⟨hP, hD, hS, hW, hB, hL, hs⟩ := hR
      obtain ⟨vx, sc2, rfl, hvx, hs2⟩ := ev_s_cons hs
      exact lv_pop hx hb hd (ev_cat1 hvx hi) (hk _ (List.mem_singleton.mpr rfl) g ws H locs ls _ hle ⟨hP, hD, hS, hW, hB, hL, hs2⟩)
    · cases h2
  · cases h2
def ev_dup2 : ev_O := (fun _ _ => some (.dup2, 1, []), fun _ _ S => match S.2.2.1 with
  | x :: y :: st => if ev_isL x = false ∧ ev_isL y = false then some [ev_adv S 1 (x :: y :: x :: y :: st)] else none
  | _ => none)
theorem ev_dup2_ok : ev_Snd ev_dup2 := by
  intro p l e R s m args below meth c cc Q D A g0 P t S i n cs Ss X h1 hd hw h2 hk g ws H locs ls sc hle hR
  obtain ⟨hx, hb, hml, hown, hts, hK, hA, hN, hini, hcC, hcS, hf, hlc, hscr⟩ := X
  obtain ⟨pc, L, st, w, K, ce, sl⟩ := S
  have h1 : some ((.dup2 : Instr), (1 : Nat), ([] : List Cond)) = some (i, n, cs) := h1
  cases h1
  unfold ev_dup2 at h2
  dsimp only at h2
  split at h2
  · rename_i x y st'
    split at h2
    · rename_i hi
      cases h2
      obtain ⟨hP, hD, hS, hW, hB, hL, hs⟩ := hR
      obtain ⟨vx, sc1, rfl, hvx, hs1⟩ := ev_s_cons hs
      obtain ⟨vy, sc2, rfl, hvy, hs2⟩ := ev_s_cons hs1
      exact lv_dup2_11 hx hb hd (ev_cat1 hvx hi.1) (ev_cat1 hvy hi.2) (hk _ (List.mem_singleton.mpr rfl) g ws H locs ls _ hle ⟨hP, hD, hS, hW, hB, hL, hvx, hvy, hvx, hvy, hs2⟩)
    · cases h2
  · cases h2
/-! iinc -/
def ev_iinc : ev_O := (fun _ t => some (.iinc t.1.toNat t.2.1, 3, []), fun P t S => match ev_look S.2.1 t.1.toNat with
  | some x => if ev_isI x = true ∧ t.1.toNat < P.2.2.2.2.1 then (if x.1 = 0 then some [(S.1 + 3, ev_st1 S.2.1 t.1.toNat (0, (Int32.ofInt x.2 + Int32.ofInt t.2.1).toInt), S.2.2)] else some [(S.1 + 3, ev_st1 S.2.1 t.1.toNat (3, (S.2.2.2.2.1.length : Int)), S.2.2.1, S.2.2.2.1, S.2.2.2.2.1 ++ [ev_full], S.2.2.2.2.2)]) else none
  | none => none)
theorem ev_iinc_ok : ev_Snd ev_iinc := by
  intro p l e R s m args below meth c cc Q D A g0 P t S i n cs Ss X h1 hd hw h2 hk g ws H locs ls sc hle hR
  obtain ⟨hx, hb, hml, hown, hts, hK, hA, hN, hini, hcC, hcS, hf, hlc, hscr⟩ := X
  obtain ⟨pc, L, st, w, K, ce, sl⟩ := S
  have h1 : some ((.iinc t.1.toNat t.2.1 : Instr), (3 : Nat), ([] : List Cond)) = some (i, n, cs) := h1
  cases h1
  unfold ev_iinc at h2
  dsimp only at h2
  split at h2
  · rename_i x ha
    split at h2
    · rename_i hi
      have hR0 := hR
      obtain ⟨hP, hD, hS, hW, hB, hL, hs⟩ := hR0
      obtain ⟨v, hv, hl⟩ := hL.2.2 _ (ev_look_mem ha)
      dsimp only at hv hl
      obtain ⟨x0, rfl⟩ := ev_vI hi.1 hv
      split at h2
      · rename_i hz
        cases h2
        obtain ⟨xt, xn⟩ := x
        have hz : xt = 0 := hz
        subst hz
        have ex : Int32.ofInt xn = x0 := Value.int.inj (Option.some.inj hv)
        obtain ⟨k, hk1⟩ := List.getElem?_of_mem (ev_conc_mem (ev_look_mem ha) hv)
        refine lv_iinc hx hb hd (ev_conc_has hL) hk1 rfl hi.2 rfl (fun ls' hl' => hk _ (List.mem_singleton.mpr rfl) g ws H locs ls' _ hle ⟨hP, hD, hS, hW, hB, ev_st1_ok hL ?_ hl', hs⟩)
        dsimp only
        rw [ex]
        exact ev_v0 g _
      · cases h2
        obtain ⟨g', l1, ⟨hP, hD, hS, hW, hB, hL, hs⟩, e1⟩ := ev_fresh hR (.int (x0 + Int32.ofInt t.2.1)) ev_full (fun z hz => ev_full_ok _)
        have hv := ev_v_le l1 hv
        obtain ⟨k, hk1⟩ := List.getElem?_of_mem (ev_conc_mem (ev_look_mem ha) hv)
        exact lv_iinc hx hb hd (ev_conc_has hL) hk1 rfl hi.2 rfl (fun ls' hl' => hk _ (List.mem_singleton.mpr rfl) g' ws H locs ls' _ (ev_le_tr hle l1) ⟨hP, hD, hS, hW, hB, ev_st1_ok hL (ev_v3 e1) hl', hs⟩)
    · cases h2
  · cases h2
/-! branches: 0 eq, 1 ne, 2 lt, 3 ge, 4 gt, 5 le -/
def ev_cmp (r : Nat) (x y : Int32) : Bool := match r with
  | 0 => decide (x = y)
  | 1 => !decide (x = y)
  | 2 => decide (x < y)
  | 3 => decide (y ≤ x)
  | 4 => decide (y < x)
  | _ => decide (x ≤ y)
def ev_neg (r : Nat) : Nat := match r with
  | 0 => 1
  | 1 => 0
  | 2 => 3
  | 3 => 2
  | 4 => 5
  | _ => 4
theorem ev_neg_ok (r : Nat) (x y : Int32) : ev_cmp (ev_neg r) x y = !ev_cmp r x y := by
  match r with
  | 0 => simp [ev_neg, ev_cmp]
  | 1 => simp [ev_neg, ev_cmp]
  | 2 => show decide (y ≤ x) = !decide (x < y); rw [← decide_not]; exact decide_eq_decide.mpr Int32.not_lt.symm
  | 3 => show decide (x < y) = !decide (y ≤ x); rw [← decide_not]; exact decide_eq_decide.mpr Int32.not_le.symm
  | 4 => show decide (x ≤ y) = !decide (y < x); rw [← decide_not]; exact decide_eq_decide.mpr Int32.not_lt.symm
  | n + 5 => show decide (y < x) = !decide (x ≤ y); rw [← decide_not]; exact decide_eq_decide.mpr Int32.not_le.symm
def ev_swp (r : Nat) : Nat := match r with
  | 0 => 0
  | 1 => 1
  | 2 => 4
  | 3 => 5
  | 4 => 2
  | _ => 3
theorem ev_swp_ok (r : Nat) (x y : Int32) : ev_cmp (ev_swp r) y x = ev_cmp r x y := by
  match r with
  | 0 => simp [ev_swp, ev_cmp, eq_comm]
  | 1 => simp [ev_swp, ev_cmp, eq_comm]
  | 2 => rfl
  | 3 => rfl
  | 4 => rfl
  | n + 5 => rfl
def ev_ref (r : Nat) (b : Int × Int) (c : Int) : Int × Int := match r with
  | 0 => (max b.1 c, min b.2 c)
  | 1 => (if b.1 = c then c + 1 else b.1, if b.2 = c then c - 1 else b.2)
  | 2 => (b.1, min b.2 (c - 1))
  | 3 => (max b.1 c, b.2)
  | 4 => (max b.1 (c + 1), b.2)
  | _ => (b.1, min b.2 c)
theorem ev_ref_ok {r : Nat} {b : Int × Int} {x y : Int32} (hb : b.1 ≤ x.toInt ∧ x.toInt ≤ b.2) (h : ev_cmp r x y = true) : (ev_ref r b y.toInt).1 ≤ x.toInt ∧ x.toInt ≤ (ev_ref r b y.toInt).2 := by
  match r, h with
  | 0, h =>
    have h : x = y := by simpa [ev_cmp] using h
    subst h
    simp only [ev_ref]
    omega
  | 1, h =>
    have h : ¬ x = y := by simpa [ev_cmp] using h
    have h : ¬ x.toInt = y.toInt := fun q => h (Int32.toInt_inj.mp q)
    simp only [ev_ref]
    constructor <;> split <;> omega
  | 2, h =>
    have h : x < y := by simpa [ev_cmp] using h
    rw [Int32.lt_iff_toInt_lt] at h
    simp only [ev_ref]
    omega
  | 3, h =>
    have h : y ≤ x := by simpa [ev_cmp] using h
    rw [Int32.le_iff_toInt_le] at h
    simp only [ev_ref]
    omega
  | 4, h =>
    have h : y < x := by simpa [ev_cmp] using h
    rw [Int32.lt_iff_toInt_lt] at h
    simp only [ev_ref]
    omega
  | n + 5, h =>
    have h : x ≤ y := by simpa [ev_cmp] using h
    rw [Int32.le_iff_toInt_le] at h
    simp only [ev_ref]
    omega
/-- the bounds under which 'x r y' holds: none if it can't -/
def ev_nar (r : Nat) (a : ev_A) (c : Int32) (K : ev_K) : List ev_K := match K[a.2.toNat]? with
  | some b => if (ev_ref r b c.toInt).1 ≤ (ev_ref r b c.toInt).2 then [K.set a.2.toNat (ev_ref r b c.toInt)] else []
  | none => [K]
def ev_br (r : Nat) (x y : ev_A) (K : ev_K) : List ev_K :=
  if x.1 = 0 ∧ y.1 = 0 then (if ev_cmp r (Int32.ofInt x.2) (Int32.ofInt y.2) = true then [K] else [])
  else if x.1 = 3 ∧ y.1 = 0 then ev_nar r x (Int32.ofInt y.2) K
  else if x.1 = 0 ∧ y.1 = 3 then ev_nar (ev_swp r) y (Int32.ofInt x.2) K
  else [K]
theorem ev_b_set {K : ev_K} {E : List Value} {k : Nat} {b : Int × Int} {x : Int32} (h : ev_b K E) (hx : E[k]? = some (.int x)) (hb : b.1 ≤ x.toInt ∧ x.toInt ≤ b.2) : ev_b (K.set k b) E := by
  refine ⟨by rw [List.length_set]; exact h.1, fun j q z h1 h2 => ?_⟩
  by_cases hj : j = k
  · subst hj
    have hl : j < (K.set j b).length := (List.getElem?_eq_some_iff.mp h1).1
    rw [List.length_set] at hl
    rw [List.getElem?_set_self hl] at h1
    cases h1
    rw [hx] at h2
    cases h2
    exact hb
  · rw [List.getElem?_set_ne (Ne.symm hj)] at h1
    exact h.2 j q z h1 h2
theorem ev_var {g : ev_G} {a : ev_A} {x : Int32} (h : a.1 = 3) (hv : ev_v g a = some (.int x)) : g.2.2[a.2.toNat]? = some (.int x) := by
  obtain ⟨t, n⟩ := a
  have h : t = 3 := h
  subst h
  simp only [ev_v] at hv
  split at hv
  · rename_i z hz
    cases hv
    exact hz
  · cases hv
theorem ev_nar_ok {r : Nat} {a : ev_A} {K : ev_K} {g : ev_G} {x y : Int32} (hB : ev_b K g.2.2) (ht : a.1 = 3) (hv : ev_v g a = some (.int x)) (h : ev_cmp r x y = true) : ∃ K' ∈ ev_nar r a y K, ev_b K' g.2.2 := by
  have hE := ev_var ht hv
  unfold ev_nar
  split
  · rename_i b hb
    have h1 := hB.2 _ b x hb hE
    have h2 := ev_ref_ok h1 h
    rw [if_pos (Int.le_trans h2.1 h2.2)]
    exact ⟨_, List.mem_singleton.mpr rfl, ev_b_set hB hE h2⟩
  · exact ⟨_, List.mem_singleton.mpr rfl, hB⟩
theorem ev_br_ok {r : Nat} {a b : ev_A} {K : ev_K} {g : ev_G} {x y : Int32} (hB : ev_b K g.2.2) (ha : ev_v g a = some (.int x)) (hb : ev_v g b = some (.int y)) (h : ev_cmp r x y = true) : ∃ K' ∈ ev_br r a b K, ev_b K' g.2.2 := by
  have cst : ∀ {z : ev_A} {n : Int32}, z.1 = 0 → ev_v g z = some (.int n) → Int32.ofInt z.2 = n := by
    intro z n hz hv
    obtain ⟨t, k⟩ := z
    have hz : t = 0 := hz
    subst hz
    exact Value.int.inj (Option.some.inj hv)
  unfold ev_br
  split
  · rename_i hz
    rw [cst hz.1 ha, cst hz.2 hb, if_pos h]
    exact ⟨_, List.mem_singleton.mpr rfl, hB⟩
  · split
    · rename_i hz
      rw [cst hz.2 hb]
      exact ev_nar_ok hB hz.1 ha h
    · split
      · rename_i hz
        rw [cst hz.1 ha]
        exact ev_nar_ok hB hz.2 hb (by rw [ev_swp_ok]; exact h)
      · exact ⟨_, List.mem_singleton.mpr rfl, hB⟩
def ev_setK (S : ev_S) (pc : Nat) (st : List ev_A) (K : ev_K) : ev_S := (pc, S.2.1, st, S.2.2.2.1, K, S.2.2.2.2.2)
def ev_fork (r : Nat) (x y : ev_A) (off : Int) (st : List ev_A) (S : ev_S) : Option (List ev_S) :=
  if 0 ≤ (S.1 : Int) + off then some ((ev_br r x y S.2.2.2.2.1).map (ev_setK S ((S.1 : Int) + off).toNat st) ++ (ev_br (ev_neg r) x y S.2.2.2.2.1).map (ev_setK S (S.1 + 3) st)) else none
def ev_cnd (r : Nat) : ClassFile.Cond := match r with
  | 0 => .eq
  | 1 => .ne
  | 2 => .lt
  | 3 => .ge
  | 4 => .gt
  | _ => .le
end
section
theorem ev_fork_ok {r : Nat} {a b : ev_A} {off : Int} {st' : List ev_A} {pc : Nat} {L : List (Nat × ev_A)} {st : List ev_A} {w : List ev_C} {K : ev_K} {ce sl : Nat} {Ss : List ev_S} (h : ev_fork r a b off st' (pc, L, st, w, K, ce, sl) = some Ss)
    {p : Program} {l : Launch} {e : Env} {R : Room} {s : State} {m : MethodId} {args : Array Value} {below : List Frame} {meth : Method} {c : Code} {Q : State → Prop} {nL : Nat} {D : va_G} {A : Nat → Prop} {g0 : ev_G} (hk : ∀ S' ∈ Ss, ev_Go p l e R s m args below meth c Q nL D A g0 S')
    {g : ev_G} {ws : va_W} {H : Heap} {locs : List Loc} {ls : Array Slot} {sc : List Value} (hle : ev_le g0 g) (hP : va_P D vwCl ws H) (hD : va_D A ws) (hS : va_S A s.heap H locs) (hW : ev_w s g w ws) (hB : ev_b K g.2.2) (hL : ev_l g L nL ls) (hs : ev_s g st' sc) {x y : Int32} (ha : ev_v g a = some (.int x)) (hb : ev_v g b = some (.int y)) :
    ∃ tgt : Nat, (pc : Int) + off = (tgt : Int) ∧ (ev_cmp r x y = true → W p l e R s m args below meth c H locs ce sl Q (F0 m tgt ls sc)) ∧ (ev_cmp r x y = false → W p l e R s m args below meth c H locs ce sl Q (F0 m (pc + 3) ls sc)) := by
  unfold ev_fork at h
  split at h
  · rename_i h0
    dsimp only at h0
    cases h
    refine ⟨((pc : Int) + off).toNat, by omega, fun hc => ?_, fun hc => ?_⟩
    · obtain ⟨K', h1, h2⟩ := ev_br_ok hB ha hb hc
      exact hk _ (List.mem_append_left _ (List.mem_map.mpr ⟨K', h1, rfl⟩)) g ws H locs ls sc hle ⟨hP, hD, hS, hW, h2, hL, hs⟩
    · obtain ⟨K', h1, h2⟩ := ev_br_ok (r := ev_neg r) hB ha hb (by rw [ev_neg_ok, hc]; rfl)
      exact hk _ (List.mem_append_right _ (List.mem_map.mpr ⟨K', h1, rfl⟩)) g ws H locs ls sc hle ⟨hP, hD, hS, hW, h2, hL, hs⟩
  · cases h

def ev_icmp_eq : ev_O := (fun _ t => some (.if_icmp .eq t.1, 3, []), fun _ t S => match S.2.2.1 with
  | y :: x :: st => if ev_isI x = true ∧ ev_isI y = true then ev_fork 0 x y t.1 st S else none
  | _ => none)
theorem ev_icmp_eq_ok : ev_Snd ev_icmp_eq := by
  intro p l e R s m args below meth c cc Q D A g0 P t S i n cs Ss X h1 hd hw h2 hk g ws H locs ls sc hle hR
  obtain ⟨hx, hb, hml, hown, hts, hK, hA, hN, hini, hcC, hcS, hf, hlc, hscr⟩ := X
  obtain ⟨pc, L, st, w, K, ce, sl⟩ := S
  have h1 : some ((.if_icmp .eq t.1 : Instr), (3 : Nat), ([] : List Cond)) = some (i, n, cs) := h1
  cases h1
  unfold ev_icmp_eq at h2
  dsimp only at h2
  split at h2
  · rename_i y x st'
    split at h2
    · rename_i hi
      obtain ⟨hP, hD, hS, hW, hB, hL, hs⟩ := hR
      obtain ⟨vy, sc1, rfl, hvy, hs1⟩ := ev_s_cons hs
      obtain ⟨vx, sc2, rfl, hvx, hs2⟩ := ev_s_cons hs1
      obtain ⟨y0, rfl⟩ := ev_vI hi.2 hvy
      obtain ⟨x0, rfl⟩ := ev_vI hi.1 hvx
      obtain ⟨tgt, ht, k1, k2⟩ := ev_fork_ok h2 hk hle hP hD hS hW hB hL hs2 hvx hvy
      exact lv_icmp_eq hx hb hd ht (fun q => k1 (by simpa [ev_cmp] using q)) (fun q => k2 (by simpa [ev_cmp] using q))
    · cases h2
  · cases h2
def ev_if_eq : ev_O := (fun _ t => some (.ifCond .eq t.1, 3, []), fun _ t S => match S.2.2.1 with
  | x :: st => if ev_isI x = true then ev_fork 0 x (0, 0) t.1 st S else none
  | _ => none)
theorem ev_if_eq_ok : ev_Snd ev_if_eq := by
  intro p l e R s m args below meth c cc Q D A g0 P t S i n cs Ss X h1 hd hw h2 hk g ws H locs ls sc hle hR
  obtain ⟨hx, hb, hml, hown, hts, hK, hA, hN, hini, hcC, hcS, hf, hlc, hscr⟩ := X
  obtain ⟨pc, L, st, w, K, ce, sl⟩ := S
  have h1 : some ((.ifCond .eq t.1 : Instr), (3 : Nat), ([] : List Cond)) = some (i, n, cs) := h1
  cases h1
  unfold ev_if_eq at h2
  dsimp only at h2
  split at h2
  · rename_i x st'
    split at h2
    · rename_i hi
      obtain ⟨hP, hD, hS, hW, hB, hL, hs⟩ := hR
      obtain ⟨vx, sc2, rfl, hvx, hs2⟩ := ev_s_cons hs
      obtain ⟨x0, rfl⟩ := ev_vI hi hvx
      obtain ⟨tgt, ht, k1, k2⟩ := ev_fork_ok h2 hk hle hP hD hS hW hB hL hs2 hvx (show ev_v g (0, 0) = some (.int 0) from rfl)
      exact lv_if_eq hx hb hd ht (fun q => k1 (by simpa [ev_cmp] using q)) (fun q => k2 (by simpa [ev_cmp] using q))
    · cases h2
  · cases h2

def ev_icmp_ne : ev_O := (fun _ t => some (.if_icmp .ne t.1, 3, []), fun _ t S => match S.2.2.1 with
  | y :: x :: st => if ev_isI x = true ∧ ev_isI y = true then ev_fork 1 x y t.1 st S else none
  | _ => none)
theorem ev_icmp_ne_ok : ev_Snd ev_icmp_ne := by
  intro p l e R s m args below meth c cc Q D A g0 P t S i n cs Ss X h1 hd hw h2 hk g ws H locs ls sc hle hR
  obtain ⟨hx, hb, hml, hown, hts, hK, hA, hN, hini, hcC, hcS, hf, hlc, hscr⟩ := X
  obtain ⟨pc, L, st, w, K, ce, sl⟩ := S
  have h1 : some ((.if_icmp .ne t.1 : Instr), (3 : Nat), ([] : List Cond)) = some (i, n, cs) := h1
  cases h1
  unfold ev_icmp_ne at h2
  dsimp only at h2
  split at h2
  · rename_i y x st'
    split at h2
    · rename_i hi
      obtain ⟨hP, hD, hS, hW, hB, hL, hs⟩ := hR
      obtain ⟨vy, sc1, rfl, hvy, hs1⟩ := ev_s_cons hs
      obtain ⟨vx, sc2, rfl, hvx, hs2⟩ := ev_s_cons hs1
      obtain ⟨y0, rfl⟩ := ev_vI hi.2 hvy
      obtain ⟨x0, rfl⟩ := ev_vI hi.1 hvx
      obtain ⟨tgt, ht, k1, k2⟩ := ev_fork_ok h2 hk hle hP hD hS hW hB hL hs2 hvx hvy
      exact lv_icmp_ne hx hb hd ht (fun q => k1 (by simpa [ev_cmp] using q)) (fun q => k2 (by simpa [ev_cmp] using q))
    · cases h2
  · cases h2
def ev_if_ne : ev_O := (fun _ t => some (.ifCond .ne t.1, 3, []), fun _ t S => match S.2.2.1 with
  | x :: st => if ev_isI x = true then ev_fork 1 x (0, 0) t.1 st S else none
  | _ => none)
theorem ev_if_ne_ok : ev_Snd ev_if_ne := by
  intro p l e R s m args below meth c cc Q D A g0 P t S i n cs Ss X h1 hd hw h2 hk g ws H locs ls sc hle hR
  obtain ⟨hx, hb, hml, hown, hts, hK, hA, hN, hini, hcC, hcS, hf, hlc, hscr⟩ := X
  obtain ⟨pc, L, st, w, K, ce, sl⟩ := S
  have h1 : some ((.ifCond .ne t.1 : Instr), (3 : Nat), ([] : List Cond)) = some (i, n, cs) := h1
  cases h1
  unfold ev_if_ne at h2
  dsimp only at h2
  split at h2
  · rename_i x st'
    split at h2
    · rename_i hi
      obtain ⟨hP, hD, hS, hW, hB, hL, hs⟩ := hR
      obtain ⟨vx, sc2, rfl, hvx, hs2⟩ := ev_s_cons hs
      obtain ⟨x0, rfl⟩ := ev_vI hi hvx
      obtain ⟨tgt, ht, k1, k2⟩ := ev_fork_ok h2 hk hle hP hD hS hW hB hL hs2 hvx (show ev_v g (0, 0) = some (.int 0) from rfl)
      exact lv_if_ne hx hb hd ht (fun q => k1 (by simpa [ev_cmp] using q)) (fun q => k2 (by simpa [ev_cmp] using q))
    · cases h2
  · cases h2

def ev_icmp_lt : ev_O := (fun _ t => some (.if_icmp .lt t.1, 3, []), fun _ t S => match S.2.2.1 with
  | y :: x :: st => if ev_isI x = true ∧ ev_isI y = true then ev_fork 2 x y t.1 st S else none
  | _ => none)
theorem ev_icmp_lt_ok : ev_Snd ev_icmp_lt := by
  intro p l e R s m args below meth c cc Q D A g0 P t S i n cs Ss X h1 hd hw h2 hk g ws H locs ls sc hle hR
  obtain ⟨hx, hb, hml, hown, hts, hK, hA, hN, hini, hcC, hcS, hf, hlc, hscr⟩ := X
  obtain ⟨pc, L, st, w, K, ce, sl⟩ := S
  have h1 : some ((.if_icmp .lt t.1 : Instr), (3 : Nat), ([] : List Cond)) = some (i, n, cs) := h1
  cases h1
  unfold ev_icmp_lt at h2
  dsimp only at h2
  split at h2
  · rename_i y x st'
    split at h2
    · rename_i hi
      obtain ⟨hP, hD, hS, hW, hB, hL, hs⟩ := hR
      obtain ⟨vy, sc1, rfl, hvy, hs1⟩ := ev_s_cons hs
      obtain ⟨vx, sc2, rfl, hvx, hs2⟩ := ev_s_cons hs1
      obtain ⟨y0, rfl⟩ := ev_vI hi.2 hvy
      obtain ⟨x0, rfl⟩ := ev_vI hi.1 hvx
      obtain ⟨tgt, ht, k1, k2⟩ := ev_fork_ok h2 hk hle hP hD hS hW hB hL hs2 hvx hvy
      exact lv_icmp_lt hx hb hd ht (fun q => k1 (by simpa [ev_cmp] using q)) (fun q => k2 (by simpa [ev_cmp] using q))
    · cases h2
  · cases h2
def ev_if_lt : ev_O := (fun _ t => some (.ifCond .lt t.1, 3, []), fun _ t S => match S.2.2.1 with
  | x :: st => if ev_isI x = true then ev_fork 2 x (0, 0) t.1 st S else none
  | _ => none)
theorem ev_if_lt_ok : ev_Snd ev_if_lt := by
  intro p l e R s m args below meth c cc Q D A g0 P t S i n cs Ss X h1 hd hw h2 hk g ws H locs ls sc hle hR
  obtain ⟨hx, hb, hml, hown, hts, hK, hA, hN, hini, hcC, hcS, hf, hlc, hscr⟩ := X
  obtain ⟨pc, L, st, w, K, ce, sl⟩ := S
  have h1 : some ((.ifCond .lt t.1 : Instr), (3 : Nat), ([] : List Cond)) = some (i, n, cs) := h1
  cases h1
  unfold ev_if_lt at h2
  dsimp only at h2
  split at h2
  · rename_i x st'
    split at h2
    · rename_i hi
      obtain ⟨hP, hD, hS, hW, hB, hL, hs⟩ := hR
      obtain ⟨vx, sc2, rfl, hvx, hs2⟩ := ev_s_cons hs
      obtain ⟨x0, rfl⟩ := ev_vI hi hvx
      obtain ⟨tgt, ht, k1, k2⟩ := ev_fork_ok h2 hk hle hP hD hS hW hB hL hs2 hvx (show ev_v g (0, 0) = some (.int 0) from rfl)
      exact lv_if_lt hx hb hd ht (fun q => k1 (by simpa [ev_cmp] using q)) (fun q => k2 (by simpa [ev_cmp] using q))
    · cases h2
  · cases h2

def ev_icmp_ge : ev_O := (fun _ t => some (.if_icmp .ge t.1, 3, []), fun _ t S => match S.2.2.1 with
  | y :: x :: st => if ev_isI x = true ∧ ev_isI y = true then ev_fork 3 x y t.1 st S else none
  | _ => none)
theorem ev_icmp_ge_ok : ev_Snd ev_icmp_ge := by
  intro p l e R s m args below meth c cc Q D A g0 P t S i n cs Ss X h1 hd hw h2 hk g ws H locs ls sc hle hR
  obtain ⟨hx, hb, hml, hown, hts, hK, hA, hN, hini, hcC, hcS, hf, hlc, hscr⟩ := X
  obtain ⟨pc, L, st, w, K, ce, sl⟩ := S
  have h1 : some ((.if_icmp .ge t.1 : Instr), (3 : Nat), ([] : List Cond)) = some (i, n, cs) := h1
  cases h1
  unfold ev_icmp_ge at h2
  dsimp only at h2
  split at h2
  · rename_i y x st'
    split at h2
    · rename_i hi
      obtain ⟨hP, hD, hS, hW, hB, hL, hs⟩ := hR
      obtain ⟨vy, sc1, rfl, hvy, hs1⟩ := ev_s_cons hs
      obtain ⟨vx, sc2, rfl, hvx, hs2⟩ := ev_s_cons hs1
      obtain ⟨y0, rfl⟩ := ev_vI hi.2 hvy
      obtain ⟨x0, rfl⟩ := ev_vI hi.1 hvx
      obtain ⟨tgt, ht, k1, k2⟩ := ev_fork_ok h2 hk hle hP hD hS hW hB hL hs2 hvx hvy
      exact lv_icmp_ge hx hb hd ht (fun q => k1 (by simpa [ev_cmp] using q)) (fun q => k2 (by simpa [ev_cmp] using q))
    · cases h2
  · cases h2
def ev_if_ge : ev_O := (fun _ t => some (.ifCond .ge t.1, 3, []), fun _ t S => match S.2.2.1 with
  | x :: st => if ev_isI x = true then ev_fork 3 x (0, 0) t.1 st S else none
  | _ => none)
theorem ev_if_ge_ok : ev_Snd ev_if_ge := by
  intro p l e R s m args below meth c cc Q D A g0 P t S i n cs Ss X h1 hd hw h2 hk g ws H locs ls sc hle hR
  obtain ⟨hx, hb, hml, hown, hts, hK, hA, hN, hini, hcC, hcS, hf, hlc, hscr⟩ := X
  obtain ⟨pc, L, st, w, K, ce, sl⟩ := S
  have h1 : some ((.ifCond .ge t.1 : Instr), (3 : Nat), ([] : List Cond)) = some (i, n, cs) := h1
  cases h1
  unfold ev_if_ge at h2
  dsimp only at h2
  split at h2
  · rename_i x st'
    split at h2
    · rename_i hi
      obtain ⟨hP, hD, hS, hW, hB, hL, hs⟩ := hR
      obtain ⟨vx, sc2, rfl, hvx, hs2⟩ := ev_s_cons hs
      obtain ⟨x0, rfl⟩ := ev_vI hi hvx
      obtain ⟨tgt, ht, k1, k2⟩ := ev_fork_ok h2 hk hle hP hD hS hW hB hL hs2 hvx (show ev_v g (0, 0) = some (.int 0) from rfl)
      exact lv_if_ge hx hb hd ht (fun q => k1 (by simpa [ev_cmp] using q)) (fun q => k2 (by simpa [ev_cmp] using q))
    · cases h2
  · cases h2

def ev_icmp_gt : ev_O := (fun _ t => some (.if_icmp .gt t.1, 3, []), fun _ t S => match S.2.2.1 with
  | y :: x :: st => if ev_isI x = true ∧ ev_isI y = true then ev_fork 4 x y t.1 st S else none
  | _ => none)
theorem ev_icmp_gt_ok : ev_Snd ev_icmp_gt := by
  intro p l e R s m args below meth c cc Q D A g0 P t S i n cs Ss X h1 hd hw h2 hk g ws H locs ls sc hle hR
  obtain ⟨hx, hb, hml, hown, hts, hK, hA, hN, hini, hcC, hcS, hf, hlc, hscr⟩ := X
  obtain ⟨pc, L, st, w, K, ce, sl⟩ := S
  have h1 : some ((.if_icmp .gt t.1 : Instr), (3 : Nat), ([] : List Cond)) = some (i, n, cs) := h1
  cases h1
  unfold ev_icmp_gt at h2
  dsimp only at h2
  split at h2
  · rename_i y x st'
    split at h2
    · rename_i hi
      obtain ⟨hP, hD, hS, hW, hB, hL, hs⟩ := hR
      obtain ⟨vy, sc1, rfl, hvy, hs1⟩ := ev_s_cons hs
      obtain ⟨vx, sc2, rfl, hvx, hs2⟩ := ev_s_cons hs1
      obtain ⟨y0, rfl⟩ := ev_vI hi.2 hvy
      obtain ⟨x0, rfl⟩ := ev_vI hi.1 hvx
      obtain ⟨tgt, ht, k1, k2⟩ := ev_fork_ok h2 hk hle hP hD hS hW hB hL hs2 hvx hvy
      exact lv_icmp_gt hx hb hd ht (fun q => k1 (by simpa [ev_cmp] using q)) (fun q => k2 (by simpa [ev_cmp] using q))
    · cases h2
  · cases h2
def ev_if_gt : ev_O := (fun _ t => some (.ifCond .gt t.1, 3, []), fun _ t S => match S.2.2.1 with
  | x :: st => if ev_isI x = true then ev_fork 4 x (0, 0) t.1 st S else none
  | _ => none)
theorem ev_if_gt_ok : ev_Snd ev_if_gt := by
  intro p l e R s m args below meth c cc Q D A g0 P t S i n cs Ss X h1 hd hw h2 hk g ws H locs ls sc hle hR
  obtain ⟨hx, hb, hml, hown, hts, hK, hA, hN, hini, hcC, hcS, hf, hlc, hscr⟩ := X
  obtain ⟨pc, L, st, w, K, ce, sl⟩ := S
  have h1 : some ((.ifCond .gt t.1 : Instr), (3 : Nat), ([] : List Cond)) = some (i, n, cs) := h1
  cases h1
  unfold ev_if_gt at h2
  dsimp only at h2
  split at h2
  · rename_i x st'
    split at h2
    · rename_i hi
      obtain ⟨hP, hD, hS, hW, hB, hL, hs⟩ := hR
      obtain ⟨vx, sc2, rfl, hvx, hs2⟩ := ev_s_cons hs
      obtain ⟨x0, rfl⟩ := ev_vI hi hvx
      obtain ⟨tgt, ht, k1, k2⟩ := ev_fork_ok h2 hk hle hP hD hS hW hB hL hs2 hvx (show ev_v g (0, 0) = some (.int 0) from rfl)
      exact lv_if_gt hx hb hd ht (fun q => k1 (by simpa [ev_cmp] using q)) (fun q => k2 (by simpa [ev_cmp] using q))
    · cases h2
  · cases h2

def ev_icmp_le : ev_O := (fun _ t => some (.if_icmp .le t.1, 3, []), fun _ t S => match S.2.2.1 with
  | y :: x :: st => if ev_isI x = true ∧ ev_isI y = true then ev_fork 5 x y t.1 st S else none
  | _ => none)
theorem ev_icmp_le_ok : ev_Snd ev_icmp_le := by
  intro p l e R s m args below meth c cc Q D A g0 P t S i n cs Ss X h1 hd hw h2 hk g ws H locs ls sc hle hR
  obtain ⟨hx, hb, hml, hown, hts, hK, hA, hN, hini, hcC, hcS, hf, hlc, hscr⟩ := X
  obtain ⟨pc, L, st, w, K, ce, sl⟩ := S
  have h1 : some ((.if_icmp .le t.1 : Instr), (3 : Nat), ([] : List Cond)) = some (i, n, cs) := h1
  cases h1
  unfold ev_icmp_le at h2
  dsimp only at h2
  split at h2
  · rename_i y x st'
    split at h2
    · rename_i hi
      obtain ⟨hP, hD, hS, hW, hB, hL, hs⟩ := hR
      obtain ⟨vy, sc1, rfl, hvy, hs1⟩ := ev_s_cons hs
      obtain ⟨vx, sc2, rfl, hvx, hs2⟩ := ev_s_cons hs1
      obtain ⟨y0, rfl⟩ := ev_vI hi.2 hvy
      obtain ⟨x0, rfl⟩ := ev_vI hi.1 hvx
      obtain ⟨tgt, ht, k1, k2⟩ := ev_fork_ok h2 hk hle hP hD hS hW hB hL hs2 hvx hvy
      exact lv_icmp_le hx hb hd ht (fun q => k1 (by simpa [ev_cmp] using q)) (fun q => k2 (by simpa [ev_cmp] using q))
    · cases h2
  · cases h2
def ev_if_le : ev_O := (fun _ t => some (.ifCond .le t.1, 3, []), fun _ t S => match S.2.2.1 with
  | x :: st => if ev_isI x = true then ev_fork 5 x (0, 0) t.1 st S else none
  | _ => none)
theorem ev_if_le_ok : ev_Snd ev_if_le := by
  intro p l e R s m args below meth c cc Q D A g0 P t S i n cs Ss X h1 hd hw h2 hk g ws H locs ls sc hle hR
  obtain ⟨hx, hb, hml, hown, hts, hK, hA, hN, hini, hcC, hcS, hf, hlc, hscr⟩ := X
  obtain ⟨pc, L, st, w, K, ce, sl⟩ := S
  have h1 : some ((.ifCond .le t.1 : Instr), (3 : Nat), ([] : List Cond)) = some (i, n, cs) := h1
  cases h1
  unfold ev_if_le at h2
  dsimp only at h2
  split at h2
  · rename_i x st'
    split at h2
    · rename_i hi
      obtain ⟨hP, hD, hS, hW, hB, hL, hs⟩ := hR
      obtain ⟨vx, sc2, rfl, hvx, hs2⟩ := ev_s_cons hs
      obtain ⟨x0, rfl⟩ := ev_vI hi hvx
      obtain ⟨tgt, ht, k1, k2⟩ := ev_fork_ok h2 hk hle hP hD hS hW hB hL hs2 hvx (show ev_v g (0, 0) = some (.int 0) from rfl)
      exact lv_if_le hx hb hd ht (fun q => k1 (by simpa [ev_cmp] using q)) (fun q => k2 (by simpa [ev_cmp] using q))
    · cases h2
  · cases h2

def ev_goto : ev_O := (fun _ t => some (.goto t.1, 3, []), fun _ t S => if 0 ≤ (S.1 : Int) + t.1 then some [(((S.1 : Int) + t.1).toNat, S.2)] else none)
theorem ev_goto_ok : ev_Snd ev_goto := by
  intro p l e R s m args below meth c cc Q D A g0 P t S i n cs Ss X h1 hd hw h2 hk g ws H locs ls sc hle hR
  obtain ⟨hx, hb, hml, hown, hts, hK, hA, hN, hini, hcC, hcS, hf, hlc, hscr⟩ := X
  obtain ⟨pc, L, st, w, K, ce, sl⟩ := S
  have h1 : some ((.goto t.1 : Instr), (3 : Nat), ([] : List Cond)) = some (i, n, cs) := h1
  cases h1
  unfold ev_goto at h2
  dsimp only at h2
  split at h2
  · rename_i h0
    cases h2
    exact lv_goto (tgt := ((pc : Int) + t.1).toNat) hx hb hd (by omega) (hk _ (List.mem_singleton.mpr rfl) g ws H locs ls sc hle hR)
  · cases h2
/-! a switch over a row of numbers -/
def ev_swV (b : Int × Int) (lo hi : Int) (offs : List Int) (dflt : Int) (k : Nat) (st : List ev_A) (S : ev_S) : List ev_S :=
  (List.range offs.length).filterMap (fun (j : Nat) => if b.1 ≤ lo + (j : Int) ∧ lo + (j : Int) ≤ b.2 then some (ev_setK S ((S.1 : Int) + offs.getD j 0).toNat st (S.2.2.2.2.1.set k (lo + (j : Int), lo + (j : Int)))) else none)
  ++ [ev_setK S ((S.1 : Int) + dflt).toNat st (S.2.2.2.2.1.set k (b.1, min b.2 (lo - 1))), ev_setK S ((S.1 : Int) + dflt).toNat st (S.2.2.2.2.1.set k (max b.1 (hi + 1), b.2))].filter (fun S' => match S'.2.2.2.2.1[k]? with
    | some q => decide (q.1 ≤ q.2)
    | none => true)
def ev_sw : ev_O := (fun _ t => match t.2.2.2 with
  | len :: offs => some (.tableswitch t.1 t.2.1 t.2.2.1 offs.toArray, len.toNat, [])
  | [] => none, fun _ t S => match t.2.2.2, S.2.2.1 with
  | _ :: offs, x :: st =>
    if ev_isI x = true ∧ t.2.2.1 - t.2.1 + 1 = (offs.length : Int) ∧ 0 ≤ (S.1 : Int) + t.1 ∧ offs.all (fun o => decide (0 ≤ (S.1 : Int) + o)) = true then
      (if x.1 = 0 then
        (if (Int32.ofInt x.2).toInt < t.2.1 ∨ t.2.2.1 < (Int32.ofInt x.2).toInt then some [((((S.1 : Int) + t.1).toNat), S.2.1, st, S.2.2.2)] else some [((((S.1 : Int) + offs.getD ((Int32.ofInt x.2).toInt - t.2.1).toNat 0).toNat), S.2.1, st, S.2.2.2)])
       else match S.2.2.2.2.1[x.2.toNat]? with
        | some b => some (ev_swV b t.2.1 t.2.2.1 offs t.1 x.2.toNat st S)
        | none => none)
    else none
  | _, _ => none)
theorem ev_sw_ok : ev_Snd ev_sw := by
  intro p l e R s m args below meth c cc Q D A g0 P t S i n cs Ss X h1 hd hw h2 hk g ws H locs ls sc hle hR
  obtain ⟨hx, hb, hml, hown, hts, hK, hA, hN, hini, hcC, hcS, hf, hlc, hscr⟩ := X
  obtain ⟨pc, L, st, w, K, ce, sl⟩ := S
  obtain ⟨dflt, lo, hi, offs0⟩ := t
  cases offs0 with
  | nil => cases h1
  | cons len offs =>
    have h1 : some ((.tableswitch dflt lo hi offs.toArray : Instr), len.toNat, ([] : List Cond)) = some (i, n, cs) := h1
    cases h1
    unfold ev_sw at h2
    dsimp only at h2
    cases st with
    | nil => cases h2
    | cons x st' =>
      dsimp only at h2
      split at h2
      · rename_i hi0
        obtain ⟨hI, hlen, hd0, hall⟩ := hi0
        have hin : ∀ j : Nat, j < offs.length → ∃ o : Int, offs[j]? = some o ∧ offs.getD j 0 = o ∧ 0 ≤ (pc : Int) + o := by
          intro j hj
          refine ⟨offs[j], List.getElem?_eq_getElem hj, by simp [List.getD, List.getElem?_eq_getElem hj], ?_⟩
          have := List.all_eq_true.mp hall offs[j] (List.getElem_mem hj)
          simpa using this
        obtain ⟨hP, hD, hS, hW, hB, hL, hs⟩ := hR
        obtain ⟨vx, sc2, rfl, hvx, hs2⟩ := ev_s_cons hs
        obtain ⟨x0, rfl⟩ := ev_vI hI hvx
        have hin2 : ¬ x0.toInt < lo → ¬ hi < x0.toInt → ∃ o : Int, offs.toArray[(x0.toInt - lo).toNat]? = some o ∧ offs.getD (x0.toInt - lo).toNat 0 = o ∧ (pc : Int) + o = (((pc : Int) + o).toNat : Int) := by
          intro q1 q2
          obtain ⟨o, a1, a2, a3⟩ := hin (x0.toInt - lo).toNat (by omega)
          exact ⟨o, by simpa using a1, a2, by omega⟩
        split at h2
        · rename_i hz
          obtain ⟨xt, xn⟩ := x
          have hz : xt = 0 := hz
          subst hz
          have ex : Int32.ofInt xn = x0 := Value.int.inj (Option.some.inj hvx)
          dsimp only at h2
          rw [ex] at h2
          split at h2
          · rename_i hq
            cases h2
            exact lv_tableOut (tgt := ((pc : Int) + dflt).toNat) hx hb hd hq (by omega) (hk _ (List.mem_singleton.mpr rfl) g ws H locs ls sc2 hle ⟨hP, hD, hS, hW, hB, hL, hs2⟩)
          · rename_i hq
            cases h2
            have q1 : ¬ x0.toInt < lo := fun z => hq (Or.inl z)
            have q2 : ¬ hi < x0.toInt := fun z => hq (Or.inr z)
            obtain ⟨o, a1, a2, a3⟩ := hin2 q1 q2
            exact lv_tableIn hx hb hd q1 q2 a1 a3 (by
              have := hk _ (List.mem_singleton.mpr rfl) g ws H locs ls sc2 hle ⟨hP, hD, hS, hW, hB, hL, hs2⟩
              dsimp only at this
              rw [a2] at this
              exact this)
        · rename_i hz
          have h3 : x.1 = 3 := by
            simp only [ev_isI, Bool.or_eq_true, beq_iff_eq] at hI
            rcases hI with q | q
            · exact absurd q hz
            · exact q
          split at h2
          · rename_i b hb0
            cases h2
            have hE := ev_var h3 hvx
            have hbd := hB.2 _ b x0 hb0 hE
            have hkl : x.2.toNat < K.length := (List.getElem?_eq_some_iff.mp hb0).1
            by_cases q1 : x0.toInt < lo
            · refine lv_tableOut (tgt := ((pc : Int) + dflt).toNat) hx hb hd (Or.inl q1) (by omega) (hk (ev_setK (pc, L, x :: st', w, K, ce, sl) ((pc : Int) + dflt).toNat st' (K.set x.2.toNat (b.1, min b.2 (lo - 1)))) (List.mem_append_right _ (List.mem_filter.mpr ⟨List.mem_cons_self, ?_⟩)) g ws H locs ls sc2 hle ⟨hP, hD, hS, hW, ev_b_set hB hE (by dsimp only; omega), hL, hs2⟩)
              simp only [ev_setK, List.getElem?_set_self hkl, decide_eq_true_eq]
              omega
            · by_cases q2 : hi < x0.toInt
              · refine lv_tableOut (tgt := ((pc : Int) + dflt).toNat) hx hb hd (Or.inr q2) (by omega) (hk (ev_setK (pc, L, x :: st', w, K, ce, sl) ((pc : Int) + dflt).toNat st' (K.set x.2.toNat (max b.1 (hi + 1), b.2))) (List.mem_append_right _ (List.mem_filter.mpr ⟨List.mem_cons_of_mem _ List.mem_cons_self, ?_⟩)) g ws H locs ls sc2 hle ⟨hP, hD, hS, hW, ev_b_set hB hE (by dsimp only; omega), hL, hs2⟩)
                simp only [ev_setK, List.getElem?_set_self hkl, decide_eq_true_eq]
                omega
              · obtain ⟨o, a1, a2, a3⟩ := hin2 q1 q2
                have hj : lo + ((x0.toInt - lo).toNat : Int) = x0.toInt := by omega
                have hmem : ev_setK (pc, L, x :: st', w, K, ce, sl) ((pc : Int) + o).toNat st' (K.set x.2.toNat (x0.toInt, x0.toInt)) ∈ ev_swV b lo hi offs dflt x.2.toNat st' (pc, L, x :: st', w, K, ce, sl) := by
                  refine List.mem_append_left _ (List.mem_filterMap.mpr ⟨(x0.toInt - lo).toNat, List.mem_range.mpr (by omega), ?_⟩)
                  rw [hj, if_pos hbd, a2]
                exact lv_tableIn hx hb hd q1 q2 a1 a3 (hk _ hmem g ws H locs ls sc2 hle ⟨hP, hD, hS, hW, ev_b_set hB hE (by dsimp only; omega), hL, hs2⟩)
          · cases h2
      · cases h2
end
section
/-! the words of the classes' fields among the tables' -/
theorem lw_good_ps {ws : List Cond} (ps : List Nat) (hp : ws = ps.filterMap (fun i => lw_tbl[i]?)) (h : ws.all goodWord = true) : ∀ w ∈ ws, w ∈ lw_good := by
  intro w hw
  have h1 := List.all_eq_true.mp h w hw
  rw [hp] at hw
  obtain ⟨i, -, hi⟩ := List.mem_filterMap.mp hw
  exact lw_good_at i hi h1
set_option maxRecDepth 100000 in
theorem ev_in0 : ∀ w ∈ u_ws RX0 TX0 5, w ∈ lw_good := lw_good_ps [374, 376, 378, 380, 382] (by decide +kernel) (by decide +kernel)
set_option maxRecDepth 100000 in
theorem ev_in1 : ∀ w ∈ u_ws RX1 TX1 3, w ∈ lw_good := lw_good_ps [435, 437, 439] (by decide +kernel) (by decide +kernel)
set_option maxRecDepth 100000 in
theorem ev_in2 : ∀ w ∈ u_ws RX2 TX2 4, w ∈ lw_good := lw_good_ps [322, 324, 326, 328] (by decide +kernel) (by decide +kernel)
set_option maxRecDepth 100000 in
theorem ev_in3 : ∀ w ∈ u_ws RX3 TX3 5, w ∈ lw_good := lw_good_ps [347, 349, 351, 353, 355] (by decide +kernel) (by decide +kernel)
set_option maxRecDepth 100000 in
theorem ev_in4 : ∀ w ∈ u_ws RX4 TX4 14, w ∈ lw_good := lw_good_ps [165, 167, 169, 171, 173, 175, 177, 179, 181, 183, 185, 187, 189, 191] (by decide +kernel) (by decide +kernel)
set_option maxRecDepth 100000 in
theorem ev_in5 : ∀ w ∈ u_ws RX5 TX5 3, w ∈ lw_good := lw_good_ps [416, 418, 420] (by decide +kernel) (by decide +kernel)
set_option maxRecDepth 100000 in
theorem ev_in6 : ∀ w ∈ u_ws RX6 TX6 3, w ∈ lw_good := lw_good_ps [396, 398, 400] (by decide +kernel) (by decide +kernel)
set_option maxRecDepth 100000 in
theorem ev_in7 : ∀ w ∈ u_ws RX7 TX7 19, w ∈ lw_good := lw_good_ps [267, 269, 271, 273, 275, 277, 279, 281, 283, 285, 287, 289, 291, 293, 295, 297, 299, 301, 303] (by decide +kernel) (by decide +kernel)
set_option maxRecDepth 100000 in
theorem ev_in8 : ∀ w ∈ u_ws RX8 TX8 15, w ∈ lw_good := lw_good_ps [457, 459, 461, 463, 465, 467, 469, 471, 473, 475, 477, 479, 481, 483, 485] (by decide +kernel) (by decide +kernel)
set_option maxRecDepth 100000 in
theorem ev_in9 : ∀ w ∈ u_ws RX9 TX9 35, w ∈ lw_good := lw_good_ps [1338, 1340, 1342, 1344, 1346, 1348, 1350, 1352, 1354, 1356, 1358, 1360, 1362, 1364, 1366, 1368, 1370, 1372, 1374, 1376, 1378, 1380, 1382, 1384, 1386, 1388, 1390, 1392, 1394, 1396, 1398, 1400, 1402, 1404, 1406] (by decide +kernel) (by decide +kernel)
def ev_tyl : List (Nat → FieldType) := [tyX0, tyX1, tyX2, tyX3, tyX4, tyX5, tyX6, tyX7, tyX8, tyX9]
/-- what is known of a class by its number -/
def ev_cok (r : vw_C) (ty : Nat → FieldType) : Prop := (∀ w ∈ u_ws r.1 r.2.1 r.2.2, w ∈ lw_good) ∧ (∀ k, k < r.2.2 → parseFieldDescriptor (r.2.1 k).2.2.1 = some (ty k)) ∧ (∀ a, a < r.2.2 → ∀ b, b < r.2.2 → a ≠ b → (r.2.1 a).2.1 ≠ (r.2.1 b).2.1) ∧ r.2.2 < 100
theorem ev_cls : ∀ (ci : Nat) (r : vw_C) (ty : Nat → FieldType), vwCl[ci]? = some r → ev_tyl[ci]? = some ty → ev_cok r ty
  | 0, r, ty, h1, h2 => by cases h1; cases h2; exact ⟨ev_in0, tyX0_ok, nmX0, by decide⟩
  | 1, r, ty, h1, h2 => by cases h1; cases h2; exact ⟨ev_in1, tyX1_ok, nmX1, by decide⟩
  | 2, r, ty, h1, h2 => by cases h1; cases h2; exact ⟨ev_in2, tyX2_ok, nmX2, by decide⟩
  | 3, r, ty, h1, h2 => by cases h1; cases h2; exact ⟨ev_in3, tyX3_ok, nmX3, by decide⟩
  | 4, r, ty, h1, h2 => by cases h1; cases h2; exact ⟨ev_in4, tyX4_ok, nmX4, by decide⟩
  | 5, r, ty, h1, h2 => by cases h1; cases h2; exact ⟨ev_in5, tyX5_ok, nmX5, by decide⟩
  | 6, r, ty, h1, h2 => by cases h1; cases h2; exact ⟨ev_in6, tyX6_ok, nmX6, by decide⟩
  | 7, r, ty, h1, h2 => by cases h1; cases h2; exact ⟨ev_in7, tyX7_ok, nmX7, by decide⟩
  | 8, r, ty, h1, h2 => by cases h1; cases h2; exact ⟨ev_in8, tyX8_ok, nmX8, by decide⟩
  | 9, r, ty, h1, h2 => by cases h1; cases h2; exact ⟨ev_in9, tyX9_ok, nmX9, by decide⟩
  | n + 10, r, ty, h1, h2 => by cases h1
end
section
/-! cells -/
theorem ev_ref1 {s : State} {g : ev_G} {w : List ev_C} {ws : va_W} {a : ev_A} {v : Value} {cl : ev_C} (hW : ev_w s g w ws) (ht : a.1 = 1) (hv : ev_v g a = some v) (hc : w[a.2.toNat]? = some cl) : ∃ ad x, v = .ref ad ∧ ws[a.2.toNat]? = some (ad, x) ∧ ev_c s g cl x := by
  obtain ⟨t, n⟩ := a
  have ht : t = 1 := ht
  subst ht
  simp only [ev_v] at hv
  cases hq : g.1[n.toNat]? with
  | none => simp [hq] at hv
  | some ad =>
    simp only [hq, Option.map_some] at hv
    cases hv
    rw [hW.1, List.getElem?_map] at hq
    cases hz : ws[n.toNat]? with
    | none => simp [hz] at hq
    | some z =>
      simp only [hz, Option.map_some] at hq
      cases hq
      exact ⟨z.1, z.2, rfl, rfl, hW.2.2 _ cl z hc hz⟩
theorem ev_w_set {s : State} {g : ev_G} {w : List ev_C} {ws : va_W} {q ad : Nat} {x0 x : va_E} {cl : ev_C} (hW : ev_w s g w ws) (hq : ws[q]? = some (ad, x0)) (hc : ev_c s g cl x) : ev_w s g (w.set q cl) (ws.set q (ad, x)) := by
  have hl := (List.getElem?_eq_some_iff.mp hq).1
  refine ⟨?_, by rw [List.length_set, List.length_set]; exact hW.2.1, fun k c z h1 h2 => ?_⟩
  · rw [hW.1]
    apply List.ext_getElem?
    intro j
    rw [List.getElem?_map, List.getElem?_map]
    by_cases hj : j = q
    · subst hj
      rw [List.getElem?_set_self hl, hq]
      rfl
    · rw [List.getElem?_set_ne (Ne.symm hj)]
  · by_cases hk : k = q
    · subst hk
      have hl2 : k < w.length := by rw [hW.2.1]; exact hl
      rw [List.getElem?_set_self hl2] at h1
      rw [List.getElem?_set_self hl] at h2
      cases h1
      cases h2
      exact hc
    · rw [List.getElem?_set_ne (Ne.symm hk)] at h1 h2
      exact hW.2.2 k c z h1 h2
theorem ev_w_push {s : State} {g : ev_G} {w : List ev_C} {ws : va_W} {ad : Nat} {x : va_E} {cl : ev_C} (hW : ev_w s g w ws) (hc : ev_c s (g.1 ++ [ad], g.2.1, g.2.2) cl x) : ev_le g (g.1 ++ [ad], g.2.1, g.2.2) ∧ ev_w s (g.1 ++ [ad], g.2.1, g.2.2) (w ++ [cl]) (ws ++ [(ad, x)]) ∧ ev_v (g.1 ++ [ad], g.2.1, g.2.2) (1, (w.length : Int)) = some (.ref ad) := by
  have hle : ev_le g (g.1 ++ [ad], g.2.1, g.2.2) := ⟨⟨[ad], rfl⟩, rfl, ⟨[], by simp⟩⟩
  have hlg : g.1.length = w.length := by rw [hW.1, List.length_map, hW.2.1]
  refine ⟨hle, ⟨by rw [List.map_append]; dsimp only; rw [hW.1]; rfl, by rw [List.length_append, List.length_append, hW.2.1]; rfl, fun k c z h1 h2 => ?_⟩, ?_⟩
  · by_cases hk : k < w.length
    · rw [List.getElem?_append_left hk] at h1
      rw [List.getElem?_append_left (by rw [← hW.2.1]; exact hk)] at h2
      exact ev_c_le hle (hW.2.2 k c z h1 h2)
    · rw [List.getElem?_append_right (by omega)] at h1
      rw [List.getElem?_append_right (by have := hW.2.1; omega)] at h2
      have hz : k - w.length < 1 := (List.getElem?_eq_some_iff.mp h1).1
      have h3 : k - w.length = 0 := by omega
      have h4 : k - ws.length = 0 := by have := hW.2.1; omega
      rw [h3] at h1
      rw [h4] at h2
      cases h1
      cases h2
      exact hc
  · simp [ev_v, ← hlg]
/-! fields -/
def ev_fc (own : String) (idx : Nat) (ci k : Nat) : Option (List Cond) := match vwCl[ci]? with
  | some r => some [.fieldLink own idx (r.2.1 k).1 (r.2.1 k).2.1 (r.2.1 k).2.2.1]
  | none => none
def ev_get : ev_O := (fun P t => match vwCl[t.1.toNat]? with
  | some r => some (.getfield t.2.2.1.toNat, 3, [.fieldLink P.2.2.2.1 t.2.2.1.toNat (r.2.1 t.2.1.toNat).1 (r.2.1 t.2.1.toNat).2.1 (r.2.1 t.2.1.toNat).2.2.1])
  | none => none, fun _ t S => match S.2.2.1 with
  | x :: st => (match S.2.2.2.1[x.2.toNat]?, vwCl[t.1.toNat]? with
    | some cl, some r => if x.1 = 1 ∧ cl.1 = t.1.toNat ∧ t.2.1.toNat < r.2.2 then (match cl.2[t.2.1.toNat]? with
      | some a => some [ev_adv S 3 (a :: st)]
      | none => none) else none
    | _, _ => none)
  | [] => none)
theorem ev_get_ok : ev_Snd ev_get := by
  intro p l e R s m args below meth c cc Q D A g0 P t S i n cs Ss X h1 hd hw h2 hk g ws H locs ls sc hle hR
  obtain ⟨hx, hb, hml, hown, hts, hK, hA, hN, hini, hcC, hcS, hf, hlc, hscr⟩ := X
  obtain ⟨pc, L, st, w, K, ce, sl⟩ := S
  obtain ⟨t1, t2, t3, t4⟩ := t
  unfold ev_get at h1 h2
  dsimp only at h1 h2
  cases hr : vwCl[t1.toNat]? with
  | none => simp [hr] at h1
  | some r =>
    rw [hr] at h1 h2
    dsimp only at h1
    cases h1
    cases st with
    | nil => cases h2
    | cons x st' =>
      dsimp only at h2
      split at h2
      · rename_i cl r' hcl hr'
        cases hr'
        split at h2
        · rename_i hc
          obtain ⟨hc1, hc2, hc3⟩ := hc
          split at h2
          · rename_i a ha
            cases h2
            obtain ⟨hP, hD, hS, hW, hB, hL, hs⟩ := hR
            obtain ⟨vx, sc2, rfl, hvx, hs2⟩ := ev_s_cons hs
            obtain ⟨ad, x0, rfl, hws, hcc⟩ := ev_ref1 hW hc1 hvx hcl
            cases x0 with
            | inl z =>
              obtain ⟨tt, b1, b2, -⟩ := hcc
              have : t1.toNat < 10 := (List.getElem?_eq_some_iff.mp hr).1
              omega
            | inr o =>
              obtain ⟨ci, fs⟩ := o
              obtain ⟨b1, b2, b3, b4⟩ := hcc
              dsimp only at b1 b3 b4
              obtain ⟨v, d1, d2⟩ := b4 _ a ha
              have hci : vwCl[ci]? = some r := by rw [← b1, hc2]; exact hr
              obtain ⟨ty, hty⟩ : ∃ ty, ev_tyl[ci]? = some ty := ⟨_, List.getElem?_eq_getElem (show ci < ev_tyl.length from (List.getElem?_eq_some_iff.mp hci).1)⟩
              exact va_get hx hb hts (ev_cls ci r ty hci hty).1 hown hK hP _ hws hci t2.toNat hc3 (hts _ (hw _ (List.mem_singleton.mpr rfl))) (fun _ h => h) d2 hd (hk _ (List.mem_singleton.mpr rfl) g ws H locs ls _ hle ⟨hP, hD, hS, hW, hB, hL, d1, hs2⟩)
          · cases h2
        · cases h2
      · cases h2
/-- a value that a field of this type may hold -/
def ev_fit (ty : FieldType) (a : ev_A) : Bool := match ty with
  | .int => ev_isI a
  | .long => ev_isL a
  | .boolean => a.1 == 0 && (a.2 == 0 || a.2 == 1)
  | .char => a.1 == 0 && (decide (0 ≤ a.2) && decide (a.2.toNat < 65536))
  | .byte => a.1 == 0 && a.2 == 0
  | .object _ => a.1 == 1 || a.1 == 2 || a.1 == 5
  | .array _ => a.1 == 1 || a.1 == 2 || a.1 == 5
  | _ => false
theorem ev_vN {g : ev_G} {a : ev_A} {v : Value} (h : (a.1 == 1 || a.1 == 2 || a.1 == 5) = true) (hv : ev_v g a = some v) : v = .null ∨ ∃ x : Nat, v = .ref x := by
  by_cases h2 : a.1 = 2
  · obtain ⟨t, n⟩ := a
    have h2 : t = 2 := h2
    subst h2
    exact Or.inl (Option.some.inj hv).symm
  · refine Or.inr (ev_vR ?_ hv)
    simp only [Bool.or_eq_true, beq_iff_eq] at h
    simp only [ev_isR, Bool.or_eq_true, beq_iff_eq]
    rcases h with (h | h) | h
    · exact Or.inl h
    · exact absurd h h2
    · exact Or.inr h
theorem ev_fit_ok {ty : FieldType} {a : ev_A} {g : ev_G} {v : Value} (h : ev_fit ty a = true) (hv : ev_v g a = some v) : narrow ty v = v ∧ fits ty v = true := by
  unfold ev_fit at h
  split at h
  · obtain ⟨x, rfl⟩ := ev_vI h hv
    exact ⟨rfl, rfl⟩
  · obtain ⟨x, rfl⟩ := ev_vL h hv
    exact ⟨rfl, rfl⟩
  · obtain ⟨t, n⟩ := a
    simp only [Bool.and_eq_true, Bool.or_eq_true, beq_iff_eq] at h
    obtain ⟨rfl, h⟩ := h
    have hv := Option.some.inj hv
    rcases h with rfl | rfl
    · subst hv
      exact ⟨by decide, by decide⟩
    · subst hv
      exact ⟨by decide, by decide⟩
  · obtain ⟨t, n⟩ := a
    simp only [Bool.and_eq_true, beq_iff_eq, decide_eq_true_eq] at h
    obtain ⟨rfl, h0, h1⟩ := h
    have hv := Option.some.inj hv
    subst hv
    dsimp only at h0 h1 ⊢
    have e : Int32.ofInt n = nI n.toNat := by
      have : n = ((n.toNat : Nat) : Int) := by omega
      rw [this]
      rfl
    rw [e]
    exact pk_charN h1
  · obtain ⟨t, n⟩ := a
    simp only [Bool.and_eq_true, beq_iff_eq] at h
    obtain ⟨rfl, rfl⟩ := h
    have hv := Option.some.inj hv
    subst hv
    exact ⟨by decide, by decide⟩
  · rcases ev_vN h hv with rfl | ⟨x, rfl⟩ <;> exact ⟨rfl, rfl⟩
  · rcases ev_vN h hv with rfl | ⟨x, rfl⟩ <;> exact ⟨rfl, rfl⟩
  · cases h

def ev_put : ev_O := (fun P t => match vwCl[t.1.toNat]? with
  | some r => some (.putfield t.2.2.1.toNat, 3, [.fieldLink P.2.2.2.1 t.2.2.1.toNat (r.2.1 t.2.1.toNat).1 (r.2.1 t.2.1.toNat).2.1 (r.2.1 t.2.1.toNat).2.2.1])
  | none => none, fun P t S => match S.2.2.1 with
  | a :: x :: st => (match S.2.2.2.1[x.2.toNat]?, vwCl[t.1.toNat]?, ev_tyl[t.1.toNat]? with
    | some cl, some r, some ty => if x.1 = 1 ∧ cl.1 = t.1.toNat ∧ t.2.1.toNat < r.2.2 ∧ t.2.1.toNat < cl.2.length ∧ ev_fit (ty t.2.1.toNat) a = true ∧ ((r.2.1 t.2.1.toNat).2.2.2 = false) then some [(S.1 + 3, S.2.1, st, S.2.2.2.1.set x.2.toNat (cl.1, cl.2.set t.2.1.toNat a), S.2.2.2.2)] else none
    | _, _, _ => none)
  | _ => none)
theorem ev_put_ok : ev_Snd ev_put := by
  intro p l e R s m args below meth c cc Q D A g0 P t S i n cs Ss X h1 hd hw h2 hk g ws H locs ls sc hle hR
  obtain ⟨hx, hb, hml, hown, hts, hK, hA, hN, hini, hcC, hcS, hf, hlc, hscr⟩ := X
  obtain ⟨pc, L, st, w, K, ce, sl⟩ := S
  obtain ⟨t1, t2, t3, t4⟩ := t
  unfold ev_put at h1 h2
  dsimp only at h1 h2
  cases hr : vwCl[t1.toNat]? with
  | none => simp [hr] at h1
  | some r =>
    rw [hr] at h1 h2
    dsimp only at h1
    cases h1
    split at h2
    · rename_i a x st'
      split at h2
      · rename_i cl r' ty hcl hr' hty
        cases hr'
        split at h2
        · rename_i hc
          obtain ⟨hc1, hc2, hc3, hlen, hft, hfin⟩ := hc
          cases h2
          obtain ⟨hP, hD, hS, hW, hB, hL, hs⟩ := hR
          obtain ⟨va, sc1, rfl, hva, hs1⟩ := ev_s_cons hs
          obtain ⟨vx, sc2, rfl, hvx, hs2⟩ := ev_s_cons hs1
          obtain ⟨ad, x0, rfl, hws, hcc⟩ := ev_ref1 hW hc1 hvx hcl
          cases x0 with
          | inl z =>
            obtain ⟨tt, b1, b2, -⟩ := hcc
            have : t1.toNat < 10 := (List.getElem?_eq_some_iff.mp hr).1
            omega
          | inr o =>
            obtain ⟨ci, fs⟩ := o
            obtain ⟨b1, b2, b3, b4⟩ := hcc
            dsimp only at b1 b3 b4
            have hci : vwCl[ci]? = some r := by rw [← b1, hc2]; exact hr
            have hty : ev_tyl[ci]? = some ty := by rw [← b1, hc2]; exact hty
            obtain ⟨k1, k2, k3, -⟩ := ev_cls ci r ty hci hty
            obtain ⟨hn, hfit⟩ := ev_fit_ok hft hva
            refine va_put hx hb hts k1 ty k2 k3 hown hK hP hD hS _ hws hci t2.toNat hc3 (hts _ (hw _ (List.mem_singleton.mpr rfl))) (fun _ h => h) hfin (k2 _ hc3) hn hfit (by rw [b3]; exact hlen) hd (fun H1 locs1 hP1 hD1 hS1 => hk _ (List.mem_singleton.mpr rfl) g _ H1 locs1 ls _ hle ⟨hP1, hD1, hS1, ev_w_set hW hws ⟨b1, b2, by rw [List.length_set, List.length_set]; exact b3, fun j a' hj => ?_⟩, hB, hL, hs2⟩)
            dsimp only at hj ⊢
            by_cases hjk : j = t2.toNat
            · subst hjk
              rw [List.getElem?_set_self hlen] at hj
              cases hj
              exact ⟨va, hva, List.getElem?_set_self (by rw [b3]; exact hlen)⟩
            · rw [List.getElem?_set_ne (Ne.symm hjk)] at hj
              obtain ⟨v, d1, d2⟩ := b4 j a' hj
              exact ⟨v, d1, by rw [List.getElem?_set_ne (Ne.symm hjk)]; exact d2⟩
        · cases h2
      · cases h2
    · cases h2

def ev_putF : ev_O := (fun P t => match vwCl[t.1.toNat]? with
  | some r => some (.putfield t.2.2.1.toNat, 3, [.fieldLink P.2.2.2.1 t.2.2.1.toNat (r.2.1 t.2.1.toNat).1 (r.2.1 t.2.1.toNat).2.1 (r.2.1 t.2.1.toNat).2.2.1])
  | none => none, fun P t S => match S.2.2.1 with
  | a :: x :: st => (match S.2.2.2.1[x.2.toNat]?, vwCl[t.1.toNat]?, ev_tyl[t.1.toNat]? with
    | some cl, some r, some ty => if x.1 = 1 ∧ cl.1 = t.1.toNat ∧ t.2.1.toNat < r.2.2 ∧ t.2.1.toNat < cl.2.length ∧ ev_fit (ty t.2.1.toNat) a = true ∧ ((r.2.1 t.2.1.toNat).2.2.2 = true ∧ P.2.2.1 = true ∧ (r.2.1 t.2.1.toNat).1 = P.2.2.2.1) then some [(S.1 + 3, S.2.1, st, S.2.2.2.1.set x.2.toNat (cl.1, cl.2.set t.2.1.toNat a), S.2.2.2.2)] else none
    | _, _, _ => none)
  | _ => none)
theorem ev_putF_ok : ev_Snd ev_putF := by
  intro p l e R s m args below meth c cc Q D A g0 P t S i n cs Ss X h1 hd hw h2 hk g ws H locs ls sc hle hR
  obtain ⟨hx, hb, hml, hown, hts, hK, hA, hN, hini, hcC, hcS, hf, hlc, hscr⟩ := X
  obtain ⟨pc, L, st, w, K, ce, sl⟩ := S
  obtain ⟨t1, t2, t3, t4⟩ := t
  unfold ev_putF at h1 h2
  dsimp only at h1 h2
  cases hr : vwCl[t1.toNat]? with
  | none => simp [hr] at h1
  | some r =>
    rw [hr] at h1 h2
    dsimp only at h1
    cases h1
    split at h2
    · rename_i a x st'
      split at h2
      · rename_i cl r' ty hcl hr' hty
        cases hr'
        split at h2
        · rename_i hc
          obtain ⟨hc1, hc2, hc3, hlen, hft, hfin⟩ := hc
          cases h2
          obtain ⟨hP, hD, hS, hW, hB, hL, hs⟩ := hR
          obtain ⟨va, sc1, rfl, hva, hs1⟩ := ev_s_cons hs
          obtain ⟨vx, sc2, rfl, hvx, hs2⟩ := ev_s_cons hs1
          obtain ⟨ad, x0, rfl, hws, hcc⟩ := ev_ref1 hW hc1 hvx hcl
          cases x0 with
          | inl z =>
            obtain ⟨tt, b1, b2, -⟩ := hcc
            have : t1.toNat < 10 := (List.getElem?_eq_some_iff.mp hr).1
            omega
          | inr o =>
            obtain ⟨ci, fs⟩ := o
            obtain ⟨b1, b2, b3, b4⟩ := hcc
            dsimp only at b1 b3 b4
            have hci : vwCl[ci]? = some r := by rw [← b1, hc2]; exact hr
            have hty : ev_tyl[ci]? = some ty := by rw [← b1, hc2]; exact hty
            obtain ⟨k1, k2, k3, -⟩ := ev_cls ci r ty hci hty
            obtain ⟨hn, hfit⟩ := ev_fit_ok hft hva
            refine va_putF hx hb hts k1 ty k2 k3 hown hK hP hD hS _ hws hci t2.toNat hc3 (hts _ (hw _ (List.mem_singleton.mpr rfl))) (fun _ h => h) hfin.1 (hini hfin.2.1) hfin.2.2 (k2 _ hc3) hn hfit (by rw [b3]; exact hlen) hd (fun H1 locs1 hP1 hD1 hS1 => hk _ (List.mem_singleton.mpr rfl) g _ H1 locs1 ls _ hle ⟨hP1, hD1, hS1, ev_w_set hW hws ⟨b1, b2, by rw [List.length_set, List.length_set]; exact b3, fun j a' hj => ?_⟩, hB, hL, hs2⟩)
            dsimp only at hj ⊢
            by_cases hjk : j = t2.toNat
            · subst hjk
              rw [List.getElem?_set_self hlen] at hj
              cases hj
              exact ⟨va, hva, List.getElem?_set_self (by rw [b3]; exact hlen)⟩
            · rw [List.getElem?_set_ne (Ne.symm hjk)] at hj
              obtain ⟨v, d1, d2⟩ := b4 j a' hj
              exact ⟨v, d1, by rw [List.getElem?_set_ne (Ne.symm hjk)]; exact d2⟩
        · cases h2
      · cases h2
    · cases h2

/-! arrays -/
/-- an array's cell, at a number within it -/
def ev_ix (t : Nat) (x i : ev_A) (w : List ev_C) : Option (List ev_A × Nat) := match w[x.2.toNat]? with
  | some cl => if x.1 = 1 ∧ cl.1 = 100 + t ∧ i.1 = 0 ∧ 0 ≤ (Int32.ofInt i.2).toInt ∧ (Int32.ofInt i.2).toInt < (cl.2.length : Int) then some (cl.2, (Int32.ofInt i.2).toNatClampNeg) else none
  | none => none
theorem ev_ix_ok {t : Nat} (ht : t < 4) {x i : ev_A} {w : List ev_C} {cs : List ev_A} {j : Nat} (h : ev_ix t x i w = some (cs, j)) {s : State} {g : ev_G} {ws : va_W} (hW : ev_w s g w ws) {vx vi : Value} (hx : ev_v g x = some vx) (hi : ev_v g i = some vi) :
    ∃ (ad : Nat) (cA : ClassId) (n : Nat) (arr : (Nat → Int32) ⊕ (Nat → Int64) ⊕ (Nat → UInt32) ⊕ (Nat → UInt64) ⊕ (Nat → Option Nat)) (i0 : Int32), vx = .ref ad ∧ vi = .int i0 ∧ ws[x.2.toNat]? = some (ad, .inl (cA, n, arr)) ∧ n = cs.length ∧ vp_in i0 n ∧ i0.toNatClampNeg = j ∧ j < cs.length ∧ ArrOfT s cA (ev_ty t) ∧ va_RA s cA (ev_ty t) ∧ ev_ar g t cs arr ∧ w[x.2.toNat]? = some (100 + t, cs) := by
  unfold ev_ix at h
  split at h
  · rename_i cl hcl
    split at h
    · rename_i hc
      obtain ⟨h1, h2, h3, h4, h5⟩ := hc
      cases h
      obtain ⟨ad, x0, rfl, hws, hcc⟩ := ev_ref1 hW h1 hx hcl
      obtain ⟨it, iv⟩ := i
      have h3 : it = 0 := h3
      subst h3
      have hi : vi = .int (Int32.ofInt iv) := (Option.some.inj hi).symm
      subst hi
      cases x0 with
      | inr o =>
        obtain ⟨b1, b2, -⟩ := hcc
        omega
      | inl z =>
        obtain ⟨cA, n, arr⟩ := z
        obtain ⟨tt, b1, b2, b3, b4, b5, b6⟩ := hcc
        have : tt = t := by omega
        subst this
        dsimp only at b3 b4 b5 b6 h4 h5
        have hv : vp_in (Int32.ofInt iv) n := by rw [vp_in_iff, b3]; exact ⟨h4, h5⟩
        have hj : (Int32.ofInt iv).toNatClampNeg < cl.2.length := by
          have h9 := hv
          unfold vp_in at h9
          rw [b3] at h9
          exact Nat.lt_of_not_le (fun q => h9 (Or.inr q))
        exact ⟨ad, cA, n, arr, _, rfl, rfl, hws, b3, hv, rfl, hj, b4, b5, b6, by rw [hcl, ← h2]⟩
    · cases h
  · cases h
theorem ev_K1 {D : va_G} {s : State} {cA : ClassId} {ty : FieldType} (hK : va_K D vwCl [] s) (h1 : ArrOfT s cA ty) (h2 : va_RA s cA ty) : va_K D vwCl [(cA, ty)] s := ⟨hK.1, fun k q hk => by
  have hz : k < 1 := (List.getElem?_eq_some_iff.mp hk).1
  rw [show k = 0 by omega] at hk
  cases hk
  exact ⟨h1, h2⟩⟩

def ev_iaload : ev_O := (fun _ _ => some (.iaload, 1, []), fun _ _ S => match S.2.2.1 with
  | i :: x :: st => (match ev_ix 0 x i S.2.2.2.1 with
    | some (cs, j) => (match cs[j]? with
      | some a => some [ev_adv S 1 (a :: st)]
      | none => none)
    | none => none)
  | _ => none)
theorem ev_iaload_ok : ev_Snd ev_iaload := by
  intro p l e R s m args below meth c cc Q D A g0 P t S i n cs Ss X h1 hd hw h2 hk g ws H locs ls sc hle hR
  obtain ⟨hx, hb, hml, hown, hts, hK, hA, hN, hini, hcC, hcS, hf, hlc, hscr⟩ := X
  obtain ⟨pc, L, st, w, K, ce, sl⟩ := S
  have h1 : some ((.iaload : Instr), (1 : Nat), ([] : List Cond)) = some (i, n, cs) := h1
  cases h1
  unfold ev_iaload at h2
  dsimp only at h2
  split at h2
  · rename_i i x st'
    split at h2
    · rename_i cs j hix
      split at h2
      · rename_i a ha
        cases h2
        obtain ⟨hP, hD, hS, hW, hB, hL, hs⟩ := hR
        obtain ⟨vi, sc2, rfl, hvi, hs2⟩ := ev_s_cons hs
        obtain ⟨vx, sc3, rfl, hvx, hs3⟩ := ev_s_cons hs2
        obtain ⟨ad, cA, n, arr, i0, rfl, rfl, hws, hn, hv, hj, hjl, b4, b5, b6, hwc⟩ := ev_ix_ok (by decide) hix hW hvx hvi
        cases arr with
        | inl f =>
          exact va_iald hx hb (ev_K1 hK b4 b5) hP _ 0 hws rfl hv hd (hk _ (List.mem_singleton.mpr rfl) g ws H locs ls _ hle ⟨hP, hD, hS, hW, hB, hL, by rw [hj]; exact b6.2 j a ha, hs3⟩)
        | inr z => rcases z with z | z | z | z <;> first | exact b6.elim | (have := b6.1; omega)
      · cases h2
    · cases h2
  · cases h2

def ev_baload : ev_O := (fun _ _ => some (.baload, 1, []), fun _ _ S => match S.2.2.1 with
  | i :: x :: st => (match ev_ix 1 x i S.2.2.2.1 with
    | some (cs, j) => (match cs[j]? with
      | some a => some [ev_adv S 1 (a :: st)]
      | none => none)
    | none => none)
  | _ => none)
theorem ev_baload_ok : ev_Snd ev_baload := by
  intro p l e R s m args below meth c cc Q D A g0 P t S i n cs Ss X h1 hd hw h2 hk g ws H locs ls sc hle hR
  obtain ⟨hx, hb, hml, hown, hts, hK, hA, hN, hini, hcC, hcS, hf, hlc, hscr⟩ := X
  obtain ⟨pc, L, st, w, K, ce, sl⟩ := S
  have h1 : some ((.baload : Instr), (1 : Nat), ([] : List Cond)) = some (i, n, cs) := h1
  cases h1
  unfold ev_baload at h2
  dsimp only at h2
  split at h2
  · rename_i i x st'
    split at h2
    · rename_i cs j hix
      split at h2
      · rename_i a ha
        cases h2
        obtain ⟨hP, hD, hS, hW, hB, hL, hs⟩ := hR
        obtain ⟨vi, sc2, rfl, hvi, hs2⟩ := ev_s_cons hs
        obtain ⟨vx, sc3, rfl, hvx, hs3⟩ := ev_s_cons hs2
        obtain ⟨ad, cA, n, arr, i0, rfl, rfl, hws, hn, hv, hj, hjl, b4, b5, b6, hwc⟩ := ev_ix_ok (by decide) hix hW hvx hvi
        cases arr with
        | inl f =>
          exact va_bald hx hb (ev_K1 hK b4 b5) hP _ 0 hws rfl hv hd (hk _ (List.mem_singleton.mpr rfl) g ws H locs ls _ hle ⟨hP, hD, hS, hW, hB, hL, by rw [hj]; exact b6.2 j a ha, hs3⟩)
        | inr z => rcases z with z | z | z | z <;> first | exact b6.elim | (have := b6.1; omega)
      · cases h2
    · cases h2
  · cases h2

def ev_laload : ev_O := (fun _ _ => some (.laload, 1, []), fun _ _ S => match S.2.2.1 with
  | i :: x :: st => (match ev_ix 2 x i S.2.2.2.1 with
    | some (cs, j) => (match cs[j]? with
      | some a => some [ev_adv S 1 (a :: st)]
      | none => none)
    | none => none)
  | _ => none)
theorem ev_laload_ok : ev_Snd ev_laload := by
  intro p l e R s m args below meth c cc Q D A g0 P t S i n cs Ss X h1 hd hw h2 hk g ws H locs ls sc hle hR
  obtain ⟨hx, hb, hml, hown, hts, hK, hA, hN, hini, hcC, hcS, hf, hlc, hscr⟩ := X
  obtain ⟨pc, L, st, w, K, ce, sl⟩ := S
  have h1 : some ((.laload : Instr), (1 : Nat), ([] : List Cond)) = some (i, n, cs) := h1
  cases h1
  unfold ev_laload at h2
  dsimp only at h2
  split at h2
  · rename_i i x st'
    split at h2
    · rename_i cs j hix
      split at h2
      · rename_i a ha
        cases h2
        obtain ⟨hP, hD, hS, hW, hB, hL, hs⟩ := hR
        obtain ⟨vi, sc2, rfl, hvi, hs2⟩ := ev_s_cons hs
        obtain ⟨vx, sc3, rfl, hvx, hs3⟩ := ev_s_cons hs2
        obtain ⟨ad, cA, n, arr, i0, rfl, rfl, hws, hn, hv, hj, hjl, b4, b5, b6, hwc⟩ := ev_ix_ok (by decide) hix hW hvx hvi
        rcases arr with f | f | f | f | f
        · have := b6.1; omega
        · exact va_lald hx hb (ev_K1 hK b4 b5) hP _ 0 hws rfl hv hd (hk _ (List.mem_singleton.mpr rfl) g ws H locs ls _ hle ⟨hP, hD, hS, hW, hB, hL, by rw [hj]; exact b6.2 j a ha, hs3⟩)
        · exact b6.elim
        · exact b6.elim
        · have := b6.1; omega
      · cases h2
    · cases h2
  · cases h2

def ev_aaload : ev_O := (fun _ _ => some (.aaload, 1, []), fun _ _ S => match S.2.2.1 with
  | i :: x :: st => (match ev_ix 3 x i S.2.2.2.1 with
    | some (cs, j) => (match cs[j]? with
      | some a => some [ev_adv S 1 (a :: st)]
      | none => none)
    | none => none)
  | _ => none)
theorem ev_aaload_ok : ev_Snd ev_aaload := by
  intro p l e R s m args below meth c cc Q D A g0 P t S i n cs Ss X h1 hd hw h2 hk g ws H locs ls sc hle hR
  obtain ⟨hx, hb, hml, hown, hts, hK, hA, hN, hini, hcC, hcS, hf, hlc, hscr⟩ := X
  obtain ⟨pc, L, st, w, K, ce, sl⟩ := S
  have h1 : some ((.aaload : Instr), (1 : Nat), ([] : List Cond)) = some (i, n, cs) := h1
  cases h1
  unfold ev_aaload at h2
  dsimp only at h2
  split at h2
  · rename_i i x st'
    split at h2
    · rename_i cs j hix
      split at h2
      · rename_i a ha
        cases h2
        obtain ⟨hP, hD, hS, hW, hB, hL, hs⟩ := hR
        obtain ⟨vi, sc2, rfl, hvi, hs2⟩ := ev_s_cons hs
        obtain ⟨vx, sc3, rfl, hvx, hs3⟩ := ev_s_cons hs2
        obtain ⟨ad, cA, n, arr, i0, rfl, rfl, hws, hn, hv, hj, hjl, b4, b5, b6, hwc⟩ := ev_ix_ok (by decide) hix hW hvx hvi
        rcases arr with f | f | f | f | f
        · have := b6.1; omega
        · have := b6.1; omega
        · exact b6.elim
        · exact b6.elim
        · exact va_aldq hx hb (ev_K1 hK b4 b5) hP _ 0 hws rfl hv hd (hk _ (List.mem_singleton.mpr rfl) g ws H locs ls _ hle ⟨hP, hD, hS, hW, hB, hL, by rw [hj]; exact b6.2 j a ha, hs3⟩)
      · cases h2
    · cases h2
  · cases h2

theorem ev_set_rel {α : Type} {cs : List ev_A} {j : Nat} {a : ev_A} {g : ev_G} {F : α → Value} {f : Nat → α} {v : α} (hj : j < cs.length) (h : ∀ (k : Nat) (x : ev_A), cs[k]? = some x → ev_v g x = some (F (f k))) (ha : ev_v g a = some (F v)) : ∀ (k : Nat) (x : ev_A), (cs.set j a)[k]? = some x → ev_v g x = some (F (if k = j then v else f k)) := by
  intro k x hk
  by_cases hkj : k = j
  · subst hkj
    rw [List.getElem?_set_self hj] at hk
    cases hk
    rw [if_pos rfl]
    exact ha
  · rw [List.getElem?_set_ne (Ne.symm hkj)] at hk
    rw [if_neg hkj]
    exact h k x hk
def ev_iastore : ev_O := (fun _ _ => some (.iastore, 1, []), fun _ _ S => match S.2.2.1 with
  | a :: i :: x :: st => (match ev_ix 0 x i S.2.2.2.1 with
    | some (cs, j) => if ev_isI a = true then some [(S.1 + 1, S.2.1, st, S.2.2.2.1.set x.2.toNat (100, cs.set j a), S.2.2.2.2)] else none
    | none => none)
  | _ => none)
theorem ev_iastore_ok : ev_Snd ev_iastore := by
  intro p l e R s m args below meth c cc Q D A g0 P t S i n cs Ss X h1 hd hw h2 hk g ws H locs ls sc hle hR
  obtain ⟨hx, hb, hml, hown, hts, hK, hA, hN, hini, hcC, hcS, hf, hlc, hscr⟩ := X
  obtain ⟨pc, L, st, w, K, ce, sl⟩ := S
  have h1 : some ((.iastore : Instr), (1 : Nat), ([] : List Cond)) = some (i, n, cs) := h1
  cases h1
  unfold ev_iastore at h2
  dsimp only at h2
  split at h2
  · rename_i a i x st'
    split at h2
    · rename_i cs j hix
      split at h2
      · rename_i ha
        cases h2
        obtain ⟨hP, hD, hS, hW, hB, hL, hs⟩ := hR
        obtain ⟨va, sc1, rfl, hva, hs1⟩ := ev_s_cons hs
        obtain ⟨vi, sc2, rfl, hvi, hs2⟩ := ev_s_cons hs1
        obtain ⟨vx, sc3, rfl, hvx, hs3⟩ := ev_s_cons hs2
        obtain ⟨a0, rfl⟩ := ev_vI ha hva
        obtain ⟨ad, cA, n, arr, i0, rfl, rfl, hws, hn, hv, hj, hjl, b4, b5, b6, hwc⟩ := ev_ix_ok (by decide) hix hW hvx hvi
        cases arr with
        | inl f =>
          refine va_iast hx hb (ev_K1 hK b4 b5) hP hD hS _ 0 hws rfl hv hd (fun H1 locs1 hP1 hD1 hS1 => hk _ (List.mem_singleton.mpr rfl) g _ H1 locs1 ls _ hle ⟨hP1, hD1, hS1, ev_w_set hW hws ⟨0, by decide, rfl, by rw [List.length_set]; exact hn, b4, b5, by decide, ?_⟩, hB, hL, hs3⟩)
          rw [hj]
          exact ev_set_rel (F := Value.int) hjl b6.2 hva
        | inr z => rcases z with z | z | z | z <;> first | exact b6.elim | (have := b6.1; omega)
      · cases h2
    · cases h2
  · cases h2
/-- a byte into an array of bytes: a number is cut, a variable gets a new name -/
def ev_bastore : ev_O := (fun _ _ => some (.bastore, 1, []), fun _ _ S => match S.2.2.1 with
  | a :: i :: x :: st => (match ev_ix 1 x i S.2.2.2.1 with
    | some (cs, j) => if ev_isI a = true then (if a.1 = 0 then some [(S.1 + 1, S.2.1, st, S.2.2.2.1.set x.2.toNat (101, cs.set j (0, (vp_nar .byte (Int32.ofInt a.2)).toInt)), S.2.2.2.2)] else some [(S.1 + 1, S.2.1, st, S.2.2.2.1.set x.2.toNat (101, cs.set j (3, (S.2.2.2.2.1.length : Int))), S.2.2.2.2.1 ++ [ev_full], S.2.2.2.2.2)]) else none
    | none => none)
  | _ => none)
theorem ev_bastore_ok : ev_Snd ev_bastore := by
  intro p l e R s m args below meth c cc Q D A g0 P t S i n cs Ss X h1 hd hw h2 hk g ws H locs ls sc hle hR
  obtain ⟨hx, hb, hml, hown, hts, hK, hA, hN, hini, hcC, hcS, hf, hlc, hscr⟩ := X
  obtain ⟨pc, L, st, w, K, ce, sl⟩ := S
  have h1 : some ((.bastore : Instr), (1 : Nat), ([] : List Cond)) = some (i, n, cs) := h1
  cases h1
  unfold ev_bastore at h2
  dsimp only at h2
  split at h2
  · rename_i a i x st'
    split at h2
    · rename_i cs j hix
      split at h2
      · rename_i ha
        have hR0 := hR
        obtain ⟨hP, hD, hS, hW, hB, hL, hs⟩ := hR0
        obtain ⟨va, sc1, rfl, hva, hs1⟩ := ev_s_cons hs
        obtain ⟨vi, sc2, rfl, hvi, hs2⟩ := ev_s_cons hs1
        obtain ⟨vx, sc3, rfl, hvx, hs3⟩ := ev_s_cons hs2
        obtain ⟨a0, rfl⟩ := ev_vI ha hva
        obtain ⟨ad, cA, n, arr, i0, rfl, rfl, hws, hn, hv, hj, hjl, b4, b5, b6, hwc⟩ := ev_ix_ok (by decide) hix hW hvx hvi
        cases arr with
        | inl f =>
          split at h2
          · rename_i hz
            cases h2
            obtain ⟨at_, an⟩ := a
            have hz : at_ = 0 := hz
            subst hz
            have ea : Int32.ofInt an = a0 := Value.int.inj (Option.some.inj hva)
            refine va_bast hx hb (ev_K1 hK b4 b5) hP hD hS _ 0 hws rfl hv hd (fun H1 locs1 hP1 hD1 hS1 => hk _ (List.mem_singleton.mpr rfl) g _ H1 locs1 ls _ hle ⟨hP1, hD1, hS1, ev_w_set hW hws ⟨1, by decide, rfl, by rw [List.length_set]; exact hn, b4, b5, by decide, ?_⟩, hB, hL, hs3⟩)
            rw [hj]
            dsimp only
            rw [ea]
            exact ev_set_rel (F := Value.int) hjl b6.2 (ev_v0 g _)
          · cases h2
            obtain ⟨g', l1, ⟨hP, hD, hS, hW, hB, hL, hs⟩, e1⟩ := ev_fresh hR (.int (vp_nar .byte a0)) ev_full (fun z hz => ev_full_ok _)
            refine va_bast hx hb (ev_K1 hK b4 b5) hP hD hS _ 0 hws rfl hv hd (fun H1 locs1 hP1 hD1 hS1 => hk _ (List.mem_singleton.mpr rfl) g' _ H1 locs1 ls _ (ev_le_tr hle l1) ⟨hP1, hD1, hS1, ev_w_set hW hws ⟨1, by decide, rfl, by rw [List.length_set]; exact hn, b4, b5, by decide, ?_⟩, hB, hL, hs.2.2.2⟩)
            rw [hj]
            exact ev_set_rel (F := Value.int) hjl (fun k x hk => ev_v_le l1 (b6.2 k x hk)) (ev_v3 e1)
        | inr z => rcases z with z | z | z | z <;> first | exact b6.elim | (have := b6.1; omega)
      · cases h2
    · cases h2
  · cases h2
end
section
/-! new cells, lengths, small library calls -/
def ev_cs (st : List ev_A) : Nat := (st.map (fun a => if ev_isL a = true then 2 else 1)).sum
theorem ev_cs_ok {g : ev_G} : ∀ {st : List ev_A} {sc : List Value}, ev_s g st sc → (sc.map fun v => v.category).sum = ev_cs st
  | [], [], _ => rfl
  | [], _ :: _, h => h.elim
  | _ :: _, [], h => h.elim
  | a :: st, v :: sc, h => by
    have ih := ev_cs_ok h.2
    simp only [ev_cs, List.map_cons, List.sum_cons] at ih ⊢
    rw [ih]
    rcases ev_cat h.1 with ⟨q1, q2⟩ | ⟨q1, q2⟩ <;> rw [q1, q2] <;> rfl
theorem ev_nn {x : Int32} (h : 0 ≤ x.toInt) : ¬ x < 0 := by
  rw [Int32.lt_iff_toInt_lt]
  exact Int.not_lt.mpr h
/-- how many places a new array has -/
def ev_len (a : ev_A) : Option Nat := if a.1 = 0 ∧ 0 ≤ (Int32.ofInt a.2).toInt ∧ (Int32.ofInt a.2).toNatClampNeg ≤ 100000 then some (Int32.ofInt a.2).toNatClampNeg else none
theorem ev_len_ok {a : ev_A} {n : Nat} {g : ev_G} {v : Value} (h : ev_len a = some n) (hv : ev_v g a = some v) : ∃ x : Int32, v = .int x ∧ ¬ x < 0 ∧ x.toNatClampNeg = n ∧ n ≤ 100000 := by
  unfold ev_len at h
  split at h
  · rename_i hc
    cases h
    obtain ⟨t, k⟩ := a
    obtain ⟨h1, h2, h3⟩ := hc
    have h1 : t = 0 := h1
    subst h1
    exact ⟨_, (Option.some.inj hv).symm, ev_nn h2, rfl, h3⟩
  · cases h

def ev_newI : ev_O := (fun _ _ => some (.newarray .int, 2, [.arrayClass .int]), fun P _ S => match S.2.2.1 with
  | a :: st => (match ev_len a with
    | some n => if S.2.2.2.2.2.1 + 1 ≤ P.1 ∧ S.2.2.2.2.2.2 + n ≤ P.2.1 then some [(S.1 + 2, S.2.1, (1, (S.2.2.2.1.length : Int)) :: st, S.2.2.2.1 ++ [(100, List.replicate n (0, 0))], S.2.2.2.2.1, S.2.2.2.2.2.1 + 1, S.2.2.2.2.2.2 + n)] else none
    | none => none)
  | _ => none)
theorem ev_newI_ok : ev_Snd ev_newI := by
  intro p l e R s m args below meth c cc Q D A g0 P t S i n cs Ss X h1 hd hw h2 hk g ws H locs ls sc hle hR
  obtain ⟨hx, hb, hml, hown, hts, hK, hA, hN, hini, hcC, hcS, hf, hlc, hscr⟩ := X
  obtain ⟨pc, L, st, w, K, ce, sl⟩ := S
  have h1 : some ((.newarray .int : Instr), (2 : Nat), ([.arrayClass .int] : List Cond)) = some (i, n, cs) := h1
  cases h1
  unfold ev_newI at h2
  dsimp only at h2
  split at h2
  · rename_i a st'
    split at h2
    · rename_i n hn
      split at h2
      · rename_i hc
        cases h2
        obtain ⟨hP, hD, hS, hW, hB, hL, hs⟩ := hR
        obtain ⟨va, sc1, rfl, hva, hs1⟩ := ev_s_cons hs
        obtain ⟨x, rfl, x1, x2, x3⟩ := ev_len_ok hn hva
        refine va_newa hx hb (atype := .int) (hts _ (hw _ (List.mem_singleton.mpr rfl))) rfl hK hP hD hS hA (a0 := (n, .inl (fun _ => 0))) (fun cA => rfl) x1 x2 (by simp only [componentBytes, newarray.typeOf]; omega) (by rw [hcC]; exact hc.1) (by rw [hcS]; exact hc.2) hd (fun q cA H1 hK1 hP1 hD1 hS1 => ?_)
        obtain ⟨k1, k2⟩ := hK1.2 0 _ rfl
        have hcell : ev_c s (g.1 ++ [q], g.2.1, g.2.2) (100, List.replicate n (0, 0)) (.inl (cA, n, .inl (fun _ => 0))) := by
          refine ⟨0, by decide, rfl, by simp, k1, k2, by decide, fun j y hj => ?_⟩
          rw [List.getElem?_replicate] at hj
          split at hj
          · cases hj
            rfl
          · cases hj
        obtain ⟨l1, w1, v1⟩ := ev_w_push hW hcell
        exact hk _ (List.mem_singleton.mpr rfl) _ _ H1 locs ls _ (ev_le_tr hle l1) ⟨hP1, hD1, hS1, w1, hB, ev_l_le l1 hL, v1, ev_s_le l1 hs1⟩
      · cases h2
    · cases h2
  · cases h2

def ev_newB : ev_O := (fun _ _ => some (.newarray .byte, 2, [.arrayClass .byte]), fun P _ S => match S.2.2.1 with
  | a :: st => (match ev_len a with
    | some n => if S.2.2.2.2.2.1 + 1 ≤ P.1 ∧ S.2.2.2.2.2.2 + n ≤ P.2.1 then some [(S.1 + 2, S.2.1, (1, (S.2.2.2.1.length : Int)) :: st, S.2.2.2.1 ++ [(101, List.replicate n (0, 0))], S.2.2.2.2.1, S.2.2.2.2.2.1 + 1, S.2.2.2.2.2.2 + n)] else none
    | none => none)
  | _ => none)
theorem ev_newB_ok : ev_Snd ev_newB := by
  intro p l e R s m args below meth c cc Q D A g0 P t S i n cs Ss X h1 hd hw h2 hk g ws H locs ls sc hle hR
  obtain ⟨hx, hb, hml, hown, hts, hK, hA, hN, hini, hcC, hcS, hf, hlc, hscr⟩ := X
  obtain ⟨pc, L, st, w, K, ce, sl⟩ := S
  have h1 : some ((.newarray .byte : Instr), (2 : Nat), ([.arrayClass .byte] : List Cond)) = some (i, n, cs) := h1
  cases h1
  unfold ev_newB at h2
  dsimp only at h2
  split at h2
  · rename_i a st'
    split at h2
    · rename_i n hn
      split at h2
      · rename_i hc
        cases h2
        obtain ⟨hP, hD, hS, hW, hB, hL, hs⟩ := hR
        obtain ⟨va, sc1, rfl, hva, hs1⟩ := ev_s_cons hs
        obtain ⟨x, rfl, x1, x2, x3⟩ := ev_len_ok hn hva
        refine va_newa hx hb (atype := .byte) (hts _ (hw _ (List.mem_singleton.mpr rfl))) rfl hK hP hD hS hA (a0 := (n, .inl (fun _ => 0))) (fun cA => rfl) x1 x2 (by simp only [componentBytes, newarray.typeOf]; omega) (by rw [hcC]; exact hc.1) (by rw [hcS]; exact hc.2) hd (fun q cA H1 hK1 hP1 hD1 hS1 => ?_)
        obtain ⟨k1, k2⟩ := hK1.2 0 _ rfl
        have hcell : ev_c s (g.1 ++ [q], g.2.1, g.2.2) (101, List.replicate n (0, 0)) (.inl (cA, n, .inl (fun _ => 0))) := by
          refine ⟨1, by decide, rfl, by simp, k1, k2, by decide, fun j y hj => ?_⟩
          rw [List.getElem?_replicate] at hj
          split at hj
          · cases hj
            rfl
          · cases hj
        obtain ⟨l1, w1, v1⟩ := ev_w_push hW hcell
        exact hk _ (List.mem_singleton.mpr rfl) _ _ H1 locs ls _ (ev_le_tr hle l1) ⟨hP1, hD1, hS1, w1, hB, ev_l_le l1 hL, v1, ev_s_le l1 hs1⟩
      · cases h2
    · cases h2
  · cases h2

def ev_newJ : ev_O := (fun _ _ => some (.newarray .long, 2, [.arrayClass .long]), fun P _ S => match S.2.2.1 with
  | a :: st => (match ev_len a with
    | some n => if S.2.2.2.2.2.1 + 1 ≤ P.1 ∧ S.2.2.2.2.2.2 + n ≤ P.2.1 then some [(S.1 + 2, S.2.1, (1, (S.2.2.2.1.length : Int)) :: st, S.2.2.2.1 ++ [(102, List.replicate n (4, 0))], S.2.2.2.2.1, S.2.2.2.2.2.1 + 1, S.2.2.2.2.2.2 + n)] else none
    | none => none)
  | _ => none)
theorem ev_newJ_ok : ev_Snd ev_newJ := by
  intro p l e R s m args below meth c cc Q D A g0 P t S i n cs Ss X h1 hd hw h2 hk g ws H locs ls sc hle hR
  obtain ⟨hx, hb, hml, hown, hts, hK, hA, hN, hini, hcC, hcS, hf, hlc, hscr⟩ := X
  obtain ⟨pc, L, st, w, K, ce, sl⟩ := S
  have h1 : some ((.newarray .long : Instr), (2 : Nat), ([.arrayClass .long] : List Cond)) = some (i, n, cs) := h1
  cases h1
  unfold ev_newJ at h2
  dsimp only at h2
  split at h2
  · rename_i a st'
    split at h2
    · rename_i n hn
      split at h2
      · rename_i hc
        cases h2
        obtain ⟨hP, hD, hS, hW, hB, hL, hs⟩ := hR
        obtain ⟨va, sc1, rfl, hva, hs1⟩ := ev_s_cons hs
        obtain ⟨x, rfl, x1, x2, x3⟩ := ev_len_ok hn hva
        refine va_newa hx hb (atype := .long) (hts _ (hw _ (List.mem_singleton.mpr rfl))) rfl hK hP hD hS hA (a0 := (n, .inr (.inl (fun _ => 0)))) (fun cA => rfl) x1 x2 (by simp only [componentBytes, newarray.typeOf]; omega) (by rw [hcC]; exact hc.1) (by rw [hcS]; exact hc.2) hd (fun q cA H1 hK1 hP1 hD1 hS1 => ?_)
        obtain ⟨k1, k2⟩ := hK1.2 0 _ rfl
        have hcell : ev_c s (g.1 ++ [q], g.2.1, g.2.2) (102, List.replicate n (4, 0)) (.inl (cA, n, .inr (.inl (fun _ => 0)))) := by
          refine ⟨2, by decide, rfl, by simp, k1, k2, by decide, fun j y hj => ?_⟩
          rw [List.getElem?_replicate] at hj
          split at hj
          · cases hj
            rfl
          · cases hj
        obtain ⟨l1, w1, v1⟩ := ev_w_push hW hcell
        exact hk _ (List.mem_singleton.mpr rfl) _ _ H1 locs ls _ (ev_le_tr hle l1) ⟨hP1, hD1, hS1, w1, hB, ev_l_le l1 hL, v1, ev_s_le l1 hs1⟩
      · cases h2
    · cases h2
  · cases h2

def ev_newQ : ev_O := (fun P t => some (.anewarray t.1.toNat, 3, [.classLink P.2.2.2.1 t.1.toNat "BarberMinutes$Minutes"]), fun P _ S => match S.2.2.1 with
  | a :: st => (match ev_len a with
    | some n => if S.2.2.2.2.2.1 + 1 ≤ P.1 ∧ S.2.2.2.2.2.2 + n ≤ P.2.1 then some [(S.1 + 3, S.2.1, (1, (S.2.2.2.1.length : Int)) :: st, S.2.2.2.1 ++ [(103, List.replicate n (2, 0))], S.2.2.2.2.1, S.2.2.2.2.2.1 + 1, S.2.2.2.2.2.2 + n)] else none
    | none => none)
  | _ => none)
theorem ev_newQ_ok : ev_Snd ev_newQ := by
  intro p l e R s m args below meth c cc Q D A g0 P t S i n cs Ss X h1 hd hw h2 hk g ws H locs ls sc hle hR
  obtain ⟨hx, hb, hml, hown, hts, hK, hA, hN, hini, hcC, hcS, hf, hlc, hscr⟩ := X
  obtain ⟨pc, L, st, w, K, ce, sl⟩ := S
  have h1 : some ((.anewarray t.1.toNat : Instr), (3 : Nat), ([.classLink P.2.2.2.1 t.1.toNat "BarberMinutes$Minutes"] : List Cond)) = some (i, n, cs) := h1
  cases h1
  unfold ev_newQ at h2
  dsimp only at h2
  split at h2
  · rename_i a st'
    split at h2
    · rename_i n hn
      split at h2
      · rename_i hc
        cases h2
        obtain ⟨hP, hD, hS, hW, hB, hL, hs⟩ := hR
        obtain ⟨va, sc1, rfl, hva, hs1⟩ := ev_s_cons hs
        obtain ⟨x, rfl, x1, x2, x3⟩ := ev_len_ok hn hva
        refine va_newq hx hb hown (hts _ (hw _ (List.mem_singleton.mpr rfl))) hN.1.2 hK hP hD hS hA x1 x2 (by omega) (by rw [hcC]; exact hc.1) (by rw [hcS]; exact hc.2) hd (fun q cA H1 hK1 hP1 hD1 hS1 => ?_)
        obtain ⟨k1, k2⟩ := hK1.2 0 _ rfl
        have hcell : ev_c s (g.1 ++ [q], g.2.1, g.2.2) (103, List.replicate n (2, 0)) (.inl (cA, n, .inr (.inr (.inr (.inr (fun _ => none)))))) := by
          refine ⟨3, by decide, rfl, by simp, k1, k2, rfl, fun j y hj => ?_⟩
          rw [List.getElem?_replicate] at hj
          split at hj
          · cases hj
            rfl
          · cases hj
        obtain ⟨l1, w1, v1⟩ := ev_w_push hW hcell
        exact hk _ (List.mem_singleton.mpr rfl) _ _ H1 locs ls _ (ev_le_tr hle l1) ⟨hP1, hD1, hS1, w1, hB, ev_l_le l1 hL, v1, ev_s_le l1 hs1⟩
      · cases h2
    · cases h2
  · cases h2
def ev_def (ty : FieldType) : ev_A := match ty with
  | .int => (0, 0)
  | .boolean => (0, 0)
  | .long => (4, 0)
  | .object _ => (2, 0)
  | .array _ => (2, 0)
  | _ => (9, 0)
theorem ev_def_ok (g : ev_G) {ty : FieldType} (h : ((ev_def ty).1 == 9) = false) : ev_v g (ev_def ty) = some (defaultValue ty) := by
  cases ty <;> first | rfl | (simp [ev_def] at h)
def ev_new : ev_O := (fun P t => match vwCl[t.1.toNat]? with
  | some r => some (.new t.2.2.1.toNat, 3, [.classLink P.2.2.2.1 t.2.2.1.toNat r.1, .instantiable r.1 r.2.2, .initialized r.1])
  | none => none, fun P t S => match vwCl[t.1.toNat]?, ev_tyl[t.1.toNat]? with
  | some r, some ty => if S.2.2.2.2.2.1 + 1 ≤ P.1 ∧ S.2.2.2.2.2.2 + r.2.2 ≤ P.2.1 ∧ (List.range r.2.2).all (fun j => !((ev_def (ty j)).1 == 9)) = true then some [(S.1 + 3, S.2.1, (1, (S.2.2.2.1.length : Int)) :: S.2.2.1, S.2.2.2.1 ++ [(t.1.toNat, (List.range r.2.2).map (fun j => ev_def (ty j)))], S.2.2.2.2.1, S.2.2.2.2.2.1 + 1, S.2.2.2.2.2.2 + r.2.2)] else none
  | _, _ => none)
theorem ev_new_ok : ev_Snd ev_new := by
  intro p l e R s m args below meth c cc Q D A g0 P t S i n cs Ss X h1 hd hw h2 hk g ws H locs ls sc hle hR
  obtain ⟨hx, hb, hml, hown, hts, hK, hA, hN, hini, hcC, hcS, hf, hlc, hscr⟩ := X
  obtain ⟨pc, L, st, w, K, ce, sl⟩ := S
  obtain ⟨t1, t2, t3, t4⟩ := t
  unfold ev_new at h1 h2
  dsimp only at h1 h2
  cases hr : vwCl[t1.toNat]? with
  | none => simp [hr] at h1
  | some r =>
    rw [hr] at h1 h2
    dsimp only at h1
    cases h1
    split at h2
    · rename_i r' ty hr' hty
      cases hr'
      split at h2
      · rename_i hc
        obtain ⟨hc1, hc2, hc3⟩ := hc
        cases h2
        obtain ⟨hP, hD, hS, hW, hB, hL, hs⟩ := hR
        obtain ⟨k1, k2, k3, k4⟩ := ev_cls _ r ty hr hty
        have hlt : t1.toNat < 10 := (List.getElem?_eq_some_iff.mp hr).1
        refine va_new (fs := (List.range r.2.2).map (fun j => defaultValue (ty j))) hx hb hts k1 ty k2 hown (hts _ (hw _ (by simp))) (hts _ (hw _ (by simp))) (hts _ (hw _ (by simp))) hK hP hD hS hA hr (fun j hj => by simp [vp_V, List.getD, hj]) (by rw [hcC]; exact hc1) (by rw [hcS]; exact hc2) hd (fun q H1 hP1 hD1 hS1 => ?_)
        have hcell : ev_c s (g.1 ++ [q], g.2.1, g.2.2) (t1.toNat, (List.range r.2.2).map (fun j => ev_def (ty j))) (.inr (t1.toNat, (List.range r.2.2).map (fun j => defaultValue (ty j)))) := by
          refine ⟨rfl, by omega, by simp, fun j a hj => ?_⟩
          dsimp only at hj ⊢
          rw [List.getElem?_map] at hj ⊢
          cases hz : (List.range r.2.2)[j]? with
          | none => simp [hz] at hj
          | some z =>
            simp only [hz, Option.map_some] at hj ⊢
            cases hj
            refine ⟨_, ev_def_ok _ ?_, rfl⟩
            have := List.all_eq_true.mp hc3 z (List.mem_of_getElem? hz)
            simpa using this
        obtain ⟨l1, w1, v1⟩ := ev_w_push hW hcell
        exact hk _ (List.mem_singleton.mpr rfl) _ _ H1 locs ls _ (ev_le_tr hle l1) ⟨hP1, hD1, hS1, w1, hB, ev_l_le l1 hL, v1, ev_s_le l1 hs⟩
      · cases h2
    · cases h2
def ev_aastore : ev_O := (fun _ _ => some (.aastore, 1, []), fun _ _ S => match S.2.2.1 with
  | a :: i :: x :: st => (match ev_ix 3 x i S.2.2.2.1, S.2.2.2.1[a.2.toNat]? with
    | some (cs, j), some cl => if a.1 = 1 ∧ cl.1 = 2 then some [(S.1 + 1, S.2.1, st, S.2.2.2.1.set x.2.toNat (103, cs.set j a), S.2.2.2.2)] else none
    | _, _ => none)
  | _ => none)
theorem ev_aastore_ok : ev_Snd ev_aastore := by
  intro p l e R s m args below meth c cc Q D A g0 P t S i n cs Ss X h1 hd hw h2 hk g ws H locs ls sc hle hR
  obtain ⟨hx, hb, hml, hown, hts, hK, hA, hN, hini, hcC, hcS, hf, hlc, hscr⟩ := X
  obtain ⟨pc, L, st, w, K, ce, sl⟩ := S
  have h1 : some ((.aastore : Instr), (1 : Nat), ([] : List Cond)) = some (i, n, cs) := h1
  cases h1
  unfold ev_aastore at h2
  dsimp only at h2
  split at h2
  · rename_i a i x st'
    split at h2
    · rename_i cs j cl hix hcl
      split at h2
      · rename_i ha
        cases h2
        obtain ⟨hP, hD, hS, hW, hB, hL, hs⟩ := hR
        obtain ⟨va, sc1, rfl, hva, hs1⟩ := ev_s_cons hs
        obtain ⟨vi, sc2, rfl, hvi, hs2⟩ := ev_s_cons hs1
        obtain ⟨vx, sc3, rfl, hvx, hs3⟩ := ev_s_cons hs2
        obtain ⟨ad2, y0, rfl, hws2, hcc⟩ := ev_ref1 hW ha.1 hva hcl
        obtain ⟨ad, cA, n, arr, i0, rfl, rfl, hws, hn, hv, hj, hjl, b4, b5, b6, hwc⟩ := ev_ix_ok (by decide) hix hW hvx hvi
        cases y0 with
        | inl z =>
          obtain ⟨tt, c1, c2, -⟩ := hcc
          omega
        | inr o =>
          obtain ⟨ci, vs⟩ := o
          obtain ⟨c1, -⟩ := hcc
          have c1 : ci = 2 := by dsimp only at c1; omega
          subst c1
          rcases arr with f | f | f | f | f
          · have := b6.1; omega
          · have := b6.1; omega
          · exact b6.elim
          · exact b6.elim
          · refine va_astq hx hb (ev_K1 hK b4 b5) hP hD hS _ 0 _ 2 (r := (RX2, TX2, 4)) hws rfl hws2 rfl hv hd (fun H1 locs1 hP1 hD1 hS1 => hk _ (List.mem_singleton.mpr rfl) g _ H1 locs1 ls _ hle ⟨hP1, hD1, hS1, ev_w_set hW hws ⟨3, by decide, rfl, by rw [List.length_set]; exact hn, b4, b5, rfl, ?_⟩, hB, hL, hs3⟩)
            rw [hj]
            exact ev_set_rel (F := va_rf) (v := some ad2) hjl b6.2 hva
      · cases h2
    · cases h2
  · cases h2
def ev_alen : ev_O := (fun _ _ => some (.arraylength, 1, []), fun P _ S => match S.2.2.1 with
  | x :: st => if x.1 = 5 then (if x.2 = 0 ∧ 1 ≤ P.2.2.2.2.2 then some [ev_adv S 1 ((0, (Int32.ofNat (P.2.2.2.2.2 - 1)).toInt) :: st)] else none) else (match S.2.2.2.1[x.2.toNat]? with
    | some cl => if x.1 = 1 ∧ 100 ≤ cl.1 then some [ev_adv S 1 ((0, (Int32.ofNat cl.2.length).toInt) :: st)] else none
    | none => none)
  | _ => none)
theorem ev_alen_ok : ev_Snd ev_alen := by
  intro p l e R s m args below meth c cc Q D A g0 P t S i n cs Ss X h1 hd hw h2 hk g ws H locs ls sc hle hR
  obtain ⟨hx, hb, hml, hown, hts, hK, hA, hN, hini, hcC, hcS, hf, hlc, hscr⟩ := X
  obtain ⟨pc, L, st, w, K, ce, sl⟩ := S
  have h1 : some ((.arraylength : Instr), (1 : Nat), ([] : List Cond)) = some (i, n, cs) := h1
  cases h1
  unfold ev_alen at h2
  dsimp only at h2
  split at h2
  · rename_i x st'
    obtain ⟨hP, hD, hS, hW, hB, hL, hs⟩ := hR
    obtain ⟨vx, sc1, rfl, hvx, hs1⟩ := ev_s_cons hs
    split at h2
    · rename_i h5
      split at h2
      · rename_i hc
        cases h2
        obtain ⟨xt, xn⟩ := x
        have h5 : xt = 5 := h5
        subst h5
        have hc1 : xn = 0 := hc.1
        subst hc1
        obtain ⟨xs, s1, s2, s3, s4⟩ := hscr (P.2.2.2.2.2 - 1) (by omega)
        have e0 : g.2.1 = g0.2.1 := hle.2.1
        have hvx : vx = .ref (g0.2.1 0) := by rw [← e0]; exact (Option.some.inj hvx).symm
        subst hvx
        exact va_slen hx hb s1 s2 s3 hS hd (hk _ (List.mem_singleton.mpr rfl) g ws H locs ls _ hle ⟨hP, hD, hS, hW, hB, hL, ev_v0 g _, hs1⟩)
      · cases h2
    · split at h2
      · rename_i cl hcl
        split at h2
        · rename_i hc
          cases h2
          obtain ⟨ad, y0, rfl, hws, hcc⟩ := ev_ref1 hW hc.1 hvx hcl
          cases y0 with
          | inr o =>
            obtain ⟨c1, c2, -⟩ := hcc
            omega
          | inl z =>
            obtain ⟨cA, n, arr⟩ := z
            obtain ⟨tt, c1, c2, c3, c4, c5, c6⟩ := hcc
            exact va_alen hx hb (ev_K1 hK c4 c5) hP _ 0 hws rfl rfl hd (hk _ (List.mem_singleton.mpr rfl) g ws H locs ls _ hle ⟨hP, hD, hS, hW, hB, hL, by dsimp only at c3 ⊢; rw [c3]; exact ev_v0 g _, hs1⟩)
        · cases h2
      · cases h2
  · cases h2
/-- the law's own script: its j-th number is the j-th variable -/
def ev_sald : ev_O := (fun _ _ => some (.iaload, 1, []), fun P _ S => match S.2.2.1 with
  | i :: x :: st => if x.1 = 5 ∧ x.2 = 0 ∧ i.1 = 0 ∧ 1 ≤ P.2.2.2.2.2 ∧ 0 ≤ (Int32.ofInt i.2).toInt ∧ (Int32.ofInt i.2).toInt < ((P.2.2.2.2.2 - 1 : Nat) : Int) then some [ev_adv S 1 ((3, ((Int32.ofInt i.2).toNatClampNeg : Int)) :: st)] else none
  | _ => none)
theorem ev_sald_ok : ev_Snd ev_sald := by
  intro p l e R s m args below meth c cc Q D A g0 P t S i n cs Ss X h1 hd hw h2 hk g ws H locs ls sc hle hR
  obtain ⟨hx, hb, hml, hown, hts, hK, hA, hN, hini, hcC, hcS, hf, hlc, hscr⟩ := X
  obtain ⟨pc, L, st, w, K, ce, sl⟩ := S
  have h1 : some ((.iaload : Instr), (1 : Nat), ([] : List Cond)) = some (i, n, cs) := h1
  cases h1
  unfold ev_sald at h2
  dsimp only at h2
  split at h2
  · rename_i i x st'
    split at h2
    · rename_i hc
      cases h2
      obtain ⟨h5, h50, hi0, hL1, hi1, hi2⟩ := hc
      obtain ⟨hP, hD, hS, hW, hB, hL, hs⟩ := hR
      obtain ⟨vi, sc1, rfl, hvi, hs1⟩ := ev_s_cons hs
      obtain ⟨vx, sc2, rfl, hvx, hs2⟩ := ev_s_cons hs1
      obtain ⟨xt, xn⟩ := x
      have h5 : xt = 5 := h5
      subst h5
      have h50 : xn = 0 := h50
      subst h50
      obtain ⟨it, iv⟩ := i
      have hi0 : it = 0 := hi0
      subst hi0
      have hvi : vi = .int (Int32.ofInt iv) := (Option.some.inj hvi).symm
      subst hvi
      obtain ⟨xs, s1, s2, s3, s4⟩ := hscr (P.2.2.2.2.2 - 1) (by omega)
      have e0 : g.2.1 = g0.2.1 := hle.2.1
      have hvx : vx = .ref (g0.2.1 0) := by rw [← e0]; exact (Option.some.inj hvx).symm
      subst hvx
      have hv : vp_in (Int32.ofInt iv) (P.2.2.2.2.2 - 1) := by rw [vp_in_iff]; exact ⟨hi1, hi2⟩
      have hj : (Int32.ofInt iv).toNatClampNeg < P.2.2.2.2.2 - 1 := by
        have h9 := hv
        unfold vp_in at h9
        exact Nat.lt_of_not_le (fun q => h9 (Or.inr q))
      obtain ⟨l3, e3⟩ := hle.2.2
      have he : g.2.2[(Int32.ofInt iv).toNatClampNeg]? = some (.int (xs (Int32.ofInt iv).toNatClampNeg)) := by rw [e3]; exact ev_ap (s4 _ hj)
      exact va_sld hx hb s1 s2 s3 hS hv hd (hk _ (List.mem_singleton.mpr rfl) g ws H locs ls _ hle ⟨hP, hD, hS, hW, hB, hL, ev_v3 he, hs2⟩)
    · cases h2
  · cases h2
/-! calls of the library by one row -/
def ev_oinit : ev_O := (fun P t => some (.invokespecial t.1.toNat, 3, [.methodLink P.2.2.2.1 t.1.toNat objectInit, .instanceMethod objectInit, .code objectInit ⟨#[0xb1]⟩ 1 none]), fun _ _ S => match S.2.2.1 with
  | x :: st => if ev_isR x = true ∧ ev_cs st ≤ 8 then some [ev_adv S 3 st] else none
  | _ => none)
theorem ev_oinit_ok : ev_Snd ev_oinit := by
  intro p l e R s m args below meth c cc Q D A g0 P t S i n cs Ss X h1 hd hw h2 hk g ws H locs ls sc hle hR
  obtain ⟨hx, hb, hml, hown, hts, hK, hA, hN, hini, hcC, hcS, hf, hlc, hscr⟩ := X
  obtain ⟨pc, L, st, w, K, ce, sl⟩ := S
  have h1 : some ((.invokespecial t.1.toNat : Instr), (3 : Nat), ([.methodLink P.2.2.2.1 t.1.toNat objectInit, .instanceMethod objectInit, .code objectInit ⟨#[0xb1]⟩ 1 none] : List Cond)) = some (i, n, cs) := h1
  cases h1
  unfold ev_oinit at h2
  dsimp only at h2
  split at h2
  · rename_i x st'
    split at h2
    · rename_i hc
      cases h2
      obtain ⟨hP, hD, hS, hW, hB, hL, hs⟩ := hR
      obtain ⟨vx, sc1, rfl, hvx, hs1⟩ := ev_s_cons hs
      obtain ⟨ad, rfl⟩ := ev_vR hc.1 hvx
      refine W.objInit hx hb hown (hts _ (hw _ (by simp))) (hts _ (hw _ (by simp))) (hts _ (hw _ (by simp))) (g := F0 m pc ls (.ref ad :: sc1)) rfl (hL.1.trans hml.symm) (a := ad) (rest := sc1) rfl hd hf ?_ (hk _ (List.mem_singleton.mpr rfl) g ws H locs ls _ hle ⟨hP, hD, hS, hW, hB, hL, hs1⟩)
      rw [ev_cs_ok hs1]
      show 2 * 0 + _ + 12 ≤ _
      omega
    · cases h2
  · cases h2

def ev_mmin : ev_O := (fun P t => some (.invokestatic t.1.toNat, 3, [.methodLink P.2.2.2.1 t.1.toNat Lib.Math.min.name, .static Lib.Math.min.name, .initialized "java/lang/Math", .code Lib.Math.min.name Lib.Math.min.code 2 (some .int)]), fun P _ S => match S.2.2.1 with
  | _ :: _ :: st => if ev_cs st ≤ 8 ∧ S.2.2.2.2.2.1 ≤ P.1 ∧ S.2.2.2.2.2.2 ≤ P.2.1 then ev_bin (fun x y => if y < x then y else x) (fun _ => true) 3 S else none
  | _ => none)
theorem ev_mmin_ok : ev_Snd ev_mmin := by
  intro p l e R s m args below meth c cc Q D A g0 P t S i n cs Ss X h1 hd hw h2 hk g ws H locs ls sc hle hR
  obtain ⟨hx, hb, hml, hown, hts, hK, hA, hN, hini, hcC, hcS, hf, hlc, hscr⟩ := X
  obtain ⟨pc, L, st, w, K, ce, sl⟩ := S
  have h1 : some ((.invokestatic t.1.toNat : Instr), (3 : Nat), ([.methodLink P.2.2.2.1 t.1.toNat Lib.Math.min.name, .static Lib.Math.min.name, .initialized "java/lang/Math", .code Lib.Math.min.name Lib.Math.min.code 2 (some .int)] : List Cond)) = some (i, n, cs) := h1
  cases h1
  unfold ev_mmin at h2
  dsimp only at h2
  split at h2
  · rename_i y x st'
    split at h2
    · rename_i hc
      have hs0 := hR.2.2.2.2.2.2
      have hl0 := hR.2.2.2.2.2.1.1
      obtain ⟨x0, y0, rest, S', rfl, hy, rfl, e1, e2, g', l1, hR'⟩ := ev_bin_ok (fun x y => if y < x then y else x) (fun _ => true) (fun _ _ => rfl) h2 hR
      have hsum := ev_cs_ok hs0.2.2
      exact va_mmin hx hb (hml.trans hl0.symm) hown (hts _ (hw _ (by simp))) (hts _ (hw _ (by simp))) (hts _ (hw _ (by simp))) (hts _ (hw _ (by simp))) hf (by omega) (by rw [hcC]; exact hc.2.1) (by rw [hcS]; exact hc.2.2) hd (ev_Go_eq (hk S' (List.mem_singleton.mpr rfl)) e1 e2 (ev_le_tr hle l1) hR')
    · cases h2
  · cases h2

def ev_ldc : ev_O := (fun P t => some (.ldc t.2.1.toNat, 2, [.constant P.2.2.2.1 t.2.1.toNat (Int32.ofInt t.1)]), fun _ t S => some [ev_adv S 2 ((0, (Int32.ofInt t.1).toInt) :: S.2.2.1)])
theorem ev_ldc_ok : ev_Snd ev_ldc := by
  intro p l e R s m args below meth c cc Q D A g0 P t S i n cs Ss X h1 hd hw h2 hk g ws H locs ls sc hle hR
  obtain ⟨hx, hb, hml, hown, hts, hK, hA, hN, hini, hcC, hcS, hf, hlc, hscr⟩ := X
  obtain ⟨pc, L, st, w, K, ce, sl⟩ := S
  have h1 : some ((.ldc t.2.1.toNat : Instr), (2 : Nat), ([.constant P.2.2.2.1 t.2.1.toNat (Int32.ofInt t.1)] : List Cond)) = some (i, n, cs) := h1
  cases h1
  have h2 : some [ev_adv (pc, L, st, w, K, ce, sl) 2 ((0, (Int32.ofInt t.1).toInt) :: st)] = some Ss := h2
  cases h2
  obtain ⟨hP, hD, hS, hW, hB, hL, hs⟩ := hR
  exact W.ldc hx hb hown (hts _ (hw _ (List.mem_singleton.mpr rfl))) (g := F0 m pc ls sc) rfl hd (hk _ (List.mem_singleton.mpr rfl) g ws H locs ls _ hle ⟨hP, hD, hS, hW, hB, hL, ev_v0 g _, hs⟩)

/-! text constants -/
def ev_ldcS : ev_O := (fun P t => match ev_strs[t.1.toNat]? with
  | some r => if r.1 = P.2.2.2.1 then some (.ldc r.2.1, 2, []) else none
  | none => none, fun _ t S => some [ev_adv S 2 ((5, 1 + 2 * (t.1.toNat : Int)) :: S.2.2.1)])
theorem ev_x5 {g : ev_G} {k : Nat} : ev_v g (5, 1 + 2 * (k : Int)) = some (.ref (g.2.1 (1 + 2 * k))) := by
  show some (Value.ref (g.2.1 (1 + 2 * (k : Int)).toNat)) = _
  rw [show (1 + 2 * (k : Int)).toNat = 1 + 2 * k by omega]
theorem ev_ldcS_ok : ev_Snd ev_ldcS := by
  intro p l e R s m args below meth c cc Q D A g0 P t S i n cs Ss X h1 hd hw h2 hk g ws H locs ls sc hle hR
  obtain ⟨hx, hb, hml, hown, hts, hK, hA, hN, hini, hcC, hcS, hf, hlc, hscr⟩ := X
  obtain ⟨pc, L, st, w, K, ce, sl⟩ := S
  unfold ev_ldcS at h1
  dsimp only at h1
  have h2 : some [ev_adv (pc, L, st, w, K, ce, sl) 2 ((5, 1 + 2 * (t.1.toNat : Int)) :: st)] = some Ss := h2
  cases h2
  split at h1
  · rename_i r hr
    split at h1
    · rename_i ho
      cases h1
      obtain ⟨hP, hD, hS, hW, hB, hL, hs⟩ := hR
      have e0 : g.2.1 = g0.2.1 := hle.2.1
      have hz := hN.2.1 _ r hr
      rw [ho] at hz
      exact va_ldcS hx hb hown hz hd (hk _ (List.mem_singleton.mpr rfl) g ws H locs ls _ hle ⟨hP, hD, hS, hW, hB, hL, by rw [← e0]; exact ev_x5, hs⟩)
    · cases h1
  · cases h1
/-- a text, by its value -/
def ev_isS (a : ev_A) : Bool := a.1 == 5 && (decide (a.2.toNat % 2 = 1) && decide (a.2.toNat / 2 < 40))
theorem ev_isS_ok {a : ev_A} {g : ev_G} {v : Value} (h : ev_isS a = true) (hv : ev_v g a = some v) : ∃ r, ev_strs[a.2.toNat / 2]? = some r ∧ a.2.toNat = 1 + 2 * (a.2.toNat / 2) ∧ v = .ref (g.2.1 (1 + 2 * (a.2.toNat / 2))) := by
  simp only [ev_isS, Bool.and_eq_true, beq_iff_eq, decide_eq_true_eq] at h
  obtain ⟨h1, h2, h3⟩ := h
  obtain ⟨t, n⟩ := a
  have h1 : t = 5 := h1
  subst h1
  dsimp only at h2 h3 ⊢
  refine ⟨_, List.getElem?_eq_getElem (show n.toNat / 2 < ev_strs.length from h3), by omega, ?_⟩
  rw [show 1 + 2 * (n.toNat / 2) = n.toNat by omega]
  exact (Option.some.inj hv).symm
def ev_getV : ev_O := (fun P t => some (.getfield t.1.toNat, 3, [.fieldLink P.2.2.2.1 t.1.toNat "java/lang/String" "value" "[B"]), fun _ _ S => match S.2.2.1 with
  | x :: st => if ev_isS x = true then some [ev_adv S 3 ((5, 2 + 2 * ((x.2.toNat / 2 : Nat) : Int)) :: st)] else none
  | _ => none)
theorem ev_x52 {g : ev_G} {k : Nat} : ev_v g (5, 2 + 2 * (k : Int)) = some (.ref (g.2.1 (2 + 2 * k))) := by
  show some (Value.ref (g.2.1 (2 + 2 * (k : Int)).toNat)) = _
  rw [show (2 + 2 * (k : Int)).toNat = 2 + 2 * k by omega]
theorem ev_getV_ok : ev_Snd ev_getV := by
  intro p l e R s m args below meth c cc Q D A g0 P t S i n cs Ss X h1 hd hw h2 hk g ws H locs ls sc hle hR
  obtain ⟨hx, hb, hml, hown, hts, hK, hA, hN, hini, hcC, hcS, hf, hlc, hscr⟩ := X
  obtain ⟨pc, L, st, w, K, ce, sl⟩ := S
  have h1 : some ((.getfield t.1.toNat : Instr), (3 : Nat), ([.fieldLink P.2.2.2.1 t.1.toNat "java/lang/String" "value" "[B"] : List Cond)) = some (i, n, cs) := h1
  cases h1
  unfold ev_getV at h2
  dsimp only at h2
  split at h2
  · rename_i x st'
    split at h2
    · rename_i hc
      cases h2
      obtain ⟨hP, hD, hS, hW, hB, hL, hs⟩ := hR
      obtain ⟨vx, sc1, rfl, hvx, hs1⟩ := ev_s_cons hs
      obtain ⟨r, hr, e1, rfl⟩ := ev_isS_ok hc hvx
      have e0 : g.2.1 = g0.2.1 := hle.2.1
      rw [e0]
      exact vk_getf hx hb (hN.2.2.1 _ r hr).2.2.1 hS hown (hts _ (hw _ (List.mem_singleton.mpr rfl))) (fun _ h => h) hd (hk _ (List.mem_singleton.mpr rfl) g ws H locs ls _ hle ⟨hP, hD, hS, hW, hB, hL, by rw [← e0]; exact ev_x52, hs1⟩)
    · cases h2
  · cases h2
def ev_getC : ev_O := (fun P t => some (.getfield t.1.toNat, 3, [.fieldLink P.2.2.2.1 t.1.toNat "java/lang/String" "coder" "B"]), fun _ _ S => match S.2.2.1 with
  | x :: st => if ev_isS x = true then some [ev_adv S 3 ((0, 0) :: st)] else none
  | _ => none)
theorem ev_getC_ok : ev_Snd ev_getC := by
  intro p l e R s m args below meth c cc Q D A g0 P t S i n cs Ss X h1 hd hw h2 hk g ws H locs ls sc hle hR
  obtain ⟨hx, hb, hml, hown, hts, hK, hA, hN, hini, hcC, hcS, hf, hlc, hscr⟩ := X
  obtain ⟨pc, L, st, w, K, ce, sl⟩ := S
  have h1 : some ((.getfield t.1.toNat : Instr), (3 : Nat), ([.fieldLink P.2.2.2.1 t.1.toNat "java/lang/String" "coder" "B"] : List Cond)) = some (i, n, cs) := h1
  cases h1
  unfold ev_getC at h2
  dsimp only at h2
  split at h2
  · rename_i x st'
    split at h2
    · rename_i hc
      cases h2
      obtain ⟨hP, hD, hS, hW, hB, hL, hs⟩ := hR
      obtain ⟨vx, sc1, rfl, hvx, hs1⟩ := ev_s_cons hs
      obtain ⟨r, hr, e1, rfl⟩ := ev_isS_ok hc hvx
      have e0 : g.2.1 = g0.2.1 := hle.2.1
      rw [e0]
      exact vk_getf hx hb (hN.2.2.1 _ r hr).2.1 hS hown (hts _ (hw _ (List.mem_singleton.mpr rfl))) (fun _ h => h) hd (hk _ (List.mem_singleton.mpr rfl) g ws H locs ls _ hle ⟨hP, hD, hS, hW, hB, hL, rfl, hs1⟩)
    · cases h2
  · cases h2
def ev_gets : ev_O := (fun P t => some (.getstatic t.1.toNat, 3, [.fieldLink P.2.2.2.1 t.1.toNat "java/lang/String" "COMPACT_STRINGS" "Z"]), fun _ _ S => some [ev_adv S 3 ((0, 1) :: S.2.2.1)])
theorem ev_gets_ok : ev_Snd ev_gets := by
  intro p l e R s m args below meth c cc Q D A g0 P t S i n cs Ss X h1 hd hw h2 hk g ws H locs ls sc hle hR
  obtain ⟨hx, hb, hml, hown, hts, hK, hA, hN, hini, hcC, hcS, hf, hlc, hscr⟩ := X
  obtain ⟨pc, L, st, w, K, ce, sl⟩ := S
  have h1 : some ((.getstatic t.1.toNat : Instr), (3 : Nat), ([.fieldLink P.2.2.2.1 t.1.toNat "java/lang/String" "COMPACT_STRINGS" "Z"] : List Cond)) = some (i, n, cs) := h1
  cases h1
  have h2 : some [ev_adv (pc, L, st, w, K, ce, sl) 3 ((0, 1) :: st)] = some Ss := h2
  cases h2
  obtain ⟨hP, hD, hS, hW, hB, hL, hs⟩ := hR
  exact va_gets hx hb hN.2.2.2.1 hS hown (hts _ (hw _ (List.mem_singleton.mpr rfl))) (fun _ h => h) hd (hk _ (List.mem_singleton.mpr rfl) g ws H locs ls _ hle ⟨hP, hD, hS, hW, hB, hL, rfl, hs⟩)
/-- a text's bytes -/
def ev_isY (a : ev_A) : Bool := a.1 == 5 && (decide (a.2.toNat % 2 = 0) && (decide (2 ≤ a.2.toNat) && decide (a.2.toNat / 2 - 1 < 40)))
theorem ev_isY_ok {a : ev_A} {g : ev_G} {v : Value} (h : ev_isY a = true) (hv : ev_v g a = some v) : ∃ r, ev_strs[a.2.toNat / 2 - 1]? = some r ∧ v = .ref (g.2.1 (2 + 2 * (a.2.toNat / 2 - 1))) := by
  simp only [ev_isY, Bool.and_eq_true, beq_iff_eq, decide_eq_true_eq] at h
  obtain ⟨h1, h2, h3, h4⟩ := h
  obtain ⟨t, n⟩ := a
  have h1 : t = 5 := h1
  subst h1
  dsimp only at h2 h3 h4 ⊢
  refine ⟨_, List.getElem?_eq_getElem (show n.toNat / 2 - 1 < ev_strs.length from h4), ?_⟩
  rw [show 2 + 2 * (n.toNat / 2 - 1) = n.toNat by omega]
  exact (Option.some.inj hv).symm
def ev_alenS : ev_O := (fun _ _ => some (.arraylength, 1, []), fun _ _ S => match S.2.2.1 with
  | x :: st => if ev_isY x = true then (match ev_strs[x.2.toNat / 2 - 1]? with
    | some r => some [ev_adv S 1 ((0, (Int32.ofNat r.2.2.2.length).toInt) :: st)]
    | none => none) else none
  | _ => none)
theorem ev_alenS_ok : ev_Snd ev_alenS := by
  intro p l e R s m args below meth c cc Q D A g0 P t S i n cs Ss X h1 hd hw h2 hk g ws H locs ls sc hle hR
  obtain ⟨hx, hb, hml, hown, hts, hK, hA, hN, hini, hcC, hcS, hf, hlc, hscr⟩ := X
  obtain ⟨pc, L, st, w, K, ce, sl⟩ := S
  have h1 : some ((.arraylength : Instr), (1 : Nat), ([] : List Cond)) = some (i, n, cs) := h1
  cases h1
  unfold ev_alenS at h2
  dsimp only at h2
  split at h2
  · rename_i x st'
    split at h2
    · rename_i hc
      split at h2
      · rename_i r hr
        cases h2
        obtain ⟨hP, hD, hS, hW, hB, hL, hs⟩ := hR
        obtain ⟨vx, sc1, rfl, hvx, hs1⟩ := ev_s_cons hs
        obtain ⟨r', hr', rfl⟩ := ev_isY_ok hc hvx
        have e0 : g.2.1 = g0.2.1 := hle.2.1
        rw [e0]
        exact va_tlen hx hb (hN.2.2.1 _ r hr).2.2.2 hS rfl hd (hk _ (List.mem_singleton.mpr rfl) g ws H locs ls _ hle ⟨hP, hD, hS, hW, hB, hL, ev_v0 g _, hs1⟩)
      · cases h2
    · cases h2
  · cases h2
def ev_baloadS : ev_O := (fun _ _ => some (.baload, 1, []), fun _ _ S => match S.2.2.1 with
  | i :: x :: st => if ev_isY x = true then (match ev_strs[x.2.toNat / 2 - 1]? with
    | some r => if i.1 = 0 ∧ 0 ≤ (Int32.ofInt i.2).toInt ∧ (Int32.ofInt i.2).toInt < (r.2.2.2.length : Int) then some [ev_adv S 1 ((0, (r.2.2.2.getD (Int32.ofInt i.2).toNatClampNeg 0).toInt) :: st)] else none
    | none => none) else none
  | _ => none)
theorem ev_baloadS_ok : ev_Snd ev_baloadS := by
  intro p l e R s m args below meth c cc Q D A g0 P t S i n cs Ss X h1 hd hw h2 hk g ws H locs ls sc hle hR
  obtain ⟨hx, hb, hml, hown, hts, hK, hA, hN, hini, hcC, hcS, hf, hlc, hscr⟩ := X
  obtain ⟨pc, L, st, w, K, ce, sl⟩ := S
  have h1 : some ((.baload : Instr), (1 : Nat), ([] : List Cond)) = some (i, n, cs) := h1
  cases h1
  unfold ev_baloadS at h2
  dsimp only at h2
  split at h2
  · rename_i i x st'
    split at h2
    · rename_i hc
      split at h2
      · rename_i r hr
        split at h2
        · rename_i hi
          cases h2
          obtain ⟨hP, hD, hS, hW, hB, hL, hs⟩ := hR
          obtain ⟨vi, sc1, rfl, hvi, hs1⟩ := ev_s_cons hs
          obtain ⟨vx, sc2, rfl, hvx, hs2⟩ := ev_s_cons hs1
          obtain ⟨r', hr', rfl⟩ := ev_isY_ok hc hvx
          obtain ⟨it, iv⟩ := i
          have hi0 : it = 0 := hi.1
          subst hi0
          have hvi : vi = .int (Int32.ofInt iv) := (Option.some.inj hvi).symm
          subst hvi
          have e0 : g.2.1 = g0.2.1 := hle.2.1
          rw [e0]
          exact va_tb hx hb (hN.2.2.1 _ r hr).2.2.2 hS (by rw [vp_in_iff]; exact hi.2) rfl hd (hk _ (List.mem_singleton.mpr rfl) g ws H locs ls _ hle ⟨hP, hD, hS, hW, hB, hL, ev_v0 g _, hs2⟩)
        · cases h2
      · cases h2
    · cases h2
  · cases h2
def ev_i2c : ev_O := (fun _ _ => some (.i2c, 1, []), fun _ _ S => ev_una (fun x => (x.toUInt32 % 65536).toInt32) 1 ev_full S)
theorem ev_i2c_ok : ev_Snd ev_i2c := by
  intro p l e R s m args below meth c cc Q D A g0 P t S i n cs Ss X h1 hd hw h2 hk g ws H locs ls sc hle hR
  obtain ⟨hx, hb, hml, hown, hts, hK, hA, hN, hini, hcC, hcS, hf, hlc, hscr⟩ := X
  obtain ⟨pc, L, st, w, K, ce, sl⟩ := S
  have h1 : some ((.i2c : Instr), (1 : Nat), ([] : List Cond)) = some (i, n, cs) := h1
  cases h1
  obtain ⟨x0, rest, S', rfl, rfl, e1, e2, g', l1, hR'⟩ := ev_una_ok (fun x => (x.toUInt32 % 65536).toInt32) ev_full (fun _ => ev_full_ok _) (show ev_una (fun x => (x.toUInt32 % 65536).toInt32) 1 ev_full (pc, L, st, w, K, ce, sl) = some Ss from h2) hR
  exact lv_i2c hx hb hd rfl (ev_Go_eq (hk S' (List.mem_singleton.mpr rfl)) e1 e2 (ev_le_tr hle l1) hR')

/-! longs -/
def ev_binL (f : Int64 → Int64 → Int64) (nz : Bool) (S : ev_S) : Option (List ev_S) := match S.2.2.1 with
  | y :: x :: st =>
    if ev_isL x = true ∧ ev_isL y = true then
      (if x.1 = 4 ∧ y.1 = 4 then (if nz = false ∨ ¬ Int64.ofInt y.2 = 0 then some [ev_adv S 1 ((4, (f (Int64.ofInt x.2) (Int64.ofInt y.2)).toInt) :: st)] else none)
       else if nz = false then some [ev_advK S 1 ((6, (S.2.2.2.2.1.length : Int)) :: st) ev_full] else none)
    else none
  | _ => none
theorem ev_binL_ok (f : Int64 → Int64 → Int64) (nz : Bool) {pc : Nat} {L : List (Nat × ev_A)} {st : List ev_A} {w : List ev_C} {K : ev_K} {ce sl : Nat} {Ss : List ev_S} (h : ev_binL f nz (pc, L, st, w, K, ce, sl) = some Ss)
    {s : State} {A : Nat → Prop} {D : va_G} {nL : Nat} {g : ev_G} {ws : va_W} {H : Heap} {locs : List Loc} {ls : Array Slot} {sc : List Value} (hR : ev_R s A D nL g (pc, L, st, w, K, ce, sl) ws H locs ls sc) :
    ∃ (x y : Int64) (rest : List Value) (S' : ev_S), sc = .long y :: .long x :: rest ∧ (nz = false ∨ ¬ y = 0) ∧ Ss = [S'] ∧ S'.1 = pc + 1 ∧ S'.2.2.2.2.2 = (ce, sl) ∧ ∃ g', ev_le g g' ∧ ev_R s A D nL g' S' ws H locs ls (.long (f x y) :: rest) := by
  unfold ev_binL at h
  split at h
  · rename_i y x st' e
    dsimp only at e
    subst e
    split at h
    · rename_i hi
      have hR0 := hR
      obtain ⟨hP, hD, hS, hW, hB, hL, hs⟩ := hR0
      obtain ⟨vy, sc1, rfl, hvy, hs1⟩ := ev_s_cons hs
      obtain ⟨vx, sc2, rfl, hvx, hs2⟩ := ev_s_cons hs1
      obtain ⟨y0, rfl⟩ := ev_vL hi.2 hvy
      obtain ⟨x0, rfl⟩ := ev_vL hi.1 hvx
      split at h
      · rename_i hz
        split at h
        · rename_i hy
          cases h
          obtain ⟨xt, xn⟩ := x
          obtain ⟨yt, yn⟩ := y
          obtain ⟨rfl, rfl⟩ := hz
          have ex : Int64.ofInt xn = x0 := Value.long.inj (Option.some.inj hvx)
          have ey : Int64.ofInt yn = y0 := Value.long.inj (Option.some.inj hvy)
          dsimp only at hy ⊢
          rw [ex, ey]
          exact ⟨x0, y0, sc2, _, rfl, by rw [← ey]; exact hy, rfl, rfl, rfl, g, ev_le_rf g, hP, hD, hS, hW, hB, hL, ev_v4 g _, hs2⟩
        · cases h
      · split at h
        · rename_i hz
          cases h
          obtain ⟨g', l1, ⟨hP, hD, hS, hW, hB, hL, hs⟩, e1⟩ := ev_fresh hR (.long (f x0 y0)) ev_full (fun z hz => by cases hz)
          exact ⟨x0, y0, sc2, _, rfl, Or.inl hz, rfl, rfl, rfl, g', l1, hP, hD, hS, hW, hB, hL, ev_v6 e1, hs.2.2⟩
        · cases h
    · cases h
  · cases h

def ev_ladd : ev_O := (fun _ _ => some (.ladd, 1, []), fun _ _ S => ev_binL (fun x y => x + y) false S)
theorem ev_ladd_ok : ev_Snd ev_ladd := by
  intro p l e R s m args below meth c cc Q D A g0 P t S i n cs Ss X h1 hd hw h2 hk g ws H locs ls sc hle hR
  obtain ⟨hx, hb, hml, hown, hts, hK, hA, hN, hini, hcC, hcS, hf, hlc, hscr⟩ := X
  obtain ⟨pc, L, st, w, K, ce, sl⟩ := S
  have h1 : some ((.ladd : Instr), (1 : Nat), ([] : List Cond)) = some (i, n, cs) := h1
  cases h1
  obtain ⟨x0, y0, rest, S', rfl, hy, rfl, e1, e2, g', l1, hR'⟩ := ev_binL_ok (fun x y => x + y) false (show ev_binL (fun x y => x + y) false (pc, L, st, w, K, ce, sl) = some Ss from h2) hR
  exact lv_ladd hx hb hd (ev_Go_eq (hk S' (List.mem_singleton.mpr rfl)) e1 e2 (ev_le_tr hle l1) hR')

def ev_lsub : ev_O := (fun _ _ => some (.lsub, 1, []), fun _ _ S => ev_binL (fun x y => x - y) false S)
theorem ev_lsub_ok : ev_Snd ev_lsub := by
  intro p l e R s m args below meth c cc Q D A g0 P t S i n cs Ss X h1 hd hw h2 hk g ws H locs ls sc hle hR
  obtain ⟨hx, hb, hml, hown, hts, hK, hA, hN, hini, hcC, hcS, hf, hlc, hscr⟩ := X
  obtain ⟨pc, L, st, w, K, ce, sl⟩ := S
  have h1 : some ((.lsub : Instr), (1 : Nat), ([] : List Cond)) = some (i, n, cs) := h1
  cases h1
  obtain ⟨x0, y0, rest, S', rfl, hy, rfl, e1, e2, g', l1, hR'⟩ := ev_binL_ok (fun x y => x - y) false (show ev_binL (fun x y => x - y) false (pc, L, st, w, K, ce, sl) = some Ss from h2) hR
  exact lv_lsub hx hb hd (ev_Go_eq (hk S' (List.mem_singleton.mpr rfl)) e1 e2 (ev_le_tr hle l1) hR')

def ev_lmul : ev_O := (fun _ _ => some (.lmul, 1, []), fun _ _ S => ev_binL (fun x y => x * y) false S)
theorem ev_lmul_ok : ev_Snd ev_lmul := by
  intro p l e R s m args below meth c cc Q D A g0 P t S i n cs Ss X h1 hd hw h2 hk g ws H locs ls sc hle hR
  obtain ⟨hx, hb, hml, hown, hts, hK, hA, hN, hini, hcC, hcS, hf, hlc, hscr⟩ := X
  obtain ⟨pc, L, st, w, K, ce, sl⟩ := S
  have h1 : some ((.lmul : Instr), (1 : Nat), ([] : List Cond)) = some (i, n, cs) := h1
  cases h1
  obtain ⟨x0, y0, rest, S', rfl, hy, rfl, e1, e2, g', l1, hR'⟩ := ev_binL_ok (fun x y => x * y) false (show ev_binL (fun x y => x * y) false (pc, L, st, w, K, ce, sl) = some Ss from h2) hR
  exact lv_lmul hx hb hd (ev_Go_eq (hk S' (List.mem_singleton.mpr rfl)) e1 e2 (ev_le_tr hle l1) hR')

def ev_ldiv : ev_O := (fun _ _ => some (.ldiv, 1, []), fun _ _ S => ev_binL (fun x y => x / y) true S)
theorem ev_ldiv_ok : ev_Snd ev_ldiv := by
  intro p l e R s m args below meth c cc Q D A g0 P t S i n cs Ss X h1 hd hw h2 hk g ws H locs ls sc hle hR
  obtain ⟨hx, hb, hml, hown, hts, hK, hA, hN, hini, hcC, hcS, hf, hlc, hscr⟩ := X
  obtain ⟨pc, L, st, w, K, ce, sl⟩ := S
  have h1 : some ((.ldiv : Instr), (1 : Nat), ([] : List Cond)) = some (i, n, cs) := h1
  cases h1
  obtain ⟨x0, y0, rest, S', rfl, hy, rfl, e1, e2, g', l1, hR'⟩ := ev_binL_ok (fun x y => x / y) true (show ev_binL (fun x y => x / y) true (pc, L, st, w, K, ce, sl) = some Ss from h2) hR
  exact lv_ldiv hx hb hd (by rcases hy with hy | hy; cases hy; exact hy) (ev_Go_eq (hk S' (List.mem_singleton.mpr rfl)) e1 e2 (ev_le_tr hle l1) hR')

def ev_lrem : ev_O := (fun _ _ => some (.lrem, 1, []), fun _ _ S => ev_binL (fun x y => x - x / y * y) true S)
theorem ev_lrem_ok : ev_Snd ev_lrem := by
  intro p l e R s m args below meth c cc Q D A g0 P t S i n cs Ss X h1 hd hw h2 hk g ws H locs ls sc hle hR
  obtain ⟨hx, hb, hml, hown, hts, hK, hA, hN, hini, hcC, hcS, hf, hlc, hscr⟩ := X
  obtain ⟨pc, L, st, w, K, ce, sl⟩ := S
  have h1 : some ((.lrem : Instr), (1 : Nat), ([] : List Cond)) = some (i, n, cs) := h1
  cases h1
  obtain ⟨x0, y0, rest, S', rfl, hy, rfl, e1, e2, g', l1, hR'⟩ := ev_binL_ok (fun x y => x - x / y * y) true (show ev_binL (fun x y => x - x / y * y) true (pc, L, st, w, K, ce, sl) = some Ss from h2) hR
  exact lv_lrem hx hb hd (by rcases hy with hy | hy; cases hy; exact hy) (ev_Go_eq (hk S' (List.mem_singleton.mpr rfl)) e1 e2 (ev_le_tr hle l1) hR')

def ev_ldc2 : ev_O := (fun P t => some (.ldc2_w t.2.1.toNat, 3, [.constantLong P.2.2.2.1 t.2.1.toNat (Int64.ofInt t.1)]), fun _ t S => some [ev_adv S 3 ((4, (Int64.ofInt t.1).toInt) :: S.2.2.1)])
theorem ev_ldc2_ok : ev_Snd ev_ldc2 := by
  intro p l e R s m args below meth c cc Q D A g0 P t S i n cs Ss X h1 hd hw h2 hk g ws H locs ls sc hle hR
  obtain ⟨hx, hb, hml, hown, hts, hK, hA, hN, hini, hcC, hcS, hf, hlc, hscr⟩ := X
  obtain ⟨pc, L, st, w, K, ce, sl⟩ := S
  have h1 : some ((.ldc2_w t.2.1.toNat : Instr), (3 : Nat), ([.constantLong P.2.2.2.1 t.2.1.toNat (Int64.ofInt t.1)] : List Cond)) = some (i, n, cs) := h1
  cases h1
  have h2 : some [ev_adv (pc, L, st, w, K, ce, sl) 3 ((4, (Int64.ofInt t.1).toInt) :: st)] = some Ss := h2
  cases h2
  obtain ⟨hP, hD, hS, hW, hB, hL, hs⟩ := hR
  exact W.ldc2 hx hb hown (hts _ (hw _ (List.mem_singleton.mpr rfl))) (g := F0 m pc ls sc) rfl hd (hk _ (List.mem_singleton.mpr rfl) g ws H locs ls _ hle ⟨hP, hD, hS, hW, hB, hL, ev_v4 g _, hs⟩)

/-- a static of which only this is known: null, or a cell -/
def ev_getsF : ev_O := (fun P t => some (.getstatic t.1.toNat, 3, [.fieldLink P.2.2.2.1 t.1.toNat "jdk/internal/util/Preconditions" "SIOOBE_FORMATTER" "Ljava/util/function/BiFunction;"]), fun _ _ S => some [ev_advK S 3 ((7, (S.2.2.2.2.1.length : Int)) :: S.2.2.1) ev_full])
theorem ev_getsF_ok : ev_Snd ev_getsF := by
  intro p l e R s m args below meth c cc Q D A g0 P t S i n cs Ss X h1 hd hw h2 hk g ws H locs ls sc hle hR
  obtain ⟨hx, hb, hml, hown, hts, hK, hA, hN, hini, hcC, hcS, hf, hlc, hscr⟩ := X
  obtain ⟨pc, L, st, w, K, ce, sl⟩ := S
  have h1 : some ((.getstatic t.1.toNat : Instr), (3 : Nat), ([.fieldLink P.2.2.2.1 t.1.toNat "jdk/internal/util/Preconditions" "SIOOBE_FORMATTER" "Ljava/util/function/BiFunction;"] : List Cond)) = some (i, n, cs) := h1
  cases h1
  have h2 : some [ev_advK (pc, L, st, w, K, ce, sl) 3 ((7, (K.length : Int)) :: st) ev_full] = some Ss := h2
  cases h2
  rcases hN.2.2.2.2 with hz | ⟨q, hz⟩
  · obtain ⟨g', l1, ⟨hP, hD, hS, hW, hB, hL, hs⟩, e1⟩ := ev_fresh hR .null ev_full (fun z hz => by cases hz)
    exact va_gets hx hb hz hS hown (hts _ (hw _ (List.mem_singleton.mpr rfl))) (fun _ h => h) hd (hk _ (List.mem_singleton.mpr rfl) g' ws H locs ls _ (ev_le_tr hle l1) ⟨hP, hD, hS, hW, hB, hL, by simp [ev_v, e1], hs⟩)
  · obtain ⟨g', l1, ⟨hP, hD, hS, hW, hB, hL, hs⟩, e1⟩ := ev_fresh hR (.ref q) ev_full (fun z hz => by cases hz)
    exact va_gets hx hb hz hS hown (hts _ (hw _ (List.mem_singleton.mpr rfl))) (fun _ h => h) hd (hk _ (List.mem_singleton.mpr rfl) g' ws H locs ls _ (ev_le_tr hle l1) ⟨hP, hD, hS, hW, hB, hL, by simp [ev_v, e1], hs⟩)

def ev_ldcw : ev_O := (fun P t => some (.ldc_w t.2.1.toNat, 3, [.constant P.2.2.2.1 t.2.1.toNat (Int32.ofInt t.1)]), fun _ t S => some [ev_adv S 3 ((0, (Int32.ofInt t.1).toInt) :: S.2.2.1)])
theorem ev_ldcw_ok : ev_Snd ev_ldcw := by
  intro p l e R s m args below meth c cc Q D A g0 P t S i n cs Ss X h1 hd hw h2 hk g ws H locs ls sc hle hR
  obtain ⟨hx, hb, hml, hown, hts, hK, hA, hN, hini, hcC, hcS, hf, hlc, hscr⟩ := X
  obtain ⟨pc, L, st, w, K, ce, sl⟩ := S
  have h1 : some ((.ldc_w t.2.1.toNat : Instr), (3 : Nat), ([.constant P.2.2.2.1 t.2.1.toNat (Int32.ofInt t.1)] : List Cond)) = some (i, n, cs) := h1
  cases h1
  have h2 : some [ev_adv (pc, L, st, w, K, ce, sl) 3 ((0, (Int32.ofInt t.1).toInt) :: st)] = some Ss := h2
  cases h2
  obtain ⟨hP, hD, hS, hW, hB, hL, hs⟩ := hR
  exact lv_ldcw hx hb hown (hts _ (hw _ (List.mem_singleton.mpr rfl))) hd (hk _ (List.mem_singleton.mpr rfl) g ws H locs ls _ hle ⟨hP, hD, hS, hW, hB, hL, ev_v0 g _, hs⟩)
end
section
/-! THE RUN: rows of a method by their places, calls, ends -/
abbrev ev_Row : Type := Nat × ev_T
abbrev ev_MI : Type := MethodName × ByteArray × Nat × Option FieldType × Nat × Nat × List (Nat × ev_Row)
abbrev ev_Out : Type := Option ev_A × List ev_C × ev_K
def ev_ops : List ev_O := [ev_iconst, ev_bipush, ev_sipush, ev_lconst, ev_iload, ev_iloadn, ev_lload, ev_lloadn, ev_aload, ev_aloadn, ev_istore, ev_istoren, ev_lstore, ev_lstoren, ev_astore, ev_astoren,
  ev_iadd, ev_isub, ev_imul, ev_iand, ev_ior, ev_ixor, ev_ishl, ev_ishr, ev_iushr, ev_idiv, ev_irem, ev_ineg, ev_i2b, ev_i2l, ev_lcmp, ev_dup, ev_pop, ev_dup2, ev_iinc,
  ev_icmp_eq, ev_icmp_ne, ev_icmp_lt, ev_icmp_ge, ev_icmp_gt, ev_icmp_le, ev_if_eq, ev_if_ne, ev_if_lt, ev_if_ge, ev_if_gt, ev_if_le, ev_goto, ev_sw,
  ev_get, ev_put, ev_putF, ev_iaload, ev_baload, ev_laload, ev_aaload, ev_iastore, ev_bastore, ev_newI, ev_newB, ev_newJ, ev_newQ, ev_new, ev_aastore, ev_alen, ev_sald, ev_oinit, ev_mmin, ev_ldc, ev_ldcS, ev_getV, ev_getC, ev_gets, ev_alenS, ev_baloadS, ev_i2c, ev_ladd, ev_lsub, ev_lmul, ev_ldiv, ev_lrem, ev_ldc2, ev_getsF, ev_ldcw]
theorem ev_c1 {o : ev_O} {l : List ev_O} (h : ev_Snd o) (h2 : ∀ o ∈ l, ev_Snd o) : ∀ o' ∈ o :: l, ev_Snd o' := List.forall_mem_cons.mpr ⟨h, h2⟩
theorem ev_ops_ok : ∀ o ∈ ev_ops, ev_Snd o :=
  ev_c1 ev_iconst_ok (ev_c1 ev_bipush_ok (ev_c1 ev_sipush_ok (ev_c1 ev_lconst_ok (ev_c1 ev_iload_ok (ev_c1 ev_iloadn_ok (ev_c1 ev_lload_ok (ev_c1 ev_lloadn_ok (ev_c1 ev_aload_ok (ev_c1 ev_aloadn_ok (ev_c1 ev_istore_ok (ev_c1 ev_istoren_ok (ev_c1 ev_lstore_ok (ev_c1 ev_lstoren_ok (ev_c1 ev_astore_ok (ev_c1 ev_astoren_ok
  (ev_c1 ev_iadd_ok (ev_c1 ev_isub_ok (ev_c1 ev_imul_ok (ev_c1 ev_iand_ok (ev_c1 ev_ior_ok (ev_c1 ev_ixor_ok (ev_c1 ev_ishl_ok (ev_c1 ev_ishr_ok (ev_c1 ev_iushr_ok (ev_c1 ev_idiv_ok (ev_c1 ev_irem_ok (ev_c1 ev_ineg_ok (ev_c1 ev_i2b_ok (ev_c1 ev_i2l_ok (ev_c1 ev_lcmp_ok (ev_c1 ev_dup_ok (ev_c1 ev_pop_ok (ev_c1 ev_dup2_ok (ev_c1 ev_iinc_ok
  (ev_c1 ev_icmp_eq_ok (ev_c1 ev_icmp_ne_ok (ev_c1 ev_icmp_lt_ok (ev_c1 ev_icmp_ge_ok (ev_c1 ev_icmp_gt_ok (ev_c1 ev_icmp_le_ok (ev_c1 ev_if_eq_ok (ev_c1 ev_if_ne_ok (ev_c1 ev_if_lt_ok (ev_c1 ev_if_ge_ok (ev_c1 ev_if_gt_ok (ev_c1 ev_if_le_ok (ev_c1 ev_goto_ok (ev_c1 ev_sw_ok
  (ev_c1 ev_get_ok (ev_c1 ev_put_ok (ev_c1 ev_putF_ok (ev_c1 ev_iaload_ok (ev_c1 ev_baload_ok (ev_c1 ev_laload_ok (ev_c1 ev_aaload_ok (ev_c1 ev_iastore_ok (ev_c1 ev_bastore_ok (ev_c1 ev_newI_ok (ev_c1 ev_newB_ok (ev_c1 ev_newJ_ok (ev_c1 ev_newQ_ok (ev_c1 ev_new_ok (ev_c1 ev_aastore_ok (ev_c1 ev_alen_ok (ev_c1 ev_sald_ok (ev_c1 ev_oinit_ok (ev_c1 ev_mmin_ok (ev_c1 ev_ldc_ok (ev_c1 ev_ldcS_ok (ev_c1 ev_getV_ok (ev_c1 ev_getC_ok (ev_c1 ev_gets_ok (ev_c1 ev_alenS_ok (ev_c1 ev_baloadS_ok (ev_c1 ev_i2c_ok (ev_c1 ev_ladd_ok (ev_c1 ev_lsub_ok (ev_c1 ev_lmul_ok (ev_c1 ev_ldiv_ok (ev_c1 ev_lrem_ok (ev_c1 ev_ldc2_ok (ev_c1 ev_getsF_ok (ev_c1 ev_ldcw_ok (fun _ h => nomatch h))))))))))))))))))))))))))))))))))))))))))))))))))))))))))))))))))))))))))))))))))))
def ev_at {α : Type} : List (Nat × α) → Nat → Option α
  | [], _ => none
  | q :: l, i => if q.1 == i then some q.2 else ev_at l i
theorem ev_at_mem {α : Type} : ∀ {l : List (Nat × α)} {i : Nat} {a : α}, ev_at l i = some a → (i, a) ∈ l
  | [], i, a, h => by cases h
  | q :: l, i, a, h => by
    unfold ev_at at h
    split at h
    · rename_i hq
      cases h
      rw [← beq_iff_eq.mp hq]
      exact List.mem_cons_self
    · exact List.mem_cons_of_mem _ (ev_at_mem h)
/-- what an instruction's row says: the instruction, its length, the words that it needs -/
def ev_rowI (ms : List ev_MI) (P : ev_P) (r : ev_Row) : Option (Instr × Nat × List Cond) :=
  match r.1 with
  | 200 => (match ms[r.2.1.toNat]? with
    | some mi => some (.invokevirtual r.2.2.1.toNat, 3, [.methodLink P.2.2.2.1 r.2.2.1.toNat mi.1, .instanceMethod mi.1, .selects mi.1.cls mi.1 mi.1, .initialized mi.1.cls])
    | none => none)
  | 201 => (match ms[r.2.1.toNat]? with
    | some mi => some (.invokestatic r.2.2.1.toNat, 3, [.methodLink P.2.2.2.1 r.2.2.1.toNat mi.1, .static mi.1, .initialized mi.1.cls])
    | none => none)
  | 202 => (match ms[r.2.1.toNat]? with
    | some mi => some (.invokespecial r.2.2.1.toNat, 3, [.methodLink P.2.2.2.1 r.2.2.1.toNat mi.1, .instanceMethod mi.1, .initialized mi.1.cls])
    | none => none)
  | 203 => (match ms[r.2.1.toNat]? with
    | some mi => some (.invokespecial r.2.2.1.toNat, 3, [.instanceMethod mi.1, .initialized mi.1.cls])
    | none => none)
  | 210 => some (.ireturn, 1, [])
  | 211 => some (.lreturn, 1, [])
  | 212 => some (.areturn, 1, [])
  | 213 => some (.return_, 1, [])
  | k => (match ev_ops[k]? with
    | some o => o.1 P r.2
    | none => none)
/-- a row is right: the instruction stands there, the tables have its words; a nest mate's private constructor by its link -/
def ev_RowOK (ms : List ev_MI) (P : ev_P) (cc : ByteArray) (q : Nat × ev_Row) : Prop :=
  (∃ i n cs, ev_rowI ms P q.2 = some (i, n, cs) ∧ decode cc q.1 = .ok (i, n) ∧ ∀ w ∈ cs, w ∈ lw_good) ∧ (q.2.1 = 203 → ∀ mi, ms[q.2.2.1.toNat]? = some mi → Cond.methodLinkNest P.2.2.2.1 q.2.2.2.1.toNat mi.1 "BarberMinutes" ∈ lw_nest)
/-- a method is right -/
def ev_MOK (ms : List ev_MI) (mi : ev_MI) : Prop :=
  plainName mi.1.cls = true ∧ Cond.code mi.1 mi.2.1 mi.2.2.1 mi.2.2.2.1 ∈ lw_good ∧ mi.2.2.1 ≤ 21 ∧ (mi.1.cls ≠ "java/lang/invoke/MethodHandle" ∧ mi.1.cls ≠ "java/lang/invoke/VarHandle") ∧
  ∀ q ∈ mi.2.2.2.2.2.2, ev_RowOK ms (mi.2.2.2.2.1, mi.2.2.2.2.2.1, decide (mi.1.name = "<init>"), mi.1.cls, mi.2.2.1, 0) mi.2.1 q
def ev_args : Nat → List ev_A → List (Nat × ev_A)
  | _, [] => []
  | i, a :: as => (i, a) :: ev_args (i + if ev_isL a = true then 2 else 1) as
def ev_all (f : ev_S → Option (List ev_S)) : List ev_S → Option (List ev_S)
  | [] => some []
  | S :: r => match f S with
    | some a => (match ev_all f r with
      | some b => some (a ++ b)
      | none => none)
    | none => none
theorem ev_all_ok {f : ev_S → Option (List ev_S)} : ∀ {Ss o : List ev_S}, ev_all f Ss = some o → ∀ S ∈ Ss, ∃ o', f S = some o' ∧ ∀ x ∈ o', x ∈ o
  | [], o, h => fun S hS => nomatch hS
  | S :: r, o, h => by
    unfold ev_all at h
    split at h
    · rename_i a ha
      split at h
      · rename_i b hb
        cases h
        intro S' hS'
        rcases List.mem_cons.mp hS' with rfl | hS'
        · exact ⟨a, ha, fun x hx => List.mem_append_left _ hx⟩
        · obtain ⟨o', h1, h2⟩ := ev_all_ok hb S' hS'
          exact ⟨o', h1, fun x hx => List.mem_append_right _ (h2 x hx)⟩
      · cases h
    · cases h
/-- how many words a call's descriptor takes: told by its row, held against the descriptor -/
def ev_nar1 (y : MethodName) (n : Nat) : Bool := decide ((parseMethodDescriptor y.desc).map (fun d => d.parameters.length) = some n)
/-- a call: what it takes off the stack -/
def ev_take (recv : Bool) (n : Nat) (st : List ev_A) : Option (List ev_A × List ev_A) :=
  if recv = true then (match st.drop n with
    | x :: rest => if (st.take n).length = n then some (x :: (st.take n).reverse, rest) else none
    | [] => none)
  else (if (st.take n).length = n then some ((st.take n).reverse, st.drop n) else none)
def ev_c5 (op : Nat) (as : List ev_A) (w : List ev_C) (cls : String) : Bool := if op = 200 then (match as with
    | x :: _ => if x.1 = 5 then (decide (x.2.toNat % 2 = 1) && (decide (x.2.toNat / 2 < 40) && decide (cls = "java/lang/String"))) else (match w[x.2.toNat]? with
      | some cl => decide (x.1 = 1) && decide ((vwCl[cl.1]?).map (fun q => q.1) = some cls)
      | none => false)
    | [] => false) else true
def ev_c6 (op : Nat) (as : List ev_A) (mi : ev_MI) : Bool := if op = 202 ∨ op = 203 then decide (mi.1.name = "<init>") && mi.2.2.2.1.isNone && (match as with
    | x :: _ => ev_isR x
    | [] => false) else true
def ev_inv (ms : List ev_MI) (call : Nat → List ev_A → List ev_C → ev_K → Option (List ev_Out)) (P : ev_P) (r : ev_Row) (S : ev_S) : Option (List ev_S) :=
  match ms[r.2.1.toNat]? with
  | some mi => (match ev_take (!(r.1 == 201)) r.2.2.2.1.toNat S.2.2.1 with
    | some (as, rest) =>
      if ev_cs rest ≤ 8 ∧ S.2.2.2.2.2.1 + mi.2.2.2.2.1 ≤ P.1 ∧ S.2.2.2.2.2.2 + mi.2.2.2.2.2.1 ≤ P.2.1 ∧ ev_nar1 mi.1 r.2.2.2.1.toNat = true
        ∧ ev_c5 r.1 as S.2.2.2.1 mi.1.cls = true ∧ ev_c6 r.1 as mi = true
      then (match call r.2.1.toNat as S.2.2.2.1 S.2.2.2.2.1 with
        | some outs => some (outs.map (fun o => (S.1 + 3, S.2.1, o.1.toList ++ rest, o.2.1, o.2.2, S.2.2.2.2.2.1 + mi.2.2.2.2.1, S.2.2.2.2.2.2 + mi.2.2.2.2.2.1)))
        | none => none)
      else none
    | none => none)
  | none => none
def ev_run (ms : List ev_MI) (call : Nat → List ev_A → List ev_C → ev_K → Option (List ev_Out)) (P : ev_P) (rows : List (Nat × ev_Row)) (stops : List Nat) : Nat → ev_S → Option (List ev_S)
  | 0, _ => none
  | n + 1, S =>
    if stops.contains S.1 = true then some [S] else
    match ev_at rows S.1 with
    | none => none
    | some r =>
      if 210 ≤ r.1 then some [S]
      else if 200 ≤ r.1 then (match ev_inv ms call P r S with
        | some Ss => ev_all (ev_run ms call P rows stops n) Ss
        | none => none)
      else (match ev_ops[r.1]? with
        | some o => (match o.2 P r.2 S with
          | some Ss => ev_all (ev_run ms call P rows stops n) Ss
          | none => none)
        | none => none)
/-- a method's end: what it answers -/
def ev_end (ret : Option FieldType) (mc ms : Nat) (rows : List (Nat × ev_Row)) (S : ev_S) : Option ev_Out :=
  if S.2.2.2.2.2.1 ≤ mc ∧ S.2.2.2.2.2.2 ≤ ms then
    match ev_at rows S.1 with
    | none => none
    | some r => match r.1, ret, S.2.2.1 with
      | 210, some ty, [a] => if ev_isI a = true ∧ ev_fit ty a = true then some (some a, S.2.2.2.1, S.2.2.2.2.1) else none
      | 211, some .long, [a] => if ev_isL a = true then some (some a, S.2.2.2.1, S.2.2.2.2.1) else none
      | 212, some (.object _), [a] => if (a.1 == 1 || a.1 == 2 || a.1 == 5) = true then some (some a, S.2.2.2.1, S.2.2.2.2.1) else none
      | 213, none, [] => some (none, S.2.2.2.1, S.2.2.2.2.1)
      | _, _, _ => none
  else none
def ev_ends (ret : Option FieldType) (mc ms : Nat) (rows : List (Nat × ev_Row)) : List ev_S → Option (List ev_Out)
  | [] => some []
  | S :: r => match ev_end ret mc ms rows S with
    | some a => (match ev_ends ret mc ms rows r with
      | some b => some (a :: b)
      | none => none)
    | none => none
theorem ev_ends_ok {ret : Option FieldType} {mc ms : Nat} {rows : List (Nat × ev_Row)} : ∀ {Ss : List ev_S} {o : List ev_Out}, ev_ends ret mc ms rows Ss = some o → ∀ S ∈ Ss, ∃ x, ev_end ret mc ms rows S = some x ∧ x ∈ o
  | [], o, h => fun S hS => nomatch hS
  | S :: r, o, h => by
    unfold ev_ends at h
    split at h
    · rename_i a ha
      split at h
      · rename_i b hb
        cases h
        intro S' hS'
        rcases List.mem_cons.mp hS' with rfl | hS'
        · exact ⟨a, ha, List.mem_cons_self⟩
        · obtain ⟨x, h1, h2⟩ := ev_ends_ok hb S' hS'
          exact ⟨x, h1, List.mem_cons_of_mem _ h2⟩
      · cases h
    · cases h
def ev_exec (ms : List ev_MI) : Nat → Nat → List ev_A → List ev_C → ev_K → Option (List ev_Out)
  | 0, _, _, _, _ => none
  | d + 1, k, as, w, K => match ms[k]? with
    | none => none
    | some mi => if ev_cs as ≤ mi.2.2.1 then (match ev_run ms (ev_exec ms d) (mi.2.2.2.2.1, mi.2.2.2.2.2.1, decide (mi.1.name = "<init>"), mi.1.cls, mi.2.2.1, 0) mi.2.2.2.2.2.2 [] 20000 (0, ev_args 0 as, [], w, K, 0, 0) with
      | some fs => ev_ends mi.2.2.2.1 mi.2.2.2.2.1 mi.2.2.2.2.2.1 mi.2.2.2.2.2.2 fs
      | none => none) else none
end
section
/-! THE RUN IS RIGHT -/
def ev_rm (d mc ms : Nat) : Room := { frames := d + 1, cells := mc, slots := ms, locals := 40 * (d + 1) }
def ev_rv (g : ev_G) : Option ev_A → Option Value → Prop
  | none, none => True
  | some a, some v => ev_v g a = some v
  | _, _ => False
def ev_Q (D : va_G) (g : ev_G) (A : Nat → Prop) (outs : List ev_Out) : Array Value → State → Outcome → State → Prop := fun _ st oc t =>
  (∃ (o : ev_Out) (g' : ev_G) (ws' : va_W) (v : Option Value), o ∈ outs ∧ oc = .returned v ∧ ev_rv g' o.1 v ∧ ev_le g g' ∧ va_P D vwCl ws' t.heap ∧ va_D A ws' ∧ ev_w t g' o.2.1 ws' ∧ ev_b o.2.2 g'.2.2) ∧ va_F A st t
def ev_Pb (D : va_G) (g : ev_G) (ws : va_W) (sz : Nat) (w : List ev_C) (U : State) : Prop := U.heap.size = sz ∧ va_P D vwCl ws U.heap ∧ va_K D vwCl [] U ∧ va_D (fun _ => True) ws ∧ ev_w U g w ws ∧ ev_N g.2.1 (va_A ws sz) U U.heap
def ev_Met (l : Launch) (mi : ev_MI) (d : Nat) (D : va_G) (g : ev_G) (ws : va_W) (sz : Nat) (w : List ev_C) (asc : List Value) (outs : List ev_Out) : Prop :=
  Met l mi.1 (Cond.code mi.1 mi.2.1 mi.2.2.1 mi.2.2.2.1 :: lw_good) (ev_rm d mi.2.2.2.2.1 mi.2.2.2.2.2.1) (va_Pc asc (ev_Pb D g ws sz w)) (ev_Q D g (va_A ws sz) outs) mi.2.2.2.2.1 mi.2.2.2.2.2.1 (va_A ws sz)
/-- calls are right, at a depth -/
def ev_Cs (ms : List ev_MI) (call : Nat → List ev_A → List ev_C → ev_K → Option (List ev_Out)) (d : Nat) : Prop :=
  ∀ (k : Nat) (mi : ev_MI) (as : List ev_A) (w : List ev_C) (K : ev_K) (outs : List ev_Out), ms[k]? = some mi → call k as w K = some outs → ∃ d', d = d' + 1 ∧ ∀ (l : Launch) (D : va_G) (g : ev_G) (ws : va_W) (sz : Nat) (asc : List Value), ev_s g as asc → ev_b K g.2.2 → ev_Met l mi d' D g ws sz w asc outs
theorem ev_s_app {g : ev_G} : ∀ {a b : List ev_A} {x y : List Value}, ev_s g a x → ev_s g b y → ev_s g (a ++ b) (x ++ y)
  | [], _, [], _, _, h => h
  | [], _, _ :: _, _, h, _ => h.elim
  | _ :: _, _, [], _, h, _ => h.elim
  | _ :: _, _, _ :: _, _, h1, h2 => ⟨h1.1, ev_s_app h1.2 h2⟩
theorem ev_s_rev {g : ev_G} : ∀ {a : List ev_A} {x : List Value}, ev_s g a x → ev_s g a.reverse x.reverse
  | [], [], _ => trivial
  | [], _ :: _, h => h.elim
  | _ :: _, [], h => h.elim
  | a :: as, x :: xs, h => by
    rw [List.reverse_cons, List.reverse_cons]
    exact ev_s_app (ev_s_rev h.2) ⟨h.1, trivial⟩
theorem ev_s_split {g : ev_G} : ∀ (n : Nat) {a : List ev_A} {x : List Value}, ev_s g a x → ev_s g (a.take n) (x.take n) ∧ ev_s g (a.drop n) (x.drop n)
  | 0, _, _, h => ⟨trivial, h⟩
  | _ + 1, [], [], _ => ⟨trivial, trivial⟩
  | _ + 1, [], _ :: _, h => h.elim
  | _ + 1, _ :: _, [], h => h.elim
  | n + 1, _ :: _, _ :: _, h => ⟨⟨h.1, (ev_s_split n h.2).1⟩, (ev_s_split n h.2).2⟩
theorem ev_s_len {g : ev_G} : ∀ {a : List ev_A} {x : List Value}, ev_s g a x → a.length = x.length
  | [], [], _ => rfl
  | [], _ :: _, h => h.elim
  | _ :: _, [], h => h.elim
  | _ :: _, _ :: _, h => congrArg Nat.succ (ev_s_len h.2)
/-- what a call takes: the arguments as a list, in their order; the stack below them -/
theorem ev_take_ok {recv : Bool} {n : Nat} {st as rest : List ev_A} (h : ev_take recv n st = some (as, rest)) {g : ev_G} {sc : List Value} (hs : ev_s g st sc) :
    ∃ (xs restc : List Value), xs.length = n ∧ ev_s g rest restc ∧ ((recv = true ∧ ∃ (a : ev_A) (as' : List ev_A) (v : Value), as = a :: as' ∧ ev_v g a = some v ∧ ev_s g as' xs ∧ sc = xs.reverse ++ v :: restc) ∨ (recv = false ∧ ev_s g as xs ∧ sc = xs.reverse ++ restc)) := by
  obtain ⟨t1, t2⟩ := ev_s_split n hs
  have hsp : sc = sc.take n ++ sc.drop n := (List.take_append_drop n sc).symm
  unfold ev_take at h
  split at h
  · rename_i hr
    split at h
    · rename_i x rest' hd
      split at h
      · rename_i hl
        cases h
        rw [hd] at t2
        obtain ⟨v, sc', e1, e2, e3⟩ := ev_s_cons t2
        refine ⟨(sc.take n).reverse, sc', by rw [List.length_reverse, ← ev_s_len t1]; exact hl, e3, Or.inl ⟨hr, x, _, v, rfl, e2, ev_s_rev t1, ?_⟩⟩
        rw [List.reverse_reverse, ← e1]
        exact hsp
      · cases h
    · cases h
  · rename_i hr
    split at h
    · rename_i hl
      cases h
      refine ⟨(sc.take n).reverse, sc.drop n, by rw [List.length_reverse, ← ev_s_len t1]; exact hl, t2, Or.inr ⟨by simpa using hr, ev_s_rev t1, ?_⟩⟩
      rw [List.reverse_reverse]
      exact hsp
    · cases h
/-- behind a call -/
theorem ev_callW {p : Program} {l : Launch} {e : Env} {R : Room} {s : State} {m : MethodId} {args : Array Value} {below : List Frame} {meth : Method} {c : Code} {H : Heap} {locs : List Loc} {ce sl mc ms pc : Nat} {ls : Array Slot} {rest st0 : List Value} {a : Array Value} {A A1 : Nat → Prop} {H0 : Heap} {free : Addr → Prop} {Q : State → Prop} {D : va_G} {g : ev_G} {outs : List ev_Out}
    (hr : va_Run p l e R s m args below meth c H locs ce sl mc ms (F0 m pc ls st0) rest (ev_Q D g A1 outs a) free) (hS : va_S A H0 H locs) (hA : ∀ q, A1 q → A q) (hf : ∀ q, free q → A q)
    (kk : ∀ (o : ev_Out) (g' : ev_G) (ws' : va_W) (v : Option Value) (t : State) (H1 : Heap) (locs1 : List Loc), o ∈ outs → t.heap = H1 → s.vm.Alike t.vm → ev_rv g' o.1 v → ev_le g g' → va_P D vwCl ws' H1 → va_D A1 ws' → ev_w t g' o.2.1 ws' → ev_b o.2.2 g'.2.2 → va_S A H0 H1 locs1 → W p l e R s m args below meth c H1 locs1 (ce + mc) (sl + ms) Q (F0 m (pc + 3) ls (v.toList ++ rest))) :
    W p l e R s m args below meth c H locs ce sl Q (F0 m pc ls st0) := by
  intro T hT X
  obtain ⟨v, st₀, t, T', L, h0, X', hL, e1, e2, ⟨⟨o, g', ws', v', ho, hv, hrv, hle, hP, hD, hw, hb⟩, hz, hk⟩, st⟩ := hr T hT X
  cases hv
  rw [h0] at hz hk
  obtain ⟨t2, a1, b1⟩ := kk o g' ws' v t T'.heap (locs ++ L) ho e1.symm (by rw [← e2]; exact X'.warmed.alike) hrv hle (by rw [e1]; exact hP) hD hw hb
    ⟨Nat.le_trans hS.1 (by rw [e1]; exact hz), fun q h1 h2 => by rw [e1, hk q (Nat.lt_of_lt_of_le h1 hS.1) (fun z => h2 (hA q z))]; exact hS.2.1 q h1 h2, fun q hq => by
      rcases List.mem_append.mp hq with h | h
      · exact hS.2.2 q h
      · exact hf _ (hL q h)⟩ T' rfl X'
  exact ⟨t2, st t2 a1, b1⟩
theorem ev_Pb_blind {D : va_G} {g : ev_G} {ws : va_W} {sz : Nat} {w : List ev_C} {asc : List Value} : FrameBlind (va_Pc asc (ev_Pb D g ws sz w)) := fun a U gf mk q => by
  obtain ⟨q0, q1, q2, q3, q4, q5, q6⟩ := q
  exact ⟨q0, q1, q2, va_K.moved (u := U) (U := U.calling gf mk a) (Vm.Alike.refl U.vm) q3, q4, ev_w_moved (u := U) (U := U.calling gf mk a) (Vm.Alike.refl U.vm) q5, ev_N_same (u := U) (U := U.calling gf mk a) rfl q6⟩
theorem ev_rowI_op {ms : List ev_MI} {P : ev_P} {r : ev_Row} (h : r.1 < 200) : ev_rowI ms P r = (match ev_ops[r.1]? with
    | some o => o.1 P r.2
    | none => none) := by
  unfold ev_rowI
  split
  · omega
  · omega
  · omega
  · omega
  · omega
  · omega
  · omega
  · omega
  · rfl
section EVS
variable {p : Program} {l : Launch} {e : Env} {R : Room} {s : State} {m : MethodId} {args : Array Value} {below : List Frame} {meth : Method} {c : Code} {cc : ByteArray} {Q : State → Prop} {D : va_G} {A : Nat → Prop} {g0 : ev_G} {P : ev_P} {ms : List ev_MI} {call : Nat → List ev_A → List ev_C → ev_K → Option (List ev_Out)} {d : Nat}
set_option maxHeartbeats 4000000 in
theorem ev_inv_ok (hMS : ∀ (k : Nat) (mi : ev_MI), ms[k]? = some mi → ev_MOK ms mi) (hC : ev_Cs ms call d) (hRm : d + 1 ≤ R.frames ∧ 40 * (d + 1) ≤ R.locals) (X : ev_X p R s m args meth c cc P.2.2.2.2.1 P.2.2.2.1 P.2.2.1 D A P.1 P.2.1 g0 P.2.2.2.2.2)
    {q : Nat × ev_Row} (hq : ev_RowOK ms P cc q) (h200 : 200 ≤ q.2.1) (h210 : q.2.1 < 210) {S : ev_S} (hpc : S.1 = q.1) {Ss : List ev_S} (h : ev_inv ms call P q.2 S = some Ss) (hk : ∀ S' ∈ Ss, ev_Go p l e R s m args below meth c Q P.2.2.2.2.1 D A g0 S') : ev_Go p l e R s m args below meth c Q P.2.2.2.2.1 D A g0 S := by
  intro g ws H locs ls sc hle hR
  obtain ⟨hx, hb, hml, hown, hts, hK, hA, hN, hini, hcC, hcS, hf, hlc, hscr⟩ := X
  obtain ⟨pc, L, st, w, K, ce, sl⟩ := S
  obtain ⟨qpc, op, t1, t2, t3, t4⟩ := q
  have hpc : pc = qpc := hpc
  subst hpc
  obtain ⟨⟨i, n, cs, hi, hd, hw⟩, hnest⟩ := hq
  dsimp only at hi hd hnest h200 h210
  unfold ev_inv at h
  dsimp only at h
  split at h
  · rename_i mi hmi
    obtain ⟨hpl, hcd, hnL, hmh, -⟩ := hMS _ mi hmi
    split at h
    · rename_i as rest htk
      split at h
      · rename_i hc
        obtain ⟨hc1, hc2, hc3, hc4, hc5, hc6⟩ := hc
        split at h
        · rename_i outs hcall
          cases h
          obtain ⟨hP, hD, hS, hW, hB, hL, hs⟩ := hR
          obtain ⟨d', rfl, hM⟩ := hC _ mi as w K outs hmi hcall
          have hnp : (parseMethodDescriptor mi.1.desc).map (fun d => d.parameters.length) = some t3.toNat := by simpa [ev_nar1] using hc4
          have hroom : (ev_rm d' mi.2.2.2.2.1 mi.2.2.2.2.2.1).frames + 1 ≤ R.frames ∧ 8 + (mi.2.2.1 + 11) + (ev_rm d' mi.2.2.2.2.1 mi.2.2.2.2.2.1).locals ≤ R.locals := by
            simp only [ev_rm]
            omega
          have hG : GoodIn lw_good (Cond.code mi.1 mi.2.1 mi.2.2.1 mi.2.2.2.1 :: lw_good) := lw_good_good (fun w h => by
            rcases List.mem_cons.mp h with rfl | h
            · exact hcd
            · exact h)
          have hcap : ce + mi.2.2.2.2.1 ≤ R.cells ∧ sl + mi.2.2.2.2.2.1 ≤ R.slots := by rw [hcC, hcS]; exact ⟨hc2, hc3⟩
          have hfree : ∀ q, va_A ws H.size q → A q := by
            intro q h
            rcases h with ⟨k, e, h⟩ | h
            · exact hD.2 k (q, e) h
            · exact hA q (Nat.le_trans hS.1 h)
          obtain ⟨xs, restc, hxl, hrest, hor⟩ := ev_take_ok htk hs
          have hsum : (restc.map fun v => v.category).sum ≤ 8 := by rw [ev_cs_ok hrest]; exact hc1
          have hkk : ∀ (o : ev_Out) (g' : ev_G) (ws' : va_W) (v : Option Value) (t : State) (H1 : Heap) (locs1 : List Loc), o ∈ outs → t.heap = H1 → s.vm.Alike t.vm → ev_rv g' o.1 v → ev_le g g' → va_P D vwCl ws' H1 → va_D (va_A ws H.size) ws' → ev_w t g' o.2.1 ws' → ev_b o.2.2 g'.2.2 → va_S A s.heap H1 locs1 → W p l e R s m args below meth c H1 locs1 (ce + mi.2.2.2.2.1) (sl + mi.2.2.2.2.2.1) Q (F0 m (pc + 3) ls (v.toList ++ restc)) := by
            intro o g' ws' v t H1 locs1 ho ht hvm hrv hle' hP1 hD1 hw1 hb1 hS1
            refine hk _ (List.mem_map.mpr ⟨o, ho, rfl⟩) g' ws' H1 locs1 ls _ (ev_le_tr hle hle') ⟨hP1, hD1.weaken (fun _ _ _ h => hfree _ h), hS1, ev_w_moved hvm.symm hw1, hb1, ev_l_le hle' hL, ?_⟩
            refine ev_s_app ?_ (ev_s_le hle' hrest)
            cases ho1 : o.1 with
            | none =>
              cases v with
              | none => exact trivial
              | some v => rw [ho1] at hrv; exact hrv.elim
            | some a =>
              cases v with
              | none => rw [ho1] at hrv; exact hrv.elim
              | some v => rw [ho1] at hrv; exact ⟨hrv, trivial⟩
          have hpre : ∀ (asc : List Value), ∀ U : State, U.heap = H → s.WarmedH U.vm → va_Pc asc (ev_Pb D g ws H.size w) asc.toArray U := fun asc U hU hWm =>
            ⟨rfl, by rw [hU], by rw [hU]; exact hP, va_K.moved hWm.alike hK, hD.weaken (fun _ _ _ _ => trivial), ev_w_moved hWm.alike hW, by rw [hle.2.1]; exact ev_N_call hWm hU hS hfree hN⟩
          have h4 : op = 200 ∨ op = 201 ∨ op = 202 ∨ op = 203 ∨ 203 < op := by omega
          rcases h4 with rfl | rfl | rfl | rfl | hbig
          · have hi : some ((.invokevirtual t2.toNat : Instr), (3 : Nat), ([.methodLink P.2.2.2.1 t2.toNat mi.1, .instanceMethod mi.1, .selects mi.1.cls mi.1 mi.1, .initialized mi.1.cls] : List Cond)) = some (i, n, cs) := by
              simpa [ev_rowI, hmi] using hi
            cases hi
            rcases hor with ⟨-, a, as', v, rfl, hva, hxs, rfl⟩ | ⟨hf0, -⟩
            · have hGV : GoodIn lw_good (wsV P.2.2.2.1 t2.toNat mi.1.cls mi.1 (Cond.code mi.1 mi.2.1 mi.2.2.1 mi.2.2.2.1 :: lw_good)) := lw_good_good (fun w h => by
                unfold wsV at h
                rcases List.mem_append.mp h with h | h
                · exact hw w h
                · exact (hG w h).1)
              have h5 : (if a.1 = 5 then (decide (a.2.toNat % 2 = 1) && (decide (a.2.toNat / 2 < 40) && decide (mi.1.cls = "java/lang/String"))) else (match w[a.2.toNat]? with
                | some cl => decide (a.1 = 1) && decide ((vwCl[cl.1]?).map (fun q => q.1) = some mi.1.cls)
                | none => false)) = true := hc5
              split at h5
              · rename_i ha5
                simp only [Bool.and_eq_true, decide_eq_true_eq] at h5
                obtain ⟨h51, h52, h53⟩ := h5
                obtain ⟨r, hr⟩ : ∃ r, ev_strs[a.2.toNat / 2]? = some r := ⟨_, List.getElem?_eq_getElem (show a.2.toNat / 2 < ev_strs.length from h52)⟩
                obtain ⟨at_, an⟩ := a
                have ha5 : at_ = 5 := ha5
                subst ha5
                have hva2 : v = .ref (g0.2.1 (1 + 2 * (an.toNat / 2))) := by
                  have : g.2.1 = g0.2.1 := hle.2.1
                  rw [← this, show 1 + 2 * (an.toNat / 2) = an.toNat by dsimp only at h51; omega]
                  exact (Option.some.inj hva).symm
                subst hva2
                obtain ⟨cell, k1, k2, k3, k4⟩ := va_O.kept (hN.2.2.1 _ r hr).1 hS.2.1
                exact ev_callW (va_runV (As := xs) (rest := restc) ⟨hx, hb, hml, hown, hts⟩ (hM l D g ws H.size (.ref _ :: xs) ⟨hva, hxs⟩ hB) (cwV t3.toNat hts hGV rfl rfl rfl ⟨rfl, hmh.1, hmh.2, hnp⟩ hroom) ⟨ev_Pb_blind, ⟨cell, k1, k2, by rw [h53]; exact k3⟩, fun U hU hWm => hpre _ U hU hWm⟩ rfl hxl hL.1 rfl (lv_room hsum) hd hcap) hS (fun q h => hfree q h) hfree hkk
              split at h5
              · rename_i cl hcl
                simp only [Bool.and_eq_true, decide_eq_true_eq] at h5
                obtain ⟨ad, x0, rfl, hws, hcc⟩ := ev_ref1 hW h5.1 hva hcl
                obtain ⟨r, hr1, hr2⟩ : ∃ r, vwCl[cl.1]? = some r ∧ r.1 = mi.1.cls := by
                  cases hz : vwCl[cl.1]? with
                  | none => rw [hz] at h5; exact absurd h5.2 (by simp)
                  | some r => rw [hz] at h5; exact ⟨r, rfl, Option.some.inj h5.2⟩
                cases x0 with
                | inl z =>
                  obtain ⟨tt, b1, b2, -⟩ := hcc
                  have : cl.1 < 10 := (List.getElem?_eq_some_iff.mp hr1).1
                  omega
                | inr o =>
                  obtain ⟨ci, fs⟩ := o
                  obtain ⟨b1, -⟩ := hcc
                  dsimp only at b1
                  rw [b1] at hr1
                  have hrecv := va_recv hK hP hr1 hws
                  rw [hr2] at hrecv
                  exact ev_callW (va_runV (As := xs) (rest := restc) ⟨hx, hb, hml, hown, hts⟩ (hM l D g ws H.size (.ref ad :: xs) ⟨hva, hxs⟩ hB) (cwV t3.toNat hts hGV rfl rfl rfl ⟨rfl, hmh.1, hmh.2, hnp⟩ hroom) ⟨ev_Pb_blind, hrecv, fun U hU hWm => hpre _ U hU hWm⟩ rfl hxl hL.1 rfl (lv_room hsum) hd hcap) hS (fun q h => hfree q h) hfree hkk
              · cases h5
            · cases hf0
          · have hi : some ((.invokestatic t2.toNat : Instr), (3 : Nat), ([.methodLink P.2.2.2.1 t2.toNat mi.1, .static mi.1, .initialized mi.1.cls] : List Cond)) = some (i, n, cs) := by
              simpa [ev_rowI, hmi] using hi
            cases hi
            rcases hor with ⟨hf0, -⟩ | ⟨-, hxs, rfl⟩
            · cases hf0
            · have hGS : GoodIn lw_good (va_wsS P.2.2.2.1 t2.toNat mi.1 (Cond.code mi.1 mi.2.1 mi.2.2.1 mi.2.2.2.1 :: lw_good)) := lw_good_good (fun w h => by
                unfold va_wsS at h
                rcases List.mem_append.mp h with h | h
                · exact hw w h
                · exact (hG w h).1)
              exact ev_callW (va_runS (As := xs) (rest := restc) ⟨hx, hb, hml, hown, hts⟩ (hM l D g ws H.size xs hxs hB) (va_cwS t3.toNat hts hGS rfl rfl rfl ⟨hmh.1, hmh.2, hnp⟩ hroom) ⟨ev_Pb_blind, fun U hU hWm => hpre _ U hU hWm⟩ rfl hxl hL.1 rfl (lv_room hsum) hd hcap) hS (fun q h => hfree q h) hfree hkk
          · have hi : some ((.invokespecial t2.toNat : Instr), (3 : Nat), ([.methodLink P.2.2.2.1 t2.toNat mi.1, .instanceMethod mi.1, .initialized mi.1.cls] : List Cond)) = some (i, n, cs) := by
              simpa [ev_rowI, hmi] using hi
            cases hi
            rcases hor with ⟨-, a, as', v, rfl, hva, hxs, rfl⟩ | ⟨hf0, -⟩
            · have h6 : (decide (mi.1.name = "<init>") && mi.2.2.2.1.isNone && ev_isR a) = true := hc6
              simp only [Bool.and_eq_true, decide_eq_true_eq, Option.isNone_iff_eq_none] at h6
              obtain ⟨⟨hy1, hy2⟩, hy3⟩ := h6
              obtain ⟨ad, rfl⟩ := ev_vR hy3 hva
              have hw3 : Cond.code mi.1 mi.2.1 mi.2.2.1 mi.2.2.2.1 = Cond.code mi.1 mi.2.1 mi.2.2.1 none := by rw [hy2]
              exact ev_callW (va_runI (As := xs) (rest := restc) ⟨hx, hb, hml, hown, hts⟩ (hM l D g ws H.size (.ref ad :: xs) ⟨hva, hxs⟩ hB) (cwI t3.toNat hts hG (by rw [hw3]) rfl rfl (hts _ (hw _ (by simp))) (hts _ (hw _ (by simp))) (hts _ (hw _ (by simp))) hy1 ⟨hmh.1, hmh.2, hnp⟩ hroom) ⟨ev_Pb_blind, fun U hU hWm => hpre _ U hU hWm⟩ rfl hxl hL.1 rfl (lv_room hsum) hd hcap) hS (fun q h => hfree q h) hfree hkk
            · cases hf0
          · have hi : some ((.invokespecial t2.toNat : Instr), (3 : Nat), ([.instanceMethod mi.1, .initialized mi.1.cls] : List Cond)) = some (i, n, cs) := by
              simpa [ev_rowI, hmi] using hi
            cases hi
            rcases hor with ⟨-, a, as', v, rfl, hva, hxs, rfl⟩ | ⟨hf0, -⟩
            · have h6 : (decide (mi.1.name = "<init>") && mi.2.2.2.1.isNone && ev_isR a) = true := hc6
              simp only [Bool.and_eq_true, decide_eq_true_eq, Option.isNone_iff_eq_none] at h6
              obtain ⟨⟨hy1, hy2⟩, hy3⟩ := h6
              obtain ⟨ad, rfl⟩ := ev_vR hy3 hva
              have hw3 : Cond.code mi.1 mi.2.1 mi.2.2.1 mi.2.2.2.1 = Cond.code mi.1 mi.2.1 mi.2.2.1 none := by rw [hy2]
              have hnl := hN.1.1 _ (hnest rfl mi hmi)
              exact ev_callW (va_runIN (As := xs) (rest := restc) ⟨hx, hb, hml, hown, hts⟩ (hM l D g ws H.size (.ref ad :: xs) ⟨hva, hxs⟩ hB) ⟨va_cnB t3.toNat hts hG (by rw [hw3]) rfl rfl hnl (hts _ (hw _ (by simp))) ⟨hmh.1, hmh.2, hnp⟩ hroom, hy1, hts _ (hw _ (by simp))⟩ ⟨ev_Pb_blind, fun U hU hWm => hpre _ U hU hWm⟩ rfl hxl hL.1 rfl (lv_room hsum) hd hcap) hS (fun q h => hfree q h) hfree hkk
            · cases hf0
          · exfalso
            have : ev_rowI ms P (op, t1, t2, t3, t4) = none := by
              unfold ev_rowI
              split
              · omega
              · omega
              · omega
              · omega
              · omega
              · omega
              · omega
              · omega
              · have : ev_ops[op]? = none := by
                  apply List.getElem?_eq_none
                  have : ev_ops.length = 84 := rfl
                  omega
                simp [this]
            rw [this] at hi
            cases hi
        · cases h
      · cases h
    · cases h
  · cases h
end EVS

section EVR
variable {p : Program} {l : Launch} {e : Env} {R : Room} {s : State} {m : MethodId} {args : Array Value} {below : List Frame} {meth : Method} {c : Code} {cc : ByteArray} {Q : State → Prop} {D : va_G} {A : Nat → Prop} {g0 : ev_G} {P : ev_P} {ms : List ev_MI} {call : Nat → List ev_A → List ev_C → ev_K → Option (List ev_Out)} {d : Nat} {rows : List (Nat × ev_Row)} {stops : List Nat}
/-- from the ends of a run back to its start -/
theorem ev_run_ok (hMS : ∀ (k : Nat) (mi : ev_MI), ms[k]? = some mi → ev_MOK ms mi) (hC : ev_Cs ms call d) (hRm : d + 1 ≤ R.frames ∧ 40 * (d + 1) ≤ R.locals) (X : ev_X p R s m args meth c cc P.2.2.2.2.1 P.2.2.2.1 P.2.2.1 D A P.1 P.2.1 g0 P.2.2.2.2.2)
    (hrows : ∀ q ∈ rows, ev_RowOK ms P cc q) : ∀ (n : Nat) (S : ev_S) (outs : List ev_S), ev_run ms call P rows stops n S = some outs → (∀ o ∈ outs, ev_Go p l e R s m args below meth c Q P.2.2.2.2.1 D A g0 o) → ev_Go p l e R s m args below meth c Q P.2.2.2.2.1 D A g0 S
  | 0, S, outs, h, hk => by cases h
  | n + 1, S, outs, h, hk => by
    unfold ev_run at h
    split at h
    · cases h
      exact hk S (List.mem_singleton.mpr rfl)
    · split at h
      · cases h
      · rename_i r hr
        have hq := hrows _ (ev_at_mem hr)
        split at h
        · cases h
          exact hk S (List.mem_singleton.mpr rfl)
        · rename_i h210
          split at h
          · rename_i h200
            split at h
            · rename_i Ss hSs
              refine ev_inv_ok hMS hC hRm X hq h200 (by dsimp only; omega) rfl hSs (fun S' hS' => ?_)
              obtain ⟨o', h1, h2⟩ := ev_all_ok h S' hS'
              exact ev_run_ok hMS hC hRm X hrows n S' o' h1 (fun x hx => hk x (h2 x hx))
            · cases h
          · rename_i h200
            split at h
            · rename_i o ho
              split at h
              · rename_i Ss hSs
                obtain ⟨⟨i, k, cs, hi, hd, hw⟩, -⟩ := hq
                rw [ev_rowI_op (by dsimp only; omega)] at hi
                dsimp only at hi hd
                rw [ho] at hi
                refine ev_ops_ok o (List.mem_of_getElem? ho) p l e R s m args below meth c cc Q D A g0 P r.2 S i k cs Ss X hi hd hw hSs (fun S' hS' => ?_)
                obtain ⟨o', h1, h2⟩ := ev_all_ok h S' hS'
                exact ev_run_ok hMS hC hRm X hrows n S' o' h1 (fun x hx => hk x (h2 x hx))
              · cases h
            · cases h
end EVR
theorem ev_args_ok {g : ev_G} : ∀ {as : List ev_A} {xs : List Value} (i : Nat), ev_s g as xs → ∀ q ∈ ev_args i as, ∃ v, ev_v g q.2 = some v ∧ (q.1, v) ∈ lv_args i xs
  | [], [], i, _, q, hq => nomatch hq
  | [], _ :: _, i, h, q, hq => h.elim
  | _ :: _, [], i, h, q, hq => h.elim
  | a :: as, x :: xs, i, h, q, hq => by
    unfold ev_args at hq
    rcases List.mem_cons.mp hq with rfl | hq
    · exact ⟨x, h.1, by unfold lv_args; exact List.mem_cons_self⟩
    · obtain ⟨v, h1, h2⟩ := ev_args_ok (i + if ev_isL a = true then 2 else 1) h.2 q hq
      refine ⟨v, h1, ?_⟩
      unfold lv_args
      refine List.mem_cons_of_mem _ ?_
      rcases ev_cat h.1 with ⟨q1, q2⟩ | ⟨q1, q2⟩
      · rw [if_pos q2]
        rw [if_pos q1] at h2
        exact h2
      · rw [if_neg (by omega)]
        rw [if_neg (by rw [q1]; decide)] at h2
        exact h2
theorem ev_sl_len {g : ev_G} : ∀ {as : List ev_A} {xs : List Value}, ev_s g as xs → (lg_sl xs).length = ev_cs as
  | [], [], _ => rfl
  | [], _ :: _, h => h.elim
  | _ :: _, [], h => h.elim
  | a :: as, x :: xs, h => by
    have ih := ev_sl_len h.2
    simp only [lg_sl, List.flatMap_cons, List.length_append, ev_cs, List.map_cons, List.sum_cons] at ih ⊢
    rw [ih]
    rcases ev_cat h.1 with ⟨q1, q2⟩ | ⟨q1, q2⟩ <;> rw [q1, q2] <;> rfl
set_option maxHeartbeats 4000000 in
/-- the execution of methods by their rows is right, at every depth -/
theorem ev_exec_ok {ms : List ev_MI} (hMS : ∀ (k : Nat) (mi : ev_MI), ms[k]? = some mi → ev_MOK ms mi) : ∀ d : Nat, ev_Cs ms (ev_exec ms d) d
  | 0 => fun k mi as w K outs hmi h => by cases h
  | d + 1 => fun k mi as w K outs hmi h => by
    refine ⟨d, rfl, fun l D g ws sz asc hs hB => ?_⟩
    unfold ev_exec at h
    rw [hmi] at h
    dsimp only at h
    split at h
    · rename_i hcs
      split at h
      · rename_i fs hrun
        obtain ⟨hpl, hcd, hnL, hmh, hrows⟩ := hMS k mi hmi
        refine Met.ofW (cc := mi.2.1) (maxL := mi.2.2.1) (ret := mi.2.2.2.1) hpl rfl ?_
        intro p e s m args below meth c s₁ B hml hv
        obtain ⟨rfl, hsz, hP, hK, hD0, hW, hN⟩ := hv
        subst hsz
        have hD : va_D (va_A ws s.heap.size) ws := hD0.self (sz := s.heap.size)
        have hts : ∀ w ∈ lw_good, w.before asc.toArray s = true := fun w hw => atoms_spec (ws := Cond.code mi.1 mi.2.1 mi.2.2.1 mi.2.2.2.1 :: lw_good) B.pre w (List.mem_cons_of_mem _ hw)
        have hA : ∀ q : Nat, s.heap.size ≤ q → va_A ws s.heap.size q := fun q h => Or.inr h
        have X : ev_X p (ev_rm d mi.2.2.2.2.1 mi.2.2.2.2.2.1) s m asc.toArray meth c mi.2.1 mi.2.2.1 mi.1.cls (decide (mi.1.name = "<init>")) D (va_A ws s.heap.size) mi.2.2.2.2.1 mi.2.2.2.2.2.1 g 0 :=
          ⟨B.exec, B.bytes, hml, findClass_of_methodNamed B.named, hts, hK, hA, hN, fun h => by rw [(name_of_methodNamed B.named B.method).1]; simpa using h, rfl, rfl, by simp [ev_rm], by simp only [ev_rm]; omega, fun L h => by cases h⟩
        have hlocks := B.notSynchronized
        have hr := B.returns
        have hlen : (lg_sl asc).length ≤ mi.2.2.1 := by rw [ev_sl_len hs]; exact hcs
        have hl := lv_entry asc (n := mi.2.2.1) hlen
        rw [lg_entry_eq]
        refine ev_run_ok (P := (mi.2.2.2.2.1, mi.2.2.2.2.2.1, decide (mi.1.name = "<init>"), mi.1.cls, mi.2.2.1, 0)) hMS (ev_exec_ok hMS d) ⟨by simp [ev_rm], by simp [ev_rm]⟩ X hrows 20000 _ fs hrun (fun o ho => ?_) g ws s.heap [] _ [] (ev_le_rf g) ⟨hP, hD, va_S.rf, hW, hB, ⟨hl.1, hl.2.1, fun q hq => ?_⟩, trivial⟩
        · obtain ⟨x, hx1, hx2⟩ := ev_ends_ok h o ho
          obtain ⟨pc, L, st, w', K', ce, sl⟩ := o
          intro g' ws' H locs ls sc hle ⟨hP', hD', hS', hW', hB', hL', hs'⟩
          unfold ev_end at hx1
          split at hx1
          · rename_i hcap
            refine W.widen (k := mi.2.2.2.2.1) (n := mi.2.2.2.2.2.1) hcap.1 hcap.2 ?_
            have qq : ∀ (v : Option Value) (t : State), t.heap = H → s.WarmedH t.vm → ev_rv g' x.1 v → x.2.1 = w' → x.2.2 = K' → ev_Q D g (va_A ws s.heap.size) outs asc.toArray s (.returned v) t := by
              intro v t ht hWm hv e1 e2
              exact ⟨⟨x, g', ws', v, hx2, rfl, hv, hle, by rw [ht]; exact hP', hD', by rw [e1]; exact ev_w_moved hWm.alike hW', by rw [e2]; exact hB'⟩, hS'.F ht⟩
            split at hx1
            · cases hx1
            · rename_i r hrr
              obtain ⟨⟨i, n, cs, hi, hd, -⟩, -⟩ := hrows _ (ev_at_mem hrr)
              dsimp only at hi hd
              split at hx1
              · rename_i ty a e1 e2 e3
                split at hx1
                · rename_i hf
                  cases hx1
                  dsimp only at e3
                  subst e3
                  obtain ⟨v, sc', rfl, hv, hs2⟩ := ev_s_cons hs'
                  cases ev_s_nil hs2
                  obtain ⟨x0, rfl⟩ := ev_vI hf.1 hv
                  have hi : some ((.ireturn : Instr), (1 : Nat), ([] : List Cond)) = some (i, n, cs) := by simpa [ev_rowI, e1] using hi
                  cases hi
                  exact W.zret B.exec B.bytes (hr.trans e2) (ev_fit_ok hf.2 hv).1 (fun t ht hWm => qq _ t ht hWm hv rfl rfl) hS'.2.2 hd
                · cases hx1
              · rename_i a e1 e2 e3
                split at hx1
                · rename_i hf
                  cases hx1
                  dsimp only at e3
                  subst e3
                  obtain ⟨v, sc', rfl, hv, hs2⟩ := ev_s_cons hs'
                  cases ev_s_nil hs2
                  obtain ⟨x0, rfl⟩ := ev_vL hf hv
                  have hi : some ((.lreturn : Instr), (1 : Nat), ([] : List Cond)) = some (i, n, cs) := by simpa [ev_rowI, e1] using hi
                  cases hi
                  exact W.lret B.exec B.bytes (hr.trans e2) (fun t ht hWm => qq _ t ht hWm hv rfl rfl) hS'.2.2 hd
                · cases hx1
              · rename_i nm a e1 e2 e3
                split at hx1
                · rename_i hf
                  cases hx1
                  dsimp only at e3
                  subst e3
                  obtain ⟨v, sc', rfl, hv, hs2⟩ := ev_s_cons hs'
                  cases ev_s_nil hs2
                  have hi : some ((.areturn : Instr), (1 : Nat), ([] : List Cond)) = some (i, n, cs) := by simpa [ev_rowI, e1] using hi
                  cases hi
                  exact W.aret B.exec B.bytes (hr.trans e2) (Or.inl ⟨_, rfl⟩) (ev_vN hf hv) (fun t ht hWm => qq _ t ht hWm hv rfl rfl) hS'.2.2 hd
                · cases hx1
              · rename_i e1 e2 e3
                cases hx1
                dsimp only at e3
                subst e3
                cases ev_s_nil hs'
                have hi : some ((.return_ : Instr), (1 : Nat), ([] : List Cond)) = some (i, n, cs) := by simpa [ev_rowI, e1] using hi
                cases hi
                exact W.vret B.exec B.bytes (hr.trans e2) (fun t ht hWm => qq none t ht hWm trivial rfl rfl) hS'.2.2 hd
              · cases hx1
          · cases hx1
        · obtain ⟨v, h1, h2⟩ := ev_args_ok 0 hs q hq
          exact ⟨v, h1, hl.2.2 _ h2⟩
      · cases h
    · cases h
end
section
/-! CM: the machine over a typed memory: ints, longs and references by cell and place. A value is the machine's own, but that a reference names a cell by its number in the layout; from 1000 on what was there before: 1000 the script, 1001 + 2 k a text, 1002 + 2 k its bytes, 1100 the table of tens, 1101 a formatter -/
abbrev cm_M : Type := (Nat → Nat → Int32) × (Nat → Nat → Int64) × (Nat → Nat → Option Nat)
/-- where it stands: place, locals, stack, memory -/
abbrev cm_S : Type := Nat × List (Nat × Value) × List Value × cm_M
def cm_v (adr : Nat → Nat) (v : Value) : Value := match v with
  | .ref k => .ref (adr k)
  | v => v
theorem cm_v_cat (adr : Nat → Nat) (v : Value) : (cm_v adr v).category = v.category := by cases v <;> rfl
theorem cm_v_cats (adr : Nat → Nat) (l : List Value) : ((l.map (cm_v adr)).map fun v => v.category).sum = (l.map fun v => v.category).sum := by
  induction l with
  | nil => rfl
  | cons a l ih => simp only [List.map_cons, List.sum_cons, cm_v_cat, ih]
/-- the cells: class (or 100 and the array's type), how many places -/
def cm_lay : List (Nat × Nat) := [(8, 15), (101, 900), (4, 14), (102, 16), (100, 16), (100, 16), (7, 19), (100, 6), (100, 6), (100, 6), (100, 6), (100, 6), (100, 5), (100, 5), (100, 5), (100, 5), (100, 5), (100, 5), (100, 3), (7, 19), (100, 6), (100, 6), (100, 6), (100, 6), (100, 6), (100, 5), (100, 5), (100, 5), (100, 5), (100, 5), (100, 5), (100, 3), (2, 4), (100, 6), (100, 3), (2, 4), (100, 6), (100, 3), (3, 5), (103, 16), (103, 3), (2, 4), (100, 6), (100, 3), (2, 4), (100, 6), (100, 3), (2, 4), (100, 6), (100, 3), (2, 4), (100, 6), (100, 3), (2, 4), (100, 6), (100, 3), (2, 4), (100, 6), (100, 3), (2, 4), (100, 6), (100, 3), (2, 4), (100, 6), (100, 3), (2, 4), (100, 6), (100, 3), (2, 4), (100, 6), (100, 3), (2, 4), (100, 6), (100, 3), (2, 4), (100, 6), (100, 3), (2, 4), (100, 6), (100, 3), (2, 4), (100, 6), (100, 3), (2, 4), (100, 6), (100, 3), (2, 4), (100, 6), (100, 3), (2, 4), (100, 6), (100, 3), (2, 4), (100, 6), (100, 3), (2, 4), (100, 6), (100, 3), (0, 5), (103, 5), (2, 4), (100, 6), (100, 3), (2, 4), (100, 6), (100, 3), (2, 4), (100, 6), (100, 3), (2, 4), (100, 6), (100, 3), (2, 4), (100, 6), (100, 3), (6, 3), (100, 5), (100, 5), (5, 3), (100, 32), (2, 4), (100, 6), (100, 3), (1, 3), (9, 35), (100, 900), (100, 8), (100, 213), (100, 213), (100, 11), (100, 176), (100, 33), (100, 11), (100, 5), (100, 5), (100, 5), (102, 1)]
def cm_kind (c : Nat) : Nat × Nat := match cm_lay[c]? with
  | some q => q
  | none => (999, 0)
theorem cm_kind_at {c : Nat} {q : Nat × Nat} (h : cm_kind c = q) (h9 : q.1 < 999) : cm_lay[c]? = some q := by
  unfold cm_kind at h
  cases hc : cm_lay[c]? with
  | none => rw [hc] at h; subst h; exact absurd h9 (by decide)
  | some r => rw [hc] at h; exact congrArg some h
/-- what a field holds: 0 an int, 2 a long, 3 a reference -/
def cm_ft (ci j : Nat) : Nat := match ev_tyl[ci]? with
  | some ty => (match ty j with
    | .long => 2
    | .object _ => 3
    | .array _ => 3
    | _ => 0)
  | none => 0
/-- a field of truth values -/
def cm_isB (ci j : Nat) : Bool := match ev_tyl[ci]? with
  | some ty => (match ty j with
    | .boolean => true
    | _ => false)
  | none => false
def cm_rq : Option Nat → Value
  | some q => .ref q
  | none => .null
def cm_rd (M : cm_M) (tag c j : Nat) : Value := match tag with
  | 2 => .long (M.2.1 c j)
  | 3 => cm_rq (M.2.2 c j)
  | _ => .int (M.1 c j)
def cm_wi (M : cm_M) (c i : Nat) (x : Int32) : cm_M := (fun c' i' => if c' = c ∧ i' = i then x else M.1 c' i', M.2)
def cm_wl (M : cm_M) (c i : Nat) (x : Int64) : cm_M := (M.1, fun c' i' => if c' = c ∧ i' = i then x else M.2.1 c' i', M.2.2)
def cm_wr (M : cm_M) (c i : Nat) (x : Option Nat) : cm_M := (M.1, M.2.1, fun c' i' => if c' = c ∧ i' = i then x else M.2.2 c' i')
def cm_cp (M : cm_M) (c sp d dp n : Nat) : cm_M := (fun c' i' => if c' = d ∧ dp ≤ i' ∧ i' < dp + n then M.1 c (sp + (i' - dp)) else M.1 c' i', M.2)
def cm_ar (adr : Nat → Nat) (M : cm_M) (k t n : Nat) (a : (Nat → Int32) ⊕ (Nat → Int64) ⊕ (Nat → UInt32) ⊕ (Nat → UInt64) ⊕ (Nat → Option Nat)) : Prop := match a with
  | .inl f => t < 2 ∧ ∀ j, j < n → f j = M.1 k j
  | .inr (.inl f) => t = 2 ∧ ∀ j, j < n → f j = M.2.1 k j
  | .inr (.inr (.inr (.inr f))) => t = 3 ∧ ∀ j, j < n → f j = (M.2.2 k j).map adr
  | _ => False
def cm_c (s : State) (adr : Nat → Nat) (M : cm_M) (k : Nat) (c : Nat × Nat) (x : va_E) : Prop := match x with
  | .inr o => o.1 = c.1 ∧ c.1 < 100 ∧ o.2.length = c.2 ∧ ∀ j, j < c.2 → o.2[j]? = some (cm_v adr (cm_rd M (cm_ft c.1 j) k j))
  | .inl a => ∃ t, t < 4 ∧ c.1 = 100 + t ∧ a.2.1 = c.2 ∧ ArrOfT s a.1 (ev_ty t) ∧ va_RA s a.1 (ev_ty t) ∧ cm_ar adr M k t c.2 a.2.2
/-- the world is as the memory says -/
def cm_w (s : State) (adr : Nat → Nat) (M : cm_M) (ws : va_W) : Prop := ws.length = cm_lay.length ∧ ∀ (k : Nat) (c : Nat × Nat) (q : Nat × va_E), cm_lay[k]? = some c → ws[k]? = some q → q.1 = adr k ∧ cm_c s adr M k c q.2
theorem cm_c_moved {u U : State} {adr : Nat → Nat} {M : cm_M} {k : Nat} {c : Nat × Nat} {x : va_E} (hvm : u.vm.Alike U.vm) (h : cm_c u adr M k c x) : cm_c U adr M k c x := by
  cases x with
  | inr o => exact h
  | inl a =>
    obtain ⟨t, a1, a2, a3, a4, a5, a6⟩ := h
    exact ⟨t, a1, a2, a3, arrOfT_moved hvm a4, a5.moved hvm, a6⟩
theorem cm_w_moved {u U : State} {adr : Nat → Nat} {M : cm_M} {ws : va_W} (hvm : u.vm.Alike U.vm) (h : cm_w u adr M ws) : cm_w U adr M ws := ⟨h.1, fun k c q h1 h2 => ⟨(h.2 k c q h1 h2).1, cm_c_moved hvm (h.2 k c q h1 h2).2⟩⟩
/-- a cell of the layout stands in the world -/
theorem cm_cell {s : State} {adr : Nat → Nat} {M : cm_M} {ws : va_W} {k : Nat} {c : Nat × Nat} (h : cm_w s adr M ws) (hc : cm_lay[k]? = some c) : ∃ x, ws[k]? = some (adr k, x) ∧ cm_c s adr M k c x := by
  have hl : k < ws.length := by rw [h.1]; exact (List.getElem?_eq_some_iff.mp hc).1
  have h1 := List.getElem?_eq_getElem hl
  obtain ⟨e, h2⟩ := h.2 k c _ hc h1
  exact ⟨ws[k].2, by rw [h1, ← e], h2⟩
/-- one cell is written -/
theorem cm_w_set {s : State} {adr : Nat → Nat} {M M' : cm_M} {ws : va_W} {q : Nat} {c0 : Nat × Nat} {x : va_E} (h : cm_w s adr M ws) (hq : cm_lay[q]? = some c0) (hx : cm_c s adr M' q c0 x) (hM : ∀ k c y, k ≠ q → cm_c s adr M k c y → cm_c s adr M' k c y) : cm_w s adr M' (ws.set q (adr q, x)) := by
  refine ⟨by rw [List.length_set]; exact h.1, fun k c z h1 h2 => ?_⟩
  have hl : q < ws.length := by rw [h.1]; exact (List.getElem?_eq_some_iff.mp hq).1
  by_cases hk : k = q
  · subst hk
    rw [List.getElem?_set_self hl] at h2
    cases h2
    rw [hq] at h1
    cases h1
    exact ⟨rfl, hx⟩
  · rw [List.getElem?_set_ne (Ne.symm hk)] at h2
    obtain ⟨a, b⟩ := h.2 k c z h1 h2
    exact ⟨a, hM k c _ hk b⟩
theorem cm_c_ne {s : State} {adr : Nat → Nat} {M M' : cm_M} {k : Nat} {c : Nat × Nat} {x : va_E} (h1 : ∀ j, M'.1 k j = M.1 k j) (h2 : ∀ j, M'.2.1 k j = M.2.1 k j) (h3 : ∀ j, M'.2.2 k j = M.2.2 k j) (h : cm_c s adr M k c x) : cm_c s adr M' k c x := by
  have hr : ∀ t j, cm_rd M' t k j = cm_rd M t k j := by
    intro t j
    unfold cm_rd
    split
    · rw [h2]
    · rw [h3]
    · rw [h1]
  cases x with
  | inr o => exact ⟨h.1, h.2.1, h.2.2.1, fun j hj => by rw [hr]; exact h.2.2.2 j hj⟩
  | inl a =>
    obtain ⟨t, a1, a2, a3, a4, a5, a6⟩ := h
    refine ⟨t, a1, a2, a3, a4, a5, ?_⟩
    obtain ⟨a1, a2, arr⟩ := a
    rcases arr with f | f | f | f | f
    · exact ⟨a6.1, fun j hj => by rw [h1]; exact a6.2 j hj⟩
    · exact ⟨a6.1, fun j hj => by rw [h2]; exact a6.2 j hj⟩
    · exact a6
    · exact a6
    · exact ⟨a6.1, fun j hj => by rw [h3]; exact a6.2 j hj⟩
/-- the words that callees take along: what was there before -/
def cm_tens (j : Nat) : Int32 := ([1, 10, 100, 1000, 10000] : List Int32).getD j 0
def cm_T (adr : Nat → Nat) (A : Nat → Prop) (U : State) (H : Heap) : Prop := va_Z "BarberMinutes" "TENS" "[I" (.ref (adr 1100)) A U H ∧ va_T .int (adr 1100) 5 (fun j => .int (cm_tens j)) A U H ∧ (va_Z "jdk/internal/util/Preconditions" "SIOOBE_FORMATTER" "Ljava/util/function/BiFunction;" .null A U H ∨ va_Z "jdk/internal/util/Preconditions" "SIOOBE_FORMATTER" "Ljava/util/function/BiFunction;" (.ref (adr 1101)) A U H)
def cm_N (adr : Nat → Nat) (A : Nat → Prop) (U : State) (H : Heap) : Prop := ev_N (fun j => adr (1000 + j)) A U H ∧ cm_T adr A U H
theorem cm_T_moved {adr : Nat → Nat} {A : Nat → Prop} {u U : State} {H : Heap} (hvm : u.vm.Alike U.vm) (h : cm_T adr A u H) : cm_T adr A U H := ⟨va_Z.moved hvm h.1, va_T.moved hvm h.2.1, h.2.2.imp (va_Z.moved hvm) (va_Z.moved hvm)⟩
theorem cm_T_kept {adr : Nat → Nat} {A : Nat → Prop} {U : State} {H H1 : Heap} (h : cm_T adr A U H) (hq : ∀ a : Nat, a < H.size → ¬ A a → H1[a]? = H[a]?) : cm_T adr A U H1 := ⟨va_Z.kept h.1 hq, va_T.kept h.2.1 hq, h.2.2.imp (fun z => va_Z.kept z hq) (fun z => va_Z.kept z hq)⟩
theorem cm_T_narrow {adr : Nat → Nat} {A B : Nat → Prop} {U : State} {H : Heap} (h : cm_T adr A U H) (hAB : ∀ q, B q → A q) : cm_T adr B U H := ⟨va_Z.narrow h.1 hAB, va_T.narrow h.2.1 hAB, h.2.2.imp (fun z => va_Z.narrow z hAB) (fun z => va_Z.narrow z hAB)⟩
theorem cm_N_same {adr : Nat → Nat} {A : Nat → Prop} {u U : State} {H : Heap} (h : u.vm = U.vm) (hN : cm_N adr A u H) : cm_N adr A U H := ⟨ev_N_same h hN.1, cm_T_moved (by rw [h]; exact Vm.Alike.refl _) hN.2⟩
theorem cm_N_call {adr : Nat → Nat} {A B : Nat → Prop} {s U : State} {H : Heap} {locs : List Loc} (hW : s.WarmedH U.vm) (hU : U.heap = H) (hS : va_S A s.heap H locs) (hAB : ∀ q, B q → A q) (hN : cm_N adr A s s.heap) : cm_N adr B U U.heap :=
  ⟨ev_N_call hW hU hS hAB hN.1, by rw [hU]; exact cm_T_moved hW.alike (cm_T_narrow (cm_T_kept hN.2 hS.2.1) hAB)⟩
/-- the law's script -/
abbrev cm_E : Type := Option (Nat × (Nat → Int32))
def cm_scr (adr : Nat → Nat) (A : Nat → Prop) (s : State) : cm_E → Prop
  | none => True
  | some q => va_X (adr 1000) q.1 q.2 s s.heap ∧ adr 1000 < s.heap.size ∧ ¬ A (adr 1000)
/-- the fixed facts of a frame -/
def cm_X (p : Program) (R : Room) (s : State) (m : MethodId) (args : Array Value) (c : Code) (cc : ByteArray) (nL : Nat) (own : String) (D : va_G) (A : Nat → Prop) (adr : Nat → Nat) (ce sl : Nat) (E : cm_E) : Prop :=
  p.tables.exec = Jvm.exec ∧ c.code = cc ∧ c.maxLocals = nL ∧ s.vm.findClass own = some m.cls ∧ (∀ w ∈ lw_good, w.before args s = true) ∧ va_K D vwCl [] s ∧ (∀ q : Nat, s.heap.size ≤ q → A q) ∧ cm_N adr A s s.heap ∧ ce ≤ R.cells ∧ sl ≤ R.slots ∧ 1 ≤ R.frames ∧ 40 ≤ R.locals ∧ cm_scr adr A s E
def cm_l (adr : Nat → Nat) (L : List (Nat × Value)) (nL : Nat) (ls : Array Slot) : Prop := lv_has ls nL (L.map (fun q => (q.1, cm_v adr q.2)))
/-- what holds between a state and the machine -/
def cm_R (s : State) (A : Nat → Prop) (D : va_G) (nL : Nat) (adr : Nat → Nat) (L : List (Nat × Value)) (M : cm_M) (ws : va_W) (H : Heap) (locs : List Loc) (ls : Array Slot) : Prop :=
  va_P D vwCl ws H ∧ va_D A ws ∧ va_S A s.heap H locs ∧ cm_w s adr M ws ∧ cm_l adr L nL ls
/-- the goal from a state -/
def cm_Go (p : Program) (l : Launch) (e : Env) (R : Room) (s : State) (m : MethodId) (args : Array Value) (below : List Frame) (meth : Method) (c : Code) (Q : State → Prop) (nL : Nat) (D : va_G) (A : Nat → Prop) (adr : Nat → Nat) (ce sl : Nat) (S : cm_S) : Prop :=
  ∀ (ws : va_W) (H : Heap) (locs : List Loc) (ls : Array Slot), cm_R s A D nL adr S.2.1 S.2.2.2 ws H locs ls → W p l e R s m args below meth c H locs ce sl Q (F0 m S.1 ls (S.2.2.1.map (cm_v adr)))
/-- an operation: what stands in the code; what must hold for it to go on -/
abbrev cm_O : Type := (ev_P → ev_T → Option (Instr × Nat × List Cond)) × (cm_E → ev_P → ev_T → cm_S → (cm_S → Prop) → Prop)
def cm_Snd (o : cm_O) : Prop := ∀ (p : Program) (l : Launch) (e : Env) (R : Room) (s : State) (m : MethodId) (args : Array Value) (below : List Frame) (meth : Method) (c : Code) (cc : ByteArray) (Q : State → Prop) (D : va_G) (A : Nat → Prop) (adr : Nat → Nat) (ce sl : Nat) (E : cm_E) (P : ev_P) (t : ev_T) (S : cm_S) (i : Instr) (n : Nat) (cs : List Cond),
  cm_X p R s m args c cc P.2.2.2.2.1 P.2.2.2.1 D A adr ce sl E → o.1 P t = some (i, n, cs) → decode cc S.1 = .ok (i, n) → (∀ w ∈ cs, w ∈ lw_good) → o.2 E P t S (cm_Go p l e R s m args below meth c Q P.2.2.2.2.1 D A adr ce sl) → cm_Go p l e R s m args below meth c Q P.2.2.2.2.1 D A adr ce sl S
/-- fewer locals told -/
theorem cm_Go_sub {p : Program} {l : Launch} {e : Env} {R : Room} {s : State} {m : MethodId} {args : Array Value} {below : List Frame} {meth : Method} {c : Code} {Q : State → Prop} {nL : Nat} {D : va_G} {A : Nat → Prop} {adr : Nat → Nat} {ce sl pc : Nat} {L L' : List (Nat × Value)} {st : List Value} {M : cm_M} (h : cm_Go p l e R s m args below meth c Q nL D A adr ce sl (pc, L', st, M)) (hL : ∀ q ∈ L', q ∈ L) : cm_Go p l e R s m args below meth c Q nL D A adr ce sl (pc, L, st, M) := by
  intro ws H locs ls ⟨hP, hD, hS, hW, hl⟩
  refine h ws H locs ls ⟨hP, hD, hS, hW, hl.1, hl.2.1, fun q hq => ?_⟩
  obtain ⟨r, hr, rfl⟩ := List.mem_map.mp hq
  exact hl.2.2 _ (List.mem_map.mpr ⟨r, hL r hr, rfl⟩)
def cm_look : List (Nat × Value) → Nat → Option Value
  | [], _ => none
  | q :: L, i => if q.1 = i then some q.2 else cm_look L i
theorem cm_look_mem : ∀ {L : List (Nat × Value)} {i : Nat} {a : Value}, cm_look L i = some a → (i, a) ∈ L
  | [], i, a, h => by cases h
  | q :: L, i, a, h => by
    unfold cm_look at h
    split at h
    · rename_i hq
      cases h
      rw [← hq]
      exact List.mem_cons_self
    · exact List.mem_cons_of_mem _ (cm_look_mem h)
theorem cm_l_at {adr : Nat → Nat} {L : List (Nat × Value)} {nL : Nat} {ls : Array Slot} (h : cm_l adr L nL ls) {i : Nat} {v : Value} (hv : cm_look L i = some v) : ls[i]? = some (.val (cm_v adr v)) := h.2.2 _ (List.mem_map.mpr ⟨_, cm_look_mem hv, rfl⟩)
/-- a store: the new value in front; a long's second half is taken away -/
def cm_st1 (L : List (Nat × Value)) (i : Nat) (v : Value) : List (Nat × Value) := (i, v) :: L.filter (fun q => !(q.1 == i) && !(q.1 + 1 == i && q.2.category == 2))
def cm_st2 (L : List (Nat × Value)) (i : Nat) (v : Value) : List (Nat × Value) := (i, v) :: L.filter (fun q => !(q.1 == i) && (!(q.1 == i + 1) && !(q.1 + 1 == i && q.2.category == 2)))
theorem cm_fl (adr : Nat → Nat) (f : Nat → Nat → Bool) (L : List (Nat × Value)) : (L.map (fun q => (q.1, cm_v adr q.2))).filter (fun q => f q.1 q.2.category) = (L.filter (fun q => f q.1 q.2.category)).map (fun q => (q.1, cm_v adr q.2)) := by
  rw [List.filter_map]
  congr 1
  apply List.filter_congr
  intro q _
  simp only [Function.comp_apply, cm_v_cat]
theorem cm_st1_eq (adr : Nat → Nat) (L : List (Nat × Value)) (i : Nat) (v : Value) : (i, cm_v adr v) :: (L.map (fun q => (q.1, cm_v adr q.2))).filter (fun q => !(q.1 == i) && !(q.1 + 1 == i && q.2.category == 2)) = (cm_st1 L i v).map (fun q => (q.1, cm_v adr q.2)) := by
  unfold cm_st1
  rw [List.map_cons]
  congr 1
  exact cm_fl adr (fun a b => !(a == i) && !(a + 1 == i && b == 2)) L
theorem cm_st2_eq (adr : Nat → Nat) (L : List (Nat × Value)) (i : Nat) (v : Value) : (i, cm_v adr v) :: (L.map (fun q => (q.1, cm_v adr q.2))).filter (fun q => !(q.1 == i) && (!(q.1 == i + 1) && !(q.1 + 1 == i && q.2.category == 2))) = (cm_st2 L i v).map (fun q => (q.1, cm_v adr q.2)) := by
  unfold cm_st2
  rw [List.map_cons]
  congr 1
  exact cm_fl adr (fun a b => !(a == i) && (!(a == i + 1) && !(a + 1 == i && b == 2))) L
end
section
/-! CM: operations -/
def cm_adv (S : cm_S) (n : Nat) (st : List Value) : cm_S := (S.1 + n, S.2.1, st, S.2.2.2)
def cm_iconst : cm_O := (ev_iconst.1, fun E P t S k => k (cm_adv S 1 (.int (Int32.ofInt t.1) :: S.2.2.1)))
theorem cm_iconst_ok : cm_Snd cm_iconst := by
  intro p l e R s m args below meth c cc Q D A adr ce sl E P t S i n cs X h1 hd hw h2 ws H locs ls hR
  obtain ⟨hx, hb, hml, hown, hts, hK, hA, hN, hcC, hcS, hf, hlc, hscr⟩ := X
  obtain ⟨pc, L, st, M⟩ := S
  have h1 : some ((.iconst t.1 : Instr), (1 : Nat), ([] : List Cond)) = some (i, n, cs) := h1
  cases h1
  exact lv_iconst (v := Int32.ofInt t.1) hx hb hd rfl (h2 ws H locs ls hR)

def cm_bipush : cm_O := (ev_bipush.1, fun E P t S k => k (cm_adv S 2 (.int ((Int8.ofInt t.1).toInt32) :: S.2.2.1)))
theorem cm_bipush_ok : cm_Snd cm_bipush := by
  intro p l e R s m args below meth c cc Q D A adr ce sl E P t S i n cs X h1 hd hw h2 ws H locs ls hR
  obtain ⟨hx, hb, hml, hown, hts, hK, hA, hN, hcC, hcS, hf, hlc, hscr⟩ := X
  obtain ⟨pc, L, st, M⟩ := S
  have h1 : some ((.bipush t.1 : Instr), (2 : Nat), ([] : List Cond)) = some (i, n, cs) := h1
  cases h1
  exact lv_bipush (v := (Int8.ofInt t.1).toInt32) hx hb hd rfl (h2 ws H locs ls hR)

def cm_sipush : cm_O := (ev_sipush.1, fun E P t S k => k (cm_adv S 3 (.int ((Int16.ofInt t.1).toInt32) :: S.2.2.1)))
theorem cm_sipush_ok : cm_Snd cm_sipush := by
  intro p l e R s m args below meth c cc Q D A adr ce sl E P t S i n cs X h1 hd hw h2 ws H locs ls hR
  obtain ⟨hx, hb, hml, hown, hts, hK, hA, hN, hcC, hcS, hf, hlc, hscr⟩ := X
  obtain ⟨pc, L, st, M⟩ := S
  have h1 : some ((.sipush t.1 : Instr), (3 : Nat), ([] : List Cond)) = some (i, n, cs) := h1
  cases h1
  exact lv_sipush (v := (Int16.ofInt t.1).toInt32) hx hb hd rfl (h2 ws H locs ls hR)

def cm_lconst : cm_O := (ev_lconst.1, fun E P t S k => k (cm_adv S 1 (.long (Int64.ofNat t.1.toNat) :: S.2.2.1)))
theorem cm_lconst_ok : cm_Snd cm_lconst := by
  intro p l e R s m args below meth c cc Q D A adr ce sl E P t S i n cs X h1 hd hw h2 ws H locs ls hR
  obtain ⟨hx, hb, hml, hown, hts, hK, hA, hN, hcC, hcS, hf, hlc, hscr⟩ := X
  obtain ⟨pc, L, st, M⟩ := S
  have h1 : (if h : t.1.toNat < 2 then some ((.lconst ⟨t.1.toNat, h⟩ : Instr), (1 : Nat), ([] : List Cond)) else none) = some (i, n, cs) := h1
  split at h1
  · cases h1
    exact lv_lconst (v := Int64.ofNat t.1.toNat) hx hb hd rfl (h2 ws H locs ls hR)
  · cases h1

def cm_ld (ty : Nat) (n i : Nat) (S : cm_S) (k : cm_S → Prop) : Prop := match ty, cm_look S.2.1 i with
  | 0, some (.int x) => k (cm_adv S n (.int x :: S.2.2.1))
  | 1, some (.long x) => k (cm_adv S n (.long x :: S.2.2.1))
  | 2, some (.ref x) => k (cm_adv S n (.ref x :: S.2.2.1))
  | _, _ => False
theorem cm_ld_ok {ty n i : Nat} {S : cm_S} {k : cm_S → Prop} (h : cm_ld ty n i S k) : ∃ v, cm_look S.2.1 i = some v ∧ k (cm_adv S n (v :: S.2.2.1)) ∧ (ty = 0 → ∃ x, v = .int x) ∧ (ty = 1 → ∃ x, v = .long x) ∧ (ty = 2 → ∃ x, v = .ref x) := by
  unfold cm_ld at h
  split at h
  · rename_i x hx
    exact ⟨_, hx, h, fun _ => ⟨x, rfl⟩, fun q => (by cases q), fun q => (by cases q)⟩
  · rename_i x hx
    exact ⟨_, hx, h, fun q => (by cases q), fun _ => ⟨x, rfl⟩, fun q => (by cases q)⟩
  · rename_i x hx
    exact ⟨_, hx, h, fun q => (by cases q), fun q => (by cases q), fun _ => ⟨x, rfl⟩⟩
  · exact h.elim
def cm_iload : cm_O := (ev_iload.1, fun E P t S k => cm_ld 0 2 t.1.toNat S k)
theorem cm_iload_ok : cm_Snd cm_iload := by
  intro p l e R s m args below meth c cc Q D A adr ce sl E P t S i n cs X h1 hd hw h2 ws H locs ls hR
  obtain ⟨hx, hb, hml, hown, hts, hK, hA, hN, hcC, hcS, hf, hlc, hscr⟩ := X
  obtain ⟨pc, L, st, M⟩ := S
  have h1 : some ((.iload t.1.toNat : Instr), (2 : Nat), ([] : List Cond)) = some (i, n, cs) := h1
  cases h1
  obtain ⟨v, hv, hk, q0, q1, q2⟩ := cm_ld_ok h2
  obtain ⟨x, rfl⟩ := q0 rfl
  exact lv_iload hx hb hd (cm_l_at hR.2.2.2.2 hv) (hk ws H locs ls hR)

def cm_iloadn : cm_O := (ev_iloadn.1, fun E P t S k => cm_ld 0 1 t.1.toNat S k)
theorem cm_iloadn_ok : cm_Snd cm_iloadn := by
  intro p l e R s m args below meth c cc Q D A adr ce sl E P t S i n cs X h1 hd hw h2 ws H locs ls hR
  obtain ⟨hx, hb, hml, hown, hts, hK, hA, hN, hcC, hcS, hf, hlc, hscr⟩ := X
  obtain ⟨pc, L, st, M⟩ := S
  have h1 : (if h : t.1.toNat < 4 then some ((.iload_n ⟨t.1.toNat, h⟩ : Instr), (1 : Nat), ([] : List Cond)) else none) = some (i, n, cs) := h1
  split at h1
  rotate_left
  · cases h1
  cases h1
  obtain ⟨v, hv, hk, q0, q1, q2⟩ := cm_ld_ok h2
  obtain ⟨x, rfl⟩ := q0 rfl
  exact lv_iload_n hx hb hd rfl (cm_l_at hR.2.2.2.2 hv) (hk ws H locs ls hR)

def cm_lload : cm_O := (ev_lload.1, fun E P t S k => cm_ld 1 2 t.1.toNat S k)
theorem cm_lload_ok : cm_Snd cm_lload := by
  intro p l e R s m args below meth c cc Q D A adr ce sl E P t S i n cs X h1 hd hw h2 ws H locs ls hR
  obtain ⟨hx, hb, hml, hown, hts, hK, hA, hN, hcC, hcS, hf, hlc, hscr⟩ := X
  obtain ⟨pc, L, st, M⟩ := S
  have h1 : some ((.lload t.1.toNat : Instr), (2 : Nat), ([] : List Cond)) = some (i, n, cs) := h1
  cases h1
  obtain ⟨v, hv, hk, q0, q1, q2⟩ := cm_ld_ok h2
  obtain ⟨x, rfl⟩ := q1 rfl
  exact lv_lload hx hb hd (cm_l_at hR.2.2.2.2 hv) (hk ws H locs ls hR)

def cm_lloadn : cm_O := (ev_lloadn.1, fun E P t S k => cm_ld 1 1 t.1.toNat S k)
theorem cm_lloadn_ok : cm_Snd cm_lloadn := by
  intro p l e R s m args below meth c cc Q D A adr ce sl E P t S i n cs X h1 hd hw h2 ws H locs ls hR
  obtain ⟨hx, hb, hml, hown, hts, hK, hA, hN, hcC, hcS, hf, hlc, hscr⟩ := X
  obtain ⟨pc, L, st, M⟩ := S
  have h1 : (if h : t.1.toNat < 4 then some ((.lload_n ⟨t.1.toNat, h⟩ : Instr), (1 : Nat), ([] : List Cond)) else none) = some (i, n, cs) := h1
  split at h1
  rotate_left
  · cases h1
  cases h1
  obtain ⟨v, hv, hk, q0, q1, q2⟩ := cm_ld_ok h2
  obtain ⟨x, rfl⟩ := q1 rfl
  exact lv_lload_n hx hb hd rfl (cm_l_at hR.2.2.2.2 hv) (hk ws H locs ls hR)

def cm_aload : cm_O := (ev_aload.1, fun E P t S k => cm_ld 2 2 t.1.toNat S k)
theorem cm_aload_ok : cm_Snd cm_aload := by
  intro p l e R s m args below meth c cc Q D A adr ce sl E P t S i n cs X h1 hd hw h2 ws H locs ls hR
  obtain ⟨hx, hb, hml, hown, hts, hK, hA, hN, hcC, hcS, hf, hlc, hscr⟩ := X
  obtain ⟨pc, L, st, M⟩ := S
  have h1 : some ((.aload t.1.toNat : Instr), (2 : Nat), ([] : List Cond)) = some (i, n, cs) := h1
  cases h1
  obtain ⟨v, hv, hk, q0, q1, q2⟩ := cm_ld_ok h2
  obtain ⟨x, rfl⟩ := q2 rfl
  exact lv_aload hx hb hd (cm_l_at hR.2.2.2.2 hv) (hk ws H locs ls hR)

def cm_aloadn : cm_O := (ev_aloadn.1, fun E P t S k => cm_ld 2 1 t.1.toNat S k)
theorem cm_aloadn_ok : cm_Snd cm_aloadn := by
  intro p l e R s m args below meth c cc Q D A adr ce sl E P t S i n cs X h1 hd hw h2 ws H locs ls hR
  obtain ⟨hx, hb, hml, hown, hts, hK, hA, hN, hcC, hcS, hf, hlc, hscr⟩ := X
  obtain ⟨pc, L, st, M⟩ := S
  have h1 : (if h : t.1.toNat < 4 then some ((.aload_n ⟨t.1.toNat, h⟩ : Instr), (1 : Nat), ([] : List Cond)) else none) = some (i, n, cs) := h1
  split at h1
  rotate_left
  · cases h1
  cases h1
  obtain ⟨v, hv, hk, q0, q1, q2⟩ := cm_ld_ok h2
  obtain ⟨x, rfl⟩ := q2 rfl
  exact lv_aload_n hx hb hd rfl (cm_l_at hR.2.2.2.2 hv) (hk ws H locs ls hR)

def cm_sto (ty : Nat) (n i nL : Nat) (S : cm_S) (k : cm_S → Prop) : Prop := match ty, S.2.2.1 with
  | 0, .int x :: st => i < nL ∧ k (S.1 + n, cm_st1 S.2.1 i (.int x), st, S.2.2.2)
  | 1, .long x :: st => i + 1 < nL ∧ k (S.1 + n, cm_st2 S.2.1 i (.long x), st, S.2.2.2)
  | 2, .ref x :: st => i < nL ∧ k (S.1 + n, cm_st1 S.2.1 i (.ref x), st, S.2.2.2)
  | _, _ => False
def cm_istore : cm_O := (ev_istore.1, fun E P t S k => cm_sto 0 2 t.1.toNat P.2.2.2.2.1 S k)
theorem cm_istore_ok : cm_Snd cm_istore := by
  intro p l e R s m args below meth c cc Q D A adr ce sl E P t S i n cs X h1 hd hw h2 ws H locs ls hR
  obtain ⟨hx, hb, hml, hown, hts, hK, hA, hN, hcC, hcS, hf, hlc, hscr⟩ := X
  obtain ⟨pc, L, st, M⟩ := S
  have h1 : some ((.istore t.1.toNat : Instr), (2 : Nat), ([] : List Cond)) = some (i, n, cs) := h1
  cases h1
  obtain ⟨hP, hD, hS, hW, hL⟩ := hR
  cases st with
  | nil => exact h2.elim
  | cons v st' =>
    cases v with
    | int x =>
      exact lv_istore hx hb hd hL h2.1 (cm_st1_eq adr L t.1.toNat (.int x)) (fun ls' hl' => h2.2 ws H locs ls' ⟨hP, hD, hS, hW, hl'⟩)
    | _ => exact h2.elim

def cm_istoren : cm_O := (ev_istoren.1, fun E P t S k => cm_sto 0 1 t.1.toNat P.2.2.2.2.1 S k)
theorem cm_istoren_ok : cm_Snd cm_istoren := by
  intro p l e R s m args below meth c cc Q D A adr ce sl E P t S i n cs X h1 hd hw h2 ws H locs ls hR
  obtain ⟨hx, hb, hml, hown, hts, hK, hA, hN, hcC, hcS, hf, hlc, hscr⟩ := X
  obtain ⟨pc, L, st, M⟩ := S
  have h1 : (if h : t.1.toNat < 4 then some ((.istore_n ⟨t.1.toNat, h⟩ : Instr), (1 : Nat), ([] : List Cond)) else none) = some (i, n, cs) := h1
  split at h1
  rotate_left
  · cases h1
  cases h1
  obtain ⟨hP, hD, hS, hW, hL⟩ := hR
  cases st with
  | nil => exact h2.elim
  | cons v st' =>
    cases v with
    | int x =>
      exact lv_istore_n hx hb hd rfl hL h2.1 (cm_st1_eq adr L t.1.toNat (.int x)) (fun ls' hl' => h2.2 ws H locs ls' ⟨hP, hD, hS, hW, hl'⟩)
    | _ => exact h2.elim

def cm_lstore : cm_O := (ev_lstore.1, fun E P t S k => cm_sto 1 2 t.1.toNat P.2.2.2.2.1 S k)
theorem cm_lstore_ok : cm_Snd cm_lstore := by
  intro p l e R s m args below meth c cc Q D A adr ce sl E P t S i n cs X h1 hd hw h2 ws H locs ls hR
  obtain ⟨hx, hb, hml, hown, hts, hK, hA, hN, hcC, hcS, hf, hlc, hscr⟩ := X
  obtain ⟨pc, L, st, M⟩ := S
  have h1 : some ((.lstore t.1.toNat : Instr), (2 : Nat), ([] : List Cond)) = some (i, n, cs) := h1
  cases h1
  obtain ⟨hP, hD, hS, hW, hL⟩ := hR
  cases st with
  | nil => exact h2.elim
  | cons v st' =>
    cases v with
    | long x =>
      exact lv_lstore hx hb hd hL h2.1 (cm_st2_eq adr L t.1.toNat (.long x)) (fun ls' hl' => h2.2 ws H locs ls' ⟨hP, hD, hS, hW, hl'⟩)
    | _ => exact h2.elim

def cm_lstoren : cm_O := (ev_lstoren.1, fun E P t S k => cm_sto 1 1 t.1.toNat P.2.2.2.2.1 S k)
theorem cm_lstoren_ok : cm_Snd cm_lstoren := by
  intro p l e R s m args below meth c cc Q D A adr ce sl E P t S i n cs X h1 hd hw h2 ws H locs ls hR
  obtain ⟨hx, hb, hml, hown, hts, hK, hA, hN, hcC, hcS, hf, hlc, hscr⟩ := X
  obtain ⟨pc, L, st, M⟩ := S
  have h1 : (if h : t.1.toNat < 4 then some ((.lstore_n ⟨t.1.toNat, h⟩ : Instr), (1 : Nat), ([] : List Cond)) else none) = some (i, n, cs) := h1
  split at h1
  rotate_left
  · cases h1
  cases h1
  obtain ⟨hP, hD, hS, hW, hL⟩ := hR
  cases st with
  | nil => exact h2.elim
  | cons v st' =>
    cases v with
    | long x =>
      exact lv_lstore_n hx hb hd rfl hL h2.1 (cm_st2_eq adr L t.1.toNat (.long x)) (fun ls' hl' => h2.2 ws H locs ls' ⟨hP, hD, hS, hW, hl'⟩)
    | _ => exact h2.elim

def cm_astore : cm_O := (ev_astore.1, fun E P t S k => cm_sto 2 2 t.1.toNat P.2.2.2.2.1 S k)
theorem cm_astore_ok : cm_Snd cm_astore := by
  intro p l e R s m args below meth c cc Q D A adr ce sl E P t S i n cs X h1 hd hw h2 ws H locs ls hR
  obtain ⟨hx, hb, hml, hown, hts, hK, hA, hN, hcC, hcS, hf, hlc, hscr⟩ := X
  obtain ⟨pc, L, st, M⟩ := S
  have h1 : some ((.astore t.1.toNat : Instr), (2 : Nat), ([] : List Cond)) = some (i, n, cs) := h1
  cases h1
  obtain ⟨hP, hD, hS, hW, hL⟩ := hR
  cases st with
  | nil => exact h2.elim
  | cons v st' =>
    cases v with
    | ref x =>
      exact lv_astore hx hb hd hL h2.1 (cm_st1_eq adr L t.1.toNat (.ref x)) (fun ls' hl' => h2.2 ws H locs ls' ⟨hP, hD, hS, hW, hl'⟩)
    | _ => exact h2.elim

def cm_astoren : cm_O := (ev_astoren.1, fun E P t S k => cm_sto 2 1 t.1.toNat P.2.2.2.2.1 S k)
theorem cm_astoren_ok : cm_Snd cm_astoren := by
  intro p l e R s m args below meth c cc Q D A adr ce sl E P t S i n cs X h1 hd hw h2 ws H locs ls hR
  obtain ⟨hx, hb, hml, hown, hts, hK, hA, hN, hcC, hcS, hf, hlc, hscr⟩ := X
  obtain ⟨pc, L, st, M⟩ := S
  have h1 : (if h : t.1.toNat < 4 then some ((.astore_n ⟨t.1.toNat, h⟩ : Instr), (1 : Nat), ([] : List Cond)) else none) = some (i, n, cs) := h1
  split at h1
  rotate_left
  · cases h1
  cases h1
  obtain ⟨hP, hD, hS, hW, hL⟩ := hR
  cases st with
  | nil => exact h2.elim
  | cons v st' =>
    cases v with
    | ref x =>
      exact lv_astore_n hx hb hd rfl hL h2.1 (cm_st1_eq adr L t.1.toNat (.ref x)) (fun ls' hl' => h2.2 ws H locs ls' ⟨hP, hD, hS, hW, hl'⟩)
    | _ => exact h2.elim

def cm_iadd : cm_O := (ev_iadd.1, fun E P t S k => match S.2.2.1 with
  | .int y :: .int x :: st => k (cm_adv S 1 (.int (x + y) :: st))
  | _ => False)
theorem cm_iadd_ok : cm_Snd cm_iadd := by
  intro p l e R s m args below meth c cc Q D A adr ce sl E P t S i n cs X h1 hd hw h2 ws H locs ls hR
  obtain ⟨hx, hb, hml, hown, hts, hK, hA, hN, hcC, hcS, hf, hlc, hscr⟩ := X
  obtain ⟨pc, L, st, M⟩ := S
  have h1 : some ((.iadd : Instr), (1 : Nat), ([] : List Cond)) = some (i, n, cs) := h1
  cases h1
  unfold cm_iadd at h2
  dsimp only at h2
  split at h2
  · exact lv_iadd hx hb hd (h2 ws H locs ls hR)
  · exact h2.elim

def cm_isub : cm_O := (ev_isub.1, fun E P t S k => match S.2.2.1 with
  | .int y :: .int x :: st => k (cm_adv S 1 (.int (x - y) :: st))
  | _ => False)
theorem cm_isub_ok : cm_Snd cm_isub := by
  intro p l e R s m args below meth c cc Q D A adr ce sl E P t S i n cs X h1 hd hw h2 ws H locs ls hR
  obtain ⟨hx, hb, hml, hown, hts, hK, hA, hN, hcC, hcS, hf, hlc, hscr⟩ := X
  obtain ⟨pc, L, st, M⟩ := S
  have h1 : some ((.isub : Instr), (1 : Nat), ([] : List Cond)) = some (i, n, cs) := h1
  cases h1
  unfold cm_isub at h2
  dsimp only at h2
  split at h2
  · exact lv_isub hx hb hd (h2 ws H locs ls hR)
  · exact h2.elim

def cm_imul : cm_O := (ev_imul.1, fun E P t S k => match S.2.2.1 with
  | .int y :: .int x :: st => k (cm_adv S 1 (.int (x * y) :: st))
  | _ => False)
theorem cm_imul_ok : cm_Snd cm_imul := by
  intro p l e R s m args below meth c cc Q D A adr ce sl E P t S i n cs X h1 hd hw h2 ws H locs ls hR
  obtain ⟨hx, hb, hml, hown, hts, hK, hA, hN, hcC, hcS, hf, hlc, hscr⟩ := X
  obtain ⟨pc, L, st, M⟩ := S
  have h1 : some ((.imul : Instr), (1 : Nat), ([] : List Cond)) = some (i, n, cs) := h1
  cases h1
  unfold cm_imul at h2
  dsimp only at h2
  split at h2
  · exact lv_imul hx hb hd (h2 ws H locs ls hR)
  · exact h2.elim

def cm_iand : cm_O := (ev_iand.1, fun E P t S k => match S.2.2.1 with
  | .int y :: .int x :: st => k (cm_adv S 1 (.int (x &&& y) :: st))
  | _ => False)
theorem cm_iand_ok : cm_Snd cm_iand := by
  intro p l e R s m args below meth c cc Q D A adr ce sl E P t S i n cs X h1 hd hw h2 ws H locs ls hR
  obtain ⟨hx, hb, hml, hown, hts, hK, hA, hN, hcC, hcS, hf, hlc, hscr⟩ := X
  obtain ⟨pc, L, st, M⟩ := S
  have h1 : some ((.iand : Instr), (1 : Nat), ([] : List Cond)) = some (i, n, cs) := h1
  cases h1
  unfold cm_iand at h2
  dsimp only at h2
  split at h2
  · exact lv_iand hx hb hd (h2 ws H locs ls hR)
  · exact h2.elim

def cm_ior : cm_O := (ev_ior.1, fun E P t S k => match S.2.2.1 with
  | .int y :: .int x :: st => k (cm_adv S 1 (.int (x ||| y) :: st))
  | _ => False)
theorem cm_ior_ok : cm_Snd cm_ior := by
  intro p l e R s m args below meth c cc Q D A adr ce sl E P t S i n cs X h1 hd hw h2 ws H locs ls hR
  obtain ⟨hx, hb, hml, hown, hts, hK, hA, hN, hcC, hcS, hf, hlc, hscr⟩ := X
  obtain ⟨pc, L, st, M⟩ := S
  have h1 : some ((.ior : Instr), (1 : Nat), ([] : List Cond)) = some (i, n, cs) := h1
  cases h1
  unfold cm_ior at h2
  dsimp only at h2
  split at h2
  · exact lv_ior hx hb hd (h2 ws H locs ls hR)
  · exact h2.elim

def cm_ixor : cm_O := (ev_ixor.1, fun E P t S k => match S.2.2.1 with
  | .int y :: .int x :: st => k (cm_adv S 1 (.int (x ^^^ y) :: st))
  | _ => False)
theorem cm_ixor_ok : cm_Snd cm_ixor := by
  intro p l e R s m args below meth c cc Q D A adr ce sl E P t S i n cs X h1 hd hw h2 ws H locs ls hR
  obtain ⟨hx, hb, hml, hown, hts, hK, hA, hN, hcC, hcS, hf, hlc, hscr⟩ := X
  obtain ⟨pc, L, st, M⟩ := S
  have h1 : some ((.ixor : Instr), (1 : Nat), ([] : List Cond)) = some (i, n, cs) := h1
  cases h1
  unfold cm_ixor at h2
  dsimp only at h2
  split at h2
  · exact lv_ixor hx hb hd (h2 ws H locs ls hR)
  · exact h2.elim

def cm_ishl : cm_O := (ev_ishl.1, fun E P t S k => match S.2.2.1 with
  | .int y :: .int x :: st => k (cm_adv S 1 (.int (x <<< (y &&& 31)) :: st))
  | _ => False)
theorem cm_ishl_ok : cm_Snd cm_ishl := by
  intro p l e R s m args below meth c cc Q D A adr ce sl E P t S i n cs X h1 hd hw h2 ws H locs ls hR
  obtain ⟨hx, hb, hml, hown, hts, hK, hA, hN, hcC, hcS, hf, hlc, hscr⟩ := X
  obtain ⟨pc, L, st, M⟩ := S
  have h1 : some ((.ishl : Instr), (1 : Nat), ([] : List Cond)) = some (i, n, cs) := h1
  cases h1
  unfold cm_ishl at h2
  dsimp only at h2
  split at h2
  · exact lv_ishl hx hb hd (h2 ws H locs ls hR)
  · exact h2.elim

def cm_ishr : cm_O := (ev_ishr.1, fun E P t S k => match S.2.2.1 with
  | .int y :: .int x :: st => k (cm_adv S 1 (.int (x >>> (y &&& 31)) :: st))
  | _ => False)
theorem cm_ishr_ok : cm_Snd cm_ishr := by
  intro p l e R s m args below meth c cc Q D A adr ce sl E P t S i n cs X h1 hd hw h2 ws H locs ls hR
  obtain ⟨hx, hb, hml, hown, hts, hK, hA, hN, hcC, hcS, hf, hlc, hscr⟩ := X
  obtain ⟨pc, L, st, M⟩ := S
  have h1 : some ((.ishr : Instr), (1 : Nat), ([] : List Cond)) = some (i, n, cs) := h1
  cases h1
  unfold cm_ishr at h2
  dsimp only at h2
  split at h2
  · exact lv_ishr hx hb hd (h2 ws H locs ls hR)
  · exact h2.elim

def cm_iushr : cm_O := (ev_iushr.1, fun E P t S k => match S.2.2.1 with
  | .int y :: .int x :: st => k (cm_adv S 1 (.int ((x.toUInt32 >>> (y.toUInt32 &&& Int32.toUInt32 31)).toInt32) :: st))
  | _ => False)
theorem cm_iushr_ok : cm_Snd cm_iushr := by
  intro p l e R s m args below meth c cc Q D A adr ce sl E P t S i n cs X h1 hd hw h2 ws H locs ls hR
  obtain ⟨hx, hb, hml, hown, hts, hK, hA, hN, hcC, hcS, hf, hlc, hscr⟩ := X
  obtain ⟨pc, L, st, M⟩ := S
  have h1 : some ((.iushr : Instr), (1 : Nat), ([] : List Cond)) = some (i, n, cs) := h1
  cases h1
  unfold cm_iushr at h2
  dsimp only at h2
  split at h2
  · exact lv_iushr hx hb hd rfl (h2 ws H locs ls hR)
  · exact h2.elim

def cm_idiv : cm_O := (ev_idiv.1, fun E P t S k => match S.2.2.1 with
  | .int y :: .int x :: st => ¬ y = 0 ∧ k (cm_adv S 1 (.int (x / y) :: st))
  | _ => False)
theorem cm_idiv_ok : cm_Snd cm_idiv := by
  intro p l e R s m args below meth c cc Q D A adr ce sl E P t S i n cs X h1 hd hw h2 ws H locs ls hR
  obtain ⟨hx, hb, hml, hown, hts, hK, hA, hN, hcC, hcS, hf, hlc, hscr⟩ := X
  obtain ⟨pc, L, st, M⟩ := S
  have h1 : some ((.idiv : Instr), (1 : Nat), ([] : List Cond)) = some (i, n, cs) := h1
  cases h1
  unfold cm_idiv at h2
  dsimp only at h2
  split at h2
  · exact lv_idiv hx hb hd h2.1 (h2.2 ws H locs ls hR)
  · exact h2.elim

def cm_irem : cm_O := (ev_irem.1, fun E P t S k => match S.2.2.1 with
  | .int y :: .int x :: st => ¬ y = 0 ∧ k (cm_adv S 1 (.int (x - x / y * y) :: st))
  | _ => False)
theorem cm_irem_ok : cm_Snd cm_irem := by
  intro p l e R s m args below meth c cc Q D A adr ce sl E P t S i n cs X h1 hd hw h2 ws H locs ls hR
  obtain ⟨hx, hb, hml, hown, hts, hK, hA, hN, hcC, hcS, hf, hlc, hscr⟩ := X
  obtain ⟨pc, L, st, M⟩ := S
  have h1 : some ((.irem : Instr), (1 : Nat), ([] : List Cond)) = some (i, n, cs) := h1
  cases h1
  unfold cm_irem at h2
  dsimp only at h2
  split at h2
  · exact lv_irem hx hb hd h2.1 (h2.2 ws H locs ls hR)
  · exact h2.elim

def cm_ineg : cm_O := (ev_ineg.1, fun E P t S k => match S.2.2.1 with
  | .int x :: st => k (cm_adv S 1 (.int (-x) :: st))
  | _ => False)
theorem cm_ineg_ok : cm_Snd cm_ineg := by
  intro p l e R s m args below meth c cc Q D A adr ce sl E P t S i n cs X h1 hd hw h2 ws H locs ls hR
  obtain ⟨hx, hb, hml, hown, hts, hK, hA, hN, hcC, hcS, hf, hlc, hscr⟩ := X
  obtain ⟨pc, L, st, M⟩ := S
  have h1 : some ((.ineg : Instr), (1 : Nat), ([] : List Cond)) = some (i, n, cs) := h1
  cases h1
  unfold cm_ineg at h2
  dsimp only at h2
  split at h2
  · exact lv_ineg hx hb hd (h2 ws H locs ls hR)
  · exact h2.elim

def cm_i2b : cm_O := (ev_i2b.1, fun E P t S k => match S.2.2.1 with
  | .int x :: st => k (cm_adv S 1 (.int (x.toInt8.toInt32) :: st))
  | _ => False)
theorem cm_i2b_ok : cm_Snd cm_i2b := by
  intro p l e R s m args below meth c cc Q D A adr ce sl E P t S i n cs X h1 hd hw h2 ws H locs ls hR
  obtain ⟨hx, hb, hml, hown, hts, hK, hA, hN, hcC, hcS, hf, hlc, hscr⟩ := X
  obtain ⟨pc, L, st, M⟩ := S
  have h1 : some ((.i2b : Instr), (1 : Nat), ([] : List Cond)) = some (i, n, cs) := h1
  cases h1
  unfold cm_i2b at h2
  dsimp only at h2
  split at h2
  · exact lv_i2b hx hb hd rfl (h2 ws H locs ls hR)
  · exact h2.elim

def cm_i2c : cm_O := (ev_i2c.1, fun E P t S k => match S.2.2.1 with
  | .int x :: st => k (cm_adv S 1 (.int ((x.toUInt32 % 65536).toInt32) :: st))
  | _ => False)
theorem cm_i2c_ok : cm_Snd cm_i2c := by
  intro p l e R s m args below meth c cc Q D A adr ce sl E P t S i n cs X h1 hd hw h2 ws H locs ls hR
  obtain ⟨hx, hb, hml, hown, hts, hK, hA, hN, hcC, hcS, hf, hlc, hscr⟩ := X
  obtain ⟨pc, L, st, M⟩ := S
  have h1 : some ((.i2c : Instr), (1 : Nat), ([] : List Cond)) = some (i, n, cs) := h1
  cases h1
  unfold cm_i2c at h2
  dsimp only at h2
  split at h2
  · exact lv_i2c hx hb hd rfl (h2 ws H locs ls hR)
  · exact h2.elim

def cm_i2l : cm_O := (ev_i2l.1, fun E P t S k => match S.2.2.1 with
  | .int x :: st => k (cm_adv S 1 (.long x.toInt64 :: st))
  | _ => False)
theorem cm_i2l_ok : cm_Snd cm_i2l := by
  intro p l e R s m args below meth c cc Q D A adr ce sl E P t S i n cs X h1 hd hw h2 ws H locs ls hR
  obtain ⟨hx, hb, hml, hown, hts, hK, hA, hN, hcC, hcS, hf, hlc, hscr⟩ := X
  obtain ⟨pc, L, st, M⟩ := S
  have h1 : some ((.i2l : Instr), (1 : Nat), ([] : List Cond)) = some (i, n, cs) := h1
  cases h1
  unfold cm_i2l at h2
  dsimp only at h2
  split at h2
  · exact lv_i2l hx hb hd rfl (h2 ws H locs ls hR)
  · exact h2.elim

def cm_lcmp : cm_O := (ev_lcmp.1, fun E P t S k => match S.2.2.1 with
  | .long y :: .long x :: st => k (cm_adv S 1 (.int (lg_cmp x y) :: st))
  | _ => False)
theorem cm_lcmp_ok : cm_Snd cm_lcmp := by
  intro p l e R s m args below meth c cc Q D A adr ce sl E P t S i n cs X h1 hd hw h2 ws H locs ls hR
  obtain ⟨hx, hb, hml, hown, hts, hK, hA, hN, hcC, hcS, hf, hlc, hscr⟩ := X
  obtain ⟨pc, L, st, M⟩ := S
  have h1 : some ((.lcmp : Instr), (1 : Nat), ([] : List Cond)) = some (i, n, cs) := h1
  cases h1
  unfold cm_lcmp at h2
  dsimp only at h2
  split at h2
  · exact W.lcmp hx hb hd (h2 ws H locs ls hR)
  · exact h2.elim

def cm_ladd : cm_O := (ev_ladd.1, fun E P t S k => match S.2.2.1 with
  | .long y :: .long x :: st => k (cm_adv S 1 (.long (x + y) :: st))
  | _ => False)
theorem cm_ladd_ok : cm_Snd cm_ladd := by
  intro p l e R s m args below meth c cc Q D A adr ce sl E P t S i n cs X h1 hd hw h2 ws H locs ls hR
  obtain ⟨hx, hb, hml, hown, hts, hK, hA, hN, hcC, hcS, hf, hlc, hscr⟩ := X
  obtain ⟨pc, L, st, M⟩ := S
  have h1 : some ((.ladd : Instr), (1 : Nat), ([] : List Cond)) = some (i, n, cs) := h1
  cases h1
  unfold cm_ladd at h2
  dsimp only at h2
  split at h2
  · exact lv_ladd hx hb hd (h2 ws H locs ls hR)
  · exact h2.elim

def cm_lsub : cm_O := (ev_lsub.1, fun E P t S k => match S.2.2.1 with
  | .long y :: .long x :: st => k (cm_adv S 1 (.long (x - y) :: st))
  | _ => False)
theorem cm_lsub_ok : cm_Snd cm_lsub := by
  intro p l e R s m args below meth c cc Q D A adr ce sl E P t S i n cs X h1 hd hw h2 ws H locs ls hR
  obtain ⟨hx, hb, hml, hown, hts, hK, hA, hN, hcC, hcS, hf, hlc, hscr⟩ := X
  obtain ⟨pc, L, st, M⟩ := S
  have h1 : some ((.lsub : Instr), (1 : Nat), ([] : List Cond)) = some (i, n, cs) := h1
  cases h1
  unfold cm_lsub at h2
  dsimp only at h2
  split at h2
  · exact lv_lsub hx hb hd (h2 ws H locs ls hR)
  · exact h2.elim

def cm_lmul : cm_O := (ev_lmul.1, fun E P t S k => match S.2.2.1 with
  | .long y :: .long x :: st => k (cm_adv S 1 (.long (x * y) :: st))
  | _ => False)
theorem cm_lmul_ok : cm_Snd cm_lmul := by
  intro p l e R s m args below meth c cc Q D A adr ce sl E P t S i n cs X h1 hd hw h2 ws H locs ls hR
  obtain ⟨hx, hb, hml, hown, hts, hK, hA, hN, hcC, hcS, hf, hlc, hscr⟩ := X
  obtain ⟨pc, L, st, M⟩ := S
  have h1 : some ((.lmul : Instr), (1 : Nat), ([] : List Cond)) = some (i, n, cs) := h1
  cases h1
  unfold cm_lmul at h2
  dsimp only at h2
  split at h2
  · exact lv_lmul hx hb hd (h2 ws H locs ls hR)
  · exact h2.elim

def cm_ldiv : cm_O := (ev_ldiv.1, fun E P t S k => match S.2.2.1 with
  | .long y :: .long x :: st => ¬ y = 0 ∧ k (cm_adv S 1 (.long (x / y) :: st))
  | _ => False)
theorem cm_ldiv_ok : cm_Snd cm_ldiv := by
  intro p l e R s m args below meth c cc Q D A adr ce sl E P t S i n cs X h1 hd hw h2 ws H locs ls hR
  obtain ⟨hx, hb, hml, hown, hts, hK, hA, hN, hcC, hcS, hf, hlc, hscr⟩ := X
  obtain ⟨pc, L, st, M⟩ := S
  have h1 : some ((.ldiv : Instr), (1 : Nat), ([] : List Cond)) = some (i, n, cs) := h1
  cases h1
  unfold cm_ldiv at h2
  dsimp only at h2
  split at h2
  · exact lv_ldiv hx hb hd h2.1 (h2.2 ws H locs ls hR)
  · exact h2.elim

def cm_lrem : cm_O := (ev_lrem.1, fun E P t S k => match S.2.2.1 with
  | .long y :: .long x :: st => ¬ y = 0 ∧ k (cm_adv S 1 (.long (x - x / y * y) :: st))
  | _ => False)
theorem cm_lrem_ok : cm_Snd cm_lrem := by
  intro p l e R s m args below meth c cc Q D A adr ce sl E P t S i n cs X h1 hd hw h2 ws H locs ls hR
  obtain ⟨hx, hb, hml, hown, hts, hK, hA, hN, hcC, hcS, hf, hlc, hscr⟩ := X
  obtain ⟨pc, L, st, M⟩ := S
  have h1 : some ((.lrem : Instr), (1 : Nat), ([] : List Cond)) = some (i, n, cs) := h1
  cases h1
  unfold cm_lrem at h2
  dsimp only at h2
  split at h2
  · exact lv_lrem hx hb hd h2.1 (h2.2 ws H locs ls hR)
  · exact h2.elim

def cm_dup : cm_O := (ev_dup.1, fun E P t S k => match S.2.2.1 with
  | x :: st => x.category = 1 ∧ k (cm_adv S 1 (x :: x :: st))
  | _ => False)
theorem cm_dup_ok : cm_Snd cm_dup := by
  intro p l e R s m args below meth c cc Q D A adr ce sl E P t S i n cs X h1 hd hw h2 ws H locs ls hR
  obtain ⟨hx, hb, hml, hown, hts, hK, hA, hN, hcC, hcS, hf, hlc, hscr⟩ := X
  obtain ⟨pc, L, st, M⟩ := S
  have h1 : some ((.dup : Instr), (1 : Nat), ([] : List Cond)) = some (i, n, cs) := h1
  cases h1
  unfold cm_dup at h2
  dsimp only at h2
  split at h2
  · exact lv_dup hx hb hd (by rw [cm_v_cat]; exact h2.1) (h2.2 ws H locs ls hR)
  · exact h2.elim

def cm_pop : cm_O := (ev_pop.1, fun E P t S k => match S.2.2.1 with
  | x :: st => x.category = 1 ∧ k (cm_adv S 1 st)
  | _ => False)
theorem cm_pop_ok : cm_Snd cm_pop := by
  intro p l e R s m args below meth c cc Q D A adr ce sl E P t S i n cs X h1 hd hw h2 ws H locs ls hR
  obtain ⟨hx, hb, hml, hown, hts, hK, hA, hN, hcC, hcS, hf, hlc, hscr⟩ := X
  obtain ⟨pc, L, st, M⟩ := S
  have h1 : some ((.pop : Instr), (1 : Nat), ([] : List Cond)) = some (i, n, cs) := h1
  cases h1
  unfold cm_pop at h2
  dsimp only at h2
  split at h2
  · exact lv_pop hx hb hd (by rw [cm_v_cat]; exact h2.1) (h2.2 ws H locs ls hR)
  · exact h2.elim

def cm_pop2 : cm_O := ((fun _ _ => some (.pop2, 1, [])), fun E P t S k => match S.2.2.1 with
  | .long x :: st => k (cm_adv S 1 st)
  | _ => False)
theorem cm_pop2_ok : cm_Snd cm_pop2 := by
  intro p l e R s m args below meth c cc Q D A adr ce sl E P t S i n cs X h1 hd hw h2 ws H locs ls hR
  obtain ⟨hx, hb, hml, hown, hts, hK, hA, hN, hcC, hcS, hf, hlc, hscr⟩ := X
  obtain ⟨pc, L, st, M⟩ := S
  have h1 : some ((.pop2 : Instr), (1 : Nat), ([] : List Cond)) = some (i, n, cs) := h1
  cases h1
  unfold cm_pop2 at h2
  dsimp only at h2
  split at h2
  · exact lv_pop2_2 (va := .long _) hx hb hd rfl (h2 ws H locs ls hR)
  · exact h2.elim

def cm_dup2 : cm_O := (ev_dup2.1, fun E P t S k => match S.2.2.1 with
  | x :: y :: st => x.category = 1 ∧ y.category = 1 ∧ k (cm_adv S 1 (x :: y :: x :: y :: st))
  | _ => False)
theorem cm_dup2_ok : cm_Snd cm_dup2 := by
  intro p l e R s m args below meth c cc Q D A adr ce sl E P t S i n cs X h1 hd hw h2 ws H locs ls hR
  obtain ⟨hx, hb, hml, hown, hts, hK, hA, hN, hcC, hcS, hf, hlc, hscr⟩ := X
  obtain ⟨pc, L, st, M⟩ := S
  have h1 : some ((.dup2 : Instr), (1 : Nat), ([] : List Cond)) = some (i, n, cs) := h1
  cases h1
  unfold cm_dup2 at h2
  dsimp only at h2
  split at h2
  · exact lv_dup2_11 hx hb hd (by rw [cm_v_cat]; exact h2.1) (by rw [cm_v_cat]; exact h2.2.1) (h2.2.2 ws H locs ls hR)
  · exact h2.elim

def cm_iinc : cm_O := (ev_iinc.1, fun E P t S k => match cm_look S.2.1 t.1.toNat with
  | some (.int x) => t.1.toNat < P.2.2.2.2.1 ∧ k (S.1 + 3, cm_st1 S.2.1 t.1.toNat (.int (x + Int32.ofInt t.2.1)), S.2.2)
  | _ => False)
theorem cm_iinc_ok : cm_Snd cm_iinc := by
  intro p l e R s m args below meth c cc Q D A adr ce sl E P t S i n cs X h1 hd hw h2 ws H locs ls hR
  obtain ⟨hx, hb, hml, hown, hts, hK, hA, hN, hcC, hcS, hf, hlc, hscr⟩ := X
  obtain ⟨pc, L, st, M⟩ := S
  have h1 : some ((.iinc t.1.toNat t.2.1 : Instr), (3 : Nat), ([] : List Cond)) = some (i, n, cs) := h1
  cases h1
  unfold cm_iinc at h2
  dsimp only at h2
  split at h2
  · rename_i x ha
    obtain ⟨hP, hD, hS, hW, hL⟩ := hR
    obtain ⟨q, hq⟩ := List.getElem?_of_mem (List.mem_map.mpr ⟨_, cm_look_mem ha, rfl⟩ : (t.1.toNat, cm_v adr (.int x)) ∈ L.map (fun q => (q.1, cm_v adr q.2)))
    exact lv_iinc hx hb hd hL hq rfl h2.1 (cm_st1_eq adr L t.1.toNat (.int (x + Int32.ofInt t.2.1))) (fun ls' hl' => h2.2 ws H locs ls' ⟨hP, hD, hS, hW, hl'⟩)
  · exact h2.elim

def cm_icmp_eq : cm_O := (ev_icmp_eq.1, fun E P t S k => match S.2.2.1 with
  | .int y :: .int x :: st => 0 ≤ (S.1 : Int) + t.1 ∧ (ev_cmp 0 x y = true → k (((S.1 : Int) + t.1).toNat, S.2.1, st, S.2.2.2)) ∧ (ev_cmp 0 x y = false → k (S.1 + 3, S.2.1, st, S.2.2.2))
  | _ => False)
theorem cm_icmp_eq_ok : cm_Snd cm_icmp_eq := by
  intro p l e R s m args below meth c cc Q D A adr ce sl E P t S i n cs X h1 hd hw h2 ws H locs ls hR
  obtain ⟨hx, hb, hml, hown, hts, hK, hA, hN, hcC, hcS, hf, hlc, hscr⟩ := X
  obtain ⟨pc, L, st, M⟩ := S
  have h1 : some ((.if_icmp .eq t.1 : Instr), (3 : Nat), ([] : List Cond)) = some (i, n, cs) := h1
  cases h1
  unfold cm_icmp_eq at h2
  dsimp only at h2
  split at h2
  · obtain ⟨h0, k1, k2⟩ := h2
    exact lv_icmp_eq (tgt := ((pc : Int) + t.1).toNat) hx hb hd (by omega) (fun q => k1 (by simpa [ev_cmp] using q) ws H locs ls hR) (fun q => k2 (by simpa [ev_cmp] using q) ws H locs ls hR)
  · exact h2.elim

def cm_if_eq : cm_O := (ev_if_eq.1, fun E P t S k => match S.2.2.1 with
  | .int x :: st => 0 ≤ (S.1 : Int) + t.1 ∧ (ev_cmp 0 x 0 = true → k (((S.1 : Int) + t.1).toNat, S.2.1, st, S.2.2.2)) ∧ (ev_cmp 0 x 0 = false → k (S.1 + 3, S.2.1, st, S.2.2.2))
  | _ => False)
theorem cm_if_eq_ok : cm_Snd cm_if_eq := by
  intro p l e R s m args below meth c cc Q D A adr ce sl E P t S i n cs X h1 hd hw h2 ws H locs ls hR
  obtain ⟨hx, hb, hml, hown, hts, hK, hA, hN, hcC, hcS, hf, hlc, hscr⟩ := X
  obtain ⟨pc, L, st, M⟩ := S
  have h1 : some ((.ifCond .eq t.1 : Instr), (3 : Nat), ([] : List Cond)) = some (i, n, cs) := h1
  cases h1
  unfold cm_if_eq at h2
  dsimp only at h2
  split at h2
  · obtain ⟨h0, k1, k2⟩ := h2
    exact lv_if_eq (tgt := ((pc : Int) + t.1).toNat) hx hb hd (by omega) (fun q => k1 (by simpa [ev_cmp] using q) ws H locs ls hR) (fun q => k2 (by simpa [ev_cmp] using q) ws H locs ls hR)
  · exact h2.elim

def cm_icmp_ne : cm_O := (ev_icmp_ne.1, fun E P t S k => match S.2.2.1 with
  | .int y :: .int x :: st => 0 ≤ (S.1 : Int) + t.1 ∧ (ev_cmp 1 x y = true → k (((S.1 : Int) + t.1).toNat, S.2.1, st, S.2.2.2)) ∧ (ev_cmp 1 x y = false → k (S.1 + 3, S.2.1, st, S.2.2.2))
  | _ => False)
theorem cm_icmp_ne_ok : cm_Snd cm_icmp_ne := by
  intro p l e R s m args below meth c cc Q D A adr ce sl E P t S i n cs X h1 hd hw h2 ws H locs ls hR
  obtain ⟨hx, hb, hml, hown, hts, hK, hA, hN, hcC, hcS, hf, hlc, hscr⟩ := X
  obtain ⟨pc, L, st, M⟩ := S
  have h1 : some ((.if_icmp .ne t.1 : Instr), (3 : Nat), ([] : List Cond)) = some (i, n, cs) := h1
  cases h1
  unfold cm_icmp_ne at h2
  dsimp only at h2
  split at h2
  · obtain ⟨h0, k1, k2⟩ := h2
    exact lv_icmp_ne (tgt := ((pc : Int) + t.1).toNat) hx hb hd (by omega) (fun q => k1 (by simpa [ev_cmp] using q) ws H locs ls hR) (fun q => k2 (by simpa [ev_cmp] using q) ws H locs ls hR)
  · exact h2.elim

def cm_if_ne : cm_O := (ev_if_ne.1, fun E P t S k => match S.2.2.1 with
  | .int x :: st => 0 ≤ (S.1 : Int) + t.1 ∧ (ev_cmp 1 x 0 = true → k (((S.1 : Int) + t.1).toNat, S.2.1, st, S.2.2.2)) ∧ (ev_cmp 1 x 0 = false → k (S.1 + 3, S.2.1, st, S.2.2.2))
  | _ => False)
theorem cm_if_ne_ok : cm_Snd cm_if_ne := by
  intro p l e R s m args below meth c cc Q D A adr ce sl E P t S i n cs X h1 hd hw h2 ws H locs ls hR
  obtain ⟨hx, hb, hml, hown, hts, hK, hA, hN, hcC, hcS, hf, hlc, hscr⟩ := X
  obtain ⟨pc, L, st, M⟩ := S
  have h1 : some ((.ifCond .ne t.1 : Instr), (3 : Nat), ([] : List Cond)) = some (i, n, cs) := h1
  cases h1
  unfold cm_if_ne at h2
  dsimp only at h2
  split at h2
  · obtain ⟨h0, k1, k2⟩ := h2
    exact lv_if_ne (tgt := ((pc : Int) + t.1).toNat) hx hb hd (by omega) (fun q => k1 (by simpa [ev_cmp] using q) ws H locs ls hR) (fun q => k2 (by simpa [ev_cmp] using q) ws H locs ls hR)
  · exact h2.elim

def cm_icmp_lt : cm_O := (ev_icmp_lt.1, fun E P t S k => match S.2.2.1 with
  | .int y :: .int x :: st => 0 ≤ (S.1 : Int) + t.1 ∧ (ev_cmp 2 x y = true → k (((S.1 : Int) + t.1).toNat, S.2.1, st, S.2.2.2)) ∧ (ev_cmp 2 x y = false → k (S.1 + 3, S.2.1, st, S.2.2.2))
  | _ => False)
theorem cm_icmp_lt_ok : cm_Snd cm_icmp_lt := by
  intro p l e R s m args below meth c cc Q D A adr ce sl E P t S i n cs X h1 hd hw h2 ws H locs ls hR
  obtain ⟨hx, hb, hml, hown, hts, hK, hA, hN, hcC, hcS, hf, hlc, hscr⟩ := X
  obtain ⟨pc, L, st, M⟩ := S
  have h1 : some ((.if_icmp .lt t.1 : Instr), (3 : Nat), ([] : List Cond)) = some (i, n, cs) := h1
  cases h1
  unfold cm_icmp_lt at h2
  dsimp only at h2
  split at h2
  · obtain ⟨h0, k1, k2⟩ := h2
    exact lv_icmp_lt (tgt := ((pc : Int) + t.1).toNat) hx hb hd (by omega) (fun q => k1 (by simpa [ev_cmp] using q) ws H locs ls hR) (fun q => k2 (by simpa [ev_cmp] using q) ws H locs ls hR)
  · exact h2.elim

def cm_if_lt : cm_O := (ev_if_lt.1, fun E P t S k => match S.2.2.1 with
  | .int x :: st => 0 ≤ (S.1 : Int) + t.1 ∧ (ev_cmp 2 x 0 = true → k (((S.1 : Int) + t.1).toNat, S.2.1, st, S.2.2.2)) ∧ (ev_cmp 2 x 0 = false → k (S.1 + 3, S.2.1, st, S.2.2.2))
  | _ => False)
theorem cm_if_lt_ok : cm_Snd cm_if_lt := by
  intro p l e R s m args below meth c cc Q D A adr ce sl E P t S i n cs X h1 hd hw h2 ws H locs ls hR
  obtain ⟨hx, hb, hml, hown, hts, hK, hA, hN, hcC, hcS, hf, hlc, hscr⟩ := X
  obtain ⟨pc, L, st, M⟩ := S
  have h1 : some ((.ifCond .lt t.1 : Instr), (3 : Nat), ([] : List Cond)) = some (i, n, cs) := h1
  cases h1
  unfold cm_if_lt at h2
  dsimp only at h2
  split at h2
  · obtain ⟨h0, k1, k2⟩ := h2
    exact lv_if_lt (tgt := ((pc : Int) + t.1).toNat) hx hb hd (by omega) (fun q => k1 (by simpa [ev_cmp] using q) ws H locs ls hR) (fun q => k2 (by simpa [ev_cmp] using q) ws H locs ls hR)
  · exact h2.elim

def cm_icmp_ge : cm_O := (ev_icmp_ge.1, fun E P t S k => match S.2.2.1 with
  | .int y :: .int x :: st => 0 ≤ (S.1 : Int) + t.1 ∧ (ev_cmp 3 x y = true → k (((S.1 : Int) + t.1).toNat, S.2.1, st, S.2.2.2)) ∧ (ev_cmp 3 x y = false → k (S.1 + 3, S.2.1, st, S.2.2.2))
  | _ => False)
theorem cm_icmp_ge_ok : cm_Snd cm_icmp_ge := by
  intro p l e R s m args below meth c cc Q D A adr ce sl E P t S i n cs X h1 hd hw h2 ws H locs ls hR
  obtain ⟨hx, hb, hml, hown, hts, hK, hA, hN, hcC, hcS, hf, hlc, hscr⟩ := X
  obtain ⟨pc, L, st, M⟩ := S
  have h1 : some ((.if_icmp .ge t.1 : Instr), (3 : Nat), ([] : List Cond)) = some (i, n, cs) := h1
  cases h1
  unfold cm_icmp_ge at h2
  dsimp only at h2
  split at h2
  · obtain ⟨h0, k1, k2⟩ := h2
    exact lv_icmp_ge (tgt := ((pc : Int) + t.1).toNat) hx hb hd (by omega) (fun q => k1 (by simpa [ev_cmp] using q) ws H locs ls hR) (fun q => k2 (by simpa [ev_cmp] using q) ws H locs ls hR)
  · exact h2.elim

def cm_if_ge : cm_O := (ev_if_ge.1, fun E P t S k => match S.2.2.1 with
  | .int x :: st => 0 ≤ (S.1 : Int) + t.1 ∧ (ev_cmp 3 x 0 = true → k (((S.1 : Int) + t.1).toNat, S.2.1, st, S.2.2.2)) ∧ (ev_cmp 3 x 0 = false → k (S.1 + 3, S.2.1, st, S.2.2.2))
  | _ => False)
theorem cm_if_ge_ok : cm_Snd cm_if_ge := by
  intro p l e R s m args below meth c cc Q D A adr ce sl E P t S i n cs X h1 hd hw h2 ws H locs ls hR
  obtain ⟨hx, hb, hml, hown, hts, hK, hA, hN, hcC, hcS, hf, hlc, hscr⟩ := X
  obtain ⟨pc, L, st, M⟩ := S
  have h1 : some ((.ifCond .ge t.1 : Instr), (3 : Nat), ([] : List Cond)) = some (i, n, cs) := h1
  cases h1
  unfold cm_if_ge at h2
  dsimp only at h2
  split at h2
  · obtain ⟨h0, k1, k2⟩ := h2
    exact lv_if_ge (tgt := ((pc : Int) + t.1).toNat) hx hb hd (by omega) (fun q => k1 (by simpa [ev_cmp] using q) ws H locs ls hR) (fun q => k2 (by simpa [ev_cmp] using q) ws H locs ls hR)
  · exact h2.elim

def cm_icmp_gt : cm_O := (ev_icmp_gt.1, fun E P t S k => match S.2.2.1 with
  | .int y :: .int x :: st => 0 ≤ (S.1 : Int) + t.1 ∧ (ev_cmp 4 x y = true → k (((S.1 : Int) + t.1).toNat, S.2.1, st, S.2.2.2)) ∧ (ev_cmp 4 x y = false → k (S.1 + 3, S.2.1, st, S.2.2.2))
  | _ => False)
theorem cm_icmp_gt_ok : cm_Snd cm_icmp_gt := by
  intro p l e R s m args below meth c cc Q D A adr ce sl E P t S i n cs X h1 hd hw h2 ws H locs ls hR
  obtain ⟨hx, hb, hml, hown, hts, hK, hA, hN, hcC, hcS, hf, hlc, hscr⟩ := X
  obtain ⟨pc, L, st, M⟩ := S
  have h1 : some ((.if_icmp .gt t.1 : Instr), (3 : Nat), ([] : List Cond)) = some (i, n, cs) := h1
  cases h1
  unfold cm_icmp_gt at h2
  dsimp only at h2
  split at h2
  · obtain ⟨h0, k1, k2⟩ := h2
    exact lv_icmp_gt (tgt := ((pc : Int) + t.1).toNat) hx hb hd (by omega) (fun q => k1 (by simpa [ev_cmp] using q) ws H locs ls hR) (fun q => k2 (by simpa [ev_cmp] using q) ws H locs ls hR)
  · exact h2.elim

def cm_if_gt : cm_O := (ev_if_gt.1, fun E P t S k => match S.2.2.1 with
  | .int x :: st => 0 ≤ (S.1 : Int) + t.1 ∧ (ev_cmp 4 x 0 = true → k (((S.1 : Int) + t.1).toNat, S.2.1, st, S.2.2.2)) ∧ (ev_cmp 4 x 0 = false → k (S.1 + 3, S.2.1, st, S.2.2.2))
  | _ => False)
theorem cm_if_gt_ok : cm_Snd cm_if_gt := by
  intro p l e R s m args below meth c cc Q D A adr ce sl E P t S i n cs X h1 hd hw h2 ws H locs ls hR
  obtain ⟨hx, hb, hml, hown, hts, hK, hA, hN, hcC, hcS, hf, hlc, hscr⟩ := X
  obtain ⟨pc, L, st, M⟩ := S
  have h1 : some ((.ifCond .gt t.1 : Instr), (3 : Nat), ([] : List Cond)) = some (i, n, cs) := h1
  cases h1
  unfold cm_if_gt at h2
  dsimp only at h2
  split at h2
  · obtain ⟨h0, k1, k2⟩ := h2
    exact lv_if_gt (tgt := ((pc : Int) + t.1).toNat) hx hb hd (by omega) (fun q => k1 (by simpa [ev_cmp] using q) ws H locs ls hR) (fun q => k2 (by simpa [ev_cmp] using q) ws H locs ls hR)
  · exact h2.elim

def cm_icmp_le : cm_O := (ev_icmp_le.1, fun E P t S k => match S.2.2.1 with
  | .int y :: .int x :: st => 0 ≤ (S.1 : Int) + t.1 ∧ (ev_cmp 5 x y = true → k (((S.1 : Int) + t.1).toNat, S.2.1, st, S.2.2.2)) ∧ (ev_cmp 5 x y = false → k (S.1 + 3, S.2.1, st, S.2.2.2))
  | _ => False)
theorem cm_icmp_le_ok : cm_Snd cm_icmp_le := by
  intro p l e R s m args below meth c cc Q D A adr ce sl E P t S i n cs X h1 hd hw h2 ws H locs ls hR
  obtain ⟨hx, hb, hml, hown, hts, hK, hA, hN, hcC, hcS, hf, hlc, hscr⟩ := X
  obtain ⟨pc, L, st, M⟩ := S
  have h1 : some ((.if_icmp .le t.1 : Instr), (3 : Nat), ([] : List Cond)) = some (i, n, cs) := h1
  cases h1
  unfold cm_icmp_le at h2
  dsimp only at h2
  split at h2
  · obtain ⟨h0, k1, k2⟩ := h2
    exact lv_icmp_le (tgt := ((pc : Int) + t.1).toNat) hx hb hd (by omega) (fun q => k1 (by simpa [ev_cmp] using q) ws H locs ls hR) (fun q => k2 (by simpa [ev_cmp] using q) ws H locs ls hR)
  · exact h2.elim

def cm_if_le : cm_O := (ev_if_le.1, fun E P t S k => match S.2.2.1 with
  | .int x :: st => 0 ≤ (S.1 : Int) + t.1 ∧ (ev_cmp 5 x 0 = true → k (((S.1 : Int) + t.1).toNat, S.2.1, st, S.2.2.2)) ∧ (ev_cmp 5 x 0 = false → k (S.1 + 3, S.2.1, st, S.2.2.2))
  | _ => False)
theorem cm_if_le_ok : cm_Snd cm_if_le := by
  intro p l e R s m args below meth c cc Q D A adr ce sl E P t S i n cs X h1 hd hw h2 ws H locs ls hR
  obtain ⟨hx, hb, hml, hown, hts, hK, hA, hN, hcC, hcS, hf, hlc, hscr⟩ := X
  obtain ⟨pc, L, st, M⟩ := S
  have h1 : some ((.ifCond .le t.1 : Instr), (3 : Nat), ([] : List Cond)) = some (i, n, cs) := h1
  cases h1
  unfold cm_if_le at h2
  dsimp only at h2
  split at h2
  · obtain ⟨h0, k1, k2⟩ := h2
    exact lv_if_le (tgt := ((pc : Int) + t.1).toNat) hx hb hd (by omega) (fun q => k1 (by simpa [ev_cmp] using q) ws H locs ls hR) (fun q => k2 (by simpa [ev_cmp] using q) ws H locs ls hR)
  · exact h2.elim

def cm_goto : cm_O := (ev_goto.1, fun E P t S k => 0 ≤ (S.1 : Int) + t.1 ∧ k (((S.1 : Int) + t.1).toNat, S.2))
theorem cm_goto_ok : cm_Snd cm_goto := by
  intro p l e R s m args below meth c cc Q D A adr ce sl E P t S i n cs X h1 hd hw h2 ws H locs ls hR
  obtain ⟨hx, hb, hml, hown, hts, hK, hA, hN, hcC, hcS, hf, hlc, hscr⟩ := X
  obtain ⟨pc, L, st, M⟩ := S
  have h1 : some ((.goto t.1 : Instr), (3 : Nat), ([] : List Cond)) = some (i, n, cs) := h1
  cases h1
  unfold cm_goto at h2
  dsimp only at h2
  exact lv_goto (tgt := ((pc : Int) + t.1).toNat) hx hb hd (by omega) (h2.2 ws H locs ls hR)

def cm_sw : cm_O := (ev_sw.1, fun E P t S k => match t.2.2.2, S.2.2.1 with
  | _ :: offs, .int x :: st => t.2.2.1 - t.2.1 + 1 = (offs.length : Int) ∧ 0 ≤ (S.1 : Int) + t.1 ∧ offs.all (fun o => decide (0 ≤ (S.1 : Int) + o)) = true ∧ (x.toInt < t.2.1 ∨ t.2.2.1 < x.toInt → k (((S.1 : Int) + t.1).toNat, S.2.1, st, S.2.2.2)) ∧ (∀ (j : Nat) (o : Int), offs[j]? = some o → x.toInt = t.2.1 + (j : Int) → k (((S.1 : Int) + o).toNat, S.2.1, st, S.2.2.2))
  | _, _ => False)
theorem cm_sw_ok : cm_Snd cm_sw := by
  intro p l e R s m args below meth c cc Q D A adr ce sl E P t S i n cs X h1 hd hw h2 ws H locs ls hR
  obtain ⟨hx, hb, hml, hown, hts, hK, hA, hN, hcC, hcS, hf, hlc, hscr⟩ := X
  obtain ⟨pc, L, st, M⟩ := S
  obtain ⟨dflt, lo, hi, offs0⟩ := t
  cases offs0 with
  | nil => cases h1
  | cons len offs =>
    have h1 : some ((.tableswitch dflt lo hi offs.toArray : Instr), len.toNat, ([] : List Cond)) = some (i, n, cs) := h1
    cases h1
    cases st with
    | nil => exact h2.elim
    | cons v st' =>
      cases v with
      | int x =>
        obtain ⟨hlen, hd0, hall, k1, k2⟩ := h2
        dsimp only at hlen hd0 hall k1 k2
        by_cases hq : x.toInt < lo ∨ hi < x.toInt
        · exact lv_tableOut (tgt := ((pc : Int) + dflt).toNat) hx hb hd hq (by omega) (k1 hq ws H locs ls hR)
        · have q1 : ¬ x.toInt < lo := fun z => hq (Or.inl z)
          have q2 : ¬ hi < x.toInt := fun z => hq (Or.inr z)
          have hj : (x.toInt - lo).toNat < offs.length := by omega
          have ho := List.getElem?_eq_getElem hj
          have h0 := List.all_eq_true.mp hall _ (List.getElem_mem hj)
          simp only [decide_eq_true_eq] at h0
          exact lv_tableIn (off := offs[(x.toInt - lo).toNat]) hx hb hd q1 q2 (by rw [List.getElem?_toArray]; exact ho) (tgt := ((pc : Int) + offs[(x.toInt - lo).toNat]).toNat) (by omega) (k2 _ _ ho (by omega) ws H locs ls hR)
      | _ => exact h2.elim
end
section
/-! CM: cells -/
theorem cm_ty_at {ci : Nat} {r : vw_C} (h : vwCl[ci]? = some r) : ∃ ty, ev_tyl[ci]? = some ty := ⟨_, List.getElem?_eq_getElem (show ci < ev_tyl.length from (List.getElem?_eq_some_iff.mp h).1)⟩
theorem cm_obj {s : State} {adr : Nat → Nat} {M : cm_M} {ws : va_W} {k ci N : Nat} (h : cm_w s adr M ws) (hk : cm_kind k = (ci, N)) (hci : ci < 100) : ∃ fs, ws[k]? = some (adr k, .inr (ci, fs)) ∧ fs.length = N ∧ ∀ j, j < N → fs[j]? = some (cm_v adr (cm_rd M (cm_ft ci j) k j)) := by
  obtain ⟨x, h1, h2⟩ := cm_cell h (cm_kind_at hk (by dsimp only; omega))
  cases x with
  | inl a =>
    obtain ⟨t, a1, a2, -⟩ := h2
    dsimp only at a2
    omega
  | inr o =>
    obtain ⟨c1, fs⟩ := o
    obtain ⟨b1, b2, b3, b4⟩ := h2
    dsimp only at b1 b3 b4
    subst b1
    exact ⟨fs, h1, b3, b4⟩
theorem cm_arr {s : State} {adr : Nat → Nat} {M : cm_M} {ws : va_W} {k t N : Nat} (h : cm_w s adr M ws) (hk : cm_kind k = (100 + t, N)) (ht : t < 4) : ∃ cA arr, ws[k]? = some (adr k, .inl (cA, N, arr)) ∧ ArrOfT s cA (ev_ty t) ∧ va_RA s cA (ev_ty t) ∧ cm_ar adr M k t N arr := by
  obtain ⟨x, h1, h2⟩ := cm_cell h (cm_kind_at hk (by dsimp only; omega))
  cases x with
  | inr o =>
    obtain ⟨b1, b2, -⟩ := h2
    dsimp only at b2
    omega
  | inl a =>
    obtain ⟨cA, n, arr⟩ := a
    obtain ⟨tt, a1, a2, a3, a4, a5, a6⟩ := h2
    dsimp only at a2 a3 a4 a5 a6
    have : tt = t := by omega
    subst this
    subst a3
    exact ⟨cA, arr, h1, a4, a5, a6⟩
theorem cm_in {i : Int32} {n : Nat} (h1 : 0 ≤ i.toInt) (h2 : i.toInt < (n : Int)) : vp_in i n ∧ i.toNatClampNeg < n := by
  have hv : vp_in i n := by rw [vp_in_iff]; exact ⟨h1, h2⟩
  refine ⟨hv, ?_⟩
  unfold vp_in at hv
  exact Nat.lt_of_not_le (fun q => hv (Or.inr q))
/-- a value that a field may hold -/
def cm_fit (ci j : Nat) (v : Value) : Prop := match v with
  | .int x => cm_ft ci j = 0 ∧ (cm_isB ci j = true → x = 0 ∨ x = 1)
  | .long _ => cm_ft ci j = 2
  | .ref _ => cm_ft ci j = 3
  | .null => cm_ft ci j = 3
  | _ => False
def cm_wf (M : cm_M) (c j : Nat) (v : Value) : cm_M := match v with
  | .int x => cm_wi M c j x
  | .long x => cm_wl M c j x
  | .ref q => cm_wr M c j (some q)
  | .null => cm_wr M c j none
  | _ => M
/-- all fields of our classes are ints, truth values, longs or references -/
def cm_tyok (ty : FieldType) : Bool := match ty with
  | .int => true
  | .boolean => true
  | .long => true
  | .object _ => true
  | .array _ => true
  | _ => false
theorem cm_tys : ∀ (ci : Nat) (r : vw_C) (ty : Nat → FieldType), vwCl[ci]? = some r → ev_tyl[ci]? = some ty → ∀ k, k < r.2.2 → cm_tyok (ty k) = true
  | 0, r, ty, h1, h2 => by cases h1; cases h2; decide
  | 1, r, ty, h1, h2 => by cases h1; cases h2; decide
  | 2, r, ty, h1, h2 => by cases h1; cases h2; decide
  | 3, r, ty, h1, h2 => by cases h1; cases h2; decide
  | 4, r, ty, h1, h2 => by cases h1; cases h2; decide
  | 5, r, ty, h1, h2 => by cases h1; cases h2; decide
  | 6, r, ty, h1, h2 => by cases h1; cases h2; decide
  | 7, r, ty, h1, h2 => by cases h1; cases h2; decide
  | 8, r, ty, h1, h2 => by cases h1; cases h2; decide
  | 9, r, ty, h1, h2 => by cases h1; cases h2; decide
  | n + 10, r, ty, h1, h2 => by cases h1
theorem cm_fit_ok {ci j : Nat} {ty : Nat → FieldType} (hty : ev_tyl[ci]? = some ty) (hok : cm_tyok (ty j) = true) {v : Value} (h : cm_fit ci j v) (adr : Nat → Nat) : narrow (ty j) (cm_v adr v) = cm_v adr v ∧ fits (ty j) (cm_v adr v) = true := by
  unfold cm_fit at h
  split at h
  · rename_i x
    obtain ⟨h1, h2⟩ := h
    simp only [cm_ft, hty] at h1
    simp only [cm_isB, hty] at h2
    cases hz : ty j <;> rw [hz] at hok h1 h2 <;> simp [cm_tyok] at hok h1 h2
    · exact ⟨rfl, rfl⟩
    · rcases h2 with rfl | rfl
      · exact (by decide : narrow .boolean (.int 0) = .int 0 ∧ fits .boolean (.int 0) = true)
      · exact (by decide : narrow .boolean (.int 1) = .int 1 ∧ fits .boolean (.int 1) = true)
  · simp only [cm_ft, hty] at h
    cases hz : ty j <;> rw [hz] at hok h <;> simp [cm_tyok] at hok h
    exact ⟨rfl, rfl⟩
  · simp only [cm_ft, hty] at h
    cases hz : ty j <;> rw [hz] at hok h <;> simp [cm_tyok] at hok h
    · exact ⟨rfl, rfl⟩
    · exact ⟨rfl, rfl⟩
  · simp only [cm_ft, hty] at h
    cases hz : ty j <;> rw [hz] at hok h <;> simp [cm_tyok] at hok h
    · exact ⟨rfl, rfl⟩
    · exact ⟨rfl, rfl⟩
  · exact h.elim
theorem cm_wf_rd {ci c j : Nat} {M : cm_M} {v : Value} (h : cm_fit ci j v) (j' : Nat) : cm_rd (cm_wf M c j v) (cm_ft ci j') c j' = if j' = j then v else cm_rd M (cm_ft ci j') c j' := by
  by_cases hj : j' = j
  · subst hj
    rw [if_pos rfl]
    unfold cm_fit at h
    split at h
    · rw [h.1]; simp [cm_rd, cm_wf, cm_wi]
    · rw [h]; simp [cm_rd, cm_wf, cm_wl]
    · rw [h]; simp [cm_rd, cm_wf, cm_wr, cm_rq]
    · rw [h]; simp [cm_rd, cm_wf, cm_wr, cm_rq]
    · exact h.elim
  · rw [if_neg hj]
    unfold cm_wf
    split <;> (unfold cm_rd; split <;> simp [cm_wi, cm_wl, cm_wr, hj])
theorem cm_wf_ne {s : State} {adr : Nat → Nat} {M : cm_M} {c j : Nat} {v : Value} : ∀ k q y, k ≠ c → cm_c s adr M k q y → cm_c s adr (cm_wf M c j v) k q y := by
  intro k q y hk h
  refine cm_c_ne (fun i => ?_) (fun i => ?_) (fun i => ?_) h <;> (unfold cm_wf; split <;> simp [cm_wi, cm_wl, cm_wr, hk])
theorem cm_nfs : ∀ q ∈ cm_lay, q.1 < 10 → (vwCl[q.1]?).map (fun r => r.2.2) = some q.2 := by decide +kernel
theorem cm_nf {c ci j : Nat} {r : vw_C} (hr : vwCl[ci]? = some r) (h1 : (cm_kind c).1 = ci) (h2 : j < (cm_kind c).2) : j < r.2.2 := by
  have hci : ci < 10 := (List.getElem?_eq_some_iff.mp hr).1
  have h3 := cm_nfs _ (List.mem_of_getElem? (cm_kind_at (c := c) rfl (by omega))) (by omega)
  rw [h1, hr] at h3
  have h4 : r.2.2 = (cm_kind c).2 := Option.some.inj h3
  omega
def cm_get : cm_O := (ev_get.1, fun E P t S k => match S.2.2.1 with
  | .ref c :: st => (cm_kind c).1 = t.1.toNat ∧ t.2.1.toNat < (cm_kind c).2 ∧ k (cm_adv S 3 (cm_rd S.2.2.2 (cm_ft t.1.toNat t.2.1.toNat) c t.2.1.toNat :: st))
  | _ => False)
theorem cm_get_ok : cm_Snd cm_get := by
  intro p l e R s m args below meth c cc Q D A adr ce sl E P t S i n cs X h1 hd hw h2 ws H locs ls hR
  obtain ⟨hx, hb, hml, hown, hts, hK, hA, hN, hcC, hcS, hf, hlc, hscr⟩ := X
  obtain ⟨pc, L, st, M⟩ := S
  obtain ⟨t1, t2, t3, t4⟩ := t
  unfold cm_get ev_get at h1
  unfold cm_get at h2
  dsimp only at h1 h2
  cases hr : vwCl[t1.toNat]? with
  | none => simp [hr] at h1
  | some r =>
    rw [hr] at h1
    dsimp only at h1
    cases h1
    obtain ⟨hP, hD, hS, hW, hL⟩ := id hR
    have hci : t1.toNat < 10 := (List.getElem?_eq_some_iff.mp hr).1
    obtain ⟨ty, hty⟩ := cm_ty_at hr
    obtain ⟨k1, k2, k3, -⟩ := ev_cls _ r ty hr hty
    split at h2
    rotate_left
    · exact h2.elim
    rename_i c st'
    obtain ⟨hc1, hc2, hk⟩ := h2
    obtain ⟨fs, e1, e2, e3⟩ := cm_obj hW (show cm_kind c = (t1.toNat, (cm_kind c).2) from by rw [← hc1]) (by omega)
    exact va_get hx hb hts k1 hown hK hP _ e1 hr t2.toNat (cm_nf hr hc1 hc2) (hts _ (hw _ (List.mem_singleton.mpr rfl))) (fun _ h => h) (e3 _ hc2) hd (hk ws H locs ls hR)

def cm_fin (ci j : Nat) : Bool := match vwCl[ci]? with
  | some r => (r.2.1 j).2.2.2
  | none => true
def cm_put : cm_O := (ev_put.1, fun E P t S k => match S.2.2.1 with
  | v :: .ref c :: st => (cm_kind c).1 = t.1.toNat ∧ t.2.1.toNat < (cm_kind c).2 ∧ cm_fin t.1.toNat t.2.1.toNat = false ∧ cm_fit t.1.toNat t.2.1.toNat v ∧ k (S.1 + 3, S.2.1, st, cm_wf S.2.2.2 c t.2.1.toNat v)
  | _ => False)
theorem cm_put_ok : cm_Snd cm_put := by
  intro p l e R s m args below meth c cc Q D A adr ce sl E P t S i n cs X h1 hd hw h2 ws H locs ls hR
  obtain ⟨hx, hb, hml, hown, hts, hK, hA, hN, hcC, hcS, hf, hlc, hscr⟩ := X
  obtain ⟨pc, L, st, M⟩ := S
  obtain ⟨t1, t2, t3, t4⟩ := t
  unfold cm_put ev_put at h1
  unfold cm_put at h2
  dsimp only at h1 h2
  cases hr : vwCl[t1.toNat]? with
  | none => simp [hr] at h1
  | some r =>
    rw [hr] at h1
    dsimp only at h1
    cases h1
    obtain ⟨hP, hD, hS, hW, hL⟩ := id hR
    have hci : t1.toNat < 10 := (List.getElem?_eq_some_iff.mp hr).1
    obtain ⟨ty, hty⟩ := cm_ty_at hr
    obtain ⟨k1, k2, k3, -⟩ := ev_cls _ r ty hr hty
    split at h2
    rotate_left
    · exact h2.elim
    rename_i v c st'
    obtain ⟨hc1, hc2, hfin, hft, hk⟩ := h2
    obtain ⟨fs, e1, e2, e3⟩ := cm_obj hW (show cm_kind c = (t1.toNat, (cm_kind c).2) from by rw [← hc1]) (by omega)
    have hn := cm_nf hr hc1 hc2
    obtain ⟨hn1, hn2⟩ := cm_fit_ok hty (cm_tys _ r ty hr hty _ hn) hft adr
    simp only [cm_fin, hr] at hfin
    refine va_put hx hb hts k1 ty k2 k3 hown hK hP hD hS _ e1 hr t2.toNat hn (hts _ (hw _ (List.mem_singleton.mpr rfl))) (fun _ h => h) hfin (k2 _ hn) hn1 hn2 (by rw [e2]; exact hc2) hd (fun H1 locs1 hP1 hD1 hS1 => hk _ H1 locs1 ls ⟨hP1, hD1, hS1, cm_w_set hW (cm_kind_at (q := (t1.toNat, (cm_kind c).2)) (by rw [← hc1]) (by dsimp only; omega)) ⟨rfl, by dsimp only; omega, by dsimp only; rw [List.length_set]; exact e2, fun j hj => ?_⟩ cm_wf_ne, hL⟩)
    dsimp only at hj ⊢
    rw [cm_wf_rd hft]
    by_cases hjk : j = t2.toNat
    · subst hjk
      rw [if_pos rfl]
      exact List.getElem?_set_self (by rw [e2]; exact hj)
    · rw [if_neg hjk, List.getElem?_set_ne (Ne.symm hjk)]
      exact e3 j hj

/-! CM: arrays -/
def cm_iaload : cm_O := (ev_iaload.1, fun E P t S k => match S.2.2.1 with
  | .int i :: .ref c :: st => (cm_kind c).1 = 100 + 0 ∧ 0 ≤ i.toInt ∧ i.toInt < ((cm_kind c).2 : Int) ∧ k (cm_adv S 1 (.int (S.2.2.2.1 c i.toNatClampNeg) :: st))
  | _ => False)
theorem cm_iaload_ok : cm_Snd cm_iaload := by
  intro p l e R s m args below meth c cc Q D A adr ce sl E P t S i n cs X h1 hd hw h2 ws H locs ls hR
  obtain ⟨hx, hb, hml, hown, hts, hK, hA, hN, hcC, hcS, hf, hlc, hscr⟩ := X
  obtain ⟨pc, L, st, M⟩ := S
  have h1 : some ((.iaload : Instr), (1 : Nat), ([] : List Cond)) = some (i, n, cs) := h1
  cases h1
  unfold cm_iaload at h2
  dsimp only at h2
  split at h2
  rotate_left
  · exact h2.elim
  rename_i i c st'
  obtain ⟨hc1, hi1, hi2, hk⟩ := h2
  obtain ⟨hP, hD, hS, hW, hL⟩ := id hR
  obtain ⟨cA, arr, e1, e2, e3, e4⟩ := cm_arr (t := 0) hW (show cm_kind c = (100 + 0, (cm_kind c).2) from by rw [← hc1]) (by decide)
  obtain ⟨hv, hj⟩ := cm_in hi1 hi2
  rcases arr with f | f | f | f | f
  · refine va_iald hx hb (ev_K1 hK e2 e3) hP _ 0 e1 rfl hv hd ?_
    rw [e4.2 _ hj]
    exact hk ws H locs ls hR
  · first | exact e4.elim | (have := e4.1; omega)
  · first | exact e4.elim | (have := e4.1; omega)
  · first | exact e4.elim | (have := e4.1; omega)
  · first | exact e4.elim | (have := e4.1; omega)

def cm_baload : cm_O := (ev_baload.1, fun E P t S k => match S.2.2.1 with
  | .int i :: .ref c :: st => (cm_kind c).1 = 100 + 1 ∧ 0 ≤ i.toInt ∧ i.toInt < ((cm_kind c).2 : Int) ∧ k (cm_adv S 1 (.int (S.2.2.2.1 c i.toNatClampNeg) :: st))
  | _ => False)
theorem cm_baload_ok : cm_Snd cm_baload := by
  intro p l e R s m args below meth c cc Q D A adr ce sl E P t S i n cs X h1 hd hw h2 ws H locs ls hR
  obtain ⟨hx, hb, hml, hown, hts, hK, hA, hN, hcC, hcS, hf, hlc, hscr⟩ := X
  obtain ⟨pc, L, st, M⟩ := S
  have h1 : some ((.baload : Instr), (1 : Nat), ([] : List Cond)) = some (i, n, cs) := h1
  cases h1
  unfold cm_baload at h2
  dsimp only at h2
  split at h2
  rotate_left
  · exact h2.elim
  rename_i i c st'
  obtain ⟨hc1, hi1, hi2, hk⟩ := h2
  obtain ⟨hP, hD, hS, hW, hL⟩ := id hR
  obtain ⟨cA, arr, e1, e2, e3, e4⟩ := cm_arr (t := 1) hW (show cm_kind c = (100 + 1, (cm_kind c).2) from by rw [← hc1]) (by decide)
  obtain ⟨hv, hj⟩ := cm_in hi1 hi2
  rcases arr with f | f | f | f | f
  · refine va_bald hx hb (ev_K1 hK e2 e3) hP _ 0 e1 rfl hv hd ?_
    rw [e4.2 _ hj]
    exact hk ws H locs ls hR
  · first | exact e4.elim | (have := e4.1; omega)
  · first | exact e4.elim | (have := e4.1; omega)
  · first | exact e4.elim | (have := e4.1; omega)
  · first | exact e4.elim | (have := e4.1; omega)

def cm_laload : cm_O := (ev_laload.1, fun E P t S k => match S.2.2.1 with
  | .int i :: .ref c :: st => (cm_kind c).1 = 100 + 2 ∧ 0 ≤ i.toInt ∧ i.toInt < ((cm_kind c).2 : Int) ∧ k (cm_adv S 1 (.long (S.2.2.2.2.1 c i.toNatClampNeg) :: st))
  | _ => False)
theorem cm_laload_ok : cm_Snd cm_laload := by
  intro p l e R s m args below meth c cc Q D A adr ce sl E P t S i n cs X h1 hd hw h2 ws H locs ls hR
  obtain ⟨hx, hb, hml, hown, hts, hK, hA, hN, hcC, hcS, hf, hlc, hscr⟩ := X
  obtain ⟨pc, L, st, M⟩ := S
  have h1 : some ((.laload : Instr), (1 : Nat), ([] : List Cond)) = some (i, n, cs) := h1
  cases h1
  unfold cm_laload at h2
  dsimp only at h2
  split at h2
  rotate_left
  · exact h2.elim
  rename_i i c st'
  obtain ⟨hc1, hi1, hi2, hk⟩ := h2
  obtain ⟨hP, hD, hS, hW, hL⟩ := id hR
  obtain ⟨cA, arr, e1, e2, e3, e4⟩ := cm_arr (t := 2) hW (show cm_kind c = (100 + 2, (cm_kind c).2) from by rw [← hc1]) (by decide)
  obtain ⟨hv, hj⟩ := cm_in hi1 hi2
  rcases arr with f | f | f | f | f
  · first | exact e4.elim | (have := e4.1; omega)
  · refine va_lald hx hb (ev_K1 hK e2 e3) hP _ 0 e1 rfl hv hd ?_
    rw [e4.2 _ hj]
    exact hk ws H locs ls hR
  · first | exact e4.elim | (have := e4.1; omega)
  · first | exact e4.elim | (have := e4.1; omega)
  · first | exact e4.elim | (have := e4.1; omega)

def cm_aaload : cm_O := (ev_aaload.1, fun E P t S k => match S.2.2.1 with
  | .int i :: .ref c :: st => (cm_kind c).1 = 100 + 3 ∧ 0 ≤ i.toInt ∧ i.toInt < ((cm_kind c).2 : Int) ∧ k (cm_adv S 1 (cm_rq (S.2.2.2.2.2 c i.toNatClampNeg) :: st))
  | _ => False)
theorem cm_aaload_ok : cm_Snd cm_aaload := by
  intro p l e R s m args below meth c cc Q D A adr ce sl E P t S i n cs X h1 hd hw h2 ws H locs ls hR
  obtain ⟨hx, hb, hml, hown, hts, hK, hA, hN, hcC, hcS, hf, hlc, hscr⟩ := X
  obtain ⟨pc, L, st, M⟩ := S
  have h1 : some ((.aaload : Instr), (1 : Nat), ([] : List Cond)) = some (i, n, cs) := h1
  cases h1
  unfold cm_aaload at h2
  dsimp only at h2
  split at h2
  rotate_left
  · exact h2.elim
  rename_i i c st'
  obtain ⟨hc1, hi1, hi2, hk⟩ := h2
  obtain ⟨hP, hD, hS, hW, hL⟩ := id hR
  obtain ⟨cA, arr, e1, e2, e3, e4⟩ := cm_arr (t := 3) hW (show cm_kind c = (100 + 3, (cm_kind c).2) from by rw [← hc1]) (by decide)
  obtain ⟨hv, hj⟩ := cm_in hi1 hi2
  rcases arr with f | f | f | f | f
  · first | exact e4.elim | (have := e4.1; omega)
  · first | exact e4.elim | (have := e4.1; omega)
  · first | exact e4.elim | (have := e4.1; omega)
  · first | exact e4.elim | (have := e4.1; omega)
  · refine va_aldq hx hb (ev_K1 hK e2 e3) hP _ 0 e1 rfl hv hd ?_
    rw [e4.2 _ hj]
    have := hk ws H locs ls hR
    cases hz : M.2.2 c i.toNatClampNeg with
    | none => rw [hz] at this; exact this
    | some q => rw [hz] at this; exact this

theorem cm_wi_ne {s : State} {adr : Nat → Nat} {M : cm_M} {c j : Nat} {x : Int32} : ∀ k q y, k ≠ c → cm_c s adr M k q y → cm_c s adr (cm_wi M c j x) k q y := fun k q y hk h => cm_c_ne (M := M) (fun i => by simp [cm_wi, hk]) (fun i => rfl) (fun i => rfl) h
theorem cm_wl_ne {s : State} {adr : Nat → Nat} {M : cm_M} {c j : Nat} {x : Int64} : ∀ k q y, k ≠ c → cm_c s adr M k q y → cm_c s adr (cm_wl M c j x) k q y := fun k q y hk h => cm_c_ne (M := M) (fun i => rfl) (fun i => by simp [cm_wl, hk]) (fun i => rfl) h
theorem cm_cp_ne {s : State} {adr : Nat → Nat} {M : cm_M} {a sp d dp n : Nat} : ∀ k q y, k ≠ d → cm_c s adr M k q y → cm_c s adr (cm_cp M a sp d dp n) k q y := fun k q y hk h => cm_c_ne (M := M) (fun i => by simp [cm_cp, hk]) (fun i => rfl) (fun i => rfl) h
def cm_iastore : cm_O := (ev_iastore.1, fun E P t S k => match S.2.2.1 with
  | .int x :: .int i :: .ref c :: st => (cm_kind c).1 = 100 + 0 ∧ 0 ≤ i.toInt ∧ i.toInt < ((cm_kind c).2 : Int) ∧ k (S.1 + 1, S.2.1, st, cm_wi S.2.2.2 c i.toNatClampNeg x)
  | _ => False)
theorem cm_iastore_ok : cm_Snd cm_iastore := by
  intro p l e R s m args below meth c cc Q D A adr ce sl E P t S i n cs X h1 hd hw h2 ws H locs ls hR
  obtain ⟨hx, hb, hml, hown, hts, hK, hA, hN, hcC, hcS, hf, hlc, hscr⟩ := X
  obtain ⟨pc, L, st, M⟩ := S
  have h1 : some ((.iastore : Instr), (1 : Nat), ([] : List Cond)) = some (i, n, cs) := h1
  cases h1
  unfold cm_iastore at h2
  dsimp only at h2
  split at h2
  rotate_left
  · exact h2.elim
  rename_i x i c st'
  obtain ⟨hc1, hi1, hi2, hk⟩ := h2
  obtain ⟨hP, hD, hS, hW, hL⟩ := id hR
  obtain ⟨cA, arr, e1, e2, e3, e4⟩ := cm_arr (t := 0) hW (show cm_kind c = (100 + 0, (cm_kind c).2) from by rw [← hc1]) (by decide)
  obtain ⟨hv, hj⟩ := cm_in hi1 hi2
  rcases arr with f | f | f | f | f
  · refine va_iast hx hb (ev_K1 hK e2 e3) hP hD hS _ 0 e1 rfl hv hd (fun H1 locs1 hP1 hD1 hS1 => hk _ H1 locs1 ls ⟨hP1, hD1, hS1, cm_w_set hW (cm_kind_at (q := (100 + 0, (cm_kind c).2)) (by rw [← hc1]) (by dsimp only; omega)) ⟨0, by decide, rfl, rfl, e2, e3, by decide, fun j hj => ?_⟩ cm_wi_ne, hL⟩)
    dsimp only [upd, cm_wi, cm_wl]
    by_cases hji : j = i.toNatClampNeg
    · simp [hji]
    · simp only [hji, and_false, if_false]
      exact e4.2 j hj
  · first | exact e4.elim | (have := e4.1; omega)
  · first | exact e4.elim | (have := e4.1; omega)
  · first | exact e4.elim | (have := e4.1; omega)
  · first | exact e4.elim | (have := e4.1; omega)

def cm_bastore : cm_O := (ev_bastore.1, fun E P t S k => match S.2.2.1 with
  | .int x :: .int i :: .ref c :: st => (cm_kind c).1 = 100 + 1 ∧ 0 ≤ i.toInt ∧ i.toInt < ((cm_kind c).2 : Int) ∧ k (S.1 + 1, S.2.1, st, cm_wi S.2.2.2 c i.toNatClampNeg (vp_nar .byte x))
  | _ => False)
theorem cm_bastore_ok : cm_Snd cm_bastore := by
  intro p l e R s m args below meth c cc Q D A adr ce sl E P t S i n cs X h1 hd hw h2 ws H locs ls hR
  obtain ⟨hx, hb, hml, hown, hts, hK, hA, hN, hcC, hcS, hf, hlc, hscr⟩ := X
  obtain ⟨pc, L, st, M⟩ := S
  have h1 : some ((.bastore : Instr), (1 : Nat), ([] : List Cond)) = some (i, n, cs) := h1
  cases h1
  unfold cm_bastore at h2
  dsimp only at h2
  split at h2
  rotate_left
  · exact h2.elim
  rename_i x i c st'
  obtain ⟨hc1, hi1, hi2, hk⟩ := h2
  obtain ⟨hP, hD, hS, hW, hL⟩ := id hR
  obtain ⟨cA, arr, e1, e2, e3, e4⟩ := cm_arr (t := 1) hW (show cm_kind c = (100 + 1, (cm_kind c).2) from by rw [← hc1]) (by decide)
  obtain ⟨hv, hj⟩ := cm_in hi1 hi2
  rcases arr with f | f | f | f | f
  · refine va_bast hx hb (ev_K1 hK e2 e3) hP hD hS _ 0 e1 rfl hv hd (fun H1 locs1 hP1 hD1 hS1 => hk _ H1 locs1 ls ⟨hP1, hD1, hS1, cm_w_set hW (cm_kind_at (q := (100 + 1, (cm_kind c).2)) (by rw [← hc1]) (by dsimp only; omega)) ⟨1, by decide, rfl, rfl, e2, e3, by decide, fun j hj => ?_⟩ cm_wi_ne, hL⟩)
    dsimp only [upd, cm_wi, cm_wl]
    by_cases hji : j = i.toNatClampNeg
    · simp [hji]
    · simp only [hji, and_false, if_false]
      exact e4.2 j hj
  · first | exact e4.elim | (have := e4.1; omega)
  · first | exact e4.elim | (have := e4.1; omega)
  · first | exact e4.elim | (have := e4.1; omega)
  · first | exact e4.elim | (have := e4.1; omega)

def cm_lastore : cm_O := ((fun _ _ => some (.lastore, 1, [])), fun E P t S k => match S.2.2.1 with
  | .long x :: .int i :: .ref c :: st => (cm_kind c).1 = 100 + 2 ∧ 0 ≤ i.toInt ∧ i.toInt < ((cm_kind c).2 : Int) ∧ k (S.1 + 1, S.2.1, st, cm_wl S.2.2.2 c i.toNatClampNeg x)
  | _ => False)
theorem cm_lastore_ok : cm_Snd cm_lastore := by
  intro p l e R s m args below meth c cc Q D A adr ce sl E P t S i n cs X h1 hd hw h2 ws H locs ls hR
  obtain ⟨hx, hb, hml, hown, hts, hK, hA, hN, hcC, hcS, hf, hlc, hscr⟩ := X
  obtain ⟨pc, L, st, M⟩ := S
  have h1 : some ((.lastore : Instr), (1 : Nat), ([] : List Cond)) = some (i, n, cs) := h1
  cases h1
  unfold cm_lastore at h2
  dsimp only at h2
  split at h2
  rotate_left
  · exact h2.elim
  rename_i x i c st'
  obtain ⟨hc1, hi1, hi2, hk⟩ := h2
  obtain ⟨hP, hD, hS, hW, hL⟩ := id hR
  obtain ⟨cA, arr, e1, e2, e3, e4⟩ := cm_arr (t := 2) hW (show cm_kind c = (100 + 2, (cm_kind c).2) from by rw [← hc1]) (by decide)
  obtain ⟨hv, hj⟩ := cm_in hi1 hi2
  rcases arr with f | f | f | f | f
  · first | exact e4.elim | (have := e4.1; omega)
  · refine va_last hx hb (ev_K1 hK e2 e3) hP hD hS _ 0 e1 rfl hv hd (fun H1 locs1 hP1 hD1 hS1 => hk _ H1 locs1 ls ⟨hP1, hD1, hS1, cm_w_set hW (cm_kind_at (q := (100 + 2, (cm_kind c).2)) (by rw [← hc1]) (by dsimp only; omega)) ⟨2, by decide, rfl, rfl, e2, e3, by decide, fun j hj => ?_⟩ cm_wl_ne, hL⟩)
    dsimp only [vp_updL, cm_wi, cm_wl]
    by_cases hji : j = i.toNatClampNeg
    · simp [hji]
    · simp only [hji, and_false, if_false]
      exact e4.2 j hj
  · first | exact e4.elim | (have := e4.1; omega)
  · first | exact e4.elim | (have := e4.1; omega)
  · first | exact e4.elim | (have := e4.1; omega)

def cm_alen : cm_O := (ev_alen.1, fun E P t S k => match S.2.2.1 with
  | .ref c :: st => if c = 1000 then (match E with
    | some q => k (cm_adv S 1 (.int (Int32.ofNat q.1) :: st))
    | none => False) else (100 ≤ (cm_kind c).1 ∧ (cm_kind c).1 < 104 ∧ k (cm_adv S 1 (.int (Int32.ofNat (cm_kind c).2) :: st)))
  | _ => False)
theorem cm_alen_ok : cm_Snd cm_alen := by
  intro p l e R s m args below meth c cc Q D A adr ce sl E P t S i n cs X h1 hd hw h2 ws H locs ls hR
  obtain ⟨hx, hb, hml, hown, hts, hK, hA, hN, hcC, hcS, hf, hlc, hscr⟩ := X
  obtain ⟨pc, L, st, M⟩ := S
  have h1 : some ((.arraylength : Instr), (1 : Nat), ([] : List Cond)) = some (i, n, cs) := h1
  cases h1
  unfold cm_alen at h2
  dsimp only at h2
  split at h2
  rotate_left
  · exact h2.elim
  rename_i c st'
  split at h2
  · rename_i hc
    subst hc
    split at h2
    · rename_i q
      exact va_slen hx hb hscr.1 hscr.2.1 hscr.2.2 hR.2.2.1 hd (h2 ws H locs ls hR)
    · exact h2.elim
  · obtain ⟨hc1, hc2, hk⟩ := h2
    obtain ⟨hP, hD, hS, hW, hL⟩ := id hR
    obtain ⟨cA, arr, e1, e2, e3, e4⟩ := cm_arr (t := (cm_kind c).1 - 100) hW (show cm_kind c = (100 + ((cm_kind c).1 - 100), (cm_kind c).2) from Prod.ext (by dsimp only; omega) rfl) (by omega)
    exact va_alen hx hb (ev_K1 hK e2 e3) hP _ 0 e1 rfl rfl hd (hk ws H locs ls hR)

def cm_sald : cm_O := (ev_sald.1, fun E P t S k => match E, S.2.2.1 with
  | some q, .int i :: .ref c :: st => c = 1000 ∧ 0 ≤ i.toInt ∧ i.toInt < (q.1 : Int) ∧ k (cm_adv S 1 (.int (q.2 i.toNatClampNeg) :: st))
  | _, _ => False)
theorem cm_sald_ok : cm_Snd cm_sald := by
  intro p l e R s m args below meth c cc Q D A adr ce sl E P t S i n cs X h1 hd hw h2 ws H locs ls hR
  obtain ⟨hx, hb, hml, hown, hts, hK, hA, hN, hcC, hcS, hf, hlc, hscr⟩ := X
  obtain ⟨pc, L, st, M⟩ := S
  have h1 : some ((.iaload : Instr), (1 : Nat), ([] : List Cond)) = some (i, n, cs) := h1
  cases h1
  unfold cm_sald at h2
  dsimp only at h2
  split at h2
  rotate_left
  · exact h2.elim
  rename_i q i c st'
  obtain ⟨rfl, hi1, hi2, hk⟩ := h2
  exact va_sld hx hb hscr.1 hscr.2.1 hscr.2.2 hR.2.2.1 (cm_in hi1 hi2).1 hd (hk ws H locs ls hR)
end
section
/-! CM: constants, texts, statics -/
def cm_ldc : cm_O := (ev_ldc.1, fun E P t S k => k (cm_adv S 2 (.int (Int32.ofInt t.1) :: S.2.2.1)))
theorem cm_ldc_ok : cm_Snd cm_ldc := by
  intro p l e R s m args below meth c cc Q D A adr ce sl E P t S i n cs X h1 hd hw h2 ws H locs ls hR
  obtain ⟨hx, hb, hml, hown, hts, hK, hA, hN, hcC, hcS, hf, hlc, hscr⟩ := X
  obtain ⟨pc, L, st, M⟩ := S
  have h1 : some ((.ldc t.2.1.toNat : Instr), (2 : Nat), ([.constant P.2.2.2.1 t.2.1.toNat (Int32.ofInt t.1)] : List Cond)) = some (i, n, cs) := h1
  cases h1
  exact W.ldc hx hb hown (hts _ (hw _ (List.mem_singleton.mpr rfl))) (g := F0 m pc ls (st.map (cm_v adr))) rfl hd (h2 ws H locs ls hR)

def cm_ldcw : cm_O := (ev_ldcw.1, fun E P t S k => k (cm_adv S 3 (.int (Int32.ofInt t.1) :: S.2.2.1)))
theorem cm_ldcw_ok : cm_Snd cm_ldcw := by
  intro p l e R s m args below meth c cc Q D A adr ce sl E P t S i n cs X h1 hd hw h2 ws H locs ls hR
  obtain ⟨hx, hb, hml, hown, hts, hK, hA, hN, hcC, hcS, hf, hlc, hscr⟩ := X
  obtain ⟨pc, L, st, M⟩ := S
  have h1 : some ((.ldc_w t.2.1.toNat : Instr), (3 : Nat), ([.constant P.2.2.2.1 t.2.1.toNat (Int32.ofInt t.1)] : List Cond)) = some (i, n, cs) := h1
  cases h1
  exact lv_ldcw hx hb hown (hts _ (hw _ (List.mem_singleton.mpr rfl))) hd (h2 ws H locs ls hR)

def cm_ldc2 : cm_O := (ev_ldc2.1, fun E P t S k => k (cm_adv S 3 (.long (Int64.ofInt t.1) :: S.2.2.1)))
theorem cm_ldc2_ok : cm_Snd cm_ldc2 := by
  intro p l e R s m args below meth c cc Q D A adr ce sl E P t S i n cs X h1 hd hw h2 ws H locs ls hR
  obtain ⟨hx, hb, hml, hown, hts, hK, hA, hN, hcC, hcS, hf, hlc, hscr⟩ := X
  obtain ⟨pc, L, st, M⟩ := S
  have h1 : some ((.ldc2_w t.2.1.toNat : Instr), (3 : Nat), ([.constantLong P.2.2.2.1 t.2.1.toNat (Int64.ofInt t.1)] : List Cond)) = some (i, n, cs) := h1
  cases h1
  exact W.ldc2 hx hb hown (hts _ (hw _ (List.mem_singleton.mpr rfl))) (g := F0 m pc ls (st.map (cm_v adr))) rfl hd (h2 ws H locs ls hR)

def cm_ldcS : cm_O := (ev_ldcS.1, fun E P t S k => k (cm_adv S 2 (.ref (1001 + 2 * t.1.toNat) :: S.2.2.1)))
theorem cm_ldcS_ok : cm_Snd cm_ldcS := by
  intro p l e R s m args below meth c cc Q D A adr ce sl E P t S i n cs X h1 hd hw h2 ws H locs ls hR
  obtain ⟨hx, hb, hml, hown, hts, hK, hA, hN, hcC, hcS, hf, hlc, hscr⟩ := X
  obtain ⟨pc, L, st, M⟩ := S
  unfold cm_ldcS ev_ldcS at h1
  dsimp only at h1
  split at h1
  · rename_i r hr
    split at h1
    · rename_i ho
      cases h1
      have hz := hN.1.2.1 _ r hr
      rw [ho] at hz
      have e : 1000 + (1 + 2 * t.1.toNat) = 1001 + 2 * t.1.toNat := by omega
      dsimp only at hz
      rw [e] at hz
      exact va_ldcS hx hb hown hz hd (h2 ws H locs ls hR)
    · cases h1
  · cases h1

theorem cm_str {adr : Nat → Nat} {A : Nat → Prop} {s : State} {c : Nat} (hN : cm_N adr A s s.heap) (h1 : 1001 ≤ c) (h2 : c < 1081) : ∃ r, ev_strs[(c - 1001) / 2]? = some r ∧ (c % 2 = 1 → va_OF "java/lang/String" "coder" "B" (.int 0) (adr c) A s s.heap ∧ va_OF "java/lang/String" "value" "[B" (.ref (adr (c + 1))) (adr c) A s s.heap ∧ va_O "java/lang/String" (adr c) A s s.heap) ∧ (c % 2 = 0 → va_T .byte (adr c) r.2.2.2.length (fun j => .int (r.2.2.2.getD j 0)) A s s.heap) := by
  have hl : (c - 1001) / 2 < ev_strs.length := by
    have : ev_strs.length = 40 := rfl
    omega
  refine ⟨_, List.getElem?_eq_getElem hl, fun h => ?_, fun h => ?_⟩
  · obtain ⟨a1, a2, a3, a4⟩ := hN.1.2.2.1 _ _ (List.getElem?_eq_getElem hl)
    dsimp only at a1 a2 a3
    rw [show 1000 + (1 + 2 * ((c - 1001) / 2)) = c by omega] at a1 a2 a3
    rw [show 1000 + (2 + 2 * ((c - 1001) / 2)) = c + 1 by omega] at a3
    exact ⟨a2, a3, a1⟩
  · obtain ⟨a1, a2, a3, a4⟩ := hN.1.2.2.1 _ _ (List.getElem?_eq_getElem hl)
    dsimp only at a4
    rw [show 1000 + (2 + 2 * ((c - 1001) / 2)) = c by omega] at a4
    exact a4
def cm_getV : cm_O := (ev_getV.1, fun E P t S k => match S.2.2.1 with
  | .ref c :: st => 1001 ≤ c ∧ c < 1081 ∧ c % 2 = 1 ∧ k (cm_adv S 3 (.ref (c + 1) :: st))
  | _ => False)
theorem cm_getV_ok : cm_Snd cm_getV := by
  intro p l e R s m args below meth c cc Q D A adr ce sl E P t S i n cs X h1 hd hw h2 ws H locs ls hR
  obtain ⟨hx, hb, hml, hown, hts, hK, hA, hN, hcC, hcS, hf, hlc, hscr⟩ := X
  obtain ⟨pc, L, st, M⟩ := S
  have h1 : some ((.getfield t.1.toNat : Instr), (3 : Nat), ([.fieldLink P.2.2.2.1 t.1.toNat "java/lang/String" "value" "[B"] : List Cond)) = some (i, n, cs) := h1
  cases h1
  unfold cm_getV at h2
  dsimp only at h2
  split at h2
  rotate_left
  · exact h2.elim
  rename_i c st'
  obtain ⟨q1, q2, q3, hk⟩ := h2
  obtain ⟨r, -, a1, -⟩ := cm_str hN q1 q2
  exact vk_getf hx hb (a1 q3).2.1 hR.2.2.1 hown (hts _ (hw _ (List.mem_singleton.mpr rfl))) (fun _ h => h) hd (hk ws H locs ls hR)

def cm_getC : cm_O := (ev_getC.1, fun E P t S k => match S.2.2.1 with
  | .ref c :: st => 1001 ≤ c ∧ c < 1081 ∧ c % 2 = 1 ∧ k (cm_adv S 3 (.int 0 :: st))
  | _ => False)
theorem cm_getC_ok : cm_Snd cm_getC := by
  intro p l e R s m args below meth c cc Q D A adr ce sl E P t S i n cs X h1 hd hw h2 ws H locs ls hR
  obtain ⟨hx, hb, hml, hown, hts, hK, hA, hN, hcC, hcS, hf, hlc, hscr⟩ := X
  obtain ⟨pc, L, st, M⟩ := S
  have h1 : some ((.getfield t.1.toNat : Instr), (3 : Nat), ([.fieldLink P.2.2.2.1 t.1.toNat "java/lang/String" "coder" "B"] : List Cond)) = some (i, n, cs) := h1
  cases h1
  unfold cm_getC at h2
  dsimp only at h2
  split at h2
  rotate_left
  · exact h2.elim
  rename_i c st'
  obtain ⟨q1, q2, q3, hk⟩ := h2
  obtain ⟨r, -, a1, -⟩ := cm_str hN q1 q2
  exact vk_getf hx hb (a1 q3).1 hR.2.2.1 hown (hts _ (hw _ (List.mem_singleton.mpr rfl))) (fun _ h => h) hd (hk ws H locs ls hR)

def cm_gets : cm_O := (ev_gets.1, fun E P t S k => k (cm_adv S 3 (.int 1 :: S.2.2.1)))
theorem cm_gets_ok : cm_Snd cm_gets := by
  intro p l e R s m args below meth c cc Q D A adr ce sl E P t S i n cs X h1 hd hw h2 ws H locs ls hR
  obtain ⟨hx, hb, hml, hown, hts, hK, hA, hN, hcC, hcS, hf, hlc, hscr⟩ := X
  obtain ⟨pc, L, st, M⟩ := S
  have h1 : some ((.getstatic t.1.toNat : Instr), (3 : Nat), ([.fieldLink P.2.2.2.1 t.1.toNat "java/lang/String" "COMPACT_STRINGS" "Z"] : List Cond)) = some (i, n, cs) := h1
  cases h1
  exact va_gets hx hb hN.1.2.2.2.1 hR.2.2.1 hown (hts _ (hw _ (List.mem_singleton.mpr rfl))) (fun _ h => h) hd (h2 ws H locs ls hR)

def cm_getsF : cm_O := (ev_getsF.1, fun E P t S k => k (cm_adv S 3 (.null :: S.2.2.1)) ∧ k (cm_adv S 3 (.ref 1101 :: S.2.2.1)))
theorem cm_getsF_ok : cm_Snd cm_getsF := by
  intro p l e R s m args below meth c cc Q D A adr ce sl E P t S i n cs X h1 hd hw h2 ws H locs ls hR
  obtain ⟨hx, hb, hml, hown, hts, hK, hA, hN, hcC, hcS, hf, hlc, hscr⟩ := X
  obtain ⟨pc, L, st, M⟩ := S
  have h1 : some ((.getstatic t.1.toNat : Instr), (3 : Nat), ([.fieldLink P.2.2.2.1 t.1.toNat "jdk/internal/util/Preconditions" "SIOOBE_FORMATTER" "Ljava/util/function/BiFunction;"] : List Cond)) = some (i, n, cs) := h1
  cases h1
  rcases hN.2.2.2 with hz | hz
  · exact va_gets hx hb hz hR.2.2.1 hown (hts _ (hw _ (List.mem_singleton.mpr rfl))) (fun _ h => h) hd (h2.1 ws H locs ls hR)
  · exact va_gets hx hb hz hR.2.2.1 hown (hts _ (hw _ (List.mem_singleton.mpr rfl))) (fun _ h => h) hd (h2.2 ws H locs ls hR)

def cm_alenS : cm_O := (ev_alenS.1, fun E P t S k => match S.2.2.1 with
  | .ref c :: st => (match ev_strs[(c - 1001) / 2]? with
    | some r => 1001 ≤ c ∧ c < 1081 ∧ c % 2 = 0 ∧ k (cm_adv S 1 (.int (Int32.ofNat r.2.2.2.length) :: st))
    | none => False)
  | _ => False)
theorem cm_alenS_ok : cm_Snd cm_alenS := by
  intro p l e R s m args below meth c cc Q D A adr ce sl E P t S i n cs X h1 hd hw h2 ws H locs ls hR
  obtain ⟨hx, hb, hml, hown, hts, hK, hA, hN, hcC, hcS, hf, hlc, hscr⟩ := X
  obtain ⟨pc, L, st, M⟩ := S
  have h1 : some ((.arraylength : Instr), (1 : Nat), ([] : List Cond)) = some (i, n, cs) := h1
  cases h1
  unfold cm_alenS at h2
  dsimp only at h2
  split at h2
  rotate_left
  · exact h2.elim
  rename_i c st'
  split at h2
  · rename_i r hr
    obtain ⟨q1, q2, q3, hk⟩ := h2
    obtain ⟨r', hr', -, a1⟩ := cm_str hN q1 q2
    rw [hr] at hr'
    cases hr'
    exact va_tlen hx hb (a1 q3) hR.2.2.1 rfl hd (hk ws H locs ls hR)
  · exact h2.elim

def cm_baloadS : cm_O := (ev_baloadS.1, fun E P t S k => match S.2.2.1 with
  | .int i :: .ref c :: st => (match ev_strs[(c - 1001) / 2]? with
    | some r => 1001 ≤ c ∧ c < 1081 ∧ c % 2 = 0 ∧ 0 ≤ i.toInt ∧ i.toInt < (r.2.2.2.length : Int) ∧ k (cm_adv S 1 (.int (r.2.2.2.getD i.toNatClampNeg 0) :: st))
    | none => False)
  | _ => False)
theorem cm_baloadS_ok : cm_Snd cm_baloadS := by
  intro p l e R s m args below meth c cc Q D A adr ce sl E P t S i n cs X h1 hd hw h2 ws H locs ls hR
  obtain ⟨hx, hb, hml, hown, hts, hK, hA, hN, hcC, hcS, hf, hlc, hscr⟩ := X
  obtain ⟨pc, L, st, M⟩ := S
  have h1 : some ((.baload : Instr), (1 : Nat), ([] : List Cond)) = some (i, n, cs) := h1
  cases h1
  unfold cm_baloadS at h2
  dsimp only at h2
  split at h2
  rotate_left
  · exact h2.elim
  rename_i i c st'
  split at h2
  · rename_i r hr
    obtain ⟨q1, q2, q3, q4, q5, hk⟩ := h2
    obtain ⟨r', hr', -, a1⟩ := cm_str hN q1 q2
    rw [hr] at hr'
    cases hr'
    exact va_tb hx hb (a1 q3) hR.2.2.1 (by rw [vp_in_iff]; exact ⟨q4, q5⟩) rfl hd (hk ws H locs ls hR)
  · exact h2.elim

set_option maxRecDepth 1000000 in
theorem cm_tl : Cond.fieldLinkNest "BarberMinutes$Agenda" 18 "BarberMinutes" "TENS" "[I" "BarberMinutes" ∈ lw_nest := List.mem_filter.mpr ⟨List.mem_of_getElem? (i := 899) (by decide +kernel), rfl⟩
def cm_getT : cm_O := ((fun P _ => if P.2.2.2.1 = "BarberMinutes$Agenda" then some (.getstatic 18, 3, []) else none), fun E P t S k => k (cm_adv S 3 (.ref 1100 :: S.2.2.1)))
theorem cm_getT_ok : cm_Snd cm_getT := by
  intro p l e R s m args below meth c cc Q D A adr ce sl E P t S i n cs X h1 hd hw h2 ws H locs ls hR
  obtain ⟨hx, hb, hml, hown, hts, hK, hA, hN, hcC, hcS, hf, hlc, hscr⟩ := X
  obtain ⟨pc, L, st, M⟩ := S
  have h1 : (if P.2.2.2.1 = "BarberMinutes$Agenda" then some ((.getstatic 18 : Instr), (3 : Nat), ([] : List Cond)) else none) = some (i, n, cs) := h1
  split at h1
  · rename_i ho
    cases h1
    rw [ho] at hown
    exact va_getsN hx hb hN.2.1 hR.2.2.1 hown (va_Nw.use rfl (hN.1.1.1 _ cm_tl)) (fun _ h => h) hd (h2 ws H locs ls hR)
  · cases h1

def cm_tald : cm_O := ((fun _ _ => some (.iaload, 1, [])), fun E P t S k => match S.2.2.1 with
  | .int i :: .ref c :: st => c = 1100 ∧ 0 ≤ i.toInt ∧ i.toInt < 5 ∧ k (cm_adv S 1 (.int (cm_tens i.toNatClampNeg) :: st))
  | _ => False)
theorem cm_tald_ok : cm_Snd cm_tald := by
  intro p l e R s m args below meth c cc Q D A adr ce sl E P t S i n cs X h1 hd hw h2 ws H locs ls hR
  obtain ⟨hx, hb, hml, hown, hts, hK, hA, hN, hcC, hcS, hf, hlc, hscr⟩ := X
  obtain ⟨pc, L, st, M⟩ := S
  have h1 : some ((.iaload : Instr), (1 : Nat), ([] : List Cond)) = some (i, n, cs) := h1
  cases h1
  unfold cm_tald at h2
  dsimp only at h2
  split at h2
  rotate_left
  · exact h2.elim
  rename_i i c st'
  obtain ⟨rfl, q4, q5, hk⟩ := h2
  exact va_ti hx hb hN.2.2.1 hR.2.2.1 (by rw [vp_in_iff]; exact ⟨q4, q5⟩) rfl hd (hk ws H locs ls hR)

def cm_alenT : cm_O := ((fun _ _ => some (.arraylength, 1, [])), fun E P t S k => match S.2.2.1 with
  | .ref c :: st => c = 1100 ∧ k (cm_adv S 1 (.int 5 :: st))
  | _ => False)
theorem cm_alenT_ok : cm_Snd cm_alenT := by
  intro p l e R s m args below meth c cc Q D A adr ce sl E P t S i n cs X h1 hd hw h2 ws H locs ls hR
  obtain ⟨hx, hb, hml, hown, hts, hK, hA, hN, hcC, hcS, hf, hlc, hscr⟩ := X
  obtain ⟨pc, L, st, M⟩ := S
  have h1 : some ((.arraylength : Instr), (1 : Nat), ([] : List Cond)) = some (i, n, cs) := h1
  cases h1
  unfold cm_alenT at h2
  dsimp only at h2
  split at h2
  rotate_left
  · exact h2.elim
  rename_i c st'
  obtain ⟨rfl, hk⟩ := h2
  exact va_tlen hx hb hN.2.2.1 hR.2.2.1 rfl hd (hk ws H locs ls hR)

/-! CM: methods of the library by one row -/
def cm_cs (st : List Value) : Nat := (st.map fun v => v.category).sum
def cm_mmin : cm_O := (ev_mmin.1, fun E P t S k => match S.2.2.1 with
  | .int y :: .int x :: st => cm_cs st ≤ 8 ∧ k (cm_adv S 3 (.int (if y < x then y else x) :: st))
  | _ => False)
theorem cm_mmin_ok : cm_Snd cm_mmin := by
  intro p l e R s m args below meth c cc Q D A adr ce sl E P t S i n cs X h1 hd hw h2 ws H locs ls hR
  obtain ⟨hx, hb, hml, hown, hts, hK, hA, hN, hcC, hcS, hf, hlc, hscr⟩ := X
  obtain ⟨pc, L, st, M⟩ := S
  have h1 : some ((.invokestatic t.1.toNat : Instr), (3 : Nat), ([.methodLink P.2.2.2.1 t.1.toNat Lib.Math.min.name, .static Lib.Math.min.name, .initialized "java/lang/Math", .code Lib.Math.min.name Lib.Math.min.code 2 (some .int)] : List Cond)) = some (i, n, cs) := h1
  cases h1
  unfold cm_mmin at h2
  dsimp only at h2
  split at h2
  rotate_left
  · exact h2.elim
  rename_i y x st'
  obtain ⟨q1, hk⟩ := h2
  have hsum : (((st'.map (cm_v adr)).map fun v => v.category).sum) ≤ 8 := by rw [cm_v_cats]; exact q1
  exact va_mmin hx hb (hml.trans hR.2.2.2.2.1.symm) hown (hts _ (hw _ (by simp))) (hts _ (hw _ (by simp))) (hts _ (hw _ (by simp))) (hts _ (hw _ (by simp))) hf (by omega) hcC hcS hd (hk ws H locs ls hR)

def cm_mmax : cm_O := ((fun P t => some (.invokestatic t.1.toNat, 3, [.methodLink P.2.2.2.1 t.1.toNat Lib.Math.max.name, .static Lib.Math.max.name, .initialized "java/lang/Math", .code Lib.Math.max.name Lib.Math.max.code 2 (some .int)])), fun E P t S k => match S.2.2.1 with
  | .int y :: .int x :: st => cm_cs st ≤ 8 ∧ k (cm_adv S 3 (.int (if x < y then y else x) :: st))
  | _ => False)
theorem cm_mmax_ok : cm_Snd cm_mmax := by
  intro p l e R s m args below meth c cc Q D A adr ce sl E P t S i n cs X h1 hd hw h2 ws H locs ls hR
  obtain ⟨hx, hb, hml, hown, hts, hK, hA, hN, hcC, hcS, hf, hlc, hscr⟩ := X
  obtain ⟨pc, L, st, M⟩ := S
  have h1 : some ((.invokestatic t.1.toNat : Instr), (3 : Nat), ([.methodLink P.2.2.2.1 t.1.toNat Lib.Math.max.name, .static Lib.Math.max.name, .initialized "java/lang/Math", .code Lib.Math.max.name Lib.Math.max.code 2 (some .int)] : List Cond)) = some (i, n, cs) := h1
  cases h1
  unfold cm_mmax at h2
  dsimp only at h2
  split at h2
  rotate_left
  · exact h2.elim
  rename_i y x st'
  obtain ⟨q1, hk⟩ := h2
  have hsum : (((st'.map (cm_v adr)).map fun v => v.category).sum) ≤ 8 := by rw [cm_v_cats]; exact q1
  exact va_mmax hx hb (hml.trans hR.2.2.2.2.1.symm) hown (hts _ (hw _ (by simp))) (hts _ (hw _ (by simp))) (hts _ (hw _ (by simp))) (hts _ (hw _ (by simp))) hf (by omega) hcC hcS hd (hk ws H locs ls hR)

def cm_mabs : cm_O := ((fun P t => some (.invokestatic t.1.toNat, 3, [.methodLink P.2.2.2.1 t.1.toNat Lib.Math.abs.name, .static Lib.Math.abs.name, .initialized "java/lang/Math", .code Lib.Math.abs.name Lib.Math.abs.code 1 (some .int)])), fun E P t S k => match S.2.2.1 with
  | .int x :: st => cm_cs st ≤ 8 ∧ k (cm_adv S 3 (.int (if 0 ≤ x then x else 0 - x) :: st))
  | _ => False)
theorem cm_mabs_ok : cm_Snd cm_mabs := by
  intro p l e R s m args below meth c cc Q D A adr ce sl E P t S i n cs X h1 hd hw h2 ws H locs ls hR
  obtain ⟨hx, hb, hml, hown, hts, hK, hA, hN, hcC, hcS, hf, hlc, hscr⟩ := X
  obtain ⟨pc, L, st, M⟩ := S
  have h1 : some ((.invokestatic t.1.toNat : Instr), (3 : Nat), ([.methodLink P.2.2.2.1 t.1.toNat Lib.Math.abs.name, .static Lib.Math.abs.name, .initialized "java/lang/Math", .code Lib.Math.abs.name Lib.Math.abs.code 1 (some .int)] : List Cond)) = some (i, n, cs) := h1
  cases h1
  unfold cm_mabs at h2
  dsimp only at h2
  split at h2
  rotate_left
  · exact h2.elim
  rename_i x st'
  obtain ⟨q1, hk⟩ := h2
  have hsum : (((st'.map (cm_v adr)).map fun v => v.category).sum) ≤ 8 := by rw [cm_v_cats]; exact q1
  exact va_mabs hx hb (hml.trans hR.2.2.2.2.1.symm) hown (hts _ (hw _ (by simp))) (hts _ (hw _ (by simp))) (hts _ (hw _ (by simp))) (hts _ (hw _ (by simp))) hf (by omega) hcC hcS hd (hk ws H locs ls hR)

def cm_copyi : cm_O := ((fun P t => some (.invokestatic t.1.toNat, 3, [.methodLink P.2.2.2.1 t.1.toNat arraycopyName, .native arraycopyName, .static arraycopyName, .initialized "java/lang/System"])), fun E P t S k => match S.2.2.1 with
  | .int n :: .int dp :: .ref d :: .int sp :: .ref c :: st => cm_cs st ≤ 8 ∧ (cm_kind c).1 = 100 ∧ (cm_kind d).1 = 100 ∧ 0 ≤ sp.toInt ∧ 0 ≤ dp.toInt ∧ 0 ≤ n.toInt ∧ sp.toInt + n.toInt ≤ ((cm_kind c).2 : Int) ∧ dp.toInt + n.toInt ≤ ((cm_kind d).2 : Int) ∧ k (S.1 + 3, S.2.1, st, cm_cp S.2.2.2 c sp.toNatClampNeg d dp.toNatClampNeg n.toNatClampNeg)
  | _ => False)
theorem cm_copyi_ok : cm_Snd cm_copyi := by
  intro p l e R s m args below meth c cc Q D A adr ce sl E P t S i n cs X h1 hd hw h2 ws H locs ls hR
  obtain ⟨hx, hb, hml, hown, hts, hK, hA, hN, hcC, hcS, hf, hlc, hscr⟩ := X
  obtain ⟨pc, L, st, M⟩ := S
  have h1 : some ((.invokestatic t.1.toNat : Instr), (3 : Nat), ([.methodLink P.2.2.2.1 t.1.toNat arraycopyName, .native arraycopyName, .static arraycopyName, .initialized "java/lang/System"] : List Cond)) = some (i, n, cs) := h1
  cases h1
  unfold cm_copyi at h2
  dsimp only at h2
  split at h2
  rotate_left
  · exact h2.elim
  rename_i n dp d sp c st'
  obtain ⟨q1, k1, k2, z1, z2, z3, z4, z5, hk⟩ := h2
  obtain ⟨hP, hD, hS, hW, hL⟩ := id hR
  have hsum : (((st'.map (cm_v adr)).map fun v => v.category).sum) ≤ 8 := by rw [cm_v_cats]; exact q1
  obtain ⟨cA, arr, e1, e2, e3, e4⟩ := cm_arr (t := 0) hW (show cm_kind c = (100 + 0, (cm_kind c).2) from Prod.ext k1 rfl) (by decide)
  obtain ⟨dA, brr, d1, d2, d3, d4⟩ := cm_arr (t := 0) hW (show cm_kind d = (100 + 0, (cm_kind d).2) from Prod.ext k2 rfl) (by decide)
  have nn : ∀ z : Int32, 0 ≤ z.toInt → z.toInt = (z.toNatClampNeg : Int) := by
    intro z hz
    show z.toInt = ((z.toInt.toNat : Nat) : Int)
    omega
  have y1 := nn sp z1
  have y2 := nn dp z2
  have y3 := nn n z3
  have hK2 : va_K D vwCl [(cA, .int), (dA, .int)] s := ⟨hK.1, fun j q hq => by
    have hz : j < 2 := (List.getElem?_eq_some_iff.mp hq).1
    have : j = 0 ∨ j = 1 := by omega
    rcases this with rfl | rfl
    · cases hq; exact ⟨e2, e3⟩
    · cases hq; exact ⟨d2, d3⟩⟩
  cases arr with
  | inr z => rcases z with z | z | z | z <;> first | exact e4.elim | (have := e4.1; omega)
  | inl f =>
    cases brr with
    | inr z => rcases z with z | z | z | z <;> first | exact d4.elim | (have := d4.1; omega)
    | inl g =>
      refine va_copyi hx hb (hml.trans hL.1.symm) hown (hts _ (hw _ (by simp))) (hts _ (hw _ (by simp))) (hts _ (hw _ (by simp))) (hts _ (hw _ (by simp))) hK2 hP hD hS c d 0 1 e1 d1 rfl rfl rfl (ev_nn z1) (ev_nn z2) (ev_nn z3) (by omega) (by omega) (fun _ _ => rfl) hf ?_ hd (fun H1 locs1 hP1 hD1 hS1 => hk _ H1 locs1 ls ⟨hP1, hD1, hS1, cm_w_set hW (cm_kind_at (q := (100 + 0, (cm_kind d).2)) (Prod.ext k2 rfl) (by dsimp only; omega)) ⟨0, by decide, rfl, rfl, d2, d3, by decide, fun j hj => ?_⟩ cm_cp_ne, hL⟩)
      · have : nativeFrameWords "java/lang/System" "arraycopy" 5 ≤ 20 := by decide +kernel
        omega
      · dsimp only [va_cpy, cm_cp] at hj ⊢
        by_cases hq : dp.toNatClampNeg ≤ j ∧ j < dp.toNatClampNeg + n.toNatClampNeg
        · rw [if_pos hq, if_pos ⟨rfl, hq⟩]
          exact e4.2 _ (by omega)
        · rw [if_neg hq, if_neg (fun z => hq z.2)]
          exact d4.2 _ hj
end
section
/-! CM: runs -/
def cm_no : cm_O := (fun _ _ => none, fun _ _ _ _ _ => False)
theorem cm_no_ok : cm_Snd cm_no := fun p l e R s m args below meth c cc Q D A adr ce sl E P t S i n cs X h1 => by cases h1
def cm_ops : List cm_O := [cm_iconst, cm_bipush, cm_sipush, cm_lconst, cm_iload, cm_iloadn, cm_lload, cm_lloadn, cm_aload, cm_aloadn, cm_istore, cm_istoren, cm_lstore, cm_lstoren, cm_astore, cm_astoren, cm_iadd, cm_isub, cm_imul, cm_iand, cm_ior, cm_ixor, cm_ishl, cm_ishr, cm_iushr, cm_idiv, cm_irem, cm_ineg, cm_i2b, cm_i2l, cm_lcmp, cm_dup, cm_pop, cm_dup2, cm_iinc, cm_icmp_eq, cm_icmp_ne, cm_icmp_lt, cm_icmp_ge, cm_icmp_gt, cm_icmp_le, cm_if_eq, cm_if_ne, cm_if_lt, cm_if_ge, cm_if_gt, cm_if_le, cm_goto, cm_sw, cm_get, cm_put, cm_no, cm_iaload, cm_baload, cm_laload, cm_aaload, cm_iastore, cm_bastore, cm_no, cm_no, cm_no, cm_no, cm_no, cm_no, cm_alen, cm_sald, cm_no, cm_mmin, cm_ldc, cm_ldcS, cm_getV, cm_getC, cm_gets, cm_alenS, cm_baloadS, cm_i2c, cm_ladd, cm_lsub, cm_lmul, cm_ldiv, cm_lrem, cm_ldc2, cm_getsF, cm_ldcw, cm_mmax, cm_mabs, cm_copyi, cm_getT, cm_tald, cm_alenT, cm_lastore, cm_pop2]
theorem cm_c1 {o : cm_O} {l : List cm_O} (h : cm_Snd o) (h2 : ∀ o ∈ l, cm_Snd o) : ∀ o' ∈ o :: l, cm_Snd o' := List.forall_mem_cons.mpr ⟨h, h2⟩
theorem cm_ops_ok : ∀ o ∈ cm_ops, cm_Snd o := cm_c1 cm_iconst_ok (cm_c1 cm_bipush_ok (cm_c1 cm_sipush_ok (cm_c1 cm_lconst_ok (cm_c1 cm_iload_ok (cm_c1 cm_iloadn_ok (cm_c1 cm_lload_ok (cm_c1 cm_lloadn_ok (cm_c1 cm_aload_ok (cm_c1 cm_aloadn_ok (cm_c1 cm_istore_ok (cm_c1 cm_istoren_ok (cm_c1 cm_lstore_ok (cm_c1 cm_lstoren_ok (cm_c1 cm_astore_ok (cm_c1 cm_astoren_ok (cm_c1 cm_iadd_ok (cm_c1 cm_isub_ok (cm_c1 cm_imul_ok (cm_c1 cm_iand_ok (cm_c1 cm_ior_ok (cm_c1 cm_ixor_ok (cm_c1 cm_ishl_ok (cm_c1 cm_ishr_ok (cm_c1 cm_iushr_ok (cm_c1 cm_idiv_ok (cm_c1 cm_irem_ok (cm_c1 cm_ineg_ok (cm_c1 cm_i2b_ok (cm_c1 cm_i2l_ok (cm_c1 cm_lcmp_ok (cm_c1 cm_dup_ok (cm_c1 cm_pop_ok (cm_c1 cm_dup2_ok (cm_c1 cm_iinc_ok (cm_c1 cm_icmp_eq_ok (cm_c1 cm_icmp_ne_ok (cm_c1 cm_icmp_lt_ok (cm_c1 cm_icmp_ge_ok (cm_c1 cm_icmp_gt_ok (cm_c1 cm_icmp_le_ok (cm_c1 cm_if_eq_ok (cm_c1 cm_if_ne_ok (cm_c1 cm_if_lt_ok (cm_c1 cm_if_ge_ok (cm_c1 cm_if_gt_ok (cm_c1 cm_if_le_ok (cm_c1 cm_goto_ok (cm_c1 cm_sw_ok (cm_c1 cm_get_ok (cm_c1 cm_put_ok (cm_c1 cm_no_ok (cm_c1 cm_iaload_ok (cm_c1 cm_baload_ok (cm_c1 cm_laload_ok (cm_c1 cm_aaload_ok (cm_c1 cm_iastore_ok (cm_c1 cm_bastore_ok (cm_c1 cm_no_ok (cm_c1 cm_no_ok (cm_c1 cm_no_ok (cm_c1 cm_no_ok (cm_c1 cm_no_ok (cm_c1 cm_no_ok (cm_c1 cm_alen_ok (cm_c1 cm_sald_ok (cm_c1 cm_no_ok (cm_c1 cm_mmin_ok (cm_c1 cm_ldc_ok (cm_c1 cm_ldcS_ok (cm_c1 cm_getV_ok (cm_c1 cm_getC_ok (cm_c1 cm_gets_ok (cm_c1 cm_alenS_ok (cm_c1 cm_baloadS_ok (cm_c1 cm_i2c_ok (cm_c1 cm_ladd_ok (cm_c1 cm_lsub_ok (cm_c1 cm_lmul_ok (cm_c1 cm_ldiv_ok (cm_c1 cm_lrem_ok (cm_c1 cm_ldc2_ok (cm_c1 cm_getsF_ok (cm_c1 cm_ldcw_ok (cm_c1 cm_mmax_ok (cm_c1 cm_mabs_ok (cm_c1 cm_copyi_ok (cm_c1 cm_getT_ok (cm_c1 cm_tald_ok (cm_c1 cm_alenT_ok (cm_c1 cm_lastore_ok (cm_c1 cm_pop2_ok (fun _ h => absurd h List.not_mem_nil))))))))))))))))))))))))))))))))))))))))))))))))))))))))))))))))))))))))))))))))))))))))))))
/-- what an instruction's row says -/
def cm_rowI (ms : List ev_MI) (P : ev_P) (r : ev_Row) : Option (Instr × Nat × List Cond) :=
  match r.1 with
  | 200 => (match ms[r.2.1.toNat]? with
    | some mi => some (.invokevirtual r.2.2.1.toNat, 3, [.methodLink P.2.2.2.1 r.2.2.1.toNat mi.1, .instanceMethod mi.1, .selects mi.1.cls mi.1 mi.1, .initialized mi.1.cls])
    | none => none)
  | 201 => (match ms[r.2.1.toNat]? with
    | some mi => some (.invokestatic r.2.2.1.toNat, 3, [.methodLink P.2.2.2.1 r.2.2.1.toNat mi.1, .static mi.1, .initialized mi.1.cls])
    | none => none)
  | 210 => some (.ireturn, 1, [])
  | 211 => some (.lreturn, 1, [])
  | 212 => some (.areturn, 1, [])
  | 213 => some (.return_, 1, [])
  | k => (match cm_ops[k]? with
    | some o => o.1 P r.2
    | none => none)
def cm_RowOK (ms : List ev_MI) (P : ev_P) (cc : ByteArray) (q : Nat × ev_Row) : Prop := ∃ i n cs, cm_rowI ms P q.2 = some (i, n, cs) ∧ decode cc q.1 = .ok (i, n) ∧ ∀ w ∈ cs, w ∈ lw_good
def cm_P (mi : ev_MI) : ev_P := (0, 0, false, mi.1.cls, mi.2.2.1, 0)
/-- a method is right: its code, its rows -/
def cm_MOK (ms : List ev_MI) (mi : ev_MI) : Prop :=
  plainName mi.1.cls = true ∧ Cond.code mi.1 mi.2.1 mi.2.2.1 mi.2.2.2.1 ∈ lw_good ∧ mi.2.2.1 ≤ 21 ∧ (mi.1.cls ≠ "java/lang/invoke/MethodHandle" ∧ mi.1.cls ≠ "java/lang/invoke/VarHandle") ∧ ∀ q ∈ mi.2.2.2.2.2.2, cm_RowOK ms (cm_P mi) mi.2.1 q
def cm_args : Nat → List Value → List (Nat × Value)
  | _, [] => []
  | i, a :: as => (i, a) :: cm_args (i + a.category) as
def cm_take (recv : Bool) (n : Nat) (st : List Value) : Option (List Value × List Value) :=
  if recv = true then (match st.drop n with
    | x :: rest => if (st.take n).length = n then some (x :: (st.take n).reverse, rest) else none
    | [] => none)
  else (if (st.take n).length = n then some ((st.take n).reverse, st.drop n) else none)
/-- the receiver is of the class -/
def cm_recv (cls : String) : List Value → Prop
  | .ref c :: _ => (1001 ≤ c ∧ c < 1081 ∧ c % 2 = 1 ∧ cls = "java/lang/String") ∨ (vwCl[(cm_kind c).1]?).map (fun q => q.1) = some cls
  | _ => False
abbrev cm_K : Type := Option Value → cm_M → Prop
/-- calls: method, arguments, memory, what is wanted of its answer and of the memory behind it -/
abbrev cm_C : Type := Nat → List Value → cm_M → cm_K → Prop
def cm_inv (ms : List ev_MI) (C : cm_C) (r : ev_Row) (S : cm_S) (k : cm_S → Prop) : Prop :=
  match ms[r.2.1.toNat]? with
  | some mi => (match cm_take (!(r.1 == 201)) r.2.2.2.1.toNat S.2.2.1 with
    | some (as, rest) => cm_cs rest ≤ 8 ∧ ev_nar1 mi.1 r.2.2.2.1.toNat = true ∧ (r.1 = 200 → cm_recv mi.1.cls as) ∧ C r.2.1.toNat as S.2.2.2 (fun v M' => k (S.1 + 3, S.2.1, v.toList ++ rest, M'))
    | none => False)
  | none => False
/-- stops, with the locals that are told there -/
def cm_pick (L : List (Nat × Value)) : List Nat → Option (List (Nat × Value))
  | [] => some []
  | i :: r => match cm_look L i, cm_pick L r with
    | some v, some l => some ((i, v) :: l)
    | _, _ => none
def cm_stop (stops : List (Nat × List Nat)) (J : cm_S → Prop) (k : cm_S → Prop) (S : cm_S) : Prop := match ev_at stops S.1 with
  | none => k S
  | some live => (match cm_pick S.2.1 live with
    | some L => J (S.1, L, S.2.2)
    | none => False)
/-- what must hold for a run to be good: Z at an instruction that returns, J at a stop -/
def cm_wp (ms : List ev_MI) (C : cm_C) (E : cm_E) (P : ev_P) (rows : List (Nat × ev_Row)) (stops : List (Nat × List Nat)) (J : cm_S → Prop) (Z : Nat → cm_S → Prop) : Nat → cm_S → Prop
  | 0, _ => False
  | n + 1, S => match ev_at rows S.1 with
    | none => False
    | some r =>
      if 210 ≤ r.1 then Z r.1 S
      else if 200 ≤ r.1 then cm_inv ms C r S (cm_stop stops J (cm_wp ms C E P rows stops J Z n))
      else (match cm_ops[r.1]? with
        | some o => o.2 E P r.2 S (cm_stop stops J (cm_wp ms C E P rows stops J Z n))
        | none => False)
/-- a method's end: its answer -/
def cm_ret (ret : Option FieldType) (Post : cm_K) (op : Nat) (S : cm_S) : Prop := match op, ret, S.2.2.1 with
  | 210, some .int, [.int x] => Post (some (.int x)) S.2.2.2
  | 210, some .boolean, [.int x] => (x = 0 ∨ x = 1) ∧ Post (some (.int x)) S.2.2.2
  | 210, some .char, [.int x] => 0 ≤ x.toInt ∧ x.toInt < 65536 ∧ Post (some (.int x)) S.2.2.2
  | 210, some .byte, [.int x] => x = 0 ∧ Post (some (.int x)) S.2.2.2
  | 211, some .long, [.long x] => Post (some (.long x)) S.2.2.2
  | 212, some (.object _), [.ref x] => Post (some (.ref x)) S.2.2.2
  | 213, none, [] => Post none S.2.2.2
  | _, _, _ => False
def cm_rm (d : Nat) : Room := { frames := d + 1, cells := 0, slots := 0, locals := 40 * (d + 1) }
def cm_Q (D : va_G) (adr : Nat → Nat) (A : Nat → Prop) (Post : cm_K) : Array Value → State → Outcome → State → Prop := fun _ st oc t =>
  (∃ (v : Option Value) (M' : cm_M) (ws' : va_W), Post v M' ∧ oc = .returned (v.map (cm_v adr)) ∧ va_P D vwCl ws' t.heap ∧ va_D A ws' ∧ cm_w t adr M' ws') ∧ va_F A st t
def cm_Pb (D : va_G) (adr : Nat → Nat) (ws : va_W) (sz : Nat) (M : cm_M) (U : State) : Prop := U.heap.size = sz ∧ va_P D vwCl ws U.heap ∧ va_K D vwCl [] U ∧ va_D (fun _ => True) ws ∧ cm_w U adr M ws ∧ cm_N adr (va_A ws sz) U U.heap
def cm_Met (l : Launch) (mi : ev_MI) (d : Nat) (D : va_G) (adr : Nat → Nat) (ws : va_W) (sz : Nat) (as : List Value) (M : cm_M) (Post : cm_K) : Prop :=
  Met l mi.1 (Cond.code mi.1 mi.2.1 mi.2.2.1 mi.2.2.2.1 :: lw_good) (cm_rm d) (va_Pc (as.map (cm_v adr)) (cm_Pb D adr ws sz M)) (cm_Q D adr (va_A ws sz) Post) 0 0 (va_A ws sz)
/-- a call is good, at a depth -/
def cm_Call (ms : List ev_MI) (d : Nat) : cm_C := fun k as M Post => ∃ mi d' P0, ms[k]? = some mi ∧ d' + 1 ≤ d ∧ (∀ v M', P0 v M' → Post v M') ∧ ∀ (l : Launch) (D : va_G) (adr : Nat → Nat) (ws : va_W) (sz : Nat), cm_Met l mi d' D adr ws sz as M P0
theorem cm_Call_up {ms : List ev_MI} {d e k : Nat} {as : List Value} {M : cm_M} {Post Post' : cm_K} (h : cm_Call ms d k as M Post) (hd : d ≤ e) (hp : ∀ v M', Post v M' → Post' v M') : cm_Call ms e k as M Post' := by
  obtain ⟨mi, d', P0, h1, h2, h3, h4⟩ := h
  exact ⟨mi, d', P0, h1, by omega, fun v M' q => hp v M' (h3 v M' q), h4⟩
theorem cm_Q_im {D : va_G} {adr : Nat → Nat} {A : Nat → Prop} {P1 P2 : cm_K} (h : ∀ v M, P1 v M → P2 v M) {a : Array Value} {s : State} {o : Outcome} {t : State} (hq : cm_Q D adr A P1 a s o t) : cm_Q D adr A P2 a s o t := by
  obtain ⟨⟨v, M', ws', p1, p2⟩, p3⟩ := hq
  exact ⟨⟨v, M', ws', h _ _ p1, p2⟩, p3⟩
end
section
/-! CM: what is wanted may grow -/
def cm_Mon (o : cm_O) : Prop := ∀ (E : cm_E) (P : ev_P) (t : ev_T) (S : cm_S) (k1 k2 : cm_S → Prop), o.2 E P t S k1 → (∀ S, k1 S → k2 S) → o.2 E P t S k2
theorem cm_no_im : cm_Mon cm_no := fun E P t S k1 k2 h hk => h.elim
theorem cm_iconst_im : cm_Mon cm_iconst := by
  intro E P t S k1 k2 h hk
  obtain ⟨pc, L, st, M⟩ := S
  unfold cm_iconst at h ⊢
  dsimp only at h ⊢
  first | exact h.elim | exact hk _ h | exact ⟨h.1, hk _ h.2⟩ | exact ⟨h.1, h.2.1, hk _ h.2.2⟩ | exact ⟨h.1, h.2.1, h.2.2.1, hk _ h.2.2.2⟩ | exact ⟨h.1, h.2.1, h.2.2.1, h.2.2.2.1, hk _ h.2.2.2.2⟩ | exact ⟨h.1, h.2.1, h.2.2.1, h.2.2.2.1, h.2.2.2.2.1, hk _ h.2.2.2.2.2⟩ | exact ⟨h.1, h.2.1, h.2.2.1, h.2.2.2.1, h.2.2.2.2.1, h.2.2.2.2.2.1, h.2.2.2.2.2.2.1, h.2.2.2.2.2.2.2.1, hk _ h.2.2.2.2.2.2.2.2⟩ | exact ⟨h.1, fun q => hk _ (h.2.1 q), fun q => hk _ (h.2.2 q)⟩ | exact ⟨h.1, h.2.1, h.2.2.1, fun q => hk _ (h.2.2.2.1 q), fun j o q1 q2 => hk _ (h.2.2.2.2 j o q1 q2)⟩ | exact ⟨hk _ h.1, hk _ h.2⟩

theorem cm_bipush_im : cm_Mon cm_bipush := by
  intro E P t S k1 k2 h hk
  obtain ⟨pc, L, st, M⟩ := S
  unfold cm_bipush at h ⊢
  dsimp only at h ⊢
  first | exact h.elim | exact hk _ h | exact ⟨h.1, hk _ h.2⟩ | exact ⟨h.1, h.2.1, hk _ h.2.2⟩ | exact ⟨h.1, h.2.1, h.2.2.1, hk _ h.2.2.2⟩ | exact ⟨h.1, h.2.1, h.2.2.1, h.2.2.2.1, hk _ h.2.2.2.2⟩ | exact ⟨h.1, h.2.1, h.2.2.1, h.2.2.2.1, h.2.2.2.2.1, hk _ h.2.2.2.2.2⟩ | exact ⟨h.1, h.2.1, h.2.2.1, h.2.2.2.1, h.2.2.2.2.1, h.2.2.2.2.2.1, h.2.2.2.2.2.2.1, h.2.2.2.2.2.2.2.1, hk _ h.2.2.2.2.2.2.2.2⟩ | exact ⟨h.1, fun q => hk _ (h.2.1 q), fun q => hk _ (h.2.2 q)⟩ | exact ⟨h.1, h.2.1, h.2.2.1, fun q => hk _ (h.2.2.2.1 q), fun j o q1 q2 => hk _ (h.2.2.2.2 j o q1 q2)⟩ | exact ⟨hk _ h.1, hk _ h.2⟩

theorem cm_sipush_im : cm_Mon cm_sipush := by
  intro E P t S k1 k2 h hk
  obtain ⟨pc, L, st, M⟩ := S
  unfold cm_sipush at h ⊢
  dsimp only at h ⊢
  first | exact h.elim | exact hk _ h | exact ⟨h.1, hk _ h.2⟩ | exact ⟨h.1, h.2.1, hk _ h.2.2⟩ | exact ⟨h.1, h.2.1, h.2.2.1, hk _ h.2.2.2⟩ | exact ⟨h.1, h.2.1, h.2.2.1, h.2.2.2.1, hk _ h.2.2.2.2⟩ | exact ⟨h.1, h.2.1, h.2.2.1, h.2.2.2.1, h.2.2.2.2.1, hk _ h.2.2.2.2.2⟩ | exact ⟨h.1, h.2.1, h.2.2.1, h.2.2.2.1, h.2.2.2.2.1, h.2.2.2.2.2.1, h.2.2.2.2.2.2.1, h.2.2.2.2.2.2.2.1, hk _ h.2.2.2.2.2.2.2.2⟩ | exact ⟨h.1, fun q => hk _ (h.2.1 q), fun q => hk _ (h.2.2 q)⟩ | exact ⟨h.1, h.2.1, h.2.2.1, fun q => hk _ (h.2.2.2.1 q), fun j o q1 q2 => hk _ (h.2.2.2.2 j o q1 q2)⟩ | exact ⟨hk _ h.1, hk _ h.2⟩

theorem cm_lconst_im : cm_Mon cm_lconst := by
  intro E P t S k1 k2 h hk
  obtain ⟨pc, L, st, M⟩ := S
  unfold cm_lconst at h ⊢
  dsimp only at h ⊢
  first | exact h.elim | exact hk _ h | exact ⟨h.1, hk _ h.2⟩ | exact ⟨h.1, h.2.1, hk _ h.2.2⟩ | exact ⟨h.1, h.2.1, h.2.2.1, hk _ h.2.2.2⟩ | exact ⟨h.1, h.2.1, h.2.2.1, h.2.2.2.1, hk _ h.2.2.2.2⟩ | exact ⟨h.1, h.2.1, h.2.2.1, h.2.2.2.1, h.2.2.2.2.1, hk _ h.2.2.2.2.2⟩ | exact ⟨h.1, h.2.1, h.2.2.1, h.2.2.2.1, h.2.2.2.2.1, h.2.2.2.2.2.1, h.2.2.2.2.2.2.1, h.2.2.2.2.2.2.2.1, hk _ h.2.2.2.2.2.2.2.2⟩ | exact ⟨h.1, fun q => hk _ (h.2.1 q), fun q => hk _ (h.2.2 q)⟩ | exact ⟨h.1, h.2.1, h.2.2.1, fun q => hk _ (h.2.2.2.1 q), fun j o q1 q2 => hk _ (h.2.2.2.2 j o q1 q2)⟩ | exact ⟨hk _ h.1, hk _ h.2⟩

theorem cm_iload_im : cm_Mon cm_iload := by
  intro E P t S k1 k2 h hk
  obtain ⟨pc, L, st, M⟩ := S
  unfold cm_iload cm_ld at h ⊢
  dsimp only at h ⊢
  split at h <;> first | exact h.elim | exact hk _ h

theorem cm_iloadn_im : cm_Mon cm_iloadn := by
  intro E P t S k1 k2 h hk
  obtain ⟨pc, L, st, M⟩ := S
  unfold cm_iloadn cm_ld at h ⊢
  dsimp only at h ⊢
  split at h <;> first | exact h.elim | exact hk _ h

theorem cm_lload_im : cm_Mon cm_lload := by
  intro E P t S k1 k2 h hk
  obtain ⟨pc, L, st, M⟩ := S
  unfold cm_lload cm_ld at h ⊢
  dsimp only at h ⊢
  split at h <;> first | exact h.elim | exact hk _ h

theorem cm_lloadn_im : cm_Mon cm_lloadn := by
  intro E P t S k1 k2 h hk
  obtain ⟨pc, L, st, M⟩ := S
  unfold cm_lloadn cm_ld at h ⊢
  dsimp only at h ⊢
  split at h <;> first | exact h.elim | exact hk _ h

theorem cm_aload_im : cm_Mon cm_aload := by
  intro E P t S k1 k2 h hk
  obtain ⟨pc, L, st, M⟩ := S
  unfold cm_aload cm_ld at h ⊢
  dsimp only at h ⊢
  split at h <;> first | exact h.elim | exact hk _ h

theorem cm_aloadn_im : cm_Mon cm_aloadn := by
  intro E P t S k1 k2 h hk
  obtain ⟨pc, L, st, M⟩ := S
  unfold cm_aloadn cm_ld at h ⊢
  dsimp only at h ⊢
  split at h <;> first | exact h.elim | exact hk _ h

theorem cm_istore_im : cm_Mon cm_istore := by
  intro E P t S k1 k2 h hk
  obtain ⟨pc, L, st, M⟩ := S
  unfold cm_istore cm_sto at h ⊢
  dsimp only at h ⊢
  split at h <;> (first | exact h.elim | exact hk _ h | exact ⟨h.1, hk _ h.2⟩ | exact ⟨h.1, h.2.1, hk _ h.2.2⟩ | exact ⟨h.1, h.2.1, h.2.2.1, hk _ h.2.2.2⟩ | exact ⟨h.1, h.2.1, h.2.2.1, h.2.2.2.1, hk _ h.2.2.2.2⟩ | exact ⟨h.1, h.2.1, h.2.2.1, h.2.2.2.1, h.2.2.2.2.1, hk _ h.2.2.2.2.2⟩ | exact ⟨h.1, h.2.1, h.2.2.1, h.2.2.2.1, h.2.2.2.2.1, h.2.2.2.2.2.1, h.2.2.2.2.2.2.1, h.2.2.2.2.2.2.2.1, hk _ h.2.2.2.2.2.2.2.2⟩ | exact ⟨h.1, fun q => hk _ (h.2.1 q), fun q => hk _ (h.2.2 q)⟩ | exact ⟨h.1, h.2.1, h.2.2.1, fun q => hk _ (h.2.2.2.1 q), fun j o q1 q2 => hk _ (h.2.2.2.2 j o q1 q2)⟩ | exact ⟨hk _ h.1, hk _ h.2⟩)

theorem cm_istoren_im : cm_Mon cm_istoren := by
  intro E P t S k1 k2 h hk
  obtain ⟨pc, L, st, M⟩ := S
  unfold cm_istoren cm_sto at h ⊢
  dsimp only at h ⊢
  split at h <;> (first | exact h.elim | exact hk _ h | exact ⟨h.1, hk _ h.2⟩ | exact ⟨h.1, h.2.1, hk _ h.2.2⟩ | exact ⟨h.1, h.2.1, h.2.2.1, hk _ h.2.2.2⟩ | exact ⟨h.1, h.2.1, h.2.2.1, h.2.2.2.1, hk _ h.2.2.2.2⟩ | exact ⟨h.1, h.2.1, h.2.2.1, h.2.2.2.1, h.2.2.2.2.1, hk _ h.2.2.2.2.2⟩ | exact ⟨h.1, h.2.1, h.2.2.1, h.2.2.2.1, h.2.2.2.2.1, h.2.2.2.2.2.1, h.2.2.2.2.2.2.1, h.2.2.2.2.2.2.2.1, hk _ h.2.2.2.2.2.2.2.2⟩ | exact ⟨h.1, fun q => hk _ (h.2.1 q), fun q => hk _ (h.2.2 q)⟩ | exact ⟨h.1, h.2.1, h.2.2.1, fun q => hk _ (h.2.2.2.1 q), fun j o q1 q2 => hk _ (h.2.2.2.2 j o q1 q2)⟩ | exact ⟨hk _ h.1, hk _ h.2⟩)

theorem cm_lstore_im : cm_Mon cm_lstore := by
  intro E P t S k1 k2 h hk
  obtain ⟨pc, L, st, M⟩ := S
  unfold cm_lstore cm_sto at h ⊢
  dsimp only at h ⊢
  split at h <;> (first | exact h.elim | exact hk _ h | exact ⟨h.1, hk _ h.2⟩ | exact ⟨h.1, h.2.1, hk _ h.2.2⟩ | exact ⟨h.1, h.2.1, h.2.2.1, hk _ h.2.2.2⟩ | exact ⟨h.1, h.2.1, h.2.2.1, h.2.2.2.1, hk _ h.2.2.2.2⟩ | exact ⟨h.1, h.2.1, h.2.2.1, h.2.2.2.1, h.2.2.2.2.1, hk _ h.2.2.2.2.2⟩ | exact ⟨h.1, h.2.1, h.2.2.1, h.2.2.2.1, h.2.2.2.2.1, h.2.2.2.2.2.1, h.2.2.2.2.2.2.1, h.2.2.2.2.2.2.2.1, hk _ h.2.2.2.2.2.2.2.2⟩ | exact ⟨h.1, fun q => hk _ (h.2.1 q), fun q => hk _ (h.2.2 q)⟩ | exact ⟨h.1, h.2.1, h.2.2.1, fun q => hk _ (h.2.2.2.1 q), fun j o q1 q2 => hk _ (h.2.2.2.2 j o q1 q2)⟩ | exact ⟨hk _ h.1, hk _ h.2⟩)

theorem cm_lstoren_im : cm_Mon cm_lstoren := by
  intro E P t S k1 k2 h hk
  obtain ⟨pc, L, st, M⟩ := S
  unfold cm_lstoren cm_sto at h ⊢
  dsimp only at h ⊢
  split at h <;> (first | exact h.elim | exact hk _ h | exact ⟨h.1, hk _ h.2⟩ | exact ⟨h.1, h.2.1, hk _ h.2.2⟩ | exact ⟨h.1, h.2.1, h.2.2.1, hk _ h.2.2.2⟩ | exact ⟨h.1, h.2.1, h.2.2.1, h.2.2.2.1, hk _ h.2.2.2.2⟩ | exact ⟨h.1, h.2.1, h.2.2.1, h.2.2.2.1, h.2.2.2.2.1, hk _ h.2.2.2.2.2⟩ | exact ⟨h.1, h.2.1, h.2.2.1, h.2.2.2.1, h.2.2.2.2.1, h.2.2.2.2.2.1, h.2.2.2.2.2.2.1, h.2.2.2.2.2.2.2.1, hk _ h.2.2.2.2.2.2.2.2⟩ | exact ⟨h.1, fun q => hk _ (h.2.1 q), fun q => hk _ (h.2.2 q)⟩ | exact ⟨h.1, h.2.1, h.2.2.1, fun q => hk _ (h.2.2.2.1 q), fun j o q1 q2 => hk _ (h.2.2.2.2 j o q1 q2)⟩ | exact ⟨hk _ h.1, hk _ h.2⟩)

theorem cm_astore_im : cm_Mon cm_astore := by
  intro E P t S k1 k2 h hk
  obtain ⟨pc, L, st, M⟩ := S
  unfold cm_astore cm_sto at h ⊢
  dsimp only at h ⊢
  split at h <;> (first | exact h.elim | exact hk _ h | exact ⟨h.1, hk _ h.2⟩ | exact ⟨h.1, h.2.1, hk _ h.2.2⟩ | exact ⟨h.1, h.2.1, h.2.2.1, hk _ h.2.2.2⟩ | exact ⟨h.1, h.2.1, h.2.2.1, h.2.2.2.1, hk _ h.2.2.2.2⟩ | exact ⟨h.1, h.2.1, h.2.2.1, h.2.2.2.1, h.2.2.2.2.1, hk _ h.2.2.2.2.2⟩ | exact ⟨h.1, h.2.1, h.2.2.1, h.2.2.2.1, h.2.2.2.2.1, h.2.2.2.2.2.1, h.2.2.2.2.2.2.1, h.2.2.2.2.2.2.2.1, hk _ h.2.2.2.2.2.2.2.2⟩ | exact ⟨h.1, fun q => hk _ (h.2.1 q), fun q => hk _ (h.2.2 q)⟩ | exact ⟨h.1, h.2.1, h.2.2.1, fun q => hk _ (h.2.2.2.1 q), fun j o q1 q2 => hk _ (h.2.2.2.2 j o q1 q2)⟩ | exact ⟨hk _ h.1, hk _ h.2⟩)

theorem cm_astoren_im : cm_Mon cm_astoren := by
  intro E P t S k1 k2 h hk
  obtain ⟨pc, L, st, M⟩ := S
  unfold cm_astoren cm_sto at h ⊢
  dsimp only at h ⊢
  split at h <;> (first | exact h.elim | exact hk _ h | exact ⟨h.1, hk _ h.2⟩ | exact ⟨h.1, h.2.1, hk _ h.2.2⟩ | exact ⟨h.1, h.2.1, h.2.2.1, hk _ h.2.2.2⟩ | exact ⟨h.1, h.2.1, h.2.2.1, h.2.2.2.1, hk _ h.2.2.2.2⟩ | exact ⟨h.1, h.2.1, h.2.2.1, h.2.2.2.1, h.2.2.2.2.1, hk _ h.2.2.2.2.2⟩ | exact ⟨h.1, h.2.1, h.2.2.1, h.2.2.2.1, h.2.2.2.2.1, h.2.2.2.2.2.1, h.2.2.2.2.2.2.1, h.2.2.2.2.2.2.2.1, hk _ h.2.2.2.2.2.2.2.2⟩ | exact ⟨h.1, fun q => hk _ (h.2.1 q), fun q => hk _ (h.2.2 q)⟩ | exact ⟨h.1, h.2.1, h.2.2.1, fun q => hk _ (h.2.2.2.1 q), fun j o q1 q2 => hk _ (h.2.2.2.2 j o q1 q2)⟩ | exact ⟨hk _ h.1, hk _ h.2⟩)

theorem cm_iadd_im : cm_Mon cm_iadd := by
  intro E P t S k1 k2 h hk
  obtain ⟨pc, L, st, M⟩ := S
  unfold cm_iadd at h ⊢
  dsimp only at h ⊢
  split at h <;> (first | exact h.elim | exact hk _ h | exact ⟨h.1, hk _ h.2⟩ | exact ⟨h.1, h.2.1, hk _ h.2.2⟩ | exact ⟨h.1, h.2.1, h.2.2.1, hk _ h.2.2.2⟩ | exact ⟨h.1, h.2.1, h.2.2.1, h.2.2.2.1, hk _ h.2.2.2.2⟩ | exact ⟨h.1, h.2.1, h.2.2.1, h.2.2.2.1, h.2.2.2.2.1, hk _ h.2.2.2.2.2⟩ | exact ⟨h.1, h.2.1, h.2.2.1, h.2.2.2.1, h.2.2.2.2.1, h.2.2.2.2.2.1, h.2.2.2.2.2.2.1, h.2.2.2.2.2.2.2.1, hk _ h.2.2.2.2.2.2.2.2⟩ | exact ⟨h.1, fun q => hk _ (h.2.1 q), fun q => hk _ (h.2.2 q)⟩ | exact ⟨h.1, h.2.1, h.2.2.1, fun q => hk _ (h.2.2.2.1 q), fun j o q1 q2 => hk _ (h.2.2.2.2 j o q1 q2)⟩ | exact ⟨hk _ h.1, hk _ h.2⟩)

theorem cm_isub_im : cm_Mon cm_isub := by
  intro E P t S k1 k2 h hk
  obtain ⟨pc, L, st, M⟩ := S
  unfold cm_isub at h ⊢
  dsimp only at h ⊢
  split at h <;> (first | exact h.elim | exact hk _ h | exact ⟨h.1, hk _ h.2⟩ | exact ⟨h.1, h.2.1, hk _ h.2.2⟩ | exact ⟨h.1, h.2.1, h.2.2.1, hk _ h.2.2.2⟩ | exact ⟨h.1, h.2.1, h.2.2.1, h.2.2.2.1, hk _ h.2.2.2.2⟩ | exact ⟨h.1, h.2.1, h.2.2.1, h.2.2.2.1, h.2.2.2.2.1, hk _ h.2.2.2.2.2⟩ | exact ⟨h.1, h.2.1, h.2.2.1, h.2.2.2.1, h.2.2.2.2.1, h.2.2.2.2.2.1, h.2.2.2.2.2.2.1, h.2.2.2.2.2.2.2.1, hk _ h.2.2.2.2.2.2.2.2⟩ | exact ⟨h.1, fun q => hk _ (h.2.1 q), fun q => hk _ (h.2.2 q)⟩ | exact ⟨h.1, h.2.1, h.2.2.1, fun q => hk _ (h.2.2.2.1 q), fun j o q1 q2 => hk _ (h.2.2.2.2 j o q1 q2)⟩ | exact ⟨hk _ h.1, hk _ h.2⟩)

theorem cm_imul_im : cm_Mon cm_imul := by
  intro E P t S k1 k2 h hk
  obtain ⟨pc, L, st, M⟩ := S
  unfold cm_imul at h ⊢
  dsimp only at h ⊢
  split at h <;> (first | exact h.elim | exact hk _ h | exact ⟨h.1, hk _ h.2⟩ | exact ⟨h.1, h.2.1, hk _ h.2.2⟩ | exact ⟨h.1, h.2.1, h.2.2.1, hk _ h.2.2.2⟩ | exact ⟨h.1, h.2.1, h.2.2.1, h.2.2.2.1, hk _ h.2.2.2.2⟩ | exact ⟨h.1, h.2.1, h.2.2.1, h.2.2.2.1, h.2.2.2.2.1, hk _ h.2.2.2.2.2⟩ | exact ⟨h.1, h.2.1, h.2.2.1, h.2.2.2.1, h.2.2.2.2.1, h.2.2.2.2.2.1, h.2.2.2.2.2.2.1, h.2.2.2.2.2.2.2.1, hk _ h.2.2.2.2.2.2.2.2⟩ | exact ⟨h.1, fun q => hk _ (h.2.1 q), fun q => hk _ (h.2.2 q)⟩ | exact ⟨h.1, h.2.1, h.2.2.1, fun q => hk _ (h.2.2.2.1 q), fun j o q1 q2 => hk _ (h.2.2.2.2 j o q1 q2)⟩ | exact ⟨hk _ h.1, hk _ h.2⟩)

theorem cm_iand_im : cm_Mon cm_iand := by
  intro E P t S k1 k2 h hk
  obtain ⟨pc, L, st, M⟩ := S
  unfold cm_iand at h ⊢
  dsimp only at h ⊢
  split at h <;> (first | exact h.elim | exact hk _ h | exact ⟨h.1, hk _ h.2⟩ | exact ⟨h.1, h.2.1, hk _ h.2.2⟩ | exact ⟨h.1, h.2.1, h.2.2.1, hk _ h.2.2.2⟩ | exact ⟨h.1, h.2.1, h.2.2.1, h.2.2.2.1, hk _ h.2.2.2.2⟩ | exact ⟨h.1, h.2.1, h.2.2.1, h.2.2.2.1, h.2.2.2.2.1, hk _ h.2.2.2.2.2⟩ | exact ⟨h.1, h.2.1, h.2.2.1, h.2.2.2.1, h.2.2.2.2.1, h.2.2.2.2.2.1, h.2.2.2.2.2.2.1, h.2.2.2.2.2.2.2.1, hk _ h.2.2.2.2.2.2.2.2⟩ | exact ⟨h.1, fun q => hk _ (h.2.1 q), fun q => hk _ (h.2.2 q)⟩ | exact ⟨h.1, h.2.1, h.2.2.1, fun q => hk _ (h.2.2.2.1 q), fun j o q1 q2 => hk _ (h.2.2.2.2 j o q1 q2)⟩ | exact ⟨hk _ h.1, hk _ h.2⟩)

theorem cm_ior_im : cm_Mon cm_ior := by
  intro E P t S k1 k2 h hk
  obtain ⟨pc, L, st, M⟩ := S
  unfold cm_ior at h ⊢
  dsimp only at h ⊢
  split at h <;> (first | exact h.elim | exact hk _ h | exact ⟨h.1, hk _ h.2⟩ | exact ⟨h.1, h.2.1, hk _ h.2.2⟩ | exact ⟨h.1, h.2.1, h.2.2.1, hk _ h.2.2.2⟩ | exact ⟨h.1, h.2.1, h.2.2.1, h.2.2.2.1, hk _ h.2.2.2.2⟩ | exact ⟨h.1, h.2.1, h.2.2.1, h.2.2.2.1, h.2.2.2.2.1, hk _ h.2.2.2.2.2⟩ | exact ⟨h.1, h.2.1, h.2.2.1, h.2.2.2.1, h.2.2.2.2.1, h.2.2.2.2.2.1, h.2.2.2.2.2.2.1, h.2.2.2.2.2.2.2.1, hk _ h.2.2.2.2.2.2.2.2⟩ | exact ⟨h.1, fun q => hk _ (h.2.1 q), fun q => hk _ (h.2.2 q)⟩ | exact ⟨h.1, h.2.1, h.2.2.1, fun q => hk _ (h.2.2.2.1 q), fun j o q1 q2 => hk _ (h.2.2.2.2 j o q1 q2)⟩ | exact ⟨hk _ h.1, hk _ h.2⟩)

theorem cm_ixor_im : cm_Mon cm_ixor := by
  intro E P t S k1 k2 h hk
  obtain ⟨pc, L, st, M⟩ := S
  unfold cm_ixor at h ⊢
  dsimp only at h ⊢
  split at h <;> (first | exact h.elim | exact hk _ h | exact ⟨h.1, hk _ h.2⟩ | exact ⟨h.1, h.2.1, hk _ h.2.2⟩ | exact ⟨h.1, h.2.1, h.2.2.1, hk _ h.2.2.2⟩ | exact ⟨h.1, h.2.1, h.2.2.1, h.2.2.2.1, hk _ h.2.2.2.2⟩ | exact ⟨h.1, h.2.1, h.2.2.1, h.2.2.2.1, h.2.2.2.2.1, hk _ h.2.2.2.2.2⟩ | exact ⟨h.1, h.2.1, h.2.2.1, h.2.2.2.1, h.2.2.2.2.1, h.2.2.2.2.2.1, h.2.2.2.2.2.2.1, h.2.2.2.2.2.2.2.1, hk _ h.2.2.2.2.2.2.2.2⟩ | exact ⟨h.1, fun q => hk _ (h.2.1 q), fun q => hk _ (h.2.2 q)⟩ | exact ⟨h.1, h.2.1, h.2.2.1, fun q => hk _ (h.2.2.2.1 q), fun j o q1 q2 => hk _ (h.2.2.2.2 j o q1 q2)⟩ | exact ⟨hk _ h.1, hk _ h.2⟩)

theorem cm_ishl_im : cm_Mon cm_ishl := by
  intro E P t S k1 k2 h hk
  obtain ⟨pc, L, st, M⟩ := S
  unfold cm_ishl at h ⊢
  dsimp only at h ⊢
  split at h <;> (first | exact h.elim | exact hk _ h | exact ⟨h.1, hk _ h.2⟩ | exact ⟨h.1, h.2.1, hk _ h.2.2⟩ | exact ⟨h.1, h.2.1, h.2.2.1, hk _ h.2.2.2⟩ | exact ⟨h.1, h.2.1, h.2.2.1, h.2.2.2.1, hk _ h.2.2.2.2⟩ | exact ⟨h.1, h.2.1, h.2.2.1, h.2.2.2.1, h.2.2.2.2.1, hk _ h.2.2.2.2.2⟩ | exact ⟨h.1, h.2.1, h.2.2.1, h.2.2.2.1, h.2.2.2.2.1, h.2.2.2.2.2.1, h.2.2.2.2.2.2.1, h.2.2.2.2.2.2.2.1, hk _ h.2.2.2.2.2.2.2.2⟩ | exact ⟨h.1, fun q => hk _ (h.2.1 q), fun q => hk _ (h.2.2 q)⟩ | exact ⟨h.1, h.2.1, h.2.2.1, fun q => hk _ (h.2.2.2.1 q), fun j o q1 q2 => hk _ (h.2.2.2.2 j o q1 q2)⟩ | exact ⟨hk _ h.1, hk _ h.2⟩)

theorem cm_ishr_im : cm_Mon cm_ishr := by
  intro E P t S k1 k2 h hk
  obtain ⟨pc, L, st, M⟩ := S
  unfold cm_ishr at h ⊢
  dsimp only at h ⊢
  split at h <;> (first | exact h.elim | exact hk _ h | exact ⟨h.1, hk _ h.2⟩ | exact ⟨h.1, h.2.1, hk _ h.2.2⟩ | exact ⟨h.1, h.2.1, h.2.2.1, hk _ h.2.2.2⟩ | exact ⟨h.1, h.2.1, h.2.2.1, h.2.2.2.1, hk _ h.2.2.2.2⟩ | exact ⟨h.1, h.2.1, h.2.2.1, h.2.2.2.1, h.2.2.2.2.1, hk _ h.2.2.2.2.2⟩ | exact ⟨h.1, h.2.1, h.2.2.1, h.2.2.2.1, h.2.2.2.2.1, h.2.2.2.2.2.1, h.2.2.2.2.2.2.1, h.2.2.2.2.2.2.2.1, hk _ h.2.2.2.2.2.2.2.2⟩ | exact ⟨h.1, fun q => hk _ (h.2.1 q), fun q => hk _ (h.2.2 q)⟩ | exact ⟨h.1, h.2.1, h.2.2.1, fun q => hk _ (h.2.2.2.1 q), fun j o q1 q2 => hk _ (h.2.2.2.2 j o q1 q2)⟩ | exact ⟨hk _ h.1, hk _ h.2⟩)

theorem cm_iushr_im : cm_Mon cm_iushr := by
  intro E P t S k1 k2 h hk
  obtain ⟨pc, L, st, M⟩ := S
  unfold cm_iushr at h ⊢
  dsimp only at h ⊢
  split at h <;> (first | exact h.elim | exact hk _ h | exact ⟨h.1, hk _ h.2⟩ | exact ⟨h.1, h.2.1, hk _ h.2.2⟩ | exact ⟨h.1, h.2.1, h.2.2.1, hk _ h.2.2.2⟩ | exact ⟨h.1, h.2.1, h.2.2.1, h.2.2.2.1, hk _ h.2.2.2.2⟩ | exact ⟨h.1, h.2.1, h.2.2.1, h.2.2.2.1, h.2.2.2.2.1, hk _ h.2.2.2.2.2⟩ | exact ⟨h.1, h.2.1, h.2.2.1, h.2.2.2.1, h.2.2.2.2.1, h.2.2.2.2.2.1, h.2.2.2.2.2.2.1, h.2.2.2.2.2.2.2.1, hk _ h.2.2.2.2.2.2.2.2⟩ | exact ⟨h.1, fun q => hk _ (h.2.1 q), fun q => hk _ (h.2.2 q)⟩ | exact ⟨h.1, h.2.1, h.2.2.1, fun q => hk _ (h.2.2.2.1 q), fun j o q1 q2 => hk _ (h.2.2.2.2 j o q1 q2)⟩ | exact ⟨hk _ h.1, hk _ h.2⟩)

theorem cm_idiv_im : cm_Mon cm_idiv := by
  intro E P t S k1 k2 h hk
  obtain ⟨pc, L, st, M⟩ := S
  unfold cm_idiv at h ⊢
  dsimp only at h ⊢
  split at h <;> (first | exact h.elim | exact hk _ h | exact ⟨h.1, hk _ h.2⟩ | exact ⟨h.1, h.2.1, hk _ h.2.2⟩ | exact ⟨h.1, h.2.1, h.2.2.1, hk _ h.2.2.2⟩ | exact ⟨h.1, h.2.1, h.2.2.1, h.2.2.2.1, hk _ h.2.2.2.2⟩ | exact ⟨h.1, h.2.1, h.2.2.1, h.2.2.2.1, h.2.2.2.2.1, hk _ h.2.2.2.2.2⟩ | exact ⟨h.1, h.2.1, h.2.2.1, h.2.2.2.1, h.2.2.2.2.1, h.2.2.2.2.2.1, h.2.2.2.2.2.2.1, h.2.2.2.2.2.2.2.1, hk _ h.2.2.2.2.2.2.2.2⟩ | exact ⟨h.1, fun q => hk _ (h.2.1 q), fun q => hk _ (h.2.2 q)⟩ | exact ⟨h.1, h.2.1, h.2.2.1, fun q => hk _ (h.2.2.2.1 q), fun j o q1 q2 => hk _ (h.2.2.2.2 j o q1 q2)⟩ | exact ⟨hk _ h.1, hk _ h.2⟩)

theorem cm_irem_im : cm_Mon cm_irem := by
  intro E P t S k1 k2 h hk
  obtain ⟨pc, L, st, M⟩ := S
  unfold cm_irem at h ⊢
  dsimp only at h ⊢
  split at h <;> (first | exact h.elim | exact hk _ h | exact ⟨h.1, hk _ h.2⟩ | exact ⟨h.1, h.2.1, hk _ h.2.2⟩ | exact ⟨h.1, h.2.1, h.2.2.1, hk _ h.2.2.2⟩ | exact ⟨h.1, h.2.1, h.2.2.1, h.2.2.2.1, hk _ h.2.2.2.2⟩ | exact ⟨h.1, h.2.1, h.2.2.1, h.2.2.2.1, h.2.2.2.2.1, hk _ h.2.2.2.2.2⟩ | exact ⟨h.1, h.2.1, h.2.2.1, h.2.2.2.1, h.2.2.2.2.1, h.2.2.2.2.2.1, h.2.2.2.2.2.2.1, h.2.2.2.2.2.2.2.1, hk _ h.2.2.2.2.2.2.2.2⟩ | exact ⟨h.1, fun q => hk _ (h.2.1 q), fun q => hk _ (h.2.2 q)⟩ | exact ⟨h.1, h.2.1, h.2.2.1, fun q => hk _ (h.2.2.2.1 q), fun j o q1 q2 => hk _ (h.2.2.2.2 j o q1 q2)⟩ | exact ⟨hk _ h.1, hk _ h.2⟩)

theorem cm_ineg_im : cm_Mon cm_ineg := by
  intro E P t S k1 k2 h hk
  obtain ⟨pc, L, st, M⟩ := S
  unfold cm_ineg at h ⊢
  dsimp only at h ⊢
  split at h <;> (first | exact h.elim | exact hk _ h | exact ⟨h.1, hk _ h.2⟩ | exact ⟨h.1, h.2.1, hk _ h.2.2⟩ | exact ⟨h.1, h.2.1, h.2.2.1, hk _ h.2.2.2⟩ | exact ⟨h.1, h.2.1, h.2.2.1, h.2.2.2.1, hk _ h.2.2.2.2⟩ | exact ⟨h.1, h.2.1, h.2.2.1, h.2.2.2.1, h.2.2.2.2.1, hk _ h.2.2.2.2.2⟩ | exact ⟨h.1, h.2.1, h.2.2.1, h.2.2.2.1, h.2.2.2.2.1, h.2.2.2.2.2.1, h.2.2.2.2.2.2.1, h.2.2.2.2.2.2.2.1, hk _ h.2.2.2.2.2.2.2.2⟩ | exact ⟨h.1, fun q => hk _ (h.2.1 q), fun q => hk _ (h.2.2 q)⟩ | exact ⟨h.1, h.2.1, h.2.2.1, fun q => hk _ (h.2.2.2.1 q), fun j o q1 q2 => hk _ (h.2.2.2.2 j o q1 q2)⟩ | exact ⟨hk _ h.1, hk _ h.2⟩)

theorem cm_i2b_im : cm_Mon cm_i2b := by
  intro E P t S k1 k2 h hk
  obtain ⟨pc, L, st, M⟩ := S
  unfold cm_i2b at h ⊢
  dsimp only at h ⊢
  split at h <;> (first | exact h.elim | exact hk _ h | exact ⟨h.1, hk _ h.2⟩ | exact ⟨h.1, h.2.1, hk _ h.2.2⟩ | exact ⟨h.1, h.2.1, h.2.2.1, hk _ h.2.2.2⟩ | exact ⟨h.1, h.2.1, h.2.2.1, h.2.2.2.1, hk _ h.2.2.2.2⟩ | exact ⟨h.1, h.2.1, h.2.2.1, h.2.2.2.1, h.2.2.2.2.1, hk _ h.2.2.2.2.2⟩ | exact ⟨h.1, h.2.1, h.2.2.1, h.2.2.2.1, h.2.2.2.2.1, h.2.2.2.2.2.1, h.2.2.2.2.2.2.1, h.2.2.2.2.2.2.2.1, hk _ h.2.2.2.2.2.2.2.2⟩ | exact ⟨h.1, fun q => hk _ (h.2.1 q), fun q => hk _ (h.2.2 q)⟩ | exact ⟨h.1, h.2.1, h.2.2.1, fun q => hk _ (h.2.2.2.1 q), fun j o q1 q2 => hk _ (h.2.2.2.2 j o q1 q2)⟩ | exact ⟨hk _ h.1, hk _ h.2⟩)

theorem cm_i2l_im : cm_Mon cm_i2l := by
  intro E P t S k1 k2 h hk
  obtain ⟨pc, L, st, M⟩ := S
  unfold cm_i2l at h ⊢
  dsimp only at h ⊢
  split at h <;> (first | exact h.elim | exact hk _ h | exact ⟨h.1, hk _ h.2⟩ | exact ⟨h.1, h.2.1, hk _ h.2.2⟩ | exact ⟨h.1, h.2.1, h.2.2.1, hk _ h.2.2.2⟩ | exact ⟨h.1, h.2.1, h.2.2.1, h.2.2.2.1, hk _ h.2.2.2.2⟩ | exact ⟨h.1, h.2.1, h.2.2.1, h.2.2.2.1, h.2.2.2.2.1, hk _ h.2.2.2.2.2⟩ | exact ⟨h.1, h.2.1, h.2.2.1, h.2.2.2.1, h.2.2.2.2.1, h.2.2.2.2.2.1, h.2.2.2.2.2.2.1, h.2.2.2.2.2.2.2.1, hk _ h.2.2.2.2.2.2.2.2⟩ | exact ⟨h.1, fun q => hk _ (h.2.1 q), fun q => hk _ (h.2.2 q)⟩ | exact ⟨h.1, h.2.1, h.2.2.1, fun q => hk _ (h.2.2.2.1 q), fun j o q1 q2 => hk _ (h.2.2.2.2 j o q1 q2)⟩ | exact ⟨hk _ h.1, hk _ h.2⟩)

theorem cm_lcmp_im : cm_Mon cm_lcmp := by
  intro E P t S k1 k2 h hk
  obtain ⟨pc, L, st, M⟩ := S
  unfold cm_lcmp at h ⊢
  dsimp only at h ⊢
  split at h <;> (first | exact h.elim | exact hk _ h | exact ⟨h.1, hk _ h.2⟩ | exact ⟨h.1, h.2.1, hk _ h.2.2⟩ | exact ⟨h.1, h.2.1, h.2.2.1, hk _ h.2.2.2⟩ | exact ⟨h.1, h.2.1, h.2.2.1, h.2.2.2.1, hk _ h.2.2.2.2⟩ | exact ⟨h.1, h.2.1, h.2.2.1, h.2.2.2.1, h.2.2.2.2.1, hk _ h.2.2.2.2.2⟩ | exact ⟨h.1, h.2.1, h.2.2.1, h.2.2.2.1, h.2.2.2.2.1, h.2.2.2.2.2.1, h.2.2.2.2.2.2.1, h.2.2.2.2.2.2.2.1, hk _ h.2.2.2.2.2.2.2.2⟩ | exact ⟨h.1, fun q => hk _ (h.2.1 q), fun q => hk _ (h.2.2 q)⟩ | exact ⟨h.1, h.2.1, h.2.2.1, fun q => hk _ (h.2.2.2.1 q), fun j o q1 q2 => hk _ (h.2.2.2.2 j o q1 q2)⟩ | exact ⟨hk _ h.1, hk _ h.2⟩)

theorem cm_dup_im : cm_Mon cm_dup := by
  intro E P t S k1 k2 h hk
  obtain ⟨pc, L, st, M⟩ := S
  unfold cm_dup at h ⊢
  dsimp only at h ⊢
  split at h <;> (first | exact h.elim | exact hk _ h | exact ⟨h.1, hk _ h.2⟩ | exact ⟨h.1, h.2.1, hk _ h.2.2⟩ | exact ⟨h.1, h.2.1, h.2.2.1, hk _ h.2.2.2⟩ | exact ⟨h.1, h.2.1, h.2.2.1, h.2.2.2.1, hk _ h.2.2.2.2⟩ | exact ⟨h.1, h.2.1, h.2.2.1, h.2.2.2.1, h.2.2.2.2.1, hk _ h.2.2.2.2.2⟩ | exact ⟨h.1, h.2.1, h.2.2.1, h.2.2.2.1, h.2.2.2.2.1, h.2.2.2.2.2.1, h.2.2.2.2.2.2.1, h.2.2.2.2.2.2.2.1, hk _ h.2.2.2.2.2.2.2.2⟩ | exact ⟨h.1, fun q => hk _ (h.2.1 q), fun q => hk _ (h.2.2 q)⟩ | exact ⟨h.1, h.2.1, h.2.2.1, fun q => hk _ (h.2.2.2.1 q), fun j o q1 q2 => hk _ (h.2.2.2.2 j o q1 q2)⟩ | exact ⟨hk _ h.1, hk _ h.2⟩)

theorem cm_pop_im : cm_Mon cm_pop := by
  intro E P t S k1 k2 h hk
  obtain ⟨pc, L, st, M⟩ := S
  unfold cm_pop at h ⊢
  dsimp only at h ⊢
  split at h <;> (first | exact h.elim | exact hk _ h | exact ⟨h.1, hk _ h.2⟩ | exact ⟨h.1, h.2.1, hk _ h.2.2⟩ | exact ⟨h.1, h.2.1, h.2.2.1, hk _ h.2.2.2⟩ | exact ⟨h.1, h.2.1, h.2.2.1, h.2.2.2.1, hk _ h.2.2.2.2⟩ | exact ⟨h.1, h.2.1, h.2.2.1, h.2.2.2.1, h.2.2.2.2.1, hk _ h.2.2.2.2.2⟩ | exact ⟨h.1, h.2.1, h.2.2.1, h.2.2.2.1, h.2.2.2.2.1, h.2.2.2.2.2.1, h.2.2.2.2.2.2.1, h.2.2.2.2.2.2.2.1, hk _ h.2.2.2.2.2.2.2.2⟩ | exact ⟨h.1, fun q => hk _ (h.2.1 q), fun q => hk _ (h.2.2 q)⟩ | exact ⟨h.1, h.2.1, h.2.2.1, fun q => hk _ (h.2.2.2.1 q), fun j o q1 q2 => hk _ (h.2.2.2.2 j o q1 q2)⟩ | exact ⟨hk _ h.1, hk _ h.2⟩)

theorem cm_dup2_im : cm_Mon cm_dup2 := by
  intro E P t S k1 k2 h hk
  obtain ⟨pc, L, st, M⟩ := S
  unfold cm_dup2 at h ⊢
  dsimp only at h ⊢
  split at h <;> (first | exact h.elim | exact hk _ h | exact ⟨h.1, hk _ h.2⟩ | exact ⟨h.1, h.2.1, hk _ h.2.2⟩ | exact ⟨h.1, h.2.1, h.2.2.1, hk _ h.2.2.2⟩ | exact ⟨h.1, h.2.1, h.2.2.1, h.2.2.2.1, hk _ h.2.2.2.2⟩ | exact ⟨h.1, h.2.1, h.2.2.1, h.2.2.2.1, h.2.2.2.2.1, hk _ h.2.2.2.2.2⟩ | exact ⟨h.1, h.2.1, h.2.2.1, h.2.2.2.1, h.2.2.2.2.1, h.2.2.2.2.2.1, h.2.2.2.2.2.2.1, h.2.2.2.2.2.2.2.1, hk _ h.2.2.2.2.2.2.2.2⟩ | exact ⟨h.1, fun q => hk _ (h.2.1 q), fun q => hk _ (h.2.2 q)⟩ | exact ⟨h.1, h.2.1, h.2.2.1, fun q => hk _ (h.2.2.2.1 q), fun j o q1 q2 => hk _ (h.2.2.2.2 j o q1 q2)⟩ | exact ⟨hk _ h.1, hk _ h.2⟩)

theorem cm_iinc_im : cm_Mon cm_iinc := by
  intro E P t S k1 k2 h hk
  obtain ⟨pc, L, st, M⟩ := S
  unfold cm_iinc at h ⊢
  dsimp only at h ⊢
  split at h <;> first | exact h.elim | exact ⟨h.1, hk _ h.2⟩

theorem cm_icmp_eq_im : cm_Mon cm_icmp_eq := by
  intro E P t S k1 k2 h hk
  obtain ⟨pc, L, st, M⟩ := S
  unfold cm_icmp_eq at h ⊢
  dsimp only at h ⊢
  split at h <;> (first | exact h.elim | exact hk _ h | exact ⟨h.1, hk _ h.2⟩ | exact ⟨h.1, h.2.1, hk _ h.2.2⟩ | exact ⟨h.1, h.2.1, h.2.2.1, hk _ h.2.2.2⟩ | exact ⟨h.1, h.2.1, h.2.2.1, h.2.2.2.1, hk _ h.2.2.2.2⟩ | exact ⟨h.1, h.2.1, h.2.2.1, h.2.2.2.1, h.2.2.2.2.1, hk _ h.2.2.2.2.2⟩ | exact ⟨h.1, h.2.1, h.2.2.1, h.2.2.2.1, h.2.2.2.2.1, h.2.2.2.2.2.1, h.2.2.2.2.2.2.1, h.2.2.2.2.2.2.2.1, hk _ h.2.2.2.2.2.2.2.2⟩ | exact ⟨h.1, fun q => hk _ (h.2.1 q), fun q => hk _ (h.2.2 q)⟩ | exact ⟨h.1, h.2.1, h.2.2.1, fun q => hk _ (h.2.2.2.1 q), fun j o q1 q2 => hk _ (h.2.2.2.2 j o q1 q2)⟩ | exact ⟨hk _ h.1, hk _ h.2⟩)

theorem cm_icmp_ne_im : cm_Mon cm_icmp_ne := by
  intro E P t S k1 k2 h hk
  obtain ⟨pc, L, st, M⟩ := S
  unfold cm_icmp_ne at h ⊢
  dsimp only at h ⊢
  split at h <;> (first | exact h.elim | exact hk _ h | exact ⟨h.1, hk _ h.2⟩ | exact ⟨h.1, h.2.1, hk _ h.2.2⟩ | exact ⟨h.1, h.2.1, h.2.2.1, hk _ h.2.2.2⟩ | exact ⟨h.1, h.2.1, h.2.2.1, h.2.2.2.1, hk _ h.2.2.2.2⟩ | exact ⟨h.1, h.2.1, h.2.2.1, h.2.2.2.1, h.2.2.2.2.1, hk _ h.2.2.2.2.2⟩ | exact ⟨h.1, h.2.1, h.2.2.1, h.2.2.2.1, h.2.2.2.2.1, h.2.2.2.2.2.1, h.2.2.2.2.2.2.1, h.2.2.2.2.2.2.2.1, hk _ h.2.2.2.2.2.2.2.2⟩ | exact ⟨h.1, fun q => hk _ (h.2.1 q), fun q => hk _ (h.2.2 q)⟩ | exact ⟨h.1, h.2.1, h.2.2.1, fun q => hk _ (h.2.2.2.1 q), fun j o q1 q2 => hk _ (h.2.2.2.2 j o q1 q2)⟩ | exact ⟨hk _ h.1, hk _ h.2⟩)

theorem cm_icmp_lt_im : cm_Mon cm_icmp_lt := by
  intro E P t S k1 k2 h hk
  obtain ⟨pc, L, st, M⟩ := S
  unfold cm_icmp_lt at h ⊢
  dsimp only at h ⊢
  split at h <;> (first | exact h.elim | exact hk _ h | exact ⟨h.1, hk _ h.2⟩ | exact ⟨h.1, h.2.1, hk _ h.2.2⟩ | exact ⟨h.1, h.2.1, h.2.2.1, hk _ h.2.2.2⟩ | exact ⟨h.1, h.2.1, h.2.2.1, h.2.2.2.1, hk _ h.2.2.2.2⟩ | exact ⟨h.1, h.2.1, h.2.2.1, h.2.2.2.1, h.2.2.2.2.1, hk _ h.2.2.2.2.2⟩ | exact ⟨h.1, h.2.1, h.2.2.1, h.2.2.2.1, h.2.2.2.2.1, h.2.2.2.2.2.1, h.2.2.2.2.2.2.1, h.2.2.2.2.2.2.2.1, hk _ h.2.2.2.2.2.2.2.2⟩ | exact ⟨h.1, fun q => hk _ (h.2.1 q), fun q => hk _ (h.2.2 q)⟩ | exact ⟨h.1, h.2.1, h.2.2.1, fun q => hk _ (h.2.2.2.1 q), fun j o q1 q2 => hk _ (h.2.2.2.2 j o q1 q2)⟩ | exact ⟨hk _ h.1, hk _ h.2⟩)

theorem cm_icmp_ge_im : cm_Mon cm_icmp_ge := by
  intro E P t S k1 k2 h hk
  obtain ⟨pc, L, st, M⟩ := S
  unfold cm_icmp_ge at h ⊢
  dsimp only at h ⊢
  split at h <;> (first | exact h.elim | exact hk _ h | exact ⟨h.1, hk _ h.2⟩ | exact ⟨h.1, h.2.1, hk _ h.2.2⟩ | exact ⟨h.1, h.2.1, h.2.2.1, hk _ h.2.2.2⟩ | exact ⟨h.1, h.2.1, h.2.2.1, h.2.2.2.1, hk _ h.2.2.2.2⟩ | exact ⟨h.1, h.2.1, h.2.2.1, h.2.2.2.1, h.2.2.2.2.1, hk _ h.2.2.2.2.2⟩ | exact ⟨h.1, h.2.1, h.2.2.1, h.2.2.2.1, h.2.2.2.2.1, h.2.2.2.2.2.1, h.2.2.2.2.2.2.1, h.2.2.2.2.2.2.2.1, hk _ h.2.2.2.2.2.2.2.2⟩ | exact ⟨h.1, fun q => hk _ (h.2.1 q), fun q => hk _ (h.2.2 q)⟩ | exact ⟨h.1, h.2.1, h.2.2.1, fun q => hk _ (h.2.2.2.1 q), fun j o q1 q2 => hk _ (h.2.2.2.2 j o q1 q2)⟩ | exact ⟨hk _ h.1, hk _ h.2⟩)

theorem cm_icmp_gt_im : cm_Mon cm_icmp_gt := by
  intro E P t S k1 k2 h hk
  obtain ⟨pc, L, st, M⟩ := S
  unfold cm_icmp_gt at h ⊢
  dsimp only at h ⊢
  split at h <;> (first | exact h.elim | exact hk _ h | exact ⟨h.1, hk _ h.2⟩ | exact ⟨h.1, h.2.1, hk _ h.2.2⟩ | exact ⟨h.1, h.2.1, h.2.2.1, hk _ h.2.2.2⟩ | exact ⟨h.1, h.2.1, h.2.2.1, h.2.2.2.1, hk _ h.2.2.2.2⟩ | exact ⟨h.1, h.2.1, h.2.2.1, h.2.2.2.1, h.2.2.2.2.1, hk _ h.2.2.2.2.2⟩ | exact ⟨h.1, h.2.1, h.2.2.1, h.2.2.2.1, h.2.2.2.2.1, h.2.2.2.2.2.1, h.2.2.2.2.2.2.1, h.2.2.2.2.2.2.2.1, hk _ h.2.2.2.2.2.2.2.2⟩ | exact ⟨h.1, fun q => hk _ (h.2.1 q), fun q => hk _ (h.2.2 q)⟩ | exact ⟨h.1, h.2.1, h.2.2.1, fun q => hk _ (h.2.2.2.1 q), fun j o q1 q2 => hk _ (h.2.2.2.2 j o q1 q2)⟩ | exact ⟨hk _ h.1, hk _ h.2⟩)

theorem cm_icmp_le_im : cm_Mon cm_icmp_le := by
  intro E P t S k1 k2 h hk
  obtain ⟨pc, L, st, M⟩ := S
  unfold cm_icmp_le at h ⊢
  dsimp only at h ⊢
  split at h <;> (first | exact h.elim | exact hk _ h | exact ⟨h.1, hk _ h.2⟩ | exact ⟨h.1, h.2.1, hk _ h.2.2⟩ | exact ⟨h.1, h.2.1, h.2.2.1, hk _ h.2.2.2⟩ | exact ⟨h.1, h.2.1, h.2.2.1, h.2.2.2.1, hk _ h.2.2.2.2⟩ | exact ⟨h.1, h.2.1, h.2.2.1, h.2.2.2.1, h.2.2.2.2.1, hk _ h.2.2.2.2.2⟩ | exact ⟨h.1, h.2.1, h.2.2.1, h.2.2.2.1, h.2.2.2.2.1, h.2.2.2.2.2.1, h.2.2.2.2.2.2.1, h.2.2.2.2.2.2.2.1, hk _ h.2.2.2.2.2.2.2.2⟩ | exact ⟨h.1, fun q => hk _ (h.2.1 q), fun q => hk _ (h.2.2 q)⟩ | exact ⟨h.1, h.2.1, h.2.2.1, fun q => hk _ (h.2.2.2.1 q), fun j o q1 q2 => hk _ (h.2.2.2.2 j o q1 q2)⟩ | exact ⟨hk _ h.1, hk _ h.2⟩)

theorem cm_if_eq_im : cm_Mon cm_if_eq := by
  intro E P t S k1 k2 h hk
  obtain ⟨pc, L, st, M⟩ := S
  unfold cm_if_eq at h ⊢
  dsimp only at h ⊢
  split at h <;> (first | exact h.elim | exact hk _ h | exact ⟨h.1, hk _ h.2⟩ | exact ⟨h.1, h.2.1, hk _ h.2.2⟩ | exact ⟨h.1, h.2.1, h.2.2.1, hk _ h.2.2.2⟩ | exact ⟨h.1, h.2.1, h.2.2.1, h.2.2.2.1, hk _ h.2.2.2.2⟩ | exact ⟨h.1, h.2.1, h.2.2.1, h.2.2.2.1, h.2.2.2.2.1, hk _ h.2.2.2.2.2⟩ | exact ⟨h.1, h.2.1, h.2.2.1, h.2.2.2.1, h.2.2.2.2.1, h.2.2.2.2.2.1, h.2.2.2.2.2.2.1, h.2.2.2.2.2.2.2.1, hk _ h.2.2.2.2.2.2.2.2⟩ | exact ⟨h.1, fun q => hk _ (h.2.1 q), fun q => hk _ (h.2.2 q)⟩ | exact ⟨h.1, h.2.1, h.2.2.1, fun q => hk _ (h.2.2.2.1 q), fun j o q1 q2 => hk _ (h.2.2.2.2 j o q1 q2)⟩ | exact ⟨hk _ h.1, hk _ h.2⟩)

theorem cm_if_ne_im : cm_Mon cm_if_ne := by
  intro E P t S k1 k2 h hk
  obtain ⟨pc, L, st, M⟩ := S
  unfold cm_if_ne at h ⊢
  dsimp only at h ⊢
  split at h <;> (first | exact h.elim | exact hk _ h | exact ⟨h.1, hk _ h.2⟩ | exact ⟨h.1, h.2.1, hk _ h.2.2⟩ | exact ⟨h.1, h.2.1, h.2.2.1, hk _ h.2.2.2⟩ | exact ⟨h.1, h.2.1, h.2.2.1, h.2.2.2.1, hk _ h.2.2.2.2⟩ | exact ⟨h.1, h.2.1, h.2.2.1, h.2.2.2.1, h.2.2.2.2.1, hk _ h.2.2.2.2.2⟩ | exact ⟨h.1, h.2.1, h.2.2.1, h.2.2.2.1, h.2.2.2.2.1, h.2.2.2.2.2.1, h.2.2.2.2.2.2.1, h.2.2.2.2.2.2.2.1, hk _ h.2.2.2.2.2.2.2.2⟩ | exact ⟨h.1, fun q => hk _ (h.2.1 q), fun q => hk _ (h.2.2 q)⟩ | exact ⟨h.1, h.2.1, h.2.2.1, fun q => hk _ (h.2.2.2.1 q), fun j o q1 q2 => hk _ (h.2.2.2.2 j o q1 q2)⟩ | exact ⟨hk _ h.1, hk _ h.2⟩)

theorem cm_if_lt_im : cm_Mon cm_if_lt := by
  intro E P t S k1 k2 h hk
  obtain ⟨pc, L, st, M⟩ := S
  unfold cm_if_lt at h ⊢
  dsimp only at h ⊢
  split at h <;> (first | exact h.elim | exact hk _ h | exact ⟨h.1, hk _ h.2⟩ | exact ⟨h.1, h.2.1, hk _ h.2.2⟩ | exact ⟨h.1, h.2.1, h.2.2.1, hk _ h.2.2.2⟩ | exact ⟨h.1, h.2.1, h.2.2.1, h.2.2.2.1, hk _ h.2.2.2.2⟩ | exact ⟨h.1, h.2.1, h.2.2.1, h.2.2.2.1, h.2.2.2.2.1, hk _ h.2.2.2.2.2⟩ | exact ⟨h.1, h.2.1, h.2.2.1, h.2.2.2.1, h.2.2.2.2.1, h.2.2.2.2.2.1, h.2.2.2.2.2.2.1, h.2.2.2.2.2.2.2.1, hk _ h.2.2.2.2.2.2.2.2⟩ | exact ⟨h.1, fun q => hk _ (h.2.1 q), fun q => hk _ (h.2.2 q)⟩ | exact ⟨h.1, h.2.1, h.2.2.1, fun q => hk _ (h.2.2.2.1 q), fun j o q1 q2 => hk _ (h.2.2.2.2 j o q1 q2)⟩ | exact ⟨hk _ h.1, hk _ h.2⟩)

theorem cm_if_ge_im : cm_Mon cm_if_ge := by
  intro E P t S k1 k2 h hk
  obtain ⟨pc, L, st, M⟩ := S
  unfold cm_if_ge at h ⊢
  dsimp only at h ⊢
  split at h <;> (first | exact h.elim | exact hk _ h | exact ⟨h.1, hk _ h.2⟩ | exact ⟨h.1, h.2.1, hk _ h.2.2⟩ | exact ⟨h.1, h.2.1, h.2.2.1, hk _ h.2.2.2⟩ | exact ⟨h.1, h.2.1, h.2.2.1, h.2.2.2.1, hk _ h.2.2.2.2⟩ | exact ⟨h.1, h.2.1, h.2.2.1, h.2.2.2.1, h.2.2.2.2.1, hk _ h.2.2.2.2.2⟩ | exact ⟨h.1, h.2.1, h.2.2.1, h.2.2.2.1, h.2.2.2.2.1, h.2.2.2.2.2.1, h.2.2.2.2.2.2.1, h.2.2.2.2.2.2.2.1, hk _ h.2.2.2.2.2.2.2.2⟩ | exact ⟨h.1, fun q => hk _ (h.2.1 q), fun q => hk _ (h.2.2 q)⟩ | exact ⟨h.1, h.2.1, h.2.2.1, fun q => hk _ (h.2.2.2.1 q), fun j o q1 q2 => hk _ (h.2.2.2.2 j o q1 q2)⟩ | exact ⟨hk _ h.1, hk _ h.2⟩)

theorem cm_if_gt_im : cm_Mon cm_if_gt := by
  intro E P t S k1 k2 h hk
  obtain ⟨pc, L, st, M⟩ := S
  unfold cm_if_gt at h ⊢
  dsimp only at h ⊢
  split at h <;> (first | exact h.elim | exact hk _ h | exact ⟨h.1, hk _ h.2⟩ | exact ⟨h.1, h.2.1, hk _ h.2.2⟩ | exact ⟨h.1, h.2.1, h.2.2.1, hk _ h.2.2.2⟩ | exact ⟨h.1, h.2.1, h.2.2.1, h.2.2.2.1, hk _ h.2.2.2.2⟩ | exact ⟨h.1, h.2.1, h.2.2.1, h.2.2.2.1, h.2.2.2.2.1, hk _ h.2.2.2.2.2⟩ | exact ⟨h.1, h.2.1, h.2.2.1, h.2.2.2.1, h.2.2.2.2.1, h.2.2.2.2.2.1, h.2.2.2.2.2.2.1, h.2.2.2.2.2.2.2.1, hk _ h.2.2.2.2.2.2.2.2⟩ | exact ⟨h.1, fun q => hk _ (h.2.1 q), fun q => hk _ (h.2.2 q)⟩ | exact ⟨h.1, h.2.1, h.2.2.1, fun q => hk _ (h.2.2.2.1 q), fun j o q1 q2 => hk _ (h.2.2.2.2 j o q1 q2)⟩ | exact ⟨hk _ h.1, hk _ h.2⟩)

theorem cm_if_le_im : cm_Mon cm_if_le := by
  intro E P t S k1 k2 h hk
  obtain ⟨pc, L, st, M⟩ := S
  unfold cm_if_le at h ⊢
  dsimp only at h ⊢
  split at h <;> (first | exact h.elim | exact hk _ h | exact ⟨h.1, hk _ h.2⟩ | exact ⟨h.1, h.2.1, hk _ h.2.2⟩ | exact ⟨h.1, h.2.1, h.2.2.1, hk _ h.2.2.2⟩ | exact ⟨h.1, h.2.1, h.2.2.1, h.2.2.2.1, hk _ h.2.2.2.2⟩ | exact ⟨h.1, h.2.1, h.2.2.1, h.2.2.2.1, h.2.2.2.2.1, hk _ h.2.2.2.2.2⟩ | exact ⟨h.1, h.2.1, h.2.2.1, h.2.2.2.1, h.2.2.2.2.1, h.2.2.2.2.2.1, h.2.2.2.2.2.2.1, h.2.2.2.2.2.2.2.1, hk _ h.2.2.2.2.2.2.2.2⟩ | exact ⟨h.1, fun q => hk _ (h.2.1 q), fun q => hk _ (h.2.2 q)⟩ | exact ⟨h.1, h.2.1, h.2.2.1, fun q => hk _ (h.2.2.2.1 q), fun j o q1 q2 => hk _ (h.2.2.2.2 j o q1 q2)⟩ | exact ⟨hk _ h.1, hk _ h.2⟩)

theorem cm_goto_im : cm_Mon cm_goto := by
  intro E P t S k1 k2 h hk
  obtain ⟨pc, L, st, M⟩ := S
  unfold cm_goto at h ⊢
  dsimp only at h ⊢
  first | exact h.elim | exact hk _ h | exact ⟨h.1, hk _ h.2⟩ | exact ⟨h.1, h.2.1, hk _ h.2.2⟩ | exact ⟨h.1, h.2.1, h.2.2.1, hk _ h.2.2.2⟩ | exact ⟨h.1, h.2.1, h.2.2.1, h.2.2.2.1, hk _ h.2.2.2.2⟩ | exact ⟨h.1, h.2.1, h.2.2.1, h.2.2.2.1, h.2.2.2.2.1, hk _ h.2.2.2.2.2⟩ | exact ⟨h.1, h.2.1, h.2.2.1, h.2.2.2.1, h.2.2.2.2.1, h.2.2.2.2.2.1, h.2.2.2.2.2.2.1, h.2.2.2.2.2.2.2.1, hk _ h.2.2.2.2.2.2.2.2⟩ | exact ⟨h.1, fun q => hk _ (h.2.1 q), fun q => hk _ (h.2.2 q)⟩ | exact ⟨h.1, h.2.1, h.2.2.1, fun q => hk _ (h.2.2.2.1 q), fun j o q1 q2 => hk _ (h.2.2.2.2 j o q1 q2)⟩ | exact ⟨hk _ h.1, hk _ h.2⟩

theorem cm_sw_im : cm_Mon cm_sw := by
  intro E P t S k1 k2 h hk
  obtain ⟨pc, L, st, M⟩ := S
  unfold cm_sw at h ⊢
  dsimp only at h ⊢
  split at h
  · exact ⟨h.1, h.2.1, h.2.2.1, fun q => hk _ (h.2.2.2.1 q), fun j o q1 q2 => hk _ (h.2.2.2.2 j o q1 q2)⟩
  · exact h.elim

theorem cm_get_im : cm_Mon cm_get := by
  intro E P t S k1 k2 h hk
  obtain ⟨pc, L, st, M⟩ := S
  unfold cm_get at h ⊢
  dsimp only at h ⊢
  split at h <;> (first | exact h.elim | exact hk _ h | exact ⟨h.1, hk _ h.2⟩ | exact ⟨h.1, h.2.1, hk _ h.2.2⟩ | exact ⟨h.1, h.2.1, h.2.2.1, hk _ h.2.2.2⟩ | exact ⟨h.1, h.2.1, h.2.2.1, h.2.2.2.1, hk _ h.2.2.2.2⟩ | exact ⟨h.1, h.2.1, h.2.2.1, h.2.2.2.1, h.2.2.2.2.1, hk _ h.2.2.2.2.2⟩ | exact ⟨h.1, h.2.1, h.2.2.1, h.2.2.2.1, h.2.2.2.2.1, h.2.2.2.2.2.1, h.2.2.2.2.2.2.1, h.2.2.2.2.2.2.2.1, hk _ h.2.2.2.2.2.2.2.2⟩ | exact ⟨h.1, fun q => hk _ (h.2.1 q), fun q => hk _ (h.2.2 q)⟩ | exact ⟨h.1, h.2.1, h.2.2.1, fun q => hk _ (h.2.2.2.1 q), fun j o q1 q2 => hk _ (h.2.2.2.2 j o q1 q2)⟩ | exact ⟨hk _ h.1, hk _ h.2⟩)

theorem cm_put_im : cm_Mon cm_put := by
  intro E P t S k1 k2 h hk
  obtain ⟨pc, L, st, M⟩ := S
  unfold cm_put at h ⊢
  dsimp only at h ⊢
  split at h <;> (first | exact h.elim | exact hk _ h | exact ⟨h.1, hk _ h.2⟩ | exact ⟨h.1, h.2.1, hk _ h.2.2⟩ | exact ⟨h.1, h.2.1, h.2.2.1, hk _ h.2.2.2⟩ | exact ⟨h.1, h.2.1, h.2.2.1, h.2.2.2.1, hk _ h.2.2.2.2⟩ | exact ⟨h.1, h.2.1, h.2.2.1, h.2.2.2.1, h.2.2.2.2.1, hk _ h.2.2.2.2.2⟩ | exact ⟨h.1, h.2.1, h.2.2.1, h.2.2.2.1, h.2.2.2.2.1, h.2.2.2.2.2.1, h.2.2.2.2.2.2.1, h.2.2.2.2.2.2.2.1, hk _ h.2.2.2.2.2.2.2.2⟩ | exact ⟨h.1, fun q => hk _ (h.2.1 q), fun q => hk _ (h.2.2 q)⟩ | exact ⟨h.1, h.2.1, h.2.2.1, fun q => hk _ (h.2.2.2.1 q), fun j o q1 q2 => hk _ (h.2.2.2.2 j o q1 q2)⟩ | exact ⟨hk _ h.1, hk _ h.2⟩)

theorem cm_iaload_im : cm_Mon cm_iaload := by
  intro E P t S k1 k2 h hk
  obtain ⟨pc, L, st, M⟩ := S
  unfold cm_iaload at h ⊢
  dsimp only at h ⊢
  split at h <;> (first | exact h.elim | exact hk _ h | exact ⟨h.1, hk _ h.2⟩ | exact ⟨h.1, h.2.1, hk _ h.2.2⟩ | exact ⟨h.1, h.2.1, h.2.2.1, hk _ h.2.2.2⟩ | exact ⟨h.1, h.2.1, h.2.2.1, h.2.2.2.1, hk _ h.2.2.2.2⟩ | exact ⟨h.1, h.2.1, h.2.2.1, h.2.2.2.1, h.2.2.2.2.1, hk _ h.2.2.2.2.2⟩ | exact ⟨h.1, h.2.1, h.2.2.1, h.2.2.2.1, h.2.2.2.2.1, h.2.2.2.2.2.1, h.2.2.2.2.2.2.1, h.2.2.2.2.2.2.2.1, hk _ h.2.2.2.2.2.2.2.2⟩ | exact ⟨h.1, fun q => hk _ (h.2.1 q), fun q => hk _ (h.2.2 q)⟩ | exact ⟨h.1, h.2.1, h.2.2.1, fun q => hk _ (h.2.2.2.1 q), fun j o q1 q2 => hk _ (h.2.2.2.2 j o q1 q2)⟩ | exact ⟨hk _ h.1, hk _ h.2⟩)

theorem cm_baload_im : cm_Mon cm_baload := by
  intro E P t S k1 k2 h hk
  obtain ⟨pc, L, st, M⟩ := S
  unfold cm_baload at h ⊢
  dsimp only at h ⊢
  split at h <;> (first | exact h.elim | exact hk _ h | exact ⟨h.1, hk _ h.2⟩ | exact ⟨h.1, h.2.1, hk _ h.2.2⟩ | exact ⟨h.1, h.2.1, h.2.2.1, hk _ h.2.2.2⟩ | exact ⟨h.1, h.2.1, h.2.2.1, h.2.2.2.1, hk _ h.2.2.2.2⟩ | exact ⟨h.1, h.2.1, h.2.2.1, h.2.2.2.1, h.2.2.2.2.1, hk _ h.2.2.2.2.2⟩ | exact ⟨h.1, h.2.1, h.2.2.1, h.2.2.2.1, h.2.2.2.2.1, h.2.2.2.2.2.1, h.2.2.2.2.2.2.1, h.2.2.2.2.2.2.2.1, hk _ h.2.2.2.2.2.2.2.2⟩ | exact ⟨h.1, fun q => hk _ (h.2.1 q), fun q => hk _ (h.2.2 q)⟩ | exact ⟨h.1, h.2.1, h.2.2.1, fun q => hk _ (h.2.2.2.1 q), fun j o q1 q2 => hk _ (h.2.2.2.2 j o q1 q2)⟩ | exact ⟨hk _ h.1, hk _ h.2⟩)

theorem cm_laload_im : cm_Mon cm_laload := by
  intro E P t S k1 k2 h hk
  obtain ⟨pc, L, st, M⟩ := S
  unfold cm_laload at h ⊢
  dsimp only at h ⊢
  split at h <;> (first | exact h.elim | exact hk _ h | exact ⟨h.1, hk _ h.2⟩ | exact ⟨h.1, h.2.1, hk _ h.2.2⟩ | exact ⟨h.1, h.2.1, h.2.2.1, hk _ h.2.2.2⟩ | exact ⟨h.1, h.2.1, h.2.2.1, h.2.2.2.1, hk _ h.2.2.2.2⟩ | exact ⟨h.1, h.2.1, h.2.2.1, h.2.2.2.1, h.2.2.2.2.1, hk _ h.2.2.2.2.2⟩ | exact ⟨h.1, h.2.1, h.2.2.1, h.2.2.2.1, h.2.2.2.2.1, h.2.2.2.2.2.1, h.2.2.2.2.2.2.1, h.2.2.2.2.2.2.2.1, hk _ h.2.2.2.2.2.2.2.2⟩ | exact ⟨h.1, fun q => hk _ (h.2.1 q), fun q => hk _ (h.2.2 q)⟩ | exact ⟨h.1, h.2.1, h.2.2.1, fun q => hk _ (h.2.2.2.1 q), fun j o q1 q2 => hk _ (h.2.2.2.2 j o q1 q2)⟩ | exact ⟨hk _ h.1, hk _ h.2⟩)

theorem cm_aaload_im : cm_Mon cm_aaload := by
  intro E P t S k1 k2 h hk
  obtain ⟨pc, L, st, M⟩ := S
  unfold cm_aaload at h ⊢
  dsimp only at h ⊢
  split at h <;> (first | exact h.elim | exact hk _ h | exact ⟨h.1, hk _ h.2⟩ | exact ⟨h.1, h.2.1, hk _ h.2.2⟩ | exact ⟨h.1, h.2.1, h.2.2.1, hk _ h.2.2.2⟩ | exact ⟨h.1, h.2.1, h.2.2.1, h.2.2.2.1, hk _ h.2.2.2.2⟩ | exact ⟨h.1, h.2.1, h.2.2.1, h.2.2.2.1, h.2.2.2.2.1, hk _ h.2.2.2.2.2⟩ | exact ⟨h.1, h.2.1, h.2.2.1, h.2.2.2.1, h.2.2.2.2.1, h.2.2.2.2.2.1, h.2.2.2.2.2.2.1, h.2.2.2.2.2.2.2.1, hk _ h.2.2.2.2.2.2.2.2⟩ | exact ⟨h.1, fun q => hk _ (h.2.1 q), fun q => hk _ (h.2.2 q)⟩ | exact ⟨h.1, h.2.1, h.2.2.1, fun q => hk _ (h.2.2.2.1 q), fun j o q1 q2 => hk _ (h.2.2.2.2 j o q1 q2)⟩ | exact ⟨hk _ h.1, hk _ h.2⟩)

theorem cm_iastore_im : cm_Mon cm_iastore := by
  intro E P t S k1 k2 h hk
  obtain ⟨pc, L, st, M⟩ := S
  unfold cm_iastore at h ⊢
  dsimp only at h ⊢
  split at h <;> (first | exact h.elim | exact hk _ h | exact ⟨h.1, hk _ h.2⟩ | exact ⟨h.1, h.2.1, hk _ h.2.2⟩ | exact ⟨h.1, h.2.1, h.2.2.1, hk _ h.2.2.2⟩ | exact ⟨h.1, h.2.1, h.2.2.1, h.2.2.2.1, hk _ h.2.2.2.2⟩ | exact ⟨h.1, h.2.1, h.2.2.1, h.2.2.2.1, h.2.2.2.2.1, hk _ h.2.2.2.2.2⟩ | exact ⟨h.1, h.2.1, h.2.2.1, h.2.2.2.1, h.2.2.2.2.1, h.2.2.2.2.2.1, h.2.2.2.2.2.2.1, h.2.2.2.2.2.2.2.1, hk _ h.2.2.2.2.2.2.2.2⟩ | exact ⟨h.1, fun q => hk _ (h.2.1 q), fun q => hk _ (h.2.2 q)⟩ | exact ⟨h.1, h.2.1, h.2.2.1, fun q => hk _ (h.2.2.2.1 q), fun j o q1 q2 => hk _ (h.2.2.2.2 j o q1 q2)⟩ | exact ⟨hk _ h.1, hk _ h.2⟩)

theorem cm_bastore_im : cm_Mon cm_bastore := by
  intro E P t S k1 k2 h hk
  obtain ⟨pc, L, st, M⟩ := S
  unfold cm_bastore at h ⊢
  dsimp only at h ⊢
  split at h <;> (first | exact h.elim | exact hk _ h | exact ⟨h.1, hk _ h.2⟩ | exact ⟨h.1, h.2.1, hk _ h.2.2⟩ | exact ⟨h.1, h.2.1, h.2.2.1, hk _ h.2.2.2⟩ | exact ⟨h.1, h.2.1, h.2.2.1, h.2.2.2.1, hk _ h.2.2.2.2⟩ | exact ⟨h.1, h.2.1, h.2.2.1, h.2.2.2.1, h.2.2.2.2.1, hk _ h.2.2.2.2.2⟩ | exact ⟨h.1, h.2.1, h.2.2.1, h.2.2.2.1, h.2.2.2.2.1, h.2.2.2.2.2.1, h.2.2.2.2.2.2.1, h.2.2.2.2.2.2.2.1, hk _ h.2.2.2.2.2.2.2.2⟩ | exact ⟨h.1, fun q => hk _ (h.2.1 q), fun q => hk _ (h.2.2 q)⟩ | exact ⟨h.1, h.2.1, h.2.2.1, fun q => hk _ (h.2.2.2.1 q), fun j o q1 q2 => hk _ (h.2.2.2.2 j o q1 q2)⟩ | exact ⟨hk _ h.1, hk _ h.2⟩)

theorem cm_alen_im : cm_Mon cm_alen := by
  intro E P t S k1 k2 h hk
  obtain ⟨pc, L, st, M⟩ := S
  unfold cm_alen at h ⊢
  dsimp only at h ⊢
  split at h
  · rename_i c st'
    by_cases hc : c = 1000
    · rw [if_pos hc] at h ⊢
      cases E with
      | none => exact h.elim
      | some q => exact hk _ h
    · rw [if_neg hc] at h ⊢
      exact ⟨h.1, h.2.1, hk _ h.2.2⟩
  · exact h.elim

theorem cm_sald_im : cm_Mon cm_sald := by
  intro E P t S k1 k2 h hk
  obtain ⟨pc, L, st, M⟩ := S
  unfold cm_sald at h ⊢
  dsimp only at h ⊢
  split at h
  · exact ⟨h.1, h.2.1, h.2.2.1, hk _ h.2.2.2⟩
  · exact h.elim

theorem cm_mmin_im : cm_Mon cm_mmin := by
  intro E P t S k1 k2 h hk
  obtain ⟨pc, L, st, M⟩ := S
  unfold cm_mmin at h ⊢
  dsimp only at h ⊢
  split at h <;> (first | exact h.elim | exact hk _ h | exact ⟨h.1, hk _ h.2⟩ | exact ⟨h.1, h.2.1, hk _ h.2.2⟩ | exact ⟨h.1, h.2.1, h.2.2.1, hk _ h.2.2.2⟩ | exact ⟨h.1, h.2.1, h.2.2.1, h.2.2.2.1, hk _ h.2.2.2.2⟩ | exact ⟨h.1, h.2.1, h.2.2.1, h.2.2.2.1, h.2.2.2.2.1, hk _ h.2.2.2.2.2⟩ | exact ⟨h.1, h.2.1, h.2.2.1, h.2.2.2.1, h.2.2.2.2.1, h.2.2.2.2.2.1, h.2.2.2.2.2.2.1, h.2.2.2.2.2.2.2.1, hk _ h.2.2.2.2.2.2.2.2⟩ | exact ⟨h.1, fun q => hk _ (h.2.1 q), fun q => hk _ (h.2.2 q)⟩ | exact ⟨h.1, h.2.1, h.2.2.1, fun q => hk _ (h.2.2.2.1 q), fun j o q1 q2 => hk _ (h.2.2.2.2 j o q1 q2)⟩ | exact ⟨hk _ h.1, hk _ h.2⟩)

theorem cm_ldc_im : cm_Mon cm_ldc := by
  intro E P t S k1 k2 h hk
  obtain ⟨pc, L, st, M⟩ := S
  unfold cm_ldc at h ⊢
  dsimp only at h ⊢
  first | exact h.elim | exact hk _ h | exact ⟨h.1, hk _ h.2⟩ | exact ⟨h.1, h.2.1, hk _ h.2.2⟩ | exact ⟨h.1, h.2.1, h.2.2.1, hk _ h.2.2.2⟩ | exact ⟨h.1, h.2.1, h.2.2.1, h.2.2.2.1, hk _ h.2.2.2.2⟩ | exact ⟨h.1, h.2.1, h.2.2.1, h.2.2.2.1, h.2.2.2.2.1, hk _ h.2.2.2.2.2⟩ | exact ⟨h.1, h.2.1, h.2.2.1, h.2.2.2.1, h.2.2.2.2.1, h.2.2.2.2.2.1, h.2.2.2.2.2.2.1, h.2.2.2.2.2.2.2.1, hk _ h.2.2.2.2.2.2.2.2⟩ | exact ⟨h.1, fun q => hk _ (h.2.1 q), fun q => hk _ (h.2.2 q)⟩ | exact ⟨h.1, h.2.1, h.2.2.1, fun q => hk _ (h.2.2.2.1 q), fun j o q1 q2 => hk _ (h.2.2.2.2 j o q1 q2)⟩ | exact ⟨hk _ h.1, hk _ h.2⟩

theorem cm_ldcS_im : cm_Mon cm_ldcS := by
  intro E P t S k1 k2 h hk
  obtain ⟨pc, L, st, M⟩ := S
  unfold cm_ldcS at h ⊢
  dsimp only at h ⊢
  first | exact h.elim | exact hk _ h | exact ⟨h.1, hk _ h.2⟩ | exact ⟨h.1, h.2.1, hk _ h.2.2⟩ | exact ⟨h.1, h.2.1, h.2.2.1, hk _ h.2.2.2⟩ | exact ⟨h.1, h.2.1, h.2.2.1, h.2.2.2.1, hk _ h.2.2.2.2⟩ | exact ⟨h.1, h.2.1, h.2.2.1, h.2.2.2.1, h.2.2.2.2.1, hk _ h.2.2.2.2.2⟩ | exact ⟨h.1, h.2.1, h.2.2.1, h.2.2.2.1, h.2.2.2.2.1, h.2.2.2.2.2.1, h.2.2.2.2.2.2.1, h.2.2.2.2.2.2.2.1, hk _ h.2.2.2.2.2.2.2.2⟩ | exact ⟨h.1, fun q => hk _ (h.2.1 q), fun q => hk _ (h.2.2 q)⟩ | exact ⟨h.1, h.2.1, h.2.2.1, fun q => hk _ (h.2.2.2.1 q), fun j o q1 q2 => hk _ (h.2.2.2.2 j o q1 q2)⟩ | exact ⟨hk _ h.1, hk _ h.2⟩

theorem cm_getV_im : cm_Mon cm_getV := by
  intro E P t S k1 k2 h hk
  obtain ⟨pc, L, st, M⟩ := S
  unfold cm_getV at h ⊢
  dsimp only at h ⊢
  split at h <;> (first | exact h.elim | exact hk _ h | exact ⟨h.1, hk _ h.2⟩ | exact ⟨h.1, h.2.1, hk _ h.2.2⟩ | exact ⟨h.1, h.2.1, h.2.2.1, hk _ h.2.2.2⟩ | exact ⟨h.1, h.2.1, h.2.2.1, h.2.2.2.1, hk _ h.2.2.2.2⟩ | exact ⟨h.1, h.2.1, h.2.2.1, h.2.2.2.1, h.2.2.2.2.1, hk _ h.2.2.2.2.2⟩ | exact ⟨h.1, h.2.1, h.2.2.1, h.2.2.2.1, h.2.2.2.2.1, h.2.2.2.2.2.1, h.2.2.2.2.2.2.1, h.2.2.2.2.2.2.2.1, hk _ h.2.2.2.2.2.2.2.2⟩ | exact ⟨h.1, fun q => hk _ (h.2.1 q), fun q => hk _ (h.2.2 q)⟩ | exact ⟨h.1, h.2.1, h.2.2.1, fun q => hk _ (h.2.2.2.1 q), fun j o q1 q2 => hk _ (h.2.2.2.2 j o q1 q2)⟩ | exact ⟨hk _ h.1, hk _ h.2⟩)

theorem cm_getC_im : cm_Mon cm_getC := by
  intro E P t S k1 k2 h hk
  obtain ⟨pc, L, st, M⟩ := S
  unfold cm_getC at h ⊢
  dsimp only at h ⊢
  split at h <;> (first | exact h.elim | exact hk _ h | exact ⟨h.1, hk _ h.2⟩ | exact ⟨h.1, h.2.1, hk _ h.2.2⟩ | exact ⟨h.1, h.2.1, h.2.2.1, hk _ h.2.2.2⟩ | exact ⟨h.1, h.2.1, h.2.2.1, h.2.2.2.1, hk _ h.2.2.2.2⟩ | exact ⟨h.1, h.2.1, h.2.2.1, h.2.2.2.1, h.2.2.2.2.1, hk _ h.2.2.2.2.2⟩ | exact ⟨h.1, h.2.1, h.2.2.1, h.2.2.2.1, h.2.2.2.2.1, h.2.2.2.2.2.1, h.2.2.2.2.2.2.1, h.2.2.2.2.2.2.2.1, hk _ h.2.2.2.2.2.2.2.2⟩ | exact ⟨h.1, fun q => hk _ (h.2.1 q), fun q => hk _ (h.2.2 q)⟩ | exact ⟨h.1, h.2.1, h.2.2.1, fun q => hk _ (h.2.2.2.1 q), fun j o q1 q2 => hk _ (h.2.2.2.2 j o q1 q2)⟩ | exact ⟨hk _ h.1, hk _ h.2⟩)

theorem cm_gets_im : cm_Mon cm_gets := by
  intro E P t S k1 k2 h hk
  obtain ⟨pc, L, st, M⟩ := S
  unfold cm_gets at h ⊢
  dsimp only at h ⊢
  first | exact h.elim | exact hk _ h | exact ⟨h.1, hk _ h.2⟩ | exact ⟨h.1, h.2.1, hk _ h.2.2⟩ | exact ⟨h.1, h.2.1, h.2.2.1, hk _ h.2.2.2⟩ | exact ⟨h.1, h.2.1, h.2.2.1, h.2.2.2.1, hk _ h.2.2.2.2⟩ | exact ⟨h.1, h.2.1, h.2.2.1, h.2.2.2.1, h.2.2.2.2.1, hk _ h.2.2.2.2.2⟩ | exact ⟨h.1, h.2.1, h.2.2.1, h.2.2.2.1, h.2.2.2.2.1, h.2.2.2.2.2.1, h.2.2.2.2.2.2.1, h.2.2.2.2.2.2.2.1, hk _ h.2.2.2.2.2.2.2.2⟩ | exact ⟨h.1, fun q => hk _ (h.2.1 q), fun q => hk _ (h.2.2 q)⟩ | exact ⟨h.1, h.2.1, h.2.2.1, fun q => hk _ (h.2.2.2.1 q), fun j o q1 q2 => hk _ (h.2.2.2.2 j o q1 q2)⟩ | exact ⟨hk _ h.1, hk _ h.2⟩

theorem cm_alenS_im : cm_Mon cm_alenS := by
  intro E P t S k1 k2 h hk
  obtain ⟨pc, L, st, M⟩ := S
  unfold cm_alenS at h ⊢
  dsimp only at h ⊢
  split at h
  · split at h
    · rename_i hz
      first | (first | exact h.elim | exact hk _ h | exact ⟨h.1, hk _ h.2⟩ | exact ⟨h.1, h.2.1, hk _ h.2.2⟩ | exact ⟨h.1, h.2.1, h.2.2.1, hk _ h.2.2.2⟩ | exact ⟨h.1, h.2.1, h.2.2.1, h.2.2.2.1, hk _ h.2.2.2.2⟩ | exact ⟨h.1, h.2.1, h.2.2.1, h.2.2.2.1, h.2.2.2.2.1, hk _ h.2.2.2.2.2⟩ | exact ⟨h.1, h.2.1, h.2.2.1, h.2.2.2.1, h.2.2.2.2.1, h.2.2.2.2.2.1, h.2.2.2.2.2.2.1, h.2.2.2.2.2.2.2.1, hk _ h.2.2.2.2.2.2.2.2⟩ | exact ⟨h.1, fun q => hk _ (h.2.1 q), fun q => hk _ (h.2.2 q)⟩ | exact ⟨h.1, h.2.1, h.2.2.1, fun q => hk _ (h.2.2.2.1 q), fun j o q1 q2 => hk _ (h.2.2.2.2 j o q1 q2)⟩ | exact ⟨hk _ h.1, hk _ h.2⟩) | (dsimp only; rw [hz]; first | exact h.elim | exact hk _ h | exact ⟨h.1, hk _ h.2⟩ | exact ⟨h.1, h.2.1, hk _ h.2.2⟩ | exact ⟨h.1, h.2.1, h.2.2.1, hk _ h.2.2.2⟩ | exact ⟨h.1, h.2.1, h.2.2.1, h.2.2.2.1, hk _ h.2.2.2.2⟩ | exact ⟨h.1, h.2.1, h.2.2.1, h.2.2.2.1, h.2.2.2.2.1, hk _ h.2.2.2.2.2⟩ | exact ⟨h.1, h.2.1, h.2.2.1, h.2.2.2.1, h.2.2.2.2.1, h.2.2.2.2.2.1, h.2.2.2.2.2.2.1, h.2.2.2.2.2.2.2.1, hk _ h.2.2.2.2.2.2.2.2⟩ | exact ⟨h.1, fun q => hk _ (h.2.1 q), fun q => hk _ (h.2.2 q)⟩ | exact ⟨h.1, h.2.1, h.2.2.1, fun q => hk _ (h.2.2.2.1 q), fun j o q1 q2 => hk _ (h.2.2.2.2 j o q1 q2)⟩ | exact ⟨hk _ h.1, hk _ h.2⟩)
    · exact h.elim
  · exact h.elim

theorem cm_baloadS_im : cm_Mon cm_baloadS := by
  intro E P t S k1 k2 h hk
  obtain ⟨pc, L, st, M⟩ := S
  unfold cm_baloadS at h ⊢
  dsimp only at h ⊢
  split at h
  · split at h
    · rename_i hz
      first | (first | exact h.elim | exact hk _ h | exact ⟨h.1, hk _ h.2⟩ | exact ⟨h.1, h.2.1, hk _ h.2.2⟩ | exact ⟨h.1, h.2.1, h.2.2.1, hk _ h.2.2.2⟩ | exact ⟨h.1, h.2.1, h.2.2.1, h.2.2.2.1, hk _ h.2.2.2.2⟩ | exact ⟨h.1, h.2.1, h.2.2.1, h.2.2.2.1, h.2.2.2.2.1, hk _ h.2.2.2.2.2⟩ | exact ⟨h.1, h.2.1, h.2.2.1, h.2.2.2.1, h.2.2.2.2.1, h.2.2.2.2.2.1, h.2.2.2.2.2.2.1, h.2.2.2.2.2.2.2.1, hk _ h.2.2.2.2.2.2.2.2⟩ | exact ⟨h.1, fun q => hk _ (h.2.1 q), fun q => hk _ (h.2.2 q)⟩ | exact ⟨h.1, h.2.1, h.2.2.1, fun q => hk _ (h.2.2.2.1 q), fun j o q1 q2 => hk _ (h.2.2.2.2 j o q1 q2)⟩ | exact ⟨hk _ h.1, hk _ h.2⟩) | (dsimp only; rw [hz]; first | exact h.elim | exact hk _ h | exact ⟨h.1, hk _ h.2⟩ | exact ⟨h.1, h.2.1, hk _ h.2.2⟩ | exact ⟨h.1, h.2.1, h.2.2.1, hk _ h.2.2.2⟩ | exact ⟨h.1, h.2.1, h.2.2.1, h.2.2.2.1, hk _ h.2.2.2.2⟩ | exact ⟨h.1, h.2.1, h.2.2.1, h.2.2.2.1, h.2.2.2.2.1, hk _ h.2.2.2.2.2⟩ | exact ⟨h.1, h.2.1, h.2.2.1, h.2.2.2.1, h.2.2.2.2.1, h.2.2.2.2.2.1, h.2.2.2.2.2.2.1, h.2.2.2.2.2.2.2.1, hk _ h.2.2.2.2.2.2.2.2⟩ | exact ⟨h.1, fun q => hk _ (h.2.1 q), fun q => hk _ (h.2.2 q)⟩ | exact ⟨h.1, h.2.1, h.2.2.1, fun q => hk _ (h.2.2.2.1 q), fun j o q1 q2 => hk _ (h.2.2.2.2 j o q1 q2)⟩ | exact ⟨hk _ h.1, hk _ h.2⟩)
    · exact h.elim
  · exact h.elim

theorem cm_i2c_im : cm_Mon cm_i2c := by
  intro E P t S k1 k2 h hk
  obtain ⟨pc, L, st, M⟩ := S
  unfold cm_i2c at h ⊢
  dsimp only at h ⊢
  split at h <;> (first | exact h.elim | exact hk _ h | exact ⟨h.1, hk _ h.2⟩ | exact ⟨h.1, h.2.1, hk _ h.2.2⟩ | exact ⟨h.1, h.2.1, h.2.2.1, hk _ h.2.2.2⟩ | exact ⟨h.1, h.2.1, h.2.2.1, h.2.2.2.1, hk _ h.2.2.2.2⟩ | exact ⟨h.1, h.2.1, h.2.2.1, h.2.2.2.1, h.2.2.2.2.1, hk _ h.2.2.2.2.2⟩ | exact ⟨h.1, h.2.1, h.2.2.1, h.2.2.2.1, h.2.2.2.2.1, h.2.2.2.2.2.1, h.2.2.2.2.2.2.1, h.2.2.2.2.2.2.2.1, hk _ h.2.2.2.2.2.2.2.2⟩ | exact ⟨h.1, fun q => hk _ (h.2.1 q), fun q => hk _ (h.2.2 q)⟩ | exact ⟨h.1, h.2.1, h.2.2.1, fun q => hk _ (h.2.2.2.1 q), fun j o q1 q2 => hk _ (h.2.2.2.2 j o q1 q2)⟩ | exact ⟨hk _ h.1, hk _ h.2⟩)

theorem cm_ladd_im : cm_Mon cm_ladd := by
  intro E P t S k1 k2 h hk
  obtain ⟨pc, L, st, M⟩ := S
  unfold cm_ladd at h ⊢
  dsimp only at h ⊢
  split at h <;> (first | exact h.elim | exact hk _ h | exact ⟨h.1, hk _ h.2⟩ | exact ⟨h.1, h.2.1, hk _ h.2.2⟩ | exact ⟨h.1, h.2.1, h.2.2.1, hk _ h.2.2.2⟩ | exact ⟨h.1, h.2.1, h.2.2.1, h.2.2.2.1, hk _ h.2.2.2.2⟩ | exact ⟨h.1, h.2.1, h.2.2.1, h.2.2.2.1, h.2.2.2.2.1, hk _ h.2.2.2.2.2⟩ | exact ⟨h.1, h.2.1, h.2.2.1, h.2.2.2.1, h.2.2.2.2.1, h.2.2.2.2.2.1, h.2.2.2.2.2.2.1, h.2.2.2.2.2.2.2.1, hk _ h.2.2.2.2.2.2.2.2⟩ | exact ⟨h.1, fun q => hk _ (h.2.1 q), fun q => hk _ (h.2.2 q)⟩ | exact ⟨h.1, h.2.1, h.2.2.1, fun q => hk _ (h.2.2.2.1 q), fun j o q1 q2 => hk _ (h.2.2.2.2 j o q1 q2)⟩ | exact ⟨hk _ h.1, hk _ h.2⟩)

theorem cm_lsub_im : cm_Mon cm_lsub := by
  intro E P t S k1 k2 h hk
  obtain ⟨pc, L, st, M⟩ := S
  unfold cm_lsub at h ⊢
  dsimp only at h ⊢
  split at h <;> (first | exact h.elim | exact hk _ h | exact ⟨h.1, hk _ h.2⟩ | exact ⟨h.1, h.2.1, hk _ h.2.2⟩ | exact ⟨h.1, h.2.1, h.2.2.1, hk _ h.2.2.2⟩ | exact ⟨h.1, h.2.1, h.2.2.1, h.2.2.2.1, hk _ h.2.2.2.2⟩ | exact ⟨h.1, h.2.1, h.2.2.1, h.2.2.2.1, h.2.2.2.2.1, hk _ h.2.2.2.2.2⟩ | exact ⟨h.1, h.2.1, h.2.2.1, h.2.2.2.1, h.2.2.2.2.1, h.2.2.2.2.2.1, h.2.2.2.2.2.2.1, h.2.2.2.2.2.2.2.1, hk _ h.2.2.2.2.2.2.2.2⟩ | exact ⟨h.1, fun q => hk _ (h.2.1 q), fun q => hk _ (h.2.2 q)⟩ | exact ⟨h.1, h.2.1, h.2.2.1, fun q => hk _ (h.2.2.2.1 q), fun j o q1 q2 => hk _ (h.2.2.2.2 j o q1 q2)⟩ | exact ⟨hk _ h.1, hk _ h.2⟩)

theorem cm_lmul_im : cm_Mon cm_lmul := by
  intro E P t S k1 k2 h hk
  obtain ⟨pc, L, st, M⟩ := S
  unfold cm_lmul at h ⊢
  dsimp only at h ⊢
  split at h <;> (first | exact h.elim | exact hk _ h | exact ⟨h.1, hk _ h.2⟩ | exact ⟨h.1, h.2.1, hk _ h.2.2⟩ | exact ⟨h.1, h.2.1, h.2.2.1, hk _ h.2.2.2⟩ | exact ⟨h.1, h.2.1, h.2.2.1, h.2.2.2.1, hk _ h.2.2.2.2⟩ | exact ⟨h.1, h.2.1, h.2.2.1, h.2.2.2.1, h.2.2.2.2.1, hk _ h.2.2.2.2.2⟩ | exact ⟨h.1, h.2.1, h.2.2.1, h.2.2.2.1, h.2.2.2.2.1, h.2.2.2.2.2.1, h.2.2.2.2.2.2.1, h.2.2.2.2.2.2.2.1, hk _ h.2.2.2.2.2.2.2.2⟩ | exact ⟨h.1, fun q => hk _ (h.2.1 q), fun q => hk _ (h.2.2 q)⟩ | exact ⟨h.1, h.2.1, h.2.2.1, fun q => hk _ (h.2.2.2.1 q), fun j o q1 q2 => hk _ (h.2.2.2.2 j o q1 q2)⟩ | exact ⟨hk _ h.1, hk _ h.2⟩)

theorem cm_ldiv_im : cm_Mon cm_ldiv := by
  intro E P t S k1 k2 h hk
  obtain ⟨pc, L, st, M⟩ := S
  unfold cm_ldiv at h ⊢
  dsimp only at h ⊢
  split at h <;> (first | exact h.elim | exact hk _ h | exact ⟨h.1, hk _ h.2⟩ | exact ⟨h.1, h.2.1, hk _ h.2.2⟩ | exact ⟨h.1, h.2.1, h.2.2.1, hk _ h.2.2.2⟩ | exact ⟨h.1, h.2.1, h.2.2.1, h.2.2.2.1, hk _ h.2.2.2.2⟩ | exact ⟨h.1, h.2.1, h.2.2.1, h.2.2.2.1, h.2.2.2.2.1, hk _ h.2.2.2.2.2⟩ | exact ⟨h.1, h.2.1, h.2.2.1, h.2.2.2.1, h.2.2.2.2.1, h.2.2.2.2.2.1, h.2.2.2.2.2.2.1, h.2.2.2.2.2.2.2.1, hk _ h.2.2.2.2.2.2.2.2⟩ | exact ⟨h.1, fun q => hk _ (h.2.1 q), fun q => hk _ (h.2.2 q)⟩ | exact ⟨h.1, h.2.1, h.2.2.1, fun q => hk _ (h.2.2.2.1 q), fun j o q1 q2 => hk _ (h.2.2.2.2 j o q1 q2)⟩ | exact ⟨hk _ h.1, hk _ h.2⟩)

theorem cm_lrem_im : cm_Mon cm_lrem := by
  intro E P t S k1 k2 h hk
  obtain ⟨pc, L, st, M⟩ := S
  unfold cm_lrem at h ⊢
  dsimp only at h ⊢
  split at h <;> (first | exact h.elim | exact hk _ h | exact ⟨h.1, hk _ h.2⟩ | exact ⟨h.1, h.2.1, hk _ h.2.2⟩ | exact ⟨h.1, h.2.1, h.2.2.1, hk _ h.2.2.2⟩ | exact ⟨h.1, h.2.1, h.2.2.1, h.2.2.2.1, hk _ h.2.2.2.2⟩ | exact ⟨h.1, h.2.1, h.2.2.1, h.2.2.2.1, h.2.2.2.2.1, hk _ h.2.2.2.2.2⟩ | exact ⟨h.1, h.2.1, h.2.2.1, h.2.2.2.1, h.2.2.2.2.1, h.2.2.2.2.2.1, h.2.2.2.2.2.2.1, h.2.2.2.2.2.2.2.1, hk _ h.2.2.2.2.2.2.2.2⟩ | exact ⟨h.1, fun q => hk _ (h.2.1 q), fun q => hk _ (h.2.2 q)⟩ | exact ⟨h.1, h.2.1, h.2.2.1, fun q => hk _ (h.2.2.2.1 q), fun j o q1 q2 => hk _ (h.2.2.2.2 j o q1 q2)⟩ | exact ⟨hk _ h.1, hk _ h.2⟩)

theorem cm_ldc2_im : cm_Mon cm_ldc2 := by
  intro E P t S k1 k2 h hk
  obtain ⟨pc, L, st, M⟩ := S
  unfold cm_ldc2 at h ⊢
  dsimp only at h ⊢
  first | exact h.elim | exact hk _ h | exact ⟨h.1, hk _ h.2⟩ | exact ⟨h.1, h.2.1, hk _ h.2.2⟩ | exact ⟨h.1, h.2.1, h.2.2.1, hk _ h.2.2.2⟩ | exact ⟨h.1, h.2.1, h.2.2.1, h.2.2.2.1, hk _ h.2.2.2.2⟩ | exact ⟨h.1, h.2.1, h.2.2.1, h.2.2.2.1, h.2.2.2.2.1, hk _ h.2.2.2.2.2⟩ | exact ⟨h.1, h.2.1, h.2.2.1, h.2.2.2.1, h.2.2.2.2.1, h.2.2.2.2.2.1, h.2.2.2.2.2.2.1, h.2.2.2.2.2.2.2.1, hk _ h.2.2.2.2.2.2.2.2⟩ | exact ⟨h.1, fun q => hk _ (h.2.1 q), fun q => hk _ (h.2.2 q)⟩ | exact ⟨h.1, h.2.1, h.2.2.1, fun q => hk _ (h.2.2.2.1 q), fun j o q1 q2 => hk _ (h.2.2.2.2 j o q1 q2)⟩ | exact ⟨hk _ h.1, hk _ h.2⟩

theorem cm_getsF_im : cm_Mon cm_getsF := by
  intro E P t S k1 k2 h hk
  obtain ⟨pc, L, st, M⟩ := S
  unfold cm_getsF at h ⊢
  dsimp only at h ⊢
  first | exact h.elim | exact hk _ h | exact ⟨h.1, hk _ h.2⟩ | exact ⟨h.1, h.2.1, hk _ h.2.2⟩ | exact ⟨h.1, h.2.1, h.2.2.1, hk _ h.2.2.2⟩ | exact ⟨h.1, h.2.1, h.2.2.1, h.2.2.2.1, hk _ h.2.2.2.2⟩ | exact ⟨h.1, h.2.1, h.2.2.1, h.2.2.2.1, h.2.2.2.2.1, hk _ h.2.2.2.2.2⟩ | exact ⟨h.1, h.2.1, h.2.2.1, h.2.2.2.1, h.2.2.2.2.1, h.2.2.2.2.2.1, h.2.2.2.2.2.2.1, h.2.2.2.2.2.2.2.1, hk _ h.2.2.2.2.2.2.2.2⟩ | exact ⟨h.1, fun q => hk _ (h.2.1 q), fun q => hk _ (h.2.2 q)⟩ | exact ⟨h.1, h.2.1, h.2.2.1, fun q => hk _ (h.2.2.2.1 q), fun j o q1 q2 => hk _ (h.2.2.2.2 j o q1 q2)⟩ | exact ⟨hk _ h.1, hk _ h.2⟩

theorem cm_ldcw_im : cm_Mon cm_ldcw := by
  intro E P t S k1 k2 h hk
  obtain ⟨pc, L, st, M⟩ := S
  unfold cm_ldcw at h ⊢
  dsimp only at h ⊢
  first | exact h.elim | exact hk _ h | exact ⟨h.1, hk _ h.2⟩ | exact ⟨h.1, h.2.1, hk _ h.2.2⟩ | exact ⟨h.1, h.2.1, h.2.2.1, hk _ h.2.2.2⟩ | exact ⟨h.1, h.2.1, h.2.2.1, h.2.2.2.1, hk _ h.2.2.2.2⟩ | exact ⟨h.1, h.2.1, h.2.2.1, h.2.2.2.1, h.2.2.2.2.1, hk _ h.2.2.2.2.2⟩ | exact ⟨h.1, h.2.1, h.2.2.1, h.2.2.2.1, h.2.2.2.2.1, h.2.2.2.2.2.1, h.2.2.2.2.2.2.1, h.2.2.2.2.2.2.2.1, hk _ h.2.2.2.2.2.2.2.2⟩ | exact ⟨h.1, fun q => hk _ (h.2.1 q), fun q => hk _ (h.2.2 q)⟩ | exact ⟨h.1, h.2.1, h.2.2.1, fun q => hk _ (h.2.2.2.1 q), fun j o q1 q2 => hk _ (h.2.2.2.2 j o q1 q2)⟩ | exact ⟨hk _ h.1, hk _ h.2⟩

theorem cm_mmax_im : cm_Mon cm_mmax := by
  intro E P t S k1 k2 h hk
  obtain ⟨pc, L, st, M⟩ := S
  unfold cm_mmax at h ⊢
  dsimp only at h ⊢
  split at h <;> (first | exact h.elim | exact hk _ h | exact ⟨h.1, hk _ h.2⟩ | exact ⟨h.1, h.2.1, hk _ h.2.2⟩ | exact ⟨h.1, h.2.1, h.2.2.1, hk _ h.2.2.2⟩ | exact ⟨h.1, h.2.1, h.2.2.1, h.2.2.2.1, hk _ h.2.2.2.2⟩ | exact ⟨h.1, h.2.1, h.2.2.1, h.2.2.2.1, h.2.2.2.2.1, hk _ h.2.2.2.2.2⟩ | exact ⟨h.1, h.2.1, h.2.2.1, h.2.2.2.1, h.2.2.2.2.1, h.2.2.2.2.2.1, h.2.2.2.2.2.2.1, h.2.2.2.2.2.2.2.1, hk _ h.2.2.2.2.2.2.2.2⟩ | exact ⟨h.1, fun q => hk _ (h.2.1 q), fun q => hk _ (h.2.2 q)⟩ | exact ⟨h.1, h.2.1, h.2.2.1, fun q => hk _ (h.2.2.2.1 q), fun j o q1 q2 => hk _ (h.2.2.2.2 j o q1 q2)⟩ | exact ⟨hk _ h.1, hk _ h.2⟩)

theorem cm_mabs_im : cm_Mon cm_mabs := by
  intro E P t S k1 k2 h hk
  obtain ⟨pc, L, st, M⟩ := S
  unfold cm_mabs at h ⊢
  dsimp only at h ⊢
  split at h <;> (first | exact h.elim | exact hk _ h | exact ⟨h.1, hk _ h.2⟩ | exact ⟨h.1, h.2.1, hk _ h.2.2⟩ | exact ⟨h.1, h.2.1, h.2.2.1, hk _ h.2.2.2⟩ | exact ⟨h.1, h.2.1, h.2.2.1, h.2.2.2.1, hk _ h.2.2.2.2⟩ | exact ⟨h.1, h.2.1, h.2.2.1, h.2.2.2.1, h.2.2.2.2.1, hk _ h.2.2.2.2.2⟩ | exact ⟨h.1, h.2.1, h.2.2.1, h.2.2.2.1, h.2.2.2.2.1, h.2.2.2.2.2.1, h.2.2.2.2.2.2.1, h.2.2.2.2.2.2.2.1, hk _ h.2.2.2.2.2.2.2.2⟩ | exact ⟨h.1, fun q => hk _ (h.2.1 q), fun q => hk _ (h.2.2 q)⟩ | exact ⟨h.1, h.2.1, h.2.2.1, fun q => hk _ (h.2.2.2.1 q), fun j o q1 q2 => hk _ (h.2.2.2.2 j o q1 q2)⟩ | exact ⟨hk _ h.1, hk _ h.2⟩)

theorem cm_copyi_im : cm_Mon cm_copyi := by
  intro E P t S k1 k2 h hk
  obtain ⟨pc, L, st, M⟩ := S
  unfold cm_copyi at h ⊢
  dsimp only at h ⊢
  split at h <;> (first | exact h.elim | exact hk _ h | exact ⟨h.1, hk _ h.2⟩ | exact ⟨h.1, h.2.1, hk _ h.2.2⟩ | exact ⟨h.1, h.2.1, h.2.2.1, hk _ h.2.2.2⟩ | exact ⟨h.1, h.2.1, h.2.2.1, h.2.2.2.1, hk _ h.2.2.2.2⟩ | exact ⟨h.1, h.2.1, h.2.2.1, h.2.2.2.1, h.2.2.2.2.1, hk _ h.2.2.2.2.2⟩ | exact ⟨h.1, h.2.1, h.2.2.1, h.2.2.2.1, h.2.2.2.2.1, h.2.2.2.2.2.1, h.2.2.2.2.2.2.1, h.2.2.2.2.2.2.2.1, hk _ h.2.2.2.2.2.2.2.2⟩ | exact ⟨h.1, fun q => hk _ (h.2.1 q), fun q => hk _ (h.2.2 q)⟩ | exact ⟨h.1, h.2.1, h.2.2.1, fun q => hk _ (h.2.2.2.1 q), fun j o q1 q2 => hk _ (h.2.2.2.2 j o q1 q2)⟩ | exact ⟨hk _ h.1, hk _ h.2⟩)

theorem cm_getT_im : cm_Mon cm_getT := by
  intro E P t S k1 k2 h hk
  obtain ⟨pc, L, st, M⟩ := S
  unfold cm_getT at h ⊢
  dsimp only at h ⊢
  first | exact h.elim | exact hk _ h | exact ⟨h.1, hk _ h.2⟩ | exact ⟨h.1, h.2.1, hk _ h.2.2⟩ | exact ⟨h.1, h.2.1, h.2.2.1, hk _ h.2.2.2⟩ | exact ⟨h.1, h.2.1, h.2.2.1, h.2.2.2.1, hk _ h.2.2.2.2⟩ | exact ⟨h.1, h.2.1, h.2.2.1, h.2.2.2.1, h.2.2.2.2.1, hk _ h.2.2.2.2.2⟩ | exact ⟨h.1, h.2.1, h.2.2.1, h.2.2.2.1, h.2.2.2.2.1, h.2.2.2.2.2.1, h.2.2.2.2.2.2.1, h.2.2.2.2.2.2.2.1, hk _ h.2.2.2.2.2.2.2.2⟩ | exact ⟨h.1, fun q => hk _ (h.2.1 q), fun q => hk _ (h.2.2 q)⟩ | exact ⟨h.1, h.2.1, h.2.2.1, fun q => hk _ (h.2.2.2.1 q), fun j o q1 q2 => hk _ (h.2.2.2.2 j o q1 q2)⟩ | exact ⟨hk _ h.1, hk _ h.2⟩

theorem cm_tald_im : cm_Mon cm_tald := by
  intro E P t S k1 k2 h hk
  obtain ⟨pc, L, st, M⟩ := S
  unfold cm_tald at h ⊢
  dsimp only at h ⊢
  split at h <;> (first | exact h.elim | exact hk _ h | exact ⟨h.1, hk _ h.2⟩ | exact ⟨h.1, h.2.1, hk _ h.2.2⟩ | exact ⟨h.1, h.2.1, h.2.2.1, hk _ h.2.2.2⟩ | exact ⟨h.1, h.2.1, h.2.2.1, h.2.2.2.1, hk _ h.2.2.2.2⟩ | exact ⟨h.1, h.2.1, h.2.2.1, h.2.2.2.1, h.2.2.2.2.1, hk _ h.2.2.2.2.2⟩ | exact ⟨h.1, h.2.1, h.2.2.1, h.2.2.2.1, h.2.2.2.2.1, h.2.2.2.2.2.1, h.2.2.2.2.2.2.1, h.2.2.2.2.2.2.2.1, hk _ h.2.2.2.2.2.2.2.2⟩ | exact ⟨h.1, fun q => hk _ (h.2.1 q), fun q => hk _ (h.2.2 q)⟩ | exact ⟨h.1, h.2.1, h.2.2.1, fun q => hk _ (h.2.2.2.1 q), fun j o q1 q2 => hk _ (h.2.2.2.2 j o q1 q2)⟩ | exact ⟨hk _ h.1, hk _ h.2⟩)

theorem cm_alenT_im : cm_Mon cm_alenT := by
  intro E P t S k1 k2 h hk
  obtain ⟨pc, L, st, M⟩ := S
  unfold cm_alenT at h ⊢
  dsimp only at h ⊢
  split at h <;> (first | exact h.elim | exact hk _ h | exact ⟨h.1, hk _ h.2⟩ | exact ⟨h.1, h.2.1, hk _ h.2.2⟩ | exact ⟨h.1, h.2.1, h.2.2.1, hk _ h.2.2.2⟩ | exact ⟨h.1, h.2.1, h.2.2.1, h.2.2.2.1, hk _ h.2.2.2.2⟩ | exact ⟨h.1, h.2.1, h.2.2.1, h.2.2.2.1, h.2.2.2.2.1, hk _ h.2.2.2.2.2⟩ | exact ⟨h.1, h.2.1, h.2.2.1, h.2.2.2.1, h.2.2.2.2.1, h.2.2.2.2.2.1, h.2.2.2.2.2.2.1, h.2.2.2.2.2.2.2.1, hk _ h.2.2.2.2.2.2.2.2⟩ | exact ⟨h.1, fun q => hk _ (h.2.1 q), fun q => hk _ (h.2.2 q)⟩ | exact ⟨h.1, h.2.1, h.2.2.1, fun q => hk _ (h.2.2.2.1 q), fun j o q1 q2 => hk _ (h.2.2.2.2 j o q1 q2)⟩ | exact ⟨hk _ h.1, hk _ h.2⟩)

theorem cm_lastore_im : cm_Mon cm_lastore := by
  intro E P t S k1 k2 h hk
  obtain ⟨pc, L, st, M⟩ := S
  unfold cm_lastore at h ⊢
  dsimp only at h ⊢
  split at h <;> (first | exact h.elim | exact hk _ h | exact ⟨h.1, hk _ h.2⟩ | exact ⟨h.1, h.2.1, hk _ h.2.2⟩ | exact ⟨h.1, h.2.1, h.2.2.1, hk _ h.2.2.2⟩ | exact ⟨h.1, h.2.1, h.2.2.1, h.2.2.2.1, hk _ h.2.2.2.2⟩ | exact ⟨h.1, h.2.1, h.2.2.1, h.2.2.2.1, h.2.2.2.2.1, hk _ h.2.2.2.2.2⟩ | exact ⟨h.1, h.2.1, h.2.2.1, h.2.2.2.1, h.2.2.2.2.1, h.2.2.2.2.2.1, h.2.2.2.2.2.2.1, h.2.2.2.2.2.2.2.1, hk _ h.2.2.2.2.2.2.2.2⟩ | exact ⟨h.1, fun q => hk _ (h.2.1 q), fun q => hk _ (h.2.2 q)⟩ | exact ⟨h.1, h.2.1, h.2.2.1, fun q => hk _ (h.2.2.2.1 q), fun j o q1 q2 => hk _ (h.2.2.2.2 j o q1 q2)⟩ | exact ⟨hk _ h.1, hk _ h.2⟩)

theorem cm_pop2_im : cm_Mon cm_pop2 := by
  intro E P t S k1 k2 h hk
  obtain ⟨pc, L, st, M⟩ := S
  unfold cm_pop2 at h ⊢
  dsimp only at h ⊢
  split at h <;> (first | exact h.elim | exact hk _ h | exact ⟨h.1, hk _ h.2⟩ | exact ⟨h.1, h.2.1, hk _ h.2.2⟩ | exact ⟨h.1, h.2.1, h.2.2.1, hk _ h.2.2.2⟩ | exact ⟨h.1, h.2.1, h.2.2.1, h.2.2.2.1, hk _ h.2.2.2.2⟩ | exact ⟨h.1, h.2.1, h.2.2.1, h.2.2.2.1, h.2.2.2.2.1, hk _ h.2.2.2.2.2⟩ | exact ⟨h.1, h.2.1, h.2.2.1, h.2.2.2.1, h.2.2.2.2.1, h.2.2.2.2.2.1, h.2.2.2.2.2.2.1, h.2.2.2.2.2.2.2.1, hk _ h.2.2.2.2.2.2.2.2⟩ | exact ⟨h.1, fun q => hk _ (h.2.1 q), fun q => hk _ (h.2.2 q)⟩ | exact ⟨h.1, h.2.1, h.2.2.1, fun q => hk _ (h.2.2.2.1 q), fun j o q1 q2 => hk _ (h.2.2.2.2 j o q1 q2)⟩ | exact ⟨hk _ h.1, hk _ h.2⟩)

theorem cm_d1 {o : cm_O} {l : List cm_O} (h : cm_Mon o) (h2 : ∀ o ∈ l, cm_Mon o) : ∀ o' ∈ o :: l, cm_Mon o' := List.forall_mem_cons.mpr ⟨h, h2⟩
theorem cm_ops_im : ∀ o ∈ cm_ops, cm_Mon o := cm_d1 cm_iconst_im (cm_d1 cm_bipush_im (cm_d1 cm_sipush_im (cm_d1 cm_lconst_im (cm_d1 cm_iload_im (cm_d1 cm_iloadn_im (cm_d1 cm_lload_im (cm_d1 cm_lloadn_im (cm_d1 cm_aload_im (cm_d1 cm_aloadn_im (cm_d1 cm_istore_im (cm_d1 cm_istoren_im (cm_d1 cm_lstore_im (cm_d1 cm_lstoren_im (cm_d1 cm_astore_im (cm_d1 cm_astoren_im (cm_d1 cm_iadd_im (cm_d1 cm_isub_im (cm_d1 cm_imul_im (cm_d1 cm_iand_im (cm_d1 cm_ior_im (cm_d1 cm_ixor_im (cm_d1 cm_ishl_im (cm_d1 cm_ishr_im (cm_d1 cm_iushr_im (cm_d1 cm_idiv_im (cm_d1 cm_irem_im (cm_d1 cm_ineg_im (cm_d1 cm_i2b_im (cm_d1 cm_i2l_im (cm_d1 cm_lcmp_im (cm_d1 cm_dup_im (cm_d1 cm_pop_im (cm_d1 cm_dup2_im (cm_d1 cm_iinc_im (cm_d1 cm_icmp_eq_im (cm_d1 cm_icmp_ne_im (cm_d1 cm_icmp_lt_im (cm_d1 cm_icmp_ge_im (cm_d1 cm_icmp_gt_im (cm_d1 cm_icmp_le_im (cm_d1 cm_if_eq_im (cm_d1 cm_if_ne_im (cm_d1 cm_if_lt_im (cm_d1 cm_if_ge_im (cm_d1 cm_if_gt_im (cm_d1 cm_if_le_im (cm_d1 cm_goto_im (cm_d1 cm_sw_im (cm_d1 cm_get_im (cm_d1 cm_put_im (cm_d1 cm_no_im (cm_d1 cm_iaload_im (cm_d1 cm_baload_im (cm_d1 cm_laload_im (cm_d1 cm_aaload_im (cm_d1 cm_iastore_im (cm_d1 cm_bastore_im (cm_d1 cm_no_im (cm_d1 cm_no_im (cm_d1 cm_no_im (cm_d1 cm_no_im (cm_d1 cm_no_im (cm_d1 cm_no_im (cm_d1 cm_alen_im (cm_d1 cm_sald_im (cm_d1 cm_no_im (cm_d1 cm_mmin_im (cm_d1 cm_ldc_im (cm_d1 cm_ldcS_im (cm_d1 cm_getV_im (cm_d1 cm_getC_im (cm_d1 cm_gets_im (cm_d1 cm_alenS_im (cm_d1 cm_baloadS_im (cm_d1 cm_i2c_im (cm_d1 cm_ladd_im (cm_d1 cm_lsub_im (cm_d1 cm_lmul_im (cm_d1 cm_ldiv_im (cm_d1 cm_lrem_im (cm_d1 cm_ldc2_im (cm_d1 cm_getsF_im (cm_d1 cm_ldcw_im (cm_d1 cm_mmax_im (cm_d1 cm_mabs_im (cm_d1 cm_copyi_im (cm_d1 cm_getT_im (cm_d1 cm_tald_im (cm_d1 cm_alenT_im (cm_d1 cm_lastore_im (cm_d1 cm_pop2_im (fun _ h => absurd h List.not_mem_nil))))))))))))))))))))))))))))))))))))))))))))))))))))))))))))))))))))))))))))))))))))))))))))
end
section
/-! CM: the run is right -/
theorem cm_take_ok {recv : Bool} {n : Nat} {st as rest : List Value} (h : cm_take recv n st = some (as, rest)) : ∃ xs : List Value, xs.length = n ∧ ((recv = true ∧ ∃ v, as = v :: xs ∧ st = xs.reverse ++ v :: rest) ∨ (recv = false ∧ as = xs ∧ st = xs.reverse ++ rest)) := by
  have hsp : st = st.take n ++ st.drop n := (List.take_append_drop n st).symm
  unfold cm_take at h
  split at h
  · rename_i hr
    split at h
    · rename_i x rest' hd
      split at h
      · rename_i hl
        cases h
        exact ⟨(st.take n).reverse, by rw [List.length_reverse]; exact hl, Or.inl ⟨hr, x, rfl, by rw [List.reverse_reverse, ← hd]; exact hsp⟩⟩
      · cases h
    · cases h
  · rename_i hr
    split at h
    · rename_i hl
      cases h
      exact ⟨(st.take n).reverse, by rw [List.length_reverse]; exact hl, Or.inr ⟨by simpa using hr, rfl, by rw [List.reverse_reverse]; exact hsp⟩⟩
    · cases h
theorem cm_callW {p : Program} {l : Launch} {e : Env} {R : Room} {s : State} {m : MethodId} {args : Array Value} {below : List Frame} {meth : Method} {c : Code} {H : Heap} {locs : List Loc} {ce sl pc : Nat} {ls : Array Slot} {rest st0 : List Value} {a : Array Value} {A A1 : Nat → Prop} {H0 : Heap} {free : Addr → Prop} {Q : State → Prop} {D : va_G} {adr : Nat → Nat} {P0 : cm_K}
    (hr : va_Run p l e R s m args below meth c H locs ce sl 0 0 (F0 m pc ls st0) rest (cm_Q D adr A1 P0 a) free) (hS : va_S A H0 H locs) (hA : ∀ q, A1 q → A q) (hf : ∀ q, free q → A q)
    (kk : ∀ (v : Option Value) (M' : cm_M) (ws' : va_W) (t : State) (H1 : Heap) (locs1 : List Loc), P0 v M' → t.heap = H1 → s.vm.Alike t.vm → va_P D vwCl ws' H1 → va_D A1 ws' → cm_w t adr M' ws' → va_S A H0 H1 locs1 → W p l e R s m args below meth c H1 locs1 ce sl Q (F0 m (pc + 3) ls ((v.map (cm_v adr)).toList ++ rest))) :
    W p l e R s m args below meth c H locs ce sl Q (F0 m pc ls st0) := by
  intro T hT X
  obtain ⟨v, st₀, t, T', L, h0, X', hL, e1, e2, ⟨⟨v', M', ws', hv0, hv, hP, hD, hw⟩, hz, hk⟩, st⟩ := hr T hT X
  cases hv
  rw [h0] at hz hk
  obtain ⟨t2, a1, b1⟩ := kk v' M' ws' t T'.heap (locs ++ L) hv0 e1.symm (by rw [← e2]; exact X'.warmed.alike) (by rw [e1]; exact hP) hD hw
    ⟨Nat.le_trans hS.1 (by rw [e1]; exact hz), fun q h1 h2 => by rw [e1, hk q (Nat.lt_of_lt_of_le h1 hS.1) (fun z => h2 (hA q z))]; exact hS.2.1 q h1 h2, fun q hq => by
      rcases List.mem_append.mp hq with h | h
      · exact hS.2.2 q h
      · exact hf _ (hL q h)⟩ T' rfl X'
  exact ⟨t2, st t2 a1, b1⟩
theorem cm_Pb_blind {D : va_G} {adr : Nat → Nat} {ws : va_W} {sz : Nat} {M : cm_M} {asc : List Value} : FrameBlind (va_Pc asc (cm_Pb D adr ws sz M)) := fun a U gf mk q => by
  obtain ⟨q0, q1, q2, q3, q4, q5, q6⟩ := q
  exact ⟨q0, q1, q2, va_K.moved (u := U) (U := U.calling gf mk a) (Vm.Alike.refl U.vm) q3, q4, cm_w_moved (u := U) (U := U.calling gf mk a) (Vm.Alike.refl U.vm) q5, cm_N_same (u := U) (U := U.calling gf mk a) rfl q6⟩
theorem cm_rowI_op {ms : List ev_MI} {P : ev_P} {r : ev_Row} (h : r.1 < 200) : cm_rowI ms P r = (match cm_ops[r.1]? with
    | some o => o.1 P r.2
    | none => none) := by
  unfold cm_rowI
  split
  · omega
  · omega
  · omega
  · omega
  · omega
  · omega
  · rfl
section CMS
variable {p : Program} {l : Launch} {e : Env} {R : Room} {s : State} {m : MethodId} {args : Array Value} {below : List Frame} {meth : Method} {c : Code} {cc : ByteArray} {Q : State → Prop} {D : va_G} {A : Nat → Prop} {adr : Nat → Nat} {ce sl : Nat} {E : cm_E} {P : ev_P} {ms : List ev_MI} {d : Nat}
set_option maxHeartbeats 4000000 in
theorem cm_inv_ok (hMS : ∀ (k : Nat) (mi : ev_MI), ms[k]? = some mi → cm_MOK ms mi) (hRm : d + 1 ≤ R.frames ∧ 40 * (d + 1) ≤ R.locals) (X : cm_X p R s m args c cc P.2.2.2.2.1 P.2.2.2.1 D A adr ce sl E)
    {q : Nat × ev_Row} (hq : cm_RowOK ms P cc q) (h200 : 200 ≤ q.2.1) (h210 : q.2.1 < 210) {S : cm_S} (hpc : S.1 = q.1) (h : cm_inv ms (cm_Call ms d) q.2 S (cm_Go p l e R s m args below meth c Q P.2.2.2.2.1 D A adr ce sl)) : cm_Go p l e R s m args below meth c Q P.2.2.2.2.1 D A adr ce sl S := by
  intro ws H locs ls hR
  obtain ⟨hx, hb, hml, hown, hts, hK, hA, hN, hcC, hcS, hf, hlc, hscr⟩ := X
  obtain ⟨pc, L, st, M⟩ := S
  obtain ⟨qpc, op, t1, t2, t3, t4⟩ := q
  have hpc : pc = qpc := hpc
  subst hpc
  obtain ⟨i, n, cs, hi, hd, hw⟩ := hq
  dsimp only at hi hd h200 h210
  unfold cm_inv at h
  dsimp only at h
  split at h
  rotate_left
  · exact h.elim
  rename_i mi hmi
  obtain ⟨hpl, hcd, hnL, hmh, -⟩ := hMS _ mi hmi
  split at h
  rotate_left
  · exact h.elim
  rename_i as rest htk
  obtain ⟨hc1, hc4, hc5, mi', d', P0, hmi', hdd, hP0, hM⟩ := h
  rw [hmi] at hmi'
  cases hmi'
  obtain ⟨hP, hD, hS, hW, hL⟩ := hR
  have hnp : (parseMethodDescriptor mi.1.desc).map (fun d => d.parameters.length) = some t3.toNat := by simpa [ev_nar1] using hc4
  have hroom : (cm_rm d').frames + 1 ≤ R.frames ∧ 8 + (mi.2.2.1 + 11) + (cm_rm d').locals ≤ R.locals := by
    simp only [cm_rm]
    omega
  have hG : GoodIn lw_good (Cond.code mi.1 mi.2.1 mi.2.2.1 mi.2.2.2.1 :: lw_good) := lw_good_good (fun w h => by
    rcases List.mem_cons.mp h with rfl | h
    · exact hcd
    · exact h)
  have hcap : ce + 0 ≤ R.cells ∧ sl + 0 ≤ R.slots := ⟨hcC, hcS⟩
  have hfree : ∀ q, va_A ws H.size q → A q := by
    intro q h
    rcases h with ⟨k, e, h⟩ | h
    · exact hD.2 k (q, e) h
    · exact hA q (Nat.le_trans hS.1 h)
  obtain ⟨xs, hxl, hor⟩ := cm_take_ok htk
  have hsum : ((rest.map (cm_v adr)).map fun v => v.category).sum ≤ 8 := by rw [cm_v_cats]; exact hc1
  have hkk : ∀ (v : Option Value) (M' : cm_M) (ws' : va_W) (t : State) (H1 : Heap) (locs1 : List Loc), P0 v M' → t.heap = H1 → s.vm.Alike t.vm → va_P D vwCl ws' H1 → va_D (va_A ws H.size) ws' → cm_w t adr M' ws' → va_S A s.heap H1 locs1 → W p l e R s m args below meth c H1 locs1 ce sl Q (F0 m (pc + 3) ls ((v.map (cm_v adr)).toList ++ rest.map (cm_v adr))) := by
    intro v M' ws' t H1 locs1 ho ht hvm hP1 hD1 hw1 hS1
    have := hP0 v M' ho ws' H1 locs1 ls ⟨hP1, hD1.weaken (fun _ _ _ h => hfree _ h), hS1, cm_w_moved hvm.symm hw1, hL⟩
    have e1 : (v.toList ++ rest).map (cm_v adr) = (v.map (cm_v adr)).toList ++ rest.map (cm_v adr) := by
      rw [List.map_append]
      cases v <;> rfl
    rw [← e1]
    exact this
  have hpre : ∀ (asc : List Value), ∀ U : State, U.heap = H → s.WarmedH U.vm → va_Pc asc (cm_Pb D adr ws H.size M) asc.toArray U := fun asc U hU hWm =>
    ⟨rfl, by rw [hU], by rw [hU]; exact hP, va_K.moved hWm.alike hK, hD.weaken (fun _ _ _ _ => trivial), cm_w_moved hWm.alike hW, cm_N_call hWm hU hS hfree hN⟩
  have h4 : op = 200 ∨ op = 201 ∨ 201 < op := by omega
  rcases h4 with rfl | rfl | hbig
  · have hi : some ((.invokevirtual t2.toNat : Instr), (3 : Nat), ([.methodLink P.2.2.2.1 t2.toNat mi.1, .instanceMethod mi.1, .selects mi.1.cls mi.1 mi.1, .initialized mi.1.cls] : List Cond)) = some (i, n, cs) := by
      simpa [cm_rowI, hmi] using hi
    cases hi
    rcases hor with ⟨-, v, rfl, rfl⟩ | ⟨hf0, -⟩
    rotate_left
    · cases hf0
    have hGV : GoodIn lw_good (wsV P.2.2.2.1 t2.toNat mi.1.cls mi.1 (Cond.code mi.1 mi.2.1 mi.2.2.1 mi.2.2.2.1 :: lw_good)) := lw_good_good (fun w h => by
      unfold wsV at h
      rcases List.mem_append.mp h with h | h
      · exact hw w h
      · exact (hG w h).1)
    have hmap : (xs.reverse ++ v :: rest).map (cm_v adr) = (xs.map (cm_v adr)).reverse ++ cm_v adr v :: rest.map (cm_v adr) := by
      rw [List.map_append, List.map_reverse, List.map_cons]
    have h5 := hc5 rfl
    cases v with
    | ref cn =>
      show W p l e R s m args below meth c H locs ce sl Q (F0 m pc ls ((xs.reverse ++ Value.ref cn :: rest).map (cm_v adr)))
      rw [hmap]
      rcases h5 with ⟨h51, h52, h53, h54⟩ | h5
      · obtain ⟨r, -, a1, -⟩ := cm_str hN h51 h52
        obtain ⟨cell, k1, k2, k3, k4⟩ := va_O.kept (a1 h53).2.2 hS.2.1
        exact cm_callW (va_runV (As := xs.map (cm_v adr)) (rest := rest.map (cm_v adr)) ⟨hx, hb, hml, hown, hts⟩ (hM l D adr ws H.size) (cwV t3.toNat hts hGV rfl rfl rfl ⟨rfl, hmh.1, hmh.2, hnp⟩ hroom) ⟨cm_Pb_blind, ⟨cell, k1, k2, by rw [h54]; exact k3⟩, fun U hU hWm => hpre _ U hU hWm⟩ rfl (by rw [List.length_map]; exact hxl) hL.1 rfl (lv_room hsum) hd hcap) hS (fun q h => hfree q h) hfree hkk
      · obtain ⟨r, hr1, hr2⟩ : ∃ r, vwCl[(cm_kind cn).1]? = some r ∧ r.1 = mi.1.cls := by
          cases hz : vwCl[(cm_kind cn).1]? with
          | none => rw [hz] at h5; cases h5
          | some r => rw [hz] at h5; exact ⟨r, rfl, Option.some.inj h5⟩
        have hlt : (cm_kind cn).1 < 10 := (List.getElem?_eq_some_iff.mp hr1).1
        obtain ⟨fs, e1, e2, e3⟩ := cm_obj hW (show cm_kind cn = ((cm_kind cn).1, (cm_kind cn).2) from rfl) (by omega)
        have hrecv := va_recv hK hP hr1 e1
        rw [hr2] at hrecv
        exact cm_callW (va_runV (As := xs.map (cm_v adr)) (rest := rest.map (cm_v adr)) ⟨hx, hb, hml, hown, hts⟩ (hM l D adr ws H.size) (cwV t3.toNat hts hGV rfl rfl rfl ⟨rfl, hmh.1, hmh.2, hnp⟩ hroom) ⟨cm_Pb_blind, hrecv, fun U hU hWm => hpre _ U hU hWm⟩ rfl (by rw [List.length_map]; exact hxl) hL.1 rfl (lv_room hsum) hd hcap) hS (fun q h => hfree q h) hfree hkk
    | _ => exact h5.elim
  · have hi : some ((.invokestatic t2.toNat : Instr), (3 : Nat), ([.methodLink P.2.2.2.1 t2.toNat mi.1, .static mi.1, .initialized mi.1.cls] : List Cond)) = some (i, n, cs) := by
      simpa [cm_rowI, hmi] using hi
    cases hi
    rcases hor with ⟨hf0, -⟩ | ⟨-, rfl, rfl⟩
    · cases hf0
    · have hGS : GoodIn lw_good (va_wsS P.2.2.2.1 t2.toNat mi.1 (Cond.code mi.1 mi.2.1 mi.2.2.1 mi.2.2.2.1 :: lw_good)) := lw_good_good (fun w h => by
        unfold va_wsS at h
        rcases List.mem_append.mp h with h | h
        · exact hw w h
        · exact (hG w h).1)
      have hmap : (as.reverse ++ rest).map (cm_v adr) = (as.map (cm_v adr)).reverse ++ rest.map (cm_v adr) := by
        rw [List.map_append, List.map_reverse]
      show W p l e R s m args below meth c H locs ce sl Q (F0 m pc ls ((as.reverse ++ rest).map (cm_v adr)))
      rw [hmap]
      exact cm_callW (va_runS (As := as.map (cm_v adr)) (rest := rest.map (cm_v adr)) ⟨hx, hb, hml, hown, hts⟩ (hM l D adr ws H.size) (va_cwS t3.toNat hts hGS rfl rfl rfl ⟨hmh.1, hmh.2, hnp⟩ hroom) ⟨cm_Pb_blind, fun U hU hWm => hpre _ U hU hWm⟩ rfl (by rw [List.length_map]; exact hxl) hL.1 rfl (lv_room hsum) hd hcap) hS (fun q h => hfree q h) hfree hkk
  · exfalso
    have : cm_rowI ms P (op, t1, t2, t3, t4) = none := by
      unfold cm_rowI
      split
      · omega
      · omega
      · omega
      · omega
      · omega
      · omega
      · have : cm_ops[op]? = none := by
          apply List.getElem?_eq_none
          have : cm_ops.length = 92 := rfl
          omega
        simp [this]
    rw [this] at hi
    cases hi
theorem cm_pick_mem : ∀ {L L' : List (Nat × Value)} {live : List Nat}, cm_pick L live = some L' → ∀ q ∈ L', q ∈ L
  | L, L', [], h => by cases h; exact fun q hq => nomatch hq
  | L, L', i :: r, h => by
    unfold cm_pick at h
    split at h
    · rename_i v l h1 h2
      cases h
      intro q hq
      rcases List.mem_cons.mp hq with rfl | hq
      · exact cm_look_mem h1
      · exact cm_pick_mem h2 q hq
    · cases h
theorem cm_inv_im {C : cm_C} {r : ev_Row} {S : cm_S} {k1 k2 : cm_S → Prop} (hC : ∀ k as M P1 P2, (∀ v M', P1 v M' → P2 v M') → C k as M P1 → C k as M P2) (h : cm_inv ms C r S k1) (hk : ∀ S, k1 S → k2 S) : cm_inv ms C r S k2 := by
  unfold cm_inv at h ⊢
  split at h
  · split at h
    · exact ⟨h.1, h.2.1, h.2.2.1, hC _ _ _ _ _ (fun v M' q => hk _ q) h.2.2.2⟩
    · exact h
  · exact h
/-- from a good run back to its start -/
theorem cm_wp_ok (hMS : ∀ (k : Nat) (mi : ev_MI), ms[k]? = some mi → cm_MOK ms mi) (hRm : d + 1 ≤ R.frames ∧ 40 * (d + 1) ≤ R.locals) (X : cm_X p R s m args c cc P.2.2.2.2.1 P.2.2.2.1 D A adr ce sl E) {rows : List (Nat × ev_Row)} (hrows : ∀ q ∈ rows, cm_RowOK ms P cc q) {stops : List (Nat × List Nat)} {J : cm_S → Prop} {Z : Nat → cm_S → Prop}
    (hJ : ∀ S, J S → cm_Go p l e R s m args below meth c Q P.2.2.2.2.1 D A adr ce sl S) (hZ : ∀ (r : ev_Row) (S : cm_S), ev_at rows S.1 = some r → 210 ≤ r.1 → Z r.1 S → cm_Go p l e R s m args below meth c Q P.2.2.2.2.1 D A adr ce sl S) : ∀ (n : Nat) (S : cm_S), cm_wp ms (cm_Call ms d) E P rows stops J Z n S → cm_Go p l e R s m args below meth c Q P.2.2.2.2.1 D A adr ce sl S
  | 0, S, h => h.elim
  | n + 1, S, h => by
    have hst : ∀ S', cm_stop stops J (cm_wp ms (cm_Call ms d) E P rows stops J Z n) S' → cm_Go p l e R s m args below meth c Q P.2.2.2.2.1 D A adr ce sl S' := by
      intro S' h'
      unfold cm_stop at h'
      split at h'
      · exact cm_wp_ok hMS hRm X hrows hJ hZ n S' h'
      · split at h'
        · rename_i L' hL'
          exact cm_Go_sub (L' := L') (hJ _ h') (cm_pick_mem hL')
        · exact h'.elim
    unfold cm_wp at h
    split at h
    · exact h.elim
    · rename_i r hr
      have hq := hrows _ (ev_at_mem hr)
      split at h
      · rename_i h210
        exact hZ r S hr h210 h
      · rename_i h210
        split at h
        · rename_i h200
          exact cm_inv_ok hMS hRm X hq h200 (by dsimp only; omega) rfl (cm_inv_im (fun k as M P1 P2 hp hc => cm_Call_up hc (Nat.le_refl _) hp) h hst)
        · split at h
          · rename_i o ho
            obtain ⟨i, k, cs, hi, hd, hw⟩ := hq
            rw [cm_rowI_op (by dsimp only; omega)] at hi
            dsimp only at hi hd
            rw [ho] at hi
            exact cm_ops_ok o (List.mem_of_getElem? ho) p l e R s m args below meth c cc Q D A adr ce sl E P r.2 S i k cs X hi hd hw (cm_ops_im o (List.mem_of_getElem? ho) E P r.2 S _ _ h hst)
          · exact h.elim
end CMS
end
section
/-! CM: methods -/
/-- from this state the method ends as wanted -/
def cm_At (d : Nat) (mi : ev_MI) (Post : cm_K) (S : cm_S) : Prop := ∀ (p : Program) (l : Launch) (e : Env) (s : State) (m : MethodId) (args : Array Value) (below : List Frame) (meth : Method) (c : Code) (D : va_G) (adr : Nat → Nat) (ws0 : va_W),
  cm_X p (cm_rm d) s m args c mi.2.1 mi.2.2.1 mi.1.cls D (va_A ws0 s.heap.size) adr 0 0 none → meth.sig.returnType = mi.2.2.2.1 → meth.locks = false → cm_Go p l e (cm_rm d) s m args below meth c (MQ below (cm_Q D adr (va_A ws0 s.heap.size) Post) args s 0 0 (va_A ws0 s.heap.size)) mi.2.2.1 D (va_A ws0 s.heap.size) adr 0 0 S
theorem cm_ret_ok {ms : List ev_MI} {d : Nat} {mi : ev_MI} (hM : cm_MOK ms mi) {Post : cm_K} {r : ev_Row} {S : cm_S} (hr : ev_at mi.2.2.2.2.2.2 S.1 = some r) (h : cm_ret mi.2.2.2.1 Post r.1 S) : cm_At d mi Post S := by
  intro p l e s m args below meth c D adr ws0 X hrt hlocks ws H locs ls hR
  obtain ⟨hx, hb, hml, hown, hts, hK, hA, hN, hcC, hcS, hf, hlc, hscr⟩ := X
  obtain ⟨hP, hD, hS, hW, hL⟩ := hR
  obtain ⟨pc, L, st, M⟩ := S
  obtain ⟨i, n, cs, hi, hd, -⟩ := hM.2.2.2.2 _ (ev_at_mem hr)
  dsimp only at hi hd
  have qq : ∀ (v : Option Value) (t : State), t.heap = H → s.WarmedH t.vm → Post v M → cm_Q D adr (va_A ws0 s.heap.size) Post args s (.returned (v.map (cm_v adr))) t := by
    intro v t ht hWm hv
    exact ⟨⟨v, M, ws, hv, rfl, by rw [ht]; exact hP, hD, cm_w_moved hWm.alike hW⟩, hS.F ht⟩
  unfold cm_ret at h
  split at h
  · rename_i x e1 e2 e3
    have hi : some ((.ireturn : Instr), (1 : Nat), ([] : List Cond)) = some (i, n, cs) := by simpa [cm_rowI, e1] using hi
    cases hi
    dsimp only at e3 h
    subst e3
    exact W.zret hx hb (hrt.trans e2) rfl (fun t ht hWm => qq (some (.int x)) t ht hWm h) hS.2.2 hd
  · rename_i x e1 e2 e3
    have hi : some ((.ireturn : Instr), (1 : Nat), ([] : List Cond)) = some (i, n, cs) := by simpa [cm_rowI, e1] using hi
    cases hi
    dsimp only at e3 h
    subst e3
    refine W.zret hx hb (hrt.trans e2) ?_ (fun t ht hWm => qq (some (.int x)) t ht hWm h.2) hS.2.2 hd
    rcases h.1 with rfl | rfl <;> decide
  · rename_i x e1 e2 e3
    have hi : some ((.ireturn : Instr), (1 : Nat), ([] : List Cond)) = some (i, n, cs) := by simpa [cm_rowI, e1] using hi
    cases hi
    dsimp only at e3 h
    subst e3
    obtain ⟨h0, h1, h2⟩ := h
    refine W.zret hx hb (hrt.trans e2) ?_ (fun t ht hWm => qq (some (.int x)) t ht hWm h2) hS.2.2 hd
    have e : x = nI x.toInt.toNat := by
      apply Int32.toInt_inj.mp
      rw [nI_toInt (by omega)]
      omega
    rw [e]
    exact (pk_charN (by omega)).1
  · rename_i x e1 e2 e3
    have hi : some ((.ireturn : Instr), (1 : Nat), ([] : List Cond)) = some (i, n, cs) := by simpa [cm_rowI, e1] using hi
    cases hi
    dsimp only at e3 h
    subst e3
    obtain ⟨rfl, h2⟩ := h
    exact W.zret hx hb (hrt.trans e2) (by decide) (fun t ht hWm => qq (some (.int 0)) t ht hWm h2) hS.2.2 hd
  · rename_i x e1 e2 e3
    have hi : some ((.lreturn : Instr), (1 : Nat), ([] : List Cond)) = some (i, n, cs) := by simpa [cm_rowI, e1] using hi
    cases hi
    dsimp only at e3 h
    subst e3
    exact W.lret hx hb (hrt.trans e2) (fun t ht hWm => qq (some (.long x)) t ht hWm h) hS.2.2 hd
  · rename_i nm x e1 e2 e3
    have hi : some ((.areturn : Instr), (1 : Nat), ([] : List Cond)) = some (i, n, cs) := by simpa [cm_rowI, e1] using hi
    cases hi
    dsimp only at e3 h
    subst e3
    exact W.aret hx hb (hrt.trans e2) (Or.inl ⟨_, rfl⟩) (Or.inr ⟨_, rfl⟩) (fun t ht hWm => qq (some (.ref x)) t ht hWm h) hS.2.2 hd
  · rename_i e1 e2 e3
    have hi : some ((.return_ : Instr), (1 : Nat), ([] : List Cond)) = some (i, n, cs) := by simpa [cm_rowI, e1] using hi
    cases hi
    dsimp only at e3 h
    subst e3
    exact W.vret hx hb (hrt.trans e2) (fun t ht hWm => qq none t ht hWm h) hS.2.2 hd
  · exact h.elim
theorem cm_At_run {ms : List ev_MI} (hMS : ∀ (k : Nat) (mi : ev_MI), ms[k]? = some mi → cm_MOK ms mi) {d k : Nat} {mi : ev_MI} (hk : ms[k]? = some mi) {Post : cm_K} {stops : List (Nat × List Nat)} {J : cm_S → Prop} (hJ : ∀ S, J S → cm_At d mi Post S) {n : Nat} {S : cm_S} (h : cm_wp ms (cm_Call ms d) none (cm_P mi) mi.2.2.2.2.2.2 stops J (cm_ret mi.2.2.2.1 Post) n S) : cm_At d mi Post S := by
  intro p l e s m args below meth c D adr ws0 X hrt hlocks
  exact cm_wp_ok (P := cm_P mi) hMS ⟨Nat.le_refl _, Nat.le_refl _⟩ X (hMS k mi hk).2.2.2.2 (fun S hS => hJ S hS p l e s m args below meth c D adr ws0 X hrt hlocks) (fun r S hr _ hZ => cm_ret_ok (hMS k mi hk) hr hZ p l e s m args below meth c D adr ws0 X hrt hlocks) n S h
theorem cm_sl_len (adr : Nat → Nat) : ∀ as : List Value, (lg_sl (as.map (cm_v adr))).length = cm_cs as
  | [] => rfl
  | a :: as => by
    have ih := cm_sl_len adr as
    simp only [lg_sl, List.map_cons, List.flatMap_cons, List.length_append, cm_cs, List.sum_cons] at ih ⊢
    rw [ih]
    cases a <;> rfl
theorem cm_args_ok (adr : Nat → Nat) : ∀ (as : List Value) (i : Nat), ∀ q ∈ cm_args i as, (q.1, cm_v adr q.2) ∈ lv_args i (as.map (cm_v adr))
  | [], i, q, hq => nomatch hq
  | a :: as, i, q, hq => by
    unfold cm_args at hq
    rw [List.map_cons]
    unfold lv_args
    rcases List.mem_cons.mp hq with rfl | hq
    · exact List.mem_cons_self
    · refine List.mem_cons_of_mem _ ?_
      have := cm_args_ok adr as _ q hq
      rw [cm_v_cat]
      by_cases h2 : a.category = 2
      · rw [if_pos h2]; rw [h2] at this; exact this
      · have h1 : a.category = 1 := by cases a <;> first | rfl | exact absurd rfl h2
        rw [if_neg h2]; rw [h1] at this; exact this
theorem cm_Call_of {ms : List ev_MI} (hMS : ∀ (k : Nat) (mi : ev_MI), ms[k]? = some mi → cm_MOK ms mi) {d k : Nat} {mi : ev_MI} (hk : ms[k]? = some mi) {as : List Value} {M : cm_M} {Post : cm_K} (hcs : cm_cs as ≤ mi.2.2.1) (h : cm_At d mi Post (0, cm_args 0 as, [], M)) : cm_Call ms (d + 1) k as M Post := by
  refine ⟨mi, d, Post, hk, Nat.le_refl _, fun _ _ q => q, fun l D adr ws sz => ?_⟩
  obtain ⟨hpl, hcd, hnL, hmh, hrows⟩ := hMS k mi hk
  refine Met.ofW (cc := mi.2.1) (maxL := mi.2.2.1) (ret := mi.2.2.2.1) hpl rfl ?_
  intro p e s m args below meth c s₁ B hml hv
  obtain ⟨rfl, hsz, hP, hK, hD0, hW, hN⟩ := hv
  subst hsz
  have hD : va_D (va_A ws s.heap.size) ws := hD0.self (sz := s.heap.size)
  have hts : ∀ w ∈ lw_good, w.before (as.map (cm_v adr)).toArray s = true := fun w hw => atoms_spec (ws := Cond.code mi.1 mi.2.1 mi.2.2.1 mi.2.2.2.1 :: lw_good) B.pre w (List.mem_cons_of_mem _ hw)
  have X : cm_X p (cm_rm d) s m (as.map (cm_v adr)).toArray c mi.2.1 mi.2.2.1 mi.1.cls D (va_A ws s.heap.size) adr 0 0 none :=
    ⟨B.exec, B.bytes, hml, findClass_of_methodNamed B.named, hts, hK, fun q h => Or.inr h, hN, Nat.le_refl _, Nat.le_refl _, by simp [cm_rm], by simp only [cm_rm]; omega, trivial⟩
  have hlen : (lg_sl (as.map (cm_v adr))).length ≤ mi.2.2.1 := by rw [cm_sl_len]; exact hcs
  have hl := lv_entry (as.map (cm_v adr)) (n := mi.2.2.1) hlen
  rw [lg_entry_eq]
  refine h p l e s m _ below meth c D adr ws X B.returns B.notSynchronized ws s.heap [] _ ⟨hP, hD, va_S.rf, hW, hl.1, hl.2.1, fun q hq => ?_⟩
  obtain ⟨r, hr, rfl⟩ := List.mem_map.mp hq
  exact hl.2.2 _ (cm_args_ok adr as 0 r hr)
end
section
/-- what is checked of a call's row once -/
def ab_RC (ms : List ev_MI) (q : Nat × ev_Row) : Prop := 200 ≤ q.2.1 → q.2.1 < 210 → ∃ mi, ms[q.2.2.1.toNat]? = some mi ∧ ev_nar1 mi.1 q.2.2.2.2.1.toNat = true ∧ (q.2.1 = 200 → ∀ ci, q.2.2.2.2.2 = [ci] → (ci = 99 ∧ mi.1.cls = "java/lang/String") ∨ (ci ≠ 99 ∧ (vwCl[ci.toNat]?).map (fun r => r.1) = some mi.1.cls))
end
section
/-! operations on ints by their numbers, and bounds of what they give -/
def ev_f (op : Nat) (x y : Int32) : Int32 := match op with
  | 1 => x + y
  | 2 => x - y
  | 3 => x * y
  | 4 => x &&& y
  | 5 => x ||| y
  | 6 => x ^^^ y
  | 7 => x <<< (y &&& 31)
  | 8 => x >>> (y &&& 31)
  | 9 => (x.toUInt32 >>> (y.toUInt32 &&& Int32.toUInt32 31)).toInt32
  | 10 => x / y
  | 11 => x - x / y * y
  | 12 => -x
  | 13 => x.toInt8.toInt32
  | 14 => (x.toUInt32 % 65536).toInt32
  | 15 => if y < x then y else x
  | 16 => if x < y then y else x
  | 17 => if 0 ≤ x then x else 0 - x
  | 22 => x - y
  | _ => 0
def ev_ful : Int × Int := (-2147483648, 2147483647)
def ev_rng (b : Int × Int) : Int × Int := if -2147483648 ≤ b.1 ∧ b.2 ≤ 2147483647 then b else ev_ful
/-- bounds of what an operation gives, out of the bounds of its numbers -/
def ev_bd (op : Nat) (a b : Int × Int) : Int × Int := match op with
  | 1 => ev_rng (a.1 + b.1, a.2 + b.2)
  | 2 => ev_rng (a.1 - b.2, a.2 - b.1)
  | 3 => if 0 ≤ a.1 ∧ 0 ≤ b.1 then ev_rng (0, a.2 * b.2) else ev_ful
  | 4 => if 0 ≤ b.1 then (0, b.2) else if 0 ≤ a.1 then (0, a.2) else ev_ful
  | 7 => if a.1 = 1 ∧ a.2 = 1 ∧ 0 ≤ b.1 ∧ b.2 ≤ 30 then (2 ^ b.1.toNat, 2 ^ b.2.toNat) else ev_ful
  | 10 => if 0 ≤ a.1 ∧ 1 ≤ b.1 then (0, a.2) else ev_ful
  | 11 => if 0 ≤ a.1 ∧ 1 ≤ b.1 then (0, min a.2 (b.2 - 1)) else ev_ful
  | 13 => (-128, 127)
  | 14 => (0, 65535)
  | 15 => (min a.1 b.1, min a.2 b.2)
  | 16 => (max a.1 b.1, max a.2 b.2)
  | 22 => ev_rng (a.1 - b.2, a.2 - b.1)
  | _ => ev_ful
def ev_inb (b : Int × Int) (x : Int32) : Prop := b.1 ≤ x.toInt ∧ x.toInt ≤ b.2
theorem ev_lo0 (x : Int32) : (-2147483648 : Int) ≤ x.toInt := by have := Int32.le_toInt x; omega
theorem ev_hi0 (x : Int32) : x.toInt ≤ (2147483647 : Int) := by have := Int32.toInt_lt x; omega
theorem ev_ful_in (x : Int32) : ev_inb ev_ful x := ⟨ev_lo0 x, ev_hi0 x⟩
theorem ev_rng_in {b : Int × Int} {x : Int32} {n : Int} (hx : -2147483648 ≤ n → n ≤ 2147483647 → x.toInt = n) (h1 : b.1 ≤ n) (h2 : n ≤ b.2) : ev_inb (ev_rng b) x := by
  unfold ev_rng
  split
  · rename_i h
    have := hx (by omega) (by omega)
    exact ⟨by omega, by omega⟩
  · exact ev_ful_in x
theorem ev_bm {n : Int} (h1 : -2147483648 ≤ n) (h2 : n ≤ 2147483647) : n.bmod (2 ^ 32) = n := Int.bmod_eq_of_le (by omega) (by omega)
theorem ev_and_in {x y : Int32} (hy : 0 ≤ y.toInt) : 0 ≤ (x &&& y).toInt ∧ (x &&& y).toInt ≤ y.toInt := by
  have e1 : (x &&& y).toInt = (x.toBitVec &&& y.toBitVec).toInt := rfl
  have e2 : y.toInt = y.toBitVec.toInt := rfl
  rw [e2] at hy
  rw [e1, e2]
  rw [BitVec.toInt_eq_toNat_cond] at hy ⊢
  rw [BitVec.toInt_eq_toNat_cond]
  have hle : (x.toBitVec &&& y.toBitVec).toNat ≤ y.toBitVec.toNat := by
    rw [BitVec.toNat_and]
    exact Nat.and_le_right
  have hlt := y.toBitVec.isLt
  split at hy
  · rename_i hc
    rw [if_pos (by omega), if_pos hc]
    omega
  · omega
theorem ev_and_comm (x y : Int32) : x &&& y = y &&& x := by
  apply Int32.toBitVec_inj.mp
  rw [Int32.toBitVec_and, Int32.toBitVec_and, BitVec.and_comm]
theorem ev_div_in {x y : Int32} (hx : 0 ≤ x.toInt) (hy : 1 ≤ y.toInt) : (x / y).toInt = x.toInt / y.toInt ∧ 0 ≤ x.toInt / y.toInt ∧ x.toInt / y.toInt ≤ x.toInt := by
  have h1 : 0 ≤ x.toInt / y.toInt := Int.ediv_nonneg hx (by omega)
  have h2 : x.toInt / y.toInt ≤ x.toInt := Int.ediv_le_self _ hx
  refine ⟨?_, h1, h2⟩
  rw [Int32.toInt_div, Int.tdiv_eq_ediv_of_nonneg hx]
  have := ev_hi0 x
  exact ev_bm (by omega) (by omega)
theorem ev_rem_in {x y : Int32} (hx : 0 ≤ x.toInt) (hy : 1 ≤ y.toInt) : 0 ≤ (x - x / y * y).toInt ∧ (x - x / y * y).toInt ≤ x.toInt ∧ (x - x / y * y).toInt ≤ y.toInt - 1 := by
  obtain ⟨h1, h2, h3⟩ := ev_div_in hx hy
  have hxx := ev_hi0 x
  have hm : 0 ≤ x.toInt / y.toInt * y.toInt := Int.mul_nonneg h2 (by omega)
  have hd := Int.emod_add_mul_ediv x.toInt y.toInt
  have hr1 := Int.emod_nonneg x.toInt (show y.toInt ≠ 0 by omega)
  have hr2 := Int.emod_lt_of_pos x.toInt (show 0 < y.toInt by omega)
  have hc : x.toInt / y.toInt * y.toInt = y.toInt * (x.toInt / y.toInt) := Int.mul_comm _ _
  have e1 : (x / y * y).toInt = x.toInt / y.toInt * y.toInt := by
    rw [Int32.toInt_mul, h1]
    exact ev_bm (by omega) (by omega)
  have e2 : (x - x / y * y).toInt = x.toInt - x.toInt / y.toInt * y.toInt := by
    rw [Int32.toInt_sub, e1]
    exact ev_bm (by omega) (by omega)
  rw [e2]
  omega
theorem ev_shl1 : ∀ n : Fin 31, ((1 : Int32) <<< (Int32.ofNat n.val &&& 31)).toInt = ((2 ^ n.val : Nat) : Int) := by decide
theorem ev_shl_in {x y : Int32} {a b : Int} (hx : x.toInt = 1) (h0 : 0 ≤ a) (hb : b ≤ 30) (y1 : a ≤ y.toInt) (y2 : y.toInt ≤ b) : (2 : Int) ^ a.toNat ≤ (x <<< (y &&& 31)).toInt ∧ (x <<< (y &&& 31)).toInt ≤ (2 : Int) ^ b.toNat := by
  have ex : x = 1 := Int32.toInt_inj.mp (by rw [hx]; rfl)
  have ey : y = Int32.ofNat y.toInt.toNat := by
    apply Int32.toInt_inj.mp
    rw [Int32.toInt_ofNat_of_lt (by omega)]
    omega
  have hs := ev_shl1 ⟨y.toInt.toNat, by omega⟩
  dsimp only at hs
  rw [← ey] at hs
  rw [ex, hs]
  have p1 : 2 ^ a.toNat ≤ 2 ^ y.toInt.toNat := Nat.pow_le_pow_right (by decide) (by omega)
  have p2 : 2 ^ y.toInt.toNat ≤ 2 ^ b.toNat := Nat.pow_le_pow_right (by decide) (by omega)
  constructor
  · have : ((2 ^ a.toNat : Nat) : Int) ≤ ((2 ^ y.toInt.toNat : Nat) : Int) := by exact_mod_cast p1
    rw [Int.natCast_pow] at this
    exact this
  · have : ((2 ^ y.toInt.toNat : Nat) : Int) ≤ ((2 ^ b.toNat : Nat) : Int) := by exact_mod_cast p2
    rw [Int.natCast_pow (m := 2) (n := b.toNat)] at this
    exact this
theorem ev_i2c_in (x : Int32) : 0 ≤ ((x.toUInt32 % 65536).toInt32).toInt ∧ ((x.toUInt32 % 65536).toInt32).toInt ≤ 65535 := by
  have h1 : (x.toUInt32 % 65536).toNat < 65536 := by
    rw [UInt32.toNat_mod]
    exact Nat.mod_lt _ (by decide)
  have h2 : ((x.toUInt32 % 65536).toInt32).toInt = ((x.toUInt32 % 65536).toNat : Int) := by
    show ((x.toUInt32 % 65536).toBitVec).toInt = _
    rw [BitVec.toInt_eq_toNat_cond]
    have h3 : (x.toUInt32 % 65536).toBitVec.toNat = (x.toUInt32 % 65536).toNat := rfl
    rw [h3, if_pos (by omega)]
  rw [h2]
  omega
theorem ev_bd_in {op : Nat} {a b : Int × Int} {x y : Int32} (hx : ev_inb a x) (hy : ev_inb b y) : ev_inb (ev_bd op a b) (ev_f op x y) := by
  obtain ⟨x1, x2⟩ := hx
  obtain ⟨y1, y2⟩ := hy
  unfold ev_bd
  split
  · refine ev_rng_in (n := x.toInt + y.toInt) (fun h1 h2 => ?_) (by dsimp only; omega) (by dsimp only; omega)
    show (x + y).toInt = _
    rw [Int32.toInt_add]
    exact ev_bm h1 h2
  · refine ev_rng_in (n := x.toInt - y.toInt) (fun h1 h2 => ?_) (by dsimp only; omega) (by dsimp only; omega)
    show (x - y).toInt = _
    rw [Int32.toInt_sub]
    exact ev_bm h1 h2
  · split
    · rename_i h
      have h0 : 0 ≤ x.toInt * y.toInt := Int.mul_nonneg (by omega) (by omega)
      have h3 : x.toInt * y.toInt ≤ a.2 * b.2 := Int.mul_le_mul x2 y2 (by omega) (by omega)
      refine ev_rng_in (n := x.toInt * y.toInt) (fun h1 h2 => ?_) h0 h3
      show (x * y).toInt = _
      rw [Int32.toInt_mul]
      exact ev_bm h1 h2
    · exact ev_ful_in _
  · split
    · rename_i h
      have := ev_and_in (x := x) (y := y) (by omega)
      exact ⟨this.1, Int.le_trans this.2 y2⟩
    · split
      · rename_i h
        have := ev_and_in (x := y) (y := x) (by omega)
        show ev_inb _ (x &&& y)
        rw [ev_and_comm]
        exact ⟨this.1, Int.le_trans this.2 x2⟩
      · exact ev_ful_in _
  · split
    · rename_i h
      exact ev_shl_in (by omega) h.2.2.1 h.2.2.2 y1 y2
    · exact ev_ful_in _
  · split
    · rename_i h
      obtain ⟨h1, h2, h3⟩ := ev_div_in (x := x) (y := y) (by omega) (by omega)
      show ev_inb _ (x / y)
      exact ⟨by rw [h1]; exact h2, by rw [h1]; exact Int.le_trans h3 x2⟩
    · exact ev_ful_in _
  · split
    · rename_i h
      obtain ⟨h1, h2, h3⟩ := ev_rem_in (x := x) (y := y) (by omega) (by omega)
      exact ⟨h1, by show (x - x / y * y).toInt ≤ min a.2 (b.2 - 1); omega⟩
    · exact ev_ful_in _
  · show ev_inb _ (x.toInt8.toInt32)
    have h1 := Int8.le_toInt x.toInt8
    have h2 := Int8.toInt_lt x.toInt8
    refine ⟨?_, ?_⟩
    · rw [Int8.toInt_toInt32]; dsimp only; omega
    · rw [Int8.toInt_toInt32]; dsimp only; omega
  · exact ev_i2c_in x
  · show ev_inb _ (if y < x then y else x)
    split
    · rename_i h
      rw [Int32.lt_iff_toInt_lt] at h
      exact ⟨by dsimp only; omega, by dsimp only; omega⟩
    · rename_i h
      rw [Int32.lt_iff_toInt_lt] at h
      exact ⟨by dsimp only; omega, by dsimp only; omega⟩
  · show ev_inb _ (if x < y then y else x)
    split
    · rename_i h
      rw [Int32.lt_iff_toInt_lt] at h
      exact ⟨by dsimp only; omega, by dsimp only; omega⟩
    · rename_i h
      rw [Int32.lt_iff_toInt_lt] at h
      exact ⟨by dsimp only; omega, by dsimp only; omega⟩
  · refine ev_rng_in (n := x.toInt - y.toInt) (fun h1 h2 => ?_) (by dsimp only; omega) (by dsimp only; omega)
    show (x - y).toInt = _
    rw [Int32.toInt_sub]
    exact ev_bm h1 h2
  · exact ev_ful_in _
end
section
/-! AB: an interpreter over bounds. A value: (0, n) the int n, (1, cs) a reference to one of the cells cs, (2) null, (3, k) the k-th variable, (6) a long, (7, cs) null or one of cs -/
abbrev ab_A : Type := Nat × Int × List Nat
/-- a variable: its bounds, and the operation on two values that it is (0: none) -/
abbrev ab_Ke : Type := Int × Int × Nat × ab_A × ab_A
abbrev ab_K : Type := List ab_Ke
/-- what is known of places of the memory -/
abbrev ab_Ca : Type := List (Nat × Nat × ab_A)
abbrev ab_S : Type := Nat × List (Nat × ab_A) × List ab_A × ab_K × ab_Ca
def ab_c (n : Int) : ab_A := (0, n, [])
def ab_x (k : Nat) : ab_A := (3, (k : Int), [])
def ab_i (ρ : List Int32) (a : ab_A) : Option Int32 := match a.1 with
  | 0 => some (Int32.ofInt a.2.1)
  | 3 => ρ[a.2.1.toNat]?
  | _ => none
def ab_v (ρ : List Int32) (a : ab_A) (v : Value) : Prop := match a.1 with
  | 0 => v = .int (Int32.ofInt a.2.1)
  | 1 => ∃ c, c ∈ a.2.2 ∧ v = .ref c
  | 2 => v = .null
  | 3 => ∃ x, ρ[a.2.1.toNat]? = some x ∧ v = .int x
  | 6 => ∃ x, v = .long x
  | 7 => v = .null ∨ ∃ c, c ∈ a.2.2 ∧ v = .ref c
  | _ => False
def ab_isI (a : ab_A) : Bool := a.1 == 0 || a.1 == 3
theorem ab_vi {ρ : List Int32} {a : ab_A} {v : Value} (h : ab_isI a = true) (hv : ab_v ρ a v) : ∃ x, ab_i ρ a = some x ∧ v = .int x := by
  obtain ⟨t, n, cs⟩ := a
  simp only [ab_isI, Bool.or_eq_true, beq_iff_eq] at h
  rcases h with rfl | rfl
  · exact ⟨_, rfl, hv⟩
  · exact hv
theorem ab_iv {ρ : List Int32} {a : ab_A} {x : Int32} (h : ab_i ρ a = some x) : ab_v ρ a (.int x) := by
  obtain ⟨t, n, cs⟩ := a
  unfold ab_i at h
  split at h
  · rename_i e
    dsimp only at e
    subst e
    cases h
    rfl
  · rename_i e
    dsimp only at e
    subst e
    exact ⟨x, h, rfl⟩
  · cases h
theorem ab_ivI {ρ : List Int32} {a : ab_A} {x : Int32} (h : ab_i ρ a = some x) : ab_isI a = true := by
  obtain ⟨t, n, cs⟩ := a
  unfold ab_i at h
  split at h
  · rename_i e
    dsimp only at e
    subst e
    rfl
  · rename_i e
    dsimp only at e
    subst e
    rfl
  · cases h
theorem ab_vint {ρ : List Int32} {a : ab_A} {x : Int32} (h : ab_v ρ a (.int x)) : ab_i ρ a = some x := by
  obtain ⟨t, n, cs⟩ := a
  unfold ab_v at h
  split at h
  · rename_i e
    dsimp only at e
    subst e
    cases h
    rfl
  · obtain ⟨c, -, h⟩ := h
    cases h
  · cases h
  · rename_i e
    dsimp only at e
    subst e
    obtain ⟨y, h1, h2⟩ := h
    cases h2
    exact h1
  · obtain ⟨c, h⟩ := h
    cases h
  · rcases h with h | ⟨c, -, h⟩ <;> cases h
  · exact h.elim
/-- the category of a value by its tag -/
theorem ab_cat {ρ : List Int32} {a : ab_A} {v : Value} (hv : ab_v ρ a v) : (a.1 = 6 ∧ v.category = 2) ∨ (a.1 ≠ 6 ∧ v.category = 1) := by
  obtain ⟨t, n, cs⟩ := a
  unfold ab_v at hv
  split at hv
  · rename_i e; dsimp only at e; subst e; subst hv; exact Or.inr ⟨(by dsimp only; omega), rfl⟩
  · rename_i e; dsimp only at e; subst e; obtain ⟨c, -, rfl⟩ := hv; exact Or.inr ⟨(by dsimp only; omega), rfl⟩
  · rename_i e; dsimp only at e; subst e; subst hv; exact Or.inr ⟨(by dsimp only; omega), rfl⟩
  · rename_i e; dsimp only at e; subst e; obtain ⟨c, -, rfl⟩ := hv; exact Or.inr ⟨(by dsimp only; omega), rfl⟩
  · rename_i e; dsimp only at e; subst e; obtain ⟨c, rfl⟩ := hv; exact Or.inl ⟨rfl, rfl⟩
  · rename_i e
    dsimp only at e
    subst e
    rcases hv with rfl | ⟨c, -, rfl⟩
    · exact Or.inr ⟨(by dsimp only; omega), rfl⟩
    · exact Or.inr ⟨(by dsimp only; omega), rfl⟩
  · exact hv.elim
/-- variables are added behind -/
theorem ab_i_ap {ρ ext : List Int32} {a : ab_A} {x : Int32} (h : ab_i ρ a = some x) : ab_i (ρ ++ ext) a = some x := by
  unfold ab_i at h ⊢
  split at h
  · exact h
  · exact ev_ap h
  · cases h
theorem ab_v_ap {ρ ext : List Int32} {a : ab_A} {v : Value} (h : ab_v ρ a v) : ab_v (ρ ++ ext) a v := by
  unfold ab_v at h ⊢
  split at h
  · exact h
  · exact h
  · exact h
  · obtain ⟨x, h1, h2⟩ := h
    exact ⟨x, ev_ap h1, h2⟩
  · exact h
  · exact h
  · exact h
def ab_e (ρ : List Int32) (r : ab_Ke) (x : Int32) : Prop := ev_inb (r.1, r.2.1) x ∧ (r.2.2.1 = 0 ∨ ∃ y z, ab_i ρ r.2.2.2.1 = some y ∧ ab_i ρ r.2.2.2.2 = some z ∧ x = ev_f r.2.2.1 y z)
def ab_k (ρ : List Int32) (K : ab_K) : Prop := K.length = ρ.length ∧ ∀ (j : Nat) (r : ab_Ke) (x : Int32), K[j]? = some r → ρ[j]? = some x → ab_e ρ r x
theorem ab_e_ap {ρ ext : List Int32} {r : ab_Ke} {x : Int32} (h : ab_e ρ r x) : ab_e (ρ ++ ext) r x := by
  refine ⟨h.1, ?_⟩
  rcases h.2 with h | ⟨y, z, h1, h2, h3⟩
  · exact Or.inl h
  · exact Or.inr ⟨y, z, ab_i_ap h1, ab_i_ap h2, h3⟩
/-- the bounds of an int -/
def ab_bd (K : ab_K) (a : ab_A) : Int × Int := match a.1 with
  | 0 => ((Int32.ofInt a.2.1).toInt, (Int32.ofInt a.2.1).toInt)
  | 3 => (match K[a.2.1.toNat]? with
    | some r => (r.1, r.2.1)
    | none => ev_ful)
  | _ => ev_ful
theorem ab_bd_in {ρ : List Int32} {K : ab_K} {a : ab_A} {x : Int32} (hk : ab_k ρ K) (h : ab_i ρ a = some x) : ev_inb (ab_bd K a) x := by
  unfold ab_i at h
  unfold ab_bd
  split at h
  · cases h
    exact ⟨Int.le_refl _, Int.le_refl _⟩
  · split
    · rename_i r hr
      exact (hk.2 _ r x hr h).1
    · exact ev_ful_in x
  · cases h
/-- a new variable, or a number where both are numbers -/
def ab_new (K : ab_K) (op : Nat) (a b : ab_A) : ab_A × ab_K :=
  if a.1 == 0 && b.1 == 0 then (ab_c (ev_f op (Int32.ofInt a.2.1) (Int32.ofInt b.2.1)).toInt, K)
  else (ab_x K.length, K ++ [((ev_bd op (ab_bd K a) (ab_bd K b)).1, (ev_bd op (ab_bd K a) (ab_bd K b)).2, op, a, b)])
def ab_any (K : ab_K) (b : Int × Int) : ab_A × ab_K := (ab_x K.length, K ++ [(b.1, b.2, 0, ab_c 0, ab_c 0)])
theorem ab_push {ρ : List Int32} {K : ab_K} {r : ab_Ke} {x : Int32} (hk : ab_k ρ K) (hr : ab_e ρ r x) : ab_k (ρ ++ [x]) (K ++ [r]) := by
  refine ⟨by simp [hk.1], fun j q y h1 h2 => ?_⟩
  by_cases hj : j < K.length
  · rw [List.getElem?_append_left hj] at h1
    rw [List.getElem?_append_left (by rw [← hk.1]; exact hj)] at h2
    exact ab_e_ap (hk.2 j q y h1 h2)
  · rw [List.getElem?_append_right (by omega)] at h1
    rw [List.getElem?_append_right (by rw [← hk.1]; omega)] at h2
    have h3 : j - K.length < 1 := (List.getElem?_eq_some_iff.mp h1).1
    have h4 : j - K.length = 0 := by omega
    have h5 : j - ρ.length = 0 := by rw [← hk.1]; omega
    rw [h4] at h1
    rw [h5] at h2
    cases h1
    cases h2
    exact ab_e_ap hr
theorem ab_x_at {ρ : List Int32} {K : ab_K} (hk : ab_k ρ K) (x : Int32) : ab_i (ρ ++ [x]) (ab_x K.length) = some x := by
  show (ρ ++ [x])[((K.length : Int)).toNat]? = some x
  rw [Int.toNat_natCast, hk.1]
  simp
theorem ab_c_at (ρ : List Int32) (x : Int32) : ab_i ρ (ab_c x.toInt) = some x := by
  show some (Int32.ofInt x.toInt) = some x
  rw [Int32.ofInt_toInt]
theorem ab_new_ok {ρ : List Int32} {K K' : ab_K} {op : Nat} {a b c : ab_A} {x y : Int32} (hk : ab_k ρ K) (ha : ab_i ρ a = some x) (hb : ab_i ρ b = some y) (h : ab_new K op a b = (c, K')) : ∃ ext, ab_k (ρ ++ ext) K' ∧ ab_i (ρ ++ ext) c = some (ev_f op x y) := by
  unfold ab_new at h
  split at h
  · rename_i hz
    cases h
    simp only [Bool.and_eq_true, beq_iff_eq] at hz
    obtain ⟨ta, na, ca⟩ := a
    obtain ⟨tb, nb, cb⟩ := b
    obtain ⟨rfl, rfl⟩ := hz
    cases ha
    cases hb
    exact ⟨[], by simpa using hk, by rw [List.append_nil]; exact ab_c_at _ _⟩
  · cases h
    exact ⟨[ev_f op x y], ab_push hk ⟨ev_bd_in (ab_bd_in hk ha) (ab_bd_in hk hb), Or.inr ⟨x, y, ha, hb, rfl⟩⟩, ab_x_at hk _⟩
theorem ab_any_ok {ρ : List Int32} {K K' : ab_K} {b : Int × Int} {c : ab_A} {x : Int32} (hk : ab_k ρ K) (hx : ev_inb b x) (h : ab_any K b = (c, K')) : ∃ ext, ab_k (ρ ++ ext) K' ∧ ab_i (ρ ++ ext) c = some x := by
  cases h
  exact ⟨[x], ab_push hk ⟨hx, Or.inl rfl⟩, ab_x_at hk _⟩
/-! bounds are narrowed -/
def ab_set1 (K : ab_K) (a : ab_A) (b : Int × Int) : ab_K := if a.1 == 3 then (match K[a.2.1.toNat]? with
    | some r => K.set a.2.1.toNat (b.1, b.2, r.2.2)
    | none => K) else K
theorem ab_set1_ok {ρ : List Int32} {K : ab_K} {a : ab_A} {b : Int × Int} {x : Int32} (hk : ab_k ρ K) (ha : ab_i ρ a = some x) (hb : ev_inb b x) : ab_k ρ (ab_set1 K a b) := by
  unfold ab_set1
  split
  · rename_i h3
    split
    · rename_i r hr
      have hl := (List.getElem?_eq_some_iff.mp hr).1
      refine ⟨by rw [List.length_set]; exact hk.1, fun j q y h1 h2 => ?_⟩
      by_cases hj : j = a.2.1.toNat
      · subst hj
        rw [List.getElem?_set_self hl] at h1
        cases h1
        have h4 : a.1 = 3 := beq_iff_eq.mp h3
        unfold ab_i at ha
        rw [h4] at ha
        have ha : ρ[a.2.1.toNat]? = some x := ha
        rw [ha] at h2
        cases h2
        exact ⟨hb, (hk.2 _ r x hr ha).2⟩
      · rw [List.getElem?_set_ne (Ne.symm hj)] at h1
        exact hk.2 j q y h1 h2
    · exact hk
  · exact hk
/-- the bounds of x when x r y holds -/
def ab_nar (r : Nat) (x y : Int × Int) : Int × Int := match r with
  | 0 => (max x.1 y.1, min x.2 y.2)
  | 1 => if y.1 = y.2 then (if x.1 = y.1 then (x.1 + 1, x.2) else if x.2 = y.1 then (x.1, x.2 - 1) else x) else x
  | 2 => (x.1, min x.2 (y.2 - 1))
  | 3 => (max x.1 y.1, x.2)
  | 4 => (max x.1 (y.1 + 1), x.2)
  | _ => (x.1, min x.2 y.2)
theorem ab_nar_in {r : Nat} {b d : Int × Int} {x y : Int32} (hx : ev_inb b x) (hy : ev_inb d y) (h : ev_cmp r x y = true) : ev_inb (ab_nar r b d) x := by
  obtain ⟨x1, x2⟩ := hx
  obtain ⟨y1, y2⟩ := hy
  unfold ab_nar
  unfold ev_cmp at h
  split
  · have h : x = y := of_decide_eq_true h
    subst h
    exact ⟨by dsimp only; omega, by dsimp only; omega⟩
  · have h : ¬ x = y := by simpa using h
    have h : x.toInt ≠ y.toInt := fun q => h (Int32.toInt_inj.mp q)
    split
    · split
      · exact ⟨by dsimp only; omega, by dsimp only; omega⟩
      · split
        · exact ⟨by dsimp only; omega, by dsimp only; omega⟩
        · exact ⟨x1, x2⟩
    · exact ⟨x1, x2⟩
  · have h := Int32.lt_iff_toInt_lt.mp (of_decide_eq_true h)
    exact ⟨by dsimp only; omega, by dsimp only; omega⟩
  · have h := Int32.le_iff_toInt_le.mp (of_decide_eq_true h)
    exact ⟨by dsimp only; omega, by dsimp only; omega⟩
  · have h := Int32.lt_iff_toInt_lt.mp (of_decide_eq_true h)
    exact ⟨by dsimp only; omega, by dsimp only; omega⟩
  · rename_i n0 n1 n2 n3 n4
    have h : x ≤ y := by
      rcases r with _ | _ | _ | _ | _ | r
      · exact absurd rfl n0
      · exact absurd rfl n1
      · exact absurd rfl n2
      · exact absurd rfl n3
      · exact absurd rfl n4
      · exact of_decide_eq_true h
    have h := Int32.le_iff_toInt_le.mp h
    exact ⟨by dsimp only; omega, by dsimp only; omega⟩
def ab_swp (r : Nat) : Nat := match r with
  | 0 => 0
  | 1 => 1
  | 2 => 4
  | 3 => 5
  | 4 => 2
  | _ => 3
theorem ab_swp_ok {r : Nat} {x y : Int32} (h : ev_cmp r x y = true) : ev_cmp (ab_swp r) y x = true := by
  rcases r with _ | _ | _ | _ | _ | r
  · simp only [ev_cmp, ab_swp, decide_eq_true_eq] at h ⊢
    exact h.symm
  · simp only [ev_cmp, ab_swp, Bool.not_eq_true', decide_eq_false_iff_not] at h ⊢
    exact fun q => h q.symm
  · simpa [ev_cmp, ab_swp] using h
  · simpa [ev_cmp, ab_swp] using h
  · simpa [ev_cmp, ab_swp] using h
  · simpa [ev_cmp, ab_swp] using h
def ab_ngt (r : Nat) : Nat := match r with
  | 0 => 1
  | 1 => 0
  | 2 => 3
  | 3 => 2
  | 4 => 5
  | _ => 4
theorem ab_ngt_ok {r : Nat} {x y : Int32} (h : ev_cmp r x y = false) : ev_cmp (ab_ngt r) x y = true := by
  rcases r with _ | _ | _ | _ | _ | r
  · simpa [ev_cmp, ab_ngt] using h
  · simpa [ev_cmp, ab_ngt] using h
  · simpa [ev_cmp, ab_ngt] using h
  · simpa [ev_cmp, ab_ngt] using h
  · simpa [ev_cmp, ab_ngt] using h
  · simpa [ev_cmp, ab_ngt] using h
/-- back through a sum: x + c within bounds, so x -/
def ab_back (K : ab_K) (a : ab_A) : ab_K := if a.1 == 3 then (match K[a.2.1.toNat]? with
    | some r => (match r.2.2.2.2.1 with
      | 0 =>
        let u := r.2.2.2.1
        let c := (Int32.ofInt r.2.2.2.2.2.1).toInt
        let b := ab_bd K u
        if r.2.2.1 = 1 ∧ -2147483648 ≤ b.1 + c ∧ b.2 + c ≤ 2147483647 then ab_set1 K u (max b.1 (r.1 - c), min b.2 (r.2.1 - c))
        else if r.2.2.1 = 2 ∧ -2147483648 ≤ b.1 - c ∧ b.2 - c ≤ 2147483647 then ab_set1 K u (max b.1 (r.1 + c), min b.2 (r.2.1 + c))
        else K
      | _ => K)
    | none => K) else K
theorem ab_back_ok {ρ : List Int32} {K : ab_K} {a : ab_A} {x : Int32} (hk : ab_k ρ K) (ha : ab_i ρ a = some x) : ab_k ρ (ab_back K a) := by
  unfold ab_back
  split
  · rename_i h3
    split
    · rename_i r hr
      split
      · rename_i h0
        have h4 : a.1 = 3 := beq_iff_eq.mp h3
        unfold ab_i at ha
        rw [h4] at ha
        have ha : ρ[a.2.1.toNat]? = some x := ha
        obtain ⟨⟨b1, b2⟩, hd⟩ := hk.2 _ r x hr ha
        dsimp only at b1 b2 ⊢
        have hc : ab_i ρ r.2.2.2.2 = some (Int32.ofInt r.2.2.2.2.2.1) := by
          unfold ab_i
          rw [h0]
          rfl
        split
        · rename_i hc1
          rcases hd with hd | ⟨y, z, hy, hz, e⟩
          · omega
          · rw [hc] at hz
            cases hz
            obtain ⟨y1, y2⟩ := ab_bd_in hk hy
            rw [hc1.1] at e
            have e : x = y + Int32.ofInt r.2.2.2.2.2.1 := e
            have e2 : x.toInt = y.toInt + (Int32.ofInt r.2.2.2.2.2.1).toInt := by
              rw [e, Int32.toInt_add]
              exact ev_bm (by omega) (by omega)
            exact ab_set1_ok hk hy ⟨by dsimp only; omega, by dsimp only; omega⟩
        · split
          · rename_i hc1
            rcases hd with hd | ⟨y, z, hy, hz, e⟩
            · omega
            · rw [hc] at hz
              cases hz
              obtain ⟨y1, y2⟩ := ab_bd_in hk hy
              rw [hc1.1] at e
              have e : x = y - Int32.ofInt r.2.2.2.2.2.1 := e
              have e2 : x.toInt = y.toInt - (Int32.ofInt r.2.2.2.2.2.1).toInt := by
                rw [e, Int32.toInt_sub]
                exact ev_bm (by omega) (by omega)
              exact ab_set1_ok hk hy ⟨by dsimp only; omega, by dsimp only; omega⟩
          · exact hk
      · exact hk
    · exact hk
  · exact hk
/-- a relation: r is y - x within bounds, so x is at most y's highest less r's lowest -/
def ab_rel1 (K : ab_K) (r : ab_Ke) : ab_K := if -2147483648 ≤ (ab_bd K r.2.2.2.1).1 - (ab_bd K r.2.2.2.2).2 ∧ (ab_bd K r.2.2.2.1).2 - (ab_bd K r.2.2.2.2).1 ≤ 2147483647 then ab_set1 K r.2.2.2.2 ((ab_bd K r.2.2.2.2).1, min (ab_bd K r.2.2.2.2).2 ((ab_bd K r.2.2.2.1).2 - r.1)) else K
def ab_rel : List ab_Ke → ab_K → ab_K
  | [], K => K
  | r :: l, K => ab_rel l (if r.2.2.1 = 22 then ab_rel1 K r else K)
theorem ab_rel1_ok {ρ : List Int32} {K : ab_K} {r : ab_Ke} {w : Int32} (hk : ab_k ρ K) (h22 : r.2.2.1 = 22) (hr : ab_e ρ r w) : ab_k ρ (ab_rel1 K r) := by
  unfold ab_rel1
  split
  · rename_i hc
    rcases hr.2 with hz | ⟨y, x, hy, hx, e⟩
    · omega
    · obtain ⟨y1, y2⟩ := ab_bd_in hk hy
      obtain ⟨x1, x2⟩ := ab_bd_in hk hx
      obtain ⟨w1, w2⟩ := hr.1
      rw [h22] at e
      have e : w = y - x := e
      have e2 : w.toInt = y.toInt - x.toInt := by
        rw [e, Int32.toInt_sub]
        exact ev_bm (by omega) (by omega)
      dsimp only at w1 w2
      exact ab_set1_ok hk hx ⟨by dsimp only; omega, by dsimp only; omega⟩
  · exact hk
theorem ab_rel_ok {ρ : List Int32} : ∀ (l : List ab_Ke) {K : ab_K}, (∀ r ∈ l, ∃ w, ab_e ρ r w) → ab_k ρ K → ab_k ρ (ab_rel l K)
  | [], K, _, hk => hk
  | r :: l, K, hl, hk => by
    unfold ab_rel
    refine ab_rel_ok l (fun q hq => hl q (List.mem_cons_of_mem _ hq)) ?_
    split
    · rename_i h22
      obtain ⟨w, hw⟩ := hl r List.mem_cons_self
      exact ab_rel1_ok hk h22 hw
    · exact hk
theorem ab_k_all {ρ : List Int32} {K : ab_K} (hk : ab_k ρ K) : ∀ r ∈ K, ∃ w, ab_e ρ r w := by
  intro r hr
  obtain ⟨j, hj⟩ := List.getElem?_of_mem hr
  have hl : j < ρ.length := by rw [← hk.1]; exact (List.getElem?_eq_some_iff.mp hj).1
  exact ⟨ρ[j], hk.2 j r _ hj (List.getElem?_eq_getElem hl)⟩
/-- what is known when a r b holds: none if it can't -/
def ab_br (r : Nat) (a b : ab_A) (K : ab_K) : Option ab_K :=
  let x := ab_bd K a
  let y := ab_bd K b
  let x' := ab_nar r x y
  let y' := ab_nar (ab_swp r) y x
  if x'.1 ≤ x'.2 ∧ y'.1 ≤ y'.2 then some (ab_rel K (ab_back (ab_back (ab_set1 (ab_set1 K a x') b y') a) b)) else none
theorem ab_br_ok {ρ : List Int32} {K : ab_K} {r : Nat} {a b : ab_A} {x y : Int32} (hk : ab_k ρ K) (ha : ab_i ρ a = some x) (hb : ab_i ρ b = some y) (h : ev_cmp r x y = true) : ∃ K', ab_br r a b K = some K' ∧ ab_k ρ K' := by
  have hx := ab_bd_in hk ha
  have hy := ab_bd_in hk hb
  have h1 := ab_nar_in hx hy h
  have h2 := ab_nar_in hy hx (ab_swp_ok h)
  unfold ab_br
  dsimp only
  rw [if_pos ⟨Int.le_trans h1.1 h1.2, Int.le_trans h2.1 h2.2⟩]
  exact ⟨_, rfl, ab_rel_ok K (ab_k_all hk) (ab_back_ok (ab_back_ok (ab_set1_ok (ab_set1_ok hk ha h1) hb h2) ha) hb)⟩
end
section
/-! AB: the memory. Of every place: bounds of an int, cells of a reference; cells that only proofs by hand write -/
/-- bounds; references; places that only proofs by hand write; bounds of a place (c, i) where (c', i') is v -/
abbrev ab_H : Type := List (Nat × List (Nat × Int × Int)) × List (Nat × List (Nat × Bool × List Nat)) × List (Nat × Nat) × List (Nat × Nat × Nat × Nat × Int × Int × Int)
def ab_hl (h : ab_H) (c : Nat) : List (Nat × Int × Int) := match ev_at h.1 c with
  | some l => l
  | none => []
def ab_hi (h : ab_H) (c i : Nat) : Int × Int := match ev_at (ab_hl h c) i with
  | some b => b
  | none => ev_ful
def ab_hr (h : ab_H) (c i : Nat) : Option (Bool × List Nat) := match ev_at h.2.1 c with
  | some l => ev_at l i
  | none => none
def ab_rok (q : Option (Bool × List Nat)) (r : Option Nat) : Prop := match q, r with
  | none, _ => True
  | some q, none => q.1 = true
  | some q, some c => c ∈ q.2
def ab_ok (h : ab_H) (N : cm_M → Prop) (M : cm_M) : Prop := (∀ c i, ev_inb (ab_hi h c i) (M.1 c i)) ∧ (∀ c i, ab_rok (ab_hr h c i) (M.2.2 c i)) ∧ N M
/-- what holds of protected cells stays if they aren't written -/
def ab_NP (h : ab_H) (N : cm_M → Prop) : Prop := (∀ M M' : cm_M, (∀ q ∈ h.2.2.1, M'.1 q.1 q.2 = M.1 q.1 q.2 ∧ M'.2.1 q.1 q.2 = M.2.1 q.1 q.2 ∧ M'.2.2 q.1 q.2 = M.2.2 q.1 q.2) → N M → N M') ∧ ∀ M : cm_M, N M → ∀ e ∈ h.2.2.2, M.1 e.2.2.1 e.2.2.2.1 = Int32.ofInt e.2.2.2.2.1 → ev_inb e.2.2.2.2.2 (M.1 e.1 e.2.1)
/-- what may be written: cells with places ([]: all) -/
abbrev ab_Md : Type := List (Nat × List Nat)
def ab_inM (md : ab_Md) (c i : Nat) : Bool := match ev_at md c with
  | some l => l.isEmpty || l.contains i
  | none => false
def ab_allM (md : ab_Md) (c : Nat) : Bool := match ev_at md c with
  | some l => l.isEmpty
  | none => false
theorem ab_allM_in {md : ab_Md} {c : Nat} (h : ab_allM md c = true) (i : Nat) : ab_inM md c i = true := by
  unfold ab_allM at h
  unfold ab_inM
  split at h
  · simp [h]
  · cases h
def ab_fr (md : ab_Md) (M0 M : cm_M) : Prop := ∀ c i, ab_inM md c i = false → M.1 c i = M0.1 c i ∧ M.2.1 c i = M0.2.1 c i ∧ M.2.2 c i = M0.2.2 c i
theorem ab_fr_rf (md : ab_Md) (M : cm_M) : ab_fr md M M := fun c i _ => ⟨rfl, rfl, rfl⟩
def ab_ce (ρ : List Int32) (M : cm_M) (q : Nat × Nat × ab_A) : Prop := if ab_isI q.2.2 = true then ab_i ρ q.2.2 = some (M.1 q.1 q.2.1) else ab_v ρ q.2.2 (cm_rq (M.2.2 q.1 q.2.1))
def ab_ca (ρ : List Int32) (M : cm_M) (Ca : ab_Ca) : Prop := ∀ q ∈ Ca, ab_ce ρ M q
theorem ab_ce_ap {ρ ext : List Int32} {M : cm_M} {q : Nat × Nat × ab_A} (h : ab_ce ρ M q) : ab_ce (ρ ++ ext) M q := by
  unfold ab_ce at h ⊢
  split
  · rename_i hi
    rw [if_pos hi] at h
    exact ab_i_ap h
  · rename_i hi
    rw [if_neg hi] at h
    exact ab_v_ap h
theorem ab_ca_ap {ρ ext : List Int32} {M : cm_M} {Ca : ab_Ca} (h : ab_ca ρ M Ca) : ab_ca (ρ ++ ext) M Ca := fun q hq => ab_ce_ap (h q hq)
/-- an entry at a place that wasn't written -/
theorem ab_ce_ne {ρ : List Int32} {M M' : cm_M} {q : Nat × Nat × ab_A} (h1 : M'.1 q.1 q.2.1 = M.1 q.1 q.2.1) (h2 : M'.2.2 q.1 q.2.1 = M.2.2 q.1 q.2.1) (h : ab_ce ρ M q) : ab_ce ρ M' q := by
  unfold ab_ce at h ⊢
  rw [h1, h2]
  exact h
def ab_m (h : ab_H) (N : cm_M → Prop) (M0 : cm_M) (md : ab_Md) (ρ : List Int32) (Ca : ab_Ca) (M : cm_M) : Prop := ab_ok h N M ∧ ab_fr md M0 M ∧ ab_ca ρ M Ca
/-- which places of an array: one of these, or any -/
abbrev ab_Ix : Type := Option (List Nat)
def ab_ixin (ix : ab_Ix) (i : Nat) : Prop := match ix with
  | some l => i ∈ l
  | none => True
def ab_ixc (ix : ab_Ix) (i : Nat) : Bool := match ix with
  | some l => l.contains i
  | none => true
theorem ab_ixc_ok {ix : ab_Ix} {i : Nat} (h : ab_ixin ix i) : ab_ixc ix i = true := by
  unfold ab_ixin at h
  unfold ab_ixc
  cases ix with
  | none => rfl
  | some l => exact List.contains_iff_mem.mpr h
def ab_mdok (md : ab_Md) (c : Nat) (ix : ab_Ix) : Bool := match ix with
  | some l => l.all (fun i => ab_inM md c i)
  | none => ab_allM md c
theorem ab_mdok_in {md : ab_Md} {c : Nat} {ix : ab_Ix} {i : Nat} (h : ab_mdok md c ix = true) (hi : ab_ixin ix i) : ab_inM md c i = true := by
  unfold ab_mdok at h
  unfold ab_ixin at hi
  cases ix with
  | none => exact ab_allM_in h i
  | some l => exact List.all_eq_true.mp h i hi
def ab_drop (Ca : ab_Ca) (cs : List Nat) (ix : ab_Ix) : ab_Ca := Ca.filter (fun q => !(cs.contains q.1 && ab_ixc ix q.2.1))
theorem ab_drop_in {Ca : ab_Ca} {cs : List Nat} {ix : ab_Ix} {q : Nat × Nat × ab_A} (h : q ∈ ab_drop Ca cs ix) {c i : Nat} (hc : c ∈ cs) (hi : ab_ixin ix i) : q ∈ Ca ∧ ¬ (q.1 = c ∧ q.2.1 = i) := by
  obtain ⟨h1, h2⟩ := List.mem_filter.mp h
  refine ⟨h1, fun e => ?_⟩
  obtain ⟨e1, e2⟩ := e
  rw [e1, e2, List.contains_iff_mem.mpr hc, ab_ixc_ok hi] at h2
  simp at h2
/-- a cache behind a store of a -/
def ab_keep (Ca : ab_Ca) (cs : List Nat) (ix : ab_Ix) (a : ab_A) : ab_Ca := match cs, ix with
  | [c], some [i] => (c, i, a) :: ab_drop Ca cs ix
  | _, _ => ab_drop Ca cs ix
theorem ab_keep_in {Ca : ab_Ca} {cs : List Nat} {ix : ab_Ix} {a : ab_A} {q : Nat × Nat × ab_A} (h : q ∈ ab_keep Ca cs ix a) {c i : Nat} (hc : c ∈ cs) (hi : ab_ixin ix i) : (q = (c, i, a)) ∨ (q ∈ Ca ∧ ¬ (q.1 = c ∧ q.2.1 = i)) := by
  unfold ab_keep at h
  split at h
  · rename_i c' i'
    have e1 : c = c' := List.mem_singleton.mp hc
    have e2 : i = i' := List.mem_singleton.mp hi
    subst e1
    subst e2
    rcases List.mem_cons.mp h with h | h
    · exact Or.inl h
    · exact Or.inr (ab_drop_in h hc hi)
  · exact Or.inr (ab_drop_in h hc hi)
/-- none of these places is protected -/
def ab_pr (h : ab_H) (c : Nat) (ix : ab_Ix) : Bool := h.2.2.1.all (fun q => !(q.1 == c && ab_ixc ix q.2))
theorem ab_pr_ok {h : ab_H} {c : Nat} {ix : ab_Ix} {i : Nat} (hp : ab_pr h c ix = true) (hi : ab_ixin ix i) {q : Nat × Nat} (hq : q ∈ h.2.2.1) : ¬ (q.1 = c ∧ q.2 = i) := by
  intro e
  have h1 := List.all_eq_true.mp hp q hq
  rw [e.1, e.2, ab_ixc_ok hi] at h1
  simp at h1
/-- may an int be stored there -/
def ab_stI (h : ab_H) (md : ab_Md) (b : Int × Int) (cs : List Nat) (ix : ab_Ix) : Bool :=
  cs.all (fun c => ab_pr h c ix && (ab_mdok md c ix && (ab_hl h c).all (fun e => !(ab_ixc ix e.1) || (decide (e.2.1 ≤ b.1) && decide (b.2 ≤ e.2.2)))))
theorem ab_hi_in {h : ab_H} {b : Int × Int} {c : Nat} {ix : ab_Ix} {i : Nat} {x : Int32} (ha : (ab_hl h c).all (fun e => !(ab_ixc ix e.1) || (decide (e.2.1 ≤ b.1) && decide (b.2 ≤ e.2.2))) = true) (hi : ab_ixin ix i) (hx : ev_inb b x) : ev_inb (ab_hi h c i) x := by
  unfold ab_hi
  split
  · rename_i e he
    have := List.all_eq_true.mp ha _ (ev_at_mem he)
    simp only [ab_ixc_ok hi, Bool.not_true, Bool.false_or, Bool.and_eq_true, decide_eq_true_eq] at this
    exact ⟨Int.le_trans this.1 hx.1, Int.le_trans hx.2 this.2⟩
  · exact ev_ful_in x
section ABM
variable {h : ab_H} {N : cm_M → Prop} {M0 : cm_M} {md : ab_Md} {ρ : List Int32} {Ca : ab_Ca} {M : cm_M}
theorem ab_m_ap {ext : List Int32} (hm : ab_m h N M0 md ρ Ca M) : ab_m h N M0 md (ρ ++ ext) Ca M := ⟨hm.1, hm.2.1, ab_ca_ap hm.2.2⟩
theorem ab_stI_ok (hN : ab_NP h N) (hm : ab_m h N M0 md ρ Ca M) {b : Int × Int} {cs : List Nat} {ix : ab_Ix} {a : ab_A} {x : Int32} {c i : Nat} (hs : ab_stI h md b cs ix = true) (hc : c ∈ cs) (hi : ab_ixin ix i) (ha : ab_i ρ a = some x) (hb : ev_inb b x) : ab_m h N M0 md ρ (ab_keep Ca cs ix a) (cm_wi M c i x) := by
  have h1 := List.all_eq_true.mp hs c hc
  simp only [Bool.and_eq_true] at h1
  obtain ⟨p1, p2, p3⟩ := h1
  obtain ⟨⟨o1, o2, o3⟩, fr, ca⟩ := hm
  refine ⟨⟨fun c' i' => ?_, o2, hN.1 M _ (fun q hq => ⟨?_, rfl, rfl⟩) o3⟩, fun c' i' hm' => ?_, fun q hq => ?_⟩
  · show ev_inb _ (if c' = c ∧ i' = i then x else M.1 c' i')
    split
    · rename_i e
      rw [e.1, e.2]
      exact ab_hi_in p3 hi hb
    · exact o1 c' i'
  · show (if q.1 = c ∧ q.2 = i then x else M.1 q.1 q.2) = M.1 q.1 q.2
    rw [if_neg (ab_pr_ok p1 hi hq)]
  · have hne : ¬ (c' = c ∧ i' = i) := by
      intro e
      rw [e.1, e.2, ab_mdok_in p2 hi] at hm'
      cases hm'
    obtain ⟨f1, f2, f3⟩ := fr c' i' hm'
    exact ⟨by show (if c' = c ∧ i' = i then x else M.1 c' i') = _; rw [if_neg hne]; exact f1, f2, f3⟩
  · rcases ab_keep_in hq hc hi with rfl | ⟨q1, q2⟩
    · unfold ab_ce
      rw [if_pos (ab_ivI ha)]
      show _ = some (if c = c ∧ i = i then x else M.1 c i)
      rw [if_pos ⟨rfl, rfl⟩]
      exact ha
    · exact ab_ce_ne (M := M) (by show (if q.1 = c ∧ q.2.1 = i then x else M.1 q.1 q.2.1) = _; rw [if_neg q2]) rfl (ca q q1)
/-- a long -/
def ab_stL (h : ab_H) (md : ab_Md) (cs : List Nat) (ix : ab_Ix) : Bool := cs.all (fun c => ab_pr h c ix && ab_mdok md c ix)
theorem ab_stL_ok (hN : ab_NP h N) (hm : ab_m h N M0 md ρ Ca M) {cs : List Nat} {ix : ab_Ix} {x : Int64} {c i : Nat} (hs : ab_stL h md cs ix = true) (hc : c ∈ cs) (hi : ab_ixin ix i) : ab_m h N M0 md ρ Ca (cm_wl M c i x) := by
  have h1 := List.all_eq_true.mp hs c hc
  simp only [Bool.and_eq_true] at h1
  obtain ⟨p1, p2⟩ := h1
  obtain ⟨⟨o1, o2, o3⟩, fr, ca⟩ := hm
  refine ⟨⟨o1, o2, hN.1 M _ (fun q hq => ⟨rfl, ?_, rfl⟩) o3⟩, fun c' i' hm' => ?_, fun q hq => ab_ce_ne rfl rfl (ca q hq)⟩
  · show (if q.1 = c ∧ q.2 = i then x else M.2.1 q.1 q.2) = M.2.1 q.1 q.2
    rw [if_neg (ab_pr_ok p1 hi hq)]
  · have hne : ¬ (c' = c ∧ i' = i) := by
      intro e
      rw [e.1, e.2, ab_mdok_in p2 hi] at hm'
      cases hm'
    obtain ⟨f1, f2, f3⟩ := fr c' i' hm'
    exact ⟨f1, by show (if c' = c ∧ i' = i then x else M.2.1 c' i') = _; rw [if_neg hne]; exact f2, f3⟩
/-- a reference -/
def ab_rfit (q : Option (Bool × List Nat)) (a : ab_A) : Bool := match q with
  | none => true
  | some q => (match a.1 with
    | 1 => a.2.2.all (fun c => q.2.contains c)
    | 2 => q.1
    | 7 => q.1 && a.2.2.all (fun c => q.2.contains c)
    | _ => false)
def ab_isR (a : ab_A) : Bool := a.1 == 1 || (a.1 == 2 || a.1 == 7)
theorem ab_rfit_ok {q : Option (Bool × List Nat)} {a : ab_A} {r : Option Nat} (h1 : ab_rfit q a = true) (hv : ab_v ρ a (cm_rq r)) : ab_rok q r := by
  unfold ab_rfit at h1
  cases q with
  | none => exact trivial
  | some q =>
    dsimp only at h1
    unfold ab_v at hv
    split at h1
    · rename_i e
      rw [e] at hv
      obtain ⟨c, hc, e2⟩ := hv
      cases r with
      | none => cases e2
      | some r =>
        cases e2
        exact List.contains_iff_mem.mp (List.all_eq_true.mp h1 _ hc)
    · rename_i e
      rw [e] at hv
      cases r with
      | none => exact h1
      | some r => cases hv
    · rename_i e
      rw [e] at hv
      simp only [Bool.and_eq_true] at h1
      cases r with
      | none => exact h1.1
      | some r =>
        rcases hv with hv | ⟨c, hc, e2⟩
        · cases hv
        · cases e2
          exact List.contains_iff_mem.mp (List.all_eq_true.mp h1.2 _ hc)
    · cases h1
def ab_stR (h : ab_H) (md : ab_Md) (a : ab_A) (cs : List Nat) (i : Nat) : Bool := cs.all (fun c => ab_pr h c (some [i]) && (ab_inM md c i && ab_rfit (ab_hr h c i) a))
theorem ab_stR_ok (hN : ab_NP h N) (hm : ab_m h N M0 md ρ Ca M) {cs : List Nat} {a : ab_A} {r : Option Nat} {c i : Nat} (hs : ab_stR h md a cs i = true) (hc : c ∈ cs) (hR : ab_isI a = false) (ha : ab_v ρ a (cm_rq r)) : ab_m h N M0 md ρ (ab_keep Ca cs (some [i]) a) (cm_wr M c i r) := by
  have h1 := List.all_eq_true.mp hs c hc
  simp only [Bool.and_eq_true] at h1
  obtain ⟨p1, p2, p3⟩ := h1
  obtain ⟨⟨o1, o2, o3⟩, fr, ca⟩ := hm
  refine ⟨⟨o1, fun c' i' => ?_, hN.1 M _ (fun q hq => ⟨rfl, rfl, ?_⟩) o3⟩, fun c' i' hm' => ?_, fun q hq => ?_⟩
  · show ab_rok _ (if c' = c ∧ i' = i then r else M.2.2 c' i')
    split
    · rename_i e
      rw [e.1, e.2]
      exact ab_rfit_ok p3 ha
    · exact o2 c' i'
  · show (if q.1 = c ∧ q.2 = i then r else M.2.2 q.1 q.2) = M.2.2 q.1 q.2
    rw [if_neg (ab_pr_ok p1 (show ab_ixin (some [i]) i from List.mem_singleton.mpr rfl) hq)]
  · have hne : ¬ (c' = c ∧ i' = i) := by
      intro e
      rw [e.1, e.2, p2] at hm'
      cases hm'
    obtain ⟨f1, f2, f3⟩ := fr c' i' hm'
    exact ⟨f1, f2, by show (if c' = c ∧ i' = i then r else M.2.2 c' i') = _; rw [if_neg hne]; exact f3⟩
  · rcases ab_keep_in hq hc (show ab_ixin (some [i]) i from List.mem_singleton.mpr rfl) with rfl | ⟨q1, q2⟩
    · unfold ab_ce
      rw [if_neg (by dsimp only; rw [hR]; decide)]
      show ab_v ρ a (cm_rq (if c = c ∧ i = i then r else M.2.2 c i))
      rw [if_pos ⟨rfl, rfl⟩]
      exact ha
    · exact ab_ce_ne (M := M) rfl (by show (if q.1 = c ∧ q.2.1 = i then r else M.2.2 q.1 q.2.1) = _; rw [if_neg q2]) (ca q q1)
/-- a row of ints copied: into arrays of which nothing is kept -/
def ab_stC (h : ab_H) (md : ab_Md) (ds : List Nat) : Bool := ds.all (fun d => ab_pr h d none && (ab_allM md d && (ab_hl h d).isEmpty))
theorem ab_stC_ok (hN : ab_NP h N) (hm : ab_m h N M0 md ρ Ca M) {ds : List Nat} {c sp d dp n : Nat} (hs : ab_stC h md ds = true) (hd : d ∈ ds) : ab_m h N M0 md ρ (ab_drop Ca ds none) (cm_cp M c sp d dp n) := by
  have h1 := List.all_eq_true.mp hs d hd
  simp only [Bool.and_eq_true, List.isEmpty_iff] at h1
  obtain ⟨p1, p2, p3⟩ := h1
  obtain ⟨⟨o1, o2, o3⟩, fr, ca⟩ := hm
  refine ⟨⟨fun c' i' => ?_, o2, hN.1 M _ (fun q hq => ⟨?_, rfl, rfl⟩) o3⟩, fun c' i' hm' => ?_, fun q hq => ?_⟩
  · by_cases e : c' = d
    · subst e
      have : ab_hi h c' i' = ev_ful := by unfold ab_hi; rw [p3]; rfl
      rw [this]
      exact ev_ful_in _
    · show ev_inb _ (if c' = d ∧ dp ≤ i' ∧ i' < dp + n then M.1 c (sp + (i' - dp)) else M.1 c' i')
      rw [if_neg (fun z => e z.1)]
      exact o1 c' i'
  · show (if q.1 = d ∧ dp ≤ q.2 ∧ q.2 < dp + n then M.1 c (sp + (q.2 - dp)) else M.1 q.1 q.2) = M.1 q.1 q.2
    rw [if_neg (fun z => ab_pr_ok (i := q.2) p1 trivial hq ⟨z.1, rfl⟩)]
  · have hne : ¬ c' = d := by
      intro e
      rw [e, ab_allM_in p2] at hm'
      cases hm'
    obtain ⟨f1, f2, f3⟩ := fr c' i' hm'
    exact ⟨by show (if c' = d ∧ dp ≤ i' ∧ i' < dp + n then M.1 c (sp + (i' - dp)) else M.1 c' i') = _; rw [if_neg (fun z => hne z.1)]; exact f1, f2, f3⟩
  · obtain ⟨h1, h2⟩ := List.mem_filter.mp hq
    have hne : ¬ q.1 = d := by
      intro e
      rw [e, List.contains_iff_mem.mpr hd] at h2
      simp [ab_ixc] at h2
    exact ab_ce_ne (M := M) (by show (if q.1 = d ∧ dp ≤ q.2.1 ∧ q.2.1 < dp + n then M.1 c (sp + (q.2.1 - dp)) else M.1 q.1 q.2.1) = _; rw [if_neg (fun z => hne z.1)]) rfl (ca q h1)
end ABM
/-! reading -/
def ab_cf (Ca : ab_Ca) (c i : Nat) : Option ab_A := match Ca with
  | [] => none
  | q :: r => if q.1 == c && q.2.1 == i then some q.2.2 else ab_cf r c i
theorem ab_cf_mem : ∀ {Ca : ab_Ca} {c i : Nat} {a : ab_A}, ab_cf Ca c i = some a → (c, i, a) ∈ Ca
  | [], c, i, a, h => by cases h
  | q :: r, c, i, a, h => by
    unfold ab_cf at h
    split at h
    · rename_i hq
      simp only [Bool.and_eq_true, beq_iff_eq] at hq
      cases h
      rw [← hq.1, ← hq.2]
      exact List.mem_cons_self
    · exact List.mem_cons_of_mem _ (ab_cf_mem h)
def ab_hull (h : ab_H) (cs l : List Nat) : Int × Int := cs.foldl (fun b c => l.foldl (fun b i => (min b.1 (ab_hi h c i).1, max b.2 (ab_hi h c i).2)) b) (2147483647, -2147483648)
theorem ab_fold_mono {α : Type} (f : α → Int × Int) : ∀ (l : List α) (b : Int × Int), (l.foldl (fun b i => (min b.1 (f i).1, max b.2 (f i).2)) b).1 ≤ b.1 ∧ b.2 ≤ (l.foldl (fun b i => (min b.1 (f i).1, max b.2 (f i).2)) b).2
  | [], b => ⟨Int.le_refl _, Int.le_refl _⟩
  | a :: l, b => by
    have := ab_fold_mono f l (min b.1 (f a).1, max b.2 (f a).2)
    rw [List.foldl_cons]
    exact ⟨by have := this.1; dsimp only at this; omega, by have := this.2; dsimp only at this; omega⟩
theorem ab_fold_in {α : Type} (f : α → Int × Int) : ∀ (l : List α) (b : Int × Int) {a : α}, a ∈ l → (l.foldl (fun b i => (min b.1 (f i).1, max b.2 (f i).2)) b).1 ≤ (f a).1 ∧ (f a).2 ≤ (l.foldl (fun b i => (min b.1 (f i).1, max b.2 (f i).2)) b).2
  | [], b, a, h => by cases h
  | x :: l, b, a, h => by
    rw [List.foldl_cons]
    rcases List.mem_cons.mp h with rfl | h
    · have := ab_fold_mono f l (min b.1 (f a).1, max b.2 (f a).2)
      exact ⟨by have := this.1; dsimp only at this; omega, by have := this.2; dsimp only at this; omega⟩
    · exact ab_fold_in f l _ h
theorem ab_hull_mono {h : ab_H} {l : List Nat} : ∀ (cs : List Nat) (b : Int × Int), (cs.foldl (fun b c => l.foldl (fun b i => (min b.1 (ab_hi h c i).1, max b.2 (ab_hi h c i).2)) b) b).1 ≤ b.1 ∧ b.2 ≤ (cs.foldl (fun b c => l.foldl (fun b i => (min b.1 (ab_hi h c i).1, max b.2 (ab_hi h c i).2)) b) b).2
  | [], b => ⟨Int.le_refl _, Int.le_refl _⟩
  | c :: cs, b => by
    rw [List.foldl_cons]
    have h1 := ab_fold_mono (fun i => ab_hi h c i) l b
    have h2 := ab_hull_mono (h := h) (l := l) cs (l.foldl (fun b i => (min b.1 (ab_hi h c i).1, max b.2 (ab_hi h c i).2)) b)
    exact ⟨Int.le_trans h2.1 h1.1, Int.le_trans h1.2 h2.2⟩
theorem ab_hull_in {h : ab_H} {l : List Nat} {i : Nat} (hi : i ∈ l) : ∀ (cs : List Nat) (b : Int × Int) {c : Nat}, c ∈ cs → (cs.foldl (fun b c => l.foldl (fun b i => (min b.1 (ab_hi h c i).1, max b.2 (ab_hi h c i).2)) b) b).1 ≤ (ab_hi h c i).1 ∧ (ab_hi h c i).2 ≤ (cs.foldl (fun b c => l.foldl (fun b i => (min b.1 (ab_hi h c i).1, max b.2 (ab_hi h c i).2)) b) b).2
  | [], b, c, hc => by cases hc
  | x :: cs, b, c, hc => by
    rw [List.foldl_cons]
    rcases List.mem_cons.mp hc with rfl | hc
    · have h1 := ab_fold_in (fun i => ab_hi h c i) l b hi
      have h2 := ab_hull_mono (h := h) (l := l) cs (l.foldl (fun b i => (min b.1 (ab_hi h c i).1, max b.2 (ab_hi h c i).2)) b)
      exact ⟨Int.le_trans h2.1 h1.1, Int.le_trans h1.2 h2.2⟩
    · exact ab_hull_in hi cs _ hc
/-- the bounds of a place, by what is known of another one -/
def ab_cd (Ca : ab_Ca) (e : Nat × Nat × Nat × Nat × Int × Int × Int) : Bool := match ab_cf Ca e.2.2.1 e.2.2.2.1 with
  | some a => a.1 == 0 && decide (a.2.1 = e.2.2.2.2.1)
  | none => false
def ab_hc (h : ab_H) (Ca : ab_Ca) (c i : Nat) : List (Nat × Nat × Nat × Nat × Int × Int × Int) → Int × Int
  | [] => ab_hi h c i
  | e :: r => if e.1 = c ∧ e.2.1 = i ∧ ab_cd Ca e = true then e.2.2.2.2.2 else ab_hc h Ca c i r
theorem ab_hc_in {h : ab_H} {N : cm_M → Prop} {M0 : cm_M} {md : ab_Md} {ρ : List Int32} {Ca : ab_Ca} {M : cm_M} {c i : Nat} (hN : ab_NP h N) (hm : ab_m h N M0 md ρ Ca M) : ∀ (l : List (Nat × Nat × Nat × Nat × Int × Int × Int)), (∀ e ∈ l, e ∈ h.2.2.2) → ev_inb (ab_hc h Ca c i l) (M.1 c i)
  | [], _ => hm.1.1 c i
  | e :: r, hl => by
    unfold ab_hc
    split
    · rename_i hq
      obtain ⟨q1, q2, q3⟩ := hq
      unfold ab_cd at q3
      split at q3
      · rename_i a ha
        simp only [Bool.and_eq_true, beq_iff_eq, decide_eq_true_eq] at q3
        have h1 := hm.2.2 _ (ab_cf_mem ha)
        unfold ab_ce at h1
        rw [if_pos (show ab_isI a = true by unfold ab_isI; rw [q3.1]; rfl)] at h1
        unfold ab_i at h1
        dsimp only at h1
        rw [q3.1] at h1
        have h2 : M.1 e.2.2.1 e.2.2.2.1 = Int32.ofInt e.2.2.2.2.1 := by
          rw [← q3.2]
          exact (Option.some.inj h1).symm
        have h3 := hN.2 M hm.1.2.2 e (hl e List.mem_cons_self) h2
        rw [q1, q2] at h3
        exact h3
      · cases q3
    · exact ab_hc_in hN hm r (fun x hx => hl x (List.mem_cons_of_mem _ hx))
/-- an int is read -/
def ab_ldI (h : ab_H) (K : ab_K) (Ca : ab_Ca) (cs : List Nat) (ix : ab_Ix) : ab_A × ab_K × ab_Ca := match cs, ix with
  | [c], some [i] => (match ab_cf Ca c i with
    | some a => if ab_isI a = true then (a, K, Ca) else ((ab_any K (ab_hi h c i)).1, (ab_any K (ab_hi h c i)).2, Ca)
    | none => ((ab_any K (ab_hc h Ca c i h.2.2.2)).1, (ab_any K (ab_hc h Ca c i h.2.2.2)).2, (c, i, (ab_any K (ab_hc h Ca c i h.2.2.2)).1) :: Ca))
  | cs, some l => ((ab_any K (ab_hull h cs l)).1, (ab_any K (ab_hull h cs l)).2, Ca)
  | _, none => ((ab_any K ev_ful).1, (ab_any K ev_ful).2, Ca)
theorem ab_ldI_ok {h : ab_H} {N : cm_M → Prop} {M0 : cm_M} {md : ab_Md} {ρ : List Int32} {Ca Ca' : ab_Ca} {M : cm_M} {K K' : ab_K} {cs : List Nat} {ix : ab_Ix} {a : ab_A} {c i : Nat} (hN : ab_NP h N) (hk : ab_k ρ K) (hm : ab_m h N M0 md ρ Ca M) (hl : ab_ldI h K Ca cs ix = (a, K', Ca')) (hc : c ∈ cs) (hi : ab_ixin ix i) : ∃ ext, ab_k (ρ ++ ext) K' ∧ ab_i (ρ ++ ext) a = some (M.1 c i) ∧ ab_m h N M0 md (ρ ++ ext) Ca' M := by
  unfold ab_ldI at hl
  split at hl
  · rename_i c' i'
    have e1 : c = c' := List.mem_singleton.mp hc
    have e2 : i = i' := List.mem_singleton.mp hi
    subst e1
    subst e2
    split at hl
    · rename_i q hq
      split at hl
      · rename_i hI
        cases hl
        have := hm.2.2 _ (ab_cf_mem hq)
        unfold ab_ce at this
        rw [if_pos hI] at this
        exact ⟨[], by simpa using hk, by simpa using this, by simpa using hm⟩
      · cases hl
        obtain ⟨ext, k1, k2⟩ := ab_any_ok hk (hm.1.1 c i) (rfl : ab_any K (ab_hi h c i) = (_, _))
        exact ⟨ext, k1, k2, ab_m_ap hm⟩
    · cases hl
      obtain ⟨ext, k1, k2⟩ := ab_any_ok hk (ab_hc_in hN hm h.2.2.2 (fun _ z => z)) (rfl : ab_any K (ab_hc h Ca c i h.2.2.2) = (_, _))
      refine ⟨ext, k1, k2, hm.1, hm.2.1, fun q hq => ?_⟩
      rcases List.mem_cons.mp hq with rfl | hq
      · unfold ab_ce
        rw [if_pos (show ab_isI (ab_any K (ab_hc h Ca c i h.2.2.2)).1 = true from ab_ivI k2)]
        exact k2
      · exact ab_ce_ap (hm.2.2 q hq)
  · rename_i l hne
    cases hl
    have hb : ev_inb (ab_hull h cs l) (M.1 c i) := by
      have h1 := ab_hull_in (h := h) (l := l) hi cs (2147483647, -2147483648) hc
      have h2 := hm.1.1 c i
      exact ⟨Int.le_trans h1.1 h2.1, Int.le_trans h2.2 h1.2⟩
    obtain ⟨ext, k1, k2⟩ := ab_any_ok hk hb (rfl : ab_any K (ab_hull h cs l) = (_, _))
    exact ⟨ext, k1, k2, ab_m_ap hm⟩
  · cases hl
    obtain ⟨ext, k1, k2⟩ := ab_any_ok hk (ev_ful_in (M.1 c i)) (rfl : ab_any K ev_ful = (_, _))
    exact ⟨ext, k1, k2, ab_m_ap hm⟩
/-- a reference is read: which cells -/
def ab_un (h : ab_H) : List (Nat × Nat) → Option (Bool × List Nat)
  | [] => some (false, [])
  | q :: r => match ab_hr h q.1 q.2, ab_un h r with
    | some (n, cs), some (n', cs') => some (n || n', cs ++ cs')
    | _, _ => none
theorem ab_un_ok {h : ab_H} : ∀ {l : List (Nat × Nat)} {n : Bool} {cs : List Nat}, ab_un h l = some (n, cs) → ∀ q ∈ l, ∀ r, ab_rok (ab_hr h q.1 q.2) r → ab_rok (some (n, cs)) r
  | [], n, cs, e => fun q hq => nomatch hq
  | p :: l, n, cs, e => by
    unfold ab_un at e
    split at e
    · rename_i n1 c1 n2 c2 e1 e2
      cases e
      intro q hq r hr
      rcases List.mem_cons.mp hq with rfl | hq
      · rw [e1] at hr
        cases r with
        | none => have hr : n1 = true := hr; show (n1 || n2) = true; rw [hr]; rfl
        | some x => exact List.mem_append_left _ hr
      · have := ab_un_ok e2 q hq r hr
        cases r with
        | none => have hr : n2 = true := this; show (n1 || n2) = true; rw [hr]; simp
        | some x => exact List.mem_append_right _ this
    · cases e
def ab_ldR (h : ab_H) (Ca : ab_Ca) (cs l : List Nat) : Option ab_A := match cs, l with
  | [c], [i] => (match ab_cf Ca c i with
    | some a => if ab_isI a = false then some a else none
    | none => (match ab_hr h c i with
      | some (false, ts) => some (1, 0, ts)
      | some (true, ts) => some (7, 0, ts)
      | none => none))
  | cs, l => (match ab_un h (cs.flatMap (fun c => l.map (fun i => (c, i)))) with
    | some (false, ts) => some (1, 0, ts)
    | some (true, ts) => some (7, 0, ts)
    | none => none)
theorem ab_rokv {ρ : List Int32} {n : Bool} {ts : List Nat} {r : Option Nat} (h : ab_rok (some (n, ts)) r) : ab_v ρ (if n = true then (7, 0, ts) else (1, 0, ts)) (cm_rq r) := by
  cases n with
  | true =>
    rw [if_pos rfl]
    cases r with
    | none => exact Or.inl rfl
    | some x => exact Or.inr ⟨x, h, rfl⟩
  | false =>
    rw [if_neg (by decide)]
    cases r with
    | none => cases h
    | some x => exact ⟨x, h, rfl⟩
theorem ab_ldR_ok {h : ab_H} {N : cm_M → Prop} {M0 : cm_M} {md : ab_Md} {ρ : List Int32} {Ca : ab_Ca} {M : cm_M} {cs l : List Nat} {a : ab_A} {c i : Nat} (hm : ab_m h N M0 md ρ Ca M) (hl : ab_ldR h Ca cs l = some a) (hc : c ∈ cs) (hi : i ∈ l) : ab_v ρ a (cm_rq (M.2.2 c i)) := by
  unfold ab_ldR at hl
  have fin : ∀ {n : Bool} {ts : List Nat}, ab_rok (some (n, ts)) (M.2.2 c i) → (match (some (n, ts) : Option (Bool × List Nat)) with
      | some (false, ts) => some ((1, 0, ts) : ab_A)
      | some (true, ts) => some (7, 0, ts)
      | none => none) = some a → ab_v ρ a (cm_rq (M.2.2 c i)) := by
    intro n ts h1 h2
    have := ab_rokv (ρ := ρ) h1
    cases n with
    | true => cases h2; exact this
    | false => cases h2; exact this
  split at hl
  · rename_i c' i'
    have e1 : c = c' := List.mem_singleton.mp hc
    have e2 : i = i' := List.mem_singleton.mp hi
    subst e1
    subst e2
    split at hl
    · rename_i q hq
      split at hl
      · rename_i hI
        cases hl
        have := hm.2.2 _ (ab_cf_mem hq)
        unfold ab_ce at this
        rw [if_neg (by dsimp only; rw [hI]; decide)] at this
        exact this
      · cases hl
    · have h1 := hm.1.2.1 c i
      cases hz : ab_hr h c i with
      | none => rw [hz] at hl; cases hl
      | some q =>
        rw [hz] at hl h1
        exact fin h1 hl
  · have h1 := hm.1.2.1 c i
    cases hz : ab_un h (cs.flatMap (fun c => l.map (fun i => (c, i)))) with
    | none => rw [hz] at hl; cases hl
    | some q =>
      rw [hz] at hl
      exact fin (ab_un_ok hz (c, i) (List.mem_flatMap.mpr ⟨c, hc, List.mem_map.mpr ⟨i, hi, rfl⟩⟩) _ h1) hl
end
section
/-! AB: states and operations -/
def ab_l (ρ : List Int32) (L : List (Nat × ab_A)) (CL : List (Nat × Value)) : Prop := ∀ q ∈ L, ∃ v, cm_look CL q.1 = some v ∧ ab_v ρ q.2 v
def ab_s (ρ : List Int32) : List ab_A → List Value → Prop
  | [], [] => True
  | a :: st, v :: sc => ab_v ρ a v ∧ ab_s ρ st sc
  | _, _ => False
theorem ab_l_ap {ρ ext : List Int32} {L : List (Nat × ab_A)} {CL : List (Nat × Value)} (h : ab_l ρ L CL) : ab_l (ρ ++ ext) L CL := fun q hq => by
  obtain ⟨v, h1, h2⟩ := h q hq
  exact ⟨v, h1, ab_v_ap h2⟩
theorem ab_s_ap {ρ ext : List Int32} : ∀ {st : List ab_A} {sc : List Value}, ab_s ρ st sc → ab_s (ρ ++ ext) st sc
  | [], [], _ => trivial
  | [], _ :: _, h => h.elim
  | _ :: _, [], h => h.elim
  | _ :: _, _ :: _, h => ⟨ab_v_ap h.1, ab_s_ap h.2⟩
theorem ab_s_cons {ρ : List Int32} {a : ab_A} {st : List ab_A} {sc : List Value} (h : ab_s ρ (a :: st) sc) : ∃ v sc', sc = v :: sc' ∧ ab_v ρ a v ∧ ab_s ρ st sc' := by
  cases sc with
  | nil => exact h.elim
  | cons v sc' => exact ⟨v, sc', rfl, h.1, h.2⟩
theorem ab_s_nil {ρ : List Int32} {sc : List Value} (h : ab_s ρ [] sc) : sc = [] := by
  cases sc with
  | nil => rfl
  | cons v sc' => exact h.elim
def ab_G (h : ab_H) (N : cm_M → Prop) (M0 : cm_M) (md : ab_Md) (ρ : List Int32) (S : ab_S) (C : cm_S) : Prop := C.1 = S.1 ∧ ab_l ρ S.2.1 C.2.1 ∧ ab_s ρ S.2.2.1 C.2.2.1 ∧ ab_k ρ S.2.2.2.1 ∧ ab_m h N M0 md ρ S.2.2.2.2 C.2.2.2
abbrev ab_O : Type := ab_H → ab_Md → ev_P → ev_T → ab_S → Option (List ab_S)
def ab_Snd (o : cm_O) (a : ab_O) : Prop := ∀ (h : ab_H) (N : cm_M → Prop) (M0 : cm_M) (md : ab_Md) (E : cm_E) (P : ev_P) (t : ev_T) (S : ab_S) (Ss : List ab_S) (C : cm_S) (ρ : List Int32) (k : cm_S → Prop), ab_NP h N → a h md P t S = some Ss → ab_G h N M0 md ρ S C → (∀ S' ∈ Ss, ∀ (ext : List Int32) (C' : cm_S), ab_G h N M0 md (ρ ++ ext) S' C' → k C') → o.2 E P t C k
/-- nothing new -/
theorem ab_nil {α : Type} (l : List α) : l ++ [] = l := List.append_nil l
def ab_adv (S : ab_S) (n : Nat) (st : List ab_A) : ab_S := (S.1 + n, S.2.1, st, S.2.2.2)
def ab_advK (S : ab_S) (n : Nat) (st : List ab_A) (K : ab_K) : ab_S := (S.1 + n, S.2.1, st, K, S.2.2.2.2)
def ab_no : ab_O := fun _ _ _ _ _ => none
theorem ab_no_ok (o : cm_O) : ab_Snd o ab_no := fun h N M0 md E P t S Ss C ρ k hN h1 => by cases h1
section ABO
variable {h : ab_H} {N : cm_M → Prop} {M0 : cm_M} {md : ab_Md} {ρ : List Int32} {k : cm_S → Prop} {pc : Nat} {L : List (Nat × ab_A)} {st : List ab_A} {K : ab_K} {Ca : ab_Ca} {CL : List (Nat × Value)} {M : cm_M}
/-- a new value on the stack -/
theorem ab_fin {Ss : List ab_S} (hk : ∀ S' ∈ Ss, ∀ (ext : List Int32) (C' : cm_S), ab_G h N M0 md (ρ ++ ext) S' C' → k C') (S1 : ab_S) (hS : S1 ∈ Ss) (C1 : cm_S) (hG : ab_G h N M0 md ρ S1 C1) : k C1 := hk S1 hS [] C1 (by rw [ab_nil]; exact hG)
end ABO
theorem ab_look_fl {f : Nat × Value → Bool} : ∀ {CL : List (Nat × Value)} {j : Nat} {v : Value}, cm_look CL j = some v → f (j, v) = true → cm_look (CL.filter f) j = some v
  | [], j, v, h, _ => by cases h
  | q :: CL, j, v, h, hf => by
    unfold cm_look at h
    rw [List.filter_cons]
    split at h
    · rename_i e
      cases h
      have eq : q = (j, q.2) := Prod.ext e rfl
      rw [← eq] at hf
      rw [if_pos hf]
      unfold cm_look
      rw [if_pos e]
    · rename_i e
      have ih := ab_look_fl h hf
      split
      · unfold cm_look
        rw [if_neg e]
        exact ih
      · exact ih
def ab_st1 (L : List (Nat × ab_A)) (i : Nat) (a : ab_A) : List (Nat × ab_A) := (i, a) :: L.filter (fun q => !(q.1 == i) && !(q.1 + 1 == i && q.2.1 == 6))
def ab_st2 (L : List (Nat × ab_A)) (i : Nat) (a : ab_A) : List (Nat × ab_A) := (i, a) :: L.filter (fun q => !(q.1 == i) && (!(q.1 == i + 1) && !(q.1 + 1 == i && q.2.1 == 6)))
theorem ab_cat6 {ρ : List Int32} {a : ab_A} {v : Value} (hv : ab_v ρ a v) : (v.category == 2) = (a.1 == 6) := by
  rcases ab_cat hv with ⟨h1, h2⟩ | ⟨h1, h2⟩
  · rw [h1, h2]; rfl
  · rw [h2]
    have : (a.1 == 6) = false := by simpa using h1
    rw [this]
    rfl
theorem ab_st1_ok {ρ : List Int32} {L : List (Nat × ab_A)} {CL : List (Nat × Value)} {i : Nat} {a : ab_A} {v : Value} (h : ab_l ρ L CL) (hv : ab_v ρ a v) : ab_l ρ (ab_st1 L i a) (cm_st1 CL i v) := by
  intro q hq
  rcases List.mem_cons.mp hq with rfl | hq
  · exact ⟨v, by unfold cm_st1 cm_look; rw [if_pos rfl], hv⟩
  · obtain ⟨q1, q2⟩ := List.mem_filter.mp hq
    obtain ⟨x, a1, a2⟩ := h q q1
    refine ⟨x, ?_, a2⟩
    rw [← ab_cat6 a2] at q2
    unfold cm_st1 cm_look
    have hne : ¬ i = q.1 := by
      intro e
      rw [e] at q2
      simp at q2
    rw [if_neg hne]
    exact ab_look_fl a1 q2
theorem ab_st2_ok {ρ : List Int32} {L : List (Nat × ab_A)} {CL : List (Nat × Value)} {i : Nat} {a : ab_A} {v : Value} (h : ab_l ρ L CL) (hv : ab_v ρ a v) : ab_l ρ (ab_st2 L i a) (cm_st2 CL i v) := by
  intro q hq
  rcases List.mem_cons.mp hq with rfl | hq
  · exact ⟨v, by unfold cm_st2 cm_look; rw [if_pos rfl], hv⟩
  · obtain ⟨q1, q2⟩ := List.mem_filter.mp hq
    obtain ⟨x, a1, a2⟩ := h q q1
    refine ⟨x, ?_, a2⟩
    rw [← ab_cat6 a2] at q2
    unfold cm_st2 cm_look
    have hne : ¬ i = q.1 := by
      intro e
      rw [e] at q2
      simp at q2
    rw [if_neg hne]
    exact ab_look_fl a1 q2
def ab_iconst : ab_O := fun h md P t S => some [ab_adv S 1 (ab_c (Int32.ofInt t.1).toInt :: S.2.2.1)]
theorem ab_iconst_ok : ab_Snd cm_iconst ab_iconst := by
  intro h N M0 md E P t S Ss C ρ k hN h1 hG hk
  obtain ⟨pc, L, st, K, Ca⟩ := S
  obtain ⟨cpc, CL, sc, M⟩ := C
  obtain ⟨e0, gl, gs, gk, gm⟩ := hG
  dsimp only at e0 gl gs gk gm
  subst e0
  cases h1
  exact ab_fin hk _ (List.mem_singleton.mpr rfl) (cpc + 1, CL, .int (Int32.ofInt t.1) :: sc, M) ⟨rfl, gl, ⟨ab_iv (ab_c_at ρ _), gs⟩, gk, gm⟩

def ab_bipush : ab_O := fun h md P t S => some [ab_adv S 2 (ab_c ((Int8.ofInt t.1).toInt32).toInt :: S.2.2.1)]
theorem ab_bipush_ok : ab_Snd cm_bipush ab_bipush := by
  intro h N M0 md E P t S Ss C ρ k hN h1 hG hk
  obtain ⟨pc, L, st, K, Ca⟩ := S
  obtain ⟨cpc, CL, sc, M⟩ := C
  obtain ⟨e0, gl, gs, gk, gm⟩ := hG
  dsimp only at e0 gl gs gk gm
  subst e0
  cases h1
  exact ab_fin hk _ (List.mem_singleton.mpr rfl) (cpc + 2, CL, .int ((Int8.ofInt t.1).toInt32) :: sc, M) ⟨rfl, gl, ⟨ab_iv (ab_c_at ρ _), gs⟩, gk, gm⟩

def ab_sipush : ab_O := fun h md P t S => some [ab_adv S 3 (ab_c ((Int16.ofInt t.1).toInt32).toInt :: S.2.2.1)]
theorem ab_sipush_ok : ab_Snd cm_sipush ab_sipush := by
  intro h N M0 md E P t S Ss C ρ k hN h1 hG hk
  obtain ⟨pc, L, st, K, Ca⟩ := S
  obtain ⟨cpc, CL, sc, M⟩ := C
  obtain ⟨e0, gl, gs, gk, gm⟩ := hG
  dsimp only at e0 gl gs gk gm
  subst e0
  cases h1
  exact ab_fin hk _ (List.mem_singleton.mpr rfl) (cpc + 3, CL, .int ((Int16.ofInt t.1).toInt32) :: sc, M) ⟨rfl, gl, ⟨ab_iv (ab_c_at ρ _), gs⟩, gk, gm⟩

def ab_ldc : ab_O := fun h md P t S => some [ab_adv S 2 (ab_c (Int32.ofInt t.1).toInt :: S.2.2.1)]
theorem ab_ldc_ok : ab_Snd cm_ldc ab_ldc := by
  intro h N M0 md E P t S Ss C ρ k hN h1 hG hk
  obtain ⟨pc, L, st, K, Ca⟩ := S
  obtain ⟨cpc, CL, sc, M⟩ := C
  obtain ⟨e0, gl, gs, gk, gm⟩ := hG
  dsimp only at e0 gl gs gk gm
  subst e0
  cases h1
  exact ab_fin hk _ (List.mem_singleton.mpr rfl) (cpc + 2, CL, .int (Int32.ofInt t.1) :: sc, M) ⟨rfl, gl, ⟨ab_iv (ab_c_at ρ _), gs⟩, gk, gm⟩

def ab_ldcw : ab_O := fun h md P t S => some [ab_adv S 3 (ab_c (Int32.ofInt t.1).toInt :: S.2.2.1)]
theorem ab_ldcw_ok : ab_Snd cm_ldcw ab_ldcw := by
  intro h N M0 md E P t S Ss C ρ k hN h1 hG hk
  obtain ⟨pc, L, st, K, Ca⟩ := S
  obtain ⟨cpc, CL, sc, M⟩ := C
  obtain ⟨e0, gl, gs, gk, gm⟩ := hG
  dsimp only at e0 gl gs gk gm
  subst e0
  cases h1
  exact ab_fin hk _ (List.mem_singleton.mpr rfl) (cpc + 3, CL, .int (Int32.ofInt t.1) :: sc, M) ⟨rfl, gl, ⟨ab_iv (ab_c_at ρ _), gs⟩, gk, gm⟩

def ab_lconst : ab_O := fun h md P t S => some [ab_adv S 1 ((6, 0, []) :: S.2.2.1)]
theorem ab_lconst_ok : ab_Snd cm_lconst ab_lconst := by
  intro h N M0 md E P t S Ss C ρ k hN h1 hG hk
  obtain ⟨pc, L, st, K, Ca⟩ := S
  obtain ⟨cpc, CL, sc, M⟩ := C
  obtain ⟨e0, gl, gs, gk, gm⟩ := hG
  dsimp only at e0 gl gs gk gm
  subst e0
  cases h1
  exact ab_fin hk _ (List.mem_singleton.mpr rfl) (cpc + 1, CL, .long (Int64.ofNat t.1.toNat) :: sc, M) ⟨rfl, gl, ⟨⟨_, rfl⟩, gs⟩, gk, gm⟩

def ab_ldc2 : ab_O := fun h md P t S => some [ab_adv S 3 ((6, 0, []) :: S.2.2.1)]
theorem ab_ldc2_ok : ab_Snd cm_ldc2 ab_ldc2 := by
  intro h N M0 md E P t S Ss C ρ k hN h1 hG hk
  obtain ⟨pc, L, st, K, Ca⟩ := S
  obtain ⟨cpc, CL, sc, M⟩ := C
  obtain ⟨e0, gl, gs, gk, gm⟩ := hG
  dsimp only at e0 gl gs gk gm
  subst e0
  cases h1
  exact ab_fin hk _ (List.mem_singleton.mpr rfl) (cpc + 3, CL, .long (Int64.ofInt t.1) :: sc, M) ⟨rfl, gl, ⟨⟨_, rfl⟩, gs⟩, gk, gm⟩

def ab_ldcS : ab_O := fun h md P t S => some [ab_adv S 2 ((1, 0, [1001 + 2 * t.1.toNat]) :: S.2.2.1)]
theorem ab_ldcS_ok : ab_Snd cm_ldcS ab_ldcS := by
  intro h N M0 md E P t S Ss C ρ k hN h1 hG hk
  obtain ⟨pc, L, st, K, Ca⟩ := S
  obtain ⟨cpc, CL, sc, M⟩ := C
  obtain ⟨e0, gl, gs, gk, gm⟩ := hG
  dsimp only at e0 gl gs gk gm
  subst e0
  cases h1
  exact ab_fin hk _ (List.mem_singleton.mpr rfl) (cpc + 2, CL, .ref (1001 + 2 * t.1.toNat) :: sc, M) ⟨rfl, gl, ⟨⟨_, List.mem_singleton.mpr rfl, rfl⟩, gs⟩, gk, gm⟩

def ab_getT : ab_O := fun h md P t S => some [ab_adv S 3 ((1, 0, [1100]) :: S.2.2.1)]
theorem ab_getT_ok : ab_Snd cm_getT ab_getT := by
  intro h N M0 md E P t S Ss C ρ k hN h1 hG hk
  obtain ⟨pc, L, st, K, Ca⟩ := S
  obtain ⟨cpc, CL, sc, M⟩ := C
  obtain ⟨e0, gl, gs, gk, gm⟩ := hG
  dsimp only at e0 gl gs gk gm
  subst e0
  cases h1
  exact ab_fin hk _ (List.mem_singleton.mpr rfl) (cpc + 3, CL, .ref 1100 :: sc, M) ⟨rfl, gl, ⟨⟨_, List.mem_singleton.mpr rfl, rfl⟩, gs⟩, gk, gm⟩

def ab_gets : ab_O := fun h md P t S => some [ab_adv S 3 (ab_c 1 :: S.2.2.1)]
theorem ab_gets_ok : ab_Snd cm_gets ab_gets := by
  intro h N M0 md E P t S Ss C ρ k hN h1 hG hk
  obtain ⟨pc, L, st, K, Ca⟩ := S
  obtain ⟨cpc, CL, sc, M⟩ := C
  obtain ⟨e0, gl, gs, gk, gm⟩ := hG
  dsimp only at e0 gl gs gk gm
  subst e0
  cases h1
  exact ab_fin hk _ (List.mem_singleton.mpr rfl) (cpc + 3, CL, .int 1 :: sc, M) ⟨rfl, gl, ⟨rfl, gs⟩, gk, gm⟩

def ab_getsF : ab_O := fun h md P t S => some [ab_adv S 3 ((7, 0, [1101]) :: S.2.2.1)]
theorem ab_getsF_ok : ab_Snd cm_getsF ab_getsF := by
  intro h N M0 md E P t S Ss C ρ k hN h1 hG hk
  obtain ⟨pc, L, st, K, Ca⟩ := S
  obtain ⟨cpc, CL, sc, M⟩ := C
  obtain ⟨e0, gl, gs, gk, gm⟩ := hG
  dsimp only at e0 gl gs gk gm
  subst e0
  cases h1
  exact ⟨ab_fin hk _ (List.mem_singleton.mpr rfl) (cpc + 3, CL, .null :: sc, M) ⟨rfl, gl, ⟨Or.inl rfl, gs⟩, gk, gm⟩, ab_fin hk _ (List.mem_singleton.mpr rfl) (cpc + 3, CL, .ref 1101 :: sc, M) ⟨rfl, gl, ⟨Or.inr ⟨_, List.mem_singleton.mpr rfl, rfl⟩, gs⟩, gk, gm⟩⟩

theorem ab_v6 {ρ : List Int32} {a : ab_A} {v : Value} (h : a.1 = 6) (hv : ab_v ρ a v) : ∃ x, v = .long x := by
  unfold ab_v at hv
  rw [h] at hv
  exact hv
theorem ab_v1 {ρ : List Int32} {a : ab_A} {v : Value} (h : a.1 = 1) (hv : ab_v ρ a v) : ∃ c, c ∈ a.2.2 ∧ v = .ref c := by
  unfold ab_v at hv
  rw [h] at hv
  exact hv
def ab_iload : ab_O := fun h md P t S => match ev_at S.2.1 t.1.toNat with
  | some a => if ab_isI a = true then some [ab_adv S 2 (a :: S.2.2.1)] else none
  | none => none
theorem ab_iload_ok : ab_Snd cm_iload ab_iload := by
  intro h N M0 md E P t S Ss C ρ k hN h1 hG hk
  obtain ⟨pc, L, st, K, Ca⟩ := S
  obtain ⟨cpc, CL, sc, M⟩ := C
  obtain ⟨e0, gl, gs, gk, gm⟩ := hG
  dsimp only at e0 gl gs gk gm
  subst e0
  unfold ab_iload at h1
  dsimp only at h1
  split at h1
  · rename_i a ha
    split at h1
    · rename_i hc
      cases h1
      obtain ⟨v, hl, hv⟩ := gl _ (ev_at_mem ha)
      have hv0 := hv
      obtain ⟨x, hx, rfl⟩ := ab_vi hc hv
      unfold cm_iload cm_ld
      dsimp only at hl ⊢
      rw [hl]
      exact ab_fin hk _ (List.mem_singleton.mpr rfl) (cpc + 2, CL, _ :: sc, M) ⟨rfl, gl, ⟨hv0, gs⟩, gk, gm⟩
    · cases h1
  · cases h1

def ab_istore : ab_O := fun h md P t S => match S.2.2.1 with
  | a :: st => if ab_isI a = true ∧ t.1.toNat < P.2.2.2.2.1 then some [(S.1 + 2, ab_st1 S.2.1 t.1.toNat a, st, S.2.2.2)] else none
  | [] => none
theorem ab_istore_ok : ab_Snd cm_istore ab_istore := by
  intro h N M0 md E P t S Ss C ρ k hN h1 hG hk
  obtain ⟨pc, L, st, K, Ca⟩ := S
  obtain ⟨cpc, CL, sc, M⟩ := C
  obtain ⟨e0, gl, gs, gk, gm⟩ := hG
  dsimp only at e0 gl gs gk gm
  subst e0
  unfold ab_istore at h1
  dsimp only at h1
  split at h1
  · rename_i a st'
    split at h1
    · rename_i hc0
      obtain ⟨hc, hn⟩ := hc0
      cases h1
      obtain ⟨v, sc', rfl, hv, gs'⟩ := ab_s_cons gs
      have hv0 := hv
      obtain ⟨x, hx, rfl⟩ := ab_vi hc hv
      exact ⟨hn, ab_fin hk _ (List.mem_singleton.mpr rfl) (cpc + 2, cm_st1 CL t.1.toNat _, sc', M) ⟨rfl, ab_st1_ok gl hv0, gs', gk, gm⟩⟩
    · cases h1
  · cases h1

def ab_iloadn : ab_O := fun h md P t S => match ev_at S.2.1 t.1.toNat with
  | some a => if ab_isI a = true then some [ab_adv S 1 (a :: S.2.2.1)] else none
  | none => none
theorem ab_iloadn_ok : ab_Snd cm_iloadn ab_iloadn := by
  intro h N M0 md E P t S Ss C ρ k hN h1 hG hk
  obtain ⟨pc, L, st, K, Ca⟩ := S
  obtain ⟨cpc, CL, sc, M⟩ := C
  obtain ⟨e0, gl, gs, gk, gm⟩ := hG
  dsimp only at e0 gl gs gk gm
  subst e0
  unfold ab_iloadn at h1
  dsimp only at h1
  split at h1
  · rename_i a ha
    split at h1
    · rename_i hc
      cases h1
      obtain ⟨v, hl, hv⟩ := gl _ (ev_at_mem ha)
      have hv0 := hv
      obtain ⟨x, hx, rfl⟩ := ab_vi hc hv
      unfold cm_iloadn cm_ld
      dsimp only at hl ⊢
      rw [hl]
      exact ab_fin hk _ (List.mem_singleton.mpr rfl) (cpc + 1, CL, _ :: sc, M) ⟨rfl, gl, ⟨hv0, gs⟩, gk, gm⟩
    · cases h1
  · cases h1

def ab_istoren : ab_O := fun h md P t S => match S.2.2.1 with
  | a :: st => if ab_isI a = true ∧ t.1.toNat < P.2.2.2.2.1 then some [(S.1 + 1, ab_st1 S.2.1 t.1.toNat a, st, S.2.2.2)] else none
  | [] => none
theorem ab_istoren_ok : ab_Snd cm_istoren ab_istoren := by
  intro h N M0 md E P t S Ss C ρ k hN h1 hG hk
  obtain ⟨pc, L, st, K, Ca⟩ := S
  obtain ⟨cpc, CL, sc, M⟩ := C
  obtain ⟨e0, gl, gs, gk, gm⟩ := hG
  dsimp only at e0 gl gs gk gm
  subst e0
  unfold ab_istoren at h1
  dsimp only at h1
  split at h1
  · rename_i a st'
    split at h1
    · rename_i hc0
      obtain ⟨hc, hn⟩ := hc0
      cases h1
      obtain ⟨v, sc', rfl, hv, gs'⟩ := ab_s_cons gs
      have hv0 := hv
      obtain ⟨x, hx, rfl⟩ := ab_vi hc hv
      exact ⟨hn, ab_fin hk _ (List.mem_singleton.mpr rfl) (cpc + 1, cm_st1 CL t.1.toNat _, sc', M) ⟨rfl, ab_st1_ok gl hv0, gs', gk, gm⟩⟩
    · cases h1
  · cases h1

def ab_lload : ab_O := fun h md P t S => match ev_at S.2.1 t.1.toNat with
  | some a => if a.1 = 6 then some [ab_adv S 2 (a :: S.2.2.1)] else none
  | none => none
theorem ab_lload_ok : ab_Snd cm_lload ab_lload := by
  intro h N M0 md E P t S Ss C ρ k hN h1 hG hk
  obtain ⟨pc, L, st, K, Ca⟩ := S
  obtain ⟨cpc, CL, sc, M⟩ := C
  obtain ⟨e0, gl, gs, gk, gm⟩ := hG
  dsimp only at e0 gl gs gk gm
  subst e0
  unfold ab_lload at h1
  dsimp only at h1
  split at h1
  · rename_i a ha
    split at h1
    · rename_i hc
      cases h1
      obtain ⟨v, hl, hv⟩ := gl _ (ev_at_mem ha)
      have hv0 := hv
      obtain ⟨x, rfl⟩ := ab_v6 hc hv
      unfold cm_lload cm_ld
      dsimp only at hl ⊢
      rw [hl]
      exact ab_fin hk _ (List.mem_singleton.mpr rfl) (cpc + 2, CL, _ :: sc, M) ⟨rfl, gl, ⟨hv0, gs⟩, gk, gm⟩
    · cases h1
  · cases h1

def ab_lstore : ab_O := fun h md P t S => match S.2.2.1 with
  | a :: st => if a.1 = 6 ∧ t.1.toNat + 1 < P.2.2.2.2.1 then some [(S.1 + 2, ab_st2 S.2.1 t.1.toNat a, st, S.2.2.2)] else none
  | [] => none
theorem ab_lstore_ok : ab_Snd cm_lstore ab_lstore := by
  intro h N M0 md E P t S Ss C ρ k hN h1 hG hk
  obtain ⟨pc, L, st, K, Ca⟩ := S
  obtain ⟨cpc, CL, sc, M⟩ := C
  obtain ⟨e0, gl, gs, gk, gm⟩ := hG
  dsimp only at e0 gl gs gk gm
  subst e0
  unfold ab_lstore at h1
  dsimp only at h1
  split at h1
  · rename_i a st'
    split at h1
    · rename_i hc0
      obtain ⟨hc, hn⟩ := hc0
      cases h1
      obtain ⟨v, sc', rfl, hv, gs'⟩ := ab_s_cons gs
      have hv0 := hv
      obtain ⟨x, rfl⟩ := ab_v6 hc hv
      exact ⟨hn, ab_fin hk _ (List.mem_singleton.mpr rfl) (cpc + 2, cm_st2 CL t.1.toNat _, sc', M) ⟨rfl, ab_st2_ok gl hv0, gs', gk, gm⟩⟩
    · cases h1
  · cases h1

def ab_lloadn : ab_O := fun h md P t S => match ev_at S.2.1 t.1.toNat with
  | some a => if a.1 = 6 then some [ab_adv S 1 (a :: S.2.2.1)] else none
  | none => none
theorem ab_lloadn_ok : ab_Snd cm_lloadn ab_lloadn := by
  intro h N M0 md E P t S Ss C ρ k hN h1 hG hk
  obtain ⟨pc, L, st, K, Ca⟩ := S
  obtain ⟨cpc, CL, sc, M⟩ := C
  obtain ⟨e0, gl, gs, gk, gm⟩ := hG
  dsimp only at e0 gl gs gk gm
  subst e0
  unfold ab_lloadn at h1
  dsimp only at h1
  split at h1
  · rename_i a ha
    split at h1
    · rename_i hc
      cases h1
      obtain ⟨v, hl, hv⟩ := gl _ (ev_at_mem ha)
      have hv0 := hv
      obtain ⟨x, rfl⟩ := ab_v6 hc hv
      unfold cm_lloadn cm_ld
      dsimp only at hl ⊢
      rw [hl]
      exact ab_fin hk _ (List.mem_singleton.mpr rfl) (cpc + 1, CL, _ :: sc, M) ⟨rfl, gl, ⟨hv0, gs⟩, gk, gm⟩
    · cases h1
  · cases h1

def ab_lstoren : ab_O := fun h md P t S => match S.2.2.1 with
  | a :: st => if a.1 = 6 ∧ t.1.toNat + 1 < P.2.2.2.2.1 then some [(S.1 + 1, ab_st2 S.2.1 t.1.toNat a, st, S.2.2.2)] else none
  | [] => none
theorem ab_lstoren_ok : ab_Snd cm_lstoren ab_lstoren := by
  intro h N M0 md E P t S Ss C ρ k hN h1 hG hk
  obtain ⟨pc, L, st, K, Ca⟩ := S
  obtain ⟨cpc, CL, sc, M⟩ := C
  obtain ⟨e0, gl, gs, gk, gm⟩ := hG
  dsimp only at e0 gl gs gk gm
  subst e0
  unfold ab_lstoren at h1
  dsimp only at h1
  split at h1
  · rename_i a st'
    split at h1
    · rename_i hc0
      obtain ⟨hc, hn⟩ := hc0
      cases h1
      obtain ⟨v, sc', rfl, hv, gs'⟩ := ab_s_cons gs
      have hv0 := hv
      obtain ⟨x, rfl⟩ := ab_v6 hc hv
      exact ⟨hn, ab_fin hk _ (List.mem_singleton.mpr rfl) (cpc + 1, cm_st2 CL t.1.toNat _, sc', M) ⟨rfl, ab_st2_ok gl hv0, gs', gk, gm⟩⟩
    · cases h1
  · cases h1

def ab_aload : ab_O := fun h md P t S => match ev_at S.2.1 t.1.toNat with
  | some a => if a.1 = 1 then some [ab_adv S 2 (a :: S.2.2.1)] else none
  | none => none
theorem ab_aload_ok : ab_Snd cm_aload ab_aload := by
  intro h N M0 md E P t S Ss C ρ k hN h1 hG hk
  obtain ⟨pc, L, st, K, Ca⟩ := S
  obtain ⟨cpc, CL, sc, M⟩ := C
  obtain ⟨e0, gl, gs, gk, gm⟩ := hG
  dsimp only at e0 gl gs gk gm
  subst e0
  unfold ab_aload at h1
  dsimp only at h1
  split at h1
  · rename_i a ha
    split at h1
    · rename_i hc
      cases h1
      obtain ⟨v, hl, hv⟩ := gl _ (ev_at_mem ha)
      have hv0 := hv
      obtain ⟨x, hx, rfl⟩ := ab_v1 hc hv
      unfold cm_aload cm_ld
      dsimp only at hl ⊢
      rw [hl]
      exact ab_fin hk _ (List.mem_singleton.mpr rfl) (cpc + 2, CL, _ :: sc, M) ⟨rfl, gl, ⟨hv0, gs⟩, gk, gm⟩
    · cases h1
  · cases h1

def ab_astore : ab_O := fun h md P t S => match S.2.2.1 with
  | a :: st => if a.1 = 1 ∧ t.1.toNat < P.2.2.2.2.1 then some [(S.1 + 2, ab_st1 S.2.1 t.1.toNat a, st, S.2.2.2)] else none
  | [] => none
theorem ab_astore_ok : ab_Snd cm_astore ab_astore := by
  intro h N M0 md E P t S Ss C ρ k hN h1 hG hk
  obtain ⟨pc, L, st, K, Ca⟩ := S
  obtain ⟨cpc, CL, sc, M⟩ := C
  obtain ⟨e0, gl, gs, gk, gm⟩ := hG
  dsimp only at e0 gl gs gk gm
  subst e0
  unfold ab_astore at h1
  dsimp only at h1
  split at h1
  · rename_i a st'
    split at h1
    · rename_i hc0
      obtain ⟨hc, hn⟩ := hc0
      cases h1
      obtain ⟨v, sc', rfl, hv, gs'⟩ := ab_s_cons gs
      have hv0 := hv
      obtain ⟨x, hx, rfl⟩ := ab_v1 hc hv
      exact ⟨hn, ab_fin hk _ (List.mem_singleton.mpr rfl) (cpc + 2, cm_st1 CL t.1.toNat _, sc', M) ⟨rfl, ab_st1_ok gl hv0, gs', gk, gm⟩⟩
    · cases h1
  · cases h1

def ab_aloadn : ab_O := fun h md P t S => match ev_at S.2.1 t.1.toNat with
  | some a => if a.1 = 1 then some [ab_adv S 1 (a :: S.2.2.1)] else none
  | none => none
theorem ab_aloadn_ok : ab_Snd cm_aloadn ab_aloadn := by
  intro h N M0 md E P t S Ss C ρ k hN h1 hG hk
  obtain ⟨pc, L, st, K, Ca⟩ := S
  obtain ⟨cpc, CL, sc, M⟩ := C
  obtain ⟨e0, gl, gs, gk, gm⟩ := hG
  dsimp only at e0 gl gs gk gm
  subst e0
  unfold ab_aloadn at h1
  dsimp only at h1
  split at h1
  · rename_i a ha
    split at h1
    · rename_i hc
      cases h1
      obtain ⟨v, hl, hv⟩ := gl _ (ev_at_mem ha)
      have hv0 := hv
      obtain ⟨x, hx, rfl⟩ := ab_v1 hc hv
      unfold cm_aloadn cm_ld
      dsimp only at hl ⊢
      rw [hl]
      exact ab_fin hk _ (List.mem_singleton.mpr rfl) (cpc + 1, CL, _ :: sc, M) ⟨rfl, gl, ⟨hv0, gs⟩, gk, gm⟩
    · cases h1
  · cases h1

def ab_astoren : ab_O := fun h md P t S => match S.2.2.1 with
  | a :: st => if a.1 = 1 ∧ t.1.toNat < P.2.2.2.2.1 then some [(S.1 + 1, ab_st1 S.2.1 t.1.toNat a, st, S.2.2.2)] else none
  | [] => none
theorem ab_astoren_ok : ab_Snd cm_astoren ab_astoren := by
  intro h N M0 md E P t S Ss C ρ k hN h1 hG hk
  obtain ⟨pc, L, st, K, Ca⟩ := S
  obtain ⟨cpc, CL, sc, M⟩ := C
  obtain ⟨e0, gl, gs, gk, gm⟩ := hG
  dsimp only at e0 gl gs gk gm
  subst e0
  unfold ab_astoren at h1
  dsimp only at h1
  split at h1
  · rename_i a st'
    split at h1
    · rename_i hc0
      obtain ⟨hc, hn⟩ := hc0
      cases h1
      obtain ⟨v, sc', rfl, hv, gs'⟩ := ab_s_cons gs
      have hv0 := hv
      obtain ⟨x, hx, rfl⟩ := ab_v1 hc hv
      exact ⟨hn, ab_fin hk _ (List.mem_singleton.mpr rfl) (cpc + 1, cm_st1 CL t.1.toNat _, sc', M) ⟨rfl, ab_st1_ok gl hv0, gs', gk, gm⟩⟩
    · cases h1
  · cases h1

def ab_iadd : ab_O := fun h md P t S => match S.2.2.1 with
  | b :: a :: st => if ab_isI a = true ∧ ab_isI b = true then some [ab_advK S 1 ((ab_new S.2.2.2.1 1 a b).1 :: st) (ab_new S.2.2.2.1 1 a b).2] else none
  | _ => none
theorem ab_iadd_ok : ab_Snd cm_iadd ab_iadd := by
  intro h N M0 md E P t S Ss C ρ k hN h1 hG hk
  obtain ⟨pc, L, st, K, Ca⟩ := S
  obtain ⟨cpc, CL, sc, M⟩ := C
  obtain ⟨e0, gl, gs, gk, gm⟩ := hG
  dsimp only at e0 gl gs gk gm
  subst e0
  unfold ab_iadd at h1
  dsimp only at h1
  split at h1
  · rename_i b a st'
    split at h1
    · rename_i hc
      cases h1
      obtain ⟨vb, sc1, rfl, hvb, gs1⟩ := ab_s_cons gs
      obtain ⟨va, sc2, rfl, hva, gs2⟩ := ab_s_cons gs1
      obtain ⟨y, hy, rfl⟩ := ab_vi hc.2 hvb
      obtain ⟨x, hx, rfl⟩ := ab_vi hc.1 hva
      obtain ⟨ext, k1, k2⟩ := ab_new_ok (op := 1) gk hx hy rfl
      have hfin := hk _ (List.mem_singleton.mpr rfl) ext (cpc + 1, CL, .int (ev_f 1 x y) :: sc2, M) ⟨rfl, ab_l_ap gl, ⟨ab_iv k2, ab_s_ap gs2⟩, k1, ab_m_ap gm⟩
      exact hfin
    · cases h1
  · cases h1

def ab_isub : ab_O := fun h md P t S => match S.2.2.1 with
  | b :: a :: st => if ab_isI a = true ∧ ab_isI b = true then some [ab_advK S 1 ((ab_new S.2.2.2.1 2 a b).1 :: st) (ab_new S.2.2.2.1 2 a b).2] else none
  | _ => none
theorem ab_isub_ok : ab_Snd cm_isub ab_isub := by
  intro h N M0 md E P t S Ss C ρ k hN h1 hG hk
  obtain ⟨pc, L, st, K, Ca⟩ := S
  obtain ⟨cpc, CL, sc, M⟩ := C
  obtain ⟨e0, gl, gs, gk, gm⟩ := hG
  dsimp only at e0 gl gs gk gm
  subst e0
  unfold ab_isub at h1
  dsimp only at h1
  split at h1
  · rename_i b a st'
    split at h1
    · rename_i hc
      cases h1
      obtain ⟨vb, sc1, rfl, hvb, gs1⟩ := ab_s_cons gs
      obtain ⟨va, sc2, rfl, hva, gs2⟩ := ab_s_cons gs1
      obtain ⟨y, hy, rfl⟩ := ab_vi hc.2 hvb
      obtain ⟨x, hx, rfl⟩ := ab_vi hc.1 hva
      obtain ⟨ext, k1, k2⟩ := ab_new_ok (op := 2) gk hx hy rfl
      have hfin := hk _ (List.mem_singleton.mpr rfl) ext (cpc + 1, CL, .int (ev_f 2 x y) :: sc2, M) ⟨rfl, ab_l_ap gl, ⟨ab_iv k2, ab_s_ap gs2⟩, k1, ab_m_ap gm⟩
      exact hfin
    · cases h1
  · cases h1

def ab_imul : ab_O := fun h md P t S => match S.2.2.1 with
  | b :: a :: st => if ab_isI a = true ∧ ab_isI b = true then some [ab_advK S 1 ((ab_new S.2.2.2.1 3 a b).1 :: st) (ab_new S.2.2.2.1 3 a b).2] else none
  | _ => none
theorem ab_imul_ok : ab_Snd cm_imul ab_imul := by
  intro h N M0 md E P t S Ss C ρ k hN h1 hG hk
  obtain ⟨pc, L, st, K, Ca⟩ := S
  obtain ⟨cpc, CL, sc, M⟩ := C
  obtain ⟨e0, gl, gs, gk, gm⟩ := hG
  dsimp only at e0 gl gs gk gm
  subst e0
  unfold ab_imul at h1
  dsimp only at h1
  split at h1
  · rename_i b a st'
    split at h1
    · rename_i hc
      cases h1
      obtain ⟨vb, sc1, rfl, hvb, gs1⟩ := ab_s_cons gs
      obtain ⟨va, sc2, rfl, hva, gs2⟩ := ab_s_cons gs1
      obtain ⟨y, hy, rfl⟩ := ab_vi hc.2 hvb
      obtain ⟨x, hx, rfl⟩ := ab_vi hc.1 hva
      obtain ⟨ext, k1, k2⟩ := ab_new_ok (op := 3) gk hx hy rfl
      have hfin := hk _ (List.mem_singleton.mpr rfl) ext (cpc + 1, CL, .int (ev_f 3 x y) :: sc2, M) ⟨rfl, ab_l_ap gl, ⟨ab_iv k2, ab_s_ap gs2⟩, k1, ab_m_ap gm⟩
      exact hfin
    · cases h1
  · cases h1

def ab_iand : ab_O := fun h md P t S => match S.2.2.1 with
  | b :: a :: st => if ab_isI a = true ∧ ab_isI b = true then some [ab_advK S 1 ((ab_new S.2.2.2.1 4 a b).1 :: st) (ab_new S.2.2.2.1 4 a b).2] else none
  | _ => none
theorem ab_iand_ok : ab_Snd cm_iand ab_iand := by
  intro h N M0 md E P t S Ss C ρ k hN h1 hG hk
  obtain ⟨pc, L, st, K, Ca⟩ := S
  obtain ⟨cpc, CL, sc, M⟩ := C
  obtain ⟨e0, gl, gs, gk, gm⟩ := hG
  dsimp only at e0 gl gs gk gm
  subst e0
  unfold ab_iand at h1
  dsimp only at h1
  split at h1
  · rename_i b a st'
    split at h1
    · rename_i hc
      cases h1
      obtain ⟨vb, sc1, rfl, hvb, gs1⟩ := ab_s_cons gs
      obtain ⟨va, sc2, rfl, hva, gs2⟩ := ab_s_cons gs1
      obtain ⟨y, hy, rfl⟩ := ab_vi hc.2 hvb
      obtain ⟨x, hx, rfl⟩ := ab_vi hc.1 hva
      obtain ⟨ext, k1, k2⟩ := ab_new_ok (op := 4) gk hx hy rfl
      have hfin := hk _ (List.mem_singleton.mpr rfl) ext (cpc + 1, CL, .int (ev_f 4 x y) :: sc2, M) ⟨rfl, ab_l_ap gl, ⟨ab_iv k2, ab_s_ap gs2⟩, k1, ab_m_ap gm⟩
      exact hfin
    · cases h1
  · cases h1

def ab_ior : ab_O := fun h md P t S => match S.2.2.1 with
  | b :: a :: st => if ab_isI a = true ∧ ab_isI b = true then some [ab_advK S 1 ((ab_new S.2.2.2.1 5 a b).1 :: st) (ab_new S.2.2.2.1 5 a b).2] else none
  | _ => none
theorem ab_ior_ok : ab_Snd cm_ior ab_ior := by
  intro h N M0 md E P t S Ss C ρ k hN h1 hG hk
  obtain ⟨pc, L, st, K, Ca⟩ := S
  obtain ⟨cpc, CL, sc, M⟩ := C
  obtain ⟨e0, gl, gs, gk, gm⟩ := hG
  dsimp only at e0 gl gs gk gm
  subst e0
  unfold ab_ior at h1
  dsimp only at h1
  split at h1
  · rename_i b a st'
    split at h1
    · rename_i hc
      cases h1
      obtain ⟨vb, sc1, rfl, hvb, gs1⟩ := ab_s_cons gs
      obtain ⟨va, sc2, rfl, hva, gs2⟩ := ab_s_cons gs1
      obtain ⟨y, hy, rfl⟩ := ab_vi hc.2 hvb
      obtain ⟨x, hx, rfl⟩ := ab_vi hc.1 hva
      obtain ⟨ext, k1, k2⟩ := ab_new_ok (op := 5) gk hx hy rfl
      have hfin := hk _ (List.mem_singleton.mpr rfl) ext (cpc + 1, CL, .int (ev_f 5 x y) :: sc2, M) ⟨rfl, ab_l_ap gl, ⟨ab_iv k2, ab_s_ap gs2⟩, k1, ab_m_ap gm⟩
      exact hfin
    · cases h1
  · cases h1

def ab_ixor : ab_O := fun h md P t S => match S.2.2.1 with
  | b :: a :: st => if ab_isI a = true ∧ ab_isI b = true then some [ab_advK S 1 ((ab_new S.2.2.2.1 6 a b).1 :: st) (ab_new S.2.2.2.1 6 a b).2] else none
  | _ => none
theorem ab_ixor_ok : ab_Snd cm_ixor ab_ixor := by
  intro h N M0 md E P t S Ss C ρ k hN h1 hG hk
  obtain ⟨pc, L, st, K, Ca⟩ := S
  obtain ⟨cpc, CL, sc, M⟩ := C
  obtain ⟨e0, gl, gs, gk, gm⟩ := hG
  dsimp only at e0 gl gs gk gm
  subst e0
  unfold ab_ixor at h1
  dsimp only at h1
  split at h1
  · rename_i b a st'
    split at h1
    · rename_i hc
      cases h1
      obtain ⟨vb, sc1, rfl, hvb, gs1⟩ := ab_s_cons gs
      obtain ⟨va, sc2, rfl, hva, gs2⟩ := ab_s_cons gs1
      obtain ⟨y, hy, rfl⟩ := ab_vi hc.2 hvb
      obtain ⟨x, hx, rfl⟩ := ab_vi hc.1 hva
      obtain ⟨ext, k1, k2⟩ := ab_new_ok (op := 6) gk hx hy rfl
      have hfin := hk _ (List.mem_singleton.mpr rfl) ext (cpc + 1, CL, .int (ev_f 6 x y) :: sc2, M) ⟨rfl, ab_l_ap gl, ⟨ab_iv k2, ab_s_ap gs2⟩, k1, ab_m_ap gm⟩
      exact hfin
    · cases h1
  · cases h1

def ab_ishl : ab_O := fun h md P t S => match S.2.2.1 with
  | b :: a :: st => if ab_isI a = true ∧ ab_isI b = true then some [ab_advK S 1 ((ab_new S.2.2.2.1 7 a b).1 :: st) (ab_new S.2.2.2.1 7 a b).2] else none
  | _ => none
theorem ab_ishl_ok : ab_Snd cm_ishl ab_ishl := by
  intro h N M0 md E P t S Ss C ρ k hN h1 hG hk
  obtain ⟨pc, L, st, K, Ca⟩ := S
  obtain ⟨cpc, CL, sc, M⟩ := C
  obtain ⟨e0, gl, gs, gk, gm⟩ := hG
  dsimp only at e0 gl gs gk gm
  subst e0
  unfold ab_ishl at h1
  dsimp only at h1
  split at h1
  · rename_i b a st'
    split at h1
    · rename_i hc
      cases h1
      obtain ⟨vb, sc1, rfl, hvb, gs1⟩ := ab_s_cons gs
      obtain ⟨va, sc2, rfl, hva, gs2⟩ := ab_s_cons gs1
      obtain ⟨y, hy, rfl⟩ := ab_vi hc.2 hvb
      obtain ⟨x, hx, rfl⟩ := ab_vi hc.1 hva
      obtain ⟨ext, k1, k2⟩ := ab_new_ok (op := 7) gk hx hy rfl
      have hfin := hk _ (List.mem_singleton.mpr rfl) ext (cpc + 1, CL, .int (ev_f 7 x y) :: sc2, M) ⟨rfl, ab_l_ap gl, ⟨ab_iv k2, ab_s_ap gs2⟩, k1, ab_m_ap gm⟩
      exact hfin
    · cases h1
  · cases h1

def ab_ishr : ab_O := fun h md P t S => match S.2.2.1 with
  | b :: a :: st => if ab_isI a = true ∧ ab_isI b = true then some [ab_advK S 1 ((ab_new S.2.2.2.1 8 a b).1 :: st) (ab_new S.2.2.2.1 8 a b).2] else none
  | _ => none
theorem ab_ishr_ok : ab_Snd cm_ishr ab_ishr := by
  intro h N M0 md E P t S Ss C ρ k hN h1 hG hk
  obtain ⟨pc, L, st, K, Ca⟩ := S
  obtain ⟨cpc, CL, sc, M⟩ := C
  obtain ⟨e0, gl, gs, gk, gm⟩ := hG
  dsimp only at e0 gl gs gk gm
  subst e0
  unfold ab_ishr at h1
  dsimp only at h1
  split at h1
  · rename_i b a st'
    split at h1
    · rename_i hc
      cases h1
      obtain ⟨vb, sc1, rfl, hvb, gs1⟩ := ab_s_cons gs
      obtain ⟨va, sc2, rfl, hva, gs2⟩ := ab_s_cons gs1
      obtain ⟨y, hy, rfl⟩ := ab_vi hc.2 hvb
      obtain ⟨x, hx, rfl⟩ := ab_vi hc.1 hva
      obtain ⟨ext, k1, k2⟩ := ab_new_ok (op := 8) gk hx hy rfl
      have hfin := hk _ (List.mem_singleton.mpr rfl) ext (cpc + 1, CL, .int (ev_f 8 x y) :: sc2, M) ⟨rfl, ab_l_ap gl, ⟨ab_iv k2, ab_s_ap gs2⟩, k1, ab_m_ap gm⟩
      exact hfin
    · cases h1
  · cases h1

def ab_iushr : ab_O := fun h md P t S => match S.2.2.1 with
  | b :: a :: st => if ab_isI a = true ∧ ab_isI b = true then some [ab_advK S 1 ((ab_new S.2.2.2.1 9 a b).1 :: st) (ab_new S.2.2.2.1 9 a b).2] else none
  | _ => none
theorem ab_iushr_ok : ab_Snd cm_iushr ab_iushr := by
  intro h N M0 md E P t S Ss C ρ k hN h1 hG hk
  obtain ⟨pc, L, st, K, Ca⟩ := S
  obtain ⟨cpc, CL, sc, M⟩ := C
  obtain ⟨e0, gl, gs, gk, gm⟩ := hG
  dsimp only at e0 gl gs gk gm
  subst e0
  unfold ab_iushr at h1
  dsimp only at h1
  split at h1
  · rename_i b a st'
    split at h1
    · rename_i hc
      cases h1
      obtain ⟨vb, sc1, rfl, hvb, gs1⟩ := ab_s_cons gs
      obtain ⟨va, sc2, rfl, hva, gs2⟩ := ab_s_cons gs1
      obtain ⟨y, hy, rfl⟩ := ab_vi hc.2 hvb
      obtain ⟨x, hx, rfl⟩ := ab_vi hc.1 hva
      obtain ⟨ext, k1, k2⟩ := ab_new_ok (op := 9) gk hx hy rfl
      have hfin := hk _ (List.mem_singleton.mpr rfl) ext (cpc + 1, CL, .int (ev_f 9 x y) :: sc2, M) ⟨rfl, ab_l_ap gl, ⟨ab_iv k2, ab_s_ap gs2⟩, k1, ab_m_ap gm⟩
      exact hfin
    · cases h1
  · cases h1

def ab_idiv : ab_O := fun h md P t S => match S.2.2.1 with
  | b :: a :: st => if ab_isI a = true ∧ ab_isI b = true ∧ (1 ≤ (ab_bd S.2.2.2.1 b).1 ∨ (ab_bd S.2.2.2.1 b).2 ≤ -1) then some [ab_advK S 1 ((ab_new S.2.2.2.1 10 a b).1 :: st) (ab_new S.2.2.2.1 10 a b).2] else none
  | _ => none
theorem ab_idiv_ok : ab_Snd cm_idiv ab_idiv := by
  intro h N M0 md E P t S Ss C ρ k hN h1 hG hk
  obtain ⟨pc, L, st, K, Ca⟩ := S
  obtain ⟨cpc, CL, sc, M⟩ := C
  obtain ⟨e0, gl, gs, gk, gm⟩ := hG
  dsimp only at e0 gl gs gk gm
  subst e0
  unfold ab_idiv at h1
  dsimp only at h1
  split at h1
  · rename_i b a st'
    split at h1
    · rename_i hc
      cases h1
      obtain ⟨vb, sc1, rfl, hvb, gs1⟩ := ab_s_cons gs
      obtain ⟨va, sc2, rfl, hva, gs2⟩ := ab_s_cons gs1
      obtain ⟨y, hy, rfl⟩ := ab_vi hc.2.1 hvb
      obtain ⟨x, hx, rfl⟩ := ab_vi hc.1 hva
      obtain ⟨ext, k1, k2⟩ := ab_new_ok (op := 10) gk hx hy rfl
      have hfin := hk _ (List.mem_singleton.mpr rfl) ext (cpc + 1, CL, .int (ev_f 10 x y) :: sc2, M) ⟨rfl, ab_l_ap gl, ⟨ab_iv k2, ab_s_ap gs2⟩, k1, ab_m_ap gm⟩
      refine ⟨fun e => ?_, hfin⟩
      have hb := ab_bd_in gk hy
      rw [e] at hb
      have h0 : (0 : Int32).toInt = 0 := rfl
      obtain ⟨b1, b2⟩ := hb
      have h3 := hc.2.2
      omega
    · cases h1
  · cases h1

def ab_irem : ab_O := fun h md P t S => match S.2.2.1 with
  | b :: a :: st => if ab_isI a = true ∧ ab_isI b = true ∧ (1 ≤ (ab_bd S.2.2.2.1 b).1 ∨ (ab_bd S.2.2.2.1 b).2 ≤ -1) then some [ab_advK S 1 ((ab_new S.2.2.2.1 11 a b).1 :: st) (ab_new S.2.2.2.1 11 a b).2] else none
  | _ => none
theorem ab_irem_ok : ab_Snd cm_irem ab_irem := by
  intro h N M0 md E P t S Ss C ρ k hN h1 hG hk
  obtain ⟨pc, L, st, K, Ca⟩ := S
  obtain ⟨cpc, CL, sc, M⟩ := C
  obtain ⟨e0, gl, gs, gk, gm⟩ := hG
  dsimp only at e0 gl gs gk gm
  subst e0
  unfold ab_irem at h1
  dsimp only at h1
  split at h1
  · rename_i b a st'
    split at h1
    · rename_i hc
      cases h1
      obtain ⟨vb, sc1, rfl, hvb, gs1⟩ := ab_s_cons gs
      obtain ⟨va, sc2, rfl, hva, gs2⟩ := ab_s_cons gs1
      obtain ⟨y, hy, rfl⟩ := ab_vi hc.2.1 hvb
      obtain ⟨x, hx, rfl⟩ := ab_vi hc.1 hva
      obtain ⟨ext, k1, k2⟩ := ab_new_ok (op := 11) gk hx hy rfl
      have hfin := hk _ (List.mem_singleton.mpr rfl) ext (cpc + 1, CL, .int (ev_f 11 x y) :: sc2, M) ⟨rfl, ab_l_ap gl, ⟨ab_iv k2, ab_s_ap gs2⟩, k1, ab_m_ap gm⟩
      refine ⟨fun e => ?_, hfin⟩
      have hb := ab_bd_in gk hy
      rw [e] at hb
      have h0 : (0 : Int32).toInt = 0 := rfl
      obtain ⟨b1, b2⟩ := hb
      have h3 := hc.2.2
      omega
    · cases h1
  · cases h1

theorem ab_cs_ok {ρ : List Int32} : ∀ {st : List ab_A} {sc : List Value}, ab_s ρ st sc → cm_cs sc = (st.map (fun a => if a.1 = 6 then 2 else 1)).sum
  | [], [], _ => rfl
  | [], _ :: _, h => h.elim
  | _ :: _, [], h => h.elim
  | a :: st, v :: sc, h => by
    have ih := ab_cs_ok h.2
    unfold cm_cs at ih ⊢
    rw [List.map_cons, List.map_cons, List.sum_cons, List.sum_cons, ih]
    rcases ab_cat h.1 with ⟨h1, h2⟩ | ⟨h1, h2⟩
    · rw [h2, if_pos h1]
    · rw [h2, if_neg h1]
def ab_cs (st : List ab_A) : Nat := (st.map (fun a => if a.1 = 6 then 2 else 1)).sum
def ab_mmin : ab_O := fun h md P t S => match S.2.2.1 with
  | b :: a :: st => if ab_isI a = true ∧ ab_isI b = true ∧ ab_cs st ≤ 8 then some [ab_advK S 3 ((ab_new S.2.2.2.1 15 a b).1 :: st) (ab_new S.2.2.2.1 15 a b).2] else none
  | _ => none
theorem ab_mmin_ok : ab_Snd cm_mmin ab_mmin := by
  intro h N M0 md E P t S Ss C ρ k hN h1 hG hk
  obtain ⟨pc, L, st, K, Ca⟩ := S
  obtain ⟨cpc, CL, sc, M⟩ := C
  obtain ⟨e0, gl, gs, gk, gm⟩ := hG
  dsimp only at e0 gl gs gk gm
  subst e0
  unfold ab_mmin at h1
  dsimp only at h1
  split at h1
  · rename_i b a st'
    split at h1
    · rename_i hc
      cases h1
      obtain ⟨vb, sc1, rfl, hvb, gs1⟩ := ab_s_cons gs
      obtain ⟨va, sc2, rfl, hva, gs2⟩ := ab_s_cons gs1
      obtain ⟨y, hy, rfl⟩ := ab_vi hc.2.1 hvb
      obtain ⟨x, hx, rfl⟩ := ab_vi hc.1 hva
      obtain ⟨ext, k1, k2⟩ := ab_new_ok (op := 15) gk hx hy rfl
      have hfin := hk _ (List.mem_singleton.mpr rfl) ext (cpc + 3, CL, .int (ev_f 15 x y) :: sc2, M) ⟨rfl, ab_l_ap gl, ⟨ab_iv k2, ab_s_ap gs2⟩, k1, ab_m_ap gm⟩
      have hcs := ab_cs_ok gs2
      exact ⟨by rw [hcs]; exact hc.2.2, hfin⟩
    · cases h1
  · cases h1

def ab_mmax : ab_O := fun h md P t S => match S.2.2.1 with
  | b :: a :: st => if ab_isI a = true ∧ ab_isI b = true ∧ ab_cs st ≤ 8 then some [ab_advK S 3 ((ab_new S.2.2.2.1 16 a b).1 :: st) (ab_new S.2.2.2.1 16 a b).2] else none
  | _ => none
theorem ab_mmax_ok : ab_Snd cm_mmax ab_mmax := by
  intro h N M0 md E P t S Ss C ρ k hN h1 hG hk
  obtain ⟨pc, L, st, K, Ca⟩ := S
  obtain ⟨cpc, CL, sc, M⟩ := C
  obtain ⟨e0, gl, gs, gk, gm⟩ := hG
  dsimp only at e0 gl gs gk gm
  subst e0
  unfold ab_mmax at h1
  dsimp only at h1
  split at h1
  · rename_i b a st'
    split at h1
    · rename_i hc
      cases h1
      obtain ⟨vb, sc1, rfl, hvb, gs1⟩ := ab_s_cons gs
      obtain ⟨va, sc2, rfl, hva, gs2⟩ := ab_s_cons gs1
      obtain ⟨y, hy, rfl⟩ := ab_vi hc.2.1 hvb
      obtain ⟨x, hx, rfl⟩ := ab_vi hc.1 hva
      obtain ⟨ext, k1, k2⟩ := ab_new_ok (op := 16) gk hx hy rfl
      have hfin := hk _ (List.mem_singleton.mpr rfl) ext (cpc + 3, CL, .int (ev_f 16 x y) :: sc2, M) ⟨rfl, ab_l_ap gl, ⟨ab_iv k2, ab_s_ap gs2⟩, k1, ab_m_ap gm⟩
      have hcs := ab_cs_ok gs2
      exact ⟨by rw [hcs]; exact hc.2.2, hfin⟩
    · cases h1
  · cases h1

def ab_ineg : ab_O := fun h md P t S => match S.2.2.1 with
  | a :: st => if ab_isI a = true then some [ab_advK S 1 ((ab_new S.2.2.2.1 12 a (ab_c 0)).1 :: st) (ab_new S.2.2.2.1 12 a (ab_c 0)).2] else none
  | _ => none
theorem ab_ineg_ok : ab_Snd cm_ineg ab_ineg := by
  intro h N M0 md E P t S Ss C ρ k hN h1 hG hk
  obtain ⟨pc, L, st, K, Ca⟩ := S
  obtain ⟨cpc, CL, sc, M⟩ := C
  obtain ⟨e0, gl, gs, gk, gm⟩ := hG
  dsimp only at e0 gl gs gk gm
  subst e0
  unfold ab_ineg at h1
  dsimp only at h1
  split at h1
  · rename_i a st'
    split at h1
    · rename_i hc
      cases h1
      obtain ⟨va, sc2, rfl, hva, gs2⟩ := ab_s_cons gs
      obtain ⟨x, hx, rfl⟩ := ab_vi hc hva
      obtain ⟨ext, k1, k2⟩ := ab_new_ok (op := 12) (b := ab_c 0) gk hx rfl rfl
      have hfin := hk _ (List.mem_singleton.mpr rfl) ext (cpc + 1, CL, .int (ev_f 12 x (Int32.ofInt 0)) :: sc2, M) ⟨rfl, ab_l_ap gl, ⟨ab_iv k2, ab_s_ap gs2⟩, k1, ab_m_ap gm⟩
      exact hfin
    · cases h1
  · cases h1

def ab_i2b : ab_O := fun h md P t S => match S.2.2.1 with
  | a :: st => if ab_isI a = true then some [ab_advK S 1 ((ab_new S.2.2.2.1 13 a (ab_c 0)).1 :: st) (ab_new S.2.2.2.1 13 a (ab_c 0)).2] else none
  | _ => none
theorem ab_i2b_ok : ab_Snd cm_i2b ab_i2b := by
  intro h N M0 md E P t S Ss C ρ k hN h1 hG hk
  obtain ⟨pc, L, st, K, Ca⟩ := S
  obtain ⟨cpc, CL, sc, M⟩ := C
  obtain ⟨e0, gl, gs, gk, gm⟩ := hG
  dsimp only at e0 gl gs gk gm
  subst e0
  unfold ab_i2b at h1
  dsimp only at h1
  split at h1
  · rename_i a st'
    split at h1
    · rename_i hc
      cases h1
      obtain ⟨va, sc2, rfl, hva, gs2⟩ := ab_s_cons gs
      obtain ⟨x, hx, rfl⟩ := ab_vi hc hva
      obtain ⟨ext, k1, k2⟩ := ab_new_ok (op := 13) (b := ab_c 0) gk hx rfl rfl
      have hfin := hk _ (List.mem_singleton.mpr rfl) ext (cpc + 1, CL, .int (ev_f 13 x (Int32.ofInt 0)) :: sc2, M) ⟨rfl, ab_l_ap gl, ⟨ab_iv k2, ab_s_ap gs2⟩, k1, ab_m_ap gm⟩
      exact hfin
    · cases h1
  · cases h1

def ab_i2c : ab_O := fun h md P t S => match S.2.2.1 with
  | a :: st => if ab_isI a = true then some [ab_advK S 1 ((ab_new S.2.2.2.1 14 a (ab_c 0)).1 :: st) (ab_new S.2.2.2.1 14 a (ab_c 0)).2] else none
  | _ => none
theorem ab_i2c_ok : ab_Snd cm_i2c ab_i2c := by
  intro h N M0 md E P t S Ss C ρ k hN h1 hG hk
  obtain ⟨pc, L, st, K, Ca⟩ := S
  obtain ⟨cpc, CL, sc, M⟩ := C
  obtain ⟨e0, gl, gs, gk, gm⟩ := hG
  dsimp only at e0 gl gs gk gm
  subst e0
  unfold ab_i2c at h1
  dsimp only at h1
  split at h1
  · rename_i a st'
    split at h1
    · rename_i hc
      cases h1
      obtain ⟨va, sc2, rfl, hva, gs2⟩ := ab_s_cons gs
      obtain ⟨x, hx, rfl⟩ := ab_vi hc hva
      obtain ⟨ext, k1, k2⟩ := ab_new_ok (op := 14) (b := ab_c 0) gk hx rfl rfl
      have hfin := hk _ (List.mem_singleton.mpr rfl) ext (cpc + 1, CL, .int (ev_f 14 x (Int32.ofInt 0)) :: sc2, M) ⟨rfl, ab_l_ap gl, ⟨ab_iv k2, ab_s_ap gs2⟩, k1, ab_m_ap gm⟩
      exact hfin
    · cases h1
  · cases h1

def ab_mabs : ab_O := fun h md P t S => match S.2.2.1 with
  | a :: st => if ab_isI a = true ∧ ab_cs st ≤ 8 then some [ab_advK S 3 ((ab_new S.2.2.2.1 17 a (ab_c 0)).1 :: st) (ab_new S.2.2.2.1 17 a (ab_c 0)).2] else none
  | _ => none
theorem ab_mabs_ok : ab_Snd cm_mabs ab_mabs := by
  intro h N M0 md E P t S Ss C ρ k hN h1 hG hk
  obtain ⟨pc, L, st, K, Ca⟩ := S
  obtain ⟨cpc, CL, sc, M⟩ := C
  obtain ⟨e0, gl, gs, gk, gm⟩ := hG
  dsimp only at e0 gl gs gk gm
  subst e0
  unfold ab_mabs at h1
  dsimp only at h1
  split at h1
  · rename_i a st'
    split at h1
    · rename_i hc
      cases h1
      obtain ⟨va, sc2, rfl, hva, gs2⟩ := ab_s_cons gs
      obtain ⟨x, hx, rfl⟩ := ab_vi hc.1 hva
      obtain ⟨ext, k1, k2⟩ := ab_new_ok (op := 17) (b := ab_c 0) gk hx rfl rfl
      have hfin := hk _ (List.mem_singleton.mpr rfl) ext (cpc + 3, CL, .int (ev_f 17 x (Int32.ofInt 0)) :: sc2, M) ⟨rfl, ab_l_ap gl, ⟨ab_iv k2, ab_s_ap gs2⟩, k1, ab_m_ap gm⟩
      have hcs := ab_cs_ok gs2
      exact ⟨by rw [hcs]; exact hc.2, hfin⟩
    · cases h1
  · cases h1

def ab_i2l : ab_O := fun h md P t S => match S.2.2.1 with
  | a :: st => if ab_isI a = true then some [ab_adv S 1 ((6, 0, []) :: st)] else none
  | _ => none
theorem ab_i2l_ok : ab_Snd cm_i2l ab_i2l := by
  intro h N M0 md E P t S Ss C ρ k hN h1 hG hk
  obtain ⟨pc, L, st, K, Ca⟩ := S
  obtain ⟨cpc, CL, sc, M⟩ := C
  obtain ⟨e0, gl, gs, gk, gm⟩ := hG
  dsimp only at e0 gl gs gk gm
  subst e0
  unfold ab_i2l at h1
  dsimp only at h1
  split at h1
  · rename_i a st'
    split at h1
    · rename_i hc
      cases h1
      obtain ⟨va, sc2, rfl, hva, gs2⟩ := ab_s_cons gs
      obtain ⟨x, hx, rfl⟩ := ab_vi hc hva
      exact ab_fin hk _ (List.mem_singleton.mpr rfl) (cpc + 1, CL, .long x.toInt64 :: sc2, M) ⟨rfl, gl, ⟨⟨_, rfl⟩, gs2⟩, gk, gm⟩
    · cases h1
  · cases h1

def ab_ladd : ab_O := fun h md P t S => match S.2.2.1 with
  | b :: a :: st => if a.1 = 6 ∧ b.1 = 6 then some [ab_adv S 1 ((6, 0, []) :: st)] else none
  | _ => none
theorem ab_ladd_ok : ab_Snd cm_ladd ab_ladd := by
  intro h N M0 md E P t S Ss C ρ k hN h1 hG hk
  obtain ⟨pc, L, st, K, Ca⟩ := S
  obtain ⟨cpc, CL, sc, M⟩ := C
  obtain ⟨e0, gl, gs, gk, gm⟩ := hG
  dsimp only at e0 gl gs gk gm
  subst e0
  unfold ab_ladd at h1
  dsimp only at h1
  split at h1
  · rename_i b a st'
    split at h1
    · rename_i hc
      cases h1
      obtain ⟨vb, sc1, rfl, hvb, gs1⟩ := ab_s_cons gs
      obtain ⟨va, sc2, rfl, hva, gs2⟩ := ab_s_cons gs1
      obtain ⟨y, rfl⟩ := ab_v6 hc.2 hvb
      obtain ⟨x, rfl⟩ := ab_v6 hc.1 hva
      exact ab_fin hk _ (List.mem_singleton.mpr rfl) (cpc + 1, CL, .long (x + y) :: sc2, M) ⟨rfl, gl, ⟨⟨_, rfl⟩, gs2⟩, gk, gm⟩
    · cases h1
  · cases h1

def ab_lsub : ab_O := fun h md P t S => match S.2.2.1 with
  | b :: a :: st => if a.1 = 6 ∧ b.1 = 6 then some [ab_adv S 1 ((6, 0, []) :: st)] else none
  | _ => none
theorem ab_lsub_ok : ab_Snd cm_lsub ab_lsub := by
  intro h N M0 md E P t S Ss C ρ k hN h1 hG hk
  obtain ⟨pc, L, st, K, Ca⟩ := S
  obtain ⟨cpc, CL, sc, M⟩ := C
  obtain ⟨e0, gl, gs, gk, gm⟩ := hG
  dsimp only at e0 gl gs gk gm
  subst e0
  unfold ab_lsub at h1
  dsimp only at h1
  split at h1
  · rename_i b a st'
    split at h1
    · rename_i hc
      cases h1
      obtain ⟨vb, sc1, rfl, hvb, gs1⟩ := ab_s_cons gs
      obtain ⟨va, sc2, rfl, hva, gs2⟩ := ab_s_cons gs1
      obtain ⟨y, rfl⟩ := ab_v6 hc.2 hvb
      obtain ⟨x, rfl⟩ := ab_v6 hc.1 hva
      exact ab_fin hk _ (List.mem_singleton.mpr rfl) (cpc + 1, CL, .long (x - y) :: sc2, M) ⟨rfl, gl, ⟨⟨_, rfl⟩, gs2⟩, gk, gm⟩
    · cases h1
  · cases h1

def ab_lmul : ab_O := fun h md P t S => match S.2.2.1 with
  | b :: a :: st => if a.1 = 6 ∧ b.1 = 6 then some [ab_adv S 1 ((6, 0, []) :: st)] else none
  | _ => none
theorem ab_lmul_ok : ab_Snd cm_lmul ab_lmul := by
  intro h N M0 md E P t S Ss C ρ k hN h1 hG hk
  obtain ⟨pc, L, st, K, Ca⟩ := S
  obtain ⟨cpc, CL, sc, M⟩ := C
  obtain ⟨e0, gl, gs, gk, gm⟩ := hG
  dsimp only at e0 gl gs gk gm
  subst e0
  unfold ab_lmul at h1
  dsimp only at h1
  split at h1
  · rename_i b a st'
    split at h1
    · rename_i hc
      cases h1
      obtain ⟨vb, sc1, rfl, hvb, gs1⟩ := ab_s_cons gs
      obtain ⟨va, sc2, rfl, hva, gs2⟩ := ab_s_cons gs1
      obtain ⟨y, rfl⟩ := ab_v6 hc.2 hvb
      obtain ⟨x, rfl⟩ := ab_v6 hc.1 hva
      exact ab_fin hk _ (List.mem_singleton.mpr rfl) (cpc + 1, CL, .long (x * y) :: sc2, M) ⟨rfl, gl, ⟨⟨_, rfl⟩, gs2⟩, gk, gm⟩
    · cases h1
  · cases h1

theorem ab_lcmp_in (x y : Int64) : ev_inb (-1, 1) (lg_cmp x y) := by
  unfold lg_cmp
  repeat' split
  all_goals exact ⟨by decide, by decide⟩
def ab_lcmp : ab_O := fun h md P t S => match S.2.2.1 with
  | b :: a :: st => if a.1 = 6 ∧ b.1 = 6 then some [ab_advK S 1 ((ab_any S.2.2.2.1 (-1, 1)).1 :: st) (ab_any S.2.2.2.1 (-1, 1)).2] else none
  | _ => none
theorem ab_lcmp_ok : ab_Snd cm_lcmp ab_lcmp := by
  intro h N M0 md E P t S Ss C ρ k hN h1 hG hk
  obtain ⟨pc, L, st, K, Ca⟩ := S
  obtain ⟨cpc, CL, sc, M⟩ := C
  obtain ⟨e0, gl, gs, gk, gm⟩ := hG
  dsimp only at e0 gl gs gk gm
  subst e0
  unfold ab_lcmp at h1
  dsimp only at h1
  split at h1
  · rename_i b a st'
    split at h1
    · rename_i hc
      cases h1
      obtain ⟨vb, sc1, rfl, hvb, gs1⟩ := ab_s_cons gs
      obtain ⟨va, sc2, rfl, hva, gs2⟩ := ab_s_cons gs1
      obtain ⟨y, rfl⟩ := ab_v6 hc.2 hvb
      obtain ⟨x, rfl⟩ := ab_v6 hc.1 hva
      obtain ⟨ext, k1, k2⟩ := ab_any_ok gk (ab_lcmp_in x y) (rfl : ab_any K (-1, 1) = (_, _))
      exact hk _ (List.mem_singleton.mpr rfl) ext (cpc + 1, CL, .int (lg_cmp x y) :: sc2, M) ⟨rfl, ab_l_ap gl, ⟨ab_iv k2, ab_s_ap gs2⟩, k1, ab_m_ap gm⟩
    · cases h1
  · cases h1

def ab_dup : ab_O := fun h md P t S => match S.2.2.1 with
  | a :: st => if a.1 ≠ 6 then some [ab_adv S 1 (a :: a :: st)] else none
  | _ => none
theorem ab_dup_ok : ab_Snd cm_dup ab_dup := by
  intro h N M0 md E P t S Ss C ρ k hN h1 hG hk
  obtain ⟨pc, L, st, K, Ca⟩ := S
  obtain ⟨cpc, CL, sc, M⟩ := C
  obtain ⟨e0, gl, gs, gk, gm⟩ := hG
  dsimp only at e0 gl gs gk gm
  subst e0
  unfold ab_dup at h1
  dsimp only at h1
  split at h1
  · rename_i a st'
    split at h1
    · rename_i hc
      cases h1
      obtain ⟨va, sc2, rfl, hva, gs2⟩ := ab_s_cons gs
      refine ⟨?_, ab_fin hk _ (List.mem_singleton.mpr rfl) (cpc + 1, CL, va :: va :: sc2, M) ⟨rfl, gl, ⟨hva, hva, gs2⟩, gk, gm⟩⟩
      rcases ab_cat hva with ⟨q1, -⟩ | ⟨-, q2⟩
      · exact absurd q1 hc
      · exact q2
    · cases h1
  · cases h1

def ab_pop : ab_O := fun h md P t S => match S.2.2.1 with
  | a :: st => if a.1 ≠ 6 then some [ab_adv S 1 st] else none
  | _ => none
theorem ab_pop_ok : ab_Snd cm_pop ab_pop := by
  intro h N M0 md E P t S Ss C ρ k hN h1 hG hk
  obtain ⟨pc, L, st, K, Ca⟩ := S
  obtain ⟨cpc, CL, sc, M⟩ := C
  obtain ⟨e0, gl, gs, gk, gm⟩ := hG
  dsimp only at e0 gl gs gk gm
  subst e0
  unfold ab_pop at h1
  dsimp only at h1
  split at h1
  · rename_i a st'
    split at h1
    · rename_i hc
      cases h1
      obtain ⟨va, sc2, rfl, hva, gs2⟩ := ab_s_cons gs
      refine ⟨?_, ab_fin hk _ (List.mem_singleton.mpr rfl) (cpc + 1, CL, sc2, M) ⟨rfl, gl, gs2, gk, gm⟩⟩
      rcases ab_cat hva with ⟨q1, -⟩ | ⟨-, q2⟩
      · exact absurd q1 hc
      · exact q2
    · cases h1
  · cases h1

def ab_pop2 : ab_O := fun h md P t S => match S.2.2.1 with
  | a :: st => if a.1 = 6 then some [ab_adv S 1 st] else none
  | _ => none
theorem ab_pop2_ok : ab_Snd cm_pop2 ab_pop2 := by
  intro h N M0 md E P t S Ss C ρ k hN h1 hG hk
  obtain ⟨pc, L, st, K, Ca⟩ := S
  obtain ⟨cpc, CL, sc, M⟩ := C
  obtain ⟨e0, gl, gs, gk, gm⟩ := hG
  dsimp only at e0 gl gs gk gm
  subst e0
  unfold ab_pop2 at h1
  dsimp only at h1
  split at h1
  · rename_i a st'
    split at h1
    · rename_i hc
      cases h1
      obtain ⟨va, sc2, rfl, hva, gs2⟩ := ab_s_cons gs
      obtain ⟨x, rfl⟩ := ab_v6 hc hva
      exact ab_fin hk _ (List.mem_singleton.mpr rfl) (cpc + 1, CL, sc2, M) ⟨rfl, gl, gs2, gk, gm⟩
    · cases h1
  · cases h1

def ab_dup2 : ab_O := fun h md P t S => match S.2.2.1 with
  | a :: b :: st => if a.1 ≠ 6 ∧ b.1 ≠ 6 then some [ab_adv S 1 (a :: b :: a :: b :: st)] else none
  | _ => none
theorem ab_dup2_ok : ab_Snd cm_dup2 ab_dup2 := by
  intro h N M0 md E P t S Ss C ρ k hN h1 hG hk
  obtain ⟨pc, L, st, K, Ca⟩ := S
  obtain ⟨cpc, CL, sc, M⟩ := C
  obtain ⟨e0, gl, gs, gk, gm⟩ := hG
  dsimp only at e0 gl gs gk gm
  subst e0
  unfold ab_dup2 at h1
  dsimp only at h1
  split at h1
  · rename_i a b st'
    split at h1
    · rename_i hc
      cases h1
      obtain ⟨va, sc1, rfl, hva, gs1⟩ := ab_s_cons gs
      obtain ⟨vb, sc2, rfl, hvb, gs2⟩ := ab_s_cons gs1
      refine ⟨?_, ?_, ab_fin hk _ (List.mem_singleton.mpr rfl) (cpc + 1, CL, va :: vb :: va :: vb :: sc2, M) ⟨rfl, gl, ⟨hva, hvb, hva, hvb, gs2⟩, gk, gm⟩⟩
      · rcases ab_cat hva with ⟨q1, -⟩ | ⟨-, q2⟩
        · exact absurd q1 hc.1
        · exact q2
      · rcases ab_cat hvb with ⟨q1, -⟩ | ⟨-, q2⟩
        · exact absurd q1 hc.2
        · exact q2
    · cases h1
  · cases h1

def ab_iinc : ab_O := fun h md P t S => match ev_at S.2.1 t.1.toNat with
  | some a => if ab_isI a = true ∧ t.1.toNat < P.2.2.2.2.1 then some [(S.1 + 3, ab_st1 S.2.1 t.1.toNat (ab_new S.2.2.2.1 1 a (ab_c t.2.1)).1, S.2.2.1, (ab_new S.2.2.2.1 1 a (ab_c t.2.1)).2, S.2.2.2.2)] else none
  | none => none
theorem ab_iinc_ok : ab_Snd cm_iinc ab_iinc := by
  intro h N M0 md E P t S Ss C ρ k hN h1 hG hk
  obtain ⟨pc, L, st, K, Ca⟩ := S
  obtain ⟨cpc, CL, sc, M⟩ := C
  obtain ⟨e0, gl, gs, gk, gm⟩ := hG
  dsimp only at e0 gl gs gk gm
  subst e0
  unfold ab_iinc at h1
  dsimp only at h1
  split at h1
  · rename_i a ha
    split at h1
    · rename_i hc
      cases h1
      obtain ⟨v, hl, hv⟩ := gl _ (ev_at_mem ha)
      obtain ⟨x, hx, rfl⟩ := ab_vi hc.1 hv
      obtain ⟨ext, k1, k2⟩ := ab_new_ok (op := 1) (b := ab_c t.2.1) gk hx rfl rfl
      unfold cm_iinc
      dsimp only at hl ⊢
      rw [hl]
      exact ⟨hc.2, hk _ (List.mem_singleton.mpr rfl) ext (cpc + 3, cm_st1 CL t.1.toNat (.int (x + Int32.ofInt t.2.1)), sc, M) ⟨rfl, ab_st1_ok (ab_l_ap gl) (ab_iv k2), ab_s_ap gs, k1, ab_m_ap gm⟩⟩
    · cases h1
  · cases h1

def ab_fork (r : Nat) (a b : ab_A) (off : Int) (st : List ab_A) (S : ab_S) : Option (List ab_S) := if 0 ≤ (S.1 : Int) + off then some
  ((match ab_br r a b S.2.2.2.1 with
    | some K => [(((S.1 : Int) + off).toNat, S.2.1, st, K, S.2.2.2.2)]
    | none => []) ++ (match ab_br (ab_ngt r) a b S.2.2.2.1 with
    | some K => [(S.1 + 3, S.2.1, st, K, S.2.2.2.2)]
    | none => [])) else none
theorem ab_fork_ok {h : ab_H} {N : cm_M → Prop} {M0 : cm_M} {md : ab_Md} {ρ : List Int32} {k : cm_S → Prop} {pc : Nat} {L : List (Nat × ab_A)} {st st' : List ab_A} {K : ab_K} {Ca : ab_Ca} {CL : List (Nat × Value)} {sc : List Value} {M : cm_M} {r : Nat} {a b : ab_A} {off : Int} {Ss : List ab_S} (hf : ab_fork r a b off st' (pc, L, st, K, Ca) = some Ss) (hk : ∀ S' ∈ Ss, ∀ (ext : List Int32) (C' : cm_S), ab_G h N M0 md (ρ ++ ext) S' C' → k C') (gl : ab_l ρ L CL) (gs : ab_s ρ st' sc) (gk : ab_k ρ K) (gm : ab_m h N M0 md ρ Ca M) {x y : Int32} (hx : ab_i ρ a = some x) (hy : ab_i ρ b = some y) :
    0 ≤ (pc : Int) + off ∧ (ev_cmp r x y = true → k (((pc : Int) + off).toNat, CL, sc, M)) ∧ (ev_cmp r x y = false → k (pc + 3, CL, sc, M)) := by
  unfold ab_fork at hf
  split at hf
  · rename_i h0
    cases hf
    refine ⟨h0, fun hc => ?_, fun hc => ?_⟩
    · obtain ⟨K', e, hk'⟩ := ab_br_ok gk hx hy hc
      refine ab_fin hk (((pc : Int) + off).toNat, L, st', K', Ca) ?_ _ ⟨rfl, gl, gs, hk', gm⟩
      refine List.mem_append_left _ ?_
      dsimp only
      rw [e]
      exact List.mem_singleton.mpr rfl
    · obtain ⟨K', e, hk'⟩ := ab_br_ok gk hx hy (ab_ngt_ok hc)
      refine ab_fin hk (pc + 3, L, st', K', Ca) ?_ _ ⟨rfl, gl, gs, hk', gm⟩
      refine List.mem_append_right _ ?_
      dsimp only
      rw [e]
      exact List.mem_singleton.mpr rfl
  · cases hf
def ab_icmp_eq : ab_O := fun h md P t S => match S.2.2.1 with
  | b :: a :: st => if ab_isI a = true ∧ ab_isI b = true then ab_fork 0 a b t.1 st S else none
  | _ => none
theorem ab_icmp_eq_ok : ab_Snd cm_icmp_eq ab_icmp_eq := by
  intro h N M0 md E P t S Ss C ρ k hN h1 hG hk
  obtain ⟨pc, L, st, K, Ca⟩ := S
  obtain ⟨cpc, CL, sc, M⟩ := C
  obtain ⟨e0, gl, gs, gk, gm⟩ := hG
  dsimp only at e0 gl gs gk gm
  subst e0
  unfold ab_icmp_eq at h1
  dsimp only at h1
  split at h1
  · rename_i b a st'
    split at h1
    · rename_i hc
      obtain ⟨vb, sc1, rfl, hvb, gs1⟩ := ab_s_cons gs
      obtain ⟨va, sc2, rfl, hva, gs2⟩ := ab_s_cons gs1
      obtain ⟨y, hy, rfl⟩ := ab_vi hc.2 hvb
      obtain ⟨x, hx, rfl⟩ := ab_vi hc.1 hva
      exact ab_fork_ok h1 hk gl gs2 gk gm hx hy
    · cases h1
  · cases h1

def ab_if_eq : ab_O := fun h md P t S => match S.2.2.1 with
  | a :: st => if ab_isI a = true then ab_fork 0 a (ab_c 0) t.1 st S else none
  | _ => none
theorem ab_if_eq_ok : ab_Snd cm_if_eq ab_if_eq := by
  intro h N M0 md E P t S Ss C ρ k hN h1 hG hk
  obtain ⟨pc, L, st, K, Ca⟩ := S
  obtain ⟨cpc, CL, sc, M⟩ := C
  obtain ⟨e0, gl, gs, gk, gm⟩ := hG
  dsimp only at e0 gl gs gk gm
  subst e0
  unfold ab_if_eq at h1
  dsimp only at h1
  split at h1
  · rename_i a st'
    split at h1
    · rename_i hc
      obtain ⟨va, sc2, rfl, hva, gs2⟩ := ab_s_cons gs
      obtain ⟨x, hx, rfl⟩ := ab_vi hc hva
      exact ab_fork_ok h1 hk gl gs2 gk gm hx (show ab_i ρ (ab_c 0) = some 0 from rfl)
    · cases h1
  · cases h1

def ab_icmp_ne : ab_O := fun h md P t S => match S.2.2.1 with
  | b :: a :: st => if ab_isI a = true ∧ ab_isI b = true then ab_fork 1 a b t.1 st S else none
  | _ => none
theorem ab_icmp_ne_ok : ab_Snd cm_icmp_ne ab_icmp_ne := by
  intro h N M0 md E P t S Ss C ρ k hN h1 hG hk
  obtain ⟨pc, L, st, K, Ca⟩ := S
  obtain ⟨cpc, CL, sc, M⟩ := C
  obtain ⟨e0, gl, gs, gk, gm⟩ := hG
  dsimp only at e0 gl gs gk gm
  subst e0
  unfold ab_icmp_ne at h1
  dsimp only at h1
  split at h1
  · rename_i b a st'
    split at h1
    · rename_i hc
      obtain ⟨vb, sc1, rfl, hvb, gs1⟩ := ab_s_cons gs
      obtain ⟨va, sc2, rfl, hva, gs2⟩ := ab_s_cons gs1
      obtain ⟨y, hy, rfl⟩ := ab_vi hc.2 hvb
      obtain ⟨x, hx, rfl⟩ := ab_vi hc.1 hva
      exact ab_fork_ok h1 hk gl gs2 gk gm hx hy
    · cases h1
  · cases h1

def ab_if_ne : ab_O := fun h md P t S => match S.2.2.1 with
  | a :: st => if ab_isI a = true then ab_fork 1 a (ab_c 0) t.1 st S else none
  | _ => none
theorem ab_if_ne_ok : ab_Snd cm_if_ne ab_if_ne := by
  intro h N M0 md E P t S Ss C ρ k hN h1 hG hk
  obtain ⟨pc, L, st, K, Ca⟩ := S
  obtain ⟨cpc, CL, sc, M⟩ := C
  obtain ⟨e0, gl, gs, gk, gm⟩ := hG
  dsimp only at e0 gl gs gk gm
  subst e0
  unfold ab_if_ne at h1
  dsimp only at h1
  split at h1
  · rename_i a st'
    split at h1
    · rename_i hc
      obtain ⟨va, sc2, rfl, hva, gs2⟩ := ab_s_cons gs
      obtain ⟨x, hx, rfl⟩ := ab_vi hc hva
      exact ab_fork_ok h1 hk gl gs2 gk gm hx (show ab_i ρ (ab_c 0) = some 0 from rfl)
    · cases h1
  · cases h1

def ab_icmp_lt : ab_O := fun h md P t S => match S.2.2.1 with
  | b :: a :: st => if ab_isI a = true ∧ ab_isI b = true then ab_fork 2 a b t.1 st S else none
  | _ => none
theorem ab_icmp_lt_ok : ab_Snd cm_icmp_lt ab_icmp_lt := by
  intro h N M0 md E P t S Ss C ρ k hN h1 hG hk
  obtain ⟨pc, L, st, K, Ca⟩ := S
  obtain ⟨cpc, CL, sc, M⟩ := C
  obtain ⟨e0, gl, gs, gk, gm⟩ := hG
  dsimp only at e0 gl gs gk gm
  subst e0
  unfold ab_icmp_lt at h1
  dsimp only at h1
  split at h1
  · rename_i b a st'
    split at h1
    · rename_i hc
      obtain ⟨vb, sc1, rfl, hvb, gs1⟩ := ab_s_cons gs
      obtain ⟨va, sc2, rfl, hva, gs2⟩ := ab_s_cons gs1
      obtain ⟨y, hy, rfl⟩ := ab_vi hc.2 hvb
      obtain ⟨x, hx, rfl⟩ := ab_vi hc.1 hva
      exact ab_fork_ok h1 hk gl gs2 gk gm hx hy
    · cases h1
  · cases h1

def ab_if_lt : ab_O := fun h md P t S => match S.2.2.1 with
  | a :: st => if ab_isI a = true then ab_fork 2 a (ab_c 0) t.1 st S else none
  | _ => none
theorem ab_if_lt_ok : ab_Snd cm_if_lt ab_if_lt := by
  intro h N M0 md E P t S Ss C ρ k hN h1 hG hk
  obtain ⟨pc, L, st, K, Ca⟩ := S
  obtain ⟨cpc, CL, sc, M⟩ := C
  obtain ⟨e0, gl, gs, gk, gm⟩ := hG
  dsimp only at e0 gl gs gk gm
  subst e0
  unfold ab_if_lt at h1
  dsimp only at h1
  split at h1
  · rename_i a st'
    split at h1
    · rename_i hc
      obtain ⟨va, sc2, rfl, hva, gs2⟩ := ab_s_cons gs
      obtain ⟨x, hx, rfl⟩ := ab_vi hc hva
      exact ab_fork_ok h1 hk gl gs2 gk gm hx (show ab_i ρ (ab_c 0) = some 0 from rfl)
    · cases h1
  · cases h1

def ab_icmp_ge : ab_O := fun h md P t S => match S.2.2.1 with
  | b :: a :: st => if ab_isI a = true ∧ ab_isI b = true then ab_fork 3 a b t.1 st S else none
  | _ => none
theorem ab_icmp_ge_ok : ab_Snd cm_icmp_ge ab_icmp_ge := by
  intro h N M0 md E P t S Ss C ρ k hN h1 hG hk
  obtain ⟨pc, L, st, K, Ca⟩ := S
  obtain ⟨cpc, CL, sc, M⟩ := C
  obtain ⟨e0, gl, gs, gk, gm⟩ := hG
  dsimp only at e0 gl gs gk gm
  subst e0
  unfold ab_icmp_ge at h1
  dsimp only at h1
  split at h1
  · rename_i b a st'
    split at h1
    · rename_i hc
      obtain ⟨vb, sc1, rfl, hvb, gs1⟩ := ab_s_cons gs
      obtain ⟨va, sc2, rfl, hva, gs2⟩ := ab_s_cons gs1
      obtain ⟨y, hy, rfl⟩ := ab_vi hc.2 hvb
      obtain ⟨x, hx, rfl⟩ := ab_vi hc.1 hva
      exact ab_fork_ok h1 hk gl gs2 gk gm hx hy
    · cases h1
  · cases h1

def ab_if_ge : ab_O := fun h md P t S => match S.2.2.1 with
  | a :: st => if ab_isI a = true then ab_fork 3 a (ab_c 0) t.1 st S else none
  | _ => none
theorem ab_if_ge_ok : ab_Snd cm_if_ge ab_if_ge := by
  intro h N M0 md E P t S Ss C ρ k hN h1 hG hk
  obtain ⟨pc, L, st, K, Ca⟩ := S
  obtain ⟨cpc, CL, sc, M⟩ := C
  obtain ⟨e0, gl, gs, gk, gm⟩ := hG
  dsimp only at e0 gl gs gk gm
  subst e0
  unfold ab_if_ge at h1
  dsimp only at h1
  split at h1
  · rename_i a st'
    split at h1
    · rename_i hc
      obtain ⟨va, sc2, rfl, hva, gs2⟩ := ab_s_cons gs
      obtain ⟨x, hx, rfl⟩ := ab_vi hc hva
      exact ab_fork_ok h1 hk gl gs2 gk gm hx (show ab_i ρ (ab_c 0) = some 0 from rfl)
    · cases h1
  · cases h1

def ab_icmp_gt : ab_O := fun h md P t S => match S.2.2.1 with
  | b :: a :: st => if ab_isI a = true ∧ ab_isI b = true then ab_fork 4 a b t.1 st S else none
  | _ => none
theorem ab_icmp_gt_ok : ab_Snd cm_icmp_gt ab_icmp_gt := by
  intro h N M0 md E P t S Ss C ρ k hN h1 hG hk
  obtain ⟨pc, L, st, K, Ca⟩ := S
  obtain ⟨cpc, CL, sc, M⟩ := C
  obtain ⟨e0, gl, gs, gk, gm⟩ := hG
  dsimp only at e0 gl gs gk gm
  subst e0
  unfold ab_icmp_gt at h1
  dsimp only at h1
  split at h1
  · rename_i b a st'
    split at h1
    · rename_i hc
      obtain ⟨vb, sc1, rfl, hvb, gs1⟩ := ab_s_cons gs
      obtain ⟨va, sc2, rfl, hva, gs2⟩ := ab_s_cons gs1
      obtain ⟨y, hy, rfl⟩ := ab_vi hc.2 hvb
      obtain ⟨x, hx, rfl⟩ := ab_vi hc.1 hva
      exact ab_fork_ok h1 hk gl gs2 gk gm hx hy
    · cases h1
  · cases h1

def ab_if_gt : ab_O := fun h md P t S => match S.2.2.1 with
  | a :: st => if ab_isI a = true then ab_fork 4 a (ab_c 0) t.1 st S else none
  | _ => none
theorem ab_if_gt_ok : ab_Snd cm_if_gt ab_if_gt := by
  intro h N M0 md E P t S Ss C ρ k hN h1 hG hk
  obtain ⟨pc, L, st, K, Ca⟩ := S
  obtain ⟨cpc, CL, sc, M⟩ := C
  obtain ⟨e0, gl, gs, gk, gm⟩ := hG
  dsimp only at e0 gl gs gk gm
  subst e0
  unfold ab_if_gt at h1
  dsimp only at h1
  split at h1
  · rename_i a st'
    split at h1
    · rename_i hc
      obtain ⟨va, sc2, rfl, hva, gs2⟩ := ab_s_cons gs
      obtain ⟨x, hx, rfl⟩ := ab_vi hc hva
      exact ab_fork_ok h1 hk gl gs2 gk gm hx (show ab_i ρ (ab_c 0) = some 0 from rfl)
    · cases h1
  · cases h1

def ab_icmp_le : ab_O := fun h md P t S => match S.2.2.1 with
  | b :: a :: st => if ab_isI a = true ∧ ab_isI b = true then ab_fork 5 a b t.1 st S else none
  | _ => none
theorem ab_icmp_le_ok : ab_Snd cm_icmp_le ab_icmp_le := by
  intro h N M0 md E P t S Ss C ρ k hN h1 hG hk
  obtain ⟨pc, L, st, K, Ca⟩ := S
  obtain ⟨cpc, CL, sc, M⟩ := C
  obtain ⟨e0, gl, gs, gk, gm⟩ := hG
  dsimp only at e0 gl gs gk gm
  subst e0
  unfold ab_icmp_le at h1
  dsimp only at h1
  split at h1
  · rename_i b a st'
    split at h1
    · rename_i hc
      obtain ⟨vb, sc1, rfl, hvb, gs1⟩ := ab_s_cons gs
      obtain ⟨va, sc2, rfl, hva, gs2⟩ := ab_s_cons gs1
      obtain ⟨y, hy, rfl⟩ := ab_vi hc.2 hvb
      obtain ⟨x, hx, rfl⟩ := ab_vi hc.1 hva
      exact ab_fork_ok h1 hk gl gs2 gk gm hx hy
    · cases h1
  · cases h1

def ab_if_le : ab_O := fun h md P t S => match S.2.2.1 with
  | a :: st => if ab_isI a = true then ab_fork 5 a (ab_c 0) t.1 st S else none
  | _ => none
theorem ab_if_le_ok : ab_Snd cm_if_le ab_if_le := by
  intro h N M0 md E P t S Ss C ρ k hN h1 hG hk
  obtain ⟨pc, L, st, K, Ca⟩ := S
  obtain ⟨cpc, CL, sc, M⟩ := C
  obtain ⟨e0, gl, gs, gk, gm⟩ := hG
  dsimp only at e0 gl gs gk gm
  subst e0
  unfold ab_if_le at h1
  dsimp only at h1
  split at h1
  · rename_i a st'
    split at h1
    · rename_i hc
      obtain ⟨va, sc2, rfl, hva, gs2⟩ := ab_s_cons gs
      obtain ⟨x, hx, rfl⟩ := ab_vi hc hva
      exact ab_fork_ok h1 hk gl gs2 gk gm hx (show ab_i ρ (ab_c 0) = some 0 from rfl)
    · cases h1
  · cases h1

def ab_goto : ab_O := fun h md P t S => if 0 ≤ (S.1 : Int) + t.1 then some [(((S.1 : Int) + t.1).toNat, S.2)] else none
theorem ab_goto_ok : ab_Snd cm_goto ab_goto := by
  intro h N M0 md E P t S Ss C ρ k hN h1 hG hk
  obtain ⟨pc, L, st, K, Ca⟩ := S
  obtain ⟨cpc, CL, sc, M⟩ := C
  obtain ⟨e0, gl, gs, gk, gm⟩ := hG
  dsimp only at e0 gl gs gk gm
  subst e0
  unfold ab_goto at h1
  dsimp only at h1
  split at h1
  · rename_i h0
    cases h1
    exact ⟨h0, ab_fin hk _ (List.mem_singleton.mpr rfl) (((cpc : Int) + t.1).toNat, CL, sc, M) ⟨rfl, gl, gs, gk, gm⟩⟩
  · cases h1

def ab_swj (a : ab_A) (lo : Int) (st : List ab_A) (S : ab_S) : Nat → List Int → List ab_S
  | _, [] => []
  | j, o :: offs => (match ab_br 0 a (ab_c (Int32.ofInt (lo + (j : Int))).toInt) S.2.2.2.1 with
    | some K => [(((S.1 : Int) + o).toNat, S.2.1, st, K, S.2.2.2.2)]
    | none => []) ++ ab_swj a lo st S (j + 1) offs
theorem ab_swj_in {a : ab_A} {lo : Int} {st : List ab_A} {S : ab_S} {K : ab_K} : ∀ (offs : List Int) (i j : Nat) (o : Int), offs[j]? = some o → ab_br 0 a (ab_c (Int32.ofInt (lo + ((i + j : Nat) : Int))).toInt) S.2.2.2.1 = some K → (((S.1 : Int) + o).toNat, S.2.1, st, K, S.2.2.2.2) ∈ ab_swj a lo st S i offs
  | [], i, j, o, h, _ => by cases h
  | q :: offs, i, 0, o, h, hb => by
    cases h
    unfold ab_swj
    refine List.mem_append_left _ ?_
    rw [Nat.add_zero] at hb
    rw [hb]
    exact List.mem_singleton.mpr rfl
  | q :: offs, i, j + 1, o, h, hb => by
    unfold ab_swj
    refine List.mem_append_right _ ?_
    exact ab_swj_in offs (i + 1) j o h (by rw [show i + 1 + j = i + (j + 1) by omega]; exact hb)
def ab_sw : ab_O := fun h md P t S => match t.2.2.2, S.2.2.1 with
  | _ :: offs, a :: st => if ab_isI a = true ∧ t.2.2.1 - t.2.1 + 1 = (offs.length : Int) ∧ 0 ≤ (S.1 : Int) + t.1 ∧ offs.all (fun o => decide (0 ≤ (S.1 : Int) + o)) = true ∧ -2147483648 ≤ t.2.1 ∧ t.2.2.1 ≤ 2147483647 ∧ t.2.1 ≤ 2147483647 ∧ -2147483648 ≤ t.2.2.1 then some (ab_swj a t.2.1 st S 0 offs ++ ((match ab_br 2 a (ab_c t.2.1) S.2.2.2.1 with
      | some K => [(((S.1 : Int) + t.1).toNat, S.2.1, st, K, S.2.2.2.2)]
      | none => []) ++ (match ab_br 4 a (ab_c t.2.2.1) S.2.2.2.1 with
      | some K => [(((S.1 : Int) + t.1).toNat, S.2.1, st, K, S.2.2.2.2)]
      | none => []))) else none
  | _, _ => none
theorem ab_sw_ok : ab_Snd cm_sw ab_sw := by
  intro h N M0 md E P t S Ss C ρ k hN h1 hG hk
  obtain ⟨pc, L, st, K, Ca⟩ := S
  obtain ⟨cpc, CL, sc, M⟩ := C
  obtain ⟨e0, gl, gs, gk, gm⟩ := hG
  dsimp only at e0 gl gs gk gm
  subst e0
  obtain ⟨dflt, lo, hi, offs0⟩ := t
  cases offs0 with
  | nil => cases h1
  | cons len offs =>
    cases st with
    | nil => cases h1
    | cons a st' =>
      unfold ab_sw at h1
      dsimp only at h1
      split at h1
      · rename_i hc
        cases h1
        obtain ⟨hI, hlen, h0, hall, hlo, hhi, hlo2, hhi2⟩ := hc
        obtain ⟨va, sc2, rfl, hva, gs2⟩ := ab_s_cons gs
        obtain ⟨x, hx, rfl⟩ := ab_vi hI hva
        have ex : ∀ n : Int, -2147483648 ≤ n → n ≤ 2147483647 → (Int32.ofInt n).toInt = n := by
          intro n q1 q2
          rw [Int32.toInt_ofInt]
          exact ev_bm q1 q2
        refine ⟨hlen, h0, hall, fun hq => ?_, fun j o ho hj => ?_⟩
        · rcases hq with hq | hq
          · obtain ⟨K', e, hk'⟩ := ab_br_ok (r := 2) (b := ab_c lo) gk hx rfl (by
              unfold ev_cmp
              refine decide_eq_true (Int32.lt_iff_toInt_lt.mpr ?_)
              show x.toInt < (Int32.ofInt lo).toInt
              dsimp only at hq hlen
              rw [ex lo hlo hlo2]
              exact hq)
            refine ab_fin hk (((cpc : Int) + dflt).toNat, L, st', K', Ca) ?_ _ ⟨rfl, gl, gs2, hk', gm⟩
            refine List.mem_append_right _ (List.mem_append_left _ ?_)
            rw [e]
            exact List.mem_singleton.mpr rfl
          · obtain ⟨K', e, hk'⟩ := ab_br_ok (r := 4) (b := ab_c hi) gk hx rfl (by
              unfold ev_cmp
              refine decide_eq_true (Int32.lt_iff_toInt_lt.mpr ?_)
              show (Int32.ofInt hi).toInt < x.toInt
              dsimp only at hq hlen
              rw [ex hi hhi2 hhi]
              exact hq)
            refine ab_fin hk (((cpc : Int) + dflt).toNat, L, st', K', Ca) ?_ _ ⟨rfl, gl, gs2, hk', gm⟩
            refine List.mem_append_right _ (List.mem_append_right _ ?_)
            rw [e]
            exact List.mem_singleton.mpr rfl
        · dsimp only at hj
          obtain ⟨K', e, hk'⟩ := ab_br_ok (r := 0) (b := ab_c (Int32.ofInt (lo + ((0 + j : Nat) : Int))).toInt) gk hx (ab_c_at ρ _) (by
            unfold ev_cmp
            refine decide_eq_true ?_
            rw [Nat.zero_add, ← hj, Int32.ofInt_toInt])
          exact ab_fin hk (((cpc : Int) + o).toNat, L, st', K', Ca) (List.mem_append_left _ (ab_swj_in (S := (cpc, L, a :: st', K, Ca)) offs 0 j o ho e)) _ ⟨rfl, gl, gs2, hk', gm⟩
      · cases h1
end
section
/-! AB: cells -/
/-- all these cells are alike -/
def ab_same (cs : List Nat) (kd : Nat × Nat) : Bool := cs.all (fun c => decide (cm_kind c = kd))
theorem ab_same_in {cs : List Nat} {kd : Nat × Nat} (h : ab_same cs kd = true) {c : Nat} (hc : c ∈ cs) : cm_kind c = kd := of_decide_eq_true (List.all_eq_true.mp h c hc)
def ab_kd (cs : List Nat) : Nat × Nat := match cs with
  | c :: _ => cm_kind c
  | [] => (999, 0)
/-- which numbers a value can be -/
def ab_rl (b : Int × Int) : Option (List Int) := if b.2 - b.1 < 40 then some ((List.range (b.2 - b.1 + 1).toNat).map (fun (j : Nat) => b.1 + (j : Int))) else none
theorem ab_rl_in {b : Int × Int} {l : List Int} {x : Int32} (h : ab_rl b = some l) (hx : ev_inb b x) : x.toInt ∈ l := by
  unfold ab_rl at h
  split at h
  · cases h
    obtain ⟨h1, h2⟩ := hx
    exact List.mem_map.mpr ⟨(x.toInt - b.1).toNat, List.mem_range.mpr (by omega), by omega⟩
  · cases h
def ab_vals : Nat → ab_K → ab_A → Option (List Int)
  | 0, K, a => ab_rl (ab_bd K a)
  | n + 1, K, a => if a.1 = 3 then (match K[a.2.1.toNat]? with
    | some r => if r.2.2.1 = 1 ∨ r.2.2.1 = 2 ∨ r.2.2.1 = 3 then (match ab_vals n K r.2.2.2.1, ab_vals n K r.2.2.2.2 with
        | some l1, some l2 => if l1.length * l2.length ≤ 200 then some (l1.flatMap (fun x => l2.map (fun y => (ev_f r.2.2.1 (Int32.ofInt x) (Int32.ofInt y)).toInt))) else ab_rl (ab_bd K a)
        | _, _ => ab_rl (ab_bd K a)) else ab_rl (ab_bd K a)
    | none => ab_rl (ab_bd K a)) else ab_rl (ab_bd K a)
theorem ab_vals_in {ρ : List Int32} {K : ab_K} (hk : ab_k ρ K) : ∀ (n : Nat) {a : ab_A} {x : Int32} {l : List Int}, ab_i ρ a = some x → ab_vals n K a = some l → x.toInt ∈ l
  | 0, a, x, l, ha, h => ab_rl_in h (ab_bd_in hk ha)
  | n + 1, a, x, l, ha, h => by
    unfold ab_vals at h
    split at h
    · rename_i h3
      split at h
      · rename_i r hr
        split at h
        · rename_i hop
          split at h
          · rename_i l1 l2 e1 e2
            split at h
            · cases h
              have hx : ρ[a.2.1.toNat]? = some x := by
                unfold ab_i at ha
                rw [h3] at ha
                exact ha
              rcases (hk.2 _ r x hr hx).2 with hz | ⟨y, z, hy, hz, e⟩
              · omega
              · have i1 := ab_vals_in hk n hy e1
                have i2 := ab_vals_in hk n hz e2
                exact List.mem_flatMap.mpr ⟨y.toInt, i1, List.mem_map.mpr ⟨z.toInt, i2, by rw [Int32.ofInt_toInt, Int32.ofInt_toInt, ← e]⟩⟩
            · exact ab_rl_in h (ab_bd_in hk ha)
          · exact ab_rl_in h (ab_bd_in hk ha)
        · exact ab_rl_in h (ab_bd_in hk ha)
      · exact ab_rl_in h (ab_bd_in hk ha)
    · exact ab_rl_in h (ab_bd_in hk ha)
/-- a number within an array: which places -/
def ab_idx (K : ab_K) (a : ab_A) (len : Nat) : Option ab_Ix := match ab_vals 4 K a with
  | some l => if l.all (fun x => decide (0 ≤ x) && decide (x < (len : Int))) = true then some (some (l.map Int.toNat)) else (if 0 ≤ (ab_bd K a).1 ∧ (ab_bd K a).2 < (len : Int) then some (some (l.map Int.toNat)) else none)
  | none => if 0 ≤ (ab_bd K a).1 ∧ (ab_bd K a).2 < (len : Int) then some none else none
theorem ab_idx_ok {ρ : List Int32} {K : ab_K} {a : ab_A} {x : Int32} {len : Nat} {ix : ab_Ix} (hk : ab_k ρ K) (ha : ab_i ρ a = some x) (h : ab_idx K a len = some ix) : 0 ≤ x.toInt ∧ x.toInt < (len : Int) ∧ ab_ixin ix x.toNatClampNeg := by
  have hb := ab_bd_in hk ha
  unfold ab_idx at h
  split at h
  · rename_i l hl
    have hin := ab_vals_in hk 4 ha hl
    have hm : x.toNatClampNeg ∈ l.map Int.toNat := List.mem_map.mpr ⟨x.toInt, hin, rfl⟩
    split at h
    · rename_i hall
      cases h
      have := List.all_eq_true.mp hall _ hin
      simp only [Bool.and_eq_true, decide_eq_true_eq] at this
      exact ⟨this.1, this.2, hm⟩
    · split at h
      · rename_i hc
        cases h
        obtain ⟨b1, b2⟩ := hb
        exact ⟨by omega, by omega, hm⟩
      · cases h
  · split at h
    · rename_i hc
      cases h
      obtain ⟨b1, b2⟩ := hb
      exact ⟨by omega, by omega, trivial⟩
    · cases h
def ab_get : ab_O := fun h md P t S => match S.2.2.1 with
  | x :: st => if x.1 = 1 ∧ ab_same x.2.2 (ab_kd x.2.2) = true ∧ (ab_kd x.2.2).1 = t.1.toNat ∧ t.2.1.toNat < (ab_kd x.2.2).2 then (match cm_ft t.1.toNat t.2.1.toNat with
      | 2 => some [ab_adv S 3 ((6, 0, []) :: st)]
      | 3 => (match ab_ldR h S.2.2.2.2 x.2.2 [t.2.1.toNat] with
        | some a => some [ab_adv S 3 (a :: st)]
        | none => none)
      | 0 => some [(S.1 + 3, S.2.1, (ab_ldI h S.2.2.2.1 S.2.2.2.2 x.2.2 (some [t.2.1.toNat])).1 :: st, (ab_ldI h S.2.2.2.1 S.2.2.2.2 x.2.2 (some [t.2.1.toNat])).2)]
      | _ => none) else none
  | _ => none
theorem ab_get_ok : ab_Snd cm_get ab_get := by
  intro h N M0 md E P t S Ss C ρ k hN h1 hG hk
  obtain ⟨pc, L, st, K, Ca⟩ := S
  obtain ⟨cpc, CL, sc, M⟩ := C
  obtain ⟨e0, gl, gs, gk, gm⟩ := hG
  dsimp only at e0 gl gs gk gm
  subst e0
  unfold ab_get at h1
  dsimp only at h1
  split at h1
  · rename_i x st'
    split at h1
    · rename_i hc
      obtain ⟨hx1, hsm, hk1, hk2⟩ := hc
      obtain ⟨vx, sc2, rfl, hvx, gs2⟩ := ab_s_cons gs
      obtain ⟨c, hc, rfl⟩ := ab_v1 hx1 hvx
      have hkc := ab_same_in hsm hc
      refine ⟨by rw [hkc]; exact hk1, by rw [hkc]; exact hk2, ?_⟩
      split at h1
      · rename_i e
        cases h1
        rw [e]
        exact ab_fin hk _ (List.mem_singleton.mpr rfl) (cpc + 3, CL, .long (M.2.1 c t.2.1.toNat) :: sc2, M) ⟨rfl, gl, ⟨⟨_, rfl⟩, gs2⟩, gk, gm⟩
      · rename_i e
        split at h1
        · rename_i a ha
          cases h1
          rw [e]
          exact ab_fin hk _ (List.mem_singleton.mpr rfl) (cpc + 3, CL, cm_rq (M.2.2 c t.2.1.toNat) :: sc2, M) ⟨rfl, gl, ⟨ab_ldR_ok gm ha hc (List.mem_singleton.mpr rfl), gs2⟩, gk, gm⟩
        · cases h1
      · rename_i e
        cases h1
        rw [e]
        obtain ⟨ext, k1, k2, k3⟩ := ab_ldI_ok (i := t.2.1.toNat) hN gk gm (rfl : ab_ldI h K Ca x.2.2 (some [t.2.1.toNat]) = (_, _, _)) hc (List.mem_singleton.mpr rfl)
        exact hk _ (List.mem_singleton.mpr rfl) ext (cpc + 3, CL, .int (M.1 c t.2.1.toNat) :: sc2, M) ⟨rfl, ab_l_ap gl, ⟨ab_iv k2, ab_s_ap gs2⟩, k1, k3⟩
      · cases h1
    · cases h1
  · cases h1

def ab_put : ab_O := fun h md P t S => match S.2.2.1 with
  | a :: x :: st => if x.1 = 1 ∧ ab_same x.2.2 (ab_kd x.2.2) = true ∧ (ab_kd x.2.2).1 = t.1.toNat ∧ t.2.1.toNat < (ab_kd x.2.2).2 ∧ cm_fin t.1.toNat t.2.1.toNat = false then (match cm_ft t.1.toNat t.2.1.toNat with
      | 2 => if a.1 = 6 ∧ ab_stL h md x.2.2 (some [t.2.1.toNat]) = true then some [ab_adv S 3 st] else none
      | 3 => if a.1 = 1 ∧ ab_stR h md a x.2.2 t.2.1.toNat = true then some [(S.1 + 3, S.2.1, st, S.2.2.2.1, ab_keep S.2.2.2.2 x.2.2 (some [t.2.1.toNat]) a)] else none
      | 0 => if ab_isI a = true ∧ (cm_isB t.1.toNat t.2.1.toNat = true → 0 ≤ (ab_bd S.2.2.2.1 a).1 ∧ (ab_bd S.2.2.2.1 a).2 ≤ 1) ∧ ab_stI h md (ab_bd S.2.2.2.1 a) x.2.2 (some [t.2.1.toNat]) = true then some [(S.1 + 3, S.2.1, st, S.2.2.2.1, ab_keep S.2.2.2.2 x.2.2 (some [t.2.1.toNat]) a)] else none
      | _ => none) else none
  | _ => none
theorem ab_put_ok : ab_Snd cm_put ab_put := by
  intro h N M0 md E P t S Ss C ρ k hN h1 hG hk
  obtain ⟨pc, L, st, K, Ca⟩ := S
  obtain ⟨cpc, CL, sc, M⟩ := C
  obtain ⟨e0, gl, gs, gk, gm⟩ := hG
  dsimp only at e0 gl gs gk gm
  subst e0
  unfold ab_put at h1
  dsimp only at h1
  split at h1
  · rename_i a x st'
    split at h1
    · rename_i hc
      obtain ⟨hx1, hsm, hk1, hk2, hfin⟩ := hc
      obtain ⟨va, sc1, rfl, hva, gs1⟩ := ab_s_cons gs
      obtain ⟨vx, sc2, rfl, hvx, gs2⟩ := ab_s_cons gs1
      obtain ⟨c, hc, rfl⟩ := ab_v1 hx1 hvx
      have hkc := ab_same_in hsm hc
      split at h1
      · rename_i e
        split at h1
        · rename_i hq
          cases h1
          obtain ⟨z, rfl⟩ := ab_v6 hq.1 hva
          exact ⟨by rw [hkc]; exact hk1, by rw [hkc]; exact hk2, hfin, e, ab_fin hk _ (List.mem_singleton.mpr rfl) (cpc + 3, CL, sc2, cm_wl M c t.2.1.toNat z) ⟨rfl, gl, gs2, gk, ab_stL_ok hN gm hq.2 hc (List.mem_singleton.mpr rfl)⟩⟩
        · cases h1
      · rename_i e
        split at h1
        · rename_i hq
          cases h1
          have hva0 := hva
          obtain ⟨z, hz, rfl⟩ := ab_v1 hq.1 hva
          exact ⟨by rw [hkc]; exact hk1, by rw [hkc]; exact hk2, hfin, e, ab_fin hk _ (List.mem_singleton.mpr rfl) (cpc + 3, CL, sc2, cm_wr M c t.2.1.toNat (some z)) ⟨rfl, gl, gs2, gk, ab_stR_ok (r := some z) hN gm hq.2 hc (by unfold ab_isI; rw [hq.1]; rfl) hva0⟩⟩
        · cases h1
      · rename_i e
        split at h1
        · rename_i hq
          cases h1
          obtain ⟨z, hz, rfl⟩ := ab_vi hq.1 hva
          have hb := ab_bd_in gk hz
          refine ⟨by rw [hkc]; exact hk1, by rw [hkc]; exact hk2, hfin, ⟨e, fun hB => ?_⟩, ab_fin hk _ (List.mem_singleton.mpr rfl) (cpc + 3, CL, sc2, cm_wi M c t.2.1.toNat z) ⟨rfl, gl, gs2, gk, ab_stI_ok hN gm hq.2.2 hc (List.mem_singleton.mpr rfl) hz hb⟩⟩
          have h2 := hq.2.1 hB
          obtain ⟨b1, b2⟩ := hb
          have : z.toInt = 0 ∨ z.toInt = 1 := by omega
          rcases this with h0 | h0
          · exact Or.inl (Int32.toInt_inj.mp (by rw [h0]; rfl))
          · exact Or.inr (Int32.toInt_inj.mp (by rw [h0]; rfl))
        · cases h1
      · cases h1
    · cases h1
  · cases h1

def ab_iaload : ab_O := fun h md P t S => match S.2.2.1 with
  | i :: x :: st => if x.1 = 1 ∧ ab_isI i = true ∧ ab_same x.2.2 (ab_kd x.2.2) = true ∧ (ab_kd x.2.2).1 = 100 + 0 then (match ab_idx S.2.2.2.1 i (ab_kd x.2.2).2 with
      | some ix => some [(S.1 + 1, S.2.1, (ab_ldI h S.2.2.2.1 S.2.2.2.2 x.2.2 ix).1 :: st, (ab_ldI h S.2.2.2.1 S.2.2.2.2 x.2.2 ix).2)]
      | none => none) else none
  | _ => none
theorem ab_iaload_ok : ab_Snd cm_iaload ab_iaload := by
  intro h N M0 md E P t S Ss C ρ k hN h1 hG hk
  obtain ⟨pc, L, st, K, Ca⟩ := S
  obtain ⟨cpc, CL, sc, M⟩ := C
  obtain ⟨e0, gl, gs, gk, gm⟩ := hG
  dsimp only at e0 gl gs gk gm
  subst e0
  unfold ab_iaload at h1
  dsimp only at h1
  split at h1
  · rename_i i x st'
    split at h1
    · rename_i hc
      obtain ⟨hx1, hi0, hsm, hk1⟩ := hc
      obtain ⟨vi, sc1, rfl, hvi, gs1⟩ := ab_s_cons gs
      obtain ⟨vx, sc2, rfl, hvx, gs2⟩ := ab_s_cons gs1
      obtain ⟨j, hj, rfl⟩ := ab_vi hi0 hvi
      obtain ⟨c, hc, rfl⟩ := ab_v1 hx1 hvx
      have hkc := ab_same_in hsm hc
      split at h1
      · rename_i ix hix
        cases h1
        obtain ⟨q1, q2, q3⟩ := ab_idx_ok gk hj hix
        obtain ⟨ext, k1, k2, k3⟩ := ab_ldI_ok (i := j.toNatClampNeg) hN gk gm (rfl : ab_ldI h K Ca x.2.2 ix = (_, _, _)) hc q3
        exact ⟨by rw [hkc]; exact hk1, q1, by rw [hkc]; exact q2, hk _ (List.mem_singleton.mpr rfl) ext (cpc + 1, CL, .int (M.1 c j.toNatClampNeg) :: sc2, M) ⟨rfl, ab_l_ap gl, ⟨ab_iv k2, ab_s_ap gs2⟩, k1, k3⟩⟩
      · cases h1
    · cases h1
  · cases h1

def ab_baload : ab_O := fun h md P t S => match S.2.2.1 with
  | i :: x :: st => if x.1 = 1 ∧ ab_isI i = true ∧ ab_same x.2.2 (ab_kd x.2.2) = true ∧ (ab_kd x.2.2).1 = 100 + 1 then (match ab_idx S.2.2.2.1 i (ab_kd x.2.2).2 with
      | some ix => some [(S.1 + 1, S.2.1, (ab_ldI h S.2.2.2.1 S.2.2.2.2 x.2.2 ix).1 :: st, (ab_ldI h S.2.2.2.1 S.2.2.2.2 x.2.2 ix).2)]
      | none => none) else none
  | _ => none
theorem ab_baload_ok : ab_Snd cm_baload ab_baload := by
  intro h N M0 md E P t S Ss C ρ k hN h1 hG hk
  obtain ⟨pc, L, st, K, Ca⟩ := S
  obtain ⟨cpc, CL, sc, M⟩ := C
  obtain ⟨e0, gl, gs, gk, gm⟩ := hG
  dsimp only at e0 gl gs gk gm
  subst e0
  unfold ab_baload at h1
  dsimp only at h1
  split at h1
  · rename_i i x st'
    split at h1
    · rename_i hc
      obtain ⟨hx1, hi0, hsm, hk1⟩ := hc
      obtain ⟨vi, sc1, rfl, hvi, gs1⟩ := ab_s_cons gs
      obtain ⟨vx, sc2, rfl, hvx, gs2⟩ := ab_s_cons gs1
      obtain ⟨j, hj, rfl⟩ := ab_vi hi0 hvi
      obtain ⟨c, hc, rfl⟩ := ab_v1 hx1 hvx
      have hkc := ab_same_in hsm hc
      split at h1
      · rename_i ix hix
        cases h1
        obtain ⟨q1, q2, q3⟩ := ab_idx_ok gk hj hix
        obtain ⟨ext, k1, k2, k3⟩ := ab_ldI_ok (i := j.toNatClampNeg) hN gk gm (rfl : ab_ldI h K Ca x.2.2 ix = (_, _, _)) hc q3
        exact ⟨by rw [hkc]; exact hk1, q1, by rw [hkc]; exact q2, hk _ (List.mem_singleton.mpr rfl) ext (cpc + 1, CL, .int (M.1 c j.toNatClampNeg) :: sc2, M) ⟨rfl, ab_l_ap gl, ⟨ab_iv k2, ab_s_ap gs2⟩, k1, k3⟩⟩
      · cases h1
    · cases h1
  · cases h1

def ab_laload : ab_O := fun h md P t S => match S.2.2.1 with
  | i :: x :: st => if x.1 = 1 ∧ ab_isI i = true ∧ ab_same x.2.2 (ab_kd x.2.2) = true ∧ (ab_kd x.2.2).1 = 100 + 2 then (match ab_idx S.2.2.2.1 i (ab_kd x.2.2).2 with
      | some _ => some [ab_adv S 1 ((6, 0, []) :: st)]
      | none => none) else none
  | _ => none
theorem ab_laload_ok : ab_Snd cm_laload ab_laload := by
  intro h N M0 md E P t S Ss C ρ k hN h1 hG hk
  obtain ⟨pc, L, st, K, Ca⟩ := S
  obtain ⟨cpc, CL, sc, M⟩ := C
  obtain ⟨e0, gl, gs, gk, gm⟩ := hG
  dsimp only at e0 gl gs gk gm
  subst e0
  unfold ab_laload at h1
  dsimp only at h1
  split at h1
  · rename_i i x st'
    split at h1
    · rename_i hc
      obtain ⟨hx1, hi0, hsm, hk1⟩ := hc
      obtain ⟨vi, sc1, rfl, hvi, gs1⟩ := ab_s_cons gs
      obtain ⟨vx, sc2, rfl, hvx, gs2⟩ := ab_s_cons gs1
      obtain ⟨j, hj, rfl⟩ := ab_vi hi0 hvi
      obtain ⟨c, hc, rfl⟩ := ab_v1 hx1 hvx
      have hkc := ab_same_in hsm hc
      split at h1
      · rename_i ix hix
        cases h1
        obtain ⟨q1, q2, q3⟩ := ab_idx_ok gk hj hix
        exact ⟨by rw [hkc]; exact hk1, q1, by rw [hkc]; exact q2, ab_fin hk _ (List.mem_singleton.mpr rfl) (cpc + 1, CL, .long (M.2.1 c j.toNatClampNeg) :: sc2, M) ⟨rfl, gl, ⟨⟨_, rfl⟩, gs2⟩, gk, gm⟩⟩
      · cases h1
    · cases h1
  · cases h1

def ab_aaload : ab_O := fun h md P t S => match S.2.2.1 with
  | i :: x :: st => if x.1 = 1 ∧ ab_isI i = true ∧ ab_same x.2.2 (ab_kd x.2.2) = true ∧ (ab_kd x.2.2).1 = 100 + 3 then (match ab_idx S.2.2.2.1 i (ab_kd x.2.2).2 with
      | some (some l) => (match ab_ldR h S.2.2.2.2 x.2.2 l with
        | some a => some [ab_adv S 1 (a :: st)]
        | none => none)
      | _ => none) else none
  | _ => none
theorem ab_aaload_ok : ab_Snd cm_aaload ab_aaload := by
  intro h N M0 md E P t S Ss C ρ k hN h1 hG hk
  obtain ⟨pc, L, st, K, Ca⟩ := S
  obtain ⟨cpc, CL, sc, M⟩ := C
  obtain ⟨e0, gl, gs, gk, gm⟩ := hG
  dsimp only at e0 gl gs gk gm
  subst e0
  unfold ab_aaload at h1
  dsimp only at h1
  split at h1
  · rename_i i x st'
    split at h1
    · rename_i hc
      obtain ⟨hx1, hi0, hsm, hk1⟩ := hc
      obtain ⟨vi, sc1, rfl, hvi, gs1⟩ := ab_s_cons gs
      obtain ⟨vx, sc2, rfl, hvx, gs2⟩ := ab_s_cons gs1
      obtain ⟨j, hj, rfl⟩ := ab_vi hi0 hvi
      obtain ⟨c, hc, rfl⟩ := ab_v1 hx1 hvx
      have hkc := ab_same_in hsm hc
      split at h1
      · rename_i l hix
        split at h1
        · rename_i a ha
          cases h1
          obtain ⟨q1, q2, q3⟩ := ab_idx_ok gk hj hix
          exact ⟨by rw [hkc]; exact hk1, q1, by rw [hkc]; exact q2, ab_fin hk _ (List.mem_singleton.mpr rfl) (cpc + 1, CL, cm_rq (M.2.2 c j.toNatClampNeg) :: sc2, M) ⟨rfl, gl, ⟨ab_ldR_ok gm ha hc q3, gs2⟩, gk, gm⟩⟩
        · cases h1
      · cases h1
    · cases h1
  · cases h1

theorem ab_nar_b (x : Int32) : True := trivial
def ab_iastore : ab_O := fun h md P t S => match S.2.2.1 with
  | a :: i :: x :: st => if x.1 = 1 ∧ ab_isI i = true ∧ ab_isI a = true ∧ ab_same x.2.2 (ab_kd x.2.2) = true ∧ (ab_kd x.2.2).1 = 100 + 0 then (match ab_idx S.2.2.2.1 i (ab_kd x.2.2).2 with
      | some ix => if ab_stI h md (ab_bd S.2.2.2.1 a) x.2.2 ix = true then some [(S.1 + 1, S.2.1, st, S.2.2.2.1, ab_keep S.2.2.2.2 x.2.2 ix a)] else none
      | none => none) else none
  | _ => none
theorem ab_iastore_ok : ab_Snd cm_iastore ab_iastore := by
  intro h N M0 md E P t S Ss C ρ k hN h1 hG hk
  obtain ⟨pc, L, st, K, Ca⟩ := S
  obtain ⟨cpc, CL, sc, M⟩ := C
  obtain ⟨e0, gl, gs, gk, gm⟩ := hG
  dsimp only at e0 gl gs gk gm
  subst e0
  unfold ab_iastore at h1
  dsimp only at h1
  split at h1
  · rename_i a i x st'
    split at h1
    · rename_i hc
      obtain ⟨hx1, hi0, ha0, hsm, hk1⟩ := hc
      obtain ⟨va, sc0, rfl, hva, gs0⟩ := ab_s_cons gs
      obtain ⟨vi, sc1, rfl, hvi, gs1⟩ := ab_s_cons gs0
      obtain ⟨vx, sc2, rfl, hvx, gs2⟩ := ab_s_cons gs1
      obtain ⟨z, hz, rfl⟩ := ab_vi ha0 hva
      obtain ⟨j, hj, rfl⟩ := ab_vi hi0 hvi
      obtain ⟨c, hc, rfl⟩ := ab_v1 hx1 hvx
      have hkc := ab_same_in hsm hc
      split at h1
      · rename_i ix hix
        split at h1
        · rename_i hs
          cases h1
          obtain ⟨q1, q2, q3⟩ := ab_idx_ok gk hj hix
          exact ⟨by rw [hkc]; exact hk1, q1, by rw [hkc]; exact q2, ab_fin hk _ (List.mem_singleton.mpr rfl) (cpc + 1, CL, sc2, cm_wi M c j.toNatClampNeg z) ⟨rfl, gl, gs2, gk, ab_stI_ok hN gm hs hc q3 hz (ab_bd_in gk hz)⟩⟩
        · cases h1
      · cases h1
    · cases h1
  · cases h1

theorem ab_hl_nil {h : ab_H} {md : ab_Md} {cs : List Nat} {ix : ab_Ix} (hs : ab_stI h md ev_ful cs ix = true) (b : Int × Int) (hb : ev_ful.1 ≤ b.1 ∧ b.2 ≤ ev_ful.2) : ab_stI h md b cs ix = true := by
  refine List.all_eq_true.mpr (fun c hc => ?_)
  have h1 := List.all_eq_true.mp hs c hc
  simp only [Bool.and_eq_true] at h1 ⊢
  refine ⟨h1.1, h1.2.1, List.all_eq_true.mpr (fun e he => ?_)⟩
  have h2 := List.all_eq_true.mp h1.2.2 e he
  simp only [Bool.or_eq_true, Bool.and_eq_true, decide_eq_true_eq] at h2 ⊢
  rcases h2 with h2 | h2
  · exact Or.inl h2
  · exact Or.inr ⟨Int.le_trans h2.1 hb.1, Int.le_trans hb.2 h2.2⟩
def ab_bastore : ab_O := fun h md P t S => match S.2.2.1 with
  | a :: i :: x :: st => if x.1 = 1 ∧ ab_isI i = true ∧ ab_isI a = true ∧ ab_same x.2.2 (ab_kd x.2.2) = true ∧ (ab_kd x.2.2).1 = 100 + 1 then (match ab_idx S.2.2.2.1 i (ab_kd x.2.2).2 with
      | some ix => if ab_stI h md ev_ful x.2.2 ix = true then some [(S.1 + 1, S.2.1, st, (ab_any S.2.2.2.1 ev_ful).2, ab_keep S.2.2.2.2 x.2.2 ix (ab_any S.2.2.2.1 ev_ful).1)] else none
      | none => none) else none
  | _ => none
theorem ab_bastore_ok : ab_Snd cm_bastore ab_bastore := by
  intro h N M0 md E P t S Ss C ρ k hN h1 hG hk
  obtain ⟨pc, L, st, K, Ca⟩ := S
  obtain ⟨cpc, CL, sc, M⟩ := C
  obtain ⟨e0, gl, gs, gk, gm⟩ := hG
  dsimp only at e0 gl gs gk gm
  subst e0
  unfold ab_bastore at h1
  dsimp only at h1
  split at h1
  · rename_i a i x st'
    split at h1
    · rename_i hc
      obtain ⟨hx1, hi0, ha0, hsm, hk1⟩ := hc
      obtain ⟨va, sc0, rfl, hva, gs0⟩ := ab_s_cons gs
      obtain ⟨vi, sc1, rfl, hvi, gs1⟩ := ab_s_cons gs0
      obtain ⟨vx, sc2, rfl, hvx, gs2⟩ := ab_s_cons gs1
      obtain ⟨z, hz, rfl⟩ := ab_vi ha0 hva
      obtain ⟨j, hj, rfl⟩ := ab_vi hi0 hvi
      obtain ⟨c, hc, rfl⟩ := ab_v1 hx1 hvx
      have hkc := ab_same_in hsm hc
      split at h1
      · rename_i ix hix
        split at h1
        · rename_i hs
          cases h1
          obtain ⟨q1, q2, q3⟩ := ab_idx_ok gk hj hix
          obtain ⟨ext, k1, k2⟩ := ab_any_ok gk (ev_ful_in (vp_nar .byte z)) (rfl : ab_any K ev_ful = (_, _))
          exact ⟨by rw [hkc]; exact hk1, q1, by rw [hkc]; exact q2, hk _ (List.mem_singleton.mpr rfl) ext (cpc + 1, CL, sc2, cm_wi M c j.toNatClampNeg (vp_nar .byte z)) ⟨rfl, ab_l_ap gl, ab_s_ap gs2, k1, ab_stI_ok hN (ab_m_ap gm) hs hc q3 k2 (ev_ful_in _)⟩⟩
        · cases h1
      · cases h1
    · cases h1
  · cases h1

def ab_lastore : ab_O := fun h md P t S => match S.2.2.1 with
  | a :: i :: x :: st => if x.1 = 1 ∧ ab_isI i = true ∧ a.1 = 6 ∧ ab_same x.2.2 (ab_kd x.2.2) = true ∧ (ab_kd x.2.2).1 = 100 + 2 then (match ab_idx S.2.2.2.1 i (ab_kd x.2.2).2 with
      | some ix => if ab_stL h md x.2.2 ix = true then some [ab_adv S 1 st] else none
      | none => none) else none
  | _ => none
theorem ab_lastore_ok : ab_Snd cm_lastore ab_lastore := by
  intro h N M0 md E P t S Ss C ρ k hN h1 hG hk
  obtain ⟨pc, L, st, K, Ca⟩ := S
  obtain ⟨cpc, CL, sc, M⟩ := C
  obtain ⟨e0, gl, gs, gk, gm⟩ := hG
  dsimp only at e0 gl gs gk gm
  subst e0
  unfold ab_lastore at h1
  dsimp only at h1
  split at h1
  · rename_i a i x st'
    split at h1
    · rename_i hc
      obtain ⟨hx1, hi0, ha0, hsm, hk1⟩ := hc
      obtain ⟨va, sc0, rfl, hva, gs0⟩ := ab_s_cons gs
      obtain ⟨vi, sc1, rfl, hvi, gs1⟩ := ab_s_cons gs0
      obtain ⟨vx, sc2, rfl, hvx, gs2⟩ := ab_s_cons gs1
      obtain ⟨z, rfl⟩ := ab_v6 ha0 hva
      obtain ⟨j, hj, rfl⟩ := ab_vi hi0 hvi
      obtain ⟨c, hc, rfl⟩ := ab_v1 hx1 hvx
      have hkc := ab_same_in hsm hc
      split at h1
      · rename_i ix hix
        split at h1
        · rename_i hs
          cases h1
          obtain ⟨q1, q2, q3⟩ := ab_idx_ok gk hj hix
          exact ⟨by rw [hkc]; exact hk1, q1, by rw [hkc]; exact q2, ab_fin hk _ (List.mem_singleton.mpr rfl) (cpc + 1, CL, sc2, cm_wl M c j.toNatClampNeg z) ⟨rfl, gl, gs2, gk, ab_stL_ok hN gm hs hc q3⟩⟩
        · cases h1
      · cases h1
    · cases h1
  · cases h1

theorem ab_len_at (ρ : List Int32) (n : Nat) : ab_i ρ (ab_c (Int32.ofNat n).toInt) = some (Int32.ofNat n) := ab_c_at ρ _
def ab_alen : ab_O := fun h md P t S => match S.2.2.1 with
  | x :: st => if x.1 = 1 ∧ x.2.2.all (fun c => decide (c ≠ 1000)) = true ∧ ab_same x.2.2 (ab_kd x.2.2) = true ∧ 100 ≤ (ab_kd x.2.2).1 ∧ (ab_kd x.2.2).1 < 104 then some [ab_adv S 1 (ab_c (Int32.ofNat (ab_kd x.2.2).2).toInt :: st)] else none
  | _ => none
theorem ab_alen_ok : ab_Snd cm_alen ab_alen := by
  intro h N M0 md E P t S Ss C ρ k hN h1 hG hk
  obtain ⟨pc, L, st, K, Ca⟩ := S
  obtain ⟨cpc, CL, sc, M⟩ := C
  obtain ⟨e0, gl, gs, gk, gm⟩ := hG
  dsimp only at e0 gl gs gk gm
  subst e0
  unfold ab_alen at h1
  dsimp only at h1
  split at h1
  · rename_i x st'
    split at h1
    · rename_i hc
      cases h1
      obtain ⟨hx1, hne, hsm, hk1, hk2⟩ := hc
      obtain ⟨vx, sc2, rfl, hvx, gs2⟩ := ab_s_cons gs
      obtain ⟨c, hc, rfl⟩ := ab_v1 hx1 hvx
      have hkc := ab_same_in hsm hc
      have h0 : ¬ c = 1000 := of_decide_eq_true (List.all_eq_true.mp hne c hc)
      unfold cm_alen
      dsimp only
      rw [if_neg h0, hkc]
      exact ⟨hk1, hk2, ab_fin hk _ (List.mem_singleton.mpr rfl) (cpc + 1, CL, .int (Int32.ofNat (ab_kd x.2.2).2) :: sc2, M) ⟨rfl, gl, ⟨ab_iv (ab_c_at ρ _), gs2⟩, gk, gm⟩⟩
    · cases h1
  · cases h1

def ab_getV : ab_O := fun h md P t S => match S.2.2.1 with
  | (1, _, [c]) :: st => if 1001 ≤ c ∧ c < 1081 ∧ c % 2 = 1 then some [ab_adv S 3 ((1, 0, [c + 1]) :: st)] else none
  | _ => none
theorem ab_getV_ok : ab_Snd cm_getV ab_getV := by
  intro h N M0 md E P t S Ss C ρ k hN h1 hG hk
  obtain ⟨pc, L, st, K, Ca⟩ := S
  obtain ⟨cpc, CL, sc, M⟩ := C
  obtain ⟨e0, gl, gs, gk, gm⟩ := hG
  dsimp only at e0 gl gs gk gm
  subst e0
  unfold ab_getV at h1
  dsimp only at h1
  split at h1
  · rename_i n c st'
    split at h1
    · rename_i hc
      cases h1
      obtain ⟨vx, sc2, rfl, ⟨c', hc', rfl⟩, gs2⟩ := ab_s_cons gs
      cases List.mem_singleton.mp hc'
      exact ⟨hc.1, hc.2.1, hc.2.2, ab_fin hk _ (List.mem_singleton.mpr rfl) (cpc + 3, CL, .ref (c + 1) :: sc2, M) ⟨rfl, gl, ⟨⟨_, List.mem_singleton.mpr rfl, rfl⟩, gs2⟩, gk, gm⟩⟩
    · cases h1
  · cases h1

def ab_getC : ab_O := fun h md P t S => match S.2.2.1 with
  | (1, _, [c]) :: st => if 1001 ≤ c ∧ c < 1081 ∧ c % 2 = 1 then some [ab_adv S 3 (ab_c 0 :: st)] else none
  | _ => none
theorem ab_getC_ok : ab_Snd cm_getC ab_getC := by
  intro h N M0 md E P t S Ss C ρ k hN h1 hG hk
  obtain ⟨pc, L, st, K, Ca⟩ := S
  obtain ⟨cpc, CL, sc, M⟩ := C
  obtain ⟨e0, gl, gs, gk, gm⟩ := hG
  dsimp only at e0 gl gs gk gm
  subst e0
  unfold ab_getC at h1
  dsimp only at h1
  split at h1
  · rename_i n c st'
    split at h1
    · rename_i hc
      cases h1
      obtain ⟨vx, sc2, rfl, ⟨c', hc', rfl⟩, gs2⟩ := ab_s_cons gs
      cases List.mem_singleton.mp hc'
      exact ⟨hc.1, hc.2.1, hc.2.2, ab_fin hk _ (List.mem_singleton.mpr rfl) (cpc + 3, CL, .int 0 :: sc2, M) ⟨rfl, gl, ⟨rfl, gs2⟩, gk, gm⟩⟩
    · cases h1
  · cases h1

def ab_alenS : ab_O := fun h md P t S => match S.2.2.1 with
  | (1, _, [c]) :: st => (match ev_strs[(c - 1001) / 2]? with
    | some r => if 1001 ≤ c ∧ c < 1081 ∧ c % 2 = 0 then some [ab_adv S 1 (ab_c (Int32.ofNat r.2.2.2.length).toInt :: st)] else none
    | none => none)
  | _ => none
theorem ab_alenS_ok : ab_Snd cm_alenS ab_alenS := by
  intro h N M0 md E P t S Ss C ρ k hN h1 hG hk
  obtain ⟨pc, L, st, K, Ca⟩ := S
  obtain ⟨cpc, CL, sc, M⟩ := C
  obtain ⟨e0, gl, gs, gk, gm⟩ := hG
  dsimp only at e0 gl gs gk gm
  subst e0
  unfold ab_alenS at h1
  dsimp only at h1
  split at h1
  · rename_i n c st'
    split at h1
    · rename_i r hr
      split at h1
      · rename_i hc
        cases h1
        obtain ⟨vx, sc2, rfl, ⟨c', hc', rfl⟩, gs2⟩ := ab_s_cons gs
        cases List.mem_singleton.mp hc'
        unfold cm_alenS
        dsimp only
        rw [hr]
        exact ⟨hc.1, hc.2.1, hc.2.2, ab_fin hk _ (List.mem_singleton.mpr rfl) (cpc + 1, CL, .int (Int32.ofNat r.2.2.2.length) :: sc2, M) ⟨rfl, gl, ⟨ab_iv (ab_c_at ρ _), gs2⟩, gk, gm⟩⟩
      · cases h1
    · cases h1
  · cases h1

def ab_baloadS : ab_O := fun h md P t S => match S.2.2.1 with
  | i :: (1, _, [c]) :: st => (match ev_strs[(c - 1001) / 2]? with
    | some r => if 1001 ≤ c ∧ c < 1081 ∧ c % 2 = 0 ∧ ab_isI i = true ∧ 0 ≤ (ab_bd S.2.2.2.1 i).1 ∧ (ab_bd S.2.2.2.1 i).2 < (r.2.2.2.length : Int) then some [ab_advK S 1 ((ab_any S.2.2.2.1 ev_ful).1 :: st) (ab_any S.2.2.2.1 ev_ful).2] else none
    | none => none)
  | _ => none
theorem ab_baloadS_ok : ab_Snd cm_baloadS ab_baloadS := by
  intro h N M0 md E P t S Ss C ρ k hN h1 hG hk
  obtain ⟨pc, L, st, K, Ca⟩ := S
  obtain ⟨cpc, CL, sc, M⟩ := C
  obtain ⟨e0, gl, gs, gk, gm⟩ := hG
  dsimp only at e0 gl gs gk gm
  subst e0
  unfold ab_baloadS at h1
  dsimp only at h1
  split at h1
  · rename_i i n c st'
    split at h1
    · rename_i r hr
      split at h1
      · rename_i hc
        cases h1
        obtain ⟨vi, sc1, rfl, hvi, gs1⟩ := ab_s_cons gs
        obtain ⟨vx, sc2, rfl, ⟨c', hc', rfl⟩, gs2⟩ := ab_s_cons gs1
        cases List.mem_singleton.mp hc'
        obtain ⟨c1, c2, c3, c4, c5, c6⟩ := hc
        obtain ⟨j, hj, rfl⟩ := ab_vi c4 hvi
        obtain ⟨b1, b2⟩ := ab_bd_in gk hj
        obtain ⟨ext, k1, k2⟩ := ab_any_ok gk (ev_ful_in (r.2.2.2.getD j.toNatClampNeg 0)) (rfl : ab_any K ev_ful = (_, _))
        unfold cm_baloadS
        dsimp only
        rw [hr]
        exact ⟨c1, c2, c3, by omega, by omega, hk _ (List.mem_singleton.mpr rfl) ext (cpc + 1, CL, .int (r.2.2.2.getD j.toNatClampNeg 0) :: sc2, M) ⟨rfl, ab_l_ap gl, ⟨ab_iv k2, ab_s_ap gs2⟩, k1, ab_m_ap gm⟩⟩
      · cases h1
    · cases h1
  · cases h1

theorem ab_tens_in (j : Nat) (hj : j < 5) : ev_inb (1, 10000) (cm_tens j) := by
  have : ∀ j : Fin 5, ev_inb (1, 10000) (cm_tens j.val) := by
    unfold ev_inb
    decide
  exact this ⟨j, hj⟩
def ab_tald : ab_O := fun h md P t S => match S.2.2.1 with
  | i :: (1, _, [c]) :: st => if c = 1100 ∧ ab_isI i = true ∧ 0 ≤ (ab_bd S.2.2.2.1 i).1 ∧ (ab_bd S.2.2.2.1 i).2 < 5 then some [ab_advK S 1 ((ab_any S.2.2.2.1 (1, 10000)).1 :: st) (ab_any S.2.2.2.1 (1, 10000)).2] else none
  | _ => none
theorem ab_tald_ok : ab_Snd cm_tald ab_tald := by
  intro h N M0 md E P t S Ss C ρ k hN h1 hG hk
  obtain ⟨pc, L, st, K, Ca⟩ := S
  obtain ⟨cpc, CL, sc, M⟩ := C
  obtain ⟨e0, gl, gs, gk, gm⟩ := hG
  dsimp only at e0 gl gs gk gm
  subst e0
  unfold ab_tald at h1
  dsimp only at h1
  split at h1
  · rename_i i n c st'
    split at h1
    · rename_i hc
      cases h1
      obtain ⟨vi, sc1, rfl, hvi, gs1⟩ := ab_s_cons gs
      obtain ⟨vx, sc2, rfl, ⟨c', hc', rfl⟩, gs2⟩ := ab_s_cons gs1
      cases List.mem_singleton.mp hc'
      obtain ⟨c1, c4, c5, c6⟩ := hc
      obtain ⟨j, hj, rfl⟩ := ab_vi c4 hvi
      obtain ⟨b1, b2⟩ := ab_bd_in gk hj
      have hj5 : j.toNatClampNeg < 5 := by
        show j.toInt.toNat < 5
        omega
      obtain ⟨ext, k1, k2⟩ := ab_any_ok gk (ab_tens_in j.toNatClampNeg hj5) (rfl : ab_any K (1, 10000) = (_, _))
      exact ⟨c1, by omega, by omega, hk _ (List.mem_singleton.mpr rfl) ext (cpc + 1, CL, .int (cm_tens j.toNatClampNeg) :: sc2, M) ⟨rfl, ab_l_ap gl, ⟨ab_iv k2, ab_s_ap gs2⟩, k1, ab_m_ap gm⟩⟩
    · cases h1
  · cases h1

def ab_alenT : ab_O := fun h md P t S => match S.2.2.1 with
  | (1, _, [c]) :: st => if c = 1100 then some [ab_adv S 1 (ab_c 5 :: st)] else none
  | _ => none
theorem ab_alenT_ok : ab_Snd cm_alenT ab_alenT := by
  intro h N M0 md E P t S Ss C ρ k hN h1 hG hk
  obtain ⟨pc, L, st, K, Ca⟩ := S
  obtain ⟨cpc, CL, sc, M⟩ := C
  obtain ⟨e0, gl, gs, gk, gm⟩ := hG
  dsimp only at e0 gl gs gk gm
  subst e0
  unfold ab_alenT at h1
  dsimp only at h1
  split at h1
  · rename_i n c st'
    split at h1
    · rename_i hc
      cases h1
      obtain ⟨vx, sc2, rfl, ⟨c', hc', rfl⟩, gs2⟩ := ab_s_cons gs
      cases List.mem_singleton.mp hc'
      exact ⟨hc, ab_fin hk _ (List.mem_singleton.mpr rfl) (cpc + 1, CL, .int 5 :: sc2, M) ⟨rfl, gl, ⟨rfl, gs2⟩, gk, gm⟩⟩
    · cases h1
  · cases h1

def ab_copyi : ab_O := fun h md P t S => match S.2.2.1 with
  | n :: dp :: y :: sp :: x :: st => if ab_cs st ≤ 8 ∧ x.1 = 1 ∧ y.1 = 1 ∧ ab_isI n = true ∧ ab_isI dp = true ∧ ab_isI sp = true ∧ ab_same x.2.2 (ab_kd x.2.2) = true ∧ ab_same y.2.2 (ab_kd y.2.2) = true ∧ (ab_kd x.2.2).1 = 100 ∧ (ab_kd y.2.2).1 = 100 ∧ 0 ≤ (ab_bd S.2.2.2.1 sp).1 ∧ 0 ≤ (ab_bd S.2.2.2.1 dp).1 ∧ 0 ≤ (ab_bd S.2.2.2.1 n).1 ∧ (ab_bd S.2.2.2.1 sp).2 + (ab_bd S.2.2.2.1 n).2 ≤ ((ab_kd x.2.2).2 : Int) ∧ (ab_bd S.2.2.2.1 dp).2 + (ab_bd S.2.2.2.1 n).2 ≤ ((ab_kd y.2.2).2 : Int) ∧ ab_stC h md y.2.2 = true then some [(S.1 + 3, S.2.1, st, S.2.2.2.1, ab_drop S.2.2.2.2 y.2.2 none)] else none
  | _ => none
theorem ab_copyi_ok : ab_Snd cm_copyi ab_copyi := by
  intro h N M0 md E P t S Ss C ρ k hN h1 hG hk
  obtain ⟨pc, L, st, K, Ca⟩ := S
  obtain ⟨cpc, CL, sc, M⟩ := C
  obtain ⟨e0, gl, gs, gk, gm⟩ := hG
  dsimp only at e0 gl gs gk gm
  subst e0
  unfold ab_copyi at h1
  dsimp only at h1
  split at h1
  · rename_i n dp y sp x st'
    split at h1
    · rename_i hc
      cases h1
      obtain ⟨z0, z1, z2, z3, z4, z5, z6, z7, z8, z9, y1, y2, y3, y4, y5, y6⟩ := hc
      obtain ⟨v1, sc1, rfl, h1v, gs1⟩ := ab_s_cons gs
      obtain ⟨v2, sc2, rfl, h2v, gs2⟩ := ab_s_cons gs1
      obtain ⟨v3, sc3, rfl, h3v, gs3⟩ := ab_s_cons gs2
      obtain ⟨v4, sc4, rfl, h4v, gs4⟩ := ab_s_cons gs3
      obtain ⟨v5, sc5, rfl, h5v, gs5⟩ := ab_s_cons gs4
      obtain ⟨n0, hn, rfl⟩ := ab_vi z3 h1v
      obtain ⟨dp0, hdp, rfl⟩ := ab_vi z4 h2v
      obtain ⟨d, hd, rfl⟩ := ab_v1 z2 h3v
      obtain ⟨sp0, hsp, rfl⟩ := ab_vi z5 h4v
      obtain ⟨c, hc, rfl⟩ := ab_v1 z1 h5v
      have hkc := ab_same_in z6 hc
      have hkd := ab_same_in z7 hd
      obtain ⟨a1, a2⟩ := ab_bd_in gk hn
      obtain ⟨b1, b2⟩ := ab_bd_in gk hdp
      obtain ⟨c1, c2⟩ := ab_bd_in gk hsp
      have hcs := ab_cs_ok gs5
      exact ⟨by rw [hcs]; exact z0, by rw [hkc]; exact z8, by rw [hkd]; exact z9, by omega, by omega, by omega, by rw [hkc]; omega, by rw [hkd]; omega, ab_fin hk _ (List.mem_singleton.mpr rfl) (cpc + 3, CL, sc5, cm_cp M c sp0.toNatClampNeg d dp0.toNatClampNeg n0.toNatClampNeg) ⟨rfl, gl, gs5, gk, ab_stC_ok hN gm y6 hd⟩⟩
    · cases h1
  · cases h1
end
section
/-! AB: runs -/
def ab_ops : List ab_O := [ab_iconst, ab_bipush, ab_sipush, ab_lconst, ab_iload, ab_iloadn, ab_lload, ab_lloadn, ab_aload, ab_aloadn, ab_istore, ab_istoren, ab_lstore, ab_lstoren, ab_astore, ab_astoren, ab_iadd, ab_isub, ab_imul, ab_iand, ab_ior, ab_ixor, ab_ishl, ab_ishr, ab_iushr, ab_idiv, ab_irem, ab_ineg, ab_i2b, ab_i2l, ab_lcmp, ab_dup, ab_pop, ab_dup2, ab_iinc, ab_icmp_eq, ab_icmp_ne, ab_icmp_lt, ab_icmp_ge, ab_icmp_gt, ab_icmp_le, ab_if_eq, ab_if_ne, ab_if_lt, ab_if_ge, ab_if_gt, ab_if_le, ab_goto, ab_sw, ab_get, ab_put, ab_no, ab_iaload, ab_baload, ab_laload, ab_aaload, ab_iastore, ab_bastore, ab_no, ab_no, ab_no, ab_no, ab_no, ab_no, ab_alen, ab_no, ab_no, ab_mmin, ab_ldc, ab_ldcS, ab_getV, ab_getC, ab_gets, ab_alenS, ab_baloadS, ab_i2c, ab_ladd, ab_lsub, ab_lmul, ab_no, ab_no, ab_ldc2, ab_getsF, ab_ldcw, ab_mmax, ab_mabs, ab_copyi, ab_getT, ab_tald, ab_alenT, ab_lastore, ab_pop2]
def ab_All2 : List cm_O → List ab_O → Prop
  | [], [] => True
  | o :: os, a :: as => ab_Snd o a ∧ ab_All2 os as
  | _, _ => False
theorem ab_All2_at : ∀ {os : List cm_O} {as : List ab_O}, ab_All2 os as → ∀ (k : Nat) (a : ab_O), as[k]? = some a → ∃ o, os[k]? = some o ∧ ab_Snd o a
  | [], [], _, k, a, h => by cases h
  | [], _ :: _, h, _, _, _ => h.elim
  | _ :: _, [], h, _, _, _ => h.elim
  | o :: os, x :: as, h, 0, a, e => by cases e; exact ⟨o, rfl, h.1⟩
  | o :: os, x :: as, h, k + 1, a, e => ab_All2_at h.2 k a e
theorem ab_ops_ok : ab_All2 cm_ops ab_ops := ⟨ab_iconst_ok, ⟨ab_bipush_ok, ⟨ab_sipush_ok, ⟨ab_lconst_ok, ⟨ab_iload_ok, ⟨ab_iloadn_ok, ⟨ab_lload_ok, ⟨ab_lloadn_ok, ⟨ab_aload_ok, ⟨ab_aloadn_ok, ⟨ab_istore_ok, ⟨ab_istoren_ok, ⟨ab_lstore_ok, ⟨ab_lstoren_ok, ⟨ab_astore_ok, ⟨ab_astoren_ok, ⟨ab_iadd_ok, ⟨ab_isub_ok, ⟨ab_imul_ok, ⟨ab_iand_ok, ⟨ab_ior_ok, ⟨ab_ixor_ok, ⟨ab_ishl_ok, ⟨ab_ishr_ok, ⟨ab_iushr_ok, ⟨ab_idiv_ok, ⟨ab_irem_ok, ⟨ab_ineg_ok, ⟨ab_i2b_ok, ⟨ab_i2l_ok, ⟨ab_lcmp_ok, ⟨ab_dup_ok, ⟨ab_pop_ok, ⟨ab_dup2_ok, ⟨ab_iinc_ok, ⟨ab_icmp_eq_ok, ⟨ab_icmp_ne_ok, ⟨ab_icmp_lt_ok, ⟨ab_icmp_ge_ok, ⟨ab_icmp_gt_ok, ⟨ab_icmp_le_ok, ⟨ab_if_eq_ok, ⟨ab_if_ne_ok, ⟨ab_if_lt_ok, ⟨ab_if_ge_ok, ⟨ab_if_gt_ok, ⟨ab_if_le_ok, ⟨ab_goto_ok, ⟨ab_sw_ok, ⟨ab_get_ok, ⟨ab_put_ok, ⟨ab_no_ok _, ⟨ab_iaload_ok, ⟨ab_baload_ok, ⟨ab_laload_ok, ⟨ab_aaload_ok, ⟨ab_iastore_ok, ⟨ab_bastore_ok, ⟨ab_no_ok _, ⟨ab_no_ok _, ⟨ab_no_ok _, ⟨ab_no_ok _, ⟨ab_no_ok _, ⟨ab_no_ok _, ⟨ab_alen_ok, ⟨ab_no_ok _, ⟨ab_no_ok _, ⟨ab_mmin_ok, ⟨ab_ldc_ok, ⟨ab_ldcS_ok, ⟨ab_getV_ok, ⟨ab_getC_ok, ⟨ab_gets_ok, ⟨ab_alenS_ok, ⟨ab_baloadS_ok, ⟨ab_i2c_ok, ⟨ab_ladd_ok, ⟨ab_lsub_ok, ⟨ab_lmul_ok, ⟨ab_no_ok _, ⟨ab_no_ok _, ⟨ab_ldc2_ok, ⟨ab_getsF_ok, ⟨ab_ldcw_ok, ⟨ab_mmax_ok, ⟨ab_mabs_ok, ⟨ab_copyi_ok, ⟨ab_getT_ok, ⟨ab_tald_ok, ⟨ab_alenT_ok, ⟨ab_lastore_ok, ⟨ab_pop2_ok, trivial⟩⟩⟩⟩⟩⟩⟩⟩⟩⟩⟩⟩⟩⟩⟩⟩⟩⟩⟩⟩⟩⟩⟩⟩⟩⟩⟩⟩⟩⟩⟩⟩⟩⟩⟩⟩⟩⟩⟩⟩⟩⟩⟩⟩⟩⟩⟩⟩⟩⟩⟩⟩⟩⟩⟩⟩⟩⟩⟩⟩⟩⟩⟩⟩⟩⟩⟩⟩⟩⟩⟩⟩⟩⟩⟩⟩⟩⟩⟩⟩⟩⟩⟩⟩⟩⟩⟩⟩⟩⟩⟩⟩
abbrev ab_Out : Type := List ab_A × ab_K × ab_Ca
abbrev ab_Cl : Type := Nat → List ab_A → ab_K → ab_Ca → Option (List ab_Out)
def ab_take (recv : Bool) (n : Nat) (st : List ab_A) : Option (List ab_A × List ab_A) :=
  if recv = true then (match st.drop n with
    | x :: rest => if (st.take n).length = n then some (x :: (st.take n).reverse, rest) else none
    | [] => none)
  else (if (st.take n).length = n then some ((st.take n).reverse, st.drop n) else none)
/-- the receiver: one of the class's cells (99: a text) -/
def ab_recv (ci : Int) : List ab_A → Bool
  | a :: _ => decide (a.1 = 1) && a.2.2.all (fun c => if ci = 99 then decide (1001 ≤ c) && (decide (c < 1081) && decide (c % 2 = 1)) else decide ((cm_kind c).1 = ci.toNat))
  | [] => false
def ab_rcv (r : ev_Row) (as : List ab_A) : Bool := if r.1 = 200 then (match r.2.2.2.2 with
  | [ci] => ab_recv ci as
  | _ => false) else true
def ab_inv (cl : ab_Cl) (r : ev_Row) (S : ab_S) : Option (List ab_S) := match ab_take (!(r.1 == 201)) r.2.2.2.1.toNat S.2.2.1 with
  | some (as, rest) => if ab_cs rest ≤ 8 ∧ ab_rcv r as = true then (match cl r.2.1.toNat as S.2.2.2.1 S.2.2.2.2 with
      | some outs => some (outs.map (fun o => (S.1 + 3, S.2.1, o.1 ++ rest, o.2)))
      | none => none) else none
  | none => none
def ab_pick (L : List (Nat × ab_A)) : List Nat → Option (List (Nat × ab_A))
  | [] => some []
  | i :: r => match ev_at L i, ab_pick L r with
    | some v, some l => some ((i, v) :: l)
    | _, _ => none
theorem ab_pick_at {L : List (Nat × ab_A)} : ∀ {live : List Nat} {L' : List (Nat × ab_A)}, ab_pick L live = some L' → ∀ q ∈ L', ev_at L q.1 = some q.2
  | [], L', h => by cases h; exact fun q hq => nomatch hq
  | i :: r, L', h => by
    unfold ab_pick at h
    split at h
    · rename_i v l h1 h2
      cases h
      intro q hq
      rcases List.mem_cons.mp hq with rfl | hq
      · exact h1
      · exact ab_pick_at h2 q hq
    · cases h
theorem ab_pick_ok {ρ : List Int32} {L : List (Nat × ab_A)} {CL : List (Nat × Value)} (hl : ab_l ρ L CL) : ∀ {live : List Nat} {L' : List (Nat × ab_A)}, ab_pick L live = some L' → ∃ CL', cm_pick CL live = some CL' ∧ ab_l ρ L' CL'
  | [], L', h => by cases h; exact ⟨[], rfl, fun q hq => nomatch hq⟩
  | i :: r, L', h => by
    unfold ab_pick at h
    split at h
    · rename_i v l h1 h2
      cases h
      obtain ⟨CL', e1, e2⟩ := ab_pick_ok hl h2
      obtain ⟨x, x1, x2⟩ := hl _ (ev_at_mem h1)
      refine ⟨(i, x) :: CL', by unfold cm_pick; rw [x1, e1], fun q hq => ?_⟩
      rcases List.mem_cons.mp hq with rfl | hq
      · exact ⟨x, by unfold cm_look; rw [if_pos rfl], x2⟩
      · by_cases e : i = q.1
        · have := ab_pick_at h2 q hq
          rw [← e, h1] at this
          cases this
          exact ⟨x, by unfold cm_look; rw [if_pos e], x2⟩
        · obtain ⟨y, y1, y2⟩ := e2 q hq
          exact ⟨y, by unfold cm_look; rw [if_neg e]; exact y1, y2⟩
    · cases h
def ab_all {α β : Type} (f : α → Option (List β)) : List α → Option (List β)
  | [] => some []
  | S :: r => match f S, ab_all f r with
    | some a, some b => some (a ++ b)
    | _, _ => none
theorem ab_all_ok {α β : Type} {f : α → Option (List β)} : ∀ {Ss : List α} {o : List β}, ab_all f Ss = some o → ∀ S ∈ Ss, ∃ o', f S = some o' ∧ ∀ x ∈ o', x ∈ o
  | [], o, h => fun S hS => nomatch hS
  | S :: r, o, h => by
    unfold ab_all at h
    split at h
    · rename_i a b ha hb
      cases h
      intro S' hS'
      rcases List.mem_cons.mp hS' with rfl | hS'
      · exact ⟨a, ha, fun x hx => List.mem_append_left _ hx⟩
      · obtain ⟨o', h1, h2⟩ := ab_all_ok hb S' hS'
        exact ⟨o', h1, fun x hx => List.mem_append_right _ (h2 x hx)⟩
    · cases h
def ab_stop (stops : List (Nat × List Nat)) (k : ab_S → Option (List (Bool × ab_S))) (S : ab_S) : Option (List (Bool × ab_S)) := match ev_at stops S.1 with
  | none => k S
  | some live => (match ab_pick S.2.1 live with
    | some L => some [(true, S.1, L, S.2.2)]
    | none => none)
/-- a run to its ends: at stops (true), at returns (false) -/
def ab_run (cl : ab_Cl) (h : ab_H) (md : ab_Md) (P : ev_P) (rows : List (Nat × ev_Row)) (stops : List (Nat × List Nat)) : Nat → ab_S → Option (List (Bool × ab_S))
  | 0, _ => none
  | n + 1, S => match ev_at rows S.1 with
    | none => none
    | some r =>
      if 210 ≤ r.1 then some [(false, S)]
      else if 200 ≤ r.1 then (match ab_inv cl r S with
        | some Ss => ab_all (ab_stop stops (ab_run cl h md P rows stops n)) Ss
        | none => none)
      else (match ab_ops[r.1]? with
        | some o => (match o h md P r.2 S with
          | some Ss => ab_all (ab_stop stops (ab_run cl h md P rows stops n)) Ss
          | none => none)
        | none => none)
theorem ab_s_app {ρ : List Int32} : ∀ {a b : List ab_A} {x y : List Value}, ab_s ρ a x → ab_s ρ b y → ab_s ρ (a ++ b) (x ++ y)
  | [], _, [], _, _, h => h
  | [], _, _ :: _, _, h, _ => h.elim
  | _ :: _, _, [], _, h, _ => h.elim
  | _ :: _, _, _ :: _, _, h1, h2 => ⟨h1.1, ab_s_app h1.2 h2⟩
theorem ab_s_rev {ρ : List Int32} : ∀ {a : List ab_A} {x : List Value}, ab_s ρ a x → ab_s ρ a.reverse x.reverse
  | [], [], _ => trivial
  | [], _ :: _, h => h.elim
  | _ :: _, [], h => h.elim
  | a :: as, x :: xs, h => by
    rw [List.reverse_cons, List.reverse_cons]
    exact ab_s_app (ab_s_rev h.2) ⟨h.1, trivial⟩
theorem ab_s_split {ρ : List Int32} : ∀ (n : Nat) {a : List ab_A} {x : List Value}, ab_s ρ a x → ab_s ρ (a.take n) (x.take n) ∧ ab_s ρ (a.drop n) (x.drop n)
  | 0, _, _, h => ⟨trivial, h⟩
  | _ + 1, [], [], _ => ⟨trivial, trivial⟩
  | _ + 1, [], _ :: _, h => h.elim
  | _ + 1, _ :: _, [], h => h.elim
  | n + 1, _ :: _, _ :: _, h => ⟨⟨h.1, (ab_s_split n h.2).1⟩, (ab_s_split n h.2).2⟩
theorem ab_s_len {ρ : List Int32} : ∀ {a : List ab_A} {x : List Value}, ab_s ρ a x → a.length = x.length
  | [], [], _ => rfl
  | [], _ :: _, h => h.elim
  | _ :: _, [], h => h.elim
  | _ :: _, _ :: _, h => congrArg Nat.succ (ab_s_len h.2)
theorem ab_take_ok {ρ : List Int32} {recv : Bool} {n : Nat} {st as rest : List ab_A} {sc : List Value} (h : ab_take recv n st = some (as, rest)) (hs : ab_s ρ st sc) : ∃ vs restc, cm_take recv n sc = some (vs, restc) ∧ ab_s ρ as vs ∧ ab_s ρ rest restc := by
  obtain ⟨t1, t2⟩ := ab_s_split n hs
  have hl := ab_s_len t1
  unfold ab_take at h
  unfold cm_take
  split at h
  · rename_i hr
    rw [if_pos hr]
    split at h
    · rename_i x rest' hd
      split at h
      · rename_i hn
        cases h
        rw [hd] at t2
        obtain ⟨v, sc', e1, e2, e3⟩ := ab_s_cons t2
        rw [e1]
        dsimp only
        rw [if_pos (by rw [← hl]; exact hn)]
        exact ⟨_, _, rfl, ⟨e2, ab_s_rev t1⟩, e3⟩
      · cases h
    · cases h
  · rename_i hr
    rw [if_neg hr]
    split at h
    · rename_i hn
      cases h
      rw [if_pos (by rw [← hl]; exact hn)]
      exact ⟨_, _, rfl, ab_s_rev t1, t2⟩
    · cases h
section ABR
variable {ms : List ev_MI} {h : ab_H} {N : cm_M → Prop} {M0 : cm_M} {md : ab_Md} {d : Nat} {cl : ab_Cl} {E : cm_E} {P : ev_P} {rows : List (Nat × ev_Row)} {stops : List (Nat × List Nat)} {J : cm_S → Prop} {Z : Nat → cm_S → Prop}
/-- what a call may answer -/
def ab_Post (h : ab_H) (N : cm_M → Prop) (M0 : cm_M) (md : ab_Md) (ρ : List Int32) (outs : List ab_Out) : cm_K := fun v M' => ∃ o ∈ outs, ∃ ext, ab_s (ρ ++ ext) o.1 v.toList ∧ ab_k (ρ ++ ext) o.2.1 ∧ ab_m h N M0 md (ρ ++ ext) o.2.2 M'
def ab_ClOk (ms : List ev_MI) (h : ab_H) (N : cm_M → Prop) (M0 : cm_M) (md : ab_Md) (d : Nat) (cl : ab_Cl) : Prop := ∀ (k : Nat) (as : List ab_A) (K : ab_K) (Ca : ab_Ca) (outs : List ab_Out) (ρ : List Int32) (vs : List Value) (M : cm_M), cl k as K Ca = some outs → ab_s ρ as vs → ab_k ρ K → ab_m h N M0 md ρ Ca M → cm_Call ms d k vs M (ab_Post h N M0 md ρ outs)
theorem ab_inv_ok (hcl : ab_ClOk ms h N M0 md d cl) {q : Nat × ev_Row} (hrc : ab_RC ms q) (h200 : 200 ≤ q.2.1) (h210 : q.2.1 < 210) {S : ab_S} {Ss : List ab_S} {C : cm_S} {ρ : List Int32} {k : cm_S → Prop} (hi : ab_inv cl q.2 S = some Ss) (hG : ab_G h N M0 md ρ S C) (hk : ∀ S' ∈ Ss, ∀ (ext : List Int32) (C' : cm_S), ab_G h N M0 md (ρ ++ ext) S' C' → k C') : cm_inv ms (cm_Call ms d) q.2 C k := by
  obtain ⟨pc, L, st, K, Ca⟩ := S
  obtain ⟨cpc, CL, sc, M⟩ := C
  obtain ⟨e0, gl, gs, gk, gm⟩ := hG
  dsimp only at e0 gl gs gk gm
  subst e0
  obtain ⟨mi, hmi, hn, hrv⟩ := hrc h200 h210
  obtain ⟨qpc, op, t1, t2, t3, t4⟩ := q
  dsimp only at hmi hn hrv h200 h210 hi ⊢
  unfold ab_inv at hi
  dsimp only at hi
  split at hi
  · rename_i as rest htk
    split at hi
    · rename_i hc
      split at hi
      · rename_i outs hcall
        cases hi
        obtain ⟨vs, restc, e1, e2, e3⟩ := ab_take_ok htk gs
        unfold cm_inv
        dsimp only
        rw [hmi]
        dsimp only
        rw [e1]
        have hcs := ab_cs_ok e3
        refine ⟨by rw [hcs]; exact hc.1, hn, fun h2 => ?_, cm_Call_up (hcl _ _ _ _ _ ρ vs M hcall e2 gk gm) (Nat.le_refl _) (fun v M' hp => ?_)⟩
        · obtain ⟨ci, hci, hrecv⟩ : ∃ ci, t4 = [ci] ∧ ab_recv ci as = true := by
            have h3 := hc.2
            unfold ab_rcv at h3
            rw [if_pos h2] at h3
            split at h3
            · rename_i ci e
              exact ⟨ci, e, h3⟩
            · cases h3
          have hrv := hrv h2 ci hci
          unfold ab_recv at hrecv
          split at hrecv
          · rename_i a as'
            simp only [Bool.and_eq_true, decide_eq_true_eq] at hrecv
            obtain ⟨v, vs', rfl, hv, -⟩ := ab_s_cons e2
            obtain ⟨c, hc1, rfl⟩ := ab_v1 hrecv.1 hv
            have hcc := List.all_eq_true.mp hrecv.2 c hc1
            rcases hrv with ⟨h99, hs⟩ | ⟨h99, hs⟩
            · rw [if_pos h99] at hcc
              simp only [Bool.and_eq_true, decide_eq_true_eq] at hcc
              exact Or.inl ⟨hcc.1, hcc.2.1, hcc.2.2, hs⟩
            · rw [if_neg h99] at hcc
              simp only [decide_eq_true_eq] at hcc
              exact Or.inr (by rw [hcc]; exact hs)
          · cases hrecv
        · obtain ⟨o, ho, ext, p1, p2, p3⟩ := hp
          exact hk _ (List.mem_map.mpr ⟨o, ho, rfl⟩) ext (cpc + 3, CL, v.toList ++ restc, M') ⟨rfl, ab_l_ap gl, ab_s_app p1 (ab_s_ap e3), p2, p3⟩
      · cases hi
    · cases hi
  · cases hi
theorem ab_run_ok (hN : ab_NP h N) (hcl : ab_ClOk ms h N M0 md d cl) (hrc : ∀ q ∈ rows, ab_RC ms q) : ∀ (n : Nat) (S : ab_S) (fs : List (Bool × ab_S)) (C : cm_S) (ρ : List Int32), ab_run cl h md P rows stops n S = some fs → ab_G h N M0 md ρ S C → (∀ f ∈ fs, ∀ (ext : List Int32) (C' : cm_S), ab_G h N M0 md (ρ ++ ext) f.2 C' → (f.1 = true → J C') ∧ (f.1 = false → ∀ r, ev_at rows C'.1 = some r → 210 ≤ r.1 → Z r.1 C')) → cm_wp ms (cm_Call ms d) E P rows stops J Z n C
  | 0, S, fs, C, ρ, hr, _, _ => by cases hr
  | n + 1, S, fs, C, ρ, hr, hG, hf => by
    have hst : ∀ (Ss : List ab_S), ab_all (ab_stop stops (ab_run cl h md P rows stops n)) Ss = some fs → ∀ S' ∈ Ss, ∀ (ext : List Int32) (C' : cm_S), ab_G h N M0 md (ρ ++ ext) S' C' → cm_stop stops J (cm_wp ms (cm_Call ms d) E P rows stops J Z n) C' := by
      intro Ss hall S' hS' ext C' hG'
      obtain ⟨o', h1, h2⟩ := ab_all_ok hall S' hS'
      unfold ab_stop at h1
      unfold cm_stop
      rw [hG'.1]
      split at h1
      · rename_i e
        rw [e]
        exact ab_run_ok hN hcl hrc n S' o' C' (ρ ++ ext) h1 hG' (fun f hf1 ext' C2 hG2 => hf f (h2 f hf1) (ext ++ ext') C2 (by rw [← List.append_assoc]; exact hG2))
      · rename_i live e
        rw [e]
        split at h1
        · rename_i L' hL'
          cases h1
          obtain ⟨CL', e1, e2⟩ := ab_pick_ok hG'.2.1 hL'
          dsimp only
          rw [e1]
          exact (hf _ (h2 _ (List.mem_singleton.mpr rfl)) ext (S'.1, CL', C'.2.2) ⟨rfl, e2, hG'.2.2⟩).1 rfl
        · cases h1
    unfold ab_run at hr
    unfold cm_wp
    rw [hG.1]
    split at hr
    · cases hr
    · rename_i r hrr
      rw [hrr]
      dsimp only
      split at hr
      · rename_i h210
        rw [if_pos h210]
        cases hr
        exact (hf _ (List.mem_singleton.mpr rfl) [] C (by rw [ab_nil]; exact hG)).2 rfl r (by rw [hG.1]; exact hrr) h210
      · rename_i h210
        rw [if_neg h210]
        split at hr
        · rename_i h200
          rw [if_pos h200]
          split at hr
          · rename_i Ss hSs
            exact ab_inv_ok hcl (hrc _ (ev_at_mem hrr)) h200 (by dsimp only; omega) hSs hG (hst Ss hr)
          · cases hr
        · rename_i h200
          rw [if_neg h200]
          split at hr
          · rename_i o ho
            split at hr
            · rename_i Ss hSs
              obtain ⟨co, hco, hsnd⟩ := ab_All2_at ab_ops_ok r.1 o ho
              rw [hco]
              exact hsnd h N M0 md E P r.2 S Ss C ρ _ hN hSs hG (hst Ss hr)
            · cases hr
          · cases hr
end ABR
end
section
/-! AB: instances of templates -/
def ab_eqA (a b : ab_A) : Bool := decide (a.1 = b.1) && (decide (a.2.1 = b.2.1) && decide (a.2.2 = b.2.2))
theorem ab_eqA_ok {a b : ab_A} (h : ab_eqA a b = true) : a = b := by
  obtain ⟨a1, a2, a3⟩ := a
  obtain ⟨b1, b2, b3⟩ := b
  simp only [ab_eqA, Bool.and_eq_true, decide_eq_true_eq] at h
  obtain ⟨rfl, rfl, rfl⟩ := h
  rfl
/-- a's value is as t says, t's variables being sg -/
def ab_sub (K : ab_K) (sg : List ab_A) (t a : ab_A) : Bool := match t.1 with
  | 0 => ab_isI a && (decide ((ab_bd K a).1 = (Int32.ofInt t.2.1).toInt) && decide ((ab_bd K a).2 = (Int32.ofInt t.2.1).toInt))
  | 1 => decide (a.1 = 1) && a.2.2.all (fun c => t.2.2.contains c)
  | 2 => decide (a.1 = 2)
  | 3 => (match sg[t.2.1.toNat]? with
    | some b => ab_eqA b a && ab_isI a
    | none => false)
  | 6 => decide (a.1 = 6)
  | 7 => (decide (a.1 = 1) || (decide (a.1 = 2) || decide (a.1 = 7))) && a.2.2.all (fun c => t.2.2.contains c)
  | _ => false
def ab_rT (ρ : List Int32) (sg : List ab_A) : List Int32 := sg.map (fun b => (ab_i ρ b).getD 0)
theorem ab_rT_at {ρ : List Int32} {sg : List ab_A} {j : Nat} {b : ab_A} {x : Int32} (h : sg[j]? = some b) (hb : ab_i ρ b = some x) : (ab_rT ρ sg)[j]? = some x := by
  unfold ab_rT
  rw [List.getElem?_map, h]
  simp [hb]
theorem ab_sub_ok {ρ : List Int32} {K : ab_K} {sg : List ab_A} {t a : ab_A} {v : Value} (h : ab_sub K sg t a = true) (hk : ab_k ρ K) (hv : ab_v ρ a v) : ab_v (ab_rT ρ sg) t v := by
  unfold ab_sub at h
  split at h
  · rename_i e
    simp only [Bool.and_eq_true, decide_eq_true_eq] at h
    obtain ⟨h1, h2, h3⟩ := h
    obtain ⟨x, hx, rfl⟩ := ab_vi h1 hv
    obtain ⟨b1, b2⟩ := ab_bd_in hk hx
    unfold ab_v
    rw [e]
    have : x = Int32.ofInt t.2.1 := Int32.toInt_inj.mp (by omega)
    show Value.int x = .int (Int32.ofInt t.2.1)
    rw [this]
  · rename_i e
    simp only [Bool.and_eq_true, decide_eq_true_eq] at h
    obtain ⟨c, hc, rfl⟩ := ab_v1 h.1 hv
    unfold ab_v
    rw [e]
    exact ⟨c, List.contains_iff_mem.mp (List.all_eq_true.mp h.2 c hc), rfl⟩
  · rename_i e
    have h := of_decide_eq_true h
    unfold ab_v at hv ⊢
    rw [h] at hv
    rw [e]
    exact hv
  · rename_i e
    split at h
    · rename_i b hb
      simp only [Bool.and_eq_true] at h
      cases ab_eqA_ok h.1
      obtain ⟨x, hx, rfl⟩ := ab_vi h.2 hv
      unfold ab_v
      rw [e]
      exact ⟨x, ab_rT_at hb hx, rfl⟩
    · cases h
  · rename_i e
    have h := of_decide_eq_true h
    obtain ⟨x, rfl⟩ := ab_v6 h hv
    unfold ab_v
    rw [e]
    exact ⟨x, rfl⟩
  · rename_i e
    simp only [Bool.and_eq_true, Bool.or_eq_true, decide_eq_true_eq] at h
    obtain ⟨h1, h2⟩ := h
    unfold ab_v
    rw [e]
    have hin : ∀ c, c ∈ a.2.2 → c ∈ t.2.2 := fun c hc => List.contains_iff_mem.mp (List.all_eq_true.mp h2 c hc)
    unfold ab_v at hv
    rcases h1 with h1 | h1 | h1
    · rw [h1] at hv
      obtain ⟨c, hc, rfl⟩ := hv
      exact Or.inr ⟨c, hin c hc, rfl⟩
    · rw [h1] at hv
      exact Or.inl hv
    · rw [h1] at hv
      rcases hv with hv | ⟨c, hc, rfl⟩
      · exact Or.inl hv
      · exact Or.inr ⟨c, hin c hc, rfl⟩
  · cases h
/-- a value that stands -/
def ab_def (K : ab_K) (b : ab_A) : Bool := decide (b.1 = 0) || (decide (b.1 = 3) && decide (b.2.1.toNat < K.length))
theorem ab_def_ok {ρ : List Int32} {K : ab_K} {b : ab_A} (h : ab_def K b = true) (hk : ab_k ρ K) : ∃ x, ab_i ρ b = some x := by
  simp only [ab_def, Bool.or_eq_true, Bool.and_eq_true, decide_eq_true_eq] at h
  unfold ab_i
  rcases h with h | ⟨h, h2⟩
  · rw [h]; exact ⟨_, rfl⟩
  · rw [h]; exact ⟨_, List.getElem?_eq_getElem (by rw [← hk.1]; exact h2)⟩
def ab_sb (sg : List ab_A) (a : ab_A) : ab_A := if a.1 = 3 then (match sg[a.2.1.toNat]? with
  | some b => b
  | none => (9, 0, [])) else a
theorem ab_sb_ok {ρ : List Int32} {sg : List ab_A} {a : ab_A} {y : Int32} (h : ab_i ρ (ab_sb sg a) = some y) : ab_i (ab_rT ρ sg) a = some y := by
  unfold ab_sb at h
  split at h
  · rename_i h3
    split at h
    · rename_i b hb
      unfold ab_i
      rw [h3]
      exact ab_rT_at hb h
    · cases h
  · rename_i h3
    unfold ab_i at h ⊢
    split at h
    · rename_i e; exact h
    · rename_i e; exact absurd e h3
    · cases h
/-- the template's knowledge holds -/
def ab_kin (K : ab_K) (sg : List ab_A) (b : ab_A) (r : ab_Ke) : Bool := ab_def K b && (decide (r.1 ≤ (ab_bd K b).1) && (decide ((ab_bd K b).2 ≤ r.2.1) && (decide (r.2.2.1 = 0) || (decide (b.1 = 3) && (match K[b.2.1.toNat]? with
  | some q => decide (q.2.2.1 = r.2.2.1) && (decide (q.2.2.1 ≠ 0) && (ab_eqA q.2.2.2.1 (ab_sb sg r.2.2.2.1) && ab_eqA q.2.2.2.2 (ab_sb sg r.2.2.2.2)))
  | none => false)))))
def ab_kins (K : ab_K) (sg : List ab_A) : List ab_A → ab_K → Bool
  | [], [] => true
  | b :: bs, r :: rs => ab_kin K sg b r && ab_kins K sg bs rs
  | _, _ => false
theorem ab_kins_at {K : ab_K} {sg : List ab_A} : ∀ {bs : List ab_A} {rs : ab_K}, ab_kins K sg bs rs = true → bs.length = rs.length ∧ ∀ (j : Nat) (b : ab_A) (r : ab_Ke), bs[j]? = some b → rs[j]? = some r → ab_kin K sg b r = true
  | [], [], _ => ⟨rfl, fun j b r h => by cases h⟩
  | [], _ :: _, h => by cases h
  | _ :: _, [], h => by cases h
  | b :: bs, r :: rs, h => by
    unfold ab_kins at h
    simp only [Bool.and_eq_true] at h
    obtain ⟨i1, i2⟩ := ab_kins_at h.2
    refine ⟨by rw [List.length_cons, List.length_cons, i1], fun j b' r' h1 h2 => ?_⟩
    cases j with
    | zero => cases h1; cases h2; exact h.1
    | succ j => exact i2 j b' r' h1 h2
theorem ab_kins_ok {ρ : List Int32} {K TK : ab_K} {sg : List ab_A} (hk : ab_k ρ K) (h : ab_kins K sg sg TK = true) : ab_k (ab_rT ρ sg) TK ∧ ∀ b ∈ sg, ∃ x, ab_i ρ b = some x := by
  obtain ⟨hl, hat⟩ := ab_kins_at h
  have hall : ∀ b ∈ sg, ∃ x, ab_i ρ b = some x := by
    intro b hb
    obtain ⟨j, hj⟩ := List.getElem?_of_mem hb
    have hlt : j < TK.length := by rw [← hl]; exact (List.getElem?_eq_some_iff.mp hj).1
    have h1 := hat j b _ hj (List.getElem?_eq_getElem hlt)
    unfold ab_kin at h1
    simp only [Bool.and_eq_true] at h1
    exact ab_def_ok h1.1 hk
  refine ⟨⟨by unfold ab_rT; rw [List.length_map, hl], fun j r x h1 h2 => ?_⟩, hall⟩
  have hlt : j < sg.length := by rw [hl]; exact (List.getElem?_eq_some_iff.mp h1).1
  have hb := List.getElem?_eq_getElem hlt
  obtain ⟨y, hy⟩ := hall _ (List.mem_of_getElem? hb)
  rw [ab_rT_at hb hy] at h2
  cases h2
  have h3 := hat j _ r hb h1
  unfold ab_kin at h3
  simp only [Bool.and_eq_true, Bool.or_eq_true, decide_eq_true_eq] at h3
  obtain ⟨d1, d2, d3, d4⟩ := h3
  obtain ⟨b1, b2⟩ := ab_bd_in hk hy
  refine ⟨⟨Int.le_trans d2 b1, Int.le_trans b2 d3⟩, ?_⟩
  rcases d4 with d4 | ⟨d4, d5⟩
  · exact Or.inl d4
  · refine Or.inr ?_
    split at d5
    · rename_i q hq
      simp only [Bool.and_eq_true, decide_eq_true_eq] at d5
      obtain ⟨f1, f2, f3, f4⟩ := d5
      have hy2 : ρ[(sg[j]).2.1.toNat]? = some x := by
        unfold ab_i at hy
        rw [d4] at hy
        exact hy
      rcases (hk.2 _ q x hq hy2).2 with hz | ⟨u, z, hu, hz, e⟩
      · exact absurd hz f2
      · rw [ab_eqA_ok f3] at hu
        rw [ab_eqA_ok f4] at hz
        exact ⟨u, z, ab_sb_ok hu, ab_sb_ok hz, by rw [← f1]; exact e⟩
    · cases d5
/-- entries of the memory that the template tells are read -/
def ab_fill (h : ab_H) : ab_Ca → ab_K → ab_Ca → ab_K × ab_Ca
  | [], K, Ca => (K, Ca)
  | q :: r, K, Ca => if ab_isI q.2.2 = true ∧ ab_cf Ca q.1 q.2.1 = none then ab_fill h r (ab_ldI h K Ca [q.1] (some [q.2.1])).2.1 (ab_ldI h K Ca [q.1] (some [q.2.1])).2.2 else ab_fill h r K Ca
theorem ab_fill_ok {h : ab_H} {N : cm_M → Prop} {M0 : cm_M} {md : ab_Md} {M : cm_M} (hN : ab_NP h N) : ∀ (T : ab_Ca) {K : ab_K} {Ca : ab_Ca} {ρ : List Int32}, ab_k ρ K → ab_m h N M0 md ρ Ca M → ∃ ext, ab_k (ρ ++ ext) (ab_fill h T K Ca).1 ∧ ab_m h N M0 md (ρ ++ ext) (ab_fill h T K Ca).2 M
  | [], K, Ca, ρ, hk, hm => ⟨[], by rw [ab_nil]; exact hk, by rw [ab_nil]; exact hm⟩
  | q :: r, K, Ca, ρ, hk, hm => by
    unfold ab_fill
    split
    · obtain ⟨ext, k1, k2, k3⟩ := ab_ldI_ok (c := q.1) (i := q.2.1) hN hk hm (rfl : ab_ldI h K Ca [q.1] (some [q.2.1]) = (_, _, _)) (List.mem_singleton.mpr rfl) (List.mem_singleton.mpr rfl)
      obtain ⟨ext2, e1, e2⟩ := ab_fill_ok hN r k1 k3
      exact ⟨ext ++ ext2, by rw [← List.append_assoc]; exact e1, by rw [← List.append_assoc]; exact e2⟩
    · exact ab_fill_ok hN r hk hm
def ab_subs (K : ab_K) (sg : List ab_A) : List ab_A → List ab_A → Bool
  | [], [] => true
  | t :: ts, a :: as => ab_sub K sg t a && ab_subs K sg ts as
  | _, _ => false
theorem ab_subs_ok {ρ : List Int32} {K : ab_K} {sg : List ab_A} (hk : ab_k ρ K) : ∀ {ts as : List ab_A} {vs : List Value}, ab_subs K sg ts as = true → ab_s ρ as vs → ab_s (ab_rT ρ sg) ts vs
  | [], [], [], _, _ => trivial
  | [], [], _ :: _, _, h => h.elim
  | [], _ :: _, _, h, _ => by cases h
  | _ :: _, [], _, h, _ => by cases h
  | _ :: _, _ :: _, [], _, h => h.elim
  | t :: ts, a :: as, v :: vs, h, hs => by
    unfold ab_subs at h
    simp only [Bool.and_eq_true] at h
    exact ⟨ab_sub_ok h.1 hk hs.1, ab_subs_ok hk h.2 hs.2⟩
def ab_subL (K : ab_K) (sg : List ab_A) (TL L : List (Nat × ab_A)) : Bool := TL.all (fun q => match ev_at L q.1 with
  | some a => ab_sub K sg q.2 a
  | none => false)
theorem ab_subL_ok {ρ : List Int32} {K : ab_K} {sg : List ab_A} {TL L : List (Nat × ab_A)} {CL : List (Nat × Value)} (hk : ab_k ρ K) (h : ab_subL K sg TL L = true) (hl : ab_l ρ L CL) : ab_l (ab_rT ρ sg) TL CL := by
  intro q hq
  have h1 := List.all_eq_true.mp h q hq
  split at h1
  · rename_i a ha
    obtain ⟨v, x1, x2⟩ := hl _ (ev_at_mem ha)
    exact ⟨v, x1, ab_sub_ok h1 hk x2⟩
  · cases h1
def ab_subC (h : ab_H) (K : ab_K) (sg : List ab_A) (T Ca : ab_Ca) : Bool := T.all (fun q => if ab_isI q.2.2 = true then (match ab_cf Ca q.1 q.2.1 with
    | some a => ab_isI a && ab_sub K sg q.2.2 a
    | none => false) else (match ab_ldR h Ca [q.1] [q.2.1] with
    | some a => ab_sub K sg q.2.2 a
    | none => false))
theorem ab_subC_ok {h : ab_H} {N : cm_M → Prop} {M0 : cm_M} {md : ab_Md} {ρ : List Int32} {K : ab_K} {sg : List ab_A} {T Ca : ab_Ca} {M : cm_M} (hk : ab_k ρ K) (hs : ab_subC h K sg T Ca = true) (hm : ab_m h N M0 md ρ Ca M) : ab_ca (ab_rT ρ sg) M T := by
  intro q hq
  have h1 := List.all_eq_true.mp hs q hq
  unfold ab_ce
  split
  · rename_i hI
    rw [if_pos hI] at h1
    split at h1
    · rename_i a ha
      simp only [Bool.and_eq_true] at h1
      have h2 := hm.2.2 _ (ab_cf_mem ha)
      unfold ab_ce at h2
      rw [if_pos h1.1] at h2
      exact ab_vint (ab_sub_ok h1.2 hk (ab_iv h2))
    · cases h1
  · rename_i hI
    rw [if_neg hI] at h1
    split at h1
    · rename_i a ha
      exact ab_sub_ok h1 hk (ab_ldR_ok hm ha (List.mem_singleton.mpr rfl) (List.mem_singleton.mpr rfl))
    · cases h1
/-- the template's variables, found where they stand -/
def ab_prs (T S : ab_S) : List (ab_A × ab_A) := T.2.1.filterMap (fun q => (ev_at S.2.1 q.1).map (fun a => (q.2, a))) ++ (T.2.2.1.zip S.2.2.1 ++ T.2.2.2.2.filterMap (fun q => (ab_cf S.2.2.2.2 q.1 q.2.1).map (fun a => (q.2.2, a))))
def ab_sgf (prs : List (ab_A × ab_A)) (j : Nat) : ab_A := match prs with
  | [] => (9, 0, [])
  | p :: r => if p.1.1 = 3 ∧ p.1.2.1 = (j : Int) then p.2 else ab_sgf r j
def ab_sig (nE : Nat) (T S : ab_S) : List ab_A := (List.range T.2.2.2.1.length).map (fun j => if j < nE then ab_x j else ab_sgf (ab_prs T S) j)
/-! relations at a template are made new -/
/-- a value as another one and a number -/
def ab_un1 (K : ab_K) (a : ab_A) : ab_A × Int := if a.1 = 3 then (match K[a.2.1.toNat]? with
  | some r => if r.2.2.1 = 1 ∧ r.2.2.2.2.1 = 0 ∧ -2147483648 ≤ (ab_bd K r.2.2.2.1).1 + (Int32.ofInt r.2.2.2.2.2.1).toInt ∧ (ab_bd K r.2.2.2.1).2 + (Int32.ofInt r.2.2.2.2.2.1).toInt ≤ 2147483647 then (r.2.2.2.1, (Int32.ofInt r.2.2.2.2.2.1).toInt) else (a, 0)
  | none => (a, 0)) else (a, 0)
theorem ab_un1_ok {ρ : List Int32} {K : ab_K} {a u : ab_A} {c : Int} {x : Int32} (hk : ab_k ρ K) (ha : ab_i ρ a = some x) (h : ab_un1 K a = (u, c)) : ∃ y, ab_i ρ u = some y ∧ x.toInt = y.toInt + c := by
  unfold ab_un1 at h
  split at h
  · rename_i h3
    split at h
    · rename_i r hr
      split at h
      · rename_i hc
        cases h
        have hx : ρ[a.2.1.toNat]? = some x := by
          unfold ab_i at ha
          rw [h3] at ha
          exact ha
        have hcn : ab_i ρ r.2.2.2.2 = some (Int32.ofInt r.2.2.2.2.2.1) := by
          unfold ab_i
          rw [hc.2.1]
          rfl
        rcases (hk.2 _ r x hr hx).2 with hz | ⟨y, z, hy, hz, e⟩
        · omega
        · rw [hcn] at hz
          cases hz
          obtain ⟨y1, y2⟩ := ab_bd_in hk hy
          rw [hc.1] at e
          have e : x = y + Int32.ofInt r.2.2.2.2.2.1 := e
          refine ⟨y, hy, ?_⟩
          rw [e, Int32.toInt_add]
          exact ev_bm (by omega) (by omega)
      · cases h
        exact ⟨x, ha, by omega⟩
    · cases h
      exact ⟨x, ha, by omega⟩
  · cases h
    exact ⟨x, ha, by omega⟩
/-- bounds of y - x that a relation tells -/
def ab_rfd (y x : ab_A) : List ab_Ke → Option (Int × Int)
  | [] => none
  | r :: l => if r.2.2.1 = 22 ∧ ab_eqA r.2.2.2.1 y = true ∧ ab_eqA r.2.2.2.2 x = true then some (r.1, r.2.1) else ab_rfd y x l
theorem ab_rfd_ok {ρ : List Int32} {y x : ab_A} {yv xv : Int32} (hy : ab_i ρ y = some yv) (hx : ab_i ρ x = some xv) : ∀ {l : List ab_Ke} {b : Int × Int}, (∀ r ∈ l, ∃ w, ab_e ρ r w) → ab_rfd y x l = some b → ev_inb b (yv - xv)
  | [], b, _, h => by cases h
  | r :: l, b, hl, h => by
    unfold ab_rfd at h
    split at h
    · rename_i hc
      cases h
      obtain ⟨w, hw⟩ := hl r List.mem_cons_self
      rcases hw.2 with hz | ⟨y', x', h1, h2, e⟩
      · omega
      · rw [ab_eqA_ok hc.2.1, hy] at h1
        rw [ab_eqA_ok hc.2.2, hx] at h2
        cases h1
        cases h2
        rw [hc.1] at e
        have e : w = yv - xv := e
        rw [← e]
        exact hw.1
    · exact ab_rfd_ok hy hx (fun q hq => hl q (List.mem_cons_of_mem _ hq)) h
def ab_df (K : ab_K) (y x : ab_A) : Int × Int :=
  let g := ev_bd 22 (ab_bd K y) (ab_bd K x)
  let u := ab_un1 K y
  let v := ab_un1 K x
  match ab_rfd u.1 v.1 K with
  | some b => if -2147483648 ≤ (ab_bd K u.1).1 - (ab_bd K v.1).2 ∧ (ab_bd K u.1).2 - (ab_bd K v.1).1 ≤ 2147483647 ∧ -2147483648 ≤ b.1 + u.2 - v.2 ∧ b.2 + u.2 - v.2 ≤ 2147483647 then (max g.1 (b.1 + u.2 - v.2), min g.2 (b.2 + u.2 - v.2)) else g
  | none => g
theorem ab_df_in {ρ : List Int32} {K : ab_K} {y x : ab_A} {yv xv : Int32} (hk : ab_k ρ K) (hy : ab_i ρ y = some yv) (hx : ab_i ρ x = some xv) : ev_inb (ab_df K y x) (ev_f 22 yv xv) := by
  have hg : ev_inb (ev_bd 22 (ab_bd K y) (ab_bd K x)) (ev_f 22 yv xv) := ev_bd_in (ab_bd_in hk hy) (ab_bd_in hk hx)
  obtain ⟨ua, uc, hua⟩ : ∃ a b, ab_un1 K y = (a, b) := ⟨_, _, rfl⟩
  obtain ⟨va, vc, hva⟩ : ∃ a b, ab_un1 K x = (a, b) := ⟨_, _, rfl⟩
  unfold ab_df
  rw [hua, hva]
  dsimp only
  split
  · rename_i b hb
    split
    · rename_i hc
      obtain ⟨u, hu, eu⟩ := ab_un1_ok hk hy hua
      obtain ⟨v, hv, ev⟩ := ab_un1_ok hk hx hva
      obtain ⟨b1, b2⟩ := ab_rfd_ok hu hv (ab_k_all hk) hb
      obtain ⟨u1, u2⟩ := ab_bd_in hk hu
      obtain ⟨v1, v2⟩ := ab_bd_in hk hv
      have e1 : (u - v).toInt = u.toInt - v.toInt := by
        rw [Int32.toInt_sub]
        exact ev_bm (by omega) (by omega)
      have e2 : (ev_f 22 yv xv).toInt = yv.toInt - xv.toInt := by
        show (yv - xv).toInt = _
        rw [Int32.toInt_sub]
        exact ev_bm (by omega) (by omega)
      obtain ⟨g1, g2⟩ := hg
      refine ⟨?_, ?_⟩
      · dsimp only; omega
      · dsimp only; omega
    · exact hg
  · exact hg
/-- the relations of the template, made new in the state -/
def ab_rls (sg0 : List ab_A) : ab_K → List ab_A → ab_K → ab_K × List ab_A
  | r :: TK, b :: sg, K => if r.2.2.1 = 22 then
      (let q := ab_rls sg0 TK sg (K ++ [((ab_df K (ab_sb sg0 r.2.2.2.1) (ab_sb sg0 r.2.2.2.2)).1, (ab_df K (ab_sb sg0 r.2.2.2.1) (ab_sb sg0 r.2.2.2.2)).2, 22, ab_sb sg0 r.2.2.2.1, ab_sb sg0 r.2.2.2.2)])
       if ab_def K (ab_sb sg0 r.2.2.2.1) = true ∧ ab_def K (ab_sb sg0 r.2.2.2.2) = true then (q.1, ab_x K.length :: q.2) else (K, []))
    else (let q := ab_rls sg0 TK sg K
          (q.1, b :: q.2))
  | _, _, K => (K, [])
theorem ab_rls_ok {h : ab_H} {N : cm_M → Prop} {M0 : cm_M} {md : ab_Md} {Ca : ab_Ca} {M : cm_M} {sg0 : List ab_A} : ∀ (TK : ab_K) (sg : List ab_A) {K : ab_K} {ρ : List Int32}, ab_k ρ K → ab_m h N M0 md ρ Ca M → ∃ ext, ab_k (ρ ++ ext) (ab_rls sg0 TK sg K).1 ∧ ab_m h N M0 md (ρ ++ ext) Ca M
  | [], sg, K, ρ, hk, hm => ⟨[], by rw [ab_nil]; unfold ab_rls; exact hk, by rw [ab_nil]; exact hm⟩
  | _ :: _, [], K, ρ, hk, hm => ⟨[], by rw [ab_nil]; unfold ab_rls; exact hk, by rw [ab_nil]; exact hm⟩
  | r :: TK, b :: sg, K, ρ, hk, hm => by
    unfold ab_rls
    split
    · dsimp only
      split
      · rename_i hd
        obtain ⟨y, hy⟩ := ab_def_ok hd.1 hk
        obtain ⟨x, hx⟩ := ab_def_ok hd.2 hk
        have hk2 := ab_push hk (r := ((ab_df K (ab_sb sg0 r.2.2.2.1) (ab_sb sg0 r.2.2.2.2)).1, (ab_df K (ab_sb sg0 r.2.2.2.1) (ab_sb sg0 r.2.2.2.2)).2, 22, ab_sb sg0 r.2.2.2.1, ab_sb sg0 r.2.2.2.2)) (x := ev_f 22 y x) ⟨ab_df_in hk hy hx, Or.inr ⟨y, x, hy, hx, rfl⟩⟩
        obtain ⟨ext, e1, e2⟩ := ab_rls_ok (sg0 := sg0) TK sg hk2 (ab_m_ap hm)
        exact ⟨[ev_f 22 y x] ++ ext, by rw [← List.append_assoc]; exact e1, by rw [← List.append_assoc]; exact e2⟩
      · exact ⟨[], by rw [ab_nil]; exact hk, by rw [ab_nil]; exact hm⟩
    · dsimp only
      exact ab_rls_ok (sg0 := sg0) TK sg hk hm
def ab_in (h : ab_H) (nE : Nat) (T S : ab_S) : Option (ab_K × ab_Ca × List ab_A) :=
  let f := ab_fill h T.2.2.2.2 S.2.2.2.1 S.2.2.2.2
  let g := ab_rls (ab_sig nE T (S.1, S.2.1, S.2.2.1, f.1, f.2)) T.2.2.2.1 (ab_sig nE T (S.1, S.2.1, S.2.2.1, f.1, f.2)) f.1
  if nE ≤ g.2.length ∧ (List.range nE).all (fun j => match g.2[j]? with
      | some b => ab_eqA b (ab_x j)
      | none => false) = true ∧ ab_kins g.1 g.2 g.2 T.2.2.2.1 = true ∧ ab_subL g.1 g.2 T.2.1 S.2.1 = true ∧ ab_subs g.1 g.2 T.2.2.1 S.2.2.1 = true ∧ ab_subC h g.1 g.2 T.2.2.2.2 f.2 = true then some (g.1, f.2, g.2) else none
theorem ab_sig_pre {nE : Nat} {sg : List ab_A} {ρ0 e : List Int32} (h0 : ρ0.length = nE) (hn : nE ≤ sg.length) (hs : (List.range nE).all (fun j => match sg[j]? with
      | some b => ab_eqA b (ab_x j)
      | none => false) = true) : ∃ eT, ab_rT (ρ0 ++ e) sg = ρ0 ++ eT := by
  refine ⟨(ab_rT (ρ0 ++ e) sg).drop nE, ?_⟩
  have : (ab_rT (ρ0 ++ e) sg).take nE = ρ0 := by
    apply List.ext_getElem?
    intro j
    by_cases hj : j < nE
    · rw [List.getElem?_take_of_lt hj]
      have h1 := List.all_eq_true.mp hs j (List.mem_range.mpr hj)
      split at h1
      · rename_i b hb
        have hb2 := ab_eqA_ok h1
        subst hb2
        rw [List.getElem?_eq_getElem (show j < ρ0.length by omega)]
        refine ab_rT_at hb ?_
        show (ρ0 ++ e)[((j : Int)).toNat]? = some ρ0[j]
        rw [Int.toNat_natCast, List.getElem?_append_left (by omega), List.getElem?_eq_getElem (by omega)]
      · cases h1
    · rw [List.getElem?_eq_none (by rw [List.length_take]; omega), List.getElem?_eq_none (by omega)]
  have h1 := List.take_append_drop nE (ab_rT (ρ0 ++ e) sg)
  rw [this] at h1
  exact h1.symm
theorem ab_in_ok {h : ab_H} {N : cm_M → Prop} {M0 : cm_M} {md : ab_Md} {nE : Nat} {T S : ab_S} {K1 : ab_K} {Ca1 : ab_Ca} {sg : List ab_A} {ρ0 e : List Int32} {C : cm_S} (hN : ab_NP h N) (hin : ab_in h nE T S = some (K1, Ca1, sg)) (h0 : ρ0.length = nE) (gl : ab_l (ρ0 ++ e) S.2.1 C.2.1) (gs : ab_s (ρ0 ++ e) S.2.2.1 C.2.2.1) (gk : ab_k (ρ0 ++ e) S.2.2.2.1) (gm : ab_m h N M0 md (ρ0 ++ e) S.2.2.2.2 C.2.2.2) :
    ∃ e1 eT, ab_k (ρ0 ++ e ++ e1) K1 ∧ ab_m h N M0 md (ρ0 ++ e ++ e1) Ca1 C.2.2.2 ∧ ab_rT (ρ0 ++ e ++ e1) sg = ρ0 ++ eT ∧ (∀ b ∈ sg, ∃ x, ab_i (ρ0 ++ e ++ e1) b = some x) ∧ ab_l (ρ0 ++ eT) T.2.1 C.2.1 ∧ ab_s (ρ0 ++ eT) T.2.2.1 C.2.2.1 ∧ ab_k (ρ0 ++ eT) T.2.2.2.1 ∧ ab_m h N M0 md (ρ0 ++ eT) T.2.2.2.2 C.2.2.2 := by
  unfold ab_in at hin
  dsimp only at hin
  split at hin
  · rename_i hc
    cases hin
    obtain ⟨c0, cp, c1, c2, c3, c4⟩ := hc
    obtain ⟨e1, k1, k2⟩ := ab_fill_ok hN T.2.2.2.2 gk gm
    obtain ⟨e2, k1, k2⟩ := ab_rls_ok (sg0 := ab_sig nE T (S.1, S.2.1, S.2.2.1, (ab_fill h T.2.2.2.2 S.2.2.2.1 S.2.2.2.2).1, (ab_fill h T.2.2.2.2 S.2.2.2.1 S.2.2.2.2).2)) T.2.2.2.1 (ab_sig nE T (S.1, S.2.1, S.2.2.1, (ab_fill h T.2.2.2.2 S.2.2.2.1 S.2.2.2.2).1, (ab_fill h T.2.2.2.2 S.2.2.2.1 S.2.2.2.2).2)) k1 k2
    rw [List.append_assoc (ρ0 ++ e)] at k1 k2
    obtain ⟨r1, r2⟩ := ab_kins_ok k1 c1
    obtain ⟨eT, hT⟩ := ab_sig_pre (e := e ++ (e1 ++ e2)) h0 c0 cp
    rw [← List.append_assoc] at hT
    refine ⟨e1 ++ e2, eT, k1, k2, hT, r2, ?_, ?_, ?_, k2.1, k2.2.1, ?_⟩
    · rw [← hT]; exact ab_subL_ok k1 c2 (ab_l_ap gl)
    · rw [← hT]; exact ab_subs_ok k1 c3 (ab_s_ap gs)
    · rw [← hT]; exact r1
    · rw [← hT]; exact ab_subC_ok k1 c4 k2
  · cases hin
end
section
/-! AB: contracts of methods: method, arguments, knowledge, memory, what may be written, ends (their stack, knowledge, memory) -/
abbrev ab_Ct : Type := Nat × List ab_A × ab_K × ab_Ca × ab_Md × List ab_Out
def ab_CT (ms : List ev_MI) (h : ab_H) (N : cm_M → Prop) (d : Nat) (c : ab_Ct) : Prop := ∀ (ρ : List Int32) (vs : List Value) (M : cm_M), ab_s ρ c.2.1 vs → ab_k ρ c.2.2.1 → ab_ok h N M → ab_ca ρ M c.2.2.2.1 → cm_Call ms d c.1 vs M (ab_Post h N M c.2.2.2.2.1 ρ c.2.2.2.2.2)
def ab_mds (a b : ab_Md) : Bool := a.all (fun q => match ev_at b q.1 with
  | some l => l.isEmpty || (!(q.2.isEmpty) && q.2.all (fun i => l.contains i))
  | none => false)
theorem ab_mds_ok {a b : ab_Md} (h : ab_mds a b = true) {c i : Nat} (hb : ab_inM b c i = false) : ab_inM a c i = false := by
  cases ha : ab_inM a c i with
  | false => rfl
  | true =>
    unfold ab_inM at ha
    split at ha
    · rename_i l hl
      have h1 := List.all_eq_true.mp h _ (ev_at_mem hl)
      dsimp only at h1
      unfold ab_inM at hb
      split at h1
      · rename_i l2 hl2
        rw [hl2] at hb
        simp only [Bool.or_eq_false_iff] at hb
        simp only [Bool.or_eq_true, Bool.and_eq_true, Bool.not_eq_true'] at h1
        rcases h1 with h1 | ⟨h1, h2⟩
        · rw [hb.1] at h1; cases h1
        · simp only [Bool.or_eq_true] at ha
          rcases ha with ha | ha
          · rw [h1] at ha; cases ha
          · have h3 := List.all_eq_true.mp h2 i (List.contains_iff_mem.mp ha)
            rw [hb.2] at h3
            cases h3
      · cases h1
    · cases ha
/-- a contract's variables at a call: those of its start by sg, new ones behind -/
def ab_tv (sg : List ab_A) (n : Nat) (a : ab_A) : ab_A := if a.1 = 3 then (match sg[a.2.1.toNat]? with
  | some b => b
  | none => ab_x (n + (a.2.1.toNat - sg.length))) else a
def ab_tk (sg : List ab_A) (n : Nat) (r : ab_Ke) : ab_Ke := (r.1, r.2.1, r.2.2.1, ab_tv sg n r.2.2.2.1, ab_tv sg n r.2.2.2.2)
theorem ab_tv_i {ρ ext : List Int32} {sg : List ab_A} {n : Nat} (hn : n = ρ.length) (hsg : ∀ b ∈ sg, ∃ x, ab_i ρ b = some x) {a : ab_A} {y : Int32} (h : ab_i (ab_rT ρ sg ++ ext) a = some y) : ab_i (ρ ++ ext) (ab_tv sg n a) = some y := by
  unfold ab_tv
  split
  · rename_i h3
    unfold ab_i at h
    rw [h3] at h
    have h : (ab_rT ρ sg ++ ext)[a.2.1.toNat]? = some y := h
    have hlen : (ab_rT ρ sg).length = sg.length := by unfold ab_rT; rw [List.length_map]
    split
    · rename_i b hb
      have hlt := (List.getElem?_eq_some_iff.mp hb).1
      rw [List.getElem?_append_left (by rw [hlen]; exact hlt)] at h
      obtain ⟨x, hx⟩ := hsg b (List.mem_of_getElem? hb)
      rw [ab_rT_at hb hx] at h
      cases h
      exact ab_i_ap hx
    · rename_i hb
      have hge : sg.length ≤ a.2.1.toNat := List.getElem?_eq_none_iff.mp hb
      rw [List.getElem?_append_right (by rw [hlen]; exact hge), hlen] at h
      unfold ab_x ab_i
      dsimp only
      rw [Int.toNat_natCast, List.getElem?_append_right (by omega)]
      rw [show n + (a.2.1.toNat - sg.length) - ρ.length = a.2.1.toNat - sg.length by omega]
      exact h
  · rename_i h3
    unfold ab_i at h ⊢
    split at h
    · exact h
    · rename_i e; exact absurd e h3
    · cases h
theorem ab_tv_v {ρ ext : List Int32} {sg : List ab_A} {n : Nat} (hn : n = ρ.length) (hsg : ∀ b ∈ sg, ∃ x, ab_i ρ b = some x) {a : ab_A} {v : Value} (h : ab_v (ab_rT ρ sg ++ ext) a v) : ab_v (ρ ++ ext) (ab_tv sg n a) v := by
  by_cases h3 : a.1 = 3
  · obtain ⟨x, hx, rfl⟩ := ab_vi (by unfold ab_isI; rw [h3]; rfl) h
    exact ab_iv (ab_tv_i hn hsg hx)
  · have e : ab_tv sg n a = a := by unfold ab_tv; rw [if_neg h3]
    rw [e]
    unfold ab_v at h ⊢
    split at h
    · exact h
    · exact h
    · exact h
    · rename_i e2; exact absurd e2 h3
    · exact h
    · exact h
    · exact h
theorem ab_tv_s {ρ ext : List Int32} {sg : List ab_A} {n : Nat} (hn : n = ρ.length) (hsg : ∀ b ∈ sg, ∃ x, ab_i ρ b = some x) : ∀ {st : List ab_A} {vs : List Value}, ab_s (ab_rT ρ sg ++ ext) st vs → ab_s (ρ ++ ext) (st.map (ab_tv sg n)) vs
  | [], [], _ => trivial
  | [], _ :: _, h => h.elim
  | _ :: _, [], h => h.elim
  | _ :: _, _ :: _, h => ⟨ab_tv_v hn hsg h.1, ab_tv_s hn hsg h.2⟩
theorem ab_tv_isI {ρ : List Int32} {sg : List ab_A} {n : Nat} (hsg : ∀ b ∈ sg, ∃ x, ab_i ρ b = some x) (a : ab_A) : ab_isI (ab_tv sg n a) = ab_isI a := by
  unfold ab_tv
  split
  · rename_i h3
    have e : ab_isI a = true := by unfold ab_isI; rw [h3]; rfl
    rw [e]
    split
    · rename_i b hb
      obtain ⟨x, hx⟩ := hsg b (List.mem_of_getElem? hb)
      exact ab_ivI hx
    · rfl
  · rfl
def ab_use (h : ab_H) (md : ab_Md) (c : ab_Ct) (as : List ab_A) (K : ab_K) (Ca : ab_Ca) : Option (List ab_Out) :=
  if ab_mds c.2.2.2.2.1 md = true then (match ab_in h 0 (0, [], c.2.1, c.2.2.1, c.2.2.2.1) (0, [], as, K, Ca) with
    | some (K1, Ca1, sg) => some (c.2.2.2.2.2.map (fun e => (e.1.map (ab_tv sg K1.length), K1 ++ (e.2.1.drop sg.length).map (ab_tk sg K1.length), Ca1.filter (fun q => !(ab_inM c.2.2.2.2.1 q.1 q.2.1)) ++ e.2.2.map (fun q => (q.1, q.2.1, ab_tv sg K1.length q.2.2)))))
    | none => none) else none
theorem ab_use_ok {ms : List ev_MI} {h : ab_H} {N : cm_M → Prop} {M0 : cm_M} {md : ab_Md} {d : Nat} {c : ab_Ct} (hN : ab_NP h N) (hc : ab_CT ms h N d c) {as : List ab_A} {K : ab_K} {Ca : ab_Ca} {outs : List ab_Out} {ρ : List Int32} {vs : List Value} {M : cm_M} (hu : ab_use h md c as K Ca = some outs) (gs : ab_s ρ as vs) (gk : ab_k ρ K) (gm : ab_m h N M0 md ρ Ca M) : cm_Call ms d c.1 vs M (ab_Post h N M0 md ρ outs) := by
  unfold ab_use at hu
  split at hu
  · rename_i hmd
    split at hu
    · rename_i K1 Ca1 sg hin
      cases hu
      obtain ⟨e1, eT, k1, k2, k3, k4, -, k6, k7, k8⟩ := ab_in_ok (N := N) (M0 := M0) (md := md) (ρ0 := []) (e := ρ) (C := (0, [], vs, M)) hN hin rfl (fun q hq => nomatch hq) gs gk gm
      rw [List.nil_append] at k1 k2 k3 k4 k6 k7 k8
      dsimp only at k6 k7 k8 k2
      rw [List.nil_append] at k3
      rw [← k3] at k6 k7 k8
      refine cm_Call_up (hc _ vs M k6 k7 k8.1 k8.2.2) (Nat.le_refl _) (fun v M' hp => ?_)
      obtain ⟨o, ho, ext, p1, p2, p3⟩ := hp
      have hn : K1.length = (ρ ++ e1).length := k1.1
      have hlen : (ab_rT (ρ ++ e1) sg).length = sg.length := by unfold ab_rT; rw [List.length_map]
      refine ⟨_, List.mem_map.mpr ⟨o, ho, rfl⟩, e1 ++ ext, ?_, ?_, p3.1, ?_, ?_⟩
      · rw [← List.append_assoc]
        exact ab_tv_s hn k4 p1
      · rw [← List.append_assoc]
        have hol : o.2.1.length = sg.length + ext.length := by rw [p2.1, List.length_append, hlen]
        refine ⟨by simp only [List.length_append, List.length_map, List.length_drop]; rw [hn, hol, List.length_append]; omega, fun j r x h1 h2 => ?_⟩
        by_cases hj : j < K1.length
        · rw [List.getElem?_append_left hj] at h1
          rw [List.getElem?_append_left (by rw [← hn]; exact hj)] at h2
          exact ab_e_ap (k1.2 j r x h1 h2)
        · rw [List.getElem?_append_right (by omega), List.getElem?_map, List.getElem?_drop] at h1
          rw [List.getElem?_append_right (by rw [← hn]; omega)] at h2
          cases hz : o.2.1[sg.length + (j - K1.length)]? with
          | none => rw [hz] at h1; cases h1
          | some r0 =>
            rw [hz] at h1
            cases h1
            have h5 := p2.2 (sg.length + (j - K1.length)) r0 x hz (by
              rw [List.getElem?_append_right (by rw [hlen]; omega), hlen, show sg.length + (j - K1.length) - sg.length = j - (ρ ++ e1).length by omega]
              exact h2)
            refine ⟨h5.1, ?_⟩
            rcases h5.2 with h6 | ⟨y, z, hy, hz2, e⟩
            · exact Or.inl h6
            · exact Or.inr ⟨y, z, ab_tv_i hn k4 hy, ab_tv_i hn k4 hz2, e⟩
      · intro c' i' hm'
        obtain ⟨f1, f2, f3⟩ := p3.2.1 c' i' (ab_mds_ok hmd hm')
        obtain ⟨g1, g2, g3⟩ := k2.2.1 c' i' hm'
        exact ⟨f1.trans g1, f2.trans g2, f3.trans g3⟩
      · intro q hq
        rw [← List.append_assoc]
        rcases List.mem_append.mp hq with hq | hq
        · obtain ⟨q1, q2⟩ := List.mem_filter.mp hq
          have q2 : ab_inM c.2.2.2.2.1 q.1 q.2.1 = false := by simpa using q2
          obtain ⟨f1, -, f3⟩ := p3.2.1 q.1 q.2.1 q2
          exact ab_ce_ap (ab_ce_ne f1 f3 (k2.2.2 q q1))
        · obtain ⟨q0, h0, rfl⟩ := List.mem_map.mp hq
          have h1 := p3.2.2 q0 h0
          unfold ab_ce at h1 ⊢
          dsimp only
          rw [ab_tv_isI k4]
          split
          · rename_i hI
            rw [if_pos hI] at h1
            exact ab_tv_i hn k4 h1
          · rename_i hI
            rw [if_neg hI] at h1
            exact ab_tv_v hn k4 h1
    · cases hu
  · cases hu
def ab_uses (h : ab_H) (md : ab_Md) (us : List ab_Ct) (k : Nat) (as : List ab_A) (K : ab_K) (Ca : ab_Ca) : Option (List ab_Out) := match us with
  | [] => none
  | c :: r => if c.1 = k then (match ab_use h md c as K Ca with
      | some o => some o
      | none => ab_uses h md r k as K Ca) else ab_uses h md r k as K Ca
theorem ab_uses_ok {ms : List ev_MI} {h : ab_H} {N : cm_M → Prop} {M0 : cm_M} {md : ab_Md} {d : Nat} (hN : ab_NP h N) : ∀ {us : List ab_Ct}, (∀ c ∈ us, ab_CT ms h N d c) → ab_ClOk ms h N M0 md d (ab_uses h md us)
  | [], _ => fun k as K Ca outs ρ vs M hu => by cases hu
  | c :: r, hus => fun k as K Ca outs ρ vs M hu gs gk gm => by
    have ih := ab_uses_ok hN (M0 := M0) (md := md) (us := r) (fun x hx => hus x (List.mem_cons_of_mem _ hx))
    unfold ab_uses at hu
    split at hu
    · rename_i hk
      split at hu
      · rename_i o ho
        cases hu
        rw [← hk]
        exact ab_use_ok hN (hus c List.mem_cons_self) ho gs gk gm
      · exact ih k as K Ca outs ρ vs M hu gs gk gm
    · exact ih k as K Ca outs ρ vs M hu gs gk gm
/-! a method's end -/
def ab_ret (ret : Option FieldType) (rows : List (Nat × ev_Row)) (S : ab_S) : Bool := match ev_at rows S.1 with
  | some r => (match r.1, ret, S.2.2.1 with
    | 210, some .int, [a] => ab_isI a
    | 210, some .boolean, [a] => ab_isI a && (decide (0 ≤ (ab_bd S.2.2.2.1 a).1) && decide ((ab_bd S.2.2.2.1 a).2 ≤ 1))
    | 210, some .char, [a] => ab_isI a && (decide (0 ≤ (ab_bd S.2.2.2.1 a).1) && decide ((ab_bd S.2.2.2.1 a).2 ≤ 65535))
    | 210, some .byte, [a] => ab_isI a && (decide (0 ≤ (ab_bd S.2.2.2.1 a).1) && decide ((ab_bd S.2.2.2.1 a).2 ≤ 0))
    | 211, some .long, [a] => decide (a.1 = 6)
    | 212, some (.object _), [a] => decide (a.1 = 1)
    | 213, none, [] => true
    | _, _, _ => false)
  | none => false
theorem ab_ret_ok {h : ab_H} {N : cm_M → Prop} {M0 : cm_M} {md : ab_Md} {ret : Option FieldType} {rows : List (Nat × ev_Row)} {S : ab_S} {C : cm_S} {ρ : List Int32} {Post : cm_K} {r : ev_Row} (hr : ab_ret ret rows S = true) (hG : ab_G h N M0 md ρ S C) (he : ev_at rows C.1 = some r) (hp : ∀ v : Option Value, ab_s ρ S.2.2.1 v.toList → Post v C.2.2.2) : cm_ret ret Post r.1 C := by
  obtain ⟨pc, L, st, K, Ca⟩ := S
  obtain ⟨cpc, CL, sc, M⟩ := C
  obtain ⟨e0, gl, gs, gk, gm⟩ := hG
  dsimp only at e0 gl gs gk gm hp he
  subst e0
  unfold ab_ret at hr
  dsimp only at hr
  rw [he] at hr
  dsimp only at hr
  split at hr
  · rename_i a0 e1
    obtain ⟨v, sc', rfl, hv, gs'⟩ := ab_s_cons gs
    cases ab_s_nil gs'
    obtain ⟨x, hx, rfl⟩ := ab_vi hr hv
    rw [e1]
    exact hp (some (.int x)) ⟨hv, trivial⟩
  · rename_i a0 e1
    simp only [Bool.and_eq_true, decide_eq_true_eq] at hr
    obtain ⟨v, sc', rfl, hv, gs'⟩ := ab_s_cons gs
    cases ab_s_nil gs'
    obtain ⟨x, hx, rfl⟩ := ab_vi hr.1 hv
    obtain ⟨b1, b2⟩ := ab_bd_in gk hx
    rw [e1]
    refine ⟨?_, hp (some (.int x)) ⟨hv, trivial⟩⟩
    have : x.toInt = 0 ∨ x.toInt = 1 := by omega
    rcases this with h0 | h0
    · exact Or.inl (Int32.toInt_inj.mp (by rw [h0]; rfl))
    · exact Or.inr (Int32.toInt_inj.mp (by rw [h0]; rfl))
  · rename_i a0 e1
    simp only [Bool.and_eq_true, decide_eq_true_eq] at hr
    obtain ⟨v, sc', rfl, hv, gs'⟩ := ab_s_cons gs
    cases ab_s_nil gs'
    obtain ⟨x, hx, rfl⟩ := ab_vi hr.1 hv
    obtain ⟨b1, b2⟩ := ab_bd_in gk hx
    rw [e1]
    exact ⟨by omega, by omega, hp (some (.int x)) ⟨hv, trivial⟩⟩
  · rename_i a0 e1
    simp only [Bool.and_eq_true, decide_eq_true_eq] at hr
    obtain ⟨v, sc', rfl, hv, gs'⟩ := ab_s_cons gs
    cases ab_s_nil gs'
    obtain ⟨x, hx, rfl⟩ := ab_vi hr.1 hv
    obtain ⟨b1, b2⟩ := ab_bd_in gk hx
    rw [e1]
    exact ⟨Int32.toInt_inj.mp (by have : x.toInt = 0 := by omega
                                  rw [this]; rfl), hp (some (.int x)) ⟨hv, trivial⟩⟩
  · rename_i a0 e1
    obtain ⟨v, sc', rfl, hv, gs'⟩ := ab_s_cons gs
    cases ab_s_nil gs'
    obtain ⟨x, rfl⟩ := ab_v6 (of_decide_eq_true hr) hv
    rw [e1]
    exact hp (some (.long x)) ⟨hv, trivial⟩
  · rename_i a0 e1
    obtain ⟨v, sc', rfl, hv, gs'⟩ := ab_s_cons gs
    cases ab_s_nil gs'
    obtain ⟨x, -, rfl⟩ := ab_v1 (of_decide_eq_true hr) hv
    rw [e1]
    exact hp (some (.ref x)) ⟨hv, trivial⟩
  · rename_i e1
    cases ab_s_nil gs
    rw [e1]
    exact hp none trivial
  · cases hr
def ab_args : Nat → List ab_A → List (Nat × ab_A)
  | _, [] => []
  | i, a :: as => (i, a) :: ab_args (i + if a.1 = 6 then 2 else 1) as
theorem ab_args_ge : ∀ (as : List ab_A) (i : Nat), ∀ q ∈ ab_args i as, i ≤ q.1
  | [], i, q, hq => nomatch hq
  | a :: as, i, q, hq => by
    unfold ab_args at hq
    rcases List.mem_cons.mp hq with rfl | hq
    · exact Nat.le_refl _
    · have := ab_args_ge as _ q hq
      omega
theorem ab_args_ok {ρ : List Int32} : ∀ {as : List ab_A} {vs : List Value} (i : Nat), ab_s ρ as vs → ab_l ρ (ab_args i as) (cm_args i vs)
  | [], [], i, _ => fun q hq => nomatch hq
  | [], _ :: _, _, h => h.elim
  | _ :: _, [], _, h => h.elim
  | a :: as, v :: vs, i, h => by
    intro q hq
    unfold ab_args at hq
    unfold cm_args cm_look
    rcases List.mem_cons.mp hq with rfl | hq
    · rw [if_pos rfl]
      exact ⟨v, rfl, h.1⟩
    · have hge := ab_args_ge as _ q hq
      have hne : ¬ i = q.1 := by
        have : 1 ≤ (if a.1 = 6 then 2 else 1) := by split <;> omega
        omega
      rw [if_neg hne]
      have hcat : v.category = (if a.1 = 6 then 2 else 1) := by
        rcases ab_cat h.1 with ⟨h1, h2⟩ | ⟨h1, h2⟩
        · rw [h2, if_pos h1]
        · rw [h2, if_neg h1]
      rw [hcat]
      exact ab_args_ok _ h.2 q hq
end
section
/-! AB: calls by their bodies, loops, methods -/
def ab_outs (ret : Option FieldType) (rows : List (Nat × ev_Row)) : List (Bool × ab_S) → Option (List ab_Out)
  | [] => some []
  | f :: r => if f.1 = false ∧ ab_ret ret rows f.2 = true then (match ab_outs ret rows r with
      | some o => some ((f.2.2.2.1, f.2.2.2.2.1, f.2.2.2.2.2) :: o)
      | none => none) else none
theorem ab_outs_ok {ret : Option FieldType} {rows : List (Nat × ev_Row)} : ∀ {fs : List (Bool × ab_S)} {o : List ab_Out}, ab_outs ret rows fs = some o → ∀ f ∈ fs, f.1 = false ∧ ab_ret ret rows f.2 = true ∧ (f.2.2.2.1, f.2.2.2.2.1, f.2.2.2.2.2) ∈ o
  | [], o, h => fun f hf => nomatch hf
  | g :: r, o, h => by
    unfold ab_outs at h
    split at h
    · rename_i hc
      split at h
      · rename_i o' ho
        cases h
        intro f hf
        rcases List.mem_cons.mp hf with rfl | hf
        · exact ⟨hc.1, hc.2, List.mem_cons_self⟩
        · obtain ⟨a, b, c⟩ := ab_outs_ok ho f hf
          exact ⟨a, b, List.mem_cons_of_mem _ c⟩
      · cases h
    · cases h
/-- a call: by its body where its number stands in inl, else by a contract -/
def ab_cl (ms : List ev_MI) (h : ab_H) (md : ab_Md) (us : List ab_Ct) (inl : List Nat) : Nat → ab_Cl
  | 0 => ab_uses h md us
  | n + 1 => fun k as K Ca => if inl.contains k = true then (match ms[k]? with
      | some mi => if ab_cs as ≤ mi.2.2.1 then (match ab_run (ab_cl ms h md us inl n) h md (cm_P mi) mi.2.2.2.2.2.2 [] 2000 (0, ab_args 0 as, [], K, Ca) with
          | some fs => ab_outs mi.2.2.2.1 mi.2.2.2.2.2.2 fs
          | none => none) else none
      | none => none) else ab_uses h md us k as K Ca
section ABC
variable {ms : List ev_MI} {h : ab_H} {N : cm_M → Prop}
theorem ab_CT_up {c : ab_Ct} {d e : Nat} (hc : ab_CT ms h N d c) (hd : d ≤ e) : ab_CT ms h N e c := fun ρ vs M h1 h2 h3 h4 => cm_Call_up (hc ρ vs M h1 h2 h3 h4) hd (fun _ _ q => q)
theorem ab_cl_ok (hMS : ∀ (k : Nat) (mi : ev_MI), ms[k]? = some mi → cm_MOK ms mi) (hRC : ∀ (k : Nat) (mi : ev_MI), ms[k]? = some mi → ∀ q ∈ mi.2.2.2.2.2.2, ab_RC ms q) (hN : ab_NP h N) {M0 : cm_M} {md : ab_Md} {us : List ab_Ct} {inl : List Nat} {d : Nat} (hus : ∀ c ∈ us, ab_CT ms h N d c) : ∀ n : Nat, ab_ClOk ms h N M0 md (d + n) (ab_cl ms h md us inl n)
  | 0 => ab_uses_ok hN hus
  | n + 1 => fun k as K Ca outs ρ vs M hu gs gk gm => by
    unfold ab_cl at hu
    split at hu
    · split at hu
      · rename_i mi hmi
        split at hu
        · rename_i hcs
          split at hu
          · rename_i fs hfs
            refine cm_Call_of hMS hmi (by rw [ab_cs_ok gs]; exact hcs) ?_
            refine cm_At_run hMS hmi (stops := []) (J := fun _ => False) (fun S hS => hS.elim) (n := 2000) ?_
            refine ab_run_ok hN (ab_cl_ok hMS hRC hN hus n) (hRC k mi hmi) 2000 _ fs _ ρ hfs ⟨rfl, ab_args_ok 0 gs, trivial, gk, gm⟩ (fun f hf ext C' hG => ⟨fun ht => ?_, fun _ r hr _ => ?_⟩)
            · have := (ab_outs_ok hu f hf).1
              rw [this] at ht
              cases ht
            · obtain ⟨-, o2, o3⟩ := ab_outs_ok hu f hf
              exact ab_ret_ok o2 hG hr (fun v hv => ⟨_, o3, ext, hv, hG.2.2.2.1, hG.2.2.2.2⟩)
          · cases hu
        · cases hu
      · cases hu
    · exact cm_Call_up (ab_uses_ok hN hus k as K Ca outs ρ vs M hu gs gk gm) (by omega) (fun _ _ q => q)
end ABC
/-! measures: terms c + s x, compared one behind the other -/
abbrev ab_Mu : Type := List (Int × Int × ab_A)
def ab_tm (ρ : List Int32) (m : Int × Int × ab_A) : Int := m.2.1 + m.1 * ((ab_i ρ m.2.2).getD 0).toInt
def ab_tb (K : ab_K) (m : Int × Int × ab_A) : Int × Int := if m.1 = 1 then (m.2.1 + (ab_bd K m.2.2).1, m.2.1 + (ab_bd K m.2.2).2) else if m.1 = -1 then (m.2.1 - (ab_bd K m.2.2).2, m.2.1 - (ab_bd K m.2.2).1) else (m.2.1, m.2.1)
def ab_tok (K : ab_K) (m : Int × Int × ab_A) : Bool := ab_def K m.2.2 && (decide (m.1 = 1 ∨ m.1 = -1 ∨ m.1 = 0) && (decide (0 ≤ (ab_tb K m).1) && decide ((ab_tb K m).2 < 17179869184)))
theorem ab_tb_in {ρ : List Int32} {K : ab_K} {m : Int × Int × ab_A} (hk : ab_k ρ K) (h : ab_tok K m = true) : (ab_tb K m).1 ≤ ab_tm ρ m ∧ ab_tm ρ m ≤ (ab_tb K m).2 ∧ 0 ≤ ab_tm ρ m ∧ ab_tm ρ m < 17179869184 := by
  simp only [ab_tok, Bool.and_eq_true, decide_eq_true_eq] at h
  obtain ⟨h1, h2, h3, h4⟩ := h
  obtain ⟨x, hx⟩ := ab_def_ok h1 hk
  obtain ⟨b1, b2⟩ := ab_bd_in hk hx
  unfold ab_tm
  rw [hx]
  unfold ab_tb at h3 h4 ⊢
  simp only [Option.getD_some]
  rcases h2 with h2 | h2 | h2
  · rw [if_pos h2] at h3 h4 ⊢
    rw [h2]
    dsimp only at h3 h4 ⊢
    omega
  · rw [if_neg (by omega), if_pos h2] at h3 h4 ⊢
    rw [h2]
    dsimp only at h3 h4 ⊢
    omega
  · rw [if_neg (by omega), if_neg (by omega)] at h3 h4 ⊢
    rw [h2]
    dsimp only at h3 h4 ⊢
    omega
def ab_mu (ρ : List Int32) : ab_Mu → Nat
  | [] => 0
  | m :: ms => (ab_tm ρ m).toNat * 17179869184 ^ ms.length + ab_mu ρ ms
theorem ab_mu_lt {ρ : List Int32} {K : ab_K} (hk : ab_k ρ K) : ∀ {l : ab_Mu}, l.all (ab_tok K) = true → ab_mu ρ l < 17179869184 ^ l.length
  | [], _ => by show 0 < 17179869184 ^ 0; decide
  | m :: l, h => by
    rw [List.all_cons, Bool.and_eq_true] at h
    have ih := ab_mu_lt hk h.2
    obtain ⟨-, -, t1, t2⟩ := ab_tb_in hk h.1
    unfold ab_mu
    rw [List.length_cons, Nat.pow_succ]
    have h1 : (ab_tm ρ m).toNat + 1 ≤ 17179869184 := by omega
    have h2 := Nat.mul_le_mul_right (17179869184 ^ l.length) h1
    rw [Nat.add_mul, Nat.one_mul, Nat.mul_comm 17179869184] at h2
    omega
theorem ab_mu_ap {ρ ext : List Int32} : ∀ {m : ab_Mu}, (∀ q ∈ m, ∃ x, ab_i ρ q.2.2 = some x) → ab_mu (ρ ++ ext) m = ab_mu ρ m
  | [], _ => rfl
  | a :: m, hq => by
    unfold ab_mu
    rw [ab_mu_ap (fun q h => hq q (List.mem_cons_of_mem _ h))]
    obtain ⟨x, hx⟩ := hq a List.mem_cons_self
    unfold ab_tm
    rw [ab_i_ap hx, hx]
/-- the new term is less: by bounds, or one is a sum of the other -/
def ab_tlt (K : ab_K) (o n : Int × Int × ab_A) : Bool := decide ((ab_tb K n).2 < (ab_tb K o).1) || (decide (n.1 = o.1) && (decide (n.2.1 = o.2.1) && (decide (n.2.2.1 = 3) && (match K[n.2.2.2.1.toNat]? with
  | some r => (decide (r.2.2.1 = 1) || decide (r.2.2.1 = 2)) && (ab_eqA r.2.2.2.1 o.2.2 && (decide (r.2.2.2.2.1 = 0) &&
      (let c := if r.2.2.1 = 1 then (Int32.ofInt r.2.2.2.2.2.1).toInt else - (Int32.ofInt r.2.2.2.2.2.1).toInt
       decide (o.1 * c < 0) && (decide (-2147483648 ≤ (ab_bd K o.2.2).1 + c) && decide ((ab_bd K o.2.2).2 + c ≤ 2147483647)))))
  | none => false))))
theorem ab_tlt_ok {ρ : List Int32} {K : ab_K} {o n : Int × Int × ab_A} (hk : ab_k ρ K) (ho : ab_tok K o = true) (hn : ab_tok K n = true) (h : ab_tlt K o n = true) : ab_tm ρ n < ab_tm ρ o := by
  have o1 := ab_tb_in hk ho
  have n1 := ab_tb_in hk hn
  unfold ab_tlt at h
  rw [Bool.or_eq_true] at h
  rcases h with h | h
  · have h := of_decide_eq_true h
    omega
  · simp only [Bool.and_eq_true, decide_eq_true_eq] at h
    obtain ⟨e1, e2, e3, h⟩ := h
    split at h
    · rename_i r hr
      simp only [Bool.and_eq_true, Bool.or_eq_true, decide_eq_true_eq] at h
      obtain ⟨f1, f2, f3, f4, f5, f6⟩ := h
      simp only [ab_tok, Bool.and_eq_true] at ho hn
      obtain ⟨x, hx⟩ := ab_def_ok ho.1 hk
      obtain ⟨y, hy⟩ := ab_def_ok hn.1 hk
      have hy2 : ρ[n.2.2.2.1.toNat]? = some y := by
        unfold ab_i at hy
        rw [e3] at hy
        exact hy
      have hc : ab_i ρ r.2.2.2.2 = some (Int32.ofInt r.2.2.2.2.2.1) := by
        unfold ab_i
        rw [f3]
        rfl
      obtain ⟨b1, b2⟩ := ab_bd_in hk hx
      rcases (hk.2 _ r y hr hy2).2 with hz | ⟨u, z, hu, hz, e⟩
      · omega
      · rw [hc] at hz
        cases hz
        rw [ab_eqA_ok f2, hx] at hu
        cases hu
        unfold ab_tm
        rw [hx, hy, e1, e2]
        simp only [Option.getD_some]
        have hyx : y.toInt = x.toInt + (if r.2.2.1 = 1 then (Int32.ofInt r.2.2.2.2.2.1).toInt else - (Int32.ofInt r.2.2.2.2.2.1).toInt) := by
          rcases f1 with f1 | f1
          · rw [if_pos f1] at f5 f6 ⊢
            rw [f1] at e
            have e : y = x + Int32.ofInt r.2.2.2.2.2.1 := e
            rw [e, Int32.toInt_add]
            exact ev_bm (by omega) (by omega)
          · rw [if_neg (by omega)] at f5 f6 ⊢
            rw [f1] at e
            have e : y = x - Int32.ofInt r.2.2.2.2.2.1 := e
            rw [e, Int32.toInt_sub]
            rw [show x.toInt - (Int32.ofInt r.2.2.2.2.2.1).toInt = x.toInt + - (Int32.ofInt r.2.2.2.2.2.1).toInt by omega]
            exact ev_bm (by omega) (by omega)
        rw [hyx, Int.mul_add]
        omega
    · cases h
def ab_teq (o n : Int × Int × ab_A) : Bool := decide (n.1 = o.1) && (decide (n.2.1 = o.2.1) && ab_eqA n.2.2 o.2.2)
def ab_lex (K : ab_K) : ab_Mu → ab_Mu → Bool
  | o :: os, n :: ns => if ab_teq o n = true then ab_lex K os ns else ab_tlt K o n
  | _, _ => false
theorem ab_lex_ok {ρ : List Int32} {K : ab_K} (hk : ab_k ρ K) : ∀ {os ns : ab_Mu}, os.length = ns.length → os.all (ab_tok K) = true → ns.all (ab_tok K) = true → ab_lex K os ns = true → ab_mu ρ ns < ab_mu ρ os
  | [], _, _, _, _, h => by cases h
  | _ :: _, [], _, _, _, h => by cases h
  | o :: os, n :: ns, hl, ho, hn, h => by
    rw [List.all_cons, Bool.and_eq_true] at ho hn
    have hl : os.length = ns.length := Nat.succ.inj hl
    unfold ab_lex at h
    unfold ab_mu
    rw [hl]
    split at h
    · rename_i he
      simp only [ab_teq, Bool.and_eq_true, decide_eq_true_eq] at he
      obtain ⟨a1, a2, a3⟩ := he
      have : n = o := Prod.ext a1 (Prod.ext a2 (ab_eqA_ok a3))
      rw [this]
      have := ab_lex_ok hk hl ho.2 hn.2 h
      omega
    · have h1 := ab_tlt_ok hk ho.1 hn.1 h
      have h2 := ab_tb_in hk ho.1
      have h3 := ab_tb_in hk hn.1
      have h4 := ab_mu_lt hk hn.2
      have h5 : (ab_tm ρ n).toNat + 1 ≤ (ab_tm ρ o).toNat := by omega
      have h6 := Nat.mul_le_mul_right (17179869184 ^ ns.length) h5
      rw [Nat.add_mul, Nat.one_mul] at h6
      omega
/-- a template at a loop's head, with its measure -/
abbrev ab_Tm : Type := ab_S × ab_Mu
def ab_sbm (sg : List ab_A) (mu : ab_Mu) : ab_Mu := mu.map (fun m => (m.1, m.2.1, ab_sb sg m.2.2))
theorem ab_sbm_ok {ρ : List Int32} {sg : List ab_A} {K : ab_K} (hk : ab_k ρ K) : ∀ {mu : ab_Mu}, (ab_sbm sg mu).all (ab_tok K) = true → ab_mu (ab_rT ρ sg) mu = ab_mu ρ (ab_sbm sg mu)
  | [], _ => rfl
  | m :: mu, h => by
    unfold ab_sbm at h ⊢
    rw [List.map_cons] at h ⊢
    rw [List.all_cons, Bool.and_eq_true] at h
    have ih := ab_sbm_ok hk (mu := mu) h.2
    unfold ab_sbm at ih
    unfold ab_mu
    rw [List.length_map, ih]
    congr 2
    have h1 := h.1
    simp only [ab_tok, Bool.and_eq_true] at h1
    obtain ⟨x, hx⟩ := ab_def_ok h1.1 hk
    unfold ab_tm
    dsimp only at hx ⊢
    rw [hx, ab_sb_ok hx]
/-- an end of a run: at a head, where the measure is less (if one is given), or at one of the method's ends -/
def ab_end (h : ab_H) (nE : Nat) (ret : Option FieldType) (rows : List (Nat × ev_Row)) (tms : List ab_Tm) (ex : List ab_Out) (mu : Option ab_Mu) (f : Bool × ab_S) : Bool :=
  if f.1 = true then tms.any (fun T => decide (T.1.1 = f.2.1) && (match ab_in h nE T.1 f.2 with
    | some (K1, _, sg) => (match mu with
      | none => true
      | some m => decide (m.length = T.2.length) && (m.all (ab_tok K1) && ((ab_sbm sg T.2).all (ab_tok K1) && ab_lex K1 m (ab_sbm sg T.2))))
    | none => false))
  else ab_ret ret rows f.2 && ex.any (fun e => (ab_in h nE (f.2.1, [], e.1, e.2.1, e.2.2) (f.2.1, [], f.2.2.2)).isSome)
def ab_chk1 (ms : List ev_MI) (h : ab_H) (us : List ab_Ct) (inl : List Nat) (dd n : Nat) (c : ab_Ct) (mi : ev_MI) (tms : List ab_Tm) (mu : Option ab_Mu) (S : ab_S) : Bool := match ab_run (ab_cl ms h c.2.2.2.2.1 us inl dd) h c.2.2.2.2.1 (cm_P mi) mi.2.2.2.2.2.2 (tms.map (fun T => (T.1.1, T.1.2.1.map (fun q => q.1)))) n S with
  | some fs => fs.all (ab_end h c.2.2.1.length mi.2.2.2.1 mi.2.2.2.2.2.2 tms c.2.2.2.2.2 mu)
  | none => false
def ab_chk (ms : List ev_MI) (h : ab_H) (us : List ab_Ct) (inl : List Nat) (dd n : Nat) (c : ab_Ct) (tms : List ab_Tm) : Bool := match ms[c.1]? with
  | some mi => decide (ab_cs c.2.1 ≤ mi.2.2.1) && (ab_chk1 ms h us inl dd n c mi tms none (0, ab_args 0 c.2.1, [], c.2.2.1, c.2.2.2.1) && tms.all (fun T => ab_chk1 ms h us inl dd n c mi tms (some T.2) T.1))
  | none => false
section ABD
variable {ms : List ev_MI} {h : ab_H} {N : cm_M → Prop}
theorem ab_chk1_ok (hMS : ∀ (k : Nat) (mi : ev_MI), ms[k]? = some mi → cm_MOK ms mi) (hRC : ∀ (k : Nat) (mi : ev_MI), ms[k]? = some mi → ∀ q ∈ mi.2.2.2.2.2.2, ab_RC ms q) (hN : ab_NP h N) {us : List ab_Ct} {inl : List Nat} {d dd n : Nat} (hus : ∀ c ∈ us, ab_CT ms h N d c) {c : ab_Ct} {mi : ev_MI} (hmi : ms[c.1]? = some mi) {tms : List ab_Tm} {mu : Option ab_Mu} {S : ab_S} {C : cm_S} {M0 : cm_M} {ρ0 e : List Int32} (h0 : ρ0.length = c.2.2.1.length) (hk : ab_chk1 ms h us inl dd n c mi tms mu S = true) (hG : ab_G h N M0 c.2.2.2.2.1 (ρ0 ++ e) S C)
    (IH : ∀ T ∈ tms, ∀ (eT : List Int32) (C' : cm_S), ab_G h N M0 c.2.2.2.2.1 (ρ0 ++ eT) T.1 C' → (∀ m, mu = some m → ab_mu (ρ0 ++ eT) T.2 < ab_mu (ρ0 ++ e) m) → cm_At (d + dd) mi (ab_Post h N M0 c.2.2.2.2.1 ρ0 c.2.2.2.2.2) C') (hmu : ∀ m, mu = some m → ∀ q ∈ m, ∃ x, ab_i (ρ0 ++ e) q.2.2 = some x) : cm_At (d + dd) mi (ab_Post h N M0 c.2.2.2.2.1 ρ0 c.2.2.2.2.2) C := by
  unfold ab_chk1 at hk
  split at hk
  · rename_i fs hfs
    refine cm_At_run hMS hmi (stops := tms.map (fun T => (T.1.1, T.1.2.1.map (fun q => q.1)))) (J := cm_At (d + dd) mi (ab_Post h N M0 c.2.2.2.2.1 ρ0 c.2.2.2.2.2)) (fun S hS => hS) (n := n) ?_
    refine ab_run_ok hN (ab_cl_ok hMS hRC hN hus dd) (hRC _ mi hmi) n S fs C (ρ0 ++ e) hfs hG (fun f hf ext C' hG' => ?_)
    have h1 := List.all_eq_true.mp hk f hf
    unfold ab_end at h1
    rw [List.append_assoc] at hG'
    obtain ⟨g0, g1, g2, g3, g4⟩ := hG'
    refine ⟨fun ht => ?_, fun hfl r hr _ => ?_⟩
    · rw [if_pos ht] at h1
      obtain ⟨T, hT, h2⟩ := List.any_eq_true.mp h1
      simp only [Bool.and_eq_true, decide_eq_true_eq] at h2
      obtain ⟨hpc, h3⟩ := h2
      split at h3
      · rename_i K1 Ca1 sg hin
        obtain ⟨e1, eT, k1, -, k3, k4, k5, k6, k7, k8⟩ := ab_in_ok hN hin h0 g1 g2 g3 g4
        refine IH T hT eT C' ⟨by rw [g0, hpc], k5, k6, k7, k8⟩ (fun m hm => ?_)
        subst hm
        dsimp only at h3
        simp only [Bool.and_eq_true, decide_eq_true_eq] at h3
        obtain ⟨l1, l2, l3, l4⟩ := h3
        have h5 := ab_lex_ok k1 (by unfold ab_sbm; rw [List.length_map]; exact l1) l2 l3 l4
        rw [← ab_sbm_ok k1 l3, k3] at h5
        have h6 : ab_mu (ρ0 ++ (e ++ ext) ++ e1) m = ab_mu (ρ0 ++ e) m := by
          rw [← List.append_assoc, List.append_assoc (ρ0 ++ e)]
          exact ab_mu_ap (hmu m rfl)
        rw [h6] at h5
        exact h5
      · cases h3
    · rw [if_neg (by rw [hfl]; decide), Bool.and_eq_true] at h1
      obtain ⟨h2, h3⟩ := h1
      obtain ⟨o, ho, h4⟩ := List.any_eq_true.mp h3
      refine ab_ret_ok h2 ⟨g0, g1, g2, g3, g4⟩ hr (fun v hv => ?_)
      obtain ⟨w, hw⟩ := Option.isSome_iff_exists.mp h4
      obtain ⟨K1, Ca1, sg⟩ := w
      obtain ⟨e1, eT, -, -, -, -, -, k6, k7, k8⟩ := ab_in_ok (C := (C'.1, [], v.toList, C'.2.2.2)) hN hw h0 (fun q hq => nomatch hq) hv g3 g4
      exact ⟨o, ho, eT, k6, k7, k8⟩
  · cases hk
/-- a method keeps its contract -/
theorem ab_chk_ok (hMS : ∀ (k : Nat) (mi : ev_MI), ms[k]? = some mi → cm_MOK ms mi) (hRC : ∀ (k : Nat) (mi : ev_MI), ms[k]? = some mi → ∀ q ∈ mi.2.2.2.2.2.2, ab_RC ms q) (hN : ab_NP h N) {us : List ab_Ct} {inl : List Nat} {d dd n : Nat} (hus : ∀ c ∈ us, ab_CT ms h N d c) {c : ab_Ct} {tms : List ab_Tm} (hk : ab_chk ms h us inl dd n c tms = true) (hmu : ∀ T ∈ tms, T.2.all (ab_tok T.1.2.2.2.1) = true) : ab_CT ms h N (d + dd + 1) c := by
  intro ρ vs M gs gk gok gca
  unfold ab_chk at hk
  split at hk
  · rename_i mi hmi
    simp only [Bool.and_eq_true, decide_eq_true_eq] at hk
    obtain ⟨h1, h2, h3⟩ := hk
    refine cm_Call_of hMS hmi (by rw [ab_cs_ok gs]; exact h1) ?_
    have hlen : ρ.length = c.2.2.1.length := gk.1.symm
    have loops : ∀ (k : Nat) (T : ab_Tm), T ∈ tms → ∀ (eT : List Int32) (C' : cm_S), ab_G h N M c.2.2.2.2.1 (ρ ++ eT) T.1 C' → ab_mu (ρ ++ eT) T.2 < k → cm_At (d + dd) mi (ab_Post h N M c.2.2.2.2.1 ρ c.2.2.2.2.2) C' := by
      intro k
      induction k with
      | zero => intro T hT eT C' hG hlt; exact absurd hlt (Nat.not_lt_zero _)
      | succ k ih =>
        intro T hT eT C' hG hlt
        refine ab_chk1_ok hMS hRC hN hus hmi hlen (List.all_eq_true.mp h3 T hT) hG (fun T' hT' e' C2 hG2 hm => ih T' hT' e' C2 hG2 ?_) (fun m hm q hq => ?_)
        · have := hm T.2 rfl
          omega
        · cases hm
          have h4 := List.all_eq_true.mp (hmu T hT) q hq
          simp only [ab_tok, Bool.and_eq_true] at h4
          exact ab_def_ok h4.1 hG.2.2.2.1
    refine ab_chk1_ok (e := []) hMS hRC hN hus hmi hlen h2 ⟨rfl, by rw [ab_nil]; exact ab_args_ok 0 gs, trivial, by rw [ab_nil]; exact gk, gok, ab_fr_rf _ _, by rw [ab_nil]; exact gca⟩ (fun T hT eT C' hG _ => loops _ T hT eT C' hG (Nat.lt_succ_self _)) (fun m hm => by cases hm)
  · cases hk
end ABD
end
