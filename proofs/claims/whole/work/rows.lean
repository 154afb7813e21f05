section
-- ===== PART A: goes FIRST, ahead of the names: the tables' words, and 'selects' of the private methods out of them =====
/-- a private method of a class that the tables say can be made, by its rows of tables_1 -/
def lw_okq (q : MethodName × Nat) : Prop := (q.1.cls ≠ "java/lang/invoke/MethodHandle" ∧ q.1.cls ≠ "java/lang/invoke/VarHandle") ∧ Cond.instantiable q.1.cls q.2 ∈ tables_1 ∧ Cond.privateMethod q.1 ∈ tables_1 ∧ Cond.instanceMethod q.1 ∈ tables_1
theorem lw_p0 : lw_okq (⟨"SubtitleSeats$Script", "readNumber", "()I"⟩, 8) := ⟨⟨by decide +kernel, by decide +kernel⟩, List.mem_of_getElem? (i := 101) (by decide +kernel), List.mem_of_getElem? (i := 179) (by decide +kernel), List.mem_of_getElem? (i := 180) (by decide +kernel)⟩
theorem lw_p1 : lw_okq (⟨"SubtitleSeats$Script", "readText", "()Z"⟩, 8) := ⟨⟨by decide +kernel, by decide +kernel⟩, List.mem_of_getElem? (i := 101) (by decide +kernel), List.mem_of_getElem? (i := 190) (by decide +kernel), List.mem_of_getElem? (i := 191) (by decide +kernel)⟩
theorem lw_p2 : lw_okq (⟨"SubtitleSeats$Script", "mayFollowInText", "(C)Z"⟩, 8) := ⟨⟨by decide +kernel, by decide +kernel⟩, List.mem_of_getElem? (i := 101) (by decide +kernel), List.mem_of_getElem? (i := 194) (by decide +kernel), List.mem_of_getElem? (i := 195) (by decide +kernel)⟩
theorem lw_p3 : lw_okq (⟨"SubtitleSeats", "writeReport", "(III)V"⟩, 5) := ⟨⟨by decide +kernel, by decide +kernel⟩, List.mem_of_getElem? (i := 11) (by decide +kernel), List.mem_of_getElem? (i := 225) (by decide +kernel), List.mem_of_getElem? (i := 226) (by decide +kernel)⟩
theorem lw_p4 : lw_okq (⟨"SubtitleSeats$Film", "openRow", "(I)V"⟩, 5) := ⟨⟨by decide +kernel, by decide +kernel⟩, List.mem_of_getElem? (i := 19) (by decide +kernel), List.mem_of_getElem? (i := 239) (by decide +kernel), List.mem_of_getElem? (i := 240) (by decide +kernel)⟩
theorem lw_p5 : lw_okq (⟨"SubtitleSeats$Film", "seatRow", "(LSubtitleSeats$Subtitle;II)Z"⟩, 5) := ⟨⟨by decide +kernel, by decide +kernel⟩, List.mem_of_getElem? (i := 19) (by decide +kernel), List.mem_of_getElem? (i := 333) (by decide +kernel), List.mem_of_getElem? (i := 334) (by decide +kernel)⟩
theorem lw_p6 : lw_okq (⟨"SubtitleSeats$Film", "nearestCutTo", "(I)I"⟩, 5) := ⟨⟨by decide +kernel, by decide +kernel⟩, List.mem_of_getElem? (i := 19) (by decide +kernel), List.mem_of_getElem? (i := 341) (by decide +kernel), List.mem_of_getElem? (i := 342) (by decide +kernel)⟩
theorem lw_p7 : lw_okq (⟨"SubtitleSeats$Film", "hasCutNearItsTimes", "(LSubtitleSeats$Subtitle;)Z"⟩, 5) := ⟨⟨by decide +kernel, by decide +kernel⟩, List.mem_of_getElem? (i := 19) (by decide +kernel), List.mem_of_getElem? (i := 392) (by decide +kernel), List.mem_of_getElem? (i := 393) (by decide +kernel)⟩
theorem lw_p8 : lw_okq (⟨"SubtitleSeats$Subtitle", "lineEnd", "(II)I"⟩, 4) := ⟨⟨by decide +kernel, by decide +kernel⟩, List.mem_of_getElem? (i := 26) (by decide +kernel), List.mem_of_getElem? (i := 404) (by decide +kernel), List.mem_of_getElem? (i := 405) (by decide +kernel)⟩
theorem lw_p9 : lw_okq (⟨"SubtitleSeatsModel", "isScript", "()Z"⟩, 16) := ⟨⟨by decide +kernel, by decide +kernel⟩, List.mem_of_getElem? (i := 495) (by decide +kernel), List.mem_of_getElem? (i := 565) (by decide +kernel), List.mem_of_getElem? (i := 566) (by decide +kernel)⟩
theorem lw_p10 : lw_okq (⟨"SubtitleSeatsModel", "takesEntry", "()V"⟩, 16) := ⟨⟨by decide +kernel, by decide +kernel⟩, List.mem_of_getElem? (i := 495) (by decide +kernel), List.mem_of_getElem? (i := 569) (by decide +kernel), List.mem_of_getElem? (i := 570) (by decide +kernel)⟩
theorem lw_p11 : lw_okq (⟨"SubtitleSeatsModel", "takesNumber", "()I"⟩, 16) := ⟨⟨by decide +kernel, by decide +kernel⟩, List.mem_of_getElem? (i := 495) (by decide +kernel), List.mem_of_getElem? (i := 573) (by decide +kernel), List.mem_of_getElem? (i := 574) (by decide +kernel)⟩
theorem lw_p12 : lw_okq (⟨"SubtitleSeatsModel", "here", "()I"⟩, 16) := ⟨⟨by decide +kernel, by decide +kernel⟩, List.mem_of_getElem? (i := 495) (by decide +kernel), List.mem_of_getElem? (i := 577) (by decide +kernel), List.mem_of_getElem? (i := 578) (by decide +kernel)⟩
theorem lw_p13 : lw_okq (⟨"SubtitleSeatsModel", "takes", "(Z)V"⟩, 16) := ⟨⟨by decide +kernel, by decide +kernel⟩, List.mem_of_getElem? (i := 495) (by decide +kernel), List.mem_of_getElem? (i := 581) (by decide +kernel), List.mem_of_getElem? (i := 582) (by decide +kernel)⟩
theorem lw_p14 : lw_okq (⟨"SubtitleSeatsModel", "takesText", "()V"⟩, 16) := ⟨⟨by decide +kernel, by decide +kernel⟩, List.mem_of_getElem? (i := 495) (by decide +kernel), List.mem_of_getElem? (i := 585) (by decide +kernel), List.mem_of_getElem? (i := 586) (by decide +kernel)⟩
theorem lw_p15 : lw_okq (⟨"SubtitleSeatsModel", "begins", "()V"⟩, 16) := ⟨⟨by decide +kernel, by decide +kernel⟩, List.mem_of_getElem? (i := 495) (by decide +kernel), List.mem_of_getElem? (i := 596) (by decide +kernel), List.mem_of_getElem? (i := 597) (by decide +kernel)⟩
def lw_privs_1 : List (MethodName × Nat) := [(⟨"SubtitleSeats$Script", "readNumber", "()I"⟩, 8), (⟨"SubtitleSeats$Script", "readText", "()Z"⟩, 8), (⟨"SubtitleSeats$Script", "mayFollowInText", "(C)Z"⟩, 8), (⟨"SubtitleSeats", "writeReport", "(III)V"⟩, 5), (⟨"SubtitleSeats$Film", "openRow", "(I)V"⟩, 5), (⟨"SubtitleSeats$Film", "seatRow", "(LSubtitleSeats$Subtitle;II)Z"⟩, 5), (⟨"SubtitleSeats$Film", "nearestCutTo", "(I)I"⟩, 5), (⟨"SubtitleSeats$Film", "hasCutNearItsTimes", "(LSubtitleSeats$Subtitle;)Z"⟩, 5), (⟨"SubtitleSeats$Subtitle", "lineEnd", "(II)I"⟩, 4), (⟨"SubtitleSeatsModel", "isScript", "()Z"⟩, 16), (⟨"SubtitleSeatsModel", "takesEntry", "()V"⟩, 16), (⟨"SubtitleSeatsModel", "takesNumber", "()I"⟩, 16), (⟨"SubtitleSeatsModel", "here", "()I"⟩, 16), (⟨"SubtitleSeatsModel", "takes", "(Z)V"⟩, 16), (⟨"SubtitleSeatsModel", "takesText", "()V"⟩, 16), (⟨"SubtitleSeatsModel", "begins", "()V"⟩, 16)]
theorem lw_r1 : ∀ q ∈ lw_privs_1, lw_okq q := List.forall_mem_cons.mpr ⟨lw_p0, List.forall_mem_cons.mpr ⟨lw_p1, List.forall_mem_cons.mpr ⟨lw_p2, List.forall_mem_cons.mpr ⟨lw_p3, List.forall_mem_cons.mpr ⟨lw_p4, List.forall_mem_cons.mpr ⟨lw_p5, List.forall_mem_cons.mpr ⟨lw_p6, List.forall_mem_cons.mpr ⟨lw_p7, List.forall_mem_cons.mpr ⟨lw_p8, List.forall_mem_cons.mpr ⟨lw_p9, List.forall_mem_cons.mpr ⟨lw_p10, List.forall_mem_cons.mpr ⟨lw_p11, List.forall_mem_cons.mpr ⟨lw_p12, List.forall_mem_cons.mpr ⟨lw_p13, List.forall_mem_cons.mpr ⟨lw_p14, List.forall_mem_cons.mpr ⟨lw_p15, fun _ h => absurd h List.not_mem_nil⟩⟩⟩⟩⟩⟩⟩⟩⟩⟩⟩⟩⟩⟩⟩⟩
theorem lw_p16 : lw_okq (⟨"SubtitleSeatsModel", "reasonNow", "()I"⟩, 16) := ⟨⟨by decide +kernel, by decide +kernel⟩, List.mem_of_getElem? (i := 495) (by decide +kernel), List.mem_of_getElem? (i := 603) (by decide +kernel), List.mem_of_getElem? (i := 604) (by decide +kernel)⟩
theorem lw_p17 : lw_okq (⟨"SubtitleSeatsModel", "of", "(II)I"⟩, 16) := ⟨⟨by decide +kernel, by decide +kernel⟩, List.mem_of_getElem? (i := 495) (by decide +kernel), List.mem_of_getElem? (i := 607) (by decide +kernel), List.mem_of_getElem? (i := 608) (by decide +kernel)⟩
theorem lw_p18 : lw_okq (⟨"SubtitleSeatsModel", "addsEntry", "()V"⟩, 16) := ⟨⟨by decide +kernel, by decide +kernel⟩, List.mem_of_getElem? (i := 495) (by decide +kernel), List.mem_of_getElem? (i := 611) (by decide +kernel), List.mem_of_getElem? (i := 612) (by decide +kernel)⟩
theorem lw_p19 : lw_okq (⟨"SubtitleSeatsModel", "opens", "(I)V"⟩, 16) := ⟨⟨by decide +kernel, by decide +kernel⟩, List.mem_of_getElem? (i := 495) (by decide +kernel), List.mem_of_getElem? (i := 615) (by decide +kernel), List.mem_of_getElem? (i := 616) (by decide +kernel)⟩
theorem lw_p20 : lw_okq (⟨"SubtitleSeatsModel", "moves", "(II)V"⟩, 16) := ⟨⟨by decide +kernel, by decide +kernel⟩, List.mem_of_getElem? (i := 495) (by decide +kernel), List.mem_of_getElem? (i := 619) (by decide +kernel), List.mem_of_getElem? (i := 620) (by decide +kernel)⟩
theorem lw_p21 : lw_okq (⟨"SubtitleSeatsModel", "lays", "(III)V"⟩, 16) := ⟨⟨by decide +kernel, by decide +kernel⟩, List.mem_of_getElem? (i := 495) (by decide +kernel), List.mem_of_getElem? (i := 623) (by decide +kernel), List.mem_of_getElem? (i := 624) (by decide +kernel)⟩
theorem lw_p22 : lw_okq (⟨"SubtitleSeatsModel", "records", "(I)I"⟩, 16) := ⟨⟨by decide +kernel, by decide +kernel⟩, List.mem_of_getElem? (i := 495) (by decide +kernel), List.mem_of_getElem? (i := 627) (by decide +kernel), List.mem_of_getElem? (i := 628) (by decide +kernel)⟩
theorem lw_p23 : lw_okq (⟨"SubtitleSeatsModel", "isSubtitle", "(I)Z"⟩, 16) := ⟨⟨by decide +kernel, by decide +kernel⟩, List.mem_of_getElem? (i := 495) (by decide +kernel), List.mem_of_getElem? (i := 643) (by decide +kernel), List.mem_of_getElem? (i := 644) (by decide +kernel)⟩
theorem lw_p24 : lw_okq (⟨"SubtitleSeatsModel", "closes", "(I)V"⟩, 16) := ⟨⟨by decide +kernel, by decide +kernel⟩, List.mem_of_getElem? (i := 495) (by decide +kernel), List.mem_of_getElem? (i := 647) (by decide +kernel), List.mem_of_getElem? (i := 648) (by decide +kernel)⟩
theorem lw_p25 : lw_okq (⟨"SubtitleSeatsModel", "canShift", "(II)Z"⟩, 16) := ⟨⟨by decide +kernel, by decide +kernel⟩, List.mem_of_getElem? (i := 495) (by decide +kernel), List.mem_of_getElem? (i := 655) (by decide +kernel), List.mem_of_getElem? (i := 656) (by decide +kernel)⟩
theorem lw_p26 : lw_okq (⟨"SubtitleSeatsModel", "bestBlank", "(I)I"⟩, 16) := ⟨⟨by decide +kernel, by decide +kernel⟩, List.mem_of_getElem? (i := 495) (by decide +kernel), List.mem_of_getElem? (i := 667) (by decide +kernel), List.mem_of_getElem? (i := 668) (by decide +kernel)⟩
theorem lw_p27 : lw_okq (⟨"SubtitleSeatsModel", "letter", "(II)I"⟩, 16) := ⟨⟨by decide +kernel, by decide +kernel⟩, List.mem_of_getElem? (i := 495) (by decide +kernel), List.mem_of_getElem? (i := 671) (by decide +kernel), List.mem_of_getElem? (i := 672) (by decide +kernel)⟩
theorem lw_p28 : lw_okq (⟨"SubtitleSeatsModel", "kindOf", "(II)I"⟩, 16) := ⟨⟨by decide +kernel, by decide +kernel⟩, List.mem_of_getElem? (i := 495) (by decide +kernel), List.mem_of_getElem? (i := 678) (by decide +kernel), List.mem_of_getElem? (i := 679) (by decide +kernel)⟩
theorem lw_p29 : lw_okq (⟨"SubtitleSeatsModel", "framesOf", "(I)I"⟩, 16) := ⟨⟨by decide +kernel, by decide +kernel⟩, List.mem_of_getElem? (i := 495) (by decide +kernel), List.mem_of_getElem? (i := 682) (by decide +kernel), List.mem_of_getElem? (i := 683) (by decide +kernel)⟩
theorem lw_p30 : lw_okq (⟨"SubtitleSeatsModel", "its", "(I)I"⟩, 16) := ⟨⟨by decide +kernel, by decide +kernel⟩, List.mem_of_getElem? (i := 495) (by decide +kernel), List.mem_of_getElem? (i := 686) (by decide +kernel), List.mem_of_getElem? (i := 687) (by decide +kernel)⟩
theorem lw_p31 : lw_okq (⟨"SubtitleSeatsModel", "splits", "(I)I"⟩, 16) := ⟨⟨by decide +kernel, by decide +kernel⟩, List.mem_of_getElem? (i := 495) (by decide +kernel), List.mem_of_getElem? (i := 690) (by decide +kernel), List.mem_of_getElem? (i := 691) (by decide +kernel)⟩
def lw_privs_2 : List (MethodName × Nat) := [(⟨"SubtitleSeatsModel", "reasonNow", "()I"⟩, 16), (⟨"SubtitleSeatsModel", "of", "(II)I"⟩, 16), (⟨"SubtitleSeatsModel", "addsEntry", "()V"⟩, 16), (⟨"SubtitleSeatsModel", "opens", "(I)V"⟩, 16), (⟨"SubtitleSeatsModel", "moves", "(II)V"⟩, 16), (⟨"SubtitleSeatsModel", "lays", "(III)V"⟩, 16), (⟨"SubtitleSeatsModel", "records", "(I)I"⟩, 16), (⟨"SubtitleSeatsModel", "isSubtitle", "(I)Z"⟩, 16), (⟨"SubtitleSeatsModel", "closes", "(I)V"⟩, 16), (⟨"SubtitleSeatsModel", "canShift", "(II)Z"⟩, 16), (⟨"SubtitleSeatsModel", "bestBlank", "(I)I"⟩, 16), (⟨"SubtitleSeatsModel", "letter", "(II)I"⟩, 16), (⟨"SubtitleSeatsModel", "kindOf", "(II)I"⟩, 16), (⟨"SubtitleSeatsModel", "framesOf", "(I)I"⟩, 16), (⟨"SubtitleSeatsModel", "its", "(I)I"⟩, 16), (⟨"SubtitleSeatsModel", "splits", "(I)I"⟩, 16)]
theorem lw_r2 : ∀ q ∈ lw_privs_2, lw_okq q := List.forall_mem_cons.mpr ⟨lw_p16, List.forall_mem_cons.mpr ⟨lw_p17, List.forall_mem_cons.mpr ⟨lw_p18, List.forall_mem_cons.mpr ⟨lw_p19, List.forall_mem_cons.mpr ⟨lw_p20, List.forall_mem_cons.mpr ⟨lw_p21, List.forall_mem_cons.mpr ⟨lw_p22, List.forall_mem_cons.mpr ⟨lw_p23, List.forall_mem_cons.mpr ⟨lw_p24, List.forall_mem_cons.mpr ⟨lw_p25, List.forall_mem_cons.mpr ⟨lw_p26, List.forall_mem_cons.mpr ⟨lw_p27, List.forall_mem_cons.mpr ⟨lw_p28, List.forall_mem_cons.mpr ⟨lw_p29, List.forall_mem_cons.mpr ⟨lw_p30, List.forall_mem_cons.mpr ⟨lw_p31, fun _ h => absurd h List.not_mem_nil⟩⟩⟩⟩⟩⟩⟩⟩⟩⟩⟩⟩⟩⟩⟩⟩
theorem lw_p32 : lw_okq (⟨"SubtitleSeatsModel", "seatsAll", "()I"⟩, 16) := ⟨⟨by decide +kernel, by decide +kernel⟩, List.mem_of_getElem? (i := 495) (by decide +kernel), List.mem_of_getElem? (i := 702) (by decide +kernel), List.mem_of_getElem? (i := 703) (by decide +kernel)⟩
theorem lw_p33 : lw_okq (⟨"SubtitleSeatsModel", "seats", "(I)V"⟩, 16) := ⟨⟨by decide +kernel, by decide +kernel⟩, List.mem_of_getElem? (i := 495) (by decide +kernel), List.mem_of_getElem? (i := 706) (by decide +kernel), List.mem_of_getElem? (i := 707) (by decide +kernel)⟩
theorem lw_p34 : lw_okq (⟨"SubtitleSeatsModel", "needs", "(I)I"⟩, 16) := ⟨⟨by decide +kernel, by decide +kernel⟩, List.mem_of_getElem? (i := 495) (by decide +kernel), List.mem_of_getElem? (i := 710) (by decide +kernel), List.mem_of_getElem? (i := 711) (by decide +kernel)⟩
theorem lw_p35 : lw_okq (⟨"SubtitleSeatsModel", "limitOf", "(I)I"⟩, 16) := ⟨⟨by decide +kernel, by decide +kernel⟩, List.mem_of_getElem? (i := 495) (by decide +kernel), List.mem_of_getElem? (i := 714) (by decide +kernel), List.mem_of_getElem? (i := 715) (by decide +kernel)⟩
theorem lw_p36 : lw_okq (⟨"SubtitleSeatsModel", "nearestCut", "(I)I"⟩, 16) := ⟨⟨by decide +kernel, by decide +kernel⟩, List.mem_of_getElem? (i := 495) (by decide +kernel), List.mem_of_getElem? (i := 718) (by decide +kernel), List.mem_of_getElem? (i := 719) (by decide +kernel)⟩
theorem lw_p37 : lw_okq (⟨"SubtitleSeatsModel", "placeOfCut", "(I)I"⟩, 16) := ⟨⟨by decide +kernel, by decide +kernel⟩, List.mem_of_getElem? (i := 495) (by decide +kernel), List.mem_of_getElem? (i := 726) (by decide +kernel), List.mem_of_getElem? (i := 727) (by decide +kernel)⟩
theorem lw_p38 : lw_okq (⟨"SubtitleSeatsModel", "faultsOf", "(I)I"⟩, 16) := ⟨⟨by decide +kernel, by decide +kernel⟩, List.mem_of_getElem? (i := 495) (by decide +kernel), List.mem_of_getElem? (i := 752) (by decide +kernel), List.mem_of_getElem? (i := 753) (by decide +kernel)⟩
theorem lw_p39 : lw_okq (⟨"SubtitleSeatsModel", "isFast", "(II)Z"⟩, 16) := ⟨⟨by decide +kernel, by decide +kernel⟩, List.mem_of_getElem? (i := 495) (by decide +kernel), List.mem_of_getElem? (i := 756) (by decide +kernel), List.mem_of_getElem? (i := 757) (by decide +kernel)⟩
theorem lw_p40 : lw_okq (⟨"SubtitleSeatsModel", "isNearCut", "(I)Z"⟩, 16) := ⟨⟨by decide +kernel, by decide +kernel⟩, List.mem_of_getElem? (i := 495) (by decide +kernel), List.mem_of_getElem? (i := 760) (by decide +kernel), List.mem_of_getElem? (i := 761) (by decide +kernel)⟩
theorem lw_p41 : lw_okq (⟨"SubtitleSeatsModel", "isWide", "(I)Z"⟩, 16) := ⟨⟨by decide +kernel, by decide +kernel⟩, List.mem_of_getElem? (i := 495) (by decide +kernel), List.mem_of_getElem? (i := 764) (by decide +kernel), List.mem_of_getElem? (i := 765) (by decide +kernel)⟩
theorem lw_p42 : lw_okq (⟨"SubtitleSeatsModel", "laysLines", "(I)I"⟩, 16) := ⟨⟨by decide +kernel, by decide +kernel⟩, List.mem_of_getElem? (i := 495) (by decide +kernel), List.mem_of_getElem? (i := 768) (by decide +kernel), List.mem_of_getElem? (i := 769) (by decide +kernel)⟩
theorem lw_p43 : lw_okq (⟨"SubtitleSeatsModel", "faultyBy", "(I)I"⟩, 16) := ⟨⟨by decide +kernel, by decide +kernel⟩, List.mem_of_getElem? (i := 495) (by decide +kernel), List.mem_of_getElem? (i := 800) (by decide +kernel), List.mem_of_getElem? (i := 801) (by decide +kernel)⟩
theorem lw_p44 : lw_okq (⟨"SubtitleSeatsModel", "allFrames", "()I"⟩, 16) := ⟨⟨by decide +kernel, by decide +kernel⟩, List.mem_of_getElem? (i := 495) (by decide +kernel), List.mem_of_getElem? (i := 808) (by decide +kernel), List.mem_of_getElem? (i := 809) (by decide +kernel)⟩
theorem lw_p45 : lw_okq (⟨"SubtitleSeatsModel", "unreadBy", "(I)I"⟩, 16) := ⟨⟨by decide +kernel, by decide +kernel⟩, List.mem_of_getElem? (i := 495) (by decide +kernel), List.mem_of_getElem? (i := 821) (by decide +kernel), List.mem_of_getElem? (i := 822) (by decide +kernel)⟩
def lw_privs_3 : List (MethodName × Nat) := [(⟨"SubtitleSeatsModel", "seatsAll", "()I"⟩, 16), (⟨"SubtitleSeatsModel", "seats", "(I)V"⟩, 16), (⟨"SubtitleSeatsModel", "needs", "(I)I"⟩, 16), (⟨"SubtitleSeatsModel", "limitOf", "(I)I"⟩, 16), (⟨"SubtitleSeatsModel", "nearestCut", "(I)I"⟩, 16), (⟨"SubtitleSeatsModel", "placeOfCut", "(I)I"⟩, 16), (⟨"SubtitleSeatsModel", "faultsOf", "(I)I"⟩, 16), (⟨"SubtitleSeatsModel", "isFast", "(II)Z"⟩, 16), (⟨"SubtitleSeatsModel", "isNearCut", "(I)Z"⟩, 16), (⟨"SubtitleSeatsModel", "isWide", "(I)Z"⟩, 16), (⟨"SubtitleSeatsModel", "laysLines", "(I)I"⟩, 16), (⟨"SubtitleSeatsModel", "faultyBy", "(I)I"⟩, 16), (⟨"SubtitleSeatsModel", "allFrames", "()I"⟩, 16), (⟨"SubtitleSeatsModel", "unreadBy", "(I)I"⟩, 16)]
theorem lw_r3 : ∀ q ∈ lw_privs_3, lw_okq q := List.forall_mem_cons.mpr ⟨lw_p32, List.forall_mem_cons.mpr ⟨lw_p33, List.forall_mem_cons.mpr ⟨lw_p34, List.forall_mem_cons.mpr ⟨lw_p35, List.forall_mem_cons.mpr ⟨lw_p36, List.forall_mem_cons.mpr ⟨lw_p37, List.forall_mem_cons.mpr ⟨lw_p38, List.forall_mem_cons.mpr ⟨lw_p39, List.forall_mem_cons.mpr ⟨lw_p40, List.forall_mem_cons.mpr ⟨lw_p41, List.forall_mem_cons.mpr ⟨lw_p42, List.forall_mem_cons.mpr ⟨lw_p43, List.forall_mem_cons.mpr ⟨lw_p44, List.forall_mem_cons.mpr ⟨lw_p45, fun _ h => absurd h List.not_mem_nil⟩⟩⟩⟩⟩⟩⟩⟩⟩⟩⟩⟩⟩⟩
def lw_privs : List (MethodName × Nat) := lw_privs_1 ++ (lw_privs_2 ++ (lw_privs_3))
def lw_tbl : List Cond := k2_sels lw_privs ++ tables_1
theorem lw_privs_ok : ∀ q ∈ lw_privs, lw_okq q := by
  show ∀ q ∈ lw_privs_1 ++ (lw_privs_2 ++ (lw_privs_3)), lw_okq q
  exact List.forall_mem_append.mpr ⟨lw_r1, List.forall_mem_append.mpr ⟨lw_r2, lw_r3⟩⟩
/-- the streams that the claim lets the run draw from -/
abbrev lw_cs : List Choice := [Jvm.Choice.named "NaN.bits"]
theorem lw_bits : nanBits ∈ lw_cs := by first | decide | exact List.mem_cons_self | simp [lw_cs, nanBits]
end
section
theorem goodIn_r {big : List Cond} (ws : List Cond) (ps : List Nat) (hp : ws = ps.filterMap (fun i => big[i]?)) (h : ws.all goodWord = true) : GoodIn big ws := by
  intro w hw
  have h1 := List.all_eq_true.mp h w hw
  rw [hp] at hw
  obtain ⟨i, -, hi⟩ := List.mem_filterMap.mp hw
  have hm : w ∈ big := by first | exact List.mem_of_getElem? hi | exact List.getElem?_mem hi
  exact ⟨hm, good_of_word h1⟩
theorem goodIn_app {big a b : List Cond} (ha : GoodIn big a) (hb : GoodIn big b) : GoodIn big (a ++ b) := fun w h => (List.mem_append.mp h).elim (ha w) (hb w)
theorem goodIn_ca {big a b : List Cond} {c : Cond} (ha : GoodIn big (c :: a)) (hb : GoodIn big b) : GoodIn big (c :: (a ++ b)) := fun w h => (List.mem_cons.mp h).elim (fun e => ha w (List.mem_cons.mpr (Or.inl e))) (fun h => (List.mem_append.mp h).elim (fun h => ha w (List.mem_cons.mpr (Or.inr h))) (hb w))
theorem goodIn_sub {big ws : List Cond} (hm : ∀ w ∈ ws, w ∈ big) (h : ws.all goodWord = true) : GoodIn big ws := fun w hw => ⟨hm w hw, good_of_word (List.all_eq_true.mp h w hw)⟩

def RX0 : String := "SubtitleSeats$Film"
def TX0 : u_T := fun k => match k with
  | 0 => ("SubtitleSeats$Film", "rows", "[LSubtitleSeats$Subtitle;", true)
  | 1 => ("SubtitleSeats$Film", "count", "I", false)
  | 2 => ("SubtitleSeats$Film", "cutFrames", "[I", true)
  | 3 => ("SubtitleSeats$Film", "cutCount", "I", false)
  | _ => ("SubtitleSeats$Film", "values", "[I", true)
def tyX0 : Nat → FieldType := fun k => match k with
  | 0 => .array (.object "SubtitleSeats$Subtitle")
  | 1 => .int
  | 2 => .array .int
  | 3 => .int
  | _ => .array .int
abbrev wsX00 : List Cond := u_ws RX0 TX0 5
theorem nmX0 : ∀ a, a < 5 → ∀ b, b < 5 → a ≠ b → (TX0 a).2.1 ≠ (TX0 b).2.1 := by decide +kernel
theorem tyX0_ok : ∀ k, k < 5 → parseFieldDescriptor (TX0 k).2.2.1 = some (tyX0 k) := by decide +kernel
abbrev cX0_init : ByteArray := prog_2_method_1_code
def yX0_init : MethodName := ⟨RX0, "<init>", "()V"⟩
abbrev cX0_copyFrom : ByteArray := prog_2_method_2_code
def yX0_copyFrom : MethodName := ⟨RX0, "copyFrom", "(LSubtitleSeats$Film;)V"⟩
abbrev cX0_copyTimesFrom : ByteArray := prog_2_method_3_code
def yX0_copyTimesFrom : MethodName := ⟨RX0, "copyTimesFrom", "(LSubtitleSeats$Film;)V"⟩
abbrev cX0_has : ByteArray := prog_2_method_4_code
def yX0_has : MethodName := ⟨RX0, "has", "(I)Z"⟩
abbrev cX0_endBefore : ByteArray := prog_2_method_5_code
def yX0_endBefore : MethodName := ⟨RX0, "endBefore", "(I)I"⟩
abbrev cX0_startBehind : ByteArray := prog_2_method_6_code
def yX0_startBehind : MethodName := ⟨RX0, "startBehind", "(I)I"⟩
abbrev cX0_reasonAgainst : ByteArray := prog_2_method_7_code
def yX0_reasonAgainst : MethodName := ⟨RX0, "reasonAgainst", "(II)I"⟩
abbrev cX0_openRowAt : ByteArray := prog_2_method_8_code
def yX0_openRowAt : MethodName := ⟨RX0, "openRowAt", "(I)I"⟩
abbrev cX0_openRow : ByteArray := prog_2_method_9_code
def yX0_openRow : MethodName := ⟨RX0, "openRow", "(I)V"⟩
abbrev cX0_closeRow : ByteArray := prog_2_method_10_code
def yX0_closeRow : MethodName := ⟨RX0, "closeRow", "(I)V"⟩
abbrev cX0_splitRow : ByteArray := prog_2_method_11_code
def yX0_splitRow : MethodName := ⟨RX0, "splitRow", "(II)V"⟩
abbrev cX0_joinRows : ByteArray := prog_2_method_12_code
def yX0_joinRows : MethodName := ⟨RX0, "joinRows", "(I)V"⟩
abbrev cX0_framesNeededBy : ByteArray := prog_2_method_13_code
def yX0_framesNeededBy : MethodName := ⟨RX0, "framesNeededBy", "(LSubtitleSeats$Subtitle;)I"⟩
abbrev cX0_seatAll : ByteArray := prog_2_method_14_code
def yX0_seatAll : MethodName := ⟨RX0, "seatAll", "(I)I"⟩
abbrev cX0_seatRow : ByteArray := prog_2_method_15_code
def yX0_seatRow : MethodName := ⟨RX0, "seatRow", "(LSubtitleSeats$Subtitle;II)Z"⟩
abbrev cX0_nearestCutTo : ByteArray := prog_2_method_16_code
def yX0_nearestCutTo : MethodName := ⟨RX0, "nearestCutTo", "(I)I"⟩
abbrev cX0_faultsOf : ByteArray := prog_2_method_17_code
def yX0_faultsOf : MethodName := ⟨RX0, "faultsOf", "(I)I"⟩
abbrev cX0_hasCutNearItsTimes : ByteArray := prog_2_method_18_code
def yX0_hasCutNearItsTimes : MethodName := ⟨RX0, "hasCutNearItsTimes", "(LSubtitleSeats$Subtitle;)Z"⟩
abbrev cX0_countFaulty : ByteArray := prog_2_method_19_code
def yX0_countFaulty : MethodName := ⟨RX0, "countFaulty", "(I)I"⟩
abbrev cX0_countTooFastFor : ByteArray := prog_2_method_20_code
def yX0_countTooFastFor : MethodName := ⟨RX0, "countTooFastFor", "(I)I"⟩
abbrev cX0_framesOfAll : ByteArray := prog_2_method_21_code
def yX0_framesOfAll : MethodName := ⟨RX0, "framesOfAll", "()I"⟩
abbrev cX0_lengthOfAll : ByteArray := prog_2_method_22_code
def yX0_lengthOfAll : MethodName := ⟨RX0, "lengthOfAll", "()I"⟩
abbrev cX0_findCut : ByteArray := prog_2_method_23_code
def yX0_findCut : MethodName := ⟨RX0, "findCut", "(I)I"⟩
abbrev cX0_addCut : ByteArray := prog_2_method_24_code
def yX0_addCut : MethodName := ⟨RX0, "addCut", "(I)V"⟩
abbrev cX0_removeCut : ByteArray := prog_2_method_25_code
def yX0_removeCut : MethodName := ⟨RX0, "removeCut", "(I)V"⟩
abbrev cX0_quotient : ByteArray := prog_2_method_26_code
def yX0_quotient : MethodName := ⟨RX0, "quotient", "(II)I"⟩
def RX1 : String := "SubtitleSeats$History"
def TX1 : u_T := fun k => match k with
  | 0 => ("SubtitleSeats$History", "states", "[LSubtitleSeats$Film;", true)
  | 1 => ("SubtitleSeats$History", "count", "I", false)
  | _ => ("SubtitleSeats$History", "latest", "I", false)
def tyX1 : Nat → FieldType := fun k => match k with
  | 0 => .array (.object "SubtitleSeats$Film")
  | 1 => .int
  | _ => .int
abbrev wsX10 : List Cond := u_ws RX1 TX1 3
theorem nmX1 : ∀ a, a < 3 → ∀ b, b < 3 → a ≠ b → (TX1 a).2.1 ≠ (TX1 b).2.1 := by decide +kernel
theorem tyX1_ok : ∀ k, k < 3 → parseFieldDescriptor (TX1 k).2.2.1 = some (tyX1 k) := by decide +kernel
abbrev cX1_init : ByteArray := prog_3_method_1_code
def yX1_init : MethodName := ⟨RX1, "<init>", "()V"⟩
abbrev cX1_record : ByteArray := prog_3_method_2_code
def yX1_record : MethodName := ⟨RX1, "record", "(LSubtitleSeats$Film;)V"⟩
abbrev cX1_restore : ByteArray := prog_3_method_3_code
def yX1_restore : MethodName := ⟨RX1, "restore", "(LSubtitleSeats$Film;)V"⟩
def RX2 : String := "SubtitleSeats$Script"
def TX2 : u_T := fun k => match k with
  | 0 => ("SubtitleSeats$Script", "characters", "[C", true)
  | 1 => ("SubtitleSeats$Script", "length", "I", false)
  | 2 => ("SubtitleSeats$Script", "place", "I", false)
  | 3 => ("SubtitleSeats$Script", "entryPlace", "I", false)
  | 4 => ("SubtitleSeats$Script", "start", "I", false)
  | 5 => ("SubtitleSeats$Script", "end", "I", false)
  | 6 => ("SubtitleSeats$Script", "textPlace", "I", false)
  | _ => ("SubtitleSeats$Script", "textLength", "I", false)
def tyX2 : Nat → FieldType := fun k => match k with
  | 0 => .array .char
  | 1 => .int
  | 2 => .int
  | 3 => .int
  | 4 => .int
  | 5 => .int
  | 6 => .int
  | _ => .int
abbrev wsX20 : List Cond := u_ws RX2 TX2 8
theorem nmX2 : ∀ a, a < 8 → ∀ b, b < 8 → a ≠ b → (TX2 a).2.1 ≠ (TX2 b).2.1 := by decide +kernel
theorem tyX2_ok : ∀ k, k < 8 → parseFieldDescriptor (TX2 k).2.2.1 = some (tyX2 k) := by decide +kernel
abbrev cX2_init : ByteArray := prog_4_method_1_code
def yX2_init : MethodName := ⟨RX2, "<init>", "()V"⟩
abbrev cX2_findFault : ByteArray := prog_4_method_2_code
def yX2_findFault : MethodName := ⟨RX2, "findFault", "()I"⟩
abbrev cX2_rewind : ByteArray := prog_4_method_3_code
def yX2_rewind : MethodName := ⟨RX2, "rewind", "()V"⟩
abbrev cX2_readEntry : ByteArray := prog_4_method_4_code
def yX2_readEntry : MethodName := ⟨RX2, "readEntry", "()Z"⟩
abbrev cX2_take : ByteArray := prog_4_method_5_code
def yX2_take : MethodName := ⟨RX2, "take", "(C)Z"⟩
abbrev cX2_readNumber : ByteArray := prog_4_method_6_code
def yX2_readNumber : MethodName := ⟨RX2, "readNumber", "()I"⟩
abbrev cX2_readText : ByteArray := prog_4_method_7_code
def yX2_readText : MethodName := ⟨RX2, "readText", "()Z"⟩
abbrev cX2_mayFollowInText : ByteArray := prog_4_method_8_code
def yX2_mayFollowInText : MethodName := ⟨RX2, "mayFollowInText", "(C)Z"⟩
abbrev cX2_isDigit : ByteArray := prog_4_method_9_code
def yX2_isDigit : MethodName := ⟨RX2, "isDigit", "(C)Z"⟩
abbrev cX2_isSign : ByteArray := prog_4_method_10_code
def yX2_isSign : MethodName := ⟨RX2, "isSign", "(C)Z"⟩
def RX3 : String := "SubtitleSeats$Subtitle"
def TX3 : u_T := fun k => match k with
  | 0 => ("SubtitleSeats$Subtitle", "start", "I", false)
  | 1 => ("SubtitleSeats$Subtitle", "end", "I", false)
  | 2 => ("SubtitleSeats$Subtitle", "length", "I", false)
  | _ => ("SubtitleSeats$Subtitle", "text", "[C", true)
def tyX3 : Nat → FieldType := fun k => match k with
  | 0 => .int
  | 1 => .int
  | 2 => .int
  | _ => .array .char
abbrev wsX30 : List Cond := u_ws RX3 TX3 4
theorem nmX3 : ∀ a, a < 4 → ∀ b, b < 4 → a ≠ b → (TX3 a).2.1 ≠ (TX3 b).2.1 := by decide +kernel
theorem tyX3_ok : ∀ k, k < 4 → parseFieldDescriptor (TX3 k).2.2.1 = some (tyX3 k) := by decide +kernel
abbrev cX3_init : ByteArray := prog_5_method_1_code
def yX3_init : MethodName := ⟨RX3, "<init>", "()V"⟩
abbrev cX3_copyFrom : ByteArray := prog_5_method_2_code
def yX3_copyFrom : MethodName := ⟨RX3, "copyFrom", "(LSubtitleSeats$Subtitle;)V"⟩
abbrev cX3_takeText : ByteArray := prog_5_method_3_code
def yX3_takeText : MethodName := ⟨RX3, "takeText", "([CII)V"⟩
abbrev cX3_frames : ByteArray := prog_5_method_4_code
def yX3_frames : MethodName := ⟨RX3, "frames", "()I"⟩
abbrev cX3_isTooFastFor : ByteArray := prog_5_method_5_code
def yX3_isTooFastFor : MethodName := ⟨RX3, "isTooFastFor", "(I)Z"⟩
abbrev cX3_bestBlank : ByteArray := prog_5_method_6_code
def yX3_bestBlank : MethodName := ⟨RX3, "bestBlank", "()I"⟩
abbrev cX3_kindOfBlankBehind : ByteArray := prog_5_method_7_code
def yX3_kindOfBlankBehind : MethodName := ⟨RX3, "kindOfBlankBehind", "(C)I"⟩
abbrev cX3_lineEnd : ByteArray := prog_5_method_8_code
def yX3_lineEnd : MethodName := ⟨RX3, "lineEnd", "(II)I"⟩
abbrev cX3_lineCount : ByteArray := prog_5_method_9_code
def yX3_lineCount : MethodName := ⟨RX3, "lineCount", "(I)I"⟩
abbrev cX3_lineLength : ByteArray := prog_5_method_10_code
def yX3_lineLength : MethodName := ⟨RX3, "lineLength", "(II)I"⟩
abbrev cX3_fitsInLines : ByteArray := prog_5_method_11_code
def yX3_fitsInLines : MethodName := ⟨RX3, "fitsInLines", "(I)Z"⟩
def RX4 : String := "SubtitleSeats"
def TX4 : u_T := fun k => match k with
  | 0 => ("SubtitleSeats", "film", "LSubtitleSeats$Film;", true)
  | 1 => ("SubtitleSeats", "trial", "LSubtitleSeats$Film;", true)
  | 2 => ("SubtitleSeats", "history", "LSubtitleSeats$History;", true)
  | 3 => ("SubtitleSeats", "script", "LSubtitleSeats$Script;", true)
  | _ => ("SubtitleSeats", "report", "[I", true)
def tyX4 : Nat → FieldType := fun k => match k with
  | 0 => .object "SubtitleSeats$Film"
  | 1 => .object "SubtitleSeats$Film"
  | 2 => .object "SubtitleSeats$History"
  | 3 => .object "SubtitleSeats$Script"
  | _ => .array .int
abbrev wsX40 : List Cond := u_ws RX4 TX4 5
theorem nmX4 : ∀ a, a < 5 → ∀ b, b < 5 → a ≠ b → (TX4 a).2.1 ≠ (TX4 b).2.1 := by decide +kernel
theorem tyX4_ok : ∀ k, k < 5 → parseFieldDescriptor (TX4 k).2.2.1 = some (tyX4 k) := by decide +kernel
abbrev cX4_init : ByteArray := prog_1_method_1_code
def yX4_init : MethodName := ⟨RX4, "<init>", "()V"⟩
abbrev cX4_append : ByteArray := prog_1_method_2_code
def yX4_append : MethodName := ⟨RX4, "append", "(I)I"⟩
abbrev cX4_clearScript : ByteArray := prog_1_method_3_code
def yX4_clearScript : MethodName := ⟨RX4, "clearScript", "()I"⟩
abbrev cX4_fault : ByteArray := prog_1_method_4_code
def yX4_fault : MethodName := ⟨RX4, "fault", "()I"⟩
abbrev cX4_load : ByteArray := prog_1_method_5_code
def yX4_load : MethodName := ⟨RX4, "load", "()I"⟩
abbrev cX4_why : ByteArray := prog_1_method_6_code
def yX4_why : MethodName := ⟨RX4, "why", "(I)I"⟩
abbrev cX4_undo : ByteArray := prog_1_method_7_code
def yX4_undo : MethodName := ⟨RX4, "undo", "()I"⟩
abbrev cX4_remove : ByteArray := prog_1_method_8_code
def yX4_remove : MethodName := ⟨RX4, "remove", "(I)I"⟩
abbrev cX4_shift : ByteArray := prog_1_method_9_code
def yX4_shift : MethodName := ⟨RX4, "shift", "(II)I"⟩
abbrev cX4_setEnd : ByteArray := prog_1_method_10_code
def yX4_setEnd : MethodName := ⟨RX4, "setEnd", "(II)I"⟩
abbrev cX4_split : ByteArray := prog_1_method_11_code
def yX4_split : MethodName := ⟨RX4, "split", "(I)I"⟩
abbrev cX4_join : ByteArray := prog_1_method_12_code
def yX4_join : MethodName := ⟨RX4, "join", "(I)I"⟩
abbrev cX4_seat : ByteArray := prog_1_method_13_code
def yX4_seat : MethodName := ⟨RX4, "seat", "()I"⟩
abbrev cX4_cut : ByteArray := prog_1_method_14_code
def yX4_cut : MethodName := ⟨RX4, "cut", "(I)I"⟩
abbrev cX4_uncut : ByteArray := prog_1_method_15_code
def yX4_uncut : MethodName := ⟨RX4, "uncut", "(I)I"⟩
abbrev cX4_set : ByteArray := prog_1_method_16_code
def yX4_set : MethodName := ⟨RX4, "set", "(II)I"⟩
abbrev cX4_subtitles : ByteArray := prog_1_method_17_code
def yX4_subtitles : MethodName := ⟨RX4, "subtitles", "()I"⟩
abbrev cX4_subtitle : ByteArray := prog_1_method_18_code
def yX4_subtitle : MethodName := ⟨RX4, "subtitle", "(II)I"⟩
abbrev cX4_character : ByteArray := prog_1_method_19_code
def yX4_character : MethodName := ⟨RX4, "character", "(II)I"⟩
abbrev cX4_line : ByteArray := prog_1_method_20_code
def yX4_line : MethodName := ⟨RX4, "line", "(II)I"⟩
abbrev cX4_at : ByteArray := prog_1_method_21_code
def yX4_at : MethodName := ⟨RX4, "at", "(I)I"⟩
abbrev cX4_cuts : ByteArray := prog_1_method_22_code
def yX4_cuts : MethodName := ⟨RX4, "cuts", "()I"⟩
abbrev cX4_cutAt : ByteArray := prog_1_method_23_code
def yX4_cutAt : MethodName := ⟨RX4, "cutAt", "(I)I"⟩
abbrev cX4_setting : ByteArray := prog_1_method_24_code
def yX4_setting : MethodName := ⟨RX4, "setting", "(I)I"⟩
abbrev cX4_faulty : ByteArray := prog_1_method_25_code
def yX4_faulty : MethodName := ⟨RX4, "faulty", "(I)I"⟩
abbrev cX4_shown : ByteArray := prog_1_method_26_code
def yX4_shown : MethodName := ⟨RX4, "shown", "()I"⟩
abbrev cX4_meanSpeed : ByteArray := prog_1_method_27_code
def yX4_meanSpeed : MethodName := ⟨RX4, "meanSpeed", "()F"⟩
abbrev cX4_unread : ByteArray := prog_1_method_28_code
def yX4_unread : MethodName := ⟨RX4, "unread", "(I)I"⟩
abbrev cX4_leastPace : ByteArray := prog_1_method_29_code
def yX4_leastPace : MethodName := ⟨RX4, "leastPace", "()I"⟩
abbrev cX4_ifSeated : ByteArray := prog_1_method_30_code
def yX4_ifSeated : MethodName := ⟨RX4, "ifSeated", "(I)I"⟩
abbrev cX4_bestGap : ByteArray := prog_1_method_31_code
def yX4_bestGap : MethodName := ⟨RX4, "bestGap", "()I"⟩
abbrev cX4_writeReport : ByteArray := prog_1_method_32_code
def yX4_writeReport : MethodName := ⟨RX4, "writeReport", "(III)V"⟩
def RX5 : String := "SubtitleSeatsModel"
def TX5 : u_T := fun k => match k with
  | 0 => ("SubtitleSeatsModel", "s", "[I", true)
  | 1 => ("SubtitleSeatsModel", "aside", "[I", true)
  | 2 => ("SubtitleSeatsModel", "before", "[I", true)
  | 3 => ("SubtitleSeatsModel", "past", "[I", true)
  | 4 => ("SubtitleSeatsModel", "known", "I", false)
  | 5 => ("SubtitleSeatsModel", "script", "[I", true)
  | 6 => ("SubtitleSeatsModel", "length", "I", false)
  | 7 => ("SubtitleSeatsModel", "lines", "[I", true)
  | 8 => ("SubtitleSeatsModel", "spot", "I", false)
  | 9 => ("SubtitleSeatsModel", "entry", "I", false)
  | 10 => ("SubtitleSeatsModel", "isForm", "Z", false)
  | 11 => ("SubtitleSeatsModel", "first", "I", false)
  | 12 => ("SubtitleSeatsModel", "second", "I", false)
  | 13 => ("SubtitleSeatsModel", "letters", "I", false)
  | 14 => ("SubtitleSeatsModel", "isStopped", "Z", false)
  | _ => ("SubtitleSeatsModel", "report", "[I", true)
def tyX5 : Nat → FieldType := fun k => match k with
  | 0 => .array .int
  | 1 => .array .int
  | 2 => .array .int
  | 3 => .array .int
  | 4 => .int
  | 5 => .array .int
  | 6 => .int
  | 7 => .array .int
  | 8 => .int
  | 9 => .int
  | 10 => .boolean
  | 11 => .int
  | 12 => .int
  | 13 => .int
  | 14 => .boolean
  | _ => .array .int
abbrev wsX50 : List Cond := u_ws RX5 TX5 16
theorem nmX5 : ∀ a, a < 16 → ∀ b, b < 16 → a ≠ b → (TX5 a).2.1 ≠ (TX5 b).2.1 := by decide +kernel
theorem tyX5_ok : ∀ k, k < 16 → parseFieldDescriptor (TX5 k).2.2.1 = some (tyX5 k) := by decide +kernel
abbrev cX5_init : ByteArray := prog_7_method_1_code
def yX5_init : MethodName := ⟨RX5, "<init>", "()V"⟩
abbrev cX5_in : ByteArray := prog_7_method_3_code
def yX5_in : MethodName := ⟨RX5, "in", "(III)Z"⟩
abbrev cX5_copies : ByteArray := prog_7_method_4_code
def yX5_copies : MethodName := ⟨RX5, "copies", "([II[II)V"⟩
abbrev cX5_begins : ByteArray := prog_7_method_5_code
def yX5_begins : MethodName := ⟨RX5, "begins", "()V"⟩
abbrev cX5_records : ByteArray := prog_7_method_6_code
def yX5_records : MethodName := ⟨RX5, "records", "(I)I"⟩
abbrev cX5_isSubtitle : ByteArray := prog_7_method_7_code
def yX5_isSubtitle : MethodName := ⟨RX5, "isSubtitle", "(I)Z"⟩
abbrev cX5_of : ByteArray := prog_7_method_8_code
def yX5_of : MethodName := ⟨RX5, "of", "(II)I"⟩
abbrev cX5_lays : ByteArray := prog_7_method_9_code
def yX5_lays : MethodName := ⟨RX5, "lays", "(III)V"⟩
abbrev cX5_its : ByteArray := prog_7_method_10_code
def yX5_its : MethodName := ⟨RX5, "its", "(I)I"⟩
abbrev cX5_framesOf : ByteArray := prog_7_method_11_code
def yX5_framesOf : MethodName := ⟨RX5, "framesOf", "(I)I"⟩
abbrev cX5_needs : ByteArray := prog_7_method_12_code
def yX5_needs : MethodName := ⟨RX5, "needs", "(I)I"⟩
abbrev cX5_letter : ByteArray := prog_7_method_13_code
def yX5_letter : MethodName := ⟨RX5, "letter", "(II)I"⟩
abbrev cX5_moves : ByteArray := prog_7_method_14_code
def yX5_moves : MethodName := ⟨RX5, "moves", "(II)V"⟩
abbrev cX5_opens : ByteArray := prog_7_method_15_code
def yX5_opens : MethodName := ⟨RX5, "opens", "(I)V"⟩
abbrev cX5_closes : ByteArray := prog_7_method_16_code
def yX5_closes : MethodName := ⟨RX5, "closes", "(I)V"⟩
abbrev cX5_laysLines : ByteArray := prog_7_method_17_code
def yX5_laysLines : MethodName := ⟨RX5, "laysLines", "(I)I"⟩
abbrev cX5_isWide : ByteArray := prog_7_method_18_code
def yX5_isWide : MethodName := ⟨RX5, "isWide", "(I)Z"⟩
abbrev cX5_isNearCut : ByteArray := prog_7_method_19_code
def yX5_isNearCut : MethodName := ⟨RX5, "isNearCut", "(I)Z"⟩
abbrev cX5_isFast : ByteArray := prog_7_method_20_code
def yX5_isFast : MethodName := ⟨RX5, "isFast", "(II)Z"⟩
abbrev cX5_faultsOf : ByteArray := prog_7_method_21_code
def yX5_faultsOf : MethodName := ⟨RX5, "faultsOf", "(I)I"⟩
abbrev cX5_faultyBy : ByteArray := prog_7_method_22_code
def yX5_faultyBy : MethodName := ⟨RX5, "faultyBy", "(I)I"⟩
abbrev cX5_allFrames : ByteArray := prog_7_method_23_code
def yX5_allFrames : MethodName := ⟨RX5, "allFrames", "()I"⟩
abbrev cX5_far : ByteArray := prog_7_method_24_code
def yX5_far : MethodName := ⟨RX5, "far", "(II)I"⟩
abbrev cX5_nearestCut : ByteArray := prog_7_method_25_code
def yX5_nearestCut : MethodName := ⟨RX5, "nearestCut", "(I)I"⟩
abbrev cX5_limitOf : ByteArray := prog_7_method_26_code
def yX5_limitOf : MethodName := ⟨RX5, "limitOf", "(I)I"⟩
abbrev cX5_seats : ByteArray := prog_7_method_27_code
def yX5_seats : MethodName := ⟨RX5, "seats", "(I)V"⟩
abbrev cX5_seatsAll : ByteArray := prog_7_method_28_code
def yX5_seatsAll : MethodName := ⟨RX5, "seatsAll", "()I"⟩
abbrev cX5_append : ByteArray := prog_7_method_29_code
def yX5_append : MethodName := ⟨RX5, "append", "(I)I"⟩
abbrev cX5_clearScript : ByteArray := prog_7_method_30_code
def yX5_clearScript : MethodName := ⟨RX5, "clearScript", "()I"⟩
abbrev cX5_here : ByteArray := prog_7_method_31_code
def yX5_here : MethodName := ⟨RX5, "here", "()I"⟩
abbrev cX5_takes : ByteArray := prog_7_method_32_code
def yX5_takes : MethodName := ⟨RX5, "takes", "(Z)V"⟩
abbrev cX5_takesNumber : ByteArray := prog_7_method_33_code
def yX5_takesNumber : MethodName := ⟨RX5, "takesNumber", "()I"⟩
abbrev cX5_isLetter : ByteArray := prog_7_method_34_code
def yX5_isLetter : MethodName := ⟨RX5, "isLetter", "(I)Z"⟩
abbrev cX5_takesText : ByteArray := prog_7_method_35_code
def yX5_takesText : MethodName := ⟨RX5, "takesText", "()V"⟩
abbrev cX5_takesEntry : ByteArray := prog_7_method_36_code
def yX5_takesEntry : MethodName := ⟨RX5, "takesEntry", "()V"⟩
abbrev cX5_isScript : ByteArray := prog_7_method_37_code
def yX5_isScript : MethodName := ⟨RX5, "isScript", "()Z"⟩
abbrev cX5_fault : ByteArray := prog_7_method_38_code
def yX5_fault : MethodName := ⟨RX5, "fault", "()I"⟩
abbrev cX5_reasonNow : ByteArray := prog_7_method_39_code
def yX5_reasonNow : MethodName := ⟨RX5, "reasonNow", "()I"⟩
abbrev cX5_addsEntry : ByteArray := prog_7_method_40_code
def yX5_addsEntry : MethodName := ⟨RX5, "addsEntry", "()V"⟩
abbrev cX5_load : ByteArray := prog_7_method_41_code
def yX5_load : MethodName := ⟨RX5, "load", "()I"⟩
abbrev cX5_why : ByteArray := prog_7_method_42_code
def yX5_why : MethodName := ⟨RX5, "why", "(I)I"⟩
abbrev cX5_undo : ByteArray := prog_7_method_43_code
def yX5_undo : MethodName := ⟨RX5, "undo", "()I"⟩
abbrev cX5_remove : ByteArray := prog_7_method_44_code
def yX5_remove : MethodName := ⟨RX5, "remove", "(I)I"⟩
abbrev cX5_canShift : ByteArray := prog_7_method_45_code
def yX5_canShift : MethodName := ⟨RX5, "canShift", "(II)Z"⟩
abbrev cX5_shift : ByteArray := prog_7_method_46_code
def yX5_shift : MethodName := ⟨RX5, "shift", "(II)I"⟩
abbrev cX5_setEnd : ByteArray := prog_7_method_47_code
def yX5_setEnd : MethodName := ⟨RX5, "setEnd", "(II)I"⟩
abbrev cX5_kindOf : ByteArray := prog_7_method_48_code
def yX5_kindOf : MethodName := ⟨RX5, "kindOf", "(II)I"⟩
abbrev cX5_bestBlank : ByteArray := prog_7_method_49_code
def yX5_bestBlank : MethodName := ⟨RX5, "bestBlank", "(I)I"⟩
abbrev cX5_splits : ByteArray := prog_7_method_50_code
def yX5_splits : MethodName := ⟨RX5, "splits", "(I)I"⟩
abbrev cX5_split : ByteArray := prog_7_method_51_code
def yX5_split : MethodName := ⟨RX5, "split", "(I)I"⟩
abbrev cX5_join : ByteArray := prog_7_method_52_code
def yX5_join : MethodName := ⟨RX5, "join", "(I)I"⟩
abbrev cX5_seat : ByteArray := prog_7_method_53_code
def yX5_seat : MethodName := ⟨RX5, "seat", "()I"⟩
abbrev cX5_placeOfCut : ByteArray := prog_7_method_54_code
def yX5_placeOfCut : MethodName := ⟨RX5, "placeOfCut", "(I)I"⟩
abbrev cX5_cut : ByteArray := prog_7_method_55_code
def yX5_cut : MethodName := ⟨RX5, "cut", "(I)I"⟩
abbrev cX5_uncut : ByteArray := prog_7_method_56_code
def yX5_uncut : MethodName := ⟨RX5, "uncut", "(I)I"⟩
abbrev cX5_leastOf : ByteArray := prog_7_method_57_code
def yX5_leastOf : MethodName := ⟨RX5, "leastOf", "(I)I"⟩
abbrev cX5_mostOf : ByteArray := prog_7_method_58_code
def yX5_mostOf : MethodName := ⟨RX5, "mostOf", "(I)I"⟩
abbrev cX5_set : ByteArray := prog_7_method_59_code
def yX5_set : MethodName := ⟨RX5, "set", "(II)I"⟩
abbrev cX5_subtitles : ByteArray := prog_7_method_60_code
def yX5_subtitles : MethodName := ⟨RX5, "subtitles", "()I"⟩
abbrev cX5_subtitle : ByteArray := prog_7_method_61_code
def yX5_subtitle : MethodName := ⟨RX5, "subtitle", "(II)I"⟩
abbrev cX5_character : ByteArray := prog_7_method_62_code
def yX5_character : MethodName := ⟨RX5, "character", "(II)I"⟩
abbrev cX5_line : ByteArray := prog_7_method_63_code
def yX5_line : MethodName := ⟨RX5, "line", "(II)I"⟩
abbrev cX5_at : ByteArray := prog_7_method_64_code
def yX5_at : MethodName := ⟨RX5, "at", "(I)I"⟩
abbrev cX5_cuts : ByteArray := prog_7_method_65_code
def yX5_cuts : MethodName := ⟨RX5, "cuts", "()I"⟩
abbrev cX5_cutAt : ByteArray := prog_7_method_66_code
def yX5_cutAt : MethodName := ⟨RX5, "cutAt", "(I)I"⟩
abbrev cX5_setting : ByteArray := prog_7_method_67_code
def yX5_setting : MethodName := ⟨RX5, "setting", "(I)I"⟩
abbrev cX5_faulty : ByteArray := prog_7_method_68_code
def yX5_faulty : MethodName := ⟨RX5, "faulty", "(I)I"⟩
abbrev cX5_shown : ByteArray := prog_7_method_69_code
def yX5_shown : MethodName := ⟨RX5, "shown", "()I"⟩
abbrev cX5_meanSpeed : ByteArray := prog_7_method_70_code
def yX5_meanSpeed : MethodName := ⟨RX5, "meanSpeed", "()F"⟩
abbrev cX5_unreadBy : ByteArray := prog_7_method_71_code
def yX5_unreadBy : MethodName := ⟨RX5, "unreadBy", "(I)I"⟩
abbrev cX5_unread : ByteArray := prog_7_method_72_code
def yX5_unread : MethodName := ⟨RX5, "unread", "(I)I"⟩
abbrev cX5_leastPace : ByteArray := prog_7_method_73_code
def yX5_leastPace : MethodName := ⟨RX5, "leastPace", "()I"⟩
abbrev cX5_ifSeated : ByteArray := prog_7_method_74_code
def yX5_ifSeated : MethodName := ⟨RX5, "ifSeated", "(I)I"⟩
abbrev cX5_bestGap : ByteArray := prog_7_method_75_code
def yX5_bestGap : MethodName := ⟨RX5, "bestGap", "()I"⟩
def RJ6 : String := "java/lang/Integer"
def TJ6 : u_T := fun k => match k with
  | _ => ("", "", "", false)
def tyJ6 : Nat → FieldType := fun k => match k with
  | _ => .int
abbrev wsJ60 : List Cond := u_ws RJ6 TJ6 0
theorem nmJ6 : ∀ a, a < 0 → ∀ b, b < 0 → a ≠ b → (TJ6 a).2.1 ≠ (TJ6 b).2.1 := by decide +kernel
theorem tyJ6_ok : ∀ k, k < 0 → parseFieldDescriptor (TJ6 k).2.2.1 = some (tyJ6 k) := by decide +kernel
abbrev cJ6_bitCount_0f7a4 : ByteArray := prog_8_method_49_code
def yJ6_bitCount_0f7a4 : MethodName := ⟨RJ6, "bitCount", "(I)I"⟩
def RJ9 : String := "java/lang/Math"
def TJ9 : u_T := fun k => match k with
  | _ => ("", "", "", false)
def tyJ9 : Nat → FieldType := fun k => match k with
  | _ => .int
abbrev wsJ90 : List Cond := u_ws RJ9 TJ9 0
theorem nmJ9 : ∀ a, a < 0 → ∀ b, b < 0 → a ≠ b → (TJ9 a).2.1 ≠ (TJ9 b).2.1 := by decide +kernel
theorem tyJ9_ok : ∀ k, k < 0 → parseFieldDescriptor (TJ9 k).2.2.1 = some (tyJ9 k) := by decide +kernel
abbrev cJ9_abs_0f7a4 : ByteArray := prog_9_method_59_code
def yJ9_abs_0f7a4 : MethodName := ⟨RJ9, "abs", "(I)I"⟩
abbrev cJ9_max_7cf53 : ByteArray := prog_9_method_65_code
def yJ9_max_7cf53 : MethodName := ⟨RJ9, "max", "(II)I"⟩
abbrev cJ9_min_7cf53 : ByteArray := prog_9_method_69_code
def yJ9_min_7cf53 : MethodName := ⟨RJ9, "min", "(II)I"⟩
def RJ10 : String := "java/lang/System"
def TJ10 : u_T := fun k => match k with
  | _ => ("", "", "", false)
def tyJ10 : Nat → FieldType := fun k => match k with
  | _ => .int
abbrev wsJ100 : List Cond := u_ws RJ10 TJ10 0
theorem nmJ10 : ∀ a, a < 0 → ∀ b, b < 0 → a ≠ b → (TJ10 a).2.1 ≠ (TJ10 b).2.1 := by decide +kernel
theorem tyJ10_ok : ∀ k, k < 0 → parseFieldDescriptor (TJ10 k).2.2.1 = some (tyJ10 k) := by decide +kernel
def RL : String := "SubtitleSeatsLaw"
abbrev cL_law : ByteArray := code
def yL_law : MethodName := ⟨RL, "law", "([I)Z"⟩
abbrev vwCl : List vw_C := [(RX0, TX0, 5), (RX1, TX1, 3), (RX2, TX2, 8), (RX3, TX3, 4), (RX4, TX4, 5), (RX5, TX5, 16)]
def zWL : List Cond := lw_tbl.filter goodWord
theorem zWL_good : GoodIn zWL zWL := fun w h => ⟨h, good_of_word (List.mem_filter.mp h).2⟩
theorem zWL_in : ∀ w ∈ zWL, w ∈ lw_tbl := fun _ h => (List.mem_filter.mp h).1
end
section
theorem ii_L : Cond.initialized "SubtitleSeatsLaw" ∈ zWL := List.mem_filter.mpr ⟨List.mem_append_right _ (List.mem_append_left _ (List.mem_of_getElem? (i := 0) rfl)), rfl⟩
theorem ii_X4 : Cond.initialized "SubtitleSeats" ∈ zWL := List.mem_filter.mpr ⟨List.mem_append_right _ (List.mem_append_left _ (List.mem_of_getElem? (i := 1) rfl)), rfl⟩
theorem ii_X0 : Cond.initialized "SubtitleSeats$Film" ∈ zWL := List.mem_filter.mpr ⟨List.mem_append_right _ (List.mem_append_left _ (List.mem_of_getElem? (i := 2) rfl)), rfl⟩
theorem ii_X3 : Cond.initialized "SubtitleSeats$Subtitle" ∈ zWL := List.mem_filter.mpr ⟨List.mem_append_right _ (List.mem_append_left _ (List.mem_of_getElem? (i := 3) rfl)), rfl⟩
theorem ii_J10 : Cond.initialized "java/lang/System" ∈ zWL := List.mem_filter.mpr ⟨List.mem_append_right _ (List.mem_append_left _ (List.mem_of_getElem? (i := 4) rfl)), rfl⟩
theorem ii_X1 : Cond.initialized "SubtitleSeats$History" ∈ zWL := List.mem_filter.mpr ⟨List.mem_append_right _ (List.mem_append_left _ (List.mem_of_getElem? (i := 5) rfl)), rfl⟩
theorem ii_X2 : Cond.initialized "SubtitleSeats$Script" ∈ zWL := List.mem_filter.mpr ⟨List.mem_append_right _ (List.mem_append_left _ (List.mem_of_getElem? (i := 6) rfl)), rfl⟩
theorem ii_X5 : Cond.initialized "SubtitleSeatsModel" ∈ zWL := List.mem_filter.mpr ⟨List.mem_append_right _ (List.mem_append_left _ (List.mem_of_getElem? (i := 7) rfl)), rfl⟩
theorem ii_J9 : Cond.initialized "java/lang/Math" ∈ zWL := List.mem_filter.mpr ⟨List.mem_append_right _ (List.mem_append_left _ (List.mem_of_getElem? (i := 8) rfl)), rfl⟩
theorem ii_J6 : Cond.initialized "java/lang/Integer" ∈ zWL := List.mem_filter.mpr ⟨List.mem_append_right _ (List.mem_append_left _ (List.mem_of_getElem? (i := 9) rfl)), rfl⟩
theorem cl_L_7 : Cond.classLink "SubtitleSeatsLaw" 7 "SubtitleSeats" ∈ zWL := List.mem_filter.mpr ⟨List.mem_append_right _ (List.mem_append_left _ (List.mem_of_getElem? (i := 10) rfl)), rfl⟩
theorem in_X4 : Cond.instantiable "SubtitleSeats" 5 ∈ zWL := List.mem_filter.mpr ⟨List.mem_append_right _ (List.mem_append_left _ (List.mem_of_getElem? (i := 11) rfl)), rfl⟩
theorem ml_L_9 : Cond.methodLink "SubtitleSeatsLaw" 9 yX4_init ∈ zWL := List.mem_filter.mpr ⟨List.mem_append_right _ (List.mem_append_left _ (List.mem_of_getElem? (i := 12) rfl)), rfl⟩
theorem im_X4_init : Cond.instanceMethod yX4_init ∈ zWL := List.mem_filter.mpr ⟨List.mem_append_right _ (List.mem_append_left _ (List.mem_of_getElem? (i := 13) rfl)), rfl⟩
theorem cd_X4_init : Cond.code yX4_init prog_1_method_1_code 1 none ∈ zWL := List.mem_filter.mpr ⟨List.mem_append_right _ (List.mem_append_left _ (List.mem_of_getElem? (i := 14) rfl)), rfl⟩
theorem ml_X4_1 : Cond.methodLink "SubtitleSeats" 1 ⟨"java/lang/Object", "<init>", "()V"⟩ ∈ zWL := List.mem_filter.mpr ⟨List.mem_append_right _ (List.mem_append_left _ (List.mem_of_getElem? (i := 15) rfl)), rfl⟩
theorem im_javalangObjectinit : Cond.instanceMethod ⟨"java/lang/Object", "<init>", "()V"⟩ ∈ zWL := List.mem_filter.mpr ⟨List.mem_append_right _ (List.mem_append_left _ (List.mem_of_getElem? (i := 16) rfl)), rfl⟩
theorem cl_X4_7 : Cond.classLink "SubtitleSeats" 7 "SubtitleSeats$Film" ∈ zWL := List.mem_filter.mpr ⟨List.mem_append_right _ (List.mem_append_left _ (List.mem_of_getElem? (i := 18) rfl)), rfl⟩
theorem in_X0 : Cond.instantiable "SubtitleSeats$Film" 5 ∈ zWL := List.mem_filter.mpr ⟨List.mem_append_right _ (List.mem_append_left _ (List.mem_of_getElem? (i := 19) rfl)), rfl⟩
theorem ml_X4_9 : Cond.methodLink "SubtitleSeats" 9 yX0_init ∈ zWL := List.mem_filter.mpr ⟨List.mem_append_right _ (List.mem_append_left _ (List.mem_of_getElem? (i := 20) rfl)), rfl⟩
theorem im_X0_init : Cond.instanceMethod yX0_init ∈ zWL := List.mem_filter.mpr ⟨List.mem_append_right _ (List.mem_append_left _ (List.mem_of_getElem? (i := 21) rfl)), rfl⟩
theorem cd_X0_init : Cond.code yX0_init prog_2_method_1_code 2 none ∈ zWL := List.mem_filter.mpr ⟨List.mem_append_right _ (List.mem_append_left _ (List.mem_of_getElem? (i := 22) rfl)), rfl⟩
theorem ml_X0_3 : Cond.methodLink "SubtitleSeats$Film" 3 ⟨"java/lang/Object", "<init>", "()V"⟩ ∈ zWL := List.mem_filter.mpr ⟨List.mem_append_right _ (List.mem_append_left _ (List.mem_of_getElem? (i := 23) rfl)), rfl⟩
theorem cl_X0_9 : Cond.classLink "SubtitleSeats$Film" 9 "SubtitleSeats$Subtitle" ∈ zWL := List.mem_filter.mpr ⟨List.mem_append_right _ (List.mem_append_left _ (List.mem_of_getElem? (i := 24) rfl)), rfl⟩
theorem in_X3 : Cond.instantiable "SubtitleSeats$Subtitle" 4 ∈ zWL := List.mem_filter.mpr ⟨List.mem_append_right _ (List.mem_append_left _ (List.mem_of_getElem? (i := 26) rfl)), rfl⟩
theorem ml_X0_17 : Cond.methodLink "SubtitleSeats$Film" 17 yX3_init ∈ zWL := List.mem_filter.mpr ⟨List.mem_append_right _ (List.mem_append_left _ (List.mem_of_getElem? (i := 27) rfl)), rfl⟩
theorem im_X3_init : Cond.instanceMethod yX3_init ∈ zWL := List.mem_filter.mpr ⟨List.mem_append_right _ (List.mem_append_left _ (List.mem_of_getElem? (i := 28) rfl)), rfl⟩
theorem cd_X3_init : Cond.code yX3_init prog_5_method_1_code 1 none ∈ zWL := List.mem_filter.mpr ⟨List.mem_append_right _ (List.mem_append_left _ (List.mem_of_getElem? (i := 29) rfl)), rfl⟩
theorem ml_X3_3 : Cond.methodLink "SubtitleSeats$Subtitle" 3 ⟨"java/lang/Object", "<init>", "()V"⟩ ∈ zWL := List.mem_filter.mpr ⟨List.mem_append_right _ (List.mem_append_left _ (List.mem_of_getElem? (i := 30) rfl)), rfl⟩
theorem fl_X3_15 : Cond.fieldLink "SubtitleSeats$Subtitle" 15 "SubtitleSeats$Subtitle" "start" "I" ∈ zWL := List.mem_filter.mpr ⟨List.mem_append_right _ (List.mem_append_left _ (List.mem_of_getElem? (i := 31) rfl)), rfl⟩
theorem fl_X0_45 : Cond.fieldLink "SubtitleSeats$Film" 45 "SubtitleSeats$Subtitle" "start" "I" ∈ zWL := List.mem_filter.mpr ⟨List.mem_append_right _ (List.mem_append_left _ (List.mem_of_getElem? (i := 32) rfl)), rfl⟩
theorem fl_X4_85 : Cond.fieldLink "SubtitleSeats" 85 "SubtitleSeats$Subtitle" "start" "I" ∈ zWL := List.mem_filter.mpr ⟨List.mem_append_right _ (List.mem_append_left _ (List.mem_of_getElem? (i := 33) rfl)), rfl⟩
theorem fl_X3_19 : Cond.fieldLink "SubtitleSeats$Subtitle" 19 "SubtitleSeats$Subtitle" "end" "I" ∈ zWL := List.mem_filter.mpr ⟨List.mem_append_right _ (List.mem_append_left _ (List.mem_of_getElem? (i := 34) rfl)), rfl⟩
theorem fl_X0_48 : Cond.fieldLink "SubtitleSeats$Film" 48 "SubtitleSeats$Subtitle" "end" "I" ∈ zWL := List.mem_filter.mpr ⟨List.mem_append_right _ (List.mem_append_left _ (List.mem_of_getElem? (i := 35) rfl)), rfl⟩
theorem fl_X4_88 : Cond.fieldLink "SubtitleSeats" 88 "SubtitleSeats$Subtitle" "end" "I" ∈ zWL := List.mem_filter.mpr ⟨List.mem_append_right _ (List.mem_append_left _ (List.mem_of_getElem? (i := 36) rfl)), rfl⟩
theorem fl_X3_22 : Cond.fieldLink "SubtitleSeats$Subtitle" 22 "SubtitleSeats$Subtitle" "length" "I" ∈ zWL := List.mem_filter.mpr ⟨List.mem_append_right _ (List.mem_append_left _ (List.mem_of_getElem? (i := 37) rfl)), rfl⟩
theorem fl_X0_59 : Cond.fieldLink "SubtitleSeats$Film" 59 "SubtitleSeats$Subtitle" "length" "I" ∈ zWL := List.mem_filter.mpr ⟨List.mem_append_right _ (List.mem_append_left _ (List.mem_of_getElem? (i := 38) rfl)), rfl⟩
theorem fl_X4_137 : Cond.fieldLink "SubtitleSeats" 137 "SubtitleSeats$Subtitle" "length" "I" ∈ zWL := List.mem_filter.mpr ⟨List.mem_append_right _ (List.mem_append_left _ (List.mem_of_getElem? (i := 39) rfl)), rfl⟩
theorem fl_X3_9 : Cond.fieldLink "SubtitleSeats$Subtitle" 9 "SubtitleSeats$Subtitle" "text" "[C" ∈ zWL := List.mem_filter.mpr ⟨List.mem_append_right _ (List.mem_append_left _ (List.mem_of_getElem? (i := 40) rfl)), rfl⟩
theorem fl_X0_55 : Cond.fieldLink "SubtitleSeats$Film" 55 "SubtitleSeats$Subtitle" "text" "[C" ∈ zWL := List.mem_filter.mpr ⟨List.mem_append_right _ (List.mem_append_left _ (List.mem_of_getElem? (i := 41) rfl)), rfl⟩
theorem fl_X4_172 : Cond.fieldLink "SubtitleSeats" 172 "SubtitleSeats$Subtitle" "text" "[C" ∈ zWL := List.mem_filter.mpr ⟨List.mem_append_right _ (List.mem_append_left _ (List.mem_of_getElem? (i := 42) rfl)), rfl⟩
theorem ac_char : Cond.arrayClass .char ∈ zWL := List.mem_filter.mpr ⟨List.mem_append_right _ (List.mem_append_left _ (List.mem_of_getElem? (i := 52) rfl)), rfl⟩
theorem ml_X0_28 : Cond.methodLink "SubtitleSeats$Film" 28 ⟨"java/lang/System", "arraycopy", "(Ljava/lang/Object;ILjava/lang/Object;II)V"⟩ ∈ zWL := List.mem_filter.mpr ⟨List.mem_append_right _ (List.mem_append_left _ (List.mem_of_getElem? (i := 55) rfl)), rfl⟩
theorem sc_javalangSystemarraycopy : Cond.static ⟨"java/lang/System", "arraycopy", "(Ljava/lang/Object;ILjava/lang/Object;II)V"⟩ ∈ zWL := List.mem_filter.mpr ⟨List.mem_append_right _ (List.mem_append_left _ (List.mem_of_getElem? (i := 56) rfl)), rfl⟩
theorem nt_javalangSystemarraycopy : Cond.native ⟨"java/lang/System", "arraycopy", "(Ljava/lang/Object;ILjava/lang/Object;II)V"⟩ ∈ zWL := List.mem_filter.mpr ⟨List.mem_append_right _ (List.mem_append_left _ (List.mem_of_getElem? (i := 57) rfl)), rfl⟩
theorem fl_X0_11 : Cond.fieldLink "SubtitleSeats$Film" 11 "SubtitleSeats$Film" "rows" "[LSubtitleSeats$Subtitle;" ∈ zWL := List.mem_filter.mpr ⟨List.mem_append_right _ (List.mem_append_left _ (List.mem_of_getElem? (i := 58) rfl)), rfl⟩
theorem fl_X4_77 : Cond.fieldLink "SubtitleSeats" 77 "SubtitleSeats$Film" "rows" "[LSubtitleSeats$Subtitle;" ∈ zWL := List.mem_filter.mpr ⟨List.mem_append_right _ (List.mem_append_left _ (List.mem_of_getElem? (i := 59) rfl)), rfl⟩
theorem fl_X0_34 : Cond.fieldLink "SubtitleSeats$Film" 34 "SubtitleSeats$Film" "count" "I" ∈ zWL := List.mem_filter.mpr ⟨List.mem_append_right _ (List.mem_append_left _ (List.mem_of_getElem? (i := 60) rfl)), rfl⟩
theorem fl_X4_117 : Cond.fieldLink "SubtitleSeats" 117 "SubtitleSeats$Film" "count" "I" ∈ zWL := List.mem_filter.mpr ⟨List.mem_append_right _ (List.mem_append_left _ (List.mem_of_getElem? (i := 61) rfl)), rfl⟩
theorem fl_X0_18 : Cond.fieldLink "SubtitleSeats$Film" 18 "SubtitleSeats$Film" "cutFrames" "[I" ∈ zWL := List.mem_filter.mpr ⟨List.mem_append_right _ (List.mem_append_left _ (List.mem_of_getElem? (i := 62) rfl)), rfl⟩
theorem fl_X4_178 : Cond.fieldLink "SubtitleSeats" 178 "SubtitleSeats$Film" "cutFrames" "[I" ∈ zWL := List.mem_filter.mpr ⟨List.mem_append_right _ (List.mem_append_left _ (List.mem_of_getElem? (i := 63) rfl)), rfl⟩
theorem fl_X0_42 : Cond.fieldLink "SubtitleSeats$Film" 42 "SubtitleSeats$Film" "cutCount" "I" ∈ zWL := List.mem_filter.mpr ⟨List.mem_append_right _ (List.mem_append_left _ (List.mem_of_getElem? (i := 64) rfl)), rfl⟩
theorem fl_X4_147 : Cond.fieldLink "SubtitleSeats" 147 "SubtitleSeats$Film" "cutCount" "I" ∈ zWL := List.mem_filter.mpr ⟨List.mem_append_right _ (List.mem_append_left _ (List.mem_of_getElem? (i := 65) rfl)), rfl⟩
theorem fl_X0_22 : Cond.fieldLink "SubtitleSeats$Film" 22 "SubtitleSeats$Film" "values" "[I" ∈ zWL := List.mem_filter.mpr ⟨List.mem_append_right _ (List.mem_append_left _ (List.mem_of_getElem? (i := 66) rfl)), rfl⟩
theorem fl_X4_130 : Cond.fieldLink "SubtitleSeats" 130 "SubtitleSeats$Film" "values" "[I" ∈ zWL := List.mem_filter.mpr ⟨List.mem_append_right _ (List.mem_append_left _ (List.mem_of_getElem? (i := 67) rfl)), rfl⟩
theorem ac_int : Cond.arrayClass .int ∈ zWL := List.mem_filter.mpr ⟨List.mem_append_right _ (List.mem_append_left _ (List.mem_of_getElem? (i := 79) rfl)), rfl⟩
theorem cl_X4_19 : Cond.classLink "SubtitleSeats" 19 "SubtitleSeats$History" ∈ zWL := List.mem_filter.mpr ⟨List.mem_append_right _ (List.mem_append_left _ (List.mem_of_getElem? (i := 80) rfl)), rfl⟩
theorem in_X1 : Cond.instantiable "SubtitleSeats$History" 3 ∈ zWL := List.mem_filter.mpr ⟨List.mem_append_right _ (List.mem_append_left _ (List.mem_of_getElem? (i := 81) rfl)), rfl⟩
theorem ml_X4_21 : Cond.methodLink "SubtitleSeats" 21 yX1_init ∈ zWL := List.mem_filter.mpr ⟨List.mem_append_right _ (List.mem_append_left _ (List.mem_of_getElem? (i := 82) rfl)), rfl⟩
theorem im_X1_init : Cond.instanceMethod yX1_init ∈ zWL := List.mem_filter.mpr ⟨List.mem_append_right _ (List.mem_append_left _ (List.mem_of_getElem? (i := 83) rfl)), rfl⟩
theorem cd_X1_init : Cond.code yX1_init prog_3_method_1_code 2 none ∈ zWL := List.mem_filter.mpr ⟨List.mem_append_right _ (List.mem_append_left _ (List.mem_of_getElem? (i := 84) rfl)), rfl⟩
theorem ml_X1_3 : Cond.methodLink "SubtitleSeats$History" 3 ⟨"java/lang/Object", "<init>", "()V"⟩ ∈ zWL := List.mem_filter.mpr ⟨List.mem_append_right _ (List.mem_append_left _ (List.mem_of_getElem? (i := 85) rfl)), rfl⟩
theorem cl_X1_9 : Cond.classLink "SubtitleSeats$History" 9 "SubtitleSeats$Film" ∈ zWL := List.mem_filter.mpr ⟨List.mem_append_right _ (List.mem_append_left _ (List.mem_of_getElem? (i := 86) rfl)), rfl⟩
theorem ml_X1_17 : Cond.methodLink "SubtitleSeats$History" 17 yX0_init ∈ zWL := List.mem_filter.mpr ⟨List.mem_append_right _ (List.mem_append_left _ (List.mem_of_getElem? (i := 88) rfl)), rfl⟩
theorem fl_X1_11 : Cond.fieldLink "SubtitleSeats$History" 11 "SubtitleSeats$History" "states" "[LSubtitleSeats$Film;" ∈ zWL := List.mem_filter.mpr ⟨List.mem_append_right _ (List.mem_append_left _ (List.mem_of_getElem? (i := 89) rfl)), rfl⟩
theorem fl_X1_26 : Cond.fieldLink "SubtitleSeats$History" 26 "SubtitleSeats$History" "count" "I" ∈ zWL := List.mem_filter.mpr ⟨List.mem_append_right _ (List.mem_append_left _ (List.mem_of_getElem? (i := 90) rfl)), rfl⟩
theorem fl_X4_103 : Cond.fieldLink "SubtitleSeats" 103 "SubtitleSeats$History" "count" "I" ∈ zWL := List.mem_filter.mpr ⟨List.mem_append_right _ (List.mem_append_left _ (List.mem_of_getElem? (i := 91) rfl)), rfl⟩
theorem fl_X1_18 : Cond.fieldLink "SubtitleSeats$History" 18 "SubtitleSeats$History" "latest" "I" ∈ zWL := List.mem_filter.mpr ⟨List.mem_append_right _ (List.mem_append_left _ (List.mem_of_getElem? (i := 92) rfl)), rfl⟩
theorem cl_X4_26 : Cond.classLink "SubtitleSeats" 26 "SubtitleSeats$Script" ∈ zWL := List.mem_filter.mpr ⟨List.mem_append_right _ (List.mem_append_left _ (List.mem_of_getElem? (i := 100) rfl)), rfl⟩
theorem in_X2 : Cond.instantiable "SubtitleSeats$Script" 8 ∈ zWL := List.mem_filter.mpr ⟨List.mem_append_right _ (List.mem_append_left _ (List.mem_of_getElem? (i := 101) rfl)), rfl⟩
theorem ml_X4_28 : Cond.methodLink "SubtitleSeats" 28 yX2_init ∈ zWL := List.mem_filter.mpr ⟨List.mem_append_right _ (List.mem_append_left _ (List.mem_of_getElem? (i := 102) rfl)), rfl⟩
theorem im_X2_init : Cond.instanceMethod yX2_init ∈ zWL := List.mem_filter.mpr ⟨List.mem_append_right _ (List.mem_append_left _ (List.mem_of_getElem? (i := 103) rfl)), rfl⟩
theorem cd_X2_init : Cond.code yX2_init prog_4_method_1_code 1 none ∈ zWL := List.mem_filter.mpr ⟨List.mem_append_right _ (List.mem_append_left _ (List.mem_of_getElem? (i := 104) rfl)), rfl⟩
theorem ml_X2_3 : Cond.methodLink "SubtitleSeats$Script" 3 ⟨"java/lang/Object", "<init>", "()V"⟩ ∈ zWL := List.mem_filter.mpr ⟨List.mem_append_right _ (List.mem_append_left _ (List.mem_of_getElem? (i := 105) rfl)), rfl⟩
theorem fl_X2_9 : Cond.fieldLink "SubtitleSeats$Script" 9 "SubtitleSeats$Script" "characters" "[C" ∈ zWL := List.mem_filter.mpr ⟨List.mem_append_right _ (List.mem_append_left _ (List.mem_of_getElem? (i := 106) rfl)), rfl⟩
theorem fl_X4_41 : Cond.fieldLink "SubtitleSeats" 41 "SubtitleSeats$Script" "characters" "[C" ∈ zWL := List.mem_filter.mpr ⟨List.mem_append_right _ (List.mem_append_left _ (List.mem_of_getElem? (i := 107) rfl)), rfl⟩
theorem fl_X4_37 : Cond.fieldLink "SubtitleSeats" 37 "SubtitleSeats$Script" "length" "I" ∈ zWL := List.mem_filter.mpr ⟨List.mem_append_right _ (List.mem_append_left _ (List.mem_of_getElem? (i := 108) rfl)), rfl⟩
theorem fl_X2_30 : Cond.fieldLink "SubtitleSeats$Script" 30 "SubtitleSeats$Script" "length" "I" ∈ zWL := List.mem_filter.mpr ⟨List.mem_append_right _ (List.mem_append_left _ (List.mem_of_getElem? (i := 109) rfl)), rfl⟩
theorem fl_X2_22 : Cond.fieldLink "SubtitleSeats$Script" 22 "SubtitleSeats$Script" "place" "I" ∈ zWL := List.mem_filter.mpr ⟨List.mem_append_right _ (List.mem_append_left _ (List.mem_of_getElem? (i := 110) rfl)), rfl⟩
theorem fl_X2_33 : Cond.fieldLink "SubtitleSeats$Script" 33 "SubtitleSeats$Script" "entryPlace" "I" ∈ zWL := List.mem_filter.mpr ⟨List.mem_append_right _ (List.mem_append_left _ (List.mem_of_getElem? (i := 111) rfl)), rfl⟩
theorem fl_X4_74 : Cond.fieldLink "SubtitleSeats" 74 "SubtitleSeats$Script" "entryPlace" "I" ∈ zWL := List.mem_filter.mpr ⟨List.mem_append_right _ (List.mem_append_left _ (List.mem_of_getElem? (i := 112) rfl)), rfl⟩
theorem fl_X2_40 : Cond.fieldLink "SubtitleSeats$Script" 40 "SubtitleSeats$Script" "start" "I" ∈ zWL := List.mem_filter.mpr ⟨List.mem_append_right _ (List.mem_append_left _ (List.mem_of_getElem? (i := 113) rfl)), rfl⟩
theorem fl_X4_64 : Cond.fieldLink "SubtitleSeats" 64 "SubtitleSeats$Script" "start" "I" ∈ zWL := List.mem_filter.mpr ⟨List.mem_append_right _ (List.mem_append_left _ (List.mem_of_getElem? (i := 114) rfl)), rfl⟩
theorem fl_X2_43 : Cond.fieldLink "SubtitleSeats$Script" 43 "SubtitleSeats$Script" "end" "I" ∈ zWL := List.mem_filter.mpr ⟨List.mem_append_right _ (List.mem_append_left _ (List.mem_of_getElem? (i := 115) rfl)), rfl⟩
theorem fl_X4_67 : Cond.fieldLink "SubtitleSeats" 67 "SubtitleSeats$Script" "end" "I" ∈ zWL := List.mem_filter.mpr ⟨List.mem_append_right _ (List.mem_append_left _ (List.mem_of_getElem? (i := 116) rfl)), rfl⟩
theorem fl_X4_89 : Cond.fieldLink "SubtitleSeats" 89 "SubtitleSeats$Script" "textPlace" "I" ∈ zWL := List.mem_filter.mpr ⟨List.mem_append_right _ (List.mem_append_left _ (List.mem_of_getElem? (i := 117) rfl)), rfl⟩
theorem fl_X2_52 : Cond.fieldLink "SubtitleSeats$Script" 52 "SubtitleSeats$Script" "textPlace" "I" ∈ zWL := List.mem_filter.mpr ⟨List.mem_append_right _ (List.mem_append_left _ (List.mem_of_getElem? (i := 118) rfl)), rfl⟩
theorem fl_X4_92 : Cond.fieldLink "SubtitleSeats" 92 "SubtitleSeats$Script" "textLength" "I" ∈ zWL := List.mem_filter.mpr ⟨List.mem_append_right _ (List.mem_append_left _ (List.mem_of_getElem? (i := 119) rfl)), rfl⟩
theorem fl_X2_58 : Cond.fieldLink "SubtitleSeats$Script" 58 "SubtitleSeats$Script" "textLength" "I" ∈ zWL := List.mem_filter.mpr ⟨List.mem_append_right _ (List.mem_append_left _ (List.mem_of_getElem? (i := 120) rfl)), rfl⟩
theorem fl_X4_10 : Cond.fieldLink "SubtitleSeats" 10 "SubtitleSeats" "film" "LSubtitleSeats$Film;" ∈ zWL := List.mem_filter.mpr ⟨List.mem_append_right _ (List.mem_append_left _ (List.mem_of_getElem? (i := 138) rfl)), rfl⟩
theorem fl_X4_16 : Cond.fieldLink "SubtitleSeats" 16 "SubtitleSeats" "trial" "LSubtitleSeats$Film;" ∈ zWL := List.mem_filter.mpr ⟨List.mem_append_right _ (List.mem_append_left _ (List.mem_of_getElem? (i := 139) rfl)), rfl⟩
theorem fl_X4_22 : Cond.fieldLink "SubtitleSeats" 22 "SubtitleSeats" "history" "LSubtitleSeats$History;" ∈ zWL := List.mem_filter.mpr ⟨List.mem_append_right _ (List.mem_append_left _ (List.mem_of_getElem? (i := 140) rfl)), rfl⟩
theorem fl_X4_29 : Cond.fieldLink "SubtitleSeats" 29 "SubtitleSeats" "script" "LSubtitleSeats$Script;" ∈ zWL := List.mem_filter.mpr ⟨List.mem_append_right _ (List.mem_append_left _ (List.mem_of_getElem? (i := 141) rfl)), rfl⟩
theorem fl_X4_33 : Cond.fieldLink "SubtitleSeats" 33 "SubtitleSeats" "report" "[I" ∈ zWL := List.mem_filter.mpr ⟨List.mem_append_right _ (List.mem_append_left _ (List.mem_of_getElem? (i := 142) rfl)), rfl⟩
theorem ml_L_13 : Cond.methodLink "SubtitleSeatsLaw" 13 yX4_append ∈ zWL := List.mem_filter.mpr ⟨List.mem_append_right _ (List.mem_append_left _ (List.mem_of_getElem? (i := 154) rfl)), rfl⟩
theorem im_X4_append : Cond.instanceMethod yX4_append ∈ zWL := List.mem_filter.mpr ⟨List.mem_append_right _ (List.mem_append_left _ (List.mem_of_getElem? (i := 155) rfl)), rfl⟩
theorem se_X4_append : Cond.selects "SubtitleSeats" yX4_append yX4_append ∈ zWL := List.mem_filter.mpr ⟨List.mem_append_right _ (List.mem_append_left _ (List.mem_of_getElem? (i := 156) rfl)), rfl⟩
theorem cd_X4_append : Cond.code yX4_append prog_1_method_2_code 2 (some .int) ∈ zWL := List.mem_filter.mpr ⟨List.mem_append_right _ (List.mem_append_left _ (List.mem_of_getElem? (i := 157) rfl)), rfl⟩
theorem ml_L_18 : Cond.methodLink "SubtitleSeatsLaw" 18 yX4_clearScript ∈ zWL := List.mem_filter.mpr ⟨List.mem_append_right _ (List.mem_append_left _ (List.mem_of_getElem? (i := 158) rfl)), rfl⟩
theorem im_X4_clearScript : Cond.instanceMethod yX4_clearScript ∈ zWL := List.mem_filter.mpr ⟨List.mem_append_right _ (List.mem_append_left _ (List.mem_of_getElem? (i := 159) rfl)), rfl⟩
theorem se_X4_clearScript : Cond.selects "SubtitleSeats" yX4_clearScript yX4_clearScript ∈ zWL := List.mem_filter.mpr ⟨List.mem_append_right _ (List.mem_append_left _ (List.mem_of_getElem? (i := 160) rfl)), rfl⟩
theorem cd_X4_clearScript : Cond.code yX4_clearScript prog_1_method_3_code 2 (some .int) ∈ zWL := List.mem_filter.mpr ⟨List.mem_append_right _ (List.mem_append_left _ (List.mem_of_getElem? (i := 161) rfl)), rfl⟩
theorem ml_L_23 : Cond.methodLink "SubtitleSeatsLaw" 23 yX4_fault ∈ zWL := List.mem_filter.mpr ⟨List.mem_append_right _ (List.mem_append_left _ (List.mem_of_getElem? (i := 162) rfl)), rfl⟩
theorem im_X4_fault : Cond.instanceMethod yX4_fault ∈ zWL := List.mem_filter.mpr ⟨List.mem_append_right _ (List.mem_append_left _ (List.mem_of_getElem? (i := 163) rfl)), rfl⟩
theorem se_X4_fault : Cond.selects "SubtitleSeats" yX4_fault yX4_fault ∈ zWL := List.mem_filter.mpr ⟨List.mem_append_right _ (List.mem_append_left _ (List.mem_of_getElem? (i := 164) rfl)), rfl⟩
theorem cd_X4_fault : Cond.code yX4_fault prog_1_method_4_code 1 (some .int) ∈ zWL := List.mem_filter.mpr ⟨List.mem_append_right _ (List.mem_append_left _ (List.mem_of_getElem? (i := 165) rfl)), rfl⟩
theorem ml_X4_45 : Cond.methodLink "SubtitleSeats" 45 yX2_findFault ∈ zWL := List.mem_filter.mpr ⟨List.mem_append_right _ (List.mem_append_left _ (List.mem_of_getElem? (i := 166) rfl)), rfl⟩
theorem im_X2_findFault : Cond.instanceMethod yX2_findFault ∈ zWL := List.mem_filter.mpr ⟨List.mem_append_right _ (List.mem_append_left _ (List.mem_of_getElem? (i := 167) rfl)), rfl⟩
theorem se_X2_findFault : Cond.selects "SubtitleSeats$Script" yX2_findFault yX2_findFault ∈ zWL := List.mem_filter.mpr ⟨List.mem_append_right _ (List.mem_append_left _ (List.mem_of_getElem? (i := 168) rfl)), rfl⟩
theorem cd_X2_findFault : Cond.code yX2_findFault prog_4_method_2_code 2 (some .int) ∈ zWL := List.mem_filter.mpr ⟨List.mem_append_right _ (List.mem_append_left _ (List.mem_of_getElem? (i := 169) rfl)), rfl⟩
theorem ml_X2_15 : Cond.methodLink "SubtitleSeats$Script" 15 yX2_rewind ∈ zWL := List.mem_filter.mpr ⟨List.mem_append_right _ (List.mem_append_left _ (List.mem_of_getElem? (i := 170) rfl)), rfl⟩
theorem im_X2_rewind : Cond.instanceMethod yX2_rewind ∈ zWL := List.mem_filter.mpr ⟨List.mem_append_right _ (List.mem_append_left _ (List.mem_of_getElem? (i := 171) rfl)), rfl⟩
theorem se_X2_rewind : Cond.selects "SubtitleSeats$Script" yX2_rewind yX2_rewind ∈ zWL := List.mem_filter.mpr ⟨List.mem_append_right _ (List.mem_append_left _ (List.mem_of_getElem? (i := 172) rfl)), rfl⟩
theorem cd_X2_rewind : Cond.code yX2_rewind prog_4_method_3_code 1 none ∈ zWL := List.mem_filter.mpr ⟨List.mem_append_right _ (List.mem_append_left _ (List.mem_of_getElem? (i := 173) rfl)), rfl⟩
theorem ml_X2_18 : Cond.methodLink "SubtitleSeats$Script" 18 yX2_readEntry ∈ zWL := List.mem_filter.mpr ⟨List.mem_append_right _ (List.mem_append_left _ (List.mem_of_getElem? (i := 174) rfl)), rfl⟩
theorem im_X2_readEntry : Cond.instanceMethod yX2_readEntry ∈ zWL := List.mem_filter.mpr ⟨List.mem_append_right _ (List.mem_append_left _ (List.mem_of_getElem? (i := 175) rfl)), rfl⟩
theorem se_X2_readEntry : Cond.selects "SubtitleSeats$Script" yX2_readEntry yX2_readEntry ∈ zWL := List.mem_filter.mpr ⟨List.mem_append_right _ (List.mem_append_left _ (List.mem_of_getElem? (i := 176) rfl)), rfl⟩
theorem cd_X2_readEntry : Cond.code yX2_readEntry prog_4_method_4_code 1 (some .boolean) ∈ zWL := List.mem_filter.mpr ⟨List.mem_append_right _ (List.mem_append_left _ (List.mem_of_getElem? (i := 177) rfl)), rfl⟩
theorem ml_X2_36 : Cond.methodLink "SubtitleSeats$Script" 36 yX2_readNumber ∈ zWL := List.mem_filter.mpr ⟨List.mem_append_right _ (List.mem_append_left _ (List.mem_of_getElem? (i := 178) rfl)), rfl⟩
theorem im_X2_readNumber : Cond.instanceMethod yX2_readNumber ∈ zWL := List.mem_filter.mpr ⟨List.mem_append_right _ (List.mem_append_left _ (List.mem_of_getElem? (i := 180) rfl)), rfl⟩
theorem cd_X2_readNumber : Cond.code yX2_readNumber prog_4_method_6_code 4 (some .int) ∈ zWL := List.mem_filter.mpr ⟨List.mem_append_right _ (List.mem_append_left _ (List.mem_of_getElem? (i := 181) rfl)), rfl⟩
theorem ml_X2_49 : Cond.methodLink "SubtitleSeats$Script" 49 yX2_isDigit ∈ zWL := List.mem_filter.mpr ⟨List.mem_append_right _ (List.mem_append_left _ (List.mem_of_getElem? (i := 182) rfl)), rfl⟩
theorem sc_X2_isDigit : Cond.static yX2_isDigit ∈ zWL := List.mem_filter.mpr ⟨List.mem_append_right _ (List.mem_append_left _ (List.mem_of_getElem? (i := 183) rfl)), rfl⟩
theorem cd_X2_isDigit : Cond.code yX2_isDigit prog_4_method_9_code 1 (some .boolean) ∈ zWL := List.mem_filter.mpr ⟨List.mem_append_right _ (List.mem_append_left _ (List.mem_of_getElem? (i := 184) rfl)), rfl⟩
theorem ml_X2_26 : Cond.methodLink "SubtitleSeats$Script" 26 yX2_take ∈ zWL := List.mem_filter.mpr ⟨List.mem_append_right _ (List.mem_append_left _ (List.mem_of_getElem? (i := 185) rfl)), rfl⟩
theorem im_X2_take : Cond.instanceMethod yX2_take ∈ zWL := List.mem_filter.mpr ⟨List.mem_append_right _ (List.mem_append_left _ (List.mem_of_getElem? (i := 186) rfl)), rfl⟩
theorem se_X2_take : Cond.selects "SubtitleSeats$Script" yX2_take yX2_take ∈ zWL := List.mem_filter.mpr ⟨List.mem_append_right _ (List.mem_append_left _ (List.mem_of_getElem? (i := 187) rfl)), rfl⟩
theorem cd_X2_take : Cond.code yX2_take prog_4_method_5_code 2 (some .boolean) ∈ zWL := List.mem_filter.mpr ⟨List.mem_append_right _ (List.mem_append_left _ (List.mem_of_getElem? (i := 188) rfl)), rfl⟩
theorem ml_X2_46 : Cond.methodLink "SubtitleSeats$Script" 46 yX2_readText ∈ zWL := List.mem_filter.mpr ⟨List.mem_append_right _ (List.mem_append_left _ (List.mem_of_getElem? (i := 189) rfl)), rfl⟩
theorem im_X2_readText : Cond.instanceMethod yX2_readText ∈ zWL := List.mem_filter.mpr ⟨List.mem_append_right _ (List.mem_append_left _ (List.mem_of_getElem? (i := 191) rfl)), rfl⟩
theorem cd_X2_readText : Cond.code yX2_readText prog_4_method_7_code 1 (some .boolean) ∈ zWL := List.mem_filter.mpr ⟨List.mem_append_right _ (List.mem_append_left _ (List.mem_of_getElem? (i := 192) rfl)), rfl⟩
theorem ml_X2_55 : Cond.methodLink "SubtitleSeats$Script" 55 yX2_mayFollowInText ∈ zWL := List.mem_filter.mpr ⟨List.mem_append_right _ (List.mem_append_left _ (List.mem_of_getElem? (i := 193) rfl)), rfl⟩
theorem im_X2_mayFollowInText : Cond.instanceMethod yX2_mayFollowInText ∈ zWL := List.mem_filter.mpr ⟨List.mem_append_right _ (List.mem_append_left _ (List.mem_of_getElem? (i := 195) rfl)), rfl⟩
theorem cd_X2_mayFollowInText : Cond.code yX2_mayFollowInText prog_4_method_8_code 3 (some .boolean) ∈ zWL := List.mem_filter.mpr ⟨List.mem_append_right _ (List.mem_append_left _ (List.mem_of_getElem? (i := 196) rfl)), rfl⟩
theorem ml_X2_61 : Cond.methodLink "SubtitleSeats$Script" 61 yX2_isSign ∈ zWL := List.mem_filter.mpr ⟨List.mem_append_right _ (List.mem_append_left _ (List.mem_of_getElem? (i := 197) rfl)), rfl⟩
theorem sc_X2_isSign : Cond.static yX2_isSign ∈ zWL := List.mem_filter.mpr ⟨List.mem_append_right _ (List.mem_append_left _ (List.mem_of_getElem? (i := 198) rfl)), rfl⟩
theorem cd_X2_isSign : Cond.code yX2_isSign prog_4_method_10_code 1 (some .boolean) ∈ zWL := List.mem_filter.mpr ⟨List.mem_append_right _ (List.mem_append_left _ (List.mem_of_getElem? (i := 199) rfl)), rfl⟩
theorem ml_L_27 : Cond.methodLink "SubtitleSeatsLaw" 27 yX4_load ∈ zWL := List.mem_filter.mpr ⟨List.mem_append_right _ (List.mem_append_left _ (List.mem_of_getElem? (i := 200) rfl)), rfl⟩
theorem im_X4_load : Cond.instanceMethod yX4_load ∈ zWL := List.mem_filter.mpr ⟨List.mem_append_right _ (List.mem_append_left _ (List.mem_of_getElem? (i := 201) rfl)), rfl⟩
theorem se_X4_load : Cond.selects "SubtitleSeats" yX4_load yX4_load ∈ zWL := List.mem_filter.mpr ⟨List.mem_append_right _ (List.mem_append_left _ (List.mem_of_getElem? (i := 202) rfl)), rfl⟩
theorem cd_X4_load : Cond.code yX4_load prog_1_method_5_code 5 (some .int) ∈ zWL := List.mem_filter.mpr ⟨List.mem_append_right _ (List.mem_append_left _ (List.mem_of_getElem? (i := 203) rfl)), rfl⟩
theorem ml_X4_49 : Cond.methodLink "SubtitleSeats" 49 yX1_record ∈ zWL := List.mem_filter.mpr ⟨List.mem_append_right _ (List.mem_append_left _ (List.mem_of_getElem? (i := 204) rfl)), rfl⟩
theorem im_X1_record : Cond.instanceMethod yX1_record ∈ zWL := List.mem_filter.mpr ⟨List.mem_append_right _ (List.mem_append_left _ (List.mem_of_getElem? (i := 205) rfl)), rfl⟩
theorem se_X1_record : Cond.selects "SubtitleSeats$History" yX1_record yX1_record ∈ zWL := List.mem_filter.mpr ⟨List.mem_append_right _ (List.mem_append_left _ (List.mem_of_getElem? (i := 206) rfl)), rfl⟩
theorem cd_X1_record : Cond.code yX1_record prog_3_method_2_code 2 none ∈ zWL := List.mem_filter.mpr ⟨List.mem_append_right _ (List.mem_append_left _ (List.mem_of_getElem? (i := 207) rfl)), rfl⟩
theorem ml_X1_22 : Cond.methodLink "SubtitleSeats$History" 22 yX0_copyFrom ∈ zWL := List.mem_filter.mpr ⟨List.mem_append_right _ (List.mem_append_left _ (List.mem_of_getElem? (i := 208) rfl)), rfl⟩
theorem im_X0_copyFrom : Cond.instanceMethod yX0_copyFrom ∈ zWL := List.mem_filter.mpr ⟨List.mem_append_right _ (List.mem_append_left _ (List.mem_of_getElem? (i := 209) rfl)), rfl⟩
theorem se_X0_copyFrom : Cond.selects "SubtitleSeats$Film" yX0_copyFrom yX0_copyFrom ∈ zWL := List.mem_filter.mpr ⟨List.mem_append_right _ (List.mem_append_left _ (List.mem_of_getElem? (i := 210) rfl)), rfl⟩
theorem cd_X0_copyFrom : Cond.code yX0_copyFrom prog_2_method_2_code 3 none ∈ zWL := List.mem_filter.mpr ⟨List.mem_append_right _ (List.mem_append_left _ (List.mem_of_getElem? (i := 211) rfl)), rfl⟩
theorem ml_X0_38 : Cond.methodLink "SubtitleSeats$Film" 38 yX3_copyFrom ∈ zWL := List.mem_filter.mpr ⟨List.mem_append_right _ (List.mem_append_left _ (List.mem_of_getElem? (i := 212) rfl)), rfl⟩
theorem im_X3_copyFrom : Cond.instanceMethod yX3_copyFrom ∈ zWL := List.mem_filter.mpr ⟨List.mem_append_right _ (List.mem_append_left _ (List.mem_of_getElem? (i := 213) rfl)), rfl⟩
theorem se_X3_copyFrom : Cond.selects "SubtitleSeats$Subtitle" yX3_copyFrom yX3_copyFrom ∈ zWL := List.mem_filter.mpr ⟨List.mem_append_right _ (List.mem_append_left _ (List.mem_of_getElem? (i := 214) rfl)), rfl⟩
theorem cd_X3_copyFrom : Cond.code yX3_copyFrom prog_5_method_2_code 2 none ∈ zWL := List.mem_filter.mpr ⟨List.mem_append_right _ (List.mem_append_left _ (List.mem_of_getElem? (i := 215) rfl)), rfl⟩
theorem ml_X3_25 : Cond.methodLink "SubtitleSeats$Subtitle" 25 yX3_takeText ∈ zWL := List.mem_filter.mpr ⟨List.mem_append_right _ (List.mem_append_left _ (List.mem_of_getElem? (i := 216) rfl)), rfl⟩
theorem im_X3_takeText : Cond.instanceMethod yX3_takeText ∈ zWL := List.mem_filter.mpr ⟨List.mem_append_right _ (List.mem_append_left _ (List.mem_of_getElem? (i := 217) rfl)), rfl⟩
theorem se_X3_takeText : Cond.selects "SubtitleSeats$Subtitle" yX3_takeText yX3_takeText ∈ zWL := List.mem_filter.mpr ⟨List.mem_append_right _ (List.mem_append_left _ (List.mem_of_getElem? (i := 218) rfl)), rfl⟩
theorem cd_X3_takeText : Cond.code yX3_takeText prog_5_method_3_code 4 none ∈ zWL := List.mem_filter.mpr ⟨List.mem_append_right _ (List.mem_append_left _ (List.mem_of_getElem? (i := 219) rfl)), rfl⟩
theorem ml_X3_29 : Cond.methodLink "SubtitleSeats$Subtitle" 29 ⟨"java/lang/System", "arraycopy", "(Ljava/lang/Object;ILjava/lang/Object;II)V"⟩ ∈ zWL := List.mem_filter.mpr ⟨List.mem_append_right _ (List.mem_append_left _ (List.mem_of_getElem? (i := 220) rfl)), rfl⟩
theorem ml_X1_29 : Cond.methodLink "SubtitleSeats$History" 29 yJ9_min_7cf53 ∈ zWL := List.mem_filter.mpr ⟨List.mem_append_right _ (List.mem_append_left _ (List.mem_of_getElem? (i := 221) rfl)), rfl⟩
theorem sc_J9_min_7cf53 : Cond.static yJ9_min_7cf53 ∈ zWL := List.mem_filter.mpr ⟨List.mem_append_right _ (List.mem_append_left _ (List.mem_of_getElem? (i := 222) rfl)), rfl⟩
theorem cd_J9_min_7cf53 : Cond.code yJ9_min_7cf53 prog_9_method_69_code 2 (some .int) ∈ zWL := List.mem_filter.mpr ⟨List.mem_append_right _ (List.mem_append_left _ (List.mem_of_getElem? (i := 223) rfl)), rfl⟩
theorem ml_X4_53 : Cond.methodLink "SubtitleSeats" 53 yX4_writeReport ∈ zWL := List.mem_filter.mpr ⟨List.mem_append_right _ (List.mem_append_left _ (List.mem_of_getElem? (i := 224) rfl)), rfl⟩
theorem im_X4_writeReport : Cond.instanceMethod yX4_writeReport ∈ zWL := List.mem_filter.mpr ⟨List.mem_append_right _ (List.mem_append_left _ (List.mem_of_getElem? (i := 226) rfl)), rfl⟩
theorem cd_X4_writeReport : Cond.code yX4_writeReport prog_1_method_32_code 4 none ∈ zWL := List.mem_filter.mpr ⟨List.mem_append_right _ (List.mem_append_left _ (List.mem_of_getElem? (i := 227) rfl)), rfl⟩
theorem ml_X4_57 : Cond.methodLink "SubtitleSeats" 57 yX2_rewind ∈ zWL := List.mem_filter.mpr ⟨List.mem_append_right _ (List.mem_append_left _ (List.mem_of_getElem? (i := 228) rfl)), rfl⟩
theorem ml_X4_60 : Cond.methodLink "SubtitleSeats" 60 yX2_readEntry ∈ zWL := List.mem_filter.mpr ⟨List.mem_append_right _ (List.mem_append_left _ (List.mem_of_getElem? (i := 229) rfl)), rfl⟩
theorem ml_X4_70 : Cond.methodLink "SubtitleSeats" 70 yX0_reasonAgainst ∈ zWL := List.mem_filter.mpr ⟨List.mem_append_right _ (List.mem_append_left _ (List.mem_of_getElem? (i := 230) rfl)), rfl⟩
theorem im_X0_reasonAgainst : Cond.instanceMethod yX0_reasonAgainst ∈ zWL := List.mem_filter.mpr ⟨List.mem_append_right _ (List.mem_append_left _ (List.mem_of_getElem? (i := 231) rfl)), rfl⟩
theorem se_X0_reasonAgainst : Cond.selects "SubtitleSeats$Film" yX0_reasonAgainst yX0_reasonAgainst ∈ zWL := List.mem_filter.mpr ⟨List.mem_append_right _ (List.mem_append_left _ (List.mem_of_getElem? (i := 232) rfl)), rfl⟩
theorem cd_X0_reasonAgainst : Cond.code yX0_reasonAgainst prog_2_method_7_code 4 (some .int) ∈ zWL := List.mem_filter.mpr ⟨List.mem_append_right _ (List.mem_append_left _ (List.mem_of_getElem? (i := 233) rfl)), rfl⟩
theorem ml_X4_81 : Cond.methodLink "SubtitleSeats" 81 yX0_openRowAt ∈ zWL := List.mem_filter.mpr ⟨List.mem_append_right _ (List.mem_append_left _ (List.mem_of_getElem? (i := 234) rfl)), rfl⟩
theorem im_X0_openRowAt : Cond.instanceMethod yX0_openRowAt ∈ zWL := List.mem_filter.mpr ⟨List.mem_append_right _ (List.mem_append_left _ (List.mem_of_getElem? (i := 235) rfl)), rfl⟩
theorem se_X0_openRowAt : Cond.selects "SubtitleSeats$Film" yX0_openRowAt yX0_openRowAt ∈ zWL := List.mem_filter.mpr ⟨List.mem_append_right _ (List.mem_append_left _ (List.mem_of_getElem? (i := 236) rfl)), rfl⟩
theorem cd_X0_openRowAt : Cond.code yX0_openRowAt prog_2_method_8_code 4 (some .int) ∈ zWL := List.mem_filter.mpr ⟨List.mem_append_right _ (List.mem_append_left _ (List.mem_of_getElem? (i := 237) rfl)), rfl⟩
theorem ml_X0_51 : Cond.methodLink "SubtitleSeats$Film" 51 yX0_openRow ∈ zWL := List.mem_filter.mpr ⟨List.mem_append_right _ (List.mem_append_left _ (List.mem_of_getElem? (i := 238) rfl)), rfl⟩
theorem im_X0_openRow : Cond.instanceMethod yX0_openRow ∈ zWL := List.mem_filter.mpr ⟨List.mem_append_right _ (List.mem_append_right _ (List.mem_append_left _ (List.mem_of_getElem? (i := 0) rfl))), rfl⟩
theorem cd_X0_openRow : Cond.code yX0_openRow prog_2_method_9_code 4 none ∈ zWL := List.mem_filter.mpr ⟨List.mem_append_right _ (List.mem_append_right _ (List.mem_append_left _ (List.mem_of_getElem? (i := 1) rfl))), rfl⟩
theorem ml_X4_95 : Cond.methodLink "SubtitleSeats" 95 yX3_takeText ∈ zWL := List.mem_filter.mpr ⟨List.mem_append_right _ (List.mem_append_right _ (List.mem_append_left _ (List.mem_of_getElem? (i := 2) rfl))), rfl⟩
theorem ml_X4_99 : Cond.methodLink "SubtitleSeats" 99 yX2_take ∈ zWL := List.mem_filter.mpr ⟨List.mem_append_right _ (List.mem_append_right _ (List.mem_append_left _ (List.mem_of_getElem? (i := 3) rfl))), rfl⟩
theorem ml_L_31 : Cond.methodLink "SubtitleSeatsLaw" 31 yX4_why ∈ zWL := List.mem_filter.mpr ⟨List.mem_append_right _ (List.mem_append_right _ (List.mem_append_left _ (List.mem_of_getElem? (i := 4) rfl))), rfl⟩
theorem im_X4_why : Cond.instanceMethod yX4_why ∈ zWL := List.mem_filter.mpr ⟨List.mem_append_right _ (List.mem_append_right _ (List.mem_append_left _ (List.mem_of_getElem? (i := 5) rfl))), rfl⟩
theorem se_X4_why : Cond.selects "SubtitleSeats" yX4_why yX4_why ∈ zWL := List.mem_filter.mpr ⟨List.mem_append_right _ (List.mem_append_right _ (List.mem_append_left _ (List.mem_of_getElem? (i := 6) rfl))), rfl⟩
theorem cd_X4_why : Cond.code yX4_why prog_1_method_6_code 2 (some .int) ∈ zWL := List.mem_filter.mpr ⟨List.mem_append_right _ (List.mem_append_right _ (List.mem_append_left _ (List.mem_of_getElem? (i := 7) rfl))), rfl⟩
theorem ml_L_35 : Cond.methodLink "SubtitleSeatsLaw" 35 yX4_undo ∈ zWL := List.mem_filter.mpr ⟨List.mem_append_right _ (List.mem_append_right _ (List.mem_append_left _ (List.mem_of_getElem? (i := 8) rfl))), rfl⟩
theorem im_X4_undo : Cond.instanceMethod yX4_undo ∈ zWL := List.mem_filter.mpr ⟨List.mem_append_right _ (List.mem_append_right _ (List.mem_append_left _ (List.mem_of_getElem? (i := 9) rfl))), rfl⟩
theorem se_X4_undo : Cond.selects "SubtitleSeats" yX4_undo yX4_undo ∈ zWL := List.mem_filter.mpr ⟨List.mem_append_right _ (List.mem_append_right _ (List.mem_append_left _ (List.mem_of_getElem? (i := 10) rfl))), rfl⟩
theorem cd_X4_undo : Cond.code yX4_undo prog_1_method_7_code 1 (some .int) ∈ zWL := List.mem_filter.mpr ⟨List.mem_append_right _ (List.mem_append_right _ (List.mem_append_left _ (List.mem_of_getElem? (i := 11) rfl))), rfl⟩
theorem ml_X4_106 : Cond.methodLink "SubtitleSeats" 106 yX1_restore ∈ zWL := List.mem_filter.mpr ⟨List.mem_append_right _ (List.mem_append_right _ (List.mem_append_left _ (List.mem_of_getElem? (i := 12) rfl))), rfl⟩
theorem im_X1_restore : Cond.instanceMethod yX1_restore ∈ zWL := List.mem_filter.mpr ⟨List.mem_append_right _ (List.mem_append_right _ (List.mem_append_left _ (List.mem_of_getElem? (i := 13) rfl))), rfl⟩
theorem se_X1_restore : Cond.selects "SubtitleSeats$History" yX1_restore yX1_restore ∈ zWL := List.mem_filter.mpr ⟨List.mem_append_right _ (List.mem_append_right _ (List.mem_append_left _ (List.mem_of_getElem? (i := 14) rfl))), rfl⟩
theorem cd_X1_restore : Cond.code yX1_restore prog_3_method_3_code 2 none ∈ zWL := List.mem_filter.mpr ⟨List.mem_append_right _ (List.mem_append_right _ (List.mem_append_left _ (List.mem_of_getElem? (i := 15) rfl))), rfl⟩
theorem ml_L_39 : Cond.methodLink "SubtitleSeatsLaw" 39 yX4_remove ∈ zWL := List.mem_filter.mpr ⟨List.mem_append_right _ (List.mem_append_right _ (List.mem_append_left _ (List.mem_of_getElem? (i := 16) rfl))), rfl⟩
theorem im_X4_remove : Cond.instanceMethod yX4_remove ∈ zWL := List.mem_filter.mpr ⟨List.mem_append_right _ (List.mem_append_right _ (List.mem_append_left _ (List.mem_of_getElem? (i := 17) rfl))), rfl⟩
theorem se_X4_remove : Cond.selects "SubtitleSeats" yX4_remove yX4_remove ∈ zWL := List.mem_filter.mpr ⟨List.mem_append_right _ (List.mem_append_right _ (List.mem_append_left _ (List.mem_of_getElem? (i := 18) rfl))), rfl⟩
theorem cd_X4_remove : Cond.code yX4_remove prog_1_method_8_code 2 (some .int) ∈ zWL := List.mem_filter.mpr ⟨List.mem_append_right _ (List.mem_append_right _ (List.mem_append_left _ (List.mem_of_getElem? (i := 19) rfl))), rfl⟩
theorem ml_X4_109 : Cond.methodLink "SubtitleSeats" 109 yX0_has ∈ zWL := List.mem_filter.mpr ⟨List.mem_append_right _ (List.mem_append_right _ (List.mem_append_left _ (List.mem_of_getElem? (i := 20) rfl))), rfl⟩
theorem im_X0_has : Cond.instanceMethod yX0_has ∈ zWL := List.mem_filter.mpr ⟨List.mem_append_right _ (List.mem_append_right _ (List.mem_append_left _ (List.mem_of_getElem? (i := 21) rfl))), rfl⟩
theorem se_X0_has : Cond.selects "SubtitleSeats$Film" yX0_has yX0_has ∈ zWL := List.mem_filter.mpr ⟨List.mem_append_right _ (List.mem_append_right _ (List.mem_append_left _ (List.mem_of_getElem? (i := 22) rfl))), rfl⟩
theorem cd_X0_has : Cond.code yX0_has prog_2_method_4_code 2 (some .boolean) ∈ zWL := List.mem_filter.mpr ⟨List.mem_append_right _ (List.mem_append_right _ (List.mem_append_left _ (List.mem_of_getElem? (i := 23) rfl))), rfl⟩
theorem ml_X4_113 : Cond.methodLink "SubtitleSeats" 113 yX0_closeRow ∈ zWL := List.mem_filter.mpr ⟨List.mem_append_right _ (List.mem_append_right _ (List.mem_append_left _ (List.mem_of_getElem? (i := 24) rfl))), rfl⟩
theorem im_X0_closeRow : Cond.instanceMethod yX0_closeRow ∈ zWL := List.mem_filter.mpr ⟨List.mem_append_right _ (List.mem_append_right _ (List.mem_append_left _ (List.mem_of_getElem? (i := 25) rfl))), rfl⟩
theorem se_X0_closeRow : Cond.selects "SubtitleSeats$Film" yX0_closeRow yX0_closeRow ∈ zWL := List.mem_filter.mpr ⟨List.mem_append_right _ (List.mem_append_right _ (List.mem_append_left _ (List.mem_of_getElem? (i := 26) rfl))), rfl⟩
theorem cd_X0_closeRow : Cond.code yX0_closeRow prog_2_method_10_code 4 none ∈ zWL := List.mem_filter.mpr ⟨List.mem_append_right _ (List.mem_append_right _ (List.mem_append_left _ (List.mem_of_getElem? (i := 27) rfl))), rfl⟩
theorem ml_L_43 : Cond.methodLink "SubtitleSeatsLaw" 43 yX4_shift ∈ zWL := List.mem_filter.mpr ⟨List.mem_append_right _ (List.mem_append_right _ (List.mem_append_left _ (List.mem_of_getElem? (i := 28) rfl))), rfl⟩
theorem im_X4_shift : Cond.instanceMethod yX4_shift ∈ zWL := List.mem_filter.mpr ⟨List.mem_append_right _ (List.mem_append_right _ (List.mem_append_left _ (List.mem_of_getElem? (i := 29) rfl))), rfl⟩
theorem se_X4_shift : Cond.selects "SubtitleSeats" yX4_shift yX4_shift ∈ zWL := List.mem_filter.mpr ⟨List.mem_append_right _ (List.mem_append_right _ (List.mem_append_left _ (List.mem_of_getElem? (i := 30) rfl))), rfl⟩
theorem cd_X4_shift : Cond.code yX4_shift prog_1_method_9_code 4 (some .int) ∈ zWL := List.mem_filter.mpr ⟨List.mem_append_right _ (List.mem_append_right _ (List.mem_append_left _ (List.mem_of_getElem? (i := 31) rfl))), rfl⟩
theorem ml_X4_118 : Cond.methodLink "SubtitleSeats" 118 yX0_endBefore ∈ zWL := List.mem_filter.mpr ⟨List.mem_append_right _ (List.mem_append_right _ (List.mem_append_left _ (List.mem_of_getElem? (i := 32) rfl))), rfl⟩
theorem im_X0_endBefore : Cond.instanceMethod yX0_endBefore ∈ zWL := List.mem_filter.mpr ⟨List.mem_append_right _ (List.mem_append_right _ (List.mem_append_left _ (List.mem_of_getElem? (i := 33) rfl))), rfl⟩
theorem se_X0_endBefore : Cond.selects "SubtitleSeats$Film" yX0_endBefore yX0_endBefore ∈ zWL := List.mem_filter.mpr ⟨List.mem_append_right _ (List.mem_append_right _ (List.mem_append_left _ (List.mem_of_getElem? (i := 34) rfl))), rfl⟩
theorem cd_X0_endBefore : Cond.code yX0_endBefore prog_2_method_5_code 2 (some .int) ∈ zWL := List.mem_filter.mpr ⟨List.mem_append_right _ (List.mem_append_right _ (List.mem_append_left _ (List.mem_of_getElem? (i := 35) rfl))), rfl⟩
theorem ml_L_48 : Cond.methodLink "SubtitleSeatsLaw" 48 yX4_setEnd ∈ zWL := List.mem_filter.mpr ⟨List.mem_append_right _ (List.mem_append_right _ (List.mem_append_left _ (List.mem_of_getElem? (i := 36) rfl))), rfl⟩
theorem im_X4_setEnd : Cond.instanceMethod yX4_setEnd ∈ zWL := List.mem_filter.mpr ⟨List.mem_append_right _ (List.mem_append_right _ (List.mem_append_left _ (List.mem_of_getElem? (i := 37) rfl))), rfl⟩
theorem se_X4_setEnd : Cond.selects "SubtitleSeats" yX4_setEnd yX4_setEnd ∈ zWL := List.mem_filter.mpr ⟨List.mem_append_right _ (List.mem_append_right _ (List.mem_append_left _ (List.mem_of_getElem? (i := 38) rfl))), rfl⟩
theorem cd_X4_setEnd : Cond.code yX4_setEnd prog_1_method_10_code 5 (some .int) ∈ zWL := List.mem_filter.mpr ⟨List.mem_append_right _ (List.mem_append_right _ (List.mem_append_left _ (List.mem_of_getElem? (i := 39) rfl))), rfl⟩
theorem ml_X4_121 : Cond.methodLink "SubtitleSeats" 121 yX0_startBehind ∈ zWL := List.mem_filter.mpr ⟨List.mem_append_right _ (List.mem_append_right _ (List.mem_append_left _ (List.mem_of_getElem? (i := 40) rfl))), rfl⟩
theorem im_X0_startBehind : Cond.instanceMethod yX0_startBehind ∈ zWL := List.mem_filter.mpr ⟨List.mem_append_right _ (List.mem_append_right _ (List.mem_append_left _ (List.mem_of_getElem? (i := 41) rfl))), rfl⟩
theorem se_X0_startBehind : Cond.selects "SubtitleSeats$Film" yX0_startBehind yX0_startBehind ∈ zWL := List.mem_filter.mpr ⟨List.mem_append_right _ (List.mem_append_right _ (List.mem_append_left _ (List.mem_of_getElem? (i := 42) rfl))), rfl⟩
theorem cd_X0_startBehind : Cond.code yX0_startBehind prog_2_method_6_code 2 (some .int) ∈ zWL := List.mem_filter.mpr ⟨List.mem_append_right _ (List.mem_append_right _ (List.mem_append_left _ (List.mem_of_getElem? (i := 43) rfl))), rfl⟩
theorem ml_L_52 : Cond.methodLink "SubtitleSeatsLaw" 52 yX4_split ∈ zWL := List.mem_filter.mpr ⟨List.mem_append_right _ (List.mem_append_right _ (List.mem_append_left _ (List.mem_of_getElem? (i := 44) rfl))), rfl⟩
theorem im_X4_split : Cond.instanceMethod yX4_split ∈ zWL := List.mem_filter.mpr ⟨List.mem_append_right _ (List.mem_append_right _ (List.mem_append_left _ (List.mem_of_getElem? (i := 45) rfl))), rfl⟩
theorem se_X4_split : Cond.selects "SubtitleSeats" yX4_split yX4_split ∈ zWL := List.mem_filter.mpr ⟨List.mem_append_right _ (List.mem_append_right _ (List.mem_append_left _ (List.mem_of_getElem? (i := 46) rfl))), rfl⟩
theorem cd_X4_split : Cond.code yX4_split prog_1_method_11_code 3 (some .int) ∈ zWL := List.mem_filter.mpr ⟨List.mem_append_right _ (List.mem_append_right _ (List.mem_append_left _ (List.mem_of_getElem? (i := 47) rfl))), rfl⟩
theorem ml_X4_124 : Cond.methodLink "SubtitleSeats" 124 yX3_bestBlank ∈ zWL := List.mem_filter.mpr ⟨List.mem_append_right _ (List.mem_append_right _ (List.mem_append_left _ (List.mem_of_getElem? (i := 48) rfl))), rfl⟩
theorem im_X3_bestBlank : Cond.instanceMethod yX3_bestBlank ∈ zWL := List.mem_filter.mpr ⟨List.mem_append_right _ (List.mem_append_right _ (List.mem_append_left _ (List.mem_of_getElem? (i := 49) rfl))), rfl⟩
theorem se_X3_bestBlank : Cond.selects "SubtitleSeats$Subtitle" yX3_bestBlank yX3_bestBlank ∈ zWL := List.mem_filter.mpr ⟨List.mem_append_right _ (List.mem_append_right _ (List.mem_append_left _ (List.mem_of_getElem? (i := 50) rfl))), rfl⟩
theorem cd_X3_bestBlank : Cond.code yX3_bestBlank prog_5_method_6_code 7 (some .int) ∈ zWL := List.mem_filter.mpr ⟨List.mem_append_right _ (List.mem_append_right _ (List.mem_append_left _ (List.mem_of_getElem? (i := 51) rfl))), rfl⟩
theorem ml_X3_39 : Cond.methodLink "SubtitleSeats$Subtitle" 39 yX3_kindOfBlankBehind ∈ zWL := List.mem_filter.mpr ⟨List.mem_append_right _ (List.mem_append_right _ (List.mem_append_left _ (List.mem_of_getElem? (i := 52) rfl))), rfl⟩
theorem sc_X3_kindOfBlankBehind : Cond.static yX3_kindOfBlankBehind ∈ zWL := List.mem_filter.mpr ⟨List.mem_append_right _ (List.mem_append_right _ (List.mem_append_left _ (List.mem_of_getElem? (i := 53) rfl))), rfl⟩
theorem cd_X3_kindOfBlankBehind : Cond.code yX3_kindOfBlankBehind prog_5_method_7_code 1 (some .int) ∈ zWL := List.mem_filter.mpr ⟨List.mem_append_right _ (List.mem_append_right _ (List.mem_append_left _ (List.mem_of_getElem? (i := 54) rfl))), rfl⟩
theorem ml_X3_43 : Cond.methodLink "SubtitleSeats$Subtitle" 43 yJ9_abs_0f7a4 ∈ zWL := List.mem_filter.mpr ⟨List.mem_append_right _ (List.mem_append_right _ (List.mem_append_left _ (List.mem_of_getElem? (i := 55) rfl))), rfl⟩
theorem sc_J9_abs_0f7a4 : Cond.static yJ9_abs_0f7a4 ∈ zWL := List.mem_filter.mpr ⟨List.mem_append_right _ (List.mem_append_right _ (List.mem_append_left _ (List.mem_of_getElem? (i := 56) rfl))), rfl⟩
theorem cd_J9_abs_0f7a4 : Cond.code yJ9_abs_0f7a4 prog_9_method_59_code 1 (some .int) ∈ zWL := List.mem_filter.mpr ⟨List.mem_append_right _ (List.mem_append_right _ (List.mem_append_left _ (List.mem_of_getElem? (i := 57) rfl))), rfl⟩
theorem ml_X4_127 : Cond.methodLink "SubtitleSeats" 127 yX3_frames ∈ zWL := List.mem_filter.mpr ⟨List.mem_append_right _ (List.mem_append_right _ (List.mem_append_left _ (List.mem_of_getElem? (i := 58) rfl))), rfl⟩
theorem im_X3_frames : Cond.instanceMethod yX3_frames ∈ zWL := List.mem_filter.mpr ⟨List.mem_append_right _ (List.mem_append_right _ (List.mem_append_left _ (List.mem_of_getElem? (i := 59) rfl))), rfl⟩
theorem se_X3_frames : Cond.selects "SubtitleSeats$Subtitle" yX3_frames yX3_frames ∈ zWL := List.mem_filter.mpr ⟨List.mem_append_right _ (List.mem_append_right _ (List.mem_append_left _ (List.mem_of_getElem? (i := 60) rfl))), rfl⟩
theorem cd_X3_frames : Cond.code yX3_frames prog_5_method_4_code 1 (some .int) ∈ zWL := List.mem_filter.mpr ⟨List.mem_append_right _ (List.mem_append_right _ (List.mem_append_left _ (List.mem_of_getElem? (i := 61) rfl))), rfl⟩
theorem ml_X4_133 : Cond.methodLink "SubtitleSeats" 133 yX0_splitRow ∈ zWL := List.mem_filter.mpr ⟨List.mem_append_right _ (List.mem_append_right _ (List.mem_append_left _ (List.mem_of_getElem? (i := 62) rfl))), rfl⟩
theorem im_X0_splitRow : Cond.instanceMethod yX0_splitRow ∈ zWL := List.mem_filter.mpr ⟨List.mem_append_right _ (List.mem_append_right _ (List.mem_append_left _ (List.mem_of_getElem? (i := 63) rfl))), rfl⟩
theorem se_X0_splitRow : Cond.selects "SubtitleSeats$Film" yX0_splitRow yX0_splitRow ∈ zWL := List.mem_filter.mpr ⟨List.mem_append_right _ (List.mem_append_right _ (List.mem_append_left _ (List.mem_of_getElem? (i := 64) rfl))), rfl⟩
theorem cd_X0_splitRow : Cond.code yX0_splitRow prog_2_method_11_code 7 none ∈ zWL := List.mem_filter.mpr ⟨List.mem_append_right _ (List.mem_append_right _ (List.mem_append_left _ (List.mem_of_getElem? (i := 65) rfl))), rfl⟩
theorem ml_X0_62 : Cond.methodLink "SubtitleSeats$Film" 62 yX3_takeText ∈ zWL := List.mem_filter.mpr ⟨List.mem_append_right _ (List.mem_append_right _ (List.mem_append_left _ (List.mem_of_getElem? (i := 66) rfl))), rfl⟩
theorem ml_X0_66 : Cond.methodLink "SubtitleSeats$Film" 66 yX3_frames ∈ zWL := List.mem_filter.mpr ⟨List.mem_append_right _ (List.mem_append_right _ (List.mem_append_left _ (List.mem_of_getElem? (i := 67) rfl))), rfl⟩
theorem ml_X0_70 : Cond.methodLink "SubtitleSeats$Film" 70 yX0_quotient ∈ zWL := List.mem_filter.mpr ⟨List.mem_append_right _ (List.mem_append_right _ (List.mem_append_left _ (List.mem_of_getElem? (i := 68) rfl))), rfl⟩
theorem sc_X0_quotient : Cond.static yX0_quotient ∈ zWL := List.mem_filter.mpr ⟨List.mem_append_right _ (List.mem_append_right _ (List.mem_append_left _ (List.mem_of_getElem? (i := 69) rfl))), rfl⟩
theorem cd_X0_quotient : Cond.code yX0_quotient prog_2_method_26_code 2 (some .int) ∈ zWL := List.mem_filter.mpr ⟨List.mem_append_right _ (List.mem_append_right _ (List.mem_append_left _ (List.mem_of_getElem? (i := 70) rfl))), rfl⟩
theorem ml_X0_74 : Cond.methodLink "SubtitleSeats$Film" 74 yJ9_min_7cf53 ∈ zWL := List.mem_filter.mpr ⟨List.mem_append_right _ (List.mem_append_right _ (List.mem_append_left _ (List.mem_of_getElem? (i := 71) rfl))), rfl⟩
theorem ml_X0_79 : Cond.methodLink "SubtitleSeats$Film" 79 yJ9_max_7cf53 ∈ zWL := List.mem_filter.mpr ⟨List.mem_append_right _ (List.mem_append_right _ (List.mem_append_left _ (List.mem_of_getElem? (i := 72) rfl))), rfl⟩
theorem sc_J9_max_7cf53 : Cond.static yJ9_max_7cf53 ∈ zWL := List.mem_filter.mpr ⟨List.mem_append_right _ (List.mem_append_right _ (List.mem_append_left _ (List.mem_of_getElem? (i := 73) rfl))), rfl⟩
theorem cd_J9_max_7cf53 : Cond.code yJ9_max_7cf53 prog_9_method_65_code 2 (some .int) ∈ zWL := List.mem_filter.mpr ⟨List.mem_append_right _ (List.mem_append_right _ (List.mem_append_left _ (List.mem_of_getElem? (i := 74) rfl))), rfl⟩
theorem ml_L_56 : Cond.methodLink "SubtitleSeatsLaw" 56 yX4_join ∈ zWL := List.mem_filter.mpr ⟨List.mem_append_right _ (List.mem_append_right _ (List.mem_append_left _ (List.mem_of_getElem? (i := 75) rfl))), rfl⟩
theorem im_X4_join : Cond.instanceMethod yX4_join ∈ zWL := List.mem_filter.mpr ⟨List.mem_append_right _ (List.mem_append_right _ (List.mem_append_left _ (List.mem_of_getElem? (i := 76) rfl))), rfl⟩
theorem se_X4_join : Cond.selects "SubtitleSeats" yX4_join yX4_join ∈ zWL := List.mem_filter.mpr ⟨List.mem_append_right _ (List.mem_append_right _ (List.mem_append_left _ (List.mem_of_getElem? (i := 77) rfl))), rfl⟩
theorem cd_X4_join : Cond.code yX4_join prog_1_method_12_code 3 (some .int) ∈ zWL := List.mem_filter.mpr ⟨List.mem_append_right _ (List.mem_append_right _ (List.mem_append_left _ (List.mem_of_getElem? (i := 78) rfl))), rfl⟩
theorem ml_X4_138 : Cond.methodLink "SubtitleSeats" 138 yX0_joinRows ∈ zWL := List.mem_filter.mpr ⟨List.mem_append_right _ (List.mem_append_right _ (List.mem_append_left _ (List.mem_of_getElem? (i := 79) rfl))), rfl⟩
theorem im_X0_joinRows : Cond.instanceMethod yX0_joinRows ∈ zWL := List.mem_filter.mpr ⟨List.mem_append_right _ (List.mem_append_right _ (List.mem_append_left _ (List.mem_of_getElem? (i := 80) rfl))), rfl⟩
theorem se_X0_joinRows : Cond.selects "SubtitleSeats$Film" yX0_joinRows yX0_joinRows ∈ zWL := List.mem_filter.mpr ⟨List.mem_append_right _ (List.mem_append_right _ (List.mem_append_left _ (List.mem_of_getElem? (i := 81) rfl))), rfl⟩
theorem cd_X0_joinRows : Cond.code yX0_joinRows prog_2_method_12_code 4 none ∈ zWL := List.mem_filter.mpr ⟨List.mem_append_right _ (List.mem_append_right _ (List.mem_append_left _ (List.mem_of_getElem? (i := 82) rfl))), rfl⟩
theorem ml_X0_82 : Cond.methodLink "SubtitleSeats$Film" 82 yX0_closeRow ∈ zWL := List.mem_filter.mpr ⟨List.mem_append_right _ (List.mem_append_right _ (List.mem_append_left _ (List.mem_of_getElem? (i := 83) rfl))), rfl⟩
theorem ml_L_60 : Cond.methodLink "SubtitleSeatsLaw" 60 yX4_seat ∈ zWL := List.mem_filter.mpr ⟨List.mem_append_right _ (List.mem_append_right _ (List.mem_append_left _ (List.mem_of_getElem? (i := 84) rfl))), rfl⟩
theorem im_X4_seat : Cond.instanceMethod yX4_seat ∈ zWL := List.mem_filter.mpr ⟨List.mem_append_right _ (List.mem_append_right _ (List.mem_append_left _ (List.mem_of_getElem? (i := 85) rfl))), rfl⟩
theorem se_X4_seat : Cond.selects "SubtitleSeats" yX4_seat yX4_seat ∈ zWL := List.mem_filter.mpr ⟨List.mem_append_right _ (List.mem_append_right _ (List.mem_append_left _ (List.mem_of_getElem? (i := 86) rfl))), rfl⟩
theorem cd_X4_seat : Cond.code yX4_seat prog_1_method_13_code 1 (some .int) ∈ zWL := List.mem_filter.mpr ⟨List.mem_append_right _ (List.mem_append_right _ (List.mem_append_left _ (List.mem_of_getElem? (i := 87) rfl))), rfl⟩
theorem ml_X4_141 : Cond.methodLink "SubtitleSeats" 141 yX0_seatAll ∈ zWL := List.mem_filter.mpr ⟨List.mem_append_right _ (List.mem_append_right _ (List.mem_append_left _ (List.mem_of_getElem? (i := 88) rfl))), rfl⟩
theorem im_X0_seatAll : Cond.instanceMethod yX0_seatAll ∈ zWL := List.mem_filter.mpr ⟨List.mem_append_right _ (List.mem_append_right _ (List.mem_append_left _ (List.mem_of_getElem? (i := 89) rfl))), rfl⟩
theorem se_X0_seatAll : Cond.selects "SubtitleSeats$Film" yX0_seatAll yX0_seatAll ∈ zWL := List.mem_filter.mpr ⟨List.mem_append_right _ (List.mem_append_right _ (List.mem_append_left _ (List.mem_of_getElem? (i := 90) rfl))), rfl⟩
theorem cd_X0_seatAll : Cond.code yX0_seatAll prog_2_method_14_code 6 (some .int) ∈ zWL := List.mem_filter.mpr ⟨List.mem_append_right _ (List.mem_append_right _ (List.mem_append_left _ (List.mem_of_getElem? (i := 91) rfl))), rfl⟩
theorem ml_X0_85 : Cond.methodLink "SubtitleSeats$Film" 85 yX0_seatRow ∈ zWL := List.mem_filter.mpr ⟨List.mem_append_right _ (List.mem_append_right _ (List.mem_append_left _ (List.mem_of_getElem? (i := 92) rfl))), rfl⟩
theorem im_X0_seatRow : Cond.instanceMethod yX0_seatRow ∈ zWL := List.mem_filter.mpr ⟨List.mem_append_right _ (List.mem_append_right _ (List.mem_append_left _ (List.mem_of_getElem? (i := 94) rfl))), rfl⟩
theorem cd_X0_seatRow : Cond.code yX0_seatRow prog_2_method_15_code 8 (some .boolean) ∈ zWL := List.mem_filter.mpr ⟨List.mem_append_right _ (List.mem_append_right _ (List.mem_append_left _ (List.mem_of_getElem? (i := 95) rfl))), rfl⟩
theorem ml_X0_89 : Cond.methodLink "SubtitleSeats$Film" 89 yX0_framesNeededBy ∈ zWL := List.mem_filter.mpr ⟨List.mem_append_right _ (List.mem_append_right _ (List.mem_append_left _ (List.mem_of_getElem? (i := 96) rfl))), rfl⟩
theorem im_X0_framesNeededBy : Cond.instanceMethod yX0_framesNeededBy ∈ zWL := List.mem_filter.mpr ⟨List.mem_append_right _ (List.mem_append_right _ (List.mem_append_left _ (List.mem_of_getElem? (i := 97) rfl))), rfl⟩
theorem se_X0_framesNeededBy : Cond.selects "SubtitleSeats$Film" yX0_framesNeededBy yX0_framesNeededBy ∈ zWL := List.mem_filter.mpr ⟨List.mem_append_right _ (List.mem_append_right _ (List.mem_append_left _ (List.mem_of_getElem? (i := 98) rfl))), rfl⟩
theorem cd_X0_framesNeededBy : Cond.code yX0_framesNeededBy prog_2_method_13_code 3 (some .int) ∈ zWL := List.mem_filter.mpr ⟨List.mem_append_right _ (List.mem_append_right _ (List.mem_append_left _ (List.mem_of_getElem? (i := 99) rfl))), rfl⟩
theorem ml_X0_93 : Cond.methodLink "SubtitleSeats$Film" 93 yX0_nearestCutTo ∈ zWL := List.mem_filter.mpr ⟨List.mem_append_right _ (List.mem_append_right _ (List.mem_append_left _ (List.mem_of_getElem? (i := 100) rfl))), rfl⟩
theorem im_X0_nearestCutTo : Cond.instanceMethod yX0_nearestCutTo ∈ zWL := List.mem_filter.mpr ⟨List.mem_append_right _ (List.mem_append_right _ (List.mem_append_left _ (List.mem_of_getElem? (i := 102) rfl))), rfl⟩
theorem cd_X0_nearestCutTo : Cond.code yX0_nearestCutTo prog_2_method_16_code 4 (some .int) ∈ zWL := List.mem_filter.mpr ⟨List.mem_append_right _ (List.mem_append_right _ (List.mem_append_left _ (List.mem_of_getElem? (i := 103) rfl))), rfl⟩
theorem ml_X0_97 : Cond.methodLink "SubtitleSeats$Film" 97 yJ9_abs_0f7a4 ∈ zWL := List.mem_filter.mpr ⟨List.mem_append_right _ (List.mem_append_right _ (List.mem_append_left _ (List.mem_of_getElem? (i := 104) rfl))), rfl⟩
theorem ml_L_64 : Cond.methodLink "SubtitleSeatsLaw" 64 yX4_cut ∈ zWL := List.mem_filter.mpr ⟨List.mem_append_right _ (List.mem_append_right _ (List.mem_append_left _ (List.mem_of_getElem? (i := 105) rfl))), rfl⟩
theorem im_X4_cut : Cond.instanceMethod yX4_cut ∈ zWL := List.mem_filter.mpr ⟨List.mem_append_right _ (List.mem_append_right _ (List.mem_append_left _ (List.mem_of_getElem? (i := 106) rfl))), rfl⟩
theorem se_X4_cut : Cond.selects "SubtitleSeats" yX4_cut yX4_cut ∈ zWL := List.mem_filter.mpr ⟨List.mem_append_right _ (List.mem_append_right _ (List.mem_append_left _ (List.mem_of_getElem? (i := 107) rfl))), rfl⟩
theorem cd_X4_cut : Cond.code yX4_cut prog_1_method_14_code 2 (some .int) ∈ zWL := List.mem_filter.mpr ⟨List.mem_append_right _ (List.mem_append_right _ (List.mem_append_left _ (List.mem_of_getElem? (i := 108) rfl))), rfl⟩
theorem ml_X4_144 : Cond.methodLink "SubtitleSeats" 144 yX0_findCut ∈ zWL := List.mem_filter.mpr ⟨List.mem_append_right _ (List.mem_append_right _ (List.mem_append_left _ (List.mem_of_getElem? (i := 109) rfl))), rfl⟩
theorem im_X0_findCut : Cond.instanceMethod yX0_findCut ∈ zWL := List.mem_filter.mpr ⟨List.mem_append_right _ (List.mem_append_right _ (List.mem_append_left _ (List.mem_of_getElem? (i := 110) rfl))), rfl⟩
theorem se_X0_findCut : Cond.selects "SubtitleSeats$Film" yX0_findCut yX0_findCut ∈ zWL := List.mem_filter.mpr ⟨List.mem_append_right _ (List.mem_append_right _ (List.mem_append_left _ (List.mem_of_getElem? (i := 111) rfl))), rfl⟩
theorem cd_X0_findCut : Cond.code yX0_findCut prog_2_method_23_code 3 (some .int) ∈ zWL := List.mem_filter.mpr ⟨List.mem_append_right _ (List.mem_append_right _ (List.mem_append_left _ (List.mem_of_getElem? (i := 112) rfl))), rfl⟩
theorem ml_X4_150 : Cond.methodLink "SubtitleSeats" 150 yX0_addCut ∈ zWL := List.mem_filter.mpr ⟨List.mem_append_right _ (List.mem_append_right _ (List.mem_append_left _ (List.mem_of_getElem? (i := 113) rfl))), rfl⟩
theorem im_X0_addCut : Cond.instanceMethod yX0_addCut ∈ zWL := List.mem_filter.mpr ⟨List.mem_append_right _ (List.mem_append_right _ (List.mem_append_left _ (List.mem_of_getElem? (i := 114) rfl))), rfl⟩
theorem se_X0_addCut : Cond.selects "SubtitleSeats$Film" yX0_addCut yX0_addCut ∈ zWL := List.mem_filter.mpr ⟨List.mem_append_right _ (List.mem_append_right _ (List.mem_append_left _ (List.mem_of_getElem? (i := 115) rfl))), rfl⟩
theorem cd_X0_addCut : Cond.code yX0_addCut prog_2_method_24_code 3 none ∈ zWL := List.mem_filter.mpr ⟨List.mem_append_right _ (List.mem_append_right _ (List.mem_append_left _ (List.mem_of_getElem? (i := 116) rfl))), rfl⟩
theorem ml_L_68 : Cond.methodLink "SubtitleSeatsLaw" 68 yX4_uncut ∈ zWL := List.mem_filter.mpr ⟨List.mem_append_right _ (List.mem_append_right _ (List.mem_append_left _ (List.mem_of_getElem? (i := 117) rfl))), rfl⟩
theorem im_X4_uncut : Cond.instanceMethod yX4_uncut ∈ zWL := List.mem_filter.mpr ⟨List.mem_append_right _ (List.mem_append_right _ (List.mem_append_left _ (List.mem_of_getElem? (i := 118) rfl))), rfl⟩
theorem se_X4_uncut : Cond.selects "SubtitleSeats" yX4_uncut yX4_uncut ∈ zWL := List.mem_filter.mpr ⟨List.mem_append_right _ (List.mem_append_right _ (List.mem_append_left _ (List.mem_of_getElem? (i := 119) rfl))), rfl⟩
theorem cd_X4_uncut : Cond.code yX4_uncut prog_1_method_15_code 3 (some .int) ∈ zWL := List.mem_filter.mpr ⟨List.mem_append_right _ (List.mem_append_right _ (List.mem_append_left _ (List.mem_of_getElem? (i := 120) rfl))), rfl⟩
theorem ml_X4_153 : Cond.methodLink "SubtitleSeats" 153 yX0_removeCut ∈ zWL := List.mem_filter.mpr ⟨List.mem_append_right _ (List.mem_append_right _ (List.mem_append_left _ (List.mem_of_getElem? (i := 121) rfl))), rfl⟩
theorem im_X0_removeCut : Cond.instanceMethod yX0_removeCut ∈ zWL := List.mem_filter.mpr ⟨List.mem_append_right _ (List.mem_append_right _ (List.mem_append_left _ (List.mem_of_getElem? (i := 122) rfl))), rfl⟩
theorem se_X0_removeCut : Cond.selects "SubtitleSeats$Film" yX0_removeCut yX0_removeCut ∈ zWL := List.mem_filter.mpr ⟨List.mem_append_right _ (List.mem_append_right _ (List.mem_append_left _ (List.mem_of_getElem? (i := 123) rfl))), rfl⟩
theorem cd_X0_removeCut : Cond.code yX0_removeCut prog_2_method_25_code 3 none ∈ zWL := List.mem_filter.mpr ⟨List.mem_append_right _ (List.mem_append_right _ (List.mem_append_left _ (List.mem_of_getElem? (i := 124) rfl))), rfl⟩
theorem ml_L_72 : Cond.methodLink "SubtitleSeatsLaw" 72 yX4_set ∈ zWL := List.mem_filter.mpr ⟨List.mem_append_right _ (List.mem_append_right _ (List.mem_append_left _ (List.mem_of_getElem? (i := 125) rfl))), rfl⟩
theorem im_X4_set : Cond.instanceMethod yX4_set ∈ zWL := List.mem_filter.mpr ⟨List.mem_append_right _ (List.mem_append_right _ (List.mem_append_left _ (List.mem_of_getElem? (i := 126) rfl))), rfl⟩
theorem se_X4_set : Cond.selects "SubtitleSeats" yX4_set yX4_set ∈ zWL := List.mem_filter.mpr ⟨List.mem_append_right _ (List.mem_append_right _ (List.mem_append_left _ (List.mem_of_getElem? (i := 127) rfl))), rfl⟩
theorem cd_X4_set : Cond.code yX4_set prog_1_method_16_code 4 (some .int) ∈ zWL := List.mem_filter.mpr ⟨List.mem_append_right _ (List.mem_append_right _ (List.mem_append_left _ (List.mem_of_getElem? (i := 128) rfl))), rfl⟩
theorem fl_X4_156 : Cond.fieldLink "SubtitleSeats" 156 "SubtitleSeats" "LOWEST" "[I" ∈ zWL := List.mem_filter.mpr ⟨List.mem_append_right _ (List.mem_append_right _ (List.mem_append_left _ (List.mem_of_getElem? (i := 129) rfl))), rfl⟩
theorem fl_X4_159 : Cond.fieldLink "SubtitleSeats" 159 "SubtitleSeats" "HIGHEST" "[I" ∈ zWL := List.mem_filter.mpr ⟨List.mem_append_right _ (List.mem_append_right _ (List.mem_append_left _ (List.mem_of_getElem? (i := 131) rfl))), rfl⟩
theorem ml_L_76 : Cond.methodLink "SubtitleSeatsLaw" 76 yX4_subtitles ∈ zWL := List.mem_filter.mpr ⟨List.mem_append_right _ (List.mem_append_right _ (List.mem_append_left _ (List.mem_of_getElem? (i := 133) rfl))), rfl⟩
theorem im_X4_subtitles : Cond.instanceMethod yX4_subtitles ∈ zWL := List.mem_filter.mpr ⟨List.mem_append_right _ (List.mem_append_right _ (List.mem_append_left _ (List.mem_of_getElem? (i := 134) rfl))), rfl⟩
theorem se_X4_subtitles : Cond.selects "SubtitleSeats" yX4_subtitles yX4_subtitles ∈ zWL := List.mem_filter.mpr ⟨List.mem_append_right _ (List.mem_append_right _ (List.mem_append_left _ (List.mem_of_getElem? (i := 135) rfl))), rfl⟩
theorem cd_X4_subtitles : Cond.code yX4_subtitles prog_1_method_17_code 1 (some .int) ∈ zWL := List.mem_filter.mpr ⟨List.mem_append_right _ (List.mem_append_right _ (List.mem_append_left _ (List.mem_of_getElem? (i := 136) rfl))), rfl⟩
theorem ml_L_80 : Cond.methodLink "SubtitleSeatsLaw" 80 yX4_subtitle ∈ zWL := List.mem_filter.mpr ⟨List.mem_append_right _ (List.mem_append_right _ (List.mem_append_left _ (List.mem_of_getElem? (i := 137) rfl))), rfl⟩
theorem im_X4_subtitle : Cond.instanceMethod yX4_subtitle ∈ zWL := List.mem_filter.mpr ⟨List.mem_append_right _ (List.mem_append_right _ (List.mem_append_left _ (List.mem_of_getElem? (i := 138) rfl))), rfl⟩
theorem se_X4_subtitle : Cond.selects "SubtitleSeats" yX4_subtitle yX4_subtitle ∈ zWL := List.mem_filter.mpr ⟨List.mem_append_right _ (List.mem_append_right _ (List.mem_append_left _ (List.mem_of_getElem? (i := 139) rfl))), rfl⟩
theorem cd_X4_subtitle : Cond.code yX4_subtitle prog_1_method_18_code 4 (some .int) ∈ zWL := List.mem_filter.mpr ⟨List.mem_append_right _ (List.mem_append_right _ (List.mem_append_left _ (List.mem_of_getElem? (i := 140) rfl))), rfl⟩
theorem ml_X4_162 : Cond.methodLink "SubtitleSeats" 162 yX0_framesNeededBy ∈ zWL := List.mem_filter.mpr ⟨List.mem_append_right _ (List.mem_append_right _ (List.mem_append_left _ (List.mem_of_getElem? (i := 141) rfl))), rfl⟩
theorem ml_X4_166 : Cond.methodLink "SubtitleSeats" 166 yX0_faultsOf ∈ zWL := List.mem_filter.mpr ⟨List.mem_append_right _ (List.mem_append_right _ (List.mem_append_left _ (List.mem_of_getElem? (i := 142) rfl))), rfl⟩
theorem im_X0_faultsOf : Cond.instanceMethod yX0_faultsOf ∈ zWL := List.mem_filter.mpr ⟨List.mem_append_right _ (List.mem_append_right _ (List.mem_append_left _ (List.mem_of_getElem? (i := 143) rfl))), rfl⟩
theorem se_X0_faultsOf : Cond.selects "SubtitleSeats$Film" yX0_faultsOf yX0_faultsOf ∈ zWL := List.mem_filter.mpr ⟨List.mem_append_right _ (List.mem_append_right _ (List.mem_append_left _ (List.mem_of_getElem? (i := 144) rfl))), rfl⟩
theorem cd_X0_faultsOf : Cond.code yX0_faultsOf prog_2_method_17_code 4 (some .int) ∈ zWL := List.mem_filter.mpr ⟨List.mem_append_right _ (List.mem_append_right _ (List.mem_append_left _ (List.mem_of_getElem? (i := 145) rfl))), rfl⟩
theorem ml_X0_100 : Cond.methodLink "SubtitleSeats$Film" 100 yX3_isTooFastFor ∈ zWL := List.mem_filter.mpr ⟨List.mem_append_right _ (List.mem_append_right _ (List.mem_append_left _ (List.mem_of_getElem? (i := 146) rfl))), rfl⟩
theorem im_X3_isTooFastFor : Cond.instanceMethod yX3_isTooFastFor ∈ zWL := List.mem_filter.mpr ⟨List.mem_append_right _ (List.mem_append_right _ (List.mem_append_left _ (List.mem_of_getElem? (i := 147) rfl))), rfl⟩
theorem se_X3_isTooFastFor : Cond.selects "SubtitleSeats$Subtitle" yX3_isTooFastFor yX3_isTooFastFor ∈ zWL := List.mem_filter.mpr ⟨List.mem_append_right _ (List.mem_append_right _ (List.mem_append_left _ (List.mem_of_getElem? (i := 148) rfl))), rfl⟩
theorem cd_X3_isTooFastFor : Cond.code yX3_isTooFastFor prog_5_method_5_code 2 (some .boolean) ∈ zWL := List.mem_filter.mpr ⟨List.mem_append_right _ (List.mem_append_right _ (List.mem_append_left _ (List.mem_of_getElem? (i := 149) rfl))), rfl⟩
theorem ml_X3_35 : Cond.methodLink "SubtitleSeats$Subtitle" 35 yX3_frames ∈ zWL := List.mem_filter.mpr ⟨List.mem_append_right _ (List.mem_append_right _ (List.mem_append_left _ (List.mem_of_getElem? (i := 150) rfl))), rfl⟩
theorem ml_X0_104 : Cond.methodLink "SubtitleSeats$Film" 104 yX0_hasCutNearItsTimes ∈ zWL := List.mem_filter.mpr ⟨List.mem_append_right _ (List.mem_append_right _ (List.mem_append_left _ (List.mem_of_getElem? (i := 151) rfl))), rfl⟩
theorem im_X0_hasCutNearItsTimes : Cond.instanceMethod yX0_hasCutNearItsTimes ∈ zWL := List.mem_filter.mpr ⟨List.mem_append_right _ (List.mem_append_right _ (List.mem_append_left _ (List.mem_of_getElem? (i := 153) rfl))), rfl⟩
theorem cd_X0_hasCutNearItsTimes : Cond.code yX0_hasCutNearItsTimes prog_2_method_18_code 5 (some .boolean) ∈ zWL := List.mem_filter.mpr ⟨List.mem_append_right _ (List.mem_append_right _ (List.mem_append_left _ (List.mem_of_getElem? (i := 154) rfl))), rfl⟩
theorem ml_X0_108 : Cond.methodLink "SubtitleSeats$Film" 108 yX3_fitsInLines ∈ zWL := List.mem_filter.mpr ⟨List.mem_append_right _ (List.mem_append_right _ (List.mem_append_left _ (List.mem_of_getElem? (i := 155) rfl))), rfl⟩
theorem im_X3_fitsInLines : Cond.instanceMethod yX3_fitsInLines ∈ zWL := List.mem_filter.mpr ⟨List.mem_append_right _ (List.mem_append_right _ (List.mem_append_left _ (List.mem_of_getElem? (i := 156) rfl))), rfl⟩
theorem se_X3_fitsInLines : Cond.selects "SubtitleSeats$Subtitle" yX3_fitsInLines yX3_fitsInLines ∈ zWL := List.mem_filter.mpr ⟨List.mem_append_right _ (List.mem_append_right _ (List.mem_append_left _ (List.mem_of_getElem? (i := 157) rfl))), rfl⟩
theorem cd_X3_fitsInLines : Cond.code yX3_fitsInLines prog_5_method_11_code 4 (some .boolean) ∈ zWL := List.mem_filter.mpr ⟨List.mem_append_right _ (List.mem_append_right _ (List.mem_append_left _ (List.mem_of_getElem? (i := 158) rfl))), rfl⟩
theorem ml_X3_53 : Cond.methodLink "SubtitleSeats$Subtitle" 53 yX3_lineCount ∈ zWL := List.mem_filter.mpr ⟨List.mem_append_right _ (List.mem_append_right _ (List.mem_append_left _ (List.mem_of_getElem? (i := 159) rfl))), rfl⟩
theorem im_X3_lineCount : Cond.instanceMethod yX3_lineCount ∈ zWL := List.mem_filter.mpr ⟨List.mem_append_right _ (List.mem_append_right _ (List.mem_append_left _ (List.mem_of_getElem? (i := 160) rfl))), rfl⟩
theorem se_X3_lineCount : Cond.selects "SubtitleSeats$Subtitle" yX3_lineCount yX3_lineCount ∈ zWL := List.mem_filter.mpr ⟨List.mem_append_right _ (List.mem_append_right _ (List.mem_append_left _ (List.mem_of_getElem? (i := 161) rfl))), rfl⟩
theorem cd_X3_lineCount : Cond.code yX3_lineCount prog_5_method_9_code 4 (some .int) ∈ zWL := List.mem_filter.mpr ⟨List.mem_append_right _ (List.mem_append_right _ (List.mem_append_left _ (List.mem_of_getElem? (i := 162) rfl))), rfl⟩
theorem ml_X3_49 : Cond.methodLink "SubtitleSeats$Subtitle" 49 yX3_lineEnd ∈ zWL := List.mem_filter.mpr ⟨List.mem_append_right _ (List.mem_append_right _ (List.mem_append_left _ (List.mem_of_getElem? (i := 163) rfl))), rfl⟩
theorem im_X3_lineEnd : Cond.instanceMethod yX3_lineEnd ∈ zWL := List.mem_filter.mpr ⟨List.mem_append_right _ (List.mem_append_right _ (List.mem_append_left _ (List.mem_of_getElem? (i := 165) rfl))), rfl⟩
theorem cd_X3_lineEnd : Cond.code yX3_lineEnd prog_5_method_8_code 6 (some .int) ∈ zWL := List.mem_filter.mpr ⟨List.mem_append_right _ (List.mem_append_right _ (List.mem_append_left _ (List.mem_of_getElem? (i := 166) rfl))), rfl⟩
theorem ml_X3_56 : Cond.methodLink "SubtitleSeats$Subtitle" 56 yX3_lineLength ∈ zWL := List.mem_filter.mpr ⟨List.mem_append_right _ (List.mem_append_right _ (List.mem_append_left _ (List.mem_of_getElem? (i := 167) rfl))), rfl⟩
theorem im_X3_lineLength : Cond.instanceMethod yX3_lineLength ∈ zWL := List.mem_filter.mpr ⟨List.mem_append_right _ (List.mem_append_right _ (List.mem_append_left _ (List.mem_of_getElem? (i := 168) rfl))), rfl⟩
theorem se_X3_lineLength : Cond.selects "SubtitleSeats$Subtitle" yX3_lineLength yX3_lineLength ∈ zWL := List.mem_filter.mpr ⟨List.mem_append_right _ (List.mem_append_right _ (List.mem_append_left _ (List.mem_of_getElem? (i := 169) rfl))), rfl⟩
theorem cd_X3_lineLength : Cond.code yX3_lineLength prog_5_method_10_code 5 (some .int) ∈ zWL := List.mem_filter.mpr ⟨List.mem_append_right _ (List.mem_append_right _ (List.mem_append_left _ (List.mem_of_getElem? (i := 170) rfl))), rfl⟩
theorem ml_X4_169 : Cond.methodLink "SubtitleSeats" 169 yX3_lineCount ∈ zWL := List.mem_filter.mpr ⟨List.mem_append_right _ (List.mem_append_right _ (List.mem_append_left _ (List.mem_of_getElem? (i := 171) rfl))), rfl⟩
theorem ml_L_84 : Cond.methodLink "SubtitleSeatsLaw" 84 yX4_character ∈ zWL := List.mem_filter.mpr ⟨List.mem_append_right _ (List.mem_append_right _ (List.mem_append_left _ (List.mem_of_getElem? (i := 172) rfl))), rfl⟩
theorem im_X4_character : Cond.instanceMethod yX4_character ∈ zWL := List.mem_filter.mpr ⟨List.mem_append_right _ (List.mem_append_right _ (List.mem_append_left _ (List.mem_of_getElem? (i := 173) rfl))), rfl⟩
theorem se_X4_character : Cond.selects "SubtitleSeats" yX4_character yX4_character ∈ zWL := List.mem_filter.mpr ⟨List.mem_append_right _ (List.mem_append_right _ (List.mem_append_left _ (List.mem_of_getElem? (i := 174) rfl))), rfl⟩
theorem cd_X4_character : Cond.code yX4_character prog_1_method_19_code 4 (some .int) ∈ zWL := List.mem_filter.mpr ⟨List.mem_append_right _ (List.mem_append_right _ (List.mem_append_left _ (List.mem_of_getElem? (i := 175) rfl))), rfl⟩
theorem ml_L_88 : Cond.methodLink "SubtitleSeatsLaw" 88 yX4_line ∈ zWL := List.mem_filter.mpr ⟨List.mem_append_right _ (List.mem_append_right _ (List.mem_append_left _ (List.mem_of_getElem? (i := 176) rfl))), rfl⟩
theorem im_X4_line : Cond.instanceMethod yX4_line ∈ zWL := List.mem_filter.mpr ⟨List.mem_append_right _ (List.mem_append_right _ (List.mem_append_left _ (List.mem_of_getElem? (i := 177) rfl))), rfl⟩
theorem se_X4_line : Cond.selects "SubtitleSeats" yX4_line yX4_line ∈ zWL := List.mem_filter.mpr ⟨List.mem_append_right _ (List.mem_append_right _ (List.mem_append_left _ (List.mem_of_getElem? (i := 178) rfl))), rfl⟩
theorem cd_X4_line : Cond.code yX4_line prog_1_method_20_code 3 (some .int) ∈ zWL := List.mem_filter.mpr ⟨List.mem_append_right _ (List.mem_append_right _ (List.mem_append_left _ (List.mem_of_getElem? (i := 179) rfl))), rfl⟩
theorem ml_X4_175 : Cond.methodLink "SubtitleSeats" 175 yX3_lineLength ∈ zWL := List.mem_filter.mpr ⟨List.mem_append_right _ (List.mem_append_right _ (List.mem_append_left _ (List.mem_of_getElem? (i := 180) rfl))), rfl⟩
theorem ml_L_92 : Cond.methodLink "SubtitleSeatsLaw" 92 yX4_at ∈ zWL := List.mem_filter.mpr ⟨List.mem_append_right _ (List.mem_append_right _ (List.mem_append_left _ (List.mem_of_getElem? (i := 181) rfl))), rfl⟩
theorem im_X4_at : Cond.instanceMethod yX4_at ∈ zWL := List.mem_filter.mpr ⟨List.mem_append_right _ (List.mem_append_right _ (List.mem_append_left _ (List.mem_of_getElem? (i := 182) rfl))), rfl⟩
theorem se_X4_at : Cond.selects "SubtitleSeats" yX4_at yX4_at ∈ zWL := List.mem_filter.mpr ⟨List.mem_append_right _ (List.mem_append_right _ (List.mem_append_left _ (List.mem_of_getElem? (i := 183) rfl))), rfl⟩
theorem cd_X4_at : Cond.code yX4_at prog_1_method_21_code 3 (some .int) ∈ zWL := List.mem_filter.mpr ⟨List.mem_append_right _ (List.mem_append_right _ (List.mem_append_left _ (List.mem_of_getElem? (i := 184) rfl))), rfl⟩
theorem ml_L_96 : Cond.methodLink "SubtitleSeatsLaw" 96 yX4_cuts ∈ zWL := List.mem_filter.mpr ⟨List.mem_append_right _ (List.mem_append_right _ (List.mem_append_left _ (List.mem_of_getElem? (i := 185) rfl))), rfl⟩
theorem im_X4_cuts : Cond.instanceMethod yX4_cuts ∈ zWL := List.mem_filter.mpr ⟨List.mem_append_right _ (List.mem_append_right _ (List.mem_append_left _ (List.mem_of_getElem? (i := 186) rfl))), rfl⟩
theorem se_X4_cuts : Cond.selects "SubtitleSeats" yX4_cuts yX4_cuts ∈ zWL := List.mem_filter.mpr ⟨List.mem_append_right _ (List.mem_append_right _ (List.mem_append_left _ (List.mem_of_getElem? (i := 187) rfl))), rfl⟩
theorem cd_X4_cuts : Cond.code yX4_cuts prog_1_method_22_code 1 (some .int) ∈ zWL := List.mem_filter.mpr ⟨List.mem_append_right _ (List.mem_append_right _ (List.mem_append_left _ (List.mem_of_getElem? (i := 188) rfl))), rfl⟩
theorem ml_L_100 : Cond.methodLink "SubtitleSeatsLaw" 100 yX4_cutAt ∈ zWL := List.mem_filter.mpr ⟨List.mem_append_right _ (List.mem_append_right _ (List.mem_append_left _ (List.mem_of_getElem? (i := 189) rfl))), rfl⟩
theorem im_X4_cutAt : Cond.instanceMethod yX4_cutAt ∈ zWL := List.mem_filter.mpr ⟨List.mem_append_right _ (List.mem_append_right _ (List.mem_append_left _ (List.mem_of_getElem? (i := 190) rfl))), rfl⟩
theorem se_X4_cutAt : Cond.selects "SubtitleSeats" yX4_cutAt yX4_cutAt ∈ zWL := List.mem_filter.mpr ⟨List.mem_append_right _ (List.mem_append_right _ (List.mem_append_left _ (List.mem_of_getElem? (i := 191) rfl))), rfl⟩
theorem cd_X4_cutAt : Cond.code yX4_cutAt prog_1_method_23_code 2 (some .int) ∈ zWL := List.mem_filter.mpr ⟨List.mem_append_right _ (List.mem_append_right _ (List.mem_append_left _ (List.mem_of_getElem? (i := 192) rfl))), rfl⟩
theorem ml_L_104 : Cond.methodLink "SubtitleSeatsLaw" 104 yX4_setting ∈ zWL := List.mem_filter.mpr ⟨List.mem_append_right _ (List.mem_append_right _ (List.mem_append_left _ (List.mem_of_getElem? (i := 193) rfl))), rfl⟩
theorem im_X4_setting : Cond.instanceMethod yX4_setting ∈ zWL := List.mem_filter.mpr ⟨List.mem_append_right _ (List.mem_append_right _ (List.mem_append_left _ (List.mem_of_getElem? (i := 194) rfl))), rfl⟩
theorem se_X4_setting : Cond.selects "SubtitleSeats" yX4_setting yX4_setting ∈ zWL := List.mem_filter.mpr ⟨List.mem_append_right _ (List.mem_append_right _ (List.mem_append_left _ (List.mem_of_getElem? (i := 195) rfl))), rfl⟩
theorem cd_X4_setting : Cond.code yX4_setting prog_1_method_24_code 2 (some .int) ∈ zWL := List.mem_filter.mpr ⟨List.mem_append_right _ (List.mem_append_right _ (List.mem_append_left _ (List.mem_of_getElem? (i := 196) rfl))), rfl⟩
theorem ml_L_108 : Cond.methodLink "SubtitleSeatsLaw" 108 yX4_faulty ∈ zWL := List.mem_filter.mpr ⟨List.mem_append_right _ (List.mem_append_right _ (List.mem_append_left _ (List.mem_of_getElem? (i := 197) rfl))), rfl⟩
theorem im_X4_faulty : Cond.instanceMethod yX4_faulty ∈ zWL := List.mem_filter.mpr ⟨List.mem_append_right _ (List.mem_append_right _ (List.mem_append_left _ (List.mem_of_getElem? (i := 198) rfl))), rfl⟩
theorem se_X4_faulty : Cond.selects "SubtitleSeats" yX4_faulty yX4_faulty ∈ zWL := List.mem_filter.mpr ⟨List.mem_append_right _ (List.mem_append_right _ (List.mem_append_left _ (List.mem_of_getElem? (i := 199) rfl))), rfl⟩
theorem cd_X4_faulty : Cond.code yX4_faulty prog_1_method_25_code 2 (some .int) ∈ zWL := List.mem_filter.mpr ⟨List.mem_append_right _ (List.mem_append_right _ (List.mem_append_left _ (List.mem_of_getElem? (i := 200) rfl))), rfl⟩
theorem ml_X4_181 : Cond.methodLink "SubtitleSeats" 181 yJ6_bitCount_0f7a4 ∈ zWL := List.mem_filter.mpr ⟨List.mem_append_right _ (List.mem_append_right _ (List.mem_append_left _ (List.mem_of_getElem? (i := 201) rfl))), rfl⟩
theorem sc_J6_bitCount_0f7a4 : Cond.static yJ6_bitCount_0f7a4 ∈ zWL := List.mem_filter.mpr ⟨List.mem_append_right _ (List.mem_append_right _ (List.mem_append_left _ (List.mem_of_getElem? (i := 202) rfl))), rfl⟩
theorem cd_J6_bitCount_0f7a4 : Cond.code yJ6_bitCount_0f7a4 prog_8_method_49_code 1 (some .int) ∈ zWL := List.mem_filter.mpr ⟨List.mem_append_right _ (List.mem_append_right _ (List.mem_append_left _ (List.mem_of_getElem? (i := 203) rfl))), rfl⟩
theorem ct_J6_265 : Cond.constant "java/lang/Integer" 265 (1431655765 : Int32) ∈ zWL := List.mem_filter.mpr ⟨List.mem_append_right _ (List.mem_append_right _ (List.mem_append_left _ (List.mem_of_getElem? (i := 204) rfl))), rfl⟩
theorem ct_J6_266 : Cond.constant "java/lang/Integer" 266 (858993459 : Int32) ∈ zWL := List.mem_filter.mpr ⟨List.mem_append_right _ (List.mem_append_right _ (List.mem_append_left _ (List.mem_of_getElem? (i := 205) rfl))), rfl⟩
theorem ct_J6_267 : Cond.constant "java/lang/Integer" 267 (252645135 : Int32) ∈ zWL := List.mem_filter.mpr ⟨List.mem_append_right _ (List.mem_append_right _ (List.mem_append_left _ (List.mem_of_getElem? (i := 206) rfl))), rfl⟩
theorem ml_X4_186 : Cond.methodLink "SubtitleSeats" 186 yX0_countFaulty ∈ zWL := List.mem_filter.mpr ⟨List.mem_append_right _ (List.mem_append_right _ (List.mem_append_left _ (List.mem_of_getElem? (i := 207) rfl))), rfl⟩
theorem im_X0_countFaulty : Cond.instanceMethod yX0_countFaulty ∈ zWL := List.mem_filter.mpr ⟨List.mem_append_right _ (List.mem_append_right _ (List.mem_append_left _ (List.mem_of_getElem? (i := 208) rfl))), rfl⟩
theorem se_X0_countFaulty : Cond.selects "SubtitleSeats$Film" yX0_countFaulty yX0_countFaulty ∈ zWL := List.mem_filter.mpr ⟨List.mem_append_right _ (List.mem_append_right _ (List.mem_append_left _ (List.mem_of_getElem? (i := 209) rfl))), rfl⟩
theorem cd_X0_countFaulty : Cond.code yX0_countFaulty prog_2_method_19_code 4 (some .int) ∈ zWL := List.mem_filter.mpr ⟨List.mem_append_right _ (List.mem_append_right _ (List.mem_append_left _ (List.mem_of_getElem? (i := 210) rfl))), rfl⟩
theorem ml_X0_111 : Cond.methodLink "SubtitleSeats$Film" 111 yX0_faultsOf ∈ zWL := List.mem_filter.mpr ⟨List.mem_append_right _ (List.mem_append_right _ (List.mem_append_left _ (List.mem_of_getElem? (i := 211) rfl))), rfl⟩
theorem ml_L_112 : Cond.methodLink "SubtitleSeatsLaw" 112 yX4_shown ∈ zWL := List.mem_filter.mpr ⟨List.mem_append_right _ (List.mem_append_right _ (List.mem_append_left _ (List.mem_of_getElem? (i := 212) rfl))), rfl⟩
theorem im_X4_shown : Cond.instanceMethod yX4_shown ∈ zWL := List.mem_filter.mpr ⟨List.mem_append_right _ (List.mem_append_right _ (List.mem_append_left _ (List.mem_of_getElem? (i := 213) rfl))), rfl⟩
theorem se_X4_shown : Cond.selects "SubtitleSeats" yX4_shown yX4_shown ∈ zWL := List.mem_filter.mpr ⟨List.mem_append_right _ (List.mem_append_right _ (List.mem_append_left _ (List.mem_of_getElem? (i := 214) rfl))), rfl⟩
theorem cd_X4_shown : Cond.code yX4_shown prog_1_method_26_code 1 (some .int) ∈ zWL := List.mem_filter.mpr ⟨List.mem_append_right _ (List.mem_append_right _ (List.mem_append_left _ (List.mem_of_getElem? (i := 215) rfl))), rfl⟩
theorem ml_X4_189 : Cond.methodLink "SubtitleSeats" 189 yX0_framesOfAll ∈ zWL := List.mem_filter.mpr ⟨List.mem_append_right _ (List.mem_append_right _ (List.mem_append_left _ (List.mem_of_getElem? (i := 216) rfl))), rfl⟩
theorem im_X0_framesOfAll : Cond.instanceMethod yX0_framesOfAll ∈ zWL := List.mem_filter.mpr ⟨List.mem_append_right _ (List.mem_append_right _ (List.mem_append_left _ (List.mem_of_getElem? (i := 217) rfl))), rfl⟩
theorem se_X0_framesOfAll : Cond.selects "SubtitleSeats$Film" yX0_framesOfAll yX0_framesOfAll ∈ zWL := List.mem_filter.mpr ⟨List.mem_append_right _ (List.mem_append_right _ (List.mem_append_left _ (List.mem_of_getElem? (i := 218) rfl))), rfl⟩
theorem cd_X0_framesOfAll : Cond.code yX0_framesOfAll prog_2_method_21_code 3 (some .int) ∈ zWL := List.mem_filter.mpr ⟨List.mem_append_right _ (List.mem_append_right _ (List.mem_append_left _ (List.mem_of_getElem? (i := 219) rfl))), rfl⟩
theorem ml_L_116 : Cond.methodLink "SubtitleSeatsLaw" 116 yX4_meanSpeed ∈ zWL := List.mem_filter.mpr ⟨List.mem_append_right _ (List.mem_append_right _ (List.mem_append_left _ (List.mem_of_getElem? (i := 220) rfl))), rfl⟩
theorem im_X4_meanSpeed : Cond.instanceMethod yX4_meanSpeed ∈ zWL := List.mem_filter.mpr ⟨List.mem_append_right _ (List.mem_append_right _ (List.mem_append_left _ (List.mem_of_getElem? (i := 221) rfl))), rfl⟩
theorem se_X4_meanSpeed : Cond.selects "SubtitleSeats" yX4_meanSpeed yX4_meanSpeed ∈ zWL := List.mem_filter.mpr ⟨List.mem_append_right _ (List.mem_append_right _ (List.mem_append_left _ (List.mem_of_getElem? (i := 222) rfl))), rfl⟩
theorem cd_X4_meanSpeed : Cond.code yX4_meanSpeed prog_1_method_27_code 2 (some .float) ∈ zWL := List.mem_filter.mpr ⟨List.mem_append_right _ (List.mem_append_right _ (List.mem_append_left _ (List.mem_of_getElem? (i := 223) rfl))), rfl⟩
theorem ml_X4_192 : Cond.methodLink "SubtitleSeats" 192 yX0_lengthOfAll ∈ zWL := List.mem_filter.mpr ⟨List.mem_append_right _ (List.mem_append_right _ (List.mem_append_left _ (List.mem_of_getElem? (i := 224) rfl))), rfl⟩
theorem im_X0_lengthOfAll : Cond.instanceMethod yX0_lengthOfAll ∈ zWL := List.mem_filter.mpr ⟨List.mem_append_right _ (List.mem_append_right _ (List.mem_append_left _ (List.mem_of_getElem? (i := 225) rfl))), rfl⟩
theorem se_X0_lengthOfAll : Cond.selects "SubtitleSeats$Film" yX0_lengthOfAll yX0_lengthOfAll ∈ zWL := List.mem_filter.mpr ⟨List.mem_append_right _ (List.mem_append_right _ (List.mem_append_left _ (List.mem_of_getElem? (i := 226) rfl))), rfl⟩
theorem cd_X0_lengthOfAll : Cond.code yX0_lengthOfAll prog_2_method_22_code 3 (some .int) ∈ zWL := List.mem_filter.mpr ⟨List.mem_append_right _ (List.mem_append_right _ (List.mem_append_left _ (List.mem_of_getElem? (i := 227) rfl))), rfl⟩
theorem ct_X4_195 : Cond.constantFloat "SubtitleSeats" 195 (1103626240 : UInt32) ∈ zWL := List.mem_filter.mpr ⟨List.mem_append_right _ (List.mem_append_right _ (List.mem_append_left _ (List.mem_of_getElem? (i := 228) rfl))), rfl⟩
theorem ml_L_121 : Cond.methodLink "SubtitleSeatsLaw" 121 yX4_unread ∈ zWL := List.mem_filter.mpr ⟨List.mem_append_right _ (List.mem_append_right _ (List.mem_append_left _ (List.mem_of_getElem? (i := 229) rfl))), rfl⟩
theorem im_X4_unread : Cond.instanceMethod yX4_unread ∈ zWL := List.mem_filter.mpr ⟨List.mem_append_right _ (List.mem_append_right _ (List.mem_append_left _ (List.mem_of_getElem? (i := 230) rfl))), rfl⟩
theorem se_X4_unread : Cond.selects "SubtitleSeats" yX4_unread yX4_unread ∈ zWL := List.mem_filter.mpr ⟨List.mem_append_right _ (List.mem_append_right _ (List.mem_append_left _ (List.mem_of_getElem? (i := 231) rfl))), rfl⟩
theorem cd_X4_unread : Cond.code yX4_unread prog_1_method_28_code 2 (some .int) ∈ zWL := List.mem_filter.mpr ⟨List.mem_append_right _ (List.mem_append_right _ (List.mem_append_left _ (List.mem_of_getElem? (i := 232) rfl))), rfl⟩
theorem ml_X4_196 : Cond.methodLink "SubtitleSeats" 196 yX0_countTooFastFor ∈ zWL := List.mem_filter.mpr ⟨List.mem_append_right _ (List.mem_append_right _ (List.mem_append_left _ (List.mem_of_getElem? (i := 233) rfl))), rfl⟩
theorem im_X0_countTooFastFor : Cond.instanceMethod yX0_countTooFastFor ∈ zWL := List.mem_filter.mpr ⟨List.mem_append_right _ (List.mem_append_right _ (List.mem_append_left _ (List.mem_of_getElem? (i := 234) rfl))), rfl⟩
theorem se_X0_countTooFastFor : Cond.selects "SubtitleSeats$Film" yX0_countTooFastFor yX0_countTooFastFor ∈ zWL := List.mem_filter.mpr ⟨List.mem_append_right _ (List.mem_append_right _ (List.mem_append_left _ (List.mem_of_getElem? (i := 235) rfl))), rfl⟩
theorem cd_X0_countTooFastFor : Cond.code yX0_countTooFastFor prog_2_method_20_code 4 (some .int) ∈ zWL := List.mem_filter.mpr ⟨List.mem_append_right _ (List.mem_append_right _ (List.mem_append_left _ (List.mem_of_getElem? (i := 236) rfl))), rfl⟩
theorem ml_L_125 : Cond.methodLink "SubtitleSeatsLaw" 125 yX4_leastPace ∈ zWL := List.mem_filter.mpr ⟨List.mem_append_right _ (List.mem_append_right _ (List.mem_append_left _ (List.mem_of_getElem? (i := 237) rfl))), rfl⟩
theorem im_X4_leastPace : Cond.instanceMethod yX4_leastPace ∈ zWL := List.mem_filter.mpr ⟨List.mem_append_right _ (List.mem_append_right _ (List.mem_append_left _ (List.mem_of_getElem? (i := 238) rfl))), rfl⟩
theorem se_X4_leastPace : Cond.selects "SubtitleSeats" yX4_leastPace yX4_leastPace ∈ zWL := List.mem_filter.mpr ⟨List.mem_append_right _ (List.mem_append_right _ (List.mem_append_left _ (List.mem_of_getElem? (i := 239) rfl))), rfl⟩
theorem cd_X4_leastPace : Cond.code yX4_leastPace prog_1_method_29_code 2 (some .int) ∈ zWL := List.mem_filter.mpr ⟨List.mem_append_right _ (List.mem_append_right _ (List.mem_append_right _ (List.mem_append_left _ (List.mem_of_getElem? (i := 0) rfl)))), rfl⟩
theorem ml_L_129 : Cond.methodLink "SubtitleSeatsLaw" 129 yX4_ifSeated ∈ zWL := List.mem_filter.mpr ⟨List.mem_append_right _ (List.mem_append_right _ (List.mem_append_right _ (List.mem_append_left _ (List.mem_of_getElem? (i := 1) rfl)))), rfl⟩
theorem im_X4_ifSeated : Cond.instanceMethod yX4_ifSeated ∈ zWL := List.mem_filter.mpr ⟨List.mem_append_right _ (List.mem_append_right _ (List.mem_append_right _ (List.mem_append_left _ (List.mem_of_getElem? (i := 2) rfl)))), rfl⟩
theorem se_X4_ifSeated : Cond.selects "SubtitleSeats" yX4_ifSeated yX4_ifSeated ∈ zWL := List.mem_filter.mpr ⟨List.mem_append_right _ (List.mem_append_right _ (List.mem_append_right _ (List.mem_append_left _ (List.mem_of_getElem? (i := 3) rfl)))), rfl⟩
theorem cd_X4_ifSeated : Cond.code yX4_ifSeated prog_1_method_30_code 3 (some .int) ∈ zWL := List.mem_filter.mpr ⟨List.mem_append_right _ (List.mem_append_right _ (List.mem_append_right _ (List.mem_append_left _ (List.mem_of_getElem? (i := 4) rfl)))), rfl⟩
theorem ml_X4_199 : Cond.methodLink "SubtitleSeats" 199 yX0_copyFrom ∈ zWL := List.mem_filter.mpr ⟨List.mem_append_right _ (List.mem_append_right _ (List.mem_append_right _ (List.mem_append_left _ (List.mem_of_getElem? (i := 5) rfl)))), rfl⟩
theorem ml_L_133 : Cond.methodLink "SubtitleSeatsLaw" 133 yX4_bestGap ∈ zWL := List.mem_filter.mpr ⟨List.mem_append_right _ (List.mem_append_right _ (List.mem_append_right _ (List.mem_append_left _ (List.mem_of_getElem? (i := 6) rfl)))), rfl⟩
theorem im_X4_bestGap : Cond.instanceMethod yX4_bestGap ∈ zWL := List.mem_filter.mpr ⟨List.mem_append_right _ (List.mem_append_right _ (List.mem_append_right _ (List.mem_append_left _ (List.mem_of_getElem? (i := 7) rfl)))), rfl⟩
theorem se_X4_bestGap : Cond.selects "SubtitleSeats" yX4_bestGap yX4_bestGap ∈ zWL := List.mem_filter.mpr ⟨List.mem_append_right _ (List.mem_append_right _ (List.mem_append_right _ (List.mem_append_left _ (List.mem_of_getElem? (i := 8) rfl)))), rfl⟩
theorem cd_X4_bestGap : Cond.code yX4_bestGap prog_1_method_31_code 5 (some .int) ∈ zWL := List.mem_filter.mpr ⟨List.mem_append_right _ (List.mem_append_right _ (List.mem_append_right _ (List.mem_append_left _ (List.mem_of_getElem? (i := 9) rfl)))), rfl⟩
theorem ml_X4_202 : Cond.methodLink "SubtitleSeats" 202 yX0_copyTimesFrom ∈ zWL := List.mem_filter.mpr ⟨List.mem_append_right _ (List.mem_append_right _ (List.mem_append_right _ (List.mem_append_left _ (List.mem_of_getElem? (i := 10) rfl)))), rfl⟩
theorem im_X0_copyTimesFrom : Cond.instanceMethod yX0_copyTimesFrom ∈ zWL := List.mem_filter.mpr ⟨List.mem_append_right _ (List.mem_append_right _ (List.mem_append_right _ (List.mem_append_left _ (List.mem_of_getElem? (i := 11) rfl)))), rfl⟩
theorem se_X0_copyTimesFrom : Cond.selects "SubtitleSeats$Film" yX0_copyTimesFrom yX0_copyTimesFrom ∈ zWL := List.mem_filter.mpr ⟨List.mem_append_right _ (List.mem_append_right _ (List.mem_append_right _ (List.mem_append_left _ (List.mem_of_getElem? (i := 12) rfl)))), rfl⟩
theorem cd_X0_copyTimesFrom : Cond.code yX0_copyTimesFrom prog_2_method_3_code 3 none ∈ zWL := List.mem_filter.mpr ⟨List.mem_append_right _ (List.mem_append_right _ (List.mem_append_right _ (List.mem_append_left _ (List.mem_of_getElem? (i := 13) rfl)))), rfl⟩
theorem cl_L_10 : Cond.classLink "SubtitleSeatsLaw" 10 "SubtitleSeatsModel" ∈ zWL := List.mem_filter.mpr ⟨List.mem_append_right _ (List.mem_append_right _ (List.mem_append_right _ (List.mem_append_left _ (List.mem_of_getElem? (i := 14) rfl)))), rfl⟩
theorem in_X5 : Cond.instantiable "SubtitleSeatsModel" 16 ∈ zWL := List.mem_filter.mpr ⟨List.mem_append_right _ (List.mem_append_right _ (List.mem_append_right _ (List.mem_append_left _ (List.mem_of_getElem? (i := 15) rfl)))), rfl⟩
theorem ml_L_12 : Cond.methodLink "SubtitleSeatsLaw" 12 yX5_init ∈ zWL := List.mem_filter.mpr ⟨List.mem_append_right _ (List.mem_append_right _ (List.mem_append_right _ (List.mem_append_left _ (List.mem_of_getElem? (i := 16) rfl)))), rfl⟩
theorem im_X5_init : Cond.instanceMethod yX5_init ∈ zWL := List.mem_filter.mpr ⟨List.mem_append_right _ (List.mem_append_right _ (List.mem_append_right _ (List.mem_append_left _ (List.mem_of_getElem? (i := 17) rfl)))), rfl⟩
theorem cd_X5_init : Cond.code yX5_init prog_7_method_1_code 1 none ∈ zWL := List.mem_filter.mpr ⟨List.mem_append_right _ (List.mem_append_right _ (List.mem_append_right _ (List.mem_append_left _ (List.mem_of_getElem? (i := 18) rfl)))), rfl⟩
theorem ml_X5_1 : Cond.methodLink "SubtitleSeatsModel" 1 ⟨"java/lang/Object", "<init>", "()V"⟩ ∈ zWL := List.mem_filter.mpr ⟨List.mem_append_right _ (List.mem_append_right _ (List.mem_append_right _ (List.mem_append_left _ (List.mem_of_getElem? (i := 19) rfl)))), rfl⟩
theorem fl_X5_7 : Cond.fieldLink "SubtitleSeatsModel" 7 "SubtitleSeatsModel" "s" "[I" ∈ zWL := List.mem_filter.mpr ⟨List.mem_append_right _ (List.mem_append_right _ (List.mem_append_right _ (List.mem_append_left _ (List.mem_of_getElem? (i := 20) rfl)))), rfl⟩
theorem fl_X5_13 : Cond.fieldLink "SubtitleSeatsModel" 13 "SubtitleSeatsModel" "aside" "[I" ∈ zWL := List.mem_filter.mpr ⟨List.mem_append_right _ (List.mem_append_right _ (List.mem_append_right _ (List.mem_append_left _ (List.mem_of_getElem? (i := 21) rfl)))), rfl⟩
theorem fl_X5_16 : Cond.fieldLink "SubtitleSeatsModel" 16 "SubtitleSeatsModel" "before" "[I" ∈ zWL := List.mem_filter.mpr ⟨List.mem_append_right _ (List.mem_append_right _ (List.mem_append_right _ (List.mem_append_left _ (List.mem_of_getElem? (i := 22) rfl)))), rfl⟩
theorem fl_X5_19 : Cond.fieldLink "SubtitleSeatsModel" 19 "SubtitleSeatsModel" "past" "[I" ∈ zWL := List.mem_filter.mpr ⟨List.mem_append_right _ (List.mem_append_right _ (List.mem_append_right _ (List.mem_append_left _ (List.mem_of_getElem? (i := 23) rfl)))), rfl⟩
theorem fl_X5_35 : Cond.fieldLink "SubtitleSeatsModel" 35 "SubtitleSeatsModel" "known" "I" ∈ zWL := List.mem_filter.mpr ⟨List.mem_append_right _ (List.mem_append_right _ (List.mem_append_right _ (List.mem_append_left _ (List.mem_of_getElem? (i := 24) rfl)))), rfl⟩
theorem fl_X5_22 : Cond.fieldLink "SubtitleSeatsModel" 22 "SubtitleSeatsModel" "script" "[I" ∈ zWL := List.mem_filter.mpr ⟨List.mem_append_right _ (List.mem_append_right _ (List.mem_append_right _ (List.mem_append_left _ (List.mem_of_getElem? (i := 25) rfl)))), rfl⟩
theorem fl_X5_98 : Cond.fieldLink "SubtitleSeatsModel" 98 "SubtitleSeatsModel" "length" "I" ∈ zWL := List.mem_filter.mpr ⟨List.mem_append_right _ (List.mem_append_right _ (List.mem_append_right _ (List.mem_append_left _ (List.mem_of_getElem? (i := 26) rfl)))), rfl⟩
theorem fl_X5_25 : Cond.fieldLink "SubtitleSeatsModel" 25 "SubtitleSeatsModel" "lines" "[I" ∈ zWL := List.mem_filter.mpr ⟨List.mem_append_right _ (List.mem_append_right _ (List.mem_append_right _ (List.mem_append_left _ (List.mem_of_getElem? (i := 27) rfl)))), rfl⟩
theorem fl_X5_101 : Cond.fieldLink "SubtitleSeatsModel" 101 "SubtitleSeatsModel" "spot" "I" ∈ zWL := List.mem_filter.mpr ⟨List.mem_append_right _ (List.mem_append_right _ (List.mem_append_right _ (List.mem_append_left _ (List.mem_of_getElem? (i := 28) rfl)))), rfl⟩
theorem fl_X5_122 : Cond.fieldLink "SubtitleSeatsModel" 122 "SubtitleSeatsModel" "entry" "I" ∈ zWL := List.mem_filter.mpr ⟨List.mem_append_right _ (List.mem_append_right _ (List.mem_append_right _ (List.mem_append_left _ (List.mem_of_getElem? (i := 29) rfl)))), rfl⟩
theorem fl_X5_104 : Cond.fieldLink "SubtitleSeatsModel" 104 "SubtitleSeatsModel" "isForm" "Z" ∈ zWL := List.mem_filter.mpr ⟨List.mem_append_right _ (List.mem_append_right _ (List.mem_append_right _ (List.mem_append_left _ (List.mem_of_getElem? (i := 30) rfl)))), rfl⟩
theorem fl_X5_128 : Cond.fieldLink "SubtitleSeatsModel" 128 "SubtitleSeatsModel" "first" "I" ∈ zWL := List.mem_filter.mpr ⟨List.mem_append_right _ (List.mem_append_right _ (List.mem_append_right _ (List.mem_append_left _ (List.mem_of_getElem? (i := 31) rfl)))), rfl⟩
theorem fl_X5_131 : Cond.fieldLink "SubtitleSeatsModel" 131 "SubtitleSeatsModel" "second" "I" ∈ zWL := List.mem_filter.mpr ⟨List.mem_append_right _ (List.mem_append_right _ (List.mem_append_right _ (List.mem_append_left _ (List.mem_of_getElem? (i := 32) rfl)))), rfl⟩
theorem fl_X5_116 : Cond.fieldLink "SubtitleSeatsModel" 116 "SubtitleSeatsModel" "letters" "I" ∈ zWL := List.mem_filter.mpr ⟨List.mem_append_right _ (List.mem_append_right _ (List.mem_append_right _ (List.mem_append_left _ (List.mem_of_getElem? (i := 33) rfl)))), rfl⟩
theorem fl_X5_150 : Cond.fieldLink "SubtitleSeatsModel" 150 "SubtitleSeatsModel" "isStopped" "Z" ∈ zWL := List.mem_filter.mpr ⟨List.mem_append_right _ (List.mem_append_right _ (List.mem_append_right _ (List.mem_append_left _ (List.mem_of_getElem? (i := 34) rfl)))), rfl⟩
theorem fl_X5_28 : Cond.fieldLink "SubtitleSeatsModel" 28 "SubtitleSeatsModel" "report" "[I" ∈ zWL := List.mem_filter.mpr ⟨List.mem_append_right _ (List.mem_append_right _ (List.mem_append_right _ (List.mem_append_left _ (List.mem_of_getElem? (i := 35) rfl)))), rfl⟩
theorem ml_L_17 : Cond.methodLink "SubtitleSeatsLaw" 17 yX5_append ∈ zWL := List.mem_filter.mpr ⟨List.mem_append_right _ (List.mem_append_right _ (List.mem_append_right _ (List.mem_append_left _ (List.mem_of_getElem? (i := 69) rfl)))), rfl⟩
theorem im_X5_append : Cond.instanceMethod yX5_append ∈ zWL := List.mem_filter.mpr ⟨List.mem_append_right _ (List.mem_append_right _ (List.mem_append_right _ (List.mem_append_left _ (List.mem_of_getElem? (i := 70) rfl)))), rfl⟩
theorem se_X5_append : Cond.selects "SubtitleSeatsModel" yX5_append yX5_append ∈ zWL := List.mem_filter.mpr ⟨List.mem_append_right _ (List.mem_append_right _ (List.mem_append_right _ (List.mem_append_left _ (List.mem_of_getElem? (i := 71) rfl)))), rfl⟩
theorem cd_X5_append : Cond.code yX5_append prog_7_method_29_code 2 (some .int) ∈ zWL := List.mem_filter.mpr ⟨List.mem_append_right _ (List.mem_append_right _ (List.mem_append_right _ (List.mem_append_left _ (List.mem_of_getElem? (i := 72) rfl)))), rfl⟩
theorem ml_X5_39 : Cond.methodLink "SubtitleSeatsModel" 39 yX5_in ∈ zWL := List.mem_filter.mpr ⟨List.mem_append_right _ (List.mem_append_right _ (List.mem_append_right _ (List.mem_append_left _ (List.mem_of_getElem? (i := 73) rfl)))), rfl⟩
theorem sc_X5_in : Cond.static yX5_in ∈ zWL := List.mem_filter.mpr ⟨List.mem_append_right _ (List.mem_append_right _ (List.mem_append_right _ (List.mem_append_left _ (List.mem_of_getElem? (i := 74) rfl)))), rfl⟩
theorem cd_X5_in : Cond.code yX5_in prog_7_method_3_code 3 (some .boolean) ∈ zWL := List.mem_filter.mpr ⟨List.mem_append_right _ (List.mem_append_right _ (List.mem_append_right _ (List.mem_append_left _ (List.mem_of_getElem? (i := 75) rfl)))), rfl⟩
theorem ml_L_22 : Cond.methodLink "SubtitleSeatsLaw" 22 yX5_clearScript ∈ zWL := List.mem_filter.mpr ⟨List.mem_append_right _ (List.mem_append_right _ (List.mem_append_right _ (List.mem_append_left _ (List.mem_of_getElem? (i := 76) rfl)))), rfl⟩
theorem im_X5_clearScript : Cond.instanceMethod yX5_clearScript ∈ zWL := List.mem_filter.mpr ⟨List.mem_append_right _ (List.mem_append_right _ (List.mem_append_right _ (List.mem_append_left _ (List.mem_of_getElem? (i := 77) rfl)))), rfl⟩
theorem se_X5_clearScript : Cond.selects "SubtitleSeatsModel" yX5_clearScript yX5_clearScript ∈ zWL := List.mem_filter.mpr ⟨List.mem_append_right _ (List.mem_append_right _ (List.mem_append_right _ (List.mem_append_left _ (List.mem_of_getElem? (i := 78) rfl)))), rfl⟩
theorem cd_X5_clearScript : Cond.code yX5_clearScript prog_7_method_30_code 2 (some .int) ∈ zWL := List.mem_filter.mpr ⟨List.mem_append_right _ (List.mem_append_right _ (List.mem_append_right _ (List.mem_append_left _ (List.mem_of_getElem? (i := 79) rfl)))), rfl⟩
theorem ml_L_26 : Cond.methodLink "SubtitleSeatsLaw" 26 yX5_fault ∈ zWL := List.mem_filter.mpr ⟨List.mem_append_right _ (List.mem_append_right _ (List.mem_append_right _ (List.mem_append_left _ (List.mem_of_getElem? (i := 80) rfl)))), rfl⟩
theorem im_X5_fault : Cond.instanceMethod yX5_fault ∈ zWL := List.mem_filter.mpr ⟨List.mem_append_right _ (List.mem_append_right _ (List.mem_append_right _ (List.mem_append_left _ (List.mem_of_getElem? (i := 81) rfl)))), rfl⟩
theorem se_X5_fault : Cond.selects "SubtitleSeatsModel" yX5_fault yX5_fault ∈ zWL := List.mem_filter.mpr ⟨List.mem_append_right _ (List.mem_append_right _ (List.mem_append_right _ (List.mem_append_left _ (List.mem_of_getElem? (i := 82) rfl)))), rfl⟩
theorem cd_X5_fault : Cond.code yX5_fault prog_7_method_38_code 1 (some .int) ∈ zWL := List.mem_filter.mpr ⟨List.mem_append_right _ (List.mem_append_right _ (List.mem_append_right _ (List.mem_append_left _ (List.mem_of_getElem? (i := 83) rfl)))), rfl⟩
theorem ml_X5_140 : Cond.methodLink "SubtitleSeatsModel" 140 yX5_isScript ∈ zWL := List.mem_filter.mpr ⟨List.mem_append_right _ (List.mem_append_right _ (List.mem_append_right _ (List.mem_append_left _ (List.mem_of_getElem? (i := 84) rfl)))), rfl⟩
theorem im_X5_isScript : Cond.instanceMethod yX5_isScript ∈ zWL := List.mem_filter.mpr ⟨List.mem_append_right _ (List.mem_append_right _ (List.mem_append_right _ (List.mem_append_left _ (List.mem_of_getElem? (i := 86) rfl)))), rfl⟩
theorem cd_X5_isScript : Cond.code yX5_isScript prog_7_method_37_code 1 (some .boolean) ∈ zWL := List.mem_filter.mpr ⟨List.mem_append_right _ (List.mem_append_right _ (List.mem_append_right _ (List.mem_append_left _ (List.mem_of_getElem? (i := 87) rfl)))), rfl⟩
theorem ml_X5_137 : Cond.methodLink "SubtitleSeatsModel" 137 yX5_takesEntry ∈ zWL := List.mem_filter.mpr ⟨List.mem_append_right _ (List.mem_append_right _ (List.mem_append_right _ (List.mem_append_left _ (List.mem_of_getElem? (i := 88) rfl)))), rfl⟩
theorem im_X5_takesEntry : Cond.instanceMethod yX5_takesEntry ∈ zWL := List.mem_filter.mpr ⟨List.mem_append_right _ (List.mem_append_right _ (List.mem_append_right _ (List.mem_append_left _ (List.mem_of_getElem? (i := 90) rfl)))), rfl⟩
theorem cd_X5_takesEntry : Cond.code yX5_takesEntry prog_7_method_36_code 1 none ∈ zWL := List.mem_filter.mpr ⟨List.mem_append_right _ (List.mem_append_right _ (List.mem_append_right _ (List.mem_append_left _ (List.mem_of_getElem? (i := 91) rfl)))), rfl⟩
theorem ml_X5_125 : Cond.methodLink "SubtitleSeatsModel" 125 yX5_takesNumber ∈ zWL := List.mem_filter.mpr ⟨List.mem_append_right _ (List.mem_append_right _ (List.mem_append_right _ (List.mem_append_left _ (List.mem_of_getElem? (i := 92) rfl)))), rfl⟩
theorem im_X5_takesNumber : Cond.instanceMethod yX5_takesNumber ∈ zWL := List.mem_filter.mpr ⟨List.mem_append_right _ (List.mem_append_right _ (List.mem_append_right _ (List.mem_append_left _ (List.mem_of_getElem? (i := 94) rfl)))), rfl⟩
theorem cd_X5_takesNumber : Cond.code yX5_takesNumber prog_7_method_33_code 2 (some .int) ∈ zWL := List.mem_filter.mpr ⟨List.mem_append_right _ (List.mem_append_right _ (List.mem_append_right _ (List.mem_append_left _ (List.mem_of_getElem? (i := 95) rfl)))), rfl⟩
theorem ml_X5_108 : Cond.methodLink "SubtitleSeatsModel" 108 yX5_here ∈ zWL := List.mem_filter.mpr ⟨List.mem_append_right _ (List.mem_append_right _ (List.mem_append_right _ (List.mem_append_left _ (List.mem_of_getElem? (i := 96) rfl)))), rfl⟩
theorem im_X5_here : Cond.instanceMethod yX5_here ∈ zWL := List.mem_filter.mpr ⟨List.mem_append_right _ (List.mem_append_right _ (List.mem_append_right _ (List.mem_append_left _ (List.mem_of_getElem? (i := 98) rfl)))), rfl⟩
theorem cd_X5_here : Cond.code yX5_here prog_7_method_31_code 1 (some .int) ∈ zWL := List.mem_filter.mpr ⟨List.mem_append_right _ (List.mem_append_right _ (List.mem_append_right _ (List.mem_append_left _ (List.mem_of_getElem? (i := 99) rfl)))), rfl⟩
theorem ml_X5_112 : Cond.methodLink "SubtitleSeatsModel" 112 yX5_takes ∈ zWL := List.mem_filter.mpr ⟨List.mem_append_right _ (List.mem_append_right _ (List.mem_append_right _ (List.mem_append_left _ (List.mem_of_getElem? (i := 100) rfl)))), rfl⟩
theorem im_X5_takes : Cond.instanceMethod yX5_takes ∈ zWL := List.mem_filter.mpr ⟨List.mem_append_right _ (List.mem_append_right _ (List.mem_append_right _ (List.mem_append_left _ (List.mem_of_getElem? (i := 102) rfl)))), rfl⟩
theorem cd_X5_takes : Cond.code yX5_takes prog_7_method_32_code 2 none ∈ zWL := List.mem_filter.mpr ⟨List.mem_append_right _ (List.mem_append_right _ (List.mem_append_right _ (List.mem_append_left _ (List.mem_of_getElem? (i := 103) rfl)))), rfl⟩
theorem ml_X5_134 : Cond.methodLink "SubtitleSeatsModel" 134 yX5_takesText ∈ zWL := List.mem_filter.mpr ⟨List.mem_append_right _ (List.mem_append_right _ (List.mem_append_right _ (List.mem_append_left _ (List.mem_of_getElem? (i := 104) rfl)))), rfl⟩
theorem im_X5_takesText : Cond.instanceMethod yX5_takesText ∈ zWL := List.mem_filter.mpr ⟨List.mem_append_right _ (List.mem_append_right _ (List.mem_append_right _ (List.mem_append_left _ (List.mem_of_getElem? (i := 106) rfl)))), rfl⟩
theorem cd_X5_takesText : Cond.code yX5_takesText prog_7_method_35_code 5 none ∈ zWL := List.mem_filter.mpr ⟨List.mem_append_right _ (List.mem_append_right _ (List.mem_append_right _ (List.mem_append_left _ (List.mem_of_getElem? (i := 107) rfl)))), rfl⟩
theorem ml_X5_119 : Cond.methodLink "SubtitleSeatsModel" 119 yX5_isLetter ∈ zWL := List.mem_filter.mpr ⟨List.mem_append_right _ (List.mem_append_right _ (List.mem_append_right _ (List.mem_append_left _ (List.mem_of_getElem? (i := 108) rfl)))), rfl⟩
theorem sc_X5_isLetter : Cond.static yX5_isLetter ∈ zWL := List.mem_filter.mpr ⟨List.mem_append_right _ (List.mem_append_right _ (List.mem_append_right _ (List.mem_append_left _ (List.mem_of_getElem? (i := 109) rfl)))), rfl⟩
theorem cd_X5_isLetter : Cond.code yX5_isLetter prog_7_method_34_code 1 (some .boolean) ∈ zWL := List.mem_filter.mpr ⟨List.mem_append_right _ (List.mem_append_right _ (List.mem_append_right _ (List.mem_append_left _ (List.mem_of_getElem? (i := 110) rfl)))), rfl⟩
theorem ml_L_30 : Cond.methodLink "SubtitleSeatsLaw" 30 yX5_load ∈ zWL := List.mem_filter.mpr ⟨List.mem_append_right _ (List.mem_append_right _ (List.mem_append_right _ (List.mem_append_left _ (List.mem_of_getElem? (i := 111) rfl)))), rfl⟩
theorem im_X5_load : Cond.instanceMethod yX5_load ∈ zWL := List.mem_filter.mpr ⟨List.mem_append_right _ (List.mem_append_right _ (List.mem_append_right _ (List.mem_append_left _ (List.mem_of_getElem? (i := 112) rfl)))), rfl⟩
theorem se_X5_load : Cond.selects "SubtitleSeatsModel" yX5_load yX5_load ∈ zWL := List.mem_filter.mpr ⟨List.mem_append_right _ (List.mem_append_right _ (List.mem_append_right _ (List.mem_append_left _ (List.mem_of_getElem? (i := 113) rfl)))), rfl⟩
theorem cd_X5_load : Cond.code yX5_load prog_7_method_41_code 3 (some .int) ∈ zWL := List.mem_filter.mpr ⟨List.mem_append_right _ (List.mem_append_right _ (List.mem_append_right _ (List.mem_append_left _ (List.mem_of_getElem? (i := 114) rfl)))), rfl⟩
theorem ml_X5_147 : Cond.methodLink "SubtitleSeatsModel" 147 yX5_begins ∈ zWL := List.mem_filter.mpr ⟨List.mem_append_right _ (List.mem_append_right _ (List.mem_append_right _ (List.mem_append_left _ (List.mem_of_getElem? (i := 115) rfl)))), rfl⟩
theorem im_X5_begins : Cond.instanceMethod yX5_begins ∈ zWL := List.mem_filter.mpr ⟨List.mem_append_right _ (List.mem_append_right _ (List.mem_append_right _ (List.mem_append_left _ (List.mem_of_getElem? (i := 117) rfl)))), rfl⟩
theorem cd_X5_begins : Cond.code yX5_begins prog_7_method_5_code 1 none ∈ zWL := List.mem_filter.mpr ⟨List.mem_append_right _ (List.mem_append_right _ (List.mem_append_right _ (List.mem_append_left _ (List.mem_of_getElem? (i := 118) rfl)))), rfl⟩
theorem ml_X5_31 : Cond.methodLink "SubtitleSeatsModel" 31 yX5_copies ∈ zWL := List.mem_filter.mpr ⟨List.mem_append_right _ (List.mem_append_right _ (List.mem_append_right _ (List.mem_append_left _ (List.mem_of_getElem? (i := 119) rfl)))), rfl⟩
theorem sc_X5_copies : Cond.static yX5_copies ∈ zWL := List.mem_filter.mpr ⟨List.mem_append_right _ (List.mem_append_right _ (List.mem_append_right _ (List.mem_append_left _ (List.mem_of_getElem? (i := 120) rfl)))), rfl⟩
theorem cd_X5_copies : Cond.code yX5_copies prog_7_method_4_code 5 none ∈ zWL := List.mem_filter.mpr ⟨List.mem_append_right _ (List.mem_append_right _ (List.mem_append_right _ (List.mem_append_left _ (List.mem_of_getElem? (i := 121) rfl)))), rfl⟩
theorem ml_X5_153 : Cond.methodLink "SubtitleSeatsModel" 153 yX5_reasonNow ∈ zWL := List.mem_filter.mpr ⟨List.mem_append_right _ (List.mem_append_right _ (List.mem_append_right _ (List.mem_append_left _ (List.mem_of_getElem? (i := 122) rfl)))), rfl⟩
theorem im_X5_reasonNow : Cond.instanceMethod yX5_reasonNow ∈ zWL := List.mem_filter.mpr ⟨List.mem_append_right _ (List.mem_append_right _ (List.mem_append_right _ (List.mem_append_left _ (List.mem_of_getElem? (i := 124) rfl)))), rfl⟩
theorem cd_X5_reasonNow : Cond.code yX5_reasonNow prog_7_method_39_code 3 (some .int) ∈ zWL := List.mem_filter.mpr ⟨List.mem_append_right _ (List.mem_append_right _ (List.mem_append_right _ (List.mem_append_left _ (List.mem_of_getElem? (i := 125) rfl)))), rfl⟩
theorem ml_X5_43 : Cond.methodLink "SubtitleSeatsModel" 43 yX5_of ∈ zWL := List.mem_filter.mpr ⟨List.mem_append_right _ (List.mem_append_right _ (List.mem_append_right _ (List.mem_append_left _ (List.mem_of_getElem? (i := 126) rfl)))), rfl⟩
theorem im_X5_of : Cond.instanceMethod yX5_of ∈ zWL := List.mem_filter.mpr ⟨List.mem_append_right _ (List.mem_append_right _ (List.mem_append_right _ (List.mem_append_left _ (List.mem_of_getElem? (i := 128) rfl)))), rfl⟩
theorem cd_X5_of : Cond.code yX5_of prog_7_method_8_code 3 (some .int) ∈ zWL := List.mem_filter.mpr ⟨List.mem_append_right _ (List.mem_append_right _ (List.mem_append_right _ (List.mem_append_left _ (List.mem_of_getElem? (i := 129) rfl)))), rfl⟩
theorem ml_X5_156 : Cond.methodLink "SubtitleSeatsModel" 156 yX5_addsEntry ∈ zWL := List.mem_filter.mpr ⟨List.mem_append_right _ (List.mem_append_right _ (List.mem_append_right _ (List.mem_append_left _ (List.mem_of_getElem? (i := 130) rfl)))), rfl⟩
theorem im_X5_addsEntry : Cond.instanceMethod yX5_addsEntry ∈ zWL := List.mem_filter.mpr ⟨List.mem_append_right _ (List.mem_append_right _ (List.mem_append_right _ (List.mem_append_left _ (List.mem_of_getElem? (i := 132) rfl)))), rfl⟩
theorem cd_X5_addsEntry : Cond.code yX5_addsEntry prog_7_method_40_code 3 none ∈ zWL := List.mem_filter.mpr ⟨List.mem_append_right _ (List.mem_append_right _ (List.mem_append_right _ (List.mem_append_left _ (List.mem_of_getElem? (i := 133) rfl)))), rfl⟩
theorem ml_X5_144 : Cond.methodLink "SubtitleSeatsModel" 144 yX5_opens ∈ zWL := List.mem_filter.mpr ⟨List.mem_append_right _ (List.mem_append_right _ (List.mem_append_right _ (List.mem_append_left _ (List.mem_of_getElem? (i := 134) rfl)))), rfl⟩
theorem im_X5_opens : Cond.instanceMethod yX5_opens ∈ zWL := List.mem_filter.mpr ⟨List.mem_append_right _ (List.mem_append_right _ (List.mem_append_right _ (List.mem_append_left _ (List.mem_of_getElem? (i := 136) rfl)))), rfl⟩
theorem cd_X5_opens : Cond.code yX5_opens prog_7_method_15_code 3 none ∈ zWL := List.mem_filter.mpr ⟨List.mem_append_right _ (List.mem_append_right _ (List.mem_append_right _ (List.mem_append_left _ (List.mem_of_getElem? (i := 137) rfl)))), rfl⟩
theorem ml_X5_55 : Cond.methodLink "SubtitleSeatsModel" 55 yX5_moves ∈ zWL := List.mem_filter.mpr ⟨List.mem_append_right _ (List.mem_append_right _ (List.mem_append_right _ (List.mem_append_left _ (List.mem_of_getElem? (i := 138) rfl)))), rfl⟩
theorem im_X5_moves : Cond.instanceMethod yX5_moves ∈ zWL := List.mem_filter.mpr ⟨List.mem_append_right _ (List.mem_append_right _ (List.mem_append_right _ (List.mem_append_left _ (List.mem_of_getElem? (i := 140) rfl)))), rfl⟩
theorem cd_X5_moves : Cond.code yX5_moves prog_7_method_14_code 4 none ∈ zWL := List.mem_filter.mpr ⟨List.mem_append_right _ (List.mem_append_right _ (List.mem_append_right _ (List.mem_append_left _ (List.mem_of_getElem? (i := 141) rfl)))), rfl⟩
theorem ml_X5_51 : Cond.methodLink "SubtitleSeatsModel" 51 yX5_lays ∈ zWL := List.mem_filter.mpr ⟨List.mem_append_right _ (List.mem_append_right _ (List.mem_append_right _ (List.mem_append_left _ (List.mem_of_getElem? (i := 142) rfl)))), rfl⟩
theorem im_X5_lays : Cond.instanceMethod yX5_lays ∈ zWL := List.mem_filter.mpr ⟨List.mem_append_right _ (List.mem_append_right _ (List.mem_append_right _ (List.mem_append_left _ (List.mem_of_getElem? (i := 144) rfl)))), rfl⟩
theorem cd_X5_lays : Cond.code yX5_lays prog_7_method_9_code 4 none ∈ zWL := List.mem_filter.mpr ⟨List.mem_append_right _ (List.mem_append_right _ (List.mem_append_right _ (List.mem_append_left _ (List.mem_of_getElem? (i := 145) rfl)))), rfl⟩
theorem ml_X5_159 : Cond.methodLink "SubtitleSeatsModel" 159 yX5_records ∈ zWL := List.mem_filter.mpr ⟨List.mem_append_right _ (List.mem_append_right _ (List.mem_append_right _ (List.mem_append_left _ (List.mem_of_getElem? (i := 146) rfl)))), rfl⟩
theorem im_X5_records : Cond.instanceMethod yX5_records ∈ zWL := List.mem_filter.mpr ⟨List.mem_append_right _ (List.mem_append_right _ (List.mem_append_right _ (List.mem_append_left _ (List.mem_of_getElem? (i := 148) rfl)))), rfl⟩
theorem cd_X5_records : Cond.code yX5_records prog_7_method_6_code 3 (some .int) ∈ zWL := List.mem_filter.mpr ⟨List.mem_append_right _ (List.mem_append_right _ (List.mem_append_right _ (List.mem_append_left _ (List.mem_of_getElem? (i := 149) rfl)))), rfl⟩
theorem ml_L_34 : Cond.methodLink "SubtitleSeatsLaw" 34 yX5_why ∈ zWL := List.mem_filter.mpr ⟨List.mem_append_right _ (List.mem_append_right _ (List.mem_append_right _ (List.mem_append_left _ (List.mem_of_getElem? (i := 150) rfl)))), rfl⟩
theorem im_X5_why : Cond.instanceMethod yX5_why ∈ zWL := List.mem_filter.mpr ⟨List.mem_append_right _ (List.mem_append_right _ (List.mem_append_right _ (List.mem_append_left _ (List.mem_of_getElem? (i := 151) rfl)))), rfl⟩
theorem se_X5_why : Cond.selects "SubtitleSeatsModel" yX5_why yX5_why ∈ zWL := List.mem_filter.mpr ⟨List.mem_append_right _ (List.mem_append_right _ (List.mem_append_right _ (List.mem_append_left _ (List.mem_of_getElem? (i := 152) rfl)))), rfl⟩
theorem cd_X5_why : Cond.code yX5_why prog_7_method_42_code 2 (some .int) ∈ zWL := List.mem_filter.mpr ⟨List.mem_append_right _ (List.mem_append_right _ (List.mem_append_right _ (List.mem_append_left _ (List.mem_of_getElem? (i := 153) rfl)))), rfl⟩
theorem ml_L_38 : Cond.methodLink "SubtitleSeatsLaw" 38 yX5_undo ∈ zWL := List.mem_filter.mpr ⟨List.mem_append_right _ (List.mem_append_right _ (List.mem_append_right _ (List.mem_append_left _ (List.mem_of_getElem? (i := 154) rfl)))), rfl⟩
theorem im_X5_undo : Cond.instanceMethod yX5_undo ∈ zWL := List.mem_filter.mpr ⟨List.mem_append_right _ (List.mem_append_right _ (List.mem_append_right _ (List.mem_append_left _ (List.mem_of_getElem? (i := 155) rfl)))), rfl⟩
theorem se_X5_undo : Cond.selects "SubtitleSeatsModel" yX5_undo yX5_undo ∈ zWL := List.mem_filter.mpr ⟨List.mem_append_right _ (List.mem_append_right _ (List.mem_append_right _ (List.mem_append_left _ (List.mem_of_getElem? (i := 156) rfl)))), rfl⟩
theorem cd_X5_undo : Cond.code yX5_undo prog_7_method_43_code 1 (some .int) ∈ zWL := List.mem_filter.mpr ⟨List.mem_append_right _ (List.mem_append_right _ (List.mem_append_right _ (List.mem_append_left _ (List.mem_of_getElem? (i := 157) rfl)))), rfl⟩
theorem ml_L_42 : Cond.methodLink "SubtitleSeatsLaw" 42 yX5_remove ∈ zWL := List.mem_filter.mpr ⟨List.mem_append_right _ (List.mem_append_right _ (List.mem_append_right _ (List.mem_append_left _ (List.mem_of_getElem? (i := 158) rfl)))), rfl⟩
theorem im_X5_remove : Cond.instanceMethod yX5_remove ∈ zWL := List.mem_filter.mpr ⟨List.mem_append_right _ (List.mem_append_right _ (List.mem_append_right _ (List.mem_append_left _ (List.mem_of_getElem? (i := 159) rfl)))), rfl⟩
theorem se_X5_remove : Cond.selects "SubtitleSeatsModel" yX5_remove yX5_remove ∈ zWL := List.mem_filter.mpr ⟨List.mem_append_right _ (List.mem_append_right _ (List.mem_append_right _ (List.mem_append_left _ (List.mem_of_getElem? (i := 160) rfl)))), rfl⟩
theorem cd_X5_remove : Cond.code yX5_remove prog_7_method_44_code 2 (some .int) ∈ zWL := List.mem_filter.mpr ⟨List.mem_append_right _ (List.mem_append_right _ (List.mem_append_right _ (List.mem_append_left _ (List.mem_of_getElem? (i := 161) rfl)))), rfl⟩
theorem ml_X5_162 : Cond.methodLink "SubtitleSeatsModel" 162 yX5_isSubtitle ∈ zWL := List.mem_filter.mpr ⟨List.mem_append_right _ (List.mem_append_right _ (List.mem_append_right _ (List.mem_append_left _ (List.mem_of_getElem? (i := 162) rfl)))), rfl⟩
theorem im_X5_isSubtitle : Cond.instanceMethod yX5_isSubtitle ∈ zWL := List.mem_filter.mpr ⟨List.mem_append_right _ (List.mem_append_right _ (List.mem_append_right _ (List.mem_append_left _ (List.mem_of_getElem? (i := 164) rfl)))), rfl⟩
theorem cd_X5_isSubtitle : Cond.code yX5_isSubtitle prog_7_method_7_code 2 (some .boolean) ∈ zWL := List.mem_filter.mpr ⟨List.mem_append_right _ (List.mem_append_right _ (List.mem_append_right _ (List.mem_append_left _ (List.mem_of_getElem? (i := 165) rfl)))), rfl⟩
theorem ml_X5_165 : Cond.methodLink "SubtitleSeatsModel" 165 yX5_closes ∈ zWL := List.mem_filter.mpr ⟨List.mem_append_right _ (List.mem_append_right _ (List.mem_append_right _ (List.mem_append_left _ (List.mem_of_getElem? (i := 166) rfl)))), rfl⟩
theorem im_X5_closes : Cond.instanceMethod yX5_closes ∈ zWL := List.mem_filter.mpr ⟨List.mem_append_right _ (List.mem_append_right _ (List.mem_append_right _ (List.mem_append_left _ (List.mem_of_getElem? (i := 168) rfl)))), rfl⟩
theorem cd_X5_closes : Cond.code yX5_closes prog_7_method_16_code 3 none ∈ zWL := List.mem_filter.mpr ⟨List.mem_append_right _ (List.mem_append_right _ (List.mem_append_right _ (List.mem_append_left _ (List.mem_of_getElem? (i := 169) rfl)))), rfl⟩
theorem ml_L_47 : Cond.methodLink "SubtitleSeatsLaw" 47 yX5_shift ∈ zWL := List.mem_filter.mpr ⟨List.mem_append_right _ (List.mem_append_right _ (List.mem_append_right _ (List.mem_append_left _ (List.mem_of_getElem? (i := 170) rfl)))), rfl⟩
theorem im_X5_shift : Cond.instanceMethod yX5_shift ∈ zWL := List.mem_filter.mpr ⟨List.mem_append_right _ (List.mem_append_right _ (List.mem_append_right _ (List.mem_append_left _ (List.mem_of_getElem? (i := 171) rfl)))), rfl⟩
theorem se_X5_shift : Cond.selects "SubtitleSeatsModel" yX5_shift yX5_shift ∈ zWL := List.mem_filter.mpr ⟨List.mem_append_right _ (List.mem_append_right _ (List.mem_append_right _ (List.mem_append_left _ (List.mem_of_getElem? (i := 172) rfl)))), rfl⟩
theorem cd_X5_shift : Cond.code yX5_shift prog_7_method_46_code 4 (some .int) ∈ zWL := List.mem_filter.mpr ⟨List.mem_append_right _ (List.mem_append_right _ (List.mem_append_right _ (List.mem_append_left _ (List.mem_of_getElem? (i := 173) rfl)))), rfl⟩
theorem ml_X5_168 : Cond.methodLink "SubtitleSeatsModel" 168 yX5_canShift ∈ zWL := List.mem_filter.mpr ⟨List.mem_append_right _ (List.mem_append_right _ (List.mem_append_right _ (List.mem_append_left _ (List.mem_of_getElem? (i := 174) rfl)))), rfl⟩
theorem im_X5_canShift : Cond.instanceMethod yX5_canShift ∈ zWL := List.mem_filter.mpr ⟨List.mem_append_right _ (List.mem_append_right _ (List.mem_append_right _ (List.mem_append_left _ (List.mem_of_getElem? (i := 176) rfl)))), rfl⟩
theorem cd_X5_canShift : Cond.code yX5_canShift prog_7_method_45_code 4 (some .boolean) ∈ zWL := List.mem_filter.mpr ⟨List.mem_append_right _ (List.mem_append_right _ (List.mem_append_right _ (List.mem_append_left _ (List.mem_of_getElem? (i := 177) rfl)))), rfl⟩
theorem ml_L_51 : Cond.methodLink "SubtitleSeatsLaw" 51 yX5_setEnd ∈ zWL := List.mem_filter.mpr ⟨List.mem_append_right _ (List.mem_append_right _ (List.mem_append_right _ (List.mem_append_left _ (List.mem_of_getElem? (i := 178) rfl)))), rfl⟩
theorem im_X5_setEnd : Cond.instanceMethod yX5_setEnd ∈ zWL := List.mem_filter.mpr ⟨List.mem_append_right _ (List.mem_append_right _ (List.mem_append_right _ (List.mem_append_left _ (List.mem_of_getElem? (i := 179) rfl)))), rfl⟩
theorem se_X5_setEnd : Cond.selects "SubtitleSeatsModel" yX5_setEnd yX5_setEnd ∈ zWL := List.mem_filter.mpr ⟨List.mem_append_right _ (List.mem_append_right _ (List.mem_append_right _ (List.mem_append_left _ (List.mem_of_getElem? (i := 180) rfl)))), rfl⟩
theorem cd_X5_setEnd : Cond.code yX5_setEnd prog_7_method_47_code 5 (some .int) ∈ zWL := List.mem_filter.mpr ⟨List.mem_append_right _ (List.mem_append_right _ (List.mem_append_right _ (List.mem_append_left _ (List.mem_of_getElem? (i := 181) rfl)))), rfl⟩
theorem ml_L_55 : Cond.methodLink "SubtitleSeatsLaw" 55 yX5_split ∈ zWL := List.mem_filter.mpr ⟨List.mem_append_right _ (List.mem_append_right _ (List.mem_append_right _ (List.mem_append_left _ (List.mem_of_getElem? (i := 182) rfl)))), rfl⟩
theorem im_X5_split : Cond.instanceMethod yX5_split ∈ zWL := List.mem_filter.mpr ⟨List.mem_append_right _ (List.mem_append_right _ (List.mem_append_right _ (List.mem_append_left _ (List.mem_of_getElem? (i := 183) rfl)))), rfl⟩
theorem se_X5_split : Cond.selects "SubtitleSeatsModel" yX5_split yX5_split ∈ zWL := List.mem_filter.mpr ⟨List.mem_append_right _ (List.mem_append_right _ (List.mem_append_right _ (List.mem_append_left _ (List.mem_of_getElem? (i := 184) rfl)))), rfl⟩
theorem cd_X5_split : Cond.code yX5_split prog_7_method_51_code 2 (some .int) ∈ zWL := List.mem_filter.mpr ⟨List.mem_append_right _ (List.mem_append_right _ (List.mem_append_right _ (List.mem_append_left _ (List.mem_of_getElem? (i := 185) rfl)))), rfl⟩
theorem ml_X5_174 : Cond.methodLink "SubtitleSeatsModel" 174 yX5_bestBlank ∈ zWL := List.mem_filter.mpr ⟨List.mem_append_right _ (List.mem_append_right _ (List.mem_append_right _ (List.mem_append_left _ (List.mem_of_getElem? (i := 186) rfl)))), rfl⟩
theorem im_X5_bestBlank : Cond.instanceMethod yX5_bestBlank ∈ zWL := List.mem_filter.mpr ⟨List.mem_append_right _ (List.mem_append_right _ (List.mem_append_right _ (List.mem_append_left _ (List.mem_of_getElem? (i := 188) rfl)))), rfl⟩
theorem cd_X5_bestBlank : Cond.code yX5_bestBlank prog_7_method_49_code 8 (some .int) ∈ zWL := List.mem_filter.mpr ⟨List.mem_append_right _ (List.mem_append_right _ (List.mem_append_right _ (List.mem_append_left _ (List.mem_of_getElem? (i := 189) rfl)))), rfl⟩
theorem ml_X5_59 : Cond.methodLink "SubtitleSeatsModel" 59 yX5_letter ∈ zWL := List.mem_filter.mpr ⟨List.mem_append_right _ (List.mem_append_right _ (List.mem_append_right _ (List.mem_append_left _ (List.mem_of_getElem? (i := 190) rfl)))), rfl⟩
theorem im_X5_letter : Cond.instanceMethod yX5_letter ∈ zWL := List.mem_filter.mpr ⟨List.mem_append_right _ (List.mem_append_right _ (List.mem_append_right _ (List.mem_append_left _ (List.mem_of_getElem? (i := 192) rfl)))), rfl⟩
theorem cd_X5_letter : Cond.code yX5_letter prog_7_method_13_code 3 (some .int) ∈ zWL := List.mem_filter.mpr ⟨List.mem_append_right _ (List.mem_append_right _ (List.mem_append_right _ (List.mem_append_left _ (List.mem_of_getElem? (i := 193) rfl)))), rfl⟩
theorem ml_X5_82 : Cond.methodLink "SubtitleSeatsModel" 82 yX5_far ∈ zWL := List.mem_filter.mpr ⟨List.mem_append_right _ (List.mem_append_right _ (List.mem_append_right _ (List.mem_append_left _ (List.mem_of_getElem? (i := 194) rfl)))), rfl⟩
theorem sc_X5_far : Cond.static yX5_far ∈ zWL := List.mem_filter.mpr ⟨List.mem_append_right _ (List.mem_append_right _ (List.mem_append_right _ (List.mem_append_left _ (List.mem_of_getElem? (i := 195) rfl)))), rfl⟩
theorem cd_X5_far : Cond.code yX5_far prog_7_method_24_code 2 (some .int) ∈ zWL := List.mem_filter.mpr ⟨List.mem_append_right _ (List.mem_append_right _ (List.mem_append_right _ (List.mem_append_left _ (List.mem_of_getElem? (i := 196) rfl)))), rfl⟩
theorem ml_X5_171 : Cond.methodLink "SubtitleSeatsModel" 171 yX5_kindOf ∈ zWL := List.mem_filter.mpr ⟨List.mem_append_right _ (List.mem_append_right _ (List.mem_append_right _ (List.mem_append_left _ (List.mem_of_getElem? (i := 197) rfl)))), rfl⟩
theorem im_X5_kindOf : Cond.instanceMethod yX5_kindOf ∈ zWL := List.mem_filter.mpr ⟨List.mem_append_right _ (List.mem_append_right _ (List.mem_append_right _ (List.mem_append_left _ (List.mem_of_getElem? (i := 199) rfl)))), rfl⟩
theorem cd_X5_kindOf : Cond.code yX5_kindOf prog_7_method_48_code 4 (some .int) ∈ zWL := List.mem_filter.mpr ⟨List.mem_append_right _ (List.mem_append_right _ (List.mem_append_right _ (List.mem_append_left _ (List.mem_of_getElem? (i := 200) rfl)))), rfl⟩
theorem ml_X5_65 : Cond.methodLink "SubtitleSeatsModel" 65 yX5_framesOf ∈ zWL := List.mem_filter.mpr ⟨List.mem_append_right _ (List.mem_append_right _ (List.mem_append_right _ (List.mem_append_left _ (List.mem_of_getElem? (i := 201) rfl)))), rfl⟩
theorem im_X5_framesOf : Cond.instanceMethod yX5_framesOf ∈ zWL := List.mem_filter.mpr ⟨List.mem_append_right _ (List.mem_append_right _ (List.mem_append_right _ (List.mem_append_left _ (List.mem_of_getElem? (i := 203) rfl)))), rfl⟩
theorem cd_X5_framesOf : Cond.code yX5_framesOf prog_7_method_11_code 2 (some .int) ∈ zWL := List.mem_filter.mpr ⟨List.mem_append_right _ (List.mem_append_right _ (List.mem_append_right _ (List.mem_append_left _ (List.mem_of_getElem? (i := 204) rfl)))), rfl⟩
theorem ml_X5_47 : Cond.methodLink "SubtitleSeatsModel" 47 yX5_its ∈ zWL := List.mem_filter.mpr ⟨List.mem_append_right _ (List.mem_append_right _ (List.mem_append_right _ (List.mem_append_left _ (List.mem_of_getElem? (i := 205) rfl)))), rfl⟩
theorem im_X5_its : Cond.instanceMethod yX5_its ∈ zWL := List.mem_filter.mpr ⟨List.mem_append_right _ (List.mem_append_right _ (List.mem_append_right _ (List.mem_append_left _ (List.mem_of_getElem? (i := 207) rfl)))), rfl⟩
theorem cd_X5_its : Cond.code yX5_its prog_7_method_10_code 2 (some .int) ∈ zWL := List.mem_filter.mpr ⟨List.mem_append_right _ (List.mem_append_right _ (List.mem_append_right _ (List.mem_append_left _ (List.mem_of_getElem? (i := 208) rfl)))), rfl⟩
theorem ml_X5_177 : Cond.methodLink "SubtitleSeatsModel" 177 yX5_splits ∈ zWL := List.mem_filter.mpr ⟨List.mem_append_right _ (List.mem_append_right _ (List.mem_append_right _ (List.mem_append_left _ (List.mem_of_getElem? (i := 209) rfl)))), rfl⟩
theorem im_X5_splits : Cond.instanceMethod yX5_splits ∈ zWL := List.mem_filter.mpr ⟨List.mem_append_right _ (List.mem_append_right _ (List.mem_append_right _ (List.mem_append_left _ (List.mem_of_getElem? (i := 211) rfl)))), rfl⟩
theorem cd_X5_splits : Cond.code yX5_splits prog_7_method_50_code 8 (some .int) ∈ zWL := List.mem_filter.mpr ⟨List.mem_append_right _ (List.mem_append_right _ (List.mem_append_right _ (List.mem_append_left _ (List.mem_of_getElem? (i := 212) rfl)))), rfl⟩
theorem ml_L_59 : Cond.methodLink "SubtitleSeatsLaw" 59 yX5_join ∈ zWL := List.mem_filter.mpr ⟨List.mem_append_right _ (List.mem_append_right _ (List.mem_append_right _ (List.mem_append_left _ (List.mem_of_getElem? (i := 213) rfl)))), rfl⟩
theorem im_X5_join : Cond.instanceMethod yX5_join ∈ zWL := List.mem_filter.mpr ⟨List.mem_append_right _ (List.mem_append_right _ (List.mem_append_right _ (List.mem_append_left _ (List.mem_of_getElem? (i := 214) rfl)))), rfl⟩
theorem se_X5_join : Cond.selects "SubtitleSeatsModel" yX5_join yX5_join ∈ zWL := List.mem_filter.mpr ⟨List.mem_append_right _ (List.mem_append_right _ (List.mem_append_right _ (List.mem_append_left _ (List.mem_of_getElem? (i := 215) rfl)))), rfl⟩
theorem cd_X5_join : Cond.code yX5_join prog_7_method_52_code 5 (some .int) ∈ zWL := List.mem_filter.mpr ⟨List.mem_append_right _ (List.mem_append_right _ (List.mem_append_right _ (List.mem_append_left _ (List.mem_of_getElem? (i := 216) rfl)))), rfl⟩
theorem ml_L_63 : Cond.methodLink "SubtitleSeatsLaw" 63 yX5_seat ∈ zWL := List.mem_filter.mpr ⟨List.mem_append_right _ (List.mem_append_right _ (List.mem_append_right _ (List.mem_append_left _ (List.mem_of_getElem? (i := 217) rfl)))), rfl⟩
theorem im_X5_seat : Cond.instanceMethod yX5_seat ∈ zWL := List.mem_filter.mpr ⟨List.mem_append_right _ (List.mem_append_right _ (List.mem_append_right _ (List.mem_append_left _ (List.mem_of_getElem? (i := 218) rfl)))), rfl⟩
theorem se_X5_seat : Cond.selects "SubtitleSeatsModel" yX5_seat yX5_seat ∈ zWL := List.mem_filter.mpr ⟨List.mem_append_right _ (List.mem_append_right _ (List.mem_append_right _ (List.mem_append_left _ (List.mem_of_getElem? (i := 219) rfl)))), rfl⟩
theorem cd_X5_seat : Cond.code yX5_seat prog_7_method_53_code 1 (some .int) ∈ zWL := List.mem_filter.mpr ⟨List.mem_append_right _ (List.mem_append_right _ (List.mem_append_right _ (List.mem_append_left _ (List.mem_of_getElem? (i := 220) rfl)))), rfl⟩
theorem ml_X5_180 : Cond.methodLink "SubtitleSeatsModel" 180 yX5_seatsAll ∈ zWL := List.mem_filter.mpr ⟨List.mem_append_right _ (List.mem_append_right _ (List.mem_append_right _ (List.mem_append_left _ (List.mem_of_getElem? (i := 221) rfl)))), rfl⟩
theorem im_X5_seatsAll : Cond.instanceMethod yX5_seatsAll ∈ zWL := List.mem_filter.mpr ⟨List.mem_append_right _ (List.mem_append_right _ (List.mem_append_right _ (List.mem_append_left _ (List.mem_of_getElem? (i := 223) rfl)))), rfl⟩
theorem cd_X5_seatsAll : Cond.code yX5_seatsAll prog_7_method_28_code 5 (some .int) ∈ zWL := List.mem_filter.mpr ⟨List.mem_append_right _ (List.mem_append_right _ (List.mem_append_right _ (List.mem_append_left _ (List.mem_of_getElem? (i := 224) rfl)))), rfl⟩
theorem ml_X5_94 : Cond.methodLink "SubtitleSeatsModel" 94 yX5_seats ∈ zWL := List.mem_filter.mpr ⟨List.mem_append_right _ (List.mem_append_right _ (List.mem_append_right _ (List.mem_append_left _ (List.mem_of_getElem? (i := 225) rfl)))), rfl⟩
theorem im_X5_seats : Cond.instanceMethod yX5_seats ∈ zWL := List.mem_filter.mpr ⟨List.mem_append_right _ (List.mem_append_right _ (List.mem_append_right _ (List.mem_append_left _ (List.mem_of_getElem? (i := 227) rfl)))), rfl⟩
theorem cd_X5_seats : Cond.code yX5_seats prog_7_method_27_code 6 none ∈ zWL := List.mem_filter.mpr ⟨List.mem_append_right _ (List.mem_append_right _ (List.mem_append_right _ (List.mem_append_left _ (List.mem_of_getElem? (i := 228) rfl)))), rfl⟩
theorem ml_X5_85 : Cond.methodLink "SubtitleSeatsModel" 85 yX5_needs ∈ zWL := List.mem_filter.mpr ⟨List.mem_append_right _ (List.mem_append_right _ (List.mem_append_right _ (List.mem_append_left _ (List.mem_of_getElem? (i := 229) rfl)))), rfl⟩
theorem im_X5_needs : Cond.instanceMethod yX5_needs ∈ zWL := List.mem_filter.mpr ⟨List.mem_append_right _ (List.mem_append_right _ (List.mem_append_right _ (List.mem_append_left _ (List.mem_of_getElem? (i := 231) rfl)))), rfl⟩
theorem cd_X5_needs : Cond.code yX5_needs prog_7_method_12_code 3 (some .int) ∈ zWL := List.mem_filter.mpr ⟨List.mem_append_right _ (List.mem_append_right _ (List.mem_append_right _ (List.mem_append_left _ (List.mem_of_getElem? (i := 232) rfl)))), rfl⟩
theorem ml_X5_88 : Cond.methodLink "SubtitleSeatsModel" 88 yX5_limitOf ∈ zWL := List.mem_filter.mpr ⟨List.mem_append_right _ (List.mem_append_right _ (List.mem_append_right _ (List.mem_append_left _ (List.mem_of_getElem? (i := 233) rfl)))), rfl⟩
theorem im_X5_limitOf : Cond.instanceMethod yX5_limitOf ∈ zWL := List.mem_filter.mpr ⟨List.mem_append_right _ (List.mem_append_right _ (List.mem_append_right _ (List.mem_append_left _ (List.mem_of_getElem? (i := 235) rfl)))), rfl⟩
theorem cd_X5_limitOf : Cond.code yX5_limitOf prog_7_method_26_code 2 (some .int) ∈ zWL := List.mem_filter.mpr ⟨List.mem_append_right _ (List.mem_append_right _ (List.mem_append_right _ (List.mem_append_left _ (List.mem_of_getElem? (i := 236) rfl)))), rfl⟩
theorem ml_X5_91 : Cond.methodLink "SubtitleSeatsModel" 91 yX5_nearestCut ∈ zWL := List.mem_filter.mpr ⟨List.mem_append_right _ (List.mem_append_right _ (List.mem_append_right _ (List.mem_append_left _ (List.mem_of_getElem? (i := 237) rfl)))), rfl⟩
theorem im_X5_nearestCut : Cond.instanceMethod yX5_nearestCut ∈ zWL := List.mem_filter.mpr ⟨List.mem_append_right _ (List.mem_append_right _ (List.mem_append_right _ (List.mem_append_left _ (List.mem_of_getElem? (i := 239) rfl)))), rfl⟩
theorem cd_X5_nearestCut : Cond.code yX5_nearestCut prog_7_method_25_code 5 (some .int) ∈ zWL := List.mem_filter.mpr ⟨List.mem_append_right _ (List.mem_append_right _ (List.mem_append_right _ (List.mem_append_right _ (List.mem_of_getElem? (i := 0) rfl)))), rfl⟩
theorem ml_L_67 : Cond.methodLink "SubtitleSeatsLaw" 67 yX5_cut ∈ zWL := List.mem_filter.mpr ⟨List.mem_append_right _ (List.mem_append_right _ (List.mem_append_right _ (List.mem_append_right _ (List.mem_of_getElem? (i := 1) rfl)))), rfl⟩
theorem im_X5_cut : Cond.instanceMethod yX5_cut ∈ zWL := List.mem_filter.mpr ⟨List.mem_append_right _ (List.mem_append_right _ (List.mem_append_right _ (List.mem_append_right _ (List.mem_of_getElem? (i := 2) rfl)))), rfl⟩
theorem se_X5_cut : Cond.selects "SubtitleSeatsModel" yX5_cut yX5_cut ∈ zWL := List.mem_filter.mpr ⟨List.mem_append_right _ (List.mem_append_right _ (List.mem_append_right _ (List.mem_append_right _ (List.mem_of_getElem? (i := 3) rfl)))), rfl⟩
theorem cd_X5_cut : Cond.code yX5_cut prog_7_method_55_code 3 (some .int) ∈ zWL := List.mem_filter.mpr ⟨List.mem_append_right _ (List.mem_append_right _ (List.mem_append_right _ (List.mem_append_right _ (List.mem_of_getElem? (i := 4) rfl)))), rfl⟩
theorem ml_X5_183 : Cond.methodLink "SubtitleSeatsModel" 183 yX5_placeOfCut ∈ zWL := List.mem_filter.mpr ⟨List.mem_append_right _ (List.mem_append_right _ (List.mem_append_right _ (List.mem_append_right _ (List.mem_of_getElem? (i := 5) rfl)))), rfl⟩
theorem im_X5_placeOfCut : Cond.instanceMethod yX5_placeOfCut ∈ zWL := List.mem_filter.mpr ⟨List.mem_append_right _ (List.mem_append_right _ (List.mem_append_right _ (List.mem_append_right _ (List.mem_of_getElem? (i := 7) rfl)))), rfl⟩
theorem cd_X5_placeOfCut : Cond.code yX5_placeOfCut prog_7_method_54_code 4 (some .int) ∈ zWL := List.mem_filter.mpr ⟨List.mem_append_right _ (List.mem_append_right _ (List.mem_append_right _ (List.mem_append_right _ (List.mem_of_getElem? (i := 8) rfl)))), rfl⟩
theorem ml_L_71 : Cond.methodLink "SubtitleSeatsLaw" 71 yX5_uncut ∈ zWL := List.mem_filter.mpr ⟨List.mem_append_right _ (List.mem_append_right _ (List.mem_append_right _ (List.mem_append_right _ (List.mem_of_getElem? (i := 9) rfl)))), rfl⟩
theorem im_X5_uncut : Cond.instanceMethod yX5_uncut ∈ zWL := List.mem_filter.mpr ⟨List.mem_append_right _ (List.mem_append_right _ (List.mem_append_right _ (List.mem_append_right _ (List.mem_of_getElem? (i := 10) rfl)))), rfl⟩
theorem se_X5_uncut : Cond.selects "SubtitleSeatsModel" yX5_uncut yX5_uncut ∈ zWL := List.mem_filter.mpr ⟨List.mem_append_right _ (List.mem_append_right _ (List.mem_append_right _ (List.mem_append_right _ (List.mem_of_getElem? (i := 11) rfl)))), rfl⟩
theorem cd_X5_uncut : Cond.code yX5_uncut prog_7_method_56_code 4 (some .int) ∈ zWL := List.mem_filter.mpr ⟨List.mem_append_right _ (List.mem_append_right _ (List.mem_append_right _ (List.mem_append_right _ (List.mem_of_getElem? (i := 12) rfl)))), rfl⟩
theorem ml_L_75 : Cond.methodLink "SubtitleSeatsLaw" 75 yX5_set ∈ zWL := List.mem_filter.mpr ⟨List.mem_append_right _ (List.mem_append_right _ (List.mem_append_right _ (List.mem_append_right _ (List.mem_of_getElem? (i := 13) rfl)))), rfl⟩
theorem im_X5_set : Cond.instanceMethod yX5_set ∈ zWL := List.mem_filter.mpr ⟨List.mem_append_right _ (List.mem_append_right _ (List.mem_append_right _ (List.mem_append_right _ (List.mem_of_getElem? (i := 14) rfl)))), rfl⟩
theorem se_X5_set : Cond.selects "SubtitleSeatsModel" yX5_set yX5_set ∈ zWL := List.mem_filter.mpr ⟨List.mem_append_right _ (List.mem_append_right _ (List.mem_append_right _ (List.mem_append_right _ (List.mem_of_getElem? (i := 15) rfl)))), rfl⟩
theorem cd_X5_set : Cond.code yX5_set prog_7_method_59_code 4 (some .int) ∈ zWL := List.mem_filter.mpr ⟨List.mem_append_right _ (List.mem_append_right _ (List.mem_append_right _ (List.mem_append_right _ (List.mem_of_getElem? (i := 16) rfl)))), rfl⟩
theorem ml_X5_186 : Cond.methodLink "SubtitleSeatsModel" 186 yX5_leastOf ∈ zWL := List.mem_filter.mpr ⟨List.mem_append_right _ (List.mem_append_right _ (List.mem_append_right _ (List.mem_append_right _ (List.mem_of_getElem? (i := 17) rfl)))), rfl⟩
theorem sc_X5_leastOf : Cond.static yX5_leastOf ∈ zWL := List.mem_filter.mpr ⟨List.mem_append_right _ (List.mem_append_right _ (List.mem_append_right _ (List.mem_append_right _ (List.mem_of_getElem? (i := 18) rfl)))), rfl⟩
theorem cd_X5_leastOf : Cond.code yX5_leastOf prog_7_method_57_code 1 (some .int) ∈ zWL := List.mem_filter.mpr ⟨List.mem_append_right _ (List.mem_append_right _ (List.mem_append_right _ (List.mem_append_right _ (List.mem_of_getElem? (i := 19) rfl)))), rfl⟩
theorem ml_X5_189 : Cond.methodLink "SubtitleSeatsModel" 189 yX5_mostOf ∈ zWL := List.mem_filter.mpr ⟨List.mem_append_right _ (List.mem_append_right _ (List.mem_append_right _ (List.mem_append_right _ (List.mem_of_getElem? (i := 20) rfl)))), rfl⟩
theorem sc_X5_mostOf : Cond.static yX5_mostOf ∈ zWL := List.mem_filter.mpr ⟨List.mem_append_right _ (List.mem_append_right _ (List.mem_append_right _ (List.mem_append_right _ (List.mem_of_getElem? (i := 21) rfl)))), rfl⟩
theorem cd_X5_mostOf : Cond.code yX5_mostOf prog_7_method_58_code 1 (some .int) ∈ zWL := List.mem_filter.mpr ⟨List.mem_append_right _ (List.mem_append_right _ (List.mem_append_right _ (List.mem_append_right _ (List.mem_of_getElem? (i := 22) rfl)))), rfl⟩
theorem ml_L_79 : Cond.methodLink "SubtitleSeatsLaw" 79 yX5_subtitles ∈ zWL := List.mem_filter.mpr ⟨List.mem_append_right _ (List.mem_append_right _ (List.mem_append_right _ (List.mem_append_right _ (List.mem_of_getElem? (i := 23) rfl)))), rfl⟩
theorem im_X5_subtitles : Cond.instanceMethod yX5_subtitles ∈ zWL := List.mem_filter.mpr ⟨List.mem_append_right _ (List.mem_append_right _ (List.mem_append_right _ (List.mem_append_right _ (List.mem_of_getElem? (i := 24) rfl)))), rfl⟩
theorem se_X5_subtitles : Cond.selects "SubtitleSeatsModel" yX5_subtitles yX5_subtitles ∈ zWL := List.mem_filter.mpr ⟨List.mem_append_right _ (List.mem_append_right _ (List.mem_append_right _ (List.mem_append_right _ (List.mem_of_getElem? (i := 25) rfl)))), rfl⟩
theorem cd_X5_subtitles : Cond.code yX5_subtitles prog_7_method_60_code 1 (some .int) ∈ zWL := List.mem_filter.mpr ⟨List.mem_append_right _ (List.mem_append_right _ (List.mem_append_right _ (List.mem_append_right _ (List.mem_of_getElem? (i := 26) rfl)))), rfl⟩
theorem ml_L_83 : Cond.methodLink "SubtitleSeatsLaw" 83 yX5_subtitle ∈ zWL := List.mem_filter.mpr ⟨List.mem_append_right _ (List.mem_append_right _ (List.mem_append_right _ (List.mem_append_right _ (List.mem_of_getElem? (i := 27) rfl)))), rfl⟩
theorem im_X5_subtitle : Cond.instanceMethod yX5_subtitle ∈ zWL := List.mem_filter.mpr ⟨List.mem_append_right _ (List.mem_append_right _ (List.mem_append_right _ (List.mem_append_right _ (List.mem_of_getElem? (i := 28) rfl)))), rfl⟩
theorem se_X5_subtitle : Cond.selects "SubtitleSeatsModel" yX5_subtitle yX5_subtitle ∈ zWL := List.mem_filter.mpr ⟨List.mem_append_right _ (List.mem_append_right _ (List.mem_append_right _ (List.mem_append_right _ (List.mem_of_getElem? (i := 29) rfl)))), rfl⟩
theorem cd_X5_subtitle : Cond.code yX5_subtitle prog_7_method_61_code 3 (some .int) ∈ zWL := List.mem_filter.mpr ⟨List.mem_append_right _ (List.mem_append_right _ (List.mem_append_right _ (List.mem_append_right _ (List.mem_of_getElem? (i := 30) rfl)))), rfl⟩
theorem ml_X5_79 : Cond.methodLink "SubtitleSeatsModel" 79 yX5_faultsOf ∈ zWL := List.mem_filter.mpr ⟨List.mem_append_right _ (List.mem_append_right _ (List.mem_append_right _ (List.mem_append_right _ (List.mem_of_getElem? (i := 31) rfl)))), rfl⟩
theorem im_X5_faultsOf : Cond.instanceMethod yX5_faultsOf ∈ zWL := List.mem_filter.mpr ⟨List.mem_append_right _ (List.mem_append_right _ (List.mem_append_right _ (List.mem_append_right _ (List.mem_of_getElem? (i := 33) rfl)))), rfl⟩
theorem cd_X5_faultsOf : Cond.code yX5_faultsOf prog_7_method_21_code 3 (some .int) ∈ zWL := List.mem_filter.mpr ⟨List.mem_append_right _ (List.mem_append_right _ (List.mem_append_right _ (List.mem_append_right _ (List.mem_of_getElem? (i := 34) rfl)))), rfl⟩
theorem ml_X5_68 : Cond.methodLink "SubtitleSeatsModel" 68 yX5_isFast ∈ zWL := List.mem_filter.mpr ⟨List.mem_append_right _ (List.mem_append_right _ (List.mem_append_right _ (List.mem_append_right _ (List.mem_of_getElem? (i := 35) rfl)))), rfl⟩
theorem im_X5_isFast : Cond.instanceMethod yX5_isFast ∈ zWL := List.mem_filter.mpr ⟨List.mem_append_right _ (List.mem_append_right _ (List.mem_append_right _ (List.mem_append_right _ (List.mem_of_getElem? (i := 37) rfl)))), rfl⟩
theorem cd_X5_isFast : Cond.code yX5_isFast prog_7_method_20_code 3 (some .boolean) ∈ zWL := List.mem_filter.mpr ⟨List.mem_append_right _ (List.mem_append_right _ (List.mem_append_right _ (List.mem_append_right _ (List.mem_of_getElem? (i := 38) rfl)))), rfl⟩
theorem ml_X5_72 : Cond.methodLink "SubtitleSeatsModel" 72 yX5_isNearCut ∈ zWL := List.mem_filter.mpr ⟨List.mem_append_right _ (List.mem_append_right _ (List.mem_append_right _ (List.mem_append_right _ (List.mem_of_getElem? (i := 39) rfl)))), rfl⟩
theorem im_X5_isNearCut : Cond.instanceMethod yX5_isNearCut ∈ zWL := List.mem_filter.mpr ⟨List.mem_append_right _ (List.mem_append_right _ (List.mem_append_right _ (List.mem_append_right _ (List.mem_of_getElem? (i := 41) rfl)))), rfl⟩
theorem cd_X5_isNearCut : Cond.code yX5_isNearCut prog_7_method_19_code 6 (some .boolean) ∈ zWL := List.mem_filter.mpr ⟨List.mem_append_right _ (List.mem_append_right _ (List.mem_append_right _ (List.mem_append_right _ (List.mem_of_getElem? (i := 42) rfl)))), rfl⟩
theorem ml_X5_76 : Cond.methodLink "SubtitleSeatsModel" 76 yX5_isWide ∈ zWL := List.mem_filter.mpr ⟨List.mem_append_right _ (List.mem_append_right _ (List.mem_append_right _ (List.mem_append_right _ (List.mem_of_getElem? (i := 43) rfl)))), rfl⟩
theorem im_X5_isWide : Cond.instanceMethod yX5_isWide ∈ zWL := List.mem_filter.mpr ⟨List.mem_append_right _ (List.mem_append_right _ (List.mem_append_right _ (List.mem_append_right _ (List.mem_of_getElem? (i := 45) rfl)))), rfl⟩
theorem cd_X5_isWide : Cond.code yX5_isWide prog_7_method_18_code 5 (some .boolean) ∈ zWL := List.mem_filter.mpr ⟨List.mem_append_right _ (List.mem_append_right _ (List.mem_append_right _ (List.mem_append_right _ (List.mem_of_getElem? (i := 46) rfl)))), rfl⟩
theorem ml_X5_62 : Cond.methodLink "SubtitleSeatsModel" 62 yX5_laysLines ∈ zWL := List.mem_filter.mpr ⟨List.mem_append_right _ (List.mem_append_right _ (List.mem_append_right _ (List.mem_append_right _ (List.mem_of_getElem? (i := 47) rfl)))), rfl⟩
theorem im_X5_laysLines : Cond.instanceMethod yX5_laysLines ∈ zWL := List.mem_filter.mpr ⟨List.mem_append_right _ (List.mem_append_right _ (List.mem_append_right _ (List.mem_append_right _ (List.mem_of_getElem? (i := 49) rfl)))), rfl⟩
theorem cd_X5_laysLines : Cond.code yX5_laysLines prog_7_method_17_code 10 (some .int) ∈ zWL := List.mem_filter.mpr ⟨List.mem_append_right _ (List.mem_append_right _ (List.mem_append_right _ (List.mem_append_right _ (List.mem_of_getElem? (i := 50) rfl)))), rfl⟩
theorem ml_L_87 : Cond.methodLink "SubtitleSeatsLaw" 87 yX5_character ∈ zWL := List.mem_filter.mpr ⟨List.mem_append_right _ (List.mem_append_right _ (List.mem_append_right _ (List.mem_append_right _ (List.mem_of_getElem? (i := 51) rfl)))), rfl⟩
theorem im_X5_character : Cond.instanceMethod yX5_character ∈ zWL := List.mem_filter.mpr ⟨List.mem_append_right _ (List.mem_append_right _ (List.mem_append_right _ (List.mem_append_right _ (List.mem_of_getElem? (i := 52) rfl)))), rfl⟩
theorem se_X5_character : Cond.selects "SubtitleSeatsModel" yX5_character yX5_character ∈ zWL := List.mem_filter.mpr ⟨List.mem_append_right _ (List.mem_append_right _ (List.mem_append_right _ (List.mem_append_right _ (List.mem_of_getElem? (i := 53) rfl)))), rfl⟩
theorem cd_X5_character : Cond.code yX5_character prog_7_method_62_code 3 (some .int) ∈ zWL := List.mem_filter.mpr ⟨List.mem_append_right _ (List.mem_append_right _ (List.mem_append_right _ (List.mem_append_right _ (List.mem_of_getElem? (i := 54) rfl)))), rfl⟩
theorem ml_L_91 : Cond.methodLink "SubtitleSeatsLaw" 91 yX5_line ∈ zWL := List.mem_filter.mpr ⟨List.mem_append_right _ (List.mem_append_right _ (List.mem_append_right _ (List.mem_append_right _ (List.mem_of_getElem? (i := 55) rfl)))), rfl⟩
theorem im_X5_line : Cond.instanceMethod yX5_line ∈ zWL := List.mem_filter.mpr ⟨List.mem_append_right _ (List.mem_append_right _ (List.mem_append_right _ (List.mem_append_right _ (List.mem_of_getElem? (i := 56) rfl)))), rfl⟩
theorem se_X5_line : Cond.selects "SubtitleSeatsModel" yX5_line yX5_line ∈ zWL := List.mem_filter.mpr ⟨List.mem_append_right _ (List.mem_append_right _ (List.mem_append_right _ (List.mem_append_right _ (List.mem_of_getElem? (i := 57) rfl)))), rfl⟩
theorem cd_X5_line : Cond.code yX5_line prog_7_method_63_code 3 (some .int) ∈ zWL := List.mem_filter.mpr ⟨List.mem_append_right _ (List.mem_append_right _ (List.mem_append_right _ (List.mem_append_right _ (List.mem_of_getElem? (i := 58) rfl)))), rfl⟩
theorem ml_L_95 : Cond.methodLink "SubtitleSeatsLaw" 95 yX5_at ∈ zWL := List.mem_filter.mpr ⟨List.mem_append_right _ (List.mem_append_right _ (List.mem_append_right _ (List.mem_append_right _ (List.mem_of_getElem? (i := 59) rfl)))), rfl⟩
theorem im_X5_at : Cond.instanceMethod yX5_at ∈ zWL := List.mem_filter.mpr ⟨List.mem_append_right _ (List.mem_append_right _ (List.mem_append_right _ (List.mem_append_right _ (List.mem_of_getElem? (i := 60) rfl)))), rfl⟩
theorem se_X5_at : Cond.selects "SubtitleSeatsModel" yX5_at yX5_at ∈ zWL := List.mem_filter.mpr ⟨List.mem_append_right _ (List.mem_append_right _ (List.mem_append_right _ (List.mem_append_right _ (List.mem_of_getElem? (i := 61) rfl)))), rfl⟩
theorem cd_X5_at : Cond.code yX5_at prog_7_method_64_code 4 (some .int) ∈ zWL := List.mem_filter.mpr ⟨List.mem_append_right _ (List.mem_append_right _ (List.mem_append_right _ (List.mem_append_right _ (List.mem_of_getElem? (i := 62) rfl)))), rfl⟩
theorem ml_L_99 : Cond.methodLink "SubtitleSeatsLaw" 99 yX5_cuts ∈ zWL := List.mem_filter.mpr ⟨List.mem_append_right _ (List.mem_append_right _ (List.mem_append_right _ (List.mem_append_right _ (List.mem_of_getElem? (i := 63) rfl)))), rfl⟩
theorem im_X5_cuts : Cond.instanceMethod yX5_cuts ∈ zWL := List.mem_filter.mpr ⟨List.mem_append_right _ (List.mem_append_right _ (List.mem_append_right _ (List.mem_append_right _ (List.mem_of_getElem? (i := 64) rfl)))), rfl⟩
theorem se_X5_cuts : Cond.selects "SubtitleSeatsModel" yX5_cuts yX5_cuts ∈ zWL := List.mem_filter.mpr ⟨List.mem_append_right _ (List.mem_append_right _ (List.mem_append_right _ (List.mem_append_right _ (List.mem_of_getElem? (i := 65) rfl)))), rfl⟩
theorem cd_X5_cuts : Cond.code yX5_cuts prog_7_method_65_code 1 (some .int) ∈ zWL := List.mem_filter.mpr ⟨List.mem_append_right _ (List.mem_append_right _ (List.mem_append_right _ (List.mem_append_right _ (List.mem_of_getElem? (i := 66) rfl)))), rfl⟩
theorem ml_L_103 : Cond.methodLink "SubtitleSeatsLaw" 103 yX5_cutAt ∈ zWL := List.mem_filter.mpr ⟨List.mem_append_right _ (List.mem_append_right _ (List.mem_append_right _ (List.mem_append_right _ (List.mem_of_getElem? (i := 67) rfl)))), rfl⟩
theorem im_X5_cutAt : Cond.instanceMethod yX5_cutAt ∈ zWL := List.mem_filter.mpr ⟨List.mem_append_right _ (List.mem_append_right _ (List.mem_append_right _ (List.mem_append_right _ (List.mem_of_getElem? (i := 68) rfl)))), rfl⟩
theorem se_X5_cutAt : Cond.selects "SubtitleSeatsModel" yX5_cutAt yX5_cutAt ∈ zWL := List.mem_filter.mpr ⟨List.mem_append_right _ (List.mem_append_right _ (List.mem_append_right _ (List.mem_append_right _ (List.mem_of_getElem? (i := 69) rfl)))), rfl⟩
theorem cd_X5_cutAt : Cond.code yX5_cutAt prog_7_method_66_code 2 (some .int) ∈ zWL := List.mem_filter.mpr ⟨List.mem_append_right _ (List.mem_append_right _ (List.mem_append_right _ (List.mem_append_right _ (List.mem_of_getElem? (i := 70) rfl)))), rfl⟩
theorem ml_L_107 : Cond.methodLink "SubtitleSeatsLaw" 107 yX5_setting ∈ zWL := List.mem_filter.mpr ⟨List.mem_append_right _ (List.mem_append_right _ (List.mem_append_right _ (List.mem_append_right _ (List.mem_of_getElem? (i := 71) rfl)))), rfl⟩
theorem im_X5_setting : Cond.instanceMethod yX5_setting ∈ zWL := List.mem_filter.mpr ⟨List.mem_append_right _ (List.mem_append_right _ (List.mem_append_right _ (List.mem_append_right _ (List.mem_of_getElem? (i := 72) rfl)))), rfl⟩
theorem se_X5_setting : Cond.selects "SubtitleSeatsModel" yX5_setting yX5_setting ∈ zWL := List.mem_filter.mpr ⟨List.mem_append_right _ (List.mem_append_right _ (List.mem_append_right _ (List.mem_append_right _ (List.mem_of_getElem? (i := 73) rfl)))), rfl⟩
theorem cd_X5_setting : Cond.code yX5_setting prog_7_method_67_code 2 (some .int) ∈ zWL := List.mem_filter.mpr ⟨List.mem_append_right _ (List.mem_append_right _ (List.mem_append_right _ (List.mem_append_right _ (List.mem_of_getElem? (i := 74) rfl)))), rfl⟩
theorem ml_L_111 : Cond.methodLink "SubtitleSeatsLaw" 111 yX5_faulty ∈ zWL := List.mem_filter.mpr ⟨List.mem_append_right _ (List.mem_append_right _ (List.mem_append_right _ (List.mem_append_right _ (List.mem_of_getElem? (i := 75) rfl)))), rfl⟩
theorem im_X5_faulty : Cond.instanceMethod yX5_faulty ∈ zWL := List.mem_filter.mpr ⟨List.mem_append_right _ (List.mem_append_right _ (List.mem_append_right _ (List.mem_append_right _ (List.mem_of_getElem? (i := 76) rfl)))), rfl⟩
theorem se_X5_faulty : Cond.selects "SubtitleSeatsModel" yX5_faulty yX5_faulty ∈ zWL := List.mem_filter.mpr ⟨List.mem_append_right _ (List.mem_append_right _ (List.mem_append_right _ (List.mem_append_right _ (List.mem_of_getElem? (i := 77) rfl)))), rfl⟩
theorem cd_X5_faulty : Cond.code yX5_faulty prog_7_method_68_code 3 (some .int) ∈ zWL := List.mem_filter.mpr ⟨List.mem_append_right _ (List.mem_append_right _ (List.mem_append_right _ (List.mem_append_right _ (List.mem_of_getElem? (i := 78) rfl)))), rfl⟩
theorem ml_X5_192 : Cond.methodLink "SubtitleSeatsModel" 192 yX5_faultyBy ∈ zWL := List.mem_filter.mpr ⟨List.mem_append_right _ (List.mem_append_right _ (List.mem_append_right _ (List.mem_append_right _ (List.mem_of_getElem? (i := 79) rfl)))), rfl⟩
theorem im_X5_faultyBy : Cond.instanceMethod yX5_faultyBy ∈ zWL := List.mem_filter.mpr ⟨List.mem_append_right _ (List.mem_append_right _ (List.mem_append_right _ (List.mem_append_right _ (List.mem_of_getElem? (i := 81) rfl)))), rfl⟩
theorem cd_X5_faultyBy : Cond.code yX5_faultyBy prog_7_method_22_code 5 (some .int) ∈ zWL := List.mem_filter.mpr ⟨List.mem_append_right _ (List.mem_append_right _ (List.mem_append_right _ (List.mem_append_right _ (List.mem_of_getElem? (i := 82) rfl)))), rfl⟩
theorem ml_L_115 : Cond.methodLink "SubtitleSeatsLaw" 115 yX5_shown ∈ zWL := List.mem_filter.mpr ⟨List.mem_append_right _ (List.mem_append_right _ (List.mem_append_right _ (List.mem_append_right _ (List.mem_of_getElem? (i := 83) rfl)))), rfl⟩
theorem im_X5_shown : Cond.instanceMethod yX5_shown ∈ zWL := List.mem_filter.mpr ⟨List.mem_append_right _ (List.mem_append_right _ (List.mem_append_right _ (List.mem_append_right _ (List.mem_of_getElem? (i := 84) rfl)))), rfl⟩
theorem se_X5_shown : Cond.selects "SubtitleSeatsModel" yX5_shown yX5_shown ∈ zWL := List.mem_filter.mpr ⟨List.mem_append_right _ (List.mem_append_right _ (List.mem_append_right _ (List.mem_append_right _ (List.mem_of_getElem? (i := 85) rfl)))), rfl⟩
theorem cd_X5_shown : Cond.code yX5_shown prog_7_method_69_code 1 (some .int) ∈ zWL := List.mem_filter.mpr ⟨List.mem_append_right _ (List.mem_append_right _ (List.mem_append_right _ (List.mem_append_right _ (List.mem_of_getElem? (i := 86) rfl)))), rfl⟩
theorem ml_X5_195 : Cond.methodLink "SubtitleSeatsModel" 195 yX5_allFrames ∈ zWL := List.mem_filter.mpr ⟨List.mem_append_right _ (List.mem_append_right _ (List.mem_append_right _ (List.mem_append_right _ (List.mem_of_getElem? (i := 87) rfl)))), rfl⟩
theorem im_X5_allFrames : Cond.instanceMethod yX5_allFrames ∈ zWL := List.mem_filter.mpr ⟨List.mem_append_right _ (List.mem_append_right _ (List.mem_append_right _ (List.mem_append_right _ (List.mem_of_getElem? (i := 89) rfl)))), rfl⟩
theorem cd_X5_allFrames : Cond.code yX5_allFrames prog_7_method_23_code 3 (some .int) ∈ zWL := List.mem_filter.mpr ⟨List.mem_append_right _ (List.mem_append_right _ (List.mem_append_right _ (List.mem_append_right _ (List.mem_of_getElem? (i := 90) rfl)))), rfl⟩
theorem ml_L_120 : Cond.methodLink "SubtitleSeatsLaw" 120 yX5_meanSpeed ∈ zWL := List.mem_filter.mpr ⟨List.mem_append_right _ (List.mem_append_right _ (List.mem_append_right _ (List.mem_append_right _ (List.mem_of_getElem? (i := 91) rfl)))), rfl⟩
theorem im_X5_meanSpeed : Cond.instanceMethod yX5_meanSpeed ∈ zWL := List.mem_filter.mpr ⟨List.mem_append_right _ (List.mem_append_right _ (List.mem_append_right _ (List.mem_append_right _ (List.mem_of_getElem? (i := 92) rfl)))), rfl⟩
theorem se_X5_meanSpeed : Cond.selects "SubtitleSeatsModel" yX5_meanSpeed yX5_meanSpeed ∈ zWL := List.mem_filter.mpr ⟨List.mem_append_right _ (List.mem_append_right _ (List.mem_append_right _ (List.mem_append_right _ (List.mem_of_getElem? (i := 93) rfl)))), rfl⟩
theorem cd_X5_meanSpeed : Cond.code yX5_meanSpeed prog_7_method_70_code 3 (some .float) ∈ zWL := List.mem_filter.mpr ⟨List.mem_append_right _ (List.mem_append_right _ (List.mem_append_right _ (List.mem_append_right _ (List.mem_of_getElem? (i := 94) rfl)))), rfl⟩
theorem ct_X5_198 : Cond.constantFloat "SubtitleSeatsModel" 198 (1103626240 : UInt32) ∈ zWL := List.mem_filter.mpr ⟨List.mem_append_right _ (List.mem_append_right _ (List.mem_append_right _ (List.mem_append_right _ (List.mem_of_getElem? (i := 95) rfl)))), rfl⟩
theorem ml_L_124 : Cond.methodLink "SubtitleSeatsLaw" 124 yX5_unread ∈ zWL := List.mem_filter.mpr ⟨List.mem_append_right _ (List.mem_append_right _ (List.mem_append_right _ (List.mem_append_right _ (List.mem_of_getElem? (i := 96) rfl)))), rfl⟩
theorem im_X5_unread : Cond.instanceMethod yX5_unread ∈ zWL := List.mem_filter.mpr ⟨List.mem_append_right _ (List.mem_append_right _ (List.mem_append_right _ (List.mem_append_right _ (List.mem_of_getElem? (i := 97) rfl)))), rfl⟩
theorem se_X5_unread : Cond.selects "SubtitleSeatsModel" yX5_unread yX5_unread ∈ zWL := List.mem_filter.mpr ⟨List.mem_append_right _ (List.mem_append_right _ (List.mem_append_right _ (List.mem_append_right _ (List.mem_of_getElem? (i := 98) rfl)))), rfl⟩
theorem cd_X5_unread : Cond.code yX5_unread prog_7_method_72_code 2 (some .int) ∈ zWL := List.mem_filter.mpr ⟨List.mem_append_right _ (List.mem_append_right _ (List.mem_append_right _ (List.mem_append_right _ (List.mem_of_getElem? (i := 99) rfl)))), rfl⟩
theorem ml_X5_199 : Cond.methodLink "SubtitleSeatsModel" 199 yX5_unreadBy ∈ zWL := List.mem_filter.mpr ⟨List.mem_append_right _ (List.mem_append_right _ (List.mem_append_right _ (List.mem_append_right _ (List.mem_of_getElem? (i := 100) rfl)))), rfl⟩
theorem im_X5_unreadBy : Cond.instanceMethod yX5_unreadBy ∈ zWL := List.mem_filter.mpr ⟨List.mem_append_right _ (List.mem_append_right _ (List.mem_append_right _ (List.mem_append_right _ (List.mem_of_getElem? (i := 102) rfl)))), rfl⟩
theorem cd_X5_unreadBy : Cond.code yX5_unreadBy prog_7_method_71_code 4 (some .int) ∈ zWL := List.mem_filter.mpr ⟨List.mem_append_right _ (List.mem_append_right _ (List.mem_append_right _ (List.mem_append_right _ (List.mem_of_getElem? (i := 103) rfl)))), rfl⟩
theorem ml_L_128 : Cond.methodLink "SubtitleSeatsLaw" 128 yX5_leastPace ∈ zWL := List.mem_filter.mpr ⟨List.mem_append_right _ (List.mem_append_right _ (List.mem_append_right _ (List.mem_append_right _ (List.mem_of_getElem? (i := 104) rfl)))), rfl⟩
theorem im_X5_leastPace : Cond.instanceMethod yX5_leastPace ∈ zWL := List.mem_filter.mpr ⟨List.mem_append_right _ (List.mem_append_right _ (List.mem_append_right _ (List.mem_append_right _ (List.mem_of_getElem? (i := 105) rfl)))), rfl⟩
theorem se_X5_leastPace : Cond.selects "SubtitleSeatsModel" yX5_leastPace yX5_leastPace ∈ zWL := List.mem_filter.mpr ⟨List.mem_append_right _ (List.mem_append_right _ (List.mem_append_right _ (List.mem_append_right _ (List.mem_of_getElem? (i := 106) rfl)))), rfl⟩
theorem cd_X5_leastPace : Cond.code yX5_leastPace prog_7_method_73_code 3 (some .int) ∈ zWL := List.mem_filter.mpr ⟨List.mem_append_right _ (List.mem_append_right _ (List.mem_append_right _ (List.mem_append_right _ (List.mem_of_getElem? (i := 107) rfl)))), rfl⟩
theorem ml_L_132 : Cond.methodLink "SubtitleSeatsLaw" 132 yX5_ifSeated ∈ zWL := List.mem_filter.mpr ⟨List.mem_append_right _ (List.mem_append_right _ (List.mem_append_right _ (List.mem_append_right _ (List.mem_of_getElem? (i := 108) rfl)))), rfl⟩
theorem im_X5_ifSeated : Cond.instanceMethod yX5_ifSeated ∈ zWL := List.mem_filter.mpr ⟨List.mem_append_right _ (List.mem_append_right _ (List.mem_append_right _ (List.mem_append_right _ (List.mem_of_getElem? (i := 109) rfl)))), rfl⟩
theorem se_X5_ifSeated : Cond.selects "SubtitleSeatsModel" yX5_ifSeated yX5_ifSeated ∈ zWL := List.mem_filter.mpr ⟨List.mem_append_right _ (List.mem_append_right _ (List.mem_append_right _ (List.mem_append_right _ (List.mem_of_getElem? (i := 110) rfl)))), rfl⟩
theorem cd_X5_ifSeated : Cond.code yX5_ifSeated prog_7_method_74_code 4 (some .int) ∈ zWL := List.mem_filter.mpr ⟨List.mem_append_right _ (List.mem_append_right _ (List.mem_append_right _ (List.mem_append_right _ (List.mem_of_getElem? (i := 111) rfl)))), rfl⟩
theorem ml_L_136 : Cond.methodLink "SubtitleSeatsLaw" 136 yX5_bestGap ∈ zWL := List.mem_filter.mpr ⟨List.mem_append_right _ (List.mem_append_right _ (List.mem_append_right _ (List.mem_append_right _ (List.mem_of_getElem? (i := 112) rfl)))), rfl⟩
theorem im_X5_bestGap : Cond.instanceMethod yX5_bestGap ∈ zWL := List.mem_filter.mpr ⟨List.mem_append_right _ (List.mem_append_right _ (List.mem_append_right _ (List.mem_append_right _ (List.mem_of_getElem? (i := 113) rfl)))), rfl⟩
theorem se_X5_bestGap : Cond.selects "SubtitleSeatsModel" yX5_bestGap yX5_bestGap ∈ zWL := List.mem_filter.mpr ⟨List.mem_append_right _ (List.mem_append_right _ (List.mem_append_right _ (List.mem_append_right _ (List.mem_of_getElem? (i := 114) rfl)))), rfl⟩
theorem cd_X5_bestGap : Cond.code yX5_bestGap prog_7_method_75_code 6 (some .int) ∈ zWL := List.mem_filter.mpr ⟨List.mem_append_right _ (List.mem_append_right _ (List.mem_append_right _ (List.mem_append_right _ (List.mem_of_getElem? (i := 115) rfl)))), rfl⟩
theorem se_X2_readNumber : Cond.selects "SubtitleSeats$Script" yX2_readNumber yX2_readNumber ∈ zWL := List.mem_filter.mpr ⟨List.mem_append_left _ (List.mem_of_getElem? (i := 0) rfl), rfl⟩
theorem se_X2_readText : Cond.selects "SubtitleSeats$Script" yX2_readText yX2_readText ∈ zWL := List.mem_filter.mpr ⟨List.mem_append_left _ (List.mem_of_getElem? (i := 1) rfl), rfl⟩
theorem se_X2_mayFollowInText : Cond.selects "SubtitleSeats$Script" yX2_mayFollowInText yX2_mayFollowInText ∈ zWL := List.mem_filter.mpr ⟨List.mem_append_left _ (List.mem_of_getElem? (i := 2) rfl), rfl⟩
theorem se_X4_writeReport : Cond.selects "SubtitleSeats" yX4_writeReport yX4_writeReport ∈ zWL := List.mem_filter.mpr ⟨List.mem_append_left _ (List.mem_of_getElem? (i := 3) rfl), rfl⟩
theorem se_X0_openRow : Cond.selects "SubtitleSeats$Film" yX0_openRow yX0_openRow ∈ zWL := List.mem_filter.mpr ⟨List.mem_append_left _ (List.mem_of_getElem? (i := 4) rfl), rfl⟩
theorem se_X0_seatRow : Cond.selects "SubtitleSeats$Film" yX0_seatRow yX0_seatRow ∈ zWL := List.mem_filter.mpr ⟨List.mem_append_left _ (List.mem_of_getElem? (i := 5) rfl), rfl⟩
theorem se_X0_nearestCutTo : Cond.selects "SubtitleSeats$Film" yX0_nearestCutTo yX0_nearestCutTo ∈ zWL := List.mem_filter.mpr ⟨List.mem_append_left _ (List.mem_of_getElem? (i := 6) rfl), rfl⟩
theorem se_X0_hasCutNearItsTimes : Cond.selects "SubtitleSeats$Film" yX0_hasCutNearItsTimes yX0_hasCutNearItsTimes ∈ zWL := List.mem_filter.mpr ⟨List.mem_append_left _ (List.mem_of_getElem? (i := 7) rfl), rfl⟩
theorem se_X3_lineEnd : Cond.selects "SubtitleSeats$Subtitle" yX3_lineEnd yX3_lineEnd ∈ zWL := List.mem_filter.mpr ⟨List.mem_append_left _ (List.mem_of_getElem? (i := 8) rfl), rfl⟩
theorem se_X5_isScript : Cond.selects "SubtitleSeatsModel" yX5_isScript yX5_isScript ∈ zWL := List.mem_filter.mpr ⟨List.mem_append_left _ (List.mem_of_getElem? (i := 9) rfl), rfl⟩
theorem se_X5_takesEntry : Cond.selects "SubtitleSeatsModel" yX5_takesEntry yX5_takesEntry ∈ zWL := List.mem_filter.mpr ⟨List.mem_append_left _ (List.mem_of_getElem? (i := 10) rfl), rfl⟩
theorem se_X5_takesNumber : Cond.selects "SubtitleSeatsModel" yX5_takesNumber yX5_takesNumber ∈ zWL := List.mem_filter.mpr ⟨List.mem_append_left _ (List.mem_of_getElem? (i := 11) rfl), rfl⟩
theorem se_X5_here : Cond.selects "SubtitleSeatsModel" yX5_here yX5_here ∈ zWL := List.mem_filter.mpr ⟨List.mem_append_left _ (List.mem_of_getElem? (i := 12) rfl), rfl⟩
theorem se_X5_takes : Cond.selects "SubtitleSeatsModel" yX5_takes yX5_takes ∈ zWL := List.mem_filter.mpr ⟨List.mem_append_left _ (List.mem_of_getElem? (i := 13) rfl), rfl⟩
theorem se_X5_takesText : Cond.selects "SubtitleSeatsModel" yX5_takesText yX5_takesText ∈ zWL := List.mem_filter.mpr ⟨List.mem_append_left _ (List.mem_of_getElem? (i := 14) rfl), rfl⟩
theorem se_X5_begins : Cond.selects "SubtitleSeatsModel" yX5_begins yX5_begins ∈ zWL := List.mem_filter.mpr ⟨List.mem_append_left _ (List.mem_of_getElem? (i := 15) rfl), rfl⟩
theorem se_X5_reasonNow : Cond.selects "SubtitleSeatsModel" yX5_reasonNow yX5_reasonNow ∈ zWL := List.mem_filter.mpr ⟨List.mem_append_left _ (List.mem_of_getElem? (i := 16) rfl), rfl⟩
theorem se_X5_of : Cond.selects "SubtitleSeatsModel" yX5_of yX5_of ∈ zWL := List.mem_filter.mpr ⟨List.mem_append_left _ (List.mem_of_getElem? (i := 17) rfl), rfl⟩
theorem se_X5_addsEntry : Cond.selects "SubtitleSeatsModel" yX5_addsEntry yX5_addsEntry ∈ zWL := List.mem_filter.mpr ⟨List.mem_append_left _ (List.mem_of_getElem? (i := 18) rfl), rfl⟩
theorem se_X5_opens : Cond.selects "SubtitleSeatsModel" yX5_opens yX5_opens ∈ zWL := List.mem_filter.mpr ⟨List.mem_append_left _ (List.mem_of_getElem? (i := 19) rfl), rfl⟩
theorem se_X5_moves : Cond.selects "SubtitleSeatsModel" yX5_moves yX5_moves ∈ zWL := List.mem_filter.mpr ⟨List.mem_append_left _ (List.mem_of_getElem? (i := 20) rfl), rfl⟩
theorem se_X5_lays : Cond.selects "SubtitleSeatsModel" yX5_lays yX5_lays ∈ zWL := List.mem_filter.mpr ⟨List.mem_append_left _ (List.mem_of_getElem? (i := 21) rfl), rfl⟩
theorem se_X5_records : Cond.selects "SubtitleSeatsModel" yX5_records yX5_records ∈ zWL := List.mem_filter.mpr ⟨List.mem_append_left _ (List.mem_of_getElem? (i := 22) rfl), rfl⟩
theorem se_X5_isSubtitle : Cond.selects "SubtitleSeatsModel" yX5_isSubtitle yX5_isSubtitle ∈ zWL := List.mem_filter.mpr ⟨List.mem_append_left _ (List.mem_of_getElem? (i := 23) rfl), rfl⟩
theorem se_X5_closes : Cond.selects "SubtitleSeatsModel" yX5_closes yX5_closes ∈ zWL := List.mem_filter.mpr ⟨List.mem_append_left _ (List.mem_of_getElem? (i := 24) rfl), rfl⟩
theorem se_X5_canShift : Cond.selects "SubtitleSeatsModel" yX5_canShift yX5_canShift ∈ zWL := List.mem_filter.mpr ⟨List.mem_append_left _ (List.mem_of_getElem? (i := 25) rfl), rfl⟩
theorem se_X5_bestBlank : Cond.selects "SubtitleSeatsModel" yX5_bestBlank yX5_bestBlank ∈ zWL := List.mem_filter.mpr ⟨List.mem_append_left _ (List.mem_of_getElem? (i := 26) rfl), rfl⟩
theorem se_X5_letter : Cond.selects "SubtitleSeatsModel" yX5_letter yX5_letter ∈ zWL := List.mem_filter.mpr ⟨List.mem_append_left _ (List.mem_of_getElem? (i := 27) rfl), rfl⟩
theorem se_X5_kindOf : Cond.selects "SubtitleSeatsModel" yX5_kindOf yX5_kindOf ∈ zWL := List.mem_filter.mpr ⟨List.mem_append_left _ (List.mem_of_getElem? (i := 28) rfl), rfl⟩
theorem se_X5_framesOf : Cond.selects "SubtitleSeatsModel" yX5_framesOf yX5_framesOf ∈ zWL := List.mem_filter.mpr ⟨List.mem_append_left _ (List.mem_of_getElem? (i := 29) rfl), rfl⟩
theorem se_X5_its : Cond.selects "SubtitleSeatsModel" yX5_its yX5_its ∈ zWL := List.mem_filter.mpr ⟨List.mem_append_left _ (List.mem_of_getElem? (i := 30) rfl), rfl⟩
theorem se_X5_splits : Cond.selects "SubtitleSeatsModel" yX5_splits yX5_splits ∈ zWL := List.mem_filter.mpr ⟨List.mem_append_left _ (List.mem_of_getElem? (i := 31) rfl), rfl⟩
theorem se_X5_seatsAll : Cond.selects "SubtitleSeatsModel" yX5_seatsAll yX5_seatsAll ∈ zWL := List.mem_filter.mpr ⟨List.mem_append_left _ (List.mem_of_getElem? (i := 32) rfl), rfl⟩
theorem se_X5_seats : Cond.selects "SubtitleSeatsModel" yX5_seats yX5_seats ∈ zWL := List.mem_filter.mpr ⟨List.mem_append_left _ (List.mem_of_getElem? (i := 33) rfl), rfl⟩
theorem se_X5_needs : Cond.selects "SubtitleSeatsModel" yX5_needs yX5_needs ∈ zWL := List.mem_filter.mpr ⟨List.mem_append_left _ (List.mem_of_getElem? (i := 34) rfl), rfl⟩
theorem se_X5_limitOf : Cond.selects "SubtitleSeatsModel" yX5_limitOf yX5_limitOf ∈ zWL := List.mem_filter.mpr ⟨List.mem_append_left _ (List.mem_of_getElem? (i := 35) rfl), rfl⟩
theorem se_X5_nearestCut : Cond.selects "SubtitleSeatsModel" yX5_nearestCut yX5_nearestCut ∈ zWL := List.mem_filter.mpr ⟨List.mem_append_left _ (List.mem_of_getElem? (i := 36) rfl), rfl⟩
theorem se_X5_placeOfCut : Cond.selects "SubtitleSeatsModel" yX5_placeOfCut yX5_placeOfCut ∈ zWL := List.mem_filter.mpr ⟨List.mem_append_left _ (List.mem_of_getElem? (i := 37) rfl), rfl⟩
theorem se_X5_faultsOf : Cond.selects "SubtitleSeatsModel" yX5_faultsOf yX5_faultsOf ∈ zWL := List.mem_filter.mpr ⟨List.mem_append_left _ (List.mem_of_getElem? (i := 38) rfl), rfl⟩
theorem se_X5_isFast : Cond.selects "SubtitleSeatsModel" yX5_isFast yX5_isFast ∈ zWL := List.mem_filter.mpr ⟨List.mem_append_left _ (List.mem_of_getElem? (i := 39) rfl), rfl⟩
theorem se_X5_isNearCut : Cond.selects "SubtitleSeatsModel" yX5_isNearCut yX5_isNearCut ∈ zWL := List.mem_filter.mpr ⟨List.mem_append_left _ (List.mem_of_getElem? (i := 40) rfl), rfl⟩
theorem se_X5_isWide : Cond.selects "SubtitleSeatsModel" yX5_isWide yX5_isWide ∈ zWL := List.mem_filter.mpr ⟨List.mem_append_left _ (List.mem_of_getElem? (i := 41) rfl), rfl⟩
theorem se_X5_laysLines : Cond.selects "SubtitleSeatsModel" yX5_laysLines yX5_laysLines ∈ zWL := List.mem_filter.mpr ⟨List.mem_append_left _ (List.mem_of_getElem? (i := 42) rfl), rfl⟩
theorem se_X5_faultyBy : Cond.selects "SubtitleSeatsModel" yX5_faultyBy yX5_faultyBy ∈ zWL := List.mem_filter.mpr ⟨List.mem_append_left _ (List.mem_of_getElem? (i := 43) rfl), rfl⟩
theorem se_X5_allFrames : Cond.selects "SubtitleSeatsModel" yX5_allFrames yX5_allFrames ∈ zWL := List.mem_filter.mpr ⟨List.mem_append_left _ (List.mem_of_getElem? (i := 44) rfl), rfl⟩
theorem se_X5_unreadBy : Cond.selects "SubtitleSeatsModel" yX5_unreadBy yX5_unreadBy ∈ zWL := List.mem_filter.mpr ⟨List.mem_append_left _ (List.mem_of_getElem? (i := 45) rfl), rfl⟩
theorem ziX0 : ∀ w ∈ u_ws RX0 TX0 5, w ∈ zWL := by decide +kernel
theorem ziX1 : ∀ w ∈ u_ws RX1 TX1 3, w ∈ zWL := by decide +kernel
theorem ziX2 : ∀ w ∈ u_ws RX2 TX2 8, w ∈ zWL := by decide +kernel
theorem ziX3 : ∀ w ∈ u_ws RX3 TX3 4, w ∈ zWL := by decide +kernel
theorem ziX4 : ∀ w ∈ u_ws RX4 TX4 5, w ∈ zWL := by decide +kernel
theorem ziX5 : ∀ w ∈ u_ws RX5 TX5 16, w ∈ zWL := by decide +kernel
end
section
/-! ===== whole numbers ===== -/
def iN (z : Int) : Int32 := Int32.ofInt z
theorem iN_add (a b : Int) : iN a + iN b = iN (a + b) := (Int32.ofInt_add a b).symm
theorem iN_sub (a b : Int) : iN a - iN b = iN (a - b) := (Int32.ofInt_sub a b).symm
theorem iN_mul (a b : Int) : iN a * iN b = iN (a * b) := (Int32.ofInt_mul a b).symm
theorem iN_neg (a : Int) : - iN a = iN (-a) := (Int32.ofInt_neg a).symm
theorem iN_toInt {z : Int} (h : -2147483648 ≤ z ∧ z < 2147483648) : (iN z).toInt = z := Int32.toInt_ofInt_of_le (by omega) (by omega)
theorem iN_of (x : Int32) : ∃ z : Int, (-2147483648 ≤ z ∧ z < 2147483648) ∧ x = iN z := by
  have h1 := x.le_toInt
  have h2 := x.toInt_lt
  exact ⟨x.toInt, ⟨by omega, by omega⟩, (Int32.ofInt_toInt x).symm⟩
theorem iN_lt {a b : Int} (h : -2147483648 ≤ a ∧ a < 2147483648 ∧ -2147483648 ≤ b ∧ b < 2147483648) : iN a < iN b ↔ a < b := by
  rw [Int32.lt_iff_toInt_lt, iN_toInt ⟨h.1, h.2.1⟩, iN_toInt h.2.2]
theorem iN_le {a b : Int} (h : -2147483648 ≤ a ∧ a < 2147483648 ∧ -2147483648 ≤ b ∧ b < 2147483648) : iN a ≤ iN b ↔ a ≤ b := by
  rw [Int32.le_iff_toInt_le, iN_toInt ⟨h.1, h.2.1⟩, iN_toInt h.2.2]
theorem iN_eq {a b : Int} (h : -2147483648 ≤ a ∧ a < 2147483648 ∧ -2147483648 ≤ b ∧ b < 2147483648) : iN a = iN b ↔ a = b := by
  rw [← Int32.toInt_inj, iN_toInt ⟨h.1, h.2.1⟩, iN_toInt h.2.2]
theorem iN_clamp {z : Int} (h : -2147483648 ≤ z ∧ z < 2147483648) : (iN z).toNatClampNeg = z.toNat := Int32.toNatClampNeg_ofInt_of_le (by omega) (by omega)
theorem iN_zero : (0 : Int32) = iN 0 := rfl
theorem iN_in {z : Int} {n : Nat} (h : 0 ≤ z ∧ z < n) (hn : n < 2147483648) : vp_in (iN z) n := by
  rw [vp_in_iff, iN_toInt (by omega)]
  exact h
theorem iN_div {a b : Int} (h : 0 ≤ a ∧ a < 2147483648 ∧ 0 < b ∧ b < 2147483648) : iN a / iN b = iN (a / b) := by
  have hq : 0 ≤ a / b := Int.ediv_nonneg h.1 (by omega)
  have hq2 : a / b ≤ a := Int.ediv_le_self b h.1
  rw [← Int32.toInt_inj, Int32.toInt_div_of_ne_right, iN_toInt (by omega), iN_toInt (by omega), iN_toInt (by omega), Int.tdiv_eq_ediv_of_nonneg h.1]
  intro hb
  have h3 : (iN b).toInt = (-1 : Int32).toInt := by rw [hb]
  rw [iN_toInt (by omega)] at h3
  have h4 : (-1 : Int32).toInt = -1 := by decide
  omega
/-! ===== the world of numbers: field, object, place ===== -/
abbrev Wd : Type := Nat → Nat → Nat → Int
def gup (G : Wd) (f a i : Nat) (v : Int) : Wd := fun f' a' i' => if f' = f ∧ a' = a ∧ i' = i then v else G f' a' i'
theorem gup_eq (G : Wd) (f a i : Nat) (v : Int) (f' a' i' : Nat) : gup G f a i v f' a' i' = if f' = f ∧ a' = a ∧ i' = i then v else G f' a' i' := rfl
theorem gup_s (G : Wd) (f a i : Nat) (v : Int) : gup G f a i v f a i = v := by simp [gup]
theorem gup_f (G : Wd) (f a i : Nat) (v : Int) {f' : Nat} (a' i' : Nat) (h : f' ≠ f) : gup G f a i v f' a' i' = G f' a' i' := by simp [gup, h]
theorem gup_a (G : Wd) (f a i : Nat) (v : Int) {f' a' : Nat} (i' : Nat) (h : a' ≠ a) : gup G f a i v f' a' i' = G f' a' i' := by simp [gup, h]
theorem gup_i (G : Wd) (f a i : Nat) (v : Int) {f' a' i' : Nat} (h : i' ≠ i) : gup G f a i v f' a' i' = G f' a' i' := by simp [gup, h]
/-- addresses, classes, array classes, tables -/
abbrev En : Type := (Nat → Nat) × va_G × (Nat → ClassId) × (Nat → Nat)
abbrev ci_ (E : En) (k n : Nat) (f : Nat → Int32) : va_E := .inl (E.2.2.1 k, n, .inl f)
abbrev cr_ (E : En) (k n : Nat) (f : Nat → Option Nat) : va_E := .inl (E.2.2.1 k, n, .inr (.inr (.inr (.inr f))))
/-- what the cell of number c holds -/
def cont (E : En) (G : Wd) (c : Nat) : va_E :=
  if c = 0 then .inr (4, [.ref (E.1 14), .ref (E.1 15), .ref (E.1 1), .ref (E.1 3), .ref (E.1 5)])
  else if c = 1 then .inr (1, [.ref (E.1 2), .int (iN (G 9 0 0)), .int (iN (G 10 0 0))])
  else if c = 2 then cr_ E 3 4 (fun i => some (E.1 (16 + i)))
  else if c = 3 then .inr (2, [.ref (E.1 4), .int (iN (G 12 0 0)), .int (iN (G 13 0 0)), .int (iN (G 14 0 0)), .int (iN (G 15 0 0)), .int (iN (G 16 0 0)), .int (iN (G 17 0 0)), .int (iN (G 18 0 0))])
  else if c = 4 then ci_ E 1 80 (fun i => iN (G 11 0 i))
  else if c = 5 then ci_ E 0 3 (fun i => iN (G 19 0 i))
  else if c = 6 then .inr (5, [.ref (E.1 7), .ref (E.1 8), .ref (E.1 9), .ref (E.1 10), .int (iN (G 27 0 0)), .ref (E.1 11), .int (iN (G 28 0 0)), .ref (E.1 12), .int (iN (G 29 0 0)), .int (iN (G 30 0 0)), .int (iN (G 31 0 0)), .int (iN (G 32 0 0)), .int (iN (G 33 0 0)), .int (iN (G 34 0 0)), .int (iN (G 35 0 0)), .ref (E.1 13)])
  else if c = 7 then ci_ E 0 880 (fun i => iN (G 20 0 i))
  else if c = 8 then ci_ E 0 880 (fun i => iN (G 21 0 i))
  else if c = 9 then ci_ E 0 880 (fun i => iN (G 22 0 i))
  else if c = 10 then ci_ E 0 3520 (fun i => iN (G 23 0 i))
  else if c = 11 then ci_ E 0 80 (fun i => iN (G 24 0 i))
  else if c = 12 then ci_ E 0 40 (fun i => iN (G 25 0 i))
  else if c = 13 then ci_ E 0 3 (fun i => iN (G 26 0 i))
  else if c < 20 then .inr (0, [.ref (E.1 (20 + (c - 14))), .int (iN (G 0 (c - 14) 0)), .ref (E.1 (26 + (c - 14))), .int (iN (G 1 (c - 14) 0)), .ref (E.1 (32 + (c - 14)))])
  else if c < 26 then cr_ E 2 20 (fun i => some (E.1 (38 + (G 4 (c - 20) i).toNat)))
  else if c < 32 then ci_ E 0 12 (fun i => iN (G 2 (c - 26) i))
  else if c < 38 then ci_ E 0 6 (fun i => iN (G 3 (c - 32) i))
  else if c < 158 then .inr (3, [.int (iN (G 5 (c - 38) 0)), .int (iN (G 6 (c - 38) 0)), .int (iN (G 7 (c - 38) 0)), .ref (E.1 (158 + (c - 38)))])
  else ci_ E 1 40 (fun i => iN (G 8 (c - 158) i))
/-- the cell in which a number lives -/
def cel (f a : Nat) : Nat :=
  if f = 0 then 14 + a else if f = 1 then 14 + a else if f = 2 then 26 + a else if f = 3 then 32 + a else if f = 4 then 20 + a
  else if f ≤ 7 then 38 + a else if f = 8 then 158 + a else if f ≤ 10 then 1 else if f = 11 then 4 else if f ≤ 18 then 3 else if f = 19 then 5
  else if f ≤ 26 then f - 13 else 6
/-! ===== cells by their kinds ===== -/
theorem co_main (E : En) (G : Wd) : cont E G 0 = .inr (4, [.ref (E.1 14), .ref (E.1 15), .ref (E.1 1), .ref (E.1 3), .ref (E.1 5)]) := rfl
theorem co_hist (E : En) (G : Wd) : cont E G 1 = .inr (1, [.ref (E.1 2), .int (iN (G 9 0 0)), .int (iN (G 10 0 0))]) := rfl
theorem co_states (E : En) (G : Wd) : cont E G 2 = cr_ E 3 4 (fun i => some (E.1 (16 + i))) := rfl
theorem co_scr (E : En) (G : Wd) : cont E G 3 = .inr (2, [.ref (E.1 4), .int (iN (G 12 0 0)), .int (iN (G 13 0 0)), .int (iN (G 14 0 0)), .int (iN (G 15 0 0)), .int (iN (G 16 0 0)), .int (iN (G 17 0 0)), .int (iN (G 18 0 0))]) := rfl
theorem co_chars (E : En) (G : Wd) : cont E G 4 = ci_ E 1 80 (fun i => iN (G 11 0 i)) := rfl
theorem co_rep (E : En) (G : Wd) : cont E G 5 = ci_ E 0 3 (fun i => iN (G 19 0 i)) := rfl
theorem co_mod (E : En) (G : Wd) : cont E G 6 = .inr (5, [.ref (E.1 7), .ref (E.1 8), .ref (E.1 9), .ref (E.1 10), .int (iN (G 27 0 0)), .ref (E.1 11), .int (iN (G 28 0 0)), .ref (E.1 12), .int (iN (G 29 0 0)), .int (iN (G 30 0 0)), .int (iN (G 31 0 0)), .int (iN (G 32 0 0)), .int (iN (G 33 0 0)), .int (iN (G 34 0 0)), .int (iN (G 35 0 0)), .ref (E.1 13)]) := rfl
theorem co_s (E : En) (G : Wd) : cont E G 7 = ci_ E 0 880 (fun i => iN (G 20 0 i)) := rfl
theorem co_aside (E : En) (G : Wd) : cont E G 8 = ci_ E 0 880 (fun i => iN (G 21 0 i)) := rfl
theorem co_before (E : En) (G : Wd) : cont E G 9 = ci_ E 0 880 (fun i => iN (G 22 0 i)) := rfl
theorem co_past (E : En) (G : Wd) : cont E G 10 = ci_ E 0 3520 (fun i => iN (G 23 0 i)) := rfl
theorem co_mscr (E : En) (G : Wd) : cont E G 11 = ci_ E 0 80 (fun i => iN (G 24 0 i)) := rfl
theorem co_lines (E : En) (G : Wd) : cont E G 12 = ci_ E 0 40 (fun i => iN (G 25 0 i)) := rfl
theorem co_mrep (E : En) (G : Wd) : cont E G 13 = ci_ E 0 3 (fun i => iN (G 26 0 i)) := rfl
theorem co_film (E : En) (G : Wd) {q : Nat} (h : q < 6) : cont E G (14 + q) = .inr (0, [.ref (E.1 (20 + q)), .int (iN (G 0 q 0)), .ref (E.1 (26 + q)), .int (iN (G 1 q 0)), .ref (E.1 (32 + q))]) := by
  have e : 14 + q - 14 = q := by omega
  unfold cont
  rw [if_neg (by omega), if_neg (by omega), if_neg (by omega), if_neg (by omega), if_neg (by omega), if_neg (by omega), if_neg (by omega), if_neg (by omega), if_neg (by omega), if_neg (by omega), if_neg (by omega), if_neg (by omega), if_neg (by omega), if_neg (by omega), if_pos (by omega), e]
theorem co_rows (E : En) (G : Wd) {q : Nat} (h : q < 6) : cont E G (20 + q) = cr_ E 2 20 (fun i => some (E.1 (38 + (G 4 q i).toNat))) := by
  have e : 20 + q - 20 = q := by omega
  unfold cont
  rw [if_neg (by omega), if_neg (by omega), if_neg (by omega), if_neg (by omega), if_neg (by omega), if_neg (by omega), if_neg (by omega), if_neg (by omega), if_neg (by omega), if_neg (by omega), if_neg (by omega), if_neg (by omega), if_neg (by omega), if_neg (by omega), if_neg (by omega), if_pos (by omega), e]
theorem co_cuts (E : En) (G : Wd) {q : Nat} (h : q < 6) : cont E G (26 + q) = ci_ E 0 12 (fun i => iN (G 2 q i)) := by
  have e : 26 + q - 26 = q := by omega
  unfold cont
  rw [if_neg (by omega), if_neg (by omega), if_neg (by omega), if_neg (by omega), if_neg (by omega), if_neg (by omega), if_neg (by omega), if_neg (by omega), if_neg (by omega), if_neg (by omega), if_neg (by omega), if_neg (by omega), if_neg (by omega), if_neg (by omega), if_neg (by omega), if_neg (by omega), if_pos (by omega), e]
theorem co_vals (E : En) (G : Wd) {q : Nat} (h : q < 6) : cont E G (32 + q) = ci_ E 0 6 (fun i => iN (G 3 q i)) := by
  have e : 32 + q - 32 = q := by omega
  unfold cont
  rw [if_neg (by omega), if_neg (by omega), if_neg (by omega), if_neg (by omega), if_neg (by omega), if_neg (by omega), if_neg (by omega), if_neg (by omega), if_neg (by omega), if_neg (by omega), if_neg (by omega), if_neg (by omega), if_neg (by omega), if_neg (by omega), if_neg (by omega), if_neg (by omega), if_neg (by omega), if_pos (by omega), e]
theorem co_sub (E : En) (G : Wd) {q : Nat} (h : q < 120) : cont E G (38 + q) = .inr (3, [.int (iN (G 5 q 0)), .int (iN (G 6 q 0)), .int (iN (G 7 q 0)), .ref (E.1 (158 + q))]) := by
  have e : 38 + q - 38 = q := by omega
  unfold cont
  rw [if_neg (by omega), if_neg (by omega), if_neg (by omega), if_neg (by omega), if_neg (by omega), if_neg (by omega), if_neg (by omega), if_neg (by omega), if_neg (by omega), if_neg (by omega), if_neg (by omega), if_neg (by omega), if_neg (by omega), if_neg (by omega), if_neg (by omega), if_neg (by omega), if_neg (by omega), if_neg (by omega), if_pos (by omega), e]
theorem co_text (E : En) (G : Wd) (q : Nat) : cont E G (158 + q) = ci_ E 1 40 (fun i => iN (G 8 q i)) := by
  have e : 158 + q - 158 = q := by omega
  unfold cont
  rw [if_neg (by omega), if_neg (by omega), if_neg (by omega), if_neg (by omega), if_neg (by omega), if_neg (by omega), if_neg (by omega), if_neg (by omega), if_neg (by omega), if_neg (by omega), if_neg (by omega), if_neg (by omega), if_neg (by omega), if_neg (by omega), if_neg (by omega), if_neg (by omega), if_neg (by omega), if_neg (by omega), if_neg (by omega), e]
theorem cont_congr (E : En) {G G' : Wd} {c : Nat} (h : ∀ f a i, cel f a = c → G' f a i = G f a i) : cont E G' c = cont E G c := by
  by_cases h0 : c = 0
  · subst h0
    rfl
  by_cases h1 : c = 1
  · subst h1
    rw [co_hist, co_hist, h 9 0 0 rfl, h 10 0 0 rfl]
  by_cases h2 : c = 2
  · subst h2
    rfl
  by_cases h3 : c = 3
  · subst h3
    rw [co_scr, co_scr, h 12 0 0 rfl, h 13 0 0 rfl, h 14 0 0 rfl, h 15 0 0 rfl, h 16 0 0 rfl, h 17 0 0 rfl, h 18 0 0 rfl]
  by_cases h4 : c = 4
  · subst h4
    rw [co_chars, co_chars, show (fun i => iN (G' 11 0 i)) = (fun i => iN (G 11 0 i)) from funext fun i => by rw [h 11 0 i rfl]]
  by_cases h5 : c = 5
  · subst h5
    rw [co_rep, co_rep, show (fun i => iN (G' 19 0 i)) = (fun i => iN (G 19 0 i)) from funext fun i => by rw [h 19 0 i rfl]]
  by_cases h6 : c = 6
  · subst h6
    rw [co_mod, co_mod, h 27 0 0 rfl, h 28 0 0 rfl, h 29 0 0 rfl, h 30 0 0 rfl, h 31 0 0 rfl, h 32 0 0 rfl, h 33 0 0 rfl, h 34 0 0 rfl, h 35 0 0 rfl]
  by_cases h7 : c = 7
  · subst h7
    rw [co_s, co_s, show (fun i => iN (G' 20 0 i)) = (fun i => iN (G 20 0 i)) from funext fun i => by rw [h 20 0 i rfl]]
  by_cases h8 : c = 8
  · subst h8
    rw [co_aside, co_aside, show (fun i => iN (G' 21 0 i)) = (fun i => iN (G 21 0 i)) from funext fun i => by rw [h 21 0 i rfl]]
  by_cases h9 : c = 9
  · subst h9
    rw [co_before, co_before, show (fun i => iN (G' 22 0 i)) = (fun i => iN (G 22 0 i)) from funext fun i => by rw [h 22 0 i rfl]]
  by_cases h10 : c = 10
  · subst h10
    rw [co_past, co_past, show (fun i => iN (G' 23 0 i)) = (fun i => iN (G 23 0 i)) from funext fun i => by rw [h 23 0 i rfl]]
  by_cases h11 : c = 11
  · subst h11
    rw [co_mscr, co_mscr, show (fun i => iN (G' 24 0 i)) = (fun i => iN (G 24 0 i)) from funext fun i => by rw [h 24 0 i rfl]]
  by_cases h12 : c = 12
  · subst h12
    rw [co_lines, co_lines, show (fun i => iN (G' 25 0 i)) = (fun i => iN (G 25 0 i)) from funext fun i => by rw [h 25 0 i rfl]]
  by_cases h13 : c = 13
  · subst h13
    rw [co_mrep, co_mrep, show (fun i => iN (G' 26 0 i)) = (fun i => iN (G 26 0 i)) from funext fun i => by rw [h 26 0 i rfl]]
  by_cases g20 : c < 20
  · obtain ⟨q, rfl⟩ : ∃ q, c = 14 + q := ⟨c - 14, by omega⟩
    rw [co_film E G' (by omega), co_film E G (by omega), h 0 q 0 rfl, h 1 q 0 rfl]
  by_cases g26 : c < 26
  · obtain ⟨q, rfl⟩ : ∃ q, c = 20 + q := ⟨c - 20, by omega⟩
    rw [co_rows E G' (by omega), co_rows E G (by omega), show (fun i => some (E.1 (38 + (G' 4 q i).toNat))) = (fun i => some (E.1 (38 + (G 4 q i).toNat))) from funext fun i => by rw [h 4 q i rfl]]
  by_cases g32 : c < 32
  · obtain ⟨q, rfl⟩ : ∃ q, c = 26 + q := ⟨c - 26, by omega⟩
    rw [co_cuts E G' (by omega), co_cuts E G (by omega), show (fun i => iN (G' 2 q i)) = (fun i => iN (G 2 q i)) from funext fun i => by rw [h 2 q i rfl]]
  by_cases g38 : c < 38
  · obtain ⟨q, rfl⟩ : ∃ q, c = 32 + q := ⟨c - 32, by omega⟩
    rw [co_vals E G' (by omega), co_vals E G (by omega), show (fun i => iN (G' 3 q i)) = (fun i => iN (G 3 q i)) from funext fun i => by rw [h 3 q i rfl]]
  by_cases g158 : c < 158
  · obtain ⟨q, rfl⟩ : ∃ q, c = 38 + q := ⟨c - 38, by omega⟩
    rw [co_sub E G' (by omega), co_sub E G (by omega), h 5 q 0 rfl, h 6 q 0 rfl, h 7 q 0 rfl]
  obtain ⟨q, rfl⟩ : ∃ q, c = 158 + q := ⟨c - 158, by omega⟩
  rw [co_text E G' q, co_text E G q, show (fun i => iN (G' 8 q i)) = (fun i => iN (G 8 q i)) from funext fun i => by rw [h 8 q i rfl]]
theorem cont_gup (E : En) (G : Wd) {f a i : Nat} {v : Int} {c : Nat} (h : c ≠ cel f a) : cont E (gup G f a i v) c = cont E G c :=
  cont_congr E (fun f' a' i' h2 => by
    rw [gup_eq, if_neg]
    rintro ⟨rfl, rfl, rfl⟩
    exact h h2.symm)
def ws_ (E : En) (G : Wd) : va_W := (List.range 278).map (fun c => (E.1 c, cont E G c))
theorem ws_len (E : En) (G : Wd) : (ws_ E G).length = 278 := by simp [ws_]
theorem ws_get (E : En) (G : Wd) {c : Nat} (h : c < 278) : (ws_ E G)[c]? = some (E.1 c, cont E G c) := by
  simp [ws_, h]
theorem ws_set (E : En) {G G' : Wd} {c : Nat} {e : va_E} (h : c < 278) (he : cont E G' c = e) (ho : ∀ c', c' ≠ c → cont E G' c' = cont E G c') : (ws_ E G).set c (E.1 c, e) = ws_ E G' := by
  apply List.ext_getElem?
  intro j
  by_cases hj : j < 278
  · rw [ws_get E G' hj]
    by_cases hc : j = c
    · subst hc
      rw [List.getElem?_set_self (by rw [ws_len]; exact h), he]
    · rw [List.getElem?_set_ne (Ne.symm hc), ws_get E G hj, ho j hc]
  · rw [List.getElem?_eq_none (by rw [List.length_set, ws_len]; omega), List.getElem?_eq_none (by rw [ws_len]; omega)]
theorem ws_up (E : En) {G : Wd} {f a i : Nat} {v : Int} {c : Nat} {e : va_E} (h : c < 278) (hc : cel f a = c) (he : cont E (gup G f a i v) c = e) : (ws_ E G).set c (E.1 c, e) = ws_ E (gup G f a i v) :=
  ws_set E h he (fun c' h2 => cont_gup E G (by rw [hc]; exact h2))
end
section
theorem zc_eq {x y : Int} (h : -2147483648 ≤ x ∧ x < 2147483648 ∧ -2147483648 ≤ y ∧ y < 2147483648) (q : iN x = iN y) : x = y := (iN_eq h).mp q
theorem zn_eq {x y : Int} (h : -2147483648 ≤ x ∧ x < 2147483648 ∧ -2147483648 ≤ y ∧ y < 2147483648) (q : ¬ iN x = iN y) : ¬ x = y := fun e => q ((iN_eq h).mpr e)
theorem zc_ne {x y : Int} (h : -2147483648 ≤ x ∧ x < 2147483648 ∧ -2147483648 ≤ y ∧ y < 2147483648) (q : ¬ iN x = iN y) : ¬ x = y := fun e => q ((iN_eq h).mpr e)
theorem zn_ne {x y : Int} (h : -2147483648 ≤ x ∧ x < 2147483648 ∧ -2147483648 ≤ y ∧ y < 2147483648) (q : iN x = iN y) : x = y := (iN_eq h).mp q
theorem zc_lt {x y : Int} (h : -2147483648 ≤ x ∧ x < 2147483648 ∧ -2147483648 ≤ y ∧ y < 2147483648) (q : iN x < iN y) : x < y := (iN_lt h).mp q
theorem zn_lt {x y : Int} (h : -2147483648 ≤ x ∧ x < 2147483648 ∧ -2147483648 ≤ y ∧ y < 2147483648) (q : ¬ iN x < iN y) : y ≤ x := Int.not_lt.mp (fun e => q ((iN_lt h).mpr e))
theorem zc_ge {x y : Int} (h : -2147483648 ≤ x ∧ x < 2147483648 ∧ -2147483648 ≤ y ∧ y < 2147483648) (q : iN y ≤ iN x) : y ≤ x := (iN_le ⟨h.2.2.1, h.2.2.2, h.1, h.2.1⟩).mp q
theorem zn_ge {x y : Int} (h : -2147483648 ≤ x ∧ x < 2147483648 ∧ -2147483648 ≤ y ∧ y < 2147483648) (q : ¬ iN y ≤ iN x) : x < y := Int.not_le.mp (fun e => q ((iN_le ⟨h.2.2.1, h.2.2.2, h.1, h.2.1⟩).mpr e))
theorem zc_gt {x y : Int} (h : -2147483648 ≤ x ∧ x < 2147483648 ∧ -2147483648 ≤ y ∧ y < 2147483648) (q : iN y < iN x) : y < x := (iN_lt ⟨h.2.2.1, h.2.2.2, h.1, h.2.1⟩).mp q
theorem zn_gt {x y : Int} (h : -2147483648 ≤ x ∧ x < 2147483648 ∧ -2147483648 ≤ y ∧ y < 2147483648) (q : ¬ iN y < iN x) : x ≤ y := Int.not_lt.mp (fun e => q ((iN_lt ⟨h.2.2.1, h.2.2.2, h.1, h.2.1⟩).mpr e))
theorem zc_le {x y : Int} (h : -2147483648 ≤ x ∧ x < 2147483648 ∧ -2147483648 ≤ y ∧ y < 2147483648) (q : iN x ≤ iN y) : x ≤ y := (iN_le h).mp q
theorem zn_le {x y : Int} (h : -2147483648 ≤ x ∧ x < 2147483648 ∧ -2147483648 ≤ y ∧ y < 2147483648) (q : ¬ iN x ≤ iN y) : y < x := Int.not_le.mp (fun e => q ((iN_le h).mpr e))
/-! ===== words; what a state of ours holds ===== -/

def lowT : Nat → Int := fun j => if j = 0 then 5 else if j = 1 then 0 else if j = 2 then 5 else if j = 3 then 50 else if j = 4 then 10 else 0
def higT : Nat → Int := fun j => if j = 0 then 40 else if j = 1 then 20 else if j = 2 then 50 else if j = 3 then 250 else if j = 4 then 40 else 12
/-- our addresses -/
def AE (E : En) : Nat → Prop := fun q => ∃ c : Nat, c < 278 ∧ q = E.1 c
def tyE (E : En) : List (ClassId × FieldType) := [(E.2.2.1 0, .int), (E.2.2.1 1, .char), (E.2.2.1 2, .object "SubtitleSeats$Subtitle"), (E.2.2.1 3, .object "SubtitleSeats$Film")]
def EOk (E : En) : Prop := ∀ c c' : Nat, c < 278 → c' < 278 → E.1 c = E.1 c' → c = c'
theorem EOk.D {E : En} (h : EOk E) (G : Wd) : va_D (AE E) (ws_ E G) := by
  refine ⟨fun i j x y hx hy hxy => ?_, fun k q hk => ?_⟩
  · have hi : i < 278 := by have := (List.getElem?_eq_some_iff.mp hx).1; rwa [ws_len] at this
    have hj : j < 278 := by have := (List.getElem?_eq_some_iff.mp hy).1; rwa [ws_len] at this
    rw [ws_get E G hi] at hx
    rw [ws_get E G hj] at hy
    cases hx
    cases hy
    exact h i j hi hj hxy
  · have hi : k < 278 := by have := (List.getElem?_eq_some_iff.mp hk).1; rwa [ws_len] at this
    rw [ws_get E G hi] at hk
    cases hk
    exact ⟨k, hi, rfl⟩
/-- what does not move: classes, tables -/
def KE (E : En) (U : State) (H : Heap) : Prop := EOk E ∧ va_K E.2.1 vwCl (tyE E) U ∧ va_Z "SubtitleSeats" "LOWEST" "[I" (.ref (E.2.2.2 0)) (AE E) U H ∧ va_T .int (E.2.2.2 0) 6 (fun j => .int (iN (lowT j))) (AE E) U H ∧ va_Z "SubtitleSeats" "HIGHEST" "[I" (.ref (E.2.2.2 1)) (AE E) U H ∧ va_T .int (E.2.2.2 1) 6 (fun j => .int (iN (higT j))) (AE E) U H
theorem KE.moved {E : En} {u U : State} {H : Heap} (hvm : u.vm.Alike U.vm) (h : KE E u H) : KE E U H :=
  ⟨h.1, h.2.1.moved hvm, h.2.2.1.moved hvm, h.2.2.2.1.moved hvm, h.2.2.2.2.1.moved hvm, h.2.2.2.2.2.moved hvm⟩
theorem KE.kept {E : En} {U : State} {H H1 : Heap} (h : KE E U H) (hq : ∀ a : Nat, a < H.size → ¬ AE E a → H1[a]? = H[a]?) : KE E U H1 :=
  ⟨h.1, h.2.1, h.2.2.1.kept hq, h.2.2.2.1.kept hq, h.2.2.2.2.1.kept hq, h.2.2.2.2.2.kept hq⟩
def Ok_ (E : En) (G : Wd) (U : State) : Prop := va_P E.2.1 vwCl (ws_ E G) U.heap ∧ KE E U U.heap
def Wv (E : En) (G : Wd) (t : State) : Prop := va_P E.2.1 vwCl (ws_ E G) t.heap
abbrev zw (y : MethodName) (cc : ByteArray) (nL : Nat) (ret : Option FieldType) : List Cond := Cond.code y cc nL ret :: zWL
abbrev zr (fr lo : Nat) : Room := { frames := fr, cells := 0, slots := 0, locals := lo }
/-- the contracts: with an int (or boolean), with nothing, with a float -/
def Cti (E : En) (y : MethodName) (cc : ByteArray) (nL : Nat) (ty : FieldType) (fr lo : Nat) (av : List Value) (G : Wd) (post : Int → Wd → Prop) : Prop :=
  ∀ l : Launch, Met l y (zw y cc nL (some ty)) (zr fr lo) (va_Pc av (Ok_ E G)) (va_Qi (fun r G' => ∃ z : Int, r = iN z ∧ post z G') (Wv E) (AE E)) 0 0 (AE E)
def Ctv (E : En) (y : MethodName) (cc : ByteArray) (nL : Nat) (fr lo : Nat) (av : List Value) (G : Wd) (post : Wd → Prop) : Prop :=
  ∀ l : Launch, Met l y (zw y cc nL none) (zr fr lo) (va_Pc av (Ok_ E G)) (va_Qv post (Wv E) (AE E)) 0 0 (AE E)
def Ctf (E : En) (y : MethodName) (cc : ByteArray) (nL : Nat) (fr lo : Nat) (av : List Value) (G : Wd) (post : UInt32 → Wd → Prop) : Prop :=
  ∀ l : Launch, Met l y (zw y cc nL (some .float)) (zr fr lo) (va_Pc av (Ok_ E G)) (va_Qf post (Wv E) (AE E)) 0 0 (AE E)
/-! ===== locals ===== -/
def la_ (vs : List (Option Value)) : List (Nat × Value) := (List.range vs.length).filterMap (fun i => (vs.getD i none).map (fun v => (i, v)))
theorem la_mem {vs : List (Option Value)} {i : Nat} {v : Value} : (i, v) ∈ la_ vs ↔ vs[i]? = some (some v) := by
  unfold la_
  rw [List.mem_filterMap]
  constructor
  · rintro ⟨j, hj, hv⟩
    rw [List.mem_range] at hj
    rw [List.getD_eq_getElem?_getD, List.getElem?_eq_getElem hj, Option.getD_some] at hv
    cases hx : vs[j] with
    | none => rw [hx] at hv; cases hv
    | some w =>
      rw [hx] at hv
      have hv := Option.some.inj hv
      cases hv
      rw [List.getElem?_eq_getElem hj, hx]
  · intro h
    have hj := (List.getElem?_eq_some_iff.mp h).1
    refine ⟨i, List.mem_range.mpr hj, ?_⟩
    rw [List.getD_eq_getElem?_getD, h]
    rfl
def Lo (nL : Nat) (vs : List (Option Value)) (ls : Array Slot) : Prop := lv_has ls nL (la_ vs) ∧ ∀ (i : Nat) (v : Value), vs[i]? = some (some v) → v.category = 1
theorem Lo.at_ {nL : Nat} {vs : List (Option Value)} {ls : Array Slot} (h : Lo nL vs ls) {i : Nat} {v : Value} (hi : vs[i]? = some (some v)) : ls[i]? = some (.val v) :=
  h.1.2.2 (i, v) (la_mem.mpr hi)
theorem lv_has.mono {ls : Array Slot} {nL : Nat} {l l' : List (Nat × Value)} (h : lv_has ls nL l) (hs : ∀ q ∈ l', q ∈ l) : lv_has ls nL l' := ⟨h.1, h.2.1, fun q hq => h.2.2 q (hs q hq)⟩
theorem Lo.set {nL : Nat} {vs : List (Option Value)} {ls ls' : Array Slot} {i : Nat} {x : Value} (h : Lo nL vs ls) (hc : x.category = 1) (h' : lv_has ls' nL ((i, x) :: (la_ vs).filter (fun q => !(q.1 == i) && !(q.1 + 1 == i && q.2.category == 2)))) : Lo nL (vs.set i (some x)) ls' := by
  constructor
  · refine h'.mono ?_
    rintro ⟨j, v⟩ hq
    rw [la_mem] at hq
    by_cases hj : j = i
    · subst hj
      have hl : j < vs.length := by
        have := (List.getElem?_eq_some_iff.mp hq).1
        rwa [List.length_set] at this
      rw [List.getElem?_set_self hl] at hq
      cases hq
      exact List.mem_cons_self
    · rw [List.getElem?_set_ne (Ne.symm hj)] at hq
      refine List.mem_cons_of_mem _ (List.mem_filter.mpr ⟨la_mem.mpr hq, ?_⟩)
      simp [hj, h.2 j v hq]
  · intro j v hq
    by_cases hj : j = i
    · subst hj
      have hl : j < vs.length := by
        have := (List.getElem?_eq_some_iff.mp hq).1
        rwa [List.length_set] at this
      rw [List.getElem?_set_self hl] at hq
      cases hq
      exact hc
    · rw [List.getElem?_set_ne (Ne.symm hj)] at hq
      exact h.2 j v hq
theorem Lo.sub {nL : Nat} {vs vs' : List (Option Value)} {ls : Array Slot} (h : Lo nL vs ls) (hs : ∀ (i : Nat) (v : Value), vs'[i]? = some (some v) → vs[i]? = some (some v)) : Lo nL vs' ls :=
  ⟨h.1.mono (fun q hq => by obtain ⟨i, v⟩ := q; exact la_mem.mpr (hs i v (la_mem.mp hq))), fun i v hv => h.2 i v (hs i v hv)⟩
theorem Lo.size {nL : Nat} {vs : List (Option Value)} {ls : Array Slot} (h : Lo nL vs ls) : ls.size = nL := h.1.1
/-! ===== the judgement ===== -/
section ZZ
variable {p : Program} {l : Launch} {e : Env} {s : State} {m : MethodId} {args : Array Value} {below : List Frame} {meth : Method} {c : Code} {own : String} {cc : ByteArray} {nL fr lo ce sl : Nat} {rt : Option FieldType} {E : En}
/-- where a method is being walked -/
def Cx (p : Program) (s : State) (m : MethodId) (args : Array Value) (meth : Method) (c : Code) (own : String) (cc : ByteArray) (nL : Nat) (rt : Option FieldType) (E : En) : Prop :=
  p.tables.exec = Jvm.exec ∧ c.code = cc ∧ c.maxLocals = nL ∧ s.vm.findClass own = some m.cls ∧ (∀ w ∈ zWL, w.before args s = true) ∧ meth.sig.returnType = rt ∧ meth.locks = false ∧ KE E s s.heap
def Z (p : Program) (l : Launch) (e : Env) (R : Room) (s : State) (m : MethodId) (args : Array Value) (below : List Frame) (meth : Method) (c : Code) (nL : Nat) (ce sl : Nat) (E : En) (Q : State → Prop) (G : Wd) (pc : Nat) (vs : List (Option Value)) (st : List Value) : Prop :=
  ∀ (H : Heap) (locs : List Loc) (ls : Array Slot), va_P E.2.1 vwCl (ws_ E G) H → va_S (AE E) s.heap H locs → Lo nL vs ls → W p l e R s m args below meth c H locs ce sl Q (F0 m pc ls st)
variable {R : Room} {Q : State → Prop} {G : Wd} {pc : Nat} {vs : List (Option Value)} {st : List Value}
theorem Z.loc {vs' : List (Option Value)} (K : Z p l e R s m args below meth c nL ce sl E Q G pc vs' st) (hs : ∀ (i : Nat) (v : Value), vs'[i]? = some (some v) → vs[i]? = some (some v)) : Z p l e R s m args below meth c nL ce sl E Q G pc vs st :=
  fun H locs ls hP hS hL => K H locs ls hP hS (hL.sub hs)
theorem Z.wd {G' : Wd} (K : Z p l e R s m args below meth c nL ce sl E Q G' pc vs st) (h : G = G') : Z p l e R s m args below meth c nL ce sl E Q G pc vs st := h ▸ K
theorem Z.stk {st' : List Value} (K : Z p l e R s m args below meth c nL ce sl E Q G pc vs st') (h : st = st') : Z p l e R s m args below meth c nL ce sl E Q G pc vs st := h ▸ K
theorem Z.top {x y : Int} (h : x = y) (K : Z p l e R s m args below meth c nL ce sl E Q G pc vs (.int (iN y) :: st)) : Z p l e R s m args below meth c nL ce sl E Q G pc vs (.int (iN x) :: st) := h ▸ K
/-- constants and locals -/
theorem z_iconst (cx : Cx p s m args meth c own cc nL rt E) {n : Int} (hd : decode cc pc = .ok (.iconst n, 1)) (K : Z p l e R s m args below meth c nL ce sl E Q G (pc + 1) vs (.int (iN n) :: st)) : Z p l e R s m args below meth c nL ce sl E Q G pc vs st :=
  fun H locs ls hP hS hL => lv_iconst cx.1 cx.2.1 hd rfl (K H locs ls hP hS hL)
theorem z_bipush (cx : Cx p s m args meth c own cc nL rt E) {n : Int} (hd : decode cc pc = .ok (.bipush n, 2)) (K : Z p l e R s m args below meth c nL ce sl E Q G (pc + 2) vs (.int (iN n) :: st)) (hn : (Int8.ofInt n).toInt32 = iN n := by decide +kernel) : Z p l e R s m args below meth c nL ce sl E Q G pc vs st :=
  fun H locs ls hP hS hL => lv_bipush cx.1 cx.2.1 hd hn (K H locs ls hP hS hL)
theorem z_sipush (cx : Cx p s m args meth c own cc nL rt E) {n : Int} (hd : decode cc pc = .ok (.sipush n, 3)) (K : Z p l e R s m args below meth c nL ce sl E Q G (pc + 3) vs (.int (iN n) :: st)) (hn : (Int16.ofInt n).toInt32 = iN n := by decide +kernel) : Z p l e R s m args below meth c nL ce sl E Q G pc vs st :=
  fun H locs ls hP hS hL => lv_sipush cx.1 cx.2.1 hd hn (K H locs ls hP hS hL)
theorem z_iload_n (cx : Cx p s m args meth c own cc nL rt E) {k : Fin 4} {x : Int32} (hd : decode cc pc = .ok (.iload_n k, 1)) (hv : vs[(k : Nat)]? = some (some (.int x))) (K : Z p l e R s m args below meth c nL ce sl E Q G (pc + 1) vs (.int x :: st)) : Z p l e R s m args below meth c nL ce sl E Q G pc vs st :=
  fun H locs ls hP hS hL => lv_iload_n cx.1 cx.2.1 hd rfl (hL.at_ hv) (K H locs ls hP hS hL)
theorem z_iload (cx : Cx p s m args meth c own cc nL rt E) {k : Nat} {x : Int32} (hd : decode cc pc = .ok (.iload k, 2)) (hv : vs[k]? = some (some (.int x))) (K : Z p l e R s m args below meth c nL ce sl E Q G (pc + 2) vs (.int x :: st)) : Z p l e R s m args below meth c nL ce sl E Q G pc vs st :=
  fun H locs ls hP hS hL => lv_iload cx.1 cx.2.1 hd (hL.at_ hv) (K H locs ls hP hS hL)
theorem z_aload_n (cx : Cx p s m args meth c own cc nL rt E) {k : Fin 4} {x : Nat} (hd : decode cc pc = .ok (.aload_n k, 1)) (hv : vs[(k : Nat)]? = some (some (.ref x))) (K : Z p l e R s m args below meth c nL ce sl E Q G (pc + 1) vs (.ref x :: st)) : Z p l e R s m args below meth c nL ce sl E Q G pc vs st :=
  fun H locs ls hP hS hL => lv_aload_n cx.1 cx.2.1 hd rfl (hL.at_ hv) (K H locs ls hP hS hL)
theorem z_aload (cx : Cx p s m args meth c own cc nL rt E) {k : Nat} {x : Nat} (hd : decode cc pc = .ok (.aload k, 2)) (hv : vs[k]? = some (some (.ref x))) (K : Z p l e R s m args below meth c nL ce sl E Q G (pc + 2) vs (.ref x :: st)) : Z p l e R s m args below meth c nL ce sl E Q G pc vs st :=
  fun H locs ls hP hS hL => lv_aload cx.1 cx.2.1 hd (hL.at_ hv) (K H locs ls hP hS hL)
theorem z_istore_n (cx : Cx p s m args meth c own cc nL rt E) {k : Fin 4} {x : Int32} (hd : decode cc pc = .ok (.istore_n k, 1)) (K : Z p l e R s m args below meth c nL ce sl E Q G (pc + 1) (vs.set (k : Nat) (some (.int x))) st) (hk : (k : Nat) < nL := by decide) : Z p l e R s m args below meth c nL ce sl E Q G pc vs (.int x :: st) :=
  fun H locs ls hP hS hL => lv_istore_n cx.1 cx.2.1 hd rfl hL.1 hk rfl (fun ls' hl' => K H locs ls' hP hS (hL.set rfl hl'))
theorem z_istore (cx : Cx p s m args meth c own cc nL rt E) {k : Nat} {x : Int32} (hd : decode cc pc = .ok (.istore k, 2)) (K : Z p l e R s m args below meth c nL ce sl E Q G (pc + 2) (vs.set k (some (.int x))) st) (hk : k < nL := by decide) : Z p l e R s m args below meth c nL ce sl E Q G pc vs (.int x :: st) :=
  fun H locs ls hP hS hL => lv_istore cx.1 cx.2.1 hd hL.1 hk rfl (fun ls' hl' => K H locs ls' hP hS (hL.set rfl hl'))
theorem z_astore_n (cx : Cx p s m args meth c own cc nL rt E) {k : Fin 4} {x : Nat} (hd : decode cc pc = .ok (.astore_n k, 1)) (K : Z p l e R s m args below meth c nL ce sl E Q G (pc + 1) (vs.set (k : Nat) (some (.ref x))) st) (hk : (k : Nat) < nL := by decide) : Z p l e R s m args below meth c nL ce sl E Q G pc vs (.ref x :: st) :=
  fun H locs ls hP hS hL => lv_astore_n cx.1 cx.2.1 hd rfl hL.1 hk rfl (fun ls' hl' => K H locs ls' hP hS (hL.set rfl hl'))
theorem z_astore (cx : Cx p s m args meth c own cc nL rt E) {k : Nat} {x : Nat} (hd : decode cc pc = .ok (.astore k, 2)) (K : Z p l e R s m args below meth c nL ce sl E Q G (pc + 2) (vs.set k (some (.ref x))) st) (hk : k < nL := by decide) : Z p l e R s m args below meth c nL ce sl E Q G pc vs (.ref x :: st) :=
  fun H locs ls hP hS hL => lv_astore cx.1 cx.2.1 hd hL.1 hk rfl (fun ls' hl' => K H locs ls' hP hS (hL.set rfl hl'))
theorem la_at {i : Nat} {v : Value} (h : vs[i]? = some (some v)) : ∃ k : Nat, (la_ vs)[k]? = some (i, v) := List.getElem?_of_mem (la_mem.mpr h)
theorem z_iinc (cx : Cx p s m args meth c own cc nL rt E) {k : Nat} {n x : Int} (hd : decode cc pc = .ok (.iinc k n, 3)) (hv : vs[k]? = some (some (.int (iN x)))) (K : Z p l e R s m args below meth c nL ce sl E Q G (pc + 3) (vs.set k (some (.int (iN (x + n))))) st) (hk : k < nL := by decide) : Z p l e R s m args below meth c nL ce sl E Q G pc vs st := by
  intro H locs ls hP hS hL
  obtain ⟨j, hj⟩ := la_at hv
  exact lv_iinc cx.1 cx.2.1 hd hL.1 hj (iN_add x n) hk rfl (fun ls' hl' => K H locs ls' hP hS (hL.set rfl hl'))
/-- arithmetic -/
theorem z_iadd (cx : Cx p s m args meth c own cc nL rt E) {x y : Int} (hd : decode cc pc = .ok (.iadd, 1)) (K : Z p l e R s m args below meth c nL ce sl E Q G (pc + 1) vs (.int (iN (x + y)) :: st)) : Z p l e R s m args below meth c nL ce sl E Q G pc vs (.int (iN y) :: .int (iN x) :: st) :=
  fun H locs ls hP hS hL => lv_iadd cx.1 cx.2.1 hd (by rw [iN_add]; exact K H locs ls hP hS hL)
theorem z_isub (cx : Cx p s m args meth c own cc nL rt E) {x y : Int} (hd : decode cc pc = .ok (.isub, 1)) (K : Z p l e R s m args below meth c nL ce sl E Q G (pc + 1) vs (.int (iN (x - y)) :: st)) : Z p l e R s m args below meth c nL ce sl E Q G pc vs (.int (iN y) :: .int (iN x) :: st) :=
  fun H locs ls hP hS hL => lv_isub cx.1 cx.2.1 hd (by rw [iN_sub]; exact K H locs ls hP hS hL)
theorem z_imul (cx : Cx p s m args meth c own cc nL rt E) {x y : Int} (hd : decode cc pc = .ok (.imul, 1)) (K : Z p l e R s m args below meth c nL ce sl E Q G (pc + 1) vs (.int (iN (x * y)) :: st)) : Z p l e R s m args below meth c nL ce sl E Q G pc vs (.int (iN y) :: .int (iN x) :: st) :=
  fun H locs ls hP hS hL => lv_imul cx.1 cx.2.1 hd (by rw [iN_mul]; exact K H locs ls hP hS hL)
theorem z_idiv (cx : Cx p s m args meth c own cc nL rt E) {x y : Int} (hd : decode cc pc = .ok (.idiv, 1)) (K : Z p l e R s m args below meth c nL ce sl E Q G (pc + 1) vs (.int (iN (x / y)) :: st)) (h : 0 ≤ x ∧ x < 2147483648 ∧ 0 < y ∧ y < 2147483648 := by omega) : Z p l e R s m args below meth c nL ce sl E Q G pc vs (.int (iN y) :: .int (iN x) :: st) :=
  fun H locs ls hP hS hL => lv_idiv cx.1 cx.2.1 hd (by rw [iN_zero, iN_eq (by omega)]; omega) (by rw [iN_div h]; exact K H locs ls hP hS hL)
theorem z_irem (cx : Cx p s m args meth c own cc nL rt E) {x y : Int} (hd : decode cc pc = .ok (.irem, 1)) (K : Z p l e R s m args below meth c nL ce sl E Q G (pc + 1) vs (.int (iN (x - x / y * y)) :: st)) (h : 0 ≤ x ∧ x < 2147483648 ∧ 0 < y ∧ y < 2147483648 := by omega) : Z p l e R s m args below meth c nL ce sl E Q G pc vs (.int (iN y) :: .int (iN x) :: st) :=
  fun H locs ls hP hS hL => lv_irem cx.1 cx.2.1 hd (by rw [iN_zero, iN_eq (by omega)]; omega) (by
    have h2 := K H locs ls hP hS hL
    rw [← iN_sub, ← iN_mul, ← iN_div h] at h2
    exact h2)
theorem z_ineg (cx : Cx p s m args meth c own cc nL rt E) {x : Int} (hd : decode cc pc = .ok (.ineg, 1)) (K : Z p l e R s m args below meth c nL ce sl E Q G (pc + 1) vs (.int (iN (0 - x)) :: st)) : Z p l e R s m args below meth c nL ce sl E Q G pc vs (.int (iN x) :: st) :=
  fun H locs ls hP hS hL => lv_ineg cx.1 cx.2.1 hd (by
    have h2 := K H locs ls hP hS hL
    rw [← iN_sub, ← iN_zero] at h2
    first | exact h2 | (rw [Int32.zero_sub] at h2; exact h2))
theorem z_dup (cx : Cx p s m args meth c own cc nL rt E) {v : Value} (hd : decode cc pc = .ok (.dup, 1)) (K : Z p l e R s m args below meth c nL ce sl E Q G (pc + 1) vs (v :: v :: st)) (hv : v.category = 1 := by rfl) : Z p l e R s m args below meth c nL ce sl E Q G pc vs (v :: st) :=
  fun H locs ls hP hS hL => lv_dup cx.1 cx.2.1 hd hv (K H locs ls hP hS hL)
theorem z_dup2 (cx : Cx p s m args meth c own cc nL rt E) {v w : Value} (hd : decode cc pc = .ok (.dup2, 1)) (K : Z p l e R s m args below meth c nL ce sl E Q G (pc + 1) vs (v :: w :: v :: w :: st)) (hv : v.category = 1 := by rfl) (hw : w.category = 1 := by rfl) : Z p l e R s m args below meth c nL ce sl E Q G pc vs (v :: w :: st) :=
  fun H locs ls hP hS hL => lv_dup2_11 cx.1 cx.2.1 hd hv hw (K H locs ls hP hS hL)
theorem z_pop (cx : Cx p s m args meth c own cc nL rt E) {v : Value} (hd : decode cc pc = .ok (.pop, 1)) (K : Z p l e R s m args below meth c nL ce sl E Q G (pc + 1) vs st) (hv : v.category = 1 := by rfl) : Z p l e R s m args below meth c nL ce sl E Q G pc vs (v :: st) :=
  fun H locs ls hP hS hL => lv_pop cx.1 cx.2.1 hd hv (K H locs ls hP hS hL)
theorem z_goto (cx : Cx p s m args meth c own cc nL rt E) {off : Int} {tgt : Nat} (hd : decode cc pc = .ok (.goto off, 3)) (K : Z p l e R s m args below meth c nL ce sl E Q G tgt vs st) (ht : (pc : Int) + off = (tgt : Int) := by decide) : Z p l e R s m args below meth c nL ce sl E Q G pc vs st :=
  fun H locs ls hP hS hL => lv_goto cx.1 cx.2.1 hd ht (K H locs ls hP hS hL)
theorem z_icmp_eq (cx : Cx p s m args meth c own cc nL rt E) {x y : Int} {off : Int} {tgt : Nat} (hd : decode cc pc = .ok (.if_icmp .eq off, 3)) (Kt : x = y → Z p l e R s m args below meth c nL ce sl E Q G tgt vs st) (Kf : ¬ x = y → Z p l e R s m args below meth c nL ce sl E Q G (pc + 3) vs st) (h : -2147483648 ≤ x ∧ x < 2147483648 ∧ -2147483648 ≤ y ∧ y < 2147483648 := by omega) (ht : (pc : Int) + off = (tgt : Int) := by decide) : Z p l e R s m args below meth c nL ce sl E Q G pc vs (.int (iN y) :: .int (iN x) :: st) :=
  fun H locs ls hP hS hL => lv_icmp_eq cx.1 cx.2.1 hd ht (fun q => Kt (zc_eq h q) H locs ls hP hS hL) (fun q => Kf (zn_eq h q) H locs ls hP hS hL)
theorem z_if_eq (cx : Cx p s m args meth c own cc nL rt E) {x : Int} {off : Int} {tgt : Nat} (hd : decode cc pc = .ok (.ifCond .eq off, 3)) (Kt : x = 0 → Z p l e R s m args below meth c nL ce sl E Q G tgt vs st) (Kf : ¬ x = 0 → Z p l e R s m args below meth c nL ce sl E Q G (pc + 3) vs st) (h : -2147483648 ≤ x ∧ x < 2147483648 := by omega) (ht : (pc : Int) + off = (tgt : Int) := by decide) : Z p l e R s m args below meth c nL ce sl E Q G pc vs (.int (iN x) :: st) :=
  fun H locs ls hP hS hL => lv_if_eq cx.1 cx.2.1 hd ht (fun q => Kt (zc_eq (y := 0) (by omega) q) H locs ls hP hS hL) (fun q => Kf (zn_eq (y := 0) (by omega) q) H locs ls hP hS hL)
theorem z_icmp_ne (cx : Cx p s m args meth c own cc nL rt E) {x y : Int} {off : Int} {tgt : Nat} (hd : decode cc pc = .ok (.if_icmp .ne off, 3)) (Kt : ¬ x = y → Z p l e R s m args below meth c nL ce sl E Q G tgt vs st) (Kf : x = y → Z p l e R s m args below meth c nL ce sl E Q G (pc + 3) vs st) (h : -2147483648 ≤ x ∧ x < 2147483648 ∧ -2147483648 ≤ y ∧ y < 2147483648 := by omega) (ht : (pc : Int) + off = (tgt : Int) := by decide) : Z p l e R s m args below meth c nL ce sl E Q G pc vs (.int (iN y) :: .int (iN x) :: st) :=
  fun H locs ls hP hS hL => lv_icmp_ne cx.1 cx.2.1 hd ht (fun q => Kt (zc_ne h q) H locs ls hP hS hL) (fun q => Kf (zn_ne h q) H locs ls hP hS hL)
theorem z_if_ne (cx : Cx p s m args meth c own cc nL rt E) {x : Int} {off : Int} {tgt : Nat} (hd : decode cc pc = .ok (.ifCond .ne off, 3)) (Kt : ¬ x = 0 → Z p l e R s m args below meth c nL ce sl E Q G tgt vs st) (Kf : x = 0 → Z p l e R s m args below meth c nL ce sl E Q G (pc + 3) vs st) (h : -2147483648 ≤ x ∧ x < 2147483648 := by omega) (ht : (pc : Int) + off = (tgt : Int) := by decide) : Z p l e R s m args below meth c nL ce sl E Q G pc vs (.int (iN x) :: st) :=
  fun H locs ls hP hS hL => lv_if_ne cx.1 cx.2.1 hd ht (fun q => Kt (zc_ne (y := 0) (by omega) q) H locs ls hP hS hL) (fun q => Kf (zn_ne (y := 0) (by omega) q) H locs ls hP hS hL)
theorem z_icmp_lt (cx : Cx p s m args meth c own cc nL rt E) {x y : Int} {off : Int} {tgt : Nat} (hd : decode cc pc = .ok (.if_icmp .lt off, 3)) (Kt : x < y → Z p l e R s m args below meth c nL ce sl E Q G tgt vs st) (Kf : y ≤ x → Z p l e R s m args below meth c nL ce sl E Q G (pc + 3) vs st) (h : -2147483648 ≤ x ∧ x < 2147483648 ∧ -2147483648 ≤ y ∧ y < 2147483648 := by omega) (ht : (pc : Int) + off = (tgt : Int) := by decide) : Z p l e R s m args below meth c nL ce sl E Q G pc vs (.int (iN y) :: .int (iN x) :: st) :=
  fun H locs ls hP hS hL => lv_icmp_lt cx.1 cx.2.1 hd ht (fun q => Kt (zc_lt h q) H locs ls hP hS hL) (fun q => Kf (zn_lt h q) H locs ls hP hS hL)
theorem z_if_lt (cx : Cx p s m args meth c own cc nL rt E) {x : Int} {off : Int} {tgt : Nat} (hd : decode cc pc = .ok (.ifCond .lt off, 3)) (Kt : x < 0 → Z p l e R s m args below meth c nL ce sl E Q G tgt vs st) (Kf : 0 ≤ x → Z p l e R s m args below meth c nL ce sl E Q G (pc + 3) vs st) (h : -2147483648 ≤ x ∧ x < 2147483648 := by omega) (ht : (pc : Int) + off = (tgt : Int) := by decide) : Z p l e R s m args below meth c nL ce sl E Q G pc vs (.int (iN x) :: st) :=
  fun H locs ls hP hS hL => lv_if_lt cx.1 cx.2.1 hd ht (fun q => Kt (zc_lt (y := 0) (by omega) q) H locs ls hP hS hL) (fun q => Kf (zn_lt (y := 0) (by omega) q) H locs ls hP hS hL)
theorem z_icmp_ge (cx : Cx p s m args meth c own cc nL rt E) {x y : Int} {off : Int} {tgt : Nat} (hd : decode cc pc = .ok (.if_icmp .ge off, 3)) (Kt : y ≤ x → Z p l e R s m args below meth c nL ce sl E Q G tgt vs st) (Kf : x < y → Z p l e R s m args below meth c nL ce sl E Q G (pc + 3) vs st) (h : -2147483648 ≤ x ∧ x < 2147483648 ∧ -2147483648 ≤ y ∧ y < 2147483648 := by omega) (ht : (pc : Int) + off = (tgt : Int) := by decide) : Z p l e R s m args below meth c nL ce sl E Q G pc vs (.int (iN y) :: .int (iN x) :: st) :=
  fun H locs ls hP hS hL => lv_icmp_ge cx.1 cx.2.1 hd ht (fun q => Kt (zc_ge h q) H locs ls hP hS hL) (fun q => Kf (zn_ge h q) H locs ls hP hS hL)
theorem z_if_ge (cx : Cx p s m args meth c own cc nL rt E) {x : Int} {off : Int} {tgt : Nat} (hd : decode cc pc = .ok (.ifCond .ge off, 3)) (Kt : 0 ≤ x → Z p l e R s m args below meth c nL ce sl E Q G tgt vs st) (Kf : x < 0 → Z p l e R s m args below meth c nL ce sl E Q G (pc + 3) vs st) (h : -2147483648 ≤ x ∧ x < 2147483648 := by omega) (ht : (pc : Int) + off = (tgt : Int) := by decide) : Z p l e R s m args below meth c nL ce sl E Q G pc vs (.int (iN x) :: st) :=
  fun H locs ls hP hS hL => lv_if_ge cx.1 cx.2.1 hd ht (fun q => Kt (zc_ge (y := 0) (by omega) q) H locs ls hP hS hL) (fun q => Kf (zn_ge (y := 0) (by omega) q) H locs ls hP hS hL)
theorem z_icmp_gt (cx : Cx p s m args meth c own cc nL rt E) {x y : Int} {off : Int} {tgt : Nat} (hd : decode cc pc = .ok (.if_icmp .gt off, 3)) (Kt : y < x → Z p l e R s m args below meth c nL ce sl E Q G tgt vs st) (Kf : x ≤ y → Z p l e R s m args below meth c nL ce sl E Q G (pc + 3) vs st) (h : -2147483648 ≤ x ∧ x < 2147483648 ∧ -2147483648 ≤ y ∧ y < 2147483648 := by omega) (ht : (pc : Int) + off = (tgt : Int) := by decide) : Z p l e R s m args below meth c nL ce sl E Q G pc vs (.int (iN y) :: .int (iN x) :: st) :=
  fun H locs ls hP hS hL => lv_icmp_gt cx.1 cx.2.1 hd ht (fun q => Kt (zc_gt h q) H locs ls hP hS hL) (fun q => Kf (zn_gt h q) H locs ls hP hS hL)
theorem z_if_gt (cx : Cx p s m args meth c own cc nL rt E) {x : Int} {off : Int} {tgt : Nat} (hd : decode cc pc = .ok (.ifCond .gt off, 3)) (Kt : 0 < x → Z p l e R s m args below meth c nL ce sl E Q G tgt vs st) (Kf : x ≤ 0 → Z p l e R s m args below meth c nL ce sl E Q G (pc + 3) vs st) (h : -2147483648 ≤ x ∧ x < 2147483648 := by omega) (ht : (pc : Int) + off = (tgt : Int) := by decide) : Z p l e R s m args below meth c nL ce sl E Q G pc vs (.int (iN x) :: st) :=
  fun H locs ls hP hS hL => lv_if_gt cx.1 cx.2.1 hd ht (fun q => Kt (zc_gt (y := 0) (by omega) q) H locs ls hP hS hL) (fun q => Kf (zn_gt (y := 0) (by omega) q) H locs ls hP hS hL)
theorem z_icmp_le (cx : Cx p s m args meth c own cc nL rt E) {x y : Int} {off : Int} {tgt : Nat} (hd : decode cc pc = .ok (.if_icmp .le off, 3)) (Kt : x ≤ y → Z p l e R s m args below meth c nL ce sl E Q G tgt vs st) (Kf : y < x → Z p l e R s m args below meth c nL ce sl E Q G (pc + 3) vs st) (h : -2147483648 ≤ x ∧ x < 2147483648 ∧ -2147483648 ≤ y ∧ y < 2147483648 := by omega) (ht : (pc : Int) + off = (tgt : Int) := by decide) : Z p l e R s m args below meth c nL ce sl E Q G pc vs (.int (iN y) :: .int (iN x) :: st) :=
  fun H locs ls hP hS hL => lv_icmp_le cx.1 cx.2.1 hd ht (fun q => Kt (zc_le h q) H locs ls hP hS hL) (fun q => Kf (zn_le h q) H locs ls hP hS hL)
theorem z_if_le (cx : Cx p s m args meth c own cc nL rt E) {x : Int} {off : Int} {tgt : Nat} (hd : decode cc pc = .ok (.ifCond .le off, 3)) (Kt : x ≤ 0 → Z p l e R s m args below meth c nL ce sl E Q G tgt vs st) (Kf : 0 < x → Z p l e R s m args below meth c nL ce sl E Q G (pc + 3) vs st) (h : -2147483648 ≤ x ∧ x < 2147483648 := by omega) (ht : (pc : Int) + off = (tgt : Int) := by decide) : Z p l e R s m args below meth c nL ce sl E Q G pc vs (.int (iN x) :: st) :=
  fun H locs ls hP hS hL => lv_if_le cx.1 cx.2.1 hd ht (fun q => Kt (zc_le (y := 0) (by omega) q) H locs ls hP hS hL) (fun q => Kf (zn_le (y := 0) (by omega) q) H locs ls hP hS hL)
end ZZ
end
section
/-! ===== fields, arrays, calls, ends ===== -/
theorem lv_args_mem {av : List Value} (hc : ∀ v ∈ av, v.category = 1) : ∀ (k i : Nat) (v : Value), av[i]? = some v → (k + i, v) ∈ lv_args k av := by
  induction av with
  | nil => intro k i v h; simp at h
  | cons a t ih =>
    intro k i v h
    have ha : a.category = 1 := hc a List.mem_cons_self
    unfold lv_args
    rw [if_neg (by rw [ha]; decide)]
    cases i with
    | zero =>
      have h := Option.some.inj h
      subst h
      exact List.mem_cons_self
    | succ j =>
      have h2 := ih (fun w hw => hc w (List.mem_cons_of_mem _ hw)) (k + 1) j v h
      rw [show k + (j + 1) = k + 1 + j by omega]
      exact List.mem_cons_of_mem _ h2
theorem lg_sl_len {av : List Value} (hc : ∀ v ∈ av, v.category = 1) : (lg_sl av).length = av.length := by
  induction av with
  | nil => rfl
  | cons a t ih =>
    have ha : a.category = 1 := hc a List.mem_cons_self
    have ht := ih (fun w hw => hc w (List.mem_cons_of_mem _ hw))
    unfold lg_sl at ht ⊢
    rw [List.flatMap_cons, if_neg (by rw [ha]; decide), List.length_append, ht]
    simp
    omega
section ZH
variable {p : Program} {l : Launch} {e : Env} {s : State} {m : MethodId} {args : Array Value} {below : List Frame} {meth : Method} {c : Code} {own : String} {cc : ByteArray} {nL fr lo ce sl : Nat} {rt : Option FieldType} {E : En}
variable {R : Room} {Q : State → Prop} {G : Wd} {pc : Nat} {vs : List (Option Value)} {st : List Value}
theorem Cx.hts (cx : Cx p s m args meth c own cc nL rt E) {w : Cond} (h : w ∈ zWL) : w.before args s = true := cx.2.2.2.2.1 w h
theorem Cx.K (cx : Cx p s m args meth c own cc nL rt E) : va_K E.2.1 vwCl (tyE E) s := cx.2.2.2.2.2.2.2.2.1
theorem Cx.ok (cx : Cx p s m args meth c own cc nL rt E) : EOk E := cx.2.2.2.2.2.2.2.1
theorem Cx.ke (cx : Cx p s m args meth c own cc nL rt E) : KE E s s.heap := cx.2.2.2.2.2.2.2
theorem z_get (cx : Cx p s m args meth c own cc nL rt E) {ci k cn N idx : Nat} {fs : List Value} {C : String} {T : u_T} {v : Value} (hn : cn < 278) (hc : cont E G cn = .inr (ci, fs)) (hcl : vwCl[ci]? = some (C, T, N)) (hin : ∀ w ∈ u_ws C T N, w ∈ zWL) (hk : k < N) (hv : fs[k]? = some v) (hl : Cond.fieldLink own idx (T k).1 (T k).2.1 (T k).2.2.1 ∈ zWL) (hd : decode cc pc = .ok (.getfield idx, 3)) (K : Z p l e R s m args below meth c nL ce sl E Q G (pc + 3) vs (v :: st)) : Z p l e R s m args below meth c nL ce sl E Q G pc vs (.ref (E.1 cn) :: st) :=
  fun H locs ls hP hS hL => va_get cx.1 cx.2.1 cx.2.2.2.2.1 hin cx.2.2.2.1 cx.K hP cn (by rw [ws_get E G hn, hc]) hcl k hk (cx.hts hl) (fun _ h => h) hv hd (K H locs ls hP hS hL)
theorem z_put (cx : Cx p s m args meth c own cc nL rt E) {ci k cn N idx f a : Nat} {fs : List Value} {C : String} {T : u_T} {ty0 : Nat → FieldType} {ty : FieldType} {x : Int} (hn : cn < 278) (hcel : cel f a = cn) (hc : cont E G cn = .inr (ci, fs)) (hnew : cont E (gup G f a 0 x) cn = .inr (ci, fs.set k (.int (iN x)))) (hcl : vwCl[ci]? = some (C, T, N)) (hin : ∀ w ∈ u_ws C T N, w ∈ zWL) (hty : ∀ k, k < N → parseFieldDescriptor (T k).2.2.1 = some (ty0 k)) (hnm : ∀ a, a < N → ∀ b, b < N → a ≠ b → (T a).2.1 ≠ (T b).2.1) (hk : k < N) (hfin : (T k).2.2.2 = false) (hpd : parseFieldDescriptor (T k).2.2.1 = some ty) (hnar : narrow ty (.int (iN x)) = .int (iN x)) (hfit : fits ty (.int (iN x)) = true) (hlen : k < fs.length) (hl : Cond.fieldLink own idx (T k).1 (T k).2.1 (T k).2.2.1 ∈ zWL) (hd : decode cc pc = .ok (.putfield idx, 3)) (K : Z p l e R s m args below meth c nL ce sl E Q (gup G f a 0 x) (pc + 3) vs st) : Z p l e R s m args below meth c nL ce sl E Q G pc vs (.int (iN x) :: .ref (E.1 cn) :: st) :=
  fun H locs ls hP hS hL => va_put cx.1 cx.2.1 cx.2.2.2.2.1 hin ty0 hty hnm cx.2.2.2.1 cx.K hP (cx.ok.D G) hS cn (by rw [ws_get E G hn, hc]) hcl k hk (cx.hts hl) (fun _ h => h) hfin hpd hnar hfit hlen hd (fun H1 locs1 hP1 _ hS1 => by
    rw [ws_up E hn hcel hnew] at hP1
    exact K H1 locs1 ls hP1 hS1 hL)
theorem z_iald (cx : Cx p s m args meth c own cc nL rt E) {cn n f a : Nat} {x : Int} (j : Nat) (hj : x = (j : Int)) (hn : cn < 278) (hc : cont E G cn = ci_ E 0 n (fun i => iN (G f a i))) (hd : decode cc pc = .ok (.iaload, 1)) (K : Z p l e R s m args below meth c nL ce sl E Q G (pc + 1) vs (.int (iN (G f a j)) :: st)) (h : j < n := by omega) (hnn : n < 2147483648 := by decide) : Z p l e R s m args below meth c nL ce sl E Q G pc vs (.int (iN x) :: .ref (E.1 cn) :: st) :=
  fun H locs ls hP hS hL => va_iald cx.1 cx.2.1 cx.K hP cn 0 (by rw [ws_get E G hn, hc]) rfl (iN_in (by omega) hnn) hd (by rw [iN_clamp (by omega), hj, Int.toNat_natCast]; exact K H locs ls hP hS hL)
theorem z_cald (cx : Cx p s m args meth c own cc nL rt E) {cn n f a : Nat} {x : Int} (j : Nat) (hj : x = (j : Int)) (hn : cn < 278) (hc : cont E G cn = ci_ E 1 n (fun i => iN (G f a i))) (hd : decode cc pc = .ok (.caload, 1)) (K : Z p l e R s m args below meth c nL ce sl E Q G (pc + 1) vs (.int (iN (G f a j)) :: st)) (h : j < n := by omega) (hnn : n < 2147483648 := by decide) : Z p l e R s m args below meth c nL ce sl E Q G pc vs (.int (iN x) :: .ref (E.1 cn) :: st) :=
  fun H locs ls hP hS hL => va_cald cx.1 cx.2.1 cx.K hP cn 1 (by rw [ws_get E G hn, hc]) rfl (iN_in (by omega) hnn) hd (by rw [iN_clamp (by omega), hj, Int.toNat_natCast]; exact K H locs ls hP hS hL)
theorem z_aldq (cx : Cx p s m args meth c own cc nL rt E) {cn n : Nat} {g : Nat → Nat} {k : Nat} {C : String} {x : Int} (j : Nat) (hj : x = (j : Int)) (hn : cn < 278) (hc : cont E G cn = cr_ E k n (fun i => some (E.1 (g i)))) (ht : (tyE E)[k]? = some (E.2.2.1 k, .object C)) (hd : decode cc pc = .ok (.aaload, 1)) (K : Z p l e R s m args below meth c nL ce sl E Q G (pc + 1) vs (.ref (E.1 (g j)) :: st)) (h : j < n := by omega) (hnn : n < 2147483648 := by decide) : Z p l e R s m args below meth c nL ce sl E Q G pc vs (.int (iN x) :: .ref (E.1 cn) :: st) :=
  fun H locs ls hP hS hL => va_aldq cx.1 cx.2.1 cx.K hP cn k (by rw [ws_get E G hn, hc]) ht (iN_in (by omega) hnn) hd (by rw [iN_clamp (by omega), hj, Int.toNat_natCast]; exact K H locs ls hP hS hL)
theorem z_iast (cx : Cx p s m args meth c own cc nL rt E) {cn n f a : Nat} {x v : Int} (j : Nat) (hj : x = (j : Int)) (hn : cn < 278) (hcel : cel f a = cn) (hc : ∀ G : Wd, cont E G cn = ci_ E 0 n (fun i => iN (G f a i))) (hd : decode cc pc = .ok (.iastore, 1)) (K : Z p l e R s m args below meth c nL ce sl E Q (gup G f a j v) (pc + 1) vs st) (h : j < n := by omega) (hnn : n < 2147483648 := by decide) : Z p l e R s m args below meth c nL ce sl E Q G pc vs (.int (iN v) :: .int (iN x) :: .ref (E.1 cn) :: st) :=
  fun H locs ls hP hS hL => va_iast cx.1 cx.2.1 cx.K hP (cx.ok.D G) hS cn 0 (by rw [ws_get E G hn, hc G]) rfl (iN_in (by omega) hnn) hd (fun H1 locs1 hP1 _ hS1 => by
    rw [iN_clamp (by omega), hj, Int.toNat_natCast, ws_up E hn hcel (G := G) (f := f) (a := a) (i := j) (v := v) (by
      rw [hc]
      congr 4
      funext j2
      unfold upd
      by_cases hj2 : j2 = j
      · rw [if_pos hj2, hj2, gup_s]
      · rw [if_neg hj2, gup_i _ _ _ _ _ hj2])] at hP1
    exact K H1 locs1 ls hP1 hS1 hL)
theorem iN_char {v : Int} (h : 0 ≤ v ∧ v < 65536) : vp_nar .char (iN v) = iN v := by
  obtain ⟨k, rfl⟩ : ∃ k : Nat, v = k := ⟨v.toNat, by omega⟩
  have hk : k < 65536 := by omega
  have h1 : iN (k : Int) = nI k := Int32.ofInt_eq_ofNat
  rw [h1]
  have h2 := (pk_charN hk).1
  unfold vp_nar
  rw [h2]
theorem z_cast (cx : Cx p s m args meth c own cc nL rt E) {cn n f a : Nat} {x v : Int} (j : Nat) (hj : x = (j : Int)) (hn : cn < 278) (hcel : cel f a = cn) (hc : ∀ G : Wd, cont E G cn = ci_ E 1 n (fun i => iN (G f a i))) (hd : decode cc pc = .ok (.castore, 1)) (K : Z p l e R s m args below meth c nL ce sl E Q (gup G f a j v) (pc + 1) vs st) (h : j < n := by omega) (hv : 0 ≤ v ∧ v < 65536 := by omega) (hnn : n < 2147483648 := by decide) : Z p l e R s m args below meth c nL ce sl E Q G pc vs (.int (iN v) :: .int (iN x) :: .ref (E.1 cn) :: st) :=
  fun H locs ls hP hS hL => va_cast cx.1 cx.2.1 cx.K hP (cx.ok.D G) hS cn 1 (by rw [ws_get E G hn, hc G]) rfl (iN_in (by omega) hnn) hd (fun H1 locs1 hP1 _ hS1 => by
    rw [iN_clamp (by omega), hj, Int.toNat_natCast, iN_char hv, ws_up E hn hcel (G := G) (f := f) (a := a) (i := j) (v := v) (by
      rw [hc]
      congr 4
      funext j2
      unfold upd
      by_cases hj2 : j2 = j
      · rw [if_pos hj2, hj2, gup_s]
      · rw [if_neg hj2, gup_i _ _ _ _ _ hj2])] at hP1
    exact K H1 locs1 ls hP1 hS1 hL)
theorem z_astq (cx : Cx p s m args meth c own cc nL rt E) {q k : Nat} {x : Int} (j : Nat) (hj : x = (j : Int)) (hq : q < 6) (hk : k < 120) (hd : decode cc pc = .ok (.aastore, 1)) (K : Z p l e R s m args below meth c nL ce sl E Q (gup G 4 q j k) (pc + 1) vs st) (h : j < 20 := by omega) : Z p l e R s m args below meth c nL ce sl E Q G pc vs (.ref (E.1 (38 + k)) :: .int (iN x) :: .ref (E.1 (20 + q)) :: st) :=
  fun H locs ls hP hS hL => va_astq cx.1 cx.2.1 cx.K hP (cx.ok.D G) hS (20 + q) 2 (38 + k) 3 (r := (RX3, TX3, 4)) (by rw [ws_get E G (by omega), co_rows E G hq]) rfl (by rw [ws_get E G (by omega), co_sub E G hk]) rfl (iN_in (by omega) (by decide)) hd (fun H1 locs1 hP1 _ hS1 => by
    rw [iN_clamp (by omega), hj, Int.toNat_natCast, ws_up E (c := 20 + q) (by omega) rfl (G := G) (f := 4) (a := q) (i := j) (v := (k : Int)) (by
      rw [co_rows E _ hq]
      congr 6
      funext j2
      unfold va_up
      by_cases hj2 : j2 = j
      · rw [if_pos hj2, hj2, gup_s, Int.toNat_natCast]
      · rw [if_neg hj2, gup_i _ _ _ _ _ hj2])] at hP1
    exact K H1 locs1 ls hP1 hS1 hL)
/-- the words of a method -/
def MV (y : MethodName) (cc : ByteArray) (nL : Nat) (ret : Option FieldType) (n : Nat) : Prop :=
  Cond.instanceMethod y ∈ zWL ∧ Cond.selects y.cls y y ∈ zWL ∧ Cond.initialized y.cls ∈ zWL ∧ Cond.code y cc nL ret ∈ zWL ∧ y.cls ≠ "java/lang/invoke/MethodHandle" ∧ y.cls ≠ "java/lang/invoke/VarHandle" ∧ (parseMethodDescriptor y.desc).map (fun d => d.parameters.length) = some n
def MS (y : MethodName) (cc : ByteArray) (nL : Nat) (ret : Option FieldType) (n : Nat) : Prop :=
  Cond.static y ∈ zWL ∧ Cond.initialized y.cls ∈ zWL ∧ Cond.code y cc nL ret ∈ zWL ∧ y.cls ≠ "java/lang/invoke/MethodHandle" ∧ y.cls ≠ "java/lang/invoke/VarHandle" ∧ (parseMethodDescriptor y.desc).map (fun d => d.parameters.length) = some n
theorem MV.good {y : MethodName} {cc' : ByteArray} {nL' n idx : Nat} {ret : Option FieldType} (h : MV y cc' nL' ret n) (hl : Cond.methodLink own idx y ∈ zWL) : GoodIn zWL (wsV own idx y.cls y (zw y cc' nL' ret)) := by
  intro w hw
  unfold wsV zw at hw
  simp only [List.cons_append, List.nil_append, List.mem_cons] at hw
  rcases hw with rfl | rfl | rfl | rfl | rfl | hw
  · exact zWL_good _ hl
  · exact zWL_good _ h.1
  · exact zWL_good _ h.2.1
  · exact zWL_good _ h.2.2.1
  · exact zWL_good _ h.2.2.2.1
  · exact zWL_good _ hw
theorem MS.good {y : MethodName} {cc' : ByteArray} {nL' n idx : Nat} {ret : Option FieldType} (h : MS y cc' nL' ret n) (hl : Cond.methodLink own idx y ∈ zWL) : GoodIn zWL (va_wsS own idx y (zw y cc' nL' ret)) := by
  intro w hw
  unfold va_wsS zw at hw
  simp only [List.cons_append, List.nil_append, List.mem_cons] at hw
  rcases hw with rfl | rfl | rfl | rfl | hw
  · exact zWL_good _ hl
  · exact zWL_good _ h.1
  · exact zWL_good _ h.2.1
  · exact zWL_good _ h.2.2.1
  · exact zWL_good _ hw
theorem Ok_blind {av : List Value} : FrameBlind (va_Pc av (Ok_ E G)) := fun a U g mk h => ⟨h.1, h.2.1, h.2.2.moved (u := U) (U := U.calling g mk a) (Vm.Alike.refl U.vm)⟩
theorem Ok_at (cx : Cx p s m args meth c own cc nL rt E) {H : Heap} {locs : List Loc} (hP : va_P E.2.1 vwCl (ws_ E G) H) (hS : va_S (AE E) s.heap H locs) {U : State} (hU : U.heap = H) (hW : s.WarmedH U.vm) : Ok_ E G U :=
  ⟨by rw [hU]; exact hP, by rw [hU]; exact (cx.ke.moved hW.alike).kept (fun a h1 h2 => hS.2.1 a h1 h2)⟩
theorem z_vi (cx : Cx p s m args meth c own cc nL rt E) {y : MethodName} {cc' : ByteArray} {nL' fr' lo' n idx cn ci : Nat} {ty : FieldType} {av rest : List Value} {q : vw_C} {fs : List Value} {post : Int → Wd → Prop}
    (C : Cti E y cc' nL' ty fr' lo' (.ref (E.1 cn) :: av) G post) (hM : MV y cc' nL' (some ty) n) (hl : Cond.methodLink own idx y ∈ zWL) (hn : cn < 278) (hc : cont E G cn = .inr (ci, fs)) (hcl : vwCl[ci]? = some q) (hd : decode cc pc = .ok (.invokevirtual idx, 3))
    (K : ∀ (z : Int) (G' : Wd), post z G' → Z p l e R s m args below meth c nL ce sl E Q G' (pc + 3) vs (.int (iN z) :: rest))
    (hst : st = av.reverse ++ .ref (E.1 cn) :: rest := by rfl) (hq : q.1 = y.cls := by rfl) (hav : av.length = n := by rfl) (hroom : fr' + 1 ≤ R.frames ∧ 8 + (nL' + 11) + lo' ≤ R.locals := by exact ⟨Nat.le_of_ble_eq_true rfl, Nat.le_of_ble_eq_true rfl⟩) (hrest : (rest.map fun v => v.category).sum ≤ 8 := by exact Nat.le_of_ble_eq_true rfl) (hces : ce ≤ R.cells ∧ sl ≤ R.slots := by exact ⟨Nat.le_of_ble_eq_true rfl, Nat.le_of_ble_eq_true rfl⟩) : Z p l e R s m args below meth c nL ce sl E Q G pc vs st := by
  intro H locs ls hP hS hL
  subst hst
  refine va_calli (va_runV (As := av) (rest := rest) ⟨cx.1, cx.2.1, cx.2.2.1, cx.2.2.2.1, cx.2.2.2.2.1⟩ (C l) (cwV (C := y.cls) n cx.2.2.2.2.1 (hM.good hl) rfl rfl rfl ⟨rfl, hM.2.2.2.2⟩ hroom) ⟨Ok_blind, ?_, fun U hU hW => ⟨rfl, Ok_at cx hP hS hU hW⟩⟩ rfl hav (hL.size) rfl ?_ hd ⟨by omega, by omega⟩) hS (fun _ _ h => h) (fun _ h => h) (fun r u t H1 locs1 ht hvm hp hB hz hk hS1 => ?_)
  · have h2 := va_recv cx.K hP hcl (by rw [ws_get E G hn, hc])
    rw [hq] at h2
    exact h2
  · simpa using hrest
  · obtain ⟨z, rfl, hz2⟩ := hp
    unfold Wv at hB
    rw [ht] at hB
    exact K z u hz2 H1 locs1 ls hB hS1 hL
theorem z_vv (cx : Cx p s m args meth c own cc nL rt E) {y : MethodName} {cc' : ByteArray} {nL' fr' lo' n idx cn ci : Nat} {av rest : List Value} {q : vw_C} {fs : List Value} {post : Wd → Prop}
    (C : Ctv E y cc' nL' fr' lo' (.ref (E.1 cn) :: av) G post) (hM : MV y cc' nL' none n) (hl : Cond.methodLink own idx y ∈ zWL) (hn : cn < 278) (hc : cont E G cn = .inr (ci, fs)) (hcl : vwCl[ci]? = some q) (hd : decode cc pc = .ok (.invokevirtual idx, 3))
    (K : ∀ (G' : Wd), post G' → Z p l e R s m args below meth c nL ce sl E Q G' (pc + 3) vs rest)
    (hst : st = av.reverse ++ .ref (E.1 cn) :: rest := by rfl) (hq : q.1 = y.cls := by rfl) (hav : av.length = n := by rfl) (hroom : fr' + 1 ≤ R.frames ∧ 8 + (nL' + 11) + lo' ≤ R.locals := by exact ⟨Nat.le_of_ble_eq_true rfl, Nat.le_of_ble_eq_true rfl⟩) (hrest : (rest.map fun v => v.category).sum ≤ 8 := by exact Nat.le_of_ble_eq_true rfl) (hces : ce ≤ R.cells ∧ sl ≤ R.slots := by exact ⟨Nat.le_of_ble_eq_true rfl, Nat.le_of_ble_eq_true rfl⟩) : Z p l e R s m args below meth c nL ce sl E Q G pc vs st := by
  intro H locs ls hP hS hL
  subst hst
  refine va_callv (va_runV (As := av) (rest := rest) ⟨cx.1, cx.2.1, cx.2.2.1, cx.2.2.2.1, cx.2.2.2.2.1⟩ (C l) (cwV (C := y.cls) n cx.2.2.2.2.1 (hM.good hl) rfl rfl rfl ⟨rfl, hM.2.2.2.2⟩ hroom) ⟨Ok_blind, ?_, fun U hU hW => ⟨rfl, Ok_at cx hP hS hU hW⟩⟩ rfl hav (hL.size) rfl ?_ hd ⟨by omega, by omega⟩) hS (fun _ _ h => h) (fun _ h => h) (fun u t H1 locs1 ht hvm hp hB hz hk hS1 => ?_)
  · have h2 := va_recv cx.K hP hcl (by rw [ws_get E G hn, hc])
    rw [hq] at h2
    exact h2
  · simpa using hrest
  · unfold Wv at hB
    rw [ht] at hB
    exact K u hp H1 locs1 ls hB hS1 hL
theorem z_vf (cx : Cx p s m args meth c own cc nL rt E) {y : MethodName} {cc' : ByteArray} {nL' fr' lo' n idx cn ci : Nat} {av rest : List Value} {q : vw_C} {fs : List Value} {post : UInt32 → Wd → Prop}
    (C : Ctf E y cc' nL' fr' lo' (.ref (E.1 cn) :: av) G post) (hM : MV y cc' nL' (some .float) n) (hl : Cond.methodLink own idx y ∈ zWL) (hn : cn < 278) (hc : cont E G cn = .inr (ci, fs)) (hcl : vwCl[ci]? = some q) (hd : decode cc pc = .ok (.invokevirtual idx, 3))
    (K : ∀ (z : UInt32) (G' : Wd), post z G' → Z p l e R s m args below meth c nL ce sl E Q G' (pc + 3) vs (.float z :: rest))
    (hst : st = av.reverse ++ .ref (E.1 cn) :: rest := by rfl) (hq : q.1 = y.cls := by rfl) (hav : av.length = n := by rfl) (hroom : fr' + 1 ≤ R.frames ∧ 8 + (nL' + 11) + lo' ≤ R.locals := by exact ⟨Nat.le_of_ble_eq_true rfl, Nat.le_of_ble_eq_true rfl⟩) (hrest : (rest.map fun v => v.category).sum ≤ 8 := by exact Nat.le_of_ble_eq_true rfl) (hces : ce ≤ R.cells ∧ sl ≤ R.slots := by exact ⟨Nat.le_of_ble_eq_true rfl, Nat.le_of_ble_eq_true rfl⟩) : Z p l e R s m args below meth c nL ce sl E Q G pc vs st := by
  intro H locs ls hP hS hL
  subst hst
  refine va_callf (va_runV (As := av) (rest := rest) ⟨cx.1, cx.2.1, cx.2.2.1, cx.2.2.2.1, cx.2.2.2.2.1⟩ (C l) (cwV (C := y.cls) n cx.2.2.2.2.1 (hM.good hl) rfl rfl rfl ⟨rfl, hM.2.2.2.2⟩ hroom) ⟨Ok_blind, ?_, fun U hU hW => ⟨rfl, Ok_at cx hP hS hU hW⟩⟩ rfl hav (hL.size) rfl ?_ hd ⟨by omega, by omega⟩) hS (fun _ _ h => h) (fun _ h => h) (fun r u t H1 locs1 ht hvm hp hB hz hk hS1 => ?_)
  · have h2 := va_recv cx.K hP hcl (by rw [ws_get E G hn, hc])
    rw [hq] at h2
    exact h2
  · simpa using hrest
  · unfold Wv at hB
    rw [ht] at hB
    exact K r u hp H1 locs1 ls hB hS1 hL
theorem z_si (cx : Cx p s m args meth c own cc nL rt E) {y : MethodName} {cc' : ByteArray} {nL' fr' lo' n idx : Nat} {ty : FieldType} {av rest : List Value} {post : Int → Wd → Prop}
    (C : Cti E y cc' nL' ty fr' lo' av G post) (hM : MS y cc' nL' (some ty) n) (hl : Cond.methodLink own idx y ∈ zWL) (hd : decode cc pc = .ok (.invokestatic idx, 3))
    (K : ∀ (z : Int) (G' : Wd), post z G' → Z p l e R s m args below meth c nL ce sl E Q G' (pc + 3) vs (.int (iN z) :: rest))
    (hst : st = av.reverse ++ rest := by rfl) (hav : av.length = n := by rfl) (hroom : fr' + 1 ≤ R.frames ∧ 8 + (nL' + 11) + lo' ≤ R.locals := by exact ⟨Nat.le_of_ble_eq_true rfl, Nat.le_of_ble_eq_true rfl⟩) (hrest : (rest.map fun v => v.category).sum ≤ 8 := by exact Nat.le_of_ble_eq_true rfl) (hces : ce ≤ R.cells ∧ sl ≤ R.slots := by exact ⟨Nat.le_of_ble_eq_true rfl, Nat.le_of_ble_eq_true rfl⟩) : Z p l e R s m args below meth c nL ce sl E Q G pc vs st := by
  intro H locs ls hP hS hL
  subst hst
  refine va_calli (va_runS (As := av) (rest := rest) ⟨cx.1, cx.2.1, cx.2.2.1, cx.2.2.2.1, cx.2.2.2.2.1⟩ (C l) (va_cwS n cx.2.2.2.2.1 (hM.good hl) rfl rfl rfl hM.2.2.2 hroom) ⟨Ok_blind, fun U hU hW => ⟨rfl, Ok_at cx hP hS hU hW⟩⟩ rfl hav (hL.size) rfl ?_ hd ⟨by omega, by omega⟩) hS (fun _ _ h => h) (fun _ h => h) (fun r u t H1 locs1 ht hvm hp hB hz hk hS1 => ?_)
  · simpa using hrest
  · obtain ⟨z, rfl, hz2⟩ := hp
    unfold Wv at hB
    rw [ht] at hB
    exact K z u hz2 H1 locs1 ls hB hS1 hL
theorem z_sv (cx : Cx p s m args meth c own cc nL rt E) {y : MethodName} {cc' : ByteArray} {nL' fr' lo' n idx : Nat} {av rest : List Value} {post : Wd → Prop}
    (C : Ctv E y cc' nL' fr' lo' av G post) (hM : MS y cc' nL' none n) (hl : Cond.methodLink own idx y ∈ zWL) (hd : decode cc pc = .ok (.invokestatic idx, 3))
    (K : ∀ (G' : Wd), post G' → Z p l e R s m args below meth c nL ce sl E Q G' (pc + 3) vs rest)
    (hst : st = av.reverse ++ rest := by rfl) (hav : av.length = n := by rfl) (hroom : fr' + 1 ≤ R.frames ∧ 8 + (nL' + 11) + lo' ≤ R.locals := by exact ⟨Nat.le_of_ble_eq_true rfl, Nat.le_of_ble_eq_true rfl⟩) (hrest : (rest.map fun v => v.category).sum ≤ 8 := by exact Nat.le_of_ble_eq_true rfl) (hces : ce ≤ R.cells ∧ sl ≤ R.slots := by exact ⟨Nat.le_of_ble_eq_true rfl, Nat.le_of_ble_eq_true rfl⟩) : Z p l e R s m args below meth c nL ce sl E Q G pc vs st := by
  intro H locs ls hP hS hL
  subst hst
  refine va_callv (va_runS (As := av) (rest := rest) ⟨cx.1, cx.2.1, cx.2.2.1, cx.2.2.2.1, cx.2.2.2.2.1⟩ (C l) (va_cwS n cx.2.2.2.2.1 (hM.good hl) rfl rfl rfl hM.2.2.2 hroom) ⟨Ok_blind, fun U hU hW => ⟨rfl, Ok_at cx hP hS hU hW⟩⟩ rfl hav (hL.size) rfl ?_ hd ⟨by omega, by omega⟩) hS (fun _ _ h => h) (fun _ h => h) (fun u t H1 locs1 ht hvm hp hB hz hk hS1 => ?_)
  · simpa using hrest
  · unfold Wv at hB
    rw [ht] at hB
    exact K u hp H1 locs1 ls hB hS1 hL
/-- ends -/
def Qi_ (E : En) (below : List Frame) (args : Array Value) (s : State) (post : Int → Wd → Prop) : State → Prop := MQ below (va_Qi (fun r G' => ∃ z : Int, r = iN z ∧ post z G') (Wv E) (AE E)) args s 0 0 (AE E)
def Qv_ (E : En) (below : List Frame) (args : Array Value) (s : State) (post : Wd → Prop) : State → Prop := MQ below (va_Qv post (Wv E) (AE E)) args s 0 0 (AE E)
def Qf_ (E : En) (below : List Frame) (args : Array Value) (s : State) (post : UInt32 → Wd → Prop) : State → Prop := MQ below (va_Qf post (Wv E) (AE E)) args s 0 0 (AE E)
theorem z_iret (cx : Cx p s m args meth c own cc nL (some .int) E) {post : Int → Wd → Prop} {x : Int} (hd : decode cc pc = .ok (.ireturn, 1)) (h : post x G) : Z p l e R s m args below meth c nL 0 0 E (Qi_ E below args s post) G pc vs [.int (iN x)] :=
  fun H locs ls hP hS hL => W.iret cx.1 cx.2.1 cx.2.2.2.2.2.1 (fun t ht hW => ⟨⟨iN x, G, rfl, ⟨x, rfl, h⟩, by unfold Wv; rw [ht]; exact hP⟩, hS.F ht⟩) hS.2.2 hd cx.2.2.2.2.2.2.1
theorem narb {x : Int} (h : x = 0 ∨ x = 1) : narrow .boolean (.int (iN x)) = .int (iN x) ∧ fits .boolean (.int (iN x)) = true := by
  rcases h with rfl | rfl <;> decide +kernel
theorem z_zret (cx : Cx p s m args meth c own cc nL (some .boolean) E) {post : Int → Wd → Prop} {x : Int} (hd : decode cc pc = .ok (.ireturn, 1)) (h : post x G) (h01 : x = 0 ∨ x = 1 := by omega) : Z p l e R s m args below meth c nL 0 0 E (Qi_ E below args s post) G pc vs [.int (iN x)] :=
  fun H locs ls hP hS hL => W.zret cx.1 cx.2.1 cx.2.2.2.2.2.1 (narb h01).1 (fun t ht hW => ⟨⟨iN x, G, rfl, ⟨x, rfl, h⟩, by unfold Wv; rw [ht]; exact hP⟩, hS.F ht⟩) hS.2.2 hd cx.2.2.2.2.2.2.1
theorem z_vret (cx : Cx p s m args meth c own cc nL none E) {post : Wd → Prop} (hd : decode cc pc = .ok (.return_, 1)) (h : post G) : Z p l e R s m args below meth c nL 0 0 E (Qv_ E below args s post) G pc vs [] :=
  fun H locs ls hP hS hL => W.vret cx.1 cx.2.1 cx.2.2.2.2.2.1 (fun t ht hW => ⟨⟨G, rfl, h, by unfold Wv; rw [ht]; exact hP⟩, hS.F ht⟩) hS.2.2 hd cx.2.2.2.2.2.2.1
theorem z_fret (cx : Cx p s m args meth c own cc nL (some .float) E) {post : UInt32 → Wd → Prop} {x : UInt32} (hd : decode cc pc = .ok (.freturn, 1)) (h : post x G) : Z p l e R s m args below meth c nL 0 0 E (Qf_ E below args s post) G pc vs [.float x] :=
  fun H locs ls hP hS hL => W.fret cx.1 cx.2.1 cx.2.2.2.2.2.1 (fun t ht hW => ⟨⟨x, G, rfl, h, by unfold Wv; rw [ht]; exact hP⟩, hS.F ht⟩) hS.2.2 hd cx.2.2.2.2.2.2.1
/-- beginnings -/
theorem Lo_entry {av : List Value} {vs : List (Option Value)} (hcat : ∀ v ∈ av, v.category = 1) (hvs : vs = av.map some ++ List.replicate (nL - av.length) none) (hlen : av.length ≤ nL) : Lo nL vs ((lg_sl av ++ List.replicate (nL - (lg_sl av).length) Slot.unset).toArray) := by
  have hl := lv_entry av (n := nL) (by rw [lg_sl_len hcat]; exact hlen)
  have key : ∀ (i : Nat) (v : Value), vs[i]? = some (some v) → av[i]? = some v := by
    intro i v hv
    rw [hvs] at hv
    by_cases hi : i < av.length
    · rw [List.getElem?_append_left (by rw [List.length_map]; exact hi), List.getElem?_map] at hv
      cases hx : av[i]? with
      | none => rw [hx] at hv; cases hv
      | some w => rw [hx] at hv; cases hv; rfl
    · rw [List.getElem?_append_right (by rw [List.length_map]; omega)] at hv
      have := List.eq_of_mem_replicate (List.mem_of_getElem? hv)
      cases this
  refine ⟨hl.mono (fun q hq => ?_), fun i v hv => hcat v (List.mem_of_getElem? (key i v hv))⟩
  obtain ⟨i, v⟩ := q
  have h2 := lv_args_mem hcat 0 i v (key i v (la_mem.mp hq))
  rwa [Nat.zero_add] at h2
theorem Cx.of {y : MethodName} {ret : Option FieldType} {maxL : Nat} {s₁ : State} {rm : Room} (B : BodyLoose p l y (headSpec (zw y cc maxL ret) rm) cc maxL ret e s m args below meth c s₁) (hml : c.maxLocals = maxL) (hKE : KE E s s.heap) : Cx p s m args meth c y.cls cc maxL ret E :=
  ⟨B.exec, B.bytes, hml, findClass_of_methodNamed (by cases y; exact B.named), fun w h => atoms_spec (ws := zw y cc maxL ret) B.pre w (List.mem_cons_of_mem _ h), B.returns, B.notSynchronized, hKE⟩
theorem Cti.mk {y : MethodName} {ty : FieldType} {av : List Value} {post : Int → Wd → Prop} (vs : List (Option Value)) (hy : plainName y.cls = true) (hvs : vs = av.map some ++ List.replicate (nL - av.length) none) (hcat : ∀ v ∈ av, v.category = 1) (hlen : av.length ≤ nL)
    (body : ∀ (p : Program) (l : Launch) (e : Env) (s : State) (m : MethodId) (args : Array Value) (below : List Frame) (meth : Method) (c : Code), Cx p s m args meth c y.cls cc nL (some ty) E → Z p l e (zr fr lo) s m args below meth c nL 0 0 E (Qi_ E below args s post) G 0 vs []) : Cti E y cc nL ty fr lo av G post := by
  intro l
  refine Met.ofW hy rfl ?_
  intro p e s m args below meth c s₁ B hml hv
  obtain ⟨rfl, hP, hKE⟩ := hv
  have h := body p l e s m av.toArray below meth c (Cx.of B hml hKE)
  rw [lg_entry_eq]
  exact h s.heap [] _ hP va_S.rf (Lo_entry hcat hvs hlen)
theorem Ctv.mk {y : MethodName} {av : List Value} {post : Wd → Prop} (vs : List (Option Value)) (hy : plainName y.cls = true) (hvs : vs = av.map some ++ List.replicate (nL - av.length) none) (hcat : ∀ v ∈ av, v.category = 1) (hlen : av.length ≤ nL)
    (body : ∀ (p : Program) (l : Launch) (e : Env) (s : State) (m : MethodId) (args : Array Value) (below : List Frame) (meth : Method) (c : Code), Cx p s m args meth c y.cls cc nL none E → Z p l e (zr fr lo) s m args below meth c nL 0 0 E (Qv_ E below args s post) G 0 vs []) : Ctv E y cc nL fr lo av G post := by
  intro l
  refine Met.ofW hy rfl ?_
  intro p e s m args below meth c s₁ B hml hv
  obtain ⟨rfl, hP, hKE⟩ := hv
  have h := body p l e s m av.toArray below meth c (Cx.of B hml hKE)
  rw [lg_entry_eq]
  exact h s.heap [] _ hP va_S.rf (Lo_entry hcat hvs hlen)
theorem Ctf.mk {y : MethodName} {av : List Value} {post : UInt32 → Wd → Prop} (vs : List (Option Value)) (hy : plainName y.cls = true) (hvs : vs = av.map some ++ List.replicate (nL - av.length) none) (hcat : ∀ v ∈ av, v.category = 1) (hlen : av.length ≤ nL)
    (body : ∀ (p : Program) (l : Launch) (e : Env) (s : State) (m : MethodId) (args : Array Value) (below : List Frame) (meth : Method) (c : Code), Cx p s m args meth c y.cls cc nL (some .float) E → Z p l e (zr fr lo) s m args below meth c nL 0 0 E (Qf_ E below args s post) G 0 vs []) : Ctf E y cc nL fr lo av G post := by
  intro l
  refine Met.ofW hy rfl ?_
  intro p e s m args below meth c s₁ B hml hv
  obtain ⟨rfl, hP, hKE⟩ := hv
  have h := body p l e s m av.toArray below meth c (Cx.of B hml hKE)
  rw [lg_entry_eq]
  exact h s.heap [] _ hP va_S.rf (Lo_entry hcat hvs hlen)
end ZH
end
section
/-! ===== copies, tables, Math, switches ===== -/
def gcp (G : Wd) (f a f0 a0 sp dp n : Nat) : Wd := fun f' a' i' => if f' = f ∧ a' = a ∧ dp ≤ i' ∧ i' < dp + n then G f0 a0 (sp + (i' - dp)) else G f' a' i'
theorem gcp_eq (G : Wd) (f a f0 a0 sp dp n f' a' i' : Nat) : gcp G f a f0 a0 sp dp n f' a' i' = if f' = f ∧ a' = a ∧ dp ≤ i' ∧ i' < dp + n then G f0 a0 (sp + (i' - dp)) else G f' a' i' := rfl
theorem cont_gcp (E : En) (G : Wd) {f a f0 a0 sp dp n c : Nat} (h : c ≠ cel f a) : cont E (gcp G f a f0 a0 sp dp n) c = cont E G c :=
  cont_congr E (fun f' a' i' h2 => by
    rw [gcp_eq, if_neg]
    rintro ⟨rfl, rfl, -⟩
    exact h h2.symm)
section ZM
variable {p : Program} {l : Launch} {e : Env} {s : State} {m : MethodId} {args : Array Value} {below : List Frame} {meth : Method} {c : Code} {own : String} {cc : ByteArray} {nL fr lo ce sl : Nat} {rt : Option FieldType} {E : En}
variable {R : Room} {Q : State → Prop} {G : Wd} {pc : Nat} {vs : List (Option Value)} {st : List Value}
theorem z_copy (cx : Cx p s m args meth c own cc nL rt E) {idx c0 c1 n0 n1 f0 a0 f a k : Nat} {ty : FieldType} {sp dp n : Int} (hn0 : c0 < 278) (hn1 : c1 < 278) (hcel : cel f a = c1) (hc0 : cont E G c0 = ci_ E k n0 (fun i => iN (G f0 a0 i))) (hc1 : ∀ G : Wd, cont E G c1 = ci_ E k n1 (fun i => iN (G f a i))) (ht : (tyE E)[k]? = some (E.2.2.1 k, ty)) (hprim : refKind ty = false) (hfit : ∀ i, i < n.toNat → fits ty (.int (iN (G f0 a0 (sp.toNat + i)))) = true)
    (hl : Cond.methodLink own idx arraycopyName ∈ zWL) (hd : decode cc pc = .ok (.invokestatic idx, 3)) (K : Z p l e R s m args below meth c nL ce sl E Q (gcp G f a f0 a0 sp.toNat dp.toNat n.toNat) (pc + 3) vs st)
    (h : 0 ≤ sp ∧ 0 ≤ dp ∧ 0 ≤ n ∧ sp + n ≤ n0 ∧ dp + n ≤ n1 ∧ (n0 : Int) < 2147483648 ∧ (n1 : Int) < 2147483648 := by omega) (hfr : 1 ≤ R.frames := by exact Nat.le_of_ble_eq_true rfl) (hlo : (st.map fun v => v.category).sum + (nativeFrameWords "java/lang/System" "arraycopy" 5 + 11) ≤ R.locals := by exact Nat.le_of_ble_eq_true rfl) : Z p l e R s m args below meth c nL ce sl E Q G pc vs (.int (iN n) :: .int (iN dp) :: .ref (E.1 c1) :: .int (iN sp) :: .ref (E.1 c0) :: st) := by
  intro H locs ls hP hS hL
  refine va_copyi cx.1 cx.2.1 (cx.2.2.1.trans hL.size.symm) cx.2.2.2.1 (cx.hts hl) (cx.hts nt_javalangSystemarraycopy) (cx.hts sc_javalangSystemarraycopy) (cx.hts ii_J10) cx.K hP (cx.ok.D G) hS c0 c1 k k (by rw [ws_get E G hn0, hc0]) (by rw [ws_get E G hn1, hc1 G]) ht ht hprim ?_ ?_ ?_ ?_ ?_ ?_ hfr hlo hd (fun H1 locs1 hP1 _ hS1 => ?_)
  · rw [iN_zero, iN_lt (by omega)]; omega
  · rw [iN_zero, iN_lt (by omega)]; omega
  · rw [iN_zero, iN_lt (by omega)]; omega
  · rw [iN_clamp (by omega), iN_clamp (by omega)]; omega
  · rw [iN_clamp (by omega), iN_clamp (by omega)]; omega
  · rw [iN_clamp (by omega), iN_clamp (by omega)]; exact hfit
  · rw [iN_clamp (by omega), iN_clamp (by omega), iN_clamp (by omega), ws_set E (G' := gcp G f a f0 a0 sp.toNat dp.toNat n.toNat) hn1 ?_ ?_] at hP1
    · exact K H1 locs1 ls hP1 hS1 hL
    · rw [hc1]
      congr 4
      funext j
      unfold va_cpy
      rw [gcp_eq]
      by_cases hj : dp.toNat ≤ j ∧ j < dp.toNat + n.toNat
      · rw [if_pos hj, if_pos ⟨rfl, rfl, hj⟩]
      · rw [if_neg hj, if_neg (fun q => hj q.2.2)]
    · intro c' h2
      exact cont_gcp E G (by rw [hcel]; exact h2)
theorem iN_fits_char {v : Int} (h : 0 ≤ v ∧ v < 65536) : fits .char (.int (iN v)) = true := by
  obtain ⟨k, rfl⟩ : ∃ k : Nat, v = k := ⟨v.toNat, by omega⟩
  have h1 : iN (k : Int) = nI k := Int32.ofInt_eq_ofNat
  rw [h1]
  exact (pk_charN (by omega)).2
theorem z_gets (cx : Cx p s m args meth c own cc nL rt E) {idx : Nat} {nm : String} (k : Nat) (hk : (k = 0 ∧ nm = "LOWEST") ∨ (k = 1 ∧ nm = "HIGHEST")) (hl : Cond.fieldLink own idx "SubtitleSeats" nm "[I" ∈ zWL) (hd : decode cc pc = .ok (.getstatic idx, 3)) (K : Z p l e R s m args below meth c nL ce sl E Q G (pc + 3) vs (.ref (E.2.2.2 k) :: st)) : Z p l e R s m args below meth c nL ce sl E Q G pc vs st := by
  intro H locs ls hP hS hL
  rcases hk with ⟨rfl, rfl⟩ | ⟨rfl, rfl⟩
  · exact va_gets cx.1 cx.2.1 cx.ke.2.2.1 hS cx.2.2.2.1 (cx.hts hl) (fun _ h => h) hd (K H locs ls hP hS hL)
  · exact va_gets cx.1 cx.2.1 cx.ke.2.2.2.2.1 hS cx.2.2.2.1 (cx.hts hl) (fun _ h => h) hd (K H locs ls hP hS hL)
theorem z_tlow (cx : Cx p s m args meth c own cc nL rt E) {x : Int} (j : Nat) (hj : x = (j : Int)) (hd : decode cc pc = .ok (.iaload, 1)) (K : Z p l e R s m args below meth c nL ce sl E Q G (pc + 1) vs (.int (iN (lowT j)) :: st)) (h : j < 6 := by omega) : Z p l e R s m args below meth c nL ce sl E Q G pc vs (.int (iN x) :: .ref (E.2.2.2 0) :: st) :=
  fun H locs ls hP hS hL => va_ti cx.1 cx.2.1 cx.ke.2.2.2.1 hS (iN_in (by omega) (by decide)) rfl hd (by rw [iN_clamp (by omega), hj, Int.toNat_natCast]; exact K H locs ls hP hS hL)
theorem z_thig (cx : Cx p s m args meth c own cc nL rt E) {x : Int} (j : Nat) (hj : x = (j : Int)) (hd : decode cc pc = .ok (.iaload, 1)) (K : Z p l e R s m args below meth c nL ce sl E Q G (pc + 1) vs (.int (iN (higT j)) :: st)) (h : j < 6 := by omega) : Z p l e R s m args below meth c nL ce sl E Q G pc vs (.int (iN x) :: .ref (E.2.2.2 1) :: st) :=
  fun H locs ls hP hS hL => va_ti cx.1 cx.2.1 cx.ke.2.2.2.2.2 hS (iN_in (by omega) (by decide)) rfl hd (by rw [iN_clamp (by omega), hj, Int.toNat_natCast]; exact K H locs ls hP hS hL)
theorem z_max (cx : Cx p s m args meth c own cc nL rt E) {idx : Nat} {x y : Int} (hl : Cond.methodLink own idx Lib.Math.max.name ∈ zWL) (hd : decode cc pc = .ok (.invokestatic idx, 3)) (K : Z p l e R s m args below meth c nL ce sl E Q G (pc + 3) vs (.int (iN (max x y)) :: st)) (h : -2147483648 ≤ x ∧ x < 2147483648 ∧ -2147483648 ≤ y ∧ y < 2147483648 := by omega) (hfr : 1 ≤ R.frames := by exact Nat.le_of_ble_eq_true rfl) (hlo : (st.map fun v => v.category).sum + 13 ≤ R.locals := by exact Nat.le_of_ble_eq_true rfl) (hces : ce ≤ R.cells ∧ sl ≤ R.slots := by exact ⟨Nat.le_of_ble_eq_true rfl, Nat.le_of_ble_eq_true rfl⟩) : Z p l e R s m args below meth c nL ce sl E Q G pc vs (.int (iN y) :: .int (iN x) :: st) := by
  intro H locs ls hP hS hL
  refine va_mmax cx.1 cx.2.1 (cx.2.2.1.trans hL.size.symm) cx.2.2.2.1 (cx.hts hl) (cx.hts sc_J9_max_7cf53) (cx.hts ii_J9) (cx.hts cd_J9_max_7cf53) hfr hlo hces.1 hces.2 hd ?_
  have e1 : (if iN x < iN y then iN y else iN x) = iN (max x y) := by
    by_cases hxy : x < y
    · rw [if_pos ((iN_lt h).mpr hxy), show max x y = y by omega]
    · rw [if_neg (fun q => hxy ((iN_lt h).mp q)), show max x y = x by omega]
  rw [e1]
  exact K H locs ls hP hS hL
theorem z_min (cx : Cx p s m args meth c own cc nL rt E) {idx : Nat} {x y : Int} (hl : Cond.methodLink own idx Lib.Math.min.name ∈ zWL) (hd : decode cc pc = .ok (.invokestatic idx, 3)) (K : Z p l e R s m args below meth c nL ce sl E Q G (pc + 3) vs (.int (iN (min x y)) :: st)) (h : -2147483648 ≤ x ∧ x < 2147483648 ∧ -2147483648 ≤ y ∧ y < 2147483648 := by omega) (hfr : 1 ≤ R.frames := by exact Nat.le_of_ble_eq_true rfl) (hlo : (st.map fun v => v.category).sum + 13 ≤ R.locals := by exact Nat.le_of_ble_eq_true rfl) (hces : ce ≤ R.cells ∧ sl ≤ R.slots := by exact ⟨Nat.le_of_ble_eq_true rfl, Nat.le_of_ble_eq_true rfl⟩) : Z p l e R s m args below meth c nL ce sl E Q G pc vs (.int (iN y) :: .int (iN x) :: st) := by
  intro H locs ls hP hS hL
  refine va_mmin cx.1 cx.2.1 (cx.2.2.1.trans hL.size.symm) cx.2.2.2.1 (cx.hts hl) (cx.hts sc_J9_min_7cf53) (cx.hts ii_J9) (cx.hts cd_J9_min_7cf53) hfr hlo hces.1 hces.2 hd ?_
  have h2 : -2147483648 ≤ y ∧ y < 2147483648 ∧ -2147483648 ≤ x ∧ x < 2147483648 := ⟨h.2.2.1, h.2.2.2, h.1, h.2.1⟩
  have e1 : (if iN y < iN x then iN y else iN x) = iN (min x y) := by
    by_cases hxy : y < x
    · rw [if_pos ((iN_lt h2).mpr hxy), show min x y = y by omega]
    · rw [if_neg (fun q => hxy ((iN_lt h2).mp q)), show min x y = x by omega]
  rw [e1]
  exact K H locs ls hP hS hL
theorem z_abs (cx : Cx p s m args meth c own cc nL rt E) {idx : Nat} {x : Int} (hl : Cond.methodLink own idx Lib.Math.abs.name ∈ zWL) (hd : decode cc pc = .ok (.invokestatic idx, 3)) (K : Z p l e R s m args below meth c nL ce sl E Q G (pc + 3) vs (.int (iN (x.natAbs : Int)) :: st)) (h : -2147483648 ≤ x ∧ x < 2147483648 := by omega) (hfr : 1 ≤ R.frames := by exact Nat.le_of_ble_eq_true rfl) (hlo : (st.map fun v => v.category).sum + 13 ≤ R.locals := by exact Nat.le_of_ble_eq_true rfl) (hces : ce ≤ R.cells ∧ sl ≤ R.slots := by exact ⟨Nat.le_of_ble_eq_true rfl, Nat.le_of_ble_eq_true rfl⟩) : Z p l e R s m args below meth c nL ce sl E Q G pc vs (.int (iN x) :: st) := by
  intro H locs ls hP hS hL
  refine va_mabs cx.1 cx.2.1 (cx.2.2.1.trans hL.size.symm) cx.2.2.2.1 (cx.hts hl) (cx.hts sc_J9_abs_0f7a4) (cx.hts ii_J9) (cx.hts cd_J9_abs_0f7a4) hfr hlo hces.1 hces.2 hd ?_
  have e1 : (if (0 : Int32) ≤ iN x then iN x else 0 - iN x) = iN (x.natAbs : Int) := by
    by_cases hxy : 0 ≤ x
    · rw [if_pos (by rw [iN_zero, iN_le (by omega)]; exact hxy), show (x.natAbs : Int) = x by omega]
    · rw [if_neg (by rw [iN_zero, iN_le (by omega)]; exact hxy), iN_zero, iN_sub, show (x.natAbs : Int) = 0 - x by omega]
  rw [e1]
  exact K H locs ls hP hS hL
theorem z_tblIn (cx : Cx p s m args meth c own cc nL rt E) {dflt lo hi : Int} {offs : Array Int} {len : Nat} {x off : Int} {tgt : Nat} (hd : decode cc pc = .ok (.tableswitch dflt lo hi offs, len)) (ho : offs[(x - lo).toNat]? = some off) (ht : (pc : Int) + off = (tgt : Int)) (K : Z p l e R s m args below meth c nL ce sl E Q G tgt vs st) (h : lo ≤ x ∧ x ≤ hi ∧ -2147483648 ≤ x ∧ x < 2147483648 := by omega) : Z p l e R s m args below meth c nL ce sl E Q G pc vs (.int (iN x) :: st) :=
  fun H locs ls hP hS hL => lv_tableIn cx.1 cx.2.1 hd (by rw [iN_toInt (by omega)]; omega) (by rw [iN_toInt (by omega)]; omega) (by rw [iN_toInt (by omega)]; exact ho) ht (K H locs ls hP hS hL)
theorem z_tblOut (cx : Cx p s m args meth c own cc nL rt E) {dflt lo hi : Int} {offs : Array Int} {len : Nat} {x : Int} {tgt : Nat} (hd : decode cc pc = .ok (.tableswitch dflt lo hi offs, len)) (ht : (pc : Int) + dflt = (tgt : Int)) (K : Z p l e R s m args below meth c nL ce sl E Q G tgt vs st) (h : (x < lo ∨ hi < x) ∧ -2147483648 ≤ x ∧ x < 2147483648 := by omega) : Z p l e R s m args below meth c nL ce sl E Q G pc vs (.int (iN x) :: st) :=
  fun H locs ls hP hS hL => lv_tableOut cx.1 cx.2.1 hd (by rw [iN_toInt h.2]; exact h.1) ht (K H locs ls hP hS hL)
theorem z_i2c (cx : Cx p s m args meth c own cc nL rt E) {x : Int} (hd : decode cc pc = .ok (.i2c, 1)) (K : Z p l e R s m args below meth c nL ce sl E Q G (pc + 1) vs (.int (iN x) :: st)) (h : 0 ≤ x ∧ x < 65536 := by omega) : Z p l e R s m args below meth c nL ce sl E Q G pc vs (.int (iN x) :: st) :=
  fun H locs ls hP hS hL => lv_i2c cx.1 cx.2.1 hd (by
    have h1 : iN x = nI x.toNat := by
      have h2 : iN ((x.toNat : Nat) : Int) = nI x.toNat := Int32.ofInt_eq_ofNat
      rwa [Int.toNat_of_nonneg h.1] at h2
    have h4 := pk_char (iN x)
    rw [h4]
    rw [h1, pk_tn (by omega), Nat.mod_eq_of_lt (by omega)]) (K H locs ls hP hS hL)
end ZM
end
section
section ZT
variable {p : Program} {l : Launch} {e : Env} {s : State} {m : MethodId} {args : Array Value} {below : List Frame} {meth : Method} {c : Code} {own : String} {cc : ByteArray} {nL fr lo ce sl : Nat} {rt : Option FieldType} {E : En}
variable {R : Room} {Q : State → Prop} {G : Wd} {pc : Nat} {vs : List (Option Value)} {st : List Value}
theorem g_X0_0 (cx : Cx p s m args meth c own cc nL rt E) {q : Nat} {idx : Nat} (hq : q < 6) (hl : Cond.fieldLink own idx "SubtitleSeats$Film" "rows" "[LSubtitleSeats$Subtitle;" ∈ zWL) (hd : decode cc pc = .ok (.getfield idx, 3)) (K : Z p l e R s m args below meth c nL ce sl E Q G (pc + 3) vs (.ref (E.1 (20 + q)) :: st)) : Z p l e R s m args below meth c nL ce sl E Q G pc vs (.ref (E.1 (14 + q)) :: st) :=
  z_get cx (by omega) (co_film E G hq) rfl ziX0 (k := 0) (by decide) rfl hl hd K
theorem g_X0_1 (cx : Cx p s m args meth c own cc nL rt E) {q : Nat} {idx : Nat} (hq : q < 6) (hl : Cond.fieldLink own idx "SubtitleSeats$Film" "count" "I" ∈ zWL) (hd : decode cc pc = .ok (.getfield idx, 3)) (K : Z p l e R s m args below meth c nL ce sl E Q G (pc + 3) vs (.int (iN (G 0 q 0)) :: st)) : Z p l e R s m args below meth c nL ce sl E Q G pc vs (.ref (E.1 (14 + q)) :: st) :=
  z_get cx (by omega) (co_film E G hq) rfl ziX0 (k := 1) (by decide) rfl hl hd K
theorem p_X0_1 (cx : Cx p s m args meth c own cc nL rt E) {q : Nat} {idx : Nat} {x : Int} (hq : q < 6) (hl : Cond.fieldLink own idx "SubtitleSeats$Film" "count" "I" ∈ zWL) (hd : decode cc pc = .ok (.putfield idx, 3)) (K : Z p l e R s m args below meth c nL ce sl E Q (gup G 0 q 0 x) (pc + 3) vs st) : Z p l e R s m args below meth c nL ce sl E Q G pc vs (.int (iN x) :: .ref (E.1 (14 + q)) :: st) :=
  z_put cx (by omega) rfl (co_film E G hq) (by rw [co_film E _ hq]; simp [gup]) rfl ziX0 tyX0_ok nmX0 (k := 1) (by decide) rfl (ty := .int) (by decide +kernel) rfl rfl (Nat.le_of_ble_eq_true rfl) hl hd K
theorem g_X0_2 (cx : Cx p s m args meth c own cc nL rt E) {q : Nat} {idx : Nat} (hq : q < 6) (hl : Cond.fieldLink own idx "SubtitleSeats$Film" "cutFrames" "[I" ∈ zWL) (hd : decode cc pc = .ok (.getfield idx, 3)) (K : Z p l e R s m args below meth c nL ce sl E Q G (pc + 3) vs (.ref (E.1 (26 + q)) :: st)) : Z p l e R s m args below meth c nL ce sl E Q G pc vs (.ref (E.1 (14 + q)) :: st) :=
  z_get cx (by omega) (co_film E G hq) rfl ziX0 (k := 2) (by decide) rfl hl hd K
theorem g_X0_3 (cx : Cx p s m args meth c own cc nL rt E) {q : Nat} {idx : Nat} (hq : q < 6) (hl : Cond.fieldLink own idx "SubtitleSeats$Film" "cutCount" "I" ∈ zWL) (hd : decode cc pc = .ok (.getfield idx, 3)) (K : Z p l e R s m args below meth c nL ce sl E Q G (pc + 3) vs (.int (iN (G 1 q 0)) :: st)) : Z p l e R s m args below meth c nL ce sl E Q G pc vs (.ref (E.1 (14 + q)) :: st) :=
  z_get cx (by omega) (co_film E G hq) rfl ziX0 (k := 3) (by decide) rfl hl hd K
theorem p_X0_3 (cx : Cx p s m args meth c own cc nL rt E) {q : Nat} {idx : Nat} {x : Int} (hq : q < 6) (hl : Cond.fieldLink own idx "SubtitleSeats$Film" "cutCount" "I" ∈ zWL) (hd : decode cc pc = .ok (.putfield idx, 3)) (K : Z p l e R s m args below meth c nL ce sl E Q (gup G 1 q 0 x) (pc + 3) vs st) : Z p l e R s m args below meth c nL ce sl E Q G pc vs (.int (iN x) :: .ref (E.1 (14 + q)) :: st) :=
  z_put cx (by omega) rfl (co_film E G hq) (by rw [co_film E _ hq]; simp [gup]) rfl ziX0 tyX0_ok nmX0 (k := 3) (by decide) rfl (ty := .int) (by decide +kernel) rfl rfl (Nat.le_of_ble_eq_true rfl) hl hd K
theorem g_X0_4 (cx : Cx p s m args meth c own cc nL rt E) {q : Nat} {idx : Nat} (hq : q < 6) (hl : Cond.fieldLink own idx "SubtitleSeats$Film" "values" "[I" ∈ zWL) (hd : decode cc pc = .ok (.getfield idx, 3)) (K : Z p l e R s m args below meth c nL ce sl E Q G (pc + 3) vs (.ref (E.1 (32 + q)) :: st)) : Z p l e R s m args below meth c nL ce sl E Q G pc vs (.ref (E.1 (14 + q)) :: st) :=
  z_get cx (by omega) (co_film E G hq) rfl ziX0 (k := 4) (by decide) rfl hl hd K
theorem g_X1_0 (cx : Cx p s m args meth c own cc nL rt E) {idx : Nat} (hl : Cond.fieldLink own idx "SubtitleSeats$History" "states" "[LSubtitleSeats$Film;" ∈ zWL) (hd : decode cc pc = .ok (.getfield idx, 3)) (K : Z p l e R s m args below meth c nL ce sl E Q G (pc + 3) vs (.ref (E.1 (2)) :: st)) : Z p l e R s m args below meth c nL ce sl E Q G pc vs (.ref (E.1 (1)) :: st) :=
  z_get cx (by omega) (co_hist E G) rfl ziX1 (k := 0) (by decide) rfl hl hd K
theorem g_X1_1 (cx : Cx p s m args meth c own cc nL rt E) {idx : Nat} (hl : Cond.fieldLink own idx "SubtitleSeats$History" "count" "I" ∈ zWL) (hd : decode cc pc = .ok (.getfield idx, 3)) (K : Z p l e R s m args below meth c nL ce sl E Q G (pc + 3) vs (.int (iN (G 9 0 0)) :: st)) : Z p l e R s m args below meth c nL ce sl E Q G pc vs (.ref (E.1 (1)) :: st) :=
  z_get cx (by omega) (co_hist E G) rfl ziX1 (k := 1) (by decide) rfl hl hd K
theorem p_X1_1 (cx : Cx p s m args meth c own cc nL rt E) {idx : Nat} {x : Int} (hl : Cond.fieldLink own idx "SubtitleSeats$History" "count" "I" ∈ zWL) (hd : decode cc pc = .ok (.putfield idx, 3)) (K : Z p l e R s m args below meth c nL ce sl E Q (gup G 9 0 0 x) (pc + 3) vs st) : Z p l e R s m args below meth c nL ce sl E Q G pc vs (.int (iN x) :: .ref (E.1 (1)) :: st) :=
  z_put cx (by omega) rfl (co_hist E G) (by rw [co_hist E _]; simp [gup]) rfl ziX1 tyX1_ok nmX1 (k := 1) (by decide) rfl (ty := .int) (by decide +kernel) rfl rfl (Nat.le_of_ble_eq_true rfl) hl hd K
theorem g_X1_2 (cx : Cx p s m args meth c own cc nL rt E) {idx : Nat} (hl : Cond.fieldLink own idx "SubtitleSeats$History" "latest" "I" ∈ zWL) (hd : decode cc pc = .ok (.getfield idx, 3)) (K : Z p l e R s m args below meth c nL ce sl E Q G (pc + 3) vs (.int (iN (G 10 0 0)) :: st)) : Z p l e R s m args below meth c nL ce sl E Q G pc vs (.ref (E.1 (1)) :: st) :=
  z_get cx (by omega) (co_hist E G) rfl ziX1 (k := 2) (by decide) rfl hl hd K
theorem p_X1_2 (cx : Cx p s m args meth c own cc nL rt E) {idx : Nat} {x : Int} (hl : Cond.fieldLink own idx "SubtitleSeats$History" "latest" "I" ∈ zWL) (hd : decode cc pc = .ok (.putfield idx, 3)) (K : Z p l e R s m args below meth c nL ce sl E Q (gup G 10 0 0 x) (pc + 3) vs st) : Z p l e R s m args below meth c nL ce sl E Q G pc vs (.int (iN x) :: .ref (E.1 (1)) :: st) :=
  z_put cx (by omega) rfl (co_hist E G) (by rw [co_hist E _]; simp [gup]) rfl ziX1 tyX1_ok nmX1 (k := 2) (by decide) rfl (ty := .int) (by decide +kernel) rfl rfl (Nat.le_of_ble_eq_true rfl) hl hd K
theorem g_X2_0 (cx : Cx p s m args meth c own cc nL rt E) {idx : Nat} (hl : Cond.fieldLink own idx "SubtitleSeats$Script" "characters" "[C" ∈ zWL) (hd : decode cc pc = .ok (.getfield idx, 3)) (K : Z p l e R s m args below meth c nL ce sl E Q G (pc + 3) vs (.ref (E.1 (4)) :: st)) : Z p l e R s m args below meth c nL ce sl E Q G pc vs (.ref (E.1 (3)) :: st) :=
  z_get cx (by omega) (co_scr E G) rfl ziX2 (k := 0) (by decide) rfl hl hd K
theorem g_X2_1 (cx : Cx p s m args meth c own cc nL rt E) {idx : Nat} (hl : Cond.fieldLink own idx "SubtitleSeats$Script" "length" "I" ∈ zWL) (hd : decode cc pc = .ok (.getfield idx, 3)) (K : Z p l e R s m args below meth c nL ce sl E Q G (pc + 3) vs (.int (iN (G 12 0 0)) :: st)) : Z p l e R s m args below meth c nL ce sl E Q G pc vs (.ref (E.1 (3)) :: st) :=
  z_get cx (by omega) (co_scr E G) rfl ziX2 (k := 1) (by decide) rfl hl hd K
theorem p_X2_1 (cx : Cx p s m args meth c own cc nL rt E) {idx : Nat} {x : Int} (hl : Cond.fieldLink own idx "SubtitleSeats$Script" "length" "I" ∈ zWL) (hd : decode cc pc = .ok (.putfield idx, 3)) (K : Z p l e R s m args below meth c nL ce sl E Q (gup G 12 0 0 x) (pc + 3) vs st) : Z p l e R s m args below meth c nL ce sl E Q G pc vs (.int (iN x) :: .ref (E.1 (3)) :: st) :=
  z_put cx (by omega) rfl (co_scr E G) (by rw [co_scr E _]; simp [gup]) rfl ziX2 tyX2_ok nmX2 (k := 1) (by decide) rfl (ty := .int) (by decide +kernel) rfl rfl (Nat.le_of_ble_eq_true rfl) hl hd K
theorem g_X2_2 (cx : Cx p s m args meth c own cc nL rt E) {idx : Nat} (hl : Cond.fieldLink own idx "SubtitleSeats$Script" "place" "I" ∈ zWL) (hd : decode cc pc = .ok (.getfield idx, 3)) (K : Z p l e R s m args below meth c nL ce sl E Q G (pc + 3) vs (.int (iN (G 13 0 0)) :: st)) : Z p l e R s m args below meth c nL ce sl E Q G pc vs (.ref (E.1 (3)) :: st) :=
  z_get cx (by omega) (co_scr E G) rfl ziX2 (k := 2) (by decide) rfl hl hd K
theorem p_X2_2 (cx : Cx p s m args meth c own cc nL rt E) {idx : Nat} {x : Int} (hl : Cond.fieldLink own idx "SubtitleSeats$Script" "place" "I" ∈ zWL) (hd : decode cc pc = .ok (.putfield idx, 3)) (K : Z p l e R s m args below meth c nL ce sl E Q (gup G 13 0 0 x) (pc + 3) vs st) : Z p l e R s m args below meth c nL ce sl E Q G pc vs (.int (iN x) :: .ref (E.1 (3)) :: st) :=
  z_put cx (by omega) rfl (co_scr E G) (by rw [co_scr E _]; simp [gup]) rfl ziX2 tyX2_ok nmX2 (k := 2) (by decide) rfl (ty := .int) (by decide +kernel) rfl rfl (Nat.le_of_ble_eq_true rfl) hl hd K
theorem g_X2_3 (cx : Cx p s m args meth c own cc nL rt E) {idx : Nat} (hl : Cond.fieldLink own idx "SubtitleSeats$Script" "entryPlace" "I" ∈ zWL) (hd : decode cc pc = .ok (.getfield idx, 3)) (K : Z p l e R s m args below meth c nL ce sl E Q G (pc + 3) vs (.int (iN (G 14 0 0)) :: st)) : Z p l e R s m args below meth c nL ce sl E Q G pc vs (.ref (E.1 (3)) :: st) :=
  z_get cx (by omega) (co_scr E G) rfl ziX2 (k := 3) (by decide) rfl hl hd K
theorem p_X2_3 (cx : Cx p s m args meth c own cc nL rt E) {idx : Nat} {x : Int} (hl : Cond.fieldLink own idx "SubtitleSeats$Script" "entryPlace" "I" ∈ zWL) (hd : decode cc pc = .ok (.putfield idx, 3)) (K : Z p l e R s m args below meth c nL ce sl E Q (gup G 14 0 0 x) (pc + 3) vs st) : Z p l e R s m args below meth c nL ce sl E Q G pc vs (.int (iN x) :: .ref (E.1 (3)) :: st) :=
  z_put cx (by omega) rfl (co_scr E G) (by rw [co_scr E _]; simp [gup]) rfl ziX2 tyX2_ok nmX2 (k := 3) (by decide) rfl (ty := .int) (by decide +kernel) rfl rfl (Nat.le_of_ble_eq_true rfl) hl hd K
theorem g_X2_4 (cx : Cx p s m args meth c own cc nL rt E) {idx : Nat} (hl : Cond.fieldLink own idx "SubtitleSeats$Script" "start" "I" ∈ zWL) (hd : decode cc pc = .ok (.getfield idx, 3)) (K : Z p l e R s m args below meth c nL ce sl E Q G (pc + 3) vs (.int (iN (G 15 0 0)) :: st)) : Z p l e R s m args below meth c nL ce sl E Q G pc vs (.ref (E.1 (3)) :: st) :=
  z_get cx (by omega) (co_scr E G) rfl ziX2 (k := 4) (by decide) rfl hl hd K
theorem p_X2_4 (cx : Cx p s m args meth c own cc nL rt E) {idx : Nat} {x : Int} (hl : Cond.fieldLink own idx "SubtitleSeats$Script" "start" "I" ∈ zWL) (hd : decode cc pc = .ok (.putfield idx, 3)) (K : Z p l e R s m args below meth c nL ce sl E Q (gup G 15 0 0 x) (pc + 3) vs st) : Z p l e R s m args below meth c nL ce sl E Q G pc vs (.int (iN x) :: .ref (E.1 (3)) :: st) :=
  z_put cx (by omega) rfl (co_scr E G) (by rw [co_scr E _]; simp [gup]) rfl ziX2 tyX2_ok nmX2 (k := 4) (by decide) rfl (ty := .int) (by decide +kernel) rfl rfl (Nat.le_of_ble_eq_true rfl) hl hd K
theorem g_X2_5 (cx : Cx p s m args meth c own cc nL rt E) {idx : Nat} (hl : Cond.fieldLink own idx "SubtitleSeats$Script" "end" "I" ∈ zWL) (hd : decode cc pc = .ok (.getfield idx, 3)) (K : Z p l e R s m args below meth c nL ce sl E Q G (pc + 3) vs (.int (iN (G 16 0 0)) :: st)) : Z p l e R s m args below meth c nL ce sl E Q G pc vs (.ref (E.1 (3)) :: st) :=
  z_get cx (by omega) (co_scr E G) rfl ziX2 (k := 5) (by decide) rfl hl hd K
theorem p_X2_5 (cx : Cx p s m args meth c own cc nL rt E) {idx : Nat} {x : Int} (hl : Cond.fieldLink own idx "SubtitleSeats$Script" "end" "I" ∈ zWL) (hd : decode cc pc = .ok (.putfield idx, 3)) (K : Z p l e R s m args below meth c nL ce sl E Q (gup G 16 0 0 x) (pc + 3) vs st) : Z p l e R s m args below meth c nL ce sl E Q G pc vs (.int (iN x) :: .ref (E.1 (3)) :: st) :=
  z_put cx (by omega) rfl (co_scr E G) (by rw [co_scr E _]; simp [gup]) rfl ziX2 tyX2_ok nmX2 (k := 5) (by decide) rfl (ty := .int) (by decide +kernel) rfl rfl (Nat.le_of_ble_eq_true rfl) hl hd K
theorem g_X2_6 (cx : Cx p s m args meth c own cc nL rt E) {idx : Nat} (hl : Cond.fieldLink own idx "SubtitleSeats$Script" "textPlace" "I" ∈ zWL) (hd : decode cc pc = .ok (.getfield idx, 3)) (K : Z p l e R s m args below meth c nL ce sl E Q G (pc + 3) vs (.int (iN (G 17 0 0)) :: st)) : Z p l e R s m args below meth c nL ce sl E Q G pc vs (.ref (E.1 (3)) :: st) :=
  z_get cx (by omega) (co_scr E G) rfl ziX2 (k := 6) (by decide) rfl hl hd K
theorem p_X2_6 (cx : Cx p s m args meth c own cc nL rt E) {idx : Nat} {x : Int} (hl : Cond.fieldLink own idx "SubtitleSeats$Script" "textPlace" "I" ∈ zWL) (hd : decode cc pc = .ok (.putfield idx, 3)) (K : Z p l e R s m args below meth c nL ce sl E Q (gup G 17 0 0 x) (pc + 3) vs st) : Z p l e R s m args below meth c nL ce sl E Q G pc vs (.int (iN x) :: .ref (E.1 (3)) :: st) :=
  z_put cx (by omega) rfl (co_scr E G) (by rw [co_scr E _]; simp [gup]) rfl ziX2 tyX2_ok nmX2 (k := 6) (by decide) rfl (ty := .int) (by decide +kernel) rfl rfl (Nat.le_of_ble_eq_true rfl) hl hd K
theorem g_X2_7 (cx : Cx p s m args meth c own cc nL rt E) {idx : Nat} (hl : Cond.fieldLink own idx "SubtitleSeats$Script" "textLength" "I" ∈ zWL) (hd : decode cc pc = .ok (.getfield idx, 3)) (K : Z p l e R s m args below meth c nL ce sl E Q G (pc + 3) vs (.int (iN (G 18 0 0)) :: st)) : Z p l e R s m args below meth c nL ce sl E Q G pc vs (.ref (E.1 (3)) :: st) :=
  z_get cx (by omega) (co_scr E G) rfl ziX2 (k := 7) (by decide) rfl hl hd K
theorem p_X2_7 (cx : Cx p s m args meth c own cc nL rt E) {idx : Nat} {x : Int} (hl : Cond.fieldLink own idx "SubtitleSeats$Script" "textLength" "I" ∈ zWL) (hd : decode cc pc = .ok (.putfield idx, 3)) (K : Z p l e R s m args below meth c nL ce sl E Q (gup G 18 0 0 x) (pc + 3) vs st) : Z p l e R s m args below meth c nL ce sl E Q G pc vs (.int (iN x) :: .ref (E.1 (3)) :: st) :=
  z_put cx (by omega) rfl (co_scr E G) (by rw [co_scr E _]; simp [gup]) rfl ziX2 tyX2_ok nmX2 (k := 7) (by decide) rfl (ty := .int) (by decide +kernel) rfl rfl (Nat.le_of_ble_eq_true rfl) hl hd K
theorem g_X3_0 (cx : Cx p s m args meth c own cc nL rt E) {q : Nat} {idx : Nat} (hq : q < 120) (hl : Cond.fieldLink own idx "SubtitleSeats$Subtitle" "start" "I" ∈ zWL) (hd : decode cc pc = .ok (.getfield idx, 3)) (K : Z p l e R s m args below meth c nL ce sl E Q G (pc + 3) vs (.int (iN (G 5 q 0)) :: st)) : Z p l e R s m args below meth c nL ce sl E Q G pc vs (.ref (E.1 (38 + q)) :: st) :=
  z_get cx (by omega) (co_sub E G hq) rfl ziX3 (k := 0) (by decide) rfl hl hd K
theorem p_X3_0 (cx : Cx p s m args meth c own cc nL rt E) {q : Nat} {idx : Nat} {x : Int} (hq : q < 120) (hl : Cond.fieldLink own idx "SubtitleSeats$Subtitle" "start" "I" ∈ zWL) (hd : decode cc pc = .ok (.putfield idx, 3)) (K : Z p l e R s m args below meth c nL ce sl E Q (gup G 5 q 0 x) (pc + 3) vs st) : Z p l e R s m args below meth c nL ce sl E Q G pc vs (.int (iN x) :: .ref (E.1 (38 + q)) :: st) :=
  z_put cx (by omega) rfl (co_sub E G hq) (by rw [co_sub E _ hq]; simp [gup]) rfl ziX3 tyX3_ok nmX3 (k := 0) (by decide) rfl (ty := .int) (by decide +kernel) rfl rfl (Nat.le_of_ble_eq_true rfl) hl hd K
theorem g_X3_1 (cx : Cx p s m args meth c own cc nL rt E) {q : Nat} {idx : Nat} (hq : q < 120) (hl : Cond.fieldLink own idx "SubtitleSeats$Subtitle" "end" "I" ∈ zWL) (hd : decode cc pc = .ok (.getfield idx, 3)) (K : Z p l e R s m args below meth c nL ce sl E Q G (pc + 3) vs (.int (iN (G 6 q 0)) :: st)) : Z p l e R s m args below meth c nL ce sl E Q G pc vs (.ref (E.1 (38 + q)) :: st) :=
  z_get cx (by omega) (co_sub E G hq) rfl ziX3 (k := 1) (by decide) rfl hl hd K
theorem p_X3_1 (cx : Cx p s m args meth c own cc nL rt E) {q : Nat} {idx : Nat} {x : Int} (hq : q < 120) (hl : Cond.fieldLink own idx "SubtitleSeats$Subtitle" "end" "I" ∈ zWL) (hd : decode cc pc = .ok (.putfield idx, 3)) (K : Z p l e R s m args below meth c nL ce sl E Q (gup G 6 q 0 x) (pc + 3) vs st) : Z p l e R s m args below meth c nL ce sl E Q G pc vs (.int (iN x) :: .ref (E.1 (38 + q)) :: st) :=
  z_put cx (by omega) rfl (co_sub E G hq) (by rw [co_sub E _ hq]; simp [gup]) rfl ziX3 tyX3_ok nmX3 (k := 1) (by decide) rfl (ty := .int) (by decide +kernel) rfl rfl (Nat.le_of_ble_eq_true rfl) hl hd K
theorem g_X3_2 (cx : Cx p s m args meth c own cc nL rt E) {q : Nat} {idx : Nat} (hq : q < 120) (hl : Cond.fieldLink own idx "SubtitleSeats$Subtitle" "length" "I" ∈ zWL) (hd : decode cc pc = .ok (.getfield idx, 3)) (K : Z p l e R s m args below meth c nL ce sl E Q G (pc + 3) vs (.int (iN (G 7 q 0)) :: st)) : Z p l e R s m args below meth c nL ce sl E Q G pc vs (.ref (E.1 (38 + q)) :: st) :=
  z_get cx (by omega) (co_sub E G hq) rfl ziX3 (k := 2) (by decide) rfl hl hd K
theorem p_X3_2 (cx : Cx p s m args meth c own cc nL rt E) {q : Nat} {idx : Nat} {x : Int} (hq : q < 120) (hl : Cond.fieldLink own idx "SubtitleSeats$Subtitle" "length" "I" ∈ zWL) (hd : decode cc pc = .ok (.putfield idx, 3)) (K : Z p l e R s m args below meth c nL ce sl E Q (gup G 7 q 0 x) (pc + 3) vs st) : Z p l e R s m args below meth c nL ce sl E Q G pc vs (.int (iN x) :: .ref (E.1 (38 + q)) :: st) :=
  z_put cx (by omega) rfl (co_sub E G hq) (by rw [co_sub E _ hq]; simp [gup]) rfl ziX3 tyX3_ok nmX3 (k := 2) (by decide) rfl (ty := .int) (by decide +kernel) rfl rfl (Nat.le_of_ble_eq_true rfl) hl hd K
theorem g_X3_3 (cx : Cx p s m args meth c own cc nL rt E) {q : Nat} {idx : Nat} (hq : q < 120) (hl : Cond.fieldLink own idx "SubtitleSeats$Subtitle" "text" "[C" ∈ zWL) (hd : decode cc pc = .ok (.getfield idx, 3)) (K : Z p l e R s m args below meth c nL ce sl E Q G (pc + 3) vs (.ref (E.1 (158 + q)) :: st)) : Z p l e R s m args below meth c nL ce sl E Q G pc vs (.ref (E.1 (38 + q)) :: st) :=
  z_get cx (by omega) (co_sub E G hq) rfl ziX3 (k := 3) (by decide) rfl hl hd K
theorem g_X4_0 (cx : Cx p s m args meth c own cc nL rt E) {idx : Nat} (hl : Cond.fieldLink own idx "SubtitleSeats" "film" "LSubtitleSeats$Film;" ∈ zWL) (hd : decode cc pc = .ok (.getfield idx, 3)) (K : Z p l e R s m args below meth c nL ce sl E Q G (pc + 3) vs (.ref (E.1 (14 + 0)) :: st)) : Z p l e R s m args below meth c nL ce sl E Q G pc vs (.ref (E.1 (0)) :: st) :=
  z_get cx (by omega) (co_main E G) rfl ziX4 (k := 0) (by decide) rfl hl hd K
theorem g_X4_1 (cx : Cx p s m args meth c own cc nL rt E) {idx : Nat} (hl : Cond.fieldLink own idx "SubtitleSeats" "trial" "LSubtitleSeats$Film;" ∈ zWL) (hd : decode cc pc = .ok (.getfield idx, 3)) (K : Z p l e R s m args below meth c nL ce sl E Q G (pc + 3) vs (.ref (E.1 (14 + 1)) :: st)) : Z p l e R s m args below meth c nL ce sl E Q G pc vs (.ref (E.1 (0)) :: st) :=
  z_get cx (by omega) (co_main E G) rfl ziX4 (k := 1) (by decide) rfl hl hd K
theorem g_X4_2 (cx : Cx p s m args meth c own cc nL rt E) {idx : Nat} (hl : Cond.fieldLink own idx "SubtitleSeats" "history" "LSubtitleSeats$History;" ∈ zWL) (hd : decode cc pc = .ok (.getfield idx, 3)) (K : Z p l e R s m args below meth c nL ce sl E Q G (pc + 3) vs (.ref (E.1 (1)) :: st)) : Z p l e R s m args below meth c nL ce sl E Q G pc vs (.ref (E.1 (0)) :: st) :=
  z_get cx (by omega) (co_main E G) rfl ziX4 (k := 2) (by decide) rfl hl hd K
theorem g_X4_3 (cx : Cx p s m args meth c own cc nL rt E) {idx : Nat} (hl : Cond.fieldLink own idx "SubtitleSeats" "script" "LSubtitleSeats$Script;" ∈ zWL) (hd : decode cc pc = .ok (.getfield idx, 3)) (K : Z p l e R s m args below meth c nL ce sl E Q G (pc + 3) vs (.ref (E.1 (3)) :: st)) : Z p l e R s m args below meth c nL ce sl E Q G pc vs (.ref (E.1 (0)) :: st) :=
  z_get cx (by omega) (co_main E G) rfl ziX4 (k := 3) (by decide) rfl hl hd K
theorem g_X4_4 (cx : Cx p s m args meth c own cc nL rt E) {idx : Nat} (hl : Cond.fieldLink own idx "SubtitleSeats" "report" "[I" ∈ zWL) (hd : decode cc pc = .ok (.getfield idx, 3)) (K : Z p l e R s m args below meth c nL ce sl E Q G (pc + 3) vs (.ref (E.1 (5)) :: st)) : Z p l e R s m args below meth c nL ce sl E Q G pc vs (.ref (E.1 (0)) :: st) :=
  z_get cx (by omega) (co_main E G) rfl ziX4 (k := 4) (by decide) rfl hl hd K
theorem g_X5_0 (cx : Cx p s m args meth c own cc nL rt E) {idx : Nat} (hl : Cond.fieldLink own idx "SubtitleSeatsModel" "s" "[I" ∈ zWL) (hd : decode cc pc = .ok (.getfield idx, 3)) (K : Z p l e R s m args below meth c nL ce sl E Q G (pc + 3) vs (.ref (E.1 (7)) :: st)) : Z p l e R s m args below meth c nL ce sl E Q G pc vs (.ref (E.1 (6)) :: st) :=
  z_get cx (by omega) (co_mod E G) rfl ziX5 (k := 0) (by decide) rfl hl hd K
theorem g_X5_1 (cx : Cx p s m args meth c own cc nL rt E) {idx : Nat} (hl : Cond.fieldLink own idx "SubtitleSeatsModel" "aside" "[I" ∈ zWL) (hd : decode cc pc = .ok (.getfield idx, 3)) (K : Z p l e R s m args below meth c nL ce sl E Q G (pc + 3) vs (.ref (E.1 (8)) :: st)) : Z p l e R s m args below meth c nL ce sl E Q G pc vs (.ref (E.1 (6)) :: st) :=
  z_get cx (by omega) (co_mod E G) rfl ziX5 (k := 1) (by decide) rfl hl hd K
theorem g_X5_2 (cx : Cx p s m args meth c own cc nL rt E) {idx : Nat} (hl : Cond.fieldLink own idx "SubtitleSeatsModel" "before" "[I" ∈ zWL) (hd : decode cc pc = .ok (.getfield idx, 3)) (K : Z p l e R s m args below meth c nL ce sl E Q G (pc + 3) vs (.ref (E.1 (9)) :: st)) : Z p l e R s m args below meth c nL ce sl E Q G pc vs (.ref (E.1 (6)) :: st) :=
  z_get cx (by omega) (co_mod E G) rfl ziX5 (k := 2) (by decide) rfl hl hd K
theorem g_X5_3 (cx : Cx p s m args meth c own cc nL rt E) {idx : Nat} (hl : Cond.fieldLink own idx "SubtitleSeatsModel" "past" "[I" ∈ zWL) (hd : decode cc pc = .ok (.getfield idx, 3)) (K : Z p l e R s m args below meth c nL ce sl E Q G (pc + 3) vs (.ref (E.1 (10)) :: st)) : Z p l e R s m args below meth c nL ce sl E Q G pc vs (.ref (E.1 (6)) :: st) :=
  z_get cx (by omega) (co_mod E G) rfl ziX5 (k := 3) (by decide) rfl hl hd K
theorem g_X5_4 (cx : Cx p s m args meth c own cc nL rt E) {idx : Nat} (hl : Cond.fieldLink own idx "SubtitleSeatsModel" "known" "I" ∈ zWL) (hd : decode cc pc = .ok (.getfield idx, 3)) (K : Z p l e R s m args below meth c nL ce sl E Q G (pc + 3) vs (.int (iN (G 27 0 0)) :: st)) : Z p l e R s m args below meth c nL ce sl E Q G pc vs (.ref (E.1 (6)) :: st) :=
  z_get cx (by omega) (co_mod E G) rfl ziX5 (k := 4) (by decide) rfl hl hd K
theorem p_X5_4 (cx : Cx p s m args meth c own cc nL rt E) {idx : Nat} {x : Int} (hl : Cond.fieldLink own idx "SubtitleSeatsModel" "known" "I" ∈ zWL) (hd : decode cc pc = .ok (.putfield idx, 3)) (K : Z p l e R s m args below meth c nL ce sl E Q (gup G 27 0 0 x) (pc + 3) vs st) : Z p l e R s m args below meth c nL ce sl E Q G pc vs (.int (iN x) :: .ref (E.1 (6)) :: st) :=
  z_put cx (by omega) rfl (co_mod E G) (by rw [co_mod E _]; simp [gup]) rfl ziX5 tyX5_ok nmX5 (k := 4) (by decide) rfl (ty := .int) (by decide +kernel) rfl rfl (Nat.le_of_ble_eq_true rfl) hl hd K
theorem g_X5_5 (cx : Cx p s m args meth c own cc nL rt E) {idx : Nat} (hl : Cond.fieldLink own idx "SubtitleSeatsModel" "script" "[I" ∈ zWL) (hd : decode cc pc = .ok (.getfield idx, 3)) (K : Z p l e R s m args below meth c nL ce sl E Q G (pc + 3) vs (.ref (E.1 (11)) :: st)) : Z p l e R s m args below meth c nL ce sl E Q G pc vs (.ref (E.1 (6)) :: st) :=
  z_get cx (by omega) (co_mod E G) rfl ziX5 (k := 5) (by decide) rfl hl hd K
theorem g_X5_6 (cx : Cx p s m args meth c own cc nL rt E) {idx : Nat} (hl : Cond.fieldLink own idx "SubtitleSeatsModel" "length" "I" ∈ zWL) (hd : decode cc pc = .ok (.getfield idx, 3)) (K : Z p l e R s m args below meth c nL ce sl E Q G (pc + 3) vs (.int (iN (G 28 0 0)) :: st)) : Z p l e R s m args below meth c nL ce sl E Q G pc vs (.ref (E.1 (6)) :: st) :=
  z_get cx (by omega) (co_mod E G) rfl ziX5 (k := 6) (by decide) rfl hl hd K
theorem p_X5_6 (cx : Cx p s m args meth c own cc nL rt E) {idx : Nat} {x : Int} (hl : Cond.fieldLink own idx "SubtitleSeatsModel" "length" "I" ∈ zWL) (hd : decode cc pc = .ok (.putfield idx, 3)) (K : Z p l e R s m args below meth c nL ce sl E Q (gup G 28 0 0 x) (pc + 3) vs st) : Z p l e R s m args below meth c nL ce sl E Q G pc vs (.int (iN x) :: .ref (E.1 (6)) :: st) :=
  z_put cx (by omega) rfl (co_mod E G) (by rw [co_mod E _]; simp [gup]) rfl ziX5 tyX5_ok nmX5 (k := 6) (by decide) rfl (ty := .int) (by decide +kernel) rfl rfl (Nat.le_of_ble_eq_true rfl) hl hd K
theorem g_X5_7 (cx : Cx p s m args meth c own cc nL rt E) {idx : Nat} (hl : Cond.fieldLink own idx "SubtitleSeatsModel" "lines" "[I" ∈ zWL) (hd : decode cc pc = .ok (.getfield idx, 3)) (K : Z p l e R s m args below meth c nL ce sl E Q G (pc + 3) vs (.ref (E.1 (12)) :: st)) : Z p l e R s m args below meth c nL ce sl E Q G pc vs (.ref (E.1 (6)) :: st) :=
  z_get cx (by omega) (co_mod E G) rfl ziX5 (k := 7) (by decide) rfl hl hd K
theorem g_X5_8 (cx : Cx p s m args meth c own cc nL rt E) {idx : Nat} (hl : Cond.fieldLink own idx "SubtitleSeatsModel" "spot" "I" ∈ zWL) (hd : decode cc pc = .ok (.getfield idx, 3)) (K : Z p l e R s m args below meth c nL ce sl E Q G (pc + 3) vs (.int (iN (G 29 0 0)) :: st)) : Z p l e R s m args below meth c nL ce sl E Q G pc vs (.ref (E.1 (6)) :: st) :=
  z_get cx (by omega) (co_mod E G) rfl ziX5 (k := 8) (by decide) rfl hl hd K
theorem p_X5_8 (cx : Cx p s m args meth c own cc nL rt E) {idx : Nat} {x : Int} (hl : Cond.fieldLink own idx "SubtitleSeatsModel" "spot" "I" ∈ zWL) (hd : decode cc pc = .ok (.putfield idx, 3)) (K : Z p l e R s m args below meth c nL ce sl E Q (gup G 29 0 0 x) (pc + 3) vs st) : Z p l e R s m args below meth c nL ce sl E Q G pc vs (.int (iN x) :: .ref (E.1 (6)) :: st) :=
  z_put cx (by omega) rfl (co_mod E G) (by rw [co_mod E _]; simp [gup]) rfl ziX5 tyX5_ok nmX5 (k := 8) (by decide) rfl (ty := .int) (by decide +kernel) rfl rfl (Nat.le_of_ble_eq_true rfl) hl hd K
theorem g_X5_9 (cx : Cx p s m args meth c own cc nL rt E) {idx : Nat} (hl : Cond.fieldLink own idx "SubtitleSeatsModel" "entry" "I" ∈ zWL) (hd : decode cc pc = .ok (.getfield idx, 3)) (K : Z p l e R s m args below meth c nL ce sl E Q G (pc + 3) vs (.int (iN (G 30 0 0)) :: st)) : Z p l e R s m args below meth c nL ce sl E Q G pc vs (.ref (E.1 (6)) :: st) :=
  z_get cx (by omega) (co_mod E G) rfl ziX5 (k := 9) (by decide) rfl hl hd K
theorem p_X5_9 (cx : Cx p s m args meth c own cc nL rt E) {idx : Nat} {x : Int} (hl : Cond.fieldLink own idx "SubtitleSeatsModel" "entry" "I" ∈ zWL) (hd : decode cc pc = .ok (.putfield idx, 3)) (K : Z p l e R s m args below meth c nL ce sl E Q (gup G 30 0 0 x) (pc + 3) vs st) : Z p l e R s m args below meth c nL ce sl E Q G pc vs (.int (iN x) :: .ref (E.1 (6)) :: st) :=
  z_put cx (by omega) rfl (co_mod E G) (by rw [co_mod E _]; simp [gup]) rfl ziX5 tyX5_ok nmX5 (k := 9) (by decide) rfl (ty := .int) (by decide +kernel) rfl rfl (Nat.le_of_ble_eq_true rfl) hl hd K
theorem g_X5_10 (cx : Cx p s m args meth c own cc nL rt E) {idx : Nat} (hl : Cond.fieldLink own idx "SubtitleSeatsModel" "isForm" "Z" ∈ zWL) (hd : decode cc pc = .ok (.getfield idx, 3)) (K : Z p l e R s m args below meth c nL ce sl E Q G (pc + 3) vs (.int (iN (G 31 0 0)) :: st)) : Z p l e R s m args below meth c nL ce sl E Q G pc vs (.ref (E.1 (6)) :: st) :=
  z_get cx (by omega) (co_mod E G) rfl ziX5 (k := 10) (by decide) rfl hl hd K
theorem p_X5_10 (cx : Cx p s m args meth c own cc nL rt E) {idx : Nat} {x : Int} (hl : Cond.fieldLink own idx "SubtitleSeatsModel" "isForm" "Z" ∈ zWL) (hd : decode cc pc = .ok (.putfield idx, 3)) (K : Z p l e R s m args below meth c nL ce sl E Q (gup G 31 0 0 x) (pc + 3) vs st) (h01 : x = 0 ∨ x = 1 := by omega) : Z p l e R s m args below meth c nL ce sl E Q G pc vs (.int (iN x) :: .ref (E.1 (6)) :: st) :=
  z_put cx (by omega) rfl (co_mod E G) (by rw [co_mod E _]; simp [gup]) rfl ziX5 tyX5_ok nmX5 (k := 10) (by decide) rfl (ty := .boolean) (by decide +kernel) (narb h01).1 (narb h01).2 (Nat.le_of_ble_eq_true rfl) hl hd K
theorem g_X5_11 (cx : Cx p s m args meth c own cc nL rt E) {idx : Nat} (hl : Cond.fieldLink own idx "SubtitleSeatsModel" "first" "I" ∈ zWL) (hd : decode cc pc = .ok (.getfield idx, 3)) (K : Z p l e R s m args below meth c nL ce sl E Q G (pc + 3) vs (.int (iN (G 32 0 0)) :: st)) : Z p l e R s m args below meth c nL ce sl E Q G pc vs (.ref (E.1 (6)) :: st) :=
  z_get cx (by omega) (co_mod E G) rfl ziX5 (k := 11) (by decide) rfl hl hd K
theorem p_X5_11 (cx : Cx p s m args meth c own cc nL rt E) {idx : Nat} {x : Int} (hl : Cond.fieldLink own idx "SubtitleSeatsModel" "first" "I" ∈ zWL) (hd : decode cc pc = .ok (.putfield idx, 3)) (K : Z p l e R s m args below meth c nL ce sl E Q (gup G 32 0 0 x) (pc + 3) vs st) : Z p l e R s m args below meth c nL ce sl E Q G pc vs (.int (iN x) :: .ref (E.1 (6)) :: st) :=
  z_put cx (by omega) rfl (co_mod E G) (by rw [co_mod E _]; simp [gup]) rfl ziX5 tyX5_ok nmX5 (k := 11) (by decide) rfl (ty := .int) (by decide +kernel) rfl rfl (Nat.le_of_ble_eq_true rfl) hl hd K
theorem g_X5_12 (cx : Cx p s m args meth c own cc nL rt E) {idx : Nat} (hl : Cond.fieldLink own idx "SubtitleSeatsModel" "second" "I" ∈ zWL) (hd : decode cc pc = .ok (.getfield idx, 3)) (K : Z p l e R s m args below meth c nL ce sl E Q G (pc + 3) vs (.int (iN (G 33 0 0)) :: st)) : Z p l e R s m args below meth c nL ce sl E Q G pc vs (.ref (E.1 (6)) :: st) :=
  z_get cx (by omega) (co_mod E G) rfl ziX5 (k := 12) (by decide) rfl hl hd K
theorem p_X5_12 (cx : Cx p s m args meth c own cc nL rt E) {idx : Nat} {x : Int} (hl : Cond.fieldLink own idx "SubtitleSeatsModel" "second" "I" ∈ zWL) (hd : decode cc pc = .ok (.putfield idx, 3)) (K : Z p l e R s m args below meth c nL ce sl E Q (gup G 33 0 0 x) (pc + 3) vs st) : Z p l e R s m args below meth c nL ce sl E Q G pc vs (.int (iN x) :: .ref (E.1 (6)) :: st) :=
  z_put cx (by omega) rfl (co_mod E G) (by rw [co_mod E _]; simp [gup]) rfl ziX5 tyX5_ok nmX5 (k := 12) (by decide) rfl (ty := .int) (by decide +kernel) rfl rfl (Nat.le_of_ble_eq_true rfl) hl hd K
theorem g_X5_13 (cx : Cx p s m args meth c own cc nL rt E) {idx : Nat} (hl : Cond.fieldLink own idx "SubtitleSeatsModel" "letters" "I" ∈ zWL) (hd : decode cc pc = .ok (.getfield idx, 3)) (K : Z p l e R s m args below meth c nL ce sl E Q G (pc + 3) vs (.int (iN (G 34 0 0)) :: st)) : Z p l e R s m args below meth c nL ce sl E Q G pc vs (.ref (E.1 (6)) :: st) :=
  z_get cx (by omega) (co_mod E G) rfl ziX5 (k := 13) (by decide) rfl hl hd K
theorem p_X5_13 (cx : Cx p s m args meth c own cc nL rt E) {idx : Nat} {x : Int} (hl : Cond.fieldLink own idx "SubtitleSeatsModel" "letters" "I" ∈ zWL) (hd : decode cc pc = .ok (.putfield idx, 3)) (K : Z p l e R s m args below meth c nL ce sl E Q (gup G 34 0 0 x) (pc + 3) vs st) : Z p l e R s m args below meth c nL ce sl E Q G pc vs (.int (iN x) :: .ref (E.1 (6)) :: st) :=
  z_put cx (by omega) rfl (co_mod E G) (by rw [co_mod E _]; simp [gup]) rfl ziX5 tyX5_ok nmX5 (k := 13) (by decide) rfl (ty := .int) (by decide +kernel) rfl rfl (Nat.le_of_ble_eq_true rfl) hl hd K
theorem g_X5_14 (cx : Cx p s m args meth c own cc nL rt E) {idx : Nat} (hl : Cond.fieldLink own idx "SubtitleSeatsModel" "isStopped" "Z" ∈ zWL) (hd : decode cc pc = .ok (.getfield idx, 3)) (K : Z p l e R s m args below meth c nL ce sl E Q G (pc + 3) vs (.int (iN (G 35 0 0)) :: st)) : Z p l e R s m args below meth c nL ce sl E Q G pc vs (.ref (E.1 (6)) :: st) :=
  z_get cx (by omega) (co_mod E G) rfl ziX5 (k := 14) (by decide) rfl hl hd K
theorem p_X5_14 (cx : Cx p s m args meth c own cc nL rt E) {idx : Nat} {x : Int} (hl : Cond.fieldLink own idx "SubtitleSeatsModel" "isStopped" "Z" ∈ zWL) (hd : decode cc pc = .ok (.putfield idx, 3)) (K : Z p l e R s m args below meth c nL ce sl E Q (gup G 35 0 0 x) (pc + 3) vs st) (h01 : x = 0 ∨ x = 1 := by omega) : Z p l e R s m args below meth c nL ce sl E Q G pc vs (.int (iN x) :: .ref (E.1 (6)) :: st) :=
  z_put cx (by omega) rfl (co_mod E G) (by rw [co_mod E _]; simp [gup]) rfl ziX5 tyX5_ok nmX5 (k := 14) (by decide) rfl (ty := .boolean) (by decide +kernel) (narb h01).1 (narb h01).2 (Nat.le_of_ble_eq_true rfl) hl hd K
theorem g_X5_15 (cx : Cx p s m args meth c own cc nL rt E) {idx : Nat} (hl : Cond.fieldLink own idx "SubtitleSeatsModel" "report" "[I" ∈ zWL) (hd : decode cc pc = .ok (.getfield idx, 3)) (K : Z p l e R s m args below meth c nL ce sl E Q G (pc + 3) vs (.ref (E.1 (13)) :: st)) : Z p l e R s m args below meth c nL ce sl E Q G pc vs (.ref (E.1 (6)) :: st) :=
  z_get cx (by omega) (co_mod E G) rfl ziX5 (k := 15) (by decide) rfl hl hd K
end ZT
theorem mv_X4_append : MV yX4_append cX4_append 2 (some .int) 1 := ⟨im_X4_append, se_X4_append, ii_X4, cd_X4_append, by decide, by decide, by decide +kernel⟩
theorem mv_X4_clearScript : MV yX4_clearScript cX4_clearScript 2 (some .int) 0 := ⟨im_X4_clearScript, se_X4_clearScript, ii_X4, cd_X4_clearScript, by decide, by decide, by decide +kernel⟩
theorem mv_X4_fault : MV yX4_fault cX4_fault 1 (some .int) 0 := ⟨im_X4_fault, se_X4_fault, ii_X4, cd_X4_fault, by decide, by decide, by decide +kernel⟩
theorem mv_X2_findFault : MV yX2_findFault cX2_findFault 2 (some .int) 0 := ⟨im_X2_findFault, se_X2_findFault, ii_X2, cd_X2_findFault, by decide, by decide, by decide +kernel⟩
theorem mv_X2_rewind : MV yX2_rewind cX2_rewind 1 none 0 := ⟨im_X2_rewind, se_X2_rewind, ii_X2, cd_X2_rewind, by decide, by decide, by decide +kernel⟩
theorem mv_X2_readEntry : MV yX2_readEntry cX2_readEntry 1 (some .boolean) 0 := ⟨im_X2_readEntry, se_X2_readEntry, ii_X2, cd_X2_readEntry, by decide, by decide, by decide +kernel⟩
theorem mv_X2_readNumber : MV yX2_readNumber cX2_readNumber 4 (some .int) 0 := ⟨im_X2_readNumber, se_X2_readNumber, ii_X2, cd_X2_readNumber, by decide, by decide, by decide +kernel⟩
theorem ms_X2_isDigit : MS yX2_isDigit cX2_isDigit 1 (some .boolean) 1 := ⟨sc_X2_isDigit, ii_X2, cd_X2_isDigit, by decide, by decide, by decide +kernel⟩
theorem mv_X2_take : MV yX2_take cX2_take 2 (some .boolean) 1 := ⟨im_X2_take, se_X2_take, ii_X2, cd_X2_take, by decide, by decide, by decide +kernel⟩
theorem mv_X2_readText : MV yX2_readText cX2_readText 1 (some .boolean) 0 := ⟨im_X2_readText, se_X2_readText, ii_X2, cd_X2_readText, by decide, by decide, by decide +kernel⟩
theorem mv_X2_mayFollowInText : MV yX2_mayFollowInText cX2_mayFollowInText 3 (some .boolean) 1 := ⟨im_X2_mayFollowInText, se_X2_mayFollowInText, ii_X2, cd_X2_mayFollowInText, by decide, by decide, by decide +kernel⟩
theorem ms_X2_isSign : MS yX2_isSign cX2_isSign 1 (some .boolean) 1 := ⟨sc_X2_isSign, ii_X2, cd_X2_isSign, by decide, by decide, by decide +kernel⟩
theorem mv_X4_load : MV yX4_load cX4_load 5 (some .int) 0 := ⟨im_X4_load, se_X4_load, ii_X4, cd_X4_load, by decide, by decide, by decide +kernel⟩
theorem mv_X1_record : MV yX1_record cX1_record 2 none 1 := ⟨im_X1_record, se_X1_record, ii_X1, cd_X1_record, by decide, by decide, by decide +kernel⟩
theorem mv_X0_copyFrom : MV yX0_copyFrom cX0_copyFrom 3 none 1 := ⟨im_X0_copyFrom, se_X0_copyFrom, ii_X0, cd_X0_copyFrom, by decide, by decide, by decide +kernel⟩
theorem mv_X3_copyFrom : MV yX3_copyFrom cX3_copyFrom 2 none 1 := ⟨im_X3_copyFrom, se_X3_copyFrom, ii_X3, cd_X3_copyFrom, by decide, by decide, by decide +kernel⟩
theorem mv_X3_takeText : MV yX3_takeText cX3_takeText 4 none 3 := ⟨im_X3_takeText, se_X3_takeText, ii_X3, cd_X3_takeText, by decide, by decide, by decide +kernel⟩
theorem ms_J9_min_7cf53 : MS yJ9_min_7cf53 cJ9_min_7cf53 2 (some .int) 2 := ⟨sc_J9_min_7cf53, ii_J9, cd_J9_min_7cf53, by decide, by decide, by decide +kernel⟩
theorem mv_X4_writeReport : MV yX4_writeReport cX4_writeReport 4 none 3 := ⟨im_X4_writeReport, se_X4_writeReport, ii_X4, cd_X4_writeReport, by decide, by decide, by decide +kernel⟩
theorem mv_X0_reasonAgainst : MV yX0_reasonAgainst cX0_reasonAgainst 4 (some .int) 2 := ⟨im_X0_reasonAgainst, se_X0_reasonAgainst, ii_X0, cd_X0_reasonAgainst, by decide, by decide, by decide +kernel⟩
theorem mv_X0_openRowAt : MV yX0_openRowAt cX0_openRowAt 4 (some .int) 1 := ⟨im_X0_openRowAt, se_X0_openRowAt, ii_X0, cd_X0_openRowAt, by decide, by decide, by decide +kernel⟩
theorem mv_X0_openRow : MV yX0_openRow cX0_openRow 4 none 1 := ⟨im_X0_openRow, se_X0_openRow, ii_X0, cd_X0_openRow, by decide, by decide, by decide +kernel⟩
theorem mv_X4_why : MV yX4_why cX4_why 2 (some .int) 1 := ⟨im_X4_why, se_X4_why, ii_X4, cd_X4_why, by decide, by decide, by decide +kernel⟩
theorem mv_X4_undo : MV yX4_undo cX4_undo 1 (some .int) 0 := ⟨im_X4_undo, se_X4_undo, ii_X4, cd_X4_undo, by decide, by decide, by decide +kernel⟩
theorem mv_X1_restore : MV yX1_restore cX1_restore 2 none 1 := ⟨im_X1_restore, se_X1_restore, ii_X1, cd_X1_restore, by decide, by decide, by decide +kernel⟩
theorem mv_X4_remove : MV yX4_remove cX4_remove 2 (some .int) 1 := ⟨im_X4_remove, se_X4_remove, ii_X4, cd_X4_remove, by decide, by decide, by decide +kernel⟩
theorem mv_X0_has : MV yX0_has cX0_has 2 (some .boolean) 1 := ⟨im_X0_has, se_X0_has, ii_X0, cd_X0_has, by decide, by decide, by decide +kernel⟩
theorem mv_X0_closeRow : MV yX0_closeRow cX0_closeRow 4 none 1 := ⟨im_X0_closeRow, se_X0_closeRow, ii_X0, cd_X0_closeRow, by decide, by decide, by decide +kernel⟩
theorem mv_X4_shift : MV yX4_shift cX4_shift 4 (some .int) 2 := ⟨im_X4_shift, se_X4_shift, ii_X4, cd_X4_shift, by decide, by decide, by decide +kernel⟩
theorem mv_X0_endBefore : MV yX0_endBefore cX0_endBefore 2 (some .int) 1 := ⟨im_X0_endBefore, se_X0_endBefore, ii_X0, cd_X0_endBefore, by decide, by decide, by decide +kernel⟩
theorem mv_X4_setEnd : MV yX4_setEnd cX4_setEnd 5 (some .int) 2 := ⟨im_X4_setEnd, se_X4_setEnd, ii_X4, cd_X4_setEnd, by decide, by decide, by decide +kernel⟩
theorem mv_X0_startBehind : MV yX0_startBehind cX0_startBehind 2 (some .int) 1 := ⟨im_X0_startBehind, se_X0_startBehind, ii_X0, cd_X0_startBehind, by decide, by decide, by decide +kernel⟩
theorem mv_X4_split : MV yX4_split cX4_split 3 (some .int) 1 := ⟨im_X4_split, se_X4_split, ii_X4, cd_X4_split, by decide, by decide, by decide +kernel⟩
theorem mv_X3_bestBlank : MV yX3_bestBlank cX3_bestBlank 7 (some .int) 0 := ⟨im_X3_bestBlank, se_X3_bestBlank, ii_X3, cd_X3_bestBlank, by decide, by decide, by decide +kernel⟩
theorem ms_X3_kindOfBlankBehind : MS yX3_kindOfBlankBehind cX3_kindOfBlankBehind 1 (some .int) 1 := ⟨sc_X3_kindOfBlankBehind, ii_X3, cd_X3_kindOfBlankBehind, by decide, by decide, by decide +kernel⟩
theorem ms_J9_abs_0f7a4 : MS yJ9_abs_0f7a4 cJ9_abs_0f7a4 1 (some .int) 1 := ⟨sc_J9_abs_0f7a4, ii_J9, cd_J9_abs_0f7a4, by decide, by decide, by decide +kernel⟩
theorem mv_X3_frames : MV yX3_frames cX3_frames 1 (some .int) 0 := ⟨im_X3_frames, se_X3_frames, ii_X3, cd_X3_frames, by decide, by decide, by decide +kernel⟩
theorem mv_X0_splitRow : MV yX0_splitRow cX0_splitRow 7 none 2 := ⟨im_X0_splitRow, se_X0_splitRow, ii_X0, cd_X0_splitRow, by decide, by decide, by decide +kernel⟩
theorem ms_X0_quotient : MS yX0_quotient cX0_quotient 2 (some .int) 2 := ⟨sc_X0_quotient, ii_X0, cd_X0_quotient, by decide, by decide, by decide +kernel⟩
theorem ms_J9_max_7cf53 : MS yJ9_max_7cf53 cJ9_max_7cf53 2 (some .int) 2 := ⟨sc_J9_max_7cf53, ii_J9, cd_J9_max_7cf53, by decide, by decide, by decide +kernel⟩
theorem mv_X4_join : MV yX4_join cX4_join 3 (some .int) 1 := ⟨im_X4_join, se_X4_join, ii_X4, cd_X4_join, by decide, by decide, by decide +kernel⟩
theorem mv_X0_joinRows : MV yX0_joinRows cX0_joinRows 4 none 1 := ⟨im_X0_joinRows, se_X0_joinRows, ii_X0, cd_X0_joinRows, by decide, by decide, by decide +kernel⟩
theorem mv_X4_seat : MV yX4_seat cX4_seat 1 (some .int) 0 := ⟨im_X4_seat, se_X4_seat, ii_X4, cd_X4_seat, by decide, by decide, by decide +kernel⟩
theorem mv_X0_seatAll : MV yX0_seatAll cX0_seatAll 6 (some .int) 1 := ⟨im_X0_seatAll, se_X0_seatAll, ii_X0, cd_X0_seatAll, by decide, by decide, by decide +kernel⟩
theorem mv_X0_seatRow : MV yX0_seatRow cX0_seatRow 8 (some .boolean) 3 := ⟨im_X0_seatRow, se_X0_seatRow, ii_X0, cd_X0_seatRow, by decide, by decide, by decide +kernel⟩
theorem mv_X0_framesNeededBy : MV yX0_framesNeededBy cX0_framesNeededBy 3 (some .int) 1 := ⟨im_X0_framesNeededBy, se_X0_framesNeededBy, ii_X0, cd_X0_framesNeededBy, by decide, by decide, by decide +kernel⟩
theorem mv_X0_nearestCutTo : MV yX0_nearestCutTo cX0_nearestCutTo 4 (some .int) 1 := ⟨im_X0_nearestCutTo, se_X0_nearestCutTo, ii_X0, cd_X0_nearestCutTo, by decide, by decide, by decide +kernel⟩
theorem mv_X4_cut : MV yX4_cut cX4_cut 2 (some .int) 1 := ⟨im_X4_cut, se_X4_cut, ii_X4, cd_X4_cut, by decide, by decide, by decide +kernel⟩
theorem mv_X0_findCut : MV yX0_findCut cX0_findCut 3 (some .int) 1 := ⟨im_X0_findCut, se_X0_findCut, ii_X0, cd_X0_findCut, by decide, by decide, by decide +kernel⟩
theorem mv_X0_addCut : MV yX0_addCut cX0_addCut 3 none 1 := ⟨im_X0_addCut, se_X0_addCut, ii_X0, cd_X0_addCut, by decide, by decide, by decide +kernel⟩
theorem mv_X4_uncut : MV yX4_uncut cX4_uncut 3 (some .int) 1 := ⟨im_X4_uncut, se_X4_uncut, ii_X4, cd_X4_uncut, by decide, by decide, by decide +kernel⟩
theorem mv_X0_removeCut : MV yX0_removeCut cX0_removeCut 3 none 1 := ⟨im_X0_removeCut, se_X0_removeCut, ii_X0, cd_X0_removeCut, by decide, by decide, by decide +kernel⟩
theorem mv_X4_set : MV yX4_set cX4_set 4 (some .int) 2 := ⟨im_X4_set, se_X4_set, ii_X4, cd_X4_set, by decide, by decide, by decide +kernel⟩
theorem mv_X4_subtitles : MV yX4_subtitles cX4_subtitles 1 (some .int) 0 := ⟨im_X4_subtitles, se_X4_subtitles, ii_X4, cd_X4_subtitles, by decide, by decide, by decide +kernel⟩
theorem mv_X4_subtitle : MV yX4_subtitle cX4_subtitle 4 (some .int) 2 := ⟨im_X4_subtitle, se_X4_subtitle, ii_X4, cd_X4_subtitle, by decide, by decide, by decide +kernel⟩
theorem mv_X0_faultsOf : MV yX0_faultsOf cX0_faultsOf 4 (some .int) 1 := ⟨im_X0_faultsOf, se_X0_faultsOf, ii_X0, cd_X0_faultsOf, by decide, by decide, by decide +kernel⟩
theorem mv_X3_isTooFastFor : MV yX3_isTooFastFor cX3_isTooFastFor 2 (some .boolean) 1 := ⟨im_X3_isTooFastFor, se_X3_isTooFastFor, ii_X3, cd_X3_isTooFastFor, by decide, by decide, by decide +kernel⟩
theorem mv_X0_hasCutNearItsTimes : MV yX0_hasCutNearItsTimes cX0_hasCutNearItsTimes 5 (some .boolean) 1 := ⟨im_X0_hasCutNearItsTimes, se_X0_hasCutNearItsTimes, ii_X0, cd_X0_hasCutNearItsTimes, by decide, by decide, by decide +kernel⟩
theorem mv_X3_fitsInLines : MV yX3_fitsInLines cX3_fitsInLines 4 (some .boolean) 1 := ⟨im_X3_fitsInLines, se_X3_fitsInLines, ii_X3, cd_X3_fitsInLines, by decide, by decide, by decide +kernel⟩
theorem mv_X3_lineCount : MV yX3_lineCount cX3_lineCount 4 (some .int) 1 := ⟨im_X3_lineCount, se_X3_lineCount, ii_X3, cd_X3_lineCount, by decide, by decide, by decide +kernel⟩
theorem mv_X3_lineEnd : MV yX3_lineEnd cX3_lineEnd 6 (some .int) 2 := ⟨im_X3_lineEnd, se_X3_lineEnd, ii_X3, cd_X3_lineEnd, by decide, by decide, by decide +kernel⟩
theorem mv_X3_lineLength : MV yX3_lineLength cX3_lineLength 5 (some .int) 2 := ⟨im_X3_lineLength, se_X3_lineLength, ii_X3, cd_X3_lineLength, by decide, by decide, by decide +kernel⟩
theorem mv_X4_character : MV yX4_character cX4_character 4 (some .int) 2 := ⟨im_X4_character, se_X4_character, ii_X4, cd_X4_character, by decide, by decide, by decide +kernel⟩
theorem mv_X4_line : MV yX4_line cX4_line 3 (some .int) 2 := ⟨im_X4_line, se_X4_line, ii_X4, cd_X4_line, by decide, by decide, by decide +kernel⟩
theorem mv_X4_at : MV yX4_at cX4_at 3 (some .int) 1 := ⟨im_X4_at, se_X4_at, ii_X4, cd_X4_at, by decide, by decide, by decide +kernel⟩
theorem mv_X4_cuts : MV yX4_cuts cX4_cuts 1 (some .int) 0 := ⟨im_X4_cuts, se_X4_cuts, ii_X4, cd_X4_cuts, by decide, by decide, by decide +kernel⟩
theorem mv_X4_cutAt : MV yX4_cutAt cX4_cutAt 2 (some .int) 1 := ⟨im_X4_cutAt, se_X4_cutAt, ii_X4, cd_X4_cutAt, by decide, by decide, by decide +kernel⟩
theorem mv_X4_setting : MV yX4_setting cX4_setting 2 (some .int) 1 := ⟨im_X4_setting, se_X4_setting, ii_X4, cd_X4_setting, by decide, by decide, by decide +kernel⟩
theorem mv_X4_faulty : MV yX4_faulty cX4_faulty 2 (some .int) 1 := ⟨im_X4_faulty, se_X4_faulty, ii_X4, cd_X4_faulty, by decide, by decide, by decide +kernel⟩
theorem ms_J6_bitCount_0f7a4 : MS yJ6_bitCount_0f7a4 cJ6_bitCount_0f7a4 1 (some .int) 1 := ⟨sc_J6_bitCount_0f7a4, ii_J6, cd_J6_bitCount_0f7a4, by decide, by decide, by decide +kernel⟩
theorem mv_X0_countFaulty : MV yX0_countFaulty cX0_countFaulty 4 (some .int) 1 := ⟨im_X0_countFaulty, se_X0_countFaulty, ii_X0, cd_X0_countFaulty, by decide, by decide, by decide +kernel⟩
theorem mv_X4_shown : MV yX4_shown cX4_shown 1 (some .int) 0 := ⟨im_X4_shown, se_X4_shown, ii_X4, cd_X4_shown, by decide, by decide, by decide +kernel⟩
theorem mv_X0_framesOfAll : MV yX0_framesOfAll cX0_framesOfAll 3 (some .int) 0 := ⟨im_X0_framesOfAll, se_X0_framesOfAll, ii_X0, cd_X0_framesOfAll, by decide, by decide, by decide +kernel⟩
theorem mv_X4_meanSpeed : MV yX4_meanSpeed cX4_meanSpeed 2 (some .float) 0 := ⟨im_X4_meanSpeed, se_X4_meanSpeed, ii_X4, cd_X4_meanSpeed, by decide, by decide, by decide +kernel⟩
theorem mv_X0_lengthOfAll : MV yX0_lengthOfAll cX0_lengthOfAll 3 (some .int) 0 := ⟨im_X0_lengthOfAll, se_X0_lengthOfAll, ii_X0, cd_X0_lengthOfAll, by decide, by decide, by decide +kernel⟩
theorem mv_X4_unread : MV yX4_unread cX4_unread 2 (some .int) 1 := ⟨im_X4_unread, se_X4_unread, ii_X4, cd_X4_unread, by decide, by decide, by decide +kernel⟩
theorem mv_X0_countTooFastFor : MV yX0_countTooFastFor cX0_countTooFastFor 4 (some .int) 1 := ⟨im_X0_countTooFastFor, se_X0_countTooFastFor, ii_X0, cd_X0_countTooFastFor, by decide, by decide, by decide +kernel⟩
theorem mv_X4_leastPace : MV yX4_leastPace cX4_leastPace 2 (some .int) 0 := ⟨im_X4_leastPace, se_X4_leastPace, ii_X4, cd_X4_leastPace, by decide, by decide, by decide +kernel⟩
theorem mv_X4_ifSeated : MV yX4_ifSeated cX4_ifSeated 3 (some .int) 1 := ⟨im_X4_ifSeated, se_X4_ifSeated, ii_X4, cd_X4_ifSeated, by decide, by decide, by decide +kernel⟩
theorem mv_X4_bestGap : MV yX4_bestGap cX4_bestGap 5 (some .int) 0 := ⟨im_X4_bestGap, se_X4_bestGap, ii_X4, cd_X4_bestGap, by decide, by decide, by decide +kernel⟩
theorem mv_X0_copyTimesFrom : MV yX0_copyTimesFrom cX0_copyTimesFrom 3 none 1 := ⟨im_X0_copyTimesFrom, se_X0_copyTimesFrom, ii_X0, cd_X0_copyTimesFrom, by decide, by decide, by decide +kernel⟩
theorem mv_X5_append : MV yX5_append cX5_append 2 (some .int) 1 := ⟨im_X5_append, se_X5_append, ii_X5, cd_X5_append, by decide, by decide, by decide +kernel⟩
theorem ms_X5_in : MS yX5_in cX5_in 3 (some .boolean) 3 := ⟨sc_X5_in, ii_X5, cd_X5_in, by decide, by decide, by decide +kernel⟩
theorem mv_X5_clearScript : MV yX5_clearScript cX5_clearScript 2 (some .int) 0 := ⟨im_X5_clearScript, se_X5_clearScript, ii_X5, cd_X5_clearScript, by decide, by decide, by decide +kernel⟩
theorem mv_X5_fault : MV yX5_fault cX5_fault 1 (some .int) 0 := ⟨im_X5_fault, se_X5_fault, ii_X5, cd_X5_fault, by decide, by decide, by decide +kernel⟩
theorem mv_X5_isScript : MV yX5_isScript cX5_isScript 1 (some .boolean) 0 := ⟨im_X5_isScript, se_X5_isScript, ii_X5, cd_X5_isScript, by decide, by decide, by decide +kernel⟩
theorem mv_X5_takesEntry : MV yX5_takesEntry cX5_takesEntry 1 none 0 := ⟨im_X5_takesEntry, se_X5_takesEntry, ii_X5, cd_X5_takesEntry, by decide, by decide, by decide +kernel⟩
theorem mv_X5_takesNumber : MV yX5_takesNumber cX5_takesNumber 2 (some .int) 0 := ⟨im_X5_takesNumber, se_X5_takesNumber, ii_X5, cd_X5_takesNumber, by decide, by decide, by decide +kernel⟩
theorem mv_X5_here : MV yX5_here cX5_here 1 (some .int) 0 := ⟨im_X5_here, se_X5_here, ii_X5, cd_X5_here, by decide, by decide, by decide +kernel⟩
theorem mv_X5_takes : MV yX5_takes cX5_takes 2 none 1 := ⟨im_X5_takes, se_X5_takes, ii_X5, cd_X5_takes, by decide, by decide, by decide +kernel⟩
theorem mv_X5_takesText : MV yX5_takesText cX5_takesText 5 none 0 := ⟨im_X5_takesText, se_X5_takesText, ii_X5, cd_X5_takesText, by decide, by decide, by decide +kernel⟩
theorem ms_X5_isLetter : MS yX5_isLetter cX5_isLetter 1 (some .boolean) 1 := ⟨sc_X5_isLetter, ii_X5, cd_X5_isLetter, by decide, by decide, by decide +kernel⟩
theorem mv_X5_load : MV yX5_load cX5_load 3 (some .int) 0 := ⟨im_X5_load, se_X5_load, ii_X5, cd_X5_load, by decide, by decide, by decide +kernel⟩
theorem mv_X5_begins : MV yX5_begins cX5_begins 1 none 0 := ⟨im_X5_begins, se_X5_begins, ii_X5, cd_X5_begins, by decide, by decide, by decide +kernel⟩
theorem ms_X5_copies : MS yX5_copies cX5_copies 5 none 4 := ⟨sc_X5_copies, ii_X5, cd_X5_copies, by decide, by decide, by decide +kernel⟩
theorem mv_X5_reasonNow : MV yX5_reasonNow cX5_reasonNow 3 (some .int) 0 := ⟨im_X5_reasonNow, se_X5_reasonNow, ii_X5, cd_X5_reasonNow, by decide, by decide, by decide +kernel⟩
theorem mv_X5_of : MV yX5_of cX5_of 3 (some .int) 2 := ⟨im_X5_of, se_X5_of, ii_X5, cd_X5_of, by decide, by decide, by decide +kernel⟩
theorem mv_X5_addsEntry : MV yX5_addsEntry cX5_addsEntry 3 none 0 := ⟨im_X5_addsEntry, se_X5_addsEntry, ii_X5, cd_X5_addsEntry, by decide, by decide, by decide +kernel⟩
theorem mv_X5_opens : MV yX5_opens cX5_opens 3 none 1 := ⟨im_X5_opens, se_X5_opens, ii_X5, cd_X5_opens, by decide, by decide, by decide +kernel⟩
theorem mv_X5_moves : MV yX5_moves cX5_moves 4 none 2 := ⟨im_X5_moves, se_X5_moves, ii_X5, cd_X5_moves, by decide, by decide, by decide +kernel⟩
theorem mv_X5_lays : MV yX5_lays cX5_lays 4 none 3 := ⟨im_X5_lays, se_X5_lays, ii_X5, cd_X5_lays, by decide, by decide, by decide +kernel⟩
theorem mv_X5_records : MV yX5_records cX5_records 3 (some .int) 1 := ⟨im_X5_records, se_X5_records, ii_X5, cd_X5_records, by decide, by decide, by decide +kernel⟩
theorem mv_X5_why : MV yX5_why cX5_why 2 (some .int) 1 := ⟨im_X5_why, se_X5_why, ii_X5, cd_X5_why, by decide, by decide, by decide +kernel⟩
theorem mv_X5_undo : MV yX5_undo cX5_undo 1 (some .int) 0 := ⟨im_X5_undo, se_X5_undo, ii_X5, cd_X5_undo, by decide, by decide, by decide +kernel⟩
theorem mv_X5_remove : MV yX5_remove cX5_remove 2 (some .int) 1 := ⟨im_X5_remove, se_X5_remove, ii_X5, cd_X5_remove, by decide, by decide, by decide +kernel⟩
theorem mv_X5_isSubtitle : MV yX5_isSubtitle cX5_isSubtitle 2 (some .boolean) 1 := ⟨im_X5_isSubtitle, se_X5_isSubtitle, ii_X5, cd_X5_isSubtitle, by decide, by decide, by decide +kernel⟩
theorem mv_X5_closes : MV yX5_closes cX5_closes 3 none 1 := ⟨im_X5_closes, se_X5_closes, ii_X5, cd_X5_closes, by decide, by decide, by decide +kernel⟩
theorem mv_X5_shift : MV yX5_shift cX5_shift 4 (some .int) 2 := ⟨im_X5_shift, se_X5_shift, ii_X5, cd_X5_shift, by decide, by decide, by decide +kernel⟩
theorem mv_X5_canShift : MV yX5_canShift cX5_canShift 4 (some .boolean) 2 := ⟨im_X5_canShift, se_X5_canShift, ii_X5, cd_X5_canShift, by decide, by decide, by decide +kernel⟩
theorem mv_X5_setEnd : MV yX5_setEnd cX5_setEnd 5 (some .int) 2 := ⟨im_X5_setEnd, se_X5_setEnd, ii_X5, cd_X5_setEnd, by decide, by decide, by decide +kernel⟩
theorem mv_X5_split : MV yX5_split cX5_split 2 (some .int) 1 := ⟨im_X5_split, se_X5_split, ii_X5, cd_X5_split, by decide, by decide, by decide +kernel⟩
theorem mv_X5_bestBlank : MV yX5_bestBlank cX5_bestBlank 8 (some .int) 1 := ⟨im_X5_bestBlank, se_X5_bestBlank, ii_X5, cd_X5_bestBlank, by decide, by decide, by decide +kernel⟩
theorem mv_X5_letter : MV yX5_letter cX5_letter 3 (some .int) 2 := ⟨im_X5_letter, se_X5_letter, ii_X5, cd_X5_letter, by decide, by decide, by decide +kernel⟩
theorem ms_X5_far : MS yX5_far cX5_far 2 (some .int) 2 := ⟨sc_X5_far, ii_X5, cd_X5_far, by decide, by decide, by decide +kernel⟩
theorem mv_X5_kindOf : MV yX5_kindOf cX5_kindOf 4 (some .int) 2 := ⟨im_X5_kindOf, se_X5_kindOf, ii_X5, cd_X5_kindOf, by decide, by decide, by decide +kernel⟩
theorem mv_X5_framesOf : MV yX5_framesOf cX5_framesOf 2 (some .int) 1 := ⟨im_X5_framesOf, se_X5_framesOf, ii_X5, cd_X5_framesOf, by decide, by decide, by decide +kernel⟩
theorem mv_X5_its : MV yX5_its cX5_its 2 (some .int) 1 := ⟨im_X5_its, se_X5_its, ii_X5, cd_X5_its, by decide, by decide, by decide +kernel⟩
theorem mv_X5_splits : MV yX5_splits cX5_splits 8 (some .int) 1 := ⟨im_X5_splits, se_X5_splits, ii_X5, cd_X5_splits, by decide, by decide, by decide +kernel⟩
theorem mv_X5_join : MV yX5_join cX5_join 5 (some .int) 1 := ⟨im_X5_join, se_X5_join, ii_X5, cd_X5_join, by decide, by decide, by decide +kernel⟩
theorem mv_X5_seat : MV yX5_seat cX5_seat 1 (some .int) 0 := ⟨im_X5_seat, se_X5_seat, ii_X5, cd_X5_seat, by decide, by decide, by decide +kernel⟩
theorem mv_X5_seatsAll : MV yX5_seatsAll cX5_seatsAll 5 (some .int) 0 := ⟨im_X5_seatsAll, se_X5_seatsAll, ii_X5, cd_X5_seatsAll, by decide, by decide, by decide +kernel⟩
theorem mv_X5_seats : MV yX5_seats cX5_seats 6 none 1 := ⟨im_X5_seats, se_X5_seats, ii_X5, cd_X5_seats, by decide, by decide, by decide +kernel⟩
theorem mv_X5_needs : MV yX5_needs cX5_needs 3 (some .int) 1 := ⟨im_X5_needs, se_X5_needs, ii_X5, cd_X5_needs, by decide, by decide, by decide +kernel⟩
theorem mv_X5_limitOf : MV yX5_limitOf cX5_limitOf 2 (some .int) 1 := ⟨im_X5_limitOf, se_X5_limitOf, ii_X5, cd_X5_limitOf, by decide, by decide, by decide +kernel⟩
theorem mv_X5_nearestCut : MV yX5_nearestCut cX5_nearestCut 5 (some .int) 1 := ⟨im_X5_nearestCut, se_X5_nearestCut, ii_X5, cd_X5_nearestCut, by decide, by decide, by decide +kernel⟩
theorem mv_X5_cut : MV yX5_cut cX5_cut 3 (some .int) 1 := ⟨im_X5_cut, se_X5_cut, ii_X5, cd_X5_cut, by decide, by decide, by decide +kernel⟩
theorem mv_X5_placeOfCut : MV yX5_placeOfCut cX5_placeOfCut 4 (some .int) 1 := ⟨im_X5_placeOfCut, se_X5_placeOfCut, ii_X5, cd_X5_placeOfCut, by decide, by decide, by decide +kernel⟩
theorem mv_X5_uncut : MV yX5_uncut cX5_uncut 4 (some .int) 1 := ⟨im_X5_uncut, se_X5_uncut, ii_X5, cd_X5_uncut, by decide, by decide, by decide +kernel⟩
theorem mv_X5_set : MV yX5_set cX5_set 4 (some .int) 2 := ⟨im_X5_set, se_X5_set, ii_X5, cd_X5_set, by decide, by decide, by decide +kernel⟩
theorem ms_X5_leastOf : MS yX5_leastOf cX5_leastOf 1 (some .int) 1 := ⟨sc_X5_leastOf, ii_X5, cd_X5_leastOf, by decide, by decide, by decide +kernel⟩
theorem ms_X5_mostOf : MS yX5_mostOf cX5_mostOf 1 (some .int) 1 := ⟨sc_X5_mostOf, ii_X5, cd_X5_mostOf, by decide, by decide, by decide +kernel⟩
theorem mv_X5_subtitles : MV yX5_subtitles cX5_subtitles 1 (some .int) 0 := ⟨im_X5_subtitles, se_X5_subtitles, ii_X5, cd_X5_subtitles, by decide, by decide, by decide +kernel⟩
theorem mv_X5_subtitle : MV yX5_subtitle cX5_subtitle 3 (some .int) 2 := ⟨im_X5_subtitle, se_X5_subtitle, ii_X5, cd_X5_subtitle, by decide, by decide, by decide +kernel⟩
theorem mv_X5_faultsOf : MV yX5_faultsOf cX5_faultsOf 3 (some .int) 1 := ⟨im_X5_faultsOf, se_X5_faultsOf, ii_X5, cd_X5_faultsOf, by decide, by decide, by decide +kernel⟩
theorem mv_X5_isFast : MV yX5_isFast cX5_isFast 3 (some .boolean) 2 := ⟨im_X5_isFast, se_X5_isFast, ii_X5, cd_X5_isFast, by decide, by decide, by decide +kernel⟩
theorem mv_X5_isNearCut : MV yX5_isNearCut cX5_isNearCut 6 (some .boolean) 1 := ⟨im_X5_isNearCut, se_X5_isNearCut, ii_X5, cd_X5_isNearCut, by decide, by decide, by decide +kernel⟩
theorem mv_X5_isWide : MV yX5_isWide cX5_isWide 5 (some .boolean) 1 := ⟨im_X5_isWide, se_X5_isWide, ii_X5, cd_X5_isWide, by decide, by decide, by decide +kernel⟩
theorem mv_X5_laysLines : MV yX5_laysLines cX5_laysLines 10 (some .int) 1 := ⟨im_X5_laysLines, se_X5_laysLines, ii_X5, cd_X5_laysLines, by decide, by decide, by decide +kernel⟩
theorem mv_X5_character : MV yX5_character cX5_character 3 (some .int) 2 := ⟨im_X5_character, se_X5_character, ii_X5, cd_X5_character, by decide, by decide, by decide +kernel⟩
theorem mv_X5_line : MV yX5_line cX5_line 3 (some .int) 2 := ⟨im_X5_line, se_X5_line, ii_X5, cd_X5_line, by decide, by decide, by decide +kernel⟩
theorem mv_X5_at : MV yX5_at cX5_at 4 (some .int) 1 := ⟨im_X5_at, se_X5_at, ii_X5, cd_X5_at, by decide, by decide, by decide +kernel⟩
theorem mv_X5_cuts : MV yX5_cuts cX5_cuts 1 (some .int) 0 := ⟨im_X5_cuts, se_X5_cuts, ii_X5, cd_X5_cuts, by decide, by decide, by decide +kernel⟩
theorem mv_X5_cutAt : MV yX5_cutAt cX5_cutAt 2 (some .int) 1 := ⟨im_X5_cutAt, se_X5_cutAt, ii_X5, cd_X5_cutAt, by decide, by decide, by decide +kernel⟩
theorem mv_X5_setting : MV yX5_setting cX5_setting 2 (some .int) 1 := ⟨im_X5_setting, se_X5_setting, ii_X5, cd_X5_setting, by decide, by decide, by decide +kernel⟩
theorem mv_X5_faulty : MV yX5_faulty cX5_faulty 3 (some .int) 1 := ⟨im_X5_faulty, se_X5_faulty, ii_X5, cd_X5_faulty, by decide, by decide, by decide +kernel⟩
theorem mv_X5_faultyBy : MV yX5_faultyBy cX5_faultyBy 5 (some .int) 1 := ⟨im_X5_faultyBy, se_X5_faultyBy, ii_X5, cd_X5_faultyBy, by decide, by decide, by decide +kernel⟩
theorem mv_X5_shown : MV yX5_shown cX5_shown 1 (some .int) 0 := ⟨im_X5_shown, se_X5_shown, ii_X5, cd_X5_shown, by decide, by decide, by decide +kernel⟩
theorem mv_X5_allFrames : MV yX5_allFrames cX5_allFrames 3 (some .int) 0 := ⟨im_X5_allFrames, se_X5_allFrames, ii_X5, cd_X5_allFrames, by decide, by decide, by decide +kernel⟩
theorem mv_X5_meanSpeed : MV yX5_meanSpeed cX5_meanSpeed 3 (some .float) 0 := ⟨im_X5_meanSpeed, se_X5_meanSpeed, ii_X5, cd_X5_meanSpeed, by decide, by decide, by decide +kernel⟩
theorem mv_X5_unread : MV yX5_unread cX5_unread 2 (some .int) 1 := ⟨im_X5_unread, se_X5_unread, ii_X5, cd_X5_unread, by decide, by decide, by decide +kernel⟩
theorem mv_X5_unreadBy : MV yX5_unreadBy cX5_unreadBy 4 (some .int) 1 := ⟨im_X5_unreadBy, se_X5_unreadBy, ii_X5, cd_X5_unreadBy, by decide, by decide, by decide +kernel⟩
theorem mv_X5_leastPace : MV yX5_leastPace cX5_leastPace 3 (some .int) 0 := ⟨im_X5_leastPace, se_X5_leastPace, ii_X5, cd_X5_leastPace, by decide, by decide, by decide +kernel⟩
theorem mv_X5_ifSeated : MV yX5_ifSeated cX5_ifSeated 4 (some .int) 1 := ⟨im_X5_ifSeated, se_X5_ifSeated, ii_X5, cd_X5_ifSeated, by decide, by decide, by decide +kernel⟩
theorem mv_X5_bestGap : MV yX5_bestGap cX5_bestGap 6 (some .int) 0 := ⟨im_X5_bestGap, se_X5_bestGap, ii_X5, cd_X5_bestGap, by decide, by decide, by decide +kernel⟩
end
