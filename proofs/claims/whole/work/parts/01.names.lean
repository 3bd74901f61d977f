-- ===== PART A: goes FIRST, ahead of the names: the tables' words, and 'selects' of the private methods out of them =====
/-- a private method of a class that the tables say can be made, by its rows of tables_1 -/
def lw_okq (q : MethodName × Nat) : Prop := (q.1.cls ≠ "java/lang/invoke/MethodHandle" ∧ q.1.cls ≠ "java/lang/invoke/VarHandle") ∧ Cond.instantiable q.1.cls q.2 ∈ tables_1 ∧ Cond.privateMethod q.1 ∈ tables_1 ∧ Cond.instanceMethod q.1 ∈ tables_1
theorem lw_p0 : lw_okq (⟨"LawnRings$Sprinkler", "even", "()I"⟩, 4) := ⟨⟨by decide +kernel, by decide +kernel⟩, List.mem_of_getElem? (i := 51) (by decide +kernel), List.mem_of_getElem? (i := 391) (by decide +kernel), List.mem_of_getElem? (i := 392) (by decide +kernel)⟩
theorem lw_p1 : lw_okq (⟨"LawnRings$Sprinkler", "ring", "(I)I"⟩, 4) := ⟨⟨by decide +kernel, by decide +kernel⟩, List.mem_of_getElem? (i := 51) (by decide +kernel), List.mem_of_getElem? (i := 395) (by decide +kernel), List.mem_of_getElem? (i := 396) (by decide +kernel)⟩
theorem lw_p2 : lw_okq (⟨"LawnRings$Reader", "readsRows", "()Z"⟩, 9) := ⟨⟨by decide +kernel, by decide +kernel⟩, List.mem_of_getElem? (i := 224) (by decide +kernel), List.mem_of_getElem? (i := 465) (by decide +kernel), List.mem_of_getElem? (i := 466) (by decide +kernel)⟩
theorem lw_p3 : lw_okq (⟨"LawnRings$Reader", "readsRow", "()Z"⟩, 9) := ⟨⟨by decide +kernel, by decide +kernel⟩, List.mem_of_getElem? (i := 224) (by decide +kernel), List.mem_of_getElem? (i := 469) (by decide +kernel), List.mem_of_getElem? (i := 470) (by decide +kernel)⟩
theorem lw_p4 : lw_okq (⟨"LawnRings$Reader", "letterAhead", "()I"⟩, 9) := ⟨⟨by decide +kernel, by decide +kernel⟩, List.mem_of_getElem? (i := 224) (by decide +kernel), List.mem_of_getElem? (i := 473) (by decide +kernel), List.mem_of_getElem? (i := 474) (by decide +kernel)⟩
theorem lw_p5 : lw_okq (⟨"LawnRings$Reader", "readsSprinklers", "()Z"⟩, 9) := ⟨⟨by decide +kernel, by decide +kernel⟩, List.mem_of_getElem? (i := 224) (by decide +kernel), List.mem_of_getElem? (i := 480) (by decide +kernel), List.mem_of_getElem? (i := 481) (by decide +kernel)⟩
theorem lw_p6 : lw_okq (⟨"LawnRings$Reader", "readsSprinkler", "(LLawnRings$Sprinkler;)Z"⟩, 9) := ⟨⟨by decide +kernel, by decide +kernel⟩, List.mem_of_getElem? (i := 224) (by decide +kernel), List.mem_of_getElem? (i := 484) (by decide +kernel), List.mem_of_getElem? (i := 485) (by decide +kernel)⟩
theorem lw_p7 : lw_okq (⟨"LawnRings$Reader", "digit", "(II)I"⟩, 9) := ⟨⟨by decide +kernel, by decide +kernel⟩, List.mem_of_getElem? (i := 224) (by decide +kernel), List.mem_of_getElem? (i := 491) (by decide +kernel), List.mem_of_getElem? (i := 492) (by decide +kernel)⟩
theorem lw_p8 : lw_okq (⟨"LawnRings$Foresight", "wrongFrom", "(LLawnRings$Sprinkler;II)I"⟩, 12) := ⟨⟨by decide +kernel, by decide +kernel⟩, List.mem_of_getElem? (i := 176) (by decide +kernel), List.mem_of_getElem? (i := 624) (by decide +kernel), List.mem_of_getElem? (i := 625) (by decide +kernel)⟩
theorem lw_p9 : lw_okq (⟨"LawnRings$Foresight", "tryTurnsFrom", "(III)V"⟩, 12) := ⟨⟨by decide +kernel, by decide +kernel⟩, List.mem_of_getElem? (i := 176) (by decide +kernel), List.mem_of_getElem? (i := 649) (by decide +kernel), List.mem_of_getElem? (i := 650) (by decide +kernel)⟩
theorem lw_p10 : lw_okq (⟨"LawnRings$Foresight", "weighTurns", "([II)V"⟩, 12) := ⟨⟨by decide +kernel, by decide +kernel⟩, List.mem_of_getElem? (i := 176) (by decide +kernel), List.mem_of_getElem? (i := 653) (by decide +kernel), List.mem_of_getElem? (i := 654) (by decide +kernel)⟩
theorem lw_p11 : lw_okq (⟨"LawnRings", "refusal", "(IIII)I"⟩, 8) := ⟨⟨by decide +kernel, by decide +kernel⟩, List.mem_of_getElem? (i := 15) (by decide +kernel), List.mem_of_getElem? (i := 680) (by decide +kernel), List.mem_of_getElem? (i := 681) (by decide +kernel)⟩
theorem lw_p12 : lw_okq (⟨"LawnRings$Foresight", "isAsTold", "([JII)Z"⟩, 12) := ⟨⟨by decide +kernel, by decide +kernel⟩, List.mem_of_getElem? (i := 176) (by decide +kernel), List.mem_of_getElem? (i := 693) (by decide +kernel), List.mem_of_getElem? (i := 694) (by decide +kernel)⟩
theorem lw_p13 : lw_okq (⟨"LawnRings$Sheet", "cut", "(J)J"⟩, 4) := ⟨⟨by decide +kernel, by decide +kernel⟩, List.mem_of_getElem? (i := 267) (by decide +kernel), List.mem_of_getElem? (i := 707) (by decide +kernel), List.mem_of_getElem? (i := 708) (by decide +kernel)⟩
theorem lw_p14 : lw_okq (⟨"LawnRingsModel", "freshLawn", "(II)V"⟩, 19) := ⟨⟨by decide +kernel, by decide +kernel⟩, List.mem_of_getElem? (i := 734) (by decide +kernel), List.mem_of_getElem? (i := 807) (by decide +kernel), List.mem_of_getElem? (i := 808) (by decide +kernel)⟩
theorem lw_p15 : lw_okq (⟨"LawnRingsModel", "isCell", "(I)Z"⟩, 19) := ⟨⟨by decide +kernel, by decide +kernel⟩, List.mem_of_getElem? (i := 734) (by decide +kernel), List.mem_of_getElem? (i := 815) (by decide +kernel), List.mem_of_getElem? (i := 816) (by decide +kernel)⟩
def lw_privs_1 : List (MethodName × Nat) := [(⟨"LawnRings$Sprinkler", "even", "()I"⟩, 4), (⟨"LawnRings$Sprinkler", "ring", "(I)I"⟩, 4), (⟨"LawnRings$Reader", "readsRows", "()Z"⟩, 9), (⟨"LawnRings$Reader", "readsRow", "()Z"⟩, 9), (⟨"LawnRings$Reader", "letterAhead", "()I"⟩, 9), (⟨"LawnRings$Reader", "readsSprinklers", "()Z"⟩, 9), (⟨"LawnRings$Reader", "readsSprinkler", "(LLawnRings$Sprinkler;)Z"⟩, 9), (⟨"LawnRings$Reader", "digit", "(II)I"⟩, 9), (⟨"LawnRings$Foresight", "wrongFrom", "(LLawnRings$Sprinkler;II)I"⟩, 12), (⟨"LawnRings$Foresight", "tryTurnsFrom", "(III)V"⟩, 12), (⟨"LawnRings$Foresight", "weighTurns", "([II)V"⟩, 12), (⟨"LawnRings", "refusal", "(IIII)I"⟩, 8), (⟨"LawnRings$Foresight", "isAsTold", "([JII)Z"⟩, 12), (⟨"LawnRings$Sheet", "cut", "(J)J"⟩, 4), (⟨"LawnRingsModel", "freshLawn", "(II)V"⟩, 19), (⟨"LawnRingsModel", "isCell", "(I)Z"⟩, 19)]
theorem lw_r1 : ∀ q ∈ lw_privs_1, lw_okq q := List.forall_mem_cons.mpr ⟨lw_p0, List.forall_mem_cons.mpr ⟨lw_p1, List.forall_mem_cons.mpr ⟨lw_p2, List.forall_mem_cons.mpr ⟨lw_p3, List.forall_mem_cons.mpr ⟨lw_p4, List.forall_mem_cons.mpr ⟨lw_p5, List.forall_mem_cons.mpr ⟨lw_p6, List.forall_mem_cons.mpr ⟨lw_p7, List.forall_mem_cons.mpr ⟨lw_p8, List.forall_mem_cons.mpr ⟨lw_p9, List.forall_mem_cons.mpr ⟨lw_p10, List.forall_mem_cons.mpr ⟨lw_p11, List.forall_mem_cons.mpr ⟨lw_p12, List.forall_mem_cons.mpr ⟨lw_p13, List.forall_mem_cons.mpr ⟨lw_p14, List.forall_mem_cons.mpr ⟨lw_p15, fun _ h => absurd h List.not_mem_nil⟩⟩⟩⟩⟩⟩⟩⟩⟩⟩⟩⟩⟩⟩⟩⟩
theorem lw_p16 : lw_okq (⟨"LawnRingsModel", "cells", "()I"⟩, 19) := ⟨⟨by decide +kernel, by decide +kernel⟩, List.mem_of_getElem? (i := 734) (by decide +kernel), List.mem_of_getElem? (i := 819) (by decide +kernel), List.mem_of_getElem? (i := 820) (by decide +kernel)⟩
theorem lw_p17 : lw_okq (⟨"LawnRingsModel", "comes", "(IIII)V"⟩, 19) := ⟨⟨by decide +kernel, by decide +kernel⟩, List.mem_of_getElem? (i := 734) (by decide +kernel), List.mem_of_getElem? (i := 829) (by decide +kernel), List.mem_of_getElem? (i := 830) (by decide +kernel)⟩
theorem lw_p18 : lw_okq (⟨"LawnRingsModel", "isSprinkler", "(I)Z"⟩, 19) := ⟨⟨by decide +kernel, by decide +kernel⟩, List.mem_of_getElem? (i := 734) (by decide +kernel), List.mem_of_getElem? (i := 837) (by decide +kernel), List.mem_of_getElem? (i := 838) (by decide +kernel)⟩
theorem lw_p19 : lw_okq (⟨"LawnRingsModel", "told", "(II)I"⟩, 19) := ⟨⟨by decide +kernel, by decide +kernel⟩, List.mem_of_getElem? (i := 734) (by decide +kernel), List.mem_of_getElem? (i := 842) (by decide +kernel), List.mem_of_getElem? (i := 843) (by decide +kernel)⟩
theorem lw_p20 : lw_okq (⟨"LawnRingsModel", "throwsOn", "(II)I"⟩, 19) := ⟨⟨by decide +kernel, by decide +kernel⟩, List.mem_of_getElem? (i := 734) (by decide +kernel), List.mem_of_getElem? (i := 846) (by decide +kernel), List.mem_of_getElem? (i := 847) (by decide +kernel)⟩
theorem lw_p21 : lw_okq (⟨"LawnRingsModel", "rains", "(II)V"⟩, 19) := ⟨⟨by decide +kernel, by decide +kernel⟩, List.mem_of_getElem? (i := 734) (by decide +kernel), List.mem_of_getElem? (i := 860) (by decide +kernel), List.mem_of_getElem? (i := 861) (by decide +kernel)⟩
theorem lw_p22 : lw_okq (⟨"LawnRingsModel", "takesNow", "(I)I"⟩, 19) := ⟨⟨by decide +kernel, by decide +kernel⟩, List.mem_of_getElem? (i := 734) (by decide +kernel), List.mem_of_getElem? (i := 864) (by decide +kernel), List.mem_of_getElem? (i := 865) (by decide +kernel)⟩
theorem lw_p23 : lw_okq (⟨"LawnRingsModel", "takes", "(II)I"⟩, 19) := ⟨⟨by decide +kernel, by decide +kernel⟩, List.mem_of_getElem? (i := 734) (by decide +kernel), List.mem_of_getElem? (i := 868) (by decide +kernel), List.mem_of_getElem? (i := 869) (by decide +kernel)⟩
theorem lw_p24 : lw_okq (⟨"LawnRingsModel", "isWrong", "(I)Z"⟩, 19) := ⟨⟨by decide +kernel, by decide +kernel⟩, List.mem_of_getElem? (i := 734) (by decide +kernel), List.mem_of_getElem? (i := 872) (by decide +kernel), List.mem_of_getElem? (i := 873) (by decide +kernel)⟩
theorem lw_p25 : lw_okq (⟨"LawnRingsModel", "isDry", "(I)Z"⟩, 19) := ⟨⟨by decide +kernel, by decide +kernel⟩, List.mem_of_getElem? (i := 734) (by decide +kernel), List.mem_of_getElem? (i := 876) (by decide +kernel), List.mem_of_getElem? (i := 877) (by decide +kernel)⟩
theorem lw_p26 : lw_okq (⟨"LawnRingsModel", "wetness", "()I"⟩, 19) := ⟨⟨by decide +kernel, by decide +kernel⟩, List.mem_of_getElem? (i := 734) (by decide +kernel), List.mem_of_getElem? (i := 897) (by decide +kernel), List.mem_of_getElem? (i := 898) (by decide +kernel)⟩
theorem lw_p27 : lw_okq (⟨"LawnRingsModel", "wrongOnes", "()I"⟩, 19) := ⟨⟨by decide +kernel, by decide +kernel⟩, List.mem_of_getElem? (i := 734) (by decide +kernel), List.mem_of_getElem? (i := 901) (by decide +kernel), List.mem_of_getElem? (i := 902) (by decide +kernel)⟩
theorem lw_p28 : lw_okq (⟨"LawnRingsModel", "readRow", "(II)I"⟩, 19) := ⟨⟨by decide +kernel, by decide +kernel⟩, List.mem_of_getElem? (i := 734) (by decide +kernel), List.mem_of_getElem? (i := 915) (by decide +kernel), List.mem_of_getElem? (i := 916) (by decide +kernel)⟩
theorem lw_p29 : lw_okq (⟨"LawnRingsModel", "here", "()I"⟩, 19) := ⟨⟨by decide +kernel, by decide +kernel⟩, List.mem_of_getElem? (i := 734) (by decide +kernel), List.mem_of_getElem? (i := 919) (by decide +kernel), List.mem_of_getElem? (i := 920) (by decide +kernel)⟩
theorem lw_p30 : lw_okq (⟨"LawnRingsModel", "must", "(Z)V"⟩, 19) := ⟨⟨by decide +kernel, by decide +kernel⟩, List.mem_of_getElem? (i := 734) (by decide +kernel), List.mem_of_getElem? (i := 926) (by decide +kernel), List.mem_of_getElem? (i := 927) (by decide +kernel)⟩
theorem lw_p31 : lw_okq (⟨"LawnRingsModel", "readSprinklers", "(II)I"⟩, 19) := ⟨⟨by decide +kernel, by decide +kernel⟩, List.mem_of_getElem? (i := 734) (by decide +kernel), List.mem_of_getElem? (i := 930) (by decide +kernel), List.mem_of_getElem? (i := 931) (by decide +kernel)⟩
def lw_privs_2 : List (MethodName × Nat) := [(⟨"LawnRingsModel", "cells", "()I"⟩, 19), (⟨"LawnRingsModel", "comes", "(IIII)V"⟩, 19), (⟨"LawnRingsModel", "isSprinkler", "(I)Z"⟩, 19), (⟨"LawnRingsModel", "told", "(II)I"⟩, 19), (⟨"LawnRingsModel", "throwsOn", "(II)I"⟩, 19), (⟨"LawnRingsModel", "rains", "(II)V"⟩, 19), (⟨"LawnRingsModel", "takesNow", "(I)I"⟩, 19), (⟨"LawnRingsModel", "takes", "(II)I"⟩, 19), (⟨"LawnRingsModel", "isWrong", "(I)Z"⟩, 19), (⟨"LawnRingsModel", "isDry", "(I)Z"⟩, 19), (⟨"LawnRingsModel", "wetness", "()I"⟩, 19), (⟨"LawnRingsModel", "wrongOnes", "()I"⟩, 19), (⟨"LawnRingsModel", "readRow", "(II)I"⟩, 19), (⟨"LawnRingsModel", "here", "()I"⟩, 19), (⟨"LawnRingsModel", "must", "(Z)V"⟩, 19), (⟨"LawnRingsModel", "readSprinklers", "(II)I"⟩, 19)]
theorem lw_r2 : ∀ q ∈ lw_privs_2, lw_okq q := List.forall_mem_cons.mpr ⟨lw_p16, List.forall_mem_cons.mpr ⟨lw_p17, List.forall_mem_cons.mpr ⟨lw_p18, List.forall_mem_cons.mpr ⟨lw_p19, List.forall_mem_cons.mpr ⟨lw_p20, List.forall_mem_cons.mpr ⟨lw_p21, List.forall_mem_cons.mpr ⟨lw_p22, List.forall_mem_cons.mpr ⟨lw_p23, List.forall_mem_cons.mpr ⟨lw_p24, List.forall_mem_cons.mpr ⟨lw_p25, List.forall_mem_cons.mpr ⟨lw_p26, List.forall_mem_cons.mpr ⟨lw_p27, List.forall_mem_cons.mpr ⟨lw_p28, List.forall_mem_cons.mpr ⟨lw_p29, List.forall_mem_cons.mpr ⟨lw_p30, List.forall_mem_cons.mpr ⟨lw_p31, fun _ h => absurd h List.not_mem_nil⟩⟩⟩⟩⟩⟩⟩⟩⟩⟩⟩⟩⟩⟩⟩⟩
theorem lw_p32 : lw_okq (⟨"LawnRingsModel", "digit", "(II)I"⟩, 19) := ⟨⟨by decide +kernel, by decide +kernel⟩, List.mem_of_getElem? (i := 734) (by decide +kernel), List.mem_of_getElem? (i := 934) (by decide +kernel), List.mem_of_getElem? (i := 935) (by decide +kernel)⟩
theorem lw_p33 : lw_okq (⟨"LawnRingsModel", "notes", "()V"⟩, 19) := ⟨⟨by decide +kernel, by decide +kernel⟩, List.mem_of_getElem? (i := 734) (by decide +kernel), List.mem_of_getElem? (i := 943) (by decide +kernel), List.mem_of_getElem? (i := 944) (by decide +kernel)⟩
theorem lw_p34 : lw_okq (⟨"LawnRingsModel", "goesBy", "()V"⟩, 19) := ⟨⟨by decide +kernel, by decide +kernel⟩, List.mem_of_getElem? (i := 734) (by decide +kernel), List.mem_of_getElem? (i := 947) (by decide +kernel), List.mem_of_getElem? (i := 948) (by decide +kernel)⟩
theorem lw_p35 : lw_okq (⟨"LawnRingsModel", "asides", "()V"⟩, 19) := ⟨⟨by decide +kernel, by decide +kernel⟩, List.mem_of_getElem? (i := 734) (by decide +kernel), List.mem_of_getElem? (i := 981) (by decide +kernel), List.mem_of_getElem? (i := 982) (by decide +kernel)⟩
theorem lw_p36 : lw_okq (⟨"LawnRingsModel", "goesOn", "(I)V"⟩, 19) := ⟨⟨by decide +kernel, by decide +kernel⟩, List.mem_of_getElem? (i := 734) (by decide +kernel), List.mem_of_getElem? (i := 985) (by decide +kernel), List.mem_of_getElem? (i := 986) (by decide +kernel)⟩
theorem lw_p37 : lw_okq (⟨"LawnRingsModel", "backs", "()V"⟩, 19) := ⟨⟨by decide +kernel, by decide +kernel⟩, List.mem_of_getElem? (i := 734) (by decide +kernel), List.mem_of_getElem? (i := 989) (by decide +kernel), List.mem_of_getElem? (i := 990) (by decide +kernel)⟩
theorem lw_p38 : lw_okq (⟨"LawnRingsModel", "dryOnes", "()I"⟩, 19) := ⟨⟨by decide +kernel, by decide +kernel⟩, List.mem_of_getElem? (i := 734) (by decide +kernel), List.mem_of_getElem? (i := 997) (by decide +kernel), List.mem_of_getElem? (i := 998) (by decide +kernel)⟩
theorem lw_p39 : lw_okq (⟨"LawnRingsModel", "wrongBehind", "(II)I"⟩, 19) := ⟨⟨by decide +kernel, by decide +kernel⟩, List.mem_of_getElem? (i := 734) (by decide +kernel), List.mem_of_getElem? (i := 1010) (by decide +kernel), List.mem_of_getElem? (i := 1011) (by decide +kernel)⟩
theorem lw_p40 : lw_okq (⟨"LawnRingsModel", "why", "(IIII)I"⟩, 19) := ⟨⟨by decide +kernel, by decide +kernel⟩, List.mem_of_getElem? (i := 734) (by decide +kernel), List.mem_of_getElem? (i := 1041) (by decide +kernel), List.mem_of_getElem? (i := 1042) (by decide +kernel)⟩
def lw_privs_3 : List (MethodName × Nat) := [(⟨"LawnRingsModel", "digit", "(II)I"⟩, 19), (⟨"LawnRingsModel", "notes", "()V"⟩, 19), (⟨"LawnRingsModel", "goesBy", "()V"⟩, 19), (⟨"LawnRingsModel", "asides", "()V"⟩, 19), (⟨"LawnRingsModel", "goesOn", "(I)V"⟩, 19), (⟨"LawnRingsModel", "backs", "()V"⟩, 19), (⟨"LawnRingsModel", "dryOnes", "()I"⟩, 19), (⟨"LawnRingsModel", "wrongBehind", "(II)I"⟩, 19), (⟨"LawnRingsModel", "why", "(IIII)I"⟩, 19)]
theorem lw_r3 : ∀ q ∈ lw_privs_3, lw_okq q := List.forall_mem_cons.mpr ⟨lw_p32, List.forall_mem_cons.mpr ⟨lw_p33, List.forall_mem_cons.mpr ⟨lw_p34, List.forall_mem_cons.mpr ⟨lw_p35, List.forall_mem_cons.mpr ⟨lw_p36, List.forall_mem_cons.mpr ⟨lw_p37, List.forall_mem_cons.mpr ⟨lw_p38, List.forall_mem_cons.mpr ⟨lw_p39, List.forall_mem_cons.mpr ⟨lw_p40, fun _ h => absurd h List.not_mem_nil⟩⟩⟩⟩⟩⟩⟩⟩⟩
def lw_privs : List (MethodName × Nat) := lw_privs_1 ++ (lw_privs_2 ++ (lw_privs_3))
def lw_tbl : List Cond := k2_sels lw_privs ++ tables_1
theorem lw_privs_ok : ∀ q ∈ lw_privs, lw_okq q := by
  show ∀ q ∈ lw_privs_1 ++ (lw_privs_2 ++ (lw_privs_3)), lw_okq q
  exact List.forall_mem_append.mpr ⟨lw_r1, List.forall_mem_append.mpr ⟨lw_r2, lw_r3⟩⟩

def RX0 : String := "LawnRings$Flow"
def TX0 : u_T := fun k => match k with
  | 0 => ("LawnRings$Flow", "falls", "[I", true)
  | 1 => ("LawnRings$Flow", "takes", "[I", true)
  | 2 => ("LawnRings$Flow", "running", "[I", true)
  | _ => ("LawnRings$Flow", "lost", "I", false)
def tyX0 : Nat → FieldType := fun k => match k with
  | 0 => .array .int
  | 1 => .array .int
  | 2 => .array .int
  | _ => .int
abbrev wsX00 : List Cond := u_ws RX0 TX0 4
theorem nmX0 : ∀ a, a < 4 → ∀ b, b < 4 → a ≠ b → (TX0 a).2.1 ≠ (TX0 b).2.1 := by decide +kernel
theorem tyX0_ok : ∀ k, k < 4 → parseFieldDescriptor (TX0 k).2.2.1 = some (tyX0 k) := by decide +kernel
abbrev cX0_init : ByteArray := prog_2_method_1_code
def yX0_init : MethodName := ⟨RX0, "<init>", "()V"⟩
abbrev cX0_run : ByteArray := prog_2_method_2_code
def yX0_run : MethodName := ⟨RX0, "run", "(LLawnRings$Plot;II)V"⟩
abbrev cX0_addFrom : ByteArray := prog_2_method_3_code
def yX0_addFrom : MethodName := ⟨RX0, "addFrom", "(LLawnRings$Plot;LLawnRings$Sprinkler;II)V"⟩
abbrev cX0_allFrom : ByteArray := prog_2_method_4_code
def yX0_allFrom : MethodName := ⟨RX0, "allFrom", "(LLawnRings$Plot;LLawnRings$Sprinkler;)I"⟩
abbrev cX0_share : ByteArray := prog_2_method_5_code
def yX0_share : MethodName := ⟨RX0, "share", "(LLawnRings$Plot;)V"⟩
abbrev cX0_taken : ByteArray := prog_2_method_6_code
def yX0_taken : MethodName := ⟨RX0, "taken", "(II)I"⟩
def RX1 : String := "LawnRings$Foresight"
def TX1 : u_T := fun k => match k with
  | 0 => ("LawnRings$Foresight", "plot", "LLawnRings$Plot;", true)
  | 1 => ("LawnRings$Foresight", "flow", "LLawnRings$Flow;", true)
  | 2 => ("LawnRings$Foresight", "wet", "[I", true)
  | 3 => ("LawnRings$Foresight", "others", "[I", true)
  | 4 => ("LawnRings$Foresight", "alone", "[[I", true)
  | 5 => ("LawnRings$Foresight", "behind", "[[I", true)
  | 6 => ("LawnRings$Foresight", "trying", "[I", true)
  | 7 => ("LawnRings$Foresight", "longs", "[I", true)
  | 8 => ("LawnRings$Foresight", "fewest", "I", false)
  | 9 => ("LawnRings$Foresight", "shortest", "I", false)
  | 10 => ("LawnRings$Foresight", "fitting", "I", false)
  | _ => ("LawnRings$Foresight", "choice", "I", false)
def tyX1 : Nat → FieldType := fun k => match k with
  | 0 => .object "LawnRings$Plot"
  | 1 => .object "LawnRings$Flow"
  | 2 => .array .int
  | 3 => .array .int
  | 4 => .array (.array .int)
  | 5 => .array (.array .int)
  | 6 => .array .int
  | 7 => .array .int
  | 8 => .int
  | 9 => .int
  | 10 => .int
  | _ => .int
abbrev wsX10 : List Cond := u_ws RX1 TX1 12
theorem nmX1 : ∀ a, a < 12 → ∀ b, b < 12 → a ≠ b → (TX1 a).2.1 ≠ (TX1 b).2.1 := by decide +kernel
theorem tyX1_ok : ∀ k, k < 12 → parseFieldDescriptor (TX1 k).2.2.1 = some (tyX1 k) := by decide +kernel
abbrev cX1_init : ByteArray := prog_3_method_1_code
def yX1_init : MethodName := ⟨RX1, "<init>", "(LLawnRings$Plot;LLawnRings$Flow;)V"⟩
abbrev cX1_wetBySet : ByteArray := prog_3_method_2_code
def yX1_wetBySet : MethodName := ⟨RX1, "wetBySet", "(II)[I"⟩
abbrev cX1_firstEnough : ByteArray := prog_3_method_3_code
def yX1_firstEnough : MethodName := ⟨RX1, "firstEnough", "()I"⟩
abbrev cX1_findStand : ByteArray := prog_3_method_4_code
def yX1_findStand : MethodName := ⟨RX1, "findStand", "(II)V"⟩
abbrev cX1_wrongFrom : ByteArray := prog_3_method_5_code
def yX1_wrongFrom : MethodName := ⟨RX1, "wrongFrom", "(LLawnRings$Sprinkler;II)I"⟩
abbrev cX1_findSet : ByteArray := prog_3_method_6_code
def yX1_findSet : MethodName := ⟨RX1, "findSet", "(I)V"⟩
abbrev cX1_findTurns : ByteArray := prog_3_method_7_code
def yX1_findTurns : MethodName := ⟨RX1, "findTurns", "(I)V"⟩
abbrev cX1_tryTurnsFrom : ByteArray := prog_3_method_8_code
def yX1_tryTurnsFrom : MethodName := ⟨RX1, "tryTurnsFrom", "(III)V"⟩
abbrev cX1_weighTurns : ByteArray := prog_3_method_9_code
def yX1_weighTurns : MethodName := ⟨RX1, "weighTurns", "([II)V"⟩
abbrev cX1_findTins : ByteArray := prog_3_method_10_code
def yX1_findTins : MethodName := ⟨RX1, "findTins", "([JIII)V"⟩
abbrev cX1_isAsTold : ByteArray := prog_3_method_11_code
def yX1_isAsTold : MethodName := ⟨RX1, "isAsTold", "([JII)Z"⟩
def RX2 : String := "LawnRings$Past"
def TX2 : u_T := fun k => match k with
  | 0 => ("LawnRings$Past", "steps", "[[I", true)
  | 1 => ("LawnRings$Past", "known", "I", false)
  | _ => ("LawnRings$Past", "next", "I", false)
def tyX2 : Nat → FieldType := fun k => match k with
  | 0 => .array (.array .int)
  | 1 => .int
  | _ => .int
abbrev wsX20 : List Cond := u_ws RX2 TX2 3
theorem nmX2 : ∀ a, a < 3 → ∀ b, b < 3 → a ≠ b → (TX2 a).2.1 ≠ (TX2 b).2.1 := by decide +kernel
theorem tyX2_ok : ∀ k, k < 3 → parseFieldDescriptor (TX2 k).2.2.1 = some (tyX2 k) := by decide +kernel
abbrev cX2_init : ByteArray := prog_4_method_1_code
def yX2_init : MethodName := ⟨RX2, "<init>", "()V"⟩
abbrev cX2_rowForNewest : ByteArray := prog_4_method_2_code
def yX2_rowForNewest : MethodName := ⟨RX2, "rowForNewest", "()[I"⟩
abbrev cX2_rowOfLatest : ByteArray := prog_4_method_3_code
def yX2_rowOfLatest : MethodName := ⟨RX2, "rowOfLatest", "()[I"⟩
abbrev cX2_becomeLike : ByteArray := prog_4_method_4_code
def yX2_becomeLike : MethodName := ⟨RX2, "becomeLike", "(LLawnRings$Past;)V"⟩
def RX3 : String := "LawnRings$Plot"
def TX3 : u_T := fun k => match k with
  | 0 => ("LawnRings$Plot", "rows", "I", false)
  | 1 => ("LawnRings$Plot", "columns", "I", false)
  | 2 => ("LawnRings$Plot", "soil", "[I", true)
  | 3 => ("LawnRings$Plot", "wet", "[I", true)
  | 4 => ("LawnRings$Plot", "sprinklers", "[LLawnRings$Sprinkler;", true)
  | 5 => ("LawnRings$Plot", "standing", "I", false)
  | 6 => ("LawnRings$Plot", "on", "I", false)
  | 7 => ("LawnRings$Plot", "wind", "I", false)
  | 8 => ("LawnRings$Plot", "tap", "I", false)
  | 9 => ("LawnRings$Plot", "least", "I", false)
  | 10 => ("LawnRings$Plot", "most", "I", false)
  | 11 => ("LawnRings$Plot", "minute", "I", false)
  | 12 => ("LawnRings$Plot", "runoff", "I", false)
  | 13 => ("LawnRings$Plot", "draw", "I", false)
  | _ => ("LawnRings$Plot", "past", "LLawnRings$Past;", true)
def tyX3 : Nat → FieldType := fun k => match k with
  | 0 => .int
  | 1 => .int
  | 2 => .array .int
  | 3 => .array .int
  | 4 => .array (.object "LawnRings$Sprinkler")
  | 5 => .int
  | 6 => .int
  | 7 => .int
  | 8 => .int
  | 9 => .int
  | 10 => .int
  | 11 => .int
  | 12 => .int
  | 13 => .int
  | _ => .object "LawnRings$Past"
abbrev wsX30 : List Cond := u_ws RX3 TX3 15
theorem nmX3 : ∀ a, a < 15 → ∀ b, b < 15 → a ≠ b → (TX3 a).2.1 ≠ (TX3 b).2.1 := by decide +kernel
theorem tyX3_ok : ∀ k, k < 15 → parseFieldDescriptor (TX3 k).2.2.1 = some (tyX3 k) := by decide +kernel
abbrev cX3_init : ByteArray := prog_5_method_1_code
def yX3_init : MethodName := ⟨RX3, "<init>", "()V"⟩
abbrev cX3_begin : ByteArray := prog_5_method_2_code
def yX3_begin : MethodName := ⟨RX3, "begin", "(II)V"⟩
abbrev cX3_add : ByteArray := prog_5_method_3_code
def yX3_add : MethodName := ⟨RX3, "add", "(IIII)V"⟩
abbrev cX3_addLike : ByteArray := prog_5_method_4_code
def yX3_addLike : MethodName := ⟨RX3, "addLike", "(LLawnRings$Sprinkler;)V"⟩
abbrev cX3_cells : ByteArray := prog_5_method_5_code
def yX3_cells : MethodName := ⟨RX3, "cells", "()I"⟩
abbrev cX3_hasCell : ByteArray := prog_5_method_6_code
def yX3_hasCell : MethodName := ⟨RX3, "hasCell", "(I)Z"⟩
abbrev cX3_hasSprinkler : ByteArray := prog_5_method_7_code
def yX3_hasSprinkler : MethodName := ⟨RX3, "hasSprinkler", "(I)Z"⟩
abbrev cX3_isOn : ByteArray := prog_5_method_8_code
def yX3_isOn : MethodName := ⟨RX3, "isOn", "(I)Z"⟩
abbrev cX3_rowOf : ByteArray := prog_5_method_9_code
def yX3_rowOf : MethodName := ⟨RX3, "rowOf", "(I)I"⟩
abbrev cX3_changeWind : ByteArray := prog_5_method_10_code
def yX3_changeWind : MethodName := ⟨RX3, "changeWind", "(I)I"⟩
abbrev cX3_changeTap : ByteArray := prog_5_method_11_code
def yX3_changeTap : MethodName := ⟨RX3, "changeTap", "(I)I"⟩
abbrev cX3_changeLeast : ByteArray := prog_5_method_12_code
def yX3_changeLeast : MethodName := ⟨RX3, "changeLeast", "(I)I"⟩
abbrev cX3_changeMost : ByteArray := prog_5_method_13_code
def yX3_changeMost : MethodName := ⟨RX3, "changeMost", "(I)I"⟩
abbrev cX3_isDry : ByteArray := prog_5_method_14_code
def yX3_isDry : MethodName := ⟨RX3, "isDry", "(II)Z"⟩
abbrev cX3_isWrong : ByteArray := prog_5_method_15_code
def yX3_isWrong : MethodName := ⟨RX3, "isWrong", "(II)Z"⟩
abbrev cX3_wrongIn : ByteArray := prog_5_method_16_code
def yX3_wrongIn : MethodName := ⟨RX3, "wrongIn", "([I)I"⟩
abbrev cX3_dryIn : ByteArray := prog_5_method_17_code
def yX3_dryIn : MethodName := ⟨RX3, "dryIn", "([I)I"⟩
abbrev cX3_wetTogether : ByteArray := prog_5_method_18_code
def yX3_wetTogether : MethodName := ⟨RX3, "wetTogether", "()I"⟩
abbrev cX3_soak : ByteArray := prog_5_method_19_code
def yX3_soak : MethodName := ⟨RX3, "soak", "([I[II[I)V"⟩
abbrev cX3_passMinute : ByteArray := prog_5_method_20_code
def yX3_passMinute : MethodName := ⟨RX3, "passMinute", "(LLawnRings$Flow;)V"⟩
abbrev cX3_dryBy : ByteArray := prog_5_method_21_code
def yX3_dryBy : MethodName := ⟨RX3, "dryBy", "(I)V"⟩
abbrev cX3_drawWind : ByteArray := prog_5_method_22_code
def yX3_drawWind : MethodName := ⟨RX3, "drawWind", "()I"⟩
abbrev cX3_remember : ByteArray := prog_5_method_23_code
def yX3_remember : MethodName := ⟨RX3, "remember", "()V"⟩
abbrev cX3_takeBack : ByteArray := prog_5_method_24_code
def yX3_takeBack : MethodName := ⟨RX3, "takeBack", "()V"⟩
abbrev cX3_becomeLike : ByteArray := prog_5_method_25_code
def yX3_becomeLike : MethodName := ⟨RX3, "becomeLike", "(LLawnRings$Plot;)V"⟩
def RX4 : String := "LawnRings$Reader"
def TX4 : u_T := fun k => match k with
  | 0 => ("LawnRings$Reader", "text", "[I", true)
  | 1 => ("LawnRings$Reader", "size", "I", false)
  | 2 => ("LawnRings$Reader", "at", "I", false)
  | 3 => ("LawnRings$Reader", "rows", "I", false)
  | 4 => ("LawnRings$Reader", "columns", "I", false)
  | 5 => ("LawnRings$Reader", "cells", "I", false)
  | 6 => ("LawnRings$Reader", "soil", "[I", true)
  | 7 => ("LawnRings$Reader", "standing", "I", false)
  | _ => ("LawnRings$Reader", "sprinklers", "[LLawnRings$Sprinkler;", true)
def tyX4 : Nat → FieldType := fun k => match k with
  | 0 => .array .int
  | 1 => .int
  | 2 => .int
  | 3 => .int
  | 4 => .int
  | 5 => .int
  | 6 => .array .int
  | 7 => .int
  | _ => .array (.object "LawnRings$Sprinkler")
abbrev wsX40 : List Cond := u_ws RX4 TX4 9
theorem nmX4 : ∀ a, a < 9 → ∀ b, b < 9 → a ≠ b → (TX4 a).2.1 ≠ (TX4 b).2.1 := by decide +kernel
theorem tyX4_ok : ∀ k, k < 9 → parseFieldDescriptor (TX4 k).2.2.1 = some (tyX4 k) := by decide +kernel
abbrev cX4_init : ByteArray := prog_6_method_1_code
def yX4_init : MethodName := ⟨RX4, "<init>", "([I)V"⟩
abbrev cX4_reads : ByteArray := prog_6_method_2_code
def yX4_reads : MethodName := ⟨RX4, "reads", "(I)Z"⟩
abbrev cX4_readsRows : ByteArray := prog_6_method_3_code
def yX4_readsRows : MethodName := ⟨RX4, "readsRows", "()Z"⟩
abbrev cX4_readsRow : ByteArray := prog_6_method_4_code
def yX4_readsRow : MethodName := ⟨RX4, "readsRow", "()Z"⟩
abbrev cX4_readsSprinklers : ByteArray := prog_6_method_5_code
def yX4_readsSprinklers : MethodName := ⟨RX4, "readsSprinklers", "()Z"⟩
abbrev cX4_readsSprinkler : ByteArray := prog_6_method_6_code
def yX4_readsSprinkler : MethodName := ⟨RX4, "readsSprinkler", "(LLawnRings$Sprinkler;)Z"⟩
abbrev cX4_digit : ByteArray := prog_6_method_7_code
def yX4_digit : MethodName := ⟨RX4, "digit", "(II)I"⟩
abbrev cX4_letterAhead : ByteArray := prog_6_method_8_code
def yX4_letterAhead : MethodName := ⟨RX4, "letterAhead", "()I"⟩
abbrev cX4_soilOf : ByteArray := prog_6_method_9_code
def yX4_soilOf : MethodName := ⟨RX4, "soilOf", "(I)I"⟩
abbrev cX4_kindOf : ByteArray := prog_6_method_10_code
def yX4_kindOf : MethodName := ⟨RX4, "kindOf", "(I)I"⟩
def RX5 : String := "LawnRings$Sheet"
def TX5 : u_T := fun k => match k with
  | 0 => ("LawnRings$Sheet", "held", "Z", false)
  | 1 => ("LawnRings$Sheet", "lane", "I", false)
  | 2 => ("LawnRings$Sheet", "size", "I", false)
  | _ => ("LawnRings$Sheet", "items", "[J", true)
def tyX5 : Nat → FieldType := fun k => match k with
  | 0 => .boolean
  | 1 => .int
  | 2 => .int
  | _ => .array .long
abbrev wsX50 : List Cond := u_ws RX5 TX5 4
theorem nmX5 : ∀ a, a < 4 → ∀ b, b < 4 → a ≠ b → (TX5 a).2.1 ≠ (TX5 b).2.1 := by decide +kernel
theorem tyX5_ok : ∀ k, k < 4 → parseFieldDescriptor (TX5 k).2.2.1 = some (tyX5 k) := by decide +kernel
abbrev cX5_init : ByteArray := prog_7_method_1_code
def yX5_init : MethodName := ⟨RX5, "<init>", "()V"⟩
abbrev cX5_begin : ByteArray := prog_7_method_2_code
def yX5_begin : MethodName := ⟨RX5, "begin", "(II)V"⟩
abbrev cX5_hasItems : ByteArray := prog_7_method_3_code
def yX5_hasItems : MethodName := ⟨RX5, "hasItems", "(II)Z"⟩
abbrev cX5_put : ByteArray := prog_7_method_4_code
def yX5_put : MethodName := ⟨RX5, "put", "(IJ)V"⟩
abbrev cX5_cut : ByteArray := prog_7_method_5_code
def yX5_cut : MethodName := ⟨RX5, "cut", "(J)J"⟩
def RX6 : String := "LawnRings$Sprinkler"
def TX6 : u_T := fun k => match k with
  | 0 => ("LawnRings$Sprinkler", "kind", "I", false)
  | 1 => ("LawnRings$Sprinkler", "place", "I", false)
  | 2 => ("LawnRings$Sprinkler", "reach", "I", false)
  | _ => ("LawnRings$Sprinkler", "power", "I", false)
def tyX6 : Nat → FieldType := fun k => match k with
  | 0 => .int
  | 1 => .int
  | 2 => .int
  | _ => .int
abbrev wsX60 : List Cond := u_ws RX6 TX6 4
theorem nmX6 : ∀ a, a < 4 → ∀ b, b < 4 → a ≠ b → (TX6 a).2.1 ≠ (TX6 b).2.1 := by decide +kernel
theorem tyX6_ok : ∀ k, k < 4 → parseFieldDescriptor (TX6 k).2.2.1 = some (tyX6 k) := by decide +kernel
abbrev cX6_init : ByteArray := prog_8_method_1_code
def yX6_init : MethodName := ⟨RX6, "<init>", "()V"⟩
abbrev cX6_become : ByteArray := prog_8_method_2_code
def yX6_become : MethodName := ⟨RX6, "become", "(IIII)V"⟩
abbrev cX6_thrown : ByteArray := prog_8_method_3_code
def yX6_thrown : MethodName := ⟨RX6, "thrown", "(II)I"⟩
abbrev cX6_ring : ByteArray := prog_8_method_4_code
def yX6_ring : MethodName := ⟨RX6, "ring", "(I)I"⟩
abbrev cX6_even : ByteArray := prog_8_method_5_code
def yX6_even : MethodName := ⟨RX6, "even", "()I"⟩
def RX7 : String := "LawnRings"
def TX7 : u_T := fun k => match k with
  | 0 => ("LawnRings", "now", "LLawnRings$Plot;", true)
  | 1 => ("LawnRings", "flow", "LLawnRings$Flow;", true)
  | 2 => ("LawnRings", "foresight", "LLawnRings$Foresight;", true)
  | 3 => ("LawnRings", "tape", "[I", true)
  | 4 => ("LawnRings", "reader", "LLawnRings$Reader;", true)
  | 5 => ("LawnRings", "typed", "I", false)
  | 6 => ("LawnRings", "sheets", "[LLawnRings$Sheet;", true)
  | _ => ("LawnRings", "kept", "LLawnRings$Plot;", false)
def tyX7 : Nat → FieldType := fun k => match k with
  | 0 => .object "LawnRings$Plot"
  | 1 => .object "LawnRings$Flow"
  | 2 => .object "LawnRings$Foresight"
  | 3 => .array .int
  | 4 => .object "LawnRings$Reader"
  | 5 => .int
  | 6 => .array (.object "LawnRings$Sheet")
  | _ => .object "LawnRings$Plot"
abbrev wsX70 : List Cond := u_ws RX7 TX7 8
theorem nmX7 : ∀ a, a < 8 → ∀ b, b < 8 → a ≠ b → (TX7 a).2.1 ≠ (TX7 b).2.1 := by decide +kernel
theorem tyX7_ok : ∀ k, k < 8 → parseFieldDescriptor (TX7 k).2.2.1 = some (tyX7 k) := by decide +kernel
abbrev cX7_init : ByteArray := prog_1_method_1_code
def yX7_init : MethodName := ⟨RX7, "<init>", "()V"⟩
abbrev cX7_lawn : ByteArray := prog_1_method_2_code
def yX7_lawn : MethodName := ⟨RX7, "lawn", "(II)I"⟩
abbrev cX7_soil : ByteArray := prog_1_method_3_code
def yX7_soil : MethodName := ⟨RX7, "soil", "(II)I"⟩
abbrev cX7_sprinkler : ByteArray := prog_1_method_4_code
def yX7_sprinkler : MethodName := ⟨RX7, "sprinkler", "(IIII)I"⟩
abbrev cX7_of : ByteArray := prog_1_method_5_code
def yX7_of : MethodName := ⟨RX7, "of", "(II)I"⟩
abbrev cX7_cell : ByteArray := prog_1_method_6_code
def yX7_cell : MethodName := ⟨RX7, "cell", "(II)I"⟩
abbrev cX7_turn : ByteArray := prog_1_method_7_code
def yX7_turn : MethodName := ⟨RX7, "turn", "(II)I"⟩
abbrev cX7_rule : ByteArray := prog_1_method_8_code
def yX7_rule : MethodName := ⟨RX7, "rule", "(II)I"⟩
abbrev cX7_type : ByteArray := prog_1_method_9_code
def yX7_type : MethodName := ⟨RX7, "type", "(I)I"⟩
abbrev cX7_garden : ByteArray := prog_1_method_10_code
def yX7_garden : MethodName := ⟨RX7, "garden", "()I"⟩
abbrev cX7_count : ByteArray := prog_1_method_11_code
def yX7_count : MethodName := ⟨RX7, "count", "(I)I"⟩
abbrev cX7_minutes : ByteArray := prog_1_method_12_code
def yX7_minutes : MethodName := ⟨RX7, "minutes", "(I)I"⟩
abbrev cX7_sun : ByteArray := prog_1_method_13_code
def yX7_sun : MethodName := ⟨RX7, "sun", "(I)I"⟩
abbrev cX7_move : ByteArray := prog_1_method_14_code
def yX7_move : MethodName := ⟨RX7, "move", "(II)I"⟩
abbrev cX7_drift : ByteArray := prog_1_method_15_code
def yX7_drift : MethodName := ⟨RX7, "drift", "(I)I"⟩
abbrev cX7_undo : ByteArray := prog_1_method_16_code
def yX7_undo : MethodName := ⟨RX7, "undo", "()I"⟩
abbrev cX7_seed : ByteArray := prog_1_method_17_code
def yX7_seed : MethodName := ⟨RX7, "seed", "(I)I"⟩
abbrev cX7_ahead : ByteArray := prog_1_method_18_code
def yX7_ahead : MethodName := ⟨RX7, "ahead", "(II)I"⟩
abbrev cX7_wrongs : ByteArray := prog_1_method_19_code
def yX7_wrongs : MethodName := ⟨RX7, "wrongs", "(II)I"⟩
abbrev cX7_enough : ByteArray := prog_1_method_20_code
def yX7_enough : MethodName := ⟨RX7, "enough", "()I"⟩
abbrev cX7_stand : ByteArray := prog_1_method_21_code
def yX7_stand : MethodName := ⟨RX7, "stand", "(III)I"⟩
abbrev cX7_set : ByteArray := prog_1_method_22_code
def yX7_set : MethodName := ⟨RX7, "set", "(II)I"⟩
abbrev cX7_turns : ByteArray := prog_1_method_23_code
def yX7_turns : MethodName := ⟨RX7, "turns", "(II)I"⟩
abbrev cX7_image : ByteArray := prog_1_method_24_code
def yX7_image : MethodName := ⟨RX7, "image", "()I"⟩
abbrev cX7_restore : ByteArray := prog_1_method_25_code
def yX7_restore : MethodName := ⟨RX7, "restore", "()I"⟩
abbrev cX7_tins : ByteArray := prog_1_method_26_code
def yX7_tins : MethodName := ⟨RX7, "tins", "(IIIIII)I"⟩
abbrev cX7_film : ByteArray := prog_1_method_27_code
def yX7_film : MethodName := ⟨RX7, "film", "(IIIII)I"⟩
abbrev cX7_sheet : ByteArray := prog_1_method_28_code
def yX7_sheet : MethodName := ⟨RX7, "sheet", "(III)I"⟩
abbrev cX7_drop : ByteArray := prog_1_method_29_code
def yX7_drop : MethodName := ⟨RX7, "drop", "(I)I"⟩
abbrev cX7_item : ByteArray := prog_1_method_30_code
def yX7_item : MethodName := ⟨RX7, "item", "(IIIJ)I"⟩
abbrev cX7_copy : ByteArray := prog_1_method_31_code
def yX7_copy : MethodName := ⟨RX7, "copy", "(IIIII)I"⟩
abbrev cX7_refusal : ByteArray := prog_1_method_32_code
def yX7_refusal : MethodName := ⟨RX7, "refusal", "(IIII)I"⟩
abbrev cX7_within : ByteArray := prog_1_method_33_code
def yX7_within : MethodName := ⟨RX7, "within", "(III)Z"⟩
def RX8 : String := "LawnRingsModel"
def TX8 : u_T := fun k => match k with
  | 0 => ("LawnRingsModel", "now", "[I", true)
  | 1 => ("LawnRingsModel", "falls", "[I", true)
  | 2 => ("LawnRingsModel", "runs", "[I", true)
  | 3 => ("LawnRingsModel", "tape", "[I", true)
  | 4 => ("LawnRingsModel", "typed", "I", false)
  | 5 => ("LawnRingsModel", "place", "I", false)
  | 6 => ("LawnRingsModel", "isFault", "Z", false)
  | 7 => ("LawnRingsModel", "readSoil", "[I", true)
  | 8 => ("LawnRingsModel", "read", "[I", true)
  | 9 => ("LawnRingsModel", "undone", "[I", true)
  | 10 => ("LawnRingsModel", "undos", "I", false)
  | 11 => ("LawnRingsModel", "aside", "[I", true)
  | 12 => ("LawnRingsModel", "kept", "[I", true)
  | 13 => ("LawnRingsModel", "keptUndos", "I", false)
  | 14 => ("LawnRingsModel", "isKept", "Z", false)
  | 15 => ("LawnRingsModel", "lanes", "[I", true)
  | 16 => ("LawnRingsModel", "sizes", "[I", true)
  | 17 => ("LawnRingsModel", "items", "[J", true)
  | _ => ("LawnRingsModel", "moved", "[J", true)
def tyX8 : Nat → FieldType := fun k => match k with
  | 0 => .array .int
  | 1 => .array .int
  | 2 => .array .int
  | 3 => .array .int
  | 4 => .int
  | 5 => .int
  | 6 => .boolean
  | 7 => .array .int
  | 8 => .array .int
  | 9 => .array .int
  | 10 => .int
  | 11 => .array .int
  | 12 => .array .int
  | 13 => .int
  | 14 => .boolean
  | 15 => .array .int
  | 16 => .array .int
  | 17 => .array .long
  | _ => .array .long
abbrev wsX80 : List Cond := u_ws RX8 TX8 19
theorem nmX8 : ∀ a, a < 19 → ∀ b, b < 19 → a ≠ b → (TX8 a).2.1 ≠ (TX8 b).2.1 := by decide +kernel
theorem tyX8_ok : ∀ k, k < 19 → parseFieldDescriptor (TX8 k).2.2.1 = some (tyX8 k) := by decide +kernel
abbrev cX8_in : ByteArray := prog_10_method_2_code
def yX8_in : MethodName := ⟨RX8, "in", "(JJJ)Z"⟩
abbrev cX8_init : ByteArray := prog_10_method_3_code
def yX8_init : MethodName := ⟨RX8, "<init>", "()V"⟩
abbrev cX8_cells : ByteArray := prog_10_method_4_code
def yX8_cells : MethodName := ⟨RX8, "cells", "()I"⟩
abbrev cX8_isCell : ByteArray := prog_10_method_5_code
def yX8_isCell : MethodName := ⟨RX8, "isCell", "(I)Z"⟩
abbrev cX8_isSprinkler : ByteArray := prog_10_method_6_code
def yX8_isSprinkler : MethodName := ⟨RX8, "isSprinkler", "(I)Z"⟩
abbrev cX8_told : ByteArray := prog_10_method_7_code
def yX8_told : MethodName := ⟨RX8, "told", "(II)I"⟩
abbrev cX8_apart : ByteArray := prog_10_method_8_code
def yX8_apart : MethodName := ⟨RX8, "apart", "(II)I"⟩
abbrev cX8_most : ByteArray := prog_10_method_9_code
def yX8_most : MethodName := ⟨RX8, "most", "(II)I"⟩
abbrev cX8_throwsOn : ByteArray := prog_10_method_10_code
def yX8_throwsOn : MethodName := ⟨RX8, "throwsOn", "(II)I"⟩
abbrev cX8_rains : ByteArray := prog_10_method_11_code
def yX8_rains : MethodName := ⟨RX8, "rains", "(II)V"⟩
abbrev cX8_takes : ByteArray := prog_10_method_12_code
def yX8_takes : MethodName := ⟨RX8, "takes", "(II)I"⟩
abbrev cX8_goesBy : ByteArray := prog_10_method_13_code
def yX8_goesBy : MethodName := ⟨RX8, "goesBy", "()V"⟩
abbrev cX8_goesOn : ByteArray := prog_10_method_14_code
def yX8_goesOn : MethodName := ⟨RX8, "goesOn", "(I)V"⟩
abbrev cX8_isDry : ByteArray := prog_10_method_15_code
def yX8_isDry : MethodName := ⟨RX8, "isDry", "(I)Z"⟩
abbrev cX8_isWrong : ByteArray := prog_10_method_16_code
def yX8_isWrong : MethodName := ⟨RX8, "isWrong", "(I)Z"⟩
abbrev cX8_wrongOnes : ByteArray := prog_10_method_17_code
def yX8_wrongOnes : MethodName := ⟨RX8, "wrongOnes", "()I"⟩
abbrev cX8_dryOnes : ByteArray := prog_10_method_18_code
def yX8_dryOnes : MethodName := ⟨RX8, "dryOnes", "()I"⟩
abbrev cX8_wetness : ByteArray := prog_10_method_19_code
def yX8_wetness : MethodName := ⟨RX8, "wetness", "()I"⟩
abbrev cX8_many : ByteArray := prog_10_method_20_code
def yX8_many : MethodName := ⟨RX8, "many", "(I)I"⟩
abbrev cX8_freshLawn : ByteArray := prog_10_method_21_code
def yX8_freshLawn : MethodName := ⟨RX8, "freshLawn", "(II)V"⟩
abbrev cX8_lawn : ByteArray := prog_10_method_22_code
def yX8_lawn : MethodName := ⟨RX8, "lawn", "(II)I"⟩
abbrev cX8_soil : ByteArray := prog_10_method_23_code
def yX8_soil : MethodName := ⟨RX8, "soil", "(II)I"⟩
abbrev cX8_comes : ByteArray := prog_10_method_24_code
def yX8_comes : MethodName := ⟨RX8, "comes", "(IIII)V"⟩
abbrev cX8_sprinkler : ByteArray := prog_10_method_25_code
def yX8_sprinkler : MethodName := ⟨RX8, "sprinkler", "(IIII)I"⟩
abbrev cX8_of : ByteArray := prog_10_method_26_code
def yX8_of : MethodName := ⟨RX8, "of", "(II)I"⟩
abbrev cX8_takesNow : ByteArray := prog_10_method_27_code
def yX8_takesNow : MethodName := ⟨RX8, "takesNow", "(I)I"⟩
abbrev cX8_cell : ByteArray := prog_10_method_28_code
def yX8_cell : MethodName := ⟨RX8, "cell", "(II)I"⟩
abbrev cX8_turn : ByteArray := prog_10_method_29_code
def yX8_turn : MethodName := ⟨RX8, "turn", "(II)I"⟩
abbrev cX8_rule : ByteArray := prog_10_method_30_code
def yX8_rule : MethodName := ⟨RX8, "rule", "(II)I"⟩
abbrev cX8_count : ByteArray := prog_10_method_31_code
def yX8_count : MethodName := ⟨RX8, "count", "(I)I"⟩
abbrev cX8_type : ByteArray := prog_10_method_32_code
def yX8_type : MethodName := ⟨RX8, "type", "(I)I"⟩
abbrev cX8_here : ByteArray := prog_10_method_33_code
def yX8_here : MethodName := ⟨RX8, "here", "()I"⟩
abbrev cX8_must : ByteArray := prog_10_method_34_code
def yX8_must : MethodName := ⟨RX8, "must", "(Z)V"⟩
abbrev cX8_digit : ByteArray := prog_10_method_35_code
def yX8_digit : MethodName := ⟨RX8, "digit", "(II)I"⟩
abbrev cX8_soilOf : ByteArray := prog_10_method_36_code
def yX8_soilOf : MethodName := ⟨RX8, "soilOf", "(I)I"⟩
abbrev cX8_readRow : ByteArray := prog_10_method_37_code
def yX8_readRow : MethodName := ⟨RX8, "readRow", "(II)I"⟩
abbrev cX8_readSprinklers : ByteArray := prog_10_method_38_code
def yX8_readSprinklers : MethodName := ⟨RX8, "readSprinklers", "(II)I"⟩
abbrev cX8_garden : ByteArray := prog_10_method_39_code
def yX8_garden : MethodName := ⟨RX8, "garden", "()I"⟩
abbrev cX8_notes : ByteArray := prog_10_method_40_code
def yX8_notes : MethodName := ⟨RX8, "notes", "()V"⟩
abbrev cX8_minutes : ByteArray := prog_10_method_41_code
def yX8_minutes : MethodName := ⟨RX8, "minutes", "(I)I"⟩
abbrev cX8_sun : ByteArray := prog_10_method_42_code
def yX8_sun : MethodName := ⟨RX8, "sun", "(I)I"⟩
abbrev cX8_move : ByteArray := prog_10_method_43_code
def yX8_move : MethodName := ⟨RX8, "move", "(II)I"⟩
abbrev cX8_drift : ByteArray := prog_10_method_44_code
def yX8_drift : MethodName := ⟨RX8, "drift", "(I)I"⟩
abbrev cX8_undo : ByteArray := prog_10_method_45_code
def yX8_undo : MethodName := ⟨RX8, "undo", "()I"⟩
abbrev cX8_seed : ByteArray := prog_10_method_46_code
def yX8_seed : MethodName := ⟨RX8, "seed", "(I)I"⟩
abbrev cX8_asides : ByteArray := prog_10_method_47_code
def yX8_asides : MethodName := ⟨RX8, "asides", "()V"⟩
abbrev cX8_backs : ByteArray := prog_10_method_48_code
def yX8_backs : MethodName := ⟨RX8, "backs", "()V"⟩
abbrev cX8_ahead : ByteArray := prog_10_method_49_code
def yX8_ahead : MethodName := ⟨RX8, "ahead", "(II)I"⟩
abbrev cX8_wrongs : ByteArray := prog_10_method_50_code
def yX8_wrongs : MethodName := ⟨RX8, "wrongs", "(II)I"⟩
abbrev cX8_enough : ByteArray := prog_10_method_51_code
def yX8_enough : MethodName := ⟨RX8, "enough", "()I"⟩
abbrev cX8_wrongBehind : ByteArray := prog_10_method_52_code
def yX8_wrongBehind : MethodName := ⟨RX8, "wrongBehind", "(II)I"⟩
abbrev cX8_stand : ByteArray := prog_10_method_53_code
def yX8_stand : MethodName := ⟨RX8, "stand", "(III)I"⟩
abbrev cX8_set : ByteArray := prog_10_method_54_code
def yX8_set : MethodName := ⟨RX8, "set", "(II)I"⟩
abbrev cX8_turns : ByteArray := prog_10_method_55_code
def yX8_turns : MethodName := ⟨RX8, "turns", "(II)I"⟩
abbrev cX8_image : ByteArray := prog_10_method_56_code
def yX8_image : MethodName := ⟨RX8, "image", "()I"⟩
abbrev cX8_restore : ByteArray := prog_10_method_57_code
def yX8_restore : MethodName := ⟨RX8, "restore", "()I"⟩
abbrev cX8_isSheet : ByteArray := prog_10_method_58_code
def yX8_isSheet : MethodName := ⟨RX8, "isSheet", "(I)Z"⟩
abbrev cX8_isLane : ByteArray := prog_10_method_59_code
def yX8_isLane : MethodName := ⟨RX8, "isLane", "(I)Z"⟩
abbrev cX8_why : ByteArray := prog_10_method_60_code
def yX8_why : MethodName := ⟨RX8, "why", "(IIII)I"⟩
abbrev cX8_cut : ByteArray := prog_10_method_61_code
def yX8_cut : MethodName := ⟨RX8, "cut", "(IJ)J"⟩
abbrev cX8_tins : ByteArray := prog_10_method_62_code
def yX8_tins : MethodName := ⟨RX8, "tins", "(IIIIII)I"⟩
abbrev cX8_film : ByteArray := prog_10_method_63_code
def yX8_film : MethodName := ⟨RX8, "film", "(IIIII)I"⟩
abbrev cX8_sheet : ByteArray := prog_10_method_64_code
def yX8_sheet : MethodName := ⟨RX8, "sheet", "(III)I"⟩
abbrev cX8_drop : ByteArray := prog_10_method_65_code
def yX8_drop : MethodName := ⟨RX8, "drop", "(I)I"⟩
abbrev cX8_item : ByteArray := prog_10_method_66_code
def yX8_item : MethodName := ⟨RX8, "item", "(IIIJ)I"⟩
abbrev cX8_copy : ByteArray := prog_10_method_67_code
def yX8_copy : MethodName := ⟨RX8, "copy", "(IIIII)I"⟩
def RJ6 : String := "java/lang/Integer"
def TJ6 : u_T := fun k => match k with
  | _ => ("", "", "", false)
def tyJ6 : Nat → FieldType := fun k => match k with
  | _ => .int
abbrev wsJ60 : List Cond := u_ws RJ6 TJ6 0
theorem nmJ6 : ∀ a, a < 0 → ∀ b, b < 0 → a ≠ b → (TJ6 a).2.1 ≠ (TJ6 b).2.1 := by decide +kernel
theorem tyJ6_ok : ∀ k, k < 0 → parseFieldDescriptor (TJ6 k).2.2.1 = some (tyJ6 k) := by decide +kernel
abbrev cJ6_bitCount_0f7a4 : ByteArray := prog_11_method_49_code
def yJ6_bitCount_0f7a4 : MethodName := ⟨RJ6, "bitCount", "(I)I"⟩
def RJ9 : String := "java/lang/Math"
def TJ9 : u_T := fun k => match k with
  | _ => ("", "", "", false)
def tyJ9 : Nat → FieldType := fun k => match k with
  | _ => .int
abbrev wsJ90 : List Cond := u_ws RJ9 TJ9 0
theorem nmJ9 : ∀ a, a < 0 → ∀ b, b < 0 → a ≠ b → (TJ9 a).2.1 ≠ (TJ9 b).2.1 := by decide +kernel
theorem tyJ9_ok : ∀ k, k < 0 → parseFieldDescriptor (TJ9 k).2.2.1 = some (tyJ9 k) := by decide +kernel
abbrev cJ9_abs_0f7a4 : ByteArray := prog_12_method_59_code
def yJ9_abs_0f7a4 : MethodName := ⟨RJ9, "abs", "(I)I"⟩
abbrev cJ9_max_7cf53 : ByteArray := prog_12_method_65_code
def yJ9_max_7cf53 : MethodName := ⟨RJ9, "max", "(II)I"⟩
abbrev cJ9_min_7cf53 : ByteArray := prog_12_method_69_code
def yJ9_min_7cf53 : MethodName := ⟨RJ9, "min", "(II)I"⟩
def RJ10 : String := "java/lang/System"
def TJ10 : u_T := fun k => match k with
  | _ => ("", "", "", false)
def tyJ10 : Nat → FieldType := fun k => match k with
  | _ => .int
abbrev wsJ100 : List Cond := u_ws RJ10 TJ10 0
theorem nmJ10 : ∀ a, a < 0 → ∀ b, b < 0 → a ≠ b → (TJ10 a).2.1 ≠ (TJ10 b).2.1 := by decide +kernel
theorem tyJ10_ok : ∀ k, k < 0 → parseFieldDescriptor (TJ10 k).2.2.1 = some (tyJ10 k) := by decide +kernel
def RJ7 : String := "java/util/Arrays"
def TJ7 : u_T := fun k => match k with
  | _ => ("", "", "", false)
def tyJ7 : Nat → FieldType := fun k => match k with
  | _ => .int
abbrev wsJ70 : List Cond := u_ws RJ7 TJ7 0
theorem nmJ7 : ∀ a, a < 0 → ∀ b, b < 0 → a ≠ b → (TJ7 a).2.1 ≠ (TJ7 b).2.1 := by decide +kernel
theorem tyJ7_ok : ∀ k, k < 0 → parseFieldDescriptor (TJ7 k).2.2.1 = some (tyJ7 k) := by decide +kernel
abbrev cJ7_fill_d0a16 : ByteArray := prog_14_method_101_code
def yJ7_fill_d0a16 : MethodName := ⟨RJ7, "fill", "([JJ)V"⟩
abbrev cJ7_fill_53178 : ByteArray := prog_14_method_103_code
def yJ7_fill_53178 : MethodName := ⟨RJ7, "fill", "([II)V"⟩
def RL : String := "LawnRingsLaw"
abbrev cL_law : ByteArray := code
def yL_law : MethodName := ⟨RL, "law", "([I)Z"⟩
