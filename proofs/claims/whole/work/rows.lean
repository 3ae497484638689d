section
-- ===== PART A: goes FIRST, ahead of the names: the tables' words, and 'selects' of the private methods out of them =====
/-- a private method of a class that the tables say can be made, by its rows of tables_1 -/
def lw_okq (q : MethodName × Nat) : Prop := (q.1.cls ≠ "java/lang/invoke/MethodHandle" ∧ q.1.cls ≠ "java/lang/invoke/VarHandle") ∧ Cond.instantiable q.1.cls q.2 ∈ tables_1 ∧ Cond.privateMethod q.1 ∈ tables_1 ∧ Cond.instanceMethod q.1 ∈ tables_1
theorem lw_p0 : lw_okq (⟨"FallingWords$Rules", "contains", "(I)Z"⟩, 6) := ⟨⟨by decide +kernel, by decide +kernel⟩, List.mem_of_getElem? (i := 31) (by decide +kernel), List.mem_of_getElem? (i := 314) (by decide +kernel), List.mem_of_getElem? (i := 315) (by decide +kernel)⟩
theorem lw_p1 : lw_okq (⟨"FallingWords", "startTrial", "()V"⟩, 8) := ⟨⟨by decide +kernel, by decide +kernel⟩, List.mem_of_getElem? (i := 17) (by decide +kernel), List.mem_of_getElem? (i := 319) (by decide +kernel), List.mem_of_getElem? (i := 320) (by decide +kernel)⟩
theorem lw_p2 : lw_okq (⟨"FallingWords$State", "takeOver", "(LFallingWords$State;)V"⟩, 6) := ⟨⟨by decide +kernel, by decide +kernel⟩, List.mem_of_getElem? (i := 25) (by decide +kernel), List.mem_of_getElem? (i := 323) (by decide +kernel), List.mem_of_getElem? (i := 324) (by decide +kernel)⟩
theorem lw_p3 : lw_okq (⟨"FallingWords$Rules", "takeOver", "(LFallingWords$Rules;)V"⟩, 6) := ⟨⟨by decide +kernel, by decide +kernel⟩, List.mem_of_getElem? (i := 31) (by decide +kernel), List.mem_of_getElem? (i := 327) (by decide +kernel), List.mem_of_getElem? (i := 328) (by decide +kernel)⟩
theorem lw_p4 : lw_okq (⟨"FallingWords$Store", "takeOver", "(LFallingWords$Store;)V"⟩, 3) := ⟨⟨by decide +kernel, by decide +kernel⟩, List.mem_of_getElem? (i := 68) (by decide +kernel), List.mem_of_getElem? (i := 334) (by decide +kernel), List.mem_of_getElem? (i := 335) (by decide +kernel)⟩
theorem lw_p5 : lw_okq (⟨"FallingWords$State", "removeRule", "(I)V"⟩, 6) := ⟨⟨by decide +kernel, by decide +kernel⟩, List.mem_of_getElem? (i := 25) (by decide +kernel), List.mem_of_getElem? (i := 339) (by decide +kernel), List.mem_of_getElem? (i := 340) (by decide +kernel)⟩
theorem lw_p6 : lw_okq (⟨"FallingWords$Rules", "remove", "(I)V"⟩, 6) := ⟨⟨by decide +kernel, by decide +kernel⟩, List.mem_of_getElem? (i := 31) (by decide +kernel), List.mem_of_getElem? (i := 343) (by decide +kernel), List.mem_of_getElem? (i := 344) (by decide +kernel)⟩
theorem lw_p7 : lw_okq (⟨"FallingWords", "keepTrial", "()V"⟩, 8) := ⟨⟨by decide +kernel, by decide +kernel⟩, List.mem_of_getElem? (i := 17) (by decide +kernel), List.mem_of_getElem? (i := 348) (by decide +kernel), List.mem_of_getElem? (i := 349) (by decide +kernel)⟩
theorem lw_p8 : lw_okq (⟨"FallingWords$History", "keep", "(LFallingWords$State;)V"⟩, 2) := ⟨⟨by decide +kernel, by decide +kernel⟩, List.mem_of_getElem? (i := 117) (by decide +kernel), List.mem_of_getElem? (i := 352) (by decide +kernel), List.mem_of_getElem? (i := 353) (by decide +kernel)⟩
theorem lw_p9 : lw_okq (⟨"FallingWords$History", "forgetOldest", "()V"⟩, 2) := ⟨⟨by decide +kernel, by decide +kernel⟩, List.mem_of_getElem? (i := 117) (by decide +kernel), List.mem_of_getElem? (i := 356) (by decide +kernel), List.mem_of_getElem? (i := 357) (by decide +kernel)⟩
theorem lw_p10 : lw_okq (⟨"FallingWords$State", "setChoosing", "(I)V"⟩, 6) := ⟨⟨by decide +kernel, by decide +kernel⟩, List.mem_of_getElem? (i := 25) (by decide +kernel), List.mem_of_getElem? (i := 365) (by decide +kernel), List.mem_of_getElem? (i := 366) (by decide +kernel)⟩
theorem lw_p11 : lw_okq (⟨"FallingWords$Rules", "placesIn", "(II)I"⟩, 6) := ⟨⟨by decide +kernel, by decide +kernel⟩, List.mem_of_getElem? (i := 31) (by decide +kernel), List.mem_of_getElem? (i := 383) (by decide +kernel), List.mem_of_getElem? (i := 384) (by decide +kernel)⟩
theorem lw_p12 : lw_okq (⟨"FallingWords$Rules", "appliesAt", "(IIII)Z"⟩, 6) := ⟨⟨by decide +kernel, by decide +kernel⟩, List.mem_of_getElem? (i := 31) (by decide +kernel), List.mem_of_getElem? (i := 388) (by decide +kernel), List.mem_of_getElem? (i := 389) (by decide +kernel)⟩
theorem lw_p13 : lw_okq (⟨"FallingWords$State", "takeStep", "()I"⟩, 6) := ⟨⟨by decide +kernel, by decide +kernel⟩, List.mem_of_getElem? (i := 25) (by decide +kernel), List.mem_of_getElem? (i := 396) (by decide +kernel), List.mem_of_getElem? (i := 397) (by decide +kernel)⟩
theorem lw_p14 : lw_okq (⟨"FallingWords$Rules", "choiceFor", "(II)I"⟩, 6) := ⟨⟨by decide +kernel, by decide +kernel⟩, List.mem_of_getElem? (i := 31) (by decide +kernel), List.mem_of_getElem? (i := 400) (by decide +kernel), List.mem_of_getElem? (i := 401) (by decide +kernel)⟩
theorem lw_p15 : lw_okq (⟨"FallingWords$Rules", "applied", "(III)I"⟩, 6) := ⟨⟨by decide +kernel, by decide +kernel⟩, List.mem_of_getElem? (i := 31) (by decide +kernel), List.mem_of_getElem? (i := 411) (by decide +kernel), List.mem_of_getElem? (i := 412) (by decide +kernel)⟩
def lw_privs_1 : List (MethodName × Nat) := [(⟨"FallingWords$Rules", "contains", "(I)Z"⟩, 6), (⟨"FallingWords", "startTrial", "()V"⟩, 8), (⟨"FallingWords$State", "takeOver", "(LFallingWords$State;)V"⟩, 6), (⟨"FallingWords$Rules", "takeOver", "(LFallingWords$Rules;)V"⟩, 6), (⟨"FallingWords$Store", "takeOver", "(LFallingWords$Store;)V"⟩, 3), (⟨"FallingWords$State", "removeRule", "(I)V"⟩, 6), (⟨"FallingWords$Rules", "remove", "(I)V"⟩, 6), (⟨"FallingWords", "keepTrial", "()V"⟩, 8), (⟨"FallingWords$History", "keep", "(LFallingWords$State;)V"⟩, 2), (⟨"FallingWords$History", "forgetOldest", "()V"⟩, 2), (⟨"FallingWords$State", "setChoosing", "(I)V"⟩, 6), (⟨"FallingWords$Rules", "placesIn", "(II)I"⟩, 6), (⟨"FallingWords$Rules", "appliesAt", "(IIII)Z"⟩, 6), (⟨"FallingWords$State", "takeStep", "()I"⟩, 6), (⟨"FallingWords$Rules", "choiceFor", "(II)I"⟩, 6), (⟨"FallingWords$Rules", "applied", "(III)I"⟩, 6)]
theorem lw_r1 : ∀ q ∈ lw_privs_1, lw_okq q := List.forall_mem_cons.mpr ⟨lw_p0, List.forall_mem_cons.mpr ⟨lw_p1, List.forall_mem_cons.mpr ⟨lw_p2, List.forall_mem_cons.mpr ⟨lw_p3, List.forall_mem_cons.mpr ⟨lw_p4, List.forall_mem_cons.mpr ⟨lw_p5, List.forall_mem_cons.mpr ⟨lw_p6, List.forall_mem_cons.mpr ⟨lw_p7, List.forall_mem_cons.mpr ⟨lw_p8, List.forall_mem_cons.mpr ⟨lw_p9, List.forall_mem_cons.mpr ⟨lw_p10, List.forall_mem_cons.mpr ⟨lw_p11, List.forall_mem_cons.mpr ⟨lw_p12, List.forall_mem_cons.mpr ⟨lw_p13, List.forall_mem_cons.mpr ⟨lw_p14, List.forall_mem_cons.mpr ⟨lw_p15, fun _ h => absurd h List.not_mem_nil⟩⟩⟩⟩⟩⟩⟩⟩⟩⟩⟩⟩⟩⟩⟩⟩
theorem lw_p16 : lw_okq (⟨"FallingWords$State", "reduce", "(LFallingWords$Reduction;)I"⟩, 6) := ⟨⟨by decide +kernel, by decide +kernel⟩, List.mem_of_getElem? (i := 25) (by decide +kernel), List.mem_of_getElem? (i := 422) (by decide +kernel), List.mem_of_getElem? (i := 423) (by decide +kernel)⟩
theorem lw_p17 : lw_okq (⟨"FallingWords$Store", "indexOf", "(I)I"⟩, 3) := ⟨⟨by decide +kernel, by decide +kernel⟩, List.mem_of_getElem? (i := 68) (by decide +kernel), List.mem_of_getElem? (i := 426) (by decide +kernel), List.mem_of_getElem? (i := 427) (by decide +kernel)⟩
theorem lw_p18 : lw_okq (⟨"FallingWords$Store", "use", "(I)I"⟩, 3) := ⟨⟨by decide +kernel, by decide +kernel⟩, List.mem_of_getElem? (i := 68) (by decide +kernel), List.mem_of_getElem? (i := 430) (by decide +kernel), List.mem_of_getElem? (i := 431) (by decide +kernel)⟩
theorem lw_p19 : lw_okq (⟨"FallingWords$Store", "setAhead", "(III)V"⟩, 3) := ⟨⟨by decide +kernel, by decide +kernel⟩, List.mem_of_getElem? (i := 68) (by decide +kernel), List.mem_of_getElem? (i := 434) (by decide +kernel), List.mem_of_getElem? (i := 435) (by decide +kernel)⟩
theorem lw_p20 : lw_okq (⟨"FallingWords$Reduction", "run", "(LFallingWords$Rules;II)V"⟩, 5) := ⟨⟨by decide +kernel, by decide +kernel⟩, List.mem_of_getElem? (i := 134) (by decide +kernel), List.mem_of_getElem? (i := 438) (by decide +kernel), List.mem_of_getElem? (i := 439) (by decide +kernel)⟩
theorem lw_p21 : lw_okq (⟨"FallingWords$Reduction", "firstTimeOf", "(I)I"⟩, 5) := ⟨⟨by decide +kernel, by decide +kernel⟩, List.mem_of_getElem? (i := 134) (by decide +kernel), List.mem_of_getElem? (i := 442) (by decide +kernel), List.mem_of_getElem? (i := 443) (by decide +kernel)⟩
theorem lw_p22 : lw_okq (⟨"FallingWords$Reduction", "countRules", "(LFallingWords$Rules;)V"⟩, 5) := ⟨⟨by decide +kernel, by decide +kernel⟩, List.mem_of_getElem? (i := 134) (by decide +kernel), List.mem_of_getElem? (i := 451) (by decide +kernel), List.mem_of_getElem? (i := 452) (by decide +kernel)⟩
theorem lw_p23 : lw_okq (⟨"FallingWords$Reduction", "last", "()I"⟩, 5) := ⟨⟨by decide +kernel, by decide +kernel⟩, List.mem_of_getElem? (i := 134) (by decide +kernel), List.mem_of_getElem? (i := 455) (by decide +kernel), List.mem_of_getElem? (i := 456) (by decide +kernel)⟩
theorem lw_p24 : lw_okq (⟨"FallingWords$Store", "put", "(II)V"⟩, 3) := ⟨⟨by decide +kernel, by decide +kernel⟩, List.mem_of_getElem? (i := 68) (by decide +kernel), List.mem_of_getElem? (i := 459) (by decide +kernel), List.mem_of_getElem? (i := 460) (by decide +kernel)⟩
theorem lw_p25 : lw_okq (⟨"FallingWords", "ringAnswer", "(I)I"⟩, 8) := ⟨⟨by decide +kernel, by decide +kernel⟩, List.mem_of_getElem? (i := 17) (by decide +kernel), List.mem_of_getElem? (i := 480) (by decide +kernel), List.mem_of_getElem? (i := 481) (by decide +kernel)⟩
theorem lw_p26 : lw_okq (⟨"FallingWords$Reach", "run", "(LFallingWords$Rules;I)V"⟩, 7) := ⟨⟨by decide +kernel, by decide +kernel⟩, List.mem_of_getElem? (i := 162) (by decide +kernel), List.mem_of_getElem? (i := 490) (by decide +kernel), List.mem_of_getElem? (i := 491) (by decide +kernel)⟩
theorem lw_p27 : lw_okq (⟨"FallingWords$Reach", "add", "(I)V"⟩, 7) := ⟨⟨by decide +kernel, by decide +kernel⟩, List.mem_of_getElem? (i := 162) (by decide +kernel), List.mem_of_getElem? (i := 497) (by decide +kernel), List.mem_of_getElem? (i := 498) (by decide +kernel)⟩
theorem lw_p28 : lw_okq (⟨"FallingWords$Reach", "addAllFrom", "(ILFallingWords$Rules;)V"⟩, 7) := ⟨⟨by decide +kernel, by decide +kernel⟩, List.mem_of_getElem? (i := 162) (by decide +kernel), List.mem_of_getElem? (i := 502) (by decide +kernel), List.mem_of_getElem? (i := 503) (by decide +kernel)⟩
theorem lw_p29 : lw_okq (⟨"FallingWords$Reach", "addEnd", "(I)V"⟩, 7) := ⟨⟨by decide +kernel, by decide +kernel⟩, List.mem_of_getElem? (i := 162) (by decide +kernel), List.mem_of_getElem? (i := 509) (by decide +kernel), List.mem_of_getElem? (i := 510) (by decide +kernel)⟩
theorem lw_p30 : lw_okq (⟨"FallingWords$Overlaps", "find", "(LFallingWords$Rules;I)Z"⟩, 6) := ⟨⟨by decide +kernel, by decide +kernel⟩, List.mem_of_getElem? (i := 195) (by decide +kernel), List.mem_of_getElem? (i := 528) (by decide +kernel), List.mem_of_getElem? (i := 529) (by decide +kernel)⟩
theorem lw_p31 : lw_okq (⟨"FallingWords$Overlaps", "isOverlap", "(LFallingWords$Rules;I)Z"⟩, 6) := ⟨⟨by decide +kernel, by decide +kernel⟩, List.mem_of_getElem? (i := 195) (by decide +kernel), List.mem_of_getElem? (i := 532) (by decide +kernel), List.mem_of_getElem? (i := 533) (by decide +kernel)⟩
def lw_privs_2 : List (MethodName × Nat) := [(⟨"FallingWords$State", "reduce", "(LFallingWords$Reduction;)I"⟩, 6), (⟨"FallingWords$Store", "indexOf", "(I)I"⟩, 3), (⟨"FallingWords$Store", "use", "(I)I"⟩, 3), (⟨"FallingWords$Store", "setAhead", "(III)V"⟩, 3), (⟨"FallingWords$Reduction", "run", "(LFallingWords$Rules;II)V"⟩, 5), (⟨"FallingWords$Reduction", "firstTimeOf", "(I)I"⟩, 5), (⟨"FallingWords$Reduction", "countRules", "(LFallingWords$Rules;)V"⟩, 5), (⟨"FallingWords$Reduction", "last", "()I"⟩, 5), (⟨"FallingWords$Store", "put", "(II)V"⟩, 3), (⟨"FallingWords", "ringAnswer", "(I)I"⟩, 8), (⟨"FallingWords$Reach", "run", "(LFallingWords$Rules;I)V"⟩, 7), (⟨"FallingWords$Reach", "add", "(I)V"⟩, 7), (⟨"FallingWords$Reach", "addAllFrom", "(ILFallingWords$Rules;)V"⟩, 7), (⟨"FallingWords$Reach", "addEnd", "(I)V"⟩, 7), (⟨"FallingWords$Overlaps", "find", "(LFallingWords$Rules;I)Z"⟩, 6), (⟨"FallingWords$Overlaps", "isOverlap", "(LFallingWords$Rules;I)Z"⟩, 6)]
theorem lw_r2 : ∀ q ∈ lw_privs_2, lw_okq q := List.forall_mem_cons.mpr ⟨lw_p16, List.forall_mem_cons.mpr ⟨lw_p17, List.forall_mem_cons.mpr ⟨lw_p18, List.forall_mem_cons.mpr ⟨lw_p19, List.forall_mem_cons.mpr ⟨lw_p20, List.forall_mem_cons.mpr ⟨lw_p21, List.forall_mem_cons.mpr ⟨lw_p22, List.forall_mem_cons.mpr ⟨lw_p23, List.forall_mem_cons.mpr ⟨lw_p24, List.forall_mem_cons.mpr ⟨lw_p25, List.forall_mem_cons.mpr ⟨lw_p26, List.forall_mem_cons.mpr ⟨lw_p27, List.forall_mem_cons.mpr ⟨lw_p28, List.forall_mem_cons.mpr ⟨lw_p29, List.forall_mem_cons.mpr ⟨lw_p30, List.forall_mem_cons.mpr ⟨lw_p31, fun _ h => absurd h List.not_mem_nil⟩⟩⟩⟩⟩⟩⟩⟩⟩⟩⟩⟩⟩⟩⟩⟩
theorem lw_p32 : lw_okq (⟨"FallingWords$Overlaps", "coveredWord", "(LFallingWords$Rules;I)I"⟩, 6) := ⟨⟨by decide +kernel, by decide +kernel⟩, List.mem_of_getElem? (i := 195) (by decide +kernel), List.mem_of_getElem? (i := 537) (by decide +kernel), List.mem_of_getElem? (i := 538) (by decide +kernel)⟩
theorem lw_p33 : lw_okq (⟨"FallingWords$Overlaps", "verdict", "(LFallingWords$State;LFallingWords$Reduction;)I"⟩, 6) := ⟨⟨by decide +kernel, by decide +kernel⟩, List.mem_of_getElem? (i := 195) (by decide +kernel), List.mem_of_getElem? (i := 544) (by decide +kernel), List.mem_of_getElem? (i := 545) (by decide +kernel)⟩
theorem lw_p34 : lw_okq (⟨"FallingWords$Overlaps", "firstWord", "(LFallingWords$Rules;)I"⟩, 6) := ⟨⟨by decide +kernel, by decide +kernel⟩, List.mem_of_getElem? (i := 195) (by decide +kernel), List.mem_of_getElem? (i := 548) (by decide +kernel), List.mem_of_getElem? (i := 549) (by decide +kernel)⟩
theorem lw_p35 : lw_okq (⟨"FallingWords$Overlaps", "secondWord", "(LFallingWords$Rules;)I"⟩, 6) := ⟨⟨by decide +kernel, by decide +kernel⟩, List.mem_of_getElem? (i := 195) (by decide +kernel), List.mem_of_getElem? (i := 555) (by decide +kernel), List.mem_of_getElem? (i := 556) (by decide +kernel)⟩
theorem lw_p36 : lw_okq (⟨"FallingWords$Overlaps", "findParting", "(LFallingWords$State;LFallingWords$Reduction;)Z"⟩, 6) := ⟨⟨by decide +kernel, by decide +kernel⟩, List.mem_of_getElem? (i := 195) (by decide +kernel), List.mem_of_getElem? (i := 565) (by decide +kernel), List.mem_of_getElem? (i := 566) (by decide +kernel)⟩
theorem lw_p37 : lw_okq (⟨"FallingWords$Rules", "isFull", "()Z"⟩, 6) := ⟨⟨by decide +kernel, by decide +kernel⟩, List.mem_of_getElem? (i := 31) (by decide +kernel), List.mem_of_getElem? (i := 572) (by decide +kernel), List.mem_of_getElem? (i := 573) (by decide +kernel)⟩
theorem lw_p38 : lw_okq (⟨"FallingWords$State", "addRule", "(II)V"⟩, 6) := ⟨⟨by decide +kernel, by decide +kernel⟩, List.mem_of_getElem? (i := 25) (by decide +kernel), List.mem_of_getElem? (i := 576) (by decide +kernel), List.mem_of_getElem? (i := 577) (by decide +kernel)⟩
theorem lw_p39 : lw_okq (⟨"FallingWords$Rules", "add", "(II)V"⟩, 6) := ⟨⟨by decide +kernel, by decide +kernel⟩, List.mem_of_getElem? (i := 31) (by decide +kernel), List.mem_of_getElem? (i := 580) (by decide +kernel), List.mem_of_getElem? (i := 581) (by decide +kernel)⟩
theorem lw_p40 : lw_okq (⟨"FallingWords$Overlaps", "howMany", "(LFallingWords$Rules;)I"⟩, 6) := ⟨⟨by decide +kernel, by decide +kernel⟩, List.mem_of_getElem? (i := 195) (by decide +kernel), List.mem_of_getElem? (i := 589) (by decide +kernel), List.mem_of_getElem? (i := 590) (by decide +kernel)⟩
theorem lw_p41 : lw_okq (⟨"FallingWords$Overlaps", "howManyAre", "(ILFallingWords$State;LFallingWords$Reduction;)I"⟩, 6) := ⟨⟨by decide +kernel, by decide +kernel⟩, List.mem_of_getElem? (i := 195) (by decide +kernel), List.mem_of_getElem? (i := 593) (by decide +kernel), List.mem_of_getElem? (i := 594) (by decide +kernel)⟩
theorem lw_p42 : lw_okq (⟨"FallingWords$History", "restoreTo", "(LFallingWords$State;)V"⟩, 2) := ⟨⟨by decide +kernel, by decide +kernel⟩, List.mem_of_getElem? (i := 117) (by decide +kernel), List.mem_of_getElem? (i := 602) (by decide +kernel), List.mem_of_getElem? (i := 603) (by decide +kernel)⟩
theorem lw_p43 : lw_okq (⟨"FallingWords$Text", "isFull", "()Z"⟩, 7) := ⟨⟨by decide +kernel, by decide +kernel⟩, List.mem_of_getElem? (i := 226) (by decide +kernel), List.mem_of_getElem? (i := 610) (by decide +kernel), List.mem_of_getElem? (i := 611) (by decide +kernel)⟩
theorem lw_p44 : lw_okq (⟨"FallingWords$Text", "append", "(I)V"⟩, 7) := ⟨⟨by decide +kernel, by decide +kernel⟩, List.mem_of_getElem? (i := 226) (by decide +kernel), List.mem_of_getElem? (i := 614) (by decide +kernel), List.mem_of_getElem? (i := 615) (by decide +kernel)⟩
theorem lw_p45 : lw_okq (⟨"FallingWords$Script", "run", "(LFallingWords$Text;LFallingWords$State;LFallingWords$Reduction;)V"⟩, 4) := ⟨⟨by decide +kernel, by decide +kernel⟩, List.mem_of_getElem? (i := 262) (by decide +kernel), List.mem_of_getElem? (i := 627) (by decide +kernel), List.mem_of_getElem? (i := 628) (by decide +kernel)⟩
theorem lw_p46 : lw_okq (⟨"FallingWords$Text", "readCommand", "(I)Z"⟩, 7) := ⟨⟨by decide +kernel, by decide +kernel⟩, List.mem_of_getElem? (i := 226) (by decide +kernel), List.mem_of_getElem? (i := 631) (by decide +kernel), List.mem_of_getElem? (i := 632) (by decide +kernel)⟩
theorem lw_p47 : lw_okq (⟨"FallingWords$Text", "here", "()I"⟩, 7) := ⟨⟨by decide +kernel, by decide +kernel⟩, List.mem_of_getElem? (i := 226) (by decide +kernel), List.mem_of_getElem? (i := 635) (by decide +kernel), List.mem_of_getElem? (i := 636) (by decide +kernel)⟩
def lw_privs_3 : List (MethodName × Nat) := [(⟨"FallingWords$Overlaps", "coveredWord", "(LFallingWords$Rules;I)I"⟩, 6), (⟨"FallingWords$Overlaps", "verdict", "(LFallingWords$State;LFallingWords$Reduction;)I"⟩, 6), (⟨"FallingWords$Overlaps", "firstWord", "(LFallingWords$Rules;)I"⟩, 6), (⟨"FallingWords$Overlaps", "secondWord", "(LFallingWords$Rules;)I"⟩, 6), (⟨"FallingWords$Overlaps", "findParting", "(LFallingWords$State;LFallingWords$Reduction;)Z"⟩, 6), (⟨"FallingWords$Rules", "isFull", "()Z"⟩, 6), (⟨"FallingWords$State", "addRule", "(II)V"⟩, 6), (⟨"FallingWords$Rules", "add", "(II)V"⟩, 6), (⟨"FallingWords$Overlaps", "howMany", "(LFallingWords$Rules;)I"⟩, 6), (⟨"FallingWords$Overlaps", "howManyAre", "(ILFallingWords$State;LFallingWords$Reduction;)I"⟩, 6), (⟨"FallingWords$History", "restoreTo", "(LFallingWords$State;)V"⟩, 2), (⟨"FallingWords$Text", "isFull", "()Z"⟩, 7), (⟨"FallingWords$Text", "append", "(I)V"⟩, 7), (⟨"FallingWords$Script", "run", "(LFallingWords$Text;LFallingWords$State;LFallingWords$Reduction;)V"⟩, 4), (⟨"FallingWords$Text", "readCommand", "(I)Z"⟩, 7), (⟨"FallingWords$Text", "here", "()I"⟩, 7)]
theorem lw_r3 : ∀ q ∈ lw_privs_3, lw_okq q := List.forall_mem_cons.mpr ⟨lw_p32, List.forall_mem_cons.mpr ⟨lw_p33, List.forall_mem_cons.mpr ⟨lw_p34, List.forall_mem_cons.mpr ⟨lw_p35, List.forall_mem_cons.mpr ⟨lw_p36, List.forall_mem_cons.mpr ⟨lw_p37, List.forall_mem_cons.mpr ⟨lw_p38, List.forall_mem_cons.mpr ⟨lw_p39, List.forall_mem_cons.mpr ⟨lw_p40, List.forall_mem_cons.mpr ⟨lw_p41, List.forall_mem_cons.mpr ⟨lw_p42, List.forall_mem_cons.mpr ⟨lw_p43, List.forall_mem_cons.mpr ⟨lw_p44, List.forall_mem_cons.mpr ⟨lw_p45, List.forall_mem_cons.mpr ⟨lw_p46, List.forall_mem_cons.mpr ⟨lw_p47, fun _ h => absurd h List.not_mem_nil⟩⟩⟩⟩⟩⟩⟩⟩⟩⟩⟩⟩⟩⟩⟩⟩
theorem lw_p48 : lw_okq (⟨"FallingWords$Text", "readWord", "()I"⟩, 7) := ⟨⟨by decide +kernel, by decide +kernel⟩, List.mem_of_getElem? (i := 226) (by decide +kernel), List.mem_of_getElem? (i := 639) (by decide +kernel), List.mem_of_getElem? (i := 640) (by decide +kernel)⟩
theorem lw_p49 : lw_okq (⟨"FallingWords$Text", "passes", "(I)Z"⟩, 7) := ⟨⟨by decide +kernel, by decide +kernel⟩, List.mem_of_getElem? (i := 226) (by decide +kernel), List.mem_of_getElem? (i := 646) (by decide +kernel), List.mem_of_getElem? (i := 647) (by decide +kernel)⟩
theorem lw_p50 : lw_okq (⟨"FallingWords$Text", "readDigit", "()Z"⟩, 7) := ⟨⟨by decide +kernel, by decide +kernel⟩, List.mem_of_getElem? (i := 226) (by decide +kernel), List.mem_of_getElem? (i := 650) (by decide +kernel), List.mem_of_getElem? (i := 651) (by decide +kernel)⟩
theorem lw_p51 : lw_okq (⟨"FallingWords$Script", "perform", "(LFallingWords$Text;LFallingWords$State;LFallingWords$Reduction;)V"⟩, 4) := ⟨⟨by decide +kernel, by decide +kernel⟩, List.mem_of_getElem? (i := 262) (by decide +kernel), List.mem_of_getElem? (i := 654) (by decide +kernel), List.mem_of_getElem? (i := 655) (by decide +kernel)⟩
theorem lw_p52 : lw_okq (⟨"FallingWords$Script", "addRule", "(IILFallingWords$State;)V"⟩, 4) := ⟨⟨by decide +kernel, by decide +kernel⟩, List.mem_of_getElem? (i := 262) (by decide +kernel), List.mem_of_getElem? (i := 658) (by decide +kernel), List.mem_of_getElem? (i := 659) (by decide +kernel)⟩
theorem lw_p53 : lw_okq (⟨"FallingWords$Script", "failWith", "(II)V"⟩, 4) := ⟨⟨by decide +kernel, by decide +kernel⟩, List.mem_of_getElem? (i := 262) (by decide +kernel), List.mem_of_getElem? (i := 663) (by decide +kernel), List.mem_of_getElem? (i := 664) (by decide +kernel)⟩
theorem lw_p54 : lw_okq (⟨"FallingWords$Rules", "hasSides", "(II)Z"⟩, 6) := ⟨⟨by decide +kernel, by decide +kernel⟩, List.mem_of_getElem? (i := 31) (by decide +kernel), List.mem_of_getElem? (i := 667) (by decide +kernel), List.mem_of_getElem? (i := 668) (by decide +kernel)⟩
theorem lw_p55 : lw_okq (⟨"FallingWords$Script", "removeRule", "(ILFallingWords$State;)V"⟩, 4) := ⟨⟨by decide +kernel, by decide +kernel⟩, List.mem_of_getElem? (i := 262) (by decide +kernel), List.mem_of_getElem? (i := 673) (by decide +kernel), List.mem_of_getElem? (i := 674) (by decide +kernel)⟩
theorem lw_p56 : lw_okq (⟨"FallingWords$Script", "setWord", "(ILFallingWords$State;)V"⟩, 4) := ⟨⟨by decide +kernel, by decide +kernel⟩, List.mem_of_getElem? (i := 262) (by decide +kernel), List.mem_of_getElem? (i := 679) (by decide +kernel), List.mem_of_getElem? (i := 680) (by decide +kernel)⟩
theorem lw_p57 : lw_okq (⟨"FallingWords$Script", "setChoosing", "(ILFallingWords$State;)V"⟩, 4) := ⟨⟨by decide +kernel, by decide +kernel⟩, List.mem_of_getElem? (i := 262) (by decide +kernel), List.mem_of_getElem? (i := 685) (by decide +kernel), List.mem_of_getElem? (i := 686) (by decide +kernel)⟩
theorem lw_p58 : lw_okq (⟨"FallingWordsModel", "keeps", "()V"⟩, 27) := ⟨⟨by decide +kernel, by decide +kernel⟩, List.mem_of_getElem? (i := 694) (by decide +kernel), List.mem_of_getElem? (i := 786) (by decide +kernel), List.mem_of_getElem? (i := 787) (by decide +kernel)⟩
theorem lw_p59 : lw_okq (⟨"FallingWordsModel", "drops", "(I)I"⟩, 27) := ⟨⟨by decide +kernel, by decide +kernel⟩, List.mem_of_getElem? (i := 694) (by decide +kernel), List.mem_of_getElem? (i := 790) (by decide +kernel), List.mem_of_getElem? (i := 791) (by decide +kernel)⟩
theorem lw_p60 : lw_okq (⟨"FallingWordsModel", "isRule", "(I)Z"⟩, 27) := ⟨⟨by decide +kernel, by decide +kernel⟩, List.mem_of_getElem? (i := 694) (by decide +kernel), List.mem_of_getElem? (i := 794) (by decide +kernel), List.mem_of_getElem? (i := 795) (by decide +kernel)⟩
theorem lw_p61 : lw_okq (⟨"FallingWordsModel", "acted", "(I)I"⟩, 27) := ⟨⟨by decide +kernel, by decide +kernel⟩, List.mem_of_getElem? (i := 694) (by decide +kernel), List.mem_of_getElem? (i := 802) (by decide +kernel), List.mem_of_getElem? (i := 803) (by decide +kernel)⟩
theorem lw_p62 : lw_okq (⟨"FallingWordsModel", "goes", "(I)I"⟩, 27) := ⟨⟨by decide +kernel, by decide +kernel⟩, List.mem_of_getElem? (i := 694) (by decide +kernel), List.mem_of_getElem? (i := 810) (by decide +kernel), List.mem_of_getElem? (i := 811) (by decide +kernel)⟩
theorem lw_p63 : lw_okq (⟨"FallingWordsModel", "left", "(I)I"⟩, 27) := ⟨⟨by decide +kernel, by decide +kernel⟩, List.mem_of_getElem? (i := 694) (by decide +kernel), List.mem_of_getElem? (i := 818) (by decide +kernel), List.mem_of_getElem? (i := 819) (by decide +kernel)⟩
def lw_privs_4 : List (MethodName × Nat) := [(⟨"FallingWords$Text", "readWord", "()I"⟩, 7), (⟨"FallingWords$Text", "passes", "(I)Z"⟩, 7), (⟨"FallingWords$Text", "readDigit", "()Z"⟩, 7), (⟨"FallingWords$Script", "perform", "(LFallingWords$Text;LFallingWords$State;LFallingWords$Reduction;)V"⟩, 4), (⟨"FallingWords$Script", "addRule", "(IILFallingWords$State;)V"⟩, 4), (⟨"FallingWords$Script", "failWith", "(II)V"⟩, 4), (⟨"FallingWords$Rules", "hasSides", "(II)Z"⟩, 6), (⟨"FallingWords$Script", "removeRule", "(ILFallingWords$State;)V"⟩, 4), (⟨"FallingWords$Script", "setWord", "(ILFallingWords$State;)V"⟩, 4), (⟨"FallingWords$Script", "setChoosing", "(ILFallingWords$State;)V"⟩, 4), (⟨"FallingWordsModel", "keeps", "()V"⟩, 27), (⟨"FallingWordsModel", "drops", "(I)I"⟩, 27), (⟨"FallingWordsModel", "isRule", "(I)Z"⟩, 27), (⟨"FallingWordsModel", "acted", "(I)I"⟩, 27), (⟨"FallingWordsModel", "goes", "(I)I"⟩, 27), (⟨"FallingWordsModel", "left", "(I)I"⟩, 27)]
theorem lw_r4 : ∀ q ∈ lw_privs_4, lw_okq q := List.forall_mem_cons.mpr ⟨lw_p48, List.forall_mem_cons.mpr ⟨lw_p49, List.forall_mem_cons.mpr ⟨lw_p50, List.forall_mem_cons.mpr ⟨lw_p51, List.forall_mem_cons.mpr ⟨lw_p52, List.forall_mem_cons.mpr ⟨lw_p53, List.forall_mem_cons.mpr ⟨lw_p54, List.forall_mem_cons.mpr ⟨lw_p55, List.forall_mem_cons.mpr ⟨lw_p56, List.forall_mem_cons.mpr ⟨lw_p57, List.forall_mem_cons.mpr ⟨lw_p58, List.forall_mem_cons.mpr ⟨lw_p59, List.forall_mem_cons.mpr ⟨lw_p60, List.forall_mem_cons.mpr ⟨lw_p61, List.forall_mem_cons.mpr ⟨lw_p62, List.forall_mem_cons.mpr ⟨lw_p63, fun _ h => absurd h List.not_mem_nil⟩⟩⟩⟩⟩⟩⟩⟩⟩⟩⟩⟩⟩⟩⟩⟩
theorem lw_p64 : lw_okq (⟨"FallingWordsModel", "right", "(I)I"⟩, 27) := ⟨⟨by decide +kernel, by decide +kernel⟩, List.mem_of_getElem? (i := 694) (by decide +kernel), List.mem_of_getElem? (i := 825) (by decide +kernel), List.mem_of_getElem? (i := 826) (by decide +kernel)⟩
theorem lw_p65 : lw_okq (⟨"FallingWordsModel", "places", "(I)I"⟩, 27) := ⟨⟨by decide +kernel, by decide +kernel⟩, List.mem_of_getElem? (i := 694) (by decide +kernel), List.mem_of_getElem? (i := 829) (by decide +kernel), List.mem_of_getElem? (i := 830) (by decide +kernel)⟩
theorem lw_p66 : lw_okq (⟨"FallingWordsModel", "steps", "()I"⟩, 27) := ⟨⟨by decide +kernel, by decide +kernel⟩, List.mem_of_getElem? (i := 694) (by decide +kernel), List.mem_of_getElem? (i := 847) (by decide +kernel), List.mem_of_getElem? (i := 848) (by decide +kernel)⟩
theorem lw_p67 : lw_okq (⟨"FallingWordsModel", "chooses", "(I)Z"⟩, 27) := ⟨⟨by decide +kernel, by decide +kernel⟩, List.mem_of_getElem? (i := 694) (by decide +kernel), List.mem_of_getElem? (i := 851) (by decide +kernel), List.mem_of_getElem? (i := 852) (by decide +kernel)⟩
theorem lw_p68 : lw_okq (⟨"FallingWordsModel", "applied", "(III)I"⟩, 27) := ⟨⟨by decide +kernel, by decide +kernel⟩, List.mem_of_getElem? (i := 694) (by decide +kernel), List.mem_of_getElem? (i := 856) (by decide +kernel), List.mem_of_getElem? (i := 857) (by decide +kernel)⟩
theorem lw_p69 : lw_okq (⟨"FallingWordsModel", "normals", "()I"⟩, 27) := ⟨⟨by decide +kernel, by decide +kernel⟩, List.mem_of_getElem? (i := 694) (by decide +kernel), List.mem_of_getElem? (i := 864) (by decide +kernel), List.mem_of_getElem? (i := 865) (by decide +kernel)⟩
theorem lw_p70 : lw_okq (⟨"FallingWordsModel", "comesFirst", "(III)V"⟩, 27) := ⟨⟨by decide +kernel, by decide +kernel⟩, List.mem_of_getElem? (i := 694) (by decide +kernel), List.mem_of_getElem? (i := 868) (by decide +kernel), List.mem_of_getElem? (i := 869) (by decide +kernel)⟩
theorem lw_p71 : lw_okq (⟨"FallingWordsModel", "reduces", "(I)I"⟩, 27) := ⟨⟨by decide +kernel, by decide +kernel⟩, List.mem_of_getElem? (i := 694) (by decide +kernel), List.mem_of_getElem? (i := 872) (by decide +kernel), List.mem_of_getElem? (i := 873) (by decide +kernel)⟩
theorem lw_p72 : lw_okq (⟨"FallingWordsModel", "reachesAll", "()V"⟩, 27) := ⟨⟨by decide +kernel, by decide +kernel⟩, List.mem_of_getElem? (i := 694) (by decide +kernel), List.mem_of_getElem? (i := 893) (by decide +kernel), List.mem_of_getElem? (i := 894) (by decide +kernel)⟩
theorem lw_p73 : lw_okq (⟨"FallingWordsModel", "reaches", "(I)V"⟩, 27) := ⟨⟨by decide +kernel, by decide +kernel⟩, List.mem_of_getElem? (i := 694) (by decide +kernel), List.mem_of_getElem? (i := 897) (by decide +kernel), List.mem_of_getElem? (i := 898) (by decide +kernel)⟩
theorem lw_p74 : lw_okq (⟨"FallingWordsModel", "ends", "()I"⟩, 27) := ⟨⟨by decide +kernel, by decide +kernel⟩, List.mem_of_getElem? (i := 694) (by decide +kernel), List.mem_of_getElem? (i := 901) (by decide +kernel), List.mem_of_getElem? (i := 902) (by decide +kernel)⟩
theorem lw_p75 : lw_okq (⟨"FallingWordsModel", "end", "(Z)I"⟩, 27) := ⟨⟨by decide +kernel, by decide +kernel⟩, List.mem_of_getElem? (i := 694) (by decide +kernel), List.mem_of_getElem? (i := 905) (by decide +kernel), List.mem_of_getElem? (i := 906) (by decide +kernel)⟩
theorem lw_p76 : lw_okq (⟨"FallingWordsModel", "finds", "(II)I"⟩, 27) := ⟨⟨by decide +kernel, by decide +kernel⟩, List.mem_of_getElem? (i := 694) (by decide +kernel), List.mem_of_getElem? (i := 917) (by decide +kernel), List.mem_of_getElem? (i := 918) (by decide +kernel)⟩
theorem lw_p77 : lw_okq (⟨"FallingWordsModel", "isOverlap", "(III)Z"⟩, 27) := ⟨⟨by decide +kernel, by decide +kernel⟩, List.mem_of_getElem? (i := 694) (by decide +kernel), List.mem_of_getElem? (i := 921) (by decide +kernel), List.mem_of_getElem? (i := 922) (by decide +kernel)⟩
theorem lw_p78 : lw_okq (⟨"FallingWordsModel", "lays", "(III)V"⟩, 27) := ⟨⟨by decide +kernel, by decide +kernel⟩, List.mem_of_getElem? (i := 694) (by decide +kernel), List.mem_of_getElem? (i := 925) (by decide +kernel), List.mem_of_getElem? (i := 926) (by decide +kernel)⟩
theorem lw_p79 : lw_okq (⟨"FallingWordsModel", "parts", "()I"⟩, 27) := ⟨⟨by decide +kernel, by decide +kernel⟩, List.mem_of_getElem? (i := 694) (by decide +kernel), List.mem_of_getElem? (i := 929) (by decide +kernel), List.mem_of_getElem? (i := 930) (by decide +kernel)⟩
def lw_privs_5 : List (MethodName × Nat) := [(⟨"FallingWordsModel", "right", "(I)I"⟩, 27), (⟨"FallingWordsModel", "places", "(I)I"⟩, 27), (⟨"FallingWordsModel", "steps", "()I"⟩, 27), (⟨"FallingWordsModel", "chooses", "(I)Z"⟩, 27), (⟨"FallingWordsModel", "applied", "(III)I"⟩, 27), (⟨"FallingWordsModel", "normals", "()I"⟩, 27), (⟨"FallingWordsModel", "comesFirst", "(III)V"⟩, 27), (⟨"FallingWordsModel", "reduces", "(I)I"⟩, 27), (⟨"FallingWordsModel", "reachesAll", "()V"⟩, 27), (⟨"FallingWordsModel", "reaches", "(I)V"⟩, 27), (⟨"FallingWordsModel", "ends", "()I"⟩, 27), (⟨"FallingWordsModel", "end", "(Z)I"⟩, 27), (⟨"FallingWordsModel", "finds", "(II)I"⟩, 27), (⟨"FallingWordsModel", "isOverlap", "(III)Z"⟩, 27), (⟨"FallingWordsModel", "lays", "(III)V"⟩, 27), (⟨"FallingWordsModel", "parts", "()I"⟩, 27)]
theorem lw_r5 : ∀ q ∈ lw_privs_5, lw_okq q := List.forall_mem_cons.mpr ⟨lw_p64, List.forall_mem_cons.mpr ⟨lw_p65, List.forall_mem_cons.mpr ⟨lw_p66, List.forall_mem_cons.mpr ⟨lw_p67, List.forall_mem_cons.mpr ⟨lw_p68, List.forall_mem_cons.mpr ⟨lw_p69, List.forall_mem_cons.mpr ⟨lw_p70, List.forall_mem_cons.mpr ⟨lw_p71, List.forall_mem_cons.mpr ⟨lw_p72, List.forall_mem_cons.mpr ⟨lw_p73, List.forall_mem_cons.mpr ⟨lw_p74, List.forall_mem_cons.mpr ⟨lw_p75, List.forall_mem_cons.mpr ⟨lw_p76, List.forall_mem_cons.mpr ⟨lw_p77, List.forall_mem_cons.mpr ⟨lw_p78, List.forall_mem_cons.mpr ⟨lw_p79, fun _ h => absurd h List.not_mem_nil⟩⟩⟩⟩⟩⟩⟩⟩⟩⟩⟩⟩⟩⟩⟩⟩
theorem lw_p80 : lw_okq (⟨"FallingWordsModel", "completes", "(I)I"⟩, 27) := ⟨⟨by decide +kernel, by decide +kernel⟩, List.mem_of_getElem? (i := 694) (by decide +kernel), List.mem_of_getElem? (i := 937) (by decide +kernel), List.mem_of_getElem? (i := 938) (by decide +kernel)⟩
theorem lw_p81 : lw_okq (⟨"FallingWordsModel", "adds", "(II)V"⟩, 27) := ⟨⟨by decide +kernel, by decide +kernel⟩, List.mem_of_getElem? (i := 694) (by decide +kernel), List.mem_of_getElem? (i := 941) (by decide +kernel), List.mem_of_getElem? (i := 942) (by decide +kernel)⟩
theorem lw_p82 : lw_okq (⟨"FallingWordsModel", "faulty", "()I"⟩, 27) := ⟨⟨by decide +kernel, by decide +kernel⟩, List.mem_of_getElem? (i := 694) (by decide +kernel), List.mem_of_getElem? (i := 965) (by decide +kernel), List.mem_of_getElem? (i := 966) (by decide +kernel)⟩
theorem lw_p83 : lw_okq (⟨"FallingWordsModel", "doesNext", "()I"⟩, 27) := ⟨⟨by decide +kernel, by decide +kernel⟩, List.mem_of_getElem? (i := 694) (by decide +kernel), List.mem_of_getElem? (i := 969) (by decide +kernel), List.mem_of_getElem? (i := 970) (by decide +kernel)⟩
theorem lw_p84 : lw_okq (⟨"FallingWordsModel", "sign", "()I"⟩, 27) := ⟨⟨by decide +kernel, by decide +kernel⟩, List.mem_of_getElem? (i := 694) (by decide +kernel), List.mem_of_getElem? (i := 973) (by decide +kernel), List.mem_of_getElem? (i := 974) (by decide +kernel)⟩
theorem lw_p85 : lw_okq (⟨"FallingWordsModel", "readsRule", "(I)I"⟩, 27) := ⟨⟨by decide +kernel, by decide +kernel⟩, List.mem_of_getElem? (i := 694) (by decide +kernel), List.mem_of_getElem? (i := 977) (by decide +kernel), List.mem_of_getElem? (i := 978) (by decide +kernel)⟩
theorem lw_p86 : lw_okq (⟨"FallingWordsModel", "readsWord", "()V"⟩, 27) := ⟨⟨by decide +kernel, by decide +kernel⟩, List.mem_of_getElem? (i := 694) (by decide +kernel), List.mem_of_getElem? (i := 981) (by decide +kernel), List.mem_of_getElem? (i := 982) (by decide +kernel)⟩
theorem lw_p87 : lw_okq (⟨"FallingWordsModel", "takes", "(C)Z"⟩, 27) := ⟨⟨by decide +kernel, by decide +kernel⟩, List.mem_of_getElem? (i := 694) (by decide +kernel), List.mem_of_getElem? (i := 985) (by decide +kernel), List.mem_of_getElem? (i := 986) (by decide +kernel)⟩
theorem lw_p88 : lw_okq (⟨"FallingWordsModel", "says", "(II)I"⟩, 27) := ⟨⟨by decide +kernel, by decide +kernel⟩, List.mem_of_getElem? (i := 694) (by decide +kernel), List.mem_of_getElem? (i := 989) (by decide +kernel), List.mem_of_getElem? (i := 990) (by decide +kernel)⟩
theorem lw_p89 : lw_okq (⟨"FallingWordsModel", "readsDigit", "(IZ)I"⟩, 27) := ⟨⟨by decide +kernel, by decide +kernel⟩, List.mem_of_getElem? (i := 694) (by decide +kernel), List.mem_of_getElem? (i := 993) (by decide +kernel), List.mem_of_getElem? (i := 994) (by decide +kernel)⟩
theorem lw_p90 : lw_okq (⟨"FallingWordsModel", "readsSet", "(I)I"⟩, 27) := ⟨⟨by decide +kernel, by decide +kernel⟩, List.mem_of_getElem? (i := 694) (by decide +kernel), List.mem_of_getElem? (i := 997) (by decide +kernel), List.mem_of_getElem? (i := 998) (by decide +kernel)⟩
theorem lw_p91 : lw_okq (⟨"FallingWordsModel", "readsDeed", "(IZ)I"⟩, 27) := ⟨⟨by decide +kernel, by decide +kernel⟩, List.mem_of_getElem? (i := 694) (by decide +kernel), List.mem_of_getElem? (i := 1001) (by decide +kernel), List.mem_of_getElem? (i := 1002) (by decide +kernel)⟩
def lw_privs_6 : List (MethodName × Nat) := [(⟨"FallingWordsModel", "completes", "(I)I"⟩, 27), (⟨"FallingWordsModel", "adds", "(II)V"⟩, 27), (⟨"FallingWordsModel", "faulty", "()I"⟩, 27), (⟨"FallingWordsModel", "doesNext", "()I"⟩, 27), (⟨"FallingWordsModel", "sign", "()I"⟩, 27), (⟨"FallingWordsModel", "readsRule", "(I)I"⟩, 27), (⟨"FallingWordsModel", "readsWord", "()V"⟩, 27), (⟨"FallingWordsModel", "takes", "(C)Z"⟩, 27), (⟨"FallingWordsModel", "says", "(II)I"⟩, 27), (⟨"FallingWordsModel", "readsDigit", "(IZ)I"⟩, 27), (⟨"FallingWordsModel", "readsSet", "(I)I"⟩, 27), (⟨"FallingWordsModel", "readsDeed", "(IZ)I"⟩, 27)]
theorem lw_r6 : ∀ q ∈ lw_privs_6, lw_okq q := List.forall_mem_cons.mpr ⟨lw_p80, List.forall_mem_cons.mpr ⟨lw_p81, List.forall_mem_cons.mpr ⟨lw_p82, List.forall_mem_cons.mpr ⟨lw_p83, List.forall_mem_cons.mpr ⟨lw_p84, List.forall_mem_cons.mpr ⟨lw_p85, List.forall_mem_cons.mpr ⟨lw_p86, List.forall_mem_cons.mpr ⟨lw_p87, List.forall_mem_cons.mpr ⟨lw_p88, List.forall_mem_cons.mpr ⟨lw_p89, List.forall_mem_cons.mpr ⟨lw_p90, List.forall_mem_cons.mpr ⟨lw_p91, fun _ h => absurd h List.not_mem_nil⟩⟩⟩⟩⟩⟩⟩⟩⟩⟩⟩⟩
def lw_privs : List (MethodName × Nat) := lw_privs_1 ++ (lw_privs_2 ++ (lw_privs_3 ++ (lw_privs_4 ++ (lw_privs_5 ++ (lw_privs_6)))))
def lw_tbl : List Cond := k2_sels lw_privs ++ tables_1
theorem lw_privs_ok : ∀ q ∈ lw_privs, lw_okq q := by
  show ∀ q ∈ lw_privs_1 ++ (lw_privs_2 ++ (lw_privs_3 ++ (lw_privs_4 ++ (lw_privs_5 ++ (lw_privs_6))))), lw_okq q
  exact List.forall_mem_append.mpr ⟨lw_r1, List.forall_mem_append.mpr ⟨lw_r2, List.forall_mem_append.mpr ⟨lw_r3, List.forall_mem_append.mpr ⟨lw_r4, List.forall_mem_append.mpr ⟨lw_r5, lw_r6⟩⟩⟩⟩⟩
-- ===== end of PART A; then your names; then what follows =====
end
section
/-! ===== BEGIN words of one list among another's, by their places ===== -/
theorem goodIn_r {big : List Cond} (ws : List Cond) (ps : List Nat) (hp : ws = ps.filterMap (fun i => big[i]?)) (h : ws.all goodWord = true) : GoodIn big ws := by
  intro w hw
  have h1 := List.all_eq_true.mp h w hw
  rw [hp] at hw
  obtain ⟨i, -, hi⟩ := List.mem_filterMap.mp hw
  have hm : w ∈ big := by first | exact List.mem_of_getElem? hi | exact List.getElem?_mem hi
  exact ⟨hm, good_of_word h1⟩
theorem goodIn_app {big a b : List Cond} (ha : GoodIn big a) (hb : GoodIn big b) : GoodIn big (a ++ b) := fun w h => (List.mem_append.mp h).elim (ha w) (hb w)
theorem goodIn_ca {big a b : List Cond} {c : Cond} (ha : GoodIn big (c :: a)) (hb : GoodIn big b) : GoodIn big (c :: (a ++ b)) := fun w h => (List.mem_cons.mp h).elim (fun e => ha w (List.mem_cons.mpr (Or.inl e))) (fun h => (List.mem_append.mp h).elim (fun h => ha w (List.mem_cons.mpr (Or.inr h))) (hb w))
theorem goodIn_sub {big ws : List Cond} (hm : ∀ w ∈ ws, w ∈ big) (h : ws.all goodWord = true) : GoodIn big ws := fun w hw => ⟨hm w hw, good_of_word (List.all_eq_true.mp h w hw)⟩
/-! ===== END ===== -/

/-! ===== BEGIN printed: names, fields, word lists, decode rows ===== -/
def RX0 : String := "FallingWords$History"
def TX0 : u_T := fun k => match k with
  | 0 => ("FallingWords$History", "states", "[LFallingWords$State;", true)
  | _ => ("FallingWords$History", "size", "I", false)
def tyX0 : Nat → FieldType := fun k => match k with
  | 0 => .array (.object "FallingWords$State")
  | _ => .int
abbrev wsX00 : List Cond := u_ws RX0 TX0 2
theorem nmX0 : ∀ a, a < 2 → ∀ b, b < 2 → a ≠ b → (TX0 a).2.1 ≠ (TX0 b).2.1 := by decide +kernel
theorem tyX0_ok : ∀ k, k < 2 → parseFieldDescriptor (TX0 k).2.2.1 = some (tyX0 k) := by decide +kernel
abbrev cX0_init : ByteArray := prog_2_method_1_code
def yX0_init : MethodName := ⟨RX0, "<init>", "()V"⟩
abbrev cX0_keep : ByteArray := prog_2_method_2_code
def yX0_keep : MethodName := ⟨RX0, "keep", "(LFallingWords$State;)V"⟩
abbrev cX0_forgetOldest : ByteArray := prog_2_method_3_code
def yX0_forgetOldest : MethodName := ⟨RX0, "forgetOldest", "()V"⟩
abbrev cX0_restoreTo : ByteArray := prog_2_method_4_code
def yX0_restoreTo : MethodName := ⟨RX0, "restoreTo", "(LFallingWords$State;)V"⟩
def RX1 : String := "FallingWords$Overlaps"
def TX1 : u_T := fun k => match k with
  | 0 => ("FallingWords$Overlaps", "first", "I", false)
  | 1 => ("FallingWords$Overlaps", "second", "I", false)
  | 2 => ("FallingWords$Overlaps", "place", "I", false)
  | 3 => ("FallingWords$Overlaps", "word", "I", false)
  | 4 => ("FallingWords$Overlaps", "firstNormal", "I", false)
  | _ => ("FallingWords$Overlaps", "secondNormal", "I", false)
def tyX1 : Nat → FieldType := fun k => match k with
  | 0 => .int
  | 1 => .int
  | 2 => .int
  | 3 => .int
  | 4 => .int
  | _ => .int
abbrev wsX10 : List Cond := u_ws RX1 TX1 6
theorem nmX1 : ∀ a, a < 6 → ∀ b, b < 6 → a ≠ b → (TX1 a).2.1 ≠ (TX1 b).2.1 := by decide +kernel
theorem tyX1_ok : ∀ k, k < 6 → parseFieldDescriptor (TX1 k).2.2.1 = some (tyX1 k) := by decide +kernel
abbrev cX1_init : ByteArray := prog_3_method_1_code
def yX1_init : MethodName := ⟨RX1, "<init>", "()V"⟩
abbrev cX1_find : ByteArray := prog_3_method_2_code
def yX1_find : MethodName := ⟨RX1, "find", "(LFallingWords$Rules;I)Z"⟩
abbrev cX1_findParting : ByteArray := prog_3_method_3_code
def yX1_findParting : MethodName := ⟨RX1, "findParting", "(LFallingWords$State;LFallingWords$Reduction;)Z"⟩
abbrev cX1_howMany : ByteArray := prog_3_method_4_code
def yX1_howMany : MethodName := ⟨RX1, "howMany", "(LFallingWords$Rules;)I"⟩
abbrev cX1_howManyAre : ByteArray := prog_3_method_5_code
def yX1_howManyAre : MethodName := ⟨RX1, "howManyAre", "(ILFallingWords$State;LFallingWords$Reduction;)I"⟩
abbrev cX1_isOverlap : ByteArray := prog_3_method_6_code
def yX1_isOverlap : MethodName := ⟨RX1, "isOverlap", "(LFallingWords$Rules;I)Z"⟩
abbrev cX1_coveredWord : ByteArray := prog_3_method_7_code
def yX1_coveredWord : MethodName := ⟨RX1, "coveredWord", "(LFallingWords$Rules;I)I"⟩
abbrev cX1_firstWord : ByteArray := prog_3_method_8_code
def yX1_firstWord : MethodName := ⟨RX1, "firstWord", "(LFallingWords$Rules;)I"⟩
abbrev cX1_secondWord : ByteArray := prog_3_method_9_code
def yX1_secondWord : MethodName := ⟨RX1, "secondWord", "(LFallingWords$Rules;)I"⟩
abbrev cX1_verdict : ByteArray := prog_3_method_10_code
def yX1_verdict : MethodName := ⟨RX1, "verdict", "(LFallingWords$State;LFallingWords$Reduction;)I"⟩
def RX2 : String := "FallingWords$Reach"
def TX2 : u_T := fun k => match k with
  | 0 => ("FallingWords$Reach", "words", "[I", true)
  | 1 => ("FallingWords$Reach", "seats", "[I", true)
  | 2 => ("FallingWords$Reach", "size", "I", false)
  | 3 => ("FallingWords$Reach", "tooMany", "Z", false)
  | 4 => ("FallingWords$Reach", "ends", "I", false)
  | 5 => ("FallingWords$Reach", "firstEnd", "I", false)
  | _ => ("FallingWords$Reach", "lastEnd", "I", false)
def tyX2 : Nat → FieldType := fun k => match k with
  | 0 => .array .int
  | 1 => .array .int
  | 2 => .int
  | 3 => .boolean
  | 4 => .int
  | 5 => .int
  | _ => .int
abbrev wsX20 : List Cond := u_ws RX2 TX2 7
theorem nmX2 : ∀ a, a < 7 → ∀ b, b < 7 → a ≠ b → (TX2 a).2.1 ≠ (TX2 b).2.1 := by decide +kernel
theorem tyX2_ok : ∀ k, k < 7 → parseFieldDescriptor (TX2 k).2.2.1 = some (tyX2 k) := by decide +kernel
abbrev cX2_init : ByteArray := prog_4_method_1_code
def yX2_init : MethodName := ⟨RX2, "<init>", "()V"⟩
abbrev cX2_run : ByteArray := prog_4_method_2_code
def yX2_run : MethodName := ⟨RX2, "run", "(LFallingWords$Rules;I)V"⟩
abbrev cX2_addAllFrom : ByteArray := prog_4_method_3_code
def yX2_addAllFrom : MethodName := ⟨RX2, "addAllFrom", "(ILFallingWords$Rules;)V"⟩
abbrev cX2_addEnd : ByteArray := prog_4_method_4_code
def yX2_addEnd : MethodName := ⟨RX2, "addEnd", "(I)V"⟩
abbrev cX2_add : ByteArray := prog_4_method_5_code
def yX2_add : MethodName := ⟨RX2, "add", "(I)V"⟩
def RX3 : String := "FallingWords$Reduction"
def TX3 : u_T := fun k => match k with
  | 0 => ("FallingWords$Reduction", "words", "[I", true)
  | 1 => ("FallingWords$Reduction", "rulesUsed", "[I", true)
  | 2 => ("FallingWords$Reduction", "outcome", "I", false)
  | 3 => ("FallingWords$Reduction", "steps", "I", false)
  | _ => ("FallingWords$Reduction", "ringStart", "I", false)
def tyX3 : Nat → FieldType := fun k => match k with
  | 0 => .array .int
  | 1 => .array .int
  | 2 => .int
  | 3 => .int
  | _ => .int
abbrev wsX30 : List Cond := u_ws RX3 TX3 5
theorem nmX3 : ∀ a, a < 5 → ∀ b, b < 5 → a ≠ b → (TX3 a).2.1 ≠ (TX3 b).2.1 := by decide +kernel
theorem tyX3_ok : ∀ k, k < 5 → parseFieldDescriptor (TX3 k).2.2.1 = some (tyX3 k) := by decide +kernel
abbrev cX3_init : ByteArray := prog_5_method_1_code
def yX3_init : MethodName := ⟨RX3, "<init>", "()V"⟩
abbrev cX3_run : ByteArray := prog_5_method_2_code
def yX3_run : MethodName := ⟨RX3, "run", "(LFallingWords$Rules;II)V"⟩
abbrev cX3_firstTimeOf : ByteArray := prog_5_method_3_code
def yX3_firstTimeOf : MethodName := ⟨RX3, "firstTimeOf", "(I)I"⟩
abbrev cX3_last : ByteArray := prog_5_method_4_code
def yX3_last : MethodName := ⟨RX3, "last", "()I"⟩
abbrev cX3_countRules : ByteArray := prog_5_method_5_code
def yX3_countRules : MethodName := ⟨RX3, "countRules", "(LFallingWords$Rules;)V"⟩
def RX4 : String := "FallingWords$Rules"
def TX4 : u_T := fun k => match k with
  | 0 => ("FallingWords$Rules", "left", "[I", true)
  | 1 => ("FallingWords$Rules", "right", "[I", true)
  | 2 => ("FallingWords$Rules", "leftLength", "[I", true)
  | 3 => ("FallingWords$Rules", "rightLength", "[I", true)
  | 4 => ("FallingWords$Rules", "times", "[I", true)
  | _ => ("FallingWords$Rules", "size", "I", false)
def tyX4 : Nat → FieldType := fun k => match k with
  | 0 => .array .int
  | 1 => .array .int
  | 2 => .array .int
  | 3 => .array .int
  | 4 => .array .int
  | _ => .int
abbrev wsX40 : List Cond := u_ws RX4 TX4 6
theorem nmX4 : ∀ a, a < 6 → ∀ b, b < 6 → a ≠ b → (TX4 a).2.1 ≠ (TX4 b).2.1 := by decide +kernel
theorem tyX4_ok : ∀ k, k < 6 → parseFieldDescriptor (TX4 k).2.2.1 = some (tyX4 k) := by decide +kernel
abbrev cX4_init : ByteArray := prog_6_method_1_code
def yX4_init : MethodName := ⟨RX4, "<init>", "()V"⟩
abbrev cX4_takeOver : ByteArray := prog_6_method_2_code
def yX4_takeOver : MethodName := ⟨RX4, "takeOver", "(LFallingWords$Rules;)V"⟩
abbrev cX4_contains : ByteArray := prog_6_method_3_code
def yX4_contains : MethodName := ⟨RX4, "contains", "(I)Z"⟩
abbrev cX4_isFull : ByteArray := prog_6_method_4_code
def yX4_isFull : MethodName := ⟨RX4, "isFull", "()Z"⟩
abbrev cX4_hasSides : ByteArray := prog_6_method_5_code
def yX4_hasSides : MethodName := ⟨RX4, "hasSides", "(II)Z"⟩
abbrev cX4_add : ByteArray := prog_6_method_6_code
def yX4_add : MethodName := ⟨RX4, "add", "(II)V"⟩
abbrev cX4_remove : ByteArray := prog_6_method_7_code
def yX4_remove : MethodName := ⟨RX4, "remove", "(I)V"⟩
abbrev cX4_appliesAt : ByteArray := prog_6_method_8_code
def yX4_appliesAt : MethodName := ⟨RX4, "appliesAt", "(IIII)Z"⟩
abbrev cX4_placesIn : ByteArray := prog_6_method_9_code
def yX4_placesIn : MethodName := ⟨RX4, "placesIn", "(II)I"⟩
abbrev cX4_choiceFor : ByteArray := prog_6_method_10_code
def yX4_choiceFor : MethodName := ⟨RX4, "choiceFor", "(II)I"⟩
abbrev cX4_ruleIn : ByteArray := prog_6_method_11_code
def yX4_ruleIn : MethodName := ⟨RX4, "ruleIn", "(I)I"⟩
abbrev cX4_placeIn : ByteArray := prog_6_method_12_code
def yX4_placeIn : MethodName := ⟨RX4, "placeIn", "(I)I"⟩
abbrev cX4_applied : ByteArray := prog_6_method_13_code
def yX4_applied : MethodName := ⟨RX4, "applied", "(III)I"⟩
def RX5 : String := "FallingWords$Script"
def TX5 : u_T := fun k => match k with
  | 0 => ("FallingWords$Script", "done", "I", false)
  | 1 => ("FallingWords$Script", "position", "I", false)
  | 2 => ("FallingWords$Script", "reason", "I", false)
  | _ => ("FallingWords$Script", "cause", "I", false)
def tyX5 : Nat → FieldType := fun k => match k with
  | 0 => .int
  | 1 => .int
  | 2 => .int
  | _ => .int
abbrev wsX50 : List Cond := u_ws RX5 TX5 4
theorem nmX5 : ∀ a, a < 4 → ∀ b, b < 4 → a ≠ b → (TX5 a).2.1 ≠ (TX5 b).2.1 := by decide +kernel
theorem tyX5_ok : ∀ k, k < 4 → parseFieldDescriptor (TX5 k).2.2.1 = some (tyX5 k) := by decide +kernel
abbrev cX5_init : ByteArray := prog_7_method_1_code
def yX5_init : MethodName := ⟨RX5, "<init>", "()V"⟩
abbrev cX5_run : ByteArray := prog_7_method_2_code
def yX5_run : MethodName := ⟨RX5, "run", "(LFallingWords$Text;LFallingWords$State;LFallingWords$Reduction;)V"⟩
abbrev cX5_failWith : ByteArray := prog_7_method_3_code
def yX5_failWith : MethodName := ⟨RX5, "failWith", "(II)V"⟩
abbrev cX5_perform : ByteArray := prog_7_method_4_code
def yX5_perform : MethodName := ⟨RX5, "perform", "(LFallingWords$Text;LFallingWords$State;LFallingWords$Reduction;)V"⟩
abbrev cX5_addRule : ByteArray := prog_7_method_5_code
def yX5_addRule : MethodName := ⟨RX5, "addRule", "(IILFallingWords$State;)V"⟩
abbrev cX5_removeRule : ByteArray := prog_7_method_6_code
def yX5_removeRule : MethodName := ⟨RX5, "removeRule", "(ILFallingWords$State;)V"⟩
abbrev cX5_setWord : ByteArray := prog_7_method_7_code
def yX5_setWord : MethodName := ⟨RX5, "setWord", "(ILFallingWords$State;)V"⟩
abbrev cX5_setChoosing : ByteArray := prog_7_method_8_code
def yX5_setChoosing : MethodName := ⟨RX5, "setChoosing", "(ILFallingWords$State;)V"⟩
def RX6 : String := "FallingWords$State"
def TX6 : u_T := fun k => match k with
  | 0 => ("FallingWords$State", "rules", "LFallingWords$Rules;", true)
  | 1 => ("FallingWords$State", "store", "LFallingWords$Store;", true)
  | 2 => ("FallingWords$State", "word", "I", false)
  | 3 => ("FallingWords$State", "choosing", "I", false)
  | 4 => ("FallingWords$State", "taken", "I", false)
  | _ => ("FallingWords$State", "steps", "I", false)
def tyX6 : Nat → FieldType := fun k => match k with
  | 0 => .object "FallingWords$Rules"
  | 1 => .object "FallingWords$Store"
  | 2 => .int
  | 3 => .int
  | 4 => .int
  | _ => .int
abbrev wsX60 : List Cond := u_ws RX6 TX6 6
theorem nmX6 : ∀ a, a < 6 → ∀ b, b < 6 → a ≠ b → (TX6 a).2.1 ≠ (TX6 b).2.1 := by decide +kernel
theorem tyX6_ok : ∀ k, k < 6 → parseFieldDescriptor (TX6 k).2.2.1 = some (tyX6 k) := by decide +kernel
abbrev cX6_init : ByteArray := prog_8_method_1_code
def yX6_init : MethodName := ⟨RX6, "<init>", "()V"⟩
abbrev cX6_takeOver : ByteArray := prog_8_method_2_code
def yX6_takeOver : MethodName := ⟨RX6, "takeOver", "(LFallingWords$State;)V"⟩
abbrev cX6_addRule : ByteArray := prog_8_method_3_code
def yX6_addRule : MethodName := ⟨RX6, "addRule", "(II)V"⟩
abbrev cX6_removeRule : ByteArray := prog_8_method_4_code
def yX6_removeRule : MethodName := ⟨RX6, "removeRule", "(I)V"⟩
abbrev cX6_setChoosing : ByteArray := prog_8_method_5_code
def yX6_setChoosing : MethodName := ⟨RX6, "setChoosing", "(I)V"⟩
abbrev cX6_takeStep : ByteArray := prog_8_method_6_code
def yX6_takeStep : MethodName := ⟨RX6, "takeStep", "()I"⟩
abbrev cX6_reduce : ByteArray := prog_8_method_7_code
def yX6_reduce : MethodName := ⟨RX6, "reduce", "(LFallingWords$Reduction;)I"⟩
def RX7 : String := "FallingWords$Store"
def TX7 : u_T := fun k => match k with
  | 0 => ("FallingWords$Store", "words", "[I", true)
  | 1 => ("FallingWords$Store", "normals", "[I", true)
  | _ => ("FallingWords$Store", "size", "I", false)
def tyX7 : Nat → FieldType := fun k => match k with
  | 0 => .array .int
  | 1 => .array .int
  | _ => .int
abbrev wsX70 : List Cond := u_ws RX7 TX7 3
theorem nmX7 : ∀ a, a < 3 → ∀ b, b < 3 → a ≠ b → (TX7 a).2.1 ≠ (TX7 b).2.1 := by decide +kernel
theorem tyX7_ok : ∀ k, k < 3 → parseFieldDescriptor (TX7 k).2.2.1 = some (tyX7 k) := by decide +kernel
abbrev cX7_init : ByteArray := prog_9_method_1_code
def yX7_init : MethodName := ⟨RX7, "<init>", "()V"⟩
abbrev cX7_takeOver : ByteArray := prog_9_method_2_code
def yX7_takeOver : MethodName := ⟨RX7, "takeOver", "(LFallingWords$Store;)V"⟩
abbrev cX7_indexOf : ByteArray := prog_9_method_3_code
def yX7_indexOf : MethodName := ⟨RX7, "indexOf", "(I)I"⟩
abbrev cX7_put : ByteArray := prog_9_method_4_code
def yX7_put : MethodName := ⟨RX7, "put", "(II)V"⟩
abbrev cX7_use : ByteArray := prog_9_method_5_code
def yX7_use : MethodName := ⟨RX7, "use", "(I)I"⟩
abbrev cX7_setAhead : ByteArray := prog_9_method_6_code
def yX7_setAhead : MethodName := ⟨RX7, "setAhead", "(III)V"⟩
def RX8 : String := "FallingWords$Text"
def TX8 : u_T := fun k => match k with
  | 0 => ("FallingWords$Text", "characters", "[C", true)
  | 1 => ("FallingWords$Text", "size", "I", false)
  | 2 => ("FallingWords$Text", "at", "I", false)
  | 3 => ("FallingWords$Text", "kind", "I", false)
  | 4 => ("FallingWords$Text", "firstWord", "I", false)
  | 5 => ("FallingWords$Text", "secondWord", "I", false)
  | _ => ("FallingWords$Text", "digit", "I", false)
def tyX8 : Nat → FieldType := fun k => match k with
  | 0 => .array .char
  | 1 => .int
  | 2 => .int
  | 3 => .int
  | 4 => .int
  | 5 => .int
  | _ => .int
abbrev wsX80 : List Cond := u_ws RX8 TX8 7
theorem nmX8 : ∀ a, a < 7 → ∀ b, b < 7 → a ≠ b → (TX8 a).2.1 ≠ (TX8 b).2.1 := by decide +kernel
theorem tyX8_ok : ∀ k, k < 7 → parseFieldDescriptor (TX8 k).2.2.1 = some (tyX8 k) := by decide +kernel
abbrev cX8_init : ByteArray := prog_10_method_1_code
def yX8_init : MethodName := ⟨RX8, "<init>", "()V"⟩
abbrev cX8_isFull : ByteArray := prog_10_method_2_code
def yX8_isFull : MethodName := ⟨RX8, "isFull", "()Z"⟩
abbrev cX8_append : ByteArray := prog_10_method_3_code
def yX8_append : MethodName := ⟨RX8, "append", "(I)V"⟩
abbrev cX8_readCommand : ByteArray := prog_10_method_4_code
def yX8_readCommand : MethodName := ⟨RX8, "readCommand", "(I)Z"⟩
abbrev cX8_here : ByteArray := prog_10_method_5_code
def yX8_here : MethodName := ⟨RX8, "here", "()I"⟩
abbrev cX8_passes : ByteArray := prog_10_method_6_code
def yX8_passes : MethodName := ⟨RX8, "passes", "(I)Z"⟩
abbrev cX8_readDigit : ByteArray := prog_10_method_7_code
def yX8_readDigit : MethodName := ⟨RX8, "readDigit", "()Z"⟩
abbrev cX8_readWord : ByteArray := prog_10_method_8_code
def yX8_readWord : MethodName := ⟨RX8, "readWord", "()I"⟩
def RX9 : String := "FallingWords$Words"
def TX9 : u_T := fun k => match k with
  | _ => ("", "", "", false)
def tyX9 : Nat → FieldType := fun k => match k with
  | _ => .int
abbrev wsX90 : List Cond := u_ws RX9 TX9 0
theorem nmX9 : ∀ a, a < 0 → ∀ b, b < 0 → a ≠ b → (TX9 a).2.1 ≠ (TX9 b).2.1 := by decide +kernel
theorem tyX9_ok : ∀ k, k < 0 → parseFieldDescriptor (TX9 k).2.2.1 = some (tyX9 k) := by decide +kernel
abbrev cX9_lengthOf : ByteArray := prog_11_method_2_code
def yX9_lengthOf : MethodName := ⟨RX9, "lengthOf", "(I)I"⟩
abbrev cX9_letterOf : ByteArray := prog_11_method_3_code
def yX9_letterOf : MethodName := ⟨RX9, "letterOf", "(II)I"⟩
abbrev cX9_withLetter : ByteArray := prog_11_method_4_code
def yX9_withLetter : MethodName := ⟨RX9, "withLetter", "(II)I"⟩
abbrev cX9_lastBits : ByteArray := prog_11_method_5_code
def yX9_lastBits : MethodName := ⟨RX9, "lastBits", "(II)I"⟩
def RX10 : String := "FallingWords"
def TX10 : u_T := fun k => match k with
  | 0 => ("FallingWords", "now", "LFallingWords$State;", true)
  | 1 => ("FallingWords", "trial", "LFallingWords$State;", true)
  | 2 => ("FallingWords", "history", "LFallingWords$History;", true)
  | 3 => ("FallingWords", "reduction", "LFallingWords$Reduction;", true)
  | 4 => ("FallingWords", "reach", "LFallingWords$Reach;", true)
  | 5 => ("FallingWords", "overlaps", "LFallingWords$Overlaps;", true)
  | 6 => ("FallingWords", "text", "LFallingWords$Text;", true)
  | _ => ("FallingWords", "script", "LFallingWords$Script;", true)
def tyX10 : Nat → FieldType := fun k => match k with
  | 0 => .object "FallingWords$State"
  | 1 => .object "FallingWords$State"
  | 2 => .object "FallingWords$History"
  | 3 => .object "FallingWords$Reduction"
  | 4 => .object "FallingWords$Reach"
  | 5 => .object "FallingWords$Overlaps"
  | 6 => .object "FallingWords$Text"
  | _ => .object "FallingWords$Script"
abbrev wsX100 : List Cond := u_ws RX10 TX10 8
theorem nmX10 : ∀ a, a < 8 → ∀ b, b < 8 → a ≠ b → (TX10 a).2.1 ≠ (TX10 b).2.1 := by decide +kernel
theorem tyX10_ok : ∀ k, k < 8 → parseFieldDescriptor (TX10 k).2.2.1 = some (tyX10 k) := by decide +kernel
abbrev cX10_init : ByteArray := prog_1_method_1_code
def yX10_init : MethodName := ⟨RX10, "<init>", "()V"⟩
abbrev cX10_drop : ByteArray := prog_1_method_2_code
def yX10_drop : MethodName := ⟨RX10, "drop", "(I)I"⟩
abbrev cX10_way : ByteArray := prog_1_method_3_code
def yX10_way : MethodName := ⟨RX10, "way", "(I)I"⟩
abbrev cX10_ruleOf : ByteArray := prog_1_method_4_code
def yX10_ruleOf : MethodName := ⟨RX10, "ruleOf", "(II)I"⟩
abbrev cX10_step : ByteArray := prog_1_method_5_code
def yX10_step : MethodName := ⟨RX10, "step", "()I"⟩
abbrev cX10_normal : ByteArray := prog_1_method_6_code
def yX10_normal : MethodName := ⟨RX10, "normal", "()I"⟩
abbrev cX10_letterAt : ByteArray := prog_1_method_7_code
def yX10_letterAt : MethodName := ⟨RX10, "letterAt", "(I)I"⟩
abbrev cX10_next : ByteArray := prog_1_method_8_code
def yX10_next : MethodName := ⟨RX10, "next", "(I)I"⟩
abbrev cX10_reduced : ByteArray := prog_1_method_9_code
def yX10_reduced : MethodName := ⟨RX10, "reduced", "(I)I"⟩
abbrev cX10_ringAnswer : ByteArray := prog_1_method_10_code
def yX10_ringAnswer : MethodName := ⟨RX10, "ringAnswer", "(I)I"⟩
abbrev cX10_reached : ByteArray := prog_1_method_11_code
def yX10_reached : MethodName := ⟨RX10, "reached", "(I)I"⟩
abbrev cX10_storeOf : ByteArray := prog_1_method_12_code
def yX10_storeOf : MethodName := ⟨RX10, "storeOf", "(II)I"⟩
abbrev cX10_overlapOf : ByteArray := prog_1_method_13_code
def yX10_overlapOf : MethodName := ⟨RX10, "overlapOf", "(II)I"⟩
abbrev cX10_complete : ByteArray := prog_1_method_14_code
def yX10_complete : MethodName := ⟨RX10, "complete", "(I)I"⟩
abbrev cX10_count : ByteArray := prog_1_method_15_code
def yX10_count : MethodName := ⟨RX10, "count", "(I)I"⟩
abbrev cX10_undo : ByteArray := prog_1_method_16_code
def yX10_undo : MethodName := ⟨RX10, "undo", "()I"⟩
abbrev cX10_type : ByteArray := prog_1_method_17_code
def yX10_type : MethodName := ⟨RX10, "type", "(I)I"⟩
abbrev cX10_clearText : ByteArray := prog_1_method_18_code
def yX10_clearText : MethodName := ⟨RX10, "clearText", "()I"⟩
abbrev cX10_fault : ByteArray := prog_1_method_19_code
def yX10_fault : MethodName := ⟨RX10, "fault", "(I)I"⟩
abbrev cX10_play : ByteArray := prog_1_method_20_code
def yX10_play : MethodName := ⟨RX10, "play", "()I"⟩
abbrev cX10_startTrial : ByteArray := prog_1_method_21_code
def yX10_startTrial : MethodName := ⟨RX10, "startTrial", "()V"⟩
abbrev cX10_keepTrial : ByteArray := prog_1_method_22_code
def yX10_keepTrial : MethodName := ⟨RX10, "keepTrial", "()V"⟩
abbrev cX10_isLetterOf : ByteArray := prog_1_method_23_code
def yX10_isLetterOf : MethodName := ⟨RX10, "isLetterOf", "(III)Z"⟩
def RX11 : String := "FallingWordsModel"
def TX11 : u_T := fun k => match k with
  | 0 => ("FallingWordsModel", "s", "[I", true)
  | 1 => ("FallingWordsModel", "was", "[I", true)
  | 2 => ("FallingWordsModel", "begun", "[I", true)
  | 3 => ("FallingWordsModel", "aside", "[I", true)
  | 4 => ("FallingWordsModel", "states", "I", false)
  | 5 => ("FallingWordsModel", "text", "[C", true)
  | 6 => ("FallingWordsModel", "typed", "I", false)
  | 7 => ("FallingWordsModel", "at", "I", false)
  | 8 => ("FallingWordsModel", "reason", "I", false)
  | 9 => ("FallingWordsModel", "cause", "I", false)
  | 10 => ("FallingWordsModel", "read", "I", false)
  | 11 => ("FallingWordsModel", "readLength", "I", false)
  | 12 => ("FallingWordsModel", "chosenRule", "I", false)
  | 13 => ("FallingWordsModel", "chosenPlace", "I", false)
  | 14 => ("FallingWordsModel", "row", "[I", true)
  | 15 => ("FallingWordsModel", "rowRule", "[I", true)
  | 16 => ("FallingWordsModel", "rowSteps", "I", false)
  | 17 => ("FallingWordsModel", "ringFrom", "I", false)
  | 18 => ("FallingWordsModel", "found", "[I", true)
  | 19 => ("FallingWordsModel", "many", "I", false)
  | 20 => ("FallingWordsModel", "oneRule", "I", false)
  | 21 => ("FallingWordsModel", "otherRule", "I", false)
  | 22 => ("FallingWordsModel", "overlapPlace", "I", false)
  | 23 => ("FallingWordsModel", "oneWord", "I", false)
  | 24 => ("FallingWordsModel", "otherWord", "I", false)
  | 25 => ("FallingWordsModel", "oneNormal", "I", false)
  | _ => ("FallingWordsModel", "otherNormal", "I", false)
def tyX11 : Nat → FieldType := fun k => match k with
  | 0 => .array .int
  | 1 => .array .int
  | 2 => .array .int
  | 3 => .array .int
  | 4 => .int
  | 5 => .array .char
  | 6 => .int
  | 7 => .int
  | 8 => .int
  | 9 => .int
  | 10 => .int
  | 11 => .int
  | 12 => .int
  | 13 => .int
  | 14 => .array .int
  | 15 => .array .int
  | 16 => .int
  | 17 => .int
  | 18 => .array .int
  | 19 => .int
  | 20 => .int
  | 21 => .int
  | 22 => .int
  | 23 => .int
  | 24 => .int
  | 25 => .int
  | _ => .int
abbrev wsX110 : List Cond := u_ws RX11 TX11 27
theorem nmX11 : ∀ a, a < 27 → ∀ b, b < 27 → a ≠ b → (TX11 a).2.1 ≠ (TX11 b).2.1 := by decide +kernel
theorem tyX11_ok : ∀ k, k < 27 → parseFieldDescriptor (TX11 k).2.2.1 = some (tyX11 k) := by decide +kernel
abbrev cX11_init : ByteArray := prog_13_method_1_code
def yX11_init : MethodName := ⟨RX11, "<init>", "()V"⟩
abbrev cX11_in : ByteArray := prog_13_method_2_code
def yX11_in : MethodName := ⟨RX11, "in", "(III)Z"⟩
abbrev cX11_length : ByteArray := prog_13_method_3_code
def yX11_length : MethodName := ⟨RX11, "length", "(I)I"⟩
abbrev cX11_letter : ByteArray := prog_13_method_4_code
def yX11_letter : MethodName := ⟨RX11, "letter", "(II)I"⟩
abbrev cX11_letterOf : ByteArray := prog_13_method_5_code
def yX11_letterOf : MethodName := ⟨RX11, "letterOf", "(II)I"⟩
abbrev cX11_left : ByteArray := prog_13_method_6_code
def yX11_left : MethodName := ⟨RX11, "left", "(I)I"⟩
abbrev cX11_right : ByteArray := prog_13_method_7_code
def yX11_right : MethodName := ⟨RX11, "right", "(I)I"⟩
abbrev cX11_isRule : ByteArray := prog_13_method_8_code
def yX11_isRule : MethodName := ⟨RX11, "isRule", "(I)Z"⟩
abbrev cX11_stands : ByteArray := prog_13_method_9_code
def yX11_stands : MethodName := ⟨RX11, "stands", "(III)Z"⟩
abbrev cX11_applied : ByteArray := prog_13_method_10_code
def yX11_applied : MethodName := ⟨RX11, "applied", "(III)I"⟩
abbrev cX11_chooses : ByteArray := prog_13_method_11_code
def yX11_chooses : MethodName := ⟨RX11, "chooses", "(I)Z"⟩
abbrev cX11_reduces : ByteArray := prog_13_method_12_code
def yX11_reduces : MethodName := ⟨RX11, "reduces", "(I)I"⟩
abbrev cX11_keeps : ByteArray := prog_13_method_13_code
def yX11_keeps : MethodName := ⟨RX11, "keeps", "()V"⟩
abbrev cX11_acted : ByteArray := prog_13_method_14_code
def yX11_acted : MethodName := ⟨RX11, "acted", "(I)I"⟩
abbrev cX11_drops : ByteArray := prog_13_method_15_code
def yX11_drops : MethodName := ⟨RX11, "drops", "(I)I"⟩
abbrev cX11_drop : ByteArray := prog_13_method_16_code
def yX11_drop : MethodName := ⟨RX11, "drop", "(I)I"⟩
abbrev cX11_goes : ByteArray := prog_13_method_17_code
def yX11_goes : MethodName := ⟨RX11, "goes", "(I)I"⟩
abbrev cX11_way : ByteArray := prog_13_method_18_code
def yX11_way : MethodName := ⟨RX11, "way", "(I)I"⟩
abbrev cX11_adds : ByteArray := prog_13_method_19_code
def yX11_adds : MethodName := ⟨RX11, "adds", "(II)V"⟩
abbrev cX11_places : ByteArray := prog_13_method_20_code
def yX11_places : MethodName := ⟨RX11, "places", "(I)I"⟩
abbrev cX11_ruleOf : ByteArray := prog_13_method_21_code
def yX11_ruleOf : MethodName := ⟨RX11, "ruleOf", "(II)I"⟩
abbrev cX11_steps : ByteArray := prog_13_method_22_code
def yX11_steps : MethodName := ⟨RX11, "steps", "()I"⟩
abbrev cX11_step : ByteArray := prog_13_method_23_code
def yX11_step : MethodName := ⟨RX11, "step", "()I"⟩
abbrev cX11_comesFirst : ByteArray := prog_13_method_24_code
def yX11_comesFirst : MethodName := ⟨RX11, "comesFirst", "(III)V"⟩
abbrev cX11_normals : ByteArray := prog_13_method_25_code
def yX11_normals : MethodName := ⟨RX11, "normals", "()I"⟩
abbrev cX11_normal : ByteArray := prog_13_method_26_code
def yX11_normal : MethodName := ⟨RX11, "normal", "()I"⟩
abbrev cX11_letterAt : ByteArray := prog_13_method_27_code
def yX11_letterAt : MethodName := ⟨RX11, "letterAt", "(I)I"⟩
abbrev cX11_next : ByteArray := prog_13_method_28_code
def yX11_next : MethodName := ⟨RX11, "next", "(I)I"⟩
abbrev cX11_reduced : ByteArray := prog_13_method_29_code
def yX11_reduced : MethodName := ⟨RX11, "reduced", "(I)I"⟩
abbrev cX11_reaches : ByteArray := prog_13_method_30_code
def yX11_reaches : MethodName := ⟨RX11, "reaches", "(I)V"⟩
abbrev cX11_reachesAll : ByteArray := prog_13_method_31_code
def yX11_reachesAll : MethodName := ⟨RX11, "reachesAll", "()V"⟩
abbrev cX11_end : ByteArray := prog_13_method_32_code
def yX11_end : MethodName := ⟨RX11, "end", "(Z)I"⟩
abbrev cX11_ends : ByteArray := prog_13_method_33_code
def yX11_ends : MethodName := ⟨RX11, "ends", "()I"⟩
abbrev cX11_reached : ByteArray := prog_13_method_34_code
def yX11_reached : MethodName := ⟨RX11, "reached", "(I)I"⟩
abbrev cX11_storeOf : ByteArray := prog_13_method_35_code
def yX11_storeOf : MethodName := ⟨RX11, "storeOf", "(II)I"⟩
abbrev cX11_isOverlap : ByteArray := prog_13_method_36_code
def yX11_isOverlap : MethodName := ⟨RX11, "isOverlap", "(III)Z"⟩
abbrev cX11_lays : ByteArray := prog_13_method_37_code
def yX11_lays : MethodName := ⟨RX11, "lays", "(III)V"⟩
abbrev cX11_parts : ByteArray := prog_13_method_38_code
def yX11_parts : MethodName := ⟨RX11, "parts", "()I"⟩
abbrev cX11_finds : ByteArray := prog_13_method_39_code
def yX11_finds : MethodName := ⟨RX11, "finds", "(II)I"⟩
abbrev cX11_overlapOf : ByteArray := prog_13_method_40_code
def yX11_overlapOf : MethodName := ⟨RX11, "overlapOf", "(II)I"⟩
abbrev cX11_completes : ByteArray := prog_13_method_41_code
def yX11_completes : MethodName := ⟨RX11, "completes", "(I)I"⟩
abbrev cX11_complete : ByteArray := prog_13_method_42_code
def yX11_complete : MethodName := ⟨RX11, "complete", "(I)I"⟩
abbrev cX11_count : ByteArray := prog_13_method_43_code
def yX11_count : MethodName := ⟨RX11, "count", "(I)I"⟩
abbrev cX11_undo : ByteArray := prog_13_method_44_code
def yX11_undo : MethodName := ⟨RX11, "undo", "()I"⟩
abbrev cX11_type : ByteArray := prog_13_method_45_code
def yX11_type : MethodName := ⟨RX11, "type", "(I)I"⟩
abbrev cX11_clearText : ByteArray := prog_13_method_46_code
def yX11_clearText : MethodName := ⟨RX11, "clearText", "()I"⟩
abbrev cX11_sign : ByteArray := prog_13_method_47_code
def yX11_sign : MethodName := ⟨RX11, "sign", "()I"⟩
abbrev cX11_takes : ByteArray := prog_13_method_48_code
def yX11_takes : MethodName := ⟨RX11, "takes", "(C)Z"⟩
abbrev cX11_readsWord : ByteArray := prog_13_method_49_code
def yX11_readsWord : MethodName := ⟨RX11, "readsWord", "()V"⟩
abbrev cX11_says : ByteArray := prog_13_method_50_code
def yX11_says : MethodName := ⟨RX11, "says", "(II)I"⟩
abbrev cX11_readsRule : ByteArray := prog_13_method_51_code
def yX11_readsRule : MethodName := ⟨RX11, "readsRule", "(I)I"⟩
abbrev cX11_readsDigit : ByteArray := prog_13_method_52_code
def yX11_readsDigit : MethodName := ⟨RX11, "readsDigit", "(IZ)I"⟩
abbrev cX11_readsSet : ByteArray := prog_13_method_53_code
def yX11_readsSet : MethodName := ⟨RX11, "readsSet", "(I)I"⟩
abbrev cX11_readsDeed : ByteArray := prog_13_method_54_code
def yX11_readsDeed : MethodName := ⟨RX11, "readsDeed", "(IZ)I"⟩
abbrev cX11_doesNext : ByteArray := prog_13_method_55_code
def yX11_doesNext : MethodName := ⟨RX11, "doesNext", "()I"⟩
abbrev cX11_faulty : ByteArray := prog_13_method_56_code
def yX11_faulty : MethodName := ⟨RX11, "faulty", "()I"⟩
abbrev cX11_fault : ByteArray := prog_13_method_57_code
def yX11_fault : MethodName := ⟨RX11, "fault", "(I)I"⟩
abbrev cX11_play : ByteArray := prog_13_method_58_code
def yX11_play : MethodName := ⟨RX11, "play", "()I"⟩
def RJ9 : String := "java/lang/Math"
def TJ9 : u_T := fun k => match k with
  | _ => ("", "", "", false)
def tyJ9 : Nat → FieldType := fun k => match k with
  | _ => .int
abbrev wsJ90 : List Cond := u_ws RJ9 TJ9 0
theorem nmJ9 : ∀ a, a < 0 → ∀ b, b < 0 → a ≠ b → (TJ9 a).2.1 ≠ (TJ9 b).2.1 := by decide +kernel
theorem tyJ9_ok : ∀ k, k < 0 → parseFieldDescriptor (TJ9 k).2.2.1 = some (tyJ9 k) := by decide +kernel
abbrev cJ9_max_7cf53 : ByteArray := prog_14_method_65_code
def yJ9_max_7cf53 : MethodName := ⟨RJ9, "max", "(II)I"⟩
abbrev cJ9_min_7cf53 : ByteArray := prog_14_method_69_code
def yJ9_min_7cf53 : MethodName := ⟨RJ9, "min", "(II)I"⟩
def RJ10 : String := "java/lang/System"
def TJ10 : u_T := fun k => match k with
  | _ => ("", "", "", false)
def tyJ10 : Nat → FieldType := fun k => match k with
  | _ => .int
abbrev wsJ100 : List Cond := u_ws RJ10 TJ10 0
theorem nmJ10 : ∀ a, a < 0 → ∀ b, b < 0 → a ≠ b → (TJ10 a).2.1 ≠ (TJ10 b).2.1 := by decide +kernel
theorem tyJ10_ok : ∀ k, k < 0 → parseFieldDescriptor (TJ10 k).2.2.1 = some (tyJ10 k) := by decide +kernel
def RJ7 : String := "java/util/Arrays"
def TJ7 : u_T := fun k => match k with
  | _ => ("", "", "", false)
def tyJ7 : Nat → FieldType := fun k => match k with
  | _ => .int
abbrev wsJ70 : List Cond := u_ws RJ7 TJ7 0
theorem nmJ7 : ∀ a, a < 0 → ∀ b, b < 0 → a ≠ b → (TJ7 a).2.1 ≠ (TJ7 b).2.1 := by decide +kernel
theorem tyJ7_ok : ∀ k, k < 0 → parseFieldDescriptor (TJ7 k).2.2.1 = some (tyJ7 k) := by decide +kernel
abbrev cJ7_fill_53178 : ByteArray := prog_16_method_103_code
def yJ7_fill_53178 : MethodName := ⟨RJ7, "fill", "([II)V"⟩
def RL : String := "FallingWordsLaw"
abbrev cL_law : ByteArray := code
def yL_law : MethodName := ⟨RL, "law", "([I)Z"⟩
def wsX4_init : List Cond := .code yX4_init cX4_init 1 none :: ([.methodLink RX4 3 objectInit, .instanceMethod objectInit, .code objectInit ⟨#[0xb1]⟩ 1 none, .arrayClass .int, .fieldLink RX4 9 "FallingWords$Rules" "left" "[I", .fieldLink RX4 15 "FallingWords$Rules" "right" "[I", .fieldLink RX4 18 "FallingWords$Rules" "leftLength" "[I", .fieldLink RX4 21 "FallingWords$Rules" "rightLength" "[I", .fieldLink RX4 24 "FallingWords$Rules" "times" "[I"] ++ wsX40)
def wsX7_init : List Cond := .code yX7_init cX7_init 1 none :: ([.methodLink RX7 3 objectInit, .instanceMethod objectInit, .code objectInit ⟨#[0xb1]⟩ 1 none, .arrayClass .int, .fieldLink RX7 9 "FallingWords$Store" "words" "[I", .fieldLink RX7 15 "FallingWords$Store" "normals" "[I"] ++ wsX70)
def wsX6_init_r1 : List Cond := [Cond.methodLink RX6 3 objectInit, Cond.instanceMethod objectInit, Cond.code objectInit ⟨#[0xb1]⟩ 1 none, Cond.classLink RX6 9 RX4, Cond.instantiable RX4 6, Cond.initialized RX4, Cond.fieldLink RX6 12 "FallingWords$State" "rules" "LFallingWords$Rules;", Cond.classLink RX6 18 RX7, Cond.instantiable RX7 3, Cond.initialized RX7, Cond.fieldLink RX6 21 "FallingWords$State" "store" "LFallingWords$Store;", Cond.fieldLink RX6 27 "FallingWords$State" "word" "I", Cond.fieldLink RX6 31 "FallingWords$State" "choosing" "I", Cond.instanceMethod yX4_init, Cond.code yX4_init cX4_init 1 none, Cond.methodLink RX4 3 objectInit, Cond.arrayClass .int, Cond.fieldLink RX4 9 "FallingWords$Rules" "left" "[I", Cond.fieldLink RX4 15 "FallingWords$Rules" "right" "[I", Cond.fieldLink RX4 18 "FallingWords$Rules" "leftLength" "[I", Cond.fieldLink RX4 21 "FallingWords$Rules" "rightLength" "[I", Cond.fieldLink RX4 24 "FallingWords$Rules" "times" "[I", Cond.instanceMethod yX7_init, Cond.code yX7_init cX7_init 1 none]
def wsX6_init_r2 : List Cond := [Cond.methodLink RX7 3 objectInit, Cond.fieldLink RX7 9 "FallingWords$Store" "words" "[I", Cond.fieldLink RX7 15 "FallingWords$Store" "normals" "[I"]
def wsX6_init : List Cond := .code yX6_init cX6_init 1 none :: ((wsX6_init_r1 ++ wsX6_init_r2) ++ wsX40 ++ wsX60 ++ wsX70)
def wsX0_init_r1 : List Cond := [Cond.methodLink RX0 3 objectInit, Cond.instanceMethod objectInit, Cond.code objectInit ⟨#[0xb1]⟩ 1 none, Cond.classLink RX0 9 RX6, Cond.fieldLink RX0 11 "FallingWords$History" "states" "[LFallingWords$State;", Cond.instantiable RX6 6, Cond.initialized RX6, Cond.instanceMethod yX6_init, Cond.code yX6_init cX6_init 1 none, Cond.methodLink RX6 3 objectInit, Cond.classLink RX6 9 RX4, Cond.instantiable RX4 6, Cond.initialized RX4, Cond.fieldLink RX6 12 "FallingWords$State" "rules" "LFallingWords$Rules;", Cond.classLink RX6 18 RX7, Cond.instantiable RX7 3, Cond.initialized RX7, Cond.fieldLink RX6 21 "FallingWords$State" "store" "LFallingWords$Store;", Cond.fieldLink RX6 27 "FallingWords$State" "word" "I", Cond.fieldLink RX6 31 "FallingWords$State" "choosing" "I", Cond.instanceMethod yX4_init, Cond.code yX4_init cX4_init 1 none, Cond.methodLink RX4 3 objectInit, Cond.arrayClass .int]
def wsX0_init_r2 : List Cond := [Cond.fieldLink RX4 9 "FallingWords$Rules" "left" "[I", Cond.fieldLink RX4 15 "FallingWords$Rules" "right" "[I", Cond.fieldLink RX4 18 "FallingWords$Rules" "leftLength" "[I", Cond.fieldLink RX4 21 "FallingWords$Rules" "rightLength" "[I", Cond.fieldLink RX4 24 "FallingWords$Rules" "times" "[I", Cond.instanceMethod yX7_init, Cond.code yX7_init cX7_init 1 none, Cond.methodLink RX7 3 objectInit, Cond.fieldLink RX7 9 "FallingWords$Store" "words" "[I", Cond.fieldLink RX7 15 "FallingWords$Store" "normals" "[I"]
def wsX0_init : List Cond := .code yX0_init cX0_init 2 none :: ((wsX0_init_r1 ++ wsX0_init_r2) ++ wsX00 ++ wsX60 ++ wsX40 ++ wsX70)
def wsX0_forgetOldest : List Cond := .code yX0_forgetOldest cX0_forgetOldest 3 none :: ([.fieldLink RX0 11 "FallingWords$History" "states" "[LFallingWords$State;", .fieldLink RX0 18 "FallingWords$History" "size" "I"] ++ wsX00)
def wsX4_takeOver : List Cond := .code yX4_takeOver cX4_takeOver 2 none :: ([.fieldLink RX4 9 "FallingWords$Rules" "left" "[I", .methodLink RX4 27 arraycopyName, .native arraycopyName, .static arraycopyName, .initialized "java/lang/System", .fieldLink RX4 15 "FallingWords$Rules" "right" "[I", .fieldLink RX4 18 "FallingWords$Rules" "leftLength" "[I", .fieldLink RX4 21 "FallingWords$Rules" "rightLength" "[I", .fieldLink RX4 24 "FallingWords$Rules" "times" "[I", .fieldLink RX4 33 "FallingWords$Rules" "size" "I"] ++ wsX40)
def wsX7_takeOver : List Cond := .code yX7_takeOver cX7_takeOver 2 none :: ([.fieldLink RX7 9 "FallingWords$Store" "words" "[I", .methodLink RX7 18 arraycopyName, .native arraycopyName, .static arraycopyName, .initialized "java/lang/System", .fieldLink RX7 15 "FallingWords$Store" "normals" "[I", .fieldLink RX7 24 "FallingWords$Store" "size" "I"] ++ wsX70)
def wsX6_takeOver_r1 : List Cond := [Cond.fieldLink RX6 12 "FallingWords$State" "rules" "LFallingWords$Rules;", Cond.fieldLink RX6 21 "FallingWords$State" "store" "LFallingWords$Store;", Cond.fieldLink RX6 27 "FallingWords$State" "word" "I", Cond.fieldLink RX6 31 "FallingWords$State" "choosing" "I", Cond.fieldLink RX6 41 "FallingWords$State" "taken" "I", Cond.fieldLink RX6 44 "FallingWords$State" "steps" "I", Cond.instanceMethod yX4_takeOver, Cond.initialized RX4, Cond.selects RX4 yX4_takeOver yX4_takeOver, Cond.code yX4_takeOver cX4_takeOver 2 none, Cond.fieldLink RX4 9 "FallingWords$Rules" "left" "[I", Cond.methodLink RX4 27 arraycopyName, Cond.native arraycopyName, Cond.static arraycopyName, Cond.initialized "java/lang/System", Cond.fieldLink RX4 15 "FallingWords$Rules" "right" "[I", Cond.fieldLink RX4 18 "FallingWords$Rules" "leftLength" "[I", Cond.fieldLink RX4 21 "FallingWords$Rules" "rightLength" "[I", Cond.fieldLink RX4 24 "FallingWords$Rules" "times" "[I", Cond.fieldLink RX4 33 "FallingWords$Rules" "size" "I", Cond.instanceMethod yX7_takeOver, Cond.initialized RX7, Cond.selects RX7 yX7_takeOver yX7_takeOver, Cond.code yX7_takeOver cX7_takeOver 2 none]
def wsX6_takeOver_r2 : List Cond := [Cond.fieldLink RX7 9 "FallingWords$Store" "words" "[I", Cond.methodLink RX7 18 arraycopyName, Cond.fieldLink RX7 15 "FallingWords$Store" "normals" "[I", Cond.fieldLink RX7 24 "FallingWords$Store" "size" "I"]
def wsX6_takeOver : List Cond := .code yX6_takeOver cX6_takeOver 2 none :: ((wsX6_takeOver_r1 ++ wsX6_takeOver_r2) ++ wsX60 ++ wsX40 ++ wsX70)
def wsX0_keep_r1 : List Cond := [Cond.fieldLink RX0 18 "FallingWords$History" "size" "I", Cond.fieldLink RX0 11 "FallingWords$History" "states" "[LFallingWords$State;", Cond.methodLink RX0 22 yX0_forgetOldest, Cond.instanceMethod yX0_forgetOldest, Cond.selects RX0 yX0_forgetOldest yX0_forgetOldest, Cond.initialized RX0, Cond.code yX0_forgetOldest cX0_forgetOldest 3 none, Cond.instanceMethod yX6_takeOver, Cond.initialized RX6, Cond.selects RX6 yX6_takeOver yX6_takeOver, Cond.code yX6_takeOver cX6_takeOver 2 none, Cond.fieldLink RX6 12 "FallingWords$State" "rules" "LFallingWords$Rules;", Cond.fieldLink RX6 21 "FallingWords$State" "store" "LFallingWords$Store;", Cond.fieldLink RX6 27 "FallingWords$State" "word" "I", Cond.fieldLink RX6 31 "FallingWords$State" "choosing" "I", Cond.fieldLink RX6 41 "FallingWords$State" "taken" "I", Cond.fieldLink RX6 44 "FallingWords$State" "steps" "I", Cond.instanceMethod yX4_takeOver, Cond.initialized RX4, Cond.selects RX4 yX4_takeOver yX4_takeOver, Cond.code yX4_takeOver cX4_takeOver 2 none, Cond.fieldLink RX4 9 "FallingWords$Rules" "left" "[I", Cond.methodLink RX4 27 arraycopyName, Cond.native arraycopyName]
def wsX0_keep_r2 : List Cond := [Cond.static arraycopyName, Cond.initialized "java/lang/System", Cond.fieldLink RX4 15 "FallingWords$Rules" "right" "[I", Cond.fieldLink RX4 18 "FallingWords$Rules" "leftLength" "[I", Cond.fieldLink RX4 21 "FallingWords$Rules" "rightLength" "[I", Cond.fieldLink RX4 24 "FallingWords$Rules" "times" "[I", Cond.fieldLink RX4 33 "FallingWords$Rules" "size" "I", Cond.instanceMethod yX7_takeOver, Cond.initialized RX7, Cond.selects RX7 yX7_takeOver yX7_takeOver, Cond.code yX7_takeOver cX7_takeOver 2 none, Cond.fieldLink RX7 9 "FallingWords$Store" "words" "[I", Cond.methodLink RX7 18 arraycopyName, Cond.fieldLink RX7 15 "FallingWords$Store" "normals" "[I", Cond.fieldLink RX7 24 "FallingWords$Store" "size" "I"]
def wsX0_keep : List Cond := .code yX0_keep cX0_keep 2 none :: ((wsX0_keep_r1 ++ wsX0_keep_r2) ++ wsX00 ++ wsX60 ++ wsX40 ++ wsX70)
def wsX0_restoreTo_r1 : List Cond := [Cond.fieldLink RX0 18 "FallingWords$History" "size" "I", Cond.fieldLink RX0 11 "FallingWords$History" "states" "[LFallingWords$State;", Cond.instanceMethod yX6_takeOver, Cond.initialized RX6, Cond.selects RX6 yX6_takeOver yX6_takeOver, Cond.code yX6_takeOver cX6_takeOver 2 none, Cond.fieldLink RX6 12 "FallingWords$State" "rules" "LFallingWords$Rules;", Cond.fieldLink RX6 21 "FallingWords$State" "store" "LFallingWords$Store;", Cond.fieldLink RX6 27 "FallingWords$State" "word" "I", Cond.fieldLink RX6 31 "FallingWords$State" "choosing" "I", Cond.fieldLink RX6 41 "FallingWords$State" "taken" "I", Cond.fieldLink RX6 44 "FallingWords$State" "steps" "I", Cond.instanceMethod yX4_takeOver, Cond.initialized RX4, Cond.selects RX4 yX4_takeOver yX4_takeOver, Cond.code yX4_takeOver cX4_takeOver 2 none, Cond.fieldLink RX4 9 "FallingWords$Rules" "left" "[I", Cond.methodLink RX4 27 arraycopyName, Cond.native arraycopyName, Cond.static arraycopyName, Cond.initialized "java/lang/System", Cond.fieldLink RX4 15 "FallingWords$Rules" "right" "[I", Cond.fieldLink RX4 18 "FallingWords$Rules" "leftLength" "[I", Cond.fieldLink RX4 21 "FallingWords$Rules" "rightLength" "[I"]
def wsX0_restoreTo_r2 : List Cond := [Cond.fieldLink RX4 24 "FallingWords$Rules" "times" "[I", Cond.fieldLink RX4 33 "FallingWords$Rules" "size" "I", Cond.instanceMethod yX7_takeOver, Cond.initialized RX7, Cond.selects RX7 yX7_takeOver yX7_takeOver, Cond.code yX7_takeOver cX7_takeOver 2 none, Cond.fieldLink RX7 9 "FallingWords$Store" "words" "[I", Cond.methodLink RX7 18 arraycopyName, Cond.fieldLink RX7 15 "FallingWords$Store" "normals" "[I", Cond.fieldLink RX7 24 "FallingWords$Store" "size" "I"]
def wsX0_restoreTo : List Cond := .code yX0_restoreTo cX0_restoreTo 2 none :: ((wsX0_restoreTo_r1 ++ wsX0_restoreTo_r2) ++ wsX00 ++ wsX60 ++ wsX40 ++ wsX70)
def wsX1_init : List Cond := .code yX1_init cX1_init 1 none :: ([.methodLink RX1 3 objectInit, .instanceMethod objectInit, .code objectInit ⟨#[0xb1]⟩ 1 none])
def wsX4_contains : List Cond := .code yX4_contains cX4_contains 2 (some .boolean) :: ([.fieldLink RX4 33 "FallingWords$Rules" "size" "I"] ++ wsX40)
def wsX9_lastBits : List Cond := .code yX9_lastBits cX9_lastBits 2 (some .int) :: ([])
def wsX1_coveredWord : List Cond := .code yX1_coveredWord cX1_coveredWord 4 (some .int) :: ([.fieldLink RX1 25 "FallingWords$Overlaps" "first" "I", .fieldLink RX1 29 "FallingWords$Overlaps" "second" "I", .static yX9_lastBits, .initialized RX9, .code yX9_lastBits cX9_lastBits 2 (some .int)] ++ wsX40 ++ wsX10)
def wsX9_lengthOf : List Cond := .code yX9_lengthOf cX9_lengthOf 3 (some .int) :: ([])
def wsX4_appliesAt : List Cond := .code yX4_appliesAt cX4_appliesAt 8 (some .boolean) :: ([.fieldLink RX4 18 "FallingWords$Rules" "leftLength" "[I", .fieldLink RX4 9 "FallingWords$Rules" "left" "[I"] ++ wsX40)
def wsX1_isOverlap : List Cond := .code yX1_isOverlap cX1_isOverlap 7 (some .boolean) :: ([.fieldLink RX1 25 "FallingWords$Overlaps" "first" "I", .fieldLink RX1 29 "FallingWords$Overlaps" "second" "I", .fieldLink RX1 32 "FallingWords$Overlaps" "place" "I", .fieldLink RX1 49 "FallingWords$Overlaps" "word" "I", .instanceMethod yX4_contains, .initialized RX4, .selects RX4 yX4_contains yX4_contains, .code yX4_contains cX4_contains 2 (some .boolean), .fieldLink RX4 33 "FallingWords$Rules" "size" "I", .methodLink RX1 45 yX1_coveredWord, .instanceMethod yX1_coveredWord, .selects RX1 yX1_coveredWord yX1_coveredWord, .initialized RX1, .code yX1_coveredWord cX1_coveredWord 4 (some .int), .static yX9_lastBits, .initialized RX9, .code yX9_lastBits cX9_lastBits 2 (some .int), .static yX9_lengthOf, .code yX9_lengthOf cX9_lengthOf 3 (some .int), .instanceMethod yX4_appliesAt, .selects RX4 yX4_appliesAt yX4_appliesAt, .code yX4_appliesAt cX4_appliesAt 8 (some .boolean), .fieldLink RX4 18 "FallingWords$Rules" "leftLength" "[I", .fieldLink RX4 9 "FallingWords$Rules" "left" "[I"] ++ wsX10 ++ wsX40)
def wsX1_find_r1 : List Cond := [Cond.methodLink RX1 11 yX1_isOverlap, Cond.instanceMethod yX1_isOverlap, Cond.selects RX1 yX1_isOverlap yX1_isOverlap, Cond.initialized RX1, Cond.code yX1_isOverlap cX1_isOverlap 7 (some .boolean), Cond.fieldLink RX1 25 "FallingWords$Overlaps" "first" "I", Cond.fieldLink RX1 29 "FallingWords$Overlaps" "second" "I", Cond.fieldLink RX1 32 "FallingWords$Overlaps" "place" "I", Cond.fieldLink RX1 49 "FallingWords$Overlaps" "word" "I", Cond.instanceMethod yX4_contains, Cond.initialized RX4, Cond.selects RX4 yX4_contains yX4_contains, Cond.code yX4_contains cX4_contains 2 (some .boolean), Cond.fieldLink RX4 33 "FallingWords$Rules" "size" "I", Cond.methodLink RX1 45 yX1_coveredWord, Cond.instanceMethod yX1_coveredWord, Cond.selects RX1 yX1_coveredWord yX1_coveredWord, Cond.code yX1_coveredWord cX1_coveredWord 4 (some .int), Cond.static yX9_lastBits, Cond.initialized RX9, Cond.code yX9_lastBits cX9_lastBits 2 (some .int), Cond.static yX9_lengthOf, Cond.code yX9_lengthOf cX9_lengthOf 3 (some .int), Cond.instanceMethod yX4_appliesAt]
def wsX1_find_r2 : List Cond := [Cond.selects RX4 yX4_appliesAt yX4_appliesAt, Cond.code yX4_appliesAt cX4_appliesAt 8 (some .boolean), Cond.fieldLink RX4 18 "FallingWords$Rules" "leftLength" "[I", Cond.fieldLink RX4 9 "FallingWords$Rules" "left" "[I"]
def wsX1_find : List Cond := .code yX1_find cX1_find 5 (some .boolean) :: ((wsX1_find_r1 ++ wsX1_find_r2) ++ wsX10 ++ wsX40)
def wsX4_applied : List Cond := .code yX4_applied cX4_applied 9 (some .int) :: ([.fieldLink RX4 15 "FallingWords$Rules" "right" "[I", .fieldLink RX4 21 "FallingWords$Rules" "rightLength" "[I", .fieldLink RX4 18 "FallingWords$Rules" "leftLength" "[I", .static yX9_lengthOf, .initialized RX9, .code yX9_lengthOf cX9_lengthOf 3 (some .int), .static yX9_lastBits, .code yX9_lastBits cX9_lastBits 2 (some .int)] ++ wsX40)
def wsX1_firstWord : List Cond := .code yX1_firstWord cX1_firstWord 2 (some .int) :: ([.fieldLink RX1 49 "FallingWords$Overlaps" "word" "I", .fieldLink RX1 25 "FallingWords$Overlaps" "first" "I", .instanceMethod yX4_applied, .initialized RX4, .selects RX4 yX4_applied yX4_applied, .code yX4_applied cX4_applied 9 (some .int), .fieldLink RX4 15 "FallingWords$Rules" "right" "[I", .fieldLink RX4 21 "FallingWords$Rules" "rightLength" "[I", .fieldLink RX4 18 "FallingWords$Rules" "leftLength" "[I", .static yX9_lengthOf, .initialized RX9, .code yX9_lengthOf cX9_lengthOf 3 (some .int), .static yX9_lastBits, .code yX9_lastBits cX9_lastBits 2 (some .int)] ++ wsX10 ++ wsX40)
def wsX3_firstTimeOf : List Cond := .code yX3_firstTimeOf cX3_firstTimeOf 3 (some .int) :: ([.fieldLink RX3 18 "FallingWords$Reduction" "steps" "I", .fieldLink RX3 9 "FallingWords$Reduction" "words" "[I"] ++ wsX30)
def wsX4_choiceFor : List Cond := .code yX4_choiceFor cX4_choiceFor 12 (some .int) :: ([.fieldLink RX4 33 "FallingWords$Rules" "size" "I", .static yX9_lengthOf, .initialized RX9, .code yX9_lengthOf cX9_lengthOf 3 (some .int), .methodLink RX4 51 yX4_appliesAt, .instanceMethod yX4_appliesAt, .selects RX4 yX4_appliesAt yX4_appliesAt, .initialized RX4, .code yX4_appliesAt cX4_appliesAt 8 (some .boolean), .fieldLink RX4 18 "FallingWords$Rules" "leftLength" "[I", .fieldLink RX4 9 "FallingWords$Rules" "left" "[I"] ++ wsX40)
def wsX4_ruleIn : List Cond := .code yX4_ruleIn cX4_ruleIn 1 (some .int) :: ([])
def wsX4_placeIn : List Cond := .code yX4_placeIn cX4_placeIn 1 (some .int) :: ([])
def wsX3_run_r1 : List Cond := [Cond.fieldLink RX3 9 "FallingWords$Reduction" "words" "[I", Cond.fieldLink RX3 18 "FallingWords$Reduction" "steps" "I", Cond.fieldLink RX3 26 "FallingWords$Reduction" "ringStart" "I", Cond.fieldLink RX3 29 "FallingWords$Reduction" "outcome" "I", Cond.fieldLink RX3 15 "FallingWords$Reduction" "rulesUsed" "[I", Cond.methodLink RX3 22 yX3_firstTimeOf, Cond.instanceMethod yX3_firstTimeOf, Cond.selects RX3 yX3_firstTimeOf yX3_firstTimeOf, Cond.initialized RX3, Cond.code yX3_firstTimeOf cX3_firstTimeOf 3 (some .int), Cond.instanceMethod yX4_choiceFor, Cond.initialized RX4, Cond.selects RX4 yX4_choiceFor yX4_choiceFor, Cond.code yX4_choiceFor cX4_choiceFor 12 (some .int), Cond.fieldLink RX4 33 "FallingWords$Rules" "size" "I", Cond.static yX9_lengthOf, Cond.initialized RX9, Cond.code yX9_lengthOf cX9_lengthOf 3 (some .int), Cond.methodLink RX4 51 yX4_appliesAt, Cond.instanceMethod yX4_appliesAt, Cond.selects RX4 yX4_appliesAt yX4_appliesAt, Cond.code yX4_appliesAt cX4_appliesAt 8 (some .boolean), Cond.fieldLink RX4 18 "FallingWords$Rules" "leftLength" "[I", Cond.fieldLink RX4 9 "FallingWords$Rules" "left" "[I"]
def wsX3_run_r2 : List Cond := [Cond.static yX4_ruleIn, Cond.code yX4_ruleIn cX4_ruleIn 1 (some .int), Cond.static yX4_placeIn, Cond.code yX4_placeIn cX4_placeIn 1 (some .int), Cond.instanceMethod yX4_applied, Cond.selects RX4 yX4_applied yX4_applied, Cond.code yX4_applied cX4_applied 9 (some .int), Cond.fieldLink RX4 15 "FallingWords$Rules" "right" "[I", Cond.fieldLink RX4 21 "FallingWords$Rules" "rightLength" "[I", Cond.static yX9_lastBits, Cond.code yX9_lastBits cX9_lastBits 2 (some .int)]
def wsX3_run : List Cond := .code yX3_run cX3_run 5 none :: ((wsX3_run_r1 ++ wsX3_run_r2) ++ wsX30 ++ wsX40)
def wsX3_last : List Cond := .code yX3_last cX3_last 1 (some .int) :: ([.fieldLink RX3 9 "FallingWords$Reduction" "words" "[I", .fieldLink RX3 18 "FallingWords$Reduction" "steps" "I"] ++ wsX30)
def wsX1_secondWord : List Cond := .code yX1_secondWord cX1_secondWord 2 (some .int) :: ([.fieldLink RX1 49 "FallingWords$Overlaps" "word" "I", .fieldLink RX1 29 "FallingWords$Overlaps" "second" "I", .fieldLink RX1 32 "FallingWords$Overlaps" "place" "I", .instanceMethod yX4_applied, .initialized RX4, .selects RX4 yX4_applied yX4_applied, .code yX4_applied cX4_applied 9 (some .int), .fieldLink RX4 15 "FallingWords$Rules" "right" "[I", .fieldLink RX4 21 "FallingWords$Rules" "rightLength" "[I", .fieldLink RX4 18 "FallingWords$Rules" "leftLength" "[I", .static yX9_lengthOf, .initialized RX9, .code yX9_lengthOf cX9_lengthOf 3 (some .int), .static yX9_lastBits, .code yX9_lastBits cX9_lastBits 2 (some .int)] ++ wsX10 ++ wsX40)
def wsX1_verdict_r1 : List Cond := [Cond.fieldLink RX1 93 "FallingWords$Overlaps" "firstNormal" "I", Cond.fieldLink RX1 99 "FallingWords$Overlaps" "secondNormal" "I", Cond.methodLink RX1 76 yX1_firstWord, Cond.instanceMethod yX1_firstWord, Cond.selects RX1 yX1_firstWord yX1_firstWord, Cond.initialized RX1, Cond.code yX1_firstWord cX1_firstWord 2 (some .int), Cond.fieldLink RX1 49 "FallingWords$Overlaps" "word" "I", Cond.fieldLink RX1 25 "FallingWords$Overlaps" "first" "I", Cond.instanceMethod yX4_applied, Cond.initialized RX4, Cond.selects RX4 yX4_applied yX4_applied, Cond.code yX4_applied cX4_applied 9 (some .int), Cond.fieldLink RX4 15 "FallingWords$Rules" "right" "[I", Cond.fieldLink RX4 21 "FallingWords$Rules" "rightLength" "[I", Cond.fieldLink RX4 18 "FallingWords$Rules" "leftLength" "[I", Cond.static yX9_lengthOf, Cond.initialized RX9, Cond.code yX9_lengthOf cX9_lengthOf 3 (some .int), Cond.static yX9_lastBits, Cond.code yX9_lastBits cX9_lastBits 2 (some .int), Cond.instanceMethod yX3_run, Cond.initialized RX3, Cond.selects RX3 yX3_run yX3_run]
def wsX1_verdict_r2 : List Cond := [Cond.code yX3_run cX3_run 5 none, Cond.fieldLink RX3 9 "FallingWords$Reduction" "words" "[I", Cond.fieldLink RX3 18 "FallingWords$Reduction" "steps" "I", Cond.fieldLink RX3 26 "FallingWords$Reduction" "ringStart" "I", Cond.fieldLink RX3 29 "FallingWords$Reduction" "outcome" "I", Cond.fieldLink RX3 15 "FallingWords$Reduction" "rulesUsed" "[I", Cond.methodLink RX3 22 yX3_firstTimeOf, Cond.instanceMethod yX3_firstTimeOf, Cond.selects RX3 yX3_firstTimeOf yX3_firstTimeOf, Cond.code yX3_firstTimeOf cX3_firstTimeOf 3 (some .int), Cond.instanceMethod yX4_choiceFor, Cond.selects RX4 yX4_choiceFor yX4_choiceFor, Cond.code yX4_choiceFor cX4_choiceFor 12 (some .int), Cond.fieldLink RX4 33 "FallingWords$Rules" "size" "I", Cond.methodLink RX4 51 yX4_appliesAt, Cond.instanceMethod yX4_appliesAt, Cond.selects RX4 yX4_appliesAt yX4_appliesAt, Cond.code yX4_appliesAt cX4_appliesAt 8 (some .boolean), Cond.fieldLink RX4 9 "FallingWords$Rules" "left" "[I", Cond.static yX4_ruleIn, Cond.code yX4_ruleIn cX4_ruleIn 1 (some .int), Cond.static yX4_placeIn, Cond.code yX4_placeIn cX4_placeIn 1 (some .int), Cond.instanceMethod yX3_last]
def wsX1_verdict_r3 : List Cond := [Cond.selects RX3 yX3_last yX3_last, Cond.code yX3_last cX3_last 1 (some .int), Cond.methodLink RX1 96 yX1_secondWord, Cond.instanceMethod yX1_secondWord, Cond.selects RX1 yX1_secondWord yX1_secondWord, Cond.code yX1_secondWord cX1_secondWord 2 (some .int), Cond.fieldLink RX1 29 "FallingWords$Overlaps" "second" "I", Cond.fieldLink RX1 32 "FallingWords$Overlaps" "place" "I"]
def wsX1_verdict : List Cond := .code yX1_verdict cX1_verdict 3 (some .int) :: ((wsX1_verdict_r1 ++ (wsX1_verdict_r2 ++ wsX1_verdict_r3)) ++ wsX60 ++ wsX30 ++ wsX10 ++ wsX40)
def wsX1_findParting_r1 : List Cond := [Cond.methodLink RX1 11 yX1_isOverlap, Cond.instanceMethod yX1_isOverlap, Cond.selects RX1 yX1_isOverlap yX1_isOverlap, Cond.initialized RX1, Cond.code yX1_isOverlap cX1_isOverlap 7 (some .boolean), Cond.fieldLink RX1 25 "FallingWords$Overlaps" "first" "I", Cond.fieldLink RX1 29 "FallingWords$Overlaps" "second" "I", Cond.fieldLink RX1 32 "FallingWords$Overlaps" "place" "I", Cond.fieldLink RX1 49 "FallingWords$Overlaps" "word" "I", Cond.instanceMethod yX4_contains, Cond.initialized RX4, Cond.selects RX4 yX4_contains yX4_contains, Cond.code yX4_contains cX4_contains 2 (some .boolean), Cond.fieldLink RX4 33 "FallingWords$Rules" "size" "I", Cond.methodLink RX1 45 yX1_coveredWord, Cond.instanceMethod yX1_coveredWord, Cond.selects RX1 yX1_coveredWord yX1_coveredWord, Cond.code yX1_coveredWord cX1_coveredWord 4 (some .int), Cond.static yX9_lastBits, Cond.initialized RX9, Cond.code yX9_lastBits cX9_lastBits 2 (some .int), Cond.static yX9_lengthOf, Cond.code yX9_lengthOf cX9_lengthOf 3 (some .int), Cond.instanceMethod yX4_appliesAt]
def wsX1_findParting_r2 : List Cond := [Cond.selects RX4 yX4_appliesAt yX4_appliesAt, Cond.code yX4_appliesAt cX4_appliesAt 8 (some .boolean), Cond.fieldLink RX4 18 "FallingWords$Rules" "leftLength" "[I", Cond.fieldLink RX4 9 "FallingWords$Rules" "left" "[I", Cond.methodLink RX1 21 yX1_verdict, Cond.instanceMethod yX1_verdict, Cond.selects RX1 yX1_verdict yX1_verdict, Cond.code yX1_verdict cX1_verdict 3 (some .int), Cond.fieldLink RX1 93 "FallingWords$Overlaps" "firstNormal" "I", Cond.fieldLink RX1 99 "FallingWords$Overlaps" "secondNormal" "I", Cond.methodLink RX1 76 yX1_firstWord, Cond.instanceMethod yX1_firstWord, Cond.selects RX1 yX1_firstWord yX1_firstWord, Cond.code yX1_firstWord cX1_firstWord 2 (some .int), Cond.instanceMethod yX4_applied, Cond.selects RX4 yX4_applied yX4_applied, Cond.code yX4_applied cX4_applied 9 (some .int), Cond.fieldLink RX4 15 "FallingWords$Rules" "right" "[I", Cond.fieldLink RX4 21 "FallingWords$Rules" "rightLength" "[I", Cond.instanceMethod yX3_run, Cond.initialized RX3, Cond.selects RX3 yX3_run yX3_run, Cond.code yX3_run cX3_run 5 none, Cond.fieldLink RX3 9 "FallingWords$Reduction" "words" "[I"]
def wsX1_findParting_r3 : List Cond := [Cond.fieldLink RX3 18 "FallingWords$Reduction" "steps" "I", Cond.fieldLink RX3 26 "FallingWords$Reduction" "ringStart" "I", Cond.fieldLink RX3 29 "FallingWords$Reduction" "outcome" "I", Cond.fieldLink RX3 15 "FallingWords$Reduction" "rulesUsed" "[I", Cond.methodLink RX3 22 yX3_firstTimeOf, Cond.instanceMethod yX3_firstTimeOf, Cond.selects RX3 yX3_firstTimeOf yX3_firstTimeOf, Cond.code yX3_firstTimeOf cX3_firstTimeOf 3 (some .int), Cond.instanceMethod yX4_choiceFor, Cond.selects RX4 yX4_choiceFor yX4_choiceFor, Cond.code yX4_choiceFor cX4_choiceFor 12 (some .int), Cond.methodLink RX4 51 yX4_appliesAt, Cond.static yX4_ruleIn, Cond.code yX4_ruleIn cX4_ruleIn 1 (some .int), Cond.static yX4_placeIn, Cond.code yX4_placeIn cX4_placeIn 1 (some .int), Cond.instanceMethod yX3_last, Cond.selects RX3 yX3_last yX3_last, Cond.code yX3_last cX3_last 1 (some .int), Cond.methodLink RX1 96 yX1_secondWord, Cond.instanceMethod yX1_secondWord, Cond.selects RX1 yX1_secondWord yX1_secondWord, Cond.code yX1_secondWord cX1_secondWord 2 (some .int)]
def wsX1_findParting : List Cond := .code yX1_findParting cX1_findParting 4 (some .boolean) :: ((wsX1_findParting_r1 ++ (wsX1_findParting_r2 ++ wsX1_findParting_r3)) ++ wsX60 ++ wsX10 ++ wsX40 ++ wsX30)
def wsX1_howMany_r1 : List Cond := [Cond.methodLink RX1 11 yX1_isOverlap, Cond.instanceMethod yX1_isOverlap, Cond.selects RX1 yX1_isOverlap yX1_isOverlap, Cond.initialized RX1, Cond.code yX1_isOverlap cX1_isOverlap 7 (some .boolean), Cond.fieldLink RX1 25 "FallingWords$Overlaps" "first" "I", Cond.fieldLink RX1 29 "FallingWords$Overlaps" "second" "I", Cond.fieldLink RX1 32 "FallingWords$Overlaps" "place" "I", Cond.fieldLink RX1 49 "FallingWords$Overlaps" "word" "I", Cond.instanceMethod yX4_contains, Cond.initialized RX4, Cond.selects RX4 yX4_contains yX4_contains, Cond.code yX4_contains cX4_contains 2 (some .boolean), Cond.fieldLink RX4 33 "FallingWords$Rules" "size" "I", Cond.methodLink RX1 45 yX1_coveredWord, Cond.instanceMethod yX1_coveredWord, Cond.selects RX1 yX1_coveredWord yX1_coveredWord, Cond.code yX1_coveredWord cX1_coveredWord 4 (some .int), Cond.static yX9_lastBits, Cond.initialized RX9, Cond.code yX9_lastBits cX9_lastBits 2 (some .int), Cond.static yX9_lengthOf, Cond.code yX9_lengthOf cX9_lengthOf 3 (some .int), Cond.instanceMethod yX4_appliesAt]
def wsX1_howMany_r2 : List Cond := [Cond.selects RX4 yX4_appliesAt yX4_appliesAt, Cond.code yX4_appliesAt cX4_appliesAt 8 (some .boolean), Cond.fieldLink RX4 18 "FallingWords$Rules" "leftLength" "[I", Cond.fieldLink RX4 9 "FallingWords$Rules" "left" "[I"]
def wsX1_howMany : List Cond := .code yX1_howMany cX1_howMany 4 (some .int) :: ((wsX1_howMany_r1 ++ wsX1_howMany_r2) ++ wsX10 ++ wsX40)
def wsX1_howManyAre_r1 : List Cond := [Cond.methodLink RX1 11 yX1_isOverlap, Cond.instanceMethod yX1_isOverlap, Cond.selects RX1 yX1_isOverlap yX1_isOverlap, Cond.initialized RX1, Cond.code yX1_isOverlap cX1_isOverlap 7 (some .boolean), Cond.fieldLink RX1 25 "FallingWords$Overlaps" "first" "I", Cond.fieldLink RX1 29 "FallingWords$Overlaps" "second" "I", Cond.fieldLink RX1 32 "FallingWords$Overlaps" "place" "I", Cond.fieldLink RX1 49 "FallingWords$Overlaps" "word" "I", Cond.instanceMethod yX4_contains, Cond.initialized RX4, Cond.selects RX4 yX4_contains yX4_contains, Cond.code yX4_contains cX4_contains 2 (some .boolean), Cond.fieldLink RX4 33 "FallingWords$Rules" "size" "I", Cond.methodLink RX1 45 yX1_coveredWord, Cond.instanceMethod yX1_coveredWord, Cond.selects RX1 yX1_coveredWord yX1_coveredWord, Cond.code yX1_coveredWord cX1_coveredWord 4 (some .int), Cond.static yX9_lastBits, Cond.initialized RX9, Cond.code yX9_lastBits cX9_lastBits 2 (some .int), Cond.static yX9_lengthOf, Cond.code yX9_lengthOf cX9_lengthOf 3 (some .int), Cond.instanceMethod yX4_appliesAt]
def wsX1_howManyAre_r2 : List Cond := [Cond.selects RX4 yX4_appliesAt yX4_appliesAt, Cond.code yX4_appliesAt cX4_appliesAt 8 (some .boolean), Cond.fieldLink RX4 18 "FallingWords$Rules" "leftLength" "[I", Cond.fieldLink RX4 9 "FallingWords$Rules" "left" "[I", Cond.methodLink RX1 21 yX1_verdict, Cond.instanceMethod yX1_verdict, Cond.selects RX1 yX1_verdict yX1_verdict, Cond.code yX1_verdict cX1_verdict 3 (some .int), Cond.fieldLink RX1 93 "FallingWords$Overlaps" "firstNormal" "I", Cond.fieldLink RX1 99 "FallingWords$Overlaps" "secondNormal" "I", Cond.methodLink RX1 76 yX1_firstWord, Cond.instanceMethod yX1_firstWord, Cond.selects RX1 yX1_firstWord yX1_firstWord, Cond.code yX1_firstWord cX1_firstWord 2 (some .int), Cond.instanceMethod yX4_applied, Cond.selects RX4 yX4_applied yX4_applied, Cond.code yX4_applied cX4_applied 9 (some .int), Cond.fieldLink RX4 15 "FallingWords$Rules" "right" "[I", Cond.fieldLink RX4 21 "FallingWords$Rules" "rightLength" "[I", Cond.instanceMethod yX3_run, Cond.initialized RX3, Cond.selects RX3 yX3_run yX3_run, Cond.code yX3_run cX3_run 5 none, Cond.fieldLink RX3 9 "FallingWords$Reduction" "words" "[I"]
def wsX1_howManyAre_r3 : List Cond := [Cond.fieldLink RX3 18 "FallingWords$Reduction" "steps" "I", Cond.fieldLink RX3 26 "FallingWords$Reduction" "ringStart" "I", Cond.fieldLink RX3 29 "FallingWords$Reduction" "outcome" "I", Cond.fieldLink RX3 15 "FallingWords$Reduction" "rulesUsed" "[I", Cond.methodLink RX3 22 yX3_firstTimeOf, Cond.instanceMethod yX3_firstTimeOf, Cond.selects RX3 yX3_firstTimeOf yX3_firstTimeOf, Cond.code yX3_firstTimeOf cX3_firstTimeOf 3 (some .int), Cond.instanceMethod yX4_choiceFor, Cond.selects RX4 yX4_choiceFor yX4_choiceFor, Cond.code yX4_choiceFor cX4_choiceFor 12 (some .int), Cond.methodLink RX4 51 yX4_appliesAt, Cond.static yX4_ruleIn, Cond.code yX4_ruleIn cX4_ruleIn 1 (some .int), Cond.static yX4_placeIn, Cond.code yX4_placeIn cX4_placeIn 1 (some .int), Cond.instanceMethod yX3_last, Cond.selects RX3 yX3_last yX3_last, Cond.code yX3_last cX3_last 1 (some .int), Cond.methodLink RX1 96 yX1_secondWord, Cond.instanceMethod yX1_secondWord, Cond.selects RX1 yX1_secondWord yX1_secondWord, Cond.code yX1_secondWord cX1_secondWord 2 (some .int)]
def wsX1_howManyAre : List Cond := .code yX1_howManyAre cX1_howManyAre 6 (some .int) :: ((wsX1_howManyAre_r1 ++ (wsX1_howManyAre_r2 ++ wsX1_howManyAre_r3)) ++ wsX60 ++ wsX10 ++ wsX40 ++ wsX30)
def wsX2_init : List Cond := .code yX2_init cX2_init 1 none :: ([.methodLink RX2 3 objectInit, .instanceMethod objectInit, .code objectInit ⟨#[0xb1]⟩ 1 none, .arrayClass .int, .fieldLink RX2 9 "FallingWords$Reach" "words" "[I", .fieldLink RX2 15 "FallingWords$Reach" "seats" "[I"] ++ wsX20)
def wsJ7_fill_53178 : List Cond := .code yJ7_fill_53178 cJ7_fill_53178 4 none :: ([])
def wsX2_add : List Cond := .code yX2_add cX2_add 4 none :: ([.constant RX2 78 (-1640531535), .fieldLink RX2 15 "FallingWords$Reach" "seats" "[I", .fieldLink RX2 24 "FallingWords$Reach" "size" "I", .fieldLink RX2 28 "FallingWords$Reach" "tooMany" "Z", .fieldLink RX2 9 "FallingWords$Reach" "words" "[I"] ++ wsX20)
def wsX2_addEnd : List Cond := .code yX2_addEnd cX2_addEnd 2 none :: ([.fieldLink RX2 32 "FallingWords$Reach" "ends" "I", .fieldLink RX2 63 "FallingWords$Reach" "firstEnd" "I", .methodLink RX2 66 Lib.Math.min.name, .static Lib.Math.min.name, .initialized "java/lang/Math", .code Lib.Math.min.name Lib.Math.min.code 2 (some .int), .fieldLink RX2 72 "FallingWords$Reach" "lastEnd" "I", .methodLink RX2 75 Lib.Math.max.name, .static Lib.Math.max.name, .code Lib.Math.max.name Lib.Math.max.code 2 (some .int)] ++ wsX20)
def wsX2_addAllFrom_r1 : List Cond := [Cond.static yX9_lengthOf, Cond.initialized RX9, Cond.code yX9_lengthOf cX9_lengthOf 3 (some .int), Cond.instanceMethod yX4_appliesAt, Cond.initialized RX4, Cond.selects RX4 yX4_appliesAt yX4_appliesAt, Cond.code yX4_appliesAt cX4_appliesAt 8 (some .boolean), Cond.fieldLink RX4 18 "FallingWords$Rules" "leftLength" "[I", Cond.fieldLink RX4 9 "FallingWords$Rules" "left" "[I", Cond.instanceMethod yX4_applied, Cond.selects RX4 yX4_applied yX4_applied, Cond.code yX4_applied cX4_applied 9 (some .int), Cond.fieldLink RX4 15 "FallingWords$Rules" "right" "[I", Cond.fieldLink RX4 21 "FallingWords$Rules" "rightLength" "[I", Cond.static yX9_lastBits, Cond.code yX9_lastBits cX9_lastBits 2 (some .int), Cond.methodLink RX2 35 yX2_add, Cond.instanceMethod yX2_add, Cond.selects RX2 yX2_add yX2_add, Cond.initialized RX2, Cond.code yX2_add cX2_add 4 none, Cond.constant RX2 78 (-1640531535), Cond.fieldLink RX2 15 "FallingWords$Reach" "seats" "[I", Cond.fieldLink RX2 24 "FallingWords$Reach" "size" "I"]
def wsX2_addAllFrom_r2 : List Cond := [Cond.fieldLink RX2 28 "FallingWords$Reach" "tooMany" "Z", Cond.fieldLink RX2 9 "FallingWords$Reach" "words" "[I", Cond.methodLink RX2 60 yX2_addEnd, Cond.instanceMethod yX2_addEnd, Cond.selects RX2 yX2_addEnd yX2_addEnd, Cond.code yX2_addEnd cX2_addEnd 2 none, Cond.fieldLink RX2 32 "FallingWords$Reach" "ends" "I", Cond.fieldLink RX2 63 "FallingWords$Reach" "firstEnd" "I", Cond.methodLink RX2 66 Lib.Math.min.name, Cond.static Lib.Math.min.name, Cond.initialized "java/lang/Math", Cond.code Lib.Math.min.name Lib.Math.min.code 2 (some .int), Cond.fieldLink RX2 72 "FallingWords$Reach" "lastEnd" "I", Cond.methodLink RX2 75 Lib.Math.max.name, Cond.static Lib.Math.max.name, Cond.code Lib.Math.max.name Lib.Math.max.code 2 (some .int)]
def wsX2_addAllFrom : List Cond := .code yX2_addAllFrom cX2_addAllFrom 7 none :: ((wsX2_addAllFrom_r1 ++ wsX2_addAllFrom_r2) ++ wsX40 ++ wsX20)
def wsX2_run_r1 : List Cond := [Cond.fieldLink RX2 15 "FallingWords$Reach" "seats" "[I", Cond.fieldLink RX2 24 "FallingWords$Reach" "size" "I", Cond.fieldLink RX2 28 "FallingWords$Reach" "tooMany" "Z", Cond.fieldLink RX2 32 "FallingWords$Reach" "ends" "I", Cond.fieldLink RX2 9 "FallingWords$Reach" "words" "[I", Cond.methodLink RX2 18 yJ7_fill_53178, Cond.static yJ7_fill_53178, Cond.initialized RJ7, Cond.code yJ7_fill_53178 cJ7_fill_53178 4 none, Cond.methodLink RX2 35 yX2_add, Cond.instanceMethod yX2_add, Cond.selects RX2 yX2_add yX2_add, Cond.initialized RX2, Cond.code yX2_add cX2_add 4 none, Cond.constant RX2 78 (-1640531535), Cond.methodLink RX2 39 yX2_addAllFrom, Cond.instanceMethod yX2_addAllFrom, Cond.selects RX2 yX2_addAllFrom yX2_addAllFrom, Cond.code yX2_addAllFrom cX2_addAllFrom 7 none, Cond.static yX9_lengthOf, Cond.initialized RX9, Cond.code yX9_lengthOf cX9_lengthOf 3 (some .int), Cond.instanceMethod yX4_appliesAt, Cond.initialized RX4]
def wsX2_run_r2 : List Cond := [Cond.selects RX4 yX4_appliesAt yX4_appliesAt, Cond.code yX4_appliesAt cX4_appliesAt 8 (some .boolean), Cond.fieldLink RX4 18 "FallingWords$Rules" "leftLength" "[I", Cond.fieldLink RX4 9 "FallingWords$Rules" "left" "[I", Cond.instanceMethod yX4_applied, Cond.selects RX4 yX4_applied yX4_applied, Cond.code yX4_applied cX4_applied 9 (some .int), Cond.fieldLink RX4 15 "FallingWords$Rules" "right" "[I", Cond.fieldLink RX4 21 "FallingWords$Rules" "rightLength" "[I", Cond.static yX9_lastBits, Cond.code yX9_lastBits cX9_lastBits 2 (some .int), Cond.methodLink RX2 60 yX2_addEnd, Cond.instanceMethod yX2_addEnd, Cond.selects RX2 yX2_addEnd yX2_addEnd, Cond.code yX2_addEnd cX2_addEnd 2 none, Cond.fieldLink RX2 63 "FallingWords$Reach" "firstEnd" "I", Cond.methodLink RX2 66 Lib.Math.min.name, Cond.static Lib.Math.min.name, Cond.initialized "java/lang/Math", Cond.code Lib.Math.min.name Lib.Math.min.code 2 (some .int), Cond.fieldLink RX2 72 "FallingWords$Reach" "lastEnd" "I", Cond.methodLink RX2 75 Lib.Math.max.name, Cond.static Lib.Math.max.name, Cond.code Lib.Math.max.name Lib.Math.max.code 2 (some .int)]
def wsX2_run : List Cond := .code yX2_run cX2_run 4 none :: ((wsX2_run_r1 ++ wsX2_run_r2) ++ wsX20 ++ wsX40)
def wsX3_init : List Cond := .code yX3_init cX3_init 1 none :: ([.methodLink RX3 3 objectInit, .instanceMethod objectInit, .code objectInit ⟨#[0xb1]⟩ 1 none, .arrayClass .int, .fieldLink RX3 9 "FallingWords$Reduction" "words" "[I", .fieldLink RX3 15 "FallingWords$Reduction" "rulesUsed" "[I"] ++ wsX30)
def wsX3_countRules : List Cond := .code yX3_countRules cX3_countRules 3 none :: ([.fieldLink RX3 18 "FallingWords$Reduction" "steps" "I", .fieldLink RX3 15 "FallingWords$Reduction" "rulesUsed" "[I"] ++ wsX30 ++ wsX40)
def wsX4_isFull : List Cond := .code yX4_isFull cX4_isFull 1 (some .boolean) :: ([.fieldLink RX4 33 "FallingWords$Rules" "size" "I"] ++ wsX40)
def wsX4_hasSides : List Cond := .code yX4_hasSides cX4_hasSides 4 (some .boolean) :: ([.fieldLink RX4 33 "FallingWords$Rules" "size" "I", .fieldLink RX4 9 "FallingWords$Rules" "left" "[I", .fieldLink RX4 15 "FallingWords$Rules" "right" "[I"] ++ wsX40)
def wsX4_add : List Cond := .code yX4_add cX4_add 3 none :: ([.fieldLink RX4 9 "FallingWords$Rules" "left" "[I", .fieldLink RX4 33 "FallingWords$Rules" "size" "I", .fieldLink RX4 15 "FallingWords$Rules" "right" "[I", .fieldLink RX4 18 "FallingWords$Rules" "leftLength" "[I", .fieldLink RX4 21 "FallingWords$Rules" "rightLength" "[I", .fieldLink RX4 24 "FallingWords$Rules" "times" "[I", .methodLink RX4 37 yX4_isFull, .instanceMethod yX4_isFull, .selects RX4 yX4_isFull yX4_isFull, .initialized RX4, .code yX4_isFull cX4_isFull 1 (some .boolean), .static yX9_lengthOf, .initialized RX9, .code yX9_lengthOf cX9_lengthOf 3 (some .int)] ++ wsX40)
def wsX4_remove : List Cond := .code yX4_remove cX4_remove 3 none :: ([.fieldLink RX4 33 "FallingWords$Rules" "size" "I", .fieldLink RX4 9 "FallingWords$Rules" "left" "[I", .fieldLink RX4 15 "FallingWords$Rules" "right" "[I", .fieldLink RX4 18 "FallingWords$Rules" "leftLength" "[I", .fieldLink RX4 21 "FallingWords$Rules" "rightLength" "[I", .fieldLink RX4 24 "FallingWords$Rules" "times" "[I", .methodLink RX4 47 yX4_contains, .instanceMethod yX4_contains, .selects RX4 yX4_contains yX4_contains, .initialized RX4, .code yX4_contains cX4_contains 2 (some .boolean)] ++ wsX40)
def wsX4_placesIn : List Cond := .code yX4_placesIn cX4_placesIn 6 (some .int) :: ([.static yX9_lengthOf, .initialized RX9, .code yX9_lengthOf cX9_lengthOf 3 (some .int), .methodLink RX4 51 yX4_appliesAt, .instanceMethod yX4_appliesAt, .selects RX4 yX4_appliesAt yX4_appliesAt, .initialized RX4, .code yX4_appliesAt cX4_appliesAt 8 (some .boolean), .fieldLink RX4 18 "FallingWords$Rules" "leftLength" "[I", .fieldLink RX4 9 "FallingWords$Rules" "left" "[I"] ++ wsX40)
def wsX5_init : List Cond := .code yX5_init cX5_init 1 none :: ([.methodLink RX5 3 objectInit, .instanceMethod objectInit, .code objectInit ⟨#[0xb1]⟩ 1 none])
def wsX8_here : List Cond := .code yX8_here cX8_here 1 (some .int) :: ([.fieldLink RX8 23 "FallingWords$Text" "at" "I", .fieldLink RX8 15 "FallingWords$Text" "size" "I", .fieldLink RX8 9 "FallingWords$Text" "characters" "[C"] ++ wsX80)
def wsX9_withLetter : List Cond := .code yX9_withLetter cX9_withLetter 2 (some .int) :: ([])
def wsX8_readWord : List Cond := .code yX8_readWord cX8_readWord 3 (some .int) :: ([.fieldLink RX8 23 "FallingWords$Text" "at" "I", .fieldLink RX8 15 "FallingWords$Text" "size" "I", .methodLink RX8 26 yX8_here, .instanceMethod yX8_here, .selects RX8 yX8_here yX8_here, .initialized RX8, .code yX8_here cX8_here 1 (some .int), .fieldLink RX8 9 "FallingWords$Text" "characters" "[C", .static yX9_withLetter, .initialized RX9, .code yX9_withLetter cX9_withLetter 2 (some .int)] ++ wsX80)
def wsX8_passes : List Cond := .code yX8_passes cX8_passes 2 (some .boolean) :: ([.fieldLink RX8 23 "FallingWords$Text" "at" "I", .methodLink RX8 26 yX8_here, .instanceMethod yX8_here, .selects RX8 yX8_here yX8_here, .initialized RX8, .code yX8_here cX8_here 1 (some .int), .fieldLink RX8 15 "FallingWords$Text" "size" "I", .fieldLink RX8 9 "FallingWords$Text" "characters" "[C"] ++ wsX80)
def wsX8_readDigit : List Cond := .code yX8_readDigit cX8_readDigit 2 (some .boolean) :: ([.fieldLink RX8 49 "FallingWords$Text" "digit" "I", .fieldLink RX8 23 "FallingWords$Text" "at" "I", .methodLink RX8 26 yX8_here, .instanceMethod yX8_here, .selects RX8 yX8_here yX8_here, .initialized RX8, .code yX8_here cX8_here 1 (some .int), .fieldLink RX8 15 "FallingWords$Text" "size" "I", .fieldLink RX8 9 "FallingWords$Text" "characters" "[C"] ++ wsX80)
def wsX8_readCommand_r1 : List Cond := [Cond.fieldLink RX8 23 "FallingWords$Text" "at" "I", Cond.fieldLink RX8 30 "FallingWords$Text" "kind" "I", Cond.fieldLink RX8 36 "FallingWords$Text" "firstWord" "I", Cond.fieldLink RX8 43 "FallingWords$Text" "secondWord" "I", Cond.methodLink RX8 26 yX8_here, Cond.instanceMethod yX8_here, Cond.selects RX8 yX8_here yX8_here, Cond.initialized RX8, Cond.code yX8_here cX8_here 1 (some .int), Cond.fieldLink RX8 15 "FallingWords$Text" "size" "I", Cond.fieldLink RX8 9 "FallingWords$Text" "characters" "[C", Cond.methodLink RX8 33 yX8_readWord, Cond.instanceMethod yX8_readWord, Cond.selects RX8 yX8_readWord yX8_readWord, Cond.code yX8_readWord cX8_readWord 3 (some .int), Cond.static yX9_withLetter, Cond.initialized RX9, Cond.code yX9_withLetter cX9_withLetter 2 (some .int), Cond.methodLink RX8 39 yX8_passes, Cond.instanceMethod yX8_passes, Cond.selects RX8 yX8_passes yX8_passes, Cond.code yX8_passes cX8_passes 2 (some .boolean), Cond.methodLink RX8 46 yX8_readDigit, Cond.instanceMethod yX8_readDigit]
def wsX8_readCommand_r2 : List Cond := [Cond.selects RX8 yX8_readDigit yX8_readDigit, Cond.code yX8_readDigit cX8_readDigit 2 (some .boolean), Cond.fieldLink RX8 49 "FallingWords$Text" "digit" "I"]
def wsX8_readCommand : List Cond := .code yX8_readCommand cX8_readCommand 2 (some .boolean) :: ((wsX8_readCommand_r1 ++ wsX8_readCommand_r2) ++ wsX80)
def wsX5_failWith : List Cond := .code yX5_failWith cX5_failWith 3 none :: ([.fieldLink RX5 18 "FallingWords$Script" "reason" "I", .fieldLink RX5 21 "FallingWords$Script" "cause" "I"] ++ wsX50)
def wsX6_addRule : List Cond := .code yX6_addRule cX6_addRule 3 none :: ([.fieldLink RX6 12 "FallingWords$State" "rules" "LFallingWords$Rules;", .fieldLink RX6 21 "FallingWords$State" "store" "LFallingWords$Store;", .instanceMethod yX4_add, .initialized RX4, .selects RX4 yX4_add yX4_add, .code yX4_add cX4_add 3 none, .fieldLink RX4 9 "FallingWords$Rules" "left" "[I", .fieldLink RX4 33 "FallingWords$Rules" "size" "I", .fieldLink RX4 15 "FallingWords$Rules" "right" "[I", .fieldLink RX4 18 "FallingWords$Rules" "leftLength" "[I", .fieldLink RX4 21 "FallingWords$Rules" "rightLength" "[I", .fieldLink RX4 24 "FallingWords$Rules" "times" "[I", .methodLink RX4 37 yX4_isFull, .instanceMethod yX4_isFull, .selects RX4 yX4_isFull yX4_isFull, .code yX4_isFull cX4_isFull 1 (some .boolean), .static yX9_lengthOf, .initialized RX9, .code yX9_lengthOf cX9_lengthOf 3 (some .int)] ++ wsX60 ++ wsX70 ++ wsX40)
def wsX5_addRule_r1 : List Cond := [Cond.static yX9_lengthOf, Cond.initialized RX9, Cond.code yX9_lengthOf cX9_lengthOf 3 (some .int), Cond.methodLink RX5 40 yX5_failWith, Cond.instanceMethod yX5_failWith, Cond.selects RX5 yX5_failWith yX5_failWith, Cond.initialized RX5, Cond.code yX5_failWith cX5_failWith 3 none, Cond.fieldLink RX5 18 "FallingWords$Script" "reason" "I", Cond.fieldLink RX5 21 "FallingWords$Script" "cause" "I", Cond.instanceMethod yX4_hasSides, Cond.initialized RX4, Cond.selects RX4 yX4_hasSides yX4_hasSides, Cond.code yX4_hasSides cX4_hasSides 4 (some .boolean), Cond.fieldLink RX4 33 "FallingWords$Rules" "size" "I", Cond.fieldLink RX4 9 "FallingWords$Rules" "left" "[I", Cond.fieldLink RX4 15 "FallingWords$Rules" "right" "[I", Cond.instanceMethod yX4_isFull, Cond.selects RX4 yX4_isFull yX4_isFull, Cond.code yX4_isFull cX4_isFull 1 (some .boolean), Cond.instanceMethod yX6_addRule, Cond.initialized RX6, Cond.selects RX6 yX6_addRule yX6_addRule, Cond.code yX6_addRule cX6_addRule 3 none]
def wsX5_addRule_r2 : List Cond := [Cond.fieldLink RX6 12 "FallingWords$State" "rules" "LFallingWords$Rules;", Cond.fieldLink RX6 21 "FallingWords$State" "store" "LFallingWords$Store;", Cond.instanceMethod yX4_add, Cond.selects RX4 yX4_add yX4_add, Cond.code yX4_add cX4_add 3 none, Cond.fieldLink RX4 18 "FallingWords$Rules" "leftLength" "[I", Cond.fieldLink RX4 21 "FallingWords$Rules" "rightLength" "[I", Cond.fieldLink RX4 24 "FallingWords$Rules" "times" "[I", Cond.methodLink RX4 37 yX4_isFull]
def wsX5_addRule : List Cond := .code yX5_addRule cX5_addRule 6 none :: ((wsX5_addRule_r1 ++ wsX5_addRule_r2) ++ wsX60 ++ wsX50 ++ wsX40 ++ wsX70)
def wsX6_removeRule : List Cond := .code yX6_removeRule cX6_removeRule 2 none :: ([.fieldLink RX6 12 "FallingWords$State" "rules" "LFallingWords$Rules;", .fieldLink RX6 21 "FallingWords$State" "store" "LFallingWords$Store;", .instanceMethod yX4_remove, .initialized RX4, .selects RX4 yX4_remove yX4_remove, .code yX4_remove cX4_remove 3 none, .fieldLink RX4 33 "FallingWords$Rules" "size" "I", .fieldLink RX4 9 "FallingWords$Rules" "left" "[I", .fieldLink RX4 15 "FallingWords$Rules" "right" "[I", .fieldLink RX4 18 "FallingWords$Rules" "leftLength" "[I", .fieldLink RX4 21 "FallingWords$Rules" "rightLength" "[I", .fieldLink RX4 24 "FallingWords$Rules" "times" "[I", .methodLink RX4 47 yX4_contains, .instanceMethod yX4_contains, .selects RX4 yX4_contains yX4_contains, .code yX4_contains cX4_contains 2 (some .boolean)] ++ wsX60 ++ wsX70 ++ wsX40)
def wsX5_removeRule_r1 : List Cond := [Cond.instanceMethod yX4_contains, Cond.initialized RX4, Cond.selects RX4 yX4_contains yX4_contains, Cond.code yX4_contains cX4_contains 2 (some .boolean), Cond.fieldLink RX4 33 "FallingWords$Rules" "size" "I", Cond.instanceMethod yX6_removeRule, Cond.initialized RX6, Cond.selects RX6 yX6_removeRule yX6_removeRule, Cond.code yX6_removeRule cX6_removeRule 2 none, Cond.fieldLink RX6 12 "FallingWords$State" "rules" "LFallingWords$Rules;", Cond.fieldLink RX6 21 "FallingWords$State" "store" "LFallingWords$Store;", Cond.instanceMethod yX4_remove, Cond.selects RX4 yX4_remove yX4_remove, Cond.code yX4_remove cX4_remove 3 none, Cond.fieldLink RX4 9 "FallingWords$Rules" "left" "[I", Cond.fieldLink RX4 15 "FallingWords$Rules" "right" "[I", Cond.fieldLink RX4 18 "FallingWords$Rules" "leftLength" "[I", Cond.fieldLink RX4 21 "FallingWords$Rules" "rightLength" "[I", Cond.fieldLink RX4 24 "FallingWords$Rules" "times" "[I", Cond.methodLink RX4 47 yX4_contains, Cond.methodLink RX5 40 yX5_failWith, Cond.instanceMethod yX5_failWith, Cond.selects RX5 yX5_failWith yX5_failWith, Cond.initialized RX5]
def wsX5_removeRule_r2 : List Cond := [Cond.code yX5_failWith cX5_failWith 3 none, Cond.fieldLink RX5 18 "FallingWords$Script" "reason" "I", Cond.fieldLink RX5 21 "FallingWords$Script" "cause" "I"]
def wsX5_removeRule : List Cond := .code yX5_removeRule cX5_removeRule 3 none :: ((wsX5_removeRule_r1 ++ wsX5_removeRule_r2) ++ wsX60 ++ wsX40 ++ wsX70 ++ wsX50)
def wsX5_setWord : List Cond := .code yX5_setWord cX5_setWord 3 none :: ([.static yX9_lengthOf, .initialized RX9, .code yX9_lengthOf cX9_lengthOf 3 (some .int), .methodLink RX5 40 yX5_failWith, .instanceMethod yX5_failWith, .selects RX5 yX5_failWith yX5_failWith, .initialized RX5, .code yX5_failWith cX5_failWith 3 none, .fieldLink RX5 18 "FallingWords$Script" "reason" "I", .fieldLink RX5 21 "FallingWords$Script" "cause" "I"] ++ wsX60 ++ wsX50)
def wsX6_takeStep_r1 : List Cond := [Cond.fieldLink RX6 12 "FallingWords$State" "rules" "LFallingWords$Rules;", Cond.fieldLink RX6 27 "FallingWords$State" "word" "I", Cond.fieldLink RX6 31 "FallingWords$State" "choosing" "I", Cond.constant RX6 62 (-1000002), Cond.fieldLink RX6 44 "FallingWords$State" "steps" "I", Cond.instanceMethod yX4_choiceFor, Cond.initialized RX4, Cond.selects RX4 yX4_choiceFor yX4_choiceFor, Cond.code yX4_choiceFor cX4_choiceFor 12 (some .int), Cond.fieldLink RX4 33 "FallingWords$Rules" "size" "I", Cond.static yX9_lengthOf, Cond.initialized RX9, Cond.code yX9_lengthOf cX9_lengthOf 3 (some .int), Cond.methodLink RX4 51 yX4_appliesAt, Cond.instanceMethod yX4_appliesAt, Cond.selects RX4 yX4_appliesAt yX4_appliesAt, Cond.code yX4_appliesAt cX4_appliesAt 8 (some .boolean), Cond.fieldLink RX4 18 "FallingWords$Rules" "leftLength" "[I", Cond.fieldLink RX4 9 "FallingWords$Rules" "left" "[I", Cond.static yX4_ruleIn, Cond.code yX4_ruleIn cX4_ruleIn 1 (some .int), Cond.static yX4_placeIn, Cond.code yX4_placeIn cX4_placeIn 1 (some .int), Cond.instanceMethod yX4_applied]
def wsX6_takeStep_r2 : List Cond := [Cond.selects RX4 yX4_applied yX4_applied, Cond.code yX4_applied cX4_applied 9 (some .int), Cond.fieldLink RX4 15 "FallingWords$Rules" "right" "[I", Cond.fieldLink RX4 21 "FallingWords$Rules" "rightLength" "[I", Cond.static yX9_lastBits, Cond.code yX9_lastBits cX9_lastBits 2 (some .int)]
def wsX6_takeStep : List Cond := .code yX6_takeStep cX6_takeStep 3 (some .int) :: ((wsX6_takeStep_r1 ++ wsX6_takeStep_r2) ++ wsX60 ++ wsX40)
def wsX7_indexOf : List Cond := .code yX7_indexOf cX7_indexOf 3 (some .int) :: ([.fieldLink RX7 24 "FallingWords$Store" "size" "I", .fieldLink RX7 9 "FallingWords$Store" "words" "[I"] ++ wsX70)
def wsX7_setAhead : List Cond := .code yX7_setAhead cX7_setAhead 5 none :: ([.fieldLink RX7 9 "FallingWords$Store" "words" "[I", .fieldLink RX7 15 "FallingWords$Store" "normals" "[I"] ++ wsX70)
def wsX7_use : List Cond := .code yX7_use cX7_use 3 (some .int) :: ([.fieldLink RX7 15 "FallingWords$Store" "normals" "[I", .fieldLink RX7 9 "FallingWords$Store" "words" "[I", .methodLink RX7 28 yX7_setAhead, .instanceMethod yX7_setAhead, .selects RX7 yX7_setAhead yX7_setAhead, .initialized RX7, .code yX7_setAhead cX7_setAhead 5 none] ++ wsX70)
def wsX7_put : List Cond := .code yX7_put cX7_put 3 none :: ([.fieldLink RX7 24 "FallingWords$Store" "size" "I", .methodLink RX7 28 yX7_setAhead, .instanceMethod yX7_setAhead, .selects RX7 yX7_setAhead yX7_setAhead, .initialized RX7, .code yX7_setAhead cX7_setAhead 5 none, .fieldLink RX7 9 "FallingWords$Store" "words" "[I", .fieldLink RX7 15 "FallingWords$Store" "normals" "[I"] ++ wsX70)
def wsX6_reduce_r1 : List Cond := [Cond.fieldLink RX6 21 "FallingWords$State" "store" "LFallingWords$Store;", Cond.fieldLink RX6 27 "FallingWords$State" "word" "I", Cond.fieldLink RX6 41 "FallingWords$State" "taken" "I", Cond.fieldLink RX6 12 "FallingWords$State" "rules" "LFallingWords$Rules;", Cond.fieldLink RX6 31 "FallingWords$State" "choosing" "I", Cond.constant RX6 62 (-1000002), Cond.constant RX6 93 (-1000003), Cond.fieldLink RX6 44 "FallingWords$State" "steps" "I", Cond.instanceMethod yX7_indexOf, Cond.initialized RX7, Cond.selects RX7 yX7_indexOf yX7_indexOf, Cond.code yX7_indexOf cX7_indexOf 3 (some .int), Cond.fieldLink RX7 24 "FallingWords$Store" "size" "I", Cond.fieldLink RX7 9 "FallingWords$Store" "words" "[I", Cond.instanceMethod yX7_use, Cond.selects RX7 yX7_use yX7_use, Cond.code yX7_use cX7_use 3 (some .int), Cond.fieldLink RX7 15 "FallingWords$Store" "normals" "[I", Cond.methodLink RX7 28 yX7_setAhead, Cond.instanceMethod yX7_setAhead, Cond.selects RX7 yX7_setAhead yX7_setAhead, Cond.code yX7_setAhead cX7_setAhead 5 none, Cond.instanceMethod yX3_run, Cond.initialized RX3]
def wsX6_reduce_r2 : List Cond := [Cond.selects RX3 yX3_run yX3_run, Cond.code yX3_run cX3_run 5 none, Cond.fieldLink RX3 9 "FallingWords$Reduction" "words" "[I", Cond.fieldLink RX3 18 "FallingWords$Reduction" "steps" "I", Cond.fieldLink RX3 26 "FallingWords$Reduction" "ringStart" "I", Cond.fieldLink RX3 29 "FallingWords$Reduction" "outcome" "I", Cond.fieldLink RX3 15 "FallingWords$Reduction" "rulesUsed" "[I", Cond.methodLink RX3 22 yX3_firstTimeOf, Cond.instanceMethod yX3_firstTimeOf, Cond.selects RX3 yX3_firstTimeOf yX3_firstTimeOf, Cond.code yX3_firstTimeOf cX3_firstTimeOf 3 (some .int), Cond.instanceMethod yX4_choiceFor, Cond.initialized RX4, Cond.selects RX4 yX4_choiceFor yX4_choiceFor, Cond.code yX4_choiceFor cX4_choiceFor 12 (some .int), Cond.fieldLink RX4 33 "FallingWords$Rules" "size" "I", Cond.static yX9_lengthOf, Cond.initialized RX9, Cond.code yX9_lengthOf cX9_lengthOf 3 (some .int), Cond.methodLink RX4 51 yX4_appliesAt, Cond.instanceMethod yX4_appliesAt, Cond.selects RX4 yX4_appliesAt yX4_appliesAt, Cond.code yX4_appliesAt cX4_appliesAt 8 (some .boolean), Cond.fieldLink RX4 18 "FallingWords$Rules" "leftLength" "[I"]
def wsX6_reduce_r3 : List Cond := [Cond.fieldLink RX4 9 "FallingWords$Rules" "left" "[I", Cond.static yX4_ruleIn, Cond.code yX4_ruleIn cX4_ruleIn 1 (some .int), Cond.static yX4_placeIn, Cond.code yX4_placeIn cX4_placeIn 1 (some .int), Cond.instanceMethod yX4_applied, Cond.selects RX4 yX4_applied yX4_applied, Cond.code yX4_applied cX4_applied 9 (some .int), Cond.fieldLink RX4 15 "FallingWords$Rules" "right" "[I", Cond.fieldLink RX4 21 "FallingWords$Rules" "rightLength" "[I", Cond.static yX9_lastBits, Cond.code yX9_lastBits cX9_lastBits 2 (some .int), Cond.instanceMethod yX3_countRules, Cond.selects RX3 yX3_countRules yX3_countRules, Cond.code yX3_countRules cX3_countRules 3 none, Cond.instanceMethod yX3_last, Cond.selects RX3 yX3_last yX3_last, Cond.code yX3_last cX3_last 1 (some .int), Cond.instanceMethod yX7_put, Cond.selects RX7 yX7_put yX7_put, Cond.code yX7_put cX7_put 3 none]
def wsX6_reduce : List Cond := .code yX6_reduce cX6_reduce 3 (some .int) :: ((wsX6_reduce_r1 ++ (wsX6_reduce_r2 ++ wsX6_reduce_r3)) ++ wsX60 ++ wsX30 ++ wsX70 ++ wsX40)
def wsX6_setChoosing : List Cond := .code yX6_setChoosing cX6_setChoosing 2 none :: ([.fieldLink RX6 31 "FallingWords$State" "choosing" "I", .fieldLink RX6 21 "FallingWords$State" "store" "LFallingWords$Store;"] ++ wsX60 ++ wsX70)
def wsX5_setChoosing : List Cond := .code yX5_setChoosing cX5_setChoosing 3 none :: ([.instanceMethod yX6_setChoosing, .initialized RX6, .selects RX6 yX6_setChoosing yX6_setChoosing, .code yX6_setChoosing cX6_setChoosing 2 none, .fieldLink RX6 31 "FallingWords$State" "choosing" "I", .fieldLink RX6 21 "FallingWords$State" "store" "LFallingWords$Store;", .methodLink RX5 40 yX5_failWith, .instanceMethod yX5_failWith, .selects RX5 yX5_failWith yX5_failWith, .initialized RX5, .code yX5_failWith cX5_failWith 3 none, .fieldLink RX5 18 "FallingWords$Script" "reason" "I", .fieldLink RX5 21 "FallingWords$Script" "cause" "I"] ++ wsX60 ++ wsX70 ++ wsX50)
def wsX5_perform_r1 : List Cond := [Cond.methodLink RX5 53 yX5_addRule, Cond.instanceMethod yX5_addRule, Cond.selects RX5 yX5_addRule yX5_addRule, Cond.initialized RX5, Cond.code yX5_addRule cX5_addRule 6 none, Cond.static yX9_lengthOf, Cond.initialized RX9, Cond.code yX9_lengthOf cX9_lengthOf 3 (some .int), Cond.methodLink RX5 40 yX5_failWith, Cond.instanceMethod yX5_failWith, Cond.selects RX5 yX5_failWith yX5_failWith, Cond.code yX5_failWith cX5_failWith 3 none, Cond.fieldLink RX5 18 "FallingWords$Script" "reason" "I", Cond.fieldLink RX5 21 "FallingWords$Script" "cause" "I", Cond.instanceMethod yX4_hasSides, Cond.initialized RX4, Cond.selects RX4 yX4_hasSides yX4_hasSides, Cond.code yX4_hasSides cX4_hasSides 4 (some .boolean), Cond.fieldLink RX4 33 "FallingWords$Rules" "size" "I", Cond.fieldLink RX4 9 "FallingWords$Rules" "left" "[I", Cond.fieldLink RX4 15 "FallingWords$Rules" "right" "[I", Cond.instanceMethod yX4_isFull, Cond.selects RX4 yX4_isFull yX4_isFull, Cond.code yX4_isFull cX4_isFull 1 (some .boolean)]
def wsX5_perform_r2 : List Cond := [Cond.instanceMethod yX6_addRule, Cond.initialized RX6, Cond.selects RX6 yX6_addRule yX6_addRule, Cond.code yX6_addRule cX6_addRule 3 none, Cond.fieldLink RX6 12 "FallingWords$State" "rules" "LFallingWords$Rules;", Cond.fieldLink RX6 21 "FallingWords$State" "store" "LFallingWords$Store;", Cond.instanceMethod yX4_add, Cond.selects RX4 yX4_add yX4_add, Cond.code yX4_add cX4_add 3 none, Cond.fieldLink RX4 18 "FallingWords$Rules" "leftLength" "[I", Cond.fieldLink RX4 21 "FallingWords$Rules" "rightLength" "[I", Cond.fieldLink RX4 24 "FallingWords$Rules" "times" "[I", Cond.methodLink RX4 37 yX4_isFull, Cond.methodLink RX5 60 yX5_removeRule, Cond.instanceMethod yX5_removeRule, Cond.selects RX5 yX5_removeRule yX5_removeRule, Cond.code yX5_removeRule cX5_removeRule 3 none, Cond.instanceMethod yX4_contains, Cond.selects RX4 yX4_contains yX4_contains, Cond.code yX4_contains cX4_contains 2 (some .boolean), Cond.instanceMethod yX6_removeRule, Cond.selects RX6 yX6_removeRule yX6_removeRule, Cond.code yX6_removeRule cX6_removeRule 2 none, Cond.instanceMethod yX4_remove]
def wsX5_perform_r3 : List Cond := [Cond.selects RX4 yX4_remove yX4_remove, Cond.code yX4_remove cX4_remove 3 none, Cond.methodLink RX4 47 yX4_contains, Cond.methodLink RX5 64 yX5_setWord, Cond.instanceMethod yX5_setWord, Cond.selects RX5 yX5_setWord yX5_setWord, Cond.code yX5_setWord cX5_setWord 3 none, Cond.instanceMethod yX6_takeStep, Cond.selects RX6 yX6_takeStep yX6_takeStep, Cond.code yX6_takeStep cX6_takeStep 3 (some .int), Cond.fieldLink RX6 27 "FallingWords$State" "word" "I", Cond.fieldLink RX6 31 "FallingWords$State" "choosing" "I", Cond.constant RX6 62 (-1000002), Cond.fieldLink RX6 44 "FallingWords$State" "steps" "I", Cond.instanceMethod yX4_choiceFor, Cond.selects RX4 yX4_choiceFor yX4_choiceFor, Cond.code yX4_choiceFor cX4_choiceFor 12 (some .int), Cond.methodLink RX4 51 yX4_appliesAt, Cond.instanceMethod yX4_appliesAt, Cond.selects RX4 yX4_appliesAt yX4_appliesAt, Cond.code yX4_appliesAt cX4_appliesAt 8 (some .boolean), Cond.static yX4_ruleIn, Cond.code yX4_ruleIn cX4_ruleIn 1 (some .int), Cond.static yX4_placeIn]
def wsX5_perform_r4 : List Cond := [Cond.code yX4_placeIn cX4_placeIn 1 (some .int), Cond.instanceMethod yX4_applied, Cond.selects RX4 yX4_applied yX4_applied, Cond.code yX4_applied cX4_applied 9 (some .int), Cond.static yX9_lastBits, Cond.code yX9_lastBits cX9_lastBits 2 (some .int), Cond.instanceMethod yX6_reduce, Cond.selects RX6 yX6_reduce yX6_reduce, Cond.code yX6_reduce cX6_reduce 3 (some .int), Cond.fieldLink RX6 41 "FallingWords$State" "taken" "I", Cond.constant RX6 93 (-1000003), Cond.instanceMethod yX7_indexOf, Cond.initialized RX7, Cond.selects RX7 yX7_indexOf yX7_indexOf, Cond.code yX7_indexOf cX7_indexOf 3 (some .int), Cond.fieldLink RX7 24 "FallingWords$Store" "size" "I", Cond.fieldLink RX7 9 "FallingWords$Store" "words" "[I", Cond.instanceMethod yX7_use, Cond.selects RX7 yX7_use yX7_use, Cond.code yX7_use cX7_use 3 (some .int), Cond.fieldLink RX7 15 "FallingWords$Store" "normals" "[I", Cond.methodLink RX7 28 yX7_setAhead, Cond.instanceMethod yX7_setAhead, Cond.selects RX7 yX7_setAhead yX7_setAhead]
def wsX5_perform_r5 : List Cond := [Cond.code yX7_setAhead cX7_setAhead 5 none, Cond.instanceMethod yX3_run, Cond.initialized RX3, Cond.selects RX3 yX3_run yX3_run, Cond.code yX3_run cX3_run 5 none, Cond.fieldLink RX3 9 "FallingWords$Reduction" "words" "[I", Cond.fieldLink RX3 18 "FallingWords$Reduction" "steps" "I", Cond.fieldLink RX3 26 "FallingWords$Reduction" "ringStart" "I", Cond.fieldLink RX3 29 "FallingWords$Reduction" "outcome" "I", Cond.fieldLink RX3 15 "FallingWords$Reduction" "rulesUsed" "[I", Cond.methodLink RX3 22 yX3_firstTimeOf, Cond.instanceMethod yX3_firstTimeOf, Cond.selects RX3 yX3_firstTimeOf yX3_firstTimeOf, Cond.code yX3_firstTimeOf cX3_firstTimeOf 3 (some .int), Cond.instanceMethod yX3_countRules, Cond.selects RX3 yX3_countRules yX3_countRules, Cond.code yX3_countRules cX3_countRules 3 none, Cond.instanceMethod yX3_last, Cond.selects RX3 yX3_last yX3_last, Cond.code yX3_last cX3_last 1 (some .int), Cond.instanceMethod yX7_put, Cond.selects RX7 yX7_put yX7_put, Cond.code yX7_put cX7_put 3 none, Cond.methodLink RX5 77 yX5_setChoosing]
def wsX5_perform_r6 : List Cond := [Cond.instanceMethod yX5_setChoosing, Cond.selects RX5 yX5_setChoosing yX5_setChoosing, Cond.code yX5_setChoosing cX5_setChoosing 3 none, Cond.instanceMethod yX6_setChoosing, Cond.selects RX6 yX6_setChoosing yX6_setChoosing, Cond.code yX6_setChoosing cX6_setChoosing 2 none]
def wsX5_perform : List Cond := .code yX5_perform cX5_perform 4 none :: ((wsX5_perform_r1 ++ (wsX5_perform_r2 ++ (wsX5_perform_r3 ++ (wsX5_perform_r4 ++ (wsX5_perform_r5 ++ wsX5_perform_r6))))) ++ wsX80 ++ wsX60 ++ wsX50 ++ wsX40 ++ wsX70 ++ wsX30)
def wsX5_run_r1 : List Cond := [Cond.fieldLink RX5 9 "FallingWords$Script" "done" "I", Cond.fieldLink RX5 15 "FallingWords$Script" "position" "I", Cond.fieldLink RX5 18 "FallingWords$Script" "reason" "I", Cond.fieldLink RX5 21 "FallingWords$Script" "cause" "I", Cond.instanceMethod yX8_readCommand, Cond.initialized RX8, Cond.selects RX8 yX8_readCommand yX8_readCommand, Cond.code yX8_readCommand cX8_readCommand 2 (some .boolean), Cond.fieldLink RX8 23 "FallingWords$Text" "at" "I", Cond.fieldLink RX8 30 "FallingWords$Text" "kind" "I", Cond.fieldLink RX8 36 "FallingWords$Text" "firstWord" "I", Cond.fieldLink RX8 43 "FallingWords$Text" "secondWord" "I", Cond.methodLink RX8 26 yX8_here, Cond.instanceMethod yX8_here, Cond.selects RX8 yX8_here yX8_here, Cond.code yX8_here cX8_here 1 (some .int), Cond.fieldLink RX8 15 "FallingWords$Text" "size" "I", Cond.fieldLink RX8 9 "FallingWords$Text" "characters" "[C", Cond.methodLink RX8 33 yX8_readWord, Cond.instanceMethod yX8_readWord, Cond.selects RX8 yX8_readWord yX8_readWord, Cond.code yX8_readWord cX8_readWord 3 (some .int), Cond.static yX9_withLetter, Cond.initialized RX9]
def wsX5_run_r2 : List Cond := [Cond.code yX9_withLetter cX9_withLetter 2 (some .int), Cond.methodLink RX8 39 yX8_passes, Cond.instanceMethod yX8_passes, Cond.selects RX8 yX8_passes yX8_passes, Cond.code yX8_passes cX8_passes 2 (some .boolean), Cond.methodLink RX8 46 yX8_readDigit, Cond.instanceMethod yX8_readDigit, Cond.selects RX8 yX8_readDigit yX8_readDigit, Cond.code yX8_readDigit cX8_readDigit 2 (some .boolean), Cond.fieldLink RX8 49 "FallingWords$Text" "digit" "I", Cond.methodLink RX5 33 yX5_perform, Cond.instanceMethod yX5_perform, Cond.selects RX5 yX5_perform yX5_perform, Cond.initialized RX5, Cond.code yX5_perform cX5_perform 4 none, Cond.methodLink RX5 53 yX5_addRule, Cond.instanceMethod yX5_addRule, Cond.selects RX5 yX5_addRule yX5_addRule, Cond.code yX5_addRule cX5_addRule 6 none, Cond.static yX9_lengthOf, Cond.code yX9_lengthOf cX9_lengthOf 3 (some .int), Cond.methodLink RX5 40 yX5_failWith, Cond.instanceMethod yX5_failWith, Cond.selects RX5 yX5_failWith yX5_failWith]
def wsX5_run_r3 : List Cond := [Cond.code yX5_failWith cX5_failWith 3 none, Cond.instanceMethod yX4_hasSides, Cond.initialized RX4, Cond.selects RX4 yX4_hasSides yX4_hasSides, Cond.code yX4_hasSides cX4_hasSides 4 (some .boolean), Cond.fieldLink RX4 33 "FallingWords$Rules" "size" "I", Cond.fieldLink RX4 9 "FallingWords$Rules" "left" "[I", Cond.fieldLink RX4 15 "FallingWords$Rules" "right" "[I", Cond.instanceMethod yX4_isFull, Cond.selects RX4 yX4_isFull yX4_isFull, Cond.code yX4_isFull cX4_isFull 1 (some .boolean), Cond.instanceMethod yX6_addRule, Cond.initialized RX6, Cond.selects RX6 yX6_addRule yX6_addRule, Cond.code yX6_addRule cX6_addRule 3 none, Cond.fieldLink RX6 12 "FallingWords$State" "rules" "LFallingWords$Rules;", Cond.fieldLink RX6 21 "FallingWords$State" "store" "LFallingWords$Store;", Cond.instanceMethod yX4_add, Cond.selects RX4 yX4_add yX4_add, Cond.code yX4_add cX4_add 3 none, Cond.fieldLink RX4 18 "FallingWords$Rules" "leftLength" "[I", Cond.fieldLink RX4 21 "FallingWords$Rules" "rightLength" "[I", Cond.fieldLink RX4 24 "FallingWords$Rules" "times" "[I", Cond.methodLink RX4 37 yX4_isFull]
def wsX5_run_r4 : List Cond := [Cond.methodLink RX5 60 yX5_removeRule, Cond.instanceMethod yX5_removeRule, Cond.selects RX5 yX5_removeRule yX5_removeRule, Cond.code yX5_removeRule cX5_removeRule 3 none, Cond.instanceMethod yX4_contains, Cond.selects RX4 yX4_contains yX4_contains, Cond.code yX4_contains cX4_contains 2 (some .boolean), Cond.instanceMethod yX6_removeRule, Cond.selects RX6 yX6_removeRule yX6_removeRule, Cond.code yX6_removeRule cX6_removeRule 2 none, Cond.instanceMethod yX4_remove, Cond.selects RX4 yX4_remove yX4_remove, Cond.code yX4_remove cX4_remove 3 none, Cond.methodLink RX4 47 yX4_contains, Cond.methodLink RX5 64 yX5_setWord, Cond.instanceMethod yX5_setWord, Cond.selects RX5 yX5_setWord yX5_setWord, Cond.code yX5_setWord cX5_setWord 3 none, Cond.instanceMethod yX6_takeStep, Cond.selects RX6 yX6_takeStep yX6_takeStep, Cond.code yX6_takeStep cX6_takeStep 3 (some .int), Cond.fieldLink RX6 27 "FallingWords$State" "word" "I", Cond.fieldLink RX6 31 "FallingWords$State" "choosing" "I", Cond.constant RX6 62 (-1000002)]
def wsX5_run_r5 : List Cond := [Cond.fieldLink RX6 44 "FallingWords$State" "steps" "I", Cond.instanceMethod yX4_choiceFor, Cond.selects RX4 yX4_choiceFor yX4_choiceFor, Cond.code yX4_choiceFor cX4_choiceFor 12 (some .int), Cond.methodLink RX4 51 yX4_appliesAt, Cond.instanceMethod yX4_appliesAt, Cond.selects RX4 yX4_appliesAt yX4_appliesAt, Cond.code yX4_appliesAt cX4_appliesAt 8 (some .boolean), Cond.static yX4_ruleIn, Cond.code yX4_ruleIn cX4_ruleIn 1 (some .int), Cond.static yX4_placeIn, Cond.code yX4_placeIn cX4_placeIn 1 (some .int), Cond.instanceMethod yX4_applied, Cond.selects RX4 yX4_applied yX4_applied, Cond.code yX4_applied cX4_applied 9 (some .int), Cond.static yX9_lastBits, Cond.code yX9_lastBits cX9_lastBits 2 (some .int), Cond.instanceMethod yX6_reduce, Cond.selects RX6 yX6_reduce yX6_reduce, Cond.code yX6_reduce cX6_reduce 3 (some .int), Cond.fieldLink RX6 41 "FallingWords$State" "taken" "I", Cond.constant RX6 93 (-1000003), Cond.instanceMethod yX7_indexOf, Cond.initialized RX7]
def wsX5_run_r6 : List Cond := [Cond.selects RX7 yX7_indexOf yX7_indexOf, Cond.code yX7_indexOf cX7_indexOf 3 (some .int), Cond.fieldLink RX7 24 "FallingWords$Store" "size" "I", Cond.fieldLink RX7 9 "FallingWords$Store" "words" "[I", Cond.instanceMethod yX7_use, Cond.selects RX7 yX7_use yX7_use, Cond.code yX7_use cX7_use 3 (some .int), Cond.fieldLink RX7 15 "FallingWords$Store" "normals" "[I", Cond.methodLink RX7 28 yX7_setAhead, Cond.instanceMethod yX7_setAhead, Cond.selects RX7 yX7_setAhead yX7_setAhead, Cond.code yX7_setAhead cX7_setAhead 5 none, Cond.instanceMethod yX3_run, Cond.initialized RX3, Cond.selects RX3 yX3_run yX3_run, Cond.code yX3_run cX3_run 5 none, Cond.fieldLink RX3 9 "FallingWords$Reduction" "words" "[I", Cond.fieldLink RX3 18 "FallingWords$Reduction" "steps" "I", Cond.fieldLink RX3 26 "FallingWords$Reduction" "ringStart" "I", Cond.fieldLink RX3 29 "FallingWords$Reduction" "outcome" "I", Cond.fieldLink RX3 15 "FallingWords$Reduction" "rulesUsed" "[I", Cond.methodLink RX3 22 yX3_firstTimeOf, Cond.instanceMethod yX3_firstTimeOf, Cond.selects RX3 yX3_firstTimeOf yX3_firstTimeOf]
def wsX5_run_r7 : List Cond := [Cond.code yX3_firstTimeOf cX3_firstTimeOf 3 (some .int), Cond.instanceMethod yX3_countRules, Cond.selects RX3 yX3_countRules yX3_countRules, Cond.code yX3_countRules cX3_countRules 3 none, Cond.instanceMethod yX3_last, Cond.selects RX3 yX3_last yX3_last, Cond.code yX3_last cX3_last 1 (some .int), Cond.instanceMethod yX7_put, Cond.selects RX7 yX7_put yX7_put, Cond.code yX7_put cX7_put 3 none, Cond.methodLink RX5 77 yX5_setChoosing, Cond.instanceMethod yX5_setChoosing, Cond.selects RX5 yX5_setChoosing yX5_setChoosing, Cond.code yX5_setChoosing cX5_setChoosing 3 none, Cond.instanceMethod yX6_setChoosing, Cond.selects RX6 yX6_setChoosing yX6_setChoosing, Cond.code yX6_setChoosing cX6_setChoosing 2 none]
def wsX5_run : List Cond := .code yX5_run cX5_run 5 none :: ((wsX5_run_r1 ++ (wsX5_run_r2 ++ (wsX5_run_r3 ++ (wsX5_run_r4 ++ (wsX5_run_r5 ++ (wsX5_run_r6 ++ wsX5_run_r7)))))) ++ wsX50 ++ wsX80 ++ wsX60 ++ wsX40 ++ wsX70 ++ wsX30)
def wsX8_init : List Cond := .code yX8_init cX8_init 1 none :: ([.methodLink RX8 3 objectInit, .instanceMethod objectInit, .code objectInit ⟨#[0xb1]⟩ 1 none, .arrayClass .char, .fieldLink RX8 9 "FallingWords$Text" "characters" "[C"] ++ wsX80)
def wsX8_isFull : List Cond := .code yX8_isFull cX8_isFull 1 (some .boolean) :: ([.fieldLink RX8 15 "FallingWords$Text" "size" "I"] ++ wsX80)
def wsX8_append : List Cond := .code yX8_append cX8_append 2 none :: ([.fieldLink RX8 9 "FallingWords$Text" "characters" "[C", .fieldLink RX8 15 "FallingWords$Text" "size" "I", .methodLink RX8 19 yX8_isFull, .instanceMethod yX8_isFull, .selects RX8 yX8_isFull yX8_isFull, .initialized RX8, .code yX8_isFull cX8_isFull 1 (some .boolean)] ++ wsX80)
def wsX9_letterOf : List Cond := .code yX9_letterOf cX9_letterOf 3 (some .int) :: ([.constant RX9 15 (-1000004), .methodLink RX9 9 yX9_lengthOf, .static yX9_lengthOf, .initialized RX9, .code yX9_lengthOf cX9_lengthOf 3 (some .int)])
def wsX10_init_r1 : List Cond := [Cond.methodLink RX10 1 objectInit, Cond.instanceMethod objectInit, Cond.code objectInit ⟨#[0xb1]⟩ 1 none, Cond.classLink RX10 7 RX6, Cond.instantiable RX6 6, Cond.initialized RX6, Cond.fieldLink RX10 10 "FallingWords" "now" "LFallingWords$State;", Cond.fieldLink RX10 16 "FallingWords" "trial" "LFallingWords$State;", Cond.classLink RX10 19 RX0, Cond.instantiable RX0 2, Cond.initialized RX0, Cond.fieldLink RX10 22 "FallingWords" "history" "LFallingWords$History;", Cond.classLink RX10 26 RX3, Cond.instantiable RX3 5, Cond.initialized RX3, Cond.fieldLink RX10 29 "FallingWords" "reduction" "LFallingWords$Reduction;", Cond.classLink RX10 33 RX2, Cond.instantiable RX2 7, Cond.initialized RX2, Cond.fieldLink RX10 36 "FallingWords" "reach" "LFallingWords$Reach;", Cond.classLink RX10 40 RX1, Cond.instantiable RX1 6, Cond.initialized RX1, Cond.fieldLink RX10 43 "FallingWords" "overlaps" "LFallingWords$Overlaps;"]
def wsX10_init_r2 : List Cond := [Cond.classLink RX10 47 RX8, Cond.instantiable RX8 7, Cond.initialized RX8, Cond.fieldLink RX10 50 "FallingWords" "text" "LFallingWords$Text;", Cond.classLink RX10 54 RX5, Cond.instantiable RX5 4, Cond.initialized RX5, Cond.fieldLink RX10 57 "FallingWords" "script" "LFallingWords$Script;", Cond.instanceMethod yX6_init, Cond.code yX6_init cX6_init 1 none, Cond.methodLink RX6 3 objectInit, Cond.classLink RX6 9 RX4, Cond.instantiable RX4 6, Cond.initialized RX4, Cond.fieldLink RX6 12 "FallingWords$State" "rules" "LFallingWords$Rules;", Cond.classLink RX6 18 RX7, Cond.instantiable RX7 3, Cond.initialized RX7, Cond.fieldLink RX6 21 "FallingWords$State" "store" "LFallingWords$Store;", Cond.fieldLink RX6 27 "FallingWords$State" "word" "I", Cond.fieldLink RX6 31 "FallingWords$State" "choosing" "I", Cond.instanceMethod yX4_init, Cond.code yX4_init cX4_init 1 none, Cond.methodLink RX4 3 objectInit]
def wsX10_init_r3 : List Cond := [Cond.arrayClass .int, Cond.fieldLink RX4 9 "FallingWords$Rules" "left" "[I", Cond.fieldLink RX4 15 "FallingWords$Rules" "right" "[I", Cond.fieldLink RX4 18 "FallingWords$Rules" "leftLength" "[I", Cond.fieldLink RX4 21 "FallingWords$Rules" "rightLength" "[I", Cond.fieldLink RX4 24 "FallingWords$Rules" "times" "[I", Cond.instanceMethod yX7_init, Cond.code yX7_init cX7_init 1 none, Cond.methodLink RX7 3 objectInit, Cond.fieldLink RX7 9 "FallingWords$Store" "words" "[I", Cond.fieldLink RX7 15 "FallingWords$Store" "normals" "[I", Cond.instanceMethod yX0_init, Cond.code yX0_init cX0_init 2 none, Cond.methodLink RX0 3 objectInit, Cond.classLink RX0 9 RX6, Cond.fieldLink RX0 11 "FallingWords$History" "states" "[LFallingWords$State;", Cond.instanceMethod yX3_init, Cond.code yX3_init cX3_init 1 none, Cond.methodLink RX3 3 objectInit, Cond.fieldLink RX3 9 "FallingWords$Reduction" "words" "[I", Cond.fieldLink RX3 15 "FallingWords$Reduction" "rulesUsed" "[I", Cond.instanceMethod yX2_init, Cond.code yX2_init cX2_init 1 none, Cond.methodLink RX2 3 objectInit]
def wsX10_init_r4 : List Cond := [Cond.fieldLink RX2 9 "FallingWords$Reach" "words" "[I", Cond.fieldLink RX2 15 "FallingWords$Reach" "seats" "[I", Cond.instanceMethod yX1_init, Cond.code yX1_init cX1_init 1 none, Cond.methodLink RX1 3 objectInit, Cond.instanceMethod yX8_init, Cond.code yX8_init cX8_init 1 none, Cond.methodLink RX8 3 objectInit, Cond.arrayClass .char, Cond.fieldLink RX8 9 "FallingWords$Text" "characters" "[C", Cond.instanceMethod yX5_init, Cond.code yX5_init cX5_init 1 none, Cond.methodLink RX5 3 objectInit]
def wsX10_init : List Cond := .code yX10_init cX10_init 1 none :: ((wsX10_init_r1 ++ (wsX10_init_r2 ++ (wsX10_init_r3 ++ wsX10_init_r4))) ++ wsX60 ++ wsX100 ++ wsX00 ++ wsX30 ++ wsX20 ++ wsX10 ++ wsX80 ++ wsX50 ++ wsX40 ++ wsX70)
def wsX10_startTrial_r1 : List Cond := [Cond.fieldLink RX10 16 "FallingWords" "trial" "LFallingWords$State;", Cond.fieldLink RX10 10 "FallingWords" "now" "LFallingWords$State;", Cond.instanceMethod yX6_takeOver, Cond.initialized RX6, Cond.selects RX6 yX6_takeOver yX6_takeOver, Cond.code yX6_takeOver cX6_takeOver 2 none, Cond.fieldLink RX6 12 "FallingWords$State" "rules" "LFallingWords$Rules;", Cond.fieldLink RX6 21 "FallingWords$State" "store" "LFallingWords$Store;", Cond.fieldLink RX6 27 "FallingWords$State" "word" "I", Cond.fieldLink RX6 31 "FallingWords$State" "choosing" "I", Cond.fieldLink RX6 41 "FallingWords$State" "taken" "I", Cond.fieldLink RX6 44 "FallingWords$State" "steps" "I", Cond.instanceMethod yX4_takeOver, Cond.initialized RX4, Cond.selects RX4 yX4_takeOver yX4_takeOver, Cond.code yX4_takeOver cX4_takeOver 2 none, Cond.fieldLink RX4 9 "FallingWords$Rules" "left" "[I", Cond.methodLink RX4 27 arraycopyName, Cond.native arraycopyName, Cond.static arraycopyName, Cond.initialized "java/lang/System", Cond.fieldLink RX4 15 "FallingWords$Rules" "right" "[I", Cond.fieldLink RX4 18 "FallingWords$Rules" "leftLength" "[I", Cond.fieldLink RX4 21 "FallingWords$Rules" "rightLength" "[I"]
def wsX10_startTrial_r2 : List Cond := [Cond.fieldLink RX4 24 "FallingWords$Rules" "times" "[I", Cond.fieldLink RX4 33 "FallingWords$Rules" "size" "I", Cond.instanceMethod yX7_takeOver, Cond.initialized RX7, Cond.selects RX7 yX7_takeOver yX7_takeOver, Cond.code yX7_takeOver cX7_takeOver 2 none, Cond.fieldLink RX7 9 "FallingWords$Store" "words" "[I", Cond.methodLink RX7 18 arraycopyName, Cond.fieldLink RX7 15 "FallingWords$Store" "normals" "[I", Cond.fieldLink RX7 24 "FallingWords$Store" "size" "I"]
def wsX10_startTrial : List Cond := .code yX10_startTrial cX10_startTrial 1 none :: ((wsX10_startTrial_r1 ++ wsX10_startTrial_r2) ++ wsX100 ++ wsX60 ++ wsX40 ++ wsX70)
def wsX10_keepTrial_r1 : List Cond := [Cond.fieldLink RX10 22 "FallingWords" "history" "LFallingWords$History;", Cond.fieldLink RX10 10 "FallingWords" "now" "LFallingWords$State;", Cond.fieldLink RX10 16 "FallingWords" "trial" "LFallingWords$State;", Cond.instanceMethod yX0_keep, Cond.initialized RX0, Cond.selects RX0 yX0_keep yX0_keep, Cond.code yX0_keep cX0_keep 2 none, Cond.fieldLink RX0 18 "FallingWords$History" "size" "I", Cond.fieldLink RX0 11 "FallingWords$History" "states" "[LFallingWords$State;", Cond.methodLink RX0 22 yX0_forgetOldest, Cond.instanceMethod yX0_forgetOldest, Cond.selects RX0 yX0_forgetOldest yX0_forgetOldest, Cond.code yX0_forgetOldest cX0_forgetOldest 3 none, Cond.instanceMethod yX6_takeOver, Cond.initialized RX6, Cond.selects RX6 yX6_takeOver yX6_takeOver, Cond.code yX6_takeOver cX6_takeOver 2 none, Cond.fieldLink RX6 12 "FallingWords$State" "rules" "LFallingWords$Rules;", Cond.fieldLink RX6 21 "FallingWords$State" "store" "LFallingWords$Store;", Cond.fieldLink RX6 27 "FallingWords$State" "word" "I", Cond.fieldLink RX6 31 "FallingWords$State" "choosing" "I", Cond.fieldLink RX6 41 "FallingWords$State" "taken" "I", Cond.fieldLink RX6 44 "FallingWords$State" "steps" "I", Cond.instanceMethod yX4_takeOver]
def wsX10_keepTrial_r2 : List Cond := [Cond.initialized RX4, Cond.selects RX4 yX4_takeOver yX4_takeOver, Cond.code yX4_takeOver cX4_takeOver 2 none, Cond.fieldLink RX4 9 "FallingWords$Rules" "left" "[I", Cond.methodLink RX4 27 arraycopyName, Cond.native arraycopyName, Cond.static arraycopyName, Cond.initialized "java/lang/System", Cond.fieldLink RX4 15 "FallingWords$Rules" "right" "[I", Cond.fieldLink RX4 18 "FallingWords$Rules" "leftLength" "[I", Cond.fieldLink RX4 21 "FallingWords$Rules" "rightLength" "[I", Cond.fieldLink RX4 24 "FallingWords$Rules" "times" "[I", Cond.fieldLink RX4 33 "FallingWords$Rules" "size" "I", Cond.instanceMethod yX7_takeOver, Cond.initialized RX7, Cond.selects RX7 yX7_takeOver yX7_takeOver, Cond.code yX7_takeOver cX7_takeOver 2 none, Cond.fieldLink RX7 9 "FallingWords$Store" "words" "[I", Cond.methodLink RX7 18 arraycopyName, Cond.fieldLink RX7 15 "FallingWords$Store" "normals" "[I", Cond.fieldLink RX7 24 "FallingWords$Store" "size" "I"]
def wsX10_keepTrial : List Cond := .code yX10_keepTrial cX10_keepTrial 1 none :: ((wsX10_keepTrial_r1 ++ wsX10_keepTrial_r2) ++ wsX100 ++ wsX00 ++ wsX60 ++ wsX40 ++ wsX70)
def wsX10_drop_r1 : List Cond := [Cond.fieldLink RX10 10 "FallingWords" "now" "LFallingWords$State;", Cond.constant RX10 71 (-1000001), Cond.fieldLink RX10 16 "FallingWords" "trial" "LFallingWords$State;", Cond.instanceMethod yX4_contains, Cond.initialized RX4, Cond.selects RX4 yX4_contains yX4_contains, Cond.code yX4_contains cX4_contains 2 (some .boolean), Cond.fieldLink RX4 33 "FallingWords$Rules" "size" "I", Cond.methodLink RX10 72 yX10_startTrial, Cond.instanceMethod yX10_startTrial, Cond.selects RX10 yX10_startTrial yX10_startTrial, Cond.initialized RX10, Cond.code yX10_startTrial cX10_startTrial 1 none, Cond.instanceMethod yX6_takeOver, Cond.initialized RX6, Cond.selects RX6 yX6_takeOver yX6_takeOver, Cond.code yX6_takeOver cX6_takeOver 2 none, Cond.fieldLink RX6 12 "FallingWords$State" "rules" "LFallingWords$Rules;", Cond.fieldLink RX6 21 "FallingWords$State" "store" "LFallingWords$Store;", Cond.fieldLink RX6 27 "FallingWords$State" "word" "I", Cond.fieldLink RX6 31 "FallingWords$State" "choosing" "I", Cond.fieldLink RX6 41 "FallingWords$State" "taken" "I", Cond.fieldLink RX6 44 "FallingWords$State" "steps" "I", Cond.instanceMethod yX4_takeOver]
def wsX10_drop_r2 : List Cond := [Cond.selects RX4 yX4_takeOver yX4_takeOver, Cond.code yX4_takeOver cX4_takeOver 2 none, Cond.fieldLink RX4 9 "FallingWords$Rules" "left" "[I", Cond.methodLink RX4 27 arraycopyName, Cond.native arraycopyName, Cond.static arraycopyName, Cond.initialized "java/lang/System", Cond.fieldLink RX4 15 "FallingWords$Rules" "right" "[I", Cond.fieldLink RX4 18 "FallingWords$Rules" "leftLength" "[I", Cond.fieldLink RX4 21 "FallingWords$Rules" "rightLength" "[I", Cond.fieldLink RX4 24 "FallingWords$Rules" "times" "[I", Cond.instanceMethod yX7_takeOver, Cond.initialized RX7, Cond.selects RX7 yX7_takeOver yX7_takeOver, Cond.code yX7_takeOver cX7_takeOver 2 none, Cond.fieldLink RX7 9 "FallingWords$Store" "words" "[I", Cond.methodLink RX7 18 arraycopyName, Cond.fieldLink RX7 15 "FallingWords$Store" "normals" "[I", Cond.fieldLink RX7 24 "FallingWords$Store" "size" "I", Cond.instanceMethod yX6_removeRule, Cond.selects RX6 yX6_removeRule yX6_removeRule, Cond.code yX6_removeRule cX6_removeRule 2 none, Cond.instanceMethod yX4_remove, Cond.selects RX4 yX4_remove yX4_remove]
def wsX10_drop_r3 : List Cond := [Cond.code yX4_remove cX4_remove 3 none, Cond.methodLink RX4 47 yX4_contains, Cond.methodLink RX10 79 yX10_keepTrial, Cond.instanceMethod yX10_keepTrial, Cond.selects RX10 yX10_keepTrial yX10_keepTrial, Cond.code yX10_keepTrial cX10_keepTrial 1 none, Cond.fieldLink RX10 22 "FallingWords" "history" "LFallingWords$History;", Cond.instanceMethod yX0_keep, Cond.initialized RX0, Cond.selects RX0 yX0_keep yX0_keep, Cond.code yX0_keep cX0_keep 2 none, Cond.fieldLink RX0 18 "FallingWords$History" "size" "I", Cond.fieldLink RX0 11 "FallingWords$History" "states" "[LFallingWords$State;", Cond.methodLink RX0 22 yX0_forgetOldest, Cond.instanceMethod yX0_forgetOldest, Cond.selects RX0 yX0_forgetOldest yX0_forgetOldest, Cond.code yX0_forgetOldest cX0_forgetOldest 3 none]
def wsX10_drop : List Cond := .code yX10_drop cX10_drop 2 (some .int) :: ((wsX10_drop_r1 ++ (wsX10_drop_r2 ++ wsX10_drop_r3)) ++ wsX100 ++ wsX60 ++ wsX40 ++ wsX70 ++ wsX00)
def wsX10_way_r1 : List Cond := [Cond.constant RX10 71 (-1000001), Cond.fieldLink RX10 10 "FallingWords" "now" "LFallingWords$State;", Cond.fieldLink RX10 16 "FallingWords" "trial" "LFallingWords$State;", Cond.methodLink RX10 72 yX10_startTrial, Cond.instanceMethod yX10_startTrial, Cond.selects RX10 yX10_startTrial yX10_startTrial, Cond.initialized RX10, Cond.code yX10_startTrial cX10_startTrial 1 none, Cond.instanceMethod yX6_takeOver, Cond.initialized RX6, Cond.selects RX6 yX6_takeOver yX6_takeOver, Cond.code yX6_takeOver cX6_takeOver 2 none, Cond.fieldLink RX6 12 "FallingWords$State" "rules" "LFallingWords$Rules;", Cond.fieldLink RX6 21 "FallingWords$State" "store" "LFallingWords$Store;", Cond.fieldLink RX6 27 "FallingWords$State" "word" "I", Cond.fieldLink RX6 31 "FallingWords$State" "choosing" "I", Cond.fieldLink RX6 41 "FallingWords$State" "taken" "I", Cond.fieldLink RX6 44 "FallingWords$State" "steps" "I", Cond.instanceMethod yX4_takeOver, Cond.initialized RX4, Cond.selects RX4 yX4_takeOver yX4_takeOver, Cond.code yX4_takeOver cX4_takeOver 2 none, Cond.fieldLink RX4 9 "FallingWords$Rules" "left" "[I", Cond.methodLink RX4 27 arraycopyName]
def wsX10_way_r2 : List Cond := [Cond.native arraycopyName, Cond.static arraycopyName, Cond.initialized "java/lang/System", Cond.fieldLink RX4 15 "FallingWords$Rules" "right" "[I", Cond.fieldLink RX4 18 "FallingWords$Rules" "leftLength" "[I", Cond.fieldLink RX4 21 "FallingWords$Rules" "rightLength" "[I", Cond.fieldLink RX4 24 "FallingWords$Rules" "times" "[I", Cond.fieldLink RX4 33 "FallingWords$Rules" "size" "I", Cond.instanceMethod yX7_takeOver, Cond.initialized RX7, Cond.selects RX7 yX7_takeOver yX7_takeOver, Cond.code yX7_takeOver cX7_takeOver 2 none, Cond.fieldLink RX7 9 "FallingWords$Store" "words" "[I", Cond.methodLink RX7 18 arraycopyName, Cond.fieldLink RX7 15 "FallingWords$Store" "normals" "[I", Cond.fieldLink RX7 24 "FallingWords$Store" "size" "I", Cond.instanceMethod yX6_setChoosing, Cond.selects RX6 yX6_setChoosing yX6_setChoosing, Cond.code yX6_setChoosing cX6_setChoosing 2 none, Cond.methodLink RX10 79 yX10_keepTrial, Cond.instanceMethod yX10_keepTrial, Cond.selects RX10 yX10_keepTrial yX10_keepTrial, Cond.code yX10_keepTrial cX10_keepTrial 1 none, Cond.fieldLink RX10 22 "FallingWords" "history" "LFallingWords$History;"]
def wsX10_way_r3 : List Cond := [Cond.instanceMethod yX0_keep, Cond.initialized RX0, Cond.selects RX0 yX0_keep yX0_keep, Cond.code yX0_keep cX0_keep 2 none, Cond.fieldLink RX0 18 "FallingWords$History" "size" "I", Cond.fieldLink RX0 11 "FallingWords$History" "states" "[LFallingWords$State;", Cond.methodLink RX0 22 yX0_forgetOldest, Cond.instanceMethod yX0_forgetOldest, Cond.selects RX0 yX0_forgetOldest yX0_forgetOldest, Cond.code yX0_forgetOldest cX0_forgetOldest 3 none]
def wsX10_way : List Cond := .code yX10_way cX10_way 3 (some .int) :: ((wsX10_way_r1 ++ (wsX10_way_r2 ++ wsX10_way_r3)) ++ wsX100 ++ wsX60 ++ wsX40 ++ wsX70 ++ wsX00)
def wsX10_isLetterOf : List Cond := .code yX10_isLetterOf cX10_isLetterOf 3 (some .boolean) :: ([])
def wsX10_ruleOf_r1 : List Cond := [Cond.fieldLink RX10 10 "FallingWords" "now" "LFallingWords$State;", Cond.constant RX10 71 (-1000001), Cond.instanceMethod yX4_contains, Cond.initialized RX4, Cond.selects RX4 yX4_contains yX4_contains, Cond.code yX4_contains cX4_contains 2 (some .boolean), Cond.fieldLink RX4 33 "FallingWords$Rules" "size" "I", Cond.methodLink RX10 92 yX10_isLetterOf, Cond.static yX10_isLetterOf, Cond.initialized RX10, Cond.code yX10_isLetterOf cX10_isLetterOf 3 (some .boolean), Cond.static yX9_letterOf, Cond.initialized RX9, Cond.code yX9_letterOf cX9_letterOf 3 (some .int), Cond.constant RX9 15 (-1000004), Cond.methodLink RX9 9 yX9_lengthOf, Cond.static yX9_lengthOf, Cond.code yX9_lengthOf cX9_lengthOf 3 (some .int), Cond.instanceMethod yX4_placesIn, Cond.selects RX4 yX4_placesIn yX4_placesIn, Cond.code yX4_placesIn cX4_placesIn 6 (some .int), Cond.methodLink RX4 51 yX4_appliesAt, Cond.instanceMethod yX4_appliesAt, Cond.selects RX4 yX4_appliesAt yX4_appliesAt]
def wsX10_ruleOf_r2 : List Cond := [Cond.code yX4_appliesAt cX4_appliesAt 8 (some .boolean), Cond.fieldLink RX4 18 "FallingWords$Rules" "leftLength" "[I", Cond.fieldLink RX4 9 "FallingWords$Rules" "left" "[I"]
def wsX10_ruleOf : List Cond := .code yX10_ruleOf cX10_ruleOf 4 (some .int) :: ((wsX10_ruleOf_r1 ++ wsX10_ruleOf_r2) ++ wsX100 ++ wsX60 ++ wsX40)
def wsX10_step_r1 : List Cond := [Cond.fieldLink RX10 16 "FallingWords" "trial" "LFallingWords$State;", Cond.methodLink RX10 72 yX10_startTrial, Cond.instanceMethod yX10_startTrial, Cond.selects RX10 yX10_startTrial yX10_startTrial, Cond.initialized RX10, Cond.code yX10_startTrial cX10_startTrial 1 none, Cond.fieldLink RX10 10 "FallingWords" "now" "LFallingWords$State;", Cond.instanceMethod yX6_takeOver, Cond.initialized RX6, Cond.selects RX6 yX6_takeOver yX6_takeOver, Cond.code yX6_takeOver cX6_takeOver 2 none, Cond.fieldLink RX6 12 "FallingWords$State" "rules" "LFallingWords$Rules;", Cond.fieldLink RX6 21 "FallingWords$State" "store" "LFallingWords$Store;", Cond.fieldLink RX6 27 "FallingWords$State" "word" "I", Cond.fieldLink RX6 31 "FallingWords$State" "choosing" "I", Cond.fieldLink RX6 41 "FallingWords$State" "taken" "I", Cond.fieldLink RX6 44 "FallingWords$State" "steps" "I", Cond.instanceMethod yX4_takeOver, Cond.initialized RX4, Cond.selects RX4 yX4_takeOver yX4_takeOver, Cond.code yX4_takeOver cX4_takeOver 2 none, Cond.fieldLink RX4 9 "FallingWords$Rules" "left" "[I", Cond.methodLink RX4 27 arraycopyName, Cond.native arraycopyName]
def wsX10_step_r2 : List Cond := [Cond.static arraycopyName, Cond.initialized "java/lang/System", Cond.fieldLink RX4 15 "FallingWords$Rules" "right" "[I", Cond.fieldLink RX4 18 "FallingWords$Rules" "leftLength" "[I", Cond.fieldLink RX4 21 "FallingWords$Rules" "rightLength" "[I", Cond.fieldLink RX4 24 "FallingWords$Rules" "times" "[I", Cond.fieldLink RX4 33 "FallingWords$Rules" "size" "I", Cond.instanceMethod yX7_takeOver, Cond.initialized RX7, Cond.selects RX7 yX7_takeOver yX7_takeOver, Cond.code yX7_takeOver cX7_takeOver 2 none, Cond.fieldLink RX7 9 "FallingWords$Store" "words" "[I", Cond.methodLink RX7 18 arraycopyName, Cond.fieldLink RX7 15 "FallingWords$Store" "normals" "[I", Cond.fieldLink RX7 24 "FallingWords$Store" "size" "I", Cond.instanceMethod yX6_takeStep, Cond.selects RX6 yX6_takeStep yX6_takeStep, Cond.code yX6_takeStep cX6_takeStep 3 (some .int), Cond.constant RX6 62 (-1000002), Cond.instanceMethod yX4_choiceFor, Cond.selects RX4 yX4_choiceFor yX4_choiceFor, Cond.code yX4_choiceFor cX4_choiceFor 12 (some .int), Cond.static yX9_lengthOf, Cond.initialized RX9]
def wsX10_step_r3 : List Cond := [Cond.code yX9_lengthOf cX9_lengthOf 3 (some .int), Cond.methodLink RX4 51 yX4_appliesAt, Cond.instanceMethod yX4_appliesAt, Cond.selects RX4 yX4_appliesAt yX4_appliesAt, Cond.code yX4_appliesAt cX4_appliesAt 8 (some .boolean), Cond.static yX4_ruleIn, Cond.code yX4_ruleIn cX4_ruleIn 1 (some .int), Cond.static yX4_placeIn, Cond.code yX4_placeIn cX4_placeIn 1 (some .int), Cond.instanceMethod yX4_applied, Cond.selects RX4 yX4_applied yX4_applied, Cond.code yX4_applied cX4_applied 9 (some .int), Cond.static yX9_lastBits, Cond.code yX9_lastBits cX9_lastBits 2 (some .int), Cond.methodLink RX10 79 yX10_keepTrial, Cond.instanceMethod yX10_keepTrial, Cond.selects RX10 yX10_keepTrial yX10_keepTrial, Cond.code yX10_keepTrial cX10_keepTrial 1 none, Cond.fieldLink RX10 22 "FallingWords" "history" "LFallingWords$History;", Cond.instanceMethod yX0_keep, Cond.initialized RX0, Cond.selects RX0 yX0_keep yX0_keep, Cond.code yX0_keep cX0_keep 2 none, Cond.fieldLink RX0 18 "FallingWords$History" "size" "I"]
def wsX10_step_r4 : List Cond := [Cond.fieldLink RX0 11 "FallingWords$History" "states" "[LFallingWords$State;", Cond.methodLink RX0 22 yX0_forgetOldest, Cond.instanceMethod yX0_forgetOldest, Cond.selects RX0 yX0_forgetOldest yX0_forgetOldest, Cond.code yX0_forgetOldest cX0_forgetOldest 3 none]
def wsX10_step : List Cond := .code yX10_step cX10_step 2 (some .int) :: ((wsX10_step_r1 ++ (wsX10_step_r2 ++ (wsX10_step_r3 ++ wsX10_step_r4))) ++ wsX100 ++ wsX60 ++ wsX40 ++ wsX70 ++ wsX00)
def wsX10_normal_r1 : List Cond := [Cond.fieldLink RX10 16 "FallingWords" "trial" "LFallingWords$State;", Cond.fieldLink RX10 29 "FallingWords" "reduction" "LFallingWords$Reduction;", Cond.methodLink RX10 72 yX10_startTrial, Cond.instanceMethod yX10_startTrial, Cond.selects RX10 yX10_startTrial yX10_startTrial, Cond.initialized RX10, Cond.code yX10_startTrial cX10_startTrial 1 none, Cond.fieldLink RX10 10 "FallingWords" "now" "LFallingWords$State;", Cond.instanceMethod yX6_takeOver, Cond.initialized RX6, Cond.selects RX6 yX6_takeOver yX6_takeOver, Cond.code yX6_takeOver cX6_takeOver 2 none, Cond.fieldLink RX6 12 "FallingWords$State" "rules" "LFallingWords$Rules;", Cond.fieldLink RX6 21 "FallingWords$State" "store" "LFallingWords$Store;", Cond.fieldLink RX6 27 "FallingWords$State" "word" "I", Cond.fieldLink RX6 31 "FallingWords$State" "choosing" "I", Cond.fieldLink RX6 41 "FallingWords$State" "taken" "I", Cond.fieldLink RX6 44 "FallingWords$State" "steps" "I", Cond.instanceMethod yX4_takeOver, Cond.initialized RX4, Cond.selects RX4 yX4_takeOver yX4_takeOver, Cond.code yX4_takeOver cX4_takeOver 2 none, Cond.fieldLink RX4 9 "FallingWords$Rules" "left" "[I", Cond.methodLink RX4 27 arraycopyName]
def wsX10_normal_r2 : List Cond := [Cond.native arraycopyName, Cond.static arraycopyName, Cond.initialized "java/lang/System", Cond.fieldLink RX4 15 "FallingWords$Rules" "right" "[I", Cond.fieldLink RX4 18 "FallingWords$Rules" "leftLength" "[I", Cond.fieldLink RX4 21 "FallingWords$Rules" "rightLength" "[I", Cond.fieldLink RX4 24 "FallingWords$Rules" "times" "[I", Cond.fieldLink RX4 33 "FallingWords$Rules" "size" "I", Cond.instanceMethod yX7_takeOver, Cond.initialized RX7, Cond.selects RX7 yX7_takeOver yX7_takeOver, Cond.code yX7_takeOver cX7_takeOver 2 none, Cond.fieldLink RX7 9 "FallingWords$Store" "words" "[I", Cond.methodLink RX7 18 arraycopyName, Cond.fieldLink RX7 15 "FallingWords$Store" "normals" "[I", Cond.fieldLink RX7 24 "FallingWords$Store" "size" "I", Cond.instanceMethod yX6_reduce, Cond.selects RX6 yX6_reduce yX6_reduce, Cond.code yX6_reduce cX6_reduce 3 (some .int), Cond.constant RX6 62 (-1000002), Cond.constant RX6 93 (-1000003), Cond.instanceMethod yX7_indexOf, Cond.selects RX7 yX7_indexOf yX7_indexOf, Cond.code yX7_indexOf cX7_indexOf 3 (some .int)]
def wsX10_normal_r3 : List Cond := [Cond.instanceMethod yX7_use, Cond.selects RX7 yX7_use yX7_use, Cond.code yX7_use cX7_use 3 (some .int), Cond.methodLink RX7 28 yX7_setAhead, Cond.instanceMethod yX7_setAhead, Cond.selects RX7 yX7_setAhead yX7_setAhead, Cond.code yX7_setAhead cX7_setAhead 5 none, Cond.instanceMethod yX3_run, Cond.initialized RX3, Cond.selects RX3 yX3_run yX3_run, Cond.code yX3_run cX3_run 5 none, Cond.fieldLink RX3 9 "FallingWords$Reduction" "words" "[I", Cond.fieldLink RX3 18 "FallingWords$Reduction" "steps" "I", Cond.fieldLink RX3 26 "FallingWords$Reduction" "ringStart" "I", Cond.fieldLink RX3 29 "FallingWords$Reduction" "outcome" "I", Cond.fieldLink RX3 15 "FallingWords$Reduction" "rulesUsed" "[I", Cond.methodLink RX3 22 yX3_firstTimeOf, Cond.instanceMethod yX3_firstTimeOf, Cond.selects RX3 yX3_firstTimeOf yX3_firstTimeOf, Cond.code yX3_firstTimeOf cX3_firstTimeOf 3 (some .int), Cond.instanceMethod yX4_choiceFor, Cond.selects RX4 yX4_choiceFor yX4_choiceFor, Cond.code yX4_choiceFor cX4_choiceFor 12 (some .int), Cond.static yX9_lengthOf]
def wsX10_normal_r4 : List Cond := [Cond.initialized RX9, Cond.code yX9_lengthOf cX9_lengthOf 3 (some .int), Cond.methodLink RX4 51 yX4_appliesAt, Cond.instanceMethod yX4_appliesAt, Cond.selects RX4 yX4_appliesAt yX4_appliesAt, Cond.code yX4_appliesAt cX4_appliesAt 8 (some .boolean), Cond.static yX4_ruleIn, Cond.code yX4_ruleIn cX4_ruleIn 1 (some .int), Cond.static yX4_placeIn, Cond.code yX4_placeIn cX4_placeIn 1 (some .int), Cond.instanceMethod yX4_applied, Cond.selects RX4 yX4_applied yX4_applied, Cond.code yX4_applied cX4_applied 9 (some .int), Cond.static yX9_lastBits, Cond.code yX9_lastBits cX9_lastBits 2 (some .int), Cond.instanceMethod yX3_countRules, Cond.selects RX3 yX3_countRules yX3_countRules, Cond.code yX3_countRules cX3_countRules 3 none, Cond.instanceMethod yX3_last, Cond.selects RX3 yX3_last yX3_last, Cond.code yX3_last cX3_last 1 (some .int), Cond.instanceMethod yX7_put, Cond.selects RX7 yX7_put yX7_put, Cond.code yX7_put cX7_put 3 none]
def wsX10_normal_r5 : List Cond := [Cond.methodLink RX10 79 yX10_keepTrial, Cond.instanceMethod yX10_keepTrial, Cond.selects RX10 yX10_keepTrial yX10_keepTrial, Cond.code yX10_keepTrial cX10_keepTrial 1 none, Cond.fieldLink RX10 22 "FallingWords" "history" "LFallingWords$History;", Cond.instanceMethod yX0_keep, Cond.initialized RX0, Cond.selects RX0 yX0_keep yX0_keep, Cond.code yX0_keep cX0_keep 2 none, Cond.fieldLink RX0 18 "FallingWords$History" "size" "I", Cond.fieldLink RX0 11 "FallingWords$History" "states" "[LFallingWords$State;", Cond.methodLink RX0 22 yX0_forgetOldest, Cond.instanceMethod yX0_forgetOldest, Cond.selects RX0 yX0_forgetOldest yX0_forgetOldest, Cond.code yX0_forgetOldest cX0_forgetOldest 3 none]
def wsX10_normal : List Cond := .code yX10_normal cX10_normal 2 (some .int) :: ((wsX10_normal_r1 ++ (wsX10_normal_r2 ++ (wsX10_normal_r3 ++ (wsX10_normal_r4 ++ wsX10_normal_r5)))) ++ wsX100 ++ wsX60 ++ wsX40 ++ wsX70 ++ wsX30 ++ wsX00)
def wsX10_letterAt : List Cond := .code yX10_letterAt cX10_letterAt 2 (some .int) :: ([.constant RX10 71 (-1000001), .fieldLink RX10 10 "FallingWords" "now" "LFallingWords$State;", .static yX9_letterOf, .initialized RX9, .code yX9_letterOf cX9_letterOf 3 (some .int), .constant RX9 15 (-1000004), .methodLink RX9 9 yX9_lengthOf, .static yX9_lengthOf, .code yX9_lengthOf cX9_lengthOf 3 (some .int)] ++ wsX100 ++ wsX60)
def wsX10_next : List Cond := .code yX10_next cX10_next 3 (some .int) :: ([.constant RX10 71 (-1000001), .fieldLink RX10 10 "FallingWords" "now" "LFallingWords$State;", .constant RX10 135 (-1000004), .instanceMethod yX4_choiceFor, .initialized RX4, .selects RX4 yX4_choiceFor yX4_choiceFor, .code yX4_choiceFor cX4_choiceFor 12 (some .int), .fieldLink RX4 33 "FallingWords$Rules" "size" "I", .static yX9_lengthOf, .initialized RX9, .code yX9_lengthOf cX9_lengthOf 3 (some .int), .methodLink RX4 51 yX4_appliesAt, .instanceMethod yX4_appliesAt, .selects RX4 yX4_appliesAt yX4_appliesAt, .code yX4_appliesAt cX4_appliesAt 8 (some .boolean), .fieldLink RX4 18 "FallingWords$Rules" "leftLength" "[I", .fieldLink RX4 9 "FallingWords$Rules" "left" "[I", .static yX4_ruleIn, .code yX4_ruleIn cX4_ruleIn 1 (some .int), .static yX4_placeIn, .code yX4_placeIn cX4_placeIn 1 (some .int)] ++ wsX100 ++ wsX60 ++ wsX40)
def wsX10_ringAnswer : List Cond := .code yX10_ringAnswer cX10_ringAnswer 2 (some .int) :: ([.fieldLink RX10 29 "FallingWords" "reduction" "LFallingWords$Reduction;", .constant RX10 135 (-1000004)] ++ wsX100 ++ wsX30)
def wsX10_reduced_r1 : List Cond := [Cond.constant RX10 71 (-1000001), Cond.fieldLink RX10 29 "FallingWords" "reduction" "LFallingWords$Reduction;", Cond.fieldLink RX10 10 "FallingWords" "now" "LFallingWords$State;", Cond.constant RX10 135 (-1000004), Cond.methodLink RX10 92 yX10_isLetterOf, Cond.static yX10_isLetterOf, Cond.initialized RX10, Cond.code yX10_isLetterOf cX10_isLetterOf 3 (some .boolean), Cond.instanceMethod yX3_run, Cond.initialized RX3, Cond.selects RX3 yX3_run yX3_run, Cond.code yX3_run cX3_run 5 none, Cond.fieldLink RX3 9 "FallingWords$Reduction" "words" "[I", Cond.fieldLink RX3 18 "FallingWords$Reduction" "steps" "I", Cond.fieldLink RX3 26 "FallingWords$Reduction" "ringStart" "I", Cond.fieldLink RX3 29 "FallingWords$Reduction" "outcome" "I", Cond.fieldLink RX3 15 "FallingWords$Reduction" "rulesUsed" "[I", Cond.methodLink RX3 22 yX3_firstTimeOf, Cond.instanceMethod yX3_firstTimeOf, Cond.selects RX3 yX3_firstTimeOf yX3_firstTimeOf, Cond.code yX3_firstTimeOf cX3_firstTimeOf 3 (some .int), Cond.instanceMethod yX4_choiceFor, Cond.initialized RX4, Cond.selects RX4 yX4_choiceFor yX4_choiceFor]
def wsX10_reduced_r2 : List Cond := [Cond.code yX4_choiceFor cX4_choiceFor 12 (some .int), Cond.fieldLink RX4 33 "FallingWords$Rules" "size" "I", Cond.static yX9_lengthOf, Cond.initialized RX9, Cond.code yX9_lengthOf cX9_lengthOf 3 (some .int), Cond.methodLink RX4 51 yX4_appliesAt, Cond.instanceMethod yX4_appliesAt, Cond.selects RX4 yX4_appliesAt yX4_appliesAt, Cond.code yX4_appliesAt cX4_appliesAt 8 (some .boolean), Cond.fieldLink RX4 18 "FallingWords$Rules" "leftLength" "[I", Cond.fieldLink RX4 9 "FallingWords$Rules" "left" "[I", Cond.static yX4_ruleIn, Cond.code yX4_ruleIn cX4_ruleIn 1 (some .int), Cond.static yX4_placeIn, Cond.code yX4_placeIn cX4_placeIn 1 (some .int), Cond.instanceMethod yX4_applied, Cond.selects RX4 yX4_applied yX4_applied, Cond.code yX4_applied cX4_applied 9 (some .int), Cond.fieldLink RX4 15 "FallingWords$Rules" "right" "[I", Cond.fieldLink RX4 21 "FallingWords$Rules" "rightLength" "[I", Cond.static yX9_lastBits, Cond.code yX9_lastBits cX9_lastBits 2 (some .int), Cond.methodLink RX10 153 yX10_ringAnswer, Cond.instanceMethod yX10_ringAnswer]
def wsX10_reduced_r3 : List Cond := [Cond.selects RX10 yX10_ringAnswer yX10_ringAnswer, Cond.code yX10_ringAnswer cX10_ringAnswer 2 (some .int), Cond.instanceMethod yX3_last, Cond.selects RX3 yX3_last yX3_last, Cond.code yX3_last cX3_last 1 (some .int), Cond.static yX9_letterOf, Cond.code yX9_letterOf cX9_letterOf 3 (some .int), Cond.constant RX9 15 (-1000004), Cond.methodLink RX9 9 yX9_lengthOf]
def wsX10_reduced : List Cond := .code yX10_reduced cX10_reduced 3 (some .int) :: ((wsX10_reduced_r1 ++ (wsX10_reduced_r2 ++ wsX10_reduced_r3)) ++ wsX100 ++ wsX60 ++ wsX30 ++ wsX40)
def wsX10_reached_r1 : List Cond := [Cond.constant RX10 71 (-1000001), Cond.fieldLink RX10 36 "FallingWords" "reach" "LFallingWords$Reach;", Cond.fieldLink RX10 10 "FallingWords" "now" "LFallingWords$State;", Cond.constant RX10 172 (-1000003), Cond.constant RX10 135 (-1000004), Cond.methodLink RX10 92 yX10_isLetterOf, Cond.static yX10_isLetterOf, Cond.initialized RX10, Cond.code yX10_isLetterOf cX10_isLetterOf 3 (some .boolean), Cond.instanceMethod yX2_run, Cond.initialized RX2, Cond.selects RX2 yX2_run yX2_run, Cond.code yX2_run cX2_run 4 none, Cond.fieldLink RX2 15 "FallingWords$Reach" "seats" "[I", Cond.fieldLink RX2 24 "FallingWords$Reach" "size" "I", Cond.fieldLink RX2 28 "FallingWords$Reach" "tooMany" "Z", Cond.fieldLink RX2 32 "FallingWords$Reach" "ends" "I", Cond.fieldLink RX2 9 "FallingWords$Reach" "words" "[I", Cond.methodLink RX2 18 yJ7_fill_53178, Cond.static yJ7_fill_53178, Cond.initialized RJ7, Cond.code yJ7_fill_53178 cJ7_fill_53178 4 none, Cond.methodLink RX2 35 yX2_add, Cond.instanceMethod yX2_add]
def wsX10_reached_r2 : List Cond := [Cond.selects RX2 yX2_add yX2_add, Cond.code yX2_add cX2_add 4 none, Cond.constant RX2 78 (-1640531535), Cond.methodLink RX2 39 yX2_addAllFrom, Cond.instanceMethod yX2_addAllFrom, Cond.selects RX2 yX2_addAllFrom yX2_addAllFrom, Cond.code yX2_addAllFrom cX2_addAllFrom 7 none, Cond.static yX9_lengthOf, Cond.initialized RX9, Cond.code yX9_lengthOf cX9_lengthOf 3 (some .int), Cond.instanceMethod yX4_appliesAt, Cond.initialized RX4, Cond.selects RX4 yX4_appliesAt yX4_appliesAt, Cond.code yX4_appliesAt cX4_appliesAt 8 (some .boolean), Cond.fieldLink RX4 18 "FallingWords$Rules" "leftLength" "[I", Cond.fieldLink RX4 9 "FallingWords$Rules" "left" "[I", Cond.instanceMethod yX4_applied, Cond.selects RX4 yX4_applied yX4_applied, Cond.code yX4_applied cX4_applied 9 (some .int), Cond.fieldLink RX4 15 "FallingWords$Rules" "right" "[I", Cond.fieldLink RX4 21 "FallingWords$Rules" "rightLength" "[I", Cond.static yX9_lastBits, Cond.code yX9_lastBits cX9_lastBits 2 (some .int), Cond.methodLink RX2 60 yX2_addEnd]
def wsX10_reached_r3 : List Cond := [Cond.instanceMethod yX2_addEnd, Cond.selects RX2 yX2_addEnd yX2_addEnd, Cond.code yX2_addEnd cX2_addEnd 2 none, Cond.fieldLink RX2 63 "FallingWords$Reach" "firstEnd" "I", Cond.methodLink RX2 66 Lib.Math.min.name, Cond.static Lib.Math.min.name, Cond.initialized "java/lang/Math", Cond.code Lib.Math.min.name Lib.Math.min.code 2 (some .int), Cond.fieldLink RX2 72 "FallingWords$Reach" "lastEnd" "I", Cond.methodLink RX2 75 Lib.Math.max.name, Cond.static Lib.Math.max.name, Cond.code Lib.Math.max.name Lib.Math.max.code 2 (some .int), Cond.static yX9_letterOf, Cond.code yX9_letterOf cX9_letterOf 3 (some .int), Cond.constant RX9 15 (-1000004), Cond.methodLink RX9 9 yX9_lengthOf]
def wsX10_reached : List Cond := .code yX10_reached cX10_reached 4 (some .int) :: ((wsX10_reached_r1 ++ (wsX10_reached_r2 ++ wsX10_reached_r3)) ++ wsX100 ++ wsX60 ++ wsX20 ++ wsX40)
def wsX10_storeOf : List Cond := .code yX10_storeOf cX10_storeOf 5 (some .int) :: ([.constant RX10 71 (-1000001), .fieldLink RX10 10 "FallingWords" "now" "LFallingWords$State;", .constant RX10 135 (-1000004), .methodLink RX10 92 yX10_isLetterOf, .static yX10_isLetterOf, .initialized RX10, .code yX10_isLetterOf cX10_isLetterOf 3 (some .boolean), .static yX9_letterOf, .initialized RX9, .code yX9_letterOf cX9_letterOf 3 (some .int), .constant RX9 15 (-1000004), .methodLink RX9 9 yX9_lengthOf, .static yX9_lengthOf, .code yX9_lengthOf cX9_lengthOf 3 (some .int)] ++ wsX100 ++ wsX60 ++ wsX70)
def wsX10_overlapOf_r1 : List Cond := [Cond.fieldLink RX10 43 "FallingWords" "overlaps" "LFallingWords$Overlaps;", Cond.fieldLink RX10 10 "FallingWords" "now" "LFallingWords$State;", Cond.constant RX10 71 (-1000001), Cond.fieldLink RX10 29 "FallingWords" "reduction" "LFallingWords$Reduction;", Cond.instanceMethod yX1_find, Cond.initialized RX1, Cond.selects RX1 yX1_find yX1_find, Cond.code yX1_find cX1_find 5 (some .boolean), Cond.methodLink RX1 11 yX1_isOverlap, Cond.instanceMethod yX1_isOverlap, Cond.selects RX1 yX1_isOverlap yX1_isOverlap, Cond.code yX1_isOverlap cX1_isOverlap 7 (some .boolean), Cond.fieldLink RX1 25 "FallingWords$Overlaps" "first" "I", Cond.fieldLink RX1 29 "FallingWords$Overlaps" "second" "I", Cond.fieldLink RX1 32 "FallingWords$Overlaps" "place" "I", Cond.fieldLink RX1 49 "FallingWords$Overlaps" "word" "I", Cond.instanceMethod yX4_contains, Cond.initialized RX4, Cond.selects RX4 yX4_contains yX4_contains, Cond.code yX4_contains cX4_contains 2 (some .boolean), Cond.fieldLink RX4 33 "FallingWords$Rules" "size" "I", Cond.methodLink RX1 45 yX1_coveredWord, Cond.instanceMethod yX1_coveredWord, Cond.selects RX1 yX1_coveredWord yX1_coveredWord]
def wsX10_overlapOf_r2 : List Cond := [Cond.code yX1_coveredWord cX1_coveredWord 4 (some .int), Cond.static yX9_lastBits, Cond.initialized RX9, Cond.code yX9_lastBits cX9_lastBits 2 (some .int), Cond.static yX9_lengthOf, Cond.code yX9_lengthOf cX9_lengthOf 3 (some .int), Cond.instanceMethod yX4_appliesAt, Cond.selects RX4 yX4_appliesAt yX4_appliesAt, Cond.code yX4_appliesAt cX4_appliesAt 8 (some .boolean), Cond.fieldLink RX4 18 "FallingWords$Rules" "leftLength" "[I", Cond.fieldLink RX4 9 "FallingWords$Rules" "left" "[I", Cond.instanceMethod yX1_verdict, Cond.selects RX1 yX1_verdict yX1_verdict, Cond.code yX1_verdict cX1_verdict 3 (some .int), Cond.fieldLink RX1 93 "FallingWords$Overlaps" "firstNormal" "I", Cond.fieldLink RX1 99 "FallingWords$Overlaps" "secondNormal" "I", Cond.methodLink RX1 76 yX1_firstWord, Cond.instanceMethod yX1_firstWord, Cond.selects RX1 yX1_firstWord yX1_firstWord, Cond.code yX1_firstWord cX1_firstWord 2 (some .int), Cond.instanceMethod yX4_applied, Cond.selects RX4 yX4_applied yX4_applied, Cond.code yX4_applied cX4_applied 9 (some .int), Cond.fieldLink RX4 15 "FallingWords$Rules" "right" "[I"]
def wsX10_overlapOf_r3 : List Cond := [Cond.fieldLink RX4 21 "FallingWords$Rules" "rightLength" "[I", Cond.instanceMethod yX3_run, Cond.initialized RX3, Cond.selects RX3 yX3_run yX3_run, Cond.code yX3_run cX3_run 5 none, Cond.fieldLink RX3 9 "FallingWords$Reduction" "words" "[I", Cond.fieldLink RX3 18 "FallingWords$Reduction" "steps" "I", Cond.fieldLink RX3 26 "FallingWords$Reduction" "ringStart" "I", Cond.fieldLink RX3 29 "FallingWords$Reduction" "outcome" "I", Cond.fieldLink RX3 15 "FallingWords$Reduction" "rulesUsed" "[I", Cond.methodLink RX3 22 yX3_firstTimeOf, Cond.instanceMethod yX3_firstTimeOf, Cond.selects RX3 yX3_firstTimeOf yX3_firstTimeOf, Cond.code yX3_firstTimeOf cX3_firstTimeOf 3 (some .int), Cond.instanceMethod yX4_choiceFor, Cond.selects RX4 yX4_choiceFor yX4_choiceFor, Cond.code yX4_choiceFor cX4_choiceFor 12 (some .int), Cond.methodLink RX4 51 yX4_appliesAt, Cond.static yX4_ruleIn, Cond.code yX4_ruleIn cX4_ruleIn 1 (some .int), Cond.static yX4_placeIn, Cond.code yX4_placeIn cX4_placeIn 1 (some .int), Cond.instanceMethod yX3_last, Cond.selects RX3 yX3_last yX3_last]
def wsX10_overlapOf_r4 : List Cond := [Cond.code yX3_last cX3_last 1 (some .int), Cond.methodLink RX1 96 yX1_secondWord, Cond.instanceMethod yX1_secondWord, Cond.selects RX1 yX1_secondWord yX1_secondWord, Cond.code yX1_secondWord cX1_secondWord 2 (some .int)]
def wsX10_overlapOf : List Cond := .code yX10_overlapOf cX10_overlapOf 3 (some .int) :: ((wsX10_overlapOf_r1 ++ (wsX10_overlapOf_r2 ++ (wsX10_overlapOf_r3 ++ wsX10_overlapOf_r4))) ++ wsX100 ++ wsX60 ++ wsX10 ++ wsX40 ++ wsX30)
def wsX10_complete_r1 : List Cond := [Cond.constant RX10 71 (-1000001), Cond.fieldLink RX10 43 "FallingWords" "overlaps" "LFallingWords$Overlaps;", Cond.fieldLink RX10 16 "FallingWords" "trial" "LFallingWords$State;", Cond.fieldLink RX10 29 "FallingWords" "reduction" "LFallingWords$Reduction;", Cond.methodLink RX10 231 Lib.Math.max.name, Cond.static Lib.Math.max.name, Cond.initialized "java/lang/Math", Cond.code Lib.Math.max.name Lib.Math.max.code 2 (some .int), Cond.methodLink RX10 236 Lib.Math.min.name, Cond.static Lib.Math.min.name, Cond.code Lib.Math.min.name Lib.Math.min.code 2 (some .int), Cond.constant RX10 172 (-1000003), Cond.methodLink RX10 72 yX10_startTrial, Cond.instanceMethod yX10_startTrial, Cond.selects RX10 yX10_startTrial yX10_startTrial, Cond.initialized RX10, Cond.code yX10_startTrial cX10_startTrial 1 none, Cond.fieldLink RX10 10 "FallingWords" "now" "LFallingWords$State;", Cond.instanceMethod yX6_takeOver, Cond.initialized RX6, Cond.selects RX6 yX6_takeOver yX6_takeOver, Cond.code yX6_takeOver cX6_takeOver 2 none, Cond.fieldLink RX6 12 "FallingWords$State" "rules" "LFallingWords$Rules;", Cond.fieldLink RX6 21 "FallingWords$State" "store" "LFallingWords$Store;"]
def wsX10_complete_r2 : List Cond := [Cond.fieldLink RX6 27 "FallingWords$State" "word" "I", Cond.fieldLink RX6 31 "FallingWords$State" "choosing" "I", Cond.fieldLink RX6 41 "FallingWords$State" "taken" "I", Cond.fieldLink RX6 44 "FallingWords$State" "steps" "I", Cond.instanceMethod yX4_takeOver, Cond.initialized RX4, Cond.selects RX4 yX4_takeOver yX4_takeOver, Cond.code yX4_takeOver cX4_takeOver 2 none, Cond.fieldLink RX4 9 "FallingWords$Rules" "left" "[I", Cond.methodLink RX4 27 arraycopyName, Cond.native arraycopyName, Cond.static arraycopyName, Cond.initialized "java/lang/System", Cond.fieldLink RX4 15 "FallingWords$Rules" "right" "[I", Cond.fieldLink RX4 18 "FallingWords$Rules" "leftLength" "[I", Cond.fieldLink RX4 21 "FallingWords$Rules" "rightLength" "[I", Cond.fieldLink RX4 24 "FallingWords$Rules" "times" "[I", Cond.fieldLink RX4 33 "FallingWords$Rules" "size" "I", Cond.instanceMethod yX7_takeOver, Cond.initialized RX7, Cond.selects RX7 yX7_takeOver yX7_takeOver, Cond.code yX7_takeOver cX7_takeOver 2 none, Cond.fieldLink RX7 9 "FallingWords$Store" "words" "[I", Cond.methodLink RX7 18 arraycopyName]
def wsX10_complete_r3 : List Cond := [Cond.fieldLink RX7 15 "FallingWords$Store" "normals" "[I", Cond.fieldLink RX7 24 "FallingWords$Store" "size" "I", Cond.instanceMethod yX1_findParting, Cond.initialized RX1, Cond.selects RX1 yX1_findParting yX1_findParting, Cond.code yX1_findParting cX1_findParting 4 (some .boolean), Cond.methodLink RX1 11 yX1_isOverlap, Cond.instanceMethod yX1_isOverlap, Cond.selects RX1 yX1_isOverlap yX1_isOverlap, Cond.code yX1_isOverlap cX1_isOverlap 7 (some .boolean), Cond.fieldLink RX1 25 "FallingWords$Overlaps" "first" "I", Cond.fieldLink RX1 29 "FallingWords$Overlaps" "second" "I", Cond.fieldLink RX1 32 "FallingWords$Overlaps" "place" "I", Cond.fieldLink RX1 49 "FallingWords$Overlaps" "word" "I", Cond.instanceMethod yX4_contains, Cond.selects RX4 yX4_contains yX4_contains, Cond.code yX4_contains cX4_contains 2 (some .boolean), Cond.methodLink RX1 45 yX1_coveredWord, Cond.instanceMethod yX1_coveredWord, Cond.selects RX1 yX1_coveredWord yX1_coveredWord, Cond.code yX1_coveredWord cX1_coveredWord 4 (some .int), Cond.static yX9_lastBits, Cond.initialized RX9, Cond.code yX9_lastBits cX9_lastBits 2 (some .int)]
def wsX10_complete_r4 : List Cond := [Cond.static yX9_lengthOf, Cond.code yX9_lengthOf cX9_lengthOf 3 (some .int), Cond.instanceMethod yX4_appliesAt, Cond.selects RX4 yX4_appliesAt yX4_appliesAt, Cond.code yX4_appliesAt cX4_appliesAt 8 (some .boolean), Cond.methodLink RX1 21 yX1_verdict, Cond.instanceMethod yX1_verdict, Cond.selects RX1 yX1_verdict yX1_verdict, Cond.code yX1_verdict cX1_verdict 3 (some .int), Cond.fieldLink RX1 93 "FallingWords$Overlaps" "firstNormal" "I", Cond.fieldLink RX1 99 "FallingWords$Overlaps" "secondNormal" "I", Cond.methodLink RX1 76 yX1_firstWord, Cond.instanceMethod yX1_firstWord, Cond.selects RX1 yX1_firstWord yX1_firstWord, Cond.code yX1_firstWord cX1_firstWord 2 (some .int), Cond.instanceMethod yX4_applied, Cond.selects RX4 yX4_applied yX4_applied, Cond.code yX4_applied cX4_applied 9 (some .int), Cond.instanceMethod yX3_run, Cond.initialized RX3, Cond.selects RX3 yX3_run yX3_run, Cond.code yX3_run cX3_run 5 none, Cond.fieldLink RX3 9 "FallingWords$Reduction" "words" "[I", Cond.fieldLink RX3 18 "FallingWords$Reduction" "steps" "I"]
def wsX10_complete_r5 : List Cond := [Cond.fieldLink RX3 26 "FallingWords$Reduction" "ringStart" "I", Cond.fieldLink RX3 29 "FallingWords$Reduction" "outcome" "I", Cond.fieldLink RX3 15 "FallingWords$Reduction" "rulesUsed" "[I", Cond.methodLink RX3 22 yX3_firstTimeOf, Cond.instanceMethod yX3_firstTimeOf, Cond.selects RX3 yX3_firstTimeOf yX3_firstTimeOf, Cond.code yX3_firstTimeOf cX3_firstTimeOf 3 (some .int), Cond.instanceMethod yX4_choiceFor, Cond.selects RX4 yX4_choiceFor yX4_choiceFor, Cond.code yX4_choiceFor cX4_choiceFor 12 (some .int), Cond.methodLink RX4 51 yX4_appliesAt, Cond.static yX4_ruleIn, Cond.code yX4_ruleIn cX4_ruleIn 1 (some .int), Cond.static yX4_placeIn, Cond.code yX4_placeIn cX4_placeIn 1 (some .int), Cond.instanceMethod yX3_last, Cond.selects RX3 yX3_last yX3_last, Cond.code yX3_last cX3_last 1 (some .int), Cond.methodLink RX1 96 yX1_secondWord, Cond.instanceMethod yX1_secondWord, Cond.selects RX1 yX1_secondWord yX1_secondWord, Cond.code yX1_secondWord cX1_secondWord 2 (some .int), Cond.instanceMethod yX4_isFull, Cond.selects RX4 yX4_isFull yX4_isFull]
def wsX10_complete_r6 : List Cond := [Cond.code yX4_isFull cX4_isFull 1 (some .boolean), Cond.instanceMethod yX6_addRule, Cond.selects RX6 yX6_addRule yX6_addRule, Cond.code yX6_addRule cX6_addRule 3 none, Cond.instanceMethod yX4_add, Cond.selects RX4 yX4_add yX4_add, Cond.code yX4_add cX4_add 3 none, Cond.methodLink RX4 37 yX4_isFull, Cond.methodLink RX10 79 yX10_keepTrial, Cond.instanceMethod yX10_keepTrial, Cond.selects RX10 yX10_keepTrial yX10_keepTrial, Cond.code yX10_keepTrial cX10_keepTrial 1 none, Cond.fieldLink RX10 22 "FallingWords" "history" "LFallingWords$History;", Cond.instanceMethod yX0_keep, Cond.initialized RX0, Cond.selects RX0 yX0_keep yX0_keep, Cond.code yX0_keep cX0_keep 2 none, Cond.fieldLink RX0 18 "FallingWords$History" "size" "I", Cond.fieldLink RX0 11 "FallingWords$History" "states" "[LFallingWords$State;", Cond.methodLink RX0 22 yX0_forgetOldest, Cond.instanceMethod yX0_forgetOldest, Cond.selects RX0 yX0_forgetOldest yX0_forgetOldest, Cond.code yX0_forgetOldest cX0_forgetOldest 3 none]
def wsX10_complete : List Cond := .code yX10_complete cX10_complete 5 (some .int) :: ((wsX10_complete_r1 ++ (wsX10_complete_r2 ++ (wsX10_complete_r3 ++ (wsX10_complete_r4 ++ (wsX10_complete_r5 ++ wsX10_complete_r6))))) ++ wsX100 ++ wsX10 ++ wsX60 ++ wsX40 ++ wsX70 ++ wsX30 ++ wsX00)
def wsX10_count_r1 : List Cond := [Cond.fieldLink RX10 10 "FallingWords" "now" "LFallingWords$State;", Cond.fieldLink RX10 43 "FallingWords" "overlaps" "LFallingWords$Overlaps;", Cond.fieldLink RX10 29 "FallingWords" "reduction" "LFallingWords$Reduction;", Cond.fieldLink RX10 22 "FallingWords" "history" "LFallingWords$History;", Cond.fieldLink RX10 50 "FallingWords" "text" "LFallingWords$Text;", Cond.constant RX10 71 (-1000001), Cond.static yX9_lengthOf, Cond.initialized RX9, Cond.code yX9_lengthOf cX9_lengthOf 3 (some .int), Cond.instanceMethod yX1_howMany, Cond.initialized RX1, Cond.selects RX1 yX1_howMany yX1_howMany, Cond.code yX1_howMany cX1_howMany 4 (some .int), Cond.methodLink RX1 11 yX1_isOverlap, Cond.instanceMethod yX1_isOverlap, Cond.selects RX1 yX1_isOverlap yX1_isOverlap, Cond.code yX1_isOverlap cX1_isOverlap 7 (some .boolean), Cond.fieldLink RX1 25 "FallingWords$Overlaps" "first" "I", Cond.fieldLink RX1 29 "FallingWords$Overlaps" "second" "I", Cond.fieldLink RX1 32 "FallingWords$Overlaps" "place" "I", Cond.fieldLink RX1 49 "FallingWords$Overlaps" "word" "I", Cond.instanceMethod yX4_contains, Cond.initialized RX4, Cond.selects RX4 yX4_contains yX4_contains]
def wsX10_count_r2 : List Cond := [Cond.code yX4_contains cX4_contains 2 (some .boolean), Cond.fieldLink RX4 33 "FallingWords$Rules" "size" "I", Cond.methodLink RX1 45 yX1_coveredWord, Cond.instanceMethod yX1_coveredWord, Cond.selects RX1 yX1_coveredWord yX1_coveredWord, Cond.code yX1_coveredWord cX1_coveredWord 4 (some .int), Cond.static yX9_lastBits, Cond.code yX9_lastBits cX9_lastBits 2 (some .int), Cond.instanceMethod yX4_appliesAt, Cond.selects RX4 yX4_appliesAt yX4_appliesAt, Cond.code yX4_appliesAt cX4_appliesAt 8 (some .boolean), Cond.fieldLink RX4 18 "FallingWords$Rules" "leftLength" "[I", Cond.fieldLink RX4 9 "FallingWords$Rules" "left" "[I", Cond.instanceMethod yX1_howManyAre, Cond.selects RX1 yX1_howManyAre yX1_howManyAre, Cond.code yX1_howManyAre cX1_howManyAre 6 (some .int), Cond.methodLink RX1 21 yX1_verdict, Cond.instanceMethod yX1_verdict, Cond.selects RX1 yX1_verdict yX1_verdict, Cond.code yX1_verdict cX1_verdict 3 (some .int), Cond.fieldLink RX1 93 "FallingWords$Overlaps" "firstNormal" "I", Cond.fieldLink RX1 99 "FallingWords$Overlaps" "secondNormal" "I", Cond.methodLink RX1 76 yX1_firstWord, Cond.instanceMethod yX1_firstWord]
def wsX10_count_r3 : List Cond := [Cond.selects RX1 yX1_firstWord yX1_firstWord, Cond.code yX1_firstWord cX1_firstWord 2 (some .int), Cond.instanceMethod yX4_applied, Cond.selects RX4 yX4_applied yX4_applied, Cond.code yX4_applied cX4_applied 9 (some .int), Cond.fieldLink RX4 15 "FallingWords$Rules" "right" "[I", Cond.fieldLink RX4 21 "FallingWords$Rules" "rightLength" "[I", Cond.instanceMethod yX3_run, Cond.initialized RX3, Cond.selects RX3 yX3_run yX3_run, Cond.code yX3_run cX3_run 5 none, Cond.fieldLink RX3 9 "FallingWords$Reduction" "words" "[I", Cond.fieldLink RX3 18 "FallingWords$Reduction" "steps" "I", Cond.fieldLink RX3 26 "FallingWords$Reduction" "ringStart" "I", Cond.fieldLink RX3 29 "FallingWords$Reduction" "outcome" "I", Cond.fieldLink RX3 15 "FallingWords$Reduction" "rulesUsed" "[I", Cond.methodLink RX3 22 yX3_firstTimeOf, Cond.instanceMethod yX3_firstTimeOf, Cond.selects RX3 yX3_firstTimeOf yX3_firstTimeOf, Cond.code yX3_firstTimeOf cX3_firstTimeOf 3 (some .int), Cond.instanceMethod yX4_choiceFor, Cond.selects RX4 yX4_choiceFor yX4_choiceFor, Cond.code yX4_choiceFor cX4_choiceFor 12 (some .int), Cond.methodLink RX4 51 yX4_appliesAt]
def wsX10_count_r4 : List Cond := [Cond.static yX4_ruleIn, Cond.code yX4_ruleIn cX4_ruleIn 1 (some .int), Cond.static yX4_placeIn, Cond.code yX4_placeIn cX4_placeIn 1 (some .int), Cond.instanceMethod yX3_last, Cond.selects RX3 yX3_last yX3_last, Cond.code yX3_last cX3_last 1 (some .int), Cond.methodLink RX1 96 yX1_secondWord, Cond.instanceMethod yX1_secondWord, Cond.selects RX1 yX1_secondWord yX1_secondWord, Cond.code yX1_secondWord cX1_secondWord 2 (some .int)]
def wsX10_count : List Cond := .code yX10_count cX10_count 2 (some .int) :: ((wsX10_count_r1 ++ (wsX10_count_r2 ++ (wsX10_count_r3 ++ wsX10_count_r4))) ++ wsX100 ++ wsX60 ++ wsX40 ++ wsX70 ++ wsX00 ++ wsX80 ++ wsX10 ++ wsX30)
def wsX10_undo_r1 : List Cond := [Cond.fieldLink RX10 22 "FallingWords" "history" "LFallingWords$History;", Cond.constant RX10 260 (-1000002), Cond.fieldLink RX10 10 "FallingWords" "now" "LFallingWords$State;", Cond.instanceMethod yX0_restoreTo, Cond.initialized RX0, Cond.selects RX0 yX0_restoreTo yX0_restoreTo, Cond.code yX0_restoreTo cX0_restoreTo 2 none, Cond.fieldLink RX0 18 "FallingWords$History" "size" "I", Cond.fieldLink RX0 11 "FallingWords$History" "states" "[LFallingWords$State;", Cond.instanceMethod yX6_takeOver, Cond.initialized RX6, Cond.selects RX6 yX6_takeOver yX6_takeOver, Cond.code yX6_takeOver cX6_takeOver 2 none, Cond.fieldLink RX6 12 "FallingWords$State" "rules" "LFallingWords$Rules;", Cond.fieldLink RX6 21 "FallingWords$State" "store" "LFallingWords$Store;", Cond.fieldLink RX6 27 "FallingWords$State" "word" "I", Cond.fieldLink RX6 31 "FallingWords$State" "choosing" "I", Cond.fieldLink RX6 41 "FallingWords$State" "taken" "I", Cond.fieldLink RX6 44 "FallingWords$State" "steps" "I", Cond.instanceMethod yX4_takeOver, Cond.initialized RX4, Cond.selects RX4 yX4_takeOver yX4_takeOver, Cond.code yX4_takeOver cX4_takeOver 2 none, Cond.fieldLink RX4 9 "FallingWords$Rules" "left" "[I"]
def wsX10_undo_r2 : List Cond := [Cond.methodLink RX4 27 arraycopyName, Cond.native arraycopyName, Cond.static arraycopyName, Cond.initialized "java/lang/System", Cond.fieldLink RX4 15 "FallingWords$Rules" "right" "[I", Cond.fieldLink RX4 18 "FallingWords$Rules" "leftLength" "[I", Cond.fieldLink RX4 21 "FallingWords$Rules" "rightLength" "[I", Cond.fieldLink RX4 24 "FallingWords$Rules" "times" "[I", Cond.fieldLink RX4 33 "FallingWords$Rules" "size" "I", Cond.instanceMethod yX7_takeOver, Cond.initialized RX7, Cond.selects RX7 yX7_takeOver yX7_takeOver, Cond.code yX7_takeOver cX7_takeOver 2 none, Cond.fieldLink RX7 9 "FallingWords$Store" "words" "[I", Cond.methodLink RX7 18 arraycopyName, Cond.fieldLink RX7 15 "FallingWords$Store" "normals" "[I", Cond.fieldLink RX7 24 "FallingWords$Store" "size" "I"]
def wsX10_undo : List Cond := .code yX10_undo cX10_undo 1 (some .int) :: ((wsX10_undo_r1 ++ wsX10_undo_r2) ++ wsX100 ++ wsX00 ++ wsX60 ++ wsX40 ++ wsX70)
def wsX10_type : List Cond := .code yX10_type cX10_type 2 (some .int) :: ([.constant RX10 71 (-1000001), .fieldLink RX10 50 "FallingWords" "text" "LFallingWords$Text;", .constant RX10 172 (-1000003), .instanceMethod yX8_isFull, .initialized RX8, .selects RX8 yX8_isFull yX8_isFull, .code yX8_isFull cX8_isFull 1 (some .boolean), .fieldLink RX8 15 "FallingWords$Text" "size" "I", .instanceMethod yX8_append, .selects RX8 yX8_append yX8_append, .code yX8_append cX8_append 2 none, .fieldLink RX8 9 "FallingWords$Text" "characters" "[C", .methodLink RX8 19 yX8_isFull] ++ wsX100 ++ wsX80)
def wsX10_clearText : List Cond := .code yX10_clearText cX10_clearText 2 (some .int) :: ([.fieldLink RX10 50 "FallingWords" "text" "LFallingWords$Text;"] ++ wsX100 ++ wsX80)
def wsX10_fault_r1 : List Cond := [Cond.constant RX10 71 (-1000001), Cond.fieldLink RX10 57 "FallingWords" "script" "LFallingWords$Script;", Cond.fieldLink RX10 50 "FallingWords" "text" "LFallingWords$Text;", Cond.fieldLink RX10 16 "FallingWords" "trial" "LFallingWords$State;", Cond.fieldLink RX10 29 "FallingWords" "reduction" "LFallingWords$Reduction;", Cond.constant RX10 135 (-1000004), Cond.methodLink RX10 72 yX10_startTrial, Cond.instanceMethod yX10_startTrial, Cond.selects RX10 yX10_startTrial yX10_startTrial, Cond.initialized RX10, Cond.code yX10_startTrial cX10_startTrial 1 none, Cond.fieldLink RX10 10 "FallingWords" "now" "LFallingWords$State;", Cond.instanceMethod yX6_takeOver, Cond.initialized RX6, Cond.selects RX6 yX6_takeOver yX6_takeOver, Cond.code yX6_takeOver cX6_takeOver 2 none, Cond.fieldLink RX6 12 "FallingWords$State" "rules" "LFallingWords$Rules;", Cond.fieldLink RX6 21 "FallingWords$State" "store" "LFallingWords$Store;", Cond.fieldLink RX6 27 "FallingWords$State" "word" "I", Cond.fieldLink RX6 31 "FallingWords$State" "choosing" "I", Cond.fieldLink RX6 41 "FallingWords$State" "taken" "I", Cond.fieldLink RX6 44 "FallingWords$State" "steps" "I", Cond.instanceMethod yX4_takeOver, Cond.initialized RX4]
def wsX10_fault_r2 : List Cond := [Cond.selects RX4 yX4_takeOver yX4_takeOver, Cond.code yX4_takeOver cX4_takeOver 2 none, Cond.fieldLink RX4 9 "FallingWords$Rules" "left" "[I", Cond.methodLink RX4 27 arraycopyName, Cond.native arraycopyName, Cond.static arraycopyName, Cond.initialized "java/lang/System", Cond.fieldLink RX4 15 "FallingWords$Rules" "right" "[I", Cond.fieldLink RX4 18 "FallingWords$Rules" "leftLength" "[I", Cond.fieldLink RX4 21 "FallingWords$Rules" "rightLength" "[I", Cond.fieldLink RX4 24 "FallingWords$Rules" "times" "[I", Cond.fieldLink RX4 33 "FallingWords$Rules" "size" "I", Cond.instanceMethod yX7_takeOver, Cond.initialized RX7, Cond.selects RX7 yX7_takeOver yX7_takeOver, Cond.code yX7_takeOver cX7_takeOver 2 none, Cond.fieldLink RX7 9 "FallingWords$Store" "words" "[I", Cond.methodLink RX7 18 arraycopyName, Cond.fieldLink RX7 15 "FallingWords$Store" "normals" "[I", Cond.fieldLink RX7 24 "FallingWords$Store" "size" "I", Cond.instanceMethod yX5_run, Cond.initialized RX5, Cond.selects RX5 yX5_run yX5_run, Cond.code yX5_run cX5_run 5 none]
def wsX10_fault_r3 : List Cond := [Cond.fieldLink RX5 9 "FallingWords$Script" "done" "I", Cond.fieldLink RX5 15 "FallingWords$Script" "position" "I", Cond.fieldLink RX5 18 "FallingWords$Script" "reason" "I", Cond.fieldLink RX5 21 "FallingWords$Script" "cause" "I", Cond.instanceMethod yX8_readCommand, Cond.initialized RX8, Cond.selects RX8 yX8_readCommand yX8_readCommand, Cond.code yX8_readCommand cX8_readCommand 2 (some .boolean), Cond.fieldLink RX8 23 "FallingWords$Text" "at" "I", Cond.fieldLink RX8 30 "FallingWords$Text" "kind" "I", Cond.fieldLink RX8 36 "FallingWords$Text" "firstWord" "I", Cond.fieldLink RX8 43 "FallingWords$Text" "secondWord" "I", Cond.methodLink RX8 26 yX8_here, Cond.instanceMethod yX8_here, Cond.selects RX8 yX8_here yX8_here, Cond.code yX8_here cX8_here 1 (some .int), Cond.fieldLink RX8 15 "FallingWords$Text" "size" "I", Cond.fieldLink RX8 9 "FallingWords$Text" "characters" "[C", Cond.methodLink RX8 33 yX8_readWord, Cond.instanceMethod yX8_readWord, Cond.selects RX8 yX8_readWord yX8_readWord, Cond.code yX8_readWord cX8_readWord 3 (some .int), Cond.static yX9_withLetter, Cond.initialized RX9]
def wsX10_fault_r4 : List Cond := [Cond.code yX9_withLetter cX9_withLetter 2 (some .int), Cond.methodLink RX8 39 yX8_passes, Cond.instanceMethod yX8_passes, Cond.selects RX8 yX8_passes yX8_passes, Cond.code yX8_passes cX8_passes 2 (some .boolean), Cond.methodLink RX8 46 yX8_readDigit, Cond.instanceMethod yX8_readDigit, Cond.selects RX8 yX8_readDigit yX8_readDigit, Cond.code yX8_readDigit cX8_readDigit 2 (some .boolean), Cond.fieldLink RX8 49 "FallingWords$Text" "digit" "I", Cond.methodLink RX5 33 yX5_perform, Cond.instanceMethod yX5_perform, Cond.selects RX5 yX5_perform yX5_perform, Cond.code yX5_perform cX5_perform 4 none, Cond.methodLink RX5 53 yX5_addRule, Cond.instanceMethod yX5_addRule, Cond.selects RX5 yX5_addRule yX5_addRule, Cond.code yX5_addRule cX5_addRule 6 none, Cond.static yX9_lengthOf, Cond.code yX9_lengthOf cX9_lengthOf 3 (some .int), Cond.methodLink RX5 40 yX5_failWith, Cond.instanceMethod yX5_failWith, Cond.selects RX5 yX5_failWith yX5_failWith, Cond.code yX5_failWith cX5_failWith 3 none]
def wsX10_fault_r5 : List Cond := [Cond.instanceMethod yX4_hasSides, Cond.selects RX4 yX4_hasSides yX4_hasSides, Cond.code yX4_hasSides cX4_hasSides 4 (some .boolean), Cond.instanceMethod yX4_isFull, Cond.selects RX4 yX4_isFull yX4_isFull, Cond.code yX4_isFull cX4_isFull 1 (some .boolean), Cond.instanceMethod yX6_addRule, Cond.selects RX6 yX6_addRule yX6_addRule, Cond.code yX6_addRule cX6_addRule 3 none, Cond.instanceMethod yX4_add, Cond.selects RX4 yX4_add yX4_add, Cond.code yX4_add cX4_add 3 none, Cond.methodLink RX4 37 yX4_isFull, Cond.methodLink RX5 60 yX5_removeRule, Cond.instanceMethod yX5_removeRule, Cond.selects RX5 yX5_removeRule yX5_removeRule, Cond.code yX5_removeRule cX5_removeRule 3 none, Cond.instanceMethod yX4_contains, Cond.selects RX4 yX4_contains yX4_contains, Cond.code yX4_contains cX4_contains 2 (some .boolean), Cond.instanceMethod yX6_removeRule, Cond.selects RX6 yX6_removeRule yX6_removeRule, Cond.code yX6_removeRule cX6_removeRule 2 none, Cond.instanceMethod yX4_remove]
def wsX10_fault_r6 : List Cond := [Cond.selects RX4 yX4_remove yX4_remove, Cond.code yX4_remove cX4_remove 3 none, Cond.methodLink RX4 47 yX4_contains, Cond.methodLink RX5 64 yX5_setWord, Cond.instanceMethod yX5_setWord, Cond.selects RX5 yX5_setWord yX5_setWord, Cond.code yX5_setWord cX5_setWord 3 none, Cond.instanceMethod yX6_takeStep, Cond.selects RX6 yX6_takeStep yX6_takeStep, Cond.code yX6_takeStep cX6_takeStep 3 (some .int), Cond.constant RX6 62 (-1000002), Cond.instanceMethod yX4_choiceFor, Cond.selects RX4 yX4_choiceFor yX4_choiceFor, Cond.code yX4_choiceFor cX4_choiceFor 12 (some .int), Cond.methodLink RX4 51 yX4_appliesAt, Cond.instanceMethod yX4_appliesAt, Cond.selects RX4 yX4_appliesAt yX4_appliesAt, Cond.code yX4_appliesAt cX4_appliesAt 8 (some .boolean), Cond.static yX4_ruleIn, Cond.code yX4_ruleIn cX4_ruleIn 1 (some .int), Cond.static yX4_placeIn, Cond.code yX4_placeIn cX4_placeIn 1 (some .int), Cond.instanceMethod yX4_applied, Cond.selects RX4 yX4_applied yX4_applied]
def wsX10_fault_r7 : List Cond := [Cond.code yX4_applied cX4_applied 9 (some .int), Cond.static yX9_lastBits, Cond.code yX9_lastBits cX9_lastBits 2 (some .int), Cond.instanceMethod yX6_reduce, Cond.selects RX6 yX6_reduce yX6_reduce, Cond.code yX6_reduce cX6_reduce 3 (some .int), Cond.constant RX6 93 (-1000003), Cond.instanceMethod yX7_indexOf, Cond.selects RX7 yX7_indexOf yX7_indexOf, Cond.code yX7_indexOf cX7_indexOf 3 (some .int), Cond.instanceMethod yX7_use, Cond.selects RX7 yX7_use yX7_use, Cond.code yX7_use cX7_use 3 (some .int), Cond.methodLink RX7 28 yX7_setAhead, Cond.instanceMethod yX7_setAhead, Cond.selects RX7 yX7_setAhead yX7_setAhead, Cond.code yX7_setAhead cX7_setAhead 5 none, Cond.instanceMethod yX3_run, Cond.initialized RX3, Cond.selects RX3 yX3_run yX3_run, Cond.code yX3_run cX3_run 5 none, Cond.fieldLink RX3 9 "FallingWords$Reduction" "words" "[I", Cond.fieldLink RX3 18 "FallingWords$Reduction" "steps" "I", Cond.fieldLink RX3 26 "FallingWords$Reduction" "ringStart" "I"]
def wsX10_fault_r8 : List Cond := [Cond.fieldLink RX3 29 "FallingWords$Reduction" "outcome" "I", Cond.fieldLink RX3 15 "FallingWords$Reduction" "rulesUsed" "[I", Cond.methodLink RX3 22 yX3_firstTimeOf, Cond.instanceMethod yX3_firstTimeOf, Cond.selects RX3 yX3_firstTimeOf yX3_firstTimeOf, Cond.code yX3_firstTimeOf cX3_firstTimeOf 3 (some .int), Cond.instanceMethod yX3_countRules, Cond.selects RX3 yX3_countRules yX3_countRules, Cond.code yX3_countRules cX3_countRules 3 none, Cond.instanceMethod yX3_last, Cond.selects RX3 yX3_last yX3_last, Cond.code yX3_last cX3_last 1 (some .int), Cond.instanceMethod yX7_put, Cond.selects RX7 yX7_put yX7_put, Cond.code yX7_put cX7_put 3 none, Cond.methodLink RX5 77 yX5_setChoosing, Cond.instanceMethod yX5_setChoosing, Cond.selects RX5 yX5_setChoosing yX5_setChoosing, Cond.code yX5_setChoosing cX5_setChoosing 3 none, Cond.instanceMethod yX6_setChoosing, Cond.selects RX6 yX6_setChoosing yX6_setChoosing, Cond.code yX6_setChoosing cX6_setChoosing 2 none]
def wsX10_fault : List Cond := .code yX10_fault cX10_fault 2 (some .int) :: ((wsX10_fault_r1 ++ (wsX10_fault_r2 ++ (wsX10_fault_r3 ++ (wsX10_fault_r4 ++ (wsX10_fault_r5 ++ (wsX10_fault_r6 ++ (wsX10_fault_r7 ++ wsX10_fault_r8))))))) ++ wsX100 ++ wsX50 ++ wsX60 ++ wsX40 ++ wsX70 ++ wsX80 ++ wsX30)
def wsX10_play_r1 : List Cond := [Cond.fieldLink RX10 57 "FallingWords" "script" "LFallingWords$Script;", Cond.fieldLink RX10 50 "FallingWords" "text" "LFallingWords$Text;", Cond.fieldLink RX10 16 "FallingWords" "trial" "LFallingWords$State;", Cond.fieldLink RX10 29 "FallingWords" "reduction" "LFallingWords$Reduction;", Cond.constant RX10 260 (-1000002), Cond.methodLink RX10 72 yX10_startTrial, Cond.instanceMethod yX10_startTrial, Cond.selects RX10 yX10_startTrial yX10_startTrial, Cond.initialized RX10, Cond.code yX10_startTrial cX10_startTrial 1 none, Cond.fieldLink RX10 10 "FallingWords" "now" "LFallingWords$State;", Cond.instanceMethod yX6_takeOver, Cond.initialized RX6, Cond.selects RX6 yX6_takeOver yX6_takeOver, Cond.code yX6_takeOver cX6_takeOver 2 none, Cond.fieldLink RX6 12 "FallingWords$State" "rules" "LFallingWords$Rules;", Cond.fieldLink RX6 21 "FallingWords$State" "store" "LFallingWords$Store;", Cond.fieldLink RX6 27 "FallingWords$State" "word" "I", Cond.fieldLink RX6 31 "FallingWords$State" "choosing" "I", Cond.fieldLink RX6 41 "FallingWords$State" "taken" "I", Cond.fieldLink RX6 44 "FallingWords$State" "steps" "I", Cond.instanceMethod yX4_takeOver, Cond.initialized RX4, Cond.selects RX4 yX4_takeOver yX4_takeOver]
def wsX10_play_r2 : List Cond := [Cond.code yX4_takeOver cX4_takeOver 2 none, Cond.fieldLink RX4 9 "FallingWords$Rules" "left" "[I", Cond.methodLink RX4 27 arraycopyName, Cond.native arraycopyName, Cond.static arraycopyName, Cond.initialized "java/lang/System", Cond.fieldLink RX4 15 "FallingWords$Rules" "right" "[I", Cond.fieldLink RX4 18 "FallingWords$Rules" "leftLength" "[I", Cond.fieldLink RX4 21 "FallingWords$Rules" "rightLength" "[I", Cond.fieldLink RX4 24 "FallingWords$Rules" "times" "[I", Cond.fieldLink RX4 33 "FallingWords$Rules" "size" "I", Cond.instanceMethod yX7_takeOver, Cond.initialized RX7, Cond.selects RX7 yX7_takeOver yX7_takeOver, Cond.code yX7_takeOver cX7_takeOver 2 none, Cond.fieldLink RX7 9 "FallingWords$Store" "words" "[I", Cond.methodLink RX7 18 arraycopyName, Cond.fieldLink RX7 15 "FallingWords$Store" "normals" "[I", Cond.fieldLink RX7 24 "FallingWords$Store" "size" "I", Cond.instanceMethod yX5_run, Cond.initialized RX5, Cond.selects RX5 yX5_run yX5_run, Cond.code yX5_run cX5_run 5 none, Cond.fieldLink RX5 9 "FallingWords$Script" "done" "I"]
def wsX10_play_r3 : List Cond := [Cond.fieldLink RX5 15 "FallingWords$Script" "position" "I", Cond.fieldLink RX5 18 "FallingWords$Script" "reason" "I", Cond.fieldLink RX5 21 "FallingWords$Script" "cause" "I", Cond.instanceMethod yX8_readCommand, Cond.initialized RX8, Cond.selects RX8 yX8_readCommand yX8_readCommand, Cond.code yX8_readCommand cX8_readCommand 2 (some .boolean), Cond.fieldLink RX8 23 "FallingWords$Text" "at" "I", Cond.fieldLink RX8 30 "FallingWords$Text" "kind" "I", Cond.fieldLink RX8 36 "FallingWords$Text" "firstWord" "I", Cond.fieldLink RX8 43 "FallingWords$Text" "secondWord" "I", Cond.methodLink RX8 26 yX8_here, Cond.instanceMethod yX8_here, Cond.selects RX8 yX8_here yX8_here, Cond.code yX8_here cX8_here 1 (some .int), Cond.fieldLink RX8 15 "FallingWords$Text" "size" "I", Cond.fieldLink RX8 9 "FallingWords$Text" "characters" "[C", Cond.methodLink RX8 33 yX8_readWord, Cond.instanceMethod yX8_readWord, Cond.selects RX8 yX8_readWord yX8_readWord, Cond.code yX8_readWord cX8_readWord 3 (some .int), Cond.static yX9_withLetter, Cond.initialized RX9, Cond.code yX9_withLetter cX9_withLetter 2 (some .int)]
def wsX10_play_r4 : List Cond := [Cond.methodLink RX8 39 yX8_passes, Cond.instanceMethod yX8_passes, Cond.selects RX8 yX8_passes yX8_passes, Cond.code yX8_passes cX8_passes 2 (some .boolean), Cond.methodLink RX8 46 yX8_readDigit, Cond.instanceMethod yX8_readDigit, Cond.selects RX8 yX8_readDigit yX8_readDigit, Cond.code yX8_readDigit cX8_readDigit 2 (some .boolean), Cond.fieldLink RX8 49 "FallingWords$Text" "digit" "I", Cond.methodLink RX5 33 yX5_perform, Cond.instanceMethod yX5_perform, Cond.selects RX5 yX5_perform yX5_perform, Cond.code yX5_perform cX5_perform 4 none, Cond.methodLink RX5 53 yX5_addRule, Cond.instanceMethod yX5_addRule, Cond.selects RX5 yX5_addRule yX5_addRule, Cond.code yX5_addRule cX5_addRule 6 none, Cond.static yX9_lengthOf, Cond.code yX9_lengthOf cX9_lengthOf 3 (some .int), Cond.methodLink RX5 40 yX5_failWith, Cond.instanceMethod yX5_failWith, Cond.selects RX5 yX5_failWith yX5_failWith, Cond.code yX5_failWith cX5_failWith 3 none, Cond.instanceMethod yX4_hasSides]
def wsX10_play_r5 : List Cond := [Cond.selects RX4 yX4_hasSides yX4_hasSides, Cond.code yX4_hasSides cX4_hasSides 4 (some .boolean), Cond.instanceMethod yX4_isFull, Cond.selects RX4 yX4_isFull yX4_isFull, Cond.code yX4_isFull cX4_isFull 1 (some .boolean), Cond.instanceMethod yX6_addRule, Cond.selects RX6 yX6_addRule yX6_addRule, Cond.code yX6_addRule cX6_addRule 3 none, Cond.instanceMethod yX4_add, Cond.selects RX4 yX4_add yX4_add, Cond.code yX4_add cX4_add 3 none, Cond.methodLink RX4 37 yX4_isFull, Cond.methodLink RX5 60 yX5_removeRule, Cond.instanceMethod yX5_removeRule, Cond.selects RX5 yX5_removeRule yX5_removeRule, Cond.code yX5_removeRule cX5_removeRule 3 none, Cond.instanceMethod yX4_contains, Cond.selects RX4 yX4_contains yX4_contains, Cond.code yX4_contains cX4_contains 2 (some .boolean), Cond.instanceMethod yX6_removeRule, Cond.selects RX6 yX6_removeRule yX6_removeRule, Cond.code yX6_removeRule cX6_removeRule 2 none, Cond.instanceMethod yX4_remove, Cond.selects RX4 yX4_remove yX4_remove]
def wsX10_play_r6 : List Cond := [Cond.code yX4_remove cX4_remove 3 none, Cond.methodLink RX4 47 yX4_contains, Cond.methodLink RX5 64 yX5_setWord, Cond.instanceMethod yX5_setWord, Cond.selects RX5 yX5_setWord yX5_setWord, Cond.code yX5_setWord cX5_setWord 3 none, Cond.instanceMethod yX6_takeStep, Cond.selects RX6 yX6_takeStep yX6_takeStep, Cond.code yX6_takeStep cX6_takeStep 3 (some .int), Cond.constant RX6 62 (-1000002), Cond.instanceMethod yX4_choiceFor, Cond.selects RX4 yX4_choiceFor yX4_choiceFor, Cond.code yX4_choiceFor cX4_choiceFor 12 (some .int), Cond.methodLink RX4 51 yX4_appliesAt, Cond.instanceMethod yX4_appliesAt, Cond.selects RX4 yX4_appliesAt yX4_appliesAt, Cond.code yX4_appliesAt cX4_appliesAt 8 (some .boolean), Cond.static yX4_ruleIn, Cond.code yX4_ruleIn cX4_ruleIn 1 (some .int), Cond.static yX4_placeIn, Cond.code yX4_placeIn cX4_placeIn 1 (some .int), Cond.instanceMethod yX4_applied, Cond.selects RX4 yX4_applied yX4_applied, Cond.code yX4_applied cX4_applied 9 (some .int)]
def wsX10_play_r7 : List Cond := [Cond.static yX9_lastBits, Cond.code yX9_lastBits cX9_lastBits 2 (some .int), Cond.instanceMethod yX6_reduce, Cond.selects RX6 yX6_reduce yX6_reduce, Cond.code yX6_reduce cX6_reduce 3 (some .int), Cond.constant RX6 93 (-1000003), Cond.instanceMethod yX7_indexOf, Cond.selects RX7 yX7_indexOf yX7_indexOf, Cond.code yX7_indexOf cX7_indexOf 3 (some .int), Cond.instanceMethod yX7_use, Cond.selects RX7 yX7_use yX7_use, Cond.code yX7_use cX7_use 3 (some .int), Cond.methodLink RX7 28 yX7_setAhead, Cond.instanceMethod yX7_setAhead, Cond.selects RX7 yX7_setAhead yX7_setAhead, Cond.code yX7_setAhead cX7_setAhead 5 none, Cond.instanceMethod yX3_run, Cond.initialized RX3, Cond.selects RX3 yX3_run yX3_run, Cond.code yX3_run cX3_run 5 none, Cond.fieldLink RX3 9 "FallingWords$Reduction" "words" "[I", Cond.fieldLink RX3 18 "FallingWords$Reduction" "steps" "I", Cond.fieldLink RX3 26 "FallingWords$Reduction" "ringStart" "I", Cond.fieldLink RX3 29 "FallingWords$Reduction" "outcome" "I"]
def wsX10_play_r8 : List Cond := [Cond.fieldLink RX3 15 "FallingWords$Reduction" "rulesUsed" "[I", Cond.methodLink RX3 22 yX3_firstTimeOf, Cond.instanceMethod yX3_firstTimeOf, Cond.selects RX3 yX3_firstTimeOf yX3_firstTimeOf, Cond.code yX3_firstTimeOf cX3_firstTimeOf 3 (some .int), Cond.instanceMethod yX3_countRules, Cond.selects RX3 yX3_countRules yX3_countRules, Cond.code yX3_countRules cX3_countRules 3 none, Cond.instanceMethod yX3_last, Cond.selects RX3 yX3_last yX3_last, Cond.code yX3_last cX3_last 1 (some .int), Cond.instanceMethod yX7_put, Cond.selects RX7 yX7_put yX7_put, Cond.code yX7_put cX7_put 3 none, Cond.methodLink RX5 77 yX5_setChoosing, Cond.instanceMethod yX5_setChoosing, Cond.selects RX5 yX5_setChoosing yX5_setChoosing, Cond.code yX5_setChoosing cX5_setChoosing 3 none, Cond.instanceMethod yX6_setChoosing, Cond.selects RX6 yX6_setChoosing yX6_setChoosing, Cond.code yX6_setChoosing cX6_setChoosing 2 none, Cond.methodLink RX10 79 yX10_keepTrial, Cond.instanceMethod yX10_keepTrial, Cond.selects RX10 yX10_keepTrial yX10_keepTrial]
def wsX10_play_r9 : List Cond := [Cond.code yX10_keepTrial cX10_keepTrial 1 none, Cond.fieldLink RX10 22 "FallingWords" "history" "LFallingWords$History;", Cond.instanceMethod yX0_keep, Cond.initialized RX0, Cond.selects RX0 yX0_keep yX0_keep, Cond.code yX0_keep cX0_keep 2 none, Cond.fieldLink RX0 18 "FallingWords$History" "size" "I", Cond.fieldLink RX0 11 "FallingWords$History" "states" "[LFallingWords$State;", Cond.methodLink RX0 22 yX0_forgetOldest, Cond.instanceMethod yX0_forgetOldest, Cond.selects RX0 yX0_forgetOldest yX0_forgetOldest, Cond.code yX0_forgetOldest cX0_forgetOldest 3 none]
def wsX10_play : List Cond := .code yX10_play cX10_play 1 (some .int) :: ((wsX10_play_r1 ++ (wsX10_play_r2 ++ (wsX10_play_r3 ++ (wsX10_play_r4 ++ (wsX10_play_r5 ++ (wsX10_play_r6 ++ (wsX10_play_r7 ++ (wsX10_play_r8 ++ wsX10_play_r9)))))))) ++ wsX100 ++ wsX50 ++ wsX60 ++ wsX40 ++ wsX70 ++ wsX80 ++ wsX30 ++ wsX00)
def wsX11_init : List Cond := .code yX11_init cX11_init 1 none :: ([.methodLink RX11 1 objectInit, .instanceMethod objectInit, .code objectInit ⟨#[0xb1]⟩ 1 none, .arrayClass .int, .fieldLink RX11 7 "FallingWordsModel" "s" "[I", .fieldLink RX11 13 "FallingWordsModel" "was" "[I", .fieldLink RX11 16 "FallingWordsModel" "begun" "[I", .fieldLink RX11 19 "FallingWordsModel" "aside" "[I", .arrayClass .char, .fieldLink RX11 22 "FallingWordsModel" "text" "[C", .fieldLink RX11 26 "FallingWordsModel" "row" "[I", .fieldLink RX11 29 "FallingWordsModel" "rowRule" "[I", .fieldLink RX11 32 "FallingWordsModel" "found" "[I"] ++ wsX110)
def wsX11_in : List Cond := .code yX11_in cX11_in 3 (some .boolean) :: ([])
def wsX11_length : List Cond := .code yX11_length cX11_length 3 (some .int) :: ([])
def wsX11_letter : List Cond := .code yX11_letter cX11_letter 2 (some .int) :: ([.methodLink RX11 35 yX11_length, .static yX11_length, .initialized RX11, .code yX11_length cX11_length 3 (some .int)])
def wsX11_letterOf : List Cond := .code yX11_letterOf cX11_letterOf 2 (some .int) :: ([.constant RX11 43 (-1000004), .methodLink RX11 35 yX11_length, .static yX11_length, .initialized RX11, .code yX11_length cX11_length 3 (some .int), .methodLink RX11 39 yX11_letter, .static yX11_letter, .code yX11_letter cX11_letter 2 (some .int)])
def wsX11_left : List Cond := .code yX11_left cX11_left 2 (some .int) :: ([.fieldLink RX11 7 "FallingWordsModel" "s" "[I"] ++ wsX110)
def wsX11_right : List Cond := .code yX11_right cX11_right 2 (some .int) :: ([.fieldLink RX11 7 "FallingWordsModel" "s" "[I"] ++ wsX110)
def wsX11_isRule : List Cond := .code yX11_isRule cX11_isRule 2 (some .boolean) :: ([.fieldLink RX11 7 "FallingWordsModel" "s" "[I", .methodLink RX11 44 yX11_in, .static yX11_in, .initialized RX11, .code yX11_in cX11_in 3 (some .boolean)] ++ wsX110)
def wsX11_stands : List Cond := .code yX11_stands cX11_stands 6 (some .boolean) :: ([.methodLink RX11 35 yX11_length, .static yX11_length, .initialized RX11, .code yX11_length cX11_length 3 (some .int)])
def wsX11_applied : List Cond := .code yX11_applied cX11_applied 7 (some .int) :: ([.methodLink RX11 35 yX11_length, .static yX11_length, .initialized RX11, .code yX11_length cX11_length 3 (some .int), .methodLink RX11 48 yX11_left, .instanceMethod yX11_left, .selects RX11 yX11_left yX11_left, .code yX11_left cX11_left 2 (some .int), .fieldLink RX11 7 "FallingWordsModel" "s" "[I", .methodLink RX11 51 yX11_right, .instanceMethod yX11_right, .selects RX11 yX11_right yX11_right, .code yX11_right cX11_right 2 (some .int)] ++ wsX110)
def wsX11_chooses : List Cond := .code yX11_chooses cX11_chooses 6 (some .boolean) :: ([.fieldLink RX11 54 "FallingWordsModel" "chosenRule" "I", .fieldLink RX11 7 "FallingWordsModel" "s" "[I", .fieldLink RX11 58 "FallingWordsModel" "chosenPlace" "I", .methodLink RX11 35 yX11_length, .static yX11_length, .initialized RX11, .code yX11_length cX11_length 3 (some .int), .methodLink RX11 48 yX11_left, .instanceMethod yX11_left, .selects RX11 yX11_left yX11_left, .code yX11_left cX11_left 2 (some .int), .methodLink RX11 61 yX11_stands, .static yX11_stands, .code yX11_stands cX11_stands 6 (some .boolean)] ++ wsX110)
def wsX11_reduces_r1 : List Cond := [Cond.fieldLink RX11 26 "FallingWordsModel" "row" "[I", Cond.fieldLink RX11 64 "FallingWordsModel" "rowSteps" "I", Cond.fieldLink RX11 54 "FallingWordsModel" "chosenRule" "I", Cond.fieldLink RX11 58 "FallingWordsModel" "chosenPlace" "I", Cond.fieldLink RX11 29 "FallingWordsModel" "rowRule" "[I", Cond.fieldLink RX11 75 "FallingWordsModel" "ringFrom" "I", Cond.methodLink RX11 67 yX11_chooses, Cond.instanceMethod yX11_chooses, Cond.selects RX11 yX11_chooses yX11_chooses, Cond.initialized RX11, Cond.code yX11_chooses cX11_chooses 6 (some .boolean), Cond.fieldLink RX11 7 "FallingWordsModel" "s" "[I", Cond.methodLink RX11 35 yX11_length, Cond.static yX11_length, Cond.code yX11_length cX11_length 3 (some .int), Cond.methodLink RX11 48 yX11_left, Cond.instanceMethod yX11_left, Cond.selects RX11 yX11_left yX11_left, Cond.code yX11_left cX11_left 2 (some .int), Cond.methodLink RX11 61 yX11_stands, Cond.static yX11_stands, Cond.code yX11_stands cX11_stands 6 (some .boolean), Cond.methodLink RX11 71 yX11_applied, Cond.instanceMethod yX11_applied]
def wsX11_reduces_r2 : List Cond := [Cond.selects RX11 yX11_applied yX11_applied, Cond.code yX11_applied cX11_applied 7 (some .int), Cond.methodLink RX11 51 yX11_right, Cond.instanceMethod yX11_right, Cond.selects RX11 yX11_right yX11_right, Cond.code yX11_right cX11_right 2 (some .int)]
def wsX11_reduces : List Cond := .code yX11_reduces cX11_reduces 4 (some .int) :: ((wsX11_reduces_r1 ++ wsX11_reduces_r2) ++ wsX110)
def wsX11_keeps : List Cond := .code yX11_keeps cX11_keeps 2 none :: ([.fieldLink RX11 16 "FallingWordsModel" "begun" "[I", .fieldLink RX11 7 "FallingWordsModel" "s" "[I"] ++ wsX110)
def wsX11_acted : List Cond := .code yX11_acted cX11_acted 3 (some .int) :: ([.constant RX11 78 (-1000001), .fieldLink RX11 79 "FallingWordsModel" "states" "I", .fieldLink RX11 13 "FallingWordsModel" "was" "[I", .fieldLink RX11 16 "FallingWordsModel" "begun" "[I"] ++ wsX110)
def wsX11_drops : List Cond := .code yX11_drops cX11_drops 3 (some .int) :: ([.constant RX11 78 (-1000001), .fieldLink RX11 7 "FallingWordsModel" "s" "[I", .methodLink RX11 82 yX11_isRule, .instanceMethod yX11_isRule, .selects RX11 yX11_isRule yX11_isRule, .initialized RX11, .code yX11_isRule cX11_isRule 2 (some .boolean), .methodLink RX11 44 yX11_in, .static yX11_in, .code yX11_in cX11_in 3 (some .boolean)] ++ wsX110)
def wsX11_drop_r1 : List Cond := [Cond.methodLink RX11 85 yX11_keeps, Cond.instanceMethod yX11_keeps, Cond.selects RX11 yX11_keeps yX11_keeps, Cond.initialized RX11, Cond.code yX11_keeps cX11_keeps 2 none, Cond.fieldLink RX11 16 "FallingWordsModel" "begun" "[I", Cond.fieldLink RX11 7 "FallingWordsModel" "s" "[I", Cond.methodLink RX11 88 yX11_drops, Cond.instanceMethod yX11_drops, Cond.selects RX11 yX11_drops yX11_drops, Cond.code yX11_drops cX11_drops 3 (some .int), Cond.constant RX11 78 (-1000001), Cond.methodLink RX11 82 yX11_isRule, Cond.instanceMethod yX11_isRule, Cond.selects RX11 yX11_isRule yX11_isRule, Cond.code yX11_isRule cX11_isRule 2 (some .boolean), Cond.methodLink RX11 44 yX11_in, Cond.static yX11_in, Cond.code yX11_in cX11_in 3 (some .boolean), Cond.methodLink RX11 91 yX11_acted, Cond.instanceMethod yX11_acted, Cond.selects RX11 yX11_acted yX11_acted, Cond.code yX11_acted cX11_acted 3 (some .int), Cond.fieldLink RX11 79 "FallingWordsModel" "states" "I"]
def wsX11_drop_r2 : List Cond := [Cond.fieldLink RX11 13 "FallingWordsModel" "was" "[I"]
def wsX11_drop : List Cond := .code yX11_drop cX11_drop 2 (some .int) :: ((wsX11_drop_r1 ++ wsX11_drop_r2) ++ wsX110)
def wsX11_goes : List Cond := .code yX11_goes cX11_goes 3 (some .int) :: ([.constant RX11 78 (-1000001), .fieldLink RX11 7 "FallingWordsModel" "s" "[I", .methodLink RX11 44 yX11_in, .static yX11_in, .initialized RX11, .code yX11_in cX11_in 3 (some .boolean)] ++ wsX110)
def wsX11_way : List Cond := .code yX11_way cX11_way 2 (some .int) :: ([.methodLink RX11 85 yX11_keeps, .instanceMethod yX11_keeps, .selects RX11 yX11_keeps yX11_keeps, .initialized RX11, .code yX11_keeps cX11_keeps 2 none, .fieldLink RX11 16 "FallingWordsModel" "begun" "[I", .fieldLink RX11 7 "FallingWordsModel" "s" "[I", .methodLink RX11 94 yX11_goes, .instanceMethod yX11_goes, .selects RX11 yX11_goes yX11_goes, .code yX11_goes cX11_goes 3 (some .int), .constant RX11 78 (-1000001), .methodLink RX11 44 yX11_in, .static yX11_in, .code yX11_in cX11_in 3 (some .boolean), .methodLink RX11 91 yX11_acted, .instanceMethod yX11_acted, .selects RX11 yX11_acted yX11_acted, .code yX11_acted cX11_acted 3 (some .int), .fieldLink RX11 79 "FallingWordsModel" "states" "I", .fieldLink RX11 13 "FallingWordsModel" "was" "[I"] ++ wsX110)
def wsX11_adds : List Cond := .code yX11_adds cX11_adds 4 none :: ([.fieldLink RX11 7 "FallingWordsModel" "s" "[I"] ++ wsX110)
def wsX11_places : List Cond := .code yX11_places cX11_places 4 (some .int) :: ([.fieldLink RX11 7 "FallingWordsModel" "s" "[I", .methodLink RX11 35 yX11_length, .static yX11_length, .initialized RX11, .code yX11_length cX11_length 3 (some .int), .methodLink RX11 48 yX11_left, .instanceMethod yX11_left, .selects RX11 yX11_left yX11_left, .code yX11_left cX11_left 2 (some .int), .methodLink RX11 61 yX11_stands, .static yX11_stands, .code yX11_stands cX11_stands 6 (some .boolean)] ++ wsX110)
def wsX11_ruleOf_r1 : List Cond := [Cond.constant RX11 78 (-1000001), Cond.fieldLink RX11 7 "FallingWordsModel" "s" "[I", Cond.methodLink RX11 82 yX11_isRule, Cond.instanceMethod yX11_isRule, Cond.selects RX11 yX11_isRule yX11_isRule, Cond.initialized RX11, Cond.code yX11_isRule cX11_isRule 2 (some .boolean), Cond.methodLink RX11 44 yX11_in, Cond.static yX11_in, Cond.code yX11_in cX11_in 3 (some .boolean), Cond.methodLink RX11 48 yX11_left, Cond.instanceMethod yX11_left, Cond.selects RX11 yX11_left yX11_left, Cond.code yX11_left cX11_left 2 (some .int), Cond.methodLink RX11 35 yX11_length, Cond.static yX11_length, Cond.code yX11_length cX11_length 3 (some .int), Cond.methodLink RX11 51 yX11_right, Cond.instanceMethod yX11_right, Cond.selects RX11 yX11_right yX11_right, Cond.code yX11_right cX11_right 2 (some .int), Cond.methodLink RX11 97 yX11_places, Cond.instanceMethod yX11_places, Cond.selects RX11 yX11_places yX11_places]
def wsX11_ruleOf_r2 : List Cond := [Cond.code yX11_places cX11_places 4 (some .int), Cond.methodLink RX11 61 yX11_stands, Cond.static yX11_stands, Cond.code yX11_stands cX11_stands 6 (some .boolean), Cond.methodLink RX11 100 yX11_letterOf, Cond.static yX11_letterOf, Cond.code yX11_letterOf cX11_letterOf 2 (some .int), Cond.constant RX11 43 (-1000004), Cond.methodLink RX11 39 yX11_letter, Cond.static yX11_letter, Cond.code yX11_letter cX11_letter 2 (some .int)]
def wsX11_ruleOf : List Cond := .code yX11_ruleOf cX11_ruleOf 3 (some .int) :: ((wsX11_ruleOf_r1 ++ wsX11_ruleOf_r2) ++ wsX110)
def wsX11_steps_r1 : List Cond := [Cond.fieldLink RX11 7 "FallingWordsModel" "s" "[I", Cond.constant RX11 103 (-1000002), Cond.fieldLink RX11 54 "FallingWordsModel" "chosenRule" "I", Cond.fieldLink RX11 58 "FallingWordsModel" "chosenPlace" "I", Cond.methodLink RX11 67 yX11_chooses, Cond.instanceMethod yX11_chooses, Cond.selects RX11 yX11_chooses yX11_chooses, Cond.initialized RX11, Cond.code yX11_chooses cX11_chooses 6 (some .boolean), Cond.methodLink RX11 35 yX11_length, Cond.static yX11_length, Cond.code yX11_length cX11_length 3 (some .int), Cond.methodLink RX11 48 yX11_left, Cond.instanceMethod yX11_left, Cond.selects RX11 yX11_left yX11_left, Cond.code yX11_left cX11_left 2 (some .int), Cond.methodLink RX11 61 yX11_stands, Cond.static yX11_stands, Cond.code yX11_stands cX11_stands 6 (some .boolean), Cond.methodLink RX11 71 yX11_applied, Cond.instanceMethod yX11_applied, Cond.selects RX11 yX11_applied yX11_applied, Cond.code yX11_applied cX11_applied 7 (some .int), Cond.methodLink RX11 51 yX11_right]
def wsX11_steps_r2 : List Cond := [Cond.instanceMethod yX11_right, Cond.selects RX11 yX11_right yX11_right, Cond.code yX11_right cX11_right 2 (some .int)]
def wsX11_steps : List Cond := .code yX11_steps cX11_steps 1 (some .int) :: ((wsX11_steps_r1 ++ wsX11_steps_r2) ++ wsX110)
def wsX11_step_r1 : List Cond := [Cond.methodLink RX11 85 yX11_keeps, Cond.instanceMethod yX11_keeps, Cond.selects RX11 yX11_keeps yX11_keeps, Cond.initialized RX11, Cond.code yX11_keeps cX11_keeps 2 none, Cond.fieldLink RX11 16 "FallingWordsModel" "begun" "[I", Cond.fieldLink RX11 7 "FallingWordsModel" "s" "[I", Cond.methodLink RX11 104 yX11_steps, Cond.instanceMethod yX11_steps, Cond.selects RX11 yX11_steps yX11_steps, Cond.code yX11_steps cX11_steps 1 (some .int), Cond.constant RX11 103 (-1000002), Cond.fieldLink RX11 54 "FallingWordsModel" "chosenRule" "I", Cond.fieldLink RX11 58 "FallingWordsModel" "chosenPlace" "I", Cond.methodLink RX11 67 yX11_chooses, Cond.instanceMethod yX11_chooses, Cond.selects RX11 yX11_chooses yX11_chooses, Cond.code yX11_chooses cX11_chooses 6 (some .boolean), Cond.methodLink RX11 35 yX11_length, Cond.static yX11_length, Cond.code yX11_length cX11_length 3 (some .int), Cond.methodLink RX11 48 yX11_left, Cond.instanceMethod yX11_left, Cond.selects RX11 yX11_left yX11_left]
def wsX11_step_r2 : List Cond := [Cond.code yX11_left cX11_left 2 (some .int), Cond.methodLink RX11 61 yX11_stands, Cond.static yX11_stands, Cond.code yX11_stands cX11_stands 6 (some .boolean), Cond.methodLink RX11 71 yX11_applied, Cond.instanceMethod yX11_applied, Cond.selects RX11 yX11_applied yX11_applied, Cond.code yX11_applied cX11_applied 7 (some .int), Cond.methodLink RX11 51 yX11_right, Cond.instanceMethod yX11_right, Cond.selects RX11 yX11_right yX11_right, Cond.code yX11_right cX11_right 2 (some .int), Cond.methodLink RX11 91 yX11_acted, Cond.instanceMethod yX11_acted, Cond.selects RX11 yX11_acted yX11_acted, Cond.code yX11_acted cX11_acted 3 (some .int), Cond.constant RX11 78 (-1000001), Cond.fieldLink RX11 79 "FallingWordsModel" "states" "I", Cond.fieldLink RX11 13 "FallingWordsModel" "was" "[I"]
def wsX11_step : List Cond := .code yX11_step cX11_step 1 (some .int) :: ((wsX11_step_r1 ++ wsX11_step_r2) ++ wsX110)
def wsX11_comesFirst : List Cond := .code yX11_comesFirst cX11_comesFirst 5 none :: ([.fieldLink RX11 7 "FallingWordsModel" "s" "[I"] ++ wsX110)
def wsX11_normals_r1 : List Cond := [Cond.fieldLink RX11 7 "FallingWordsModel" "s" "[I", Cond.constant RX11 103 (-1000002), Cond.constant RX11 115 (-1000003), Cond.fieldLink RX11 64 "FallingWordsModel" "rowSteps" "I", Cond.fieldLink RX11 29 "FallingWordsModel" "rowRule" "[I", Cond.fieldLink RX11 26 "FallingWordsModel" "row" "[I", Cond.methodLink RX11 108 yX11_comesFirst, Cond.instanceMethod yX11_comesFirst, Cond.selects RX11 yX11_comesFirst yX11_comesFirst, Cond.initialized RX11, Cond.code yX11_comesFirst cX11_comesFirst 5 none, Cond.methodLink RX11 112 yX11_reduces, Cond.instanceMethod yX11_reduces, Cond.selects RX11 yX11_reduces yX11_reduces, Cond.code yX11_reduces cX11_reduces 4 (some .int), Cond.fieldLink RX11 54 "FallingWordsModel" "chosenRule" "I", Cond.fieldLink RX11 58 "FallingWordsModel" "chosenPlace" "I", Cond.fieldLink RX11 75 "FallingWordsModel" "ringFrom" "I", Cond.methodLink RX11 67 yX11_chooses, Cond.instanceMethod yX11_chooses, Cond.selects RX11 yX11_chooses yX11_chooses, Cond.code yX11_chooses cX11_chooses 6 (some .boolean), Cond.methodLink RX11 35 yX11_length, Cond.static yX11_length]
def wsX11_normals_r2 : List Cond := [Cond.code yX11_length cX11_length 3 (some .int), Cond.methodLink RX11 48 yX11_left, Cond.instanceMethod yX11_left, Cond.selects RX11 yX11_left yX11_left, Cond.code yX11_left cX11_left 2 (some .int), Cond.methodLink RX11 61 yX11_stands, Cond.static yX11_stands, Cond.code yX11_stands cX11_stands 6 (some .boolean), Cond.methodLink RX11 71 yX11_applied, Cond.instanceMethod yX11_applied, Cond.selects RX11 yX11_applied yX11_applied, Cond.code yX11_applied cX11_applied 7 (some .int), Cond.methodLink RX11 51 yX11_right, Cond.instanceMethod yX11_right, Cond.selects RX11 yX11_right yX11_right, Cond.code yX11_right cX11_right 2 (some .int)]
def wsX11_normals : List Cond := .code yX11_normals cX11_normals 4 (some .int) :: ((wsX11_normals_r1 ++ wsX11_normals_r2) ++ wsX110)
def wsX11_normal_r1 : List Cond := [Cond.methodLink RX11 85 yX11_keeps, Cond.instanceMethod yX11_keeps, Cond.selects RX11 yX11_keeps yX11_keeps, Cond.initialized RX11, Cond.code yX11_keeps cX11_keeps 2 none, Cond.fieldLink RX11 16 "FallingWordsModel" "begun" "[I", Cond.fieldLink RX11 7 "FallingWordsModel" "s" "[I", Cond.methodLink RX11 116 yX11_normals, Cond.instanceMethod yX11_normals, Cond.selects RX11 yX11_normals yX11_normals, Cond.code yX11_normals cX11_normals 4 (some .int), Cond.constant RX11 103 (-1000002), Cond.constant RX11 115 (-1000003), Cond.fieldLink RX11 64 "FallingWordsModel" "rowSteps" "I", Cond.fieldLink RX11 29 "FallingWordsModel" "rowRule" "[I", Cond.fieldLink RX11 26 "FallingWordsModel" "row" "[I", Cond.methodLink RX11 108 yX11_comesFirst, Cond.instanceMethod yX11_comesFirst, Cond.selects RX11 yX11_comesFirst yX11_comesFirst, Cond.code yX11_comesFirst cX11_comesFirst 5 none, Cond.methodLink RX11 112 yX11_reduces, Cond.instanceMethod yX11_reduces, Cond.selects RX11 yX11_reduces yX11_reduces, Cond.code yX11_reduces cX11_reduces 4 (some .int)]
def wsX11_normal_r2 : List Cond := [Cond.fieldLink RX11 54 "FallingWordsModel" "chosenRule" "I", Cond.fieldLink RX11 58 "FallingWordsModel" "chosenPlace" "I", Cond.fieldLink RX11 75 "FallingWordsModel" "ringFrom" "I", Cond.methodLink RX11 67 yX11_chooses, Cond.instanceMethod yX11_chooses, Cond.selects RX11 yX11_chooses yX11_chooses, Cond.code yX11_chooses cX11_chooses 6 (some .boolean), Cond.methodLink RX11 35 yX11_length, Cond.static yX11_length, Cond.code yX11_length cX11_length 3 (some .int), Cond.methodLink RX11 48 yX11_left, Cond.instanceMethod yX11_left, Cond.selects RX11 yX11_left yX11_left, Cond.code yX11_left cX11_left 2 (some .int), Cond.methodLink RX11 61 yX11_stands, Cond.static yX11_stands, Cond.code yX11_stands cX11_stands 6 (some .boolean), Cond.methodLink RX11 71 yX11_applied, Cond.instanceMethod yX11_applied, Cond.selects RX11 yX11_applied yX11_applied, Cond.code yX11_applied cX11_applied 7 (some .int), Cond.methodLink RX11 51 yX11_right, Cond.instanceMethod yX11_right, Cond.selects RX11 yX11_right yX11_right]
def wsX11_normal_r3 : List Cond := [Cond.code yX11_right cX11_right 2 (some .int), Cond.methodLink RX11 91 yX11_acted, Cond.instanceMethod yX11_acted, Cond.selects RX11 yX11_acted yX11_acted, Cond.code yX11_acted cX11_acted 3 (some .int), Cond.constant RX11 78 (-1000001), Cond.fieldLink RX11 79 "FallingWordsModel" "states" "I", Cond.fieldLink RX11 13 "FallingWordsModel" "was" "[I"]
def wsX11_normal : List Cond := .code yX11_normal cX11_normal 1 (some .int) :: ((wsX11_normal_r1 ++ (wsX11_normal_r2 ++ wsX11_normal_r3)) ++ wsX110)
def wsX11_letterAt : List Cond := .code yX11_letterAt cX11_letterAt 2 (some .int) :: ([.constant RX11 78 (-1000001), .fieldLink RX11 7 "FallingWordsModel" "s" "[I", .methodLink RX11 100 yX11_letterOf, .static yX11_letterOf, .initialized RX11, .code yX11_letterOf cX11_letterOf 2 (some .int), .constant RX11 43 (-1000004), .methodLink RX11 35 yX11_length, .static yX11_length, .code yX11_length cX11_length 3 (some .int), .methodLink RX11 39 yX11_letter, .static yX11_letter, .code yX11_letter cX11_letter 2 (some .int)] ++ wsX110)
def wsX11_next : List Cond := .code yX11_next cX11_next 2 (some .int) :: ([.constant RX11 78 (-1000001), .fieldLink RX11 7 "FallingWordsModel" "s" "[I", .constant RX11 43 (-1000004), .fieldLink RX11 54 "FallingWordsModel" "chosenRule" "I", .fieldLink RX11 58 "FallingWordsModel" "chosenPlace" "I", .methodLink RX11 44 yX11_in, .static yX11_in, .initialized RX11, .code yX11_in cX11_in 3 (some .boolean), .methodLink RX11 67 yX11_chooses, .instanceMethod yX11_chooses, .selects RX11 yX11_chooses yX11_chooses, .code yX11_chooses cX11_chooses 6 (some .boolean), .methodLink RX11 35 yX11_length, .static yX11_length, .code yX11_length cX11_length 3 (some .int), .methodLink RX11 48 yX11_left, .instanceMethod yX11_left, .selects RX11 yX11_left yX11_left, .code yX11_left cX11_left 2 (some .int), .methodLink RX11 61 yX11_stands, .static yX11_stands, .code yX11_stands cX11_stands 6 (some .boolean)] ++ wsX110)
def wsX11_reduced_r1 : List Cond := [Cond.constant RX11 78 (-1000001), Cond.fieldLink RX11 7 "FallingWordsModel" "s" "[I", Cond.fieldLink RX11 64 "FallingWordsModel" "rowSteps" "I", Cond.fieldLink RX11 75 "FallingWordsModel" "ringFrom" "I", Cond.constant RX11 43 (-1000004), Cond.fieldLink RX11 26 "FallingWordsModel" "row" "[I", Cond.methodLink RX11 44 yX11_in, Cond.static yX11_in, Cond.initialized RX11, Cond.code yX11_in cX11_in 3 (some .boolean), Cond.methodLink RX11 112 yX11_reduces, Cond.instanceMethod yX11_reduces, Cond.selects RX11 yX11_reduces yX11_reduces, Cond.code yX11_reduces cX11_reduces 4 (some .int), Cond.fieldLink RX11 54 "FallingWordsModel" "chosenRule" "I", Cond.fieldLink RX11 58 "FallingWordsModel" "chosenPlace" "I", Cond.fieldLink RX11 29 "FallingWordsModel" "rowRule" "[I", Cond.methodLink RX11 67 yX11_chooses, Cond.instanceMethod yX11_chooses, Cond.selects RX11 yX11_chooses yX11_chooses, Cond.code yX11_chooses cX11_chooses 6 (some .boolean), Cond.methodLink RX11 35 yX11_length, Cond.static yX11_length, Cond.code yX11_length cX11_length 3 (some .int)]
def wsX11_reduced_r2 : List Cond := [Cond.methodLink RX11 48 yX11_left, Cond.instanceMethod yX11_left, Cond.selects RX11 yX11_left yX11_left, Cond.code yX11_left cX11_left 2 (some .int), Cond.methodLink RX11 61 yX11_stands, Cond.static yX11_stands, Cond.code yX11_stands cX11_stands 6 (some .boolean), Cond.methodLink RX11 71 yX11_applied, Cond.instanceMethod yX11_applied, Cond.selects RX11 yX11_applied yX11_applied, Cond.code yX11_applied cX11_applied 7 (some .int), Cond.methodLink RX11 51 yX11_right, Cond.instanceMethod yX11_right, Cond.selects RX11 yX11_right yX11_right, Cond.code yX11_right cX11_right 2 (some .int), Cond.methodLink RX11 100 yX11_letterOf, Cond.static yX11_letterOf, Cond.code yX11_letterOf cX11_letterOf 2 (some .int), Cond.methodLink RX11 39 yX11_letter, Cond.static yX11_letter, Cond.code yX11_letter cX11_letter 2 (some .int)]
def wsX11_reduced : List Cond := .code yX11_reduced cX11_reduced 3 (some .int) :: ((wsX11_reduced_r1 ++ wsX11_reduced_r2) ++ wsX110)
def wsX11_reaches : List Cond := .code yX11_reaches cX11_reaches 4 none :: ([.fieldLink RX11 119 "FallingWordsModel" "many" "I", .fieldLink RX11 32 "FallingWordsModel" "found" "[I"] ++ wsX110)
def wsX11_reachesAll_r1 : List Cond := [Cond.fieldLink RX11 119 "FallingWordsModel" "many" "I", Cond.fieldLink RX11 7 "FallingWordsModel" "s" "[I", Cond.fieldLink RX11 32 "FallingWordsModel" "found" "[I", Cond.methodLink RX11 122 yX11_reaches, Cond.instanceMethod yX11_reaches, Cond.selects RX11 yX11_reaches yX11_reaches, Cond.initialized RX11, Cond.code yX11_reaches cX11_reaches 4 none, Cond.methodLink RX11 35 yX11_length, Cond.static yX11_length, Cond.code yX11_length cX11_length 3 (some .int), Cond.methodLink RX11 48 yX11_left, Cond.instanceMethod yX11_left, Cond.selects RX11 yX11_left yX11_left, Cond.code yX11_left cX11_left 2 (some .int), Cond.methodLink RX11 61 yX11_stands, Cond.static yX11_stands, Cond.code yX11_stands cX11_stands 6 (some .boolean), Cond.methodLink RX11 71 yX11_applied, Cond.instanceMethod yX11_applied, Cond.selects RX11 yX11_applied yX11_applied, Cond.code yX11_applied cX11_applied 7 (some .int), Cond.methodLink RX11 51 yX11_right, Cond.instanceMethod yX11_right]
def wsX11_reachesAll_r2 : List Cond := [Cond.selects RX11 yX11_right yX11_right, Cond.code yX11_right cX11_right 2 (some .int)]
def wsX11_reachesAll : List Cond := .code yX11_reachesAll cX11_reachesAll 4 none :: ((wsX11_reachesAll_r1 ++ wsX11_reachesAll_r2) ++ wsX110)
def wsX11_end : List Cond := .code yX11_end cX11_end 5 (some .int) :: ([.fieldLink RX11 119 "FallingWordsModel" "many" "I", .fieldLink RX11 32 "FallingWordsModel" "found" "[I", .methodLink RX11 67 yX11_chooses, .instanceMethod yX11_chooses, .selects RX11 yX11_chooses yX11_chooses, .initialized RX11, .code yX11_chooses cX11_chooses 6 (some .boolean), .fieldLink RX11 54 "FallingWordsModel" "chosenRule" "I", .fieldLink RX11 7 "FallingWordsModel" "s" "[I", .fieldLink RX11 58 "FallingWordsModel" "chosenPlace" "I", .methodLink RX11 35 yX11_length, .static yX11_length, .code yX11_length cX11_length 3 (some .int), .methodLink RX11 48 yX11_left, .instanceMethod yX11_left, .selects RX11 yX11_left yX11_left, .code yX11_left cX11_left 2 (some .int), .methodLink RX11 61 yX11_stands, .static yX11_stands, .code yX11_stands cX11_stands 6 (some .boolean)] ++ wsX110)
def wsX11_ends : List Cond := .code yX11_ends cX11_ends 3 (some .int) :: ([.fieldLink RX11 119 "FallingWordsModel" "many" "I", .fieldLink RX11 32 "FallingWordsModel" "found" "[I", .methodLink RX11 67 yX11_chooses, .instanceMethod yX11_chooses, .selects RX11 yX11_chooses yX11_chooses, .initialized RX11, .code yX11_chooses cX11_chooses 6 (some .boolean), .fieldLink RX11 54 "FallingWordsModel" "chosenRule" "I", .fieldLink RX11 7 "FallingWordsModel" "s" "[I", .fieldLink RX11 58 "FallingWordsModel" "chosenPlace" "I", .methodLink RX11 35 yX11_length, .static yX11_length, .code yX11_length cX11_length 3 (some .int), .methodLink RX11 48 yX11_left, .instanceMethod yX11_left, .selects RX11 yX11_left yX11_left, .code yX11_left cX11_left 2 (some .int), .methodLink RX11 61 yX11_stands, .static yX11_stands, .code yX11_stands cX11_stands 6 (some .boolean)] ++ wsX110)
def wsX11_reached_r1 : List Cond := [Cond.constant RX11 78 (-1000001), Cond.fieldLink RX11 119 "FallingWordsModel" "many" "I", Cond.constant RX11 115 (-1000003), Cond.constant RX11 43 (-1000004), Cond.methodLink RX11 44 yX11_in, Cond.static yX11_in, Cond.initialized RX11, Cond.code yX11_in cX11_in 3 (some .boolean), Cond.methodLink RX11 126 yX11_reachesAll, Cond.instanceMethod yX11_reachesAll, Cond.selects RX11 yX11_reachesAll yX11_reachesAll, Cond.code yX11_reachesAll cX11_reachesAll 4 none, Cond.fieldLink RX11 7 "FallingWordsModel" "s" "[I", Cond.fieldLink RX11 32 "FallingWordsModel" "found" "[I", Cond.methodLink RX11 122 yX11_reaches, Cond.instanceMethod yX11_reaches, Cond.selects RX11 yX11_reaches yX11_reaches, Cond.code yX11_reaches cX11_reaches 4 none, Cond.methodLink RX11 35 yX11_length, Cond.static yX11_length, Cond.code yX11_length cX11_length 3 (some .int), Cond.methodLink RX11 48 yX11_left, Cond.instanceMethod yX11_left, Cond.selects RX11 yX11_left yX11_left]
def wsX11_reached_r2 : List Cond := [Cond.code yX11_left cX11_left 2 (some .int), Cond.methodLink RX11 61 yX11_stands, Cond.static yX11_stands, Cond.code yX11_stands cX11_stands 6 (some .boolean), Cond.methodLink RX11 71 yX11_applied, Cond.instanceMethod yX11_applied, Cond.selects RX11 yX11_applied yX11_applied, Cond.code yX11_applied cX11_applied 7 (some .int), Cond.methodLink RX11 51 yX11_right, Cond.instanceMethod yX11_right, Cond.selects RX11 yX11_right yX11_right, Cond.code yX11_right cX11_right 2 (some .int), Cond.methodLink RX11 129 yX11_ends, Cond.instanceMethod yX11_ends, Cond.selects RX11 yX11_ends yX11_ends, Cond.code yX11_ends cX11_ends 3 (some .int), Cond.methodLink RX11 67 yX11_chooses, Cond.instanceMethod yX11_chooses, Cond.selects RX11 yX11_chooses yX11_chooses, Cond.code yX11_chooses cX11_chooses 6 (some .boolean), Cond.fieldLink RX11 54 "FallingWordsModel" "chosenRule" "I", Cond.fieldLink RX11 58 "FallingWordsModel" "chosenPlace" "I", Cond.methodLink RX11 132 yX11_end, Cond.instanceMethod yX11_end]
def wsX11_reached_r3 : List Cond := [Cond.selects RX11 yX11_end yX11_end, Cond.code yX11_end cX11_end 5 (some .int), Cond.methodLink RX11 100 yX11_letterOf, Cond.static yX11_letterOf, Cond.code yX11_letterOf cX11_letterOf 2 (some .int), Cond.methodLink RX11 39 yX11_letter, Cond.static yX11_letter, Cond.code yX11_letter cX11_letter 2 (some .int)]
def wsX11_reached : List Cond := .code yX11_reached cX11_reached 3 (some .int) :: ((wsX11_reached_r1 ++ (wsX11_reached_r2 ++ wsX11_reached_r3)) ++ wsX110)
def wsX11_storeOf : List Cond := .code yX11_storeOf cX11_storeOf 4 (some .int) :: ([.constant RX11 78 (-1000001), .fieldLink RX11 7 "FallingWordsModel" "s" "[I", .constant RX11 43 (-1000004), .methodLink RX11 44 yX11_in, .static yX11_in, .initialized RX11, .code yX11_in cX11_in 3 (some .boolean), .methodLink RX11 35 yX11_length, .static yX11_length, .code yX11_length cX11_length 3 (some .int), .methodLink RX11 100 yX11_letterOf, .static yX11_letterOf, .code yX11_letterOf cX11_letterOf 2 (some .int), .methodLink RX11 39 yX11_letter, .static yX11_letter, .code yX11_letter cX11_letter 2 (some .int)] ++ wsX110)
def wsX11_isOverlap : List Cond := .code yX11_isOverlap cX11_isOverlap 10 (some .boolean) :: ([.methodLink RX11 48 yX11_left, .instanceMethod yX11_left, .selects RX11 yX11_left yX11_left, .initialized RX11, .code yX11_left cX11_left 2 (some .int), .fieldLink RX11 7 "FallingWordsModel" "s" "[I", .methodLink RX11 35 yX11_length, .static yX11_length, .code yX11_length cX11_length 3 (some .int), .methodLink RX11 39 yX11_letter, .static yX11_letter, .code yX11_letter cX11_letter 2 (some .int)] ++ wsX110)
def wsX11_lays_r1 : List Cond := [Cond.fieldLink RX11 136 "FallingWordsModel" "oneRule" "I", Cond.fieldLink RX11 139 "FallingWordsModel" "otherRule" "I", Cond.fieldLink RX11 142 "FallingWordsModel" "overlapPlace" "I", Cond.fieldLink RX11 145 "FallingWordsModel" "oneWord" "I", Cond.fieldLink RX11 148 "FallingWordsModel" "otherWord" "I", Cond.methodLink RX11 48 yX11_left, Cond.instanceMethod yX11_left, Cond.selects RX11 yX11_left yX11_left, Cond.initialized RX11, Cond.code yX11_left cX11_left 2 (some .int), Cond.fieldLink RX11 7 "FallingWordsModel" "s" "[I", Cond.methodLink RX11 35 yX11_length, Cond.static yX11_length, Cond.code yX11_length cX11_length 3 (some .int), Cond.methodLink RX11 39 yX11_letter, Cond.static yX11_letter, Cond.code yX11_letter cX11_letter 2 (some .int), Cond.methodLink RX11 71 yX11_applied, Cond.instanceMethod yX11_applied, Cond.selects RX11 yX11_applied yX11_applied, Cond.code yX11_applied cX11_applied 7 (some .int), Cond.methodLink RX11 51 yX11_right, Cond.instanceMethod yX11_right, Cond.selects RX11 yX11_right yX11_right]
def wsX11_lays_r2 : List Cond := [Cond.code yX11_right cX11_right 2 (some .int)]
def wsX11_lays : List Cond := .code yX11_lays cX11_lays 6 none :: ((wsX11_lays_r1 ++ wsX11_lays_r2) ++ wsX110)
def wsX11_parts_r1 : List Cond := [Cond.fieldLink RX11 145 "FallingWordsModel" "oneWord" "I", Cond.fieldLink RX11 26 "FallingWordsModel" "row" "[I", Cond.fieldLink RX11 64 "FallingWordsModel" "rowSteps" "I", Cond.fieldLink RX11 151 "FallingWordsModel" "oneNormal" "I", Cond.fieldLink RX11 148 "FallingWordsModel" "otherWord" "I", Cond.fieldLink RX11 154 "FallingWordsModel" "otherNormal" "I", Cond.methodLink RX11 112 yX11_reduces, Cond.instanceMethod yX11_reduces, Cond.selects RX11 yX11_reduces yX11_reduces, Cond.initialized RX11, Cond.code yX11_reduces cX11_reduces 4 (some .int), Cond.fieldLink RX11 54 "FallingWordsModel" "chosenRule" "I", Cond.fieldLink RX11 58 "FallingWordsModel" "chosenPlace" "I", Cond.fieldLink RX11 29 "FallingWordsModel" "rowRule" "[I", Cond.fieldLink RX11 75 "FallingWordsModel" "ringFrom" "I", Cond.methodLink RX11 67 yX11_chooses, Cond.instanceMethod yX11_chooses, Cond.selects RX11 yX11_chooses yX11_chooses, Cond.code yX11_chooses cX11_chooses 6 (some .boolean), Cond.fieldLink RX11 7 "FallingWordsModel" "s" "[I", Cond.methodLink RX11 35 yX11_length, Cond.static yX11_length, Cond.code yX11_length cX11_length 3 (some .int), Cond.methodLink RX11 48 yX11_left]
def wsX11_parts_r2 : List Cond := [Cond.instanceMethod yX11_left, Cond.selects RX11 yX11_left yX11_left, Cond.code yX11_left cX11_left 2 (some .int), Cond.methodLink RX11 61 yX11_stands, Cond.static yX11_stands, Cond.code yX11_stands cX11_stands 6 (some .boolean), Cond.methodLink RX11 71 yX11_applied, Cond.instanceMethod yX11_applied, Cond.selects RX11 yX11_applied yX11_applied, Cond.code yX11_applied cX11_applied 7 (some .int), Cond.methodLink RX11 51 yX11_right, Cond.instanceMethod yX11_right, Cond.selects RX11 yX11_right yX11_right, Cond.code yX11_right cX11_right 2 (some .int)]
def wsX11_parts : List Cond := .code yX11_parts cX11_parts 3 (some .int) :: ((wsX11_parts_r1 ++ wsX11_parts_r2) ++ wsX110)
def wsX11_finds_r1 : List Cond := [Cond.fieldLink RX11 7 "FallingWordsModel" "s" "[I", Cond.methodLink RX11 157 yX11_isOverlap, Cond.instanceMethod yX11_isOverlap, Cond.selects RX11 yX11_isOverlap yX11_isOverlap, Cond.initialized RX11, Cond.code yX11_isOverlap cX11_isOverlap 10 (some .boolean), Cond.methodLink RX11 48 yX11_left, Cond.instanceMethod yX11_left, Cond.selects RX11 yX11_left yX11_left, Cond.code yX11_left cX11_left 2 (some .int), Cond.methodLink RX11 35 yX11_length, Cond.static yX11_length, Cond.code yX11_length cX11_length 3 (some .int), Cond.methodLink RX11 39 yX11_letter, Cond.static yX11_letter, Cond.code yX11_letter cX11_letter 2 (some .int), Cond.methodLink RX11 160 yX11_lays, Cond.instanceMethod yX11_lays, Cond.selects RX11 yX11_lays yX11_lays, Cond.code yX11_lays cX11_lays 6 none, Cond.fieldLink RX11 136 "FallingWordsModel" "oneRule" "I", Cond.fieldLink RX11 139 "FallingWordsModel" "otherRule" "I", Cond.fieldLink RX11 142 "FallingWordsModel" "overlapPlace" "I", Cond.fieldLink RX11 145 "FallingWordsModel" "oneWord" "I"]
def wsX11_finds_r2 : List Cond := [Cond.fieldLink RX11 148 "FallingWordsModel" "otherWord" "I", Cond.methodLink RX11 71 yX11_applied, Cond.instanceMethod yX11_applied, Cond.selects RX11 yX11_applied yX11_applied, Cond.code yX11_applied cX11_applied 7 (some .int), Cond.methodLink RX11 51 yX11_right, Cond.instanceMethod yX11_right, Cond.selects RX11 yX11_right yX11_right, Cond.code yX11_right cX11_right 2 (some .int), Cond.methodLink RX11 163 yX11_parts, Cond.instanceMethod yX11_parts, Cond.selects RX11 yX11_parts yX11_parts, Cond.code yX11_parts cX11_parts 3 (some .int), Cond.fieldLink RX11 26 "FallingWordsModel" "row" "[I", Cond.fieldLink RX11 64 "FallingWordsModel" "rowSteps" "I", Cond.fieldLink RX11 151 "FallingWordsModel" "oneNormal" "I", Cond.fieldLink RX11 154 "FallingWordsModel" "otherNormal" "I", Cond.methodLink RX11 112 yX11_reduces, Cond.instanceMethod yX11_reduces, Cond.selects RX11 yX11_reduces yX11_reduces, Cond.code yX11_reduces cX11_reduces 4 (some .int), Cond.fieldLink RX11 54 "FallingWordsModel" "chosenRule" "I", Cond.fieldLink RX11 58 "FallingWordsModel" "chosenPlace" "I", Cond.fieldLink RX11 29 "FallingWordsModel" "rowRule" "[I"]
def wsX11_finds_r3 : List Cond := [Cond.fieldLink RX11 75 "FallingWordsModel" "ringFrom" "I", Cond.methodLink RX11 67 yX11_chooses, Cond.instanceMethod yX11_chooses, Cond.selects RX11 yX11_chooses yX11_chooses, Cond.code yX11_chooses cX11_chooses 6 (some .boolean), Cond.methodLink RX11 61 yX11_stands, Cond.static yX11_stands, Cond.code yX11_stands cX11_stands 6 (some .boolean)]
def wsX11_finds : List Cond := .code yX11_finds cX11_finds 7 (some .int) :: ((wsX11_finds_r1 ++ (wsX11_finds_r2 ++ wsX11_finds_r3)) ++ wsX110)
def wsX11_overlapOf_r1 : List Cond := [Cond.constant RX11 78 (-1000001), Cond.fieldLink RX11 136 "FallingWordsModel" "oneRule" "I", Cond.fieldLink RX11 142 "FallingWordsModel" "overlapPlace" "I", Cond.fieldLink RX11 139 "FallingWordsModel" "otherRule" "I", Cond.fieldLink RX11 145 "FallingWordsModel" "oneWord" "I", Cond.fieldLink RX11 148 "FallingWordsModel" "otherWord" "I", Cond.methodLink RX11 44 yX11_in, Cond.static yX11_in, Cond.initialized RX11, Cond.code yX11_in cX11_in 3 (some .boolean), Cond.methodLink RX11 166 yX11_finds, Cond.instanceMethod yX11_finds, Cond.selects RX11 yX11_finds yX11_finds, Cond.code yX11_finds cX11_finds 7 (some .int), Cond.fieldLink RX11 7 "FallingWordsModel" "s" "[I", Cond.methodLink RX11 157 yX11_isOverlap, Cond.instanceMethod yX11_isOverlap, Cond.selects RX11 yX11_isOverlap yX11_isOverlap, Cond.code yX11_isOverlap cX11_isOverlap 10 (some .boolean), Cond.methodLink RX11 48 yX11_left, Cond.instanceMethod yX11_left, Cond.selects RX11 yX11_left yX11_left, Cond.code yX11_left cX11_left 2 (some .int), Cond.methodLink RX11 35 yX11_length]
def wsX11_overlapOf_r2 : List Cond := [Cond.static yX11_length, Cond.code yX11_length cX11_length 3 (some .int), Cond.methodLink RX11 39 yX11_letter, Cond.static yX11_letter, Cond.code yX11_letter cX11_letter 2 (some .int), Cond.methodLink RX11 160 yX11_lays, Cond.instanceMethod yX11_lays, Cond.selects RX11 yX11_lays yX11_lays, Cond.code yX11_lays cX11_lays 6 none, Cond.methodLink RX11 71 yX11_applied, Cond.instanceMethod yX11_applied, Cond.selects RX11 yX11_applied yX11_applied, Cond.code yX11_applied cX11_applied 7 (some .int), Cond.methodLink RX11 51 yX11_right, Cond.instanceMethod yX11_right, Cond.selects RX11 yX11_right yX11_right, Cond.code yX11_right cX11_right 2 (some .int), Cond.methodLink RX11 163 yX11_parts, Cond.instanceMethod yX11_parts, Cond.selects RX11 yX11_parts yX11_parts, Cond.code yX11_parts cX11_parts 3 (some .int), Cond.fieldLink RX11 26 "FallingWordsModel" "row" "[I", Cond.fieldLink RX11 64 "FallingWordsModel" "rowSteps" "I", Cond.fieldLink RX11 151 "FallingWordsModel" "oneNormal" "I"]
def wsX11_overlapOf_r3 : List Cond := [Cond.fieldLink RX11 154 "FallingWordsModel" "otherNormal" "I", Cond.methodLink RX11 112 yX11_reduces, Cond.instanceMethod yX11_reduces, Cond.selects RX11 yX11_reduces yX11_reduces, Cond.code yX11_reduces cX11_reduces 4 (some .int), Cond.fieldLink RX11 54 "FallingWordsModel" "chosenRule" "I", Cond.fieldLink RX11 58 "FallingWordsModel" "chosenPlace" "I", Cond.fieldLink RX11 29 "FallingWordsModel" "rowRule" "[I", Cond.fieldLink RX11 75 "FallingWordsModel" "ringFrom" "I", Cond.methodLink RX11 67 yX11_chooses, Cond.instanceMethod yX11_chooses, Cond.selects RX11 yX11_chooses yX11_chooses, Cond.code yX11_chooses cX11_chooses 6 (some .boolean), Cond.methodLink RX11 61 yX11_stands, Cond.static yX11_stands, Cond.code yX11_stands cX11_stands 6 (some .boolean)]
def wsX11_overlapOf : List Cond := .code yX11_overlapOf cX11_overlapOf 5 (some .int) :: ((wsX11_overlapOf_r1 ++ (wsX11_overlapOf_r2 ++ wsX11_overlapOf_r3)) ++ wsX110)
def wsX11_completes_r1 : List Cond := [Cond.constant RX11 78 (-1000001), Cond.fieldLink RX11 151 "FallingWordsModel" "oneNormal" "I", Cond.fieldLink RX11 154 "FallingWordsModel" "otherNormal" "I", Cond.fieldLink RX11 7 "FallingWordsModel" "s" "[I", Cond.constant RX11 115 (-1000003), Cond.methodLink RX11 44 yX11_in, Cond.static yX11_in, Cond.initialized RX11, Cond.code yX11_in cX11_in 3 (some .boolean), Cond.methodLink RX11 166 yX11_finds, Cond.instanceMethod yX11_finds, Cond.selects RX11 yX11_finds yX11_finds, Cond.code yX11_finds cX11_finds 7 (some .int), Cond.methodLink RX11 157 yX11_isOverlap, Cond.instanceMethod yX11_isOverlap, Cond.selects RX11 yX11_isOverlap yX11_isOverlap, Cond.code yX11_isOverlap cX11_isOverlap 10 (some .boolean), Cond.methodLink RX11 48 yX11_left, Cond.instanceMethod yX11_left, Cond.selects RX11 yX11_left yX11_left, Cond.code yX11_left cX11_left 2 (some .int), Cond.methodLink RX11 35 yX11_length, Cond.static yX11_length, Cond.code yX11_length cX11_length 3 (some .int)]
def wsX11_completes_r2 : List Cond := [Cond.methodLink RX11 39 yX11_letter, Cond.static yX11_letter, Cond.code yX11_letter cX11_letter 2 (some .int), Cond.methodLink RX11 160 yX11_lays, Cond.instanceMethod yX11_lays, Cond.selects RX11 yX11_lays yX11_lays, Cond.code yX11_lays cX11_lays 6 none, Cond.fieldLink RX11 136 "FallingWordsModel" "oneRule" "I", Cond.fieldLink RX11 139 "FallingWordsModel" "otherRule" "I", Cond.fieldLink RX11 142 "FallingWordsModel" "overlapPlace" "I", Cond.fieldLink RX11 145 "FallingWordsModel" "oneWord" "I", Cond.fieldLink RX11 148 "FallingWordsModel" "otherWord" "I", Cond.methodLink RX11 71 yX11_applied, Cond.instanceMethod yX11_applied, Cond.selects RX11 yX11_applied yX11_applied, Cond.code yX11_applied cX11_applied 7 (some .int), Cond.methodLink RX11 51 yX11_right, Cond.instanceMethod yX11_right, Cond.selects RX11 yX11_right yX11_right, Cond.code yX11_right cX11_right 2 (some .int), Cond.methodLink RX11 163 yX11_parts, Cond.instanceMethod yX11_parts, Cond.selects RX11 yX11_parts yX11_parts, Cond.code yX11_parts cX11_parts 3 (some .int)]
def wsX11_completes_r3 : List Cond := [Cond.fieldLink RX11 26 "FallingWordsModel" "row" "[I", Cond.fieldLink RX11 64 "FallingWordsModel" "rowSteps" "I", Cond.methodLink RX11 112 yX11_reduces, Cond.instanceMethod yX11_reduces, Cond.selects RX11 yX11_reduces yX11_reduces, Cond.code yX11_reduces cX11_reduces 4 (some .int), Cond.fieldLink RX11 54 "FallingWordsModel" "chosenRule" "I", Cond.fieldLink RX11 58 "FallingWordsModel" "chosenPlace" "I", Cond.fieldLink RX11 29 "FallingWordsModel" "rowRule" "[I", Cond.fieldLink RX11 75 "FallingWordsModel" "ringFrom" "I", Cond.methodLink RX11 67 yX11_chooses, Cond.instanceMethod yX11_chooses, Cond.selects RX11 yX11_chooses yX11_chooses, Cond.code yX11_chooses cX11_chooses 6 (some .boolean), Cond.methodLink RX11 61 yX11_stands, Cond.static yX11_stands, Cond.code yX11_stands cX11_stands 6 (some .boolean), Cond.methodLink RX11 169 yX11_adds, Cond.instanceMethod yX11_adds, Cond.selects RX11 yX11_adds yX11_adds, Cond.code yX11_adds cX11_adds 4 none]
def wsX11_completes : List Cond := .code yX11_completes cX11_completes 4 (some .int) :: ((wsX11_completes_r1 ++ (wsX11_completes_r2 ++ wsX11_completes_r3)) ++ wsX110)
def wsX11_complete_r1 : List Cond := [Cond.fieldLink RX11 7 "FallingWordsModel" "s" "[I", Cond.fieldLink RX11 16 "FallingWordsModel" "begun" "[I", Cond.methodLink RX11 85 yX11_keeps, Cond.instanceMethod yX11_keeps, Cond.selects RX11 yX11_keeps yX11_keeps, Cond.initialized RX11, Cond.code yX11_keeps cX11_keeps 2 none, Cond.methodLink RX11 173 yX11_completes, Cond.instanceMethod yX11_completes, Cond.selects RX11 yX11_completes yX11_completes, Cond.code yX11_completes cX11_completes 4 (some .int), Cond.constant RX11 78 (-1000001), Cond.fieldLink RX11 151 "FallingWordsModel" "oneNormal" "I", Cond.fieldLink RX11 154 "FallingWordsModel" "otherNormal" "I", Cond.constant RX11 115 (-1000003), Cond.methodLink RX11 44 yX11_in, Cond.static yX11_in, Cond.code yX11_in cX11_in 3 (some .boolean), Cond.methodLink RX11 166 yX11_finds, Cond.instanceMethod yX11_finds, Cond.selects RX11 yX11_finds yX11_finds, Cond.code yX11_finds cX11_finds 7 (some .int), Cond.methodLink RX11 157 yX11_isOverlap, Cond.instanceMethod yX11_isOverlap]
def wsX11_complete_r2 : List Cond := [Cond.selects RX11 yX11_isOverlap yX11_isOverlap, Cond.code yX11_isOverlap cX11_isOverlap 10 (some .boolean), Cond.methodLink RX11 48 yX11_left, Cond.instanceMethod yX11_left, Cond.selects RX11 yX11_left yX11_left, Cond.code yX11_left cX11_left 2 (some .int), Cond.methodLink RX11 35 yX11_length, Cond.static yX11_length, Cond.code yX11_length cX11_length 3 (some .int), Cond.methodLink RX11 39 yX11_letter, Cond.static yX11_letter, Cond.code yX11_letter cX11_letter 2 (some .int), Cond.methodLink RX11 160 yX11_lays, Cond.instanceMethod yX11_lays, Cond.selects RX11 yX11_lays yX11_lays, Cond.code yX11_lays cX11_lays 6 none, Cond.fieldLink RX11 136 "FallingWordsModel" "oneRule" "I", Cond.fieldLink RX11 139 "FallingWordsModel" "otherRule" "I", Cond.fieldLink RX11 142 "FallingWordsModel" "overlapPlace" "I", Cond.fieldLink RX11 145 "FallingWordsModel" "oneWord" "I", Cond.fieldLink RX11 148 "FallingWordsModel" "otherWord" "I", Cond.methodLink RX11 71 yX11_applied, Cond.instanceMethod yX11_applied, Cond.selects RX11 yX11_applied yX11_applied]
def wsX11_complete_r3 : List Cond := [Cond.code yX11_applied cX11_applied 7 (some .int), Cond.methodLink RX11 51 yX11_right, Cond.instanceMethod yX11_right, Cond.selects RX11 yX11_right yX11_right, Cond.code yX11_right cX11_right 2 (some .int), Cond.methodLink RX11 163 yX11_parts, Cond.instanceMethod yX11_parts, Cond.selects RX11 yX11_parts yX11_parts, Cond.code yX11_parts cX11_parts 3 (some .int), Cond.fieldLink RX11 26 "FallingWordsModel" "row" "[I", Cond.fieldLink RX11 64 "FallingWordsModel" "rowSteps" "I", Cond.methodLink RX11 112 yX11_reduces, Cond.instanceMethod yX11_reduces, Cond.selects RX11 yX11_reduces yX11_reduces, Cond.code yX11_reduces cX11_reduces 4 (some .int), Cond.fieldLink RX11 54 "FallingWordsModel" "chosenRule" "I", Cond.fieldLink RX11 58 "FallingWordsModel" "chosenPlace" "I", Cond.fieldLink RX11 29 "FallingWordsModel" "rowRule" "[I", Cond.fieldLink RX11 75 "FallingWordsModel" "ringFrom" "I", Cond.methodLink RX11 67 yX11_chooses, Cond.instanceMethod yX11_chooses, Cond.selects RX11 yX11_chooses yX11_chooses, Cond.code yX11_chooses cX11_chooses 6 (some .boolean), Cond.methodLink RX11 61 yX11_stands]
def wsX11_complete_r4 : List Cond := [Cond.static yX11_stands, Cond.code yX11_stands cX11_stands 6 (some .boolean), Cond.methodLink RX11 169 yX11_adds, Cond.instanceMethod yX11_adds, Cond.selects RX11 yX11_adds yX11_adds, Cond.code yX11_adds cX11_adds 4 none, Cond.methodLink RX11 91 yX11_acted, Cond.instanceMethod yX11_acted, Cond.selects RX11 yX11_acted yX11_acted, Cond.code yX11_acted cX11_acted 3 (some .int), Cond.fieldLink RX11 79 "FallingWordsModel" "states" "I", Cond.fieldLink RX11 13 "FallingWordsModel" "was" "[I"]
def wsX11_complete : List Cond := .code yX11_complete cX11_complete 4 (some .int) :: ((wsX11_complete_r1 ++ (wsX11_complete_r2 ++ (wsX11_complete_r3 ++ wsX11_complete_r4))) ++ wsX110)
def wsX11_count_r1 : List Cond := [Cond.fieldLink RX11 7 "FallingWordsModel" "s" "[I", Cond.fieldLink RX11 79 "FallingWordsModel" "states" "I", Cond.fieldLink RX11 176 "FallingWordsModel" "typed" "I", Cond.constant RX11 78 (-1000001), Cond.methodLink RX11 35 yX11_length, Cond.static yX11_length, Cond.initialized RX11, Cond.code yX11_length cX11_length 3 (some .int), Cond.methodLink RX11 166 yX11_finds, Cond.instanceMethod yX11_finds, Cond.selects RX11 yX11_finds yX11_finds, Cond.code yX11_finds cX11_finds 7 (some .int), Cond.methodLink RX11 157 yX11_isOverlap, Cond.instanceMethod yX11_isOverlap, Cond.selects RX11 yX11_isOverlap yX11_isOverlap, Cond.code yX11_isOverlap cX11_isOverlap 10 (some .boolean), Cond.methodLink RX11 48 yX11_left, Cond.instanceMethod yX11_left, Cond.selects RX11 yX11_left yX11_left, Cond.code yX11_left cX11_left 2 (some .int), Cond.methodLink RX11 39 yX11_letter, Cond.static yX11_letter, Cond.code yX11_letter cX11_letter 2 (some .int), Cond.methodLink RX11 160 yX11_lays]
def wsX11_count_r2 : List Cond := [Cond.instanceMethod yX11_lays, Cond.selects RX11 yX11_lays yX11_lays, Cond.code yX11_lays cX11_lays 6 none, Cond.fieldLink RX11 136 "FallingWordsModel" "oneRule" "I", Cond.fieldLink RX11 139 "FallingWordsModel" "otherRule" "I", Cond.fieldLink RX11 142 "FallingWordsModel" "overlapPlace" "I", Cond.fieldLink RX11 145 "FallingWordsModel" "oneWord" "I", Cond.fieldLink RX11 148 "FallingWordsModel" "otherWord" "I", Cond.methodLink RX11 71 yX11_applied, Cond.instanceMethod yX11_applied, Cond.selects RX11 yX11_applied yX11_applied, Cond.code yX11_applied cX11_applied 7 (some .int), Cond.methodLink RX11 51 yX11_right, Cond.instanceMethod yX11_right, Cond.selects RX11 yX11_right yX11_right, Cond.code yX11_right cX11_right 2 (some .int), Cond.methodLink RX11 163 yX11_parts, Cond.instanceMethod yX11_parts, Cond.selects RX11 yX11_parts yX11_parts, Cond.code yX11_parts cX11_parts 3 (some .int), Cond.fieldLink RX11 26 "FallingWordsModel" "row" "[I", Cond.fieldLink RX11 64 "FallingWordsModel" "rowSteps" "I", Cond.fieldLink RX11 151 "FallingWordsModel" "oneNormal" "I", Cond.fieldLink RX11 154 "FallingWordsModel" "otherNormal" "I"]
def wsX11_count_r3 : List Cond := [Cond.methodLink RX11 112 yX11_reduces, Cond.instanceMethod yX11_reduces, Cond.selects RX11 yX11_reduces yX11_reduces, Cond.code yX11_reduces cX11_reduces 4 (some .int), Cond.fieldLink RX11 54 "FallingWordsModel" "chosenRule" "I", Cond.fieldLink RX11 58 "FallingWordsModel" "chosenPlace" "I", Cond.fieldLink RX11 29 "FallingWordsModel" "rowRule" "[I", Cond.fieldLink RX11 75 "FallingWordsModel" "ringFrom" "I", Cond.methodLink RX11 67 yX11_chooses, Cond.instanceMethod yX11_chooses, Cond.selects RX11 yX11_chooses yX11_chooses, Cond.code yX11_chooses cX11_chooses 6 (some .boolean), Cond.methodLink RX11 61 yX11_stands, Cond.static yX11_stands, Cond.code yX11_stands cX11_stands 6 (some .boolean)]
def wsX11_count : List Cond := .code yX11_count cX11_count 2 (some .int) :: ((wsX11_count_r1 ++ (wsX11_count_r2 ++ wsX11_count_r3)) ++ wsX110)
def wsX11_undo : List Cond := .code yX11_undo cX11_undo 2 (some .int) :: ([.fieldLink RX11 79 "FallingWordsModel" "states" "I", .constant RX11 103 (-1000002), .fieldLink RX11 7 "FallingWordsModel" "s" "[I", .fieldLink RX11 13 "FallingWordsModel" "was" "[I"] ++ wsX110)
def wsX11_type : List Cond := .code yX11_type cX11_type 2 (some .int) :: ([.constant RX11 78 (-1000001), .fieldLink RX11 176 "FallingWordsModel" "typed" "I", .constant RX11 115 (-1000003), .fieldLink RX11 22 "FallingWordsModel" "text" "[C", .methodLink RX11 44 yX11_in, .static yX11_in, .initialized RX11, .code yX11_in cX11_in 3 (some .boolean)] ++ wsX110)
def wsX11_clearText : List Cond := .code yX11_clearText cX11_clearText 2 (some .int) :: ([.fieldLink RX11 176 "FallingWordsModel" "typed" "I"] ++ wsX110)
def wsX11_sign : List Cond := .code yX11_sign cX11_sign 1 (some .int) :: ([.fieldLink RX11 179 "FallingWordsModel" "at" "I", .fieldLink RX11 176 "FallingWordsModel" "typed" "I", .fieldLink RX11 22 "FallingWordsModel" "text" "[C"] ++ wsX110)
def wsX11_takes : List Cond := .code yX11_takes cX11_takes 3 (some .boolean) :: ([.fieldLink RX11 179 "FallingWordsModel" "at" "I", .methodLink RX11 182 yX11_sign, .instanceMethod yX11_sign, .selects RX11 yX11_sign yX11_sign, .initialized RX11, .code yX11_sign cX11_sign 1 (some .int), .fieldLink RX11 176 "FallingWordsModel" "typed" "I", .fieldLink RX11 22 "FallingWordsModel" "text" "[C"] ++ wsX110)
def wsX11_readsWord : List Cond := .code yX11_readsWord cX11_readsWord 1 none :: ([.fieldLink RX11 185 "FallingWordsModel" "read" "I", .fieldLink RX11 188 "FallingWordsModel" "readLength" "I", .fieldLink RX11 179 "FallingWordsModel" "at" "I", .methodLink RX11 182 yX11_sign, .instanceMethod yX11_sign, .selects RX11 yX11_sign yX11_sign, .initialized RX11, .code yX11_sign cX11_sign 1 (some .int), .fieldLink RX11 176 "FallingWordsModel" "typed" "I", .fieldLink RX11 22 "FallingWordsModel" "text" "[C", .methodLink RX11 44 yX11_in, .static yX11_in, .code yX11_in cX11_in 3 (some .boolean)] ++ wsX110)
def wsX11_says : List Cond := .code yX11_says cX11_says 3 (some .int) :: ([.fieldLink RX11 191 "FallingWordsModel" "cause" "I"] ++ wsX110)
def wsX11_readsRule_r1 : List Cond := [Cond.fieldLink RX11 185 "FallingWordsModel" "read" "I", Cond.fieldLink RX11 188 "FallingWordsModel" "readLength" "I", Cond.fieldLink RX11 179 "FallingWordsModel" "at" "I", Cond.constant RX11 43 (-1000004), Cond.fieldLink RX11 7 "FallingWordsModel" "s" "[I", Cond.methodLink RX11 194 yX11_readsWord, Cond.instanceMethod yX11_readsWord, Cond.selects RX11 yX11_readsWord yX11_readsWord, Cond.initialized RX11, Cond.code yX11_readsWord cX11_readsWord 1 none, Cond.methodLink RX11 182 yX11_sign, Cond.instanceMethod yX11_sign, Cond.selects RX11 yX11_sign yX11_sign, Cond.code yX11_sign cX11_sign 1 (some .int), Cond.fieldLink RX11 176 "FallingWordsModel" "typed" "I", Cond.fieldLink RX11 22 "FallingWordsModel" "text" "[C", Cond.methodLink RX11 44 yX11_in, Cond.static yX11_in, Cond.code yX11_in cX11_in 3 (some .boolean), Cond.methodLink RX11 197 yX11_takes, Cond.instanceMethod yX11_takes, Cond.selects RX11 yX11_takes yX11_takes, Cond.code yX11_takes cX11_takes 3 (some .boolean), Cond.methodLink RX11 201 yX11_says]
def wsX11_readsRule_r2 : List Cond := [Cond.instanceMethod yX11_says, Cond.selects RX11 yX11_says yX11_says, Cond.code yX11_says cX11_says 3 (some .int), Cond.fieldLink RX11 191 "FallingWordsModel" "cause" "I", Cond.methodLink RX11 48 yX11_left, Cond.instanceMethod yX11_left, Cond.selects RX11 yX11_left yX11_left, Cond.code yX11_left cX11_left 2 (some .int), Cond.methodLink RX11 51 yX11_right, Cond.instanceMethod yX11_right, Cond.selects RX11 yX11_right yX11_right, Cond.code yX11_right cX11_right 2 (some .int), Cond.methodLink RX11 169 yX11_adds, Cond.instanceMethod yX11_adds, Cond.selects RX11 yX11_adds yX11_adds, Cond.code yX11_adds cX11_adds 4 none]
def wsX11_readsRule : List Cond := .code yX11_readsRule cX11_readsRule 6 (some .int) :: ((wsX11_readsRule_r1 ++ wsX11_readsRule_r2) ++ wsX110)
def wsX11_readsDigit_r1 : List Cond := [Cond.fieldLink RX11 179 "FallingWordsModel" "at" "I", Cond.constant RX11 78 (-1000001), Cond.constant RX11 43 (-1000004), Cond.methodLink RX11 182 yX11_sign, Cond.instanceMethod yX11_sign, Cond.selects RX11 yX11_sign yX11_sign, Cond.initialized RX11, Cond.code yX11_sign cX11_sign 1 (some .int), Cond.fieldLink RX11 176 "FallingWordsModel" "typed" "I", Cond.fieldLink RX11 22 "FallingWordsModel" "text" "[C", Cond.methodLink RX11 44 yX11_in, Cond.static yX11_in, Cond.code yX11_in cX11_in 3 (some .boolean), Cond.methodLink RX11 201 yX11_says, Cond.instanceMethod yX11_says, Cond.selects RX11 yX11_says yX11_says, Cond.code yX11_says cX11_says 3 (some .int), Cond.fieldLink RX11 191 "FallingWordsModel" "cause" "I", Cond.methodLink RX11 197 yX11_takes, Cond.instanceMethod yX11_takes, Cond.selects RX11 yX11_takes yX11_takes, Cond.code yX11_takes cX11_takes 3 (some .boolean), Cond.methodLink RX11 88 yX11_drops, Cond.instanceMethod yX11_drops]
def wsX11_readsDigit_r2 : List Cond := [Cond.selects RX11 yX11_drops yX11_drops, Cond.code yX11_drops cX11_drops 3 (some .int), Cond.fieldLink RX11 7 "FallingWordsModel" "s" "[I", Cond.methodLink RX11 82 yX11_isRule, Cond.instanceMethod yX11_isRule, Cond.selects RX11 yX11_isRule yX11_isRule, Cond.code yX11_isRule cX11_isRule 2 (some .boolean), Cond.methodLink RX11 94 yX11_goes, Cond.instanceMethod yX11_goes, Cond.selects RX11 yX11_goes yX11_goes, Cond.code yX11_goes cX11_goes 3 (some .int)]
def wsX11_readsDigit : List Cond := .code yX11_readsDigit cX11_readsDigit 5 (some .int) :: ((wsX11_readsDigit_r1 ++ wsX11_readsDigit_r2) ++ wsX110)
def wsX11_readsSet_r1 : List Cond := [Cond.fieldLink RX11 179 "FallingWordsModel" "at" "I", Cond.fieldLink RX11 188 "FallingWordsModel" "readLength" "I", Cond.constant RX11 43 (-1000004), Cond.fieldLink RX11 7 "FallingWordsModel" "s" "[I", Cond.fieldLink RX11 185 "FallingWordsModel" "read" "I", Cond.methodLink RX11 194 yX11_readsWord, Cond.instanceMethod yX11_readsWord, Cond.selects RX11 yX11_readsWord yX11_readsWord, Cond.initialized RX11, Cond.code yX11_readsWord cX11_readsWord 1 none, Cond.methodLink RX11 182 yX11_sign, Cond.instanceMethod yX11_sign, Cond.selects RX11 yX11_sign yX11_sign, Cond.code yX11_sign cX11_sign 1 (some .int), Cond.fieldLink RX11 176 "FallingWordsModel" "typed" "I", Cond.fieldLink RX11 22 "FallingWordsModel" "text" "[C", Cond.methodLink RX11 44 yX11_in, Cond.static yX11_in, Cond.code yX11_in cX11_in 3 (some .boolean), Cond.methodLink RX11 197 yX11_takes, Cond.instanceMethod yX11_takes, Cond.selects RX11 yX11_takes yX11_takes, Cond.code yX11_takes cX11_takes 3 (some .boolean), Cond.methodLink RX11 201 yX11_says]
def wsX11_readsSet_r2 : List Cond := [Cond.instanceMethod yX11_says, Cond.selects RX11 yX11_says yX11_says, Cond.code yX11_says cX11_says 3 (some .int), Cond.fieldLink RX11 191 "FallingWordsModel" "cause" "I"]
def wsX11_readsSet : List Cond := .code yX11_readsSet cX11_readsSet 2 (some .int) :: ((wsX11_readsSet_r1 ++ wsX11_readsSet_r2) ++ wsX110)
def wsX11_readsDeed_r1 : List Cond := [Cond.fieldLink RX11 179 "FallingWordsModel" "at" "I", Cond.constant RX11 78 (-1000001), Cond.methodLink RX11 197 yX11_takes, Cond.instanceMethod yX11_takes, Cond.selects RX11 yX11_takes yX11_takes, Cond.initialized RX11, Cond.code yX11_takes cX11_takes 3 (some .boolean), Cond.methodLink RX11 182 yX11_sign, Cond.instanceMethod yX11_sign, Cond.selects RX11 yX11_sign yX11_sign, Cond.code yX11_sign cX11_sign 1 (some .int), Cond.fieldLink RX11 176 "FallingWordsModel" "typed" "I", Cond.fieldLink RX11 22 "FallingWordsModel" "text" "[C", Cond.methodLink RX11 201 yX11_says, Cond.instanceMethod yX11_says, Cond.selects RX11 yX11_says yX11_says, Cond.code yX11_says cX11_says 3 (some .int), Cond.fieldLink RX11 191 "FallingWordsModel" "cause" "I", Cond.methodLink RX11 104 yX11_steps, Cond.instanceMethod yX11_steps, Cond.selects RX11 yX11_steps yX11_steps, Cond.code yX11_steps cX11_steps 1 (some .int), Cond.fieldLink RX11 7 "FallingWordsModel" "s" "[I", Cond.constant RX11 103 (-1000002)]
def wsX11_readsDeed_r2 : List Cond := [Cond.fieldLink RX11 54 "FallingWordsModel" "chosenRule" "I", Cond.fieldLink RX11 58 "FallingWordsModel" "chosenPlace" "I", Cond.methodLink RX11 67 yX11_chooses, Cond.instanceMethod yX11_chooses, Cond.selects RX11 yX11_chooses yX11_chooses, Cond.code yX11_chooses cX11_chooses 6 (some .boolean), Cond.methodLink RX11 35 yX11_length, Cond.static yX11_length, Cond.code yX11_length cX11_length 3 (some .int), Cond.methodLink RX11 48 yX11_left, Cond.instanceMethod yX11_left, Cond.selects RX11 yX11_left yX11_left, Cond.code yX11_left cX11_left 2 (some .int), Cond.methodLink RX11 61 yX11_stands, Cond.static yX11_stands, Cond.code yX11_stands cX11_stands 6 (some .boolean), Cond.methodLink RX11 71 yX11_applied, Cond.instanceMethod yX11_applied, Cond.selects RX11 yX11_applied yX11_applied, Cond.code yX11_applied cX11_applied 7 (some .int), Cond.methodLink RX11 51 yX11_right, Cond.instanceMethod yX11_right, Cond.selects RX11 yX11_right yX11_right, Cond.code yX11_right cX11_right 2 (some .int)]
def wsX11_readsDeed_r3 : List Cond := [Cond.methodLink RX11 116 yX11_normals, Cond.instanceMethod yX11_normals, Cond.selects RX11 yX11_normals yX11_normals, Cond.code yX11_normals cX11_normals 4 (some .int), Cond.constant RX11 115 (-1000003), Cond.fieldLink RX11 64 "FallingWordsModel" "rowSteps" "I", Cond.fieldLink RX11 29 "FallingWordsModel" "rowRule" "[I", Cond.fieldLink RX11 26 "FallingWordsModel" "row" "[I", Cond.methodLink RX11 108 yX11_comesFirst, Cond.instanceMethod yX11_comesFirst, Cond.selects RX11 yX11_comesFirst yX11_comesFirst, Cond.code yX11_comesFirst cX11_comesFirst 5 none, Cond.methodLink RX11 112 yX11_reduces, Cond.instanceMethod yX11_reduces, Cond.selects RX11 yX11_reduces yX11_reduces, Cond.code yX11_reduces cX11_reduces 4 (some .int), Cond.fieldLink RX11 75 "FallingWordsModel" "ringFrom" "I"]
def wsX11_readsDeed : List Cond := .code yX11_readsDeed cX11_readsDeed 4 (some .int) :: ((wsX11_readsDeed_r1 ++ (wsX11_readsDeed_r2 ++ wsX11_readsDeed_r3)) ++ wsX110)
def wsX11_doesNext_r1 : List Cond := [Cond.fieldLink RX11 179 "FallingWordsModel" "at" "I", Cond.methodLink RX11 182 yX11_sign, Cond.instanceMethod yX11_sign, Cond.selects RX11 yX11_sign yX11_sign, Cond.initialized RX11, Cond.code yX11_sign cX11_sign 1 (some .int), Cond.fieldLink RX11 176 "FallingWordsModel" "typed" "I", Cond.fieldLink RX11 22 "FallingWordsModel" "text" "[C", Cond.methodLink RX11 204 yX11_readsRule, Cond.instanceMethod yX11_readsRule, Cond.selects RX11 yX11_readsRule yX11_readsRule, Cond.code yX11_readsRule cX11_readsRule 6 (some .int), Cond.fieldLink RX11 185 "FallingWordsModel" "read" "I", Cond.fieldLink RX11 188 "FallingWordsModel" "readLength" "I", Cond.constant RX11 43 (-1000004), Cond.fieldLink RX11 7 "FallingWordsModel" "s" "[I", Cond.methodLink RX11 194 yX11_readsWord, Cond.instanceMethod yX11_readsWord, Cond.selects RX11 yX11_readsWord yX11_readsWord, Cond.code yX11_readsWord cX11_readsWord 1 none, Cond.methodLink RX11 44 yX11_in, Cond.static yX11_in, Cond.code yX11_in cX11_in 3 (some .boolean), Cond.methodLink RX11 197 yX11_takes]
def wsX11_doesNext_r2 : List Cond := [Cond.instanceMethod yX11_takes, Cond.selects RX11 yX11_takes yX11_takes, Cond.code yX11_takes cX11_takes 3 (some .boolean), Cond.methodLink RX11 201 yX11_says, Cond.instanceMethod yX11_says, Cond.selects RX11 yX11_says yX11_says, Cond.code yX11_says cX11_says 3 (some .int), Cond.fieldLink RX11 191 "FallingWordsModel" "cause" "I", Cond.methodLink RX11 48 yX11_left, Cond.instanceMethod yX11_left, Cond.selects RX11 yX11_left yX11_left, Cond.code yX11_left cX11_left 2 (some .int), Cond.methodLink RX11 51 yX11_right, Cond.instanceMethod yX11_right, Cond.selects RX11 yX11_right yX11_right, Cond.code yX11_right cX11_right 2 (some .int), Cond.methodLink RX11 169 yX11_adds, Cond.instanceMethod yX11_adds, Cond.selects RX11 yX11_adds yX11_adds, Cond.code yX11_adds cX11_adds 4 none, Cond.methodLink RX11 207 yX11_readsDigit, Cond.instanceMethod yX11_readsDigit, Cond.selects RX11 yX11_readsDigit yX11_readsDigit, Cond.code yX11_readsDigit cX11_readsDigit 5 (some .int)]
def wsX11_doesNext_r3 : List Cond := [Cond.constant RX11 78 (-1000001), Cond.methodLink RX11 88 yX11_drops, Cond.instanceMethod yX11_drops, Cond.selects RX11 yX11_drops yX11_drops, Cond.code yX11_drops cX11_drops 3 (some .int), Cond.methodLink RX11 82 yX11_isRule, Cond.instanceMethod yX11_isRule, Cond.selects RX11 yX11_isRule yX11_isRule, Cond.code yX11_isRule cX11_isRule 2 (some .boolean), Cond.methodLink RX11 94 yX11_goes, Cond.instanceMethod yX11_goes, Cond.selects RX11 yX11_goes yX11_goes, Cond.code yX11_goes cX11_goes 3 (some .int), Cond.methodLink RX11 211 yX11_readsSet, Cond.instanceMethod yX11_readsSet, Cond.selects RX11 yX11_readsSet yX11_readsSet, Cond.code yX11_readsSet cX11_readsSet 2 (some .int), Cond.methodLink RX11 214 yX11_readsDeed, Cond.instanceMethod yX11_readsDeed, Cond.selects RX11 yX11_readsDeed yX11_readsDeed, Cond.code yX11_readsDeed cX11_readsDeed 4 (some .int), Cond.methodLink RX11 104 yX11_steps, Cond.instanceMethod yX11_steps, Cond.selects RX11 yX11_steps yX11_steps]
def wsX11_doesNext_r4 : List Cond := [Cond.code yX11_steps cX11_steps 1 (some .int), Cond.constant RX11 103 (-1000002), Cond.fieldLink RX11 54 "FallingWordsModel" "chosenRule" "I", Cond.fieldLink RX11 58 "FallingWordsModel" "chosenPlace" "I", Cond.methodLink RX11 67 yX11_chooses, Cond.instanceMethod yX11_chooses, Cond.selects RX11 yX11_chooses yX11_chooses, Cond.code yX11_chooses cX11_chooses 6 (some .boolean), Cond.methodLink RX11 35 yX11_length, Cond.static yX11_length, Cond.code yX11_length cX11_length 3 (some .int), Cond.methodLink RX11 61 yX11_stands, Cond.static yX11_stands, Cond.code yX11_stands cX11_stands 6 (some .boolean), Cond.methodLink RX11 71 yX11_applied, Cond.instanceMethod yX11_applied, Cond.selects RX11 yX11_applied yX11_applied, Cond.code yX11_applied cX11_applied 7 (some .int), Cond.methodLink RX11 116 yX11_normals, Cond.instanceMethod yX11_normals, Cond.selects RX11 yX11_normals yX11_normals, Cond.code yX11_normals cX11_normals 4 (some .int), Cond.constant RX11 115 (-1000003), Cond.fieldLink RX11 64 "FallingWordsModel" "rowSteps" "I"]
def wsX11_doesNext_r5 : List Cond := [Cond.fieldLink RX11 29 "FallingWordsModel" "rowRule" "[I", Cond.fieldLink RX11 26 "FallingWordsModel" "row" "[I", Cond.methodLink RX11 108 yX11_comesFirst, Cond.instanceMethod yX11_comesFirst, Cond.selects RX11 yX11_comesFirst yX11_comesFirst, Cond.code yX11_comesFirst cX11_comesFirst 5 none, Cond.methodLink RX11 112 yX11_reduces, Cond.instanceMethod yX11_reduces, Cond.selects RX11 yX11_reduces yX11_reduces, Cond.code yX11_reduces cX11_reduces 4 (some .int), Cond.fieldLink RX11 75 "FallingWordsModel" "ringFrom" "I"]
def wsX11_doesNext : List Cond := .code yX11_doesNext cX11_doesNext 3 (some .int) :: ((wsX11_doesNext_r1 ++ (wsX11_doesNext_r2 ++ (wsX11_doesNext_r3 ++ (wsX11_doesNext_r4 ++ wsX11_doesNext_r5)))) ++ wsX110)
def wsX11_faulty_r1 : List Cond := [Cond.fieldLink RX11 19 "FallingWordsModel" "aside" "[I", Cond.fieldLink RX11 7 "FallingWordsModel" "s" "[I", Cond.constant RX11 43 (-1000004), Cond.fieldLink RX11 179 "FallingWordsModel" "at" "I", Cond.fieldLink RX11 176 "FallingWordsModel" "typed" "I", Cond.fieldLink RX11 220 "FallingWordsModel" "reason" "I", Cond.methodLink RX11 217 yX11_doesNext, Cond.instanceMethod yX11_doesNext, Cond.selects RX11 yX11_doesNext yX11_doesNext, Cond.initialized RX11, Cond.code yX11_doesNext cX11_doesNext 3 (some .int), Cond.methodLink RX11 182 yX11_sign, Cond.instanceMethod yX11_sign, Cond.selects RX11 yX11_sign yX11_sign, Cond.code yX11_sign cX11_sign 1 (some .int), Cond.fieldLink RX11 22 "FallingWordsModel" "text" "[C", Cond.methodLink RX11 204 yX11_readsRule, Cond.instanceMethod yX11_readsRule, Cond.selects RX11 yX11_readsRule yX11_readsRule, Cond.code yX11_readsRule cX11_readsRule 6 (some .int), Cond.fieldLink RX11 185 "FallingWordsModel" "read" "I", Cond.fieldLink RX11 188 "FallingWordsModel" "readLength" "I", Cond.methodLink RX11 194 yX11_readsWord, Cond.instanceMethod yX11_readsWord]
def wsX11_faulty_r2 : List Cond := [Cond.selects RX11 yX11_readsWord yX11_readsWord, Cond.code yX11_readsWord cX11_readsWord 1 none, Cond.methodLink RX11 44 yX11_in, Cond.static yX11_in, Cond.code yX11_in cX11_in 3 (some .boolean), Cond.methodLink RX11 197 yX11_takes, Cond.instanceMethod yX11_takes, Cond.selects RX11 yX11_takes yX11_takes, Cond.code yX11_takes cX11_takes 3 (some .boolean), Cond.methodLink RX11 201 yX11_says, Cond.instanceMethod yX11_says, Cond.selects RX11 yX11_says yX11_says, Cond.code yX11_says cX11_says 3 (some .int), Cond.fieldLink RX11 191 "FallingWordsModel" "cause" "I", Cond.methodLink RX11 48 yX11_left, Cond.instanceMethod yX11_left, Cond.selects RX11 yX11_left yX11_left, Cond.code yX11_left cX11_left 2 (some .int), Cond.methodLink RX11 51 yX11_right, Cond.instanceMethod yX11_right, Cond.selects RX11 yX11_right yX11_right, Cond.code yX11_right cX11_right 2 (some .int), Cond.methodLink RX11 169 yX11_adds, Cond.instanceMethod yX11_adds]
def wsX11_faulty_r3 : List Cond := [Cond.selects RX11 yX11_adds yX11_adds, Cond.code yX11_adds cX11_adds 4 none, Cond.methodLink RX11 207 yX11_readsDigit, Cond.instanceMethod yX11_readsDigit, Cond.selects RX11 yX11_readsDigit yX11_readsDigit, Cond.code yX11_readsDigit cX11_readsDigit 5 (some .int), Cond.constant RX11 78 (-1000001), Cond.methodLink RX11 88 yX11_drops, Cond.instanceMethod yX11_drops, Cond.selects RX11 yX11_drops yX11_drops, Cond.code yX11_drops cX11_drops 3 (some .int), Cond.methodLink RX11 82 yX11_isRule, Cond.instanceMethod yX11_isRule, Cond.selects RX11 yX11_isRule yX11_isRule, Cond.code yX11_isRule cX11_isRule 2 (some .boolean), Cond.methodLink RX11 94 yX11_goes, Cond.instanceMethod yX11_goes, Cond.selects RX11 yX11_goes yX11_goes, Cond.code yX11_goes cX11_goes 3 (some .int), Cond.methodLink RX11 211 yX11_readsSet, Cond.instanceMethod yX11_readsSet, Cond.selects RX11 yX11_readsSet yX11_readsSet, Cond.code yX11_readsSet cX11_readsSet 2 (some .int), Cond.methodLink RX11 214 yX11_readsDeed]
def wsX11_faulty_r4 : List Cond := [Cond.instanceMethod yX11_readsDeed, Cond.selects RX11 yX11_readsDeed yX11_readsDeed, Cond.code yX11_readsDeed cX11_readsDeed 4 (some .int), Cond.methodLink RX11 104 yX11_steps, Cond.instanceMethod yX11_steps, Cond.selects RX11 yX11_steps yX11_steps, Cond.code yX11_steps cX11_steps 1 (some .int), Cond.constant RX11 103 (-1000002), Cond.fieldLink RX11 54 "FallingWordsModel" "chosenRule" "I", Cond.fieldLink RX11 58 "FallingWordsModel" "chosenPlace" "I", Cond.methodLink RX11 67 yX11_chooses, Cond.instanceMethod yX11_chooses, Cond.selects RX11 yX11_chooses yX11_chooses, Cond.code yX11_chooses cX11_chooses 6 (some .boolean), Cond.methodLink RX11 35 yX11_length, Cond.static yX11_length, Cond.code yX11_length cX11_length 3 (some .int), Cond.methodLink RX11 61 yX11_stands, Cond.static yX11_stands, Cond.code yX11_stands cX11_stands 6 (some .boolean), Cond.methodLink RX11 71 yX11_applied, Cond.instanceMethod yX11_applied, Cond.selects RX11 yX11_applied yX11_applied, Cond.code yX11_applied cX11_applied 7 (some .int)]
def wsX11_faulty_r5 : List Cond := [Cond.methodLink RX11 116 yX11_normals, Cond.instanceMethod yX11_normals, Cond.selects RX11 yX11_normals yX11_normals, Cond.code yX11_normals cX11_normals 4 (some .int), Cond.constant RX11 115 (-1000003), Cond.fieldLink RX11 64 "FallingWordsModel" "rowSteps" "I", Cond.fieldLink RX11 29 "FallingWordsModel" "rowRule" "[I", Cond.fieldLink RX11 26 "FallingWordsModel" "row" "[I", Cond.methodLink RX11 108 yX11_comesFirst, Cond.instanceMethod yX11_comesFirst, Cond.selects RX11 yX11_comesFirst yX11_comesFirst, Cond.code yX11_comesFirst cX11_comesFirst 5 none, Cond.methodLink RX11 112 yX11_reduces, Cond.instanceMethod yX11_reduces, Cond.selects RX11 yX11_reduces yX11_reduces, Cond.code yX11_reduces cX11_reduces 4 (some .int), Cond.fieldLink RX11 75 "FallingWordsModel" "ringFrom" "I"]
def wsX11_faulty : List Cond := .code yX11_faulty cX11_faulty 3 (some .int) :: ((wsX11_faulty_r1 ++ (wsX11_faulty_r2 ++ (wsX11_faulty_r3 ++ (wsX11_faulty_r4 ++ wsX11_faulty_r5)))) ++ wsX110)
def wsX11_fault_r1 : List Cond := [Cond.constant RX11 78 (-1000001), Cond.constant RX11 43 (-1000004), Cond.fieldLink RX11 220 "FallingWordsModel" "reason" "I", Cond.fieldLink RX11 191 "FallingWordsModel" "cause" "I", Cond.methodLink RX11 44 yX11_in, Cond.static yX11_in, Cond.initialized RX11, Cond.code yX11_in cX11_in 3 (some .boolean), Cond.methodLink RX11 223 yX11_faulty, Cond.instanceMethod yX11_faulty, Cond.selects RX11 yX11_faulty yX11_faulty, Cond.code yX11_faulty cX11_faulty 3 (some .int), Cond.fieldLink RX11 19 "FallingWordsModel" "aside" "[I", Cond.fieldLink RX11 7 "FallingWordsModel" "s" "[I", Cond.fieldLink RX11 179 "FallingWordsModel" "at" "I", Cond.fieldLink RX11 176 "FallingWordsModel" "typed" "I", Cond.methodLink RX11 217 yX11_doesNext, Cond.instanceMethod yX11_doesNext, Cond.selects RX11 yX11_doesNext yX11_doesNext, Cond.code yX11_doesNext cX11_doesNext 3 (some .int), Cond.methodLink RX11 182 yX11_sign, Cond.instanceMethod yX11_sign, Cond.selects RX11 yX11_sign yX11_sign, Cond.code yX11_sign cX11_sign 1 (some .int)]
def wsX11_fault_r2 : List Cond := [Cond.fieldLink RX11 22 "FallingWordsModel" "text" "[C", Cond.methodLink RX11 204 yX11_readsRule, Cond.instanceMethod yX11_readsRule, Cond.selects RX11 yX11_readsRule yX11_readsRule, Cond.code yX11_readsRule cX11_readsRule 6 (some .int), Cond.fieldLink RX11 185 "FallingWordsModel" "read" "I", Cond.fieldLink RX11 188 "FallingWordsModel" "readLength" "I", Cond.methodLink RX11 194 yX11_readsWord, Cond.instanceMethod yX11_readsWord, Cond.selects RX11 yX11_readsWord yX11_readsWord, Cond.code yX11_readsWord cX11_readsWord 1 none, Cond.methodLink RX11 197 yX11_takes, Cond.instanceMethod yX11_takes, Cond.selects RX11 yX11_takes yX11_takes, Cond.code yX11_takes cX11_takes 3 (some .boolean), Cond.methodLink RX11 201 yX11_says, Cond.instanceMethod yX11_says, Cond.selects RX11 yX11_says yX11_says, Cond.code yX11_says cX11_says 3 (some .int), Cond.methodLink RX11 48 yX11_left, Cond.instanceMethod yX11_left, Cond.selects RX11 yX11_left yX11_left, Cond.code yX11_left cX11_left 2 (some .int), Cond.methodLink RX11 51 yX11_right]
def wsX11_fault_r3 : List Cond := [Cond.instanceMethod yX11_right, Cond.selects RX11 yX11_right yX11_right, Cond.code yX11_right cX11_right 2 (some .int), Cond.methodLink RX11 169 yX11_adds, Cond.instanceMethod yX11_adds, Cond.selects RX11 yX11_adds yX11_adds, Cond.code yX11_adds cX11_adds 4 none, Cond.methodLink RX11 207 yX11_readsDigit, Cond.instanceMethod yX11_readsDigit, Cond.selects RX11 yX11_readsDigit yX11_readsDigit, Cond.code yX11_readsDigit cX11_readsDigit 5 (some .int), Cond.methodLink RX11 88 yX11_drops, Cond.instanceMethod yX11_drops, Cond.selects RX11 yX11_drops yX11_drops, Cond.code yX11_drops cX11_drops 3 (some .int), Cond.methodLink RX11 82 yX11_isRule, Cond.instanceMethod yX11_isRule, Cond.selects RX11 yX11_isRule yX11_isRule, Cond.code yX11_isRule cX11_isRule 2 (some .boolean), Cond.methodLink RX11 94 yX11_goes, Cond.instanceMethod yX11_goes, Cond.selects RX11 yX11_goes yX11_goes, Cond.code yX11_goes cX11_goes 3 (some .int), Cond.methodLink RX11 211 yX11_readsSet]
def wsX11_fault_r4 : List Cond := [Cond.instanceMethod yX11_readsSet, Cond.selects RX11 yX11_readsSet yX11_readsSet, Cond.code yX11_readsSet cX11_readsSet 2 (some .int), Cond.methodLink RX11 214 yX11_readsDeed, Cond.instanceMethod yX11_readsDeed, Cond.selects RX11 yX11_readsDeed yX11_readsDeed, Cond.code yX11_readsDeed cX11_readsDeed 4 (some .int), Cond.methodLink RX11 104 yX11_steps, Cond.instanceMethod yX11_steps, Cond.selects RX11 yX11_steps yX11_steps, Cond.code yX11_steps cX11_steps 1 (some .int), Cond.constant RX11 103 (-1000002), Cond.fieldLink RX11 54 "FallingWordsModel" "chosenRule" "I", Cond.fieldLink RX11 58 "FallingWordsModel" "chosenPlace" "I", Cond.methodLink RX11 67 yX11_chooses, Cond.instanceMethod yX11_chooses, Cond.selects RX11 yX11_chooses yX11_chooses, Cond.code yX11_chooses cX11_chooses 6 (some .boolean), Cond.methodLink RX11 35 yX11_length, Cond.static yX11_length, Cond.code yX11_length cX11_length 3 (some .int), Cond.methodLink RX11 61 yX11_stands, Cond.static yX11_stands, Cond.code yX11_stands cX11_stands 6 (some .boolean)]
def wsX11_fault_r5 : List Cond := [Cond.methodLink RX11 71 yX11_applied, Cond.instanceMethod yX11_applied, Cond.selects RX11 yX11_applied yX11_applied, Cond.code yX11_applied cX11_applied 7 (some .int), Cond.methodLink RX11 116 yX11_normals, Cond.instanceMethod yX11_normals, Cond.selects RX11 yX11_normals yX11_normals, Cond.code yX11_normals cX11_normals 4 (some .int), Cond.constant RX11 115 (-1000003), Cond.fieldLink RX11 64 "FallingWordsModel" "rowSteps" "I", Cond.fieldLink RX11 29 "FallingWordsModel" "rowRule" "[I", Cond.fieldLink RX11 26 "FallingWordsModel" "row" "[I", Cond.methodLink RX11 108 yX11_comesFirst, Cond.instanceMethod yX11_comesFirst, Cond.selects RX11 yX11_comesFirst yX11_comesFirst, Cond.code yX11_comesFirst cX11_comesFirst 5 none, Cond.methodLink RX11 112 yX11_reduces, Cond.instanceMethod yX11_reduces, Cond.selects RX11 yX11_reduces yX11_reduces, Cond.code yX11_reduces cX11_reduces 4 (some .int), Cond.fieldLink RX11 75 "FallingWordsModel" "ringFrom" "I"]
def wsX11_fault : List Cond := .code yX11_fault cX11_fault 3 (some .int) :: ((wsX11_fault_r1 ++ (wsX11_fault_r2 ++ (wsX11_fault_r3 ++ (wsX11_fault_r4 ++ wsX11_fault_r5)))) ++ wsX110)
def wsX11_play_r1 : List Cond := [Cond.constant RX11 43 (-1000004), Cond.constant RX11 103 (-1000002), Cond.fieldLink RX11 179 "FallingWordsModel" "at" "I", Cond.fieldLink RX11 176 "FallingWordsModel" "typed" "I", Cond.methodLink RX11 223 yX11_faulty, Cond.instanceMethod yX11_faulty, Cond.selects RX11 yX11_faulty yX11_faulty, Cond.initialized RX11, Cond.code yX11_faulty cX11_faulty 3 (some .int), Cond.fieldLink RX11 19 "FallingWordsModel" "aside" "[I", Cond.fieldLink RX11 7 "FallingWordsModel" "s" "[I", Cond.fieldLink RX11 220 "FallingWordsModel" "reason" "I", Cond.methodLink RX11 217 yX11_doesNext, Cond.instanceMethod yX11_doesNext, Cond.selects RX11 yX11_doesNext yX11_doesNext, Cond.code yX11_doesNext cX11_doesNext 3 (some .int), Cond.methodLink RX11 182 yX11_sign, Cond.instanceMethod yX11_sign, Cond.selects RX11 yX11_sign yX11_sign, Cond.code yX11_sign cX11_sign 1 (some .int), Cond.fieldLink RX11 22 "FallingWordsModel" "text" "[C", Cond.methodLink RX11 204 yX11_readsRule, Cond.instanceMethod yX11_readsRule, Cond.selects RX11 yX11_readsRule yX11_readsRule]
def wsX11_play_r2 : List Cond := [Cond.code yX11_readsRule cX11_readsRule 6 (some .int), Cond.fieldLink RX11 185 "FallingWordsModel" "read" "I", Cond.fieldLink RX11 188 "FallingWordsModel" "readLength" "I", Cond.methodLink RX11 194 yX11_readsWord, Cond.instanceMethod yX11_readsWord, Cond.selects RX11 yX11_readsWord yX11_readsWord, Cond.code yX11_readsWord cX11_readsWord 1 none, Cond.methodLink RX11 44 yX11_in, Cond.static yX11_in, Cond.code yX11_in cX11_in 3 (some .boolean), Cond.methodLink RX11 197 yX11_takes, Cond.instanceMethod yX11_takes, Cond.selects RX11 yX11_takes yX11_takes, Cond.code yX11_takes cX11_takes 3 (some .boolean), Cond.methodLink RX11 201 yX11_says, Cond.instanceMethod yX11_says, Cond.selects RX11 yX11_says yX11_says, Cond.code yX11_says cX11_says 3 (some .int), Cond.fieldLink RX11 191 "FallingWordsModel" "cause" "I", Cond.methodLink RX11 48 yX11_left, Cond.instanceMethod yX11_left, Cond.selects RX11 yX11_left yX11_left, Cond.code yX11_left cX11_left 2 (some .int), Cond.methodLink RX11 51 yX11_right]
def wsX11_play_r3 : List Cond := [Cond.instanceMethod yX11_right, Cond.selects RX11 yX11_right yX11_right, Cond.code yX11_right cX11_right 2 (some .int), Cond.methodLink RX11 169 yX11_adds, Cond.instanceMethod yX11_adds, Cond.selects RX11 yX11_adds yX11_adds, Cond.code yX11_adds cX11_adds 4 none, Cond.methodLink RX11 207 yX11_readsDigit, Cond.instanceMethod yX11_readsDigit, Cond.selects RX11 yX11_readsDigit yX11_readsDigit, Cond.code yX11_readsDigit cX11_readsDigit 5 (some .int), Cond.constant RX11 78 (-1000001), Cond.methodLink RX11 88 yX11_drops, Cond.instanceMethod yX11_drops, Cond.selects RX11 yX11_drops yX11_drops, Cond.code yX11_drops cX11_drops 3 (some .int), Cond.methodLink RX11 82 yX11_isRule, Cond.instanceMethod yX11_isRule, Cond.selects RX11 yX11_isRule yX11_isRule, Cond.code yX11_isRule cX11_isRule 2 (some .boolean), Cond.methodLink RX11 94 yX11_goes, Cond.instanceMethod yX11_goes, Cond.selects RX11 yX11_goes yX11_goes, Cond.code yX11_goes cX11_goes 3 (some .int)]
def wsX11_play_r4 : List Cond := [Cond.methodLink RX11 211 yX11_readsSet, Cond.instanceMethod yX11_readsSet, Cond.selects RX11 yX11_readsSet yX11_readsSet, Cond.code yX11_readsSet cX11_readsSet 2 (some .int), Cond.methodLink RX11 214 yX11_readsDeed, Cond.instanceMethod yX11_readsDeed, Cond.selects RX11 yX11_readsDeed yX11_readsDeed, Cond.code yX11_readsDeed cX11_readsDeed 4 (some .int), Cond.methodLink RX11 104 yX11_steps, Cond.instanceMethod yX11_steps, Cond.selects RX11 yX11_steps yX11_steps, Cond.code yX11_steps cX11_steps 1 (some .int), Cond.fieldLink RX11 54 "FallingWordsModel" "chosenRule" "I", Cond.fieldLink RX11 58 "FallingWordsModel" "chosenPlace" "I", Cond.methodLink RX11 67 yX11_chooses, Cond.instanceMethod yX11_chooses, Cond.selects RX11 yX11_chooses yX11_chooses, Cond.code yX11_chooses cX11_chooses 6 (some .boolean), Cond.methodLink RX11 35 yX11_length, Cond.static yX11_length, Cond.code yX11_length cX11_length 3 (some .int), Cond.methodLink RX11 61 yX11_stands, Cond.static yX11_stands, Cond.code yX11_stands cX11_stands 6 (some .boolean)]
def wsX11_play_r5 : List Cond := [Cond.methodLink RX11 71 yX11_applied, Cond.instanceMethod yX11_applied, Cond.selects RX11 yX11_applied yX11_applied, Cond.code yX11_applied cX11_applied 7 (some .int), Cond.methodLink RX11 116 yX11_normals, Cond.instanceMethod yX11_normals, Cond.selects RX11 yX11_normals yX11_normals, Cond.code yX11_normals cX11_normals 4 (some .int), Cond.constant RX11 115 (-1000003), Cond.fieldLink RX11 64 "FallingWordsModel" "rowSteps" "I", Cond.fieldLink RX11 29 "FallingWordsModel" "rowRule" "[I", Cond.fieldLink RX11 26 "FallingWordsModel" "row" "[I", Cond.methodLink RX11 108 yX11_comesFirst, Cond.instanceMethod yX11_comesFirst, Cond.selects RX11 yX11_comesFirst yX11_comesFirst, Cond.code yX11_comesFirst cX11_comesFirst 5 none, Cond.methodLink RX11 112 yX11_reduces, Cond.instanceMethod yX11_reduces, Cond.selects RX11 yX11_reduces yX11_reduces, Cond.code yX11_reduces cX11_reduces 4 (some .int), Cond.fieldLink RX11 75 "FallingWordsModel" "ringFrom" "I", Cond.methodLink RX11 85 yX11_keeps, Cond.instanceMethod yX11_keeps, Cond.selects RX11 yX11_keeps yX11_keeps]
def wsX11_play_r6 : List Cond := [Cond.code yX11_keeps cX11_keeps 2 none, Cond.fieldLink RX11 16 "FallingWordsModel" "begun" "[I", Cond.methodLink RX11 91 yX11_acted, Cond.instanceMethod yX11_acted, Cond.selects RX11 yX11_acted yX11_acted, Cond.code yX11_acted cX11_acted 3 (some .int), Cond.fieldLink RX11 79 "FallingWordsModel" "states" "I", Cond.fieldLink RX11 13 "FallingWordsModel" "was" "[I"]
def wsX11_play : List Cond := .code yX11_play cX11_play 2 (some .int) :: ((wsX11_play_r1 ++ (wsX11_play_r2 ++ (wsX11_play_r3 ++ (wsX11_play_r4 ++ (wsX11_play_r5 ++ wsX11_play_r6))))) ++ wsX110)
def wsJ9_max_7cf53 : List Cond := .code yJ9_max_7cf53 cJ9_max_7cf53 2 (some .int) :: ([])
def wsJ9_min_7cf53 : List Cond := .code yJ9_min_7cf53 cJ9_min_7cf53 2 (some .int) :: ([])
def wsL_law_r1 : List Cond := [Cond.classLink RL 7 RX10, Cond.instantiable RX10 8, Cond.initialized RX10, Cond.classLink RL 10 RX11, Cond.instantiable RX11 27, Cond.initialized RX11, Cond.methodLink RL 9 yX10_init, Cond.instanceMethod yX10_init, Cond.code yX10_init cX10_init 1 none, Cond.methodLink RX10 1 objectInit, Cond.instanceMethod objectInit, Cond.code objectInit ⟨#[0xb1]⟩ 1 none, Cond.classLink RX10 7 RX6, Cond.instantiable RX6 6, Cond.initialized RX6, Cond.fieldLink RX10 10 "FallingWords" "now" "LFallingWords$State;", Cond.fieldLink RX10 16 "FallingWords" "trial" "LFallingWords$State;", Cond.classLink RX10 19 RX0, Cond.instantiable RX0 2, Cond.initialized RX0, Cond.fieldLink RX10 22 "FallingWords" "history" "LFallingWords$History;", Cond.classLink RX10 26 RX3, Cond.instantiable RX3 5, Cond.initialized RX3]
def wsL_law_r2 : List Cond := [Cond.fieldLink RX10 29 "FallingWords" "reduction" "LFallingWords$Reduction;", Cond.classLink RX10 33 RX2, Cond.instantiable RX2 7, Cond.initialized RX2, Cond.fieldLink RX10 36 "FallingWords" "reach" "LFallingWords$Reach;", Cond.classLink RX10 40 RX1, Cond.instantiable RX1 6, Cond.initialized RX1, Cond.fieldLink RX10 43 "FallingWords" "overlaps" "LFallingWords$Overlaps;", Cond.classLink RX10 47 RX8, Cond.instantiable RX8 7, Cond.initialized RX8, Cond.fieldLink RX10 50 "FallingWords" "text" "LFallingWords$Text;", Cond.classLink RX10 54 RX5, Cond.instantiable RX5 4, Cond.initialized RX5, Cond.fieldLink RX10 57 "FallingWords" "script" "LFallingWords$Script;", Cond.instanceMethod yX6_init, Cond.code yX6_init cX6_init 1 none, Cond.methodLink RX6 3 objectInit, Cond.classLink RX6 9 RX4, Cond.instantiable RX4 6, Cond.initialized RX4, Cond.fieldLink RX6 12 "FallingWords$State" "rules" "LFallingWords$Rules;"]
def wsL_law_r3 : List Cond := [Cond.classLink RX6 18 RX7, Cond.instantiable RX7 3, Cond.initialized RX7, Cond.fieldLink RX6 21 "FallingWords$State" "store" "LFallingWords$Store;", Cond.fieldLink RX6 27 "FallingWords$State" "word" "I", Cond.fieldLink RX6 31 "FallingWords$State" "choosing" "I", Cond.instanceMethod yX4_init, Cond.code yX4_init cX4_init 1 none, Cond.methodLink RX4 3 objectInit, Cond.arrayClass .int, Cond.fieldLink RX4 9 "FallingWords$Rules" "left" "[I", Cond.fieldLink RX4 15 "FallingWords$Rules" "right" "[I", Cond.fieldLink RX4 18 "FallingWords$Rules" "leftLength" "[I", Cond.fieldLink RX4 21 "FallingWords$Rules" "rightLength" "[I", Cond.fieldLink RX4 24 "FallingWords$Rules" "times" "[I", Cond.instanceMethod yX7_init, Cond.code yX7_init cX7_init 1 none, Cond.methodLink RX7 3 objectInit, Cond.fieldLink RX7 9 "FallingWords$Store" "words" "[I", Cond.fieldLink RX7 15 "FallingWords$Store" "normals" "[I", Cond.instanceMethod yX0_init, Cond.code yX0_init cX0_init 2 none, Cond.methodLink RX0 3 objectInit, Cond.classLink RX0 9 RX6]
def wsL_law_r4 : List Cond := [Cond.fieldLink RX0 11 "FallingWords$History" "states" "[LFallingWords$State;", Cond.instanceMethod yX3_init, Cond.code yX3_init cX3_init 1 none, Cond.methodLink RX3 3 objectInit, Cond.fieldLink RX3 9 "FallingWords$Reduction" "words" "[I", Cond.fieldLink RX3 15 "FallingWords$Reduction" "rulesUsed" "[I", Cond.instanceMethod yX2_init, Cond.code yX2_init cX2_init 1 none, Cond.methodLink RX2 3 objectInit, Cond.fieldLink RX2 9 "FallingWords$Reach" "words" "[I", Cond.fieldLink RX2 15 "FallingWords$Reach" "seats" "[I", Cond.instanceMethod yX1_init, Cond.code yX1_init cX1_init 1 none, Cond.methodLink RX1 3 objectInit, Cond.instanceMethod yX8_init, Cond.code yX8_init cX8_init 1 none, Cond.methodLink RX8 3 objectInit, Cond.arrayClass .char, Cond.fieldLink RX8 9 "FallingWords$Text" "characters" "[C", Cond.instanceMethod yX5_init, Cond.code yX5_init cX5_init 1 none, Cond.methodLink RX5 3 objectInit, Cond.methodLink RL 12 yX11_init, Cond.instanceMethod yX11_init]
def wsL_law_r5 : List Cond := [Cond.code yX11_init cX11_init 1 none, Cond.methodLink RX11 1 objectInit, Cond.fieldLink RX11 7 "FallingWordsModel" "s" "[I", Cond.fieldLink RX11 13 "FallingWordsModel" "was" "[I", Cond.fieldLink RX11 16 "FallingWordsModel" "begun" "[I", Cond.fieldLink RX11 19 "FallingWordsModel" "aside" "[I", Cond.fieldLink RX11 22 "FallingWordsModel" "text" "[C", Cond.fieldLink RX11 26 "FallingWordsModel" "row" "[I", Cond.fieldLink RX11 29 "FallingWordsModel" "rowRule" "[I", Cond.fieldLink RX11 32 "FallingWordsModel" "found" "[I", Cond.methodLink RL 13 yX10_drop, Cond.instanceMethod yX10_drop, Cond.selects RX10 yX10_drop yX10_drop, Cond.code yX10_drop cX10_drop 2 (some .int), Cond.constant RX10 71 (-1000001), Cond.instanceMethod yX4_contains, Cond.selects RX4 yX4_contains yX4_contains, Cond.code yX4_contains cX4_contains 2 (some .boolean), Cond.fieldLink RX4 33 "FallingWords$Rules" "size" "I", Cond.methodLink RX10 72 yX10_startTrial, Cond.instanceMethod yX10_startTrial, Cond.selects RX10 yX10_startTrial yX10_startTrial, Cond.code yX10_startTrial cX10_startTrial 1 none, Cond.instanceMethod yX6_takeOver]
def wsL_law_r6 : List Cond := [Cond.selects RX6 yX6_takeOver yX6_takeOver, Cond.code yX6_takeOver cX6_takeOver 2 none, Cond.fieldLink RX6 41 "FallingWords$State" "taken" "I", Cond.fieldLink RX6 44 "FallingWords$State" "steps" "I", Cond.instanceMethod yX4_takeOver, Cond.selects RX4 yX4_takeOver yX4_takeOver, Cond.code yX4_takeOver cX4_takeOver 2 none, Cond.methodLink RX4 27 arraycopyName, Cond.native arraycopyName, Cond.static arraycopyName, Cond.initialized "java/lang/System", Cond.instanceMethod yX7_takeOver, Cond.selects RX7 yX7_takeOver yX7_takeOver, Cond.code yX7_takeOver cX7_takeOver 2 none, Cond.methodLink RX7 18 arraycopyName, Cond.fieldLink RX7 24 "FallingWords$Store" "size" "I", Cond.instanceMethod yX6_removeRule, Cond.selects RX6 yX6_removeRule yX6_removeRule, Cond.code yX6_removeRule cX6_removeRule 2 none, Cond.instanceMethod yX4_remove, Cond.selects RX4 yX4_remove yX4_remove, Cond.code yX4_remove cX4_remove 3 none, Cond.methodLink RX4 47 yX4_contains, Cond.methodLink RX10 79 yX10_keepTrial]
def wsL_law_r7 : List Cond := [Cond.instanceMethod yX10_keepTrial, Cond.selects RX10 yX10_keepTrial yX10_keepTrial, Cond.code yX10_keepTrial cX10_keepTrial 1 none, Cond.instanceMethod yX0_keep, Cond.selects RX0 yX0_keep yX0_keep, Cond.code yX0_keep cX0_keep 2 none, Cond.fieldLink RX0 18 "FallingWords$History" "size" "I", Cond.methodLink RX0 22 yX0_forgetOldest, Cond.instanceMethod yX0_forgetOldest, Cond.selects RX0 yX0_forgetOldest yX0_forgetOldest, Cond.code yX0_forgetOldest cX0_forgetOldest 3 none, Cond.methodLink RL 17 yX11_drop, Cond.instanceMethod yX11_drop, Cond.selects RX11 yX11_drop yX11_drop, Cond.code yX11_drop cX11_drop 2 (some .int), Cond.methodLink RX11 85 yX11_keeps, Cond.instanceMethod yX11_keeps, Cond.selects RX11 yX11_keeps yX11_keeps, Cond.code yX11_keeps cX11_keeps 2 none, Cond.methodLink RX11 88 yX11_drops, Cond.instanceMethod yX11_drops, Cond.selects RX11 yX11_drops yX11_drops, Cond.code yX11_drops cX11_drops 3 (some .int), Cond.constant RX11 78 (-1000001)]
def wsL_law_r8 : List Cond := [Cond.methodLink RX11 82 yX11_isRule, Cond.instanceMethod yX11_isRule, Cond.selects RX11 yX11_isRule yX11_isRule, Cond.code yX11_isRule cX11_isRule 2 (some .boolean), Cond.methodLink RX11 44 yX11_in, Cond.static yX11_in, Cond.code yX11_in cX11_in 3 (some .boolean), Cond.methodLink RX11 91 yX11_acted, Cond.instanceMethod yX11_acted, Cond.selects RX11 yX11_acted yX11_acted, Cond.code yX11_acted cX11_acted 3 (some .int), Cond.fieldLink RX11 79 "FallingWordsModel" "states" "I", Cond.methodLink RL 18 yX10_way, Cond.instanceMethod yX10_way, Cond.selects RX10 yX10_way yX10_way, Cond.code yX10_way cX10_way 3 (some .int), Cond.instanceMethod yX6_setChoosing, Cond.selects RX6 yX6_setChoosing yX6_setChoosing, Cond.code yX6_setChoosing cX6_setChoosing 2 none, Cond.methodLink RL 21 yX11_way, Cond.instanceMethod yX11_way, Cond.selects RX11 yX11_way yX11_way, Cond.code yX11_way cX11_way 2 (some .int), Cond.methodLink RX11 94 yX11_goes]
def wsL_law_r9 : List Cond := [Cond.instanceMethod yX11_goes, Cond.selects RX11 yX11_goes yX11_goes, Cond.code yX11_goes cX11_goes 3 (some .int), Cond.methodLink RL 22 yX10_ruleOf, Cond.instanceMethod yX10_ruleOf, Cond.selects RX10 yX10_ruleOf yX10_ruleOf, Cond.code yX10_ruleOf cX10_ruleOf 4 (some .int), Cond.methodLink RX10 92 yX10_isLetterOf, Cond.static yX10_isLetterOf, Cond.code yX10_isLetterOf cX10_isLetterOf 3 (some .boolean), Cond.static yX9_letterOf, Cond.initialized RX9, Cond.code yX9_letterOf cX9_letterOf 3 (some .int), Cond.constant RX9 15 (-1000004), Cond.methodLink RX9 9 yX9_lengthOf, Cond.static yX9_lengthOf, Cond.code yX9_lengthOf cX9_lengthOf 3 (some .int), Cond.instanceMethod yX4_placesIn, Cond.selects RX4 yX4_placesIn yX4_placesIn, Cond.code yX4_placesIn cX4_placesIn 6 (some .int), Cond.methodLink RX4 51 yX4_appliesAt, Cond.instanceMethod yX4_appliesAt, Cond.selects RX4 yX4_appliesAt yX4_appliesAt, Cond.code yX4_appliesAt cX4_appliesAt 8 (some .boolean)]
def wsL_law_r10 : List Cond := [Cond.methodLink RL 26 yX11_ruleOf, Cond.instanceMethod yX11_ruleOf, Cond.selects RX11 yX11_ruleOf yX11_ruleOf, Cond.code yX11_ruleOf cX11_ruleOf 3 (some .int), Cond.methodLink RX11 48 yX11_left, Cond.instanceMethod yX11_left, Cond.selects RX11 yX11_left yX11_left, Cond.code yX11_left cX11_left 2 (some .int), Cond.methodLink RX11 35 yX11_length, Cond.static yX11_length, Cond.code yX11_length cX11_length 3 (some .int), Cond.methodLink RX11 51 yX11_right, Cond.instanceMethod yX11_right, Cond.selects RX11 yX11_right yX11_right, Cond.code yX11_right cX11_right 2 (some .int), Cond.methodLink RX11 97 yX11_places, Cond.instanceMethod yX11_places, Cond.selects RX11 yX11_places yX11_places, Cond.code yX11_places cX11_places 4 (some .int), Cond.methodLink RX11 61 yX11_stands, Cond.static yX11_stands, Cond.code yX11_stands cX11_stands 6 (some .boolean), Cond.methodLink RX11 100 yX11_letterOf, Cond.static yX11_letterOf]
def wsL_law_r11 : List Cond := [Cond.code yX11_letterOf cX11_letterOf 2 (some .int), Cond.constant RX11 43 (-1000004), Cond.methodLink RX11 39 yX11_letter, Cond.static yX11_letter, Cond.code yX11_letter cX11_letter 2 (some .int), Cond.methodLink RL 27 yX10_step, Cond.instanceMethod yX10_step, Cond.selects RX10 yX10_step yX10_step, Cond.code yX10_step cX10_step 2 (some .int), Cond.instanceMethod yX6_takeStep, Cond.selects RX6 yX6_takeStep yX6_takeStep, Cond.code yX6_takeStep cX6_takeStep 3 (some .int), Cond.constant RX6 62 (-1000002), Cond.instanceMethod yX4_choiceFor, Cond.selects RX4 yX4_choiceFor yX4_choiceFor, Cond.code yX4_choiceFor cX4_choiceFor 12 (some .int), Cond.static yX4_ruleIn, Cond.code yX4_ruleIn cX4_ruleIn 1 (some .int), Cond.static yX4_placeIn, Cond.code yX4_placeIn cX4_placeIn 1 (some .int), Cond.instanceMethod yX4_applied, Cond.selects RX4 yX4_applied yX4_applied, Cond.code yX4_applied cX4_applied 9 (some .int), Cond.static yX9_lastBits]
def wsL_law_r12 : List Cond := [Cond.code yX9_lastBits cX9_lastBits 2 (some .int), Cond.methodLink RL 31 yX11_step, Cond.instanceMethod yX11_step, Cond.selects RX11 yX11_step yX11_step, Cond.code yX11_step cX11_step 1 (some .int), Cond.methodLink RX11 104 yX11_steps, Cond.instanceMethod yX11_steps, Cond.selects RX11 yX11_steps yX11_steps, Cond.code yX11_steps cX11_steps 1 (some .int), Cond.constant RX11 103 (-1000002), Cond.fieldLink RX11 54 "FallingWordsModel" "chosenRule" "I", Cond.fieldLink RX11 58 "FallingWordsModel" "chosenPlace" "I", Cond.methodLink RX11 67 yX11_chooses, Cond.instanceMethod yX11_chooses, Cond.selects RX11 yX11_chooses yX11_chooses, Cond.code yX11_chooses cX11_chooses 6 (some .boolean), Cond.methodLink RX11 71 yX11_applied, Cond.instanceMethod yX11_applied, Cond.selects RX11 yX11_applied yX11_applied, Cond.code yX11_applied cX11_applied 7 (some .int), Cond.methodLink RL 32 yX10_normal, Cond.instanceMethod yX10_normal, Cond.selects RX10 yX10_normal yX10_normal, Cond.code yX10_normal cX10_normal 2 (some .int)]
def wsL_law_r13 : List Cond := [Cond.instanceMethod yX6_reduce, Cond.selects RX6 yX6_reduce yX6_reduce, Cond.code yX6_reduce cX6_reduce 3 (some .int), Cond.constant RX6 93 (-1000003), Cond.instanceMethod yX7_indexOf, Cond.selects RX7 yX7_indexOf yX7_indexOf, Cond.code yX7_indexOf cX7_indexOf 3 (some .int), Cond.instanceMethod yX7_use, Cond.selects RX7 yX7_use yX7_use, Cond.code yX7_use cX7_use 3 (some .int), Cond.methodLink RX7 28 yX7_setAhead, Cond.instanceMethod yX7_setAhead, Cond.selects RX7 yX7_setAhead yX7_setAhead, Cond.code yX7_setAhead cX7_setAhead 5 none, Cond.instanceMethod yX3_run, Cond.selects RX3 yX3_run yX3_run, Cond.code yX3_run cX3_run 5 none, Cond.fieldLink RX3 18 "FallingWords$Reduction" "steps" "I", Cond.fieldLink RX3 26 "FallingWords$Reduction" "ringStart" "I", Cond.fieldLink RX3 29 "FallingWords$Reduction" "outcome" "I", Cond.methodLink RX3 22 yX3_firstTimeOf, Cond.instanceMethod yX3_firstTimeOf, Cond.selects RX3 yX3_firstTimeOf yX3_firstTimeOf, Cond.code yX3_firstTimeOf cX3_firstTimeOf 3 (some .int)]
def wsL_law_r14 : List Cond := [Cond.instanceMethod yX3_countRules, Cond.selects RX3 yX3_countRules yX3_countRules, Cond.code yX3_countRules cX3_countRules 3 none, Cond.instanceMethod yX3_last, Cond.selects RX3 yX3_last yX3_last, Cond.code yX3_last cX3_last 1 (some .int), Cond.instanceMethod yX7_put, Cond.selects RX7 yX7_put yX7_put, Cond.code yX7_put cX7_put 3 none, Cond.methodLink RL 35 yX11_normal, Cond.instanceMethod yX11_normal, Cond.selects RX11 yX11_normal yX11_normal, Cond.code yX11_normal cX11_normal 1 (some .int), Cond.methodLink RX11 116 yX11_normals, Cond.instanceMethod yX11_normals, Cond.selects RX11 yX11_normals yX11_normals, Cond.code yX11_normals cX11_normals 4 (some .int), Cond.constant RX11 115 (-1000003), Cond.fieldLink RX11 64 "FallingWordsModel" "rowSteps" "I", Cond.methodLink RX11 108 yX11_comesFirst, Cond.instanceMethod yX11_comesFirst, Cond.selects RX11 yX11_comesFirst yX11_comesFirst, Cond.code yX11_comesFirst cX11_comesFirst 5 none, Cond.methodLink RX11 112 yX11_reduces]
def wsL_law_r15 : List Cond := [Cond.instanceMethod yX11_reduces, Cond.selects RX11 yX11_reduces yX11_reduces, Cond.code yX11_reduces cX11_reduces 4 (some .int), Cond.fieldLink RX11 75 "FallingWordsModel" "ringFrom" "I", Cond.methodLink RL 36 yX10_letterAt, Cond.instanceMethod yX10_letterAt, Cond.selects RX10 yX10_letterAt yX10_letterAt, Cond.code yX10_letterAt cX10_letterAt 2 (some .int), Cond.methodLink RL 39 yX11_letterAt, Cond.instanceMethod yX11_letterAt, Cond.selects RX11 yX11_letterAt yX11_letterAt, Cond.code yX11_letterAt cX11_letterAt 2 (some .int), Cond.methodLink RL 40 yX10_next, Cond.instanceMethod yX10_next, Cond.selects RX10 yX10_next yX10_next, Cond.code yX10_next cX10_next 3 (some .int), Cond.constant RX10 135 (-1000004), Cond.methodLink RL 43 yX11_next, Cond.instanceMethod yX11_next, Cond.selects RX11 yX11_next yX11_next, Cond.code yX11_next cX11_next 2 (some .int), Cond.methodLink RL 44 yX10_reduced, Cond.instanceMethod yX10_reduced, Cond.selects RX10 yX10_reduced yX10_reduced]
def wsL_law_r16 : List Cond := [Cond.code yX10_reduced cX10_reduced 3 (some .int), Cond.methodLink RX10 153 yX10_ringAnswer, Cond.instanceMethod yX10_ringAnswer, Cond.selects RX10 yX10_ringAnswer yX10_ringAnswer, Cond.code yX10_ringAnswer cX10_ringAnswer 2 (some .int), Cond.methodLink RL 47 yX11_reduced, Cond.instanceMethod yX11_reduced, Cond.selects RX11 yX11_reduced yX11_reduced, Cond.code yX11_reduced cX11_reduced 3 (some .int), Cond.methodLink RL 48 yX10_reached, Cond.instanceMethod yX10_reached, Cond.selects RX10 yX10_reached yX10_reached, Cond.code yX10_reached cX10_reached 4 (some .int), Cond.constant RX10 172 (-1000003), Cond.instanceMethod yX2_run, Cond.selects RX2 yX2_run yX2_run, Cond.code yX2_run cX2_run 4 none, Cond.fieldLink RX2 24 "FallingWords$Reach" "size" "I", Cond.fieldLink RX2 28 "FallingWords$Reach" "tooMany" "Z", Cond.fieldLink RX2 32 "FallingWords$Reach" "ends" "I", Cond.methodLink RX2 18 yJ7_fill_53178, Cond.static yJ7_fill_53178, Cond.initialized RJ7, Cond.code yJ7_fill_53178 cJ7_fill_53178 4 none]
def wsL_law_r17 : List Cond := [Cond.methodLink RX2 35 yX2_add, Cond.instanceMethod yX2_add, Cond.selects RX2 yX2_add yX2_add, Cond.code yX2_add cX2_add 4 none, Cond.constant RX2 78 (-1640531535), Cond.methodLink RX2 39 yX2_addAllFrom, Cond.instanceMethod yX2_addAllFrom, Cond.selects RX2 yX2_addAllFrom yX2_addAllFrom, Cond.code yX2_addAllFrom cX2_addAllFrom 7 none, Cond.methodLink RX2 60 yX2_addEnd, Cond.instanceMethod yX2_addEnd, Cond.selects RX2 yX2_addEnd yX2_addEnd, Cond.code yX2_addEnd cX2_addEnd 2 none, Cond.fieldLink RX2 63 "FallingWords$Reach" "firstEnd" "I", Cond.methodLink RX2 66 Lib.Math.min.name, Cond.static Lib.Math.min.name, Cond.initialized "java/lang/Math", Cond.code Lib.Math.min.name Lib.Math.min.code 2 (some .int), Cond.fieldLink RX2 72 "FallingWords$Reach" "lastEnd" "I", Cond.methodLink RX2 75 Lib.Math.max.name, Cond.static Lib.Math.max.name, Cond.code Lib.Math.max.name Lib.Math.max.code 2 (some .int), Cond.methodLink RL 51 yX11_reached, Cond.instanceMethod yX11_reached]
def wsL_law_r18 : List Cond := [Cond.selects RX11 yX11_reached yX11_reached, Cond.code yX11_reached cX11_reached 3 (some .int), Cond.fieldLink RX11 119 "FallingWordsModel" "many" "I", Cond.methodLink RX11 126 yX11_reachesAll, Cond.instanceMethod yX11_reachesAll, Cond.selects RX11 yX11_reachesAll yX11_reachesAll, Cond.code yX11_reachesAll cX11_reachesAll 4 none, Cond.methodLink RX11 122 yX11_reaches, Cond.instanceMethod yX11_reaches, Cond.selects RX11 yX11_reaches yX11_reaches, Cond.code yX11_reaches cX11_reaches 4 none, Cond.methodLink RX11 129 yX11_ends, Cond.instanceMethod yX11_ends, Cond.selects RX11 yX11_ends yX11_ends, Cond.code yX11_ends cX11_ends 3 (some .int), Cond.methodLink RX11 132 yX11_end, Cond.instanceMethod yX11_end, Cond.selects RX11 yX11_end yX11_end, Cond.code yX11_end cX11_end 5 (some .int), Cond.methodLink RL 52 yX10_storeOf, Cond.instanceMethod yX10_storeOf, Cond.selects RX10 yX10_storeOf yX10_storeOf, Cond.code yX10_storeOf cX10_storeOf 5 (some .int), Cond.methodLink RL 55 yX11_storeOf]
def wsL_law_r19 : List Cond := [Cond.instanceMethod yX11_storeOf, Cond.selects RX11 yX11_storeOf yX11_storeOf, Cond.code yX11_storeOf cX11_storeOf 4 (some .int), Cond.methodLink RL 56 yX10_overlapOf, Cond.instanceMethod yX10_overlapOf, Cond.selects RX10 yX10_overlapOf yX10_overlapOf, Cond.code yX10_overlapOf cX10_overlapOf 3 (some .int), Cond.instanceMethod yX1_find, Cond.selects RX1 yX1_find yX1_find, Cond.code yX1_find cX1_find 5 (some .boolean), Cond.methodLink RX1 11 yX1_isOverlap, Cond.instanceMethod yX1_isOverlap, Cond.selects RX1 yX1_isOverlap yX1_isOverlap, Cond.code yX1_isOverlap cX1_isOverlap 7 (some .boolean), Cond.fieldLink RX1 25 "FallingWords$Overlaps" "first" "I", Cond.fieldLink RX1 29 "FallingWords$Overlaps" "second" "I", Cond.fieldLink RX1 32 "FallingWords$Overlaps" "place" "I", Cond.fieldLink RX1 49 "FallingWords$Overlaps" "word" "I", Cond.methodLink RX1 45 yX1_coveredWord, Cond.instanceMethod yX1_coveredWord, Cond.selects RX1 yX1_coveredWord yX1_coveredWord, Cond.code yX1_coveredWord cX1_coveredWord 4 (some .int), Cond.instanceMethod yX1_verdict, Cond.selects RX1 yX1_verdict yX1_verdict]
def wsL_law_r20 : List Cond := [Cond.code yX1_verdict cX1_verdict 3 (some .int), Cond.fieldLink RX1 93 "FallingWords$Overlaps" "firstNormal" "I", Cond.fieldLink RX1 99 "FallingWords$Overlaps" "secondNormal" "I", Cond.methodLink RX1 76 yX1_firstWord, Cond.instanceMethod yX1_firstWord, Cond.selects RX1 yX1_firstWord yX1_firstWord, Cond.code yX1_firstWord cX1_firstWord 2 (some .int), Cond.methodLink RX1 96 yX1_secondWord, Cond.instanceMethod yX1_secondWord, Cond.selects RX1 yX1_secondWord yX1_secondWord, Cond.code yX1_secondWord cX1_secondWord 2 (some .int), Cond.methodLink RL 59 yX11_overlapOf, Cond.instanceMethod yX11_overlapOf, Cond.selects RX11 yX11_overlapOf yX11_overlapOf, Cond.code yX11_overlapOf cX11_overlapOf 5 (some .int), Cond.fieldLink RX11 136 "FallingWordsModel" "oneRule" "I", Cond.fieldLink RX11 142 "FallingWordsModel" "overlapPlace" "I", Cond.fieldLink RX11 139 "FallingWordsModel" "otherRule" "I", Cond.fieldLink RX11 145 "FallingWordsModel" "oneWord" "I", Cond.fieldLink RX11 148 "FallingWordsModel" "otherWord" "I", Cond.methodLink RX11 166 yX11_finds, Cond.instanceMethod yX11_finds, Cond.selects RX11 yX11_finds yX11_finds, Cond.code yX11_finds cX11_finds 7 (some .int)]
def wsL_law_r21 : List Cond := [Cond.methodLink RX11 157 yX11_isOverlap, Cond.instanceMethod yX11_isOverlap, Cond.selects RX11 yX11_isOverlap yX11_isOverlap, Cond.code yX11_isOverlap cX11_isOverlap 10 (some .boolean), Cond.methodLink RX11 160 yX11_lays, Cond.instanceMethod yX11_lays, Cond.selects RX11 yX11_lays yX11_lays, Cond.code yX11_lays cX11_lays 6 none, Cond.methodLink RX11 163 yX11_parts, Cond.instanceMethod yX11_parts, Cond.selects RX11 yX11_parts yX11_parts, Cond.code yX11_parts cX11_parts 3 (some .int), Cond.fieldLink RX11 151 "FallingWordsModel" "oneNormal" "I", Cond.fieldLink RX11 154 "FallingWordsModel" "otherNormal" "I", Cond.methodLink RL 60 yX10_complete, Cond.instanceMethod yX10_complete, Cond.selects RX10 yX10_complete yX10_complete, Cond.code yX10_complete cX10_complete 5 (some .int), Cond.methodLink RX10 231 Lib.Math.max.name, Cond.methodLink RX10 236 Lib.Math.min.name, Cond.instanceMethod yX1_findParting, Cond.selects RX1 yX1_findParting yX1_findParting, Cond.code yX1_findParting cX1_findParting 4 (some .boolean), Cond.methodLink RX1 21 yX1_verdict]
def wsL_law_r22 : List Cond := [Cond.instanceMethod yX4_isFull, Cond.selects RX4 yX4_isFull yX4_isFull, Cond.code yX4_isFull cX4_isFull 1 (some .boolean), Cond.instanceMethod yX6_addRule, Cond.selects RX6 yX6_addRule yX6_addRule, Cond.code yX6_addRule cX6_addRule 3 none, Cond.instanceMethod yX4_add, Cond.selects RX4 yX4_add yX4_add, Cond.code yX4_add cX4_add 3 none, Cond.methodLink RX4 37 yX4_isFull, Cond.methodLink RL 63 yX11_complete, Cond.instanceMethod yX11_complete, Cond.selects RX11 yX11_complete yX11_complete, Cond.code yX11_complete cX11_complete 4 (some .int), Cond.methodLink RX11 173 yX11_completes, Cond.instanceMethod yX11_completes, Cond.selects RX11 yX11_completes yX11_completes, Cond.code yX11_completes cX11_completes 4 (some .int), Cond.methodLink RX11 169 yX11_adds, Cond.instanceMethod yX11_adds, Cond.selects RX11 yX11_adds yX11_adds, Cond.code yX11_adds cX11_adds 4 none, Cond.methodLink RL 64 yX10_count, Cond.instanceMethod yX10_count]
def wsL_law_r23 : List Cond := [Cond.selects RX10 yX10_count yX10_count, Cond.code yX10_count cX10_count 2 (some .int), Cond.instanceMethod yX1_howMany, Cond.selects RX1 yX1_howMany yX1_howMany, Cond.code yX1_howMany cX1_howMany 4 (some .int), Cond.instanceMethod yX1_howManyAre, Cond.selects RX1 yX1_howManyAre yX1_howManyAre, Cond.code yX1_howManyAre cX1_howManyAre 6 (some .int), Cond.methodLink RL 67 yX11_count, Cond.instanceMethod yX11_count, Cond.selects RX11 yX11_count yX11_count, Cond.code yX11_count cX11_count 2 (some .int), Cond.fieldLink RX11 176 "FallingWordsModel" "typed" "I", Cond.methodLink RL 68 yX10_undo, Cond.instanceMethod yX10_undo, Cond.selects RX10 yX10_undo yX10_undo, Cond.code yX10_undo cX10_undo 1 (some .int), Cond.constant RX10 260 (-1000002), Cond.instanceMethod yX0_restoreTo, Cond.selects RX0 yX0_restoreTo yX0_restoreTo, Cond.code yX0_restoreTo cX0_restoreTo 2 none, Cond.methodLink RL 71 yX11_undo, Cond.instanceMethod yX11_undo, Cond.selects RX11 yX11_undo yX11_undo]
def wsL_law_r24 : List Cond := [Cond.code yX11_undo cX11_undo 2 (some .int), Cond.methodLink RL 72 yX10_type, Cond.instanceMethod yX10_type, Cond.selects RX10 yX10_type yX10_type, Cond.code yX10_type cX10_type 2 (some .int), Cond.instanceMethod yX8_isFull, Cond.selects RX8 yX8_isFull yX8_isFull, Cond.code yX8_isFull cX8_isFull 1 (some .boolean), Cond.fieldLink RX8 15 "FallingWords$Text" "size" "I", Cond.instanceMethod yX8_append, Cond.selects RX8 yX8_append yX8_append, Cond.code yX8_append cX8_append 2 none, Cond.methodLink RX8 19 yX8_isFull, Cond.methodLink RL 75 yX11_type, Cond.instanceMethod yX11_type, Cond.selects RX11 yX11_type yX11_type, Cond.code yX11_type cX11_type 2 (some .int), Cond.methodLink RL 76 yX10_clearText, Cond.instanceMethod yX10_clearText, Cond.selects RX10 yX10_clearText yX10_clearText, Cond.code yX10_clearText cX10_clearText 2 (some .int), Cond.methodLink RL 79 yX11_clearText, Cond.instanceMethod yX11_clearText, Cond.selects RX11 yX11_clearText yX11_clearText]
def wsL_law_r25 : List Cond := [Cond.code yX11_clearText cX11_clearText 2 (some .int), Cond.methodLink RL 80 yX10_fault, Cond.instanceMethod yX10_fault, Cond.selects RX10 yX10_fault yX10_fault, Cond.code yX10_fault cX10_fault 2 (some .int), Cond.instanceMethod yX5_run, Cond.selects RX5 yX5_run yX5_run, Cond.code yX5_run cX5_run 5 none, Cond.fieldLink RX5 9 "FallingWords$Script" "done" "I", Cond.fieldLink RX5 15 "FallingWords$Script" "position" "I", Cond.fieldLink RX5 18 "FallingWords$Script" "reason" "I", Cond.fieldLink RX5 21 "FallingWords$Script" "cause" "I", Cond.instanceMethod yX8_readCommand, Cond.selects RX8 yX8_readCommand yX8_readCommand, Cond.code yX8_readCommand cX8_readCommand 2 (some .boolean), Cond.fieldLink RX8 23 "FallingWords$Text" "at" "I", Cond.fieldLink RX8 30 "FallingWords$Text" "kind" "I", Cond.fieldLink RX8 36 "FallingWords$Text" "firstWord" "I", Cond.fieldLink RX8 43 "FallingWords$Text" "secondWord" "I", Cond.methodLink RX8 26 yX8_here, Cond.instanceMethod yX8_here, Cond.selects RX8 yX8_here yX8_here, Cond.code yX8_here cX8_here 1 (some .int), Cond.methodLink RX8 33 yX8_readWord]
def wsL_law_r26 : List Cond := [Cond.instanceMethod yX8_readWord, Cond.selects RX8 yX8_readWord yX8_readWord, Cond.code yX8_readWord cX8_readWord 3 (some .int), Cond.static yX9_withLetter, Cond.code yX9_withLetter cX9_withLetter 2 (some .int), Cond.methodLink RX8 39 yX8_passes, Cond.instanceMethod yX8_passes, Cond.selects RX8 yX8_passes yX8_passes, Cond.code yX8_passes cX8_passes 2 (some .boolean), Cond.methodLink RX8 46 yX8_readDigit, Cond.instanceMethod yX8_readDigit, Cond.selects RX8 yX8_readDigit yX8_readDigit, Cond.code yX8_readDigit cX8_readDigit 2 (some .boolean), Cond.fieldLink RX8 49 "FallingWords$Text" "digit" "I", Cond.methodLink RX5 33 yX5_perform, Cond.instanceMethod yX5_perform, Cond.selects RX5 yX5_perform yX5_perform, Cond.code yX5_perform cX5_perform 4 none, Cond.methodLink RX5 53 yX5_addRule, Cond.instanceMethod yX5_addRule, Cond.selects RX5 yX5_addRule yX5_addRule, Cond.code yX5_addRule cX5_addRule 6 none, Cond.methodLink RX5 40 yX5_failWith, Cond.instanceMethod yX5_failWith]
def wsL_law_r27 : List Cond := [Cond.selects RX5 yX5_failWith yX5_failWith, Cond.code yX5_failWith cX5_failWith 3 none, Cond.instanceMethod yX4_hasSides, Cond.selects RX4 yX4_hasSides yX4_hasSides, Cond.code yX4_hasSides cX4_hasSides 4 (some .boolean), Cond.methodLink RX5 60 yX5_removeRule, Cond.instanceMethod yX5_removeRule, Cond.selects RX5 yX5_removeRule yX5_removeRule, Cond.code yX5_removeRule cX5_removeRule 3 none, Cond.methodLink RX5 64 yX5_setWord, Cond.instanceMethod yX5_setWord, Cond.selects RX5 yX5_setWord yX5_setWord, Cond.code yX5_setWord cX5_setWord 3 none, Cond.methodLink RX5 77 yX5_setChoosing, Cond.instanceMethod yX5_setChoosing, Cond.selects RX5 yX5_setChoosing yX5_setChoosing, Cond.code yX5_setChoosing cX5_setChoosing 3 none, Cond.methodLink RL 83 yX11_fault, Cond.instanceMethod yX11_fault, Cond.selects RX11 yX11_fault yX11_fault, Cond.code yX11_fault cX11_fault 3 (some .int), Cond.fieldLink RX11 220 "FallingWordsModel" "reason" "I", Cond.fieldLink RX11 191 "FallingWordsModel" "cause" "I", Cond.methodLink RX11 223 yX11_faulty]
def wsL_law_r28 : List Cond := [Cond.instanceMethod yX11_faulty, Cond.selects RX11 yX11_faulty yX11_faulty, Cond.code yX11_faulty cX11_faulty 3 (some .int), Cond.fieldLink RX11 179 "FallingWordsModel" "at" "I", Cond.methodLink RX11 217 yX11_doesNext, Cond.instanceMethod yX11_doesNext, Cond.selects RX11 yX11_doesNext yX11_doesNext, Cond.code yX11_doesNext cX11_doesNext 3 (some .int), Cond.methodLink RX11 182 yX11_sign, Cond.instanceMethod yX11_sign, Cond.selects RX11 yX11_sign yX11_sign, Cond.code yX11_sign cX11_sign 1 (some .int), Cond.methodLink RX11 204 yX11_readsRule, Cond.instanceMethod yX11_readsRule, Cond.selects RX11 yX11_readsRule yX11_readsRule, Cond.code yX11_readsRule cX11_readsRule 6 (some .int), Cond.fieldLink RX11 185 "FallingWordsModel" "read" "I", Cond.fieldLink RX11 188 "FallingWordsModel" "readLength" "I", Cond.methodLink RX11 194 yX11_readsWord, Cond.instanceMethod yX11_readsWord, Cond.selects RX11 yX11_readsWord yX11_readsWord, Cond.code yX11_readsWord cX11_readsWord 1 none, Cond.methodLink RX11 197 yX11_takes, Cond.instanceMethod yX11_takes]
def wsL_law_r29 : List Cond := [Cond.selects RX11 yX11_takes yX11_takes, Cond.code yX11_takes cX11_takes 3 (some .boolean), Cond.methodLink RX11 201 yX11_says, Cond.instanceMethod yX11_says, Cond.selects RX11 yX11_says yX11_says, Cond.code yX11_says cX11_says 3 (some .int), Cond.methodLink RX11 207 yX11_readsDigit, Cond.instanceMethod yX11_readsDigit, Cond.selects RX11 yX11_readsDigit yX11_readsDigit, Cond.code yX11_readsDigit cX11_readsDigit 5 (some .int), Cond.methodLink RX11 211 yX11_readsSet, Cond.instanceMethod yX11_readsSet, Cond.selects RX11 yX11_readsSet yX11_readsSet, Cond.code yX11_readsSet cX11_readsSet 2 (some .int), Cond.methodLink RX11 214 yX11_readsDeed, Cond.instanceMethod yX11_readsDeed, Cond.selects RX11 yX11_readsDeed yX11_readsDeed, Cond.code yX11_readsDeed cX11_readsDeed 4 (some .int), Cond.methodLink RL 84 yX10_play, Cond.instanceMethod yX10_play, Cond.selects RX10 yX10_play yX10_play, Cond.code yX10_play cX10_play 1 (some .int), Cond.methodLink RL 87 yX11_play, Cond.instanceMethod yX11_play]
def wsL_law_r30 : List Cond := [Cond.selects RX11 yX11_play yX11_play, Cond.code yX11_play cX11_play 2 (some .int)]
def wsL_law : List Cond := (wsL_law_r1 ++ (wsL_law_r2 ++ (wsL_law_r3 ++ (wsL_law_r4 ++ (wsL_law_r5 ++ (wsL_law_r6 ++ (wsL_law_r7 ++ (wsL_law_r8 ++ (wsL_law_r9 ++ (wsL_law_r10 ++ (wsL_law_r11 ++ (wsL_law_r12 ++ (wsL_law_r13 ++ (wsL_law_r14 ++ (wsL_law_r15 ++ (wsL_law_r16 ++ (wsL_law_r17 ++ (wsL_law_r18 ++ (wsL_law_r19 ++ (wsL_law_r20 ++ (wsL_law_r21 ++ (wsL_law_r22 ++ (wsL_law_r23 ++ (wsL_law_r24 ++ (wsL_law_r25 ++ (wsL_law_r26 ++ (wsL_law_r27 ++ (wsL_law_r28 ++ (wsL_law_r29 ++ wsL_law_r30))))))))))))))))))))))))))))) ++ wsX100 ++ wsX110 ++ wsX60 ++ wsX00 ++ wsX30 ++ wsX20 ++ wsX10 ++ wsX80 ++ wsX50 ++ wsX40 ++ wsX70 ++ ([] : List Cond)
abbrev vwCl : List vw_C := [(RX0, TX0, 2), (RX1, TX1, 6), (RX2, TX2, 7), (RX3, TX3, 5), (RX4, TX4, 6), (RX5, TX5, 4), (RX6, TX6, 6), (RX7, TX7, 3), (RX8, TX8, 7), (RX10, TX10, 8), (RX11, TX11, 27)]
end
section
set_option maxRecDepth 20000 in
theorem ggX0_init_X6_init : GoodIn wsX0_init wsX6_init := goodIn_r _ [9, 10, 2, 3, 11, 12, 13, 14, 15, 16, 17, 18, 19, 20, 21, 22, 23, 24, 25, 26, 27, 28, 29, 30, 31, 32, 33, 34, 43, 44, 45, 46, 47, 48, 37, 38, 39, 40, 41, 42, 49, 50, 51] (by decide +kernel) (by decide +kernel)
set_option maxRecDepth 20000 in
theorem gX0_init_X6_init_n17 : GoodIn wsX0_init (wsX6_init) := ggX0_init_X6_init
theorem dX0_init_0 : decode cX0_init 0 = .ok (.aload_n 0, 1) := by decide +kernel
theorem dX0_init_1 : decode cX0_init 1 = .ok (.invokespecial 3, 3) := by decide +kernel
theorem dX0_init_4 : decode cX0_init 4 = .ok (.aload_n 0, 1) := by decide +kernel
theorem dX0_init_5 : decode cX0_init 5 = .ok (.iconst 4, 1) := by decide +kernel
theorem dX0_init_6 : decode cX0_init 6 = .ok (.anewarray 9, 3) := by decide +kernel
theorem dX0_init_9 : decode cX0_init 9 = .ok (.putfield 11, 3) := by decide +kernel
theorem dX0_init_12 : decode cX0_init 12 = .ok (.iconst 0, 1) := by decide +kernel
theorem dX0_init_13 : decode cX0_init 13 = .ok (.istore_n 1, 1) := by decide +kernel
theorem dX0_init_14 : decode cX0_init 14 = .ok (.iload_n 1, 1) := by decide +kernel
theorem dX0_init_15 : decode cX0_init 15 = .ok (.iconst 4, 1) := by decide +kernel
theorem dX0_init_16 : decode cX0_init 16 = .ok (.if_icmp .ge 22, 3) := by decide +kernel
theorem dX0_init_19 : decode cX0_init 19 = .ok (.aload_n 0, 1) := by decide +kernel
theorem dX0_init_20 : decode cX0_init 20 = .ok (.getfield 11, 3) := by decide +kernel
theorem dX0_init_23 : decode cX0_init 23 = .ok (.iload_n 1, 1) := by decide +kernel
theorem dX0_init_24 : decode cX0_init 24 = .ok (.new 9, 3) := by decide +kernel
theorem dX0_init_27 : decode cX0_init 27 = .ok (.dup, 1) := by decide +kernel
theorem dX0_init_28 : decode cX0_init 28 = .ok (.invokespecial 17, 3) := by decide +kernel
theorem dX0_init_31 : decode cX0_init 31 = .ok (.aastore, 1) := by decide +kernel
theorem dX0_init_32 : decode cX0_init 32 = .ok (.iinc 1 1, 3) := by decide +kernel
theorem dX0_init_35 : decode cX0_init 35 = .ok (.goto (-21), 3) := by decide +kernel
theorem dX0_init_38 : decode cX0_init 38 = .ok (.return_, 1) := by decide +kernel
set_option maxRecDepth 20000 in
theorem ggX0_keep_X0_forgetOldest : GoodIn wsX0_keep wsX0_forgetOldest := goodIn_r _ [7, 2, 1, 40, 41] (by decide +kernel) (by decide +kernel)
set_option maxRecDepth 20000 in
theorem gX0_keep_X0_forgetOldest : GoodIn wsX0_keep (wsV RX0 22 RX0 yX0_forgetOldest wsX0_forgetOldest) := goodIn_app (goodIn_of _ (by decide +kernel)) ggX0_keep_X0_forgetOldest
set_option maxRecDepth 20000 in
theorem ggX0_keep_X6_takeOver : GoodIn wsX0_keep wsX6_takeOver := goodIn_r _ [11, 12, 13, 14, 15, 16, 17, 18, 19, 20, 21, 22, 23, 24, 25, 26, 27, 28, 29, 30, 31, 32, 33, 34, 35, 36, 37, 38, 39, 42, 43, 44, 45, 46, 47, 48, 49, 50, 51, 52, 53, 54, 55, 56] (by decide +kernel) (by decide +kernel)
set_option maxRecDepth 20000 in
theorem gX0_keep_X6_takeOver_n25 : GoodIn wsX0_keep (wsX6_takeOver) := ggX0_keep_X6_takeOver
theorem dX0_keep_0 : decode cX0_keep 0 = .ok (.aload_n 0, 1) := by decide +kernel
theorem dX0_keep_1 : decode cX0_keep 1 = .ok (.getfield 18, 3) := by decide +kernel
theorem dX0_keep_4 : decode cX0_keep 4 = .ok (.iconst 4, 1) := by decide +kernel
theorem dX0_keep_5 : decode cX0_keep 5 = .ok (.if_icmp .lt 7, 3) := by decide +kernel
theorem dX0_keep_8 : decode cX0_keep 8 = .ok (.aload_n 0, 1) := by decide +kernel
theorem dX0_keep_9 : decode cX0_keep 9 = .ok (.invokevirtual 22, 3) := by decide +kernel
theorem dX0_keep_12 : decode cX0_keep 12 = .ok (.aload_n 0, 1) := by decide +kernel
theorem dX0_keep_13 : decode cX0_keep 13 = .ok (.getfield 11, 3) := by decide +kernel
theorem dX0_keep_16 : decode cX0_keep 16 = .ok (.aload_n 0, 1) := by decide +kernel
theorem dX0_keep_17 : decode cX0_keep 17 = .ok (.getfield 18, 3) := by decide +kernel
theorem dX0_keep_20 : decode cX0_keep 20 = .ok (.aaload, 1) := by decide +kernel
theorem dX0_keep_21 : decode cX0_keep 21 = .ok (.aload_n 1, 1) := by decide +kernel
theorem dX0_keep_22 : decode cX0_keep 22 = .ok (.invokevirtual 25, 3) := by decide +kernel
theorem dX0_keep_25 : decode cX0_keep 25 = .ok (.aload_n 0, 1) := by decide +kernel
theorem dX0_keep_26 : decode cX0_keep 26 = .ok (.dup, 1) := by decide +kernel
theorem dX0_keep_27 : decode cX0_keep 27 = .ok (.getfield 18, 3) := by decide +kernel
theorem dX0_keep_30 : decode cX0_keep 30 = .ok (.iconst 1, 1) := by decide +kernel
theorem dX0_keep_31 : decode cX0_keep 31 = .ok (.iadd, 1) := by decide +kernel
theorem dX0_keep_32 : decode cX0_keep 32 = .ok (.putfield 18, 3) := by decide +kernel
theorem dX0_keep_35 : decode cX0_keep 35 = .ok (.return_, 1) := by decide +kernel
theorem dX0_forgetOldest_0 : decode cX0_forgetOldest 0 = .ok (.aload_n 0, 1) := by decide +kernel
theorem dX0_forgetOldest_1 : decode cX0_forgetOldest 1 = .ok (.getfield 11, 3) := by decide +kernel
theorem dX0_forgetOldest_4 : decode cX0_forgetOldest 4 = .ok (.iconst 0, 1) := by decide +kernel
theorem dX0_forgetOldest_5 : decode cX0_forgetOldest 5 = .ok (.aaload, 1) := by decide +kernel
theorem dX0_forgetOldest_6 : decode cX0_forgetOldest 6 = .ok (.astore_n 1, 1) := by decide +kernel
theorem dX0_forgetOldest_7 : decode cX0_forgetOldest 7 = .ok (.iconst 0, 1) := by decide +kernel
theorem dX0_forgetOldest_8 : decode cX0_forgetOldest 8 = .ok (.istore_n 2, 1) := by decide +kernel
theorem dX0_forgetOldest_9 : decode cX0_forgetOldest 9 = .ok (.iload_n 2, 1) := by decide +kernel
theorem dX0_forgetOldest_10 : decode cX0_forgetOldest 10 = .ok (.iconst 1, 1) := by decide +kernel
theorem dX0_forgetOldest_11 : decode cX0_forgetOldest 11 = .ok (.iadd, 1) := by decide +kernel
theorem dX0_forgetOldest_12 : decode cX0_forgetOldest 12 = .ok (.iconst 4, 1) := by decide +kernel
theorem dX0_forgetOldest_13 : decode cX0_forgetOldest 13 = .ok (.if_icmp .ge 23, 3) := by decide +kernel
theorem dX0_forgetOldest_16 : decode cX0_forgetOldest 16 = .ok (.aload_n 0, 1) := by decide +kernel
theorem dX0_forgetOldest_17 : decode cX0_forgetOldest 17 = .ok (.getfield 11, 3) := by decide +kernel
theorem dX0_forgetOldest_20 : decode cX0_forgetOldest 20 = .ok (.iload_n 2, 1) := by decide +kernel
theorem dX0_forgetOldest_21 : decode cX0_forgetOldest 21 = .ok (.aload_n 0, 1) := by decide +kernel
theorem dX0_forgetOldest_22 : decode cX0_forgetOldest 22 = .ok (.getfield 11, 3) := by decide +kernel
theorem dX0_forgetOldest_25 : decode cX0_forgetOldest 25 = .ok (.iload_n 2, 1) := by decide +kernel
theorem dX0_forgetOldest_26 : decode cX0_forgetOldest 26 = .ok (.iconst 1, 1) := by decide +kernel
theorem dX0_forgetOldest_27 : decode cX0_forgetOldest 27 = .ok (.iadd, 1) := by decide +kernel
theorem dX0_forgetOldest_28 : decode cX0_forgetOldest 28 = .ok (.aaload, 1) := by decide +kernel
theorem dX0_forgetOldest_29 : decode cX0_forgetOldest 29 = .ok (.aastore, 1) := by decide +kernel
theorem dX0_forgetOldest_30 : decode cX0_forgetOldest 30 = .ok (.iinc 2 1, 3) := by decide +kernel
theorem dX0_forgetOldest_33 : decode cX0_forgetOldest 33 = .ok (.goto (-24), 3) := by decide +kernel
theorem dX0_forgetOldest_36 : decode cX0_forgetOldest 36 = .ok (.aload_n 0, 1) := by decide +kernel
theorem dX0_forgetOldest_37 : decode cX0_forgetOldest 37 = .ok (.getfield 11, 3) := by decide +kernel
theorem dX0_forgetOldest_40 : decode cX0_forgetOldest 40 = .ok (.iconst 3, 1) := by decide +kernel
theorem dX0_forgetOldest_41 : decode cX0_forgetOldest 41 = .ok (.aload_n 1, 1) := by decide +kernel
theorem dX0_forgetOldest_42 : decode cX0_forgetOldest 42 = .ok (.aastore, 1) := by decide +kernel
theorem dX0_forgetOldest_43 : decode cX0_forgetOldest 43 = .ok (.aload_n 0, 1) := by decide +kernel
theorem dX0_forgetOldest_44 : decode cX0_forgetOldest 44 = .ok (.dup, 1) := by decide +kernel
theorem dX0_forgetOldest_45 : decode cX0_forgetOldest 45 = .ok (.getfield 18, 3) := by decide +kernel
theorem dX0_forgetOldest_48 : decode cX0_forgetOldest 48 = .ok (.iconst 1, 1) := by decide +kernel
theorem dX0_forgetOldest_49 : decode cX0_forgetOldest 49 = .ok (.isub, 1) := by decide +kernel
theorem dX0_forgetOldest_50 : decode cX0_forgetOldest 50 = .ok (.putfield 18, 3) := by decide +kernel
theorem dX0_forgetOldest_53 : decode cX0_forgetOldest 53 = .ok (.return_, 1) := by decide +kernel
set_option maxRecDepth 20000 in
theorem ggX0_restoreTo_X6_takeOver : GoodIn wsX0_restoreTo wsX6_takeOver := goodIn_r _ [6, 7, 8, 9, 10, 11, 12, 13, 14, 15, 16, 17, 18, 19, 20, 21, 22, 23, 24, 25, 26, 27, 28, 29, 30, 31, 32, 33, 34, 37, 38, 39, 40, 41, 42, 43, 44, 45, 46, 47, 48, 49, 50, 51] (by decide +kernel) (by decide +kernel)
set_option maxRecDepth 20000 in
theorem gX0_restoreTo_X6_takeOver_n25 : GoodIn wsX0_restoreTo (wsX6_takeOver) := ggX0_restoreTo_X6_takeOver
theorem dX0_restoreTo_0 : decode cX0_restoreTo 0 = .ok (.aload_n 0, 1) := by decide +kernel
theorem dX0_restoreTo_1 : decode cX0_restoreTo 1 = .ok (.getfield 18, 3) := by decide +kernel
theorem dX0_restoreTo_4 : decode cX0_restoreTo 4 = .ok (.ifCond .le 26, 3) := by decide +kernel
theorem dX0_restoreTo_7 : decode cX0_restoreTo 7 = .ok (.aload_n 0, 1) := by decide +kernel
theorem dX0_restoreTo_8 : decode cX0_restoreTo 8 = .ok (.dup, 1) := by decide +kernel
theorem dX0_restoreTo_9 : decode cX0_restoreTo 9 = .ok (.getfield 18, 3) := by decide +kernel
theorem dX0_restoreTo_12 : decode cX0_restoreTo 12 = .ok (.iconst 1, 1) := by decide +kernel
theorem dX0_restoreTo_13 : decode cX0_restoreTo 13 = .ok (.isub, 1) := by decide +kernel
theorem dX0_restoreTo_14 : decode cX0_restoreTo 14 = .ok (.putfield 18, 3) := by decide +kernel
theorem dX0_restoreTo_17 : decode cX0_restoreTo 17 = .ok (.aload_n 1, 1) := by decide +kernel
theorem dX0_restoreTo_18 : decode cX0_restoreTo 18 = .ok (.aload_n 0, 1) := by decide +kernel
theorem dX0_restoreTo_19 : decode cX0_restoreTo 19 = .ok (.getfield 11, 3) := by decide +kernel
theorem dX0_restoreTo_22 : decode cX0_restoreTo 22 = .ok (.aload_n 0, 1) := by decide +kernel
theorem dX0_restoreTo_23 : decode cX0_restoreTo 23 = .ok (.getfield 18, 3) := by decide +kernel
theorem dX0_restoreTo_26 : decode cX0_restoreTo 26 = .ok (.aaload, 1) := by decide +kernel
theorem dX0_restoreTo_27 : decode cX0_restoreTo 27 = .ok (.invokevirtual 25, 3) := by decide +kernel
theorem dX0_restoreTo_30 : decode cX0_restoreTo 30 = .ok (.return_, 1) := by decide +kernel
theorem dX1_init_0 : decode cX1_init 0 = .ok (.aload_n 0, 1) := by decide +kernel
theorem dX1_init_1 : decode cX1_init 1 = .ok (.invokespecial 3, 3) := by decide +kernel
theorem dX1_init_4 : decode cX1_init 4 = .ok (.return_, 1) := by decide +kernel
set_option maxRecDepth 20000 in
theorem ggX1_find_X1_isOverlap : GoodIn wsX1_find wsX1_isOverlap := goodIn_r _ [5, 6, 7, 8, 9, 10, 11, 12, 13, 14, 15, 16, 17, 4, 18, 19, 20, 21, 22, 23, 24, 25, 26, 27, 28, 29, 30, 31, 32, 33, 34, 35, 36, 37, 38, 39, 40] (by decide +kernel) (by decide +kernel)
set_option maxRecDepth 20000 in
theorem gX1_find_X1_isOverlap : GoodIn wsX1_find (wsV RX1 11 RX1 yX1_isOverlap wsX1_isOverlap) := goodIn_app (goodIn_of _ (by decide +kernel)) ggX1_find_X1_isOverlap
theorem dX1_find_0 : decode cX1_find 0 = .ok (.iconst 0, 1) := by decide +kernel
theorem dX1_find_1 : decode cX1_find 1 = .ok (.istore_n 3, 1) := by decide +kernel
theorem dX1_find_2 : decode cX1_find 2 = .ok (.iconst 0, 1) := by decide +kernel
theorem dX1_find_3 : decode cX1_find 3 = .ok (.istore 4, 2) := by decide +kernel
theorem dX1_find_5 : decode cX1_find 5 = .ok (.iload 4, 2) := by decide +kernel
theorem dX1_find_7 : decode cX1_find 7 = .ok (.sipush 400, 3) := by decide +kernel
theorem dX1_find_10 : decode cX1_find 10 = .ok (.if_icmp .ge 29, 3) := by decide +kernel
theorem dX1_find_13 : decode cX1_find 13 = .ok (.aload_n 0, 1) := by decide +kernel
theorem dX1_find_14 : decode cX1_find 14 = .ok (.aload_n 1, 1) := by decide +kernel
theorem dX1_find_15 : decode cX1_find 15 = .ok (.iload 4, 2) := by decide +kernel
theorem dX1_find_17 : decode cX1_find 17 = .ok (.invokevirtual 11, 3) := by decide +kernel
theorem dX1_find_20 : decode cX1_find 20 = .ok (.ifCond .eq 13, 3) := by decide +kernel
theorem dX1_find_23 : decode cX1_find 23 = .ok (.iload_n 3, 1) := by decide +kernel
theorem dX1_find_24 : decode cX1_find 24 = .ok (.iload_n 2, 1) := by decide +kernel
theorem dX1_find_25 : decode cX1_find 25 = .ok (.if_icmp .ne 5, 3) := by decide +kernel
theorem dX1_find_28 : decode cX1_find 28 = .ok (.iconst 1, 1) := by decide +kernel
theorem dX1_find_29 : decode cX1_find 29 = .ok (.ireturn, 1) := by decide +kernel
theorem dX1_find_30 : decode cX1_find 30 = .ok (.iinc 3 1, 3) := by decide +kernel
theorem dX1_find_33 : decode cX1_find 33 = .ok (.iinc 4 1, 3) := by decide +kernel
theorem dX1_find_36 : decode cX1_find 36 = .ok (.goto (-31), 3) := by decide +kernel
theorem dX1_find_39 : decode cX1_find 39 = .ok (.iconst 0, 1) := by decide +kernel
theorem dX1_find_40 : decode cX1_find 40 = .ok (.ireturn, 1) := by decide +kernel
set_option maxRecDepth 20000 in
theorem ggX1_findParting_X1_isOverlap : GoodIn wsX1_findParting wsX1_isOverlap := goodIn_r _ [5, 6, 7, 8, 9, 10, 11, 12, 13, 14, 15, 16, 17, 4, 18, 19, 20, 21, 22, 23, 24, 25, 26, 27, 28, 78, 79, 80, 81, 82, 83, 84, 85, 86, 87, 88, 89] (by decide +kernel) (by decide +kernel)
set_option maxRecDepth 20000 in
theorem gX1_findParting_X1_isOverlap : GoodIn wsX1_findParting (wsV RX1 11 RX1 yX1_isOverlap wsX1_isOverlap) := goodIn_app (goodIn_of _ (by decide +kernel)) ggX1_findParting_X1_isOverlap
set_option maxRecDepth 20000 in
theorem ggX1_findParting_X1_verdict : GoodIn wsX1_findParting wsX1_verdict := goodIn_r _ [32, 33, 34, 35, 36, 37, 4, 38, 9, 6, 39, 11, 40, 41, 42, 43, 27, 22, 20, 23, 19, 21, 44, 45, 46, 47, 48, 49, 50, 51, 52, 53, 54, 55, 56, 57, 58, 59, 14, 60, 24, 25, 26, 28, 61, 62, 63, 64, 65, 66, 67, 68, 69, 70, 71, 7, 8, 72, 73, 74, 75, 76, 77, 90, 91, 92, 93, 94, 78, 79, 80, 81, 82, 83, 84, 85, 86, 87, 88, 89] (by decide +kernel) (by decide +kernel)
set_option maxRecDepth 20000 in
theorem gX1_findParting_X1_verdict : GoodIn wsX1_findParting (wsV RX1 21 RX1 yX1_verdict wsX1_verdict) := goodIn_app (goodIn_of _ (by decide +kernel)) ggX1_findParting_X1_verdict
theorem dX1_findParting_0 : decode cX1_findParting 0 = .ok (.iconst 0, 1) := by decide +kernel
theorem dX1_findParting_1 : decode cX1_findParting 1 = .ok (.istore_n 3, 1) := by decide +kernel
theorem dX1_findParting_2 : decode cX1_findParting 2 = .ok (.iload_n 3, 1) := by decide +kernel
theorem dX1_findParting_3 : decode cX1_findParting 3 = .ok (.sipush 400, 3) := by decide +kernel
theorem dX1_findParting_6 : decode cX1_findParting 6 = .ok (.if_icmp .ge 33, 3) := by decide +kernel
theorem dX1_findParting_9 : decode cX1_findParting 9 = .ok (.aload_n 0, 1) := by decide +kernel
theorem dX1_findParting_10 : decode cX1_findParting 10 = .ok (.aload_n 1, 1) := by decide +kernel
theorem dX1_findParting_11 : decode cX1_findParting 11 = .ok (.getfield 15, 3) := by decide +kernel
theorem dX1_findParting_14 : decode cX1_findParting 14 = .ok (.iload_n 3, 1) := by decide +kernel
theorem dX1_findParting_15 : decode cX1_findParting 15 = .ok (.invokevirtual 11, 3) := by decide +kernel
theorem dX1_findParting_18 : decode cX1_findParting 18 = .ok (.ifCond .eq 15, 3) := by decide +kernel
theorem dX1_findParting_21 : decode cX1_findParting 21 = .ok (.aload_n 0, 1) := by decide +kernel
theorem dX1_findParting_22 : decode cX1_findParting 22 = .ok (.aload_n 1, 1) := by decide +kernel
theorem dX1_findParting_23 : decode cX1_findParting 23 = .ok (.aload_n 2, 1) := by decide +kernel
theorem dX1_findParting_24 : decode cX1_findParting 24 = .ok (.invokevirtual 21, 3) := by decide +kernel
theorem dX1_findParting_27 : decode cX1_findParting 27 = .ok (.iconst 1, 1) := by decide +kernel
theorem dX1_findParting_28 : decode cX1_findParting 28 = .ok (.if_icmp .ne 5, 3) := by decide +kernel
theorem dX1_findParting_31 : decode cX1_findParting 31 = .ok (.iconst 1, 1) := by decide +kernel
theorem dX1_findParting_32 : decode cX1_findParting 32 = .ok (.ireturn, 1) := by decide +kernel
theorem dX1_findParting_33 : decode cX1_findParting 33 = .ok (.iinc 3 1, 3) := by decide +kernel
theorem dX1_findParting_36 : decode cX1_findParting 36 = .ok (.goto (-34), 3) := by decide +kernel
theorem dX1_findParting_39 : decode cX1_findParting 39 = .ok (.iconst 0, 1) := by decide +kernel
theorem dX1_findParting_40 : decode cX1_findParting 40 = .ok (.ireturn, 1) := by decide +kernel
set_option maxRecDepth 20000 in
theorem ggX1_howMany_X1_isOverlap : GoodIn wsX1_howMany wsX1_isOverlap := goodIn_r _ [5, 6, 7, 8, 9, 10, 11, 12, 13, 14, 15, 16, 17, 4, 18, 19, 20, 21, 22, 23, 24, 25, 26, 27, 28, 29, 30, 31, 32, 33, 34, 35, 36, 37, 38, 39, 40] (by decide +kernel) (by decide +kernel)
set_option maxRecDepth 20000 in
theorem gX1_howMany_X1_isOverlap : GoodIn wsX1_howMany (wsV RX1 11 RX1 yX1_isOverlap wsX1_isOverlap) := goodIn_app (goodIn_of _ (by decide +kernel)) ggX1_howMany_X1_isOverlap
theorem dX1_howMany_0 : decode cX1_howMany 0 = .ok (.iconst 0, 1) := by decide +kernel
theorem dX1_howMany_1 : decode cX1_howMany 1 = .ok (.istore_n 2, 1) := by decide +kernel
theorem dX1_howMany_2 : decode cX1_howMany 2 = .ok (.iconst 0, 1) := by decide +kernel
theorem dX1_howMany_3 : decode cX1_howMany 3 = .ok (.istore_n 3, 1) := by decide +kernel
theorem dX1_howMany_4 : decode cX1_howMany 4 = .ok (.iload_n 3, 1) := by decide +kernel
theorem dX1_howMany_5 : decode cX1_howMany 5 = .ok (.sipush 400, 3) := by decide +kernel
theorem dX1_howMany_8 : decode cX1_howMany 8 = .ok (.if_icmp .ge 21, 3) := by decide +kernel
theorem dX1_howMany_11 : decode cX1_howMany 11 = .ok (.aload_n 0, 1) := by decide +kernel
theorem dX1_howMany_12 : decode cX1_howMany 12 = .ok (.aload_n 1, 1) := by decide +kernel
theorem dX1_howMany_13 : decode cX1_howMany 13 = .ok (.iload_n 3, 1) := by decide +kernel
theorem dX1_howMany_14 : decode cX1_howMany 14 = .ok (.invokevirtual 11, 3) := by decide +kernel
theorem dX1_howMany_17 : decode cX1_howMany 17 = .ok (.ifCond .eq 6, 3) := by decide +kernel
theorem dX1_howMany_20 : decode cX1_howMany 20 = .ok (.iinc 2 1, 3) := by decide +kernel
theorem dX1_howMany_23 : decode cX1_howMany 23 = .ok (.iinc 3 1, 3) := by decide +kernel
theorem dX1_howMany_26 : decode cX1_howMany 26 = .ok (.goto (-22), 3) := by decide +kernel
theorem dX1_howMany_29 : decode cX1_howMany 29 = .ok (.iload_n 2, 1) := by decide +kernel
theorem dX1_howMany_30 : decode cX1_howMany 30 = .ok (.ireturn, 1) := by decide +kernel
set_option maxRecDepth 20000 in
theorem ggX1_howManyAre_X1_isOverlap : GoodIn wsX1_howManyAre wsX1_isOverlap := goodIn_r _ [5, 6, 7, 8, 9, 10, 11, 12, 13, 14, 15, 16, 17, 4, 18, 19, 20, 21, 22, 23, 24, 25, 26, 27, 28, 78, 79, 80, 81, 82, 83, 84, 85, 86, 87, 88, 89] (by decide +kernel) (by decide +kernel)
set_option maxRecDepth 20000 in
theorem gX1_howManyAre_X1_isOverlap : GoodIn wsX1_howManyAre (wsV RX1 11 RX1 yX1_isOverlap wsX1_isOverlap) := goodIn_app (goodIn_of _ (by decide +kernel)) ggX1_howManyAre_X1_isOverlap
set_option maxRecDepth 20000 in
theorem ggX1_howManyAre_X1_verdict : GoodIn wsX1_howManyAre wsX1_verdict := goodIn_r _ [32, 33, 34, 35, 36, 37, 4, 38, 9, 6, 39, 11, 40, 41, 42, 43, 27, 22, 20, 23, 19, 21, 44, 45, 46, 47, 48, 49, 50, 51, 52, 53, 54, 55, 56, 57, 58, 59, 14, 60, 24, 25, 26, 28, 61, 62, 63, 64, 65, 66, 67, 68, 69, 70, 71, 7, 8, 72, 73, 74, 75, 76, 77, 90, 91, 92, 93, 94, 78, 79, 80, 81, 82, 83, 84, 85, 86, 87, 88, 89] (by decide +kernel) (by decide +kernel)
set_option maxRecDepth 20000 in
theorem gX1_howManyAre_X1_verdict : GoodIn wsX1_howManyAre (wsV RX1 21 RX1 yX1_verdict wsX1_verdict) := goodIn_app (goodIn_of _ (by decide +kernel)) ggX1_howManyAre_X1_verdict
theorem dX1_howManyAre_0 : decode cX1_howManyAre 0 = .ok (.iconst 0, 1) := by decide +kernel
theorem dX1_howManyAre_1 : decode cX1_howManyAre 1 = .ok (.istore 4, 2) := by decide +kernel
theorem dX1_howManyAre_3 : decode cX1_howManyAre 3 = .ok (.iconst 0, 1) := by decide +kernel
theorem dX1_howManyAre_4 : decode cX1_howManyAre 4 = .ok (.istore 5, 2) := by decide +kernel
theorem dX1_howManyAre_6 : decode cX1_howManyAre 6 = .ok (.iload 5, 2) := by decide +kernel
theorem dX1_howManyAre_8 : decode cX1_howManyAre 8 = .ok (.sipush 400, 3) := by decide +kernel
theorem dX1_howManyAre_11 : decode cX1_howManyAre 11 = .ok (.if_icmp .ge 35, 3) := by decide +kernel
theorem dX1_howManyAre_14 : decode cX1_howManyAre 14 = .ok (.aload_n 0, 1) := by decide +kernel
theorem dX1_howManyAre_15 : decode cX1_howManyAre 15 = .ok (.aload_n 2, 1) := by decide +kernel
theorem dX1_howManyAre_16 : decode cX1_howManyAre 16 = .ok (.getfield 15, 3) := by decide +kernel
theorem dX1_howManyAre_19 : decode cX1_howManyAre 19 = .ok (.iload 5, 2) := by decide +kernel
theorem dX1_howManyAre_21 : decode cX1_howManyAre 21 = .ok (.invokevirtual 11, 3) := by decide +kernel
theorem dX1_howManyAre_24 : decode cX1_howManyAre 24 = .ok (.ifCond .eq 16, 3) := by decide +kernel
theorem dX1_howManyAre_27 : decode cX1_howManyAre 27 = .ok (.aload_n 0, 1) := by decide +kernel
theorem dX1_howManyAre_28 : decode cX1_howManyAre 28 = .ok (.aload_n 2, 1) := by decide +kernel
theorem dX1_howManyAre_29 : decode cX1_howManyAre 29 = .ok (.aload_n 3, 1) := by decide +kernel
theorem dX1_howManyAre_30 : decode cX1_howManyAre 30 = .ok (.invokevirtual 21, 3) := by decide +kernel
theorem dX1_howManyAre_33 : decode cX1_howManyAre 33 = .ok (.iload_n 1, 1) := by decide +kernel
theorem dX1_howManyAre_34 : decode cX1_howManyAre 34 = .ok (.if_icmp .ne 6, 3) := by decide +kernel
theorem dX1_howManyAre_37 : decode cX1_howManyAre 37 = .ok (.iinc 4 1, 3) := by decide +kernel
theorem dX1_howManyAre_40 : decode cX1_howManyAre 40 = .ok (.iinc 5 1, 3) := by decide +kernel
theorem dX1_howManyAre_43 : decode cX1_howManyAre 43 = .ok (.goto (-37), 3) := by decide +kernel
theorem dX1_howManyAre_46 : decode cX1_howManyAre 46 = .ok (.iload 4, 2) := by decide +kernel
theorem dX1_howManyAre_48 : decode cX1_howManyAre 48 = .ok (.ireturn, 1) := by decide +kernel
set_option maxRecDepth 20000 in
theorem ggX1_isOverlap_X4_contains : GoodIn wsX1_isOverlap wsX4_contains := goodIn_r _ [8, 9, 31, 32, 33, 34, 35, 36] (by decide +kernel) (by decide +kernel)
set_option maxRecDepth 20000 in
theorem gX1_isOverlap_X4_contains_n35 : GoodIn wsX1_isOverlap (wsX4_contains) := ggX1_isOverlap_X4_contains
set_option maxRecDepth 20000 in
theorem ggX1_isOverlap_X1_coveredWord : GoodIn wsX1_isOverlap wsX1_coveredWord := goodIn_r _ [14, 1, 2, 15, 16, 17, 31, 32, 33, 34, 35, 36, 25, 26, 27, 28, 29, 30] (by decide +kernel) (by decide +kernel)
set_option maxRecDepth 20000 in
theorem gX1_isOverlap_X1_coveredWord : GoodIn wsX1_isOverlap (wsV RX1 45 RX1 yX1_coveredWord wsX1_coveredWord) := goodIn_app (goodIn_of _ (by decide +kernel)) ggX1_isOverlap_X1_coveredWord
set_option maxRecDepth 20000 in
theorem ggX1_isOverlap_X9_lengthOf : GoodIn wsX1_isOverlap wsX9_lengthOf := goodIn_r _ [19] (by decide +kernel) (by decide +kernel)
set_option maxRecDepth 20000 in
theorem gX1_isOverlap_X9_lengthOf_n52 : GoodIn wsX1_isOverlap (wsX9_lengthOf) := ggX1_isOverlap_X9_lengthOf
set_option maxRecDepth 20000 in
theorem ggX1_isOverlap_X4_appliesAt : GoodIn wsX1_isOverlap wsX4_appliesAt := goodIn_r _ [22, 23, 24, 31, 32, 33, 34, 35, 36] (by decide +kernel) (by decide +kernel)
set_option maxRecDepth 20000 in
theorem gX1_isOverlap_X4_appliesAt_n58 : GoodIn wsX1_isOverlap (wsX4_appliesAt) := ggX1_isOverlap_X4_appliesAt
theorem dX1_isOverlap_0 : decode cX1_isOverlap 0 = .ok (.aload_n 0, 1) := by decide +kernel
theorem dX1_isOverlap_1 : decode cX1_isOverlap 1 = .ok (.iload_n 2, 1) := by decide +kernel
theorem dX1_isOverlap_2 : decode cX1_isOverlap 2 = .ok (.bipush 40, 2) := by decide +kernel
theorem dX1_isOverlap_4 : decode cX1_isOverlap 4 = .ok (.idiv, 1) := by decide +kernel
theorem dX1_isOverlap_5 : decode cX1_isOverlap 5 = .ok (.putfield 25, 3) := by decide +kernel
theorem dX1_isOverlap_8 : decode cX1_isOverlap 8 = .ok (.aload_n 0, 1) := by decide +kernel
theorem dX1_isOverlap_9 : decode cX1_isOverlap 9 = .ok (.iload_n 2, 1) := by decide +kernel
theorem dX1_isOverlap_10 : decode cX1_isOverlap 10 = .ok (.iconst 4, 1) := by decide +kernel
theorem dX1_isOverlap_11 : decode cX1_isOverlap 11 = .ok (.idiv, 1) := by decide +kernel
theorem dX1_isOverlap_12 : decode cX1_isOverlap 12 = .ok (.bipush 10, 2) := by decide +kernel
theorem dX1_isOverlap_14 : decode cX1_isOverlap 14 = .ok (.irem, 1) := by decide +kernel
theorem dX1_isOverlap_15 : decode cX1_isOverlap 15 = .ok (.putfield 29, 3) := by decide +kernel
theorem dX1_isOverlap_18 : decode cX1_isOverlap 18 = .ok (.aload_n 0, 1) := by decide +kernel
theorem dX1_isOverlap_19 : decode cX1_isOverlap 19 = .ok (.iload_n 2, 1) := by decide +kernel
theorem dX1_isOverlap_20 : decode cX1_isOverlap 20 = .ok (.iconst 4, 1) := by decide +kernel
theorem dX1_isOverlap_21 : decode cX1_isOverlap 21 = .ok (.irem, 1) := by decide +kernel
theorem dX1_isOverlap_22 : decode cX1_isOverlap 22 = .ok (.putfield 32, 3) := by decide +kernel
theorem dX1_isOverlap_25 : decode cX1_isOverlap 25 = .ok (.aload_n 1, 1) := by decide +kernel
theorem dX1_isOverlap_26 : decode cX1_isOverlap 26 = .ok (.aload_n 0, 1) := by decide +kernel
theorem dX1_isOverlap_27 : decode cX1_isOverlap 27 = .ok (.getfield 25, 3) := by decide +kernel
theorem dX1_isOverlap_30 : decode cX1_isOverlap 30 = .ok (.invokevirtual 35, 3) := by decide +kernel
theorem dX1_isOverlap_33 : decode cX1_isOverlap 33 = .ok (.ifCond .eq 14, 3) := by decide +kernel
theorem dX1_isOverlap_36 : decode cX1_isOverlap 36 = .ok (.aload_n 1, 1) := by decide +kernel
theorem dX1_isOverlap_37 : decode cX1_isOverlap 37 = .ok (.aload_n 0, 1) := by decide +kernel
theorem dX1_isOverlap_38 : decode cX1_isOverlap 38 = .ok (.getfield 29, 3) := by decide +kernel
theorem dX1_isOverlap_41 : decode cX1_isOverlap 41 = .ok (.invokevirtual 35, 3) := by decide +kernel
theorem dX1_isOverlap_44 : decode cX1_isOverlap 44 = .ok (.ifCond .ne 5, 3) := by decide +kernel
theorem dX1_isOverlap_47 : decode cX1_isOverlap 47 = .ok (.iconst 0, 1) := by decide +kernel
theorem dX1_isOverlap_48 : decode cX1_isOverlap 48 = .ok (.ireturn, 1) := by decide +kernel
theorem dX1_isOverlap_49 : decode cX1_isOverlap 49 = .ok (.aload_n 1, 1) := by decide +kernel
theorem dX1_isOverlap_50 : decode cX1_isOverlap 50 = .ok (.getfield 41, 3) := by decide +kernel
theorem dX1_isOverlap_53 : decode cX1_isOverlap 53 = .ok (.aload_n 0, 1) := by decide +kernel
theorem dX1_isOverlap_54 : decode cX1_isOverlap 54 = .ok (.getfield 25, 3) := by decide +kernel
theorem dX1_isOverlap_57 : decode cX1_isOverlap 57 = .ok (.iaload, 1) := by decide +kernel
theorem dX1_isOverlap_58 : decode cX1_isOverlap 58 = .ok (.istore_n 3, 1) := by decide +kernel
theorem dX1_isOverlap_59 : decode cX1_isOverlap 59 = .ok (.aload_n 0, 1) := by decide +kernel
theorem dX1_isOverlap_60 : decode cX1_isOverlap 60 = .ok (.getfield 32, 3) := by decide +kernel
theorem dX1_isOverlap_63 : decode cX1_isOverlap 63 = .ok (.aload_n 1, 1) := by decide +kernel
theorem dX1_isOverlap_64 : decode cX1_isOverlap 64 = .ok (.getfield 41, 3) := by decide +kernel
theorem dX1_isOverlap_67 : decode cX1_isOverlap 67 = .ok (.aload_n 0, 1) := by decide +kernel
theorem dX1_isOverlap_68 : decode cX1_isOverlap 68 = .ok (.getfield 29, 3) := by decide +kernel
theorem dX1_isOverlap_71 : decode cX1_isOverlap 71 = .ok (.iaload, 1) := by decide +kernel
theorem dX1_isOverlap_72 : decode cX1_isOverlap 72 = .ok (.iadd, 1) := by decide +kernel
theorem dX1_isOverlap_73 : decode cX1_isOverlap 73 = .ok (.istore 4, 2) := by decide +kernel
theorem dX1_isOverlap_75 : decode cX1_isOverlap 75 = .ok (.aload_n 0, 1) := by decide +kernel
theorem dX1_isOverlap_76 : decode cX1_isOverlap 76 = .ok (.getfield 32, 3) := by decide +kernel
theorem dX1_isOverlap_79 : decode cX1_isOverlap 79 = .ok (.ifCond .le 21, 3) := by decide +kernel
theorem dX1_isOverlap_82 : decode cX1_isOverlap 82 = .ok (.aload_n 0, 1) := by decide +kernel
theorem dX1_isOverlap_83 : decode cX1_isOverlap 83 = .ok (.getfield 32, 3) := by decide +kernel
theorem dX1_isOverlap_86 : decode cX1_isOverlap 86 = .ok (.iload_n 3, 1) := by decide +kernel
theorem dX1_isOverlap_87 : decode cX1_isOverlap 87 = .ok (.if_icmp .ge 13, 3) := by decide +kernel
theorem dX1_isOverlap_90 : decode cX1_isOverlap 90 = .ok (.iload 4, 2) := by decide +kernel
theorem dX1_isOverlap_92 : decode cX1_isOverlap 92 = .ok (.iload_n 3, 1) := by decide +kernel
theorem dX1_isOverlap_93 : decode cX1_isOverlap 93 = .ok (.if_icmp .lt 7, 3) := by decide +kernel
theorem dX1_isOverlap_96 : decode cX1_isOverlap 96 = .ok (.iconst 1, 1) := by decide +kernel
theorem dX1_isOverlap_97 : decode cX1_isOverlap 97 = .ok (.goto 4, 3) := by decide +kernel
theorem dX1_isOverlap_100 : decode cX1_isOverlap 100 = .ok (.iconst 0, 1) := by decide +kernel
theorem dX1_isOverlap_101 : decode cX1_isOverlap 101 = .ok (.istore 5, 2) := by decide +kernel
theorem dX1_isOverlap_103 : decode cX1_isOverlap 103 = .ok (.aload_n 0, 1) := by decide +kernel
theorem dX1_isOverlap_104 : decode cX1_isOverlap 104 = .ok (.getfield 25, 3) := by decide +kernel
theorem dX1_isOverlap_107 : decode cX1_isOverlap 107 = .ok (.aload_n 0, 1) := by decide +kernel
theorem dX1_isOverlap_108 : decode cX1_isOverlap 108 = .ok (.getfield 29, 3) := by decide +kernel
theorem dX1_isOverlap_111 : decode cX1_isOverlap 111 = .ok (.if_icmp .eq 13, 3) := by decide +kernel
theorem dX1_isOverlap_114 : decode cX1_isOverlap 114 = .ok (.iload 4, 2) := by decide +kernel
theorem dX1_isOverlap_116 : decode cX1_isOverlap 116 = .ok (.iload_n 3, 1) := by decide +kernel
theorem dX1_isOverlap_117 : decode cX1_isOverlap 117 = .ok (.if_icmp .gt 7, 3) := by decide +kernel
theorem dX1_isOverlap_120 : decode cX1_isOverlap 120 = .ok (.iconst 1, 1) := by decide +kernel
theorem dX1_isOverlap_121 : decode cX1_isOverlap 121 = .ok (.goto 4, 3) := by decide +kernel
theorem dX1_isOverlap_124 : decode cX1_isOverlap 124 = .ok (.iconst 0, 1) := by decide +kernel
theorem dX1_isOverlap_125 : decode cX1_isOverlap 125 = .ok (.istore 6, 2) := by decide +kernel
theorem dX1_isOverlap_127 : decode cX1_isOverlap 127 = .ok (.iload 5, 2) := by decide +kernel
theorem dX1_isOverlap_129 : decode cX1_isOverlap 129 = .ok (.ifCond .ne 10, 3) := by decide +kernel
theorem dX1_isOverlap_132 : decode cX1_isOverlap 132 = .ok (.iload 6, 2) := by decide +kernel
theorem dX1_isOverlap_134 : decode cX1_isOverlap 134 = .ok (.ifCond .ne 5, 3) := by decide +kernel
theorem dX1_isOverlap_137 : decode cX1_isOverlap 137 = .ok (.iconst 0, 1) := by decide +kernel
theorem dX1_isOverlap_138 : decode cX1_isOverlap 138 = .ok (.ireturn, 1) := by decide +kernel
theorem dX1_isOverlap_139 : decode cX1_isOverlap 139 = .ok (.aload_n 0, 1) := by decide +kernel
theorem dX1_isOverlap_140 : decode cX1_isOverlap 140 = .ok (.aload_n 0, 1) := by decide +kernel
theorem dX1_isOverlap_141 : decode cX1_isOverlap 141 = .ok (.aload_n 1, 1) := by decide +kernel
theorem dX1_isOverlap_142 : decode cX1_isOverlap 142 = .ok (.iload 4, 2) := by decide +kernel
theorem dX1_isOverlap_144 : decode cX1_isOverlap 144 = .ok (.iload_n 3, 1) := by decide +kernel
theorem dX1_isOverlap_145 : decode cX1_isOverlap 145 = .ok (.isub, 1) := by decide +kernel
theorem dX1_isOverlap_146 : decode cX1_isOverlap 146 = .ok (.invokevirtual 45, 3) := by decide +kernel
theorem dX1_isOverlap_149 : decode cX1_isOverlap 149 = .ok (.putfield 49, 3) := by decide +kernel
theorem dX1_isOverlap_152 : decode cX1_isOverlap 152 = .ok (.aload_n 1, 1) := by decide +kernel
theorem dX1_isOverlap_153 : decode cX1_isOverlap 153 = .ok (.aload_n 0, 1) := by decide +kernel
theorem dX1_isOverlap_154 : decode cX1_isOverlap 154 = .ok (.getfield 49, 3) := by decide +kernel
theorem dX1_isOverlap_157 : decode cX1_isOverlap 157 = .ok (.aload_n 0, 1) := by decide +kernel
theorem dX1_isOverlap_158 : decode cX1_isOverlap 158 = .ok (.getfield 49, 3) := by decide +kernel
theorem dX1_isOverlap_161 : decode cX1_isOverlap 161 = .ok (.invokestatic 52, 3) := by decide +kernel
theorem dX1_isOverlap_164 : decode cX1_isOverlap 164 = .ok (.aload_n 0, 1) := by decide +kernel
theorem dX1_isOverlap_165 : decode cX1_isOverlap 165 = .ok (.getfield 25, 3) := by decide +kernel
theorem dX1_isOverlap_168 : decode cX1_isOverlap 168 = .ok (.iconst 0, 1) := by decide +kernel
theorem dX1_isOverlap_169 : decode cX1_isOverlap 169 = .ok (.invokevirtual 58, 3) := by decide +kernel
theorem dX1_isOverlap_172 : decode cX1_isOverlap 172 = .ok (.ifCond .eq 33, 3) := by decide +kernel
theorem dX1_isOverlap_175 : decode cX1_isOverlap 175 = .ok (.aload_n 1, 1) := by decide +kernel
theorem dX1_isOverlap_176 : decode cX1_isOverlap 176 = .ok (.aload_n 0, 1) := by decide +kernel
theorem dX1_isOverlap_177 : decode cX1_isOverlap 177 = .ok (.getfield 49, 3) := by decide +kernel
theorem dX1_isOverlap_180 : decode cX1_isOverlap 180 = .ok (.aload_n 0, 1) := by decide +kernel
theorem dX1_isOverlap_181 : decode cX1_isOverlap 181 = .ok (.getfield 49, 3) := by decide +kernel
theorem dX1_isOverlap_184 : decode cX1_isOverlap 184 = .ok (.invokestatic 52, 3) := by decide +kernel
theorem dX1_isOverlap_187 : decode cX1_isOverlap 187 = .ok (.aload_n 0, 1) := by decide +kernel
theorem dX1_isOverlap_188 : decode cX1_isOverlap 188 = .ok (.getfield 29, 3) := by decide +kernel
theorem dX1_isOverlap_191 : decode cX1_isOverlap 191 = .ok (.aload_n 0, 1) := by decide +kernel
theorem dX1_isOverlap_192 : decode cX1_isOverlap 192 = .ok (.getfield 32, 3) := by decide +kernel
theorem dX1_isOverlap_195 : decode cX1_isOverlap 195 = .ok (.invokevirtual 58, 3) := by decide +kernel
theorem dX1_isOverlap_198 : decode cX1_isOverlap 198 = .ok (.ifCond .eq 7, 3) := by decide +kernel
theorem dX1_isOverlap_201 : decode cX1_isOverlap 201 = .ok (.iconst 1, 1) := by decide +kernel
theorem dX1_isOverlap_202 : decode cX1_isOverlap 202 = .ok (.goto 4, 3) := by decide +kernel
theorem dX1_isOverlap_205 : decode cX1_isOverlap 205 = .ok (.iconst 0, 1) := by decide +kernel
theorem dX1_isOverlap_206 : decode cX1_isOverlap 206 = .ok (.ireturn, 1) := by decide +kernel
set_option maxRecDepth 20000 in
theorem ggX1_coveredWord_X9_lastBits : GoodIn wsX1_coveredWord wsX9_lastBits := goodIn_r _ [5] (by decide +kernel) (by decide +kernel)
set_option maxRecDepth 20000 in
theorem gX1_coveredWord_X9_lastBits_n65 : GoodIn wsX1_coveredWord (wsX9_lastBits) := ggX1_coveredWord_X9_lastBits
theorem dX1_coveredWord_0 : decode cX1_coveredWord 0 = .ok (.aload_n 1, 1) := by decide +kernel
theorem dX1_coveredWord_1 : decode cX1_coveredWord 1 = .ok (.getfield 62, 3) := by decide +kernel
theorem dX1_coveredWord_4 : decode cX1_coveredWord 4 = .ok (.aload_n 0, 1) := by decide +kernel
theorem dX1_coveredWord_5 : decode cX1_coveredWord 5 = .ok (.getfield 25, 3) := by decide +kernel
theorem dX1_coveredWord_8 : decode cX1_coveredWord 8 = .ok (.iaload, 1) := by decide +kernel
theorem dX1_coveredWord_9 : decode cX1_coveredWord 9 = .ok (.istore_n 3, 1) := by decide +kernel
theorem dX1_coveredWord_10 : decode cX1_coveredWord 10 = .ok (.iload_n 2, 1) := by decide +kernel
theorem dX1_coveredWord_11 : decode cX1_coveredWord 11 = .ok (.ifCond .gt 5, 3) := by decide +kernel
theorem dX1_coveredWord_14 : decode cX1_coveredWord 14 = .ok (.iload_n 3, 1) := by decide +kernel
theorem dX1_coveredWord_15 : decode cX1_coveredWord 15 = .ok (.ireturn, 1) := by decide +kernel
theorem dX1_coveredWord_16 : decode cX1_coveredWord 16 = .ok (.iload_n 3, 1) := by decide +kernel
theorem dX1_coveredWord_17 : decode cX1_coveredWord 17 = .ok (.iconst 2, 1) := by decide +kernel
theorem dX1_coveredWord_18 : decode cX1_coveredWord 18 = .ok (.iload_n 2, 1) := by decide +kernel
theorem dX1_coveredWord_19 : decode cX1_coveredWord 19 = .ok (.imul, 1) := by decide +kernel
theorem dX1_coveredWord_20 : decode cX1_coveredWord 20 = .ok (.ishl, 1) := by decide +kernel
theorem dX1_coveredWord_21 : decode cX1_coveredWord 21 = .ok (.aload_n 1, 1) := by decide +kernel
theorem dX1_coveredWord_22 : decode cX1_coveredWord 22 = .ok (.getfield 62, 3) := by decide +kernel
theorem dX1_coveredWord_25 : decode cX1_coveredWord 25 = .ok (.aload_n 0, 1) := by decide +kernel
theorem dX1_coveredWord_26 : decode cX1_coveredWord 26 = .ok (.getfield 29, 3) := by decide +kernel
theorem dX1_coveredWord_29 : decode cX1_coveredWord 29 = .ok (.iaload, 1) := by decide +kernel
theorem dX1_coveredWord_30 : decode cX1_coveredWord 30 = .ok (.iload_n 2, 1) := by decide +kernel
theorem dX1_coveredWord_31 : decode cX1_coveredWord 31 = .ok (.invokestatic 65, 3) := by decide +kernel
theorem dX1_coveredWord_34 : decode cX1_coveredWord 34 = .ok (.ior, 1) := by decide +kernel
theorem dX1_coveredWord_35 : decode cX1_coveredWord 35 = .ok (.ireturn, 1) := by decide +kernel
set_option maxRecDepth 20000 in
theorem ggX1_firstWord_X4_applied : GoodIn wsX1_firstWord wsX4_applied := goodIn_r _ [6, 7, 8, 9, 10, 11, 12, 13, 14, 21, 22, 23, 24, 25, 26] (by decide +kernel) (by decide +kernel)
set_option maxRecDepth 20000 in
theorem gX1_firstWord_X4_applied_n69 : GoodIn wsX1_firstWord (wsX4_applied) := ggX1_firstWord_X4_applied
theorem dX1_firstWord_0 : decode cX1_firstWord 0 = .ok (.aload_n 1, 1) := by decide +kernel
theorem dX1_firstWord_1 : decode cX1_firstWord 1 = .ok (.aload_n 0, 1) := by decide +kernel
theorem dX1_firstWord_2 : decode cX1_firstWord 2 = .ok (.getfield 49, 3) := by decide +kernel
theorem dX1_firstWord_5 : decode cX1_firstWord 5 = .ok (.aload_n 0, 1) := by decide +kernel
theorem dX1_firstWord_6 : decode cX1_firstWord 6 = .ok (.getfield 25, 3) := by decide +kernel
theorem dX1_firstWord_9 : decode cX1_firstWord 9 = .ok (.iconst 0, 1) := by decide +kernel
theorem dX1_firstWord_10 : decode cX1_firstWord 10 = .ok (.invokevirtual 69, 3) := by decide +kernel
theorem dX1_firstWord_13 : decode cX1_firstWord 13 = .ok (.ireturn, 1) := by decide +kernel
set_option maxRecDepth 20000 in
theorem ggX1_secondWord_X4_applied : GoodIn wsX1_secondWord wsX4_applied := goodIn_r _ [7, 8, 9, 10, 11, 12, 13, 14, 15, 22, 23, 24, 25, 26, 27] (by decide +kernel) (by decide +kernel)
set_option maxRecDepth 20000 in
theorem gX1_secondWord_X4_applied_n69 : GoodIn wsX1_secondWord (wsX4_applied) := ggX1_secondWord_X4_applied
theorem dX1_secondWord_0 : decode cX1_secondWord 0 = .ok (.aload_n 1, 1) := by decide +kernel
theorem dX1_secondWord_1 : decode cX1_secondWord 1 = .ok (.aload_n 0, 1) := by decide +kernel
theorem dX1_secondWord_2 : decode cX1_secondWord 2 = .ok (.getfield 49, 3) := by decide +kernel
theorem dX1_secondWord_5 : decode cX1_secondWord 5 = .ok (.aload_n 0, 1) := by decide +kernel
theorem dX1_secondWord_6 : decode cX1_secondWord 6 = .ok (.getfield 29, 3) := by decide +kernel
theorem dX1_secondWord_9 : decode cX1_secondWord 9 = .ok (.aload_n 0, 1) := by decide +kernel
theorem dX1_secondWord_10 : decode cX1_secondWord 10 = .ok (.getfield 32, 3) := by decide +kernel
theorem dX1_secondWord_13 : decode cX1_secondWord 13 = .ok (.invokevirtual 69, 3) := by decide +kernel
theorem dX1_secondWord_16 : decode cX1_secondWord 16 = .ok (.ireturn, 1) := by decide +kernel
set_option maxRecDepth 20000 in
theorem ggX1_verdict_X1_firstWord : GoodIn wsX1_verdict wsX1_firstWord := goodIn_r _ [7, 8, 9, 10, 11, 12, 13, 14, 15, 16, 17, 18, 19, 20, 21, 68, 69, 70, 71, 72, 73, 74, 75, 76, 77, 78, 79] (by decide +kernel) (by decide +kernel)
set_option maxRecDepth 20000 in
theorem gX1_verdict_X1_firstWord : GoodIn wsX1_verdict (wsV RX1 76 RX1 yX1_firstWord wsX1_firstWord) := goodIn_app (goodIn_of _ (by decide +kernel)) ggX1_verdict_X1_firstWord
set_option maxRecDepth 20000 in
theorem ggX1_verdict_X3_run : GoodIn wsX1_verdict wsX3_run := goodIn_r _ [25, 26, 27, 28, 29, 30, 31, 32, 33, 23, 34, 35, 11, 36, 37, 38, 17, 18, 19, 39, 40, 41, 42, 16, 43, 44, 45, 46, 47, 10, 12, 13, 14, 15, 20, 21, 63, 64, 65, 66, 67, 74, 75, 76, 77, 78, 79] (by decide +kernel) (by decide +kernel)
set_option maxRecDepth 20000 in
theorem gX1_verdict_X3_run_n80 : GoodIn wsX1_verdict (wsX3_run) := ggX1_verdict_X3_run
set_option maxRecDepth 20000 in
theorem ggX1_verdict_X3_last : GoodIn wsX1_verdict wsX3_last := goodIn_r _ [50, 26, 27, 63, 64, 65, 66, 67] (by decide +kernel) (by decide +kernel)
set_option maxRecDepth 20000 in
theorem gX1_verdict_X3_last_n89 : GoodIn wsX1_verdict (wsX3_last) := ggX1_verdict_X3_last
set_option maxRecDepth 20000 in
theorem ggX1_verdict_X1_secondWord : GoodIn wsX1_verdict wsX1_secondWord := goodIn_r _ [54, 8, 55, 56, 10, 11, 12, 13, 14, 15, 16, 17, 18, 19, 20, 21, 68, 69, 70, 71, 72, 73, 74, 75, 76, 77, 78, 79] (by decide +kernel) (by decide +kernel)
set_option maxRecDepth 20000 in
theorem gX1_verdict_X1_secondWord : GoodIn wsX1_verdict (wsV RX1 96 RX1 yX1_secondWord wsX1_secondWord) := goodIn_app (goodIn_of _ (by decide +kernel)) ggX1_verdict_X1_secondWord
theorem dX1_verdict_0 : decode cX1_verdict 0 = .ok (.aload_n 2, 1) := by decide +kernel
theorem dX1_verdict_1 : decode cX1_verdict 1 = .ok (.aload_n 1, 1) := by decide +kernel
theorem dX1_verdict_2 : decode cX1_verdict 2 = .ok (.getfield 15, 3) := by decide +kernel
theorem dX1_verdict_5 : decode cX1_verdict 5 = .ok (.aload_n 1, 1) := by decide +kernel
theorem dX1_verdict_6 : decode cX1_verdict 6 = .ok (.getfield 73, 3) := by decide +kernel
theorem dX1_verdict_9 : decode cX1_verdict 9 = .ok (.aload_n 0, 1) := by decide +kernel
theorem dX1_verdict_10 : decode cX1_verdict 10 = .ok (.aload_n 1, 1) := by decide +kernel
theorem dX1_verdict_11 : decode cX1_verdict 11 = .ok (.getfield 15, 3) := by decide +kernel
theorem dX1_verdict_14 : decode cX1_verdict 14 = .ok (.invokevirtual 76, 3) := by decide +kernel
theorem dX1_verdict_17 : decode cX1_verdict 17 = .ok (.invokevirtual 80, 3) := by decide +kernel
theorem dX1_verdict_20 : decode cX1_verdict 20 = .ok (.aload_n 2, 1) := by decide +kernel
theorem dX1_verdict_21 : decode cX1_verdict 21 = .ok (.getfield 86, 3) := by decide +kernel
theorem dX1_verdict_24 : decode cX1_verdict 24 = .ok (.ifCond .eq 5, 3) := by decide +kernel
theorem dX1_verdict_27 : decode cX1_verdict 27 = .ok (.iconst 2, 1) := by decide +kernel
theorem dX1_verdict_28 : decode cX1_verdict 28 = .ok (.ireturn, 1) := by decide +kernel
theorem dX1_verdict_29 : decode cX1_verdict 29 = .ok (.aload_n 0, 1) := by decide +kernel
theorem dX1_verdict_30 : decode cX1_verdict 30 = .ok (.aload_n 2, 1) := by decide +kernel
theorem dX1_verdict_31 : decode cX1_verdict 31 = .ok (.invokevirtual 89, 3) := by decide +kernel
theorem dX1_verdict_34 : decode cX1_verdict 34 = .ok (.putfield 93, 3) := by decide +kernel
theorem dX1_verdict_37 : decode cX1_verdict 37 = .ok (.aload_n 2, 1) := by decide +kernel
theorem dX1_verdict_38 : decode cX1_verdict 38 = .ok (.aload_n 1, 1) := by decide +kernel
theorem dX1_verdict_39 : decode cX1_verdict 39 = .ok (.getfield 15, 3) := by decide +kernel
theorem dX1_verdict_42 : decode cX1_verdict 42 = .ok (.aload_n 1, 1) := by decide +kernel
theorem dX1_verdict_43 : decode cX1_verdict 43 = .ok (.getfield 73, 3) := by decide +kernel
theorem dX1_verdict_46 : decode cX1_verdict 46 = .ok (.aload_n 0, 1) := by decide +kernel
theorem dX1_verdict_47 : decode cX1_verdict 47 = .ok (.aload_n 1, 1) := by decide +kernel
theorem dX1_verdict_48 : decode cX1_verdict 48 = .ok (.getfield 15, 3) := by decide +kernel
theorem dX1_verdict_51 : decode cX1_verdict 51 = .ok (.invokevirtual 96, 3) := by decide +kernel
theorem dX1_verdict_54 : decode cX1_verdict 54 = .ok (.invokevirtual 80, 3) := by decide +kernel
theorem dX1_verdict_57 : decode cX1_verdict 57 = .ok (.aload_n 2, 1) := by decide +kernel
theorem dX1_verdict_58 : decode cX1_verdict 58 = .ok (.getfield 86, 3) := by decide +kernel
theorem dX1_verdict_61 : decode cX1_verdict 61 = .ok (.ifCond .eq 5, 3) := by decide +kernel
theorem dX1_verdict_64 : decode cX1_verdict 64 = .ok (.iconst 2, 1) := by decide +kernel
theorem dX1_verdict_65 : decode cX1_verdict 65 = .ok (.ireturn, 1) := by decide +kernel
theorem dX1_verdict_66 : decode cX1_verdict 66 = .ok (.aload_n 0, 1) := by decide +kernel
theorem dX1_verdict_67 : decode cX1_verdict 67 = .ok (.aload_n 2, 1) := by decide +kernel
theorem dX1_verdict_68 : decode cX1_verdict 68 = .ok (.invokevirtual 89, 3) := by decide +kernel
theorem dX1_verdict_71 : decode cX1_verdict 71 = .ok (.putfield 99, 3) := by decide +kernel
theorem dX1_verdict_74 : decode cX1_verdict 74 = .ok (.aload_n 0, 1) := by decide +kernel
theorem dX1_verdict_75 : decode cX1_verdict 75 = .ok (.getfield 93, 3) := by decide +kernel
theorem dX1_verdict_78 : decode cX1_verdict 78 = .ok (.aload_n 0, 1) := by decide +kernel
theorem dX1_verdict_79 : decode cX1_verdict 79 = .ok (.getfield 99, 3) := by decide +kernel
theorem dX1_verdict_82 : decode cX1_verdict 82 = .ok (.if_icmp .ne 7, 3) := by decide +kernel
theorem dX1_verdict_85 : decode cX1_verdict 85 = .ok (.iconst 0, 1) := by decide +kernel
theorem dX1_verdict_86 : decode cX1_verdict 86 = .ok (.goto 4, 3) := by decide +kernel
theorem dX1_verdict_89 : decode cX1_verdict 89 = .ok (.iconst 1, 1) := by decide +kernel
theorem dX1_verdict_90 : decode cX1_verdict 90 = .ok (.ireturn, 1) := by decide +kernel
theorem dX2_init_0 : decode cX2_init 0 = .ok (.aload_n 0, 1) := by decide +kernel
theorem dX2_init_1 : decode cX2_init 1 = .ok (.invokespecial 3, 3) := by decide +kernel
theorem dX2_init_4 : decode cX2_init 4 = .ok (.aload_n 0, 1) := by decide +kernel
theorem dX2_init_5 : decode cX2_init 5 = .ok (.sipush 400, 3) := by decide +kernel
theorem dX2_init_8 : decode cX2_init 8 = .ok (.newarray .int, 2) := by decide +kernel
theorem dX2_init_10 : decode cX2_init 10 = .ok (.putfield 9, 3) := by decide +kernel
theorem dX2_init_13 : decode cX2_init 13 = .ok (.aload_n 0, 1) := by decide +kernel
theorem dX2_init_14 : decode cX2_init 14 = .ok (.sipush 1024, 3) := by decide +kernel
theorem dX2_init_17 : decode cX2_init 17 = .ok (.newarray .int, 2) := by decide +kernel
theorem dX2_init_19 : decode cX2_init 19 = .ok (.putfield 15, 3) := by decide +kernel
theorem dX2_init_22 : decode cX2_init 22 = .ok (.return_, 1) := by decide +kernel
set_option maxRecDepth 20000 in
theorem ggX2_run_J7_fill_53178 : GoodIn wsX2_run wsJ7_fill_53178 := goodIn_r _ [9] (by decide +kernel) (by decide +kernel)
set_option maxRecDepth 20000 in
theorem gX2_run_J7_fill_53178 : GoodIn wsX2_run (va_wsS RX2 18 yJ7_fill_53178 wsJ7_fill_53178) := goodIn_app (goodIn_of _ (by decide +kernel)) ggX2_run_J7_fill_53178
set_option maxRecDepth 20000 in
theorem ggX2_run_X2_add : GoodIn wsX2_run wsX2_add := goodIn_r _ [14, 15, 1, 2, 3, 5, 49, 50, 51, 52, 53, 54, 55] (by decide +kernel) (by decide +kernel)
set_option maxRecDepth 20000 in
theorem gX2_run_X2_add : GoodIn wsX2_run (wsV RX2 35 RX2 yX2_add wsX2_add) := goodIn_app (goodIn_of _ (by decide +kernel)) ggX2_run_X2_add
set_option maxRecDepth 20000 in
theorem ggX2_run_X2_addAllFrom : GoodIn wsX2_run wsX2_addAllFrom := goodIn_r _ [19, 20, 21, 22, 23, 24, 25, 26, 27, 28, 29, 30, 31, 32, 33, 34, 35, 10, 11, 12, 13, 14, 15, 1, 2, 3, 5, 36, 37, 38, 39, 4, 40, 41, 42, 43, 44, 45, 46, 47, 48, 56, 57, 58, 59, 60, 61, 49, 50, 51, 52, 53, 54, 55] (by decide +kernel) (by decide +kernel)
set_option maxRecDepth 20000 in
theorem gX2_run_X2_addAllFrom : GoodIn wsX2_run (wsV RX2 39 RX2 yX2_addAllFrom wsX2_addAllFrom) := goodIn_app (goodIn_of _ (by decide +kernel)) ggX2_run_X2_addAllFrom
theorem dX2_run_0 : decode cX2_run 0 = .ok (.aload_n 0, 1) := by decide +kernel
theorem dX2_run_1 : decode cX2_run 1 = .ok (.getfield 15, 3) := by decide +kernel
theorem dX2_run_4 : decode cX2_run 4 = .ok (.iconst 0, 1) := by decide +kernel
theorem dX2_run_5 : decode cX2_run 5 = .ok (.invokestatic 18, 3) := by decide +kernel
theorem dX2_run_8 : decode cX2_run 8 = .ok (.aload_n 0, 1) := by decide +kernel
theorem dX2_run_9 : decode cX2_run 9 = .ok (.iconst 0, 1) := by decide +kernel
theorem dX2_run_10 : decode cX2_run 10 = .ok (.putfield 24, 3) := by decide +kernel
theorem dX2_run_13 : decode cX2_run 13 = .ok (.aload_n 0, 1) := by decide +kernel
theorem dX2_run_14 : decode cX2_run 14 = .ok (.iconst 0, 1) := by decide +kernel
theorem dX2_run_15 : decode cX2_run 15 = .ok (.putfield 28, 3) := by decide +kernel
theorem dX2_run_18 : decode cX2_run 18 = .ok (.aload_n 0, 1) := by decide +kernel
theorem dX2_run_19 : decode cX2_run 19 = .ok (.iconst 0, 1) := by decide +kernel
theorem dX2_run_20 : decode cX2_run 20 = .ok (.putfield 32, 3) := by decide +kernel
theorem dX2_run_23 : decode cX2_run 23 = .ok (.aload_n 0, 1) := by decide +kernel
theorem dX2_run_24 : decode cX2_run 24 = .ok (.iload_n 2, 1) := by decide +kernel
theorem dX2_run_25 : decode cX2_run 25 = .ok (.invokevirtual 35, 3) := by decide +kernel
theorem dX2_run_28 : decode cX2_run 28 = .ok (.iconst 0, 1) := by decide +kernel
theorem dX2_run_29 : decode cX2_run 29 = .ok (.istore_n 3, 1) := by decide +kernel
theorem dX2_run_30 : decode cX2_run 30 = .ok (.iload_n 3, 1) := by decide +kernel
theorem dX2_run_31 : decode cX2_run 31 = .ok (.aload_n 0, 1) := by decide +kernel
theorem dX2_run_32 : decode cX2_run 32 = .ok (.getfield 24, 3) := by decide +kernel
theorem dX2_run_35 : decode cX2_run 35 = .ok (.if_icmp .ge 34, 3) := by decide +kernel
theorem dX2_run_38 : decode cX2_run 38 = .ok (.iload_n 3, 1) := by decide +kernel
theorem dX2_run_39 : decode cX2_run 39 = .ok (.sipush 400, 3) := by decide +kernel
theorem dX2_run_42 : decode cX2_run 42 = .ok (.if_icmp .ge 27, 3) := by decide +kernel
theorem dX2_run_45 : decode cX2_run 45 = .ok (.aload_n 0, 1) := by decide +kernel
theorem dX2_run_46 : decode cX2_run 46 = .ok (.getfield 28, 3) := by decide +kernel
theorem dX2_run_49 : decode cX2_run 49 = .ok (.ifCond .ne 20, 3) := by decide +kernel
theorem dX2_run_52 : decode cX2_run 52 = .ok (.aload_n 0, 1) := by decide +kernel
theorem dX2_run_53 : decode cX2_run 53 = .ok (.aload_n 0, 1) := by decide +kernel
theorem dX2_run_54 : decode cX2_run 54 = .ok (.getfield 9, 3) := by decide +kernel
theorem dX2_run_57 : decode cX2_run 57 = .ok (.iload_n 3, 1) := by decide +kernel
theorem dX2_run_58 : decode cX2_run 58 = .ok (.iaload, 1) := by decide +kernel
theorem dX2_run_59 : decode cX2_run 59 = .ok (.aload_n 1, 1) := by decide +kernel
theorem dX2_run_60 : decode cX2_run 60 = .ok (.invokevirtual 39, 3) := by decide +kernel
theorem dX2_run_63 : decode cX2_run 63 = .ok (.iinc 3 1, 3) := by decide +kernel
theorem dX2_run_66 : decode cX2_run 66 = .ok (.goto (-36), 3) := by decide +kernel
theorem dX2_run_69 : decode cX2_run 69 = .ok (.return_, 1) := by decide +kernel
set_option maxRecDepth 20000 in
theorem ggX2_addAllFrom_X9_lengthOf : GoodIn wsX2_addAllFrom wsX9_lengthOf := goodIn_r _ [3] (by decide +kernel) (by decide +kernel)
set_option maxRecDepth 20000 in
theorem gX2_addAllFrom_X9_lengthOf_n43 : GoodIn wsX2_addAllFrom (wsX9_lengthOf) := ggX2_addAllFrom_X9_lengthOf
set_option maxRecDepth 20000 in
theorem ggX2_addAllFrom_X4_appliesAt : GoodIn wsX2_addAllFrom wsX4_appliesAt := goodIn_r _ [7, 8, 9, 41, 42, 43, 44, 45, 46] (by decide +kernel) (by decide +kernel)
set_option maxRecDepth 20000 in
theorem gX2_addAllFrom_X4_appliesAt_n52 : GoodIn wsX2_addAllFrom (wsX4_appliesAt) := ggX2_addAllFrom_X4_appliesAt
set_option maxRecDepth 20000 in
theorem ggX2_addAllFrom_X4_applied : GoodIn wsX2_addAllFrom wsX4_applied := goodIn_r _ [12, 13, 14, 8, 1, 2, 3, 15, 16, 41, 42, 43, 44, 45, 46] (by decide +kernel) (by decide +kernel)
set_option maxRecDepth 20000 in
theorem gX2_addAllFrom_X4_applied_n56 : GoodIn wsX2_addAllFrom (wsX4_applied) := ggX2_addAllFrom_X4_applied
set_option maxRecDepth 20000 in
theorem ggX2_addAllFrom_X2_add : GoodIn wsX2_addAllFrom wsX2_add := goodIn_r _ [21, 22, 23, 24, 25, 26, 47, 48, 49, 50, 51, 52, 53] (by decide +kernel) (by decide +kernel)
set_option maxRecDepth 20000 in
theorem gX2_addAllFrom_X2_add : GoodIn wsX2_addAllFrom (wsV RX2 35 RX2 yX2_add wsX2_add) := goodIn_app (goodIn_of _ (by decide +kernel)) ggX2_addAllFrom_X2_add
set_option maxRecDepth 20000 in
theorem ggX2_addAllFrom_X2_addEnd : GoodIn wsX2_addAllFrom wsX2_addEnd := goodIn_r _ [30, 31, 32, 33, 34, 35, 36, 37, 38, 39, 40, 47, 48, 49, 50, 51, 52, 53] (by decide +kernel) (by decide +kernel)
set_option maxRecDepth 20000 in
theorem gX2_addAllFrom_X2_addEnd : GoodIn wsX2_addAllFrom (wsV RX2 60 RX2 yX2_addEnd wsX2_addEnd) := goodIn_app (goodIn_of _ (by decide +kernel)) ggX2_addAllFrom_X2_addEnd
theorem dX2_addAllFrom_0 : decode cX2_addAllFrom 0 = .ok (.iload_n 1, 1) := by decide +kernel
theorem dX2_addAllFrom_1 : decode cX2_addAllFrom 1 = .ok (.invokestatic 43, 3) := by decide +kernel
theorem dX2_addAllFrom_4 : decode cX2_addAllFrom 4 = .ok (.istore_n 3, 1) := by decide +kernel
theorem dX2_addAllFrom_5 : decode cX2_addAllFrom 5 = .ok (.iconst 1, 1) := by decide +kernel
theorem dX2_addAllFrom_6 : decode cX2_addAllFrom 6 = .ok (.istore 4, 2) := by decide +kernel
theorem dX2_addAllFrom_8 : decode cX2_addAllFrom 8 = .ok (.iconst 0, 1) := by decide +kernel
theorem dX2_addAllFrom_9 : decode cX2_addAllFrom 9 = .ok (.istore 5, 2) := by decide +kernel
theorem dX2_addAllFrom_11 : decode cX2_addAllFrom 11 = .ok (.iload 5, 2) := by decide +kernel
theorem dX2_addAllFrom_13 : decode cX2_addAllFrom 13 = .ok (.iload_n 3, 1) := by decide +kernel
theorem dX2_addAllFrom_14 : decode cX2_addAllFrom 14 = .ok (.if_icmp .ge 56, 3) := by decide +kernel
theorem dX2_addAllFrom_17 : decode cX2_addAllFrom 17 = .ok (.iconst 0, 1) := by decide +kernel
theorem dX2_addAllFrom_18 : decode cX2_addAllFrom 18 = .ok (.istore 6, 2) := by decide +kernel
theorem dX2_addAllFrom_20 : decode cX2_addAllFrom 20 = .ok (.iload 6, 2) := by decide +kernel
theorem dX2_addAllFrom_22 : decode cX2_addAllFrom 22 = .ok (.aload_n 2, 1) := by decide +kernel
theorem dX2_addAllFrom_23 : decode cX2_addAllFrom 23 = .ok (.getfield 49, 3) := by decide +kernel
theorem dX2_addAllFrom_26 : decode cX2_addAllFrom 26 = .ok (.if_icmp .ge 38, 3) := by decide +kernel
theorem dX2_addAllFrom_29 : decode cX2_addAllFrom 29 = .ok (.aload_n 2, 1) := by decide +kernel
theorem dX2_addAllFrom_30 : decode cX2_addAllFrom 30 = .ok (.iload_n 1, 1) := by decide +kernel
theorem dX2_addAllFrom_31 : decode cX2_addAllFrom 31 = .ok (.iload_n 3, 1) := by decide +kernel
theorem dX2_addAllFrom_32 : decode cX2_addAllFrom 32 = .ok (.iload 6, 2) := by decide +kernel
theorem dX2_addAllFrom_34 : decode cX2_addAllFrom 34 = .ok (.iload 5, 2) := by decide +kernel
theorem dX2_addAllFrom_36 : decode cX2_addAllFrom 36 = .ok (.invokevirtual 52, 3) := by decide +kernel
theorem dX2_addAllFrom_39 : decode cX2_addAllFrom 39 = .ok (.ifCond .eq 19, 3) := by decide +kernel
theorem dX2_addAllFrom_42 : decode cX2_addAllFrom 42 = .ok (.iconst 0, 1) := by decide +kernel
theorem dX2_addAllFrom_43 : decode cX2_addAllFrom 43 = .ok (.istore 4, 2) := by decide +kernel
theorem dX2_addAllFrom_45 : decode cX2_addAllFrom 45 = .ok (.aload_n 0, 1) := by decide +kernel
theorem dX2_addAllFrom_46 : decode cX2_addAllFrom 46 = .ok (.aload_n 2, 1) := by decide +kernel
theorem dX2_addAllFrom_47 : decode cX2_addAllFrom 47 = .ok (.iload_n 1, 1) := by decide +kernel
theorem dX2_addAllFrom_48 : decode cX2_addAllFrom 48 = .ok (.iload 6, 2) := by decide +kernel
theorem dX2_addAllFrom_50 : decode cX2_addAllFrom 50 = .ok (.iload 5, 2) := by decide +kernel
theorem dX2_addAllFrom_52 : decode cX2_addAllFrom 52 = .ok (.invokevirtual 56, 3) := by decide +kernel
theorem dX2_addAllFrom_55 : decode cX2_addAllFrom 55 = .ok (.invokevirtual 35, 3) := by decide +kernel
theorem dX2_addAllFrom_58 : decode cX2_addAllFrom 58 = .ok (.iinc 6 1, 3) := by decide +kernel
theorem dX2_addAllFrom_61 : decode cX2_addAllFrom 61 = .ok (.goto (-41), 3) := by decide +kernel
theorem dX2_addAllFrom_64 : decode cX2_addAllFrom 64 = .ok (.iinc 5 1, 3) := by decide +kernel
theorem dX2_addAllFrom_67 : decode cX2_addAllFrom 67 = .ok (.goto (-56), 3) := by decide +kernel
theorem dX2_addAllFrom_70 : decode cX2_addAllFrom 70 = .ok (.iload 4, 2) := by decide +kernel
theorem dX2_addAllFrom_72 : decode cX2_addAllFrom 72 = .ok (.ifCond .eq 8, 3) := by decide +kernel
theorem dX2_addAllFrom_75 : decode cX2_addAllFrom 75 = .ok (.aload_n 0, 1) := by decide +kernel
theorem dX2_addAllFrom_76 : decode cX2_addAllFrom 76 = .ok (.iload_n 1, 1) := by decide +kernel
theorem dX2_addAllFrom_77 : decode cX2_addAllFrom 77 = .ok (.invokevirtual 60, 3) := by decide +kernel
theorem dX2_addAllFrom_80 : decode cX2_addAllFrom 80 = .ok (.return_, 1) := by decide +kernel
theorem dX2_addEnd_0 : decode cX2_addEnd 0 = .ok (.aload_n 0, 1) := by decide +kernel
theorem dX2_addEnd_1 : decode cX2_addEnd 1 = .ok (.aload_n 0, 1) := by decide +kernel
theorem dX2_addEnd_2 : decode cX2_addEnd 2 = .ok (.getfield 32, 3) := by decide +kernel
theorem dX2_addEnd_5 : decode cX2_addEnd 5 = .ok (.ifCond .ne 7, 3) := by decide +kernel
theorem dX2_addEnd_8 : decode cX2_addEnd 8 = .ok (.iload_n 1, 1) := by decide +kernel
theorem dX2_addEnd_9 : decode cX2_addEnd 9 = .ok (.goto 11, 3) := by decide +kernel
theorem dX2_addEnd_12 : decode cX2_addEnd 12 = .ok (.aload_n 0, 1) := by decide +kernel
theorem dX2_addEnd_13 : decode cX2_addEnd 13 = .ok (.getfield 63, 3) := by decide +kernel
theorem dX2_addEnd_16 : decode cX2_addEnd 16 = .ok (.iload_n 1, 1) := by decide +kernel
theorem dX2_addEnd_17 : decode cX2_addEnd 17 = .ok (.invokestatic 66, 3) := by decide +kernel
theorem dX2_addEnd_20 : decode cX2_addEnd 20 = .ok (.putfield 63, 3) := by decide +kernel
theorem dX2_addEnd_23 : decode cX2_addEnd 23 = .ok (.aload_n 0, 1) := by decide +kernel
theorem dX2_addEnd_24 : decode cX2_addEnd 24 = .ok (.aload_n 0, 1) := by decide +kernel
theorem dX2_addEnd_25 : decode cX2_addEnd 25 = .ok (.getfield 32, 3) := by decide +kernel
theorem dX2_addEnd_28 : decode cX2_addEnd 28 = .ok (.ifCond .ne 7, 3) := by decide +kernel
theorem dX2_addEnd_31 : decode cX2_addEnd 31 = .ok (.iload_n 1, 1) := by decide +kernel
theorem dX2_addEnd_32 : decode cX2_addEnd 32 = .ok (.goto 11, 3) := by decide +kernel
theorem dX2_addEnd_35 : decode cX2_addEnd 35 = .ok (.aload_n 0, 1) := by decide +kernel
theorem dX2_addEnd_36 : decode cX2_addEnd 36 = .ok (.getfield 72, 3) := by decide +kernel
theorem dX2_addEnd_39 : decode cX2_addEnd 39 = .ok (.iload_n 1, 1) := by decide +kernel
theorem dX2_addEnd_40 : decode cX2_addEnd 40 = .ok (.invokestatic 75, 3) := by decide +kernel
theorem dX2_addEnd_43 : decode cX2_addEnd 43 = .ok (.putfield 72, 3) := by decide +kernel
theorem dX2_addEnd_46 : decode cX2_addEnd 46 = .ok (.aload_n 0, 1) := by decide +kernel
theorem dX2_addEnd_47 : decode cX2_addEnd 47 = .ok (.dup, 1) := by decide +kernel
theorem dX2_addEnd_48 : decode cX2_addEnd 48 = .ok (.getfield 32, 3) := by decide +kernel
theorem dX2_addEnd_51 : decode cX2_addEnd 51 = .ok (.iconst 1, 1) := by decide +kernel
theorem dX2_addEnd_52 : decode cX2_addEnd 52 = .ok (.iadd, 1) := by decide +kernel
theorem dX2_addEnd_53 : decode cX2_addEnd 53 = .ok (.putfield 32, 3) := by decide +kernel
theorem dX2_addEnd_56 : decode cX2_addEnd 56 = .ok (.return_, 1) := by decide +kernel
theorem dX2_add_0 : decode cX2_add 0 = .ok (.iload_n 1, 1) := by decide +kernel
theorem dX2_add_1 : decode cX2_add 1 = .ok (.ldc 78, 2) := by decide +kernel
theorem dX2_add_3 : decode cX2_add 3 = .ok (.imul, 1) := by decide +kernel
theorem dX2_add_4 : decode cX2_add 4 = .ok (.bipush 22, 2) := by decide +kernel
theorem dX2_add_6 : decode cX2_add 6 = .ok (.iushr, 1) := by decide +kernel
theorem dX2_add_7 : decode cX2_add 7 = .ok (.istore_n 2, 1) := by decide +kernel
theorem dX2_add_8 : decode cX2_add 8 = .ok (.iconst 0, 1) := by decide +kernel
theorem dX2_add_9 : decode cX2_add 9 = .ok (.istore_n 3, 1) := by decide +kernel
theorem dX2_add_10 : decode cX2_add 10 = .ok (.iload_n 3, 1) := by decide +kernel
theorem dX2_add_11 : decode cX2_add 11 = .ok (.sipush 1024, 3) := by decide +kernel
theorem dX2_add_14 : decode cX2_add 14 = .ok (.if_icmp .ge 37, 3) := by decide +kernel
theorem dX2_add_17 : decode cX2_add 17 = .ok (.aload_n 0, 1) := by decide +kernel
theorem dX2_add_18 : decode cX2_add 18 = .ok (.getfield 15, 3) := by decide +kernel
theorem dX2_add_21 : decode cX2_add 21 = .ok (.iload_n 2, 1) := by decide +kernel
theorem dX2_add_22 : decode cX2_add 22 = .ok (.iaload, 1) := by decide +kernel
theorem dX2_add_23 : decode cX2_add 23 = .ok (.ifCond .eq 28, 3) := by decide +kernel
theorem dX2_add_26 : decode cX2_add 26 = .ok (.aload_n 0, 1) := by decide +kernel
theorem dX2_add_27 : decode cX2_add 27 = .ok (.getfield 15, 3) := by decide +kernel
theorem dX2_add_30 : decode cX2_add 30 = .ok (.iload_n 2, 1) := by decide +kernel
theorem dX2_add_31 : decode cX2_add 31 = .ok (.iaload, 1) := by decide +kernel
theorem dX2_add_32 : decode cX2_add 32 = .ok (.iload_n 1, 1) := by decide +kernel
theorem dX2_add_33 : decode cX2_add 33 = .ok (.if_icmp .ne 4, 3) := by decide +kernel
theorem dX2_add_36 : decode cX2_add 36 = .ok (.return_, 1) := by decide +kernel
theorem dX2_add_37 : decode cX2_add 37 = .ok (.iload_n 2, 1) := by decide +kernel
theorem dX2_add_38 : decode cX2_add 38 = .ok (.iconst 1, 1) := by decide +kernel
theorem dX2_add_39 : decode cX2_add 39 = .ok (.iadd, 1) := by decide +kernel
theorem dX2_add_40 : decode cX2_add 40 = .ok (.sipush 1024, 3) := by decide +kernel
theorem dX2_add_43 : decode cX2_add 43 = .ok (.irem, 1) := by decide +kernel
theorem dX2_add_44 : decode cX2_add 44 = .ok (.istore_n 2, 1) := by decide +kernel
theorem dX2_add_45 : decode cX2_add 45 = .ok (.iinc 3 1, 3) := by decide +kernel
theorem dX2_add_48 : decode cX2_add 48 = .ok (.goto (-38), 3) := by decide +kernel
theorem dX2_add_51 : decode cX2_add 51 = .ok (.aload_n 0, 1) := by decide +kernel
theorem dX2_add_52 : decode cX2_add 52 = .ok (.getfield 24, 3) := by decide +kernel
theorem dX2_add_55 : decode cX2_add 55 = .ok (.sipush 400, 3) := by decide +kernel
theorem dX2_add_58 : decode cX2_add 58 = .ok (.if_icmp .ne 9, 3) := by decide +kernel
theorem dX2_add_61 : decode cX2_add 61 = .ok (.aload_n 0, 1) := by decide +kernel
theorem dX2_add_62 : decode cX2_add 62 = .ok (.iconst 1, 1) := by decide +kernel
theorem dX2_add_63 : decode cX2_add 63 = .ok (.putfield 28, 3) := by decide +kernel
theorem dX2_add_66 : decode cX2_add 66 = .ok (.return_, 1) := by decide +kernel
theorem dX2_add_67 : decode cX2_add 67 = .ok (.aload_n 0, 1) := by decide +kernel
theorem dX2_add_68 : decode cX2_add 68 = .ok (.getfield 15, 3) := by decide +kernel
theorem dX2_add_71 : decode cX2_add 71 = .ok (.iload_n 2, 1) := by decide +kernel
theorem dX2_add_72 : decode cX2_add 72 = .ok (.iload_n 1, 1) := by decide +kernel
theorem dX2_add_73 : decode cX2_add 73 = .ok (.iastore, 1) := by decide +kernel
theorem dX2_add_74 : decode cX2_add 74 = .ok (.aload_n 0, 1) := by decide +kernel
theorem dX2_add_75 : decode cX2_add 75 = .ok (.getfield 9, 3) := by decide +kernel
theorem dX2_add_78 : decode cX2_add 78 = .ok (.aload_n 0, 1) := by decide +kernel
theorem dX2_add_79 : decode cX2_add 79 = .ok (.getfield 24, 3) := by decide +kernel
theorem dX2_add_82 : decode cX2_add 82 = .ok (.iload_n 1, 1) := by decide +kernel
theorem dX2_add_83 : decode cX2_add 83 = .ok (.iastore, 1) := by decide +kernel
theorem dX2_add_84 : decode cX2_add 84 = .ok (.aload_n 0, 1) := by decide +kernel
theorem dX2_add_85 : decode cX2_add 85 = .ok (.dup, 1) := by decide +kernel
theorem dX2_add_86 : decode cX2_add 86 = .ok (.getfield 24, 3) := by decide +kernel
theorem dX2_add_89 : decode cX2_add 89 = .ok (.iconst 1, 1) := by decide +kernel
theorem dX2_add_90 : decode cX2_add 90 = .ok (.iadd, 1) := by decide +kernel
theorem dX2_add_91 : decode cX2_add 91 = .ok (.putfield 24, 3) := by decide +kernel
theorem dX2_add_94 : decode cX2_add 94 = .ok (.return_, 1) := by decide +kernel
theorem dX3_init_0 : decode cX3_init 0 = .ok (.aload_n 0, 1) := by decide +kernel
theorem dX3_init_1 : decode cX3_init 1 = .ok (.invokespecial 3, 3) := by decide +kernel
theorem dX3_init_4 : decode cX3_init 4 = .ok (.aload_n 0, 1) := by decide +kernel
theorem dX3_init_5 : decode cX3_init 5 = .ok (.bipush 101, 2) := by decide +kernel
theorem dX3_init_7 : decode cX3_init 7 = .ok (.newarray .int, 2) := by decide +kernel
theorem dX3_init_9 : decode cX3_init 9 = .ok (.putfield 9, 3) := by decide +kernel
theorem dX3_init_12 : decode cX3_init 12 = .ok (.aload_n 0, 1) := by decide +kernel
theorem dX3_init_13 : decode cX3_init 13 = .ok (.bipush 100, 2) := by decide +kernel
theorem dX3_init_15 : decode cX3_init 15 = .ok (.newarray .int, 2) := by decide +kernel
theorem dX3_init_17 : decode cX3_init 17 = .ok (.putfield 15, 3) := by decide +kernel
theorem dX3_init_20 : decode cX3_init 20 = .ok (.return_, 1) := by decide +kernel
set_option maxRecDepth 20000 in
theorem ggX3_run_X3_firstTimeOf : GoodIn wsX3_run wsX3_firstTimeOf := goodIn_r _ [10, 2, 1, 36, 37, 38, 39, 40] (by decide +kernel) (by decide +kernel)
set_option maxRecDepth 20000 in
theorem gX3_run_X3_firstTimeOf : GoodIn wsX3_run (wsV RX3 22 RX3 yX3_firstTimeOf wsX3_firstTimeOf) := goodIn_app (goodIn_of _ (by decide +kernel)) ggX3_run_X3_firstTimeOf
set_option maxRecDepth 20000 in
theorem ggX3_run_X4_choiceFor : GoodIn wsX3_run wsX4_choiceFor := goodIn_r _ [14, 15, 16, 17, 18, 19, 20, 21, 12, 22, 23, 24, 41, 42, 43, 44, 45, 46] (by decide +kernel) (by decide +kernel)
set_option maxRecDepth 20000 in
theorem gX3_run_X4_choiceFor_n32 : GoodIn wsX3_run (wsX4_choiceFor) := ggX3_run_X4_choiceFor
set_option maxRecDepth 20000 in
theorem ggX3_run_X4_ruleIn : GoodIn wsX3_run wsX4_ruleIn := goodIn_r _ [26] (by decide +kernel) (by decide +kernel)
set_option maxRecDepth 20000 in
theorem gX3_run_X4_ruleIn_n38 : GoodIn wsX3_run (wsX4_ruleIn) := ggX3_run_X4_ruleIn
set_option maxRecDepth 20000 in
theorem ggX3_run_X4_placeIn : GoodIn wsX3_run wsX4_placeIn := goodIn_r _ [28] (by decide +kernel) (by decide +kernel)
set_option maxRecDepth 20000 in
theorem gX3_run_X4_placeIn_n41 : GoodIn wsX3_run (wsX4_placeIn) := ggX3_run_X4_placeIn
set_option maxRecDepth 20000 in
theorem ggX3_run_X4_applied : GoodIn wsX3_run wsX4_applied := goodIn_r _ [31, 32, 33, 23, 16, 17, 18, 34, 35, 41, 42, 43, 44, 45, 46] (by decide +kernel) (by decide +kernel)
set_option maxRecDepth 20000 in
theorem gX3_run_X4_applied_n44 : GoodIn wsX3_run (wsX4_applied) := ggX3_run_X4_applied
theorem dX3_run_0 : decode cX3_run 0 = .ok (.aload_n 0, 1) := by decide +kernel
theorem dX3_run_1 : decode cX3_run 1 = .ok (.getfield 9, 3) := by decide +kernel
theorem dX3_run_4 : decode cX3_run 4 = .ok (.iconst 0, 1) := by decide +kernel
theorem dX3_run_5 : decode cX3_run 5 = .ok (.iload_n 3, 1) := by decide +kernel
theorem dX3_run_6 : decode cX3_run 6 = .ok (.iastore, 1) := by decide +kernel
theorem dX3_run_7 : decode cX3_run 7 = .ok (.aload_n 0, 1) := by decide +kernel
theorem dX3_run_8 : decode cX3_run 8 = .ok (.iconst 0, 1) := by decide +kernel
theorem dX3_run_9 : decode cX3_run 9 = .ok (.putfield 18, 3) := by decide +kernel
theorem dX3_run_12 : decode cX3_run 12 = .ok (.aload_n 0, 1) := by decide +kernel
theorem dX3_run_13 : decode cX3_run 13 = .ok (.getfield 18, 3) := by decide +kernel
theorem dX3_run_16 : decode cX3_run 16 = .ok (.bipush 100, 2) := by decide +kernel
theorem dX3_run_18 : decode cX3_run 18 = .ok (.if_icmp .gt 140, 3) := by decide +kernel
theorem dX3_run_21 : decode cX3_run 21 = .ok (.aload_n 0, 1) := by decide +kernel
theorem dX3_run_22 : decode cX3_run 22 = .ok (.aload_n 0, 1) := by decide +kernel
theorem dX3_run_23 : decode cX3_run 23 = .ok (.aload_n 0, 1) := by decide +kernel
theorem dX3_run_24 : decode cX3_run 24 = .ok (.getfield 9, 3) := by decide +kernel
theorem dX3_run_27 : decode cX3_run 27 = .ok (.aload_n 0, 1) := by decide +kernel
theorem dX3_run_28 : decode cX3_run 28 = .ok (.getfield 18, 3) := by decide +kernel
theorem dX3_run_31 : decode cX3_run 31 = .ok (.iaload, 1) := by decide +kernel
theorem dX3_run_32 : decode cX3_run 32 = .ok (.invokevirtual 22, 3) := by decide +kernel
theorem dX3_run_35 : decode cX3_run 35 = .ok (.putfield 26, 3) := by decide +kernel
theorem dX3_run_38 : decode cX3_run 38 = .ok (.aload_n 0, 1) := by decide +kernel
theorem dX3_run_39 : decode cX3_run 39 = .ok (.getfield 26, 3) := by decide +kernel
theorem dX3_run_42 : decode cX3_run 42 = .ok (.aload_n 0, 1) := by decide +kernel
theorem dX3_run_43 : decode cX3_run 43 = .ok (.getfield 18, 3) := by decide +kernel
theorem dX3_run_46 : decode cX3_run 46 = .ok (.if_icmp .ge 9, 3) := by decide +kernel
theorem dX3_run_49 : decode cX3_run 49 = .ok (.aload_n 0, 1) := by decide +kernel
theorem dX3_run_50 : decode cX3_run 50 = .ok (.iconst 1, 1) := by decide +kernel
theorem dX3_run_51 : decode cX3_run 51 = .ok (.putfield 29, 3) := by decide +kernel
theorem dX3_run_54 : decode cX3_run 54 = .ok (.return_, 1) := by decide +kernel
theorem dX3_run_55 : decode cX3_run 55 = .ok (.aload_n 1, 1) := by decide +kernel
theorem dX3_run_56 : decode cX3_run 56 = .ok (.aload_n 0, 1) := by decide +kernel
theorem dX3_run_57 : decode cX3_run 57 = .ok (.getfield 9, 3) := by decide +kernel
theorem dX3_run_60 : decode cX3_run 60 = .ok (.aload_n 0, 1) := by decide +kernel
theorem dX3_run_61 : decode cX3_run 61 = .ok (.getfield 18, 3) := by decide +kernel
theorem dX3_run_64 : decode cX3_run 64 = .ok (.iaload, 1) := by decide +kernel
theorem dX3_run_65 : decode cX3_run 65 = .ok (.iload_n 2, 1) := by decide +kernel
theorem dX3_run_66 : decode cX3_run 66 = .ok (.invokevirtual 32, 3) := by decide +kernel
theorem dX3_run_69 : decode cX3_run 69 = .ok (.istore 4, 2) := by decide +kernel
theorem dX3_run_71 : decode cX3_run 71 = .ok (.iload 4, 2) := by decide +kernel
theorem dX3_run_73 : decode cX3_run 73 = .ok (.ifCond .ge 9, 3) := by decide +kernel
theorem dX3_run_76 : decode cX3_run 76 = .ok (.aload_n 0, 1) := by decide +kernel
theorem dX3_run_77 : decode cX3_run 77 = .ok (.iconst 0, 1) := by decide +kernel
theorem dX3_run_78 : decode cX3_run 78 = .ok (.putfield 29, 3) := by decide +kernel
theorem dX3_run_81 : decode cX3_run 81 = .ok (.return_, 1) := by decide +kernel
theorem dX3_run_82 : decode cX3_run 82 = .ok (.aload_n 0, 1) := by decide +kernel
theorem dX3_run_83 : decode cX3_run 83 = .ok (.getfield 18, 3) := by decide +kernel
theorem dX3_run_86 : decode cX3_run 86 = .ok (.bipush 100, 2) := by decide +kernel
theorem dX3_run_88 : decode cX3_run 88 = .ok (.if_icmp .ne 9, 3) := by decide +kernel
theorem dX3_run_91 : decode cX3_run 91 = .ok (.aload_n 0, 1) := by decide +kernel
theorem dX3_run_92 : decode cX3_run 92 = .ok (.iconst 2, 1) := by decide +kernel
theorem dX3_run_93 : decode cX3_run 93 = .ok (.putfield 29, 3) := by decide +kernel
theorem dX3_run_96 : decode cX3_run 96 = .ok (.return_, 1) := by decide +kernel
theorem dX3_run_97 : decode cX3_run 97 = .ok (.aload_n 0, 1) := by decide +kernel
theorem dX3_run_98 : decode cX3_run 98 = .ok (.getfield 15, 3) := by decide +kernel
theorem dX3_run_101 : decode cX3_run 101 = .ok (.aload_n 0, 1) := by decide +kernel
theorem dX3_run_102 : decode cX3_run 102 = .ok (.getfield 18, 3) := by decide +kernel
theorem dX3_run_105 : decode cX3_run 105 = .ok (.iload 4, 2) := by decide +kernel
theorem dX3_run_107 : decode cX3_run 107 = .ok (.invokestatic 38, 3) := by decide +kernel
theorem dX3_run_110 : decode cX3_run 110 = .ok (.iastore, 1) := by decide +kernel
theorem dX3_run_111 : decode cX3_run 111 = .ok (.aload_n 0, 1) := by decide +kernel
theorem dX3_run_112 : decode cX3_run 112 = .ok (.getfield 9, 3) := by decide +kernel
theorem dX3_run_115 : decode cX3_run 115 = .ok (.aload_n 0, 1) := by decide +kernel
theorem dX3_run_116 : decode cX3_run 116 = .ok (.getfield 18, 3) := by decide +kernel
theorem dX3_run_119 : decode cX3_run 119 = .ok (.iconst 1, 1) := by decide +kernel
theorem dX3_run_120 : decode cX3_run 120 = .ok (.iadd, 1) := by decide +kernel
theorem dX3_run_121 : decode cX3_run 121 = .ok (.aload_n 1, 1) := by decide +kernel
theorem dX3_run_122 : decode cX3_run 122 = .ok (.aload_n 0, 1) := by decide +kernel
theorem dX3_run_123 : decode cX3_run 123 = .ok (.getfield 9, 3) := by decide +kernel
theorem dX3_run_126 : decode cX3_run 126 = .ok (.aload_n 0, 1) := by decide +kernel
theorem dX3_run_127 : decode cX3_run 127 = .ok (.getfield 18, 3) := by decide +kernel
theorem dX3_run_130 : decode cX3_run 130 = .ok (.iaload, 1) := by decide +kernel
theorem dX3_run_131 : decode cX3_run 131 = .ok (.iload 4, 2) := by decide +kernel
theorem dX3_run_133 : decode cX3_run 133 = .ok (.invokestatic 38, 3) := by decide +kernel
theorem dX3_run_136 : decode cX3_run 136 = .ok (.iload 4, 2) := by decide +kernel
theorem dX3_run_138 : decode cX3_run 138 = .ok (.invokestatic 41, 3) := by decide +kernel
theorem dX3_run_141 : decode cX3_run 141 = .ok (.invokevirtual 44, 3) := by decide +kernel
theorem dX3_run_144 : decode cX3_run 144 = .ok (.iastore, 1) := by decide +kernel
theorem dX3_run_145 : decode cX3_run 145 = .ok (.aload_n 0, 1) := by decide +kernel
theorem dX3_run_146 : decode cX3_run 146 = .ok (.dup, 1) := by decide +kernel
theorem dX3_run_147 : decode cX3_run 147 = .ok (.getfield 18, 3) := by decide +kernel
theorem dX3_run_150 : decode cX3_run 150 = .ok (.iconst 1, 1) := by decide +kernel
theorem dX3_run_151 : decode cX3_run 151 = .ok (.iadd, 1) := by decide +kernel
theorem dX3_run_152 : decode cX3_run 152 = .ok (.putfield 18, 3) := by decide +kernel
theorem dX3_run_155 : decode cX3_run 155 = .ok (.goto (-143), 3) := by decide +kernel
theorem dX3_run_158 : decode cX3_run 158 = .ok (.return_, 1) := by decide +kernel
theorem dX3_firstTimeOf_0 : decode cX3_firstTimeOf 0 = .ok (.iconst 0, 1) := by decide +kernel
theorem dX3_firstTimeOf_1 : decode cX3_firstTimeOf 1 = .ok (.istore_n 2, 1) := by decide +kernel
theorem dX3_firstTimeOf_2 : decode cX3_firstTimeOf 2 = .ok (.iload_n 2, 1) := by decide +kernel
theorem dX3_firstTimeOf_3 : decode cX3_firstTimeOf 3 = .ok (.aload_n 0, 1) := by decide +kernel
theorem dX3_firstTimeOf_4 : decode cX3_firstTimeOf 4 = .ok (.getfield 18, 3) := by decide +kernel
theorem dX3_firstTimeOf_7 : decode cX3_firstTimeOf 7 = .ok (.if_icmp .ge 21, 3) := by decide +kernel
theorem dX3_firstTimeOf_10 : decode cX3_firstTimeOf 10 = .ok (.aload_n 0, 1) := by decide +kernel
theorem dX3_firstTimeOf_11 : decode cX3_firstTimeOf 11 = .ok (.getfield 9, 3) := by decide +kernel
theorem dX3_firstTimeOf_14 : decode cX3_firstTimeOf 14 = .ok (.iload_n 2, 1) := by decide +kernel
theorem dX3_firstTimeOf_15 : decode cX3_firstTimeOf 15 = .ok (.iaload, 1) := by decide +kernel
theorem dX3_firstTimeOf_16 : decode cX3_firstTimeOf 16 = .ok (.iload_n 1, 1) := by decide +kernel
theorem dX3_firstTimeOf_17 : decode cX3_firstTimeOf 17 = .ok (.if_icmp .ne 5, 3) := by decide +kernel
theorem dX3_firstTimeOf_20 : decode cX3_firstTimeOf 20 = .ok (.iload_n 2, 1) := by decide +kernel
theorem dX3_firstTimeOf_21 : decode cX3_firstTimeOf 21 = .ok (.ireturn, 1) := by decide +kernel
theorem dX3_firstTimeOf_22 : decode cX3_firstTimeOf 22 = .ok (.iinc 2 1, 3) := by decide +kernel
theorem dX3_firstTimeOf_25 : decode cX3_firstTimeOf 25 = .ok (.goto (-23), 3) := by decide +kernel
theorem dX3_firstTimeOf_28 : decode cX3_firstTimeOf 28 = .ok (.aload_n 0, 1) := by decide +kernel
theorem dX3_firstTimeOf_29 : decode cX3_firstTimeOf 29 = .ok (.getfield 18, 3) := by decide +kernel
theorem dX3_firstTimeOf_32 : decode cX3_firstTimeOf 32 = .ok (.ireturn, 1) := by decide +kernel
theorem dX3_last_0 : decode cX3_last 0 = .ok (.aload_n 0, 1) := by decide +kernel
theorem dX3_last_1 : decode cX3_last 1 = .ok (.getfield 9, 3) := by decide +kernel
theorem dX3_last_4 : decode cX3_last 4 = .ok (.aload_n 0, 1) := by decide +kernel
theorem dX3_last_5 : decode cX3_last 5 = .ok (.getfield 18, 3) := by decide +kernel
theorem dX3_last_8 : decode cX3_last 8 = .ok (.iaload, 1) := by decide +kernel
theorem dX3_last_9 : decode cX3_last 9 = .ok (.ireturn, 1) := by decide +kernel
theorem dX3_countRules_0 : decode cX3_countRules 0 = .ok (.iconst 0, 1) := by decide +kernel
theorem dX3_countRules_1 : decode cX3_countRules 1 = .ok (.istore_n 2, 1) := by decide +kernel
theorem dX3_countRules_2 : decode cX3_countRules 2 = .ok (.iload_n 2, 1) := by decide +kernel
theorem dX3_countRules_3 : decode cX3_countRules 3 = .ok (.aload_n 0, 1) := by decide +kernel
theorem dX3_countRules_4 : decode cX3_countRules 4 = .ok (.getfield 18, 3) := by decide +kernel
theorem dX3_countRules_7 : decode cX3_countRules 7 = .ok (.if_icmp .ge 24, 3) := by decide +kernel
theorem dX3_countRules_10 : decode cX3_countRules 10 = .ok (.aload_n 1, 1) := by decide +kernel
theorem dX3_countRules_11 : decode cX3_countRules 11 = .ok (.getfield 48, 3) := by decide +kernel
theorem dX3_countRules_14 : decode cX3_countRules 14 = .ok (.aload_n 0, 1) := by decide +kernel
theorem dX3_countRules_15 : decode cX3_countRules 15 = .ok (.getfield 15, 3) := by decide +kernel
theorem dX3_countRules_18 : decode cX3_countRules 18 = .ok (.iload_n 2, 1) := by decide +kernel
theorem dX3_countRules_19 : decode cX3_countRules 19 = .ok (.iaload, 1) := by decide +kernel
theorem dX3_countRules_20 : decode cX3_countRules 20 = .ok (.dup2, 1) := by decide +kernel
theorem dX3_countRules_21 : decode cX3_countRules 21 = .ok (.iaload, 1) := by decide +kernel
theorem dX3_countRules_22 : decode cX3_countRules 22 = .ok (.iconst 1, 1) := by decide +kernel
theorem dX3_countRules_23 : decode cX3_countRules 23 = .ok (.iadd, 1) := by decide +kernel
theorem dX3_countRules_24 : decode cX3_countRules 24 = .ok (.iastore, 1) := by decide +kernel
theorem dX3_countRules_25 : decode cX3_countRules 25 = .ok (.iinc 2 1, 3) := by decide +kernel
theorem dX3_countRules_28 : decode cX3_countRules 28 = .ok (.goto (-26), 3) := by decide +kernel
theorem dX3_countRules_31 : decode cX3_countRules 31 = .ok (.return_, 1) := by decide +kernel
theorem dX4_init_0 : decode cX4_init 0 = .ok (.aload_n 0, 1) := by decide +kernel
theorem dX4_init_1 : decode cX4_init 1 = .ok (.invokespecial 3, 3) := by decide +kernel
theorem dX4_init_4 : decode cX4_init 4 = .ok (.aload_n 0, 1) := by decide +kernel
theorem dX4_init_5 : decode cX4_init 5 = .ok (.bipush 10, 2) := by decide +kernel
theorem dX4_init_7 : decode cX4_init 7 = .ok (.newarray .int, 2) := by decide +kernel
theorem dX4_init_9 : decode cX4_init 9 = .ok (.putfield 9, 3) := by decide +kernel
theorem dX4_init_12 : decode cX4_init 12 = .ok (.aload_n 0, 1) := by decide +kernel
theorem dX4_init_13 : decode cX4_init 13 = .ok (.bipush 10, 2) := by decide +kernel
theorem dX4_init_15 : decode cX4_init 15 = .ok (.newarray .int, 2) := by decide +kernel
theorem dX4_init_17 : decode cX4_init 17 = .ok (.putfield 15, 3) := by decide +kernel
theorem dX4_init_20 : decode cX4_init 20 = .ok (.aload_n 0, 1) := by decide +kernel
theorem dX4_init_21 : decode cX4_init 21 = .ok (.bipush 10, 2) := by decide +kernel
theorem dX4_init_23 : decode cX4_init 23 = .ok (.newarray .int, 2) := by decide +kernel
theorem dX4_init_25 : decode cX4_init 25 = .ok (.putfield 18, 3) := by decide +kernel
theorem dX4_init_28 : decode cX4_init 28 = .ok (.aload_n 0, 1) := by decide +kernel
theorem dX4_init_29 : decode cX4_init 29 = .ok (.bipush 10, 2) := by decide +kernel
theorem dX4_init_31 : decode cX4_init 31 = .ok (.newarray .int, 2) := by decide +kernel
theorem dX4_init_33 : decode cX4_init 33 = .ok (.putfield 21, 3) := by decide +kernel
theorem dX4_init_36 : decode cX4_init 36 = .ok (.aload_n 0, 1) := by decide +kernel
theorem dX4_init_37 : decode cX4_init 37 = .ok (.bipush 10, 2) := by decide +kernel
theorem dX4_init_39 : decode cX4_init 39 = .ok (.newarray .int, 2) := by decide +kernel
theorem dX4_init_41 : decode cX4_init 41 = .ok (.putfield 24, 3) := by decide +kernel
theorem dX4_init_44 : decode cX4_init 44 = .ok (.return_, 1) := by decide +kernel
theorem dX4_takeOver_0 : decode cX4_takeOver 0 = .ok (.aload_n 1, 1) := by decide +kernel
theorem dX4_takeOver_1 : decode cX4_takeOver 1 = .ok (.getfield 9, 3) := by decide +kernel
theorem dX4_takeOver_4 : decode cX4_takeOver 4 = .ok (.iconst 0, 1) := by decide +kernel
theorem dX4_takeOver_5 : decode cX4_takeOver 5 = .ok (.aload_n 0, 1) := by decide +kernel
theorem dX4_takeOver_6 : decode cX4_takeOver 6 = .ok (.getfield 9, 3) := by decide +kernel
theorem dX4_takeOver_9 : decode cX4_takeOver 9 = .ok (.iconst 0, 1) := by decide +kernel
theorem dX4_takeOver_10 : decode cX4_takeOver 10 = .ok (.bipush 10, 2) := by decide +kernel
theorem dX4_takeOver_12 : decode cX4_takeOver 12 = .ok (.invokestatic 27, 3) := by decide +kernel
theorem dX4_takeOver_15 : decode cX4_takeOver 15 = .ok (.aload_n 1, 1) := by decide +kernel
theorem dX4_takeOver_16 : decode cX4_takeOver 16 = .ok (.getfield 15, 3) := by decide +kernel
theorem dX4_takeOver_19 : decode cX4_takeOver 19 = .ok (.iconst 0, 1) := by decide +kernel
theorem dX4_takeOver_20 : decode cX4_takeOver 20 = .ok (.aload_n 0, 1) := by decide +kernel
theorem dX4_takeOver_21 : decode cX4_takeOver 21 = .ok (.getfield 15, 3) := by decide +kernel
theorem dX4_takeOver_24 : decode cX4_takeOver 24 = .ok (.iconst 0, 1) := by decide +kernel
theorem dX4_takeOver_25 : decode cX4_takeOver 25 = .ok (.bipush 10, 2) := by decide +kernel
theorem dX4_takeOver_27 : decode cX4_takeOver 27 = .ok (.invokestatic 27, 3) := by decide +kernel
theorem dX4_takeOver_30 : decode cX4_takeOver 30 = .ok (.aload_n 1, 1) := by decide +kernel
theorem dX4_takeOver_31 : decode cX4_takeOver 31 = .ok (.getfield 18, 3) := by decide +kernel
theorem dX4_takeOver_34 : decode cX4_takeOver 34 = .ok (.iconst 0, 1) := by decide +kernel
theorem dX4_takeOver_35 : decode cX4_takeOver 35 = .ok (.aload_n 0, 1) := by decide +kernel
theorem dX4_takeOver_36 : decode cX4_takeOver 36 = .ok (.getfield 18, 3) := by decide +kernel
theorem dX4_takeOver_39 : decode cX4_takeOver 39 = .ok (.iconst 0, 1) := by decide +kernel
theorem dX4_takeOver_40 : decode cX4_takeOver 40 = .ok (.bipush 10, 2) := by decide +kernel
theorem dX4_takeOver_42 : decode cX4_takeOver 42 = .ok (.invokestatic 27, 3) := by decide +kernel
theorem dX4_takeOver_45 : decode cX4_takeOver 45 = .ok (.aload_n 1, 1) := by decide +kernel
theorem dX4_takeOver_46 : decode cX4_takeOver 46 = .ok (.getfield 21, 3) := by decide +kernel
theorem dX4_takeOver_49 : decode cX4_takeOver 49 = .ok (.iconst 0, 1) := by decide +kernel
theorem dX4_takeOver_50 : decode cX4_takeOver 50 = .ok (.aload_n 0, 1) := by decide +kernel
theorem dX4_takeOver_51 : decode cX4_takeOver 51 = .ok (.getfield 21, 3) := by decide +kernel
theorem dX4_takeOver_54 : decode cX4_takeOver 54 = .ok (.iconst 0, 1) := by decide +kernel
theorem dX4_takeOver_55 : decode cX4_takeOver 55 = .ok (.bipush 10, 2) := by decide +kernel
theorem dX4_takeOver_57 : decode cX4_takeOver 57 = .ok (.invokestatic 27, 3) := by decide +kernel
theorem dX4_takeOver_60 : decode cX4_takeOver 60 = .ok (.aload_n 1, 1) := by decide +kernel
theorem dX4_takeOver_61 : decode cX4_takeOver 61 = .ok (.getfield 24, 3) := by decide +kernel
theorem dX4_takeOver_64 : decode cX4_takeOver 64 = .ok (.iconst 0, 1) := by decide +kernel
theorem dX4_takeOver_65 : decode cX4_takeOver 65 = .ok (.aload_n 0, 1) := by decide +kernel
theorem dX4_takeOver_66 : decode cX4_takeOver 66 = .ok (.getfield 24, 3) := by decide +kernel
theorem dX4_takeOver_69 : decode cX4_takeOver 69 = .ok (.iconst 0, 1) := by decide +kernel
theorem dX4_takeOver_70 : decode cX4_takeOver 70 = .ok (.bipush 10, 2) := by decide +kernel
theorem dX4_takeOver_72 : decode cX4_takeOver 72 = .ok (.invokestatic 27, 3) := by decide +kernel
theorem dX4_takeOver_75 : decode cX4_takeOver 75 = .ok (.aload_n 0, 1) := by decide +kernel
theorem dX4_takeOver_76 : decode cX4_takeOver 76 = .ok (.aload_n 1, 1) := by decide +kernel
theorem dX4_takeOver_77 : decode cX4_takeOver 77 = .ok (.getfield 33, 3) := by decide +kernel
theorem dX4_takeOver_80 : decode cX4_takeOver 80 = .ok (.putfield 33, 3) := by decide +kernel
theorem dX4_takeOver_83 : decode cX4_takeOver 83 = .ok (.return_, 1) := by decide +kernel
theorem dX4_contains_0 : decode cX4_contains 0 = .ok (.iload_n 1, 1) := by decide +kernel
theorem dX4_contains_1 : decode cX4_contains 1 = .ok (.ifCond .lt 15, 3) := by decide +kernel
theorem dX4_contains_4 : decode cX4_contains 4 = .ok (.iload_n 1, 1) := by decide +kernel
theorem dX4_contains_5 : decode cX4_contains 5 = .ok (.aload_n 0, 1) := by decide +kernel
theorem dX4_contains_6 : decode cX4_contains 6 = .ok (.getfield 33, 3) := by decide +kernel
theorem dX4_contains_9 : decode cX4_contains 9 = .ok (.if_icmp .ge 7, 3) := by decide +kernel
theorem dX4_contains_12 : decode cX4_contains 12 = .ok (.iconst 1, 1) := by decide +kernel
theorem dX4_contains_13 : decode cX4_contains 13 = .ok (.goto 4, 3) := by decide +kernel
theorem dX4_contains_16 : decode cX4_contains 16 = .ok (.iconst 0, 1) := by decide +kernel
theorem dX4_contains_17 : decode cX4_contains 17 = .ok (.ireturn, 1) := by decide +kernel
theorem dX4_isFull_0 : decode cX4_isFull 0 = .ok (.aload_n 0, 1) := by decide +kernel
theorem dX4_isFull_1 : decode cX4_isFull 1 = .ok (.getfield 33, 3) := by decide +kernel
theorem dX4_isFull_4 : decode cX4_isFull 4 = .ok (.bipush 10, 2) := by decide +kernel
theorem dX4_isFull_6 : decode cX4_isFull 6 = .ok (.if_icmp .lt 7, 3) := by decide +kernel
theorem dX4_isFull_9 : decode cX4_isFull 9 = .ok (.iconst 1, 1) := by decide +kernel
theorem dX4_isFull_10 : decode cX4_isFull 10 = .ok (.goto 4, 3) := by decide +kernel
theorem dX4_isFull_13 : decode cX4_isFull 13 = .ok (.iconst 0, 1) := by decide +kernel
theorem dX4_isFull_14 : decode cX4_isFull 14 = .ok (.ireturn, 1) := by decide +kernel
theorem dX4_hasSides_0 : decode cX4_hasSides 0 = .ok (.iconst 0, 1) := by decide +kernel
theorem dX4_hasSides_1 : decode cX4_hasSides 1 = .ok (.istore_n 3, 1) := by decide +kernel
theorem dX4_hasSides_2 : decode cX4_hasSides 2 = .ok (.iload_n 3, 1) := by decide +kernel
theorem dX4_hasSides_3 : decode cX4_hasSides 3 = .ok (.aload_n 0, 1) := by decide +kernel
theorem dX4_hasSides_4 : decode cX4_hasSides 4 = .ok (.getfield 33, 3) := by decide +kernel
theorem dX4_hasSides_7 : decode cX4_hasSides 7 = .ok (.if_icmp .ge 31, 3) := by decide +kernel
theorem dX4_hasSides_10 : decode cX4_hasSides 10 = .ok (.aload_n 0, 1) := by decide +kernel
theorem dX4_hasSides_11 : decode cX4_hasSides 11 = .ok (.getfield 9, 3) := by decide +kernel
theorem dX4_hasSides_14 : decode cX4_hasSides 14 = .ok (.iload_n 3, 1) := by decide +kernel
theorem dX4_hasSides_15 : decode cX4_hasSides 15 = .ok (.iaload, 1) := by decide +kernel
theorem dX4_hasSides_16 : decode cX4_hasSides 16 = .ok (.iload_n 1, 1) := by decide +kernel
theorem dX4_hasSides_17 : decode cX4_hasSides 17 = .ok (.if_icmp .ne 15, 3) := by decide +kernel
theorem dX4_hasSides_20 : decode cX4_hasSides 20 = .ok (.aload_n 0, 1) := by decide +kernel
theorem dX4_hasSides_21 : decode cX4_hasSides 21 = .ok (.getfield 15, 3) := by decide +kernel
theorem dX4_hasSides_24 : decode cX4_hasSides 24 = .ok (.iload_n 3, 1) := by decide +kernel
theorem dX4_hasSides_25 : decode cX4_hasSides 25 = .ok (.iaload, 1) := by decide +kernel
theorem dX4_hasSides_26 : decode cX4_hasSides 26 = .ok (.iload_n 2, 1) := by decide +kernel
theorem dX4_hasSides_27 : decode cX4_hasSides 27 = .ok (.if_icmp .ne 5, 3) := by decide +kernel
theorem dX4_hasSides_30 : decode cX4_hasSides 30 = .ok (.iconst 1, 1) := by decide +kernel
theorem dX4_hasSides_31 : decode cX4_hasSides 31 = .ok (.ireturn, 1) := by decide +kernel
theorem dX4_hasSides_32 : decode cX4_hasSides 32 = .ok (.iinc 3 1, 3) := by decide +kernel
theorem dX4_hasSides_35 : decode cX4_hasSides 35 = .ok (.goto (-33), 3) := by decide +kernel
theorem dX4_hasSides_38 : decode cX4_hasSides 38 = .ok (.iconst 0, 1) := by decide +kernel
theorem dX4_hasSides_39 : decode cX4_hasSides 39 = .ok (.ireturn, 1) := by decide +kernel
set_option maxRecDepth 20000 in
theorem ggX4_add_X4_isFull : GoodIn wsX4_add wsX4_isFull := goodIn_r _ [11, 2, 15, 16, 17, 18, 19, 20] (by decide +kernel) (by decide +kernel)
set_option maxRecDepth 20000 in
theorem gX4_add_X4_isFull : GoodIn wsX4_add (wsV RX4 37 RX4 yX4_isFull wsX4_isFull) := goodIn_app (goodIn_of _ (by decide +kernel)) ggX4_add_X4_isFull
set_option maxRecDepth 20000 in
theorem ggX4_add_X9_lengthOf : GoodIn wsX4_add wsX9_lengthOf := goodIn_r _ [14] (by decide +kernel) (by decide +kernel)
set_option maxRecDepth 20000 in
theorem gX4_add_X9_lengthOf_n41 : GoodIn wsX4_add (wsX9_lengthOf) := ggX4_add_X9_lengthOf
theorem dX4_add_0 : decode cX4_add 0 = .ok (.aload_n 0, 1) := by decide +kernel
theorem dX4_add_1 : decode cX4_add 1 = .ok (.invokevirtual 37, 3) := by decide +kernel
theorem dX4_add_4 : decode cX4_add 4 = .ok (.ifCond .eq 4, 3) := by decide +kernel
theorem dX4_add_7 : decode cX4_add 7 = .ok (.return_, 1) := by decide +kernel
theorem dX4_add_8 : decode cX4_add 8 = .ok (.aload_n 0, 1) := by decide +kernel
theorem dX4_add_9 : decode cX4_add 9 = .ok (.getfield 9, 3) := by decide +kernel
theorem dX4_add_12 : decode cX4_add 12 = .ok (.aload_n 0, 1) := by decide +kernel
theorem dX4_add_13 : decode cX4_add 13 = .ok (.getfield 33, 3) := by decide +kernel
theorem dX4_add_16 : decode cX4_add 16 = .ok (.iload_n 1, 1) := by decide +kernel
theorem dX4_add_17 : decode cX4_add 17 = .ok (.iastore, 1) := by decide +kernel
theorem dX4_add_18 : decode cX4_add 18 = .ok (.aload_n 0, 1) := by decide +kernel
theorem dX4_add_19 : decode cX4_add 19 = .ok (.getfield 15, 3) := by decide +kernel
theorem dX4_add_22 : decode cX4_add 22 = .ok (.aload_n 0, 1) := by decide +kernel
theorem dX4_add_23 : decode cX4_add 23 = .ok (.getfield 33, 3) := by decide +kernel
theorem dX4_add_26 : decode cX4_add 26 = .ok (.iload_n 2, 1) := by decide +kernel
theorem dX4_add_27 : decode cX4_add 27 = .ok (.iastore, 1) := by decide +kernel
theorem dX4_add_28 : decode cX4_add 28 = .ok (.aload_n 0, 1) := by decide +kernel
theorem dX4_add_29 : decode cX4_add 29 = .ok (.getfield 18, 3) := by decide +kernel
theorem dX4_add_32 : decode cX4_add 32 = .ok (.aload_n 0, 1) := by decide +kernel
theorem dX4_add_33 : decode cX4_add 33 = .ok (.getfield 33, 3) := by decide +kernel
theorem dX4_add_36 : decode cX4_add 36 = .ok (.iload_n 1, 1) := by decide +kernel
theorem dX4_add_37 : decode cX4_add 37 = .ok (.invokestatic 41, 3) := by decide +kernel
theorem dX4_add_40 : decode cX4_add 40 = .ok (.iastore, 1) := by decide +kernel
theorem dX4_add_41 : decode cX4_add 41 = .ok (.aload_n 0, 1) := by decide +kernel
theorem dX4_add_42 : decode cX4_add 42 = .ok (.getfield 21, 3) := by decide +kernel
theorem dX4_add_45 : decode cX4_add 45 = .ok (.aload_n 0, 1) := by decide +kernel
theorem dX4_add_46 : decode cX4_add 46 = .ok (.getfield 33, 3) := by decide +kernel
theorem dX4_add_49 : decode cX4_add 49 = .ok (.iload_n 2, 1) := by decide +kernel
theorem dX4_add_50 : decode cX4_add 50 = .ok (.invokestatic 41, 3) := by decide +kernel
theorem dX4_add_53 : decode cX4_add 53 = .ok (.iastore, 1) := by decide +kernel
theorem dX4_add_54 : decode cX4_add 54 = .ok (.aload_n 0, 1) := by decide +kernel
theorem dX4_add_55 : decode cX4_add 55 = .ok (.getfield 24, 3) := by decide +kernel
theorem dX4_add_58 : decode cX4_add 58 = .ok (.aload_n 0, 1) := by decide +kernel
theorem dX4_add_59 : decode cX4_add 59 = .ok (.getfield 33, 3) := by decide +kernel
theorem dX4_add_62 : decode cX4_add 62 = .ok (.iconst 0, 1) := by decide +kernel
theorem dX4_add_63 : decode cX4_add 63 = .ok (.iastore, 1) := by decide +kernel
theorem dX4_add_64 : decode cX4_add 64 = .ok (.aload_n 0, 1) := by decide +kernel
theorem dX4_add_65 : decode cX4_add 65 = .ok (.dup, 1) := by decide +kernel
theorem dX4_add_66 : decode cX4_add 66 = .ok (.getfield 33, 3) := by decide +kernel
theorem dX4_add_69 : decode cX4_add 69 = .ok (.iconst 1, 1) := by decide +kernel
theorem dX4_add_70 : decode cX4_add 70 = .ok (.iadd, 1) := by decide +kernel
theorem dX4_add_71 : decode cX4_add 71 = .ok (.putfield 33, 3) := by decide +kernel
theorem dX4_add_74 : decode cX4_add 74 = .ok (.return_, 1) := by decide +kernel
set_option maxRecDepth 20000 in
theorem ggX4_remove_X4_contains : GoodIn wsX4_remove wsX4_contains := goodIn_r _ [11, 1, 12, 13, 14, 15, 16, 17] (by decide +kernel) (by decide +kernel)
set_option maxRecDepth 20000 in
theorem gX4_remove_X4_contains : GoodIn wsX4_remove (wsV RX4 47 RX4 yX4_contains wsX4_contains) := goodIn_app (goodIn_of _ (by decide +kernel)) ggX4_remove_X4_contains
theorem dX4_remove_0 : decode cX4_remove 0 = .ok (.aload_n 0, 1) := by decide +kernel
theorem dX4_remove_1 : decode cX4_remove 1 = .ok (.iload_n 1, 1) := by decide +kernel
theorem dX4_remove_2 : decode cX4_remove 2 = .ok (.invokevirtual 47, 3) := by decide +kernel
theorem dX4_remove_5 : decode cX4_remove 5 = .ok (.ifCond .ne 4, 3) := by decide +kernel
theorem dX4_remove_8 : decode cX4_remove 8 = .ok (.return_, 1) := by decide +kernel
theorem dX4_remove_9 : decode cX4_remove 9 = .ok (.iload_n 1, 1) := by decide +kernel
theorem dX4_remove_10 : decode cX4_remove 10 = .ok (.istore_n 2, 1) := by decide +kernel
theorem dX4_remove_11 : decode cX4_remove 11 = .ok (.iload_n 2, 1) := by decide +kernel
theorem dX4_remove_12 : decode cX4_remove 12 = .ok (.iconst 1, 1) := by decide +kernel
theorem dX4_remove_13 : decode cX4_remove 13 = .ok (.iadd, 1) := by decide +kernel
theorem dX4_remove_14 : decode cX4_remove 14 = .ok (.aload_n 0, 1) := by decide +kernel
theorem dX4_remove_15 : decode cX4_remove 15 = .ok (.getfield 33, 3) := by decide +kernel
theorem dX4_remove_18 : decode cX4_remove 18 = .ok (.if_icmp .ge 79, 3) := by decide +kernel
theorem dX4_remove_21 : decode cX4_remove 21 = .ok (.aload_n 0, 1) := by decide +kernel
theorem dX4_remove_22 : decode cX4_remove 22 = .ok (.getfield 9, 3) := by decide +kernel
theorem dX4_remove_25 : decode cX4_remove 25 = .ok (.iload_n 2, 1) := by decide +kernel
theorem dX4_remove_26 : decode cX4_remove 26 = .ok (.aload_n 0, 1) := by decide +kernel
theorem dX4_remove_27 : decode cX4_remove 27 = .ok (.getfield 9, 3) := by decide +kernel
theorem dX4_remove_30 : decode cX4_remove 30 = .ok (.iload_n 2, 1) := by decide +kernel
theorem dX4_remove_31 : decode cX4_remove 31 = .ok (.iconst 1, 1) := by decide +kernel
theorem dX4_remove_32 : decode cX4_remove 32 = .ok (.iadd, 1) := by decide +kernel
theorem dX4_remove_33 : decode cX4_remove 33 = .ok (.iaload, 1) := by decide +kernel
theorem dX4_remove_34 : decode cX4_remove 34 = .ok (.iastore, 1) := by decide +kernel
theorem dX4_remove_35 : decode cX4_remove 35 = .ok (.aload_n 0, 1) := by decide +kernel
theorem dX4_remove_36 : decode cX4_remove 36 = .ok (.getfield 15, 3) := by decide +kernel
theorem dX4_remove_39 : decode cX4_remove 39 = .ok (.iload_n 2, 1) := by decide +kernel
theorem dX4_remove_40 : decode cX4_remove 40 = .ok (.aload_n 0, 1) := by decide +kernel
theorem dX4_remove_41 : decode cX4_remove 41 = .ok (.getfield 15, 3) := by decide +kernel
theorem dX4_remove_44 : decode cX4_remove 44 = .ok (.iload_n 2, 1) := by decide +kernel
theorem dX4_remove_45 : decode cX4_remove 45 = .ok (.iconst 1, 1) := by decide +kernel
theorem dX4_remove_46 : decode cX4_remove 46 = .ok (.iadd, 1) := by decide +kernel
theorem dX4_remove_47 : decode cX4_remove 47 = .ok (.iaload, 1) := by decide +kernel
theorem dX4_remove_48 : decode cX4_remove 48 = .ok (.iastore, 1) := by decide +kernel
theorem dX4_remove_49 : decode cX4_remove 49 = .ok (.aload_n 0, 1) := by decide +kernel
theorem dX4_remove_50 : decode cX4_remove 50 = .ok (.getfield 18, 3) := by decide +kernel
theorem dX4_remove_53 : decode cX4_remove 53 = .ok (.iload_n 2, 1) := by decide +kernel
theorem dX4_remove_54 : decode cX4_remove 54 = .ok (.aload_n 0, 1) := by decide +kernel
theorem dX4_remove_55 : decode cX4_remove 55 = .ok (.getfield 18, 3) := by decide +kernel
theorem dX4_remove_58 : decode cX4_remove 58 = .ok (.iload_n 2, 1) := by decide +kernel
theorem dX4_remove_59 : decode cX4_remove 59 = .ok (.iconst 1, 1) := by decide +kernel
theorem dX4_remove_60 : decode cX4_remove 60 = .ok (.iadd, 1) := by decide +kernel
theorem dX4_remove_61 : decode cX4_remove 61 = .ok (.iaload, 1) := by decide +kernel
theorem dX4_remove_62 : decode cX4_remove 62 = .ok (.iastore, 1) := by decide +kernel
theorem dX4_remove_63 : decode cX4_remove 63 = .ok (.aload_n 0, 1) := by decide +kernel
theorem dX4_remove_64 : decode cX4_remove 64 = .ok (.getfield 21, 3) := by decide +kernel
theorem dX4_remove_67 : decode cX4_remove 67 = .ok (.iload_n 2, 1) := by decide +kernel
theorem dX4_remove_68 : decode cX4_remove 68 = .ok (.aload_n 0, 1) := by decide +kernel
theorem dX4_remove_69 : decode cX4_remove 69 = .ok (.getfield 21, 3) := by decide +kernel
theorem dX4_remove_72 : decode cX4_remove 72 = .ok (.iload_n 2, 1) := by decide +kernel
theorem dX4_remove_73 : decode cX4_remove 73 = .ok (.iconst 1, 1) := by decide +kernel
theorem dX4_remove_74 : decode cX4_remove 74 = .ok (.iadd, 1) := by decide +kernel
theorem dX4_remove_75 : decode cX4_remove 75 = .ok (.iaload, 1) := by decide +kernel
theorem dX4_remove_76 : decode cX4_remove 76 = .ok (.iastore, 1) := by decide +kernel
theorem dX4_remove_77 : decode cX4_remove 77 = .ok (.aload_n 0, 1) := by decide +kernel
theorem dX4_remove_78 : decode cX4_remove 78 = .ok (.getfield 24, 3) := by decide +kernel
theorem dX4_remove_81 : decode cX4_remove 81 = .ok (.iload_n 2, 1) := by decide +kernel
theorem dX4_remove_82 : decode cX4_remove 82 = .ok (.aload_n 0, 1) := by decide +kernel
theorem dX4_remove_83 : decode cX4_remove 83 = .ok (.getfield 24, 3) := by decide +kernel
theorem dX4_remove_86 : decode cX4_remove 86 = .ok (.iload_n 2, 1) := by decide +kernel
theorem dX4_remove_87 : decode cX4_remove 87 = .ok (.iconst 1, 1) := by decide +kernel
theorem dX4_remove_88 : decode cX4_remove 88 = .ok (.iadd, 1) := by decide +kernel
theorem dX4_remove_89 : decode cX4_remove 89 = .ok (.iaload, 1) := by decide +kernel
theorem dX4_remove_90 : decode cX4_remove 90 = .ok (.iastore, 1) := by decide +kernel
theorem dX4_remove_91 : decode cX4_remove 91 = .ok (.iinc 2 1, 3) := by decide +kernel
theorem dX4_remove_94 : decode cX4_remove 94 = .ok (.goto (-83), 3) := by decide +kernel
theorem dX4_remove_97 : decode cX4_remove 97 = .ok (.aload_n 0, 1) := by decide +kernel
theorem dX4_remove_98 : decode cX4_remove 98 = .ok (.dup, 1) := by decide +kernel
theorem dX4_remove_99 : decode cX4_remove 99 = .ok (.getfield 33, 3) := by decide +kernel
theorem dX4_remove_102 : decode cX4_remove 102 = .ok (.iconst 1, 1) := by decide +kernel
theorem dX4_remove_103 : decode cX4_remove 103 = .ok (.isub, 1) := by decide +kernel
theorem dX4_remove_104 : decode cX4_remove 104 = .ok (.putfield 33, 3) := by decide +kernel
theorem dX4_remove_107 : decode cX4_remove 107 = .ok (.return_, 1) := by decide +kernel
theorem dX4_appliesAt_0 : decode cX4_appliesAt 0 = .ok (.iload_n 2, 1) := by decide +kernel
theorem dX4_appliesAt_1 : decode cX4_appliesAt 1 = .ok (.iload 4, 2) := by decide +kernel
theorem dX4_appliesAt_3 : decode cX4_appliesAt 3 = .ok (.isub, 1) := by decide +kernel
theorem dX4_appliesAt_4 : decode cX4_appliesAt 4 = .ok (.aload_n 0, 1) := by decide +kernel
theorem dX4_appliesAt_5 : decode cX4_appliesAt 5 = .ok (.getfield 18, 3) := by decide +kernel
theorem dX4_appliesAt_8 : decode cX4_appliesAt 8 = .ok (.iload_n 3, 1) := by decide +kernel
theorem dX4_appliesAt_9 : decode cX4_appliesAt 9 = .ok (.iaload, 1) := by decide +kernel
theorem dX4_appliesAt_10 : decode cX4_appliesAt 10 = .ok (.isub, 1) := by decide +kernel
theorem dX4_appliesAt_11 : decode cX4_appliesAt 11 = .ok (.istore 5, 2) := by decide +kernel
theorem dX4_appliesAt_13 : decode cX4_appliesAt 13 = .ok (.iload 5, 2) := by decide +kernel
theorem dX4_appliesAt_15 : decode cX4_appliesAt 15 = .ok (.ifCond .ge 5, 3) := by decide +kernel
theorem dX4_appliesAt_18 : decode cX4_appliesAt 18 = .ok (.iconst 0, 1) := by decide +kernel
theorem dX4_appliesAt_19 : decode cX4_appliesAt 19 = .ok (.ireturn, 1) := by decide +kernel
theorem dX4_appliesAt_20 : decode cX4_appliesAt 20 = .ok (.iload_n 1, 1) := by decide +kernel
theorem dX4_appliesAt_21 : decode cX4_appliesAt 21 = .ok (.iconst 2, 1) := by decide +kernel
theorem dX4_appliesAt_22 : decode cX4_appliesAt 22 = .ok (.iload 5, 2) := by decide +kernel
theorem dX4_appliesAt_24 : decode cX4_appliesAt 24 = .ok (.imul, 1) := by decide +kernel
theorem dX4_appliesAt_25 : decode cX4_appliesAt 25 = .ok (.ishr, 1) := by decide +kernel
theorem dX4_appliesAt_26 : decode cX4_appliesAt 26 = .ok (.aload_n 0, 1) := by decide +kernel
theorem dX4_appliesAt_27 : decode cX4_appliesAt 27 = .ok (.getfield 9, 3) := by decide +kernel
theorem dX4_appliesAt_30 : decode cX4_appliesAt 30 = .ok (.iload_n 3, 1) := by decide +kernel
theorem dX4_appliesAt_31 : decode cX4_appliesAt 31 = .ok (.iaload, 1) := by decide +kernel
theorem dX4_appliesAt_32 : decode cX4_appliesAt 32 = .ok (.ixor, 1) := by decide +kernel
theorem dX4_appliesAt_33 : decode cX4_appliesAt 33 = .ok (.istore 6, 2) := by decide +kernel
theorem dX4_appliesAt_35 : decode cX4_appliesAt 35 = .ok (.iconst 1, 1) := by decide +kernel
theorem dX4_appliesAt_36 : decode cX4_appliesAt 36 = .ok (.iconst 2, 1) := by decide +kernel
theorem dX4_appliesAt_37 : decode cX4_appliesAt 37 = .ok (.aload_n 0, 1) := by decide +kernel
theorem dX4_appliesAt_38 : decode cX4_appliesAt 38 = .ok (.getfield 18, 3) := by decide +kernel
theorem dX4_appliesAt_41 : decode cX4_appliesAt 41 = .ok (.iload_n 3, 1) := by decide +kernel
theorem dX4_appliesAt_42 : decode cX4_appliesAt 42 = .ok (.iaload, 1) := by decide +kernel
theorem dX4_appliesAt_43 : decode cX4_appliesAt 43 = .ok (.imul, 1) := by decide +kernel
theorem dX4_appliesAt_44 : decode cX4_appliesAt 44 = .ok (.ishl, 1) := by decide +kernel
theorem dX4_appliesAt_45 : decode cX4_appliesAt 45 = .ok (.iconst 1, 1) := by decide +kernel
theorem dX4_appliesAt_46 : decode cX4_appliesAt 46 = .ok (.isub, 1) := by decide +kernel
theorem dX4_appliesAt_47 : decode cX4_appliesAt 47 = .ok (.istore 7, 2) := by decide +kernel
theorem dX4_appliesAt_49 : decode cX4_appliesAt 49 = .ok (.iload 6, 2) := by decide +kernel
theorem dX4_appliesAt_51 : decode cX4_appliesAt 51 = .ok (.iload 7, 2) := by decide +kernel
theorem dX4_appliesAt_53 : decode cX4_appliesAt 53 = .ok (.iand, 1) := by decide +kernel
theorem dX4_appliesAt_54 : decode cX4_appliesAt 54 = .ok (.ifCond .ne 7, 3) := by decide +kernel
theorem dX4_appliesAt_57 : decode cX4_appliesAt 57 = .ok (.iconst 1, 1) := by decide +kernel
theorem dX4_appliesAt_58 : decode cX4_appliesAt 58 = .ok (.goto 4, 3) := by decide +kernel
theorem dX4_appliesAt_61 : decode cX4_appliesAt 61 = .ok (.iconst 0, 1) := by decide +kernel
theorem dX4_appliesAt_62 : decode cX4_appliesAt 62 = .ok (.ireturn, 1) := by decide +kernel
set_option maxRecDepth 20000 in
theorem ggX4_placesIn_X9_lengthOf : GoodIn wsX4_placesIn wsX9_lengthOf := goodIn_r _ [3] (by decide +kernel) (by decide +kernel)
set_option maxRecDepth 20000 in
theorem gX4_placesIn_X9_lengthOf_n41 : GoodIn wsX4_placesIn (wsX9_lengthOf) := ggX4_placesIn_X9_lengthOf
set_option maxRecDepth 20000 in
theorem ggX4_placesIn_X4_appliesAt : GoodIn wsX4_placesIn wsX4_appliesAt := goodIn_r _ [8, 9, 10, 11, 12, 13, 14, 15, 16] (by decide +kernel) (by decide +kernel)
set_option maxRecDepth 20000 in
theorem gX4_placesIn_X4_appliesAt : GoodIn wsX4_placesIn (wsV RX4 51 RX4 yX4_appliesAt wsX4_appliesAt) := goodIn_app (goodIn_of _ (by decide +kernel)) ggX4_placesIn_X4_appliesAt
theorem dX4_placesIn_0 : decode cX4_placesIn 0 = .ok (.iload_n 1, 1) := by decide +kernel
theorem dX4_placesIn_1 : decode cX4_placesIn 1 = .ok (.invokestatic 41, 3) := by decide +kernel
theorem dX4_placesIn_4 : decode cX4_placesIn 4 = .ok (.istore_n 3, 1) := by decide +kernel
theorem dX4_placesIn_5 : decode cX4_placesIn 5 = .ok (.iconst 0, 1) := by decide +kernel
theorem dX4_placesIn_6 : decode cX4_placesIn 6 = .ok (.istore 4, 2) := by decide +kernel
theorem dX4_placesIn_8 : decode cX4_placesIn 8 = .ok (.iconst 0, 1) := by decide +kernel
theorem dX4_placesIn_9 : decode cX4_placesIn 9 = .ok (.istore 5, 2) := by decide +kernel
theorem dX4_placesIn_11 : decode cX4_placesIn 11 = .ok (.iload 5, 2) := by decide +kernel
theorem dX4_placesIn_13 : decode cX4_placesIn 13 = .ok (.iload_n 3, 1) := by decide +kernel
theorem dX4_placesIn_14 : decode cX4_placesIn 14 = .ok (.if_icmp .ge 24, 3) := by decide +kernel
theorem dX4_placesIn_17 : decode cX4_placesIn 17 = .ok (.aload_n 0, 1) := by decide +kernel
theorem dX4_placesIn_18 : decode cX4_placesIn 18 = .ok (.iload_n 1, 1) := by decide +kernel
theorem dX4_placesIn_19 : decode cX4_placesIn 19 = .ok (.iload_n 3, 1) := by decide +kernel
theorem dX4_placesIn_20 : decode cX4_placesIn 20 = .ok (.iload_n 2, 1) := by decide +kernel
theorem dX4_placesIn_21 : decode cX4_placesIn 21 = .ok (.iload 5, 2) := by decide +kernel
theorem dX4_placesIn_23 : decode cX4_placesIn 23 = .ok (.invokevirtual 51, 3) := by decide +kernel
theorem dX4_placesIn_26 : decode cX4_placesIn 26 = .ok (.ifCond .eq 6, 3) := by decide +kernel
theorem dX4_placesIn_29 : decode cX4_placesIn 29 = .ok (.iinc 4 1, 3) := by decide +kernel
theorem dX4_placesIn_32 : decode cX4_placesIn 32 = .ok (.iinc 5 1, 3) := by decide +kernel
theorem dX4_placesIn_35 : decode cX4_placesIn 35 = .ok (.goto (-24), 3) := by decide +kernel
theorem dX4_placesIn_38 : decode cX4_placesIn 38 = .ok (.iload 4, 2) := by decide +kernel
theorem dX4_placesIn_40 : decode cX4_placesIn 40 = .ok (.ireturn, 1) := by decide +kernel
set_option maxRecDepth 20000 in
theorem ggX4_choiceFor_X9_lengthOf : GoodIn wsX4_choiceFor wsX9_lengthOf := goodIn_r _ [4] (by decide +kernel) (by decide +kernel)
set_option maxRecDepth 20000 in
theorem gX4_choiceFor_X9_lengthOf_n41 : GoodIn wsX4_choiceFor (wsX9_lengthOf) := ggX4_choiceFor_X9_lengthOf
set_option maxRecDepth 20000 in
theorem ggX4_choiceFor_X4_appliesAt : GoodIn wsX4_choiceFor wsX4_appliesAt := goodIn_r _ [9, 10, 11, 12, 13, 14, 15, 16, 17] (by decide +kernel) (by decide +kernel)
set_option maxRecDepth 20000 in
theorem gX4_choiceFor_X4_appliesAt : GoodIn wsX4_choiceFor (wsV RX4 51 RX4 yX4_appliesAt wsX4_appliesAt) := goodIn_app (goodIn_of _ (by decide +kernel)) ggX4_choiceFor_X4_appliesAt
theorem dX4_choiceFor_0 : decode cX4_choiceFor 0 = .ok (.iload_n 1, 1) := by decide +kernel
theorem dX4_choiceFor_1 : decode cX4_choiceFor 1 = .ok (.invokestatic 41, 3) := by decide +kernel
theorem dX4_choiceFor_4 : decode cX4_choiceFor 4 = .ok (.istore_n 3, 1) := by decide +kernel
theorem dX4_choiceFor_5 : decode cX4_choiceFor 5 = .ok (.iload_n 2, 1) := by decide +kernel
theorem dX4_choiceFor_6 : decode cX4_choiceFor 6 = .ok (.iconst 2, 1) := by decide +kernel
theorem dX4_choiceFor_7 : decode cX4_choiceFor 7 = .ok (.if_icmp .ne 7, 3) := by decide +kernel
theorem dX4_choiceFor_10 : decode cX4_choiceFor 10 = .ok (.iconst 1, 1) := by decide +kernel
theorem dX4_choiceFor_11 : decode cX4_choiceFor 11 = .ok (.goto 4, 3) := by decide +kernel
theorem dX4_choiceFor_14 : decode cX4_choiceFor 14 = .ok (.iconst 0, 1) := by decide +kernel
theorem dX4_choiceFor_15 : decode cX4_choiceFor 15 = .ok (.istore 4, 2) := by decide +kernel
theorem dX4_choiceFor_17 : decode cX4_choiceFor 17 = .ok (.iload 4, 2) := by decide +kernel
theorem dX4_choiceFor_19 : decode cX4_choiceFor 19 = .ok (.ifCond .eq 10, 3) := by decide +kernel
theorem dX4_choiceFor_22 : decode cX4_choiceFor 22 = .ok (.aload_n 0, 1) := by decide +kernel
theorem dX4_choiceFor_23 : decode cX4_choiceFor 23 = .ok (.getfield 33, 3) := by decide +kernel
theorem dX4_choiceFor_26 : decode cX4_choiceFor 26 = .ok (.goto 4, 3) := by decide +kernel
theorem dX4_choiceFor_29 : decode cX4_choiceFor 29 = .ok (.iload_n 3, 1) := by decide +kernel
theorem dX4_choiceFor_30 : decode cX4_choiceFor 30 = .ok (.istore 5, 2) := by decide +kernel
theorem dX4_choiceFor_32 : decode cX4_choiceFor 32 = .ok (.iload 4, 2) := by decide +kernel
theorem dX4_choiceFor_34 : decode cX4_choiceFor 34 = .ok (.ifCond .eq 7, 3) := by decide +kernel
theorem dX4_choiceFor_37 : decode cX4_choiceFor 37 = .ok (.iload_n 3, 1) := by decide +kernel
theorem dX4_choiceFor_38 : decode cX4_choiceFor 38 = .ok (.goto 7, 3) := by decide +kernel
theorem dX4_choiceFor_41 : decode cX4_choiceFor 41 = .ok (.aload_n 0, 1) := by decide +kernel
theorem dX4_choiceFor_42 : decode cX4_choiceFor 42 = .ok (.getfield 33, 3) := by decide +kernel
theorem dX4_choiceFor_45 : decode cX4_choiceFor 45 = .ok (.istore 6, 2) := by decide +kernel
theorem dX4_choiceFor_47 : decode cX4_choiceFor 47 = .ok (.iconst 0, 1) := by decide +kernel
theorem dX4_choiceFor_48 : decode cX4_choiceFor 48 = .ok (.istore 7, 2) := by decide +kernel
theorem dX4_choiceFor_50 : decode cX4_choiceFor 50 = .ok (.iload 7, 2) := by decide +kernel
theorem dX4_choiceFor_52 : decode cX4_choiceFor 52 = .ok (.iload 5, 2) := by decide +kernel
theorem dX4_choiceFor_54 : decode cX4_choiceFor 54 = .ok (.if_icmp .ge 93, 3) := by decide +kernel
theorem dX4_choiceFor_57 : decode cX4_choiceFor 57 = .ok (.iconst 0, 1) := by decide +kernel
theorem dX4_choiceFor_58 : decode cX4_choiceFor 58 = .ok (.istore 8, 2) := by decide +kernel
theorem dX4_choiceFor_60 : decode cX4_choiceFor 60 = .ok (.iload 8, 2) := by decide +kernel
theorem dX4_choiceFor_62 : decode cX4_choiceFor 62 = .ok (.iload 6, 2) := by decide +kernel
theorem dX4_choiceFor_64 : decode cX4_choiceFor 64 = .ok (.if_icmp .ge 77, 3) := by decide +kernel
theorem dX4_choiceFor_67 : decode cX4_choiceFor 67 = .ok (.iload 4, 2) := by decide +kernel
theorem dX4_choiceFor_69 : decode cX4_choiceFor 69 = .ok (.ifCond .eq 8, 3) := by decide +kernel
theorem dX4_choiceFor_72 : decode cX4_choiceFor 72 = .ok (.iload 7, 2) := by decide +kernel
theorem dX4_choiceFor_74 : decode cX4_choiceFor 74 = .ok (.goto 5, 3) := by decide +kernel
theorem dX4_choiceFor_77 : decode cX4_choiceFor 77 = .ok (.iload 8, 2) := by decide +kernel
theorem dX4_choiceFor_79 : decode cX4_choiceFor 79 = .ok (.istore 9, 2) := by decide +kernel
theorem dX4_choiceFor_81 : decode cX4_choiceFor 81 = .ok (.iload 4, 2) := by decide +kernel
theorem dX4_choiceFor_83 : decode cX4_choiceFor 83 = .ok (.ifCond .eq 8, 3) := by decide +kernel
theorem dX4_choiceFor_86 : decode cX4_choiceFor 86 = .ok (.iload 8, 2) := by decide +kernel
theorem dX4_choiceFor_88 : decode cX4_choiceFor 88 = .ok (.goto 5, 3) := by decide +kernel
theorem dX4_choiceFor_91 : decode cX4_choiceFor 91 = .ok (.iload 7, 2) := by decide +kernel
theorem dX4_choiceFor_93 : decode cX4_choiceFor 93 = .ok (.istore 10, 2) := by decide +kernel
theorem dX4_choiceFor_95 : decode cX4_choiceFor 95 = .ok (.iload_n 2, 1) := by decide +kernel
theorem dX4_choiceFor_96 : decode cX4_choiceFor 96 = .ok (.iconst 1, 1) := by decide +kernel
theorem dX4_choiceFor_97 : decode cX4_choiceFor 97 = .ok (.if_icmp .ne 12, 3) := by decide +kernel
theorem dX4_choiceFor_100 : decode cX4_choiceFor 100 = .ok (.iload_n 3, 1) := by decide +kernel
theorem dX4_choiceFor_101 : decode cX4_choiceFor 101 = .ok (.iconst 1, 1) := by decide +kernel
theorem dX4_choiceFor_102 : decode cX4_choiceFor 102 = .ok (.isub, 1) := by decide +kernel
theorem dX4_choiceFor_103 : decode cX4_choiceFor 103 = .ok (.iload 10, 2) := by decide +kernel
theorem dX4_choiceFor_105 : decode cX4_choiceFor 105 = .ok (.isub, 1) := by decide +kernel
theorem dX4_choiceFor_106 : decode cX4_choiceFor 106 = .ok (.goto 5, 3) := by decide +kernel
theorem dX4_choiceFor_109 : decode cX4_choiceFor 109 = .ok (.iload 10, 2) := by decide +kernel
theorem dX4_choiceFor_111 : decode cX4_choiceFor 111 = .ok (.istore 11, 2) := by decide +kernel
theorem dX4_choiceFor_113 : decode cX4_choiceFor 113 = .ok (.aload_n 0, 1) := by decide +kernel
theorem dX4_choiceFor_114 : decode cX4_choiceFor 114 = .ok (.iload_n 1, 1) := by decide +kernel
theorem dX4_choiceFor_115 : decode cX4_choiceFor 115 = .ok (.iload_n 3, 1) := by decide +kernel
theorem dX4_choiceFor_116 : decode cX4_choiceFor 116 = .ok (.iload 9, 2) := by decide +kernel
theorem dX4_choiceFor_118 : decode cX4_choiceFor 118 = .ok (.iload 11, 2) := by decide +kernel
theorem dX4_choiceFor_120 : decode cX4_choiceFor 120 = .ok (.invokevirtual 51, 3) := by decide +kernel
theorem dX4_choiceFor_123 : decode cX4_choiceFor 123 = .ok (.ifCond .eq 12, 3) := by decide +kernel
theorem dX4_choiceFor_126 : decode cX4_choiceFor 126 = .ok (.iload 11, 2) := by decide +kernel
theorem dX4_choiceFor_128 : decode cX4_choiceFor 128 = .ok (.bipush 10, 2) := by decide +kernel
theorem dX4_choiceFor_130 : decode cX4_choiceFor 130 = .ok (.imul, 1) := by decide +kernel
theorem dX4_choiceFor_131 : decode cX4_choiceFor 131 = .ok (.iload 9, 2) := by decide +kernel
theorem dX4_choiceFor_133 : decode cX4_choiceFor 133 = .ok (.iadd, 1) := by decide +kernel
theorem dX4_choiceFor_134 : decode cX4_choiceFor 134 = .ok (.ireturn, 1) := by decide +kernel
theorem dX4_choiceFor_135 : decode cX4_choiceFor 135 = .ok (.iinc 8 1, 3) := by decide +kernel
theorem dX4_choiceFor_138 : decode cX4_choiceFor 138 = .ok (.goto (-78), 3) := by decide +kernel
theorem dX4_choiceFor_141 : decode cX4_choiceFor 141 = .ok (.iinc 7 1, 3) := by decide +kernel
theorem dX4_choiceFor_144 : decode cX4_choiceFor 144 = .ok (.goto (-94), 3) := by decide +kernel
theorem dX4_choiceFor_147 : decode cX4_choiceFor 147 = .ok (.iconst (-1), 1) := by decide +kernel
theorem dX4_choiceFor_148 : decode cX4_choiceFor 148 = .ok (.ireturn, 1) := by decide +kernel
theorem dX4_ruleIn_0 : decode cX4_ruleIn 0 = .ok (.iload_n 0, 1) := by decide +kernel
theorem dX4_ruleIn_1 : decode cX4_ruleIn 1 = .ok (.bipush 10, 2) := by decide +kernel
theorem dX4_ruleIn_3 : decode cX4_ruleIn 3 = .ok (.irem, 1) := by decide +kernel
theorem dX4_ruleIn_4 : decode cX4_ruleIn 4 = .ok (.ireturn, 1) := by decide +kernel
theorem dX4_placeIn_0 : decode cX4_placeIn 0 = .ok (.iload_n 0, 1) := by decide +kernel
theorem dX4_placeIn_1 : decode cX4_placeIn 1 = .ok (.bipush 10, 2) := by decide +kernel
theorem dX4_placeIn_3 : decode cX4_placeIn 3 = .ok (.idiv, 1) := by decide +kernel
theorem dX4_placeIn_4 : decode cX4_placeIn 4 = .ok (.ireturn, 1) := by decide +kernel
set_option maxRecDepth 20000 in
theorem ggX4_applied_X9_lengthOf : GoodIn wsX4_applied wsX9_lengthOf := goodIn_r _ [6] (by decide +kernel) (by decide +kernel)
set_option maxRecDepth 20000 in
theorem gX4_applied_X9_lengthOf_n41 : GoodIn wsX4_applied (wsX9_lengthOf) := ggX4_applied_X9_lengthOf
set_option maxRecDepth 20000 in
theorem ggX4_applied_X9_lastBits : GoodIn wsX4_applied wsX9_lastBits := goodIn_r _ [8] (by decide +kernel) (by decide +kernel)
set_option maxRecDepth 20000 in
theorem gX4_applied_X9_lastBits_n55 : GoodIn wsX4_applied (wsX9_lastBits) := ggX4_applied_X9_lastBits
theorem dX4_applied_0 : decode cX4_applied 0 = .ok (.iload_n 1, 1) := by decide +kernel
theorem dX4_applied_1 : decode cX4_applied 1 = .ok (.invokestatic 41, 3) := by decide +kernel
theorem dX4_applied_4 : decode cX4_applied 4 = .ok (.istore 4, 2) := by decide +kernel
theorem dX4_applied_6 : decode cX4_applied 6 = .ok (.iload_n 1, 1) := by decide +kernel
theorem dX4_applied_7 : decode cX4_applied 7 = .ok (.iconst 2, 1) := by decide +kernel
theorem dX4_applied_8 : decode cX4_applied 8 = .ok (.iload 4, 2) := by decide +kernel
theorem dX4_applied_10 : decode cX4_applied 10 = .ok (.iload_n 3, 1) := by decide +kernel
theorem dX4_applied_11 : decode cX4_applied 11 = .ok (.isub, 1) := by decide +kernel
theorem dX4_applied_12 : decode cX4_applied 12 = .ok (.imul, 1) := by decide +kernel
theorem dX4_applied_13 : decode cX4_applied 13 = .ok (.ishr, 1) := by decide +kernel
theorem dX4_applied_14 : decode cX4_applied 14 = .ok (.istore 5, 2) := by decide +kernel
theorem dX4_applied_16 : decode cX4_applied 16 = .ok (.aload_n 0, 1) := by decide +kernel
theorem dX4_applied_17 : decode cX4_applied 17 = .ok (.getfield 15, 3) := by decide +kernel
theorem dX4_applied_20 : decode cX4_applied 20 = .ok (.iload_n 2, 1) := by decide +kernel
theorem dX4_applied_21 : decode cX4_applied 21 = .ok (.iaload, 1) := by decide +kernel
theorem dX4_applied_22 : decode cX4_applied 22 = .ok (.aload_n 0, 1) := by decide +kernel
theorem dX4_applied_23 : decode cX4_applied 23 = .ok (.getfield 21, 3) := by decide +kernel
theorem dX4_applied_26 : decode cX4_applied 26 = .ok (.iload_n 2, 1) := by decide +kernel
theorem dX4_applied_27 : decode cX4_applied 27 = .ok (.iaload, 1) := by decide +kernel
theorem dX4_applied_28 : decode cX4_applied 28 = .ok (.invokestatic 55, 3) := by decide +kernel
theorem dX4_applied_31 : decode cX4_applied 31 = .ok (.istore 6, 2) := by decide +kernel
theorem dX4_applied_33 : decode cX4_applied 33 = .ok (.iload 4, 2) := by decide +kernel
theorem dX4_applied_35 : decode cX4_applied 35 = .ok (.iload_n 3, 1) := by decide +kernel
theorem dX4_applied_36 : decode cX4_applied 36 = .ok (.isub, 1) := by decide +kernel
theorem dX4_applied_37 : decode cX4_applied 37 = .ok (.aload_n 0, 1) := by decide +kernel
theorem dX4_applied_38 : decode cX4_applied 38 = .ok (.getfield 18, 3) := by decide +kernel
theorem dX4_applied_41 : decode cX4_applied 41 = .ok (.iload_n 2, 1) := by decide +kernel
theorem dX4_applied_42 : decode cX4_applied 42 = .ok (.iaload, 1) := by decide +kernel
theorem dX4_applied_43 : decode cX4_applied 43 = .ok (.isub, 1) := by decide +kernel
theorem dX4_applied_44 : decode cX4_applied 44 = .ok (.istore 7, 2) := by decide +kernel
theorem dX4_applied_46 : decode cX4_applied 46 = .ok (.iload 5, 2) := by decide +kernel
theorem dX4_applied_48 : decode cX4_applied 48 = .ok (.iconst 2, 1) := by decide +kernel
theorem dX4_applied_49 : decode cX4_applied 49 = .ok (.aload_n 0, 1) := by decide +kernel
theorem dX4_applied_50 : decode cX4_applied 50 = .ok (.getfield 21, 3) := by decide +kernel
theorem dX4_applied_53 : decode cX4_applied 53 = .ok (.iload_n 2, 1) := by decide +kernel
theorem dX4_applied_54 : decode cX4_applied 54 = .ok (.iaload, 1) := by decide +kernel
theorem dX4_applied_55 : decode cX4_applied 55 = .ok (.imul, 1) := by decide +kernel
theorem dX4_applied_56 : decode cX4_applied 56 = .ok (.ishl, 1) := by decide +kernel
theorem dX4_applied_57 : decode cX4_applied 57 = .ok (.iload 6, 2) := by decide +kernel
theorem dX4_applied_59 : decode cX4_applied 59 = .ok (.ior, 1) := by decide +kernel
theorem dX4_applied_60 : decode cX4_applied 60 = .ok (.istore 8, 2) := by decide +kernel
theorem dX4_applied_62 : decode cX4_applied 62 = .ok (.iload 8, 2) := by decide +kernel
theorem dX4_applied_64 : decode cX4_applied 64 = .ok (.iconst 2, 1) := by decide +kernel
theorem dX4_applied_65 : decode cX4_applied 65 = .ok (.iload 7, 2) := by decide +kernel
theorem dX4_applied_67 : decode cX4_applied 67 = .ok (.imul, 1) := by decide +kernel
theorem dX4_applied_68 : decode cX4_applied 68 = .ok (.ishl, 1) := by decide +kernel
theorem dX4_applied_69 : decode cX4_applied 69 = .ok (.iload_n 1, 1) := by decide +kernel
theorem dX4_applied_70 : decode cX4_applied 70 = .ok (.iload 7, 2) := by decide +kernel
theorem dX4_applied_72 : decode cX4_applied 72 = .ok (.invokestatic 55, 3) := by decide +kernel
theorem dX4_applied_75 : decode cX4_applied 75 = .ok (.ior, 1) := by decide +kernel
theorem dX4_applied_76 : decode cX4_applied 76 = .ok (.ireturn, 1) := by decide +kernel
end
section
theorem dX5_init_0 : decode cX5_init 0 = .ok (.aload_n 0, 1) := by decide +kernel
theorem dX5_init_1 : decode cX5_init 1 = .ok (.invokespecial 3, 3) := by decide +kernel
theorem dX5_init_4 : decode cX5_init 4 = .ok (.return_, 1) := by decide +kernel
set_option maxRecDepth 20000 in
theorem ggX5_run_X8_readCommand : GoodIn wsX5_run wsX8_readCommand := goodIn_r _ [8, 9, 10, 11, 12, 13, 14, 15, 6, 16, 17, 18, 19, 20, 21, 22, 23, 24, 25, 26, 27, 28, 29, 30, 31, 32, 33, 34, 166, 167, 168, 169, 170, 171, 172] (by decide +kernel) (by decide +kernel)
set_option maxRecDepth 20000 in
theorem gX5_run_X8_readCommand_n29 : GoodIn wsX5_run (wsX8_readCommand) := ggX5_run_X8_readCommand
set_option maxRecDepth 20000 in
theorem ggX5_run_X5_perform : GoodIn wsX5_run wsX5_perform := goodIn_r _ [39, 40, 41, 42, 38, 43, 44, 24, 45, 46, 47, 48, 49, 3, 4, 50, 51, 52, 53, 54, 55, 56, 57, 58, 59, 60, 61, 62, 63, 64, 65, 66, 67, 68, 69, 70, 71, 72, 73, 74, 75, 76, 77, 78, 79, 80, 81, 82, 83, 84, 85, 86, 87, 88, 89, 90, 91, 92, 93, 94, 95, 96, 97, 98, 99, 100, 101, 102, 103, 104, 105, 106, 107, 108, 109, 110, 111, 112, 113, 114, 115, 116, 117, 118, 119, 120, 121, 122, 123, 124, 125, 126, 127, 128, 129, 130, 131, 132, 133, 134, 135, 136, 137, 138, 139, 140, 141, 142, 143, 144, 145, 146, 147, 148, 149, 150, 151, 152, 153, 154, 155, 156, 157, 158, 159, 160, 161, 166, 167, 168, 169, 170, 171, 172, 173, 174, 175, 176, 177, 178, 162, 163, 164, 165, 179, 180, 181, 182, 183, 184, 185, 186, 187, 188, 189, 190, 191, 192] (by decide +kernel) (by decide +kernel)
set_option maxRecDepth 20000 in
theorem gX5_run_X5_perform : GoodIn wsX5_run (wsV RX5 33 RX5 yX5_perform wsX5_perform) := goodIn_app (goodIn_of _ (by decide +kernel)) ggX5_run_X5_perform
set_option maxRecDepth 20000 in
theorem ggX5_run_X5_failWith : GoodIn wsX5_run wsX5_failWith := goodIn_r _ [49, 3, 4, 162, 163, 164, 165] (by decide +kernel) (by decide +kernel)
set_option maxRecDepth 20000 in
theorem gX5_run_X5_failWith : GoodIn wsX5_run (wsV RX5 40 RX5 yX5_failWith wsX5_failWith) := goodIn_app (goodIn_of _ (by decide +kernel)) ggX5_run_X5_failWith
theorem dX5_run_0 : decode cX5_run 0 = .ok (.aload_n 0, 1) := by decide +kernel
theorem dX5_run_1 : decode cX5_run 1 = .ok (.iconst 0, 1) := by decide +kernel
theorem dX5_run_2 : decode cX5_run 2 = .ok (.putfield 9, 3) := by decide +kernel
theorem dX5_run_5 : decode cX5_run 5 = .ok (.aload_n 0, 1) := by decide +kernel
theorem dX5_run_6 : decode cX5_run 6 = .ok (.iconst 0, 1) := by decide +kernel
theorem dX5_run_7 : decode cX5_run 7 = .ok (.putfield 15, 3) := by decide +kernel
theorem dX5_run_10 : decode cX5_run 10 = .ok (.aload_n 0, 1) := by decide +kernel
theorem dX5_run_11 : decode cX5_run 11 = .ok (.iconst 0, 1) := by decide +kernel
theorem dX5_run_12 : decode cX5_run 12 = .ok (.putfield 18, 3) := by decide +kernel
theorem dX5_run_15 : decode cX5_run 15 = .ok (.aload_n 0, 1) := by decide +kernel
theorem dX5_run_16 : decode cX5_run 16 = .ok (.iconst 0, 1) := by decide +kernel
theorem dX5_run_17 : decode cX5_run 17 = .ok (.putfield 21, 3) := by decide +kernel
theorem dX5_run_20 : decode cX5_run 20 = .ok (.iconst 0, 1) := by decide +kernel
theorem dX5_run_21 : decode cX5_run 21 = .ok (.istore 4, 2) := by decide +kernel
theorem dX5_run_23 : decode cX5_run 23 = .ok (.iload 4, 2) := by decide +kernel
theorem dX5_run_25 : decode cX5_run 25 = .ok (.bipush 80, 2) := by decide +kernel
theorem dX5_run_27 : decode cX5_run 27 = .ok (.if_icmp .ge 81, 3) := by decide +kernel
theorem dX5_run_30 : decode cX5_run 30 = .ok (.aload_n 0, 1) := by decide +kernel
theorem dX5_run_31 : decode cX5_run 31 = .ok (.getfield 15, 3) := by decide +kernel
theorem dX5_run_34 : decode cX5_run 34 = .ok (.aload_n 1, 1) := by decide +kernel
theorem dX5_run_35 : decode cX5_run 35 = .ok (.getfield 24, 3) := by decide +kernel
theorem dX5_run_38 : decode cX5_run 38 = .ok (.if_icmp .ge 70, 3) := by decide +kernel
theorem dX5_run_41 : decode cX5_run 41 = .ok (.aload_n 1, 1) := by decide +kernel
theorem dX5_run_42 : decode cX5_run 42 = .ok (.aload_n 0, 1) := by decide +kernel
theorem dX5_run_43 : decode cX5_run 43 = .ok (.getfield 15, 3) := by decide +kernel
theorem dX5_run_46 : decode cX5_run 46 = .ok (.invokevirtual 29, 3) := by decide +kernel
theorem dX5_run_49 : decode cX5_run 49 = .ok (.ifCond .eq 13, 3) := by decide +kernel
theorem dX5_run_52 : decode cX5_run 52 = .ok (.aload_n 0, 1) := by decide +kernel
theorem dX5_run_53 : decode cX5_run 53 = .ok (.aload_n 1, 1) := by decide +kernel
theorem dX5_run_54 : decode cX5_run 54 = .ok (.aload_n 2, 1) := by decide +kernel
theorem dX5_run_55 : decode cX5_run 55 = .ok (.aload_n 3, 1) := by decide +kernel
theorem dX5_run_56 : decode cX5_run 56 = .ok (.invokevirtual 33, 3) := by decide +kernel
theorem dX5_run_59 : decode cX5_run 59 = .ok (.goto 17, 3) := by decide +kernel
theorem dX5_run_62 : decode cX5_run 62 = .ok (.aload_n 0, 1) := by decide +kernel
theorem dX5_run_63 : decode cX5_run 63 = .ok (.iconst 1, 1) := by decide +kernel
theorem dX5_run_64 : decode cX5_run 64 = .ok (.aload_n 1, 1) := by decide +kernel
theorem dX5_run_65 : decode cX5_run 65 = .ok (.getfield 37, 3) := by decide +kernel
theorem dX5_run_68 : decode cX5_run 68 = .ok (.aload_n 0, 1) := by decide +kernel
theorem dX5_run_69 : decode cX5_run 69 = .ok (.getfield 15, 3) := by decide +kernel
theorem dX5_run_72 : decode cX5_run 72 = .ok (.isub, 1) := by decide +kernel
theorem dX5_run_73 : decode cX5_run 73 = .ok (.invokevirtual 40, 3) := by decide +kernel
theorem dX5_run_76 : decode cX5_run 76 = .ok (.aload_n 0, 1) := by decide +kernel
theorem dX5_run_77 : decode cX5_run 77 = .ok (.getfield 18, 3) := by decide +kernel
theorem dX5_run_80 : decode cX5_run 80 = .ok (.ifCond .eq 4, 3) := by decide +kernel
theorem dX5_run_83 : decode cX5_run 83 = .ok (.return_, 1) := by decide +kernel
theorem dX5_run_84 : decode cX5_run 84 = .ok (.aload_n 0, 1) := by decide +kernel
theorem dX5_run_85 : decode cX5_run 85 = .ok (.dup, 1) := by decide +kernel
theorem dX5_run_86 : decode cX5_run 86 = .ok (.getfield 9, 3) := by decide +kernel
theorem dX5_run_89 : decode cX5_run 89 = .ok (.iconst 1, 1) := by decide +kernel
theorem dX5_run_90 : decode cX5_run 90 = .ok (.iadd, 1) := by decide +kernel
theorem dX5_run_91 : decode cX5_run 91 = .ok (.putfield 9, 3) := by decide +kernel
theorem dX5_run_94 : decode cX5_run 94 = .ok (.aload_n 0, 1) := by decide +kernel
theorem dX5_run_95 : decode cX5_run 95 = .ok (.aload_n 1, 1) := by decide +kernel
theorem dX5_run_96 : decode cX5_run 96 = .ok (.getfield 37, 3) := by decide +kernel
theorem dX5_run_99 : decode cX5_run 99 = .ok (.putfield 15, 3) := by decide +kernel
theorem dX5_run_102 : decode cX5_run 102 = .ok (.iinc 4 1, 3) := by decide +kernel
theorem dX5_run_105 : decode cX5_run 105 = .ok (.goto (-82), 3) := by decide +kernel
theorem dX5_run_108 : decode cX5_run 108 = .ok (.return_, 1) := by decide +kernel
theorem dX5_failWith_0 : decode cX5_failWith 0 = .ok (.aload_n 0, 1) := by decide +kernel
theorem dX5_failWith_1 : decode cX5_failWith 1 = .ok (.iload_n 1, 1) := by decide +kernel
theorem dX5_failWith_2 : decode cX5_failWith 2 = .ok (.putfield 18, 3) := by decide +kernel
theorem dX5_failWith_5 : decode cX5_failWith 5 = .ok (.aload_n 0, 1) := by decide +kernel
theorem dX5_failWith_6 : decode cX5_failWith 6 = .ok (.iload_n 2, 1) := by decide +kernel
theorem dX5_failWith_7 : decode cX5_failWith 7 = .ok (.putfield 21, 3) := by decide +kernel
theorem dX5_failWith_10 : decode cX5_failWith 10 = .ok (.return_, 1) := by decide +kernel
set_option maxRecDepth 20000 in
theorem ggX5_perform_X5_addRule : GoodIn wsX5_perform wsX5_addRule := goodIn_r _ [5, 6, 7, 8, 9, 10, 11, 4, 12, 13, 14, 15, 16, 17, 18, 19, 20, 21, 22, 23, 24, 25, 26, 27, 28, 29, 30, 31, 32, 33, 34, 35, 36, 37, 134, 135, 136, 137, 138, 139, 140, 141, 142, 143, 144, 145, 146, 147, 148, 149, 150, 151, 152] (by decide +kernel) (by decide +kernel)
set_option maxRecDepth 20000 in
theorem gX5_perform_X5_addRule : GoodIn wsX5_perform (wsV RX5 53 RX5 yX5_addRule wsX5_addRule) := goodIn_app (goodIn_of _ (by decide +kernel)) ggX5_perform_X5_addRule
set_option maxRecDepth 20000 in
theorem ggX5_perform_X5_removeRule : GoodIn wsX5_perform wsX5_removeRule := goodIn_r _ [41, 42, 16, 43, 44, 19, 45, 26, 46, 47, 29, 30, 48, 49, 50, 20, 21, 34, 35, 36, 51, 9, 10, 11, 4, 12, 13, 14, 134, 135, 136, 137, 138, 139, 144, 145, 146, 147, 148, 149, 150, 151, 152, 140, 141, 142, 143] (by decide +kernel) (by decide +kernel)
set_option maxRecDepth 20000 in
theorem gX5_perform_X5_removeRule : GoodIn wsX5_perform (wsV RX5 60 RX5 yX5_removeRule wsX5_removeRule) := goodIn_app (goodIn_of _ (by decide +kernel)) ggX5_perform_X5_removeRule
set_option maxRecDepth 20000 in
theorem ggX5_perform_X5_setWord : GoodIn wsX5_perform wsX5_setWord := goodIn_r _ [55, 6, 7, 8, 9, 10, 11, 4, 12, 13, 14, 134, 135, 136, 137, 138, 139, 140, 141, 142, 143] (by decide +kernel) (by decide +kernel)
set_option maxRecDepth 20000 in
theorem gX5_perform_X5_setWord : GoodIn wsX5_perform (wsV RX5 64 RX5 yX5_setWord wsX5_setWord) := goodIn_app (goodIn_of _ (by decide +kernel)) ggX5_perform_X5_setWord
set_option maxRecDepth 20000 in
theorem ggX5_perform_X6_takeStep : GoodIn wsX5_perform wsX6_takeStep := goodIn_r _ [58, 29, 59, 60, 61, 62, 63, 16, 64, 65, 19, 6, 7, 8, 66, 67, 68, 69, 34, 20, 70, 71, 72, 73, 74, 75, 76, 21, 35, 77, 78, 134, 135, 136, 137, 138, 139, 144, 145, 146, 147, 148, 149] (by decide +kernel) (by decide +kernel)
set_option maxRecDepth 20000 in
theorem gX5_perform_X6_takeStep_n67 : GoodIn wsX5_perform (wsX6_takeStep) := ggX5_perform_X6_takeStep
set_option maxRecDepth 20000 in
theorem ggX5_perform_X5_failWith : GoodIn wsX5_perform wsX5_failWith := goodIn_r _ [12, 13, 14, 140, 141, 142, 143] (by decide +kernel) (by decide +kernel)
set_option maxRecDepth 20000 in
theorem gX5_perform_X5_failWith : GoodIn wsX5_perform (wsV RX5 40 RX5 yX5_failWith wsX5_failWith) := goodIn_app (goodIn_of _ (by decide +kernel)) ggX5_perform_X5_failWith
set_option maxRecDepth 20000 in
theorem ggX5_perform_X6_reduce : GoodIn wsX5_perform wsX6_reduce := goodIn_r _ [81, 30, 59, 82, 29, 60, 61, 83, 62, 84, 85, 86, 87, 88, 89, 90, 91, 92, 93, 94, 95, 96, 97, 98, 99, 100, 101, 102, 103, 104, 105, 106, 107, 108, 109, 110, 63, 16, 64, 65, 19, 6, 7, 8, 66, 67, 68, 69, 34, 20, 70, 71, 72, 73, 74, 75, 76, 21, 35, 77, 78, 111, 112, 113, 114, 115, 116, 117, 118, 119, 134, 135, 136, 137, 138, 139, 153, 154, 155, 156, 157, 150, 151, 152, 144, 145, 146, 147, 148, 149] (by decide +kernel) (by decide +kernel)
set_option maxRecDepth 20000 in
theorem gX5_perform_X6_reduce_n73 : GoodIn wsX5_perform (wsX6_reduce) := ggX5_perform_X6_reduce
set_option maxRecDepth 20000 in
theorem ggX5_perform_X5_setChoosing : GoodIn wsX5_perform wsX5_setChoosing := goodIn_r _ [123, 124, 26, 125, 126, 60, 30, 9, 10, 11, 4, 12, 13, 14, 134, 135, 136, 137, 138, 139, 150, 151, 152, 140, 141, 142, 143] (by decide +kernel) (by decide +kernel)
set_option maxRecDepth 20000 in
theorem gX5_perform_X5_setChoosing : GoodIn wsX5_perform (wsV RX5 77 RX5 yX5_setChoosing wsX5_setChoosing) := goodIn_app (goodIn_of _ (by decide +kernel)) ggX5_perform_X5_setChoosing
theorem dX5_perform_0 : decode cX5_perform 0 = .ok (.aload_n 1, 1) := by decide +kernel
theorem dX5_perform_1 : decode cX5_perform 1 = .ok (.getfield 44, 3) := by decide +kernel
theorem dX5_perform_4 : decode cX5_perform 4 = .ok (.lookupswitch 125 #[(43, 52), (45, 68), (61, 80), (110, 108), (115, 92)], 52) := by decide +kernel
theorem dX5_perform_56 : decode cX5_perform 56 = .ok (.aload_n 0, 1) := by decide +kernel
theorem dX5_perform_57 : decode cX5_perform 57 = .ok (.aload_n 1, 1) := by decide +kernel
theorem dX5_perform_58 : decode cX5_perform 58 = .ok (.getfield 47, 3) := by decide +kernel
theorem dX5_perform_61 : decode cX5_perform 61 = .ok (.aload_n 1, 1) := by decide +kernel
theorem dX5_perform_62 : decode cX5_perform 62 = .ok (.getfield 50, 3) := by decide +kernel
theorem dX5_perform_65 : decode cX5_perform 65 = .ok (.aload_n 2, 1) := by decide +kernel
theorem dX5_perform_66 : decode cX5_perform 66 = .ok (.invokevirtual 53, 3) := by decide +kernel
theorem dX5_perform_69 : decode cX5_perform 69 = .ok (.goto 69, 3) := by decide +kernel
theorem dX5_perform_72 : decode cX5_perform 72 = .ok (.aload_n 0, 1) := by decide +kernel
theorem dX5_perform_73 : decode cX5_perform 73 = .ok (.aload_n 1, 1) := by decide +kernel
theorem dX5_perform_74 : decode cX5_perform 74 = .ok (.getfield 57, 3) := by decide +kernel
theorem dX5_perform_77 : decode cX5_perform 77 = .ok (.aload_n 2, 1) := by decide +kernel
theorem dX5_perform_78 : decode cX5_perform 78 = .ok (.invokevirtual 60, 3) := by decide +kernel
theorem dX5_perform_81 : decode cX5_perform 81 = .ok (.goto 57, 3) := by decide +kernel
theorem dX5_perform_84 : decode cX5_perform 84 = .ok (.aload_n 0, 1) := by decide +kernel
theorem dX5_perform_85 : decode cX5_perform 85 = .ok (.aload_n 1, 1) := by decide +kernel
theorem dX5_perform_86 : decode cX5_perform 86 = .ok (.getfield 47, 3) := by decide +kernel
theorem dX5_perform_89 : decode cX5_perform 89 = .ok (.aload_n 2, 1) := by decide +kernel
theorem dX5_perform_90 : decode cX5_perform 90 = .ok (.invokevirtual 64, 3) := by decide +kernel
theorem dX5_perform_93 : decode cX5_perform 93 = .ok (.goto 45, 3) := by decide +kernel
theorem dX5_perform_96 : decode cX5_perform 96 = .ok (.aload_n 2, 1) := by decide +kernel
theorem dX5_perform_97 : decode cX5_perform 97 = .ok (.invokevirtual 67, 3) := by decide +kernel
theorem dX5_perform_100 : decode cX5_perform 100 = .ok (.ifCond .ge 38, 3) := by decide +kernel
theorem dX5_perform_103 : decode cX5_perform 103 = .ok (.aload_n 0, 1) := by decide +kernel
theorem dX5_perform_104 : decode cX5_perform 104 = .ok (.iconst 3, 1) := by decide +kernel
theorem dX5_perform_105 : decode cX5_perform 105 = .ok (.iconst 4, 1) := by decide +kernel
theorem dX5_perform_106 : decode cX5_perform 106 = .ok (.invokevirtual 40, 3) := by decide +kernel
theorem dX5_perform_109 : decode cX5_perform 109 = .ok (.goto 29, 3) := by decide +kernel
theorem dX5_perform_112 : decode cX5_perform 112 = .ok (.aload_n 2, 1) := by decide +kernel
theorem dX5_perform_113 : decode cX5_perform 113 = .ok (.aload_n 3, 1) := by decide +kernel
theorem dX5_perform_114 : decode cX5_perform 114 = .ok (.invokevirtual 73, 3) := by decide +kernel
theorem dX5_perform_117 : decode cX5_perform 117 = .ok (.ifCond .ge 21, 3) := by decide +kernel
theorem dX5_perform_120 : decode cX5_perform 120 = .ok (.aload_n 0, 1) := by decide +kernel
theorem dX5_perform_121 : decode cX5_perform 121 = .ok (.iconst 3, 1) := by decide +kernel
theorem dX5_perform_122 : decode cX5_perform 122 = .ok (.iconst 5, 1) := by decide +kernel
theorem dX5_perform_123 : decode cX5_perform 123 = .ok (.invokevirtual 40, 3) := by decide +kernel
theorem dX5_perform_126 : decode cX5_perform 126 = .ok (.goto 12, 3) := by decide +kernel
theorem dX5_perform_129 : decode cX5_perform 129 = .ok (.aload_n 0, 1) := by decide +kernel
theorem dX5_perform_130 : decode cX5_perform 130 = .ok (.aload_n 1, 1) := by decide +kernel
theorem dX5_perform_131 : decode cX5_perform 131 = .ok (.getfield 57, 3) := by decide +kernel
theorem dX5_perform_134 : decode cX5_perform 134 = .ok (.aload_n 2, 1) := by decide +kernel
theorem dX5_perform_135 : decode cX5_perform 135 = .ok (.invokevirtual 77, 3) := by decide +kernel
theorem dX5_perform_138 : decode cX5_perform 138 = .ok (.return_, 1) := by decide +kernel
set_option maxRecDepth 20000 in
theorem ggX5_addRule_X9_lengthOf : GoodIn wsX5_addRule wsX9_lengthOf := goodIn_r _ [3] (by decide +kernel) (by decide +kernel)
set_option maxRecDepth 20000 in
theorem gX5_addRule_X9_lengthOf_n80 : GoodIn wsX5_addRule (wsX9_lengthOf) := ggX5_addRule_X9_lengthOf
set_option maxRecDepth 20000 in
theorem ggX5_addRule_X5_failWith : GoodIn wsX5_addRule wsX5_failWith := goodIn_r _ [8, 9, 10, 40, 41, 42, 43] (by decide +kernel) (by decide +kernel)
set_option maxRecDepth 20000 in
theorem gX5_addRule_X5_failWith : GoodIn wsX5_addRule (wsV RX5 40 RX5 yX5_failWith wsX5_failWith) := goodIn_app (goodIn_of _ (by decide +kernel)) ggX5_addRule_X5_failWith
set_option maxRecDepth 20000 in
theorem ggX5_addRule_X4_hasSides : GoodIn wsX5_addRule wsX4_hasSides := goodIn_r _ [14, 15, 16, 17, 44, 45, 46, 47, 48, 49] (by decide +kernel) (by decide +kernel)
set_option maxRecDepth 20000 in
theorem gX5_addRule_X4_hasSides_n90 : GoodIn wsX5_addRule (wsX4_hasSides) := ggX5_addRule_X4_hasSides
set_option maxRecDepth 20000 in
theorem ggX5_addRule_X4_isFull : GoodIn wsX5_addRule wsX4_isFull := goodIn_r _ [20, 15, 44, 45, 46, 47, 48, 49] (by decide +kernel) (by decide +kernel)
set_option maxRecDepth 20000 in
theorem gX5_addRule_X4_isFull_n96 : GoodIn wsX5_addRule (wsX4_isFull) := ggX5_addRule_X4_isFull
set_option maxRecDepth 20000 in
theorem ggX5_addRule_X6_addRule : GoodIn wsX5_addRule wsX6_addRule := goodIn_r _ [24, 25, 26, 27, 12, 28, 29, 16, 15, 17, 30, 31, 32, 33, 18, 19, 20, 1, 2, 3, 34, 35, 36, 37, 38, 39, 50, 51, 52, 44, 45, 46, 47, 48, 49] (by decide +kernel) (by decide +kernel)
set_option maxRecDepth 20000 in
theorem gX5_addRule_X6_addRule_n100 : GoodIn wsX5_addRule (wsX6_addRule) := ggX5_addRule_X6_addRule
theorem dX5_addRule_0 : decode cX5_addRule 0 = .ok (.iload_n 1, 1) := by decide +kernel
theorem dX5_addRule_1 : decode cX5_addRule 1 = .ok (.invokestatic 80, 3) := by decide +kernel
theorem dX5_addRule_4 : decode cX5_addRule 4 = .ok (.istore 4, 2) := by decide +kernel
theorem dX5_addRule_6 : decode cX5_addRule 6 = .ok (.iload_n 2, 1) := by decide +kernel
theorem dX5_addRule_7 : decode cX5_addRule 7 = .ok (.invokestatic 80, 3) := by decide +kernel
theorem dX5_addRule_10 : decode cX5_addRule 10 = .ok (.istore 5, 2) := by decide +kernel
theorem dX5_addRule_12 : decode cX5_addRule 12 = .ok (.iload 4, 2) := by decide +kernel
theorem dX5_addRule_14 : decode cX5_addRule 14 = .ok (.ifCond .eq 15, 3) := by decide +kernel
theorem dX5_addRule_17 : decode cX5_addRule 17 = .ok (.iload 4, 2) := by decide +kernel
theorem dX5_addRule_19 : decode cX5_addRule 19 = .ok (.iconst 4, 1) := by decide +kernel
theorem dX5_addRule_20 : decode cX5_addRule 20 = .ok (.if_icmp .gt 9, 3) := by decide +kernel
theorem dX5_addRule_23 : decode cX5_addRule 23 = .ok (.iload 5, 2) := by decide +kernel
theorem dX5_addRule_25 : decode cX5_addRule 25 = .ok (.iconst 4, 1) := by decide +kernel
theorem dX5_addRule_26 : decode cX5_addRule 26 = .ok (.if_icmp .le 12, 3) := by decide +kernel
theorem dX5_addRule_29 : decode cX5_addRule 29 = .ok (.aload_n 0, 1) := by decide +kernel
theorem dX5_addRule_30 : decode cX5_addRule 30 = .ok (.iconst 2, 1) := by decide +kernel
theorem dX5_addRule_31 : decode cX5_addRule 31 = .ok (.iconst 0, 1) := by decide +kernel
theorem dX5_addRule_32 : decode cX5_addRule 32 = .ok (.invokevirtual 40, 3) := by decide +kernel
theorem dX5_addRule_35 : decode cX5_addRule 35 = .ok (.goto 70, 3) := by decide +kernel
theorem dX5_addRule_38 : decode cX5_addRule 38 = .ok (.iload 5, 2) := by decide +kernel
theorem dX5_addRule_40 : decode cX5_addRule 40 = .ok (.iload 4, 2) := by decide +kernel
theorem dX5_addRule_42 : decode cX5_addRule 42 = .ok (.if_icmp .gt 8, 3) := by decide +kernel
theorem dX5_addRule_45 : decode cX5_addRule 45 = .ok (.iload_n 1, 1) := by decide +kernel
theorem dX5_addRule_46 : decode cX5_addRule 46 = .ok (.iload_n 2, 1) := by decide +kernel
theorem dX5_addRule_47 : decode cX5_addRule 47 = .ok (.if_icmp .ne 12, 3) := by decide +kernel
theorem dX5_addRule_50 : decode cX5_addRule 50 = .ok (.aload_n 0, 1) := by decide +kernel
theorem dX5_addRule_51 : decode cX5_addRule 51 = .ok (.iconst 3, 1) := by decide +kernel
theorem dX5_addRule_52 : decode cX5_addRule 52 = .ok (.iconst 1, 1) := by decide +kernel
theorem dX5_addRule_53 : decode cX5_addRule 53 = .ok (.invokevirtual 40, 3) := by decide +kernel
theorem dX5_addRule_56 : decode cX5_addRule 56 = .ok (.goto 49, 3) := by decide +kernel
theorem dX5_addRule_59 : decode cX5_addRule 59 = .ok (.aload_n 3, 1) := by decide +kernel
theorem dX5_addRule_60 : decode cX5_addRule 60 = .ok (.getfield 86, 3) := by decide +kernel
theorem dX5_addRule_63 : decode cX5_addRule 63 = .ok (.iload_n 1, 1) := by decide +kernel
theorem dX5_addRule_64 : decode cX5_addRule 64 = .ok (.iload_n 2, 1) := by decide +kernel
theorem dX5_addRule_65 : decode cX5_addRule 65 = .ok (.invokevirtual 90, 3) := by decide +kernel
theorem dX5_addRule_68 : decode cX5_addRule 68 = .ok (.ifCond .eq 12, 3) := by decide +kernel
theorem dX5_addRule_71 : decode cX5_addRule 71 = .ok (.aload_n 0, 1) := by decide +kernel
theorem dX5_addRule_72 : decode cX5_addRule 72 = .ok (.iconst 3, 1) := by decide +kernel
theorem dX5_addRule_73 : decode cX5_addRule 73 = .ok (.iconst 2, 1) := by decide +kernel
theorem dX5_addRule_74 : decode cX5_addRule 74 = .ok (.invokevirtual 40, 3) := by decide +kernel
theorem dX5_addRule_77 : decode cX5_addRule 77 = .ok (.goto 28, 3) := by decide +kernel
theorem dX5_addRule_80 : decode cX5_addRule 80 = .ok (.aload_n 3, 1) := by decide +kernel
theorem dX5_addRule_81 : decode cX5_addRule 81 = .ok (.getfield 86, 3) := by decide +kernel
theorem dX5_addRule_84 : decode cX5_addRule 84 = .ok (.invokevirtual 96, 3) := by decide +kernel
theorem dX5_addRule_87 : decode cX5_addRule 87 = .ok (.ifCond .eq 12, 3) := by decide +kernel
theorem dX5_addRule_90 : decode cX5_addRule 90 = .ok (.aload_n 0, 1) := by decide +kernel
theorem dX5_addRule_91 : decode cX5_addRule 91 = .ok (.iconst 3, 1) := by decide +kernel
theorem dX5_addRule_92 : decode cX5_addRule 92 = .ok (.iconst 3, 1) := by decide +kernel
theorem dX5_addRule_93 : decode cX5_addRule 93 = .ok (.invokevirtual 40, 3) := by decide +kernel
theorem dX5_addRule_96 : decode cX5_addRule 96 = .ok (.goto 9, 3) := by decide +kernel
theorem dX5_addRule_99 : decode cX5_addRule 99 = .ok (.aload_n 3, 1) := by decide +kernel
theorem dX5_addRule_100 : decode cX5_addRule 100 = .ok (.iload_n 1, 1) := by decide +kernel
theorem dX5_addRule_101 : decode cX5_addRule 101 = .ok (.iload_n 2, 1) := by decide +kernel
theorem dX5_addRule_102 : decode cX5_addRule 102 = .ok (.invokevirtual 100, 3) := by decide +kernel
theorem dX5_addRule_105 : decode cX5_addRule 105 = .ok (.return_, 1) := by decide +kernel
set_option maxRecDepth 20000 in
theorem ggX5_removeRule_X4_contains : GoodIn wsX5_removeRule wsX4_contains := goodIn_r _ [4, 5, 34, 35, 36, 37, 38, 39] (by decide +kernel) (by decide +kernel)
set_option maxRecDepth 20000 in
theorem gX5_removeRule_X4_contains_n102 : GoodIn wsX5_removeRule (wsX4_contains) := ggX5_removeRule_X4_contains
set_option maxRecDepth 20000 in
theorem ggX5_removeRule_X6_removeRule : GoodIn wsX5_removeRule wsX6_removeRule := goodIn_r _ [9, 10, 11, 12, 2, 13, 14, 5, 15, 16, 17, 18, 19, 20, 1, 3, 4, 28, 29, 30, 31, 32, 33, 40, 41, 42, 34, 35, 36, 37, 38, 39] (by decide +kernel) (by decide +kernel)
set_option maxRecDepth 20000 in
theorem gX5_removeRule_X6_removeRule_n105 : GoodIn wsX5_removeRule (wsX6_removeRule) := ggX5_removeRule_X6_removeRule
set_option maxRecDepth 20000 in
theorem ggX5_removeRule_X5_failWith : GoodIn wsX5_removeRule wsX5_failWith := goodIn_r _ [25, 26, 27, 43, 44, 45, 46] (by decide +kernel) (by decide +kernel)
set_option maxRecDepth 20000 in
theorem gX5_removeRule_X5_failWith : GoodIn wsX5_removeRule (wsV RX5 40 RX5 yX5_failWith wsX5_failWith) := goodIn_app (goodIn_of _ (by decide +kernel)) ggX5_removeRule_X5_failWith
theorem dX5_removeRule_0 : decode cX5_removeRule 0 = .ok (.aload_n 2, 1) := by decide +kernel
theorem dX5_removeRule_1 : decode cX5_removeRule 1 = .ok (.getfield 86, 3) := by decide +kernel
theorem dX5_removeRule_4 : decode cX5_removeRule 4 = .ok (.iload_n 1, 1) := by decide +kernel
theorem dX5_removeRule_5 : decode cX5_removeRule 5 = .ok (.invokevirtual 102, 3) := by decide +kernel
theorem dX5_removeRule_8 : decode cX5_removeRule 8 = .ok (.ifCond .eq 11, 3) := by decide +kernel
theorem dX5_removeRule_11 : decode cX5_removeRule 11 = .ok (.aload_n 2, 1) := by decide +kernel
theorem dX5_removeRule_12 : decode cX5_removeRule 12 = .ok (.iload_n 1, 1) := by decide +kernel
theorem dX5_removeRule_13 : decode cX5_removeRule 13 = .ok (.invokevirtual 105, 3) := by decide +kernel
theorem dX5_removeRule_16 : decode cX5_removeRule 16 = .ok (.goto 9, 3) := by decide +kernel
theorem dX5_removeRule_19 : decode cX5_removeRule 19 = .ok (.aload_n 0, 1) := by decide +kernel
theorem dX5_removeRule_20 : decode cX5_removeRule 20 = .ok (.iconst 2, 1) := by decide +kernel
theorem dX5_removeRule_21 : decode cX5_removeRule 21 = .ok (.iconst 0, 1) := by decide +kernel
theorem dX5_removeRule_22 : decode cX5_removeRule 22 = .ok (.invokevirtual 40, 3) := by decide +kernel
theorem dX5_removeRule_25 : decode cX5_removeRule 25 = .ok (.return_, 1) := by decide +kernel
set_option maxRecDepth 20000 in
theorem ggX5_setWord_X9_lengthOf : GoodIn wsX5_setWord wsX9_lengthOf := goodIn_r _ [3] (by decide +kernel) (by decide +kernel)
set_option maxRecDepth 20000 in
theorem gX5_setWord_X9_lengthOf_n80 : GoodIn wsX5_setWord (wsX9_lengthOf) := ggX5_setWord_X9_lengthOf
set_option maxRecDepth 20000 in
theorem ggX5_setWord_X5_failWith : GoodIn wsX5_setWord wsX5_failWith := goodIn_r _ [8, 9, 10, 17, 18, 19, 20] (by decide +kernel) (by decide +kernel)
set_option maxRecDepth 20000 in
theorem gX5_setWord_X5_failWith : GoodIn wsX5_setWord (wsV RX5 40 RX5 yX5_failWith wsX5_failWith) := goodIn_app (goodIn_of _ (by decide +kernel)) ggX5_setWord_X5_failWith
theorem dX5_setWord_0 : decode cX5_setWord 0 = .ok (.iload_n 1, 1) := by decide +kernel
theorem dX5_setWord_1 : decode cX5_setWord 1 = .ok (.invokestatic 80, 3) := by decide +kernel
theorem dX5_setWord_4 : decode cX5_setWord 4 = .ok (.bipush 12, 2) := by decide +kernel
theorem dX5_setWord_6 : decode cX5_setWord 6 = .ok (.if_icmp .gt 11, 3) := by decide +kernel
theorem dX5_setWord_9 : decode cX5_setWord 9 = .ok (.aload_n 2, 1) := by decide +kernel
theorem dX5_setWord_10 : decode cX5_setWord 10 = .ok (.iload_n 1, 1) := by decide +kernel
theorem dX5_setWord_11 : decode cX5_setWord 11 = .ok (.putfield 108, 3) := by decide +kernel
theorem dX5_setWord_14 : decode cX5_setWord 14 = .ok (.goto 9, 3) := by decide +kernel
theorem dX5_setWord_17 : decode cX5_setWord 17 = .ok (.aload_n 0, 1) := by decide +kernel
theorem dX5_setWord_18 : decode cX5_setWord 18 = .ok (.iconst 2, 1) := by decide +kernel
theorem dX5_setWord_19 : decode cX5_setWord 19 = .ok (.iconst 0, 1) := by decide +kernel
theorem dX5_setWord_20 : decode cX5_setWord 20 = .ok (.invokevirtual 40, 3) := by decide +kernel
theorem dX5_setWord_23 : decode cX5_setWord 23 = .ok (.return_, 1) := by decide +kernel
set_option maxRecDepth 20000 in
theorem ggX5_setChoosing_X6_setChoosing : GoodIn wsX5_setChoosing wsX6_setChoosing := goodIn_r _ [4, 5, 6, 14, 15, 16, 17, 18, 19, 20, 21, 22] (by decide +kernel) (by decide +kernel)
set_option maxRecDepth 20000 in
theorem gX5_setChoosing_X6_setChoosing_n111 : GoodIn wsX5_setChoosing (wsX6_setChoosing) := ggX5_setChoosing_X6_setChoosing
set_option maxRecDepth 20000 in
theorem ggX5_setChoosing_X5_failWith : GoodIn wsX5_setChoosing wsX5_failWith := goodIn_r _ [11, 12, 13, 23, 24, 25, 26] (by decide +kernel) (by decide +kernel)
set_option maxRecDepth 20000 in
theorem gX5_setChoosing_X5_failWith : GoodIn wsX5_setChoosing (wsV RX5 40 RX5 yX5_failWith wsX5_failWith) := goodIn_app (goodIn_of _ (by decide +kernel)) ggX5_setChoosing_X5_failWith
theorem dX5_setChoosing_0 : decode cX5_setChoosing 0 = .ok (.iload_n 1, 1) := by decide +kernel
theorem dX5_setChoosing_1 : decode cX5_setChoosing 1 = .ok (.iconst 2, 1) := by decide +kernel
theorem dX5_setChoosing_2 : decode cX5_setChoosing 2 = .ok (.if_icmp .gt 11, 3) := by decide +kernel
theorem dX5_setChoosing_5 : decode cX5_setChoosing 5 = .ok (.aload_n 2, 1) := by decide +kernel
theorem dX5_setChoosing_6 : decode cX5_setChoosing 6 = .ok (.iload_n 1, 1) := by decide +kernel
theorem dX5_setChoosing_7 : decode cX5_setChoosing 7 = .ok (.invokevirtual 111, 3) := by decide +kernel
theorem dX5_setChoosing_10 : decode cX5_setChoosing 10 = .ok (.goto 9, 3) := by decide +kernel
theorem dX5_setChoosing_13 : decode cX5_setChoosing 13 = .ok (.aload_n 0, 1) := by decide +kernel
theorem dX5_setChoosing_14 : decode cX5_setChoosing 14 = .ok (.iconst 2, 1) := by decide +kernel
theorem dX5_setChoosing_15 : decode cX5_setChoosing 15 = .ok (.iconst 0, 1) := by decide +kernel
theorem dX5_setChoosing_16 : decode cX5_setChoosing 16 = .ok (.invokevirtual 40, 3) := by decide +kernel
theorem dX5_setChoosing_19 : decode cX5_setChoosing 19 = .ok (.return_, 1) := by decide +kernel
set_option maxRecDepth 20000 in
theorem ggX6_init_X4_init : GoodIn wsX6_init wsX4_init := goodIn_r _ [15, 16, 2, 3, 17, 18, 19, 20, 21, 22, 28, 29, 30, 31, 32, 33] (by decide +kernel) (by decide +kernel)
set_option maxRecDepth 20000 in
theorem gX6_init_X4_init_n11 : GoodIn wsX6_init (wsX4_init) := ggX6_init_X4_init
set_option maxRecDepth 20000 in
theorem ggX6_init_X7_init : GoodIn wsX6_init wsX7_init := goodIn_r _ [24, 25, 2, 3, 17, 26, 27, 40, 41, 42] (by decide +kernel) (by decide +kernel)
set_option maxRecDepth 20000 in
theorem gX6_init_X7_init_n20 : GoodIn wsX6_init (wsX7_init) := ggX6_init_X7_init
theorem dX6_init_0 : decode cX6_init 0 = .ok (.aload_n 0, 1) := by decide +kernel
theorem dX6_init_1 : decode cX6_init 1 = .ok (.invokespecial 3, 3) := by decide +kernel
theorem dX6_init_4 : decode cX6_init 4 = .ok (.aload_n 0, 1) := by decide +kernel
theorem dX6_init_5 : decode cX6_init 5 = .ok (.new 9, 3) := by decide +kernel
theorem dX6_init_8 : decode cX6_init 8 = .ok (.dup, 1) := by decide +kernel
theorem dX6_init_9 : decode cX6_init 9 = .ok (.invokespecial 11, 3) := by decide +kernel
theorem dX6_init_12 : decode cX6_init 12 = .ok (.putfield 12, 3) := by decide +kernel
theorem dX6_init_15 : decode cX6_init 15 = .ok (.aload_n 0, 1) := by decide +kernel
theorem dX6_init_16 : decode cX6_init 16 = .ok (.new 18, 3) := by decide +kernel
theorem dX6_init_19 : decode cX6_init 19 = .ok (.dup, 1) := by decide +kernel
theorem dX6_init_20 : decode cX6_init 20 = .ok (.invokespecial 20, 3) := by decide +kernel
theorem dX6_init_23 : decode cX6_init 23 = .ok (.putfield 21, 3) := by decide +kernel
theorem dX6_init_26 : decode cX6_init 26 = .ok (.aload_n 0, 1) := by decide +kernel
theorem dX6_init_27 : decode cX6_init 27 = .ok (.iconst 1, 1) := by decide +kernel
theorem dX6_init_28 : decode cX6_init 28 = .ok (.putfield 27, 3) := by decide +kernel
theorem dX6_init_31 : decode cX6_init 31 = .ok (.aload_n 0, 1) := by decide +kernel
theorem dX6_init_32 : decode cX6_init 32 = .ok (.iconst 0, 1) := by decide +kernel
theorem dX6_init_33 : decode cX6_init 33 = .ok (.putfield 31, 3) := by decide +kernel
theorem dX6_init_36 : decode cX6_init 36 = .ok (.return_, 1) := by decide +kernel
set_option maxRecDepth 20000 in
theorem ggX6_takeOver_X4_takeOver : GoodIn wsX6_takeOver wsX4_takeOver := goodIn_r _ [10, 11, 12, 13, 14, 15, 16, 17, 18, 19, 20, 35, 36, 37, 38, 39, 40] (by decide +kernel) (by decide +kernel)
set_option maxRecDepth 20000 in
theorem gX6_takeOver_X4_takeOver_n34 : GoodIn wsX6_takeOver (wsX4_takeOver) := ggX6_takeOver_X4_takeOver
set_option maxRecDepth 20000 in
theorem ggX6_takeOver_X7_takeOver : GoodIn wsX6_takeOver wsX7_takeOver := goodIn_r _ [24, 25, 26, 13, 14, 15, 27, 28, 41, 42, 43] (by decide +kernel) (by decide +kernel)
set_option maxRecDepth 20000 in
theorem gX6_takeOver_X7_takeOver_n38 : GoodIn wsX6_takeOver (wsX7_takeOver) := ggX6_takeOver_X7_takeOver
theorem dX6_takeOver_0 : decode cX6_takeOver 0 = .ok (.aload_n 0, 1) := by decide +kernel
theorem dX6_takeOver_1 : decode cX6_takeOver 1 = .ok (.getfield 12, 3) := by decide +kernel
theorem dX6_takeOver_4 : decode cX6_takeOver 4 = .ok (.aload_n 1, 1) := by decide +kernel
theorem dX6_takeOver_5 : decode cX6_takeOver 5 = .ok (.getfield 12, 3) := by decide +kernel
theorem dX6_takeOver_8 : decode cX6_takeOver 8 = .ok (.invokevirtual 34, 3) := by decide +kernel
theorem dX6_takeOver_11 : decode cX6_takeOver 11 = .ok (.aload_n 0, 1) := by decide +kernel
theorem dX6_takeOver_12 : decode cX6_takeOver 12 = .ok (.getfield 21, 3) := by decide +kernel
theorem dX6_takeOver_15 : decode cX6_takeOver 15 = .ok (.aload_n 1, 1) := by decide +kernel
theorem dX6_takeOver_16 : decode cX6_takeOver 16 = .ok (.getfield 21, 3) := by decide +kernel
theorem dX6_takeOver_19 : decode cX6_takeOver 19 = .ok (.invokevirtual 38, 3) := by decide +kernel
theorem dX6_takeOver_22 : decode cX6_takeOver 22 = .ok (.aload_n 0, 1) := by decide +kernel
theorem dX6_takeOver_23 : decode cX6_takeOver 23 = .ok (.aload_n 1, 1) := by decide +kernel
theorem dX6_takeOver_24 : decode cX6_takeOver 24 = .ok (.getfield 27, 3) := by decide +kernel
theorem dX6_takeOver_27 : decode cX6_takeOver 27 = .ok (.putfield 27, 3) := by decide +kernel
theorem dX6_takeOver_30 : decode cX6_takeOver 30 = .ok (.aload_n 0, 1) := by decide +kernel
theorem dX6_takeOver_31 : decode cX6_takeOver 31 = .ok (.aload_n 1, 1) := by decide +kernel
theorem dX6_takeOver_32 : decode cX6_takeOver 32 = .ok (.getfield 31, 3) := by decide +kernel
theorem dX6_takeOver_35 : decode cX6_takeOver 35 = .ok (.putfield 31, 3) := by decide +kernel
theorem dX6_takeOver_38 : decode cX6_takeOver 38 = .ok (.aload_n 0, 1) := by decide +kernel
theorem dX6_takeOver_39 : decode cX6_takeOver 39 = .ok (.aload_n 1, 1) := by decide +kernel
theorem dX6_takeOver_40 : decode cX6_takeOver 40 = .ok (.getfield 41, 3) := by decide +kernel
theorem dX6_takeOver_43 : decode cX6_takeOver 43 = .ok (.putfield 41, 3) := by decide +kernel
theorem dX6_takeOver_46 : decode cX6_takeOver 46 = .ok (.aload_n 0, 1) := by decide +kernel
theorem dX6_takeOver_47 : decode cX6_takeOver 47 = .ok (.aload_n 1, 1) := by decide +kernel
theorem dX6_takeOver_48 : decode cX6_takeOver 48 = .ok (.getfield 44, 3) := by decide +kernel
theorem dX6_takeOver_51 : decode cX6_takeOver 51 = .ok (.putfield 44, 3) := by decide +kernel
theorem dX6_takeOver_54 : decode cX6_takeOver 54 = .ok (.return_, 1) := by decide +kernel
set_option maxRecDepth 20000 in
theorem ggX6_addRule_X4_add : GoodIn wsX6_addRule wsX4_add := goodIn_r _ [6, 7, 8, 9, 10, 11, 12, 13, 14, 15, 4, 16, 17, 18, 19, 29, 30, 31, 32, 33, 34] (by decide +kernel) (by decide +kernel)
set_option maxRecDepth 20000 in
theorem gX6_addRule_X4_add_n47 : GoodIn wsX6_addRule (wsX4_add) := ggX6_addRule_X4_add
theorem dX6_addRule_0 : decode cX6_addRule 0 = .ok (.aload_n 0, 1) := by decide +kernel
theorem dX6_addRule_1 : decode cX6_addRule 1 = .ok (.getfield 12, 3) := by decide +kernel
theorem dX6_addRule_4 : decode cX6_addRule 4 = .ok (.iload_n 1, 1) := by decide +kernel
theorem dX6_addRule_5 : decode cX6_addRule 5 = .ok (.iload_n 2, 1) := by decide +kernel
theorem dX6_addRule_6 : decode cX6_addRule 6 = .ok (.invokevirtual 47, 3) := by decide +kernel
theorem dX6_addRule_9 : decode cX6_addRule 9 = .ok (.aload_n 0, 1) := by decide +kernel
theorem dX6_addRule_10 : decode cX6_addRule 10 = .ok (.getfield 21, 3) := by decide +kernel
theorem dX6_addRule_13 : decode cX6_addRule 13 = .ok (.iconst 0, 1) := by decide +kernel
theorem dX6_addRule_14 : decode cX6_addRule 14 = .ok (.putfield 51, 3) := by decide +kernel
theorem dX6_addRule_17 : decode cX6_addRule 17 = .ok (.return_, 1) := by decide +kernel
set_option maxRecDepth 20000 in
theorem ggX6_removeRule_X4_remove : GoodIn wsX6_removeRule wsX4_remove := goodIn_r _ [6, 7, 8, 9, 10, 11, 12, 13, 14, 15, 4, 16, 26, 27, 28, 29, 30, 31] (by decide +kernel) (by decide +kernel)
set_option maxRecDepth 20000 in
theorem gX6_removeRule_X4_remove_n54 : GoodIn wsX6_removeRule (wsX4_remove) := ggX6_removeRule_X4_remove
theorem dX6_removeRule_0 : decode cX6_removeRule 0 = .ok (.aload_n 0, 1) := by decide +kernel
theorem dX6_removeRule_1 : decode cX6_removeRule 1 = .ok (.getfield 12, 3) := by decide +kernel
theorem dX6_removeRule_4 : decode cX6_removeRule 4 = .ok (.iload_n 1, 1) := by decide +kernel
theorem dX6_removeRule_5 : decode cX6_removeRule 5 = .ok (.invokevirtual 54, 3) := by decide +kernel
theorem dX6_removeRule_8 : decode cX6_removeRule 8 = .ok (.aload_n 0, 1) := by decide +kernel
theorem dX6_removeRule_9 : decode cX6_removeRule 9 = .ok (.getfield 21, 3) := by decide +kernel
theorem dX6_removeRule_12 : decode cX6_removeRule 12 = .ok (.iconst 0, 1) := by decide +kernel
theorem dX6_removeRule_13 : decode cX6_removeRule 13 = .ok (.putfield 51, 3) := by decide +kernel
theorem dX6_removeRule_16 : decode cX6_removeRule 16 = .ok (.return_, 1) := by decide +kernel
theorem dX6_setChoosing_0 : decode cX6_setChoosing 0 = .ok (.aload_n 0, 1) := by decide +kernel
theorem dX6_setChoosing_1 : decode cX6_setChoosing 1 = .ok (.iload_n 1, 1) := by decide +kernel
theorem dX6_setChoosing_2 : decode cX6_setChoosing 2 = .ok (.putfield 31, 3) := by decide +kernel
theorem dX6_setChoosing_5 : decode cX6_setChoosing 5 = .ok (.aload_n 0, 1) := by decide +kernel
theorem dX6_setChoosing_6 : decode cX6_setChoosing 6 = .ok (.getfield 21, 3) := by decide +kernel
theorem dX6_setChoosing_9 : decode cX6_setChoosing 9 = .ok (.iconst 0, 1) := by decide +kernel
theorem dX6_setChoosing_10 : decode cX6_setChoosing 10 = .ok (.putfield 51, 3) := by decide +kernel
theorem dX6_setChoosing_13 : decode cX6_setChoosing 13 = .ok (.return_, 1) := by decide +kernel
set_option maxRecDepth 20000 in
theorem ggX6_takeStep_X4_choiceFor : GoodIn wsX6_takeStep wsX4_choiceFor := goodIn_r _ [9, 10, 11, 12, 13, 14, 15, 16, 7, 17, 18, 19, 37, 38, 39, 40, 41, 42] (by decide +kernel) (by decide +kernel)
set_option maxRecDepth 20000 in
theorem gX6_takeStep_X4_choiceFor_n58 : GoodIn wsX6_takeStep (wsX4_choiceFor) := ggX6_takeStep_X4_choiceFor
set_option maxRecDepth 20000 in
theorem ggX6_takeStep_X4_ruleIn : GoodIn wsX6_takeStep wsX4_ruleIn := goodIn_r _ [21] (by decide +kernel) (by decide +kernel)
set_option maxRecDepth 20000 in
theorem gX6_takeStep_X4_ruleIn_n63 : GoodIn wsX6_takeStep (wsX4_ruleIn) := ggX6_takeStep_X4_ruleIn
set_option maxRecDepth 20000 in
theorem ggX6_takeStep_X4_placeIn : GoodIn wsX6_takeStep wsX4_placeIn := goodIn_r _ [23] (by decide +kernel) (by decide +kernel)
set_option maxRecDepth 20000 in
theorem gX6_takeStep_X4_placeIn_n67 : GoodIn wsX6_takeStep (wsX4_placeIn) := ggX6_takeStep_X4_placeIn
set_option maxRecDepth 20000 in
theorem ggX6_takeStep_X4_applied : GoodIn wsX6_takeStep wsX4_applied := goodIn_r _ [26, 27, 28, 18, 11, 12, 13, 29, 30, 37, 38, 39, 40, 41, 42] (by decide +kernel) (by decide +kernel)
set_option maxRecDepth 20000 in
theorem gX6_takeStep_X4_applied_n70 : GoodIn wsX6_takeStep (wsX4_applied) := ggX6_takeStep_X4_applied
theorem dX6_takeStep_0 : decode cX6_takeStep 0 = .ok (.aload_n 0, 1) := by decide +kernel
theorem dX6_takeStep_1 : decode cX6_takeStep 1 = .ok (.getfield 12, 3) := by decide +kernel
theorem dX6_takeStep_4 : decode cX6_takeStep 4 = .ok (.aload_n 0, 1) := by decide +kernel
theorem dX6_takeStep_5 : decode cX6_takeStep 5 = .ok (.getfield 27, 3) := by decide +kernel
theorem dX6_takeStep_8 : decode cX6_takeStep 8 = .ok (.aload_n 0, 1) := by decide +kernel
theorem dX6_takeStep_9 : decode cX6_takeStep 9 = .ok (.getfield 31, 3) := by decide +kernel
theorem dX6_takeStep_12 : decode cX6_takeStep 12 = .ok (.invokevirtual 58, 3) := by decide +kernel
theorem dX6_takeStep_15 : decode cX6_takeStep 15 = .ok (.istore_n 1, 1) := by decide +kernel
theorem dX6_takeStep_16 : decode cX6_takeStep 16 = .ok (.iload_n 1, 1) := by decide +kernel
theorem dX6_takeStep_17 : decode cX6_takeStep 17 = .ok (.ifCond .ge 6, 3) := by decide +kernel
theorem dX6_takeStep_20 : decode cX6_takeStep 20 = .ok (.ldc 62, 2) := by decide +kernel
theorem dX6_takeStep_22 : decode cX6_takeStep 22 = .ok (.ireturn, 1) := by decide +kernel
theorem dX6_takeStep_23 : decode cX6_takeStep 23 = .ok (.iload_n 1, 1) := by decide +kernel
theorem dX6_takeStep_24 : decode cX6_takeStep 24 = .ok (.invokestatic 63, 3) := by decide +kernel
theorem dX6_takeStep_27 : decode cX6_takeStep 27 = .ok (.istore_n 2, 1) := by decide +kernel
theorem dX6_takeStep_28 : decode cX6_takeStep 28 = .ok (.aload_n 0, 1) := by decide +kernel
theorem dX6_takeStep_29 : decode cX6_takeStep 29 = .ok (.aload_n 0, 1) := by decide +kernel
theorem dX6_takeStep_30 : decode cX6_takeStep 30 = .ok (.getfield 12, 3) := by decide +kernel
theorem dX6_takeStep_33 : decode cX6_takeStep 33 = .ok (.aload_n 0, 1) := by decide +kernel
theorem dX6_takeStep_34 : decode cX6_takeStep 34 = .ok (.getfield 27, 3) := by decide +kernel
theorem dX6_takeStep_37 : decode cX6_takeStep 37 = .ok (.iload_n 2, 1) := by decide +kernel
theorem dX6_takeStep_38 : decode cX6_takeStep 38 = .ok (.iload_n 1, 1) := by decide +kernel
theorem dX6_takeStep_39 : decode cX6_takeStep 39 = .ok (.invokestatic 67, 3) := by decide +kernel
theorem dX6_takeStep_42 : decode cX6_takeStep 42 = .ok (.invokevirtual 70, 3) := by decide +kernel
theorem dX6_takeStep_45 : decode cX6_takeStep 45 = .ok (.putfield 27, 3) := by decide +kernel
theorem dX6_takeStep_48 : decode cX6_takeStep 48 = .ok (.aload_n 0, 1) := by decide +kernel
theorem dX6_takeStep_49 : decode cX6_takeStep 49 = .ok (.getfield 12, 3) := by decide +kernel
theorem dX6_takeStep_52 : decode cX6_takeStep 52 = .ok (.getfield 74, 3) := by decide +kernel
theorem dX6_takeStep_55 : decode cX6_takeStep 55 = .ok (.iload_n 2, 1) := by decide +kernel
theorem dX6_takeStep_56 : decode cX6_takeStep 56 = .ok (.dup2, 1) := by decide +kernel
theorem dX6_takeStep_57 : decode cX6_takeStep 57 = .ok (.iaload, 1) := by decide +kernel
theorem dX6_takeStep_58 : decode cX6_takeStep 58 = .ok (.iconst 1, 1) := by decide +kernel
theorem dX6_takeStep_59 : decode cX6_takeStep 59 = .ok (.iadd, 1) := by decide +kernel
theorem dX6_takeStep_60 : decode cX6_takeStep 60 = .ok (.iastore, 1) := by decide +kernel
theorem dX6_takeStep_61 : decode cX6_takeStep 61 = .ok (.aload_n 0, 1) := by decide +kernel
theorem dX6_takeStep_62 : decode cX6_takeStep 62 = .ok (.dup, 1) := by decide +kernel
theorem dX6_takeStep_63 : decode cX6_takeStep 63 = .ok (.getfield 44, 3) := by decide +kernel
theorem dX6_takeStep_66 : decode cX6_takeStep 66 = .ok (.iconst 1, 1) := by decide +kernel
theorem dX6_takeStep_67 : decode cX6_takeStep 67 = .ok (.iadd, 1) := by decide +kernel
theorem dX6_takeStep_68 : decode cX6_takeStep 68 = .ok (.putfield 44, 3) := by decide +kernel
theorem dX6_takeStep_71 : decode cX6_takeStep 71 = .ok (.iload_n 2, 1) := by decide +kernel
theorem dX6_takeStep_72 : decode cX6_takeStep 72 = .ok (.ireturn, 1) := by decide +kernel
set_option maxRecDepth 20000 in
theorem ggX6_reduce_X7_indexOf : GoodIn wsX6_reduce wsX7_indexOf := goodIn_r _ [12, 13, 14, 81, 82, 83] (by decide +kernel) (by decide +kernel)
set_option maxRecDepth 20000 in
theorem gX6_reduce_X7_indexOf_n78 : GoodIn wsX6_reduce (wsX7_indexOf) := ggX6_reduce_X7_indexOf
set_option maxRecDepth 20000 in
theorem ggX6_reduce_X7_use : GoodIn wsX6_reduce wsX7_use := goodIn_r _ [17, 18, 14, 19, 20, 21, 10, 22, 81, 82, 83] (by decide +kernel) (by decide +kernel)
set_option maxRecDepth 20000 in
theorem gX6_reduce_X7_use_n81 : GoodIn wsX6_reduce (wsX7_use) := ggX6_reduce_X7_use
set_option maxRecDepth 20000 in
theorem ggX6_reduce_X3_run : GoodIn wsX6_reduce wsX3_run := goodIn_r _ [26, 27, 28, 29, 30, 31, 32, 33, 34, 24, 35, 36, 37, 38, 39, 40, 41, 42, 43, 44, 45, 46, 47, 48, 49, 50, 51, 52, 53, 54, 55, 56, 57, 58, 59, 60, 76, 77, 78, 79, 80, 84, 85, 86, 87, 88, 89] (by decide +kernel) (by decide +kernel)
set_option maxRecDepth 20000 in
theorem gX6_reduce_X3_run_n84 : GoodIn wsX6_reduce (wsX3_run) := ggX6_reduce_X3_run
set_option maxRecDepth 20000 in
theorem ggX6_reduce_X3_countRules : GoodIn wsX6_reduce wsX3_countRules := goodIn_r _ [63, 28, 31, 76, 77, 78, 79, 80, 84, 85, 86, 87, 88, 89] (by decide +kernel) (by decide +kernel)
set_option maxRecDepth 20000 in
theorem gX6_reduce_X3_countRules_n94 : GoodIn wsX6_reduce (wsX3_countRules) := ggX6_reduce_X3_countRules
set_option maxRecDepth 20000 in
theorem ggX6_reduce_X3_last : GoodIn wsX6_reduce wsX3_last := goodIn_r _ [66, 27, 28, 76, 77, 78, 79, 80] (by decide +kernel) (by decide +kernel)
set_option maxRecDepth 20000 in
theorem gX6_reduce_X3_last_n98 : GoodIn wsX6_reduce (wsX3_last) := ggX6_reduce_X3_last
set_option maxRecDepth 20000 in
theorem ggX6_reduce_X7_put : GoodIn wsX6_reduce wsX7_put := goodIn_r _ [69, 13, 19, 20, 21, 10, 22, 14, 18, 81, 82, 83] (by decide +kernel) (by decide +kernel)
set_option maxRecDepth 20000 in
theorem gX6_reduce_X7_put_n102 : GoodIn wsX6_reduce (wsX7_put) := ggX6_reduce_X7_put
theorem dX6_reduce_0 : decode cX6_reduce 0 = .ok (.aload_n 0, 1) := by decide +kernel
theorem dX6_reduce_1 : decode cX6_reduce 1 = .ok (.getfield 21, 3) := by decide +kernel
theorem dX6_reduce_4 : decode cX6_reduce 4 = .ok (.aload_n 0, 1) := by decide +kernel
theorem dX6_reduce_5 : decode cX6_reduce 5 = .ok (.getfield 27, 3) := by decide +kernel
theorem dX6_reduce_8 : decode cX6_reduce 8 = .ok (.invokevirtual 78, 3) := by decide +kernel
theorem dX6_reduce_11 : decode cX6_reduce 11 = .ok (.istore_n 2, 1) := by decide +kernel
theorem dX6_reduce_12 : decode cX6_reduce 12 = .ok (.iload_n 2, 1) := by decide +kernel
theorem dX6_reduce_13 : decode cX6_reduce 13 = .ok (.ifCond .lt 27, 3) := by decide +kernel
theorem dX6_reduce_16 : decode cX6_reduce 16 = .ok (.aload_n 0, 1) := by decide +kernel
theorem dX6_reduce_17 : decode cX6_reduce 17 = .ok (.aload_n 0, 1) := by decide +kernel
theorem dX6_reduce_18 : decode cX6_reduce 18 = .ok (.getfield 21, 3) := by decide +kernel
theorem dX6_reduce_21 : decode cX6_reduce 21 = .ok (.iload_n 2, 1) := by decide +kernel
theorem dX6_reduce_22 : decode cX6_reduce 22 = .ok (.invokevirtual 81, 3) := by decide +kernel
theorem dX6_reduce_25 : decode cX6_reduce 25 = .ok (.putfield 27, 3) := by decide +kernel
theorem dX6_reduce_28 : decode cX6_reduce 28 = .ok (.aload_n 0, 1) := by decide +kernel
theorem dX6_reduce_29 : decode cX6_reduce 29 = .ok (.dup, 1) := by decide +kernel
theorem dX6_reduce_30 : decode cX6_reduce 30 = .ok (.getfield 41, 3) := by decide +kernel
theorem dX6_reduce_33 : decode cX6_reduce 33 = .ok (.iconst 1, 1) := by decide +kernel
theorem dX6_reduce_34 : decode cX6_reduce 34 = .ok (.iadd, 1) := by decide +kernel
theorem dX6_reduce_35 : decode cX6_reduce 35 = .ok (.putfield 41, 3) := by decide +kernel
theorem dX6_reduce_38 : decode cX6_reduce 38 = .ok (.iconst 0, 1) := by decide +kernel
theorem dX6_reduce_39 : decode cX6_reduce 39 = .ok (.ireturn, 1) := by decide +kernel
theorem dX6_reduce_40 : decode cX6_reduce 40 = .ok (.aload_n 1, 1) := by decide +kernel
theorem dX6_reduce_41 : decode cX6_reduce 41 = .ok (.aload_n 0, 1) := by decide +kernel
theorem dX6_reduce_42 : decode cX6_reduce 42 = .ok (.getfield 12, 3) := by decide +kernel
theorem dX6_reduce_45 : decode cX6_reduce 45 = .ok (.aload_n 0, 1) := by decide +kernel
theorem dX6_reduce_46 : decode cX6_reduce 46 = .ok (.getfield 31, 3) := by decide +kernel
theorem dX6_reduce_49 : decode cX6_reduce 49 = .ok (.aload_n 0, 1) := by decide +kernel
theorem dX6_reduce_50 : decode cX6_reduce 50 = .ok (.getfield 27, 3) := by decide +kernel
theorem dX6_reduce_53 : decode cX6_reduce 53 = .ok (.invokevirtual 84, 3) := by decide +kernel
theorem dX6_reduce_56 : decode cX6_reduce 56 = .ok (.aload_n 1, 1) := by decide +kernel
theorem dX6_reduce_57 : decode cX6_reduce 57 = .ok (.getfield 90, 3) := by decide +kernel
theorem dX6_reduce_60 : decode cX6_reduce 60 = .ok (.iconst 1, 1) := by decide +kernel
theorem dX6_reduce_61 : decode cX6_reduce 61 = .ok (.if_icmp .ne 6, 3) := by decide +kernel
theorem dX6_reduce_64 : decode cX6_reduce 64 = .ok (.ldc 62, 2) := by decide +kernel
theorem dX6_reduce_66 : decode cX6_reduce 66 = .ok (.ireturn, 1) := by decide +kernel
theorem dX6_reduce_67 : decode cX6_reduce 67 = .ok (.aload_n 1, 1) := by decide +kernel
theorem dX6_reduce_68 : decode cX6_reduce 68 = .ok (.getfield 90, 3) := by decide +kernel
theorem dX6_reduce_71 : decode cX6_reduce 71 = .ok (.iconst 2, 1) := by decide +kernel
theorem dX6_reduce_72 : decode cX6_reduce 72 = .ok (.if_icmp .ne 6, 3) := by decide +kernel
theorem dX6_reduce_75 : decode cX6_reduce 75 = .ok (.ldc 93, 2) := by decide +kernel
theorem dX6_reduce_77 : decode cX6_reduce 77 = .ok (.ireturn, 1) := by decide +kernel
theorem dX6_reduce_78 : decode cX6_reduce 78 = .ok (.aload_n 1, 1) := by decide +kernel
theorem dX6_reduce_79 : decode cX6_reduce 79 = .ok (.aload_n 0, 1) := by decide +kernel
theorem dX6_reduce_80 : decode cX6_reduce 80 = .ok (.getfield 12, 3) := by decide +kernel
theorem dX6_reduce_83 : decode cX6_reduce 83 = .ok (.invokevirtual 94, 3) := by decide +kernel
theorem dX6_reduce_86 : decode cX6_reduce 86 = .ok (.aload_n 0, 1) := by decide +kernel
theorem dX6_reduce_87 : decode cX6_reduce 87 = .ok (.dup, 1) := by decide +kernel
theorem dX6_reduce_88 : decode cX6_reduce 88 = .ok (.getfield 44, 3) := by decide +kernel
theorem dX6_reduce_91 : decode cX6_reduce 91 = .ok (.aload_n 1, 1) := by decide +kernel
theorem dX6_reduce_92 : decode cX6_reduce 92 = .ok (.getfield 97, 3) := by decide +kernel
theorem dX6_reduce_95 : decode cX6_reduce 95 = .ok (.iadd, 1) := by decide +kernel
theorem dX6_reduce_96 : decode cX6_reduce 96 = .ok (.putfield 44, 3) := by decide +kernel
theorem dX6_reduce_99 : decode cX6_reduce 99 = .ok (.aload_n 0, 1) := by decide +kernel
theorem dX6_reduce_100 : decode cX6_reduce 100 = .ok (.getfield 21, 3) := by decide +kernel
theorem dX6_reduce_103 : decode cX6_reduce 103 = .ok (.aload_n 0, 1) := by decide +kernel
theorem dX6_reduce_104 : decode cX6_reduce 104 = .ok (.getfield 27, 3) := by decide +kernel
theorem dX6_reduce_107 : decode cX6_reduce 107 = .ok (.aload_n 1, 1) := by decide +kernel
theorem dX6_reduce_108 : decode cX6_reduce 108 = .ok (.invokevirtual 98, 3) := by decide +kernel
theorem dX6_reduce_111 : decode cX6_reduce 111 = .ok (.invokevirtual 102, 3) := by decide +kernel
theorem dX6_reduce_114 : decode cX6_reduce 114 = .ok (.aload_n 0, 1) := by decide +kernel
theorem dX6_reduce_115 : decode cX6_reduce 115 = .ok (.aload_n 1, 1) := by decide +kernel
theorem dX6_reduce_116 : decode cX6_reduce 116 = .ok (.invokevirtual 98, 3) := by decide +kernel
theorem dX6_reduce_119 : decode cX6_reduce 119 = .ok (.putfield 27, 3) := by decide +kernel
theorem dX6_reduce_122 : decode cX6_reduce 122 = .ok (.aload_n 1, 1) := by decide +kernel
theorem dX6_reduce_123 : decode cX6_reduce 123 = .ok (.getfield 97, 3) := by decide +kernel
theorem dX6_reduce_126 : decode cX6_reduce 126 = .ok (.ireturn, 1) := by decide +kernel
theorem dX7_init_0 : decode cX7_init 0 = .ok (.aload_n 0, 1) := by decide +kernel
theorem dX7_init_1 : decode cX7_init 1 = .ok (.invokespecial 3, 3) := by decide +kernel
theorem dX7_init_4 : decode cX7_init 4 = .ok (.aload_n 0, 1) := by decide +kernel
theorem dX7_init_5 : decode cX7_init 5 = .ok (.bipush 8, 2) := by decide +kernel
theorem dX7_init_7 : decode cX7_init 7 = .ok (.newarray .int, 2) := by decide +kernel
theorem dX7_init_9 : decode cX7_init 9 = .ok (.putfield 9, 3) := by decide +kernel
theorem dX7_init_12 : decode cX7_init 12 = .ok (.aload_n 0, 1) := by decide +kernel
theorem dX7_init_13 : decode cX7_init 13 = .ok (.bipush 8, 2) := by decide +kernel
theorem dX7_init_15 : decode cX7_init 15 = .ok (.newarray .int, 2) := by decide +kernel
theorem dX7_init_17 : decode cX7_init 17 = .ok (.putfield 15, 3) := by decide +kernel
theorem dX7_init_20 : decode cX7_init 20 = .ok (.return_, 1) := by decide +kernel
theorem dX7_takeOver_0 : decode cX7_takeOver 0 = .ok (.aload_n 1, 1) := by decide +kernel
theorem dX7_takeOver_1 : decode cX7_takeOver 1 = .ok (.getfield 9, 3) := by decide +kernel
theorem dX7_takeOver_4 : decode cX7_takeOver 4 = .ok (.iconst 0, 1) := by decide +kernel
theorem dX7_takeOver_5 : decode cX7_takeOver 5 = .ok (.aload_n 0, 1) := by decide +kernel
theorem dX7_takeOver_6 : decode cX7_takeOver 6 = .ok (.getfield 9, 3) := by decide +kernel
theorem dX7_takeOver_9 : decode cX7_takeOver 9 = .ok (.iconst 0, 1) := by decide +kernel
theorem dX7_takeOver_10 : decode cX7_takeOver 10 = .ok (.bipush 8, 2) := by decide +kernel
theorem dX7_takeOver_12 : decode cX7_takeOver 12 = .ok (.invokestatic 18, 3) := by decide +kernel
theorem dX7_takeOver_15 : decode cX7_takeOver 15 = .ok (.aload_n 1, 1) := by decide +kernel
theorem dX7_takeOver_16 : decode cX7_takeOver 16 = .ok (.getfield 15, 3) := by decide +kernel
theorem dX7_takeOver_19 : decode cX7_takeOver 19 = .ok (.iconst 0, 1) := by decide +kernel
theorem dX7_takeOver_20 : decode cX7_takeOver 20 = .ok (.aload_n 0, 1) := by decide +kernel
theorem dX7_takeOver_21 : decode cX7_takeOver 21 = .ok (.getfield 15, 3) := by decide +kernel
theorem dX7_takeOver_24 : decode cX7_takeOver 24 = .ok (.iconst 0, 1) := by decide +kernel
theorem dX7_takeOver_25 : decode cX7_takeOver 25 = .ok (.bipush 8, 2) := by decide +kernel
theorem dX7_takeOver_27 : decode cX7_takeOver 27 = .ok (.invokestatic 18, 3) := by decide +kernel
theorem dX7_takeOver_30 : decode cX7_takeOver 30 = .ok (.aload_n 0, 1) := by decide +kernel
theorem dX7_takeOver_31 : decode cX7_takeOver 31 = .ok (.aload_n 1, 1) := by decide +kernel
theorem dX7_takeOver_32 : decode cX7_takeOver 32 = .ok (.getfield 24, 3) := by decide +kernel
theorem dX7_takeOver_35 : decode cX7_takeOver 35 = .ok (.putfield 24, 3) := by decide +kernel
theorem dX7_takeOver_38 : decode cX7_takeOver 38 = .ok (.return_, 1) := by decide +kernel
theorem dX7_indexOf_0 : decode cX7_indexOf 0 = .ok (.iconst 0, 1) := by decide +kernel
theorem dX7_indexOf_1 : decode cX7_indexOf 1 = .ok (.istore_n 2, 1) := by decide +kernel
theorem dX7_indexOf_2 : decode cX7_indexOf 2 = .ok (.iload_n 2, 1) := by decide +kernel
theorem dX7_indexOf_3 : decode cX7_indexOf 3 = .ok (.aload_n 0, 1) := by decide +kernel
theorem dX7_indexOf_4 : decode cX7_indexOf 4 = .ok (.getfield 24, 3) := by decide +kernel
theorem dX7_indexOf_7 : decode cX7_indexOf 7 = .ok (.if_icmp .ge 21, 3) := by decide +kernel
theorem dX7_indexOf_10 : decode cX7_indexOf 10 = .ok (.aload_n 0, 1) := by decide +kernel
theorem dX7_indexOf_11 : decode cX7_indexOf 11 = .ok (.getfield 9, 3) := by decide +kernel
theorem dX7_indexOf_14 : decode cX7_indexOf 14 = .ok (.iload_n 2, 1) := by decide +kernel
theorem dX7_indexOf_15 : decode cX7_indexOf 15 = .ok (.iaload, 1) := by decide +kernel
theorem dX7_indexOf_16 : decode cX7_indexOf 16 = .ok (.iload_n 1, 1) := by decide +kernel
theorem dX7_indexOf_17 : decode cX7_indexOf 17 = .ok (.if_icmp .ne 5, 3) := by decide +kernel
theorem dX7_indexOf_20 : decode cX7_indexOf 20 = .ok (.iload_n 2, 1) := by decide +kernel
theorem dX7_indexOf_21 : decode cX7_indexOf 21 = .ok (.ireturn, 1) := by decide +kernel
theorem dX7_indexOf_22 : decode cX7_indexOf 22 = .ok (.iinc 2 1, 3) := by decide +kernel
theorem dX7_indexOf_25 : decode cX7_indexOf 25 = .ok (.goto (-23), 3) := by decide +kernel
theorem dX7_indexOf_28 : decode cX7_indexOf 28 = .ok (.iconst (-1), 1) := by decide +kernel
theorem dX7_indexOf_29 : decode cX7_indexOf 29 = .ok (.ireturn, 1) := by decide +kernel
set_option maxRecDepth 20000 in
theorem ggX7_put_X7_setAhead : GoodIn wsX7_put wsX7_setAhead := goodIn_r _ [6, 7, 8, 9, 10, 11] (by decide +kernel) (by decide +kernel)
set_option maxRecDepth 20000 in
theorem gX7_put_X7_setAhead : GoodIn wsX7_put (wsV RX7 28 RX7 yX7_setAhead wsX7_setAhead) := goodIn_app (goodIn_of _ (by decide +kernel)) ggX7_put_X7_setAhead
theorem dX7_put_0 : decode cX7_put 0 = .ok (.aload_n 0, 1) := by decide +kernel
theorem dX7_put_1 : decode cX7_put 1 = .ok (.getfield 24, 3) := by decide +kernel
theorem dX7_put_4 : decode cX7_put 4 = .ok (.bipush 8, 2) := by decide +kernel
theorem dX7_put_6 : decode cX7_put 6 = .ok (.if_icmp .ge 13, 3) := by decide +kernel
theorem dX7_put_9 : decode cX7_put 9 = .ok (.aload_n 0, 1) := by decide +kernel
theorem dX7_put_10 : decode cX7_put 10 = .ok (.dup, 1) := by decide +kernel
theorem dX7_put_11 : decode cX7_put 11 = .ok (.getfield 24, 3) := by decide +kernel
theorem dX7_put_14 : decode cX7_put 14 = .ok (.iconst 1, 1) := by decide +kernel
theorem dX7_put_15 : decode cX7_put 15 = .ok (.iadd, 1) := by decide +kernel
theorem dX7_put_16 : decode cX7_put 16 = .ok (.putfield 24, 3) := by decide +kernel
theorem dX7_put_19 : decode cX7_put 19 = .ok (.aload_n 0, 1) := by decide +kernel
theorem dX7_put_20 : decode cX7_put 20 = .ok (.aload_n 0, 1) := by decide +kernel
theorem dX7_put_21 : decode cX7_put 21 = .ok (.getfield 24, 3) := by decide +kernel
theorem dX7_put_24 : decode cX7_put 24 = .ok (.iconst 1, 1) := by decide +kernel
theorem dX7_put_25 : decode cX7_put 25 = .ok (.isub, 1) := by decide +kernel
theorem dX7_put_26 : decode cX7_put 26 = .ok (.iload_n 1, 1) := by decide +kernel
theorem dX7_put_27 : decode cX7_put 27 = .ok (.iload_n 2, 1) := by decide +kernel
theorem dX7_put_28 : decode cX7_put 28 = .ok (.invokevirtual 28, 3) := by decide +kernel
theorem dX7_put_31 : decode cX7_put 31 = .ok (.return_, 1) := by decide +kernel
set_option maxRecDepth 20000 in
theorem ggX7_use_X7_setAhead : GoodIn wsX7_use wsX7_setAhead := goodIn_r _ [7, 2, 1, 8, 9, 10] (by decide +kernel) (by decide +kernel)
set_option maxRecDepth 20000 in
theorem gX7_use_X7_setAhead : GoodIn wsX7_use (wsV RX7 28 RX7 yX7_setAhead wsX7_setAhead) := goodIn_app (goodIn_of _ (by decide +kernel)) ggX7_use_X7_setAhead
theorem dX7_use_0 : decode cX7_use 0 = .ok (.aload_n 0, 1) := by decide +kernel
theorem dX7_use_1 : decode cX7_use 1 = .ok (.getfield 15, 3) := by decide +kernel
theorem dX7_use_4 : decode cX7_use 4 = .ok (.iload_n 1, 1) := by decide +kernel
theorem dX7_use_5 : decode cX7_use 5 = .ok (.iaload, 1) := by decide +kernel
theorem dX7_use_6 : decode cX7_use 6 = .ok (.istore_n 2, 1) := by decide +kernel
theorem dX7_use_7 : decode cX7_use 7 = .ok (.aload_n 0, 1) := by decide +kernel
theorem dX7_use_8 : decode cX7_use 8 = .ok (.iload_n 1, 1) := by decide +kernel
theorem dX7_use_9 : decode cX7_use 9 = .ok (.aload_n 0, 1) := by decide +kernel
theorem dX7_use_10 : decode cX7_use 10 = .ok (.getfield 9, 3) := by decide +kernel
theorem dX7_use_13 : decode cX7_use 13 = .ok (.iload_n 1, 1) := by decide +kernel
theorem dX7_use_14 : decode cX7_use 14 = .ok (.iaload, 1) := by decide +kernel
theorem dX7_use_15 : decode cX7_use 15 = .ok (.iload_n 2, 1) := by decide +kernel
theorem dX7_use_16 : decode cX7_use 16 = .ok (.invokevirtual 28, 3) := by decide +kernel
theorem dX7_use_19 : decode cX7_use 19 = .ok (.iload_n 2, 1) := by decide +kernel
theorem dX7_use_20 : decode cX7_use 20 = .ok (.ireturn, 1) := by decide +kernel
theorem dX7_setAhead_0 : decode cX7_setAhead 0 = .ok (.iload_n 1, 1) := by decide +kernel
theorem dX7_setAhead_1 : decode cX7_setAhead 1 = .ok (.istore 4, 2) := by decide +kernel
theorem dX7_setAhead_3 : decode cX7_setAhead 3 = .ok (.iload 4, 2) := by decide +kernel
theorem dX7_setAhead_5 : decode cX7_setAhead 5 = .ok (.ifCond .le 41, 3) := by decide +kernel
theorem dX7_setAhead_8 : decode cX7_setAhead 8 = .ok (.aload_n 0, 1) := by decide +kernel
theorem dX7_setAhead_9 : decode cX7_setAhead 9 = .ok (.getfield 9, 3) := by decide +kernel
theorem dX7_setAhead_12 : decode cX7_setAhead 12 = .ok (.iload 4, 2) := by decide +kernel
theorem dX7_setAhead_14 : decode cX7_setAhead 14 = .ok (.aload_n 0, 1) := by decide +kernel
theorem dX7_setAhead_15 : decode cX7_setAhead 15 = .ok (.getfield 9, 3) := by decide +kernel
theorem dX7_setAhead_18 : decode cX7_setAhead 18 = .ok (.iload 4, 2) := by decide +kernel
theorem dX7_setAhead_20 : decode cX7_setAhead 20 = .ok (.iconst 1, 1) := by decide +kernel
theorem dX7_setAhead_21 : decode cX7_setAhead 21 = .ok (.isub, 1) := by decide +kernel
theorem dX7_setAhead_22 : decode cX7_setAhead 22 = .ok (.iaload, 1) := by decide +kernel
theorem dX7_setAhead_23 : decode cX7_setAhead 23 = .ok (.iastore, 1) := by decide +kernel
theorem dX7_setAhead_24 : decode cX7_setAhead 24 = .ok (.aload_n 0, 1) := by decide +kernel
theorem dX7_setAhead_25 : decode cX7_setAhead 25 = .ok (.getfield 15, 3) := by decide +kernel
theorem dX7_setAhead_28 : decode cX7_setAhead 28 = .ok (.iload 4, 2) := by decide +kernel
theorem dX7_setAhead_30 : decode cX7_setAhead 30 = .ok (.aload_n 0, 1) := by decide +kernel
theorem dX7_setAhead_31 : decode cX7_setAhead 31 = .ok (.getfield 15, 3) := by decide +kernel
theorem dX7_setAhead_34 : decode cX7_setAhead 34 = .ok (.iload 4, 2) := by decide +kernel
theorem dX7_setAhead_36 : decode cX7_setAhead 36 = .ok (.iconst 1, 1) := by decide +kernel
theorem dX7_setAhead_37 : decode cX7_setAhead 37 = .ok (.isub, 1) := by decide +kernel
theorem dX7_setAhead_38 : decode cX7_setAhead 38 = .ok (.iaload, 1) := by decide +kernel
theorem dX7_setAhead_39 : decode cX7_setAhead 39 = .ok (.iastore, 1) := by decide +kernel
theorem dX7_setAhead_40 : decode cX7_setAhead 40 = .ok (.iinc 4 (-1), 3) := by decide +kernel
theorem dX7_setAhead_43 : decode cX7_setAhead 43 = .ok (.goto (-40), 3) := by decide +kernel
theorem dX7_setAhead_46 : decode cX7_setAhead 46 = .ok (.aload_n 0, 1) := by decide +kernel
theorem dX7_setAhead_47 : decode cX7_setAhead 47 = .ok (.getfield 9, 3) := by decide +kernel
theorem dX7_setAhead_50 : decode cX7_setAhead 50 = .ok (.iconst 0, 1) := by decide +kernel
theorem dX7_setAhead_51 : decode cX7_setAhead 51 = .ok (.iload_n 2, 1) := by decide +kernel
theorem dX7_setAhead_52 : decode cX7_setAhead 52 = .ok (.iastore, 1) := by decide +kernel
theorem dX7_setAhead_53 : decode cX7_setAhead 53 = .ok (.aload_n 0, 1) := by decide +kernel
theorem dX7_setAhead_54 : decode cX7_setAhead 54 = .ok (.getfield 15, 3) := by decide +kernel
theorem dX7_setAhead_57 : decode cX7_setAhead 57 = .ok (.iconst 0, 1) := by decide +kernel
theorem dX7_setAhead_58 : decode cX7_setAhead 58 = .ok (.iload_n 3, 1) := by decide +kernel
theorem dX7_setAhead_59 : decode cX7_setAhead 59 = .ok (.iastore, 1) := by decide +kernel
theorem dX7_setAhead_60 : decode cX7_setAhead 60 = .ok (.return_, 1) := by decide +kernel
theorem dX8_init_0 : decode cX8_init 0 = .ok (.aload_n 0, 1) := by decide +kernel
theorem dX8_init_1 : decode cX8_init 1 = .ok (.invokespecial 3, 3) := by decide +kernel
theorem dX8_init_4 : decode cX8_init 4 = .ok (.aload_n 0, 1) := by decide +kernel
theorem dX8_init_5 : decode cX8_init 5 = .ok (.bipush 80, 2) := by decide +kernel
theorem dX8_init_7 : decode cX8_init 7 = .ok (.newarray .char, 2) := by decide +kernel
theorem dX8_init_9 : decode cX8_init 9 = .ok (.putfield 9, 3) := by decide +kernel
theorem dX8_init_12 : decode cX8_init 12 = .ok (.return_, 1) := by decide +kernel
theorem dX8_isFull_0 : decode cX8_isFull 0 = .ok (.aload_n 0, 1) := by decide +kernel
theorem dX8_isFull_1 : decode cX8_isFull 1 = .ok (.getfield 15, 3) := by decide +kernel
theorem dX8_isFull_4 : decode cX8_isFull 4 = .ok (.bipush 80, 2) := by decide +kernel
theorem dX8_isFull_6 : decode cX8_isFull 6 = .ok (.if_icmp .lt 7, 3) := by decide +kernel
theorem dX8_isFull_9 : decode cX8_isFull 9 = .ok (.iconst 1, 1) := by decide +kernel
theorem dX8_isFull_10 : decode cX8_isFull 10 = .ok (.goto 4, 3) := by decide +kernel
theorem dX8_isFull_13 : decode cX8_isFull 13 = .ok (.iconst 0, 1) := by decide +kernel
theorem dX8_isFull_14 : decode cX8_isFull 14 = .ok (.ireturn, 1) := by decide +kernel
set_option maxRecDepth 20000 in
theorem ggX8_append_X8_isFull : GoodIn wsX8_append wsX8_isFull := goodIn_r _ [7, 2, 8, 9, 10, 11, 12, 13, 14] (by decide +kernel) (by decide +kernel)
set_option maxRecDepth 20000 in
theorem gX8_append_X8_isFull : GoodIn wsX8_append (wsV RX8 19 RX8 yX8_isFull wsX8_isFull) := goodIn_app (goodIn_of _ (by decide +kernel)) ggX8_append_X8_isFull
theorem dX8_append_0 : decode cX8_append 0 = .ok (.aload_n 0, 1) := by decide +kernel
theorem dX8_append_1 : decode cX8_append 1 = .ok (.invokevirtual 19, 3) := by decide +kernel
theorem dX8_append_4 : decode cX8_append 4 = .ok (.ifCond .ne 24, 3) := by decide +kernel
theorem dX8_append_7 : decode cX8_append 7 = .ok (.aload_n 0, 1) := by decide +kernel
theorem dX8_append_8 : decode cX8_append 8 = .ok (.getfield 9, 3) := by decide +kernel
theorem dX8_append_11 : decode cX8_append 11 = .ok (.aload_n 0, 1) := by decide +kernel
theorem dX8_append_12 : decode cX8_append 12 = .ok (.getfield 15, 3) := by decide +kernel
theorem dX8_append_15 : decode cX8_append 15 = .ok (.iload_n 1, 1) := by decide +kernel
theorem dX8_append_16 : decode cX8_append 16 = .ok (.i2c, 1) := by decide +kernel
theorem dX8_append_17 : decode cX8_append 17 = .ok (.castore, 1) := by decide +kernel
theorem dX8_append_18 : decode cX8_append 18 = .ok (.aload_n 0, 1) := by decide +kernel
theorem dX8_append_19 : decode cX8_append 19 = .ok (.dup, 1) := by decide +kernel
theorem dX8_append_20 : decode cX8_append 20 = .ok (.getfield 15, 3) := by decide +kernel
theorem dX8_append_23 : decode cX8_append 23 = .ok (.iconst 1, 1) := by decide +kernel
theorem dX8_append_24 : decode cX8_append 24 = .ok (.iadd, 1) := by decide +kernel
theorem dX8_append_25 : decode cX8_append 25 = .ok (.putfield 15, 3) := by decide +kernel
theorem dX8_append_28 : decode cX8_append 28 = .ok (.return_, 1) := by decide +kernel
set_option maxRecDepth 20000 in
theorem ggX8_readCommand_X8_here : GoodIn wsX8_readCommand wsX8_here := goodIn_r _ [9, 1, 10, 11, 28, 29, 30, 31, 32, 33, 34] (by decide +kernel) (by decide +kernel)
set_option maxRecDepth 20000 in
theorem gX8_readCommand_X8_here : GoodIn wsX8_readCommand (wsV RX8 26 RX8 yX8_here wsX8_here) := goodIn_app (goodIn_of _ (by decide +kernel)) ggX8_readCommand_X8_here
set_option maxRecDepth 20000 in
theorem ggX8_readCommand_X8_readWord : GoodIn wsX8_readCommand wsX8_readWord := goodIn_r _ [15, 1, 10, 5, 6, 7, 8, 9, 11, 16, 17, 18, 28, 29, 30, 31, 32, 33, 34] (by decide +kernel) (by decide +kernel)
set_option maxRecDepth 20000 in
theorem gX8_readCommand_X8_readWord : GoodIn wsX8_readCommand (wsV RX8 33 RX8 yX8_readWord wsX8_readWord) := goodIn_app (goodIn_of _ (by decide +kernel)) ggX8_readCommand_X8_readWord
set_option maxRecDepth 20000 in
theorem ggX8_readCommand_X8_passes : GoodIn wsX8_readCommand wsX8_passes := goodIn_r _ [22, 1, 5, 6, 7, 8, 9, 10, 11, 28, 29, 30, 31, 32, 33, 34] (by decide +kernel) (by decide +kernel)
set_option maxRecDepth 20000 in
theorem gX8_readCommand_X8_passes : GoodIn wsX8_readCommand (wsV RX8 39 RX8 yX8_passes wsX8_passes) := goodIn_app (goodIn_of _ (by decide +kernel)) ggX8_readCommand_X8_passes
set_option maxRecDepth 20000 in
theorem ggX8_readCommand_X8_readDigit : GoodIn wsX8_readCommand wsX8_readDigit := goodIn_r _ [26, 27, 1, 5, 6, 7, 8, 9, 10, 11, 28, 29, 30, 31, 32, 33, 34] (by decide +kernel) (by decide +kernel)
set_option maxRecDepth 20000 in
theorem gX8_readCommand_X8_readDigit : GoodIn wsX8_readCommand (wsV RX8 46 RX8 yX8_readDigit wsX8_readDigit) := goodIn_app (goodIn_of _ (by decide +kernel)) ggX8_readCommand_X8_readDigit
theorem dX8_readCommand_0 : decode cX8_readCommand 0 = .ok (.aload_n 0, 1) := by decide +kernel
theorem dX8_readCommand_1 : decode cX8_readCommand 1 = .ok (.iload_n 1, 1) := by decide +kernel
theorem dX8_readCommand_2 : decode cX8_readCommand 2 = .ok (.putfield 23, 3) := by decide +kernel
theorem dX8_readCommand_5 : decode cX8_readCommand 5 = .ok (.aload_n 0, 1) := by decide +kernel
theorem dX8_readCommand_6 : decode cX8_readCommand 6 = .ok (.aload_n 0, 1) := by decide +kernel
theorem dX8_readCommand_7 : decode cX8_readCommand 7 = .ok (.invokevirtual 26, 3) := by decide +kernel
theorem dX8_readCommand_10 : decode cX8_readCommand 10 = .ok (.putfield 30, 3) := by decide +kernel
theorem dX8_readCommand_13 : decode cX8_readCommand 13 = .ok (.aload_n 0, 1) := by decide +kernel
theorem dX8_readCommand_14 : decode cX8_readCommand 14 = .ok (.getfield 30, 3) := by decide +kernel
theorem dX8_readCommand_17 : decode cX8_readCommand 17 = .ok (.lookupswitch 177 #[(43, 59), (45, 128), (61, 103), (110, 160), (115, 160), (119, 128)], 59) := by decide +kernel
theorem dX8_readCommand_76 : decode cX8_readCommand 76 = .ok (.aload_n 0, 1) := by decide +kernel
theorem dX8_readCommand_77 : decode cX8_readCommand 77 = .ok (.dup, 1) := by decide +kernel
theorem dX8_readCommand_78 : decode cX8_readCommand 78 = .ok (.getfield 23, 3) := by decide +kernel
theorem dX8_readCommand_81 : decode cX8_readCommand 81 = .ok (.iconst 1, 1) := by decide +kernel
theorem dX8_readCommand_82 : decode cX8_readCommand 82 = .ok (.iadd, 1) := by decide +kernel
theorem dX8_readCommand_83 : decode cX8_readCommand 83 = .ok (.putfield 23, 3) := by decide +kernel
theorem dX8_readCommand_86 : decode cX8_readCommand 86 = .ok (.aload_n 0, 1) := by decide +kernel
theorem dX8_readCommand_87 : decode cX8_readCommand 87 = .ok (.aload_n 0, 1) := by decide +kernel
theorem dX8_readCommand_88 : decode cX8_readCommand 88 = .ok (.invokevirtual 33, 3) := by decide +kernel
theorem dX8_readCommand_91 : decode cX8_readCommand 91 = .ok (.putfield 36, 3) := by decide +kernel
theorem dX8_readCommand_94 : decode cX8_readCommand 94 = .ok (.aload_n 0, 1) := by decide +kernel
theorem dX8_readCommand_95 : decode cX8_readCommand 95 = .ok (.bipush 62, 2) := by decide +kernel
theorem dX8_readCommand_97 : decode cX8_readCommand 97 = .ok (.invokevirtual 39, 3) := by decide +kernel
theorem dX8_readCommand_100 : decode cX8_readCommand 100 = .ok (.ifCond .ne 5, 3) := by decide +kernel
theorem dX8_readCommand_103 : decode cX8_readCommand 103 = .ok (.iconst 0, 1) := by decide +kernel
theorem dX8_readCommand_104 : decode cX8_readCommand 104 = .ok (.ireturn, 1) := by decide +kernel
theorem dX8_readCommand_105 : decode cX8_readCommand 105 = .ok (.aload_n 0, 1) := by decide +kernel
theorem dX8_readCommand_106 : decode cX8_readCommand 106 = .ok (.aload_n 0, 1) := by decide +kernel
theorem dX8_readCommand_107 : decode cX8_readCommand 107 = .ok (.invokevirtual 33, 3) := by decide +kernel
theorem dX8_readCommand_110 : decode cX8_readCommand 110 = .ok (.putfield 43, 3) := by decide +kernel
theorem dX8_readCommand_113 : decode cX8_readCommand 113 = .ok (.aload_n 0, 1) := by decide +kernel
theorem dX8_readCommand_114 : decode cX8_readCommand 114 = .ok (.bipush 59, 2) := by decide +kernel
theorem dX8_readCommand_116 : decode cX8_readCommand 116 = .ok (.invokevirtual 39, 3) := by decide +kernel
theorem dX8_readCommand_119 : decode cX8_readCommand 119 = .ok (.ireturn, 1) := by decide +kernel
theorem dX8_readCommand_120 : decode cX8_readCommand 120 = .ok (.aload_n 0, 1) := by decide +kernel
theorem dX8_readCommand_121 : decode cX8_readCommand 121 = .ok (.dup, 1) := by decide +kernel
theorem dX8_readCommand_122 : decode cX8_readCommand 122 = .ok (.getfield 23, 3) := by decide +kernel
theorem dX8_readCommand_125 : decode cX8_readCommand 125 = .ok (.iconst 1, 1) := by decide +kernel
theorem dX8_readCommand_126 : decode cX8_readCommand 126 = .ok (.iadd, 1) := by decide +kernel
theorem dX8_readCommand_127 : decode cX8_readCommand 127 = .ok (.putfield 23, 3) := by decide +kernel
theorem dX8_readCommand_130 : decode cX8_readCommand 130 = .ok (.aload_n 0, 1) := by decide +kernel
theorem dX8_readCommand_131 : decode cX8_readCommand 131 = .ok (.aload_n 0, 1) := by decide +kernel
theorem dX8_readCommand_132 : decode cX8_readCommand 132 = .ok (.invokevirtual 33, 3) := by decide +kernel
theorem dX8_readCommand_135 : decode cX8_readCommand 135 = .ok (.putfield 36, 3) := by decide +kernel
theorem dX8_readCommand_138 : decode cX8_readCommand 138 = .ok (.aload_n 0, 1) := by decide +kernel
theorem dX8_readCommand_139 : decode cX8_readCommand 139 = .ok (.bipush 59, 2) := by decide +kernel
theorem dX8_readCommand_141 : decode cX8_readCommand 141 = .ok (.invokevirtual 39, 3) := by decide +kernel
theorem dX8_readCommand_144 : decode cX8_readCommand 144 = .ok (.ireturn, 1) := by decide +kernel
theorem dX8_readCommand_145 : decode cX8_readCommand 145 = .ok (.aload_n 0, 1) := by decide +kernel
theorem dX8_readCommand_146 : decode cX8_readCommand 146 = .ok (.dup, 1) := by decide +kernel
theorem dX8_readCommand_147 : decode cX8_readCommand 147 = .ok (.getfield 23, 3) := by decide +kernel
theorem dX8_readCommand_150 : decode cX8_readCommand 150 = .ok (.iconst 1, 1) := by decide +kernel
theorem dX8_readCommand_151 : decode cX8_readCommand 151 = .ok (.iadd, 1) := by decide +kernel
theorem dX8_readCommand_152 : decode cX8_readCommand 152 = .ok (.putfield 23, 3) := by decide +kernel
theorem dX8_readCommand_155 : decode cX8_readCommand 155 = .ok (.aload_n 0, 1) := by decide +kernel
theorem dX8_readCommand_156 : decode cX8_readCommand 156 = .ok (.invokevirtual 46, 3) := by decide +kernel
theorem dX8_readCommand_159 : decode cX8_readCommand 159 = .ok (.ifCond .eq 16, 3) := by decide +kernel
theorem dX8_readCommand_162 : decode cX8_readCommand 162 = .ok (.aload_n 0, 1) := by decide +kernel
theorem dX8_readCommand_163 : decode cX8_readCommand 163 = .ok (.bipush 59, 2) := by decide +kernel
theorem dX8_readCommand_165 : decode cX8_readCommand 165 = .ok (.invokevirtual 39, 3) := by decide +kernel
theorem dX8_readCommand_168 : decode cX8_readCommand 168 = .ok (.ifCond .eq 7, 3) := by decide +kernel
theorem dX8_readCommand_171 : decode cX8_readCommand 171 = .ok (.iconst 1, 1) := by decide +kernel
theorem dX8_readCommand_172 : decode cX8_readCommand 172 = .ok (.goto 4, 3) := by decide +kernel
theorem dX8_readCommand_175 : decode cX8_readCommand 175 = .ok (.iconst 0, 1) := by decide +kernel
theorem dX8_readCommand_176 : decode cX8_readCommand 176 = .ok (.ireturn, 1) := by decide +kernel
theorem dX8_readCommand_177 : decode cX8_readCommand 177 = .ok (.aload_n 0, 1) := by decide +kernel
theorem dX8_readCommand_178 : decode cX8_readCommand 178 = .ok (.dup, 1) := by decide +kernel
theorem dX8_readCommand_179 : decode cX8_readCommand 179 = .ok (.getfield 23, 3) := by decide +kernel
theorem dX8_readCommand_182 : decode cX8_readCommand 182 = .ok (.iconst 1, 1) := by decide +kernel
theorem dX8_readCommand_183 : decode cX8_readCommand 183 = .ok (.iadd, 1) := by decide +kernel
theorem dX8_readCommand_184 : decode cX8_readCommand 184 = .ok (.putfield 23, 3) := by decide +kernel
theorem dX8_readCommand_187 : decode cX8_readCommand 187 = .ok (.aload_n 0, 1) := by decide +kernel
theorem dX8_readCommand_188 : decode cX8_readCommand 188 = .ok (.bipush 59, 2) := by decide +kernel
theorem dX8_readCommand_190 : decode cX8_readCommand 190 = .ok (.invokevirtual 39, 3) := by decide +kernel
theorem dX8_readCommand_193 : decode cX8_readCommand 193 = .ok (.ireturn, 1) := by decide +kernel
theorem dX8_readCommand_194 : decode cX8_readCommand 194 = .ok (.iconst 0, 1) := by decide +kernel
theorem dX8_readCommand_195 : decode cX8_readCommand 195 = .ok (.ireturn, 1) := by decide +kernel
theorem dX8_here_0 : decode cX8_here 0 = .ok (.aload_n 0, 1) := by decide +kernel
theorem dX8_here_1 : decode cX8_here 1 = .ok (.getfield 23, 3) := by decide +kernel
theorem dX8_here_4 : decode cX8_here 4 = .ok (.ifCond .lt 26, 3) := by decide +kernel
theorem dX8_here_7 : decode cX8_here 7 = .ok (.aload_n 0, 1) := by decide +kernel
theorem dX8_here_8 : decode cX8_here 8 = .ok (.getfield 23, 3) := by decide +kernel
theorem dX8_here_11 : decode cX8_here 11 = .ok (.aload_n 0, 1) := by decide +kernel
theorem dX8_here_12 : decode cX8_here 12 = .ok (.getfield 15, 3) := by decide +kernel
theorem dX8_here_15 : decode cX8_here 15 = .ok (.if_icmp .ge 15, 3) := by decide +kernel
theorem dX8_here_18 : decode cX8_here 18 = .ok (.aload_n 0, 1) := by decide +kernel
theorem dX8_here_19 : decode cX8_here 19 = .ok (.getfield 9, 3) := by decide +kernel
theorem dX8_here_22 : decode cX8_here 22 = .ok (.aload_n 0, 1) := by decide +kernel
theorem dX8_here_23 : decode cX8_here 23 = .ok (.getfield 23, 3) := by decide +kernel
theorem dX8_here_26 : decode cX8_here 26 = .ok (.caload, 1) := by decide +kernel
theorem dX8_here_27 : decode cX8_here 27 = .ok (.goto 4, 3) := by decide +kernel
theorem dX8_here_30 : decode cX8_here 30 = .ok (.iconst (-1), 1) := by decide +kernel
theorem dX8_here_31 : decode cX8_here 31 = .ok (.ireturn, 1) := by decide +kernel
set_option maxRecDepth 20000 in
theorem ggX8_passes_X8_here : GoodIn wsX8_passes wsX8_here := goodIn_r _ [6, 1, 7, 8, 9, 10, 11, 12, 13, 14, 15] (by decide +kernel) (by decide +kernel)
set_option maxRecDepth 20000 in
theorem gX8_passes_X8_here : GoodIn wsX8_passes (wsV RX8 26 RX8 yX8_here wsX8_here) := goodIn_app (goodIn_of _ (by decide +kernel)) ggX8_passes_X8_here
theorem dX8_passes_0 : decode cX8_passes 0 = .ok (.aload_n 0, 1) := by decide +kernel
theorem dX8_passes_1 : decode cX8_passes 1 = .ok (.invokevirtual 26, 3) := by decide +kernel
theorem dX8_passes_4 : decode cX8_passes 4 = .ok (.iload_n 1, 1) := by decide +kernel
theorem dX8_passes_5 : decode cX8_passes 5 = .ok (.if_icmp .eq 5, 3) := by decide +kernel
theorem dX8_passes_8 : decode cX8_passes 8 = .ok (.iconst 0, 1) := by decide +kernel
theorem dX8_passes_9 : decode cX8_passes 9 = .ok (.ireturn, 1) := by decide +kernel
theorem dX8_passes_10 : decode cX8_passes 10 = .ok (.aload_n 0, 1) := by decide +kernel
theorem dX8_passes_11 : decode cX8_passes 11 = .ok (.dup, 1) := by decide +kernel
theorem dX8_passes_12 : decode cX8_passes 12 = .ok (.getfield 23, 3) := by decide +kernel
theorem dX8_passes_15 : decode cX8_passes 15 = .ok (.iconst 1, 1) := by decide +kernel
theorem dX8_passes_16 : decode cX8_passes 16 = .ok (.iadd, 1) := by decide +kernel
theorem dX8_passes_17 : decode cX8_passes 17 = .ok (.putfield 23, 3) := by decide +kernel
theorem dX8_passes_20 : decode cX8_passes 20 = .ok (.iconst 1, 1) := by decide +kernel
theorem dX8_passes_21 : decode cX8_passes 21 = .ok (.ireturn, 1) := by decide +kernel
set_option maxRecDepth 20000 in
theorem ggX8_readDigit_X8_here : GoodIn wsX8_readDigit wsX8_here := goodIn_r _ [7, 2, 8, 9, 10, 11, 12, 13, 14, 15, 16] (by decide +kernel) (by decide +kernel)
set_option maxRecDepth 20000 in
theorem gX8_readDigit_X8_here : GoodIn wsX8_readDigit (wsV RX8 26 RX8 yX8_here wsX8_here) := goodIn_app (goodIn_of _ (by decide +kernel)) ggX8_readDigit_X8_here
theorem dX8_readDigit_0 : decode cX8_readDigit 0 = .ok (.aload_n 0, 1) := by decide +kernel
theorem dX8_readDigit_1 : decode cX8_readDigit 1 = .ok (.invokevirtual 26, 3) := by decide +kernel
theorem dX8_readDigit_4 : decode cX8_readDigit 4 = .ok (.istore_n 1, 1) := by decide +kernel
theorem dX8_readDigit_5 : decode cX8_readDigit 5 = .ok (.iload_n 1, 1) := by decide +kernel
theorem dX8_readDigit_6 : decode cX8_readDigit 6 = .ok (.bipush 48, 2) := by decide +kernel
theorem dX8_readDigit_8 : decode cX8_readDigit 8 = .ok (.if_icmp .lt 9, 3) := by decide +kernel
theorem dX8_readDigit_11 : decode cX8_readDigit 11 = .ok (.iload_n 1, 1) := by decide +kernel
theorem dX8_readDigit_12 : decode cX8_readDigit 12 = .ok (.bipush 57, 2) := by decide +kernel
theorem dX8_readDigit_14 : decode cX8_readDigit 14 = .ok (.if_icmp .le 5, 3) := by decide +kernel
theorem dX8_readDigit_17 : decode cX8_readDigit 17 = .ok (.iconst 0, 1) := by decide +kernel
theorem dX8_readDigit_18 : decode cX8_readDigit 18 = .ok (.ireturn, 1) := by decide +kernel
theorem dX8_readDigit_19 : decode cX8_readDigit 19 = .ok (.aload_n 0, 1) := by decide +kernel
theorem dX8_readDigit_20 : decode cX8_readDigit 20 = .ok (.iload_n 1, 1) := by decide +kernel
theorem dX8_readDigit_21 : decode cX8_readDigit 21 = .ok (.bipush 48, 2) := by decide +kernel
theorem dX8_readDigit_23 : decode cX8_readDigit 23 = .ok (.isub, 1) := by decide +kernel
theorem dX8_readDigit_24 : decode cX8_readDigit 24 = .ok (.putfield 49, 3) := by decide +kernel
theorem dX8_readDigit_27 : decode cX8_readDigit 27 = .ok (.aload_n 0, 1) := by decide +kernel
theorem dX8_readDigit_28 : decode cX8_readDigit 28 = .ok (.dup, 1) := by decide +kernel
theorem dX8_readDigit_29 : decode cX8_readDigit 29 = .ok (.getfield 23, 3) := by decide +kernel
theorem dX8_readDigit_32 : decode cX8_readDigit 32 = .ok (.iconst 1, 1) := by decide +kernel
theorem dX8_readDigit_33 : decode cX8_readDigit 33 = .ok (.iadd, 1) := by decide +kernel
theorem dX8_readDigit_34 : decode cX8_readDigit 34 = .ok (.putfield 23, 3) := by decide +kernel
theorem dX8_readDigit_37 : decode cX8_readDigit 37 = .ok (.iconst 1, 1) := by decide +kernel
theorem dX8_readDigit_38 : decode cX8_readDigit 38 = .ok (.ireturn, 1) := by decide +kernel
set_option maxRecDepth 20000 in
theorem ggX8_readWord_X8_here : GoodIn wsX8_readWord wsX8_here := goodIn_r _ [7, 1, 2, 8, 12, 13, 14, 15, 16, 17, 18] (by decide +kernel) (by decide +kernel)
set_option maxRecDepth 20000 in
theorem gX8_readWord_X8_here : GoodIn wsX8_readWord (wsV RX8 26 RX8 yX8_here wsX8_here) := goodIn_app (goodIn_of _ (by decide +kernel)) ggX8_readWord_X8_here
set_option maxRecDepth 20000 in
theorem ggX8_readWord_X9_withLetter : GoodIn wsX8_readWord wsX9_withLetter := goodIn_r _ [11] (by decide +kernel) (by decide +kernel)
set_option maxRecDepth 20000 in
theorem gX8_readWord_X9_withLetter_n54 : GoodIn wsX8_readWord (wsX9_withLetter) := ggX8_readWord_X9_withLetter
theorem dX8_readWord_0 : decode cX8_readWord 0 = .ok (.iconst 1, 1) := by decide +kernel
theorem dX8_readWord_1 : decode cX8_readWord 1 = .ok (.istore_n 1, 1) := by decide +kernel
theorem dX8_readWord_2 : decode cX8_readWord 2 = .ok (.iconst 0, 1) := by decide +kernel
theorem dX8_readWord_3 : decode cX8_readWord 3 = .ok (.istore_n 2, 1) := by decide +kernel
theorem dX8_readWord_4 : decode cX8_readWord 4 = .ok (.aload_n 0, 1) := by decide +kernel
theorem dX8_readWord_5 : decode cX8_readWord 5 = .ok (.getfield 23, 3) := by decide +kernel
theorem dX8_readWord_8 : decode cX8_readWord 8 = .ok (.aload_n 0, 1) := by decide +kernel
theorem dX8_readWord_9 : decode cX8_readWord 9 = .ok (.getfield 15, 3) := by decide +kernel
theorem dX8_readWord_12 : decode cX8_readWord 12 = .ok (.if_icmp .ge 55, 3) := by decide +kernel
theorem dX8_readWord_15 : decode cX8_readWord 15 = .ok (.aload_n 0, 1) := by decide +kernel
theorem dX8_readWord_16 : decode cX8_readWord 16 = .ok (.invokevirtual 26, 3) := by decide +kernel
theorem dX8_readWord_19 : decode cX8_readWord 19 = .ok (.bipush 97, 2) := by decide +kernel
theorem dX8_readWord_21 : decode cX8_readWord 21 = .ok (.if_icmp .lt 46, 3) := by decide +kernel
theorem dX8_readWord_24 : decode cX8_readWord 24 = .ok (.aload_n 0, 1) := by decide +kernel
theorem dX8_readWord_25 : decode cX8_readWord 25 = .ok (.invokevirtual 26, 3) := by decide +kernel
theorem dX8_readWord_28 : decode cX8_readWord 28 = .ok (.bipush 100, 2) := by decide +kernel
theorem dX8_readWord_30 : decode cX8_readWord 30 = .ok (.if_icmp .gt 37, 3) := by decide +kernel
theorem dX8_readWord_33 : decode cX8_readWord 33 = .ok (.iload_n 2, 1) := by decide +kernel
theorem dX8_readWord_34 : decode cX8_readWord 34 = .ok (.bipush 12, 2) := by decide +kernel
theorem dX8_readWord_36 : decode cX8_readWord 36 = .ok (.if_icmp .gt 15, 3) := by decide +kernel
theorem dX8_readWord_39 : decode cX8_readWord 39 = .ok (.iload_n 1, 1) := by decide +kernel
theorem dX8_readWord_40 : decode cX8_readWord 40 = .ok (.aload_n 0, 1) := by decide +kernel
theorem dX8_readWord_41 : decode cX8_readWord 41 = .ok (.invokevirtual 26, 3) := by decide +kernel
theorem dX8_readWord_44 : decode cX8_readWord 44 = .ok (.bipush 97, 2) := by decide +kernel
theorem dX8_readWord_46 : decode cX8_readWord 46 = .ok (.isub, 1) := by decide +kernel
theorem dX8_readWord_47 : decode cX8_readWord 47 = .ok (.invokestatic 54, 3) := by decide +kernel
theorem dX8_readWord_50 : decode cX8_readWord 50 = .ok (.istore_n 1, 1) := by decide +kernel
theorem dX8_readWord_51 : decode cX8_readWord 51 = .ok (.aload_n 0, 1) := by decide +kernel
theorem dX8_readWord_52 : decode cX8_readWord 52 = .ok (.dup, 1) := by decide +kernel
theorem dX8_readWord_53 : decode cX8_readWord 53 = .ok (.getfield 23, 3) := by decide +kernel
theorem dX8_readWord_56 : decode cX8_readWord 56 = .ok (.iconst 1, 1) := by decide +kernel
theorem dX8_readWord_57 : decode cX8_readWord 57 = .ok (.iadd, 1) := by decide +kernel
theorem dX8_readWord_58 : decode cX8_readWord 58 = .ok (.putfield 23, 3) := by decide +kernel
theorem dX8_readWord_61 : decode cX8_readWord 61 = .ok (.iinc 2 1, 3) := by decide +kernel
theorem dX8_readWord_64 : decode cX8_readWord 64 = .ok (.goto (-60), 3) := by decide +kernel
theorem dX8_readWord_67 : decode cX8_readWord 67 = .ok (.iload_n 1, 1) := by decide +kernel
theorem dX8_readWord_68 : decode cX8_readWord 68 = .ok (.ireturn, 1) := by decide +kernel
theorem dX9_lengthOf_0 : decode cX9_lengthOf 0 = .ok (.iconst 0, 1) := by decide +kernel
theorem dX9_lengthOf_1 : decode cX9_lengthOf 1 = .ok (.istore_n 1, 1) := by decide +kernel
theorem dX9_lengthOf_2 : decode cX9_lengthOf 2 = .ok (.iload_n 0, 1) := by decide +kernel
theorem dX9_lengthOf_3 : decode cX9_lengthOf 3 = .ok (.istore_n 2, 1) := by decide +kernel
theorem dX9_lengthOf_4 : decode cX9_lengthOf 4 = .ok (.iload_n 2, 1) := by decide +kernel
theorem dX9_lengthOf_5 : decode cX9_lengthOf 5 = .ok (.iconst 1, 1) := by decide +kernel
theorem dX9_lengthOf_6 : decode cX9_lengthOf 6 = .ok (.if_icmp .le 13, 3) := by decide +kernel
theorem dX9_lengthOf_9 : decode cX9_lengthOf 9 = .ok (.iinc 1 1, 3) := by decide +kernel
theorem dX9_lengthOf_12 : decode cX9_lengthOf 12 = .ok (.iload_n 2, 1) := by decide +kernel
theorem dX9_lengthOf_13 : decode cX9_lengthOf 13 = .ok (.iconst 2, 1) := by decide +kernel
theorem dX9_lengthOf_14 : decode cX9_lengthOf 14 = .ok (.ishr, 1) := by decide +kernel
theorem dX9_lengthOf_15 : decode cX9_lengthOf 15 = .ok (.istore_n 2, 1) := by decide +kernel
theorem dX9_lengthOf_16 : decode cX9_lengthOf 16 = .ok (.goto (-12), 3) := by decide +kernel
theorem dX9_lengthOf_19 : decode cX9_lengthOf 19 = .ok (.iload_n 1, 1) := by decide +kernel
theorem dX9_lengthOf_20 : decode cX9_lengthOf 20 = .ok (.ireturn, 1) := by decide +kernel
set_option maxRecDepth 20000 in
theorem ggX9_letterOf_X9_lengthOf : GoodIn wsX9_letterOf wsX9_lengthOf := goodIn_r _ [5] (by decide +kernel) (by decide +kernel)
set_option maxRecDepth 20000 in
theorem gX9_letterOf_X9_lengthOf : GoodIn wsX9_letterOf (va_wsS RX9 9 yX9_lengthOf wsX9_lengthOf) := goodIn_app (goodIn_of _ (by decide +kernel)) ggX9_letterOf_X9_lengthOf
theorem dX9_letterOf_0 : decode cX9_letterOf 0 = .ok (.iload_n 0, 1) := by decide +kernel
theorem dX9_letterOf_1 : decode cX9_letterOf 1 = .ok (.invokestatic 9, 3) := by decide +kernel
theorem dX9_letterOf_4 : decode cX9_letterOf 4 = .ok (.istore_n 2, 1) := by decide +kernel
theorem dX9_letterOf_5 : decode cX9_letterOf 5 = .ok (.iload_n 1, 1) := by decide +kernel
theorem dX9_letterOf_6 : decode cX9_letterOf 6 = .ok (.ifCond .lt 8, 3) := by decide +kernel
theorem dX9_letterOf_9 : decode cX9_letterOf 9 = .ok (.iload_n 1, 1) := by decide +kernel
theorem dX9_letterOf_10 : decode cX9_letterOf 10 = .ok (.iload_n 2, 1) := by decide +kernel
theorem dX9_letterOf_11 : decode cX9_letterOf 11 = .ok (.if_icmp .lt 6, 3) := by decide +kernel
theorem dX9_letterOf_14 : decode cX9_letterOf 14 = .ok (.ldc 15, 2) := by decide +kernel
theorem dX9_letterOf_16 : decode cX9_letterOf 16 = .ok (.ireturn, 1) := by decide +kernel
theorem dX9_letterOf_17 : decode cX9_letterOf 17 = .ok (.iload_n 0, 1) := by decide +kernel
theorem dX9_letterOf_18 : decode cX9_letterOf 18 = .ok (.iconst 2, 1) := by decide +kernel
theorem dX9_letterOf_19 : decode cX9_letterOf 19 = .ok (.iload_n 2, 1) := by decide +kernel
theorem dX9_letterOf_20 : decode cX9_letterOf 20 = .ok (.iconst 1, 1) := by decide +kernel
theorem dX9_letterOf_21 : decode cX9_letterOf 21 = .ok (.isub, 1) := by decide +kernel
theorem dX9_letterOf_22 : decode cX9_letterOf 22 = .ok (.iload_n 1, 1) := by decide +kernel
theorem dX9_letterOf_23 : decode cX9_letterOf 23 = .ok (.isub, 1) := by decide +kernel
theorem dX9_letterOf_24 : decode cX9_letterOf 24 = .ok (.imul, 1) := by decide +kernel
theorem dX9_letterOf_25 : decode cX9_letterOf 25 = .ok (.ishr, 1) := by decide +kernel
theorem dX9_letterOf_26 : decode cX9_letterOf 26 = .ok (.iconst 3, 1) := by decide +kernel
theorem dX9_letterOf_27 : decode cX9_letterOf 27 = .ok (.iand, 1) := by decide +kernel
theorem dX9_letterOf_28 : decode cX9_letterOf 28 = .ok (.ireturn, 1) := by decide +kernel
theorem dX9_withLetter_0 : decode cX9_withLetter 0 = .ok (.iload_n 0, 1) := by decide +kernel
theorem dX9_withLetter_1 : decode cX9_withLetter 1 = .ok (.iconst 2, 1) := by decide +kernel
theorem dX9_withLetter_2 : decode cX9_withLetter 2 = .ok (.ishl, 1) := by decide +kernel
theorem dX9_withLetter_3 : decode cX9_withLetter 3 = .ok (.iload_n 1, 1) := by decide +kernel
theorem dX9_withLetter_4 : decode cX9_withLetter 4 = .ok (.ior, 1) := by decide +kernel
theorem dX9_withLetter_5 : decode cX9_withLetter 5 = .ok (.ireturn, 1) := by decide +kernel
theorem dX9_lastBits_0 : decode cX9_lastBits 0 = .ok (.iload_n 0, 1) := by decide +kernel
theorem dX9_lastBits_1 : decode cX9_lastBits 1 = .ok (.iconst 1, 1) := by decide +kernel
theorem dX9_lastBits_2 : decode cX9_lastBits 2 = .ok (.iconst 2, 1) := by decide +kernel
theorem dX9_lastBits_3 : decode cX9_lastBits 3 = .ok (.iload_n 1, 1) := by decide +kernel
theorem dX9_lastBits_4 : decode cX9_lastBits 4 = .ok (.imul, 1) := by decide +kernel
theorem dX9_lastBits_5 : decode cX9_lastBits 5 = .ok (.ishl, 1) := by decide +kernel
theorem dX9_lastBits_6 : decode cX9_lastBits 6 = .ok (.iconst 1, 1) := by decide +kernel
theorem dX9_lastBits_7 : decode cX9_lastBits 7 = .ok (.isub, 1) := by decide +kernel
theorem dX9_lastBits_8 : decode cX9_lastBits 8 = .ok (.iand, 1) := by decide +kernel
theorem dX9_lastBits_9 : decode cX9_lastBits 9 = .ok (.ireturn, 1) := by decide +kernel
end
section
/-! own kit: contracts over worlds, calls in one row, numbers as naturals -/
def nx_is : Cond → Bool := fun w => match w with
  | .fieldLinkNest _ _ _ _ _ _ => true
  | .methodLinkNest _ _ _ _ => true
  | _ => false
def nx_ws : List Cond := tables_1.filter nx_is
/-- the links between nest mates hold -/
def Nst (U : State) : Prop := ∀ w ∈ nx_ws, va_Nw w U
theorem nx_tab {w : Cond} (h : nx_is w = true) : w.onTables = true := by
  cases w <;> first | rfl | (cases h)
theorem nx_mem {w : Cond} (h : w ∈ nx_ws) : nx_is w = true := (List.mem_filter.mp h).2
theorem Nst.same {u U : State} (h : u.vm = U.vm) (hN : Nst u) : Nst U := fun w hw => va_Nw.same (nx_tab (nx_mem hw)) h (hN w hw)
theorem Nst.warm {s U : State} (hW : s.WarmedH U.vm) (hN : Nst s) : Nst U := by
  intro w hw
  have h := hN w hw
  have hi := nx_mem hw
  revert h
  cases w <;> first | (cases hi; done) | exact fun h => va_Nw.warmF hW h | exact fun h => va_Nw.warmM hW h
theorem Nst.fl {s : State} (hN : Nst s) {w : Cond} {args : Array Value} (h : w ∈ nx_ws) : w.before args s = true := va_Nw.use (nx_tab (nx_mem h)) (hN w h)
theorem Nst.of {s : State} {args : Array Value} (h : ∀ w ∈ tables_1, w.before args s = true) : Nst s := fun w hw => va_Nw.of (nx_tab (nx_mem hw)) (h w (List.mem_filter.mp hw).1)
/-- the array classes: of int, of char, of State -/
abbrev tyS (cA : Nat → ClassId) : List (ClassId × FieldType) := [(cA 0, .int), (cA 1, .char), (cA 2, .object RX6)]
def PW (D : va_G) (cA : Nat → ClassId) (sz : Nat) (w : va_W) (U : State) : Prop := U.heap.size = sz ∧ va_P D vwCl w U.heap ∧ va_K D vwCl (tyS cA) U ∧ Nst U ∧ va_D (fun _ => True) w
def BW (D : va_G) (cA : Nat → ClassId) (A : Nat → Prop) (w : va_W) (t : State) : Prop := va_P D vwCl w t.heap ∧ va_K D vwCl (tyS cA) t ∧ va_D A w
def MetI (l : Launch) (D : va_G) (cA : Nat → ClassId) (y : MethodName) (ws : List Cond) (fr lo : Nat) (av : List Value) (w : va_W) (post : Int32 → va_W → Prop) : Prop := ∀ sz : Nat, Met l y ws { frames := fr, cells := 0, slots := 0, locals := lo } (va_Pc av (PW D cA sz w)) (va_Qi post (BW D cA (va_A w sz)) (va_A w sz)) 0 0 (va_A w sz)
def MetV (l : Launch) (D : va_G) (cA : Nat → ClassId) (y : MethodName) (ws : List Cond) (fr lo mc ms : Nat) (av : List Value) (w : va_W) (post : va_W → Prop) : Prop := ∀ sz : Nat, Met l y ws { frames := fr, cells := mc, slots := ms, locals := lo } (va_Pc av (PW D cA sz w)) (va_Qv post (BW D cA (va_A w sz)) (va_A w sz)) mc ms (va_A w sz)
theorem MetI.post {l : Launch} {D : va_G} {cA : Nat → ClassId} {y : MethodName} {ws : List Cond} {fr lo : Nat} {av : List Value} {w : va_W} {post post' : Int32 → va_W → Prop} (h : MetI l D cA y ws fr lo av w post) (hp : ∀ r w', post r w' → post' r w') : MetI l D cA y ws fr lo av w post' := by
  intro sz p e ha hc hk s m args below hf happ hpre htr
  obtain ⟨k, o, h1, h2, h3, hQ, hL⟩ := h sz p e ha hc hk s m args below hf happ hpre htr
  obtain ⟨⟨r, u, q1, q2, q3⟩, q4⟩ := hQ
  exact ⟨k, o, h1, h2, h3, ⟨⟨r, u, q1, hp r u q2, q3⟩, q4⟩, hL⟩
theorem MetV.post {l : Launch} {D : va_G} {cA : Nat → ClassId} {y : MethodName} {ws : List Cond} {fr lo mc ms : Nat} {av : List Value} {w : va_W} {post post' : va_W → Prop} (h : MetV l D cA y ws fr lo mc ms av w post) (hp : ∀ w', post w' → post' w') : MetV l D cA y ws fr lo mc ms av w post' := by
  intro sz p e ha hc hk s m args below hf happ hpre htr
  obtain ⟨k, o, h1, h2, h3, hQ, hL⟩ := h sz p e ha hc hk s m args below hf happ hpre htr
  obtain ⟨⟨u, q1, q2, q3⟩, q4⟩ := hQ
  exact ⟨k, o, h1, h2, h3, ⟨⟨u, q1, hp u q2, q3⟩, q4⟩, hL⟩
/-! a callee's world put back at its places -/
def bk : va_W → List Nat → va_W → va_W
  | ws, i :: is, q :: qs => bk (ws.set i q) is qs
  | ws, _, _ => ws
theorem bk_get : ∀ (isC : List Nat) (w' ws : va_W), w'.length = isC.length → ∀ (k : Nat) (q : Nat × va_E), (bk ws isC w')[k]? = some q → (k ∉ isC ∧ ws[k]? = some q) ∨ ∃ j : Nat, isC[j]? = some k ∧ w'[j]? = some q
  | [], [], ws, _, k, q, h => Or.inl ⟨List.not_mem_nil, h⟩
  | [], _ :: _, ws, hl, _, _, _ => by cases hl
  | _ :: _, [], ws, hl, _, _, _ => by cases hl
  | i :: is, q0 :: qs, ws, hl, k, q, h => by
    rcases bk_get is qs (ws.set i q0) (Nat.succ.inj hl) k q h with ⟨h1, h2⟩ | ⟨j, h1, h2⟩
    · rw [List.getElem?_set] at h2
      by_cases e : i = k
      · rw [if_pos e] at h2
        by_cases e2 : i < ws.length
        · rw [if_pos e2] at h2
          exact Or.inr ⟨0, by rw [← e]; rfl, h2⟩
        · rw [if_neg e2] at h2; cases h2
      · rw [if_neg e] at h2
        exact Or.inl ⟨fun hm => (List.mem_cons.mp hm).elim (fun x => e x.symm) h1, h2⟩
    · exact Or.inr ⟨j + 1, h1, h2⟩
theorem bk_ok {A0 : Nat → Prop} {D : va_G} {ws wc w' : va_W} {H H1 : Heap} (hP : va_P D vwCl ws H) (hD : va_D A0 ws) (isC : List Nat) (hC : isC.map (fun i => ws[i]?) = wc.map some)
    (hk : ∀ q : Nat, q < H.size → ¬ va_A wc H.size q → H1[q]? = H[q]?) (hF : ∀ q, va_A wc H.size q → A0 q) (hP1 : va_P D vwCl w' H1) (hD1 : va_D (va_A wc H.size) w') (hl : w'.length = isC.length) : va_P D vwCl (bk ws isC w') H1 ∧ va_D A0 (bk ws isC w') := by
  have old : ∀ (k : Nat) (q : Nat × va_E), k ∉ isC → ws[k]? = some q → q.1 < H.size ∧ ¬ va_A wc H.size q.1 := by
    intro k q hn hq
    have hlt := (hP k q hq).lt
    refine ⟨hlt, fun h => ?_⟩
    rcases h with ⟨j, e, h⟩ | h
    · have h1 : (isC.map (fun i => ws[i]?))[j]? = some (some (q.1, e)) := by rw [hC, List.getElem?_map, h]; rfl
      rw [List.getElem?_map] at h1
      cases hi : isC[j]? with
      | none => rw [hi] at h1; cases h1
      | some i =>
        rw [hi] at h1
        have h2 : ws[i]? = some (q.1, e) := Option.some.inj h1
        have e2 : k = i := hD.1 k i q _ hq h2 rfl
        exact hn (by rw [e2]; exact List.mem_of_getElem? hi)
    · omega
  refine ⟨fun k q h => ?_, fun i j p q hi hj e => ?_, fun k q h => ?_⟩
  · rcases bk_get isC w' ws hl k q h with ⟨h1, h2⟩ | ⟨j, h1, h2⟩
    · obtain ⟨a, b⟩ := old k q h1 h2
      exact (hP k q h2).kept (hk _ a b)
    · exact hP1 j q h2
  · rcases bk_get isC w' ws hl i p hi with ⟨h1, h2⟩ | ⟨a, h1, h2⟩
    · rcases bk_get isC w' ws hl j q hj with ⟨g1, g2⟩ | ⟨b, g1, g2⟩
      · exact hD.1 i j p q h2 g2 e
      · exact absurd (by rw [e]; exact hD1.2 b q g2) (old i p h1 h2).2
    · rcases bk_get isC w' ws hl j q hj with ⟨g1, g2⟩ | ⟨b, g1, g2⟩
      · exact absurd (by rw [← e]; exact hD1.2 a p h2) (old j q g1 g2).2
      · have e2 := hD1.1 a b p q h2 g2 e
        subst e2
        rw [h1] at g1
        exact Option.some.inj g1
  · rcases bk_get isC w' ws hl k q h with ⟨h1, h2⟩ | ⟨j, h1, h2⟩
    · exact hD.2 k q h2
    · exact hF _ (hD1.2 j q h2)
def Jn (D : va_G) (A0 : Nat → Prop) (ws : va_W) (isC : List Nat) (H1 : Heap) (w' : va_W) : Prop := w'.length = isC.length → va_P D vwCl (bk ws isC w') H1 ∧ va_D A0 (bk ws isC w')
/-! entry and end -/
section EN
variable {l : Launch} {D : va_G} {cA : Nat → ClassId} {y : MethodName} {ws ws' : List Cond} {fr lo mc ms : Nat} {av : List Value} {w : va_W} {cc : ByteArray} {maxL : Nat} {ret : Option FieldType}
theorem MetI.of {post : Int32 → va_W → Prop} (hy : plainName y.cls = true) (hw : ws = Cond.code y cc maxL ret :: ws') (hlen : (lg_sl av).length ≤ maxL) (hret : ret = some .int ∨ (ret = some .boolean ∧ ∀ r w', post r w' → narrow .boolean (.int r) = .int r))
    (body : ∀ (p : Program) (e : Env) (s : State) (m : MethodId) (args : Array Value) (below : List Frame) (meth : Method) (c : Code) (Q : State → Prop) (A : Nat → Prop) (ls : Array Slot), CallFix p m c cc maxL s args ws y.cls → va_P D vwCl w s.heap → va_K D vwCl (tyS cA) s → Nst s → va_D A w → (∀ q, s.heap.size ≤ q → A q) → va_S A s.heap s.heap [] → lv_has ls maxL (lv_args 0 av) →
      (∀ (r : Int32) (w' : va_W) (H : Heap) (locs : List Loc) (pc : Nat) (ls : Array Slot), decode cc pc = .ok (.ireturn, 1) → post r w' → va_P D vwCl w' H → va_D A w' → va_S A s.heap H locs → W p l e { frames := fr, cells := 0, slots := 0, locals := lo } s m args below meth c H locs 0 0 Q (F0 m pc ls [.int r])) →
      W p l e { frames := fr, cells := 0, slots := 0, locals := lo } s m args below meth c s.heap [] 0 0 Q (F0 m 0 ls [])) : MetI l D cA y ws fr lo av w post := by
  intro sz
  refine Met.ofW (cc := cc) (maxL := maxL) (ret := ret) hy hw ?_
  intro p e s m args below meth c s₁ B hml hv
  obtain ⟨rfl, hsz, hP, hK, hN, hD0⟩ := hv
  subst hsz
  have hts := atoms_spec (ws := ws) B.pre
  have hlocks := B.notSynchronized
  have hl := lv_entry av (n := maxL) hlen
  rw [lg_entry_eq]
  refine body p e s m _ below meth c _ (va_A w s.heap.size) _ ⟨B.exec, B.bytes, hml, findClass_of_methodNamed B.named, hts⟩ hP hK hN hD0.self (fun q h => Or.inr h) va_S.rf hl ?_
  intro r w' H locs pc ls hdg hp hP1 hD1 hS1
  rcases hret with hr | ⟨hr, hnb⟩
  · refine W.iret B.exec B.bytes (B.returns.trans hr) (fun t ht hW => ⟨⟨r, w', rfl, hp, by rw [ht]; exact hP1, va_K.moved hW.alike hK, hD1⟩, hS1.F ht⟩) hS1.2.2 hdg
  · refine W.zret B.exec B.bytes (B.returns.trans hr) (hnb r w' hp) (fun t ht hW => ⟨⟨r, w', rfl, hp, by rw [ht]; exact hP1, va_K.moved hW.alike hK, hD1⟩, hS1.F ht⟩) hS1.2.2 hdg
theorem MetV.of {post : va_W → Prop} (hy : plainName y.cls = true) (hw : ws = Cond.code y cc maxL none :: ws') (hlen : (lg_sl av).length ≤ maxL)
    (body : ∀ (p : Program) (e : Env) (s : State) (m : MethodId) (args : Array Value) (below : List Frame) (meth : Method) (c : Code) (Q : State → Prop) (A : Nat → Prop) (ls : Array Slot), CallFix p m c cc maxL s args ws y.cls → va_P D vwCl w s.heap → va_K D vwCl (tyS cA) s → Nst s → va_D A w → (∀ q, s.heap.size ≤ q → A q) → va_S A s.heap s.heap [] → lv_has ls maxL (lv_args 0 av) → meth.name = y.name →
      (∀ (w' : va_W) (H : Heap) (locs : List Loc) (pc : Nat) (ls : Array Slot), decode cc pc = .ok (.return_, 1) → post w' → va_P D vwCl w' H → va_D A w' → va_S A s.heap H locs → W p l e { frames := fr, cells := mc, slots := ms, locals := lo } s m args below meth c H locs mc ms Q (F0 m pc ls [])) →
      W p l e { frames := fr, cells := mc, slots := ms, locals := lo } s m args below meth c s.heap [] 0 0 Q (F0 m 0 ls [])) : MetV l D cA y ws fr lo mc ms av w post := by
  intro sz
  refine Met.ofW (cc := cc) (maxL := maxL) (ret := none) hy hw ?_
  intro p e s m args below meth c s₁ B hml hv
  obtain ⟨rfl, hsz, hP, hK, hN, hD0⟩ := hv
  subst hsz
  have hts := atoms_spec (ws := ws) B.pre
  have hlocks := B.notSynchronized
  have hl := lv_entry av (n := maxL) hlen
  rw [lg_entry_eq]
  refine body p e s m _ below meth c _ (va_A w s.heap.size) _ ⟨B.exec, B.bytes, hml, findClass_of_methodNamed B.named, hts⟩ hP hK hN hD0.self (fun q h => Or.inr h) va_S.rf hl (name_of_methodNamed B.named B.method).1 ?_
  intro w' H locs pc ls hdg hp hP1 hD1 hS1
  exact W.vret B.exec B.bytes B.returns (fun t ht hW => ⟨⟨w', rfl, hp, by rw [ht]; exact hP1, va_K.moved hW.alike hK, hD1⟩, hS1.F ht⟩) hS1.2.2 hdg
end EN
theorem pw_blind {D : va_G} {cA : Nat → ClassId} {sz : Nat} {w : va_W} {av : List Value} : FrameBlind (va_Pc av (PW D cA sz w)) := fun a U g mk q => by
  obtain ⟨q0, q1, qP, qK, qN, qD⟩ := q
  exact ⟨q0, q1, qP, va_K.moved (u := U) (U := U.calling g mk a) (Vm.Alike.refl U.vm) qK, Nst.same (u := U) (U := U.calling g mk a) rfl qN, qD⟩
/-! calls -/
section CL
variable {p : Program} {l : Launch} {e : Env} {R : Room} {s : State} {m : MethodId} {args : Array Value} {below : List Frame} {meth : Method} {c : Code} {H : Heap} {locs : List Loc} {cells slots : Nat} {Q : State → Prop}
variable {D : va_G} {cA : Nat → ClassId} {y : MethodName} {ws : List Cond} {fr lo mc ms : Nat} {As rest st0 : List Value} {w0 w : va_W} {cc bytes : ByteArray} {maxL nL pc n index : Nat} {ret : Option FieldType} {ls : Array Slot} {A : Nat → Prop} {H0 : Heap} {Ts : List Cond} {own C host : String} {b : Addr}
theorem cl_i {post : Int32 → va_W → Prop} {a : Array Value} (hP : va_P D vwCl w0 H) (hD : va_D A w0) (hS : va_S A H0 H locs) (hA : ∀ q, H0.size ≤ q → A q) (isC : List Nat) (hC : isC.map (fun i => w0[i]?) = w.map some)
    (hr : va_Run p l e R s m args below meth c H locs cells slots 0 0 (F0 m pc ls st0) rest (va_Qi post (BW D cA (va_A w H.size)) (va_A w H.size) a) (va_A w H.size))
    (kk : ∀ (r : Int32) (w' : va_W) (H1 : Heap) (locs1 : List Loc), post r w' → Jn D A w0 isC H1 w' → va_S A H0 H1 locs1 → W p l e R s m args below meth c H1 locs1 cells slots Q (F0 m (pc + 3) ls (.int r :: rest))) : W p l e R s m args below meth c H locs cells slots Q (F0 m pc ls st0) := by
  have hF := va_free (wc := w) hD hS hA isC hC
  refine va_calli hr hS (fun q _ h => hF q h) hF (fun r u t H1 locs1 ht hvm hp hB hz hk hS1 => ?_)
  refine kk r u H1 locs1 hp (fun hl => ?_) hS1
  obtain ⟨h1, -, h3⟩ := hB
  rw [ht] at h1
  exact bk_ok hP hD isC hC hk hF h1 h3 hl
theorem cl_v {post : va_W → Prop} {a : Array Value} (hP : va_P D vwCl w0 H) (hD : va_D A w0) (hS : va_S A H0 H locs) (hA : ∀ q, H0.size ≤ q → A q) (isC : List Nat) (hC : isC.map (fun i => w0[i]?) = w.map some)
    (hr : va_Run p l e R s m args below meth c H locs cells slots 0 0 (F0 m pc ls st0) rest (va_Qv post (BW D cA (va_A w H.size)) (va_A w H.size) a) (va_A w H.size))
    (kk : ∀ (w' : va_W) (H1 : Heap) (locs1 : List Loc), post w' → Jn D A w0 isC H1 w' → va_S A H0 H1 locs1 → W p l e R s m args below meth c H1 locs1 cells slots Q (F0 m (pc + 3) ls rest)) : W p l e R s m args below meth c H locs cells slots Q (F0 m pc ls st0) := by
  have hF := va_free (wc := w) hD hS hA isC hC
  refine va_callv hr hS (fun q _ h => hF q h) hF (fun u t H1 locs1 ht hvm hp hB hz hk hS1 => ?_)
  refine kk u H1 locs1 hp (fun hl => ?_) hS1
  obtain ⟨h1, -, h3⟩ := hB
  rw [ht] at h1
  exact bk_ok hP hD isC hC hk hF h1 h3 hl
/-- a callee that makes cells: its world comes behind the rest -/
theorem cl_c {post : va_W → Prop} {a : Array Value} (hP : va_P D vwCl w0 H) (hD : va_D A w0) (hS : va_S A H0 H locs) (hA : ∀ q, H0.size ≤ q → A q) (isC isR : List Nat) (hC : isC.map (fun i => w0[i]?) = w.map some) {wr : va_W} (hR : isR.map (fun i => w0[i]?) = wr.map some) (hn : va_nd isR = true) (hdis : ∀ i ∈ isR, i ∉ isC)
    (hr : va_Run p l e R s m args below meth c H locs cells slots mc ms (F0 m pc ls st0) rest (va_Qv post (BW D cA (va_A w H.size)) (va_A w H.size) a) (va_A w H.size))
    (kk : ∀ (w' : va_W) (H1 : Heap) (locs1 : List Loc), post w' → va_P D vwCl (wr ++ w') H1 → va_D A (wr ++ w') → va_S A H0 H1 locs1 → W p l e R s m args below meth c H1 locs1 (cells + mc) (slots + ms) Q (F0 m (pc + 3) ls rest)) : W p l e R s m args below meth c H locs cells slots Q (F0 m pc ls st0) := by
  have hF := va_free (wc := w) hD hS hA isC hC
  refine va_callv hr hS (fun q _ h => hF q h) hF (fun u t H1 locs1 ht hvm hp hB hz hk hS1 => ?_)
  obtain ⟨h1, -, h3⟩ := hB
  rw [ht] at h1
  obtain ⟨k1, k2⟩ := va_join hP hD isC isR hC hR hn hdis hk hF h1 h3
  exact kk u H1 locs1 hp k1 k2 hS1
/-- the callee's start, from the caller's world -/
theorem cl_pre (hP : va_P D vwCl w0 H) (hD : va_D A w0) (hK : va_K D vwCl (tyS cA) s) (hN : Nst s) (isC : List Nat) (hC : isC.map (fun i => w0[i]?) = w.map some) (hn : va_nd isC = true) {av : List Value} : ∀ U : State, U.heap = H → s.WarmedH U.vm → va_Pc av (PW D cA H.size w) av.toArray U := by
  intro U hU hW
  refine ⟨rfl, by rw [hU], ?_, va_K.moved hW.alike hK, hN.warm hW, (hD.sub isC hn hC).weaken (fun _ _ _ _ => trivial)⟩
  rw [hU]
  intro k q hk
  have h1 : (isC.map (fun i => w0[i]?))[k]? = some (some q) := by rw [hC, List.getElem?_map, hk]; rfl
  rw [List.getElem?_map] at h1
  cases hi : isC[k]? with
  | none => rw [hi] at h1; cases h1
  | some i =>
    rw [hi] at h1
    exact hP i q (Option.some.inj h1)
theorem cl_recv {w0 : va_W} {fs : List Value} {ci q0 : Nat} {q : vw_C} (hP : va_P D vwCl w0 H) (hK : va_K D vwCl (tyS cA) s) (hc : vwCl[ci]? = some q) (he : w0[q0]? = some (b, .inr (ci, fs))) : ∃ cell : Cell, H[b]? = some cell ∧ cell.vm.isStatics = false ∧ s.vm.findClass q.1 = some cell.cls := va_recv hK hP hc he
section I
variable {post : Int32 → va_W → Prop}
abbrev MI (l : Launch) (D : va_G) (cA : Nat → ClassId) (y : MethodName) (ws : List Cond) (fr lo : Nat) (av : List Value) (w : va_W) (post : Int32 → va_W → Prop) : Prop := MetI l D cA y ws fr lo av w post
theorem ci_V (h0 : CallFix p m c cc nL s args Ts own) (hK : va_K D vwCl (tyS cA) s) (hN : Nst s) (hP : va_P D vwCl w0 H) (hD : va_D A w0) (hS : va_S A H0 H locs) (hA : ∀ q, H0.size ≤ q → A q) (hls : ls.size = nL) (hM : MetI l D cA y ws fr lo (.ref b :: As) w post) (isC : List Nat) (hC : isC.map (fun i => w0[i]?) = w.map some) (hn : va_nd isC = true)
    (cw : CallW R s args own C index y bytes maxL ret ws { frames := fr, cells := 0, slots := 0, locals := lo } 0 0 n) (hrec : ∃ cell : Cell, H[b]? = some cell ∧ cell.vm.isStatics = false ∧ s.vm.findClass C = some cell.cls) (hn2 : As.length = n) (hst : st0 = As.reverse ++ .ref b :: rest) (hW : (rest.map fun v => v.category).sum ≤ 8) (hdg : decode cc pc = .ok (.invokevirtual index, 3)) (hf : cells ≤ R.cells ∧ slots ≤ R.slots)
    (kk : ∀ (r : Int32) (w' : va_W) (H1 : Heap) (locs1 : List Loc), post r w' → Jn D A w0 isC H1 w' → va_S A H0 H1 locs1 → W p l e R s m args below meth c H1 locs1 cells slots Q (F0 m (pc + 3) ls (.int r :: rest))) : W p l e R s m args below meth c H locs cells slots Q (F0 m pc ls st0) :=
  cl_i hP hD hS hA isC hC (va_runV (As := As) (rest := rest) h0 (hM H.size) cw ⟨pw_blind, hrec, cl_pre hP hD hK hN isC hC hn⟩ rfl hn2 hls hst (lv_room hW) hdg hf) kk
theorem ci_VN (h0 : CallFix p m c cc nL s args Ts own) (hK : va_K D vwCl (tyS cA) s) (hN : Nst s) (hP : va_P D vwCl w0 H) (hD : va_D A w0) (hS : va_S A H0 H locs) (hA : ∀ q, H0.size ≤ q → A q) (hls : ls.size = nL) (hM : MetI l D cA y ws fr lo (.ref b :: As) w post) (isC : List Nat) (hC : isC.map (fun i => w0[i]?) = w.map some) (hn : va_nd isC = true)
    (cw : va_CN R s args own index y host bytes maxL ret ws { frames := fr, cells := 0, slots := 0, locals := lo } 0 0 n ∧ (Cond.instanceMethod y).before args s = true ∧ (Cond.selects C y y).before args s = true) (hrec : ∃ cell : Cell, H[b]? = some cell ∧ cell.vm.isStatics = false ∧ s.vm.findClass C = some cell.cls) (hn2 : As.length = n) (hst : st0 = As.reverse ++ .ref b :: rest) (hW : (rest.map fun v => v.category).sum ≤ 8) (hdg : decode cc pc = .ok (.invokevirtual index, 3)) (hf : cells ≤ R.cells ∧ slots ≤ R.slots)
    (kk : ∀ (r : Int32) (w' : va_W) (H1 : Heap) (locs1 : List Loc), post r w' → Jn D A w0 isC H1 w' → va_S A H0 H1 locs1 → W p l e R s m args below meth c H1 locs1 cells slots Q (F0 m (pc + 3) ls (.int r :: rest))) : W p l e R s m args below meth c H locs cells slots Q (F0 m pc ls st0) :=
  cl_i hP hD hS hA isC hC (va_runVN (As := As) (rest := rest) h0 (hM H.size) cw ⟨pw_blind, hrec, cl_pre hP hD hK hN isC hC hn⟩ rfl hn2 hls hst (lv_room hW) hdg hf) kk
theorem ci_S (h0 : CallFix p m c cc nL s args Ts own) (hK : va_K D vwCl (tyS cA) s) (hN : Nst s) (hP : va_P D vwCl w0 H) (hD : va_D A w0) (hS : va_S A H0 H locs) (hA : ∀ q, H0.size ≤ q → A q) (hls : ls.size = nL) (hM : MetI l D cA y ws fr lo As w post) (isC : List Nat) (hC : isC.map (fun i => w0[i]?) = w.map some) (hn : va_nd isC = true)
    (cw : CallB R s args own index y bytes maxL ret ws { frames := fr, cells := 0, slots := 0, locals := lo } 0 0 n ∧ (Cond.static y).before args s = true) (hn2 : As.length = n) (hst : st0 = As.reverse ++ rest) (hW : (rest.map fun v => v.category).sum ≤ 8) (hdg : decode cc pc = .ok (.invokestatic index, 3)) (hf : cells ≤ R.cells ∧ slots ≤ R.slots)
    (kk : ∀ (r : Int32) (w' : va_W) (H1 : Heap) (locs1 : List Loc), post r w' → Jn D A w0 isC H1 w' → va_S A H0 H1 locs1 → W p l e R s m args below meth c H1 locs1 cells slots Q (F0 m (pc + 3) ls (.int r :: rest))) : W p l e R s m args below meth c H locs cells slots Q (F0 m pc ls st0) :=
  cl_i hP hD hS hA isC hC (va_runS (As := As) (rest := rest) h0 (hM H.size) cw ⟨pw_blind, cl_pre hP hD hK hN isC hC hn⟩ rfl hn2 hls hst (lv_room hW) hdg hf) kk
theorem ci_SN (h0 : CallFix p m c cc nL s args Ts own) (hK : va_K D vwCl (tyS cA) s) (hN : Nst s) (hP : va_P D vwCl w0 H) (hD : va_D A w0) (hS : va_S A H0 H locs) (hA : ∀ q, H0.size ≤ q → A q) (hls : ls.size = nL) (hM : MetI l D cA y ws fr lo As w post) (isC : List Nat) (hC : isC.map (fun i => w0[i]?) = w.map some) (hn : va_nd isC = true)
    (cw : va_CN R s args own index y host bytes maxL ret ws { frames := fr, cells := 0, slots := 0, locals := lo } 0 0 n ∧ (Cond.static y).before args s = true ∧ True) (hn2 : As.length = n) (hst : st0 = As.reverse ++ rest) (hW : (rest.map fun v => v.category).sum ≤ 8) (hdg : decode cc pc = .ok (.invokestatic index, 3)) (hf : cells ≤ R.cells ∧ slots ≤ R.slots)
    (kk : ∀ (r : Int32) (w' : va_W) (H1 : Heap) (locs1 : List Loc), post r w' → Jn D A w0 isC H1 w' → va_S A H0 H1 locs1 → W p l e R s m args below meth c H1 locs1 cells slots Q (F0 m (pc + 3) ls (.int r :: rest))) : W p l e R s m args below meth c H locs cells slots Q (F0 m pc ls st0) :=
  cl_i hP hD hS hA isC hC (va_runSN (As := As) (rest := rest) h0 (hM H.size) cw ⟨pw_blind, cl_pre hP hD hK hN isC hC hn⟩ rfl hn2 hls hst (lv_room hW) hdg hf) kk
end I
section V
variable {post : va_W → Prop}
theorem cv_V (h0 : CallFix p m c cc nL s args Ts own) (hK : va_K D vwCl (tyS cA) s) (hN : Nst s) (hP : va_P D vwCl w0 H) (hD : va_D A w0) (hS : va_S A H0 H locs) (hA : ∀ q, H0.size ≤ q → A q) (hls : ls.size = nL) (hM : MetV l D cA y ws fr lo 0 0 (.ref b :: As) w post) (isC : List Nat) (hC : isC.map (fun i => w0[i]?) = w.map some) (hn : va_nd isC = true)
    (cw : CallW R s args own C index y bytes maxL ret ws { frames := fr, cells := 0, slots := 0, locals := lo } 0 0 n) (hrec : ∃ cell : Cell, H[b]? = some cell ∧ cell.vm.isStatics = false ∧ s.vm.findClass C = some cell.cls) (hn2 : As.length = n) (hst : st0 = As.reverse ++ .ref b :: rest) (hW : (rest.map fun v => v.category).sum ≤ 8) (hdg : decode cc pc = .ok (.invokevirtual index, 3)) (hf : cells ≤ R.cells ∧ slots ≤ R.slots)
    (kk : ∀ (w' : va_W) (H1 : Heap) (locs1 : List Loc), post w' → Jn D A w0 isC H1 w' → va_S A H0 H1 locs1 → W p l e R s m args below meth c H1 locs1 cells slots Q (F0 m (pc + 3) ls rest)) : W p l e R s m args below meth c H locs cells slots Q (F0 m pc ls st0) :=
  cl_v hP hD hS hA isC hC (va_runV (As := As) (rest := rest) h0 (hM H.size) cw ⟨pw_blind, hrec, cl_pre hP hD hK hN isC hC hn⟩ rfl hn2 hls hst (lv_room hW) hdg hf) kk
theorem cv_VN (h0 : CallFix p m c cc nL s args Ts own) (hK : va_K D vwCl (tyS cA) s) (hN : Nst s) (hP : va_P D vwCl w0 H) (hD : va_D A w0) (hS : va_S A H0 H locs) (hA : ∀ q, H0.size ≤ q → A q) (hls : ls.size = nL) (hM : MetV l D cA y ws fr lo 0 0 (.ref b :: As) w post) (isC : List Nat) (hC : isC.map (fun i => w0[i]?) = w.map some) (hn : va_nd isC = true)
    (cw : va_CN R s args own index y host bytes maxL ret ws { frames := fr, cells := 0, slots := 0, locals := lo } 0 0 n ∧ (Cond.instanceMethod y).before args s = true ∧ (Cond.selects C y y).before args s = true) (hrec : ∃ cell : Cell, H[b]? = some cell ∧ cell.vm.isStatics = false ∧ s.vm.findClass C = some cell.cls) (hn2 : As.length = n) (hst : st0 = As.reverse ++ .ref b :: rest) (hW : (rest.map fun v => v.category).sum ≤ 8) (hdg : decode cc pc = .ok (.invokevirtual index, 3)) (hf : cells ≤ R.cells ∧ slots ≤ R.slots)
    (kk : ∀ (w' : va_W) (H1 : Heap) (locs1 : List Loc), post w' → Jn D A w0 isC H1 w' → va_S A H0 H1 locs1 → W p l e R s m args below meth c H1 locs1 cells slots Q (F0 m (pc + 3) ls rest)) : W p l e R s m args below meth c H locs cells slots Q (F0 m pc ls st0) :=
  cl_v hP hD hS hA isC hC (va_runVN (As := As) (rest := rest) h0 (hM H.size) cw ⟨pw_blind, hrec, cl_pre hP hD hK hN isC hC hn⟩ rfl hn2 hls hst (lv_room hW) hdg hf) kk
theorem cc_I (h0 : CallFix p m c cc nL s args Ts own) (hK : va_K D vwCl (tyS cA) s) (hN : Nst s) (hP : va_P D vwCl w0 H) (hD : va_D A w0) (hS : va_S A H0 H locs) (hA : ∀ q, H0.size ≤ q → A q) (hls : ls.size = nL) (hM : MetV l D cA y ws fr lo mc ms (.ref b :: As) w post) (isC isR : List Nat) (hC : isC.map (fun i => w0[i]?) = w.map some) (hn : va_nd isC = true) {wr : va_W} (hR : isR.map (fun i => w0[i]?) = wr.map some) (hnR : va_nd isR = true) (hdis : ∀ i ∈ isR, i ∉ isC)
    (cw : CallB R s args own index y bytes maxL none ws { frames := fr, cells := mc, slots := ms, locals := lo } mc ms n ∧ y.name = "<init>" ∧ (Cond.instanceMethod y).before args s = true) (hn2 : As.length = n) (hst : st0 = As.reverse ++ .ref b :: rest) (hW : (rest.map fun v => v.category).sum ≤ 8) (hdg : decode cc pc = .ok (.invokespecial index, 3)) (hf : cells + mc ≤ R.cells ∧ slots + ms ≤ R.slots)
    (kk : ∀ (w' : va_W) (H1 : Heap) (locs1 : List Loc), post w' → va_P D vwCl (wr ++ w') H1 → va_D A (wr ++ w') → va_S A H0 H1 locs1 → W p l e R s m args below meth c H1 locs1 (cells + mc) (slots + ms) Q (F0 m (pc + 3) ls rest)) : W p l e R s m args below meth c H locs cells slots Q (F0 m pc ls st0) :=
  cl_c hP hD hS hA isC isR hC hR hnR hdis (va_runI (As := As) (rest := rest) h0 (hM H.size) cw ⟨pw_blind, cl_pre hP hD hK hN isC hC hn⟩ rfl hn2 hls hst (lv_room hW) hdg hf) kk
theorem cc_IN (h0 : CallFix p m c cc nL s args Ts own) (hK : va_K D vwCl (tyS cA) s) (hN : Nst s) (hP : va_P D vwCl w0 H) (hD : va_D A w0) (hS : va_S A H0 H locs) (hA : ∀ q, H0.size ≤ q → A q) (hls : ls.size = nL) (hM : MetV l D cA y ws fr lo mc ms (.ref b :: As) w post) (isC isR : List Nat) (hC : isC.map (fun i => w0[i]?) = w.map some) (hn : va_nd isC = true) {wr : va_W} (hR : isR.map (fun i => w0[i]?) = wr.map some) (hnR : va_nd isR = true) (hdis : ∀ i ∈ isR, i ∉ isC)
    (cw : va_CN R s args own index y host bytes maxL none ws { frames := fr, cells := mc, slots := ms, locals := lo } mc ms n ∧ y.name = "<init>" ∧ (Cond.instanceMethod y).before args s = true) (hn2 : As.length = n) (hst : st0 = As.reverse ++ .ref b :: rest) (hW : (rest.map fun v => v.category).sum ≤ 8) (hdg : decode cc pc = .ok (.invokespecial index, 3)) (hf : cells + mc ≤ R.cells ∧ slots + ms ≤ R.slots)
    (kk : ∀ (w' : va_W) (H1 : Heap) (locs1 : List Loc), post w' → va_P D vwCl (wr ++ w') H1 → va_D A (wr ++ w') → va_S A H0 H1 locs1 → W p l e R s m args below meth c H1 locs1 (cells + mc) (slots + ms) Q (F0 m (pc + 3) ls rest)) : W p l e R s m args below meth c H locs cells slots Q (F0 m pc ls st0) :=
  cl_c hP hD hS hA isC isR hC hR hnR hdis (va_runIN (As := As) (rest := rest) h0 (hM H.size) cw ⟨pw_blind, cl_pre hP hD hK hN isC hC hn⟩ rfl hn2 hls hst (lv_room hW) hdg hf) kk
end V
end CL
/-! numbers -/
def bI (b : Bool) : Int32 := if b then 1 else 0
theorem bI_nar (b : Bool) : narrow .boolean (.int (bI b)) = .int (bI b) := by cases b <;> rfl
section NB
variable {p : Program} {l : Launch} {e : Env} {R : Room} {s : State} {m : MethodId} {args : Array Value} {below : List Frame} {meth : Method} {c : Code} {H : Heap} {locs : List Loc} {cells slots : Nat} {Q : State → Prop}
variable {cc : ByteArray} {pc : Nat} {ls : Array Slot} {rest : List Value}
/-- the top of the stack by another word -/
theorem xt {x y : Int32} (h : x = y) (k : W p l e R s m args below meth c H locs cells slots Q (F0 m pc ls (.int y :: rest))) : W p l e R s m args below meth c H locs cells slots Q (F0 m pc ls (.int x :: rest)) := by rw [h]; exact k
variable {a b : Nat} {off : Int} {tgt : Nat}
theorem xc_lt (hexec : p.tables.exec = Jvm.exec) (hb : c.code = cc) (hdg : decode cc pc = .ok (.if_icmp .lt off, 3)) (ht : (pc : Int) + off = (tgt : Int)) (ha : a < 2147483648) (hb2 : b < 2147483648) (kt : a < b → W p l e R s m args below meth c H locs cells slots Q (F0 m tgt ls rest)) (kf : b ≤ a → W p l e R s m args below meth c H locs cells slots Q (F0 m (pc + 3) ls rest)) : W p l e R s m args below meth c H locs cells slots Q (F0 m pc ls (.int (nI b) :: .int (nI a) :: rest)) := lv_icmp_lt hexec hb hdg ht (fun h => kt ((nI_ltI ha hb2).mp h)) (fun h => kf (Nat.not_lt.mp (fun q => h ((nI_ltI ha hb2).mpr q))))
theorem xc_ge (hexec : p.tables.exec = Jvm.exec) (hb : c.code = cc) (hdg : decode cc pc = .ok (.if_icmp .ge off, 3)) (ht : (pc : Int) + off = (tgt : Int)) (ha : a < 2147483648) (hb2 : b < 2147483648) (kt : b ≤ a → W p l e R s m args below meth c H locs cells slots Q (F0 m tgt ls rest)) (kf : a < b → W p l e R s m args below meth c H locs cells slots Q (F0 m (pc + 3) ls rest)) : W p l e R s m args below meth c H locs cells slots Q (F0 m pc ls (.int (nI b) :: .int (nI a) :: rest)) := lv_icmp_ge hexec hb hdg ht (fun h => kt ((nI_leI hb2 ha).mp h)) (fun h => kf (Nat.not_le.mp (fun q => h ((nI_leI hb2 ha).mpr q))))
theorem xc_gt (hexec : p.tables.exec = Jvm.exec) (hb : c.code = cc) (hdg : decode cc pc = .ok (.if_icmp .gt off, 3)) (ht : (pc : Int) + off = (tgt : Int)) (ha : a < 2147483648) (hb2 : b < 2147483648) (kt : b < a → W p l e R s m args below meth c H locs cells slots Q (F0 m tgt ls rest)) (kf : a ≤ b → W p l e R s m args below meth c H locs cells slots Q (F0 m (pc + 3) ls rest)) : W p l e R s m args below meth c H locs cells slots Q (F0 m pc ls (.int (nI b) :: .int (nI a) :: rest)) := lv_icmp_gt hexec hb hdg ht (fun h => kt ((nI_ltI hb2 ha).mp h)) (fun h => kf (Nat.not_lt.mp (fun q => h ((nI_ltI hb2 ha).mpr q))))
theorem xc_le (hexec : p.tables.exec = Jvm.exec) (hb : c.code = cc) (hdg : decode cc pc = .ok (.if_icmp .le off, 3)) (ht : (pc : Int) + off = (tgt : Int)) (ha : a < 2147483648) (hb2 : b < 2147483648) (kt : a ≤ b → W p l e R s m args below meth c H locs cells slots Q (F0 m tgt ls rest)) (kf : b < a → W p l e R s m args below meth c H locs cells slots Q (F0 m (pc + 3) ls rest)) : W p l e R s m args below meth c H locs cells slots Q (F0 m pc ls (.int (nI b) :: .int (nI a) :: rest)) := lv_icmp_le hexec hb hdg ht (fun h => kt ((nI_leI ha hb2).mp h)) (fun h => kf (Nat.not_le.mp (fun q => h ((nI_leI ha hb2).mpr q))))
theorem xc_eq (hexec : p.tables.exec = Jvm.exec) (hb : c.code = cc) (hdg : decode cc pc = .ok (.if_icmp .eq off, 3)) (ht : (pc : Int) + off = (tgt : Int)) (ha : a < 2147483648) (hb2 : b < 2147483648) (kt : a = b → W p l e R s m args below meth c H locs cells slots Q (F0 m tgt ls rest)) (kf : a ≠ b → W p l e R s m args below meth c H locs cells slots Q (F0 m (pc + 3) ls rest)) : W p l e R s m args below meth c H locs cells slots Q (F0 m pc ls (.int (nI b) :: .int (nI a) :: rest)) := lv_icmp_eq hexec hb hdg ht (fun h => kt ((nI_eq ha hb2).mp h)) (fun h => kf (fun q => h ((nI_eq ha hb2).mpr q)))
theorem xc_ne (hexec : p.tables.exec = Jvm.exec) (hb : c.code = cc) (hdg : decode cc pc = .ok (.if_icmp .ne off, 3)) (ht : (pc : Int) + off = (tgt : Int)) (ha : a < 2147483648) (hb2 : b < 2147483648) (kt : a ≠ b → W p l e R s m args below meth c H locs cells slots Q (F0 m tgt ls rest)) (kf : a = b → W p l e R s m args below meth c H locs cells slots Q (F0 m (pc + 3) ls rest)) : W p l e R s m args below meth c H locs cells slots Q (F0 m pc ls (.int (nI b) :: .int (nI a) :: rest)) := lv_icmp_ne hexec hb hdg ht (fun h => kt (fun q => h ((nI_eq ha hb2).mpr q))) (fun h => kf ((nI_eq ha hb2).mp h))
theorem x0_eq (hexec : p.tables.exec = Jvm.exec) (hb : c.code = cc) (hdg : decode cc pc = .ok (.ifCond .eq off, 3)) (ht : (pc : Int) + off = (tgt : Int)) (ha : a < 2147483648) (kt : a = 0 → W p l e R s m args below meth c H locs cells slots Q (F0 m tgt ls rest)) (kf : a ≠ 0 → W p l e R s m args below meth c H locs cells slots Q (F0 m (pc + 3) ls rest)) : W p l e R s m args below meth c H locs cells slots Q (F0 m pc ls (.int (nI a) :: rest)) := lv_if_eq hexec hb hdg ht (fun h => kt ((nI_eq ha (by decide)).mp h)) (fun h => kf (fun q => h ((nI_eq ha (by decide)).mpr q)))
theorem x0_ne (hexec : p.tables.exec = Jvm.exec) (hb : c.code = cc) (hdg : decode cc pc = .ok (.ifCond .ne off, 3)) (ht : (pc : Int) + off = (tgt : Int)) (ha : a < 2147483648) (kt : a ≠ 0 → W p l e R s m args below meth c H locs cells slots Q (F0 m tgt ls rest)) (kf : a = 0 → W p l e R s m args below meth c H locs cells slots Q (F0 m (pc + 3) ls rest)) : W p l e R s m args below meth c H locs cells slots Q (F0 m pc ls (.int (nI a) :: rest)) := lv_if_ne hexec hb hdg ht (fun h => kt (fun q => h ((nI_eq ha (by decide)).mpr q))) (fun h => kf ((nI_eq ha (by decide)).mp h))
theorem x0_gt (hexec : p.tables.exec = Jvm.exec) (hb : c.code = cc) (hdg : decode cc pc = .ok (.ifCond .gt off, 3)) (ht : (pc : Int) + off = (tgt : Int)) (ha : a < 2147483648) (kt : 0 < a → W p l e R s m args below meth c H locs cells slots Q (F0 m tgt ls rest)) (kf : a = 0 → W p l e R s m args below meth c H locs cells slots Q (F0 m (pc + 3) ls rest)) : W p l e R s m args below meth c H locs cells slots Q (F0 m pc ls (.int (nI a) :: rest)) := lv_if_gt hexec hb hdg ht (fun h => kt ((nI_ltI (by decide) ha).mp h)) (fun h => kf (Nat.eq_zero_of_not_pos (fun q => h ((nI_ltI (by decide) ha).mpr q))))
theorem x0_le (hexec : p.tables.exec = Jvm.exec) (hb : c.code = cc) (hdg : decode cc pc = .ok (.ifCond .le off, 3)) (ht : (pc : Int) + off = (tgt : Int)) (ha : a < 2147483648) (kt : a = 0 → W p l e R s m args below meth c H locs cells slots Q (F0 m tgt ls rest)) (kf : 0 < a → W p l e R s m args below meth c H locs cells slots Q (F0 m (pc + 3) ls rest)) : W p l e R s m args below meth c H locs cells slots Q (F0 m pc ls (.int (nI a) :: rest)) := lv_if_le hexec hb hdg ht (fun h => kt (Nat.eq_zero_of_not_pos (fun q => nI_nle q ha h))) (fun h => kf (Nat.pos_of_ne_zero (fun q => h (by subst q; exact nI_leI (by decide) (by decide) |>.mpr (Nat.le_refl 0)))))
theorem x0_lt (hexec : p.tables.exec = Jvm.exec) (hb : c.code = cc) (hdg : decode cc pc = .ok (.ifCond .lt off, 3)) (ht : (pc : Int) + off = (tgt : Int)) (ha : a < 2147483648) (kf : W p l e R s m args below meth c H locs cells slots Q (F0 m (pc + 3) ls rest)) : W p l e R s m args below meth c H locs cells slots Q (F0 m pc ls (.int (nI a) :: rest)) := lv_if_lt hexec hb hdg ht (fun h => absurd h (nI_pos ha)) (fun _ => kf)
theorem x0_ge (hexec : p.tables.exec = Jvm.exec) (hb : c.code = cc) (hdg : decode cc pc = .ok (.ifCond .ge off, 3)) (ht : (pc : Int) + off = (tgt : Int)) (ha : a < 2147483648) (kt : W p l e R s m args below meth c H locs cells slots Q (F0 m tgt ls rest)) : W p l e R s m args below meth c H locs cells slots Q (F0 m pc ls (.int (nI a) :: rest)) := lv_if_ge hexec hb hdg ht (fun _ => kt) (fun h => absurd (nI_pos' ha) h)
theorem xb_eq (hexec : p.tables.exec = Jvm.exec) (hb : c.code = cc) (hdg : decode cc pc = .ok (.ifCond .eq off, 3)) (ht : (pc : Int) + off = (tgt : Int)) {z : Bool} (kt : z = false → W p l e R s m args below meth c H locs cells slots Q (F0 m tgt ls rest)) (kf : z = true → W p l e R s m args below meth c H locs cells slots Q (F0 m (pc + 3) ls rest)) : W p l e R s m args below meth c H locs cells slots Q (F0 m pc ls (.int (bI z) :: rest)) := by
  cases z
  · exact lv_if_eq hexec hb hdg ht (fun _ => kt rfl) (fun h => absurd rfl h)
  · exact lv_if_eq hexec hb hdg ht (fun h => by cases h) (fun _ => kf rfl)
theorem xb_ne (hexec : p.tables.exec = Jvm.exec) (hb : c.code = cc) (hdg : decode cc pc = .ok (.ifCond .ne off, 3)) (ht : (pc : Int) + off = (tgt : Int)) {z : Bool} (kt : z = true → W p l e R s m args below meth c H locs cells slots Q (F0 m tgt ls rest)) (kf : z = false → W p l e R s m args below meth c H locs cells slots Q (F0 m (pc + 3) ls rest)) : W p l e R s m args below meth c H locs cells slots Q (F0 m pc ls (.int (bI z) :: rest)) := by
  cases z
  · exact lv_if_ne hexec hb hdg ht (fun h => absurd rfl h) (fun _ => kf rfl)
  · exact lv_if_ne hexec hb hdg ht (fun _ => kt rfl) (fun h => by cases h)
theorem xd_lt (hexec : p.tables.exec = Jvm.exec) (hb : c.code = cc) (hdg : decode cc pc = .ok (.ifCond .lt off, 3)) (ht : (pc : Int) + off = (tgt : Int)) (ha : a < 1073741824) (hb2 : b < 1073741824) (kt : a < b → W p l e R s m args below meth c H locs cells slots Q (F0 m tgt ls rest)) (kf : b ≤ a → W p l e R s m args below meth c H locs cells slots Q (F0 m (pc + 3) ls rest)) : W p l e R s m args below meth c H locs cells slots Q (F0 m pc ls (.int (nI a - nI b) :: rest)) := by
  have e : (nI a - nI b).toInt = (a : Int) - b := pk_sub_toInt ha hb2
  have z : (0 : Int32).toInt = 0 := rfl
  exact lv_if_lt hexec hb hdg ht (fun h => kt (by rw [Int32.lt_iff_toInt_lt] at h; omega)) (fun h => kf (by rw [Int32.lt_iff_toInt_lt] at h; omega))
theorem xd_ge (hexec : p.tables.exec = Jvm.exec) (hb : c.code = cc) (hdg : decode cc pc = .ok (.ifCond .ge off, 3)) (ht : (pc : Int) + off = (tgt : Int)) (ha : a < 1073741824) (hb2 : b < 1073741824) (kt : b ≤ a → W p l e R s m args below meth c H locs cells slots Q (F0 m tgt ls rest)) (kf : a < b → W p l e R s m args below meth c H locs cells slots Q (F0 m (pc + 3) ls rest)) : W p l e R s m args below meth c H locs cells slots Q (F0 m pc ls (.int (nI a - nI b) :: rest)) := by
  have e : (nI a - nI b).toInt = (a : Int) - b := pk_sub_toInt ha hb2
  have z : (0 : Int32).toInt = 0 := rfl
  exact lv_if_ge hexec hb hdg ht (fun h => kt (by rw [Int32.le_iff_toInt_le] at h; omega)) (fun h => kf (by rw [Int32.le_iff_toInt_le] at h; omega))
theorem xd_gt (hexec : p.tables.exec = Jvm.exec) (hb : c.code = cc) (hdg : decode cc pc = .ok (.ifCond .gt off, 3)) (ht : (pc : Int) + off = (tgt : Int)) (ha : a < 1073741824) (hb2 : b < 1073741824) (kt : b < a → W p l e R s m args below meth c H locs cells slots Q (F0 m tgt ls rest)) (kf : a ≤ b → W p l e R s m args below meth c H locs cells slots Q (F0 m (pc + 3) ls rest)) : W p l e R s m args below meth c H locs cells slots Q (F0 m pc ls (.int (nI a - nI b) :: rest)) := by
  have e : (nI a - nI b).toInt = (a : Int) - b := pk_sub_toInt ha hb2
  have z : (0 : Int32).toInt = 0 := rfl
  exact lv_if_gt hexec hb hdg ht (fun h => kt (by rw [Int32.lt_iff_toInt_lt] at h; omega)) (fun h => kf (by rw [Int32.lt_iff_toInt_lt] at h; omega))
theorem xd_le (hexec : p.tables.exec = Jvm.exec) (hb : c.code = cc) (hdg : decode cc pc = .ok (.ifCond .le off, 3)) (ht : (pc : Int) + off = (tgt : Int)) (ha : a < 1073741824) (hb2 : b < 1073741824) (kt : a ≤ b → W p l e R s m args below meth c H locs cells slots Q (F0 m tgt ls rest)) (kf : b < a → W p l e R s m args below meth c H locs cells slots Q (F0 m (pc + 3) ls rest)) : W p l e R s m args below meth c H locs cells slots Q (F0 m pc ls (.int (nI a - nI b) :: rest)) := by
  have e : (nI a - nI b).toInt = (a : Int) - b := pk_sub_toInt ha hb2
  have z : (0 : Int32).toInt = 0 := rfl
  exact lv_if_le hexec hb hdg ht (fun h => kt (by rw [Int32.le_iff_toInt_le] at h; omega)) (fun h => kf (by rw [Int32.le_iff_toInt_le] at h; omega))
theorem xr_lt {x y : Int32} (hexec : p.tables.exec = Jvm.exec) (hb : c.code = cc) (hdg : decode cc pc = .ok (.if_icmp .lt off, 3)) (ht : (pc : Int) + off = (tgt : Int)) (kt : x.toInt < y.toInt → W p l e R s m args below meth c H locs cells slots Q (F0 m tgt ls rest)) (kf : y.toInt ≤ x.toInt → W p l e R s m args below meth c H locs cells slots Q (F0 m (pc + 3) ls rest)) : W p l e R s m args below meth c H locs cells slots Q (F0 m pc ls (.int y :: .int x :: rest)) := lv_icmp_lt hexec hb hdg ht (fun h => kt (by rw [Int32.lt_iff_toInt_lt] at h; omega)) (fun h => kf (by rw [Int32.lt_iff_toInt_lt] at h; omega))
theorem xz_lt {x : Int32} (hexec : p.tables.exec = Jvm.exec) (hb : c.code = cc) (hdg : decode cc pc = .ok (.ifCond .lt off, 3)) (ht : (pc : Int) + off = (tgt : Int)) (kt : x.toInt < 0 → W p l e R s m args below meth c H locs cells slots Q (F0 m tgt ls rest)) (kf : 0 ≤ x.toInt → W p l e R s m args below meth c H locs cells slots Q (F0 m (pc + 3) ls rest)) : W p l e R s m args below meth c H locs cells slots Q (F0 m pc ls (.int x :: rest)) := by
  have z : (0 : Int32).toInt = 0 := rfl
  exact lv_if_lt hexec hb hdg ht (fun h => kt (by rw [Int32.lt_iff_toInt_lt] at h; omega)) (fun h => kf (by rw [Int32.lt_iff_toInt_lt] at h; omega))
theorem xr_ge {x y : Int32} (hexec : p.tables.exec = Jvm.exec) (hb : c.code = cc) (hdg : decode cc pc = .ok (.if_icmp .ge off, 3)) (ht : (pc : Int) + off = (tgt : Int)) (kt : y.toInt ≤ x.toInt → W p l e R s m args below meth c H locs cells slots Q (F0 m tgt ls rest)) (kf : x.toInt < y.toInt → W p l e R s m args below meth c H locs cells slots Q (F0 m (pc + 3) ls rest)) : W p l e R s m args below meth c H locs cells slots Q (F0 m pc ls (.int y :: .int x :: rest)) := lv_icmp_ge hexec hb hdg ht (fun h => kt (by rw [Int32.le_iff_toInt_le] at h; omega)) (fun h => kf (by rw [Int32.le_iff_toInt_le] at h; omega))
theorem xz_ge {x : Int32} (hexec : p.tables.exec = Jvm.exec) (hb : c.code = cc) (hdg : decode cc pc = .ok (.ifCond .ge off, 3)) (ht : (pc : Int) + off = (tgt : Int)) (kt : 0 ≤ x.toInt → W p l e R s m args below meth c H locs cells slots Q (F0 m tgt ls rest)) (kf : x.toInt < 0 → W p l e R s m args below meth c H locs cells slots Q (F0 m (pc + 3) ls rest)) : W p l e R s m args below meth c H locs cells slots Q (F0 m pc ls (.int x :: rest)) := by
  have z : (0 : Int32).toInt = 0 := rfl
  exact lv_if_ge hexec hb hdg ht (fun h => kt (by rw [Int32.le_iff_toInt_le] at h; omega)) (fun h => kf (by rw [Int32.le_iff_toInt_le] at h; omega))
theorem xr_gt {x y : Int32} (hexec : p.tables.exec = Jvm.exec) (hb : c.code = cc) (hdg : decode cc pc = .ok (.if_icmp .gt off, 3)) (ht : (pc : Int) + off = (tgt : Int)) (kt : y.toInt < x.toInt → W p l e R s m args below meth c H locs cells slots Q (F0 m tgt ls rest)) (kf : x.toInt ≤ y.toInt → W p l e R s m args below meth c H locs cells slots Q (F0 m (pc + 3) ls rest)) : W p l e R s m args below meth c H locs cells slots Q (F0 m pc ls (.int y :: .int x :: rest)) := lv_icmp_gt hexec hb hdg ht (fun h => kt (by rw [Int32.lt_iff_toInt_lt] at h; omega)) (fun h => kf (by rw [Int32.lt_iff_toInt_lt] at h; omega))
theorem xz_gt {x : Int32} (hexec : p.tables.exec = Jvm.exec) (hb : c.code = cc) (hdg : decode cc pc = .ok (.ifCond .gt off, 3)) (ht : (pc : Int) + off = (tgt : Int)) (kt : 0 < x.toInt → W p l e R s m args below meth c H locs cells slots Q (F0 m tgt ls rest)) (kf : x.toInt ≤ 0 → W p l e R s m args below meth c H locs cells slots Q (F0 m (pc + 3) ls rest)) : W p l e R s m args below meth c H locs cells slots Q (F0 m pc ls (.int x :: rest)) := by
  have z : (0 : Int32).toInt = 0 := rfl
  exact lv_if_gt hexec hb hdg ht (fun h => kt (by rw [Int32.lt_iff_toInt_lt] at h; omega)) (fun h => kf (by rw [Int32.lt_iff_toInt_lt] at h; omega))
theorem xr_le {x y : Int32} (hexec : p.tables.exec = Jvm.exec) (hb : c.code = cc) (hdg : decode cc pc = .ok (.if_icmp .le off, 3)) (ht : (pc : Int) + off = (tgt : Int)) (kt : x.toInt ≤ y.toInt → W p l e R s m args below meth c H locs cells slots Q (F0 m tgt ls rest)) (kf : y.toInt < x.toInt → W p l e R s m args below meth c H locs cells slots Q (F0 m (pc + 3) ls rest)) : W p l e R s m args below meth c H locs cells slots Q (F0 m pc ls (.int y :: .int x :: rest)) := lv_icmp_le hexec hb hdg ht (fun h => kt (by rw [Int32.le_iff_toInt_le] at h; omega)) (fun h => kf (by rw [Int32.le_iff_toInt_le] at h; omega))
theorem xz_le {x : Int32} (hexec : p.tables.exec = Jvm.exec) (hb : c.code = cc) (hdg : decode cc pc = .ok (.ifCond .le off, 3)) (ht : (pc : Int) + off = (tgt : Int)) (kt : x.toInt ≤ 0 → W p l e R s m args below meth c H locs cells slots Q (F0 m tgt ls rest)) (kf : 0 < x.toInt → W p l e R s m args below meth c H locs cells slots Q (F0 m (pc + 3) ls rest)) : W p l e R s m args below meth c H locs cells slots Q (F0 m pc ls (.int x :: rest)) := by
  have z : (0 : Int32).toInt = 0 := rfl
  exact lv_if_le hexec hb hdg ht (fun h => kt (by rw [Int32.le_iff_toInt_le] at h; omega)) (fun h => kf (by rw [Int32.le_iff_toInt_le] at h; omega))
theorem xr_eq {x y : Int32} (hexec : p.tables.exec = Jvm.exec) (hb : c.code = cc) (hdg : decode cc pc = .ok (.if_icmp .eq off, 3)) (ht : (pc : Int) + off = (tgt : Int)) (kt : x.toInt = y.toInt → W p l e R s m args below meth c H locs cells slots Q (F0 m tgt ls rest)) (kf : x.toInt ≠ y.toInt → W p l e R s m args below meth c H locs cells slots Q (F0 m (pc + 3) ls rest)) : W p l e R s m args below meth c H locs cells slots Q (F0 m pc ls (.int y :: .int x :: rest)) := lv_icmp_eq hexec hb hdg ht (fun h => kt (by rw [h]; try rfl)) (fun h => kf (fun q => h (Int32.toInt_inj.mp q)))
theorem xz_eq {x : Int32} (hexec : p.tables.exec = Jvm.exec) (hb : c.code = cc) (hdg : decode cc pc = .ok (.ifCond .eq off, 3)) (ht : (pc : Int) + off = (tgt : Int)) (kt : x.toInt = 0 → W p l e R s m args below meth c H locs cells slots Q (F0 m tgt ls rest)) (kf : x.toInt ≠ 0 → W p l e R s m args below meth c H locs cells slots Q (F0 m (pc + 3) ls rest)) : W p l e R s m args below meth c H locs cells slots Q (F0 m pc ls (.int x :: rest)) := by
  have z : (0 : Int32).toInt = 0 := rfl
  exact lv_if_eq hexec hb hdg ht (fun h => kt (by rw [h]; rfl)) (fun h => kf (fun q => h (Int32.toInt_inj.mp (q.trans z.symm))))
theorem xr_ne {x y : Int32} (hexec : p.tables.exec = Jvm.exec) (hb : c.code = cc) (hdg : decode cc pc = .ok (.if_icmp .ne off, 3)) (ht : (pc : Int) + off = (tgt : Int)) (kt : x.toInt ≠ y.toInt → W p l e R s m args below meth c H locs cells slots Q (F0 m tgt ls rest)) (kf : x.toInt = y.toInt → W p l e R s m args below meth c H locs cells slots Q (F0 m (pc + 3) ls rest)) : W p l e R s m args below meth c H locs cells slots Q (F0 m pc ls (.int y :: .int x :: rest)) := lv_icmp_ne hexec hb hdg ht (fun h => kt (fun q => h (Int32.toInt_inj.mp q))) (fun h => kf (by rw [h]; try rfl))
theorem xz_ne {x : Int32} (hexec : p.tables.exec = Jvm.exec) (hb : c.code = cc) (hdg : decode cc pc = .ok (.ifCond .ne off, 3)) (ht : (pc : Int) + off = (tgt : Int)) (kt : x.toInt ≠ 0 → W p l e R s m args below meth c H locs cells slots Q (F0 m tgt ls rest)) (kf : x.toInt = 0 → W p l e R s m args below meth c H locs cells slots Q (F0 m (pc + 3) ls rest)) : W p l e R s m args below meth c H locs cells slots Q (F0 m pc ls (.int x :: rest)) := by
  have z : (0 : Int32).toInt = 0 := rfl
  exact lv_if_ne hexec hb hdg ht (fun h => kt (fun q => h (Int32.toInt_inj.mp (q.trans z.symm)))) (fun h => kf (by rw [h]; rfl))
variable {D : va_G} {cA : Nat → ClassId} {A : Nat → Prop} {ws : va_W} {H0 : Heap} {q n k : Nat} {f : Nat → Int32}
theorem xa_ld (hexec : p.tables.exec = Jvm.exec) (hb : c.code = cc) (hK : va_K D vwCl (tyS cA) s) (hP : va_P D vwCl ws H) (q0 : Nat) (he : ws[q0]? = some (q, .inl (cA 0, n, .inl f))) (hk : k < n) (hn : n < 2147483648) {v : Int32} (hv : f k = v) (hdg : decode cc pc = .ok (.iaload, 1)) (kk : W p l e R s m args below meth c H locs cells slots Q (F0 m (pc + 1) ls (.int v :: rest))) : W p l e R s m args below meth c H locs cells slots Q (F0 m pc ls (.int (nI k) :: .ref q :: rest)) := by
  have hkB : k < 2 ^ 31 := Nat.lt_trans hk hn
  refine va_iald hexec hb hK hP q0 0 he rfl (vp_in_nI hk hn) hdg ?_
  rw [nI_clamp hkB, hv]
  exact kk
theorem xa_cld (hexec : p.tables.exec = Jvm.exec) (hb : c.code = cc) (hK : va_K D vwCl (tyS cA) s) (hP : va_P D vwCl ws H) (q0 : Nat) (he : ws[q0]? = some (q, .inl (cA 1, n, .inl f))) (hk : k < n) (hn : n < 2147483648) {v : Int32} (hv : f k = v) (hdg : decode cc pc = .ok (.caload, 1)) (kk : W p l e R s m args below meth c H locs cells slots Q (F0 m (pc + 1) ls (.int v :: rest))) : W p l e R s m args below meth c H locs cells slots Q (F0 m pc ls (.int (nI k) :: .ref q :: rest)) := by
  have hkB : k < 2 ^ 31 := Nat.lt_trans hk hn
  refine va_cald hexec hb hK hP q0 1 he rfl (vp_in_nI hk hn) hdg ?_
  rw [nI_clamp hkB, hv]
  exact kk
theorem xa_st (hexec : p.tables.exec = Jvm.exec) (hb : c.code = cc) (hK : va_K D vwCl (tyS cA) s) (hP : va_P D vwCl ws H) (hD : va_D A ws) (hS : va_S A H0 H locs) (q0 : Nat) (he : ws[q0]? = some (q, .inl (cA 0, n, .inl f))) (hk : k < n) (hn : n < 2147483648) {x : Int32} (hdg : decode cc pc = .ok (.iastore, 1)) (kk : ∀ (H1 : Heap) (locs1 : List Loc), va_P D vwCl (ws.set q0 (q, .inl (cA 0, n, .inl (upd f k x)))) H1 → va_D A (ws.set q0 (q, .inl (cA 0, n, .inl (upd f k x)))) → va_S A H0 H1 locs1 → W p l e R s m args below meth c H1 locs1 cells slots Q (F0 m (pc + 1) ls rest)) : W p l e R s m args below meth c H locs cells slots Q (F0 m pc ls (.int x :: .int (nI k) :: .ref q :: rest)) := by
  have hkB : k < 2 ^ 31 := Nat.lt_trans hk hn
  refine va_iast hexec hb hK hP hD hS q0 0 he rfl (vp_in_nI hk hn) hdg ?_
  rw [nI_clamp hkB]
  exact kk
theorem vp_nc {v : Nat} (h : v < 65536) : vp_nar .char (nI v) = nI v := by
  unfold vp_nar
  rw [(pk_charN h).1]
theorem xa_cst (hexec : p.tables.exec = Jvm.exec) (hb : c.code = cc) (hK : va_K D vwCl (tyS cA) s) (hP : va_P D vwCl ws H) (hD : va_D A ws) (hS : va_S A H0 H locs) (q0 : Nat) (he : ws[q0]? = some (q, .inl (cA 1, n, .inl f))) (hk : k < n) (hn : n < 2147483648) {v : Nat} (hv : v < 65536) (hdg : decode cc pc = .ok (.castore, 1)) (kk : ∀ (H1 : Heap) (locs1 : List Loc), va_P D vwCl (ws.set q0 (q, .inl (cA 1, n, .inl (upd f k (nI v))))) H1 → va_D A (ws.set q0 (q, .inl (cA 1, n, .inl (upd f k (nI v))))) → va_S A H0 H1 locs1 → W p l e R s m args below meth c H1 locs1 cells slots Q (F0 m (pc + 1) ls rest)) : W p l e R s m args below meth c H locs cells slots Q (F0 m pc ls (.int (nI v) :: .int (nI k) :: .ref q :: rest)) := by
  have hkB : k < 2 ^ 31 := Nat.lt_trans hk hn
  refine va_cast hexec hb hK hP hD hS q0 1 he rfl (vp_in_nI hk hn) hdg ?_
  rw [nI_clamp hkB, vp_nc hv]
  exact kk
end NB

theorem c16 {n : Nat} (h : n < 65536) : ((nI n).toUInt32 % 65536).toInt32 = nI n := by
  rw [pk_char, pk_tn (by omega), Nat.mod_eq_of_lt h]
theorem four_pow (k : Nat) : 4 ^ k = 2 ^ (2 * k) := by rw [Nat.pow_mul]
theorem sh_amt : ∀ k, k < 16 → ((nI (2 * k) &&& 31).toBitVec.smod 32).toNat = 2 * k := by decide +kernel
theorem sh_r {w k : Nat} (hw : w < 2147483648) (hk : k < 16) : nI w >>> (nI (2 * k) &&& 31) = nI (w / 4 ^ k) := by
  rw [four_pow]; exact pk_shrN hw _ (2 * k) (sh_amt k hk)
theorem sh_l {w k : Nat} (hk : k < 16) (h : w * 4 ^ k < 4294967296) : nI w <<< (nI (2 * k) &&& 31) = nI (w * 4 ^ k) := by
  rw [four_pow] at h ⊢; exact pk_shlN _ (2 * k) (sh_amt k hk) h
theorem sh_m {w k : Nat} (hk : k < 15) : nI w &&& nI (4 ^ k - 1) = nI (w % 4 ^ k) := by
  have h1 : ∀ k, k < 15 → (nI (4 ^ k - 1)).toBitVec.toNat = 2 ^ (2 * k) - 1 := by decide +kernel
  rw [pk_and (nI w) (2 * k) (h1 k hk), ← four_pow]
  congr 1
  show (BitVec.ofNat 32 w).toNat % 4 ^ k = w % 4 ^ k
  rw [BitVec.toNat_ofNat]
  have h2 : (4 : Nat) ^ k ∣ 2 ^ 32 := by rw [four_pow]; exact Nat.pow_dvd_pow 2 (by omega)
  exact Nat.mod_mod_of_dvd w h2
theorem sh_o {a b k : Nat} (hb : b < 4 ^ k) : nI (a * 4 ^ k) ||| nI b = nI (a * 4 ^ k + b) := by
  have e : a * 4 ^ k ||| b = a * 4 ^ k + b := by
    rw [four_pow] at hb ⊢
    rw [Nat.mul_comm]
    exact (Nat.two_pow_add_eq_or_of_lt hb a).symm
  rw [← e]
  apply Int32.toBitVec_inj.mp
  show BitVec.ofNat 32 (a * 4 ^ k) ||| BitVec.ofNat 32 b = BitVec.ofNat 32 (a * 4 ^ k ||| b)
  rw [BitVec.ofNat_or]
theorem sh_x {a b : Nat} : nI a ^^^ nI b = nI (a ^^^ b) := by
  apply Int32.toBitVec_inj.mp
  show BitVec.ofNat 32 a ^^^ BitVec.ofNat 32 b = BitVec.ofNat 32 (a ^^^ b)
  rw [BitVec.ofNat_xor]
theorem xor_mod {a b k : Nat} : (a ^^^ b) % 4 ^ k = 0 ↔ a % 4 ^ k = b % 4 ^ k := by
  rw [four_pow, Nat.xor_mod_two_pow]
  constructor
  · intro h
    apply Nat.eq_of_testBit_eq
    intro i
    have h2 : ((a % 2 ^ (2 * k)) ^^^ (b % 2 ^ (2 * k))).testBit i = false := by rw [h, Nat.zero_testBit]
    rw [Nat.testBit_xor] at h2
    revert h2
    cases (a % 2 ^ (2 * k)).testBit i <;> cases (b % 2 ^ (2 * k)).testBit i <;> simp
  · intro h
    rw [h, Nat.xor_self]
end
section
/-! words as numbers: a one, behind it two bits a letter -/
def upN (S : Nat → Nat) (k v : Nat) : Nat → Nat := fun j => if j = k then v else S j
theorem upN_s {S : Nat → Nat} {k v : Nat} : upN S k v k = v := if_pos rfl
theorem upN_n {S : Nat → Nat} {k v j : Nat} (h : j ≠ k) : upN S k v j = S j := if_neg h
/-- a row of numbers in the heap -/
def fN (S : Nat → Nat) : Nat → Int32 := fun k => nI (S k)
theorem fN_up {S : Nat → Nat} {k v : Nat} : upd (fN S) k (nI v) = fN (upN S k v) := by
  funext j
  unfold fN upN upd
  by_cases h : j = k
  · rw [if_pos h, if_pos h]
  · rw [if_neg h, if_neg h]
def wd (n w : Nat) : Prop := 4 ^ n ≤ w ∧ w < 2 * 4 ^ n
def len (w : Nat) : Nat := Nat.log2 w / 2
def vw (n w : Nat) : Prop := wd (len w) w ∧ len w ≤ n
def lt4 (w p : Nat) : Nat := w / 4 ^ (len w - 1 - p) % 4
def stn (part word place : Nat) : Bool := decide (place + len part ≤ len word) && decide (word / 4 ^ (len word - place - len part) % 4 ^ len part = part % 4 ^ len part)
def app (l r word place : Nat) : Nat := ((word / 4 ^ (len word - place)) * 4 ^ len r + r % 4 ^ len r) * 4 ^ (len word - place - len l) + word % 4 ^ (len word - place - len l)
theorem four_pos (k : Nat) : 0 < 4 ^ k := Nat.pos_of_ne_zero (by simp)
theorem four_le {a b : Nat} (h : a ≤ b) : 4 ^ a ≤ 4 ^ b := Nat.pow_le_pow_right (by decide) h
theorem len_wd {n w : Nat} (h : wd n w) : len w = n := by
  obtain ⟨h1, h2⟩ := h
  have h0 : w ≠ 0 := by have := four_pos n; omega
  rw [four_pow] at h1 h2
  have a1 : 2 * n ≤ w.log2 := (Nat.le_log2 h0).mpr h1
  have a2 : w.log2 < 2 * n + 1 := (Nat.log2_lt h0).mpr (by rw [Nat.pow_succ]; omega)
  unfold len
  omega
theorem wd_vw {n m w : Nat} (h : wd n w) (hm : n ≤ m) : vw m w := by
  unfold vw
  rw [len_wd h]
  exact ⟨h, hm⟩
theorem vw_up {n m w : Nat} (h : vw n w) (hm : n ≤ m) : vw m w := ⟨h.1, Nat.le_trans h.2 hm⟩
theorem wd_lt {n m w : Nat} (h : wd n w) (hm : n ≤ m) : w < 2 * 4 ^ m := Nat.lt_of_lt_of_le h.2 (Nat.mul_le_mul_left 2 (four_le hm))
theorem vw_lt {n w : Nat} (h : vw n w) : w < 2 * 4 ^ n := wd_lt h.1 h.2
theorem wd_pos {n w : Nat} (h : wd n w) : 0 < w := Nat.lt_of_lt_of_le (four_pos n) h.1
theorem vw_pos {n w : Nat} (h : vw n w) : 0 < w := wd_pos h.1
theorem wd_div {n w k : Nat} (h : wd n w) (hk : k ≤ n) : wd (n - k) (w / 4 ^ k) := by
  obtain ⟨h1, h2⟩ := h
  have e : 4 ^ n = 4 ^ (n - k) * 4 ^ k := by rw [← Nat.pow_add]; congr 1; omega
  constructor
  · rw [Nat.le_div_iff_mul_le (four_pos k), ← e]; exact h1
  · rw [Nat.div_lt_iff_lt_mul (four_pos k)]
    rw [e] at h2
    rw [Nat.mul_assoc]; exact h2
theorem wd_app {n w k b : Nat} (h : wd n w) (hb : b < 4 ^ k) : wd (n + k) (w * 4 ^ k + b) := by
  obtain ⟨h1, h2⟩ := h
  constructor
  · rw [Nat.pow_add]
    exact Nat.le_trans (Nat.mul_le_mul_right _ h1) (Nat.le_add_right _ _)
  · rw [Nat.pow_add, ← Nat.mul_assoc]
    have : (w + 1) * 4 ^ k ≤ 2 * 4 ^ n * 4 ^ k := Nat.mul_le_mul_right _ h2
    rw [Nat.add_mul, Nat.one_mul] at this
    omega
theorem wd_one : wd 0 1 := ⟨by decide, by decide⟩
theorem wd_0 {w : Nat} (h : wd 0 w) : w = 1 := by
  obtain ⟨h1, h2⟩ := h
  simp at h1 h2
  omega
theorem vw_app {w l r p : Nat} (hw : vw 12 w) (hl : vw 4 l) (hr : vw 4 r) (hrl : len r ≤ len l) (hp : p + len l ≤ len w) : vw 12 (app l r w p) ∧ len (app l r w p) = len w - len l + len r := by
  have h1 : wd p (w / 4 ^ (len w - p)) := by
    have := wd_div hw.1 (k := len w - p) (by omega)
    rwa [show len w - (len w - p) = p by omega] at this
  have h2 : wd (p + len r) (w / 4 ^ (len w - p) * 4 ^ len r + r % 4 ^ len r) := wd_app h1 (Nat.mod_lt _ (four_pos _))
  have h3 : wd (p + len r + (len w - p - len l)) (app l r w p) := wd_app h2 (Nat.mod_lt _ (four_pos _))
  have h4 := len_wd h3
  exact ⟨wd_vw h3 (by have := hw.2; omega), by omega⟩
/-- the first place at which something holds -/
def ff (p : Nat → Bool) : Nat → Nat
  | 0 => 0
  | n + 1 => if ff p n < n then ff p n else if p n then n else n + 1
theorem ff_le (p : Nat → Bool) : ∀ n, ff p n ≤ n
  | 0 => Nat.le_refl 0
  | n + 1 => by
    have ih := ff_le p n
    unfold ff
    split
    · omega
    · split <;> omega
theorem ff_no (p : Nat → Bool) : ∀ n k, k < ff p n → p k = false
  | 0, k, h => absurd h (Nat.not_lt_zero k)
  | n + 1, k, h => by
    have ih := ff_no p n
    have il := ff_le p n
    unfold ff at h
    split at h
    · exact ih k h
    · split at h
      · exact ih k (by omega)
      · rename_i h1 h2
        rcases Nat.lt_or_ge k n with q | q
        · exact ih k (by omega)
        · have e : k = n := by omega
          subst e
          exact Bool.not_eq_true _ |>.mp h2
theorem ff_yes (p : Nat → Bool) : ∀ n, ff p n < n → p (ff p n) = true
  | 0, h => absurd h (Nat.not_lt_zero _)
  | n + 1, h => by
    have ih := ff_yes p n
    have il := ff_le p n
    unfold ff at h ⊢
    by_cases h1 : ff p n < n
    · rw [if_pos h1]; exact ih h1
    · rw [if_neg h1] at h ⊢
      by_cases h2 : p n = true
      · rw [if_pos h2]; exact h2
      · rw [if_neg h2] at h; omega
theorem ff_is {p : Nat → Bool} {n k : Nat} (hk : k < n) (hp : p k = true) (hn : ∀ j, j < k → p j = false) : ff p n = k := by
  rcases Nat.lt_trichotomy (ff p n) k with h | h | h
  · have := ff_yes p n (by omega)
    rw [hn _ h] at this; cases this
  · exact h
  · have := ff_no p n k h
    rw [hp] at this; cases this
theorem ff_none {p : Nat → Bool} {n : Nat} (hn : ∀ j, j < n → p j = false) : ff p n = n := by
  have := ff_le p n
  rcases Nat.lt_or_ge (ff p n) n with h | h
  · have h2 := ff_yes p n h
    rw [hn _ h] at h2; cases h2
  · omega
theorem ff_cong {p q : Nat → Bool} {n : Nat} (h : ∀ j, j < n → p j = q j) : ff p n = ff q n := by
  rcases Nat.lt_or_ge (ff q n) n with h1 | h1
  · exact ff_is h1 (by rw [h _ h1]; exact ff_yes q n h1) (fun j hj => by rw [h j (by omega)]; exact ff_no q n j hj)
  · have := ff_le q n
    have e : ff q n = n := by omega
    rw [e]
    exact ff_none (fun j hj => by rw [h j hj]; exact ff_no q n j (by omega))
/-! the rules of a state: s[1] of them from s[6] on -/
abbrev St : Type := Nat → Nat
def lf (S : St) (r : Nat) : Nat := S (6 + 3 * r)
def rt (S : St) (r : Nat) : Nat := S (6 + 3 * r + 1)
def tms (S : St) (r : Nat) : Nat := S (6 + 3 * r + 2)
def unp (way k : Nat) : Nat := if way = 1 then 12 - k / 10 else if way = 2 then k % 13 else k / 10
def unr (way k : Nat) : Nat := if way = 2 then k / 13 else k % 10
def rnk (way p r : Nat) : Nat := if way = 1 then (12 - p) * 10 + r else if way = 2 then r * 13 + p else p * 10 + r
def okk (S : St) (w k : Nat) : Bool := decide (unr (S 2) k < S 1) && decide (unp (S 2) k < len w) && stn (lf S (unr (S 2) k)) w (unp (S 2) k)
/-- closed up, so that nothing computes it -/
noncomputable def chk (S : St) (w : Nat) : Nat := Classical.choose (⟨ff (okk S w) 130, rfl⟩ : ∃ x, x = ff (okk S w) 130)
theorem chk_eq (S : St) (w : Nat) : chk S w = ff (okk S w) 130 := Classical.choose_spec (⟨ff (okk S w) 130, rfl⟩ : ∃ x, x = ff (okk S w) 130)
noncomputable def nrm (S : St) (w : Nat) : Bool := decide (chk S w = 130)
noncomputable def chr (S : St) (w : Nat) : Nat := unr (S 2) (chk S w)
noncomputable def chp (S : St) (w : Nat) : Nat := unp (S 2) (chk S w)
noncomputable def nxt (S : St) (w : Nat) : Nat := app (lf S (chr S w)) (rt S (chr S w)) w (chp S w)
/-- the rules and the way are as the document has them -/
def IR (S : St) : Prop := S 1 ≤ 10 ∧ S 2 ≤ 2 ∧ ∀ r, r < S 1 → vw 4 (lf S r) ∧ vw 4 (rt S r) ∧ 1 ≤ len (lf S r) ∧ len (rt S r) ≤ len (lf S r)
theorem rnk_un {way p r : Nat} (hp : p ≤ 12) (hr : r < 10) : unp way (rnk way p r) = p ∧ unr way (rnk way p r) = r ∧ rnk way p r < 130 := by
  unfold unp unr rnk
  by_cases h1 : way = 1
  · simp only [h1, if_true]
    have : ¬ (1 = 2) := by decide
    simp only [this, if_false]
    omega
  · by_cases h2 : way = 2
    · simp only [h2]
      have : ¬ (2 = 1) := by decide
      simp only [this, if_false, if_true]
      omega
    · simp only [h1, h2, if_false]
      omega
theorem un_rnk {way k : Nat} (hk : k < 130) : rnk way (unp way k) (unr way k) = k ∧ unp way k ≤ 12 ∧ unr way k < 10 := by
  unfold unp unr rnk
  by_cases h1 : way = 1
  · simp only [h1, if_true]
    have : ¬ (1 = 2) := by decide
    simp only [this, if_false]
    omega
  · by_cases h2 : way = 2
    · simp only [h2]
      have : ¬ (2 = 1) := by decide
      simp only [this, if_false, if_true]
      omega
    · simp only [h1, h2, if_false]
      omega
theorem ch_is {S : St} {w p r : Nat} (hI : IR S) (hw : vw 12 w) (hr : r < S 1) (hp : p < len w) (h : stn (lf S r) w p = true) (hb : ∀ r' p', r' < S 1 → p' < len w → stn (lf S r') w p' = true → rnk (S 2) p r ≤ rnk (S 2) p' r') : chr S w = r ∧ chp S w = p ∧ nrm S w = false := by
  have hr10 : r < 10 := by have := hI.1; omega
  have hp12 : p ≤ 12 := by have := hw.2; omega
  obtain ⟨e1, e2, e3⟩ := rnk_un (way := S 2) hp12 hr10
  have e : chk S w = rnk (S 2) p r := by
    rw [chk_eq]
    refine ff_is e3 ?_ ?_
    · unfold okk
      rw [e1, e2, h]
      simp [hr, hp]
    · intro j hj
      obtain ⟨f1, f2, f3⟩ := un_rnk (way := S 2) (k := j) (by omega)
      cases ho : okk S w j with
      | false => rfl
      | true =>
        unfold okk at ho
        simp only [Bool.and_eq_true, decide_eq_true_eq] at ho
        have := hb _ _ ho.1.1 ho.1.2 ho.2
        rw [f1] at this
        omega
  refine ⟨by unfold chr; rw [e, e2], by unfold chp; rw [e, e1], ?_⟩
  unfold nrm
  rw [e]
  exact decide_eq_false (by omega)
theorem ch_no {S : St} {w : Nat} (h : ∀ r p, r < S 1 → p < len w → stn (lf S r) w p = false) : nrm S w = true := by
  unfold nrm
  rw [chk_eq]
  refine decide_eq_true (ff_none (fun k _ => ?_))
  unfold okk
  cases h1 : decide (unr (S 2) k < S 1) with
  | false => rfl
  | true =>
    cases h2 : decide (unp (S 2) k < len w) with
    | false => rfl
    | true => rw [h _ _ (of_decide_eq_true h1) (of_decide_eq_true h2)]; rfl
theorem ch_yes {S : St} {w : Nat} (h : nrm S w = false) : chr S w < S 1 ∧ chp S w < len w ∧ stn (lf S (chr S w)) w (chp S w) = true ∧ ∀ r' p', r' < 10 → p' ≤ 12 → r' < S 1 → p' < len w → stn (lf S r') w p' = true → rnk (S 2) (chp S w) (chr S w) ≤ rnk (S 2) p' r' := by
  have h1 : chk S w ≠ 130 := of_decide_eq_false h
  have h2 : chk S w < 130 := by have := ff_le (okk S w) 130; rw [← chk_eq] at this; omega
  have h3 : okk S w (chk S w) = true := by rw [chk_eq]; exact ff_yes _ _ (by rw [← chk_eq]; exact h2)
  unfold okk at h3
  simp only [Bool.and_eq_true, decide_eq_true_eq] at h3
  refine ⟨h3.1.1, h3.1.2, h3.2, fun r' p' a1 a2 a3 a4 a5 => ?_⟩
  obtain ⟨e1, e2, e3⟩ := rnk_un (way := S 2) a2 a1
  have hk : rnk (S 2) (chp S w) (chr S w) = chk S w := (un_rnk h2).1
  rw [hk]
  rcases Nat.lt_or_ge (rnk (S 2) p' r') (chk S w) with q | q
  · have := ff_no (okk S w) 130 _ (by rw [← chk_eq]; exact q)
    unfold okk at this
    rw [e1, e2, a5] at this
    simp [a3, a4] at this
  · exact q
theorem stn_le {part word place : Nat} (h : stn part word place = true) : place + len part ≤ len word := by
  unfold stn at h
  simp only [Bool.and_eq_true, decide_eq_true_eq] at h
  exact h.1
theorem ap_vw {S : St} {w r p : Nat} (hI : IR S) (hw : vw 12 w) (hr : r < S 1) (h : stn (lf S r) w p = true) : vw 12 (app (lf S r) (rt S r) w p) := by
  obtain ⟨a, b, c, d⟩ := hI.2.2 r hr
  exact (vw_app hw a b d (stn_le h)).1
theorem nxt_vw {S : St} {w : Nat} (hI : IR S) (hw : vw 12 w) (h : nrm S w = false) : vw 12 (nxt S w) := by
  obtain ⟨a, -, b, -⟩ := ch_yes h
  exact ap_vw hI hw a b
/-! a row of steps -/
noncomputable def xs (S : St) (w : Nat) : Nat → Nat
  | 0 => w
  | i + 1 => nxt S (xs S w i)
noncomputable def fst (S : St) (w k : Nat) : Nat := ff (fun i => decide (xs S w i = xs S w k)) k
noncomputable def redF (S : St) (w : Nat) : Nat → Nat → Nat × Nat × Nat
  | 0, k => (2, k, 0)
  | f + 1, k => if fst S w k < k then (1, k, fst S w k) else if nrm S (xs S w k) then (0, k, 0) else if k = 100 then (2, 100, 0) else redF S w f (k + 1)
noncomputable def red (S : St) (w : Nat) : Nat × Nat × Nat := Classical.choose (⟨redF S w 101 0, rfl⟩ : ∃ x, x = redF S w 101 0)
theorem red_eq (S : St) (w : Nat) : red S w = redF S w 101 0 := Classical.choose_spec (⟨redF S w 101 0, rfl⟩ : ∃ x, x = redF S w 101 0)
/-- what is known of the end of a reducing -/
theorem redF_ok {S : St} {w : Nat} (hI : IR S) (hw : vw 12 w) : ∀ (f k : Nat), f + k = 101 → k ≤ 100 → vw 12 (xs S w k) → (∀ i, i < k → nrm S (xs S w i) = false ∧ vw 12 (xs S w i)) →
    (redF S w f k).2.1 ≤ 100 ∧ (∀ i, i < (redF S w f k).2.1 → nrm S (xs S w i) = false ∧ vw 12 (xs S w i)) ∧ vw 12 (xs S w (redF S w f k).2.1) ∧ (redF S w f k).1 ≤ 2 ∧ k ≤ (redF S w f k).2.1 ∧ ((redF S w f k).1 = 0 → nrm S (xs S w (redF S w f k).2.1) = true) ∧ ((redF S w f k).1 = 1 → (redF S w f k).2.2 < (redF S w f k).2.1)
  | 0, k, hk, hk2, hv, ha => by omega
  | f + 1, k, hk, hk2, hv, ha => by
    unfold redF
    split
    · rename_i h
      exact ⟨hk2, ha, hv, Nat.le_succ 1, Nat.le_refl _, (fun q => by cases q), fun _ => h⟩
    · split
      · rename_i h
        exact ⟨hk2, ha, hv, Nat.zero_le 2, Nat.le_refl _, fun _ => h, (fun q => by cases q)⟩
      · split
        · rename_i h
          subst h
          exact ⟨Nat.le_refl _, ha, hv, Nat.le_refl 2, Nat.le_refl _, (fun q => by cases q), (fun q => by cases q)⟩
        · rename_i h1 h2 h3
          have hn : nrm S (xs S w k) = false := Bool.not_eq_true _ |>.mp h2
          obtain ⟨a, b, c, d, e, g, z⟩ := redF_ok hI hw f (k + 1) (by omega) (by omega) (nxt_vw hI hv hn) (fun i hi => by
            rcases Nat.lt_or_ge i k with q | q
            · exact ha i q
            · have e : i = k := by omega
              subst e; exact ⟨hn, hv⟩)
          exact ⟨a, b, c, d, by omega, g, z⟩
theorem red_ok {S : St} {w : Nat} (hI : IR S) (hw : vw 12 w) : (red S w).2.1 ≤ 100 ∧ (∀ i, i < (red S w).2.1 → nrm S (xs S w i) = false ∧ vw 12 (xs S w i)) ∧ vw 12 (xs S w (red S w).2.1) ∧ (red S w).1 ≤ 2 ∧ ((red S w).1 = 0 → nrm S (xs S w (red S w).2.1) = true) ∧ ((red S w).1 = 1 → (red S w).2.2 < (red S w).2.1) := by
  rw [red_eq]
  obtain ⟨a, b, c, d, -, g, z⟩ := redF_ok hI hw 101 0 rfl (Nat.zero_le _) hw (fun i h => absurd h (Nat.not_lt_zero i))
  exact ⟨a, b, c, d, g, z⟩
end
section
/-! rows of numbers and words over the machine -/
theorem sub_sub_nI (a b c : Nat) : nI a - nI b - nI c = nI a - nI (b + c) := by
  rw [← nI_add]
  apply Int32.toBitVec_inj.mp
  show (nI a).toBitVec - (nI b).toBitVec - (nI c).toBitVec = (nI a).toBitVec - ((nI b).toBitVec + (nI c).toBitVec)
  apply BitVec.eq_of_toNat_eq
  simp only [BitVec.toNat_sub, BitVec.toNat_add]
  omega
theorem bI_fit (b : Bool) : fits .boolean (.int (bI b)) = true := by cases b <;> rfl
theorem mmax_nI {a b : Nat} (ha : a < 2147483648) (hb : b < 2147483648) : (if nI a < nI b then nI b else nI a) = nI (max a b) := by
  by_cases h : a < b
  · rw [if_pos ((nI_ltI ha hb).mpr h), Nat.max_eq_right (Nat.le_of_lt h)]
  · rw [if_neg (fun q => h ((nI_ltI ha hb).mp q)), Nat.max_eq_left (Nat.not_lt.mp h)]
theorem mmin_nI {a b : Nat} (ha : a < 2147483648) (hb : b < 2147483648) : (if nI a < nI b then nI a else nI b) = nI (min a b) := by
  by_cases h : a < b
  · rw [if_pos ((nI_ltI ha hb).mpr h), Nat.min_eq_left (Nat.le_of_lt h)]
  · rw [if_neg (fun q => h ((nI_ltI ha hb).mp q)), Nat.min_eq_right (Nat.not_lt.mp h)]
theorem sh_1 {k : Nat} (hk : k < 16) : nI 1 <<< (nI (2 * k) &&& 31) = nI (4 ^ k) := by
  have h : (4 : Nat) ^ k ≤ 4 ^ 15 := four_le (by omega)
  have := sh_l (w := 1) hk (by rw [Nat.one_mul]; exact Nat.lt_of_le_of_lt h (by decide))
  rwa [Nat.one_mul] at this
theorem sh_r1 {w : Nat} (hw : w < 2147483648) : nI w >>> (nI 2 &&& 31) = nI (w / 4) := sh_r (k := 1) hw (by decide)
theorem sh_l1 {w : Nat} (hw : w < 1073741824) : nI w <<< (nI 2 &&& 31) = nI (w * 4) := sh_l (k := 1) (by decide) (by omega)
theorem dv4 (w i : Nat) : w / 4 ^ i / 4 = w / 4 ^ (i + 1) := by rw [Nat.div_div_eq_div_mul, ← Nat.pow_succ]
theorem wd_gt {n w : Nat} (h : wd n w) : 1 < w ↔ 0 < n := by
  constructor
  · intro q
    rcases Nat.eq_zero_or_pos n with e | e
    · subst e; have := wd_0 h; omega
    · exact e
  · intro q
    have h1 : (4 : Nat) ^ 1 ≤ 4 ^ n := four_le q
    have := h.1
    omega
theorem vw_B {w n : Nat} (h : vw n w) (hn : n ≤ 13) : w < 134217728 := Nat.lt_of_lt_of_le (wd_lt h.1 (Nat.le_trans h.2 hn)) (by decide)
theorem i32_of {x : Int32} {n : Nat} (h0 : 0 ≤ x.toInt) (h : x.toInt < n) : ∃ j : Nat, j < n ∧ x = nI j := by
  refine ⟨x.toInt.toNat, by omega, Int32.toInt_inj.mp ?_⟩
  have h2 : x.toInt < 2147483648 := Int32.toInt_lt x
  have := nI_toInt (n := x.toInt.toNat) (by omega)
  omega
/-- a letter by a number of the machine -/
def ltI (w : Nat) (x : Int32) : Int32 := if 0 ≤ x.toInt ∧ x.toInt < (len w : Int) then nI (lt4 w x.toInt.toNat) else (-1000004)
theorem ltI_in {w j : Nat} (hw : vw 13 w) (h : j < len w) : ltI w (nI j) = nI (lt4 w j) := by
  unfold ltI
  have h1 : (nI j).toInt = (j : Int) := nI_toInt (by have := hw.2; omega)
  rw [h1, if_pos ⟨by omega, by omega⟩, Int.toNat_natCast]
theorem ltI_out {w : Nat} {x : Int32} (h : x.toInt < 0 ∨ (len w : Int) ≤ x.toInt) : ltI w x = (-1000004) := by
  unfold ltI
  rw [if_neg (by omega)]
theorem stn_T {part word place : Nat} (h : place + len part ≤ len word) (h2 : word / 4 ^ (len word - (place + len part)) % 4 ^ len part = part % 4 ^ len part) : stn part word place = true := by
  unfold stn
  rw [Nat.sub_sub, decide_eq_true h, decide_eq_true h2]; rfl
theorem stn_F {part word place : Nat} (h : len word < place + len part) : stn part word place = false := by
  unfold stn
  rw [decide_eq_false (by omega)]; rfl
theorem stn_F2 {part word place : Nat} (h2 : word / 4 ^ (len word - (place + len part)) % 4 ^ len part ≠ part % 4 ^ len part) : stn part word place = false := by
  unfold stn
  rw [Nat.sub_sub, decide_eq_false h2, Bool.and_false]
def inR (S : St) (x : Int32) : Bool := decide (0 ≤ x.toInt ∧ x.toInt < (S 1 : Int))
def rRu (S : St) (L R LL RL TM : Nat → Int32) : Prop := ∀ r, r < S 1 → L r = nI (lf S r) ∧ R r = nI (rt S r) ∧ LL r = nI (len (lf S r)) ∧ RL r = nI (len (rt S r)) ∧ TM r = nI (tms S r)
def addS (S : St) (a b : Nat) : St := upN (upN (upN (upN (upN S (6 + 3 * S 1) a) (6 + 3 * S 1 + 1) b) (6 + 3 * S 1 + 2) 0) 1 (S 1 + 1)) 3 0
def dropS (S : St) (g : Nat) : St := upN (fun j => if 6 + 3 * g ≤ j ∧ j < 6 + 3 * (S 1 - 1) then S (j + 3) else if j = 1 then S 1 - 1 else S j) 3 0
theorem rRu_add {S : St} {L R LL RL TM : Nat → Int32} (h : rRu S L R LL RL TM) (a b : Nat) : rRu (addS S a b) (upd L (S 1) (nI a)) (upd R (S 1) (nI b)) (upd LL (S 1) (nI (len a))) (upd RL (S 1) (nI (len b))) (upd TM (S 1) (nI 0)) := by
  intro r hr
  have h1 : addS S a b 1 = S 1 + 1 := by unfold addS upN; rw [if_neg (by decide), if_pos rfl]
  rw [h1] at hr
  rcases Nat.lt_or_ge r (S 1) with q | q
  · obtain ⟨a1, a2, a3, a4, a5⟩ := h r q
    have e1 : lf (addS S a b) r = lf S r := by unfold lf addS upN; repeat rw [if_neg (by omega)]
    have e2 : rt (addS S a b) r = rt S r := by unfold rt addS upN; repeat rw [if_neg (by omega)]
    have e3 : tms (addS S a b) r = tms S r := by unfold tms addS upN; repeat rw [if_neg (by omega)]
    rw [e1, e2, e3, pk_un (by omega), pk_un (by omega), pk_un (by omega), pk_un (by omega), pk_un (by omega)]
    exact ⟨a1, a2, a3, a4, a5⟩
  · have e : r = S 1 := by omega
    subst e
    have e1 : lf (addS S a b) (S 1) = a := by
      unfold lf addS upN
      rw [if_neg (by omega), if_neg (by omega), if_neg (by omega), if_neg (by omega), if_pos rfl]
    have e2 : rt (addS S a b) (S 1) = b := by
      unfold rt addS upN
      rw [if_neg (by omega), if_neg (by omega), if_neg (by omega), if_pos rfl]
    have e3 : tms (addS S a b) (S 1) = 0 := by
      unfold tms addS upN
      rw [if_neg (by omega), if_neg (by omega), if_pos rfl]
    rw [e1, e2, e3, pk_us, pk_us, pk_us, pk_us, pk_us]
    exact ⟨rfl, rfl, rfl, rfl, rfl⟩
def shf (g i : Nat) (L L' : Nat → Int32) : Prop := ∀ k, L' k = if g ≤ k ∧ k < i then L (k + 1) else L k
theorem shf_0 {g : Nat} {L : Nat → Int32} : shf g g L L := fun k => by rw [if_neg (by omega)]
theorem shf_s {g i : Nat} {L L' : Nat → Int32} (h : shf g i L L') (hi : g ≤ i) : shf g (i + 1) L (upd L' i (L' (i + 1))) := by
  intro k
  by_cases e : k = i
  · subst e
    rw [pk_us, if_pos (by omega), h (k + 1), if_neg (by omega)]
  · rw [pk_un e, h k]
    by_cases q : g ≤ k ∧ k < i
    · rw [if_pos q, if_pos (by omega)]
    · rw [if_neg q, if_neg (by omega)]
theorem rRu_drop {S : St} {L R LL RL TM L' R' LL' RL' TM' : Nat → Int32} {g i : Nat} (h : rRu S L R LL RL TM) (hg : g < S 1) (hi : S 1 ≤ i + 1) (h1 : shf g i L L') (h2 : shf g i R R') (h3 : shf g i LL LL') (h4 : shf g i RL RL') (h5 : shf g i TM TM') : rRu (dropS S g) L' R' LL' RL' TM' := by
  intro r hr
  have e1 : dropS S g 1 = S 1 - 1 := by unfold dropS upN; dsimp only; rw [if_neg (by decide), if_neg (by omega), if_pos rfl]
  rw [e1] at hr
  rw [h1 r, h2 r, h3 r, h4 r, h5 r]
  by_cases q : g ≤ r
  · obtain ⟨a1, a2, a3, a4, a5⟩ := h (r + 1) (by omega)
    have f1 : lf (dropS S g) r = lf S (r + 1) := by unfold lf dropS upN; dsimp only; rw [if_neg (by omega), if_pos (by omega)]; congr 1
    have f2 : rt (dropS S g) r = rt S (r + 1) := by unfold rt dropS upN; dsimp only; rw [if_neg (by omega), if_pos (by omega)]; congr 1
    have f3 : tms (dropS S g) r = tms S (r + 1) := by unfold tms dropS upN; dsimp only; rw [if_neg (by omega), if_pos (by omega)]; congr 1
    rw [f1, f2, f3, if_pos (by omega), if_pos (by omega), if_pos (by omega), if_pos (by omega), if_pos (by omega)]
    exact ⟨a1, a2, a3, a4, a5⟩
  · obtain ⟨a1, a2, a3, a4, a5⟩ := h r (by omega)
    have f1 : lf (dropS S g) r = lf S r := by unfold lf dropS upN; dsimp only; rw [if_neg (by omega), if_neg (by omega), if_neg (by omega)]
    have f2 : rt (dropS S g) r = rt S r := by unfold rt dropS upN; dsimp only; rw [if_neg (by omega), if_neg (by omega), if_neg (by omega)]
    have f3 : tms (dropS S g) r = tms S r := by unfold tms dropS upN; dsimp only; rw [if_neg (by omega), if_neg (by omega), if_neg (by omega)]
    rw [f1, f2, f3, if_neg (by omega), if_neg (by omega), if_neg (by omega), if_neg (by omega), if_neg (by omega)]
    exact ⟨a1, a2, a3, a4, a5⟩
def hsd (S : St) (a b : Nat) : Bool := decide (ff (fun k => decide (lf S k = a ∧ rt S k = b)) (S 1) < S 1)
def cn (p : Nat → Bool) : Nat → Nat
  | 0 => 0
  | n + 1 => cn p n + if p n then 1 else 0
theorem cn_t {p : Nat → Bool} {n : Nat} (h : p n = true) : cn p (n + 1) = cn p n + 1 := by show cn p n + _ = _; rw [if_pos h]
theorem cn_f {p : Nat → Bool} {n : Nat} (h : p n = false) : cn p (n + 1) = cn p n := by show cn p n + _ = _; rw [h]; rfl
theorem cn_le (p : Nat → Bool) : ∀ n, cn p n ≤ n
  | 0 => Nat.le_refl 0
  | n + 1 => by have := cn_le p n; show cn p n + _ ≤ _; split <;> omega
noncomputable def chI (S : St) (w : Nat) : Int32 := if nrm S w then (-1) else nI (chp S w * 10 + chr S w)
theorem chI_no {S : St} {w : Nat} (h : nrm S w = true) : chI S w = (-1) := if_pos h
theorem chI_yes {S : St} {w : Nat} (h : nrm S w = false) : chI S w = nI (chp S w * 10 + chr S w) := by unfold chI; rw [h]; rfl
/-- the head of an applied word, and the word before its end comes behind -/
theorem app_ok {w a b p : Nat} (hw : vw 12 w) (ha : vw 4 a) (hb : vw 4 b) (hba : len b ≤ len a) (hp : p + len a ≤ len w) : w / 4 ^ (len w - p) * 4 ^ len b < 134217728 ∧ (w / 4 ^ (len w - p) * 4 ^ len b + b % 4 ^ len b) * 4 ^ (len w - p - len a) < 134217728 ∧ b % 4 ^ len b < 4 ^ len b ∧ w % 4 ^ (len w - p - len a) < 4 ^ (len w - p - len a) := by
  have h1 : wd p (w / 4 ^ (len w - p)) := by
    have := wd_div hw.1 (k := len w - p) (by omega)
    rwa [show len w - (len w - p) = p by omega] at this
  have h12 := hw.2
  have h2 := wd_app h1 (k := len b) (b := 0) (four_pos _)
  have h3 := wd_app h1 (k := len b) (b := b % 4 ^ len b) (Nat.mod_lt _ (four_pos _))
  have h4 := wd_app h3 (k := len w - p - len a) (b := 0) (four_pos _)
  have b2 := wd_lt h2 (m := 13) (by omega)
  have b4 := wd_lt h4 (m := 13) (by omega)
  refine ⟨?_, ?_, Nat.mod_lt _ (four_pos _), Nat.mod_lt _ (four_pos _)⟩
  · have : 2 * 4 ^ 13 = 134217728 := by decide
    omega
  · have : 2 * 4 ^ 13 = 134217728 := by decide
    omega

abbrev gRu (cA : Nat → ClassId) (B : Nat → Nat) (L : Nat → Int32) (R : Nat → Int32) (LL : Nat → Int32) (RL : Nat → Int32) (TM : Nat → Int32) (z : Int32) : va_W := [(B 0, .inr (4, [.ref (B 1), .ref (B 2), .ref (B 3), .ref (B 4), .ref (B 5), .int z])), (B 1, .inl (cA 0, 10, .inl L)), (B 2, .inl (cA 0, 10, .inl R)), (B 3, .inl (cA 0, 10, .inl LL)), (B 4, .inl (cA 0, 10, .inl RL)), (B 5, .inl (cA 0, 10, .inl TM))]
set_option maxHeartbeats 1000000 in
set_option maxRecDepth 100000 in
theorem k_X9_lengthOf (lY : Launch) (D : va_G) (cA : Nat → ClassId) (w : Nat) (hw : wd (len w) w) (hn : len w ≤ 13) : MetI lY D cA yX9_lengthOf wsX9_lengthOf 0 0 [.int (nI w)] ([]) (fun rY wY => rY = nI (len w) ∧ wY = []) := by
  refine MetI.of (cc := cX9_lengthOf) (maxL := 3) (ret := (some .int)) (by decide) rfl (Nat.le_of_ble_eq_true rfl) (Or.inl rfl) ?_
  intro pY eY sY mY aY bY tY cY QY AY ls h0 hP hK hN hD hA hS hl hret
  obtain ⟨hx, hb, hml, hown, hts⟩ := id h0
  have hl : lv_has ls 3 [(0, .int (nI w))] := hl
  have hP : va_P D vwCl ([]) sY.heap := hP
  have hD : va_D AY ([]) := hD
  have hB : w < 134217728 := vw_B ⟨hw, hn⟩ (Nat.le_refl _)
  refine lv_iconst (v := nI 0) hx hb dX9_lengthOf_0 (by decide +kernel) ?_
  refine lv_istore_n (lv' := [(1, .int (nI 0)), (0, .int (nI w))]) hx hb dX9_lengthOf_1 rfl hl (by decide) rfl (fun ls hl => ?_)
  refine lv_iload_n hx hb dX9_lengthOf_2 rfl (lv_at hl 1 rfl) ?_
  refine lv_istore_n (lv' := [(2, .int (nI w)), (1, .int (nI 0)), (0, .int (nI w))]) hx hb dX9_lengthOf_3 rfl hl (by decide) rfl (fun ls hl => ?_)
  have L4 : ∀ (nY : Nat), ∀ (i : Nat), (i ≤ len w) → (len w - i < nY) → ∀ (H : Heap) (locs : List Loc) (ls : Array Slot), va_P D vwCl ([]) H → va_D AY ([]) → va_S AY sY.heap H locs → lv_has ls 3 [(0, .int (nI w)), (1, .int (nI i)), (2, .int (nI (w / 4 ^ i)))] → W pY lY eY { frames := 0, cells := 0, slots := 0, locals := 0 } sY mY aY bY tY cY H locs 0 0 QY (F0 mY 4 ls []) := by
    intro nY4
    induction nY4 with
    | zero => intro i hi hm4; exact absurd hm4 (Nat.not_lt_zero _)
    | succ nY4 ih4 =>
      intro i hi hm4 H locs ls hP hD hS hl
      have hq : w / 4 ^ i ≤ w := Nat.div_le_self _ _
      have hg := wd_gt (wd_div hw hi)
      refine lv_iload_n hx hb dX9_lengthOf_4 rfl (lv_at hl 2 rfl) ?_
      refine lv_iconst (v := nI 1) hx hb dX9_lengthOf_5 (by decide +kernel) ?_
      refine xc_le (tgt := 19) hx hb dX9_lengthOf_6 (by decide) (by omega) (by omega) (fun c6 => ?_) (fun c6 => ?_)
      · refine lv_iload_n hx hb dX9_lengthOf_19 rfl (lv_at hl 1 rfl) ?_
        exact hret _ _ _ _ _ _ dX9_lengthOf_20 ⟨congrArg nI (by omega), rfl⟩ hP hD hS
      · refine lv_iinc (v := nI (i + 1)) (lv' := [(1, .int (nI (i + 1))), (0, .int (nI w)), (2, .int (nI (w / 4 ^ i)))]) hx hb dX9_lengthOf_9 hl (k := 1) rfl (show nI i + Int32.ofInt 1 = nI (i + 1) from nI_add i 1) (by decide) rfl (fun ls hl => ?_)
        refine lv_iload_n hx hb dX9_lengthOf_12 rfl (lv_at hl 2 rfl) ?_
        refine lv_iconst (v := nI 2) hx hb dX9_lengthOf_13 (by decide +kernel) ?_
        refine lv_ishr hx hb dX9_lengthOf_14 ?_
        refine xt (show (nI (w / 4 ^ i)) >>> ((nI 2) &&& 31) = nI (w / 4 ^ (i + 1)) from (sh_r1 (by omega)).trans (congrArg nI (dv4 w i))) ?_
        refine lv_istore_n (lv' := [(2, .int (nI (w / 4 ^ (i + 1)))), (1, .int (nI (i + 1))), (0, .int (nI w))]) hx hb dX9_lengthOf_15 rfl hl (by decide) rfl (fun ls hl => ?_)
        refine lv_goto (tgt := 4) hx hb dX9_lengthOf_16 (by decide) ?_
        exact ih4 (i + 1) (by omega) (by omega) _ _ _ hP hD hS (lv_sub hl [2, 1, 0] rfl)
  have hl : lv_has ls 3 [(2, .int (nI (w / 4 ^ 0))), (1, .int (nI 0)), (0, .int (nI w))] := Eq.mp (congrArg (fun zY : Int32 => lv_has ls 3 [(2, .int zY), (1, .int (nI 0)), (0, .int (nI w))]) (show nI w = nI (w / 4 ^ 0) from by rw [Nat.pow_zero, Nat.div_one])) hl
  exact L4 _ 0 (by omega) (Nat.lt_succ_self _) _ _ _ hP hD hS (lv_sub hl [2, 1, 0] rfl)

set_option maxHeartbeats 1000000 in
set_option maxRecDepth 100000 in
theorem k_X9_letterOf (lY : Launch) (D : va_G) (cA : Nat → ClassId) (w : Nat) (x : Int32) (hw : vw 12 w) : MetI lY D cA yX9_letterOf wsX9_letterOf 1 22 [.int (nI w), .int x] ([]) (fun rY wY => rY = ltI w x ∧ wY = []) := by
  refine MetI.of (cc := cX9_letterOf) (maxL := 3) (ret := (some .int)) (by decide) rfl (Nat.le_of_ble_eq_true rfl) (Or.inl rfl) ?_
  intro pY eY sY mY aY bY tY cY QY AY ls h0 hP hK hN hD hA hS hl hret
  obtain ⟨hx, hb, hml, hown, hts⟩ := id h0
  have hl : lv_has ls 3 [(0, .int (nI w)), (1, .int x)] := hl
  have hP : va_P D vwCl ([]) sY.heap := hP
  have hD : va_D AY ([]) := hD
  have hB : w < 134217728 := vw_B hw (by decide)
  have h12 := hw.2
  refine lv_iload_n hx hb dX9_letterOf_0 rfl (lv_at hl 0 rfl) ?_
  refine ci_S (As := [.int (nI w)]) (rest := []) h0 hK hN hP hD hS hA hl.1 (k_X9_lengthOf lY D cA w (hw.1) (by omega)) [] rfl (by decide) (va_cwS 1 hts gX9_letterOf_X9_lengthOf rfl rfl rfl (by decide +kernel) ⟨Nat.le_of_ble_eq_true rfl, Nat.le_of_ble_eq_true rfl⟩) rfl rfl (Nat.le_of_ble_eq_true rfl) dX9_letterOf_1 ⟨Nat.zero_le _, Nat.zero_le _⟩ (fun rY wY H locs hwY hJ hS => ?_)
  obtain ⟨e1Y, e2Y⟩ := hwY
  have e3Y := e1Y.symm
  clear e1Y
  subst e3Y
  have e3Y := e2Y.symm
  clear e2Y
  subst e3Y
  obtain ⟨hP, hD⟩ := hJ rfl
  have hP : va_P D vwCl [] H := hP
  have hD : va_D AY [] := hD
  refine lv_istore_n (lv' := [(2, .int (nI (len w))), (0, .int (nI w)), (1, .int x)]) hx hb dX9_letterOf_4 rfl hl (by decide) rfl (fun ls hl => ?_)
  refine lv_iload_n hx hb dX9_letterOf_5 rfl (lv_at hl 2 rfl) ?_
  refine xz_lt (tgt := 14) hx hb dX9_letterOf_6 (by decide) (fun c6 => ?_) (fun c6 => ?_)
  · have e2 : (nI (len w)).toInt = (len w : Int) := nI_toInt (by omega)
    refine lv_ldc (v := (-1000004)) hx hb hown (hts (.constant RX9 15 (-1000004)) (by decide +kernel)) dX9_letterOf_14 ?_
    exact hret _ _ _ _ _ _ dX9_letterOf_16 ⟨(ltI_out (by omega)).symm, rfl⟩ hP hD hS
  · refine lv_iload_n hx hb dX9_letterOf_9 rfl (lv_at hl 2 rfl) ?_
    refine lv_iload_n hx hb dX9_letterOf_10 rfl (lv_at hl 0 rfl) ?_
    refine xr_lt (tgt := 17) hx hb dX9_letterOf_11 (by decide) (fun c11 => ?_) (fun c11 => ?_)
    · have e2 : (nI (len w)).toInt = (len w : Int) := nI_toInt (by omega)
      obtain ⟨j, hj, rfl⟩ : ∃ j : Nat, j < len w ∧ x = nI j := i32_of (by omega) (by omega)
      refine lv_iload_n hx hb dX9_letterOf_17 rfl (lv_at hl 1 rfl) ?_
      refine lv_iconst (v := nI 2) hx hb dX9_letterOf_18 (by decide +kernel) ?_
      refine lv_iload_n hx hb dX9_letterOf_19 rfl (lv_at hl 0 rfl) ?_
      refine lv_iconst (v := nI 1) hx hb dX9_letterOf_20 (by decide +kernel) ?_
      refine lv_isub hx hb dX9_letterOf_21 ?_
      refine xt (show (nI (len w)) - (nI 1) = nI ((len w) - 1) from pk_sub (by omega)) ?_
      refine lv_iload_n hx hb dX9_letterOf_22 rfl (lv_at hl 2 rfl) ?_
      refine lv_isub hx hb dX9_letterOf_23 ?_
      refine xt (show (nI ((len w) - 1)) - (nI j) = nI (((len w) - 1) - j) from pk_sub (by omega)) ?_
      refine lv_imul hx hb dX9_letterOf_24 ?_
      refine xt (show (nI 2) * (nI (((len w) - 1) - j)) = nI (2 * (((len w) - 1) - j)) from pk_mul _ _) ?_
      refine lv_ishr hx hb dX9_letterOf_25 ?_
      refine xt (show (nI w) >>> ((nI (2 * (((len w) - 1) - j))) &&& 31) = nI (w / 4 ^ (len w - 1 - j)) from sh_r (by omega) (by omega)) ?_
      refine lv_iconst (v := nI 3) hx hb dX9_letterOf_26 (by decide +kernel) ?_
      refine lv_iand hx hb dX9_letterOf_27 ?_
      refine xt (show (nI (w / 4 ^ (len w - 1 - j))) &&& (nI 3) = nI (lt4 w j) from sh_m (k := 1) (by decide)) ?_
      exact hret _ _ _ _ _ _ dX9_letterOf_28 ⟨(ltI_in (vw_up hw (by decide)) hj).symm, rfl⟩ hP hD hS
    · have e2 : (nI (len w)).toInt = (len w : Int) := nI_toInt (by omega)
      refine lv_ldc (v := (-1000004)) hx hb hown (hts (.constant RX9 15 (-1000004)) (by decide +kernel)) dX9_letterOf_14 ?_
      exact hret _ _ _ _ _ _ dX9_letterOf_16 ⟨(ltI_out (by omega)).symm, rfl⟩ hP hD hS

set_option maxHeartbeats 1000000 in
set_option maxRecDepth 100000 in
theorem k_X9_withLetter (lY : Launch) (D : va_G) (cA : Nat → ClassId) (w c : Nat) (hw : w < 134217728) (hc : c < 4) : MetI lY D cA yX9_withLetter wsX9_withLetter 0 0 [.int (nI w), .int (nI c)] ([]) (fun rY wY => rY = nI (w * 4 + c) ∧ wY = []) := by
  refine MetI.of (cc := cX9_withLetter) (maxL := 2) (ret := (some .int)) (by decide) rfl (Nat.le_of_ble_eq_true rfl) (Or.inl rfl) ?_
  intro pY eY sY mY aY bY tY cY QY AY ls h0 hP hK hN hD hA hS hl hret
  obtain ⟨hx, hb, hml, hown, hts⟩ := id h0
  have hl : lv_has ls 2 [(0, .int (nI w)), (1, .int (nI c))] := hl
  have hP : va_P D vwCl ([]) sY.heap := hP
  have hD : va_D AY ([]) := hD
  refine lv_iload_n hx hb dX9_withLetter_0 rfl (lv_at hl 0 rfl) ?_
  refine lv_iconst (v := nI 2) hx hb dX9_withLetter_1 (by decide +kernel) ?_
  refine lv_ishl hx hb dX9_withLetter_2 ?_
  refine xt (show (nI w) <<< ((nI 2) &&& 31) = nI (w * 4) from sh_l1 (by omega)) ?_
  refine lv_iload_n hx hb dX9_withLetter_3 rfl (lv_at hl 1 rfl) ?_
  refine lv_ior hx hb dX9_withLetter_4 ?_
  refine xt (show (nI (w * 4)) ||| (nI c) = nI (w * 4 + c) from sh_o (k := 1) (by omega)) ?_
  exact hret _ _ _ _ _ _ dX9_withLetter_5 ⟨rfl, rfl⟩ hP hD hS

set_option maxHeartbeats 1000000 in
set_option maxRecDepth 100000 in
theorem k_X9_lastBits (lY : Launch) (D : va_G) (cA : Nat → ClassId) (w k : Nat) (hk : k < 15) : MetI lY D cA yX9_lastBits wsX9_lastBits 0 0 [.int (nI w), .int (nI k)] ([]) (fun rY wY => rY = nI (w % 4 ^ k) ∧ wY = []) := by
  refine MetI.of (cc := cX9_lastBits) (maxL := 2) (ret := (some .int)) (by decide) rfl (Nat.le_of_ble_eq_true rfl) (Or.inl rfl) ?_
  intro pY eY sY mY aY bY tY cY QY AY ls h0 hP hK hN hD hA hS hl hret
  obtain ⟨hx, hb, hml, hown, hts⟩ := id h0
  have hl : lv_has ls 2 [(0, .int (nI w)), (1, .int (nI k))] := hl
  have hP : va_P D vwCl ([]) sY.heap := hP
  have hD : va_D AY ([]) := hD
  refine lv_iload_n hx hb dX9_lastBits_0 rfl (lv_at hl 0 rfl) ?_
  refine lv_iconst (v := nI 1) hx hb dX9_lastBits_1 (by decide +kernel) ?_
  refine lv_iconst (v := nI 2) hx hb dX9_lastBits_2 (by decide +kernel) ?_
  refine lv_iload_n hx hb dX9_lastBits_3 rfl (lv_at hl 1 rfl) ?_
  refine lv_imul hx hb dX9_lastBits_4 ?_
  refine xt (show (nI 2) * (nI k) = nI (2 * k) from pk_mul _ _) ?_
  refine lv_ishl hx hb dX9_lastBits_5 ?_
  refine xt (show (nI 1) <<< ((nI (2 * k)) &&& 31) = nI (4 ^ k) from sh_1 (by omega)) ?_
  refine lv_iconst (v := nI 1) hx hb dX9_lastBits_6 (by decide +kernel) ?_
  refine lv_isub hx hb dX9_lastBits_7 ?_
  refine xt (show (nI (4 ^ k)) - (nI 1) = nI (4 ^ k - 1) from pk_sub (four_pos _)) ?_
  refine lv_iand hx hb dX9_lastBits_8 ?_
  refine xt (show (nI w) &&& (nI (4 ^ k - 1)) = nI (w % 4 ^ k) from sh_m hk) ?_
  exact hret _ _ _ _ _ _ dX9_lastBits_9 ⟨rfl, rfl⟩ hP hD hS

theorem hi_X4_contains_X4 : ∀ w ∈ u_ws RX4 TX4 6, w ∈ wsX4_contains := by decide +kernel
set_option maxHeartbeats 1000000 in
set_option maxRecDepth 100000 in
theorem k_X4_contains (lY : Launch) (D : va_G) (cA : Nat → ClassId) (B : Nat → Nat) (S : St) (L R LL RL TM : Nat → Int32) (x : Int32) (h10 : S 1 ≤ 10) : MetI lY D cA yX4_contains wsX4_contains 0 0 [.ref (B 0), .int x] (gRu cA B L R LL RL TM (nI (S 1))) (fun rY wY => rY = bI (inR S x) ∧ wY = gRu cA B L R LL RL TM (nI (S 1))) := by
  refine MetI.of (cc := cX4_contains) (maxL := 2) (ret := (some .boolean)) (by decide) rfl (Nat.le_of_ble_eq_true rfl) (Or.inr ⟨rfl, fun r w' h => by obtain ⟨h, -⟩ := h; rw [h]; exact bI_nar _⟩) ?_
  intro pY eY sY mY aY bY tY cY QY AY ls h0 hP hK hN hD hA hS hl hret
  obtain ⟨hx, hb, hml, hown, hts⟩ := id h0
  have hl : lv_has ls 2 [(0, .ref (B 0)), (1, .int x)] := hl
  have hP : va_P D vwCl (gRu cA B L R LL RL TM (nI (S 1))) sY.heap := hP
  have hD : va_D AY (gRu cA B L R LL RL TM (nI (S 1))) := hD
  have e2 : (nI (S 1)).toInt = (S 1 : Int) := nI_toInt (by omega)
  refine lv_iload_n hx hb dX4_contains_0 rfl (lv_at hl 1 rfl) ?_
  refine xz_lt (tgt := 16) hx hb dX4_contains_1 (by decide) (fun c1 => ?_) (fun c1 => ?_)
  · refine lv_iconst (v := nI 0) hx hb dX4_contains_16 (by decide +kernel) ?_
    exact hret _ _ _ _ _ _ dX4_contains_17 ⟨by rw [show inR S x = false from decide_eq_false (by omega)]; rfl, rfl⟩ hP hD hS
  · refine lv_iload_n hx hb dX4_contains_4 rfl (lv_at hl 1 rfl) ?_
    refine lv_aload_n hx hb dX4_contains_5 rfl (lv_at hl 0 rfl) ?_
    refine va_get (D := D) (ci := 4) (v := .int (nI (S 1))) (C := RX4) (T := TX4) (N := 6) hx hb hts hi_X4_contains_X4 hown hK hP 0 rfl rfl 5 (by decide) (hts (.fieldLink RX4 33 "FallingWords$Rules" "size" "I") (by decide +kernel)) (fun _ h9 => h9) rfl dX4_contains_6 ?_
    refine xr_ge (tgt := 16) hx hb dX4_contains_9 (by decide) (fun c9 => ?_) (fun c9 => ?_)
    · refine lv_iconst (v := nI 0) hx hb dX4_contains_16 (by decide +kernel) ?_
      exact hret _ _ _ _ _ _ dX4_contains_17 ⟨by rw [show inR S x = false from decide_eq_false (by omega)]; rfl, rfl⟩ hP hD hS
    · refine lv_iconst (v := nI 1) hx hb dX4_contains_12 (by decide +kernel) ?_
      refine lv_goto (tgt := 17) hx hb dX4_contains_13 (by decide) ?_
      exact hret _ _ _ _ _ _ dX4_contains_17 ⟨by rw [show inR S x = true from decide_eq_true (by omega)]; rfl, rfl⟩ hP hD hS

theorem hi_X4_isFull_X4 : ∀ w ∈ u_ws RX4 TX4 6, w ∈ wsX4_isFull := by decide +kernel
set_option maxHeartbeats 1000000 in
set_option maxRecDepth 100000 in
theorem k_X4_isFull (lY : Launch) (D : va_G) (cA : Nat → ClassId) (B : Nat → Nat) (S : St) (L R LL RL TM : Nat → Int32) (h10 : S 1 ≤ 10) : MetI lY D cA yX4_isFull wsX4_isFull 0 0 [.ref (B 0)] (gRu cA B L R LL RL TM (nI (S 1))) (fun rY wY => rY = bI (decide (10 ≤ S 1)) ∧ wY = gRu cA B L R LL RL TM (nI (S 1))) := by
  refine MetI.of (cc := cX4_isFull) (maxL := 1) (ret := (some .boolean)) (by decide) rfl (Nat.le_of_ble_eq_true rfl) (Or.inr ⟨rfl, fun r w' h => by obtain ⟨h, -⟩ := h; rw [h]; exact bI_nar _⟩) ?_
  intro pY eY sY mY aY bY tY cY QY AY ls h0 hP hK hN hD hA hS hl hret
  obtain ⟨hx, hb, hml, hown, hts⟩ := id h0
  have hl : lv_has ls 1 [(0, .ref (B 0))] := hl
  have hP : va_P D vwCl (gRu cA B L R LL RL TM (nI (S 1))) sY.heap := hP
  have hD : va_D AY (gRu cA B L R LL RL TM (nI (S 1))) := hD
  refine lv_aload_n hx hb dX4_isFull_0 rfl (lv_at hl 0 rfl) ?_
  refine va_get (D := D) (ci := 4) (v := .int (nI (S 1))) (C := RX4) (T := TX4) (N := 6) hx hb hts hi_X4_isFull_X4 hown hK hP 0 rfl rfl 5 (by decide) (hts (.fieldLink RX4 33 "FallingWords$Rules" "size" "I") (by decide +kernel)) (fun _ h9 => h9) rfl dX4_isFull_1 ?_
  refine lv_bipush (v := nI 10) hx hb dX4_isFull_4 (by decide +kernel) ?_
  refine xc_lt (tgt := 13) hx hb dX4_isFull_6 (by decide) (by omega) (by omega) (fun c6 => ?_) (fun c6 => ?_)
  · refine lv_iconst (v := nI 0) hx hb dX4_isFull_13 (by decide +kernel) ?_
    exact hret _ _ _ _ _ _ dX4_isFull_14 ⟨by rw [decide_eq_false (by omega)]; rfl, rfl⟩ hP hD hS
  · refine lv_iconst (v := nI 1) hx hb dX4_isFull_9 (by decide +kernel) ?_
    refine lv_goto (tgt := 14) hx hb dX4_isFull_10 (by decide) ?_
    exact hret _ _ _ _ _ _ dX4_isFull_14 ⟨by rw [decide_eq_true (by omega)]; rfl, rfl⟩ hP hD hS

theorem hi_X4_hasSides_X4 : ∀ w ∈ u_ws RX4 TX4 6, w ∈ wsX4_hasSides := by decide +kernel
set_option maxHeartbeats 1000000 in
set_option maxRecDepth 100000 in
theorem k_X4_hasSides (lY : Launch) (D : va_G) (cA : Nat → ClassId) (B : Nat → Nat) (S : St) (L R LL RL TM : Nat → Int32) (a b : Nat) (h10 : S 1 ≤ 10) (hr : rRu S L R LL RL TM) (ha : a < 2147483648) (hb2 : b < 2147483648) (hBd : ∀ r, r < S 1 → lf S r < 2147483648 ∧ rt S r < 2147483648) : MetI lY D cA yX4_hasSides wsX4_hasSides 0 0 [.ref (B 0), .int (nI a), .int (nI b)] (gRu cA B L R LL RL TM (nI (S 1))) (fun rY wY => rY = bI (hsd S a b) ∧ wY = gRu cA B L R LL RL TM (nI (S 1))) := by
  refine MetI.of (cc := cX4_hasSides) (maxL := 4) (ret := (some .boolean)) (by decide) rfl (Nat.le_of_ble_eq_true rfl) (Or.inr ⟨rfl, fun r w' h => by obtain ⟨h, -⟩ := h; rw [h]; exact bI_nar _⟩) ?_
  intro pY eY sY mY aY bY tY cY QY AY ls h0 hP hK hN hD hA hS hl hret
  obtain ⟨hx, hb, hml, hown, hts⟩ := id h0
  have hl : lv_has ls 4 [(0, .ref (B 0)), (1, .int (nI a)), (2, .int (nI b))] := hl
  have hP : va_P D vwCl (gRu cA B L R LL RL TM (nI (S 1))) sY.heap := hP
  have hD : va_D AY (gRu cA B L R LL RL TM (nI (S 1))) := hD
  refine lv_iconst (v := nI 0) hx hb dX4_hasSides_0 (by decide +kernel) ?_
  refine lv_istore_n (lv' := [(3, .int (nI 0)), (0, .ref (B 0)), (1, .int (nI a)), (2, .int (nI b))]) hx hb dX4_hasSides_1 rfl hl (by decide) rfl (fun ls hl => ?_)
  have L2 : ∀ (nY : Nat), ∀ (i : Nat), (i ≤ S 1) → (∀ k, k < i → decide (lf S k = a ∧ rt S k = b) = false) → (S 1 - i < nY) → ∀ (H : Heap) (locs : List Loc) (ls : Array Slot), va_P D vwCl (gRu cA B L R LL RL TM (nI (S 1))) H → va_D AY (gRu cA B L R LL RL TM (nI (S 1))) → va_S AY sY.heap H locs → lv_has ls 4 [(0, .ref (B 0)), (1, .int (nI a)), (2, .int (nI b)), (3, .int (nI i))] → W pY lY eY { frames := 0, cells := 0, slots := 0, locals := 0 } sY mY aY bY tY cY H locs 0 0 QY (F0 mY 2 ls []) := by
    intro nY2
    induction nY2 with
    | zero => intro i hi hno hm2; exact absurd hm2 (Nat.not_lt_zero _)
    | succ nY2 ih2 =>
      intro i hi hno hm2 H locs ls hP hD hS hl
      refine lv_iload_n hx hb dX4_hasSides_2 rfl (lv_at hl 3 rfl) ?_
      refine lv_aload_n hx hb dX4_hasSides_3 rfl (lv_at hl 0 rfl) ?_
      refine va_get (D := D) (ci := 4) (v := .int (nI (S 1))) (C := RX4) (T := TX4) (N := 6) hx hb hts hi_X4_hasSides_X4 hown hK hP 0 rfl rfl 5 (by decide) (hts (.fieldLink RX4 33 "FallingWords$Rules" "size" "I") (by decide +kernel)) (fun _ h9 => h9) rfl dX4_hasSides_4 ?_
      refine xc_ge (tgt := 38) hx hb dX4_hasSides_7 (by decide) (by omega) (by omega) (fun c7 => ?_) (fun c7 => ?_)
      · refine lv_iconst (v := nI 0) hx hb dX4_hasSides_38 (by decide +kernel) ?_
        exact hret _ _ _ _ _ _ dX4_hasSides_39 ⟨by rw [show hsd S a b = false from decide_eq_false (by rw [ff_none (fun j hj => hno j (by omega))]; omega)]; rfl, rfl⟩ hP hD hS
      · obtain ⟨g1, g2⟩ := hBd i (by omega)
        obtain ⟨f1, f2, -, -, -⟩ := hr i (by omega)
        refine lv_aload_n hx hb dX4_hasSides_10 rfl (lv_at hl 0 rfl) ?_
        refine va_get (D := D) (ci := 4) (v := .ref (B 1)) (C := RX4) (T := TX4) (N := 6) hx hb hts hi_X4_hasSides_X4 hown hK hP 0 rfl rfl 0 (by decide) (hts (.fieldLink RX4 9 "FallingWords$Rules" "left" "[I") (by decide +kernel)) (fun _ h9 => h9) rfl dX4_hasSides_11 ?_
        refine lv_iload_n hx hb dX4_hasSides_14 rfl (lv_at hl 3 rfl) ?_
        refine xa_ld (v := nI (lf S i)) hx hb hK hP 1 rfl (by omega) (by decide) (f1) dX4_hasSides_15 ?_
        refine lv_iload_n hx hb dX4_hasSides_16 rfl (lv_at hl 1 rfl) ?_
        refine xc_ne (tgt := 32) hx hb dX4_hasSides_17 (by decide) (by omega) (by omega) (fun c17 => ?_) (fun c17 => ?_)
        · refine lv_iinc (v := nI (i + 1)) (lv' := [(3, .int (nI (i + 1))), (0, .ref (B 0)), (1, .int (nI a)), (2, .int (nI b))]) hx hb dX4_hasSides_32 hl (k := 3) rfl (show nI i + Int32.ofInt 1 = nI (i + 1) from nI_add i 1) (by decide) rfl (fun ls hl => ?_)
          refine lv_goto (tgt := 2) hx hb dX4_hasSides_35 (by decide) ?_
          exact ih2 (i + 1) (by omega) (lt_s hno (decide_eq_false (fun z => c17 z.1))) (by omega) _ _ _ hP hD hS (lv_sub hl [1, 2, 3, 0] rfl)
        · refine lv_aload_n hx hb dX4_hasSides_20 rfl (lv_at hl 0 rfl) ?_
          refine va_get (D := D) (ci := 4) (v := .ref (B 2)) (C := RX4) (T := TX4) (N := 6) hx hb hts hi_X4_hasSides_X4 hown hK hP 0 rfl rfl 1 (by decide) (hts (.fieldLink RX4 15 "FallingWords$Rules" "right" "[I") (by decide +kernel)) (fun _ h9 => h9) rfl dX4_hasSides_21 ?_
          refine lv_iload_n hx hb dX4_hasSides_24 rfl (lv_at hl 3 rfl) ?_
          refine xa_ld (v := nI (rt S i)) hx hb hK hP 2 rfl (by omega) (by decide) (f2) dX4_hasSides_25 ?_
          refine lv_iload_n hx hb dX4_hasSides_26 rfl (lv_at hl 2 rfl) ?_
          refine xc_ne (tgt := 32) hx hb dX4_hasSides_27 (by decide) (by omega) (by omega) (fun c27 => ?_) (fun c27 => ?_)
          · refine lv_iinc (v := nI (i + 1)) (lv' := [(3, .int (nI (i + 1))), (0, .ref (B 0)), (1, .int (nI a)), (2, .int (nI b))]) hx hb dX4_hasSides_32 hl (k := 3) rfl (show nI i + Int32.ofInt 1 = nI (i + 1) from nI_add i 1) (by decide) rfl (fun ls hl => ?_)
            refine lv_goto (tgt := 2) hx hb dX4_hasSides_35 (by decide) ?_
            exact ih2 (i + 1) (by omega) (lt_s hno (decide_eq_false (fun z => c27 z.2))) (by omega) _ _ _ hP hD hS (lv_sub hl [1, 2, 3, 0] rfl)
          · refine lv_iconst (v := nI 1) hx hb dX4_hasSides_30 (by decide +kernel) ?_
            exact hret _ _ _ _ _ _ dX4_hasSides_31 ⟨by rw [show hsd S a b = true from decide_eq_true (by rw [ff_is (k := i) (by omega) (decide_eq_true ⟨c17, c27⟩) hno]; omega)]; rfl, rfl⟩ hP hD hS
  exact L2 _ 0 (by omega) (fun k h => absurd h (Nat.not_lt_zero k)) (Nat.lt_succ_self _) _ _ _ hP hD hS (lv_sub hl [1, 2, 3, 0] rfl)

theorem hi_X4_add_X4 : ∀ w ∈ u_ws RX4 TX4 6, w ∈ wsX4_add := by decide +kernel
set_option maxHeartbeats 1000000 in
set_option maxRecDepth 100000 in
theorem k_X4_add (lY : Launch) (D : va_G) (cA : Nat → ClassId) (B : Nat → Nat) (S : St) (L R LL RL TM : Nat → Int32) (a b : Nat) (h10 : S 1 < 10) (hr : rRu S L R LL RL TM) (ha : vw 4 a) (hb2 : vw 4 b) : MetV lY D cA yX4_add wsX4_add 1 22 0 0 [.ref (B 0), .int (nI a), .int (nI b)] (gRu cA B L R LL RL TM (nI (S 1))) (fun wY => ∃ (L' : Nat → Int32) (R' : Nat → Int32) (LL' : Nat → Int32) (RL' : Nat → Int32) (TM' : Nat → Int32), wY = gRu cA B L' R' LL' RL' TM' (nI (S 1 + 1)) ∧ (rRu (addS S a b) L' R' LL' RL' TM')) := by
  refine MetV.of (cc := cX4_add) (maxL := 3) (by decide) rfl (Nat.le_of_ble_eq_true rfl) ?_
  intro pY eY sY mY aY bY tY cY QY AY ls h0 hP hK hN hD hA hS hl hin hret
  obtain ⟨hx, hb, hml, hown, hts⟩ := id h0
  have hl : lv_has ls 3 [(0, .ref (B 0)), (1, .int (nI a)), (2, .int (nI b))] := hl
  have hP : va_P D vwCl (gRu cA B L R LL RL TM (nI (S 1))) sY.heap := hP
  have hD : va_D AY (gRu cA B L R LL RL TM (nI (S 1))) := hD
  refine lv_aload_n hx hb dX4_add_0 rfl (lv_at hl 0 rfl) ?_
  refine ci_V (As := []) (rest := []) h0 hK hN hP hD hS hA hl.1 (k_X4_isFull lY D cA B S L R LL RL TM (by first | assumption | omega)) [0, 1, 2, 3, 4, 5] rfl (by decide) (cwV 0 hts gX4_add_X4_isFull rfl rfl rfl (by decide +kernel) ⟨Nat.le_of_ble_eq_true rfl, Nat.le_of_ble_eq_true rfl⟩) (cl_recv (ci := 4) (q := (RX4, TX4, 6)) (q0 := 0) hP hK rfl rfl) rfl rfl (Nat.le_of_ble_eq_true rfl) dX4_add_1 ⟨Nat.zero_le _, Nat.zero_le _⟩ (fun rY wY H locs hwY hJ hS => ?_)
  obtain ⟨e1Y, e2Y⟩ := hwY
  have e3Y := e1Y.symm
  clear e1Y
  subst e3Y
  have e3Y := e2Y.symm
  clear e2Y
  subst e3Y
  obtain ⟨hP, hD⟩ := hJ rfl
  have hP : va_P D vwCl (gRu cA B L R LL RL TM (nI (S 1))) H := hP
  have hD : va_D AY (gRu cA B L R LL RL TM (nI (S 1))) := hD
  refine xb_eq (tgt := 8) hx hb dX4_add_4 (by decide) (fun c4 => ?_) (fun c4 => ?_)
  · refine lv_aload_n hx hb dX4_add_8 rfl (lv_at hl 0 rfl) ?_
    refine va_get (D := D) (ci := 4) (v := .ref (B 1)) (C := RX4) (T := TX4) (N := 6) hx hb hts hi_X4_add_X4 hown hK hP 0 rfl rfl 0 (by decide) (hts (.fieldLink RX4 9 "FallingWords$Rules" "left" "[I") (by decide +kernel)) (fun _ h9 => h9) rfl dX4_add_9 ?_
    refine lv_aload_n hx hb dX4_add_12 rfl (lv_at hl 0 rfl) ?_
    refine va_get (D := D) (ci := 4) (v := .int (nI (S 1))) (C := RX4) (T := TX4) (N := 6) hx hb hts hi_X4_add_X4 hown hK hP 0 rfl rfl 5 (by decide) (hts (.fieldLink RX4 33 "FallingWords$Rules" "size" "I") (by decide +kernel)) (fun _ h9 => h9) rfl dX4_add_13 ?_
    refine lv_iload_n hx hb dX4_add_16 rfl (lv_at hl 1 rfl) ?_
    refine xa_st hx hb hK hP hD hS 1 rfl (by omega) (by decide) dX4_add_17 (fun H locs hP hD hS => ?_)
    have hP : va_P D vwCl (gRu cA B (upd L (S 1) (nI a)) R LL RL TM (nI (S 1))) H := hP
    have hD : va_D AY (gRu cA B (upd L (S 1) (nI a)) R LL RL TM (nI (S 1))) := hD
    refine lv_aload_n hx hb dX4_add_18 rfl (lv_at hl 0 rfl) ?_
    refine va_get (D := D) (ci := 4) (v := .ref (B 2)) (C := RX4) (T := TX4) (N := 6) hx hb hts hi_X4_add_X4 hown hK hP 0 rfl rfl 1 (by decide) (hts (.fieldLink RX4 15 "FallingWords$Rules" "right" "[I") (by decide +kernel)) (fun _ h9 => h9) rfl dX4_add_19 ?_
    refine lv_aload_n hx hb dX4_add_22 rfl (lv_at hl 0 rfl) ?_
    refine va_get (D := D) (ci := 4) (v := .int (nI (S 1))) (C := RX4) (T := TX4) (N := 6) hx hb hts hi_X4_add_X4 hown hK hP 0 rfl rfl 5 (by decide) (hts (.fieldLink RX4 33 "FallingWords$Rules" "size" "I") (by decide +kernel)) (fun _ h9 => h9) rfl dX4_add_23 ?_
    refine lv_iload_n hx hb dX4_add_26 rfl (lv_at hl 2 rfl) ?_
    refine xa_st hx hb hK hP hD hS 2 rfl (by omega) (by decide) dX4_add_27 (fun H locs hP hD hS => ?_)
    have hP : va_P D vwCl (gRu cA B (upd L (S 1) (nI a)) (upd R (S 1) (nI b)) LL RL TM (nI (S 1))) H := hP
    have hD : va_D AY (gRu cA B (upd L (S 1) (nI a)) (upd R (S 1) (nI b)) LL RL TM (nI (S 1))) := hD
    refine lv_aload_n hx hb dX4_add_28 rfl (lv_at hl 0 rfl) ?_
    refine va_get (D := D) (ci := 4) (v := .ref (B 3)) (C := RX4) (T := TX4) (N := 6) hx hb hts hi_X4_add_X4 hown hK hP 0 rfl rfl 2 (by decide) (hts (.fieldLink RX4 18 "FallingWords$Rules" "leftLength" "[I") (by decide +kernel)) (fun _ h9 => h9) rfl dX4_add_29 ?_
    refine lv_aload_n hx hb dX4_add_32 rfl (lv_at hl 0 rfl) ?_
    refine va_get (D := D) (ci := 4) (v := .int (nI (S 1))) (C := RX4) (T := TX4) (N := 6) hx hb hts hi_X4_add_X4 hown hK hP 0 rfl rfl 5 (by decide) (hts (.fieldLink RX4 33 "FallingWords$Rules" "size" "I") (by decide +kernel)) (fun _ h9 => h9) rfl dX4_add_33 ?_
    refine lv_iload_n hx hb dX4_add_36 rfl (lv_at hl 1 rfl) ?_
    refine ci_SN (As := [.int (nI a)]) (rest := [.int (nI (S 1)), .ref (B 3)]) h0 hK hN hP hD hS hA hl.1 (k_X9_lengthOf lY D cA a (ha.1) (by have := ha.2; omega)) [] rfl (by decide) ⟨(va_cnB 1 hts gX4_add_X9_lengthOf_n41 rfl rfl rfl (hN (.methodLinkNest RX4 41 yX9_lengthOf "FallingWords") (by decide +kernel)) (hts (.initialized RX9) (by decide +kernel)) (by decide +kernel) ⟨Nat.le_of_ble_eq_true rfl, Nat.le_of_ble_eq_true rfl⟩), hts (.static yX9_lengthOf) (by decide +kernel), trivial⟩ rfl rfl (Nat.le_of_ble_eq_true rfl) dX4_add_37 ⟨Nat.zero_le _, Nat.zero_le _⟩ (fun rY wY H locs hwY hJ hS => ?_)
    obtain ⟨e1Y, e2Y⟩ := hwY
    have e3Y := e1Y.symm
    clear e1Y
    subst e3Y
    have e3Y := e2Y.symm
    clear e2Y
    subst e3Y
    obtain ⟨hP, hD⟩ := hJ rfl
    have hP : va_P D vwCl (gRu cA B (upd L (S 1) (nI a)) (upd R (S 1) (nI b)) LL RL TM (nI (S 1))) H := hP
    have hD : va_D AY (gRu cA B (upd L (S 1) (nI a)) (upd R (S 1) (nI b)) LL RL TM (nI (S 1))) := hD
    refine xa_st hx hb hK hP hD hS 3 rfl (by omega) (by decide) dX4_add_40 (fun H locs hP hD hS => ?_)
    have hP : va_P D vwCl (gRu cA B (upd L (S 1) (nI a)) (upd R (S 1) (nI b)) (upd LL (S 1) (nI (len a))) RL TM (nI (S 1))) H := hP
    have hD : va_D AY (gRu cA B (upd L (S 1) (nI a)) (upd R (S 1) (nI b)) (upd LL (S 1) (nI (len a))) RL TM (nI (S 1))) := hD
    refine lv_aload_n hx hb dX4_add_41 rfl (lv_at hl 0 rfl) ?_
    refine va_get (D := D) (ci := 4) (v := .ref (B 4)) (C := RX4) (T := TX4) (N := 6) hx hb hts hi_X4_add_X4 hown hK hP 0 rfl rfl 3 (by decide) (hts (.fieldLink RX4 21 "FallingWords$Rules" "rightLength" "[I") (by decide +kernel)) (fun _ h9 => h9) rfl dX4_add_42 ?_
    refine lv_aload_n hx hb dX4_add_45 rfl (lv_at hl 0 rfl) ?_
    refine va_get (D := D) (ci := 4) (v := .int (nI (S 1))) (C := RX4) (T := TX4) (N := 6) hx hb hts hi_X4_add_X4 hown hK hP 0 rfl rfl 5 (by decide) (hts (.fieldLink RX4 33 "FallingWords$Rules" "size" "I") (by decide +kernel)) (fun _ h9 => h9) rfl dX4_add_46 ?_
    refine lv_iload_n hx hb dX4_add_49 rfl (lv_at hl 2 rfl) ?_
    refine ci_SN (As := [.int (nI b)]) (rest := [.int (nI (S 1)), .ref (B 4)]) h0 hK hN hP hD hS hA hl.1 (k_X9_lengthOf lY D cA b (hb2.1) (by have := hb2.2; omega)) [] rfl (by decide) ⟨(va_cnB 1 hts gX4_add_X9_lengthOf_n41 rfl rfl rfl (hN (.methodLinkNest RX4 41 yX9_lengthOf "FallingWords") (by decide +kernel)) (hts (.initialized RX9) (by decide +kernel)) (by decide +kernel) ⟨Nat.le_of_ble_eq_true rfl, Nat.le_of_ble_eq_true rfl⟩), hts (.static yX9_lengthOf) (by decide +kernel), trivial⟩ rfl rfl (Nat.le_of_ble_eq_true rfl) dX4_add_50 ⟨Nat.zero_le _, Nat.zero_le _⟩ (fun rY wY H locs hwY hJ hS => ?_)
    obtain ⟨e1Y, e2Y⟩ := hwY
    have e3Y := e1Y.symm
    clear e1Y
    subst e3Y
    have e3Y := e2Y.symm
    clear e2Y
    subst e3Y
    obtain ⟨hP, hD⟩ := hJ rfl
    have hP : va_P D vwCl (gRu cA B (upd L (S 1) (nI a)) (upd R (S 1) (nI b)) (upd LL (S 1) (nI (len a))) RL TM (nI (S 1))) H := hP
    have hD : va_D AY (gRu cA B (upd L (S 1) (nI a)) (upd R (S 1) (nI b)) (upd LL (S 1) (nI (len a))) RL TM (nI (S 1))) := hD
    refine xa_st hx hb hK hP hD hS 4 rfl (by omega) (by decide) dX4_add_53 (fun H locs hP hD hS => ?_)
    have hP : va_P D vwCl (gRu cA B (upd L (S 1) (nI a)) (upd R (S 1) (nI b)) (upd LL (S 1) (nI (len a))) (upd RL (S 1) (nI (len b))) TM (nI (S 1))) H := hP
    have hD : va_D AY (gRu cA B (upd L (S 1) (nI a)) (upd R (S 1) (nI b)) (upd LL (S 1) (nI (len a))) (upd RL (S 1) (nI (len b))) TM (nI (S 1))) := hD
    refine lv_aload_n hx hb dX4_add_54 rfl (lv_at hl 0 rfl) ?_
    refine va_get (D := D) (ci := 4) (v := .ref (B 5)) (C := RX4) (T := TX4) (N := 6) hx hb hts hi_X4_add_X4 hown hK hP 0 rfl rfl 4 (by decide) (hts (.fieldLink RX4 24 "FallingWords$Rules" "times" "[I") (by decide +kernel)) (fun _ h9 => h9) rfl dX4_add_55 ?_
    refine lv_aload_n hx hb dX4_add_58 rfl (lv_at hl 0 rfl) ?_
    refine va_get (D := D) (ci := 4) (v := .int (nI (S 1))) (C := RX4) (T := TX4) (N := 6) hx hb hts hi_X4_add_X4 hown hK hP 0 rfl rfl 5 (by decide) (hts (.fieldLink RX4 33 "FallingWords$Rules" "size" "I") (by decide +kernel)) (fun _ h9 => h9) rfl dX4_add_59 ?_
    refine lv_iconst (v := nI 0) hx hb dX4_add_62 (by decide +kernel) ?_
    refine xa_st hx hb hK hP hD hS 5 rfl (by omega) (by decide) dX4_add_63 (fun H locs hP hD hS => ?_)
    have hP : va_P D vwCl (gRu cA B (upd L (S 1) (nI a)) (upd R (S 1) (nI b)) (upd LL (S 1) (nI (len a))) (upd RL (S 1) (nI (len b))) (upd TM (S 1) (nI 0)) (nI (S 1))) H := hP
    have hD : va_D AY (gRu cA B (upd L (S 1) (nI a)) (upd R (S 1) (nI b)) (upd LL (S 1) (nI (len a))) (upd RL (S 1) (nI (len b))) (upd TM (S 1) (nI 0)) (nI (S 1))) := hD
    refine lv_aload_n hx hb dX4_add_64 rfl (lv_at hl 0 rfl) ?_
    refine lv_dup hx hb dX4_add_65 rfl ?_
    refine va_get (D := D) (ci := 4) (v := .int (nI (S 1))) (C := RX4) (T := TX4) (N := 6) hx hb hts hi_X4_add_X4 hown hK hP 0 rfl rfl 5 (by decide) (hts (.fieldLink RX4 33 "FallingWords$Rules" "size" "I") (by decide +kernel)) (fun _ h9 => h9) rfl dX4_add_66 ?_
    refine lv_iconst (v := nI 1) hx hb dX4_add_69 (by decide +kernel) ?_
    refine lv_iadd hx hb dX4_add_70 ?_
    refine xt (show (nI (S 1)) + (nI 1) = nI (S 1 + 1) from nI_add _ _) ?_
    refine va_put (D := D) (ci := 4) (v := .int (nI (S 1 + 1))) (ty := .int) (C := RX4) (T := TX4) (N := 6) hx hb hts hi_X4_add_X4 tyX4 tyX4_ok nmX4 hown hK hP hD hS 0 rfl rfl 5 (by decide) (hts (.fieldLink RX4 33 "FallingWords$Rules" "size" "I") (by decide +kernel)) (fun _ h9 => h9) rfl (by decide +kernel) rfl rfl (Nat.le_of_ble_eq_true rfl) dX4_add_71 (fun H locs hP hD hS => ?_)
    have hP : va_P D vwCl (gRu cA B (upd L (S 1) (nI a)) (upd R (S 1) (nI b)) (upd LL (S 1) (nI (len a))) (upd RL (S 1) (nI (len b))) (upd TM (S 1) (nI 0)) (nI (S 1 + 1))) H := hP
    have hD : va_D AY (gRu cA B (upd L (S 1) (nI a)) (upd R (S 1) (nI b)) (upd LL (S 1) (nI (len a))) (upd RL (S 1) (nI (len b))) (upd TM (S 1) (nI 0)) (nI (S 1 + 1))) := hD
    exact hret _ _ _ _ _ dX4_add_74 ⟨(upd L (S 1) (nI a)), (upd R (S 1) (nI b)), (upd LL (S 1) (nI (len a))), (upd RL (S 1) (nI (len b))), (upd TM (S 1) (nI 0)), rfl, rRu_add hr a b⟩ hP hD hS
  · exact absurd c4 (by rw [decide_eq_false (by omega)]; decide)

theorem hi_X4_remove_X4 : ∀ w ∈ u_ws RX4 TX4 6, w ∈ wsX4_remove := by decide +kernel
set_option maxHeartbeats 1000000 in
set_option maxRecDepth 100000 in
theorem k_X4_remove (lY : Launch) (D : va_G) (cA : Nat → ClassId) (B : Nat → Nat) (S : St) (L R LL RL TM : Nat → Int32) (g : Nat) (h10 : S 1 ≤ 10) (hr : rRu S L R LL RL TM) (hg : g < S 1) : MetV lY D cA yX4_remove wsX4_remove 1 21 0 0 [.ref (B 0), .int (nI g)] (gRu cA B L R LL RL TM (nI (S 1))) (fun wY => ∃ (L' : Nat → Int32) (R' : Nat → Int32) (LL' : Nat → Int32) (RL' : Nat → Int32) (TM' : Nat → Int32), wY = gRu cA B L' R' LL' RL' TM' (nI (S 1 - 1)) ∧ (rRu (dropS S g) L' R' LL' RL' TM')) := by
  refine MetV.of (cc := cX4_remove) (maxL := 3) (by decide) rfl (Nat.le_of_ble_eq_true rfl) ?_
  intro pY eY sY mY aY bY tY cY QY AY ls h0 hP hK hN hD hA hS hl hin hret
  obtain ⟨hx, hb, hml, hown, hts⟩ := id h0
  have hl : lv_has ls 3 [(0, .ref (B 0)), (1, .int (nI g))] := hl
  have hP : va_P D vwCl (gRu cA B L R LL RL TM (nI (S 1))) sY.heap := hP
  have hD : va_D AY (gRu cA B L R LL RL TM (nI (S 1))) := hD
  refine lv_aload_n hx hb dX4_remove_0 rfl (lv_at hl 0 rfl) ?_
  refine lv_iload_n hx hb dX4_remove_1 rfl (lv_at hl 1 rfl) ?_
  refine ci_V (As := [.int (nI g)]) (rest := []) h0 hK hN hP hD hS hA hl.1 (k_X4_contains lY D cA B S L R LL RL TM (nI g) (by first | assumption | omega)) [0, 1, 2, 3, 4, 5] rfl (by decide) (cwV 1 hts gX4_remove_X4_contains rfl rfl rfl (by decide +kernel) ⟨Nat.le_of_ble_eq_true rfl, Nat.le_of_ble_eq_true rfl⟩) (cl_recv (ci := 4) (q := (RX4, TX4, 6)) (q0 := 0) hP hK rfl rfl) rfl rfl (Nat.le_of_ble_eq_true rfl) dX4_remove_2 ⟨Nat.zero_le _, Nat.zero_le _⟩ (fun rY wY H locs hwY hJ hS => ?_)
  obtain ⟨e1Y, e2Y⟩ := hwY
  have e3Y := e1Y.symm
  clear e1Y
  subst e3Y
  have e3Y := e2Y.symm
  clear e2Y
  subst e3Y
  obtain ⟨hP, hD⟩ := hJ rfl
  have hP : va_P D vwCl (gRu cA B L R LL RL TM (nI (S 1))) H := hP
  have hD : va_D AY (gRu cA B L R LL RL TM (nI (S 1))) := hD
  refine xb_ne (tgt := 9) hx hb dX4_remove_5 (by decide) (fun c5 => ?_) (fun c5 => ?_)
  · refine lv_iload_n hx hb dX4_remove_9 rfl (lv_at hl 1 rfl) ?_
    refine lv_istore_n (lv' := [(2, .int (nI g)), (0, .ref (B 0)), (1, .int (nI g))]) hx hb dX4_remove_10 rfl hl (by decide) rfl (fun ls hl => ?_)
    have L11 : ∀ (nY : Nat), ∀ (i : Nat) (L' : Nat → Int32) (R' : Nat → Int32) (LL' : Nat → Int32) (RL' : Nat → Int32) (TM' : Nat → Int32), (g ≤ i) → (i < S 1) → (shf g i L L') → (shf g i R R') → (shf g i LL LL') → (shf g i RL RL') → (shf g i TM TM') → (S 1 - i < nY) → ∀ (H : Heap) (locs : List Loc) (ls : Array Slot), va_P D vwCl (gRu cA B L' R' LL' RL' TM' (nI (S 1))) H → va_D AY (gRu cA B L' R' LL' RL' TM' (nI (S 1))) → va_S AY sY.heap H locs → lv_has ls 3 [(0, .ref (B 0)), (1, .int (nI g)), (2, .int (nI i))] → W pY lY eY { frames := 1, cells := 0, slots := 0, locals := 21 } sY mY aY bY tY cY H locs 0 0 QY (F0 mY 11 ls []) := by
      intro nY11
      induction nY11 with
      | zero => intro i L' R' LL' RL' TM' hgi hi s0 s1 s2 s3 s4 hm11; exact absurd hm11 (Nat.not_lt_zero _)
      | succ nY11 ih11 =>
        intro i L' R' LL' RL' TM' hgi hi s0 s1 s2 s3 s4 hm11 H locs ls hP hD hS hl
        refine lv_iload_n hx hb dX4_remove_11 rfl (lv_at hl 2 rfl) ?_
        refine lv_iconst (v := nI 1) hx hb dX4_remove_12 (by decide +kernel) ?_
        refine lv_iadd hx hb dX4_remove_13 ?_
        refine xt (show (nI i) + (nI 1) = nI (i + 1) from nI_add _ _) ?_
        refine lv_aload_n hx hb dX4_remove_14 rfl (lv_at hl 0 rfl) ?_
        refine va_get (D := D) (ci := 4) (v := .int (nI (S 1))) (C := RX4) (T := TX4) (N := 6) hx hb hts hi_X4_remove_X4 hown hK hP 0 rfl rfl 5 (by decide) (hts (.fieldLink RX4 33 "FallingWords$Rules" "size" "I") (by decide +kernel)) (fun _ h9 => h9) rfl dX4_remove_15 ?_
        refine xc_ge (tgt := 97) hx hb dX4_remove_18 (by decide) (by omega) (by omega) (fun c18 => ?_) (fun c18 => ?_)
        · refine lv_aload_n hx hb dX4_remove_97 rfl (lv_at hl 0 rfl) ?_
          refine lv_dup hx hb dX4_remove_98 rfl ?_
          refine va_get (D := D) (ci := 4) (v := .int (nI (S 1))) (C := RX4) (T := TX4) (N := 6) hx hb hts hi_X4_remove_X4 hown hK hP 0 rfl rfl 5 (by decide) (hts (.fieldLink RX4 33 "FallingWords$Rules" "size" "I") (by decide +kernel)) (fun _ h9 => h9) rfl dX4_remove_99 ?_
          refine lv_iconst (v := nI 1) hx hb dX4_remove_102 (by decide +kernel) ?_
          refine lv_isub hx hb dX4_remove_103 ?_
          refine xt (show (nI (S 1)) - (nI 1) = nI ((S 1) - 1) from pk_sub (by omega)) ?_
          refine va_put (D := D) (ci := 4) (v := .int (nI ((S 1) - 1))) (ty := .int) (C := RX4) (T := TX4) (N := 6) hx hb hts hi_X4_remove_X4 tyX4 tyX4_ok nmX4 hown hK hP hD hS 0 rfl rfl 5 (by decide) (hts (.fieldLink RX4 33 "FallingWords$Rules" "size" "I") (by decide +kernel)) (fun _ h9 => h9) rfl (by decide +kernel) rfl rfl (Nat.le_of_ble_eq_true rfl) dX4_remove_104 (fun H locs hP hD hS => ?_)
          have hP : va_P D vwCl (gRu cA B L' R' LL' RL' TM' (nI ((S 1) - 1))) H := hP
          have hD : va_D AY (gRu cA B L' R' LL' RL' TM' (nI ((S 1) - 1))) := hD
          exact hret _ _ _ _ _ dX4_remove_107 ⟨L', R', LL', RL', TM', rfl, rRu_drop hr hg (by omega) s0 s1 s2 s3 s4⟩ hP hD hS
        · refine lv_aload_n hx hb dX4_remove_21 rfl (lv_at hl 0 rfl) ?_
          refine va_get (D := D) (ci := 4) (v := .ref (B 1)) (C := RX4) (T := TX4) (N := 6) hx hb hts hi_X4_remove_X4 hown hK hP 0 rfl rfl 0 (by decide) (hts (.fieldLink RX4 9 "FallingWords$Rules" "left" "[I") (by decide +kernel)) (fun _ h9 => h9) rfl dX4_remove_22 ?_
          refine lv_iload_n hx hb dX4_remove_25 rfl (lv_at hl 2 rfl) ?_
          refine lv_aload_n hx hb dX4_remove_26 rfl (lv_at hl 0 rfl) ?_
          refine va_get (D := D) (ci := 4) (v := .ref (B 1)) (C := RX4) (T := TX4) (N := 6) hx hb hts hi_X4_remove_X4 hown hK hP 0 rfl rfl 0 (by decide) (hts (.fieldLink RX4 9 "FallingWords$Rules" "left" "[I") (by decide +kernel)) (fun _ h9 => h9) rfl dX4_remove_27 ?_
          refine lv_iload_n hx hb dX4_remove_30 rfl (lv_at hl 2 rfl) ?_
          refine lv_iconst (v := nI 1) hx hb dX4_remove_31 (by decide +kernel) ?_
          refine lv_iadd hx hb dX4_remove_32 ?_
          refine xt (show (nI i) + (nI 1) = nI (i + 1) from nI_add _ _) ?_
          refine xa_ld (v := L' (i + 1)) hx hb hK hP 1 rfl (by omega) (by decide) (rfl) dX4_remove_33 ?_
          refine xa_st hx hb hK hP hD hS 1 rfl (by omega) (by decide) dX4_remove_34 (fun H locs hP hD hS => ?_)
          have hP : va_P D vwCl (gRu cA B (upd L' i (L' (i + 1))) R' LL' RL' TM' (nI (S 1))) H := hP
          have hD : va_D AY (gRu cA B (upd L' i (L' (i + 1))) R' LL' RL' TM' (nI (S 1))) := hD
          refine lv_aload_n hx hb dX4_remove_35 rfl (lv_at hl 0 rfl) ?_
          refine va_get (D := D) (ci := 4) (v := .ref (B 2)) (C := RX4) (T := TX4) (N := 6) hx hb hts hi_X4_remove_X4 hown hK hP 0 rfl rfl 1 (by decide) (hts (.fieldLink RX4 15 "FallingWords$Rules" "right" "[I") (by decide +kernel)) (fun _ h9 => h9) rfl dX4_remove_36 ?_
          refine lv_iload_n hx hb dX4_remove_39 rfl (lv_at hl 2 rfl) ?_
          refine lv_aload_n hx hb dX4_remove_40 rfl (lv_at hl 0 rfl) ?_
          refine va_get (D := D) (ci := 4) (v := .ref (B 2)) (C := RX4) (T := TX4) (N := 6) hx hb hts hi_X4_remove_X4 hown hK hP 0 rfl rfl 1 (by decide) (hts (.fieldLink RX4 15 "FallingWords$Rules" "right" "[I") (by decide +kernel)) (fun _ h9 => h9) rfl dX4_remove_41 ?_
          refine lv_iload_n hx hb dX4_remove_44 rfl (lv_at hl 2 rfl) ?_
          refine lv_iconst (v := nI 1) hx hb dX4_remove_45 (by decide +kernel) ?_
          refine lv_iadd hx hb dX4_remove_46 ?_
          refine xt (show (nI i) + (nI 1) = nI (i + 1) from nI_add _ _) ?_
          refine xa_ld (v := R' (i + 1)) hx hb hK hP 2 rfl (by omega) (by decide) (rfl) dX4_remove_47 ?_
          refine xa_st hx hb hK hP hD hS 2 rfl (by omega) (by decide) dX4_remove_48 (fun H locs hP hD hS => ?_)
          have hP : va_P D vwCl (gRu cA B (upd L' i (L' (i + 1))) (upd R' i (R' (i + 1))) LL' RL' TM' (nI (S 1))) H := hP
          have hD : va_D AY (gRu cA B (upd L' i (L' (i + 1))) (upd R' i (R' (i + 1))) LL' RL' TM' (nI (S 1))) := hD
          refine lv_aload_n hx hb dX4_remove_49 rfl (lv_at hl 0 rfl) ?_
          refine va_get (D := D) (ci := 4) (v := .ref (B 3)) (C := RX4) (T := TX4) (N := 6) hx hb hts hi_X4_remove_X4 hown hK hP 0 rfl rfl 2 (by decide) (hts (.fieldLink RX4 18 "FallingWords$Rules" "leftLength" "[I") (by decide +kernel)) (fun _ h9 => h9) rfl dX4_remove_50 ?_
          refine lv_iload_n hx hb dX4_remove_53 rfl (lv_at hl 2 rfl) ?_
          refine lv_aload_n hx hb dX4_remove_54 rfl (lv_at hl 0 rfl) ?_
          refine va_get (D := D) (ci := 4) (v := .ref (B 3)) (C := RX4) (T := TX4) (N := 6) hx hb hts hi_X4_remove_X4 hown hK hP 0 rfl rfl 2 (by decide) (hts (.fieldLink RX4 18 "FallingWords$Rules" "leftLength" "[I") (by decide +kernel)) (fun _ h9 => h9) rfl dX4_remove_55 ?_
          refine lv_iload_n hx hb dX4_remove_58 rfl (lv_at hl 2 rfl) ?_
          refine lv_iconst (v := nI 1) hx hb dX4_remove_59 (by decide +kernel) ?_
          refine lv_iadd hx hb dX4_remove_60 ?_
          refine xt (show (nI i) + (nI 1) = nI (i + 1) from nI_add _ _) ?_
          refine xa_ld (v := LL' (i + 1)) hx hb hK hP 3 rfl (by omega) (by decide) (rfl) dX4_remove_61 ?_
          refine xa_st hx hb hK hP hD hS 3 rfl (by omega) (by decide) dX4_remove_62 (fun H locs hP hD hS => ?_)
          have hP : va_P D vwCl (gRu cA B (upd L' i (L' (i + 1))) (upd R' i (R' (i + 1))) (upd LL' i (LL' (i + 1))) RL' TM' (nI (S 1))) H := hP
          have hD : va_D AY (gRu cA B (upd L' i (L' (i + 1))) (upd R' i (R' (i + 1))) (upd LL' i (LL' (i + 1))) RL' TM' (nI (S 1))) := hD
          refine lv_aload_n hx hb dX4_remove_63 rfl (lv_at hl 0 rfl) ?_
          refine va_get (D := D) (ci := 4) (v := .ref (B 4)) (C := RX4) (T := TX4) (N := 6) hx hb hts hi_X4_remove_X4 hown hK hP 0 rfl rfl 3 (by decide) (hts (.fieldLink RX4 21 "FallingWords$Rules" "rightLength" "[I") (by decide +kernel)) (fun _ h9 => h9) rfl dX4_remove_64 ?_
          refine lv_iload_n hx hb dX4_remove_67 rfl (lv_at hl 2 rfl) ?_
          refine lv_aload_n hx hb dX4_remove_68 rfl (lv_at hl 0 rfl) ?_
          refine va_get (D := D) (ci := 4) (v := .ref (B 4)) (C := RX4) (T := TX4) (N := 6) hx hb hts hi_X4_remove_X4 hown hK hP 0 rfl rfl 3 (by decide) (hts (.fieldLink RX4 21 "FallingWords$Rules" "rightLength" "[I") (by decide +kernel)) (fun _ h9 => h9) rfl dX4_remove_69 ?_
          refine lv_iload_n hx hb dX4_remove_72 rfl (lv_at hl 2 rfl) ?_
          refine lv_iconst (v := nI 1) hx hb dX4_remove_73 (by decide +kernel) ?_
          refine lv_iadd hx hb dX4_remove_74 ?_
          refine xt (show (nI i) + (nI 1) = nI (i + 1) from nI_add _ _) ?_
          refine xa_ld (v := RL' (i + 1)) hx hb hK hP 4 rfl (by omega) (by decide) (rfl) dX4_remove_75 ?_
          refine xa_st hx hb hK hP hD hS 4 rfl (by omega) (by decide) dX4_remove_76 (fun H locs hP hD hS => ?_)
          have hP : va_P D vwCl (gRu cA B (upd L' i (L' (i + 1))) (upd R' i (R' (i + 1))) (upd LL' i (LL' (i + 1))) (upd RL' i (RL' (i + 1))) TM' (nI (S 1))) H := hP
          have hD : va_D AY (gRu cA B (upd L' i (L' (i + 1))) (upd R' i (R' (i + 1))) (upd LL' i (LL' (i + 1))) (upd RL' i (RL' (i + 1))) TM' (nI (S 1))) := hD
          refine lv_aload_n hx hb dX4_remove_77 rfl (lv_at hl 0 rfl) ?_
          refine va_get (D := D) (ci := 4) (v := .ref (B 5)) (C := RX4) (T := TX4) (N := 6) hx hb hts hi_X4_remove_X4 hown hK hP 0 rfl rfl 4 (by decide) (hts (.fieldLink RX4 24 "FallingWords$Rules" "times" "[I") (by decide +kernel)) (fun _ h9 => h9) rfl dX4_remove_78 ?_
          refine lv_iload_n hx hb dX4_remove_81 rfl (lv_at hl 2 rfl) ?_
          refine lv_aload_n hx hb dX4_remove_82 rfl (lv_at hl 0 rfl) ?_
          refine va_get (D := D) (ci := 4) (v := .ref (B 5)) (C := RX4) (T := TX4) (N := 6) hx hb hts hi_X4_remove_X4 hown hK hP 0 rfl rfl 4 (by decide) (hts (.fieldLink RX4 24 "FallingWords$Rules" "times" "[I") (by decide +kernel)) (fun _ h9 => h9) rfl dX4_remove_83 ?_
          refine lv_iload_n hx hb dX4_remove_86 rfl (lv_at hl 2 rfl) ?_
          refine lv_iconst (v := nI 1) hx hb dX4_remove_87 (by decide +kernel) ?_
          refine lv_iadd hx hb dX4_remove_88 ?_
          refine xt (show (nI i) + (nI 1) = nI (i + 1) from nI_add _ _) ?_
          refine xa_ld (v := TM' (i + 1)) hx hb hK hP 5 rfl (by omega) (by decide) (rfl) dX4_remove_89 ?_
          refine xa_st hx hb hK hP hD hS 5 rfl (by omega) (by decide) dX4_remove_90 (fun H locs hP hD hS => ?_)
          have hP : va_P D vwCl (gRu cA B (upd L' i (L' (i + 1))) (upd R' i (R' (i + 1))) (upd LL' i (LL' (i + 1))) (upd RL' i (RL' (i + 1))) (upd TM' i (TM' (i + 1))) (nI (S 1))) H := hP
          have hD : va_D AY (gRu cA B (upd L' i (L' (i + 1))) (upd R' i (R' (i + 1))) (upd LL' i (LL' (i + 1))) (upd RL' i (RL' (i + 1))) (upd TM' i (TM' (i + 1))) (nI (S 1))) := hD
          refine lv_iinc (v := nI (i + 1)) (lv' := [(2, .int (nI (i + 1))), (0, .ref (B 0)), (1, .int (nI g))]) hx hb dX4_remove_91 hl (k := 2) rfl (show nI i + Int32.ofInt 1 = nI (i + 1) from nI_add i 1) (by decide) rfl (fun ls hl => ?_)
          refine lv_goto (tgt := 11) hx hb dX4_remove_94 (by decide) ?_
          exact ih11 (i + 1) (upd L' i (L' (i + 1))) (upd R' i (R' (i + 1))) (upd LL' i (LL' (i + 1))) (upd RL' i (RL' (i + 1))) (upd TM' i (TM' (i + 1))) (by omega) (by omega) (shf_s s0 hgi) (shf_s s1 hgi) (shf_s s2 hgi) (shf_s s3 hgi) (shf_s s4 hgi) (by omega) _ _ _ hP hD hS (lv_sub hl [1, 2, 0] rfl)
    exact L11 _ g L R LL RL TM (by omega) (by omega) (shf_0) (shf_0) (shf_0) (shf_0) (shf_0) (Nat.lt_succ_self _) _ _ _ hP hD hS (lv_sub hl [1, 2, 0] rfl)
  · exact absurd c5 (by rw [show inR S (nI g) = true from decide_eq_true (by have e : (nI g).toInt = (g : Int) := nI_toInt (by omega); omega)]; decide)

theorem hi_X4_appliesAt_X4 : ∀ w ∈ u_ws RX4 TX4 6, w ∈ wsX4_appliesAt := by decide +kernel
set_option maxHeartbeats 1000000 in
set_option maxRecDepth 100000 in
theorem k_X4_appliesAt (lY : Launch) (D : va_G) (cA : Nat → ClassId) (B : Nat → Nat) (S : St) (L R LL RL TM : Nat → Int32) (w r p : Nat) (hI : IR S) (hr : rRu S L R LL RL TM) (hw : vw 12 w) (hr1 : r < S 1) (hp : p ≤ 12) : MetI lY D cA yX4_appliesAt wsX4_appliesAt 0 0 [.ref (B 0), .int (nI w), .int (nI (len w)), .int (nI r), .int (nI p)] (gRu cA B L R LL RL TM (nI (S 1))) (fun rY wY => rY = bI (stn (lf S r) w p) ∧ wY = gRu cA B L R LL RL TM (nI (S 1))) := by
  refine MetI.of (cc := cX4_appliesAt) (maxL := 8) (ret := (some .boolean)) (by decide) rfl (Nat.le_of_ble_eq_true rfl) (Or.inr ⟨rfl, fun r w' h => by obtain ⟨h, -⟩ := h; rw [h]; exact bI_nar _⟩) ?_
  intro pY eY sY mY aY bY tY cY QY AY ls h0 hP hK hN hD hA hS hl hret
  obtain ⟨hx, hb, hml, hown, hts⟩ := id h0
  have hl : lv_has ls 8 [(0, .ref (B 0)), (1, .int (nI w)), (2, .int (nI (len w))), (3, .int (nI r)), (4, .int (nI p))] := hl
  have hP : va_P D vwCl (gRu cA B L R LL RL TM (nI (S 1))) sY.heap := hP
  have hD : va_D AY (gRu cA B L R LL RL TM (nI (S 1))) := hD
  have hB : w < 134217728 := vw_B hw (by decide)
  have h12 := hw.2
  have h10 := hI.1
  obtain ⟨v1, v2, v3, v4⟩ := hI.2.2 r hr1
  have v1l := v1.2
  obtain ⟨f1, f2, f3, f4, f5⟩ := hr r hr1
  refine lv_iload_n hx hb dX4_appliesAt_0 rfl (lv_at hl 2 rfl) ?_
  refine lv_iload hx hb dX4_appliesAt_1 (lv_at hl 4 rfl) ?_
  refine lv_isub hx hb dX4_appliesAt_3 ?_
  refine xt (show (nI (len w)) - (nI p) = nI (len w) - nI p from rfl) ?_
  refine lv_aload_n hx hb dX4_appliesAt_4 rfl (lv_at hl 0 rfl) ?_
  refine va_get (D := D) (ci := 4) (v := .ref (B 3)) (C := RX4) (T := TX4) (N := 6) hx hb hts hi_X4_appliesAt_X4 hown hK hP 0 rfl rfl 2 (by decide) (hts (.fieldLink RX4 18 "FallingWords$Rules" "leftLength" "[I") (by decide +kernel)) (fun _ h9 => h9) rfl dX4_appliesAt_5 ?_
  refine lv_iload_n hx hb dX4_appliesAt_8 rfl (lv_at hl 3 rfl) ?_
  refine xa_ld (v := nI (len (lf S r))) hx hb hK hP 3 rfl (by omega) (by decide) (f3) dX4_appliesAt_9 ?_
  refine lv_isub hx hb dX4_appliesAt_10 ?_
  refine xt (show (nI (len w) - nI p) - (nI (len (lf S r))) = nI (len w) - nI (p + (len (lf S r))) from sub_sub_nI _ _ _) ?_
  refine lv_istore (lv' := [(5, .int (nI (len w) - nI (p + (len (lf S r))))), (0, .ref (B 0)), (1, .int (nI w)), (2, .int (nI (len w))), (3, .int (nI r)), (4, .int (nI p))]) hx hb dX4_appliesAt_11 hl (by decide) rfl (fun ls hl => ?_)
  refine lv_iload hx hb dX4_appliesAt_13 (lv_at hl 0 rfl) ?_
  refine xd_ge (tgt := 20) hx hb dX4_appliesAt_15 (by decide) (by omega) (by omega) (fun c15 => ?_) (fun c15 => ?_)
  · have hl : lv_has ls 8 [(5, .int (nI (len w - (p + len (lf S r))))), (0, .ref (B 0)), (1, .int (nI w)), (2, .int (nI (len w))), (3, .int (nI r)), (4, .int (nI p))] := Eq.mp (congrArg (fun zY : Int32 => lv_has ls 8 [(5, .int zY), (0, .ref (B 0)), (1, .int (nI w)), (2, .int (nI (len w))), (3, .int (nI r)), (4, .int (nI p))]) (show nI (len w) - nI (p + (len (lf S r))) = nI (len w - (p + len (lf S r))) from pk_sub c15)) hl
    refine lv_iload_n hx hb dX4_appliesAt_20 rfl (lv_at hl 2 rfl) ?_
    refine lv_iconst (v := nI 2) hx hb dX4_appliesAt_21 (by decide +kernel) ?_
    refine lv_iload hx hb dX4_appliesAt_22 (lv_at hl 0 rfl) ?_
    refine lv_imul hx hb dX4_appliesAt_24 ?_
    refine xt (show (nI 2) * (nI (len w - (p + len (lf S r)))) = nI (2 * (len w - (p + len (lf S r)))) from pk_mul _ _) ?_
    refine lv_ishr hx hb dX4_appliesAt_25 ?_
    refine xt (show (nI w) >>> ((nI (2 * (len w - (p + len (lf S r))))) &&& 31) = nI (w / 4 ^ (len w - (p + len (lf S r)))) from sh_r (by omega) (by omega)) ?_
    refine lv_aload_n hx hb dX4_appliesAt_26 rfl (lv_at hl 1 rfl) ?_
    refine va_get (D := D) (ci := 4) (v := .ref (B 1)) (C := RX4) (T := TX4) (N := 6) hx hb hts hi_X4_appliesAt_X4 hown hK hP 0 rfl rfl 0 (by decide) (hts (.fieldLink RX4 9 "FallingWords$Rules" "left" "[I") (by decide +kernel)) (fun _ h9 => h9) rfl dX4_appliesAt_27 ?_
    refine lv_iload_n hx hb dX4_appliesAt_30 rfl (lv_at hl 4 rfl) ?_
    refine xa_ld (v := nI (lf S r)) hx hb hK hP 1 rfl (by omega) (by decide) (f1) dX4_appliesAt_31 ?_
    refine lv_ixor hx hb dX4_appliesAt_32 ?_
    refine xt (show (nI (w / 4 ^ (len w - (p + len (lf S r))))) ^^^ (nI (lf S r)) = nI (w / 4 ^ (len w - (p + len (lf S r))) ^^^ lf S r) from sh_x) ?_
    refine lv_istore (lv' := [(6, .int (nI (w / 4 ^ (len w - (p + len (lf S r))) ^^^ lf S r))), (5, .int (nI (len w - (p + len (lf S r))))), (0, .ref (B 0)), (1, .int (nI w)), (2, .int (nI (len w))), (3, .int (nI r)), (4, .int (nI p))]) hx hb dX4_appliesAt_33 hl (by decide) rfl (fun ls hl => ?_)
    refine lv_iconst (v := nI 1) hx hb dX4_appliesAt_35 (by decide +kernel) ?_
    refine lv_iconst (v := nI 2) hx hb dX4_appliesAt_36 (by decide +kernel) ?_
    refine lv_aload_n hx hb dX4_appliesAt_37 rfl (lv_at hl 2 rfl) ?_
    refine va_get (D := D) (ci := 4) (v := .ref (B 3)) (C := RX4) (T := TX4) (N := 6) hx hb hts hi_X4_appliesAt_X4 hown hK hP 0 rfl rfl 2 (by decide) (hts (.fieldLink RX4 18 "FallingWords$Rules" "leftLength" "[I") (by decide +kernel)) (fun _ h9 => h9) rfl dX4_appliesAt_38 ?_
    refine lv_iload_n hx hb dX4_appliesAt_41 rfl (lv_at hl 5 rfl) ?_
    refine xa_ld (v := nI (len (lf S r))) hx hb hK hP 3 rfl (by omega) (by decide) (f3) dX4_appliesAt_42 ?_
    refine lv_imul hx hb dX4_appliesAt_43 ?_
    refine xt (show (nI 2) * (nI (len (lf S r))) = nI (2 * (len (lf S r))) from pk_mul _ _) ?_
    refine lv_ishl hx hb dX4_appliesAt_44 ?_
    refine xt (show (nI 1) <<< ((nI (2 * (len (lf S r)))) &&& 31) = nI (4 ^ len (lf S r)) from sh_1 (by omega)) ?_
    refine lv_iconst (v := nI 1) hx hb dX4_appliesAt_45 (by decide +kernel) ?_
    refine lv_isub hx hb dX4_appliesAt_46 ?_
    refine xt (show (nI (4 ^ len (lf S r))) - (nI 1) = nI (4 ^ len (lf S r) - 1) from pk_sub (four_pos _)) ?_
    refine lv_istore (lv' := [(7, .int (nI (4 ^ len (lf S r) - 1))), (6, .int (nI (w / 4 ^ (len w - (p + len (lf S r))) ^^^ lf S r))), (5, .int (nI (len w - (p + len (lf S r))))), (0, .ref (B 0)), (1, .int (nI w)), (2, .int (nI (len w))), (3, .int (nI r)), (4, .int (nI p))]) hx hb dX4_appliesAt_47 hl (by decide) rfl (fun ls hl => ?_)
    refine lv_iload hx hb dX4_appliesAt_49 (lv_at hl 1 rfl) ?_
    refine lv_iload hx hb dX4_appliesAt_51 (lv_at hl 0 rfl) ?_
    refine lv_iand hx hb dX4_appliesAt_53 ?_
    refine xt (show (nI (w / 4 ^ (len w - (p + len (lf S r))) ^^^ lf S r)) &&& (nI (4 ^ len (lf S r) - 1)) = nI ((w / 4 ^ (len w - (p + len (lf S r))) ^^^ lf S r) % 4 ^ len (lf S r)) from sh_m (by omega)) ?_
    have hbb : (w / 4 ^ (len w - (p + len (lf S r))) ^^^ lf S r) % 4 ^ len (lf S r) < 2147483648 := Nat.lt_of_lt_of_le (Nat.mod_lt _ (four_pos _)) (Nat.le_trans (four_le v1l) (by decide))
    refine x0_ne (tgt := 61) hx hb dX4_appliesAt_54 (by decide) hbb (fun c54 => ?_) (fun c54 => ?_)
    · refine lv_iconst (v := nI 0) hx hb dX4_appliesAt_61 (by decide +kernel) ?_
      exact hret _ _ _ _ _ _ dX4_appliesAt_62 ⟨by rw [stn_F2 (fun q => c54 (xor_mod.mpr q))]; rfl, rfl⟩ hP hD hS
    · refine lv_iconst (v := nI 1) hx hb dX4_appliesAt_57 (by decide +kernel) ?_
      refine lv_goto (tgt := 62) hx hb dX4_appliesAt_58 (by decide) ?_
      exact hret _ _ _ _ _ _ dX4_appliesAt_62 ⟨by rw [stn_T c15 (xor_mod.mp c54)]; rfl, rfl⟩ hP hD hS
  · refine lv_iconst (v := nI 0) hx hb dX4_appliesAt_18 (by decide +kernel) ?_
    exact hret _ _ _ _ _ _ dX4_appliesAt_19 ⟨by rw [stn_F c15]; rfl, rfl⟩ hP hD hS

set_option maxHeartbeats 1000000 in
set_option maxRecDepth 100000 in
theorem k_X4_placesIn (lY : Launch) (D : va_G) (cA : Nat → ClassId) (B : Nat → Nat) (S : St) (L R LL RL TM : Nat → Int32) (w r : Nat) (hI : IR S) (hr : rRu S L R LL RL TM) (hw : vw 12 w) (hr1 : r < S 1) : MetI lY D cA yX4_placesIn wsX4_placesIn 1 27 [.ref (B 0), .int (nI w), .int (nI r)] (gRu cA B L R LL RL TM (nI (S 1))) (fun rY wY => rY = nI (cn (fun p => stn (lf S r) w p) (len w)) ∧ wY = gRu cA B L R LL RL TM (nI (S 1))) := by
  refine MetI.of (cc := cX4_placesIn) (maxL := 6) (ret := (some .int)) (by decide) rfl (Nat.le_of_ble_eq_true rfl) (Or.inl rfl) ?_
  intro pY eY sY mY aY bY tY cY QY AY ls h0 hP hK hN hD hA hS hl hret
  obtain ⟨hx, hb, hml, hown, hts⟩ := id h0
  have hl : lv_has ls 6 [(0, .ref (B 0)), (1, .int (nI w)), (2, .int (nI r))] := hl
  have hP : va_P D vwCl (gRu cA B L R LL RL TM (nI (S 1))) sY.heap := hP
  have hD : va_D AY (gRu cA B L R LL RL TM (nI (S 1))) := hD
  have h12 := hw.2
  refine lv_iload_n hx hb dX4_placesIn_0 rfl (lv_at hl 1 rfl) ?_
  refine ci_SN (As := [.int (nI w)]) (rest := []) h0 hK hN hP hD hS hA hl.1 (k_X9_lengthOf lY D cA w (hw.1) (by omega)) [] rfl (by decide) ⟨(va_cnB 1 hts gX4_placesIn_X9_lengthOf_n41 rfl rfl rfl (hN (.methodLinkNest RX4 41 yX9_lengthOf "FallingWords") (by decide +kernel)) (hts (.initialized RX9) (by decide +kernel)) (by decide +kernel) ⟨Nat.le_of_ble_eq_true rfl, Nat.le_of_ble_eq_true rfl⟩), hts (.static yX9_lengthOf) (by decide +kernel), trivial⟩ rfl rfl (Nat.le_of_ble_eq_true rfl) dX4_placesIn_1 ⟨Nat.zero_le _, Nat.zero_le _⟩ (fun rY wY H locs hwY hJ hS => ?_)
  obtain ⟨e1Y, e2Y⟩ := hwY
  have e3Y := e1Y.symm
  clear e1Y
  subst e3Y
  have e3Y := e2Y.symm
  clear e2Y
  subst e3Y
  obtain ⟨hP, hD⟩ := hJ rfl
  have hP : va_P D vwCl (gRu cA B L R LL RL TM (nI (S 1))) H := hP
  have hD : va_D AY (gRu cA B L R LL RL TM (nI (S 1))) := hD
  refine lv_istore_n (lv' := [(3, .int (nI (len w))), (0, .ref (B 0)), (1, .int (nI w)), (2, .int (nI r))]) hx hb dX4_placesIn_4 rfl hl (by decide) rfl (fun ls hl => ?_)
  refine lv_iconst (v := nI 0) hx hb dX4_placesIn_5 (by decide +kernel) ?_
  refine lv_istore (lv' := [(4, .int (nI 0)), (3, .int (nI (len w))), (0, .ref (B 0)), (1, .int (nI w)), (2, .int (nI r))]) hx hb dX4_placesIn_6 hl (by decide) rfl (fun ls hl => ?_)
  refine lv_iconst (v := nI 0) hx hb dX4_placesIn_8 (by decide +kernel) ?_
  refine lv_istore (lv' := [(5, .int (nI 0)), (4, .int (nI 0)), (3, .int (nI (len w))), (0, .ref (B 0)), (1, .int (nI w)), (2, .int (nI r))]) hx hb dX4_placesIn_9 hl (by decide) rfl (fun ls hl => ?_)
  have L11 : ∀ (nY : Nat), ∀ (i : Nat) (c : Nat), (i ≤ len w) → (c = cn (fun p => stn (lf S r) w p) i) → (len w - i < nY) → ∀ (H : Heap) (locs : List Loc) (ls : Array Slot), va_P D vwCl (gRu cA B L R LL RL TM (nI (S 1))) H → va_D AY (gRu cA B L R LL RL TM (nI (S 1))) → va_S AY sY.heap H locs → lv_has ls 6 [(0, .ref (B 0)), (1, .int (nI w)), (2, .int (nI r)), (3, .int (nI (len w))), (4, .int (nI c)), (5, .int (nI i))] → W pY lY eY { frames := 1, cells := 0, slots := 0, locals := 27 } sY mY aY bY tY cY H locs 0 0 QY (F0 mY 11 ls []) := by
    intro nY11
    induction nY11 with
    | zero => intro i c hi hc hm11; exact absurd hm11 (Nat.not_lt_zero _)
    | succ nY11 ih11 =>
      intro i c hi hc hm11 H locs ls hP hD hS hl
      refine lv_iload hx hb dX4_placesIn_11 (lv_at hl 5 rfl) ?_
      refine lv_iload_n hx hb dX4_placesIn_13 rfl (lv_at hl 3 rfl) ?_
      refine xc_ge (tgt := 38) hx hb dX4_placesIn_14 (by decide) (by omega) (by omega) (fun c14 => ?_) (fun c14 => ?_)
      · refine lv_iload hx hb dX4_placesIn_38 (lv_at hl 4 rfl) ?_
        exact hret _ _ _ _ _ _ dX4_placesIn_40 ⟨congrArg nI (by rw [hc, show i = len w by omega]), rfl⟩ hP hD hS
      · refine lv_aload_n hx hb dX4_placesIn_17 rfl (lv_at hl 0 rfl) ?_
        refine lv_iload_n hx hb dX4_placesIn_18 rfl (lv_at hl 1 rfl) ?_
        refine lv_iload_n hx hb dX4_placesIn_19 rfl (lv_at hl 3 rfl) ?_
        refine lv_iload_n hx hb dX4_placesIn_20 rfl (lv_at hl 2 rfl) ?_
        refine lv_iload hx hb dX4_placesIn_21 (lv_at hl 5 rfl) ?_
        refine ci_V (As := [.int (nI w), .int (nI (len w)), .int (nI r), .int (nI i)]) (rest := []) h0 hK hN hP hD hS hA hl.1 (k_X4_appliesAt lY D cA B S L R LL RL TM w r i (by first | assumption | omega) (by first | assumption | omega) (by first | assumption | omega) (by first | assumption | omega) (by first | assumption | omega)) [0, 1, 2, 3, 4, 5] rfl (by decide) (cwV 4 hts gX4_placesIn_X4_appliesAt rfl rfl rfl (by decide +kernel) ⟨Nat.le_of_ble_eq_true rfl, Nat.le_of_ble_eq_true rfl⟩) (cl_recv (ci := 4) (q := (RX4, TX4, 6)) (q0 := 0) hP hK rfl rfl) rfl rfl (Nat.le_of_ble_eq_true rfl) dX4_placesIn_23 ⟨Nat.zero_le _, Nat.zero_le _⟩ (fun rY wY H locs hwY hJ hS => ?_)
        obtain ⟨e1Y, e2Y⟩ := hwY
        have e3Y := e1Y.symm
        clear e1Y
        subst e3Y
        have e3Y := e2Y.symm
        clear e2Y
        subst e3Y
        obtain ⟨hP, hD⟩ := hJ rfl
        have hP : va_P D vwCl (gRu cA B L R LL RL TM (nI (S 1))) H := hP
        have hD : va_D AY (gRu cA B L R LL RL TM (nI (S 1))) := hD
        refine xb_eq (tgt := 32) hx hb dX4_placesIn_26 (by decide) (fun c26 => ?_) (fun c26 => ?_)
        · refine lv_iinc (v := nI (i + 1)) (lv' := [(5, .int (nI (i + 1))), (0, .ref (B 0)), (1, .int (nI w)), (2, .int (nI r)), (3, .int (nI (len w))), (4, .int (nI c))]) hx hb dX4_placesIn_32 hl (k := 5) rfl (show nI i + Int32.ofInt 1 = nI (i + 1) from nI_add i 1) (by decide) rfl (fun ls hl => ?_)
          refine lv_goto (tgt := 11) hx hb dX4_placesIn_35 (by decide) ?_
          exact ih11 (i + 1) c (by omega) (hc.trans (cn_f (p := fun p => stn (lf S r) w p) c26).symm) (by omega) _ _ _ hP hD hS (lv_sub hl [1, 2, 3, 4, 5, 0] rfl)
        · refine lv_iinc (v := nI (c + 1)) (lv' := [(4, .int (nI (c + 1))), (0, .ref (B 0)), (1, .int (nI w)), (2, .int (nI r)), (3, .int (nI (len w))), (5, .int (nI i))]) hx hb dX4_placesIn_29 hl (k := 4) rfl (show nI c + Int32.ofInt 1 = nI (c + 1) from nI_add c 1) (by decide) rfl (fun ls hl => ?_)
          refine lv_iinc (v := nI (i + 1)) (lv' := [(5, .int (nI (i + 1))), (4, .int (nI (c + 1))), (0, .ref (B 0)), (1, .int (nI w)), (2, .int (nI r)), (3, .int (nI (len w)))]) hx hb dX4_placesIn_32 hl (k := 5) rfl (show nI i + Int32.ofInt 1 = nI (i + 1) from nI_add i 1) (by decide) rfl (fun ls hl => ?_)
          refine lv_goto (tgt := 11) hx hb dX4_placesIn_35 (by decide) ?_
          exact ih11 (i + 1) (c + 1) (by omega) ((congrArg (· + 1) hc).trans (cn_t (p := fun p => stn (lf S r) w p) c26).symm) (by omega) _ _ _ hP hD hS (lv_sub hl [2, 3, 4, 5, 1, 0] rfl)
  exact L11 _ 0 0 (by omega) (rfl) (Nat.lt_succ_self _) _ _ _ hP hD hS (lv_sub hl [3, 4, 5, 2, 1, 0] rfl)

set_option maxHeartbeats 1000000 in
set_option maxRecDepth 100000 in
theorem k_X4_ruleIn (lY : Launch) (D : va_G) (cA : Nat → ClassId) (c : Nat) (hc : c < 2147483648) : MetI lY D cA yX4_ruleIn wsX4_ruleIn 0 0 [.int (nI c)] ([]) (fun rY wY => rY = nI (c % 10) ∧ wY = []) := by
  refine MetI.of (cc := cX4_ruleIn) (maxL := 1) (ret := (some .int)) (by decide) rfl (Nat.le_of_ble_eq_true rfl) (Or.inl rfl) ?_
  intro pY eY sY mY aY bY tY cY QY AY ls h0 hP hK hN hD hA hS hl hret
  obtain ⟨hx, hb, hml, hown, hts⟩ := id h0
  have hl : lv_has ls 1 [(0, .int (nI c))] := hl
  have hP : va_P D vwCl ([]) sY.heap := hP
  have hD : va_D AY ([]) := hD
  refine lv_iload_n hx hb dX4_ruleIn_0 rfl (lv_at hl 0 rfl) ?_
  refine lv_bipush (v := nI 10) hx hb dX4_ruleIn_1 (by decide +kernel) ?_
  refine lv_irem hx hb dX4_ruleIn_3 (by decide +kernel) ?_
  refine xt (show (nI c) - (nI c) / (nI 10) * (nI 10) = nI (c % 10) from pk_rem (by omega) (by omega) (by omega)) ?_
  exact hret _ _ _ _ _ _ dX4_ruleIn_4 ⟨rfl, rfl⟩ hP hD hS

set_option maxHeartbeats 1000000 in
set_option maxRecDepth 100000 in
theorem k_X4_placeIn (lY : Launch) (D : va_G) (cA : Nat → ClassId) (c : Nat) (hc : c < 2147483648) : MetI lY D cA yX4_placeIn wsX4_placeIn 0 0 [.int (nI c)] ([]) (fun rY wY => rY = nI (c / 10) ∧ wY = []) := by
  refine MetI.of (cc := cX4_placeIn) (maxL := 1) (ret := (some .int)) (by decide) rfl (Nat.le_of_ble_eq_true rfl) (Or.inl rfl) ?_
  intro pY eY sY mY aY bY tY cY QY AY ls h0 hP hK hN hD hA hS hl hret
  obtain ⟨hx, hb, hml, hown, hts⟩ := id h0
  have hl : lv_has ls 1 [(0, .int (nI c))] := hl
  have hP : va_P D vwCl ([]) sY.heap := hP
  have hD : va_D AY ([]) := hD
  refine lv_iload_n hx hb dX4_placeIn_0 rfl (lv_at hl 0 rfl) ?_
  refine lv_bipush (v := nI 10) hx hb dX4_placeIn_1 (by decide +kernel) ?_
  refine lv_idiv hx hb dX4_placeIn_3 (by decide +kernel) ?_
  refine xt (show (nI c) / (nI 10) = nI (c / 10) from pk_div (by omega) (by omega) (by omega)) ?_
  exact hret _ _ _ _ _ _ dX4_placeIn_4 ⟨rfl, rfl⟩ hP hD hS

theorem hi_X4_applied_X4 : ∀ w ∈ u_ws RX4 TX4 6, w ∈ wsX4_applied := by decide +kernel
set_option maxHeartbeats 1000000 in
set_option maxRecDepth 100000 in
theorem k_X4_applied (lY : Launch) (D : va_G) (cA : Nat → ClassId) (B : Nat → Nat) (S : St) (L R LL RL TM : Nat → Int32) (w r p : Nat) (hI : IR S) (hr : rRu S L R LL RL TM) (hw : vw 12 w) (hr1 : r < S 1) (hp : p + len (lf S r) ≤ len w) : MetI lY D cA yX4_applied wsX4_applied 1 22 [.ref (B 0), .int (nI w), .int (nI r), .int (nI p)] (gRu cA B L R LL RL TM (nI (S 1))) (fun rY wY => rY = nI (app (lf S r) (rt S r) w p) ∧ wY = gRu cA B L R LL RL TM (nI (S 1))) := by
  refine MetI.of (cc := cX4_applied) (maxL := 9) (ret := (some .int)) (by decide) rfl (Nat.le_of_ble_eq_true rfl) (Or.inl rfl) ?_
  intro pY eY sY mY aY bY tY cY QY AY ls h0 hP hK hN hD hA hS hl hret
  obtain ⟨hx, hb, hml, hown, hts⟩ := id h0
  have hl : lv_has ls 9 [(0, .ref (B 0)), (1, .int (nI w)), (2, .int (nI r)), (3, .int (nI p))] := hl
  have hP : va_P D vwCl (gRu cA B L R LL RL TM (nI (S 1))) sY.heap := hP
  have hD : va_D AY (gRu cA B L R LL RL TM (nI (S 1))) := hD
  have hB : w < 134217728 := vw_B hw (by decide)
  have h12 := hw.2
  have h10 := hI.1
  obtain ⟨v1, v2, v3, v4⟩ := hI.2.2 r hr1
  have v1l := v1.2
  have v2l := v2.2
  obtain ⟨f1, f2, f3, f4, f5⟩ := hr r hr1
  obtain ⟨b1, b2, b3, b4⟩ := app_ok hw v1 v2 v4 hp
  refine lv_iload_n hx hb dX4_applied_0 rfl (lv_at hl 1 rfl) ?_
  refine ci_SN (As := [.int (nI w)]) (rest := []) h0 hK hN hP hD hS hA hl.1 (k_X9_lengthOf lY D cA w (hw.1) (by omega)) [] rfl (by decide) ⟨(va_cnB 1 hts gX4_applied_X9_lengthOf_n41 rfl rfl rfl (hN (.methodLinkNest RX4 41 yX9_lengthOf "FallingWords") (by decide +kernel)) (hts (.initialized RX9) (by decide +kernel)) (by decide +kernel) ⟨Nat.le_of_ble_eq_true rfl, Nat.le_of_ble_eq_true rfl⟩), hts (.static yX9_lengthOf) (by decide +kernel), trivial⟩ rfl rfl (Nat.le_of_ble_eq_true rfl) dX4_applied_1 ⟨Nat.zero_le _, Nat.zero_le _⟩ (fun rY wY H locs hwY hJ hS => ?_)
  obtain ⟨e1Y, e2Y⟩ := hwY
  have e3Y := e1Y.symm
  clear e1Y
  subst e3Y
  have e3Y := e2Y.symm
  clear e2Y
  subst e3Y
  obtain ⟨hP, hD⟩ := hJ rfl
  have hP : va_P D vwCl (gRu cA B L R LL RL TM (nI (S 1))) H := hP
  have hD : va_D AY (gRu cA B L R LL RL TM (nI (S 1))) := hD
  refine lv_istore (lv' := [(4, .int (nI (len w))), (0, .ref (B 0)), (1, .int (nI w)), (2, .int (nI r)), (3, .int (nI p))]) hx hb dX4_applied_4 hl (by decide) rfl (fun ls hl => ?_)
  refine lv_iload_n hx hb dX4_applied_6 rfl (lv_at hl 2 rfl) ?_
  refine lv_iconst (v := nI 2) hx hb dX4_applied_7 (by decide +kernel) ?_
  refine lv_iload hx hb dX4_applied_8 (lv_at hl 0 rfl) ?_
  refine lv_iload_n hx hb dX4_applied_10 rfl (lv_at hl 4 rfl) ?_
  refine lv_isub hx hb dX4_applied_11 ?_
  refine xt (show (nI (len w)) - (nI p) = nI ((len w) - p) from pk_sub (by omega)) ?_
  refine lv_imul hx hb dX4_applied_12 ?_
  refine xt (show (nI 2) * (nI ((len w) - p)) = nI (2 * ((len w) - p)) from pk_mul _ _) ?_
  refine lv_ishr hx hb dX4_applied_13 ?_
  refine xt (show (nI w) >>> ((nI (2 * ((len w) - p))) &&& 31) = nI (w / 4 ^ (len w - p)) from sh_r (by omega) (by omega)) ?_
  refine lv_istore (lv' := [(5, .int (nI (w / 4 ^ (len w - p)))), (4, .int (nI (len w))), (0, .ref (B 0)), (1, .int (nI w)), (2, .int (nI r)), (3, .int (nI p))]) hx hb dX4_applied_14 hl (by decide) rfl (fun ls hl => ?_)
  refine lv_aload_n hx hb dX4_applied_16 rfl (lv_at hl 2 rfl) ?_
  refine va_get (D := D) (ci := 4) (v := .ref (B 2)) (C := RX4) (T := TX4) (N := 6) hx hb hts hi_X4_applied_X4 hown hK hP 0 rfl rfl 1 (by decide) (hts (.fieldLink RX4 15 "FallingWords$Rules" "right" "[I") (by decide +kernel)) (fun _ h9 => h9) rfl dX4_applied_17 ?_
  refine lv_iload_n hx hb dX4_applied_20 rfl (lv_at hl 4 rfl) ?_
  refine xa_ld (v := nI (rt S r)) hx hb hK hP 2 rfl (by omega) (by decide) (f2) dX4_applied_21 ?_
  refine lv_aload_n hx hb dX4_applied_22 rfl (lv_at hl 2 rfl) ?_
  refine va_get (D := D) (ci := 4) (v := .ref (B 4)) (C := RX4) (T := TX4) (N := 6) hx hb hts hi_X4_applied_X4 hown hK hP 0 rfl rfl 3 (by decide) (hts (.fieldLink RX4 21 "FallingWords$Rules" "rightLength" "[I") (by decide +kernel)) (fun _ h9 => h9) rfl dX4_applied_23 ?_
  refine lv_iload_n hx hb dX4_applied_26 rfl (lv_at hl 4 rfl) ?_
  refine xa_ld (v := nI (len (rt S r))) hx hb hK hP 4 rfl (by omega) (by decide) (f4) dX4_applied_27 ?_
  refine ci_SN (As := [.int (nI (rt S r)), .int (nI (len (rt S r)))]) (rest := []) h0 hK hN hP hD hS hA hl.1 (k_X9_lastBits lY D cA (rt S r) (len (rt S r)) (by omega)) [] rfl (by decide) ⟨(va_cnB 2 hts gX4_applied_X9_lastBits_n55 rfl rfl rfl (hN (.methodLinkNest RX4 55 yX9_lastBits "FallingWords") (by decide +kernel)) (hts (.initialized RX9) (by decide +kernel)) (by decide +kernel) ⟨Nat.le_of_ble_eq_true rfl, Nat.le_of_ble_eq_true rfl⟩), hts (.static yX9_lastBits) (by decide +kernel), trivial⟩ rfl rfl (Nat.le_of_ble_eq_true rfl) dX4_applied_28 ⟨Nat.zero_le _, Nat.zero_le _⟩ (fun rY wY H locs hwY hJ hS => ?_)
  obtain ⟨e1Y, e2Y⟩ := hwY
  have e3Y := e1Y.symm
  clear e1Y
  subst e3Y
  have e3Y := e2Y.symm
  clear e2Y
  subst e3Y
  obtain ⟨hP, hD⟩ := hJ rfl
  have hP : va_P D vwCl (gRu cA B L R LL RL TM (nI (S 1))) H := hP
  have hD : va_D AY (gRu cA B L R LL RL TM (nI (S 1))) := hD
  refine lv_istore (lv' := [(6, .int (nI ((rt S r) % 4 ^ (len (rt S r))))), (5, .int (nI (w / 4 ^ (len w - p)))), (4, .int (nI (len w))), (0, .ref (B 0)), (1, .int (nI w)), (2, .int (nI r)), (3, .int (nI p))]) hx hb dX4_applied_31 hl (by decide) rfl (fun ls hl => ?_)
  refine lv_iload hx hb dX4_applied_33 (lv_at hl 2 rfl) ?_
  refine lv_iload_n hx hb dX4_applied_35 rfl (lv_at hl 6 rfl) ?_
  refine lv_isub hx hb dX4_applied_36 ?_
  refine xt (show (nI (len w)) - (nI p) = nI ((len w) - p) from pk_sub (by omega)) ?_
  refine lv_aload_n hx hb dX4_applied_37 rfl (lv_at hl 3 rfl) ?_
  refine va_get (D := D) (ci := 4) (v := .ref (B 3)) (C := RX4) (T := TX4) (N := 6) hx hb hts hi_X4_applied_X4 hown hK hP 0 rfl rfl 2 (by decide) (hts (.fieldLink RX4 18 "FallingWords$Rules" "leftLength" "[I") (by decide +kernel)) (fun _ h9 => h9) rfl dX4_applied_38 ?_
  refine lv_iload_n hx hb dX4_applied_41 rfl (lv_at hl 5 rfl) ?_
  refine xa_ld (v := nI (len (lf S r))) hx hb hK hP 3 rfl (by omega) (by decide) (f3) dX4_applied_42 ?_
  refine lv_isub hx hb dX4_applied_43 ?_
  refine xt (show (nI ((len w) - p)) - (nI (len (lf S r))) = nI (((len w) - p) - (len (lf S r))) from pk_sub (by omega)) ?_
  refine lv_istore (lv' := [(7, .int (nI (((len w) - p) - (len (lf S r))))), (6, .int (nI ((rt S r) % 4 ^ (len (rt S r))))), (5, .int (nI (w / 4 ^ (len w - p)))), (4, .int (nI (len w))), (0, .ref (B 0)), (1, .int (nI w)), (2, .int (nI r)), (3, .int (nI p))]) hx hb dX4_applied_44 hl (by decide) rfl (fun ls hl => ?_)
  refine lv_iload hx hb dX4_applied_46 (lv_at hl 2 rfl) ?_
  refine lv_iconst (v := nI 2) hx hb dX4_applied_48 (by decide +kernel) ?_
  refine lv_aload_n hx hb dX4_applied_49 rfl (lv_at hl 4 rfl) ?_
  refine va_get (D := D) (ci := 4) (v := .ref (B 4)) (C := RX4) (T := TX4) (N := 6) hx hb hts hi_X4_applied_X4 hown hK hP 0 rfl rfl 3 (by decide) (hts (.fieldLink RX4 21 "FallingWords$Rules" "rightLength" "[I") (by decide +kernel)) (fun _ h9 => h9) rfl dX4_applied_50 ?_
  refine lv_iload_n hx hb dX4_applied_53 rfl (lv_at hl 6 rfl) ?_
  refine xa_ld (v := nI (len (rt S r))) hx hb hK hP 4 rfl (by omega) (by decide) (f4) dX4_applied_54 ?_
  refine lv_imul hx hb dX4_applied_55 ?_
  refine xt (show (nI 2) * (nI (len (rt S r))) = nI (2 * (len (rt S r))) from pk_mul _ _) ?_
  refine lv_ishl hx hb dX4_applied_56 ?_
  refine xt (show (nI (w / 4 ^ (len w - p))) <<< ((nI (2 * (len (rt S r)))) &&& 31) = nI (w / 4 ^ (len w - p) * 4 ^ len (rt S r)) from sh_l (by omega) (by omega)) ?_
  refine lv_iload hx hb dX4_applied_57 (lv_at hl 1 rfl) ?_
  refine lv_ior hx hb dX4_applied_59 ?_
  refine xt (show (nI (w / 4 ^ (len w - p) * 4 ^ len (rt S r))) ||| (nI ((rt S r) % 4 ^ (len (rt S r)))) = nI (w / 4 ^ (len w - p) * 4 ^ len (rt S r) + rt S r % 4 ^ len (rt S r)) from sh_o b3) ?_
  refine lv_istore (lv' := [(8, .int (nI (w / 4 ^ (len w - p) * 4 ^ len (rt S r) + rt S r % 4 ^ len (rt S r)))), (7, .int (nI (((len w) - p) - (len (lf S r))))), (6, .int (nI ((rt S r) % 4 ^ (len (rt S r))))), (5, .int (nI (w / 4 ^ (len w - p)))), (4, .int (nI (len w))), (0, .ref (B 0)), (1, .int (nI w)), (2, .int (nI r)), (3, .int (nI p))]) hx hb dX4_applied_60 hl (by decide) rfl (fun ls hl => ?_)
  refine lv_iload hx hb dX4_applied_62 (lv_at hl 0 rfl) ?_
  refine lv_iconst (v := nI 2) hx hb dX4_applied_64 (by decide +kernel) ?_
  refine lv_iload hx hb dX4_applied_65 (lv_at hl 1 rfl) ?_
  refine lv_imul hx hb dX4_applied_67 ?_
  refine xt (show (nI 2) * (nI (((len w) - p) - (len (lf S r)))) = nI (2 * (((len w) - p) - (len (lf S r)))) from pk_mul _ _) ?_
  refine lv_ishl hx hb dX4_applied_68 ?_
  refine xt (show (nI (w / 4 ^ (len w - p) * 4 ^ len (rt S r) + rt S r % 4 ^ len (rt S r))) <<< ((nI (2 * (((len w) - p) - (len (lf S r))))) &&& 31) = nI ((w / 4 ^ (len w - p) * 4 ^ len (rt S r) + rt S r % 4 ^ len (rt S r)) * 4 ^ (len w - p - len (lf S r))) from sh_l (by omega) (by omega)) ?_
  refine lv_iload_n hx hb dX4_applied_69 rfl (lv_at hl 6 rfl) ?_
  refine lv_iload hx hb dX4_applied_70 (lv_at hl 1 rfl) ?_
  refine ci_SN (As := [.int (nI w), .int (nI (((len w) - p) - (len (lf S r))))]) (rest := [.int (nI ((w / 4 ^ (len w - p) * 4 ^ len (rt S r) + rt S r % 4 ^ len (rt S r)) * 4 ^ (len w - p - len (lf S r))))]) h0 hK hN hP hD hS hA hl.1 (k_X9_lastBits lY D cA w (((len w) - p) - (len (lf S r))) (by omega)) [] rfl (by decide) ⟨(va_cnB 2 hts gX4_applied_X9_lastBits_n55 rfl rfl rfl (hN (.methodLinkNest RX4 55 yX9_lastBits "FallingWords") (by decide +kernel)) (hts (.initialized RX9) (by decide +kernel)) (by decide +kernel) ⟨Nat.le_of_ble_eq_true rfl, Nat.le_of_ble_eq_true rfl⟩), hts (.static yX9_lastBits) (by decide +kernel), trivial⟩ rfl rfl (Nat.le_of_ble_eq_true rfl) dX4_applied_72 ⟨Nat.zero_le _, Nat.zero_le _⟩ (fun rY wY H locs hwY hJ hS => ?_)
  obtain ⟨e1Y, e2Y⟩ := hwY
  have e3Y := e1Y.symm
  clear e1Y
  subst e3Y
  have e3Y := e2Y.symm
  clear e2Y
  subst e3Y
  obtain ⟨hP, hD⟩ := hJ rfl
  have hP : va_P D vwCl (gRu cA B L R LL RL TM (nI (S 1))) H := hP
  have hD : va_D AY (gRu cA B L R LL RL TM (nI (S 1))) := hD
  refine lv_ior hx hb dX4_applied_75 ?_
  refine xt (show (nI ((w / 4 ^ (len w - p) * 4 ^ len (rt S r) + rt S r % 4 ^ len (rt S r)) * 4 ^ (len w - p - len (lf S r)))) ||| (nI (w % 4 ^ (((len w) - p) - (len (lf S r))))) = nI (app (lf S r) (rt S r) w p) from sh_o b4) ?_
  exact hret _ _ _ _ _ _ dX4_applied_76 ⟨rfl, rfl⟩ hP hD hS
end
section
/-! the store, reducing, a state -/
def rSo (S : St) (WW NN : Nat → Int32) : Prop := ∀ k, k < S 3 → WW k = nI (S (36 + 2 * k)) ∧ NN k = nI (S (37 + 2 * k))
def IV (S : St) : Prop := IR S ∧ S 3 ≤ 8 ∧ vw 12 (S 0) ∧ ∀ k, k < S 3 → vw 12 (S (36 + 2 * k)) ∧ vw 12 (S (37 + 2 * k))
def fs (S : St) (w : Nat) : Nat := ff (fun k => decide (S (36 + 2 * k) = w)) (S 3)
def ixI (S : St) (w : Nat) : Int32 := if fs S w < S 3 then nI (fs S w) else (-1)
/-- a word with its normal word comes first; the places up to p move -/
def cfs (S : St) (w v p : Nat) : St := fun j => if j = 36 then w else if j = 37 then v else if 38 ≤ j ∧ j < 38 + 2 * p then S (j - 2) else S j
def mv (w : Int32) (p : Nat) (W W' : Nat → Int32) : Prop := ∀ k, W' k = if k = 0 then w else if k ≤ p then W (k - 1) else W k
theorem cfs_ev {S : St} {w v p k : Nat} (h : 0 < k) : cfs S w v p (36 + 2 * k) = if k ≤ p then S (36 + 2 * (k - 1)) else S (36 + 2 * k) := by
  unfold cfs
  rw [if_neg (by omega), if_neg (by omega)]
  by_cases q : k ≤ p
  · rw [if_pos q, if_pos (by omega)]; congr 1; omega
  · rw [if_neg q, if_neg (by omega)]
theorem cfs_od {S : St} {w v p k : Nat} (h : 0 < k) : cfs S w v p (37 + 2 * k) = if k ≤ p then S (37 + 2 * (k - 1)) else S (37 + 2 * k) := by
  unfold cfs
  rw [if_neg (by omega), if_neg (by omega)]
  by_cases q : k ≤ p
  · rw [if_pos q, if_pos (by omega)]; congr 1; omega
  · rw [if_neg q, if_neg (by omega)]
theorem rSo_cfs {S S2 : St} {WW NN WW' NN' : Nat → Int32} {w v p : Nat} (h : rSo S WW NN) (h1 : mv (nI w) p WW WW') (h2 : mv (nI v) p NN NN') (hp : p ≤ S 3) (h3 : ∀ j, 36 ≤ j → S2 j = S j) (hn : S2 3 ≤ S 3 ∨ (p + 1 = S2 3)) (hq : cfs S2 w v p 3 = S2 3) : rSo (cfs S2 w v p) WW' NN' := by
  intro k hk
  rw [hq] at hk
  rw [h1 k, h2 k]
  by_cases e : k = 0
  · subst e
    exact ⟨rfl, rfl⟩
  · rw [if_neg e, if_neg e, cfs_ev (by omega), cfs_od (by omega)]
    by_cases q : k ≤ p
    · obtain ⟨a, b⟩ := h (k - 1) (by omega)
      rw [if_pos q, if_pos q, if_pos q, if_pos q, h3 _ (by omega), h3 _ (by omega), a, b]
      exact ⟨rfl, rfl⟩
    · obtain ⟨a, b⟩ := h k (by omega)
      rw [if_neg q, if_neg q, if_neg q, if_neg q, h3 _ (by omega), h3 _ (by omega), a, b]
      exact ⟨rfl, rfl⟩
theorem cfs_lo {S : St} {w v p j : Nat} (h : j < 36) : cfs S w v p j = S j := by
  unfold cfs
  rw [if_neg (by omega), if_neg (by omega), if_neg (by omega)]
def putS (S : St) (w v : Nat) : St := cfs (upN S 3 (min (S 3 + 1) 8)) w v (min (S 3 + 1) 8 - 1)
def mvi (i p : Nat) (W W' : Nat → Int32) : Prop := ∀ k, W' k = if i < k ∧ k ≤ p then W (k - 1) else W k
theorem mvi_0 {p : Nat} {W : Nat → Int32} : mvi p p W W := fun k => by rw [if_neg (by omega)]
theorem mvi_s {i p : Nat} {W W' : Nat → Int32} (h : mvi i p W W') (hi : 0 < i) (hp : i ≤ p) : mvi (i - 1) p W (upd W' i (W' (i - 1))) := by
  intro k
  by_cases e : k = i
  · subst e
    rw [pk_us, if_pos (by omega), h (k - 1), if_neg (by omega)]
  · rw [pk_un e, h k]
    by_cases q : i < k ∧ k ≤ p
    · rw [if_pos q, if_pos (by omega)]
    · rw [if_neg q, if_neg (by omega)]
theorem mvi_end {p : Nat} {W W' : Nat → Int32} {w : Int32} (h : mvi 0 p W W') : mv w p W (upd W' 0 w) := by
  intro k
  by_cases e : k = 0
  · subst e; rw [pk_us, if_pos rfl]
  · rw [pk_un e, h k, if_neg e]
    by_cases q : k ≤ p
    · rw [if_pos q, if_pos (by omega)]
    · rw [if_neg q, if_neg (by omega)]
theorem rnk_lt {way n i j p q r t : Nat} (h1 : way ≤ 2) (h2 : n ≤ 12) (h3 : p < n) (h4 : q < n) (h5 : r < 10) (h6 : t < 10) (h : rnk way p r < rnk way q t) (hc : way = 2 ∧ t = i ∧ q = j ∨ way = 1 ∧ q = n - 1 - i ∧ t = j ∧ i < n ∨ way = 0 ∧ q = i ∧ t = j) : way = 2 ∧ (r < i ∨ r = i ∧ p < j) ∨ way = 1 ∧ (n - 1 - p < i ∨ n - 1 - p = i ∧ r < j) ∨ way = 0 ∧ (p < i ∨ p = i ∧ r < j) := by
  unfold rnk at h
  rcases hc with ⟨rfl, rfl, rfl⟩ | ⟨rfl, rfl, rfl, h7⟩ | ⟨rfl, rfl, rfl⟩
  · have e : ¬ (2 = 1) := by decide
    simp only [e, if_false, if_true] at h
    omega
  · simp only [if_true] at h
    omega
  · have e : ¬ (0 = 1) := by decide
    have e2 : ¬ (0 = 2) := by decide
    simp only [e, e2, if_false] at h
    omega
theorem chI_ge {S : St} {w : Nat} (h : 0 ≤ (chI S w).toInt) : nrm S w = false := by
  cases hn : nrm S w with
  | false => rfl
  | true => rw [chI_no hn] at h; exact absurd h (by decide)
theorem ch_lt {S : St} {w : Nat} (hI : IR S) (hw : vw 12 w) (hn : nrm S w = false) : chr S w < S 1 ∧ chp S w < len w ∧ chr S w < 10 ∧ chp S w < 12 ∧ chp S w + len (lf S (chr S w)) ≤ len w := by
  obtain ⟨a, b, c, -⟩ := ch_yes hn
  have := stn_le c
  have := hI.1
  have := hw.2
  exact ⟨a, b, by omega, by omega, by omega⟩
theorem chI_lt {S : St} {w : Nat} (hI : IR S) (hw : vw 12 w) (h : (chI S w).toInt < 0) : nrm S w = true := by
  cases hn : nrm S w with
  | true => rfl
  | false =>
    obtain ⟨-, -, a, b, -⟩ := ch_lt hI hw hn
    rw [chI_yes hn, nI_toInt (by omega)] at h
    omega
/-- how often the rules were applied on a row of steps -/
noncomputable def bmp (S : St) (w : Nat) : Nat → St
  | 0 => S
  | k + 1 => upN (bmp S w k) (6 + 3 * chr S (xs S w k) + 2) (bmp S w k (6 + 3 * chr S (xs S w k) + 2) + 1)
theorem bmp_n {S : St} {w j : Nat} : ∀ {k : Nat}, (∀ i, i < k → j ≠ 6 + 3 * chr S (xs S w i) + 2) → bmp S w k j = S j
  | 0, _ => rfl
  | k + 1, h => by
    show upN _ _ _ j = _
    rw [upN_n (h k (Nat.lt_succ_self k))]
    exact bmp_n (fun i hi => h i (by omega))
theorem bmp_lo {S : St} {w j k : Nat} (h : j < 6) : bmp S w k j = S j := bmp_n (fun i _ => by omega)
theorem bmp_hi {S : St} {w j k : Nat} (hc : ∀ i, i < k → chr S (xs S w i) < 10) (h : 36 ≤ j) : bmp S w k j = S j := bmp_n (fun i hi => by have := hc i hi; omega)
theorem bmp_lf {S : St} {w r k : Nat} : lf (bmp S w k) r = lf S r := bmp_n (fun i _ => by omega)
theorem bmp_rt {S : St} {w r k : Nat} : rt (bmp S w k) r = rt S r := bmp_n (fun i _ => by omega)
theorem rRu_tm {S : St} {L R LL RL TM : Nat → Int32} (h : rRu S L R LL RL TM) {c : Nat} : rRu (upN S (6 + 3 * c + 2) (S (6 + 3 * c + 2) + 1)) L R LL RL (upd TM c (nI (tms S c) + 1)) := by
  intro r hr
  rw [upN_n (by omega)] at hr
  obtain ⟨a1, a2, a3, a4, a5⟩ := h r hr
  have e1 : lf (upN S (6 + 3 * c + 2) (S (6 + 3 * c + 2) + 1)) r = lf S r := upN_n (by omega)
  have e2 : rt (upN S (6 + 3 * c + 2) (S (6 + 3 * c + 2) + 1)) r = rt S r := upN_n (by omega)
  rw [e1, e2]
  refine ⟨a1, a2, a3, a4, ?_⟩
  by_cases e : r = c
  · subst e
    rw [pk_us]
    unfold tms
    rw [upN_s, nI_1]
  · rw [pk_un e, a5]
    unfold tms
    rw [upN_n (by omega)]
theorem rRu_to {S S2 : St} {L R LL RL TM : Nat → Int32} (h : rRu S L R LL RL TM) (e : ∀ j, 6 ≤ j → j < 36 → S2 j = S j) (e1 : S2 1 = S 1) (h10 : S 1 ≤ 10) : rRu S2 L R LL RL TM := by
  intro r hr
  rw [e1] at hr
  have a := h r hr
  unfold lf rt tms at a ⊢
  rw [e _ (by omega) (by omega), e _ (by omega) (by omega), e _ (by omega) (by omega)]
  exact a
theorem rSo_to {S S2 : St} {WW NN : Nat → Int32} (h : rSo S WW NN) (e : ∀ j, 36 ≤ j → S2 j = S j) (e1 : S2 3 = S 3) : rSo S2 WW NN := by
  intro k hk
  rw [e1] at hk
  rw [e _ (by omega), e _ (by omega)]
  exact h k hk
theorem rSo_0 {S : St} {WW NN : Nat → Int32} (h : S 3 = 0) : rSo S WW NN := fun k hk => by omega
def cN (n : Nat) (f g : Nat → Int32) : Prop := ∀ k, k < n → f k = g k
theorem cN_cpy {n : Nat} {f g : Nat → Int32} : cN n (va_cpy f g 0 0 n) f := fun k hk => by
  unfold va_cpy
  rw [if_pos ⟨Nat.zero_le _, by omega⟩]
  congr 1; omega
theorem rRu_cN {S : St} {L R LL RL TM L' R' LL' RL' TM' : Nat → Int32} (h : rRu S L R LL RL TM) (h10 : S 1 ≤ 10) (h1 : cN 10 L' L) (h2 : cN 10 R' R) (h3 : cN 10 LL' LL) (h4 : cN 10 RL' RL) (h5 : cN 10 TM' TM) : rRu S L' R' LL' RL' TM' := by
  intro r hr
  have q : r < 10 := by omega
  rw [h1 r q, h2 r q, h3 r q, h4 r q, h5 r q]
  exact h r hr
theorem rSo_cN {S : St} {WW NN WW' NN' : Nat → Int32} (h : rSo S WW NN) (h8 : S 3 ≤ 8) (h1 : cN 8 WW' WW) (h2 : cN 8 NN' NN) : rSo S WW' NN' := by
  intro r hr
  rw [h1 r (by omega), h2 r (by omega)]
  exact h r hr
def wayS (S : St) (v : Nat) : St := upN (upN S 2 v) 3 0
noncomputable def stpS (S : St) : St := upN (upN (upN S 0 (nxt S (S 0))) (6 + 3 * chr S (S 0) + 2) (S (6 + 3 * chr S (S 0) + 2) + 1)) 5 (S 5 + 1)
noncomputable def stepR (S : St) : Int32 × St := if nrm S (S 0) then ((-1000002), S) else (nI (chr S (S 0)), stpS S)
/-- the word is taken from the store -/
def tkS (S : St) (k : Nat) : St := upN (upN (cfs S (S 0) (S (37 + 2 * k)) k) 0 (S (37 + 2 * k))) 4 (S 4 + 1)
/-- the word is reduced to its normal word -/
noncomputable def nmS (S : St) : St := putS (upN (upN (bmp S (S 0) (red S (S 0)).2.1) 5 (S 5 + (red S (S 0)).2.1)) 0 (xs S (S 0) (red S (S 0)).2.1)) (S 0) (xs S (S 0) (red S (S 0)).2.1)
noncomputable def normR (S : St) : Int32 × St := if fs S (S 0) < S 3 then (0, tkS S (fs S (S 0))) else if (red S (S 0)).1 = 0 then (nI (red S (S 0)).2.1, nmS S) else if (red S (S 0)).1 = 1 then ((-1000002), S) else ((-1000003), S)

abbrev gSo (cA : Nat → ClassId) (B : Nat → Nat) (WW : Nat → Int32) (NN : Nat → Int32) (zs : Int32) : va_W := [(B 0, .inr (7, [.ref (B 1), .ref (B 2), .int zs])), (B 1, .inl (cA 0, 8, .inl WW)), (B 2, .inl (cA 0, 8, .inl NN))]
abbrev gSa (cA : Nat → ClassId) (B : Nat → Nat) (wo : Int32) (cho : Int32) (tak : Int32) (stp : Int32) (L : Nat → Int32) (R : Nat → Int32) (LL : Nat → Int32) (RL : Nat → Int32) (TM : Nat → Int32) (z : Int32) (WW : Nat → Int32) (NN : Nat → Int32) (zs : Int32) : va_W := [(B 0, .inr (6, [.ref (B 1), .ref (B 7), .int wo, .int cho, .int tak, .int stp])), (B 1, .inr (4, [.ref (B 2), .ref (B 3), .ref (B 4), .ref (B 5), .ref (B 6), .int z])), (B 2, .inl (cA 0, 10, .inl L)), (B 3, .inl (cA 0, 10, .inl R)), (B 4, .inl (cA 0, 10, .inl LL)), (B 5, .inl (cA 0, 10, .inl RL)), (B 6, .inl (cA 0, 10, .inl TM)), (B 7, .inr (7, [.ref (B 8), .ref (B 9), .int zs])), (B 8, .inl (cA 0, 8, .inl WW)), (B 9, .inl (cA 0, 8, .inl NN))]
abbrev gRd (cA : Nat → ClassId) (B : Nat → Nat) (WD : Nat → Int32) (RD : Nat → Int32) (oc : Int32) (ns : Int32) (rs : Int32) : va_W := [(B 0, .inr (3, [.ref (B 1), .ref (B 2), .int oc, .int ns, .int rs])), (B 1, .inl (cA 0, 101, .inl WD)), (B 2, .inl (cA 0, 100, .inl RD))]
theorem hi_X7_takeOver_X7 : ∀ w ∈ u_ws RX7 TX7 3, w ∈ wsX7_takeOver := by decide +kernel
set_option maxHeartbeats 1000000 in
set_option maxRecDepth 100000 in
theorem k_X7_takeOver (lY : Launch) (D : va_G) (cA : Nat → ClassId) (B B2 : Nat → Nat) (WW NN WW2 NN2 : Nat → Int32) (zs zs2 : Int32)  : MetV lY D cA yX7_takeOver wsX7_takeOver 1 20 0 0 [.ref (B 0), .ref (B2 0)] (gSo cA B WW NN zs ++ gSo cA B2 WW2 NN2 zs2) (fun wY => ∃ (WW' : Nat → Int32) (NN' : Nat → Int32), wY = gSo cA B WW' NN' zs2 ++ gSo cA B2 WW2 NN2 zs2 ∧ (cN 8 WW' WW2) ∧ (cN 8 NN' NN2)) := by
  refine MetV.of (cc := cX7_takeOver) (maxL := 2) (by decide) rfl (Nat.le_of_ble_eq_true rfl) ?_
  intro pY eY sY mY aY bY tY cY QY AY ls h0 hP hK hN hD hA hS hl hin hret
  obtain ⟨hx, hb, hml, hown, hts⟩ := id h0
  have hl : lv_has ls 2 [(0, .ref (B 0)), (1, .ref (B2 0))] := hl
  have hP : va_P D vwCl (gSo cA B WW NN zs ++ gSo cA B2 WW2 NN2 zs2) sY.heap := hP
  have hD : va_D AY (gSo cA B WW NN zs ++ gSo cA B2 WW2 NN2 zs2) := hD
  refine lv_aload_n hx hb dX7_takeOver_0 rfl (lv_at hl 1 rfl) ?_
  refine va_get (D := D) (ci := 7) (v := .ref (B2 1)) (C := RX7) (T := TX7) (N := 3) hx hb hts hi_X7_takeOver_X7 hown hK hP 3 rfl rfl 0 (by decide) (hts (.fieldLink RX7 9 "FallingWords$Store" "words" "[I") (by decide +kernel)) (fun _ h9 => h9) rfl dX7_takeOver_1 ?_
  refine lv_iconst (v := nI 0) hx hb dX7_takeOver_4 (by decide +kernel) ?_
  refine lv_aload_n hx hb dX7_takeOver_5 rfl (lv_at hl 0 rfl) ?_
  refine va_get (D := D) (ci := 7) (v := .ref (B 1)) (C := RX7) (T := TX7) (N := 3) hx hb hts hi_X7_takeOver_X7 hown hK hP 0 rfl rfl 0 (by decide) (hts (.fieldLink RX7 9 "FallingWords$Store" "words" "[I") (by decide +kernel)) (fun _ h9 => h9) rfl dX7_takeOver_6 ?_
  refine lv_iconst (v := nI 0) hx hb dX7_takeOver_9 (by decide +kernel) ?_
  refine lv_bipush (v := nI 8) hx hb dX7_takeOver_10 (by decide +kernel) ?_
  refine va_copyi hx hb (hml.trans hl.1.symm) hown (hts (.methodLink RX7 18 arraycopyName) (by decide +kernel)) (hts (.native arraycopyName) (by decide +kernel)) (hts (.static arraycopyName) (by decide +kernel)) (hts (.initialized "java/lang/System") (by decide +kernel)) hK hP hD hS 4 1 0 0 rfl rfl rfl rfl rfl (by decide +kernel) (by decide +kernel) (by decide +kernel) (by decide +kernel) (by decide +kernel) (fun _ _ => rfl) (Nat.le_of_ble_eq_true rfl) (Nat.le_of_ble_eq_true rfl) dX7_takeOver_12 (fun H locs hP hD hS => ?_)
  have hP : va_P D vwCl (gSo cA B (va_cpy WW2 WW 0 0 8) NN zs ++ gSo cA B2 WW2 NN2 zs2) H := hP
  have hD : va_D AY (gSo cA B (va_cpy WW2 WW 0 0 8) NN zs ++ gSo cA B2 WW2 NN2 zs2) := hD
  refine lv_aload_n hx hb dX7_takeOver_15 rfl (lv_at hl 1 rfl) ?_
  refine va_get (D := D) (ci := 7) (v := .ref (B2 2)) (C := RX7) (T := TX7) (N := 3) hx hb hts hi_X7_takeOver_X7 hown hK hP 3 rfl rfl 1 (by decide) (hts (.fieldLink RX7 15 "FallingWords$Store" "normals" "[I") (by decide +kernel)) (fun _ h9 => h9) rfl dX7_takeOver_16 ?_
  refine lv_iconst (v := nI 0) hx hb dX7_takeOver_19 (by decide +kernel) ?_
  refine lv_aload_n hx hb dX7_takeOver_20 rfl (lv_at hl 0 rfl) ?_
  refine va_get (D := D) (ci := 7) (v := .ref (B 2)) (C := RX7) (T := TX7) (N := 3) hx hb hts hi_X7_takeOver_X7 hown hK hP 0 rfl rfl 1 (by decide) (hts (.fieldLink RX7 15 "FallingWords$Store" "normals" "[I") (by decide +kernel)) (fun _ h9 => h9) rfl dX7_takeOver_21 ?_
  refine lv_iconst (v := nI 0) hx hb dX7_takeOver_24 (by decide +kernel) ?_
  refine lv_bipush (v := nI 8) hx hb dX7_takeOver_25 (by decide +kernel) ?_
  refine va_copyi hx hb (hml.trans hl.1.symm) hown (hts (.methodLink RX7 18 arraycopyName) (by decide +kernel)) (hts (.native arraycopyName) (by decide +kernel)) (hts (.static arraycopyName) (by decide +kernel)) (hts (.initialized "java/lang/System") (by decide +kernel)) hK hP hD hS 5 2 0 0 rfl rfl rfl rfl rfl (by decide +kernel) (by decide +kernel) (by decide +kernel) (by decide +kernel) (by decide +kernel) (fun _ _ => rfl) (Nat.le_of_ble_eq_true rfl) (Nat.le_of_ble_eq_true rfl) dX7_takeOver_27 (fun H locs hP hD hS => ?_)
  have hP : va_P D vwCl (gSo cA B (va_cpy WW2 WW 0 0 8) (va_cpy NN2 NN 0 0 8) zs ++ gSo cA B2 WW2 NN2 zs2) H := hP
  have hD : va_D AY (gSo cA B (va_cpy WW2 WW 0 0 8) (va_cpy NN2 NN 0 0 8) zs ++ gSo cA B2 WW2 NN2 zs2) := hD
  refine lv_aload_n hx hb dX7_takeOver_30 rfl (lv_at hl 0 rfl) ?_
  refine lv_aload_n hx hb dX7_takeOver_31 rfl (lv_at hl 1 rfl) ?_
  refine va_get (D := D) (ci := 7) (v := .int zs2) (C := RX7) (T := TX7) (N := 3) hx hb hts hi_X7_takeOver_X7 hown hK hP 3 rfl rfl 2 (by decide) (hts (.fieldLink RX7 24 "FallingWords$Store" "size" "I") (by decide +kernel)) (fun _ h9 => h9) rfl dX7_takeOver_32 ?_
  refine va_put (D := D) (ci := 7) (v := .int zs2) (ty := .int) (C := RX7) (T := TX7) (N := 3) hx hb hts hi_X7_takeOver_X7 tyX7 tyX7_ok nmX7 hown hK hP hD hS 0 rfl rfl 2 (by decide) (hts (.fieldLink RX7 24 "FallingWords$Store" "size" "I") (by decide +kernel)) (fun _ h9 => h9) rfl (by decide +kernel) rfl rfl (Nat.le_of_ble_eq_true rfl) dX7_takeOver_35 (fun H locs hP hD hS => ?_)
  have hP : va_P D vwCl (gSo cA B (va_cpy WW2 WW 0 0 8) (va_cpy NN2 NN 0 0 8) zs2 ++ gSo cA B2 WW2 NN2 zs2) H := hP
  have hD : va_D AY (gSo cA B (va_cpy WW2 WW 0 0 8) (va_cpy NN2 NN 0 0 8) zs2 ++ gSo cA B2 WW2 NN2 zs2) := hD
  exact hret _ _ _ _ _ dX7_takeOver_38 ⟨(va_cpy WW2 WW 0 0 8), (va_cpy NN2 NN 0 0 8), rfl, cN_cpy, cN_cpy⟩ hP hD hS

theorem hi_X7_indexOf_X7 : ∀ w ∈ u_ws RX7 TX7 3, w ∈ wsX7_indexOf := by decide +kernel
set_option maxHeartbeats 1000000 in
set_option maxRecDepth 100000 in
theorem k_X7_indexOf (lY : Launch) (D : va_G) (cA : Nat → ClassId) (B : Nat → Nat) (S : St) (WW NN : Nat → Int32) (w : Nat) (h8 : S 3 ≤ 8) (hr : rSo S WW NN) (hw : w < 2147483648) (hBd : ∀ k, k < S 3 → S (36 + 2 * k) < 2147483648) : MetI lY D cA yX7_indexOf wsX7_indexOf 0 0 [.ref (B 0), .int (nI w)] (gSo cA B WW NN (nI (S 3))) (fun rY wY => rY = ixI S w ∧ wY = gSo cA B WW NN (nI (S 3))) := by
  refine MetI.of (cc := cX7_indexOf) (maxL := 3) (ret := (some .int)) (by decide) rfl (Nat.le_of_ble_eq_true rfl) (Or.inl rfl) ?_
  intro pY eY sY mY aY bY tY cY QY AY ls h0 hP hK hN hD hA hS hl hret
  obtain ⟨hx, hb, hml, hown, hts⟩ := id h0
  have hl : lv_has ls 3 [(0, .ref (B 0)), (1, .int (nI w))] := hl
  have hP : va_P D vwCl (gSo cA B WW NN (nI (S 3))) sY.heap := hP
  have hD : va_D AY (gSo cA B WW NN (nI (S 3))) := hD
  refine lv_iconst (v := nI 0) hx hb dX7_indexOf_0 (by decide +kernel) ?_
  refine lv_istore_n (lv' := [(2, .int (nI 0)), (0, .ref (B 0)), (1, .int (nI w))]) hx hb dX7_indexOf_1 rfl hl (by decide) rfl (fun ls hl => ?_)
  have L2 : ∀ (nY : Nat), ∀ (i : Nat), (i ≤ S 3) → (∀ k, k < i → decide (S (36 + 2 * k) = w) = false) → (S 3 - i < nY) → ∀ (H : Heap) (locs : List Loc) (ls : Array Slot), va_P D vwCl (gSo cA B WW NN (nI (S 3))) H → va_D AY (gSo cA B WW NN (nI (S 3))) → va_S AY sY.heap H locs → lv_has ls 3 [(0, .ref (B 0)), (1, .int (nI w)), (2, .int (nI i))] → W pY lY eY { frames := 0, cells := 0, slots := 0, locals := 0 } sY mY aY bY tY cY H locs 0 0 QY (F0 mY 2 ls []) := by
    intro nY2
    induction nY2 with
    | zero => intro i hi hno hm2; exact absurd hm2 (Nat.not_lt_zero _)
    | succ nY2 ih2 =>
      intro i hi hno hm2 H locs ls hP hD hS hl
      refine lv_iload_n hx hb dX7_indexOf_2 rfl (lv_at hl 2 rfl) ?_
      refine lv_aload_n hx hb dX7_indexOf_3 rfl (lv_at hl 0 rfl) ?_
      refine va_get (D := D) (ci := 7) (v := .int (nI (S 3))) (C := RX7) (T := TX7) (N := 3) hx hb hts hi_X7_indexOf_X7 hown hK hP 0 rfl rfl 2 (by decide) (hts (.fieldLink RX7 24 "FallingWords$Store" "size" "I") (by decide +kernel)) (fun _ h9 => h9) rfl dX7_indexOf_4 ?_
      refine xc_ge (tgt := 28) hx hb dX7_indexOf_7 (by decide) (by omega) (by omega) (fun c7 => ?_) (fun c7 => ?_)
      · refine lv_iconst (v := (-1)) hx hb dX7_indexOf_28 (by decide +kernel) ?_
        exact hret _ _ _ _ _ _ dX7_indexOf_29 ⟨by rw [ixI, show fs S w = S 3 from ff_none (fun j hj => hno j (by omega)), if_neg (by omega)], rfl⟩ hP hD hS
      · have g1 := hBd i (by omega)
        obtain ⟨f1, -⟩ := hr i (by omega)
        refine lv_aload_n hx hb dX7_indexOf_10 rfl (lv_at hl 0 rfl) ?_
        refine va_get (D := D) (ci := 7) (v := .ref (B 1)) (C := RX7) (T := TX7) (N := 3) hx hb hts hi_X7_indexOf_X7 hown hK hP 0 rfl rfl 0 (by decide) (hts (.fieldLink RX7 9 "FallingWords$Store" "words" "[I") (by decide +kernel)) (fun _ h9 => h9) rfl dX7_indexOf_11 ?_
        refine lv_iload_n hx hb dX7_indexOf_14 rfl (lv_at hl 2 rfl) ?_
        refine xa_ld (v := nI (S (36 + 2 * i))) hx hb hK hP 1 rfl (by omega) (by decide) (f1) dX7_indexOf_15 ?_
        refine lv_iload_n hx hb dX7_indexOf_16 rfl (lv_at hl 1 rfl) ?_
        refine xc_ne (tgt := 22) hx hb dX7_indexOf_17 (by decide) (by omega) (by omega) (fun c17 => ?_) (fun c17 => ?_)
        · refine lv_iinc (v := nI (i + 1)) (lv' := [(2, .int (nI (i + 1))), (0, .ref (B 0)), (1, .int (nI w))]) hx hb dX7_indexOf_22 hl (k := 2) rfl (show nI i + Int32.ofInt 1 = nI (i + 1) from nI_add i 1) (by decide) rfl (fun ls hl => ?_)
          refine lv_goto (tgt := 2) hx hb dX7_indexOf_25 (by decide) ?_
          exact ih2 (i + 1) (by omega) (lt_s hno (decide_eq_false c17)) (by omega) _ _ _ hP hD hS (lv_sub hl [1, 2, 0] rfl)
        · refine lv_iload_n hx hb dX7_indexOf_20 rfl (lv_at hl 2 rfl) ?_
          exact hret _ _ _ _ _ _ dX7_indexOf_21 ⟨by rw [ixI, show fs S w = i from ff_is (by omega) (decide_eq_true c17) hno, if_pos (by omega)], rfl⟩ hP hD hS
  exact L2 _ 0 (by omega) (fun k h => absurd h (Nat.not_lt_zero k)) (Nat.lt_succ_self _) _ _ _ hP hD hS (lv_sub hl [1, 2, 0] rfl)

theorem hi_X7_setAhead_X7 : ∀ w ∈ u_ws RX7 TX7 3, w ∈ wsX7_setAhead := by decide +kernel
set_option maxHeartbeats 1000000 in
set_option maxRecDepth 100000 in
theorem k_X7_setAhead (lY : Launch) (D : va_G) (cA : Nat → ClassId) (B : Nat → Nat) (WW NN : Nat → Int32) (zs : Int32) (p w v : Nat) (hp : p < 8) : MetV lY D cA yX7_setAhead wsX7_setAhead 0 0 0 0 [.ref (B 0), .int (nI p), .int (nI w), .int (nI v)] (gSo cA B WW NN zs) (fun wY => ∃ (WW' : Nat → Int32) (NN' : Nat → Int32), wY = gSo cA B WW' NN' zs ∧ (mv (nI w) p WW WW') ∧ (mv (nI v) p NN NN')) := by
  refine MetV.of (cc := cX7_setAhead) (maxL := 5) (by decide) rfl (Nat.le_of_ble_eq_true rfl) ?_
  intro pY eY sY mY aY bY tY cY QY AY ls h0 hP hK hN hD hA hS hl hin hret
  obtain ⟨hx, hb, hml, hown, hts⟩ := id h0
  have hl : lv_has ls 5 [(0, .ref (B 0)), (1, .int (nI p)), (2, .int (nI w)), (3, .int (nI v))] := hl
  have hP : va_P D vwCl (gSo cA B WW NN zs) sY.heap := hP
  have hD : va_D AY (gSo cA B WW NN zs) := hD
  refine lv_iload_n hx hb dX7_setAhead_0 rfl (lv_at hl 1 rfl) ?_
  refine lv_istore (lv' := [(4, .int (nI p)), (0, .ref (B 0)), (1, .int (nI p)), (2, .int (nI w)), (3, .int (nI v))]) hx hb dX7_setAhead_1 hl (by decide) rfl (fun ls hl => ?_)
  have L3 : ∀ (nY : Nat), ∀ (i : Nat) (WW' : Nat → Int32) (NN' : Nat → Int32), (i ≤ p) → (mvi i p WW WW') → (mvi i p NN NN') → (i < nY) → ∀ (H : Heap) (locs : List Loc) (ls : Array Slot), va_P D vwCl (gSo cA B WW' NN' zs) H → va_D AY (gSo cA B WW' NN' zs) → va_S AY sY.heap H locs → lv_has ls 5 [(0, .ref (B 0)), (1, .int (nI p)), (2, .int (nI w)), (3, .int (nI v)), (4, .int (nI i))] → W pY lY eY { frames := 0, cells := 0, slots := 0, locals := 0 } sY mY aY bY tY cY H locs 0 0 QY (F0 mY 3 ls []) := by
    intro nY3
    induction nY3 with
    | zero => intro i WW' NN' hi f1 f2 hm3; exact absurd hm3 (Nat.not_lt_zero _)
    | succ nY3 ih3 =>
      intro i WW' NN' hi f1 f2 hm3 H locs ls hP hD hS hl
      refine lv_iload hx hb dX7_setAhead_3 (lv_at hl 4 rfl) ?_
      refine x0_le (tgt := 46) hx hb dX7_setAhead_5 (by decide) (by omega) (fun c5 => ?_) (fun c5 => ?_)
      · subst c5
        refine lv_aload_n hx hb dX7_setAhead_46 rfl (lv_at hl 0 rfl) ?_
        refine va_get (D := D) (ci := 7) (v := .ref (B 1)) (C := RX7) (T := TX7) (N := 3) hx hb hts hi_X7_setAhead_X7 hown hK hP 0 rfl rfl 0 (by decide) (hts (.fieldLink RX7 9 "FallingWords$Store" "words" "[I") (by decide +kernel)) (fun _ h9 => h9) rfl dX7_setAhead_47 ?_
        refine lv_iconst (v := nI 0) hx hb dX7_setAhead_50 (by decide +kernel) ?_
        refine lv_iload_n hx hb dX7_setAhead_51 rfl (lv_at hl 2 rfl) ?_
        refine xa_st hx hb hK hP hD hS 1 rfl (by omega) (by decide) dX7_setAhead_52 (fun H locs hP hD hS => ?_)
        have hP : va_P D vwCl (gSo cA B (upd WW' 0 (nI w)) NN' zs) H := hP
        have hD : va_D AY (gSo cA B (upd WW' 0 (nI w)) NN' zs) := hD
        refine lv_aload_n hx hb dX7_setAhead_53 rfl (lv_at hl 0 rfl) ?_
        refine va_get (D := D) (ci := 7) (v := .ref (B 2)) (C := RX7) (T := TX7) (N := 3) hx hb hts hi_X7_setAhead_X7 hown hK hP 0 rfl rfl 1 (by decide) (hts (.fieldLink RX7 15 "FallingWords$Store" "normals" "[I") (by decide +kernel)) (fun _ h9 => h9) rfl dX7_setAhead_54 ?_
        refine lv_iconst (v := nI 0) hx hb dX7_setAhead_57 (by decide +kernel) ?_
        refine lv_iload_n hx hb dX7_setAhead_58 rfl (lv_at hl 3 rfl) ?_
        refine xa_st hx hb hK hP hD hS 2 rfl (by omega) (by decide) dX7_setAhead_59 (fun H locs hP hD hS => ?_)
        have hP : va_P D vwCl (gSo cA B (upd WW' 0 (nI w)) (upd NN' 0 (nI v)) zs) H := hP
        have hD : va_D AY (gSo cA B (upd WW' 0 (nI w)) (upd NN' 0 (nI v)) zs) := hD
        exact hret _ _ _ _ _ dX7_setAhead_60 ⟨(upd WW' 0 (nI w)), (upd NN' 0 (nI v)), rfl, mvi_end f1, mvi_end f2⟩ hP hD hS
      · refine lv_aload_n hx hb dX7_setAhead_8 rfl (lv_at hl 0 rfl) ?_
        refine va_get (D := D) (ci := 7) (v := .ref (B 1)) (C := RX7) (T := TX7) (N := 3) hx hb hts hi_X7_setAhead_X7 hown hK hP 0 rfl rfl 0 (by decide) (hts (.fieldLink RX7 9 "FallingWords$Store" "words" "[I") (by decide +kernel)) (fun _ h9 => h9) rfl dX7_setAhead_9 ?_
        refine lv_iload hx hb dX7_setAhead_12 (lv_at hl 4 rfl) ?_
        refine lv_aload_n hx hb dX7_setAhead_14 rfl (lv_at hl 0 rfl) ?_
        refine va_get (D := D) (ci := 7) (v := .ref (B 1)) (C := RX7) (T := TX7) (N := 3) hx hb hts hi_X7_setAhead_X7 hown hK hP 0 rfl rfl 0 (by decide) (hts (.fieldLink RX7 9 "FallingWords$Store" "words" "[I") (by decide +kernel)) (fun _ h9 => h9) rfl dX7_setAhead_15 ?_
        refine lv_iload hx hb dX7_setAhead_18 (lv_at hl 4 rfl) ?_
        refine lv_iconst (v := nI 1) hx hb dX7_setAhead_20 (by decide +kernel) ?_
        refine lv_isub hx hb dX7_setAhead_21 ?_
        refine xt (show (nI i) - (nI 1) = nI (i - 1) from pk_sub (by omega)) ?_
        refine xa_ld (v := WW' (i - 1)) hx hb hK hP 1 rfl (by omega) (by decide) (rfl) dX7_setAhead_22 ?_
        refine xa_st hx hb hK hP hD hS 1 rfl (by omega) (by decide) dX7_setAhead_23 (fun H locs hP hD hS => ?_)
        have hP : va_P D vwCl (gSo cA B (upd WW' i (WW' (i - 1))) NN' zs) H := hP
        have hD : va_D AY (gSo cA B (upd WW' i (WW' (i - 1))) NN' zs) := hD
        refine lv_aload_n hx hb dX7_setAhead_24 rfl (lv_at hl 0 rfl) ?_
        refine va_get (D := D) (ci := 7) (v := .ref (B 2)) (C := RX7) (T := TX7) (N := 3) hx hb hts hi_X7_setAhead_X7 hown hK hP 0 rfl rfl 1 (by decide) (hts (.fieldLink RX7 15 "FallingWords$Store" "normals" "[I") (by decide +kernel)) (fun _ h9 => h9) rfl dX7_setAhead_25 ?_
        refine lv_iload hx hb dX7_setAhead_28 (lv_at hl 4 rfl) ?_
        refine lv_aload_n hx hb dX7_setAhead_30 rfl (lv_at hl 0 rfl) ?_
        refine va_get (D := D) (ci := 7) (v := .ref (B 2)) (C := RX7) (T := TX7) (N := 3) hx hb hts hi_X7_setAhead_X7 hown hK hP 0 rfl rfl 1 (by decide) (hts (.fieldLink RX7 15 "FallingWords$Store" "normals" "[I") (by decide +kernel)) (fun _ h9 => h9) rfl dX7_setAhead_31 ?_
        refine lv_iload hx hb dX7_setAhead_34 (lv_at hl 4 rfl) ?_
        refine lv_iconst (v := nI 1) hx hb dX7_setAhead_36 (by decide +kernel) ?_
        refine lv_isub hx hb dX7_setAhead_37 ?_
        refine xt (show (nI i) - (nI 1) = nI (i - 1) from pk_sub (by omega)) ?_
        refine xa_ld (v := NN' (i - 1)) hx hb hK hP 2 rfl (by omega) (by decide) (rfl) dX7_setAhead_38 ?_
        refine xa_st hx hb hK hP hD hS 2 rfl (by omega) (by decide) dX7_setAhead_39 (fun H locs hP hD hS => ?_)
        have hP : va_P D vwCl (gSo cA B (upd WW' i (WW' (i - 1))) (upd NN' i (NN' (i - 1))) zs) H := hP
        have hD : va_D AY (gSo cA B (upd WW' i (WW' (i - 1))) (upd NN' i (NN' (i - 1))) zs) := hD
        refine lv_iinc (v := nI (i - 1)) (lv' := [(4, .int (nI (i - 1))), (0, .ref (B 0)), (1, .int (nI p)), (2, .int (nI w)), (3, .int (nI v))]) hx hb dX7_setAhead_40 hl (k := 4) rfl (show nI i + Int32.ofInt (-1) = nI (i - 1) from sb_m1 c5) (by decide) rfl (fun ls hl => ?_)
        refine lv_goto (tgt := 3) hx hb dX7_setAhead_43 (by decide) ?_
        exact ih3 (i - 1) (upd WW' i (WW' (i - 1))) (upd NN' i (NN' (i - 1))) (by omega) (mvi_s f1 c5 hi) (mvi_s f2 c5 hi) (by omega) _ _ _ hP hD hS (lv_sub hl [1, 2, 3, 4, 0] rfl)
  exact L3 _ p WW NN (by omega) (mvi_0) (mvi_0) (Nat.lt_succ_self _) _ _ _ hP hD hS (lv_sub hl [1, 2, 3, 4, 0] rfl)

theorem hi_X7_put_X7 : ∀ w ∈ u_ws RX7 TX7 3, w ∈ wsX7_put := by decide +kernel
set_option maxHeartbeats 1000000 in
set_option maxRecDepth 100000 in
theorem k_X7_put (lY : Launch) (D : va_G) (cA : Nat → ClassId) (B : Nat → Nat) (S : St) (WW NN : Nat → Int32) (w v : Nat) (h8 : S 3 ≤ 8) (hr : rSo S WW NN) : MetV lY D cA yX7_put wsX7_put 1 24 0 0 [.ref (B 0), .int (nI w), .int (nI v)] (gSo cA B WW NN (nI (S 3))) (fun wY => ∃ (WW' : Nat → Int32) (NN' : Nat → Int32), wY = gSo cA B WW' NN' (nI (min (S 3 + 1) 8)) ∧ (mv (nI w) (min (S 3 + 1) 8 - 1) WW WW') ∧ (mv (nI v) (min (S 3 + 1) 8 - 1) NN NN')) := by
  refine MetV.of (cc := cX7_put) (maxL := 3) (by decide) rfl (Nat.le_of_ble_eq_true rfl) ?_
  intro pY eY sY mY aY bY tY cY QY AY ls h0 hP hK hN hD hA hS hl hin hret
  obtain ⟨hx, hb, hml, hown, hts⟩ := id h0
  have hl : lv_has ls 3 [(0, .ref (B 0)), (1, .int (nI w)), (2, .int (nI v))] := hl
  have hP : va_P D vwCl (gSo cA B WW NN (nI (S 3))) sY.heap := hP
  have hD : va_D AY (gSo cA B WW NN (nI (S 3))) := hD
  refine lv_aload_n hx hb dX7_put_0 rfl (lv_at hl 0 rfl) ?_
  refine va_get (D := D) (ci := 7) (v := .int (nI (S 3))) (C := RX7) (T := TX7) (N := 3) hx hb hts hi_X7_put_X7 hown hK hP 0 rfl rfl 2 (by decide) (hts (.fieldLink RX7 24 "FallingWords$Store" "size" "I") (by decide +kernel)) (fun _ h9 => h9) rfl dX7_put_1 ?_
  refine lv_bipush (v := nI 8) hx hb dX7_put_4 (by decide +kernel) ?_
  refine xc_ge (tgt := 19) hx hb dX7_put_6 (by decide) (by omega) (by omega) (fun c6 => ?_) (fun c6 => ?_)
  · refine lv_aload_n hx hb dX7_put_19 rfl (lv_at hl 0 rfl) ?_
    refine lv_aload_n hx hb dX7_put_20 rfl (lv_at hl 0 rfl) ?_
    refine va_get (D := D) (ci := 7) (v := .int (nI (S 3))) (C := RX7) (T := TX7) (N := 3) hx hb hts hi_X7_put_X7 hown hK hP 0 rfl rfl 2 (by decide) (hts (.fieldLink RX7 24 "FallingWords$Store" "size" "I") (by decide +kernel)) (fun _ h9 => h9) rfl dX7_put_21 ?_
    refine lv_iconst (v := nI 1) hx hb dX7_put_24 (by decide +kernel) ?_
    refine lv_isub hx hb dX7_put_25 ?_
    refine xt (show (nI (S 3)) - (nI 1) = nI ((S 3) - 1) from pk_sub (by omega)) ?_
    refine lv_iload_n hx hb dX7_put_26 rfl (lv_at hl 1 rfl) ?_
    refine lv_iload_n hx hb dX7_put_27 rfl (lv_at hl 2 rfl) ?_
    refine cv_V (As := [.int (nI ((S 3) - 1)), .int (nI w), .int (nI v)]) (rest := []) h0 hK hN hP hD hS hA hl.1 (k_X7_setAhead lY D cA B WW NN (nI (S 3)) ((S 3) - 1) w v (by first | assumption | omega)) [0, 1, 2] rfl (by decide) (cwV 3 hts gX7_put_X7_setAhead rfl rfl rfl (by decide +kernel) ⟨Nat.le_of_ble_eq_true rfl, Nat.le_of_ble_eq_true rfl⟩) (cl_recv (ci := 7) (q := (RX7, TX7, 3)) (q0 := 0) hP hK rfl rfl) rfl rfl (Nat.le_of_ble_eq_true rfl) dX7_put_28 ⟨Nat.zero_le _, Nat.zero_le _⟩ (fun wY H locs hwY hJ hS => ?_)
    obtain ⟨WW'_28, NN'_28, e2Y, f1_28, f2_28⟩ := hwY
    have e3Y := e2Y.symm
    clear e2Y
    subst e3Y
    obtain ⟨hP, hD⟩ := hJ rfl
    have hP : va_P D vwCl (gSo cA B WW'_28 NN'_28 (nI (S 3))) H := hP
    have hD : va_D AY (gSo cA B WW'_28 NN'_28 (nI (S 3))) := hD
    exact hret _ _ _ _ _ dX7_put_31 ⟨WW'_28, NN'_28, by rw [show min (S 3 + 1) 8 = S 3 by omega], by rw [show min (S 3 + 1) 8 - 1 = S 3 - 1 by omega]; exact f1_28, by rw [show min (S 3 + 1) 8 - 1 = S 3 - 1 by omega]; exact f2_28⟩ hP hD hS
  · refine lv_aload_n hx hb dX7_put_9 rfl (lv_at hl 0 rfl) ?_
    refine lv_dup hx hb dX7_put_10 rfl ?_
    refine va_get (D := D) (ci := 7) (v := .int (nI (S 3))) (C := RX7) (T := TX7) (N := 3) hx hb hts hi_X7_put_X7 hown hK hP 0 rfl rfl 2 (by decide) (hts (.fieldLink RX7 24 "FallingWords$Store" "size" "I") (by decide +kernel)) (fun _ h9 => h9) rfl dX7_put_11 ?_
    refine lv_iconst (v := nI 1) hx hb dX7_put_14 (by decide +kernel) ?_
    refine lv_iadd hx hb dX7_put_15 ?_
    refine xt (show (nI (S 3)) + (nI 1) = nI (S 3 + 1) from nI_add _ _) ?_
    refine va_put (D := D) (ci := 7) (v := .int (nI (S 3 + 1))) (ty := .int) (C := RX7) (T := TX7) (N := 3) hx hb hts hi_X7_put_X7 tyX7 tyX7_ok nmX7 hown hK hP hD hS 0 rfl rfl 2 (by decide) (hts (.fieldLink RX7 24 "FallingWords$Store" "size" "I") (by decide +kernel)) (fun _ h9 => h9) rfl (by decide +kernel) rfl rfl (Nat.le_of_ble_eq_true rfl) dX7_put_16 (fun H locs hP hD hS => ?_)
    have hP : va_P D vwCl (gSo cA B WW NN (nI (S 3 + 1))) H := hP
    have hD : va_D AY (gSo cA B WW NN (nI (S 3 + 1))) := hD
    refine lv_aload_n hx hb dX7_put_19 rfl (lv_at hl 0 rfl) ?_
    refine lv_aload_n hx hb dX7_put_20 rfl (lv_at hl 0 rfl) ?_
    refine va_get (D := D) (ci := 7) (v := .int (nI (S 3 + 1))) (C := RX7) (T := TX7) (N := 3) hx hb hts hi_X7_put_X7 hown hK hP 0 rfl rfl 2 (by decide) (hts (.fieldLink RX7 24 "FallingWords$Store" "size" "I") (by decide +kernel)) (fun _ h9 => h9) rfl dX7_put_21 ?_
    refine lv_iconst (v := nI 1) hx hb dX7_put_24 (by decide +kernel) ?_
    refine lv_isub hx hb dX7_put_25 ?_
    refine xt (show (nI (S 3 + 1)) - (nI 1) = nI ((S 3 + 1) - 1) from pk_sub (by omega)) ?_
    refine lv_iload_n hx hb dX7_put_26 rfl (lv_at hl 1 rfl) ?_
    refine lv_iload_n hx hb dX7_put_27 rfl (lv_at hl 2 rfl) ?_
    refine cv_V (As := [.int (nI ((S 3 + 1) - 1)), .int (nI w), .int (nI v)]) (rest := []) h0 hK hN hP hD hS hA hl.1 (k_X7_setAhead lY D cA B WW NN (nI (S 3 + 1)) ((S 3 + 1) - 1) w v (by first | assumption | omega)) [0, 1, 2] rfl (by decide) (cwV 3 hts gX7_put_X7_setAhead rfl rfl rfl (by decide +kernel) ⟨Nat.le_of_ble_eq_true rfl, Nat.le_of_ble_eq_true rfl⟩) (cl_recv (ci := 7) (q := (RX7, TX7, 3)) (q0 := 0) hP hK rfl rfl) rfl rfl (Nat.le_of_ble_eq_true rfl) dX7_put_28 ⟨Nat.zero_le _, Nat.zero_le _⟩ (fun wY H locs hwY hJ hS => ?_)
    obtain ⟨WW'_28, NN'_28, e2Y, f1_28, f2_28⟩ := hwY
    have e3Y := e2Y.symm
    clear e2Y
    subst e3Y
    obtain ⟨hP, hD⟩ := hJ rfl
    have hP : va_P D vwCl (gSo cA B WW'_28 NN'_28 (nI (S 3 + 1))) H := hP
    have hD : va_D AY (gSo cA B WW'_28 NN'_28 (nI (S 3 + 1))) := hD
    exact hret _ _ _ _ _ dX7_put_31 ⟨WW'_28, NN'_28, by rw [show min (S 3 + 1) 8 = S 3 + 1 by omega], by rw [show min (S 3 + 1) 8 - 1 = S 3 + 1 - 1 by omega]; exact f1_28, by rw [show min (S 3 + 1) 8 - 1 = S 3 + 1 - 1 by omega]; exact f2_28⟩ hP hD hS

theorem hi_X7_use_X7 : ∀ w ∈ u_ws RX7 TX7 3, w ∈ wsX7_use := by decide +kernel
set_option maxHeartbeats 1000000 in
set_option maxRecDepth 100000 in
theorem k_X7_use (lY : Launch) (D : va_G) (cA : Nat → ClassId) (B : Nat → Nat) (S : St) (WW NN : Nat → Int32) (k : Nat) (h8 : S 3 ≤ 8) (hr : rSo S WW NN) (hk : k < S 3) : MetI lY D cA yX7_use wsX7_use 1 24 [.ref (B 0), .int (nI k)] (gSo cA B WW NN (nI (S 3))) (fun rY wY => ∃ (WW' : Nat → Int32) (NN' : Nat → Int32), rY = nI (S (37 + 2 * k)) ∧ wY = gSo cA B WW' NN' (nI (S 3)) ∧ (mv (nI (S (36 + 2 * k))) k WW WW') ∧ (mv (nI (S (37 + 2 * k))) k NN NN')) := by
  refine MetI.of (cc := cX7_use) (maxL := 3) (ret := (some .int)) (by decide) rfl (Nat.le_of_ble_eq_true rfl) (Or.inl rfl) ?_
  intro pY eY sY mY aY bY tY cY QY AY ls h0 hP hK hN hD hA hS hl hret
  obtain ⟨hx, hb, hml, hown, hts⟩ := id h0
  have hl : lv_has ls 3 [(0, .ref (B 0)), (1, .int (nI k))] := hl
  have hP : va_P D vwCl (gSo cA B WW NN (nI (S 3))) sY.heap := hP
  have hD : va_D AY (gSo cA B WW NN (nI (S 3))) := hD
  obtain ⟨g1, g2⟩ := hr k hk
  refine lv_aload_n hx hb dX7_use_0 rfl (lv_at hl 0 rfl) ?_
  refine va_get (D := D) (ci := 7) (v := .ref (B 2)) (C := RX7) (T := TX7) (N := 3) hx hb hts hi_X7_use_X7 hown hK hP 0 rfl rfl 1 (by decide) (hts (.fieldLink RX7 15 "FallingWords$Store" "normals" "[I") (by decide +kernel)) (fun _ h9 => h9) rfl dX7_use_1 ?_
  refine lv_iload_n hx hb dX7_use_4 rfl (lv_at hl 1 rfl) ?_
  refine xa_ld (v := nI (S (37 + 2 * k))) hx hb hK hP 2 rfl (by omega) (by decide) (g2) dX7_use_5 ?_
  refine lv_istore_n (lv' := [(2, .int (nI (S (37 + 2 * k)))), (0, .ref (B 0)), (1, .int (nI k))]) hx hb dX7_use_6 rfl hl (by decide) rfl (fun ls hl => ?_)
  refine lv_aload_n hx hb dX7_use_7 rfl (lv_at hl 1 rfl) ?_
  refine lv_iload_n hx hb dX7_use_8 rfl (lv_at hl 2 rfl) ?_
  refine lv_aload_n hx hb dX7_use_9 rfl (lv_at hl 1 rfl) ?_
  refine va_get (D := D) (ci := 7) (v := .ref (B 1)) (C := RX7) (T := TX7) (N := 3) hx hb hts hi_X7_use_X7 hown hK hP 0 rfl rfl 0 (by decide) (hts (.fieldLink RX7 9 "FallingWords$Store" "words" "[I") (by decide +kernel)) (fun _ h9 => h9) rfl dX7_use_10 ?_
  refine lv_iload_n hx hb dX7_use_13 rfl (lv_at hl 2 rfl) ?_
  refine xa_ld (v := nI (S (36 + 2 * k))) hx hb hK hP 1 rfl (by omega) (by decide) (g1) dX7_use_14 ?_
  refine lv_iload_n hx hb dX7_use_15 rfl (lv_at hl 0 rfl) ?_
  refine cv_V (As := [.int (nI k), .int (nI (S (36 + 2 * k))), .int (nI (S (37 + 2 * k)))]) (rest := []) h0 hK hN hP hD hS hA hl.1 (k_X7_setAhead lY D cA B WW NN (nI (S 3)) k (S (36 + 2 * k)) (S (37 + 2 * k)) (by first | assumption | omega)) [0, 1, 2] rfl (by decide) (cwV 3 hts gX7_use_X7_setAhead rfl rfl rfl (by decide +kernel) ⟨Nat.le_of_ble_eq_true rfl, Nat.le_of_ble_eq_true rfl⟩) (cl_recv (ci := 7) (q := (RX7, TX7, 3)) (q0 := 0) hP hK rfl rfl) rfl rfl (Nat.le_of_ble_eq_true rfl) dX7_use_16 ⟨Nat.zero_le _, Nat.zero_le _⟩ (fun wY H locs hwY hJ hS => ?_)
  obtain ⟨WW'_16, NN'_16, e2Y, f1_16, f2_16⟩ := hwY
  have e3Y := e2Y.symm
  clear e2Y
  subst e3Y
  obtain ⟨hP, hD⟩ := hJ rfl
  have hP : va_P D vwCl (gSo cA B WW'_16 NN'_16 (nI (S 3))) H := hP
  have hD : va_D AY (gSo cA B WW'_16 NN'_16 (nI (S 3))) := hD
  refine lv_iload_n hx hb dX7_use_19 rfl (lv_at hl 0 rfl) ?_
  exact hret _ _ _ _ _ _ dX7_use_20 ⟨WW'_16, NN'_16, rfl, rfl, f1_16, f2_16⟩ hP hD hS
end
section
theorem hi_X4_choiceFor_X4 : ∀ w ∈ u_ws RX4 TX4 6, w ∈ wsX4_choiceFor := by decide +kernel
set_option maxHeartbeats 1000000 in
set_option maxRecDepth 100000 in
theorem k_X4_choiceFor (lY : Launch) (D : va_G) (cA : Nat → ClassId) (B : Nat → Nat) (S : St) (L R LL RL TM : Nat → Int32) (w : Nat) (hI : IR S) (hr : rRu S L R LL RL TM) (hw : vw 12 w) : MetI lY D cA yX4_choiceFor wsX4_choiceFor 1 27 [.ref (B 0), .int (nI w), .int (nI (S 2))] (gRu cA B L R LL RL TM (nI (S 1))) (fun rY wY => rY = chI S w ∧ wY = gRu cA B L R LL RL TM (nI (S 1))) := by
  refine MetI.of (cc := cX4_choiceFor) (maxL := 12) (ret := (some .int)) (by decide) rfl (Nat.le_of_ble_eq_true rfl) (Or.inl rfl) ?_
  intro pY eY sY mY aY bY tY cY QY AY ls h0 hP hK hN hD hA hS hl hret
  obtain ⟨hx, hb, hml, hown, hts⟩ := id h0
  have hl : lv_has ls 12 [(0, .ref (B 0)), (1, .int (nI w)), (2, .int (nI (S 2)))] := hl
  have hP : va_P D vwCl (gRu cA B L R LL RL TM (nI (S 1))) sY.heap := hP
  have hD : va_D AY (gRu cA B L R LL RL TM (nI (S 1))) := hD
  have h12 := hw.2
  have h10 := hI.1
  have hway := hI.2.1
  refine lv_iload_n hx hb dX4_choiceFor_0 rfl (lv_at hl 1 rfl) ?_
  refine ci_SN (As := [.int (nI w)]) (rest := []) h0 hK hN hP hD hS hA hl.1 (k_X9_lengthOf lY D cA w (hw.1) (by omega)) [] rfl (by decide) ⟨(va_cnB 1 hts gX4_choiceFor_X9_lengthOf_n41 rfl rfl rfl (hN (.methodLinkNest RX4 41 yX9_lengthOf "FallingWords") (by decide +kernel)) (hts (.initialized RX9) (by decide +kernel)) (by decide +kernel) ⟨Nat.le_of_ble_eq_true rfl, Nat.le_of_ble_eq_true rfl⟩), hts (.static yX9_lengthOf) (by decide +kernel), trivial⟩ rfl rfl (Nat.le_of_ble_eq_true rfl) dX4_choiceFor_1 ⟨Nat.zero_le _, Nat.zero_le _⟩ (fun rY wY H locs hwY hJ hS => ?_)
  obtain ⟨e1Y, e2Y⟩ := hwY
  have e3Y := e1Y.symm
  clear e1Y
  subst e3Y
  have e3Y := e2Y.symm
  clear e2Y
  subst e3Y
  obtain ⟨hP, hD⟩ := hJ rfl
  have hP : va_P D vwCl (gRu cA B L R LL RL TM (nI (S 1))) H := hP
  have hD : va_D AY (gRu cA B L R LL RL TM (nI (S 1))) := hD
  refine lv_istore_n (lv' := [(3, .int (nI (len w))), (0, .ref (B 0)), (1, .int (nI w)), (2, .int (nI (S 2)))]) hx hb dX4_choiceFor_4 rfl hl (by decide) rfl (fun ls hl => ?_)
  refine lv_iload_n hx hb dX4_choiceFor_5 rfl (lv_at hl 3 rfl) ?_
  refine lv_iconst (v := nI 2) hx hb dX4_choiceFor_6 (by decide +kernel) ?_
  refine xc_ne (tgt := 14) hx hb dX4_choiceFor_7 (by decide) (by omega) (by omega) (fun c7 => ?_) (fun c7 => ?_)
  · refine lv_iconst (v := nI 0) hx hb dX4_choiceFor_14 (by decide +kernel) ?_
    refine lv_istore (lv' := [(4, .int (nI 0)), (3, .int (nI (len w))), (0, .ref (B 0)), (1, .int (nI w)), (2, .int (nI (S 2)))]) hx hb dX4_choiceFor_15 hl (by decide) rfl (fun ls hl => ?_)
    refine lv_iload hx hb dX4_choiceFor_17 (lv_at hl 0 rfl) ?_
    refine lv_if_eq (tgt := 29) hx hb dX4_choiceFor_19 (by decide) (fun c19 => ?_) (fun c19 => ?_)
    rotate_left
    · exact absurd (by decide +kernel) c19
    refine lv_iload_n hx hb dX4_choiceFor_29 rfl (lv_at hl 1 rfl) ?_
    refine lv_istore (lv' := [(5, .int (nI (len w))), (4, .int (nI 0)), (3, .int (nI (len w))), (0, .ref (B 0)), (1, .int (nI w)), (2, .int (nI (S 2)))]) hx hb dX4_choiceFor_30 hl (by decide) rfl (fun ls hl => ?_)
    refine lv_iload hx hb dX4_choiceFor_32 (lv_at hl 1 rfl) ?_
    refine lv_if_eq (tgt := 41) hx hb dX4_choiceFor_34 (by decide) (fun c34 => ?_) (fun c34 => ?_)
    rotate_left
    · exact absurd (by decide +kernel) c34
    refine lv_aload_n hx hb dX4_choiceFor_41 rfl (lv_at hl 3 rfl) ?_
    refine va_get (D := D) (ci := 4) (v := .int (nI (S 1))) (C := RX4) (T := TX4) (N := 6) hx hb hts hi_X4_choiceFor_X4 hown hK hP 0 rfl rfl 5 (by decide) (hts (.fieldLink RX4 33 "FallingWords$Rules" "size" "I") (by decide +kernel)) (fun _ h9 => h9) rfl dX4_choiceFor_42 ?_
    refine lv_istore (lv' := [(6, .int (nI (S 1))), (5, .int (nI (len w))), (4, .int (nI 0)), (3, .int (nI (len w))), (0, .ref (B 0)), (1, .int (nI w)), (2, .int (nI (S 2)))]) hx hb dX4_choiceFor_45 hl (by decide) rfl (fun ls hl => ?_)
    refine lv_iconst (v := nI 0) hx hb dX4_choiceFor_47 (by decide +kernel) ?_
    refine lv_istore (lv' := [(7, .int (nI 0)), (6, .int (nI (S 1))), (5, .int (nI (len w))), (4, .int (nI 0)), (3, .int (nI (len w))), (0, .ref (B 0)), (1, .int (nI w)), (2, .int (nI (S 2)))]) hx hb dX4_choiceFor_48 hl (by decide) rfl (fun ls hl => ?_)
    have L50 : ∀ (nY : Nat), ∀ (i : Nat), (i ≤ 12) → (∀ r p, r < S 1 → p < len w → (S 2 = 2 ∧ r < i ∨ S 2 = 1 ∧ len w - 1 - p < i ∨ S 2 = 0 ∧ p < i) → stn (lf S r) w p = false) → (13 - i < nY) → ∀ (H : Heap) (locs : List Loc) (ls : Array Slot), va_P D vwCl (gRu cA B L R LL RL TM (nI (S 1))) H → va_D AY (gRu cA B L R LL RL TM (nI (S 1))) → va_S AY sY.heap H locs → lv_has ls 12 [(0, .ref (B 0)), (1, .int (nI w)), (2, .int (nI (S 2))), (3, .int (nI (len w))), (4, .int (nI 0)), (5, .int (nI (len w))), (6, .int (nI (S 1))), (7, .int (nI i))] → W pY lY eY { frames := 1, cells := 0, slots := 0, locals := 27 } sY mY aY bY tY cY H locs 0 0 QY (F0 mY 50 ls []) := by
      intro nY50
      induction nY50 with
      | zero => intro i hi hno hm50; exact absurd hm50 (Nat.not_lt_zero _)
      | succ nY50 ih50 =>
        intro i hi hno hm50 H locs ls hP hD hS hl
        refine lv_iload hx hb dX4_choiceFor_50 (lv_at hl 7 rfl) ?_
        refine lv_iload hx hb dX4_choiceFor_52 (lv_at hl 5 rfl) ?_
        refine xc_ge (tgt := 147) hx hb dX4_choiceFor_54 (by decide) (by omega) (by omega) (fun c54 => ?_) (fun c54 => ?_)
        · refine lv_iconst (v := (-1)) hx hb dX4_choiceFor_147 (by decide +kernel) ?_
          exact hret _ _ _ _ _ _ dX4_choiceFor_148 ⟨(chI_no (ch_no (fun r p h1 h2 => hno r p h1 h2 (by omega)))).symm, rfl⟩ hP hD hS
        · refine lv_iconst (v := nI 0) hx hb dX4_choiceFor_57 (by decide +kernel) ?_
          refine lv_istore (lv' := [(8, .int (nI 0)), (0, .ref (B 0)), (1, .int (nI w)), (2, .int (nI (S 2))), (3, .int (nI (len w))), (4, .int (nI 0)), (5, .int (nI (len w))), (6, .int (nI (S 1))), (7, .int (nI i))]) hx hb dX4_choiceFor_58 hl (by decide) rfl (fun ls hl => ?_)
          have L60 : ∀ (nY : Nat), ∀ (j : Nat), (j ≤ 12) → (∀ r p, r < S 1 → p < len w → (S 2 = 2 ∧ (r < i ∨ r = i ∧ p < j) ∨ S 2 = 1 ∧ (len w - 1 - p < i ∨ len w - 1 - p = i ∧ r < j) ∨ S 2 = 0 ∧ (p < i ∨ p = i ∧ r < j)) → stn (lf S r) w p = false) → (13 - j < nY) → ∀ (H : Heap) (locs : List Loc) (ls : Array Slot), va_P D vwCl (gRu cA B L R LL RL TM (nI (S 1))) H → va_D AY (gRu cA B L R LL RL TM (nI (S 1))) → va_S AY sY.heap H locs → lv_has ls 12 [(0, .ref (B 0)), (1, .int (nI w)), (2, .int (nI (S 2))), (3, .int (nI (len w))), (4, .int (nI 0)), (5, .int (nI (len w))), (6, .int (nI (S 1))), (7, .int (nI i)), (8, .int (nI j))] → W pY lY eY { frames := 1, cells := 0, slots := 0, locals := 27 } sY mY aY bY tY cY H locs 0 0 QY (F0 mY 60 ls []) := by
            intro nY60
            induction nY60 with
            | zero => intro j hj hno2 hm60; exact absurd hm60 (Nat.not_lt_zero _)
            | succ nY60 ih60 =>
              intro j hj hno2 hm60 H locs ls hP hD hS hl
              refine lv_iload hx hb dX4_choiceFor_60 (lv_at hl 8 rfl) ?_
              refine lv_iload hx hb dX4_choiceFor_62 (lv_at hl 6 rfl) ?_
              refine xc_ge (tgt := 141) hx hb dX4_choiceFor_64 (by decide) (by omega) (by omega) (fun c64 => ?_) (fun c64 => ?_)
              · refine lv_iinc (v := nI (i + 1)) (lv' := [(7, .int (nI (i + 1))), (0, .ref (B 0)), (1, .int (nI w)), (2, .int (nI (S 2))), (3, .int (nI (len w))), (4, .int (nI 0)), (5, .int (nI (len w))), (6, .int (nI (S 1))), (8, .int (nI j))]) hx hb dX4_choiceFor_141 hl (k := 7) rfl (show nI i + Int32.ofInt 1 = nI (i + 1) from nI_add i 1) (by decide) rfl (fun ls hl => ?_)
                refine lv_goto (tgt := 50) hx hb dX4_choiceFor_144 (by decide) ?_
                exact ih50 (i + 1) (by omega) (fun r p h1 h2 h3 => hno2 r p h1 h2 (by omega)) (by omega) _ _ _ hP hD hS (lv_sub hl [1, 2, 3, 4, 5, 6, 7, 0] rfl)
              · refine lv_iload hx hb dX4_choiceFor_67 (lv_at hl 4 rfl) ?_
                refine lv_if_eq (tgt := 77) hx hb dX4_choiceFor_69 (by decide) (fun c69 => ?_) (fun c69 => ?_)
                rotate_left
                · exact absurd (by decide +kernel) c69
                refine lv_iload hx hb dX4_choiceFor_77 (lv_at hl 8 rfl) ?_
                refine lv_istore (lv' := [(9, .int (nI j)), (0, .ref (B 0)), (1, .int (nI w)), (2, .int (nI (S 2))), (3, .int (nI (len w))), (4, .int (nI 0)), (5, .int (nI (len w))), (6, .int (nI (S 1))), (7, .int (nI i)), (8, .int (nI j))]) hx hb dX4_choiceFor_79 hl (by decide) rfl (fun ls hl => ?_)
                refine lv_iload hx hb dX4_choiceFor_81 (lv_at hl 5 rfl) ?_
                refine lv_if_eq (tgt := 91) hx hb dX4_choiceFor_83 (by decide) (fun c83 => ?_) (fun c83 => ?_)
                rotate_left
                · exact absurd (by decide +kernel) c83
                refine lv_iload hx hb dX4_choiceFor_91 (lv_at hl 8 rfl) ?_
                refine lv_istore (lv' := [(10, .int (nI i)), (9, .int (nI j)), (0, .ref (B 0)), (1, .int (nI w)), (2, .int (nI (S 2))), (3, .int (nI (len w))), (4, .int (nI 0)), (5, .int (nI (len w))), (6, .int (nI (S 1))), (7, .int (nI i)), (8, .int (nI j))]) hx hb dX4_choiceFor_93 hl (by decide) rfl (fun ls hl => ?_)
                have hway2 : S 2 = 0 ∨ S 2 = 1 ∨ S 2 = 2 := by omega
                refine lv_iload_n hx hb dX4_choiceFor_95 rfl (lv_at hl 4 rfl) ?_
                refine lv_iconst (v := nI 1) hx hb dX4_choiceFor_96 (by decide +kernel) ?_
                refine xc_ne (tgt := 109) hx hb dX4_choiceFor_97 (by decide) (by omega) (by omega) (fun c97 => ?_) (fun c97 => ?_)
                · refine lv_iload hx hb dX4_choiceFor_109 (lv_at hl 0 rfl) ?_
                  refine lv_istore (lv' := [(11, .int (nI i)), (10, .int (nI i)), (9, .int (nI j)), (0, .ref (B 0)), (1, .int (nI w)), (2, .int (nI (S 2))), (3, .int (nI (len w))), (4, .int (nI 0)), (5, .int (nI (len w))), (6, .int (nI (S 1))), (7, .int (nI i)), (8, .int (nI j))]) hx hb dX4_choiceFor_111 hl (by decide) rfl (fun ls hl => ?_)
                  refine lv_aload_n hx hb dX4_choiceFor_113 rfl (lv_at hl 3 rfl) ?_
                  refine lv_iload_n hx hb dX4_choiceFor_114 rfl (lv_at hl 4 rfl) ?_
                  refine lv_iload_n hx hb dX4_choiceFor_115 rfl (lv_at hl 6 rfl) ?_
                  refine lv_iload hx hb dX4_choiceFor_116 (lv_at hl 2 rfl) ?_
                  refine lv_iload hx hb dX4_choiceFor_118 (lv_at hl 0 rfl) ?_
                  refine ci_V (As := [.int (nI w), .int (nI (len w)), .int (nI j), .int (nI i)]) (rest := []) h0 hK hN hP hD hS hA hl.1 (k_X4_appliesAt lY D cA B S L R LL RL TM w j i (hI) (hr) (hw) (by omega) (by omega)) [0, 1, 2, 3, 4, 5] rfl (by decide) (cwV 4 hts gX4_choiceFor_X4_appliesAt rfl rfl rfl (by decide +kernel) ⟨Nat.le_of_ble_eq_true rfl, Nat.le_of_ble_eq_true rfl⟩) (cl_recv (ci := 4) (q := (RX4, TX4, 6)) (q0 := 0) hP hK rfl rfl) rfl rfl (Nat.le_of_ble_eq_true rfl) dX4_choiceFor_120 ⟨Nat.zero_le _, Nat.zero_le _⟩ (fun rY wY H locs hwY hJ hS => ?_)
                  obtain ⟨e1Y, e2Y⟩ := hwY
                  have e3Y := e1Y.symm
                  clear e1Y
                  subst e3Y
                  have e3Y := e2Y.symm
                  clear e2Y
                  subst e3Y
                  obtain ⟨hP, hD⟩ := hJ rfl
                  have hP : va_P D vwCl (gRu cA B L R LL RL TM (nI (S 1))) H := hP
                  have hD : va_D AY (gRu cA B L R LL RL TM (nI (S 1))) := hD
                  refine xb_eq (tgt := 135) hx hb dX4_choiceFor_123 (by decide) (fun c123 => ?_) (fun c123 => ?_)
                  · refine lv_iinc (v := nI (j + 1)) (lv' := [(8, .int (nI (j + 1))), (11, .int (nI i)), (10, .int (nI i)), (9, .int (nI j)), (0, .ref (B 0)), (1, .int (nI w)), (2, .int (nI (S 2))), (3, .int (nI (len w))), (4, .int (nI 0)), (5, .int (nI (len w))), (6, .int (nI (S 1))), (7, .int (nI i))]) hx hb dX4_choiceFor_135 hl (k := 11) rfl (show nI j + Int32.ofInt 1 = nI (j + 1) from nI_add j 1) (by decide) rfl (fun ls hl => ?_)
                    refine lv_goto (tgt := 60) hx hb dX4_choiceFor_138 (by decide) ?_
                    exact ih60 (j + 1) (by omega) (fun r p h1 h2 h3 => by rcases Decidable.em (r = j ∧ p = i) with q | q; (rw [q.1, q.2]; exact c123); exact hno2 r p h1 h2 (by omega)) (by omega) _ _ _ hP hD hS (lv_sub hl [4, 5, 6, 7, 8, 9, 10, 11, 0] rfl)
                  · refine lv_iload hx hb dX4_choiceFor_126 (lv_at hl 0 rfl) ?_
                    refine lv_bipush (v := nI 10) hx hb dX4_choiceFor_128 (by decide +kernel) ?_
                    refine lv_imul hx hb dX4_choiceFor_130 ?_
                    refine xt (show (nI i) * (nI 10) = nI (i * 10) from pk_mul _ _) ?_
                    refine lv_iload hx hb dX4_choiceFor_131 (lv_at hl 2 rfl) ?_
                    refine lv_iadd hx hb dX4_choiceFor_133 ?_
                    refine xt (show (nI (i * 10)) + (nI j) = nI (i * 10 + j) from nI_add _ _) ?_
                    obtain ⟨b1, b2, b3⟩ := ch_is hI hw (r := j) (p := i) (by omega) (by omega) c123 (fun r p h1 h2 h3 => Nat.not_lt.mp (fun q => by rw [hno2 r p h1 h2 (rnk_lt (by omega) (by omega) (by omega) (by omega) (by omega) (by omega) q (by omega))] at h3; cases h3))
                    exact hret _ _ _ _ _ _ dX4_choiceFor_134 ⟨by rw [chI_yes b3, b1, b2], rfl⟩ hP hD hS
                · refine lv_iload_n hx hb dX4_choiceFor_100 rfl (lv_at hl 5 rfl) ?_
                  refine lv_iconst (v := nI 1) hx hb dX4_choiceFor_101 (by decide +kernel) ?_
                  refine lv_isub hx hb dX4_choiceFor_102 ?_
                  refine xt (show (nI (len w)) - (nI 1) = nI ((len w) - 1) from pk_sub (by omega)) ?_
                  refine lv_iload hx hb dX4_choiceFor_103 (lv_at hl 0 rfl) ?_
                  refine lv_isub hx hb dX4_choiceFor_105 ?_
                  refine xt (show (nI ((len w) - 1)) - (nI i) = nI (((len w) - 1) - i) from pk_sub (by omega)) ?_
                  refine lv_goto (tgt := 111) hx hb dX4_choiceFor_106 (by decide) ?_
                  refine lv_istore (lv' := [(11, .int (nI (((len w) - 1) - i))), (10, .int (nI i)), (9, .int (nI j)), (0, .ref (B 0)), (1, .int (nI w)), (2, .int (nI (S 2))), (3, .int (nI (len w))), (4, .int (nI 0)), (5, .int (nI (len w))), (6, .int (nI (S 1))), (7, .int (nI i)), (8, .int (nI j))]) hx hb dX4_choiceFor_111 hl (by decide) rfl (fun ls hl => ?_)
                  refine lv_aload_n hx hb dX4_choiceFor_113 rfl (lv_at hl 3 rfl) ?_
                  refine lv_iload_n hx hb dX4_choiceFor_114 rfl (lv_at hl 4 rfl) ?_
                  refine lv_iload_n hx hb dX4_choiceFor_115 rfl (lv_at hl 6 rfl) ?_
                  refine lv_iload hx hb dX4_choiceFor_116 (lv_at hl 2 rfl) ?_
                  refine lv_iload hx hb dX4_choiceFor_118 (lv_at hl 0 rfl) ?_
                  refine ci_V (As := [.int (nI w), .int (nI (len w)), .int (nI j), .int (nI (((len w) - 1) - i))]) (rest := []) h0 hK hN hP hD hS hA hl.1 (k_X4_appliesAt lY D cA B S L R LL RL TM w j (((len w) - 1) - i) (hI) (hr) (hw) (by omega) (by omega)) [0, 1, 2, 3, 4, 5] rfl (by decide) (cwV 4 hts gX4_choiceFor_X4_appliesAt rfl rfl rfl (by decide +kernel) ⟨Nat.le_of_ble_eq_true rfl, Nat.le_of_ble_eq_true rfl⟩) (cl_recv (ci := 4) (q := (RX4, TX4, 6)) (q0 := 0) hP hK rfl rfl) rfl rfl (Nat.le_of_ble_eq_true rfl) dX4_choiceFor_120 ⟨Nat.zero_le _, Nat.zero_le _⟩ (fun rY wY H locs hwY hJ hS => ?_)
                  obtain ⟨e1Y, e2Y⟩ := hwY
                  have e3Y := e1Y.symm
                  clear e1Y
                  subst e3Y
                  have e3Y := e2Y.symm
                  clear e2Y
                  subst e3Y
                  obtain ⟨hP, hD⟩ := hJ rfl
                  have hP : va_P D vwCl (gRu cA B L R LL RL TM (nI (S 1))) H := hP
                  have hD : va_D AY (gRu cA B L R LL RL TM (nI (S 1))) := hD
                  refine xb_eq (tgt := 135) hx hb dX4_choiceFor_123 (by decide) (fun c123 => ?_) (fun c123 => ?_)
                  · refine lv_iinc (v := nI (j + 1)) (lv' := [(8, .int (nI (j + 1))), (11, .int (nI (((len w) - 1) - i))), (10, .int (nI i)), (9, .int (nI j)), (0, .ref (B 0)), (1, .int (nI w)), (2, .int (nI (S 2))), (3, .int (nI (len w))), (4, .int (nI 0)), (5, .int (nI (len w))), (6, .int (nI (S 1))), (7, .int (nI i))]) hx hb dX4_choiceFor_135 hl (k := 11) rfl (show nI j + Int32.ofInt 1 = nI (j + 1) from nI_add j 1) (by decide) rfl (fun ls hl => ?_)
                    refine lv_goto (tgt := 60) hx hb dX4_choiceFor_138 (by decide) ?_
                    exact ih60 (j + 1) (by omega) (fun r p h1 h2 h3 => by rcases Decidable.em (r = j ∧ p = len w - 1 - i) with q | q; (rw [q.1, q.2]; exact c123); exact hno2 r p h1 h2 (by omega)) (by omega) _ _ _ hP hD hS (lv_sub hl [4, 5, 6, 7, 8, 9, 10, 11, 0] rfl)
                  · refine lv_iload hx hb dX4_choiceFor_126 (lv_at hl 0 rfl) ?_
                    refine lv_bipush (v := nI 10) hx hb dX4_choiceFor_128 (by decide +kernel) ?_
                    refine lv_imul hx hb dX4_choiceFor_130 ?_
                    refine xt (show (nI (((len w) - 1) - i)) * (nI 10) = nI ((((len w) - 1) - i) * 10) from pk_mul _ _) ?_
                    refine lv_iload hx hb dX4_choiceFor_131 (lv_at hl 2 rfl) ?_
                    refine lv_iadd hx hb dX4_choiceFor_133 ?_
                    refine xt (show (nI ((((len w) - 1) - i) * 10)) + (nI j) = nI ((((len w) - 1) - i) * 10 + j) from nI_add _ _) ?_
                    obtain ⟨b1, b2, b3⟩ := ch_is hI hw (r := j) (p := len w - 1 - i) (by omega) (by omega) c123 (fun r p h1 h2 h3 => Nat.not_lt.mp (fun q => by rw [hno2 r p h1 h2 (rnk_lt (by omega) (by omega) (by omega) (by omega) (by omega) (by omega) q (by omega))] at h3; cases h3))
                    exact hret _ _ _ _ _ _ dX4_choiceFor_134 ⟨by rw [chI_yes b3, b1, b2], rfl⟩ hP hD hS
          exact L60 _ 0 (by omega) (fun r p h1 h2 h3 => hno r p h1 h2 (by omega)) (Nat.lt_succ_self _) _ _ _ hP hD hS (lv_sub hl [1, 2, 3, 4, 5, 6, 7, 8, 0] rfl)
    exact L50 _ 0 (by omega) (fun r p h1 h2 h3 => by omega) (Nat.lt_succ_self _) _ _ _ hP hD hS (lv_sub hl [5, 6, 7, 4, 3, 2, 1, 0] rfl)
  · refine lv_iconst (v := nI 1) hx hb dX4_choiceFor_10 (by decide +kernel) ?_
    refine lv_goto (tgt := 15) hx hb dX4_choiceFor_11 (by decide) ?_
    refine lv_istore (lv' := [(4, .int (nI 1)), (3, .int (nI (len w))), (0, .ref (B 0)), (1, .int (nI w)), (2, .int (nI (S 2)))]) hx hb dX4_choiceFor_15 hl (by decide) rfl (fun ls hl => ?_)
    refine lv_iload hx hb dX4_choiceFor_17 (lv_at hl 0 rfl) ?_
    refine lv_if_eq (tgt := 29) hx hb dX4_choiceFor_19 (by decide) (fun c19 => ?_) (fun c19 => ?_)
    · exact absurd c19 (by decide +kernel)
    refine lv_aload_n hx hb dX4_choiceFor_22 rfl (lv_at hl 2 rfl) ?_
    refine va_get (D := D) (ci := 4) (v := .int (nI (S 1))) (C := RX4) (T := TX4) (N := 6) hx hb hts hi_X4_choiceFor_X4 hown hK hP 0 rfl rfl 5 (by decide) (hts (.fieldLink RX4 33 "FallingWords$Rules" "size" "I") (by decide +kernel)) (fun _ h9 => h9) rfl dX4_choiceFor_23 ?_
    refine lv_goto (tgt := 30) hx hb dX4_choiceFor_26 (by decide) ?_
    refine lv_istore (lv' := [(5, .int (nI (S 1))), (4, .int (nI 1)), (3, .int (nI (len w))), (0, .ref (B 0)), (1, .int (nI w)), (2, .int (nI (S 2)))]) hx hb dX4_choiceFor_30 hl (by decide) rfl (fun ls hl => ?_)
    refine lv_iload hx hb dX4_choiceFor_32 (lv_at hl 1 rfl) ?_
    refine lv_if_eq (tgt := 41) hx hb dX4_choiceFor_34 (by decide) (fun c34 => ?_) (fun c34 => ?_)
    · exact absurd c34 (by decide +kernel)
    refine lv_iload_n hx hb dX4_choiceFor_37 rfl (lv_at hl 2 rfl) ?_
    refine lv_goto (tgt := 45) hx hb dX4_choiceFor_38 (by decide) ?_
    refine lv_istore (lv' := [(6, .int (nI (len w))), (5, .int (nI (S 1))), (4, .int (nI 1)), (3, .int (nI (len w))), (0, .ref (B 0)), (1, .int (nI w)), (2, .int (nI (S 2)))]) hx hb dX4_choiceFor_45 hl (by decide) rfl (fun ls hl => ?_)
    refine lv_iconst (v := nI 0) hx hb dX4_choiceFor_47 (by decide +kernel) ?_
    refine lv_istore (lv' := [(7, .int (nI 0)), (6, .int (nI (len w))), (5, .int (nI (S 1))), (4, .int (nI 1)), (3, .int (nI (len w))), (0, .ref (B 0)), (1, .int (nI w)), (2, .int (nI (S 2)))]) hx hb dX4_choiceFor_48 hl (by decide) rfl (fun ls hl => ?_)
    have L50 : ∀ (nY : Nat), ∀ (i : Nat), (i ≤ 12) → (∀ r p, r < S 1 → p < len w → (S 2 = 2 ∧ r < i ∨ S 2 = 1 ∧ len w - 1 - p < i ∨ S 2 = 0 ∧ p < i) → stn (lf S r) w p = false) → (13 - i < nY) → ∀ (H : Heap) (locs : List Loc) (ls : Array Slot), va_P D vwCl (gRu cA B L R LL RL TM (nI (S 1))) H → va_D AY (gRu cA B L R LL RL TM (nI (S 1))) → va_S AY sY.heap H locs → lv_has ls 12 [(0, .ref (B 0)), (1, .int (nI w)), (2, .int (nI (S 2))), (3, .int (nI (len w))), (4, .int (nI 1)), (5, .int (nI (S 1))), (6, .int (nI (len w))), (7, .int (nI i))] → W pY lY eY { frames := 1, cells := 0, slots := 0, locals := 27 } sY mY aY bY tY cY H locs 0 0 QY (F0 mY 50 ls []) := by
      intro nY50
      induction nY50 with
      | zero => intro i hi hno hm50; exact absurd hm50 (Nat.not_lt_zero _)
      | succ nY50 ih50 =>
        intro i hi hno hm50 H locs ls hP hD hS hl
        refine lv_iload hx hb dX4_choiceFor_50 (lv_at hl 7 rfl) ?_
        refine lv_iload hx hb dX4_choiceFor_52 (lv_at hl 5 rfl) ?_
        refine xc_ge (tgt := 147) hx hb dX4_choiceFor_54 (by decide) (by omega) (by omega) (fun c54 => ?_) (fun c54 => ?_)
        · refine lv_iconst (v := (-1)) hx hb dX4_choiceFor_147 (by decide +kernel) ?_
          exact hret _ _ _ _ _ _ dX4_choiceFor_148 ⟨(chI_no (ch_no (fun r p h1 h2 => hno r p h1 h2 (by omega)))).symm, rfl⟩ hP hD hS
        · refine lv_iconst (v := nI 0) hx hb dX4_choiceFor_57 (by decide +kernel) ?_
          refine lv_istore (lv' := [(8, .int (nI 0)), (0, .ref (B 0)), (1, .int (nI w)), (2, .int (nI (S 2))), (3, .int (nI (len w))), (4, .int (nI 1)), (5, .int (nI (S 1))), (6, .int (nI (len w))), (7, .int (nI i))]) hx hb dX4_choiceFor_58 hl (by decide) rfl (fun ls hl => ?_)
          have L60 : ∀ (nY : Nat), ∀ (j : Nat), (j ≤ 12) → (∀ r p, r < S 1 → p < len w → (S 2 = 2 ∧ (r < i ∨ r = i ∧ p < j) ∨ S 2 = 1 ∧ (len w - 1 - p < i ∨ len w - 1 - p = i ∧ r < j) ∨ S 2 = 0 ∧ (p < i ∨ p = i ∧ r < j)) → stn (lf S r) w p = false) → (13 - j < nY) → ∀ (H : Heap) (locs : List Loc) (ls : Array Slot), va_P D vwCl (gRu cA B L R LL RL TM (nI (S 1))) H → va_D AY (gRu cA B L R LL RL TM (nI (S 1))) → va_S AY sY.heap H locs → lv_has ls 12 [(0, .ref (B 0)), (1, .int (nI w)), (2, .int (nI (S 2))), (3, .int (nI (len w))), (4, .int (nI 1)), (5, .int (nI (S 1))), (6, .int (nI (len w))), (7, .int (nI i)), (8, .int (nI j))] → W pY lY eY { frames := 1, cells := 0, slots := 0, locals := 27 } sY mY aY bY tY cY H locs 0 0 QY (F0 mY 60 ls []) := by
            intro nY60
            induction nY60 with
            | zero => intro j hj hno2 hm60; exact absurd hm60 (Nat.not_lt_zero _)
            | succ nY60 ih60 =>
              intro j hj hno2 hm60 H locs ls hP hD hS hl
              refine lv_iload hx hb dX4_choiceFor_60 (lv_at hl 8 rfl) ?_
              refine lv_iload hx hb dX4_choiceFor_62 (lv_at hl 6 rfl) ?_
              refine xc_ge (tgt := 141) hx hb dX4_choiceFor_64 (by decide) (by omega) (by omega) (fun c64 => ?_) (fun c64 => ?_)
              · refine lv_iinc (v := nI (i + 1)) (lv' := [(7, .int (nI (i + 1))), (0, .ref (B 0)), (1, .int (nI w)), (2, .int (nI (S 2))), (3, .int (nI (len w))), (4, .int (nI 1)), (5, .int (nI (S 1))), (6, .int (nI (len w))), (8, .int (nI j))]) hx hb dX4_choiceFor_141 hl (k := 7) rfl (show nI i + Int32.ofInt 1 = nI (i + 1) from nI_add i 1) (by decide) rfl (fun ls hl => ?_)
                refine lv_goto (tgt := 50) hx hb dX4_choiceFor_144 (by decide) ?_
                exact ih50 (i + 1) (by omega) (fun r p h1 h2 h3 => hno2 r p h1 h2 (by omega)) (by omega) _ _ _ hP hD hS (lv_sub hl [1, 2, 3, 4, 5, 6, 7, 0] rfl)
              · refine lv_iload hx hb dX4_choiceFor_67 (lv_at hl 4 rfl) ?_
                refine lv_if_eq (tgt := 77) hx hb dX4_choiceFor_69 (by decide) (fun c69 => ?_) (fun c69 => ?_)
                · exact absurd c69 (by decide +kernel)
                refine lv_iload hx hb dX4_choiceFor_72 (lv_at hl 7 rfl) ?_
                refine lv_goto (tgt := 79) hx hb dX4_choiceFor_74 (by decide) ?_
                refine lv_istore (lv' := [(9, .int (nI i)), (0, .ref (B 0)), (1, .int (nI w)), (2, .int (nI (S 2))), (3, .int (nI (len w))), (4, .int (nI 1)), (5, .int (nI (S 1))), (6, .int (nI (len w))), (7, .int (nI i)), (8, .int (nI j))]) hx hb dX4_choiceFor_79 hl (by decide) rfl (fun ls hl => ?_)
                refine lv_iload hx hb dX4_choiceFor_81 (lv_at hl 5 rfl) ?_
                refine lv_if_eq (tgt := 91) hx hb dX4_choiceFor_83 (by decide) (fun c83 => ?_) (fun c83 => ?_)
                · exact absurd c83 (by decide +kernel)
                refine lv_iload hx hb dX4_choiceFor_86 (lv_at hl 9 rfl) ?_
                refine lv_goto (tgt := 93) hx hb dX4_choiceFor_88 (by decide) ?_
                refine lv_istore (lv' := [(10, .int (nI j)), (9, .int (nI i)), (0, .ref (B 0)), (1, .int (nI w)), (2, .int (nI (S 2))), (3, .int (nI (len w))), (4, .int (nI 1)), (5, .int (nI (S 1))), (6, .int (nI (len w))), (7, .int (nI i)), (8, .int (nI j))]) hx hb dX4_choiceFor_93 hl (by decide) rfl (fun ls hl => ?_)
                have hway2 : S 2 = 0 ∨ S 2 = 1 ∨ S 2 = 2 := by omega
                refine lv_iload_n hx hb dX4_choiceFor_95 rfl (lv_at hl 4 rfl) ?_
                refine lv_iconst (v := nI 1) hx hb dX4_choiceFor_96 (by decide +kernel) ?_
                refine xc_ne (tgt := 109) hx hb dX4_choiceFor_97 (by decide) (by omega) (by omega) (fun c97 => ?_) (fun c97 => ?_)
                · refine lv_iload hx hb dX4_choiceFor_109 (lv_at hl 0 rfl) ?_
                  refine lv_istore (lv' := [(11, .int (nI j)), (10, .int (nI j)), (9, .int (nI i)), (0, .ref (B 0)), (1, .int (nI w)), (2, .int (nI (S 2))), (3, .int (nI (len w))), (4, .int (nI 1)), (5, .int (nI (S 1))), (6, .int (nI (len w))), (7, .int (nI i)), (8, .int (nI j))]) hx hb dX4_choiceFor_111 hl (by decide) rfl (fun ls hl => ?_)
                  refine lv_aload_n hx hb dX4_choiceFor_113 rfl (lv_at hl 3 rfl) ?_
                  refine lv_iload_n hx hb dX4_choiceFor_114 rfl (lv_at hl 4 rfl) ?_
                  refine lv_iload_n hx hb dX4_choiceFor_115 rfl (lv_at hl 6 rfl) ?_
                  refine lv_iload hx hb dX4_choiceFor_116 (lv_at hl 2 rfl) ?_
                  refine lv_iload hx hb dX4_choiceFor_118 (lv_at hl 0 rfl) ?_
                  refine ci_V (As := [.int (nI w), .int (nI (len w)), .int (nI i), .int (nI j)]) (rest := []) h0 hK hN hP hD hS hA hl.1 (k_X4_appliesAt lY D cA B S L R LL RL TM w i j (hI) (hr) (hw) (by omega) (by omega)) [0, 1, 2, 3, 4, 5] rfl (by decide) (cwV 4 hts gX4_choiceFor_X4_appliesAt rfl rfl rfl (by decide +kernel) ⟨Nat.le_of_ble_eq_true rfl, Nat.le_of_ble_eq_true rfl⟩) (cl_recv (ci := 4) (q := (RX4, TX4, 6)) (q0 := 0) hP hK rfl rfl) rfl rfl (Nat.le_of_ble_eq_true rfl) dX4_choiceFor_120 ⟨Nat.zero_le _, Nat.zero_le _⟩ (fun rY wY H locs hwY hJ hS => ?_)
                  obtain ⟨e1Y, e2Y⟩ := hwY
                  have e3Y := e1Y.symm
                  clear e1Y
                  subst e3Y
                  have e3Y := e2Y.symm
                  clear e2Y
                  subst e3Y
                  obtain ⟨hP, hD⟩ := hJ rfl
                  have hP : va_P D vwCl (gRu cA B L R LL RL TM (nI (S 1))) H := hP
                  have hD : va_D AY (gRu cA B L R LL RL TM (nI (S 1))) := hD
                  refine xb_eq (tgt := 135) hx hb dX4_choiceFor_123 (by decide) (fun c123 => ?_) (fun c123 => ?_)
                  · refine lv_iinc (v := nI (j + 1)) (lv' := [(8, .int (nI (j + 1))), (11, .int (nI j)), (10, .int (nI j)), (9, .int (nI i)), (0, .ref (B 0)), (1, .int (nI w)), (2, .int (nI (S 2))), (3, .int (nI (len w))), (4, .int (nI 1)), (5, .int (nI (S 1))), (6, .int (nI (len w))), (7, .int (nI i))]) hx hb dX4_choiceFor_135 hl (k := 11) rfl (show nI j + Int32.ofInt 1 = nI (j + 1) from nI_add j 1) (by decide) rfl (fun ls hl => ?_)
                    refine lv_goto (tgt := 60) hx hb dX4_choiceFor_138 (by decide) ?_
                    exact ih60 (j + 1) (by omega) (fun r p h1 h2 h3 => by rcases Decidable.em (r = i ∧ p = j) with q | q; (rw [q.1, q.2]; exact c123); exact hno2 r p h1 h2 (by omega)) (by omega) _ _ _ hP hD hS (lv_sub hl [4, 5, 6, 7, 8, 9, 10, 11, 0] rfl)
                  · refine lv_iload hx hb dX4_choiceFor_126 (lv_at hl 0 rfl) ?_
                    refine lv_bipush (v := nI 10) hx hb dX4_choiceFor_128 (by decide +kernel) ?_
                    refine lv_imul hx hb dX4_choiceFor_130 ?_
                    refine xt (show (nI j) * (nI 10) = nI (j * 10) from pk_mul _ _) ?_
                    refine lv_iload hx hb dX4_choiceFor_131 (lv_at hl 2 rfl) ?_
                    refine lv_iadd hx hb dX4_choiceFor_133 ?_
                    refine xt (show (nI (j * 10)) + (nI i) = nI (j * 10 + i) from nI_add _ _) ?_
                    obtain ⟨b1, b2, b3⟩ := ch_is hI hw (r := i) (p := j) (by omega) (by omega) c123 (fun r p h1 h2 h3 => Nat.not_lt.mp (fun q => by rw [hno2 r p h1 h2 (rnk_lt (by omega) (by omega) (by omega) (by omega) (by omega) (by omega) q (by omega))] at h3; cases h3))
                    exact hret _ _ _ _ _ _ dX4_choiceFor_134 ⟨by rw [chI_yes b3, b1, b2], rfl⟩ hP hD hS
                · exact absurd c97 (by omega)
          exact L60 _ 0 (by omega) (fun r p h1 h2 h3 => hno r p h1 h2 (by omega)) (Nat.lt_succ_self _) _ _ _ hP hD hS (lv_sub hl [1, 2, 3, 4, 5, 6, 7, 8, 0] rfl)
    exact L50 _ 0 (by omega) (fun r p h1 h2 h3 => by omega) (Nat.lt_succ_self _) _ _ _ hP hD hS (lv_sub hl [5, 6, 7, 4, 3, 2, 1, 0] rfl)
end
section
theorem hi_X3_firstTimeOf_X3 : ∀ w ∈ u_ws RX3 TX3 5, w ∈ wsX3_firstTimeOf := by decide +kernel
set_option maxHeartbeats 1000000 in
set_option maxRecDepth 100000 in
theorem k_X3_firstTimeOf (lY : Launch) (D : va_G) (cA : Nat → ClassId) (Bd : Nat → Nat) (WD RD : Nat → Int32) (oc rs : Int32) (k w : Nat) (f : Nat → Nat) (hk : k ≤ 100) (hw : w < 2147483648) (hf : ∀ i, i < k → WD i = nI (f i) ∧ f i < 2147483648) : MetI lY D cA yX3_firstTimeOf wsX3_firstTimeOf 0 0 [.ref (Bd 0), .int (nI w)] (gRd cA Bd WD RD oc (nI k) rs) (fun rY wY => rY = nI (ff (fun i => decide (f i = w)) k) ∧ wY = gRd cA Bd WD RD oc (nI k) rs) := by
  refine MetI.of (cc := cX3_firstTimeOf) (maxL := 3) (ret := (some .int)) (by decide) rfl (Nat.le_of_ble_eq_true rfl) (Or.inl rfl) ?_
  intro pY eY sY mY aY bY tY cY QY AY ls h0 hP hK hN hD hA hS hl hret
  obtain ⟨hx, hb, hml, hown, hts⟩ := id h0
  have hl : lv_has ls 3 [(0, .ref (Bd 0)), (1, .int (nI w))] := hl
  have hP : va_P D vwCl (gRd cA Bd WD RD oc (nI k) rs) sY.heap := hP
  have hD : va_D AY (gRd cA Bd WD RD oc (nI k) rs) := hD
  refine lv_iconst (v := nI 0) hx hb dX3_firstTimeOf_0 (by decide +kernel) ?_
  refine lv_istore_n (lv' := [(2, .int (nI 0)), (0, .ref (Bd 0)), (1, .int (nI w))]) hx hb dX3_firstTimeOf_1 rfl hl (by decide) rfl (fun ls hl => ?_)
  have L2 : ∀ (nY : Nat), ∀ (i : Nat), (i ≤ k) → (∀ j, j < i → decide (f j = w) = false) → (k - i < nY) → ∀ (H : Heap) (locs : List Loc) (ls : Array Slot), va_P D vwCl (gRd cA Bd WD RD oc (nI k) rs) H → va_D AY (gRd cA Bd WD RD oc (nI k) rs) → va_S AY sY.heap H locs → lv_has ls 3 [(0, .ref (Bd 0)), (1, .int (nI w)), (2, .int (nI i))] → W pY lY eY { frames := 0, cells := 0, slots := 0, locals := 0 } sY mY aY bY tY cY H locs 0 0 QY (F0 mY 2 ls []) := by
    intro nY2
    induction nY2 with
    | zero => intro i hi hno hm2; exact absurd hm2 (Nat.not_lt_zero _)
    | succ nY2 ih2 =>
      intro i hi hno hm2 H locs ls hP hD hS hl
      refine lv_iload_n hx hb dX3_firstTimeOf_2 rfl (lv_at hl 2 rfl) ?_
      refine lv_aload_n hx hb dX3_firstTimeOf_3 rfl (lv_at hl 0 rfl) ?_
      refine va_get (D := D) (ci := 3) (v := .int (nI k)) (C := RX3) (T := TX3) (N := 5) hx hb hts hi_X3_firstTimeOf_X3 hown hK hP 0 rfl rfl 3 (by decide) (hts (.fieldLink RX3 18 "FallingWords$Reduction" "steps" "I") (by decide +kernel)) (fun _ h9 => h9) rfl dX3_firstTimeOf_4 ?_
      refine xc_ge (tgt := 28) hx hb dX3_firstTimeOf_7 (by decide) (by omega) (by omega) (fun c7 => ?_) (fun c7 => ?_)
      · refine lv_aload_n hx hb dX3_firstTimeOf_28 rfl (lv_at hl 0 rfl) ?_
        refine va_get (D := D) (ci := 3) (v := .int (nI k)) (C := RX3) (T := TX3) (N := 5) hx hb hts hi_X3_firstTimeOf_X3 hown hK hP 0 rfl rfl 3 (by decide) (hts (.fieldLink RX3 18 "FallingWords$Reduction" "steps" "I") (by decide +kernel)) (fun _ h9 => h9) rfl dX3_firstTimeOf_29 ?_
        exact hret _ _ _ _ _ _ dX3_firstTimeOf_32 ⟨congrArg nI (ff_none (fun j hj => hno j (by omega))).symm, rfl⟩ hP hD hS
      · obtain ⟨g1, g2⟩ := hf i (by omega)
        refine lv_aload_n hx hb dX3_firstTimeOf_10 rfl (lv_at hl 0 rfl) ?_
        refine va_get (D := D) (ci := 3) (v := .ref (Bd 1)) (C := RX3) (T := TX3) (N := 5) hx hb hts hi_X3_firstTimeOf_X3 hown hK hP 0 rfl rfl 0 (by decide) (hts (.fieldLink RX3 9 "FallingWords$Reduction" "words" "[I") (by decide +kernel)) (fun _ h9 => h9) rfl dX3_firstTimeOf_11 ?_
        refine lv_iload_n hx hb dX3_firstTimeOf_14 rfl (lv_at hl 2 rfl) ?_
        refine xa_ld (v := nI (f i)) hx hb hK hP 1 rfl (by omega) (by decide) (g1) dX3_firstTimeOf_15 ?_
        refine lv_iload_n hx hb dX3_firstTimeOf_16 rfl (lv_at hl 1 rfl) ?_
        refine xc_ne (tgt := 22) hx hb dX3_firstTimeOf_17 (by decide) (by omega) (by omega) (fun c17 => ?_) (fun c17 => ?_)
        · refine lv_iinc (v := nI (i + 1)) (lv' := [(2, .int (nI (i + 1))), (0, .ref (Bd 0)), (1, .int (nI w))]) hx hb dX3_firstTimeOf_22 hl (k := 2) rfl (show nI i + Int32.ofInt 1 = nI (i + 1) from nI_add i 1) (by decide) rfl (fun ls hl => ?_)
          refine lv_goto (tgt := 2) hx hb dX3_firstTimeOf_25 (by decide) ?_
          exact ih2 (i + 1) (by omega) (lt_s hno (decide_eq_false c17)) (by omega) _ _ _ hP hD hS (lv_sub hl [1, 2, 0] rfl)
        · refine lv_iload_n hx hb dX3_firstTimeOf_20 rfl (lv_at hl 2 rfl) ?_
          exact hret _ _ _ _ _ _ dX3_firstTimeOf_21 ⟨congrArg nI (ff_is (by omega) (decide_eq_true c17) hno).symm, rfl⟩ hP hD hS
  exact L2 _ 0 (by omega) (fun k h => absurd h (Nat.not_lt_zero k)) (Nat.lt_succ_self _) _ _ _ hP hD hS (lv_sub hl [1, 2, 0] rfl)

theorem hi_X3_last_X3 : ∀ w ∈ u_ws RX3 TX3 5, w ∈ wsX3_last := by decide +kernel
set_option maxHeartbeats 1000000 in
set_option maxRecDepth 100000 in
theorem k_X3_last (lY : Launch) (D : va_G) (cA : Nat → ClassId) (Bd : Nat → Nat) (WD RD : Nat → Int32) (oc rs : Int32) (k v : Nat) (hk : k ≤ 100) (hv : WD k = nI v) : MetI lY D cA yX3_last wsX3_last 0 0 [.ref (Bd 0)] (gRd cA Bd WD RD oc (nI k) rs) (fun rY wY => rY = nI v ∧ wY = gRd cA Bd WD RD oc (nI k) rs) := by
  refine MetI.of (cc := cX3_last) (maxL := 1) (ret := (some .int)) (by decide) rfl (Nat.le_of_ble_eq_true rfl) (Or.inl rfl) ?_
  intro pY eY sY mY aY bY tY cY QY AY ls h0 hP hK hN hD hA hS hl hret
  obtain ⟨hx, hb, hml, hown, hts⟩ := id h0
  have hl : lv_has ls 1 [(0, .ref (Bd 0))] := hl
  have hP : va_P D vwCl (gRd cA Bd WD RD oc (nI k) rs) sY.heap := hP
  have hD : va_D AY (gRd cA Bd WD RD oc (nI k) rs) := hD
  refine lv_aload_n hx hb dX3_last_0 rfl (lv_at hl 0 rfl) ?_
  refine va_get (D := D) (ci := 3) (v := .ref (Bd 1)) (C := RX3) (T := TX3) (N := 5) hx hb hts hi_X3_last_X3 hown hK hP 0 rfl rfl 0 (by decide) (hts (.fieldLink RX3 9 "FallingWords$Reduction" "words" "[I") (by decide +kernel)) (fun _ h9 => h9) rfl dX3_last_1 ?_
  refine lv_aload_n hx hb dX3_last_4 rfl (lv_at hl 0 rfl) ?_
  refine va_get (D := D) (ci := 3) (v := .int (nI k)) (C := RX3) (T := TX3) (N := 5) hx hb hts hi_X3_last_X3 hown hK hP 0 rfl rfl 3 (by decide) (hts (.fieldLink RX3 18 "FallingWords$Reduction" "steps" "I") (by decide +kernel)) (fun _ h9 => h9) rfl dX3_last_5 ?_
  refine xa_ld (v := nI v) hx hb hK hP 1 rfl (by omega) (by decide) (hv) dX3_last_8 ?_
  exact hret _ _ _ _ _ _ dX3_last_9 ⟨rfl, rfl⟩ hP hD hS

theorem hi_X3_run_X3 : ∀ w ∈ u_ws RX3 TX3 5, w ∈ wsX3_run := by decide +kernel
set_option maxHeartbeats 1000000 in
set_option maxRecDepth 100000 in
theorem k_X3_run (lY : Launch) (D : va_G) (cA : Nat → ClassId) (Bd B : Nat → Nat) (WD RD : Nat → Int32) (oc ns rs : Int32) (S : St) (L R LL RL TM : Nat → Int32) (w : Nat) (hI : IR S) (hr : rRu S L R LL RL TM) (hw : vw 12 w) : MetV lY D cA yX3_run wsX3_run 2 58 0 0 [.ref (Bd 0), .ref (B 0), .int (nI (S 2)), .int (nI w)] (gRd cA Bd WD RD oc ns rs ++ gRu cA B L R LL RL TM (nI (S 1))) (fun wY => ∃ (WD' : Nat → Int32) (RD' : Nat → Int32) (rs' : Int32), wY = gRd cA Bd WD' RD' (nI ((red S w).1)) (nI ((red S w).2.1)) rs' ++ gRu cA B L R LL RL TM (nI (S 1)) ∧ (∀ i, i ≤ (red S w).2.1 → WD' i = nI (xs S w i)) ∧ (∀ i, i < (red S w).2.1 → RD' i = nI (chr S (xs S w i))) ∧ ((red S w).1 = 1 → rs' = nI (red S w).2.2)) := by
  refine MetV.of (cc := cX3_run) (maxL := 5) (by decide) rfl (Nat.le_of_ble_eq_true rfl) ?_
  intro pY eY sY mY aY bY tY cY QY AY ls h0 hP hK hN hD hA hS hl hin hret
  obtain ⟨hx, hb, hml, hown, hts⟩ := id h0
  have hl : lv_has ls 5 [(0, .ref (Bd 0)), (1, .ref (B 0)), (2, .int (nI (S 2))), (3, .int (nI w))] := hl
  have hP : va_P D vwCl (gRd cA Bd WD RD oc ns rs ++ gRu cA B L R LL RL TM (nI (S 1))) sY.heap := hP
  have hD : va_D AY (gRd cA Bd WD RD oc ns rs ++ gRu cA B L R LL RL TM (nI (S 1))) := hD
  refine lv_aload_n hx hb dX3_run_0 rfl (lv_at hl 0 rfl) ?_
  refine va_get (D := D) (ci := 3) (v := .ref (Bd 1)) (C := RX3) (T := TX3) (N := 5) hx hb hts hi_X3_run_X3 hown hK hP 0 rfl rfl 0 (by decide) (hts (.fieldLink RX3 9 "FallingWords$Reduction" "words" "[I") (by decide +kernel)) (fun _ h9 => h9) rfl dX3_run_1 ?_
  refine lv_iconst (v := nI 0) hx hb dX3_run_4 (by decide +kernel) ?_
  refine lv_iload_n hx hb dX3_run_5 rfl (lv_at hl 3 rfl) ?_
  refine xa_st hx hb hK hP hD hS 1 rfl (by omega) (by decide) dX3_run_6 (fun H locs hP hD hS => ?_)
  have hP : va_P D vwCl (gRd cA Bd (upd WD 0 (nI w)) RD oc ns rs ++ gRu cA B L R LL RL TM (nI (S 1))) H := hP
  have hD : va_D AY (gRd cA Bd (upd WD 0 (nI w)) RD oc ns rs ++ gRu cA B L R LL RL TM (nI (S 1))) := hD
  refine lv_aload_n hx hb dX3_run_7 rfl (lv_at hl 0 rfl) ?_
  refine lv_iconst (v := nI 0) hx hb dX3_run_8 (by decide +kernel) ?_
  refine va_put (D := D) (ci := 3) (v := .int (nI 0)) (ty := .int) (C := RX3) (T := TX3) (N := 5) hx hb hts hi_X3_run_X3 tyX3 tyX3_ok nmX3 hown hK hP hD hS 0 rfl rfl 3 (by decide) (hts (.fieldLink RX3 18 "FallingWords$Reduction" "steps" "I") (by decide +kernel)) (fun _ h9 => h9) rfl (by decide +kernel) rfl rfl (Nat.le_of_ble_eq_true rfl) dX3_run_9 (fun H locs hP hD hS => ?_)
  have hP : va_P D vwCl (gRd cA Bd (upd WD 0 (nI w)) RD oc (nI 0) rs ++ gRu cA B L R LL RL TM (nI (S 1))) H := hP
  have hD : va_D AY (gRd cA Bd (upd WD 0 (nI w)) RD oc (nI 0) rs ++ gRu cA B L R LL RL TM (nI (S 1))) := hD
  have L12 : ∀ (nY : Nat), ∀ (k : Nat) (WD' : Nat → Int32) (RD' : Nat → Int32) (oc' : Int32) (rs' : Int32), (k ≤ 100) → (∀ i, i ≤ k → WD' i = nI (xs S w i)) → (∀ i, i < k → RD' i = nI (chr S (xs S w i))) → (redF S w (101 - k) k = red S w) → (∀ i, i ≤ k → vw 12 (xs S w i)) → (101 - k < nY) → ∀ (H : Heap) (locs : List Loc) (ls : Array Slot), va_P D vwCl (gRd cA Bd WD' RD' oc' (nI k) rs' ++ gRu cA B L R LL RL TM (nI (S 1))) H → va_D AY (gRd cA Bd WD' RD' oc' (nI k) rs' ++ gRu cA B L R LL RL TM (nI (S 1))) → va_S AY sY.heap H locs → lv_has ls 5 [(0, .ref (Bd 0)), (1, .ref (B 0)), (2, .int (nI (S 2))), (3, .int (nI w))] → W pY lY eY { frames := 2, cells := 0, slots := 0, locals := 58 } sY mY aY bY tY cY H locs 0 0 QY (F0 mY 12 ls []) := by
    intro nY12
    induction nY12 with
    | zero => intro k WD' RD' oc' rs' hk g1 g2 hred hxv hm12; exact absurd hm12 (Nat.not_lt_zero _)
    | succ nY12 ih12 =>
      intro k WD' RD' oc' rs' hk g1 g2 hred hxv hm12 H locs ls hP hD hS hl
      have hxk := hxv k (Nat.le_refl k)
      have hB := vw_B hxk (by decide)
      refine lv_aload_n hx hb dX3_run_12 rfl (lv_at hl 0 rfl) ?_
      refine va_get (D := D) (ci := 3) (v := .int (nI k)) (C := RX3) (T := TX3) (N := 5) hx hb hts hi_X3_run_X3 hown hK hP 0 rfl rfl 3 (by decide) (hts (.fieldLink RX3 18 "FallingWords$Reduction" "steps" "I") (by decide +kernel)) (fun _ h9 => h9) rfl dX3_run_13 ?_
      refine lv_bipush (v := nI 100) hx hb dX3_run_16 (by decide +kernel) ?_
      refine xc_gt (tgt := 158) hx hb dX3_run_18 (by decide) (by omega) (by omega) (fun c18 => ?_) (fun c18 => ?_)
      · exact absurd c18 (by omega)
      · refine lv_aload_n hx hb dX3_run_21 rfl (lv_at hl 0 rfl) ?_
        refine lv_aload_n hx hb dX3_run_22 rfl (lv_at hl 0 rfl) ?_
        refine lv_aload_n hx hb dX3_run_23 rfl (lv_at hl 0 rfl) ?_
        refine va_get (D := D) (ci := 3) (v := .ref (Bd 1)) (C := RX3) (T := TX3) (N := 5) hx hb hts hi_X3_run_X3 hown hK hP 0 rfl rfl 0 (by decide) (hts (.fieldLink RX3 9 "FallingWords$Reduction" "words" "[I") (by decide +kernel)) (fun _ h9 => h9) rfl dX3_run_24 ?_
        refine lv_aload_n hx hb dX3_run_27 rfl (lv_at hl 0 rfl) ?_
        refine va_get (D := D) (ci := 3) (v := .int (nI k)) (C := RX3) (T := TX3) (N := 5) hx hb hts hi_X3_run_X3 hown hK hP 0 rfl rfl 3 (by decide) (hts (.fieldLink RX3 18 "FallingWords$Reduction" "steps" "I") (by decide +kernel)) (fun _ h9 => h9) rfl dX3_run_28 ?_
        refine xa_ld (v := nI (xs S w k)) hx hb hK hP 1 rfl (by omega) (by decide) (g1 k (Nat.le_refl k)) dX3_run_31 ?_
        refine ci_V (As := [.int (nI (xs S w k))]) (rest := [.ref (Bd 0)]) h0 hK hN hP hD hS hA hl.1 (k_X3_firstTimeOf lY D cA Bd WD' RD' oc' rs' k (xs S w k) (xs S w) (hk) (by omega) (fun i hi => ⟨g1 i (by omega), by have := vw_B (hxv i (by omega)) (by decide); omega⟩)) [0, 1, 2] rfl (by decide) (cwV 1 hts gX3_run_X3_firstTimeOf rfl rfl rfl (by decide +kernel) ⟨Nat.le_of_ble_eq_true rfl, Nat.le_of_ble_eq_true rfl⟩) (cl_recv (ci := 3) (q := (RX3, TX3, 5)) (q0 := 0) hP hK rfl rfl) rfl rfl (Nat.le_of_ble_eq_true rfl) dX3_run_32 ⟨Nat.zero_le _, Nat.zero_le _⟩ (fun rY wY H locs hwY hJ hS => ?_)
        obtain ⟨e1Y, e2Y⟩ := hwY
        have e3Y := e1Y.symm
        clear e1Y
        subst e3Y
        have e3Y := e2Y.symm
        clear e2Y
        subst e3Y
        obtain ⟨hP, hD⟩ := hJ rfl
        have hP : va_P D vwCl (gRd cA Bd WD' RD' oc' (nI k) rs' ++ gRu cA B L R LL RL TM (nI (S 1))) H := hP
        have hD : va_D AY (gRd cA Bd WD' RD' oc' (nI k) rs' ++ gRu cA B L R LL RL TM (nI (S 1))) := hD
        refine xt (show nI (ff (fun i => decide ((xs S w) i = (xs S w k))) k) = nI (fst S w k) from rfl) ?_
        refine va_put (D := D) (ci := 3) (v := .int (nI (fst S w k))) (ty := .int) (C := RX3) (T := TX3) (N := 5) hx hb hts hi_X3_run_X3 tyX3 tyX3_ok nmX3 hown hK hP hD hS 0 rfl rfl 4 (by decide) (hts (.fieldLink RX3 26 "FallingWords$Reduction" "ringStart" "I") (by decide +kernel)) (fun _ h9 => h9) rfl (by decide +kernel) rfl rfl (Nat.le_of_ble_eq_true rfl) dX3_run_35 (fun H locs hP hD hS => ?_)
        have hP : va_P D vwCl (gRd cA Bd WD' RD' oc' (nI k) (nI (fst S w k)) ++ gRu cA B L R LL RL TM (nI (S 1))) H := hP
        have hD : va_D AY (gRd cA Bd WD' RD' oc' (nI k) (nI (fst S w k)) ++ gRu cA B L R LL RL TM (nI (S 1))) := hD
        have hfl : fst S w k ≤ k := ff_le _ k
        refine lv_aload_n hx hb dX3_run_38 rfl (lv_at hl 0 rfl) ?_
        refine va_get (D := D) (ci := 3) (v := .int (nI (fst S w k))) (C := RX3) (T := TX3) (N := 5) hx hb hts hi_X3_run_X3 hown hK hP 0 rfl rfl 4 (by decide) (hts (.fieldLink RX3 26 "FallingWords$Reduction" "ringStart" "I") (by decide +kernel)) (fun _ h9 => h9) rfl dX3_run_39 ?_
        refine lv_aload_n hx hb dX3_run_42 rfl (lv_at hl 0 rfl) ?_
        refine va_get (D := D) (ci := 3) (v := .int (nI k)) (C := RX3) (T := TX3) (N := 5) hx hb hts hi_X3_run_X3 hown hK hP 0 rfl rfl 3 (by decide) (hts (.fieldLink RX3 18 "FallingWords$Reduction" "steps" "I") (by decide +kernel)) (fun _ h9 => h9) rfl dX3_run_43 ?_
        refine xc_ge (tgt := 55) hx hb dX3_run_46 (by decide) (by omega) (by omega) (fun c46 => ?_) (fun c46 => ?_)
        · refine lv_aload_n hx hb dX3_run_55 rfl (lv_at hl 1 rfl) ?_
          refine lv_aload_n hx hb dX3_run_56 rfl (lv_at hl 0 rfl) ?_
          refine va_get (D := D) (ci := 3) (v := .ref (Bd 1)) (C := RX3) (T := TX3) (N := 5) hx hb hts hi_X3_run_X3 hown hK hP 0 rfl rfl 0 (by decide) (hts (.fieldLink RX3 9 "FallingWords$Reduction" "words" "[I") (by decide +kernel)) (fun _ h9 => h9) rfl dX3_run_57 ?_
          refine lv_aload_n hx hb dX3_run_60 rfl (lv_at hl 0 rfl) ?_
          refine va_get (D := D) (ci := 3) (v := .int (nI k)) (C := RX3) (T := TX3) (N := 5) hx hb hts hi_X3_run_X3 hown hK hP 0 rfl rfl 3 (by decide) (hts (.fieldLink RX3 18 "FallingWords$Reduction" "steps" "I") (by decide +kernel)) (fun _ h9 => h9) rfl dX3_run_61 ?_
          refine xa_ld (v := nI (xs S w k)) hx hb hK hP 1 rfl (by omega) (by decide) (g1 k (Nat.le_refl k)) dX3_run_64 ?_
          refine lv_iload_n hx hb dX3_run_65 rfl (lv_at hl 2 rfl) ?_
          refine ci_VN (As := [.int (nI (xs S w k)), .int (nI (S 2))]) (rest := []) h0 hK hN hP hD hS hA hl.1 (k_X4_choiceFor lY D cA B S L R LL RL TM (xs S w k) (hI) (hr) (hxk)) [3, 4, 5, 6, 7, 8] rfl (by decide) ⟨(va_cnB 2 hts gX3_run_X4_choiceFor_n32 rfl rfl rfl (hN (.methodLinkNest RX3 32 yX4_choiceFor "FallingWords") (by decide +kernel)) (hts (.initialized RX4) (by decide +kernel)) (by decide +kernel) ⟨Nat.le_of_ble_eq_true rfl, Nat.le_of_ble_eq_true rfl⟩), hts (.instanceMethod yX4_choiceFor) (by decide +kernel), hts (.selects RX4 yX4_choiceFor yX4_choiceFor) (by decide +kernel)⟩ (cl_recv (ci := 4) (q := (RX4, TX4, 6)) (q0 := 3) hP hK rfl rfl) rfl rfl (Nat.le_of_ble_eq_true rfl) dX3_run_66 ⟨Nat.zero_le _, Nat.zero_le _⟩ (fun rY wY H locs hwY hJ hS => ?_)
          obtain ⟨e1Y, e2Y⟩ := hwY
          have e3Y := e1Y.symm
          clear e1Y
          subst e3Y
          have e3Y := e2Y.symm
          clear e2Y
          subst e3Y
          obtain ⟨hP, hD⟩ := hJ rfl
          have hP : va_P D vwCl (gRd cA Bd WD' RD' oc' (nI k) (nI (fst S w k)) ++ gRu cA B L R LL RL TM (nI (S 1))) H := hP
          have hD : va_D AY (gRd cA Bd WD' RD' oc' (nI k) (nI (fst S w k)) ++ gRu cA B L R LL RL TM (nI (S 1))) := hD
          refine lv_istore (lv' := [(4, .int (chI S (xs S w k))), (0, .ref (Bd 0)), (1, .ref (B 0)), (2, .int (nI (S 2))), (3, .int (nI w))]) hx hb dX3_run_69 hl (by decide) rfl (fun ls hl => ?_)
          refine lv_iload hx hb dX3_run_71 (lv_at hl 0 rfl) ?_
          refine xz_ge (tgt := 82) hx hb dX3_run_73 (by decide) (fun c73 => ?_) (fun c73 => ?_)
          · have hn := chI_ge c73
            obtain ⟨q1, q2, q3, q4, q5⟩ := ch_lt hI hxk hn
            have h10 := hI.1
            have hl : lv_has ls 5 [(4, .int (nI (chp S (xs S w k) * 10 + chr S (xs S w k)))), (0, .ref (Bd 0)), (1, .ref (B 0)), (2, .int (nI (S 2))), (3, .int (nI w))] := Eq.mp (congrArg (fun zY : Int32 => lv_has ls 5 [(4, .int zY), (0, .ref (Bd 0)), (1, .ref (B 0)), (2, .int (nI (S 2))), (3, .int (nI w))]) (show chI S (xs S w k) = nI (chp S (xs S w k) * 10 + chr S (xs S w k)) from chI_yes hn)) hl
            refine lv_aload_n hx hb dX3_run_82 rfl (lv_at hl 1 rfl) ?_
            refine va_get (D := D) (ci := 3) (v := .int (nI k)) (C := RX3) (T := TX3) (N := 5) hx hb hts hi_X3_run_X3 hown hK hP 0 rfl rfl 3 (by decide) (hts (.fieldLink RX3 18 "FallingWords$Reduction" "steps" "I") (by decide +kernel)) (fun _ h9 => h9) rfl dX3_run_83 ?_
            refine lv_bipush (v := nI 100) hx hb dX3_run_86 (by decide +kernel) ?_
            refine xc_ne (tgt := 97) hx hb dX3_run_88 (by decide) (by omega) (by omega) (fun c88 => ?_) (fun c88 => ?_)
            · refine lv_aload_n hx hb dX3_run_97 rfl (lv_at hl 1 rfl) ?_
              refine va_get (D := D) (ci := 3) (v := .ref (Bd 2)) (C := RX3) (T := TX3) (N := 5) hx hb hts hi_X3_run_X3 hown hK hP 0 rfl rfl 1 (by decide) (hts (.fieldLink RX3 15 "FallingWords$Reduction" "rulesUsed" "[I") (by decide +kernel)) (fun _ h9 => h9) rfl dX3_run_98 ?_
              refine lv_aload_n hx hb dX3_run_101 rfl (lv_at hl 1 rfl) ?_
              refine va_get (D := D) (ci := 3) (v := .int (nI k)) (C := RX3) (T := TX3) (N := 5) hx hb hts hi_X3_run_X3 hown hK hP 0 rfl rfl 3 (by decide) (hts (.fieldLink RX3 18 "FallingWords$Reduction" "steps" "I") (by decide +kernel)) (fun _ h9 => h9) rfl dX3_run_102 ?_
              refine lv_iload hx hb dX3_run_105 (lv_at hl 0 rfl) ?_
              refine ci_SN (As := [.int (nI (chp S (xs S w k) * 10 + chr S (xs S w k)))]) (rest := [.int (nI k), .ref (Bd 2)]) h0 hK hN hP hD hS hA hl.1 (k_X4_ruleIn lY D cA (chp S (xs S w k) * 10 + chr S (xs S w k)) (by omega)) [] rfl (by decide) ⟨(va_cnB 1 hts gX3_run_X4_ruleIn_n38 rfl rfl rfl (hN (.methodLinkNest RX3 38 yX4_ruleIn "FallingWords") (by decide +kernel)) (hts (.initialized RX4) (by decide +kernel)) (by decide +kernel) ⟨Nat.le_of_ble_eq_true rfl, Nat.le_of_ble_eq_true rfl⟩), hts (.static yX4_ruleIn) (by decide +kernel), trivial⟩ rfl rfl (Nat.le_of_ble_eq_true rfl) dX3_run_107 ⟨Nat.zero_le _, Nat.zero_le _⟩ (fun rY wY H locs hwY hJ hS => ?_)
              obtain ⟨e1Y, e2Y⟩ := hwY
              have e3Y := e1Y.symm
              clear e1Y
              subst e3Y
              have e3Y := e2Y.symm
              clear e2Y
              subst e3Y
              obtain ⟨hP, hD⟩ := hJ rfl
              have hP : va_P D vwCl (gRd cA Bd WD' RD' oc' (nI k) (nI (fst S w k)) ++ gRu cA B L R LL RL TM (nI (S 1))) H := hP
              have hD : va_D AY (gRd cA Bd WD' RD' oc' (nI k) (nI (fst S w k)) ++ gRu cA B L R LL RL TM (nI (S 1))) := hD
              refine xt (show nI ((chp S (xs S w k) * 10 + chr S (xs S w k)) % 10) = nI (chr S (xs S w k)) from congrArg nI (by omega)) ?_
              refine xa_st hx hb hK hP hD hS 2 rfl (by omega) (by decide) dX3_run_110 (fun H locs hP hD hS => ?_)
              have hP : va_P D vwCl (gRd cA Bd WD' (upd RD' k (nI (chr S (xs S w k)))) oc' (nI k) (nI (fst S w k)) ++ gRu cA B L R LL RL TM (nI (S 1))) H := hP
              have hD : va_D AY (gRd cA Bd WD' (upd RD' k (nI (chr S (xs S w k)))) oc' (nI k) (nI (fst S w k)) ++ gRu cA B L R LL RL TM (nI (S 1))) := hD
              refine lv_aload_n hx hb dX3_run_111 rfl (lv_at hl 1 rfl) ?_
              refine va_get (D := D) (ci := 3) (v := .ref (Bd 1)) (C := RX3) (T := TX3) (N := 5) hx hb hts hi_X3_run_X3 hown hK hP 0 rfl rfl 0 (by decide) (hts (.fieldLink RX3 9 "FallingWords$Reduction" "words" "[I") (by decide +kernel)) (fun _ h9 => h9) rfl dX3_run_112 ?_
              refine lv_aload_n hx hb dX3_run_115 rfl (lv_at hl 1 rfl) ?_
              refine va_get (D := D) (ci := 3) (v := .int (nI k)) (C := RX3) (T := TX3) (N := 5) hx hb hts hi_X3_run_X3 hown hK hP 0 rfl rfl 3 (by decide) (hts (.fieldLink RX3 18 "FallingWords$Reduction" "steps" "I") (by decide +kernel)) (fun _ h9 => h9) rfl dX3_run_116 ?_
              refine lv_iconst (v := nI 1) hx hb dX3_run_119 (by decide +kernel) ?_
              refine lv_iadd hx hb dX3_run_120 ?_
              refine xt (show (nI k) + (nI 1) = nI (k + 1) from nI_add _ _) ?_
              refine lv_aload_n hx hb dX3_run_121 rfl (lv_at hl 2 rfl) ?_
              refine lv_aload_n hx hb dX3_run_122 rfl (lv_at hl 1 rfl) ?_
              refine va_get (D := D) (ci := 3) (v := .ref (Bd 1)) (C := RX3) (T := TX3) (N := 5) hx hb hts hi_X3_run_X3 hown hK hP 0 rfl rfl 0 (by decide) (hts (.fieldLink RX3 9 "FallingWords$Reduction" "words" "[I") (by decide +kernel)) (fun _ h9 => h9) rfl dX3_run_123 ?_
              refine lv_aload_n hx hb dX3_run_126 rfl (lv_at hl 1 rfl) ?_
              refine va_get (D := D) (ci := 3) (v := .int (nI k)) (C := RX3) (T := TX3) (N := 5) hx hb hts hi_X3_run_X3 hown hK hP 0 rfl rfl 3 (by decide) (hts (.fieldLink RX3 18 "FallingWords$Reduction" "steps" "I") (by decide +kernel)) (fun _ h9 => h9) rfl dX3_run_127 ?_
              refine xa_ld (v := nI (xs S w k)) hx hb hK hP 1 rfl (by omega) (by decide) (g1 k (Nat.le_refl k)) dX3_run_130 ?_
              refine lv_iload hx hb dX3_run_131 (lv_at hl 0 rfl) ?_
              refine ci_SN (As := [.int (nI (chp S (xs S w k) * 10 + chr S (xs S w k)))]) (rest := [.int (nI (xs S w k)), .ref (B 0), .int (nI (k + 1)), .ref (Bd 1)]) h0 hK hN hP hD hS hA hl.1 (k_X4_ruleIn lY D cA (chp S (xs S w k) * 10 + chr S (xs S w k)) (by omega)) [] rfl (by decide) ⟨(va_cnB 1 hts gX3_run_X4_ruleIn_n38 rfl rfl rfl (hN (.methodLinkNest RX3 38 yX4_ruleIn "FallingWords") (by decide +kernel)) (hts (.initialized RX4) (by decide +kernel)) (by decide +kernel) ⟨Nat.le_of_ble_eq_true rfl, Nat.le_of_ble_eq_true rfl⟩), hts (.static yX4_ruleIn) (by decide +kernel), trivial⟩ rfl rfl (Nat.le_of_ble_eq_true rfl) dX3_run_133 ⟨Nat.zero_le _, Nat.zero_le _⟩ (fun rY wY H locs hwY hJ hS => ?_)
              obtain ⟨e1Y, e2Y⟩ := hwY
              have e3Y := e1Y.symm
              clear e1Y
              subst e3Y
              have e3Y := e2Y.symm
              clear e2Y
              subst e3Y
              obtain ⟨hP, hD⟩ := hJ rfl
              have hP : va_P D vwCl (gRd cA Bd WD' (upd RD' k (nI (chr S (xs S w k)))) oc' (nI k) (nI (fst S w k)) ++ gRu cA B L R LL RL TM (nI (S 1))) H := hP
              have hD : va_D AY (gRd cA Bd WD' (upd RD' k (nI (chr S (xs S w k)))) oc' (nI k) (nI (fst S w k)) ++ gRu cA B L R LL RL TM (nI (S 1))) := hD
              refine xt (show nI ((chp S (xs S w k) * 10 + chr S (xs S w k)) % 10) = nI (chr S (xs S w k)) from congrArg nI (by omega)) ?_
              refine lv_iload hx hb dX3_run_136 (lv_at hl 0 rfl) ?_
              refine ci_SN (As := [.int (nI (chp S (xs S w k) * 10 + chr S (xs S w k)))]) (rest := [.int (nI (chr S (xs S w k))), .int (nI (xs S w k)), .ref (B 0), .int (nI (k + 1)), .ref (Bd 1)]) h0 hK hN hP hD hS hA hl.1 (k_X4_placeIn lY D cA (chp S (xs S w k) * 10 + chr S (xs S w k)) (by omega)) [] rfl (by decide) ⟨(va_cnB 1 hts gX3_run_X4_placeIn_n41 rfl rfl rfl (hN (.methodLinkNest RX3 41 yX4_placeIn "FallingWords") (by decide +kernel)) (hts (.initialized RX4) (by decide +kernel)) (by decide +kernel) ⟨Nat.le_of_ble_eq_true rfl, Nat.le_of_ble_eq_true rfl⟩), hts (.static yX4_placeIn) (by decide +kernel), trivial⟩ rfl rfl (Nat.le_of_ble_eq_true rfl) dX3_run_138 ⟨Nat.zero_le _, Nat.zero_le _⟩ (fun rY wY H locs hwY hJ hS => ?_)
              obtain ⟨e1Y, e2Y⟩ := hwY
              have e3Y := e1Y.symm
              clear e1Y
              subst e3Y
              have e3Y := e2Y.symm
              clear e2Y
              subst e3Y
              obtain ⟨hP, hD⟩ := hJ rfl
              have hP : va_P D vwCl (gRd cA Bd WD' (upd RD' k (nI (chr S (xs S w k)))) oc' (nI k) (nI (fst S w k)) ++ gRu cA B L R LL RL TM (nI (S 1))) H := hP
              have hD : va_D AY (gRd cA Bd WD' (upd RD' k (nI (chr S (xs S w k)))) oc' (nI k) (nI (fst S w k)) ++ gRu cA B L R LL RL TM (nI (S 1))) := hD
              refine xt (show nI ((chp S (xs S w k) * 10 + chr S (xs S w k)) / 10) = nI (chp S (xs S w k)) from congrArg nI (by omega)) ?_
              refine ci_VN (As := [.int (nI (xs S w k)), .int (nI (chr S (xs S w k))), .int (nI (chp S (xs S w k)))]) (rest := [.int (nI (k + 1)), .ref (Bd 1)]) h0 hK hN hP hD hS hA hl.1 (k_X4_applied lY D cA B S L R LL RL TM (xs S w k) (chr S (xs S w k)) (chp S (xs S w k)) (hI) (hr) (hxk) (q1) (q5)) [3, 4, 5, 6, 7, 8] rfl (by decide) ⟨(va_cnB 3 hts gX3_run_X4_applied_n44 rfl rfl rfl (hN (.methodLinkNest RX3 44 yX4_applied "FallingWords") (by decide +kernel)) (hts (.initialized RX4) (by decide +kernel)) (by decide +kernel) ⟨Nat.le_of_ble_eq_true rfl, Nat.le_of_ble_eq_true rfl⟩), hts (.instanceMethod yX4_applied) (by decide +kernel), hts (.selects RX4 yX4_applied yX4_applied) (by decide +kernel)⟩ (cl_recv (ci := 4) (q := (RX4, TX4, 6)) (q0 := 3) hP hK rfl rfl) rfl rfl (Nat.le_of_ble_eq_true rfl) dX3_run_141 ⟨Nat.zero_le _, Nat.zero_le _⟩ (fun rY wY H locs hwY hJ hS => ?_)
              obtain ⟨e1Y, e2Y⟩ := hwY
              have e3Y := e1Y.symm
              clear e1Y
              subst e3Y
              have e3Y := e2Y.symm
              clear e2Y
              subst e3Y
              obtain ⟨hP, hD⟩ := hJ rfl
              have hP : va_P D vwCl (gRd cA Bd WD' (upd RD' k (nI (chr S (xs S w k)))) oc' (nI k) (nI (fst S w k)) ++ gRu cA B L R LL RL TM (nI (S 1))) H := hP
              have hD : va_D AY (gRd cA Bd WD' (upd RD' k (nI (chr S (xs S w k)))) oc' (nI k) (nI (fst S w k)) ++ gRu cA B L R LL RL TM (nI (S 1))) := hD
              refine xt (show nI (app (lf S (chr S (xs S w k))) (rt S (chr S (xs S w k))) (xs S w k) (chp S (xs S w k))) = nI (xs S w (k + 1)) from rfl) ?_
              refine xa_st hx hb hK hP hD hS 1 rfl (by omega) (by decide) dX3_run_144 (fun H locs hP hD hS => ?_)
              have hP : va_P D vwCl (gRd cA Bd (upd WD' (k + 1) (nI (xs S w (k + 1)))) (upd RD' k (nI (chr S (xs S w k)))) oc' (nI k) (nI (fst S w k)) ++ gRu cA B L R LL RL TM (nI (S 1))) H := hP
              have hD : va_D AY (gRd cA Bd (upd WD' (k + 1) (nI (xs S w (k + 1)))) (upd RD' k (nI (chr S (xs S w k)))) oc' (nI k) (nI (fst S w k)) ++ gRu cA B L R LL RL TM (nI (S 1))) := hD
              refine lv_aload_n hx hb dX3_run_145 rfl (lv_at hl 1 rfl) ?_
              refine lv_dup hx hb dX3_run_146 rfl ?_
              refine va_get (D := D) (ci := 3) (v := .int (nI k)) (C := RX3) (T := TX3) (N := 5) hx hb hts hi_X3_run_X3 hown hK hP 0 rfl rfl 3 (by decide) (hts (.fieldLink RX3 18 "FallingWords$Reduction" "steps" "I") (by decide +kernel)) (fun _ h9 => h9) rfl dX3_run_147 ?_
              refine lv_iconst (v := nI 1) hx hb dX3_run_150 (by decide +kernel) ?_
              refine lv_iadd hx hb dX3_run_151 ?_
              refine xt (show (nI k) + (nI 1) = nI (k + 1) from nI_add _ _) ?_
              refine va_put (D := D) (ci := 3) (v := .int (nI (k + 1))) (ty := .int) (C := RX3) (T := TX3) (N := 5) hx hb hts hi_X3_run_X3 tyX3 tyX3_ok nmX3 hown hK hP hD hS 0 rfl rfl 3 (by decide) (hts (.fieldLink RX3 18 "FallingWords$Reduction" "steps" "I") (by decide +kernel)) (fun _ h9 => h9) rfl (by decide +kernel) rfl rfl (Nat.le_of_ble_eq_true rfl) dX3_run_152 (fun H locs hP hD hS => ?_)
              have hP : va_P D vwCl (gRd cA Bd (upd WD' (k + 1) (nI (xs S w (k + 1)))) (upd RD' k (nI (chr S (xs S w k)))) oc' (nI (k + 1)) (nI (fst S w k)) ++ gRu cA B L R LL RL TM (nI (S 1))) H := hP
              have hD : va_D AY (gRd cA Bd (upd WD' (k + 1) (nI (xs S w (k + 1)))) (upd RD' k (nI (chr S (xs S w k)))) oc' (nI (k + 1)) (nI (fst S w k)) ++ gRu cA B L R LL RL TM (nI (S 1))) := hD
              refine lv_goto (tgt := 12) hx hb dX3_run_155 (by decide) ?_
              exact ih12 (k + 1) (upd WD' (k + 1) (nI (xs S w (k + 1)))) (upd RD' k (nI (chr S (xs S w k)))) oc' (nI (fst S w k)) (by omega) (fun i hi => by rcases Nat.lt_or_ge k i with q | q; (rw [show i = k + 1 by omega, pk_us]); rw [pk_un (by omega)]; exact g1 i q) (fun i hi => by rcases Nat.lt_or_ge i k with q | q; (rw [pk_un (by omega)]; exact g2 i q); rw [show i = k by omega, pk_us]) (by rw [← hred, show 101 - k = (101 - (k + 1)) + 1 by omega, redF, if_neg (by omega), if_neg (by rw [hn]; decide), if_neg c88]) (fun i hi => by rcases Nat.lt_or_ge k i with q | q; (rw [show i = k + 1 by omega]; exact nxt_vw hI (hxv k (Nat.le_refl k)) hn); exact hxv i q) (by omega) _ _ _ hP hD hS (lv_sub hl [1, 2, 3, 4] rfl)
            · refine lv_aload_n hx hb dX3_run_91 rfl (lv_at hl 1 rfl) ?_
              refine lv_iconst (v := nI 2) hx hb dX3_run_92 (by decide +kernel) ?_
              refine va_put (D := D) (ci := 3) (v := .int (nI 2)) (ty := .int) (C := RX3) (T := TX3) (N := 5) hx hb hts hi_X3_run_X3 tyX3 tyX3_ok nmX3 hown hK hP hD hS 0 rfl rfl 2 (by decide) (hts (.fieldLink RX3 29 "FallingWords$Reduction" "outcome" "I") (by decide +kernel)) (fun _ h9 => h9) rfl (by decide +kernel) rfl rfl (Nat.le_of_ble_eq_true rfl) dX3_run_93 (fun H locs hP hD hS => ?_)
              have hP : va_P D vwCl (gRd cA Bd WD' RD' (nI 2) (nI k) (nI (fst S w k)) ++ gRu cA B L R LL RL TM (nI (S 1))) H := hP
              have hD : va_D AY (gRd cA Bd WD' RD' (nI 2) (nI k) (nI (fst S w k)) ++ gRu cA B L R LL RL TM (nI (S 1))) := hD
              have hR : red S w = (2, 100, 0) := by rw [← hred, show 101 - k = (101 - (k + 1)) + 1 by omega, redF, if_neg (by omega), if_neg (by rw [hn]; decide), if_pos c88]
              subst c88
              exact hret _ _ _ _ _ dX3_run_96 ⟨WD', RD', _, by rw [hR], by rw [hR]; exact g1, by rw [hR]; exact g2, fun h => by rw [hR] at h; cases h⟩ hP hD hS
          · refine lv_aload_n hx hb dX3_run_76 rfl (lv_at hl 1 rfl) ?_
            refine lv_iconst (v := nI 0) hx hb dX3_run_77 (by decide +kernel) ?_
            refine va_put (D := D) (ci := 3) (v := .int (nI 0)) (ty := .int) (C := RX3) (T := TX3) (N := 5) hx hb hts hi_X3_run_X3 tyX3 tyX3_ok nmX3 hown hK hP hD hS 0 rfl rfl 2 (by decide) (hts (.fieldLink RX3 29 "FallingWords$Reduction" "outcome" "I") (by decide +kernel)) (fun _ h9 => h9) rfl (by decide +kernel) rfl rfl (Nat.le_of_ble_eq_true rfl) dX3_run_78 (fun H locs hP hD hS => ?_)
            have hP : va_P D vwCl (gRd cA Bd WD' RD' (nI 0) (nI k) (nI (fst S w k)) ++ gRu cA B L R LL RL TM (nI (S 1))) H := hP
            have hD : va_D AY (gRd cA Bd WD' RD' (nI 0) (nI k) (nI (fst S w k)) ++ gRu cA B L R LL RL TM (nI (S 1))) := hD
            have hn := chI_lt hI hxk c73
            have hR : red S w = (0, k, 0) := by rw [← hred, show 101 - k = (101 - (k + 1)) + 1 by omega, redF, if_neg (by omega), if_pos hn]
            exact hret _ _ _ _ _ dX3_run_81 ⟨WD', RD', _, by rw [hR], by rw [hR]; exact g1, by rw [hR]; exact g2, fun h => by rw [hR] at h; cases h⟩ hP hD hS
        · refine lv_aload_n hx hb dX3_run_49 rfl (lv_at hl 0 rfl) ?_
          refine lv_iconst (v := nI 1) hx hb dX3_run_50 (by decide +kernel) ?_
          refine va_put (D := D) (ci := 3) (v := .int (nI 1)) (ty := .int) (C := RX3) (T := TX3) (N := 5) hx hb hts hi_X3_run_X3 tyX3 tyX3_ok nmX3 hown hK hP hD hS 0 rfl rfl 2 (by decide) (hts (.fieldLink RX3 29 "FallingWords$Reduction" "outcome" "I") (by decide +kernel)) (fun _ h9 => h9) rfl (by decide +kernel) rfl rfl (Nat.le_of_ble_eq_true rfl) dX3_run_51 (fun H locs hP hD hS => ?_)
          have hP : va_P D vwCl (gRd cA Bd WD' RD' (nI 1) (nI k) (nI (fst S w k)) ++ gRu cA B L R LL RL TM (nI (S 1))) H := hP
          have hD : va_D AY (gRd cA Bd WD' RD' (nI 1) (nI k) (nI (fst S w k)) ++ gRu cA B L R LL RL TM (nI (S 1))) := hD
          have hR : red S w = (1, k, fst S w k) := by rw [← hred, show 101 - k = (101 - (k + 1)) + 1 by omega, redF, if_pos (by omega)]
          exact hret _ _ _ _ _ dX3_run_54 ⟨WD', RD', _, by rw [hR], by rw [hR]; exact g1, by rw [hR]; exact g2, fun _ => by rw [hR]⟩ hP hD hS
  exact L12 _ 0 (upd WD 0 (nI w)) RD oc rs (by omega) (fun i hi => by rw [show i = 0 by omega, pk_us]; rfl) (fun i hi => absurd hi (Nat.not_lt_zero i)) ((red_eq S w).symm) (fun i hi => by rw [show i = 0 by omega]; exact hw) (Nat.lt_succ_self _) _ _ _ hP hD hS hl

theorem hi_X3_countRules_X3 : ∀ w ∈ u_ws RX3 TX3 5, w ∈ wsX3_countRules := by decide +kernel
theorem hi_X3_countRules_X4 : ∀ w ∈ u_ws RX4 TX4 6, w ∈ wsX3_countRules := by decide +kernel
set_option maxHeartbeats 1000000 in
set_option maxRecDepth 100000 in
theorem k_X3_countRules (lY : Launch) (D : va_G) (cA : Nat → ClassId) (Bd B : Nat → Nat) (WD RD : Nat → Int32) (oc rs : Int32) (n : Nat) (S : St) (L R LL RL TM : Nat → Int32) (w : Nat) (z : Int32) (hI : IR S) (hr : rRu S L R LL RL TM) (hn : n ≤ 100) (hRD : ∀ i, i < n → RD i = nI (chr S (xs S w i)) ∧ chr S (xs S w i) < S 1) : MetV lY D cA yX3_countRules wsX3_countRules 0 0 0 0 [.ref (Bd 0), .ref (B 0)] (gRd cA Bd WD RD oc (nI n) rs ++ gRu cA B L R LL RL TM z) (fun wY => ∃ (TM' : Nat → Int32), wY = gRd cA Bd WD RD oc (nI n) rs ++ gRu cA B L R LL RL TM' z ∧ (rRu (bmp S w n) L R LL RL TM')) := by
  refine MetV.of (cc := cX3_countRules) (maxL := 3) (by decide) rfl (Nat.le_of_ble_eq_true rfl) ?_
  intro pY eY sY mY aY bY tY cY QY AY ls h0 hP hK hN hD hA hS hl hin hret
  obtain ⟨hx, hb, hml, hown, hts⟩ := id h0
  have hl : lv_has ls 3 [(0, .ref (Bd 0)), (1, .ref (B 0))] := hl
  have hP : va_P D vwCl (gRd cA Bd WD RD oc (nI n) rs ++ gRu cA B L R LL RL TM z) sY.heap := hP
  have hD : va_D AY (gRd cA Bd WD RD oc (nI n) rs ++ gRu cA B L R LL RL TM z) := hD
  have h10 := hI.1
  refine lv_iconst (v := nI 0) hx hb dX3_countRules_0 (by decide +kernel) ?_
  refine lv_istore_n (lv' := [(2, .int (nI 0)), (0, .ref (Bd 0)), (1, .ref (B 0))]) hx hb dX3_countRules_1 rfl hl (by decide) rfl (fun ls hl => ?_)
  have L2 : ∀ (nY : Nat), ∀ (i : Nat) (TM' : Nat → Int32), (i ≤ n) → (rRu (bmp S w i) L R LL RL TM') → (n - i < nY) → ∀ (H : Heap) (locs : List Loc) (ls : Array Slot), va_P D vwCl (gRd cA Bd WD RD oc (nI n) rs ++ gRu cA B L R LL RL TM' z) H → va_D AY (gRd cA Bd WD RD oc (nI n) rs ++ gRu cA B L R LL RL TM' z) → va_S AY sY.heap H locs → lv_has ls 3 [(0, .ref (Bd 0)), (1, .ref (B 0)), (2, .int (nI i))] → W pY lY eY { frames := 0, cells := 0, slots := 0, locals := 0 } sY mY aY bY tY cY H locs 0 0 QY (F0 mY 2 ls []) := by
    intro nY2
    induction nY2 with
    | zero => intro i TM' hi fr hm2; exact absurd hm2 (Nat.not_lt_zero _)
    | succ nY2 ih2 =>
      intro i TM' hi fr hm2 H locs ls hP hD hS hl
      refine lv_iload_n hx hb dX3_countRules_2 rfl (lv_at hl 2 rfl) ?_
      refine lv_aload_n hx hb dX3_countRules_3 rfl (lv_at hl 0 rfl) ?_
      refine va_get (D := D) (ci := 3) (v := .int (nI n)) (C := RX3) (T := TX3) (N := 5) hx hb hts hi_X3_countRules_X3 hown hK hP 0 rfl rfl 3 (by decide) (hts (.fieldLink RX3 18 "FallingWords$Reduction" "steps" "I") (by decide +kernel)) (fun _ h9 => h9) rfl dX3_countRules_4 ?_
      refine xc_ge (tgt := 31) hx hb dX3_countRules_7 (by decide) (by omega) (by omega) (fun c7 => ?_) (fun c7 => ?_)
      · exact hret _ _ _ _ _ dX3_countRules_31 ⟨TM', rfl, by rw [show n = i by omega]; exact fr⟩ hP hD hS
      · obtain ⟨g1, g2⟩ := hRD i (by omega)
        obtain ⟨-, -, -, -, g3⟩ := fr (chr S (xs S w i)) (by rw [bmp_lo (by decide)]; exact g2)
        refine lv_aload_n hx hb dX3_countRules_10 rfl (lv_at hl 1 rfl) ?_
        refine va_getN (D := D) (ci := 4) (v := .ref (B 5)) (C := RX4) (T := TX4) (N := 6) hx hb hts hi_X3_countRules_X4 hown hK hP 3 rfl rfl 4 (by decide) (hN.fl (w := .fieldLinkNest RX3 48 "FallingWords$Rules" "times" "[I" "FallingWords") (by decide +kernel)) (fun _ h9 => h9) rfl dX3_countRules_11 ?_
        refine lv_aload_n hx hb dX3_countRules_14 rfl (lv_at hl 0 rfl) ?_
        refine va_get (D := D) (ci := 3) (v := .ref (Bd 2)) (C := RX3) (T := TX3) (N := 5) hx hb hts hi_X3_countRules_X3 hown hK hP 0 rfl rfl 1 (by decide) (hts (.fieldLink RX3 15 "FallingWords$Reduction" "rulesUsed" "[I") (by decide +kernel)) (fun _ h9 => h9) rfl dX3_countRules_15 ?_
        refine lv_iload_n hx hb dX3_countRules_18 rfl (lv_at hl 2 rfl) ?_
        refine xa_ld (v := nI (chr S (xs S w i))) hx hb hK hP 2 rfl (by omega) (by decide) (g1) dX3_countRules_19 ?_
        refine lv_dup2_11 hx hb dX3_countRules_20 rfl rfl ?_
        refine xa_ld (v := nI (tms (bmp S w i) (chr S (xs S w i)))) hx hb hK hP 8 rfl (by omega) (by decide) (g3) dX3_countRules_21 ?_
        refine lv_iconst (v := nI 1) hx hb dX3_countRules_22 (by decide +kernel) ?_
        refine lv_iadd hx hb dX3_countRules_23 ?_
        refine xt (show (nI (tms (bmp S w i) (chr S (xs S w i)))) + (nI 1) = nI (tms (bmp S w i) (chr S (xs S w i))) + 1 from rfl) ?_
        refine xa_st hx hb hK hP hD hS 8 rfl (by omega) (by decide) dX3_countRules_24 (fun H locs hP hD hS => ?_)
        have hP : va_P D vwCl (gRd cA Bd WD RD oc (nI n) rs ++ gRu cA B L R LL RL (upd TM' (chr S (xs S w i)) (nI (tms (bmp S w i) (chr S (xs S w i))) + 1)) z) H := hP
        have hD : va_D AY (gRd cA Bd WD RD oc (nI n) rs ++ gRu cA B L R LL RL (upd TM' (chr S (xs S w i)) (nI (tms (bmp S w i) (chr S (xs S w i))) + 1)) z) := hD
        refine lv_iinc (v := nI (i + 1)) (lv' := [(2, .int (nI (i + 1))), (0, .ref (Bd 0)), (1, .ref (B 0))]) hx hb dX3_countRules_25 hl (k := 2) rfl (show nI i + Int32.ofInt 1 = nI (i + 1) from nI_add i 1) (by decide) rfl (fun ls hl => ?_)
        refine lv_goto (tgt := 2) hx hb dX3_countRules_28 (by decide) ?_
        exact ih2 (i + 1) (upd TM' (chr S (xs S w i)) (nI (tms (bmp S w i) (chr S (xs S w i))) + 1)) (by omega) (rRu_tm fr) (by omega) _ _ _ hP hD hS (lv_sub hl [1, 2, 0] rfl)
  exact L2 _ 0 TM (by omega) (hr) (Nat.lt_succ_self _) _ _ _ hP hD hS (lv_sub hl [1, 2, 0] rfl)
end
section
theorem hi_X4_takeOver_X4 : ∀ w ∈ u_ws RX4 TX4 6, w ∈ wsX4_takeOver := by decide +kernel
set_option maxHeartbeats 1000000 in
set_option maxRecDepth 100000 in
theorem k_X4_takeOver (lY : Launch) (D : va_G) (cA : Nat → ClassId) (B B2 : Nat → Nat) (L R LL RL TM L2 R2 LL2 RL2 TM2 : Nat → Int32) (z z2 : Int32)  : MetV lY D cA yX4_takeOver wsX4_takeOver 1 20 0 0 [.ref (B 0), .ref (B2 0)] (gRu cA B L R LL RL TM z ++ gRu cA B2 L2 R2 LL2 RL2 TM2 z2) (fun wY => ∃ (L' : Nat → Int32) (R' : Nat → Int32) (LL' : Nat → Int32) (RL' : Nat → Int32) (TM' : Nat → Int32), wY = gRu cA B L' R' LL' RL' TM' z2 ++ gRu cA B2 L2 R2 LL2 RL2 TM2 z2 ∧ (cN 10 L' L2) ∧ (cN 10 R' R2) ∧ (cN 10 LL' LL2) ∧ (cN 10 RL' RL2) ∧ (cN 10 TM' TM2)) := by
  refine MetV.of (cc := cX4_takeOver) (maxL := 2) (by decide) rfl (Nat.le_of_ble_eq_true rfl) ?_
  intro pY eY sY mY aY bY tY cY QY AY ls h0 hP hK hN hD hA hS hl hin hret
  obtain ⟨hx, hb, hml, hown, hts⟩ := id h0
  have hl : lv_has ls 2 [(0, .ref (B 0)), (1, .ref (B2 0))] := hl
  have hP : va_P D vwCl (gRu cA B L R LL RL TM z ++ gRu cA B2 L2 R2 LL2 RL2 TM2 z2) sY.heap := hP
  have hD : va_D AY (gRu cA B L R LL RL TM z ++ gRu cA B2 L2 R2 LL2 RL2 TM2 z2) := hD
  refine lv_aload_n hx hb dX4_takeOver_0 rfl (lv_at hl 1 rfl) ?_
  refine va_get (D := D) (ci := 4) (v := .ref (B2 1)) (C := RX4) (T := TX4) (N := 6) hx hb hts hi_X4_takeOver_X4 hown hK hP 6 rfl rfl 0 (by decide) (hts (.fieldLink RX4 9 "FallingWords$Rules" "left" "[I") (by decide +kernel)) (fun _ h9 => h9) rfl dX4_takeOver_1 ?_
  refine lv_iconst (v := nI 0) hx hb dX4_takeOver_4 (by decide +kernel) ?_
  refine lv_aload_n hx hb dX4_takeOver_5 rfl (lv_at hl 0 rfl) ?_
  refine va_get (D := D) (ci := 4) (v := .ref (B 1)) (C := RX4) (T := TX4) (N := 6) hx hb hts hi_X4_takeOver_X4 hown hK hP 0 rfl rfl 0 (by decide) (hts (.fieldLink RX4 9 "FallingWords$Rules" "left" "[I") (by decide +kernel)) (fun _ h9 => h9) rfl dX4_takeOver_6 ?_
  refine lv_iconst (v := nI 0) hx hb dX4_takeOver_9 (by decide +kernel) ?_
  refine lv_bipush (v := nI 10) hx hb dX4_takeOver_10 (by decide +kernel) ?_
  refine va_copyi hx hb (hml.trans hl.1.symm) hown (hts (.methodLink RX4 27 arraycopyName) (by decide +kernel)) (hts (.native arraycopyName) (by decide +kernel)) (hts (.static arraycopyName) (by decide +kernel)) (hts (.initialized "java/lang/System") (by decide +kernel)) hK hP hD hS 7 1 0 0 rfl rfl rfl rfl rfl (by decide +kernel) (by decide +kernel) (by decide +kernel) (by decide +kernel) (by decide +kernel) (fun _ _ => rfl) (Nat.le_of_ble_eq_true rfl) (Nat.le_of_ble_eq_true rfl) dX4_takeOver_12 (fun H locs hP hD hS => ?_)
  have hP : va_P D vwCl (gRu cA B (va_cpy L2 L 0 0 10) R LL RL TM z ++ gRu cA B2 L2 R2 LL2 RL2 TM2 z2) H := hP
  have hD : va_D AY (gRu cA B (va_cpy L2 L 0 0 10) R LL RL TM z ++ gRu cA B2 L2 R2 LL2 RL2 TM2 z2) := hD
  refine lv_aload_n hx hb dX4_takeOver_15 rfl (lv_at hl 1 rfl) ?_
  refine va_get (D := D) (ci := 4) (v := .ref (B2 2)) (C := RX4) (T := TX4) (N := 6) hx hb hts hi_X4_takeOver_X4 hown hK hP 6 rfl rfl 1 (by decide) (hts (.fieldLink RX4 15 "FallingWords$Rules" "right" "[I") (by decide +kernel)) (fun _ h9 => h9) rfl dX4_takeOver_16 ?_
  refine lv_iconst (v := nI 0) hx hb dX4_takeOver_19 (by decide +kernel) ?_
  refine lv_aload_n hx hb dX4_takeOver_20 rfl (lv_at hl 0 rfl) ?_
  refine va_get (D := D) (ci := 4) (v := .ref (B 2)) (C := RX4) (T := TX4) (N := 6) hx hb hts hi_X4_takeOver_X4 hown hK hP 0 rfl rfl 1 (by decide) (hts (.fieldLink RX4 15 "FallingWords$Rules" "right" "[I") (by decide +kernel)) (fun _ h9 => h9) rfl dX4_takeOver_21 ?_
  refine lv_iconst (v := nI 0) hx hb dX4_takeOver_24 (by decide +kernel) ?_
  refine lv_bipush (v := nI 10) hx hb dX4_takeOver_25 (by decide +kernel) ?_
  refine va_copyi hx hb (hml.trans hl.1.symm) hown (hts (.methodLink RX4 27 arraycopyName) (by decide +kernel)) (hts (.native arraycopyName) (by decide +kernel)) (hts (.static arraycopyName) (by decide +kernel)) (hts (.initialized "java/lang/System") (by decide +kernel)) hK hP hD hS 8 2 0 0 rfl rfl rfl rfl rfl (by decide +kernel) (by decide +kernel) (by decide +kernel) (by decide +kernel) (by decide +kernel) (fun _ _ => rfl) (Nat.le_of_ble_eq_true rfl) (Nat.le_of_ble_eq_true rfl) dX4_takeOver_27 (fun H locs hP hD hS => ?_)
  have hP : va_P D vwCl (gRu cA B (va_cpy L2 L 0 0 10) (va_cpy R2 R 0 0 10) LL RL TM z ++ gRu cA B2 L2 R2 LL2 RL2 TM2 z2) H := hP
  have hD : va_D AY (gRu cA B (va_cpy L2 L 0 0 10) (va_cpy R2 R 0 0 10) LL RL TM z ++ gRu cA B2 L2 R2 LL2 RL2 TM2 z2) := hD
  refine lv_aload_n hx hb dX4_takeOver_30 rfl (lv_at hl 1 rfl) ?_
  refine va_get (D := D) (ci := 4) (v := .ref (B2 3)) (C := RX4) (T := TX4) (N := 6) hx hb hts hi_X4_takeOver_X4 hown hK hP 6 rfl rfl 2 (by decide) (hts (.fieldLink RX4 18 "FallingWords$Rules" "leftLength" "[I") (by decide +kernel)) (fun _ h9 => h9) rfl dX4_takeOver_31 ?_
  refine lv_iconst (v := nI 0) hx hb dX4_takeOver_34 (by decide +kernel) ?_
  refine lv_aload_n hx hb dX4_takeOver_35 rfl (lv_at hl 0 rfl) ?_
  refine va_get (D := D) (ci := 4) (v := .ref (B 3)) (C := RX4) (T := TX4) (N := 6) hx hb hts hi_X4_takeOver_X4 hown hK hP 0 rfl rfl 2 (by decide) (hts (.fieldLink RX4 18 "FallingWords$Rules" "leftLength" "[I") (by decide +kernel)) (fun _ h9 => h9) rfl dX4_takeOver_36 ?_
  refine lv_iconst (v := nI 0) hx hb dX4_takeOver_39 (by decide +kernel) ?_
  refine lv_bipush (v := nI 10) hx hb dX4_takeOver_40 (by decide +kernel) ?_
  refine va_copyi hx hb (hml.trans hl.1.symm) hown (hts (.methodLink RX4 27 arraycopyName) (by decide +kernel)) (hts (.native arraycopyName) (by decide +kernel)) (hts (.static arraycopyName) (by decide +kernel)) (hts (.initialized "java/lang/System") (by decide +kernel)) hK hP hD hS 9 3 0 0 rfl rfl rfl rfl rfl (by decide +kernel) (by decide +kernel) (by decide +kernel) (by decide +kernel) (by decide +kernel) (fun _ _ => rfl) (Nat.le_of_ble_eq_true rfl) (Nat.le_of_ble_eq_true rfl) dX4_takeOver_42 (fun H locs hP hD hS => ?_)
  have hP : va_P D vwCl (gRu cA B (va_cpy L2 L 0 0 10) (va_cpy R2 R 0 0 10) (va_cpy LL2 LL 0 0 10) RL TM z ++ gRu cA B2 L2 R2 LL2 RL2 TM2 z2) H := hP
  have hD : va_D AY (gRu cA B (va_cpy L2 L 0 0 10) (va_cpy R2 R 0 0 10) (va_cpy LL2 LL 0 0 10) RL TM z ++ gRu cA B2 L2 R2 LL2 RL2 TM2 z2) := hD
  refine lv_aload_n hx hb dX4_takeOver_45 rfl (lv_at hl 1 rfl) ?_
  refine va_get (D := D) (ci := 4) (v := .ref (B2 4)) (C := RX4) (T := TX4) (N := 6) hx hb hts hi_X4_takeOver_X4 hown hK hP 6 rfl rfl 3 (by decide) (hts (.fieldLink RX4 21 "FallingWords$Rules" "rightLength" "[I") (by decide +kernel)) (fun _ h9 => h9) rfl dX4_takeOver_46 ?_
  refine lv_iconst (v := nI 0) hx hb dX4_takeOver_49 (by decide +kernel) ?_
  refine lv_aload_n hx hb dX4_takeOver_50 rfl (lv_at hl 0 rfl) ?_
  refine va_get (D := D) (ci := 4) (v := .ref (B 4)) (C := RX4) (T := TX4) (N := 6) hx hb hts hi_X4_takeOver_X4 hown hK hP 0 rfl rfl 3 (by decide) (hts (.fieldLink RX4 21 "FallingWords$Rules" "rightLength" "[I") (by decide +kernel)) (fun _ h9 => h9) rfl dX4_takeOver_51 ?_
  refine lv_iconst (v := nI 0) hx hb dX4_takeOver_54 (by decide +kernel) ?_
  refine lv_bipush (v := nI 10) hx hb dX4_takeOver_55 (by decide +kernel) ?_
  refine va_copyi hx hb (hml.trans hl.1.symm) hown (hts (.methodLink RX4 27 arraycopyName) (by decide +kernel)) (hts (.native arraycopyName) (by decide +kernel)) (hts (.static arraycopyName) (by decide +kernel)) (hts (.initialized "java/lang/System") (by decide +kernel)) hK hP hD hS 10 4 0 0 rfl rfl rfl rfl rfl (by decide +kernel) (by decide +kernel) (by decide +kernel) (by decide +kernel) (by decide +kernel) (fun _ _ => rfl) (Nat.le_of_ble_eq_true rfl) (Nat.le_of_ble_eq_true rfl) dX4_takeOver_57 (fun H locs hP hD hS => ?_)
  have hP : va_P D vwCl (gRu cA B (va_cpy L2 L 0 0 10) (va_cpy R2 R 0 0 10) (va_cpy LL2 LL 0 0 10) (va_cpy RL2 RL 0 0 10) TM z ++ gRu cA B2 L2 R2 LL2 RL2 TM2 z2) H := hP
  have hD : va_D AY (gRu cA B (va_cpy L2 L 0 0 10) (va_cpy R2 R 0 0 10) (va_cpy LL2 LL 0 0 10) (va_cpy RL2 RL 0 0 10) TM z ++ gRu cA B2 L2 R2 LL2 RL2 TM2 z2) := hD
  refine lv_aload_n hx hb dX4_takeOver_60 rfl (lv_at hl 1 rfl) ?_
  refine va_get (D := D) (ci := 4) (v := .ref (B2 5)) (C := RX4) (T := TX4) (N := 6) hx hb hts hi_X4_takeOver_X4 hown hK hP 6 rfl rfl 4 (by decide) (hts (.fieldLink RX4 24 "FallingWords$Rules" "times" "[I") (by decide +kernel)) (fun _ h9 => h9) rfl dX4_takeOver_61 ?_
  refine lv_iconst (v := nI 0) hx hb dX4_takeOver_64 (by decide +kernel) ?_
  refine lv_aload_n hx hb dX4_takeOver_65 rfl (lv_at hl 0 rfl) ?_
  refine va_get (D := D) (ci := 4) (v := .ref (B 5)) (C := RX4) (T := TX4) (N := 6) hx hb hts hi_X4_takeOver_X4 hown hK hP 0 rfl rfl 4 (by decide) (hts (.fieldLink RX4 24 "FallingWords$Rules" "times" "[I") (by decide +kernel)) (fun _ h9 => h9) rfl dX4_takeOver_66 ?_
  refine lv_iconst (v := nI 0) hx hb dX4_takeOver_69 (by decide +kernel) ?_
  refine lv_bipush (v := nI 10) hx hb dX4_takeOver_70 (by decide +kernel) ?_
  refine va_copyi hx hb (hml.trans hl.1.symm) hown (hts (.methodLink RX4 27 arraycopyName) (by decide +kernel)) (hts (.native arraycopyName) (by decide +kernel)) (hts (.static arraycopyName) (by decide +kernel)) (hts (.initialized "java/lang/System") (by decide +kernel)) hK hP hD hS 11 5 0 0 rfl rfl rfl rfl rfl (by decide +kernel) (by decide +kernel) (by decide +kernel) (by decide +kernel) (by decide +kernel) (fun _ _ => rfl) (Nat.le_of_ble_eq_true rfl) (Nat.le_of_ble_eq_true rfl) dX4_takeOver_72 (fun H locs hP hD hS => ?_)
  have hP : va_P D vwCl (gRu cA B (va_cpy L2 L 0 0 10) (va_cpy R2 R 0 0 10) (va_cpy LL2 LL 0 0 10) (va_cpy RL2 RL 0 0 10) (va_cpy TM2 TM 0 0 10) z ++ gRu cA B2 L2 R2 LL2 RL2 TM2 z2) H := hP
  have hD : va_D AY (gRu cA B (va_cpy L2 L 0 0 10) (va_cpy R2 R 0 0 10) (va_cpy LL2 LL 0 0 10) (va_cpy RL2 RL 0 0 10) (va_cpy TM2 TM 0 0 10) z ++ gRu cA B2 L2 R2 LL2 RL2 TM2 z2) := hD
  refine lv_aload_n hx hb dX4_takeOver_75 rfl (lv_at hl 0 rfl) ?_
  refine lv_aload_n hx hb dX4_takeOver_76 rfl (lv_at hl 1 rfl) ?_
  refine va_get (D := D) (ci := 4) (v := .int z2) (C := RX4) (T := TX4) (N := 6) hx hb hts hi_X4_takeOver_X4 hown hK hP 6 rfl rfl 5 (by decide) (hts (.fieldLink RX4 33 "FallingWords$Rules" "size" "I") (by decide +kernel)) (fun _ h9 => h9) rfl dX4_takeOver_77 ?_
  refine va_put (D := D) (ci := 4) (v := .int z2) (ty := .int) (C := RX4) (T := TX4) (N := 6) hx hb hts hi_X4_takeOver_X4 tyX4 tyX4_ok nmX4 hown hK hP hD hS 0 rfl rfl 5 (by decide) (hts (.fieldLink RX4 33 "FallingWords$Rules" "size" "I") (by decide +kernel)) (fun _ h9 => h9) rfl (by decide +kernel) rfl rfl (Nat.le_of_ble_eq_true rfl) dX4_takeOver_80 (fun H locs hP hD hS => ?_)
  have hP : va_P D vwCl (gRu cA B (va_cpy L2 L 0 0 10) (va_cpy R2 R 0 0 10) (va_cpy LL2 LL 0 0 10) (va_cpy RL2 RL 0 0 10) (va_cpy TM2 TM 0 0 10) z2 ++ gRu cA B2 L2 R2 LL2 RL2 TM2 z2) H := hP
  have hD : va_D AY (gRu cA B (va_cpy L2 L 0 0 10) (va_cpy R2 R 0 0 10) (va_cpy LL2 LL 0 0 10) (va_cpy RL2 RL 0 0 10) (va_cpy TM2 TM 0 0 10) z2 ++ gRu cA B2 L2 R2 LL2 RL2 TM2 z2) := hD
  exact hret _ _ _ _ _ dX4_takeOver_83 ⟨(va_cpy L2 L 0 0 10), (va_cpy R2 R 0 0 10), (va_cpy LL2 LL 0 0 10), (va_cpy RL2 RL 0 0 10), (va_cpy TM2 TM 0 0 10), rfl, cN_cpy, cN_cpy, cN_cpy, cN_cpy, cN_cpy⟩ hP hD hS

theorem hi_X6_takeOver_X6 : ∀ w ∈ u_ws RX6 TX6 6, w ∈ wsX6_takeOver := by decide +kernel
set_option maxHeartbeats 1000000 in
set_option maxRecDepth 100000 in
theorem k_X6_takeOver (lY : Launch) (D : va_G) (cA : Nat → ClassId) (B B2 : Nat → Nat) (wo cho tak stp : Int32) (L R LL RL TM WW NN : Nat → Int32) (z zs : Int32) (S : St) (L2 R2 LL2 RL2 TM2 WW2 NN2 : Nat → Int32) (hI : IV S) (hr : rRu S L2 R2 LL2 RL2 TM2) (ho : rSo S WW2 NN2) : MetV lY D cA yX6_takeOver wsX6_takeOver 2 41 0 0 [.ref (B 0), .ref (B2 0)] (gSa cA B wo cho tak stp L R LL RL TM z WW NN zs ++ gSa cA B2 (nI (S 0)) (nI (S 2)) (nI (S 4)) (nI (S 5)) L2 R2 LL2 RL2 TM2 (nI (S 1)) WW2 NN2 (nI (S 3))) (fun wY => ∃ (L' : Nat → Int32) (R' : Nat → Int32) (LL' : Nat → Int32) (RL' : Nat → Int32) (TM' : Nat → Int32) (WW' : Nat → Int32) (NN' : Nat → Int32), wY = gSa cA B (nI (S 0)) (nI (S 2)) (nI (S 4)) (nI (S 5)) L' R' LL' RL' TM' (nI (S 1)) WW' NN' (nI (S 3)) ++ gSa cA B2 (nI (S 0)) (nI (S 2)) (nI (S 4)) (nI (S 5)) L2 R2 LL2 RL2 TM2 (nI (S 1)) WW2 NN2 (nI (S 3)) ∧ (rRu S L' R' LL' RL' TM') ∧ (rSo S WW' NN')) := by
  refine MetV.of (cc := cX6_takeOver) (maxL := 2) (by decide) rfl (Nat.le_of_ble_eq_true rfl) ?_
  intro pY eY sY mY aY bY tY cY QY AY ls h0 hP hK hN hD hA hS hl hin hret
  obtain ⟨hx, hb, hml, hown, hts⟩ := id h0
  have hl : lv_has ls 2 [(0, .ref (B 0)), (1, .ref (B2 0))] := hl
  have hP : va_P D vwCl (gSa cA B wo cho tak stp L R LL RL TM z WW NN zs ++ gSa cA B2 (nI (S 0)) (nI (S 2)) (nI (S 4)) (nI (S 5)) L2 R2 LL2 RL2 TM2 (nI (S 1)) WW2 NN2 (nI (S 3))) sY.heap := hP
  have hD : va_D AY (gSa cA B wo cho tak stp L R LL RL TM z WW NN zs ++ gSa cA B2 (nI (S 0)) (nI (S 2)) (nI (S 4)) (nI (S 5)) L2 R2 LL2 RL2 TM2 (nI (S 1)) WW2 NN2 (nI (S 3))) := hD
  refine lv_aload_n hx hb dX6_takeOver_0 rfl (lv_at hl 0 rfl) ?_
  refine va_get (D := D) (ci := 6) (v := .ref (B 1)) (C := RX6) (T := TX6) (N := 6) hx hb hts hi_X6_takeOver_X6 hown hK hP 0 rfl rfl 0 (by decide) (hts (.fieldLink RX6 12 "FallingWords$State" "rules" "LFallingWords$Rules;") (by decide +kernel)) (fun _ h9 => h9) rfl dX6_takeOver_1 ?_
  refine lv_aload_n hx hb dX6_takeOver_4 rfl (lv_at hl 1 rfl) ?_
  refine va_get (D := D) (ci := 6) (v := .ref (B2 1)) (C := RX6) (T := TX6) (N := 6) hx hb hts hi_X6_takeOver_X6 hown hK hP 10 rfl rfl 0 (by decide) (hts (.fieldLink RX6 12 "FallingWords$State" "rules" "LFallingWords$Rules;") (by decide +kernel)) (fun _ h9 => h9) rfl dX6_takeOver_5 ?_
  refine cv_VN (As := [.ref (B2 1)]) (rest := []) h0 hK hN hP hD hS hA hl.1 (k_X4_takeOver lY D cA (fun i => B (i + 1)) (fun i => B2 (i + 1)) L R LL RL TM L2 R2 LL2 RL2 TM2 z (nI (S 1)) ) [1, 2, 3, 4, 5, 6, 11, 12, 13, 14, 15, 16] rfl (by decide) ⟨(va_cnB 1 hts gX6_takeOver_X4_takeOver_n34 rfl rfl rfl (hN (.methodLinkNest RX6 34 yX4_takeOver "FallingWords") (by decide +kernel)) (hts (.initialized RX4) (by decide +kernel)) (by decide +kernel) ⟨Nat.le_of_ble_eq_true rfl, Nat.le_of_ble_eq_true rfl⟩), hts (.instanceMethod yX4_takeOver) (by decide +kernel), hts (.selects RX4 yX4_takeOver yX4_takeOver) (by decide +kernel)⟩ (cl_recv (ci := 4) (q := (RX4, TX4, 6)) (q0 := 1) hP hK rfl rfl) rfl rfl (Nat.le_of_ble_eq_true rfl) dX6_takeOver_8 ⟨Nat.zero_le _, Nat.zero_le _⟩ (fun wY H locs hwY hJ hS => ?_)
  obtain ⟨L'_8, R'_8, LL'_8, RL'_8, TM'_8, e2Y, f0_8, f1_8, f2_8, f3_8, f4_8⟩ := hwY
  have e3Y := e2Y.symm
  clear e2Y
  subst e3Y
  obtain ⟨hP, hD⟩ := hJ rfl
  have hP : va_P D vwCl (gSa cA B wo cho tak stp L'_8 R'_8 LL'_8 RL'_8 TM'_8 (nI (S 1)) WW NN zs ++ gSa cA B2 (nI (S 0)) (nI (S 2)) (nI (S 4)) (nI (S 5)) L2 R2 LL2 RL2 TM2 (nI (S 1)) WW2 NN2 (nI (S 3))) H := hP
  have hD : va_D AY (gSa cA B wo cho tak stp L'_8 R'_8 LL'_8 RL'_8 TM'_8 (nI (S 1)) WW NN zs ++ gSa cA B2 (nI (S 0)) (nI (S 2)) (nI (S 4)) (nI (S 5)) L2 R2 LL2 RL2 TM2 (nI (S 1)) WW2 NN2 (nI (S 3))) := hD
  refine lv_aload_n hx hb dX6_takeOver_11 rfl (lv_at hl 0 rfl) ?_
  refine va_get (D := D) (ci := 6) (v := .ref (B 7)) (C := RX6) (T := TX6) (N := 6) hx hb hts hi_X6_takeOver_X6 hown hK hP 0 rfl rfl 1 (by decide) (hts (.fieldLink RX6 21 "FallingWords$State" "store" "LFallingWords$Store;") (by decide +kernel)) (fun _ h9 => h9) rfl dX6_takeOver_12 ?_
  refine lv_aload_n hx hb dX6_takeOver_15 rfl (lv_at hl 1 rfl) ?_
  refine va_get (D := D) (ci := 6) (v := .ref (B2 7)) (C := RX6) (T := TX6) (N := 6) hx hb hts hi_X6_takeOver_X6 hown hK hP 10 rfl rfl 1 (by decide) (hts (.fieldLink RX6 21 "FallingWords$State" "store" "LFallingWords$Store;") (by decide +kernel)) (fun _ h9 => h9) rfl dX6_takeOver_16 ?_
  refine cv_VN (As := [.ref (B2 7)]) (rest := []) h0 hK hN hP hD hS hA hl.1 (k_X7_takeOver lY D cA (fun i => B (i + 7)) (fun i => B2 (i + 7)) WW NN WW2 NN2 zs (nI (S 3)) ) [7, 8, 9, 17, 18, 19] rfl (by decide) ⟨(va_cnB 1 hts gX6_takeOver_X7_takeOver_n38 rfl rfl rfl (hN (.methodLinkNest RX6 38 yX7_takeOver "FallingWords") (by decide +kernel)) (hts (.initialized RX7) (by decide +kernel)) (by decide +kernel) ⟨Nat.le_of_ble_eq_true rfl, Nat.le_of_ble_eq_true rfl⟩), hts (.instanceMethod yX7_takeOver) (by decide +kernel), hts (.selects RX7 yX7_takeOver yX7_takeOver) (by decide +kernel)⟩ (cl_recv (ci := 7) (q := (RX7, TX7, 3)) (q0 := 7) hP hK rfl rfl) rfl rfl (Nat.le_of_ble_eq_true rfl) dX6_takeOver_19 ⟨Nat.zero_le _, Nat.zero_le _⟩ (fun wY H locs hwY hJ hS => ?_)
  obtain ⟨WW'_19, NN'_19, e2Y, f1_19, f2_19⟩ := hwY
  have e3Y := e2Y.symm
  clear e2Y
  subst e3Y
  obtain ⟨hP, hD⟩ := hJ rfl
  have hP : va_P D vwCl (gSa cA B wo cho tak stp L'_8 R'_8 LL'_8 RL'_8 TM'_8 (nI (S 1)) WW'_19 NN'_19 (nI (S 3)) ++ gSa cA B2 (nI (S 0)) (nI (S 2)) (nI (S 4)) (nI (S 5)) L2 R2 LL2 RL2 TM2 (nI (S 1)) WW2 NN2 (nI (S 3))) H := hP
  have hD : va_D AY (gSa cA B wo cho tak stp L'_8 R'_8 LL'_8 RL'_8 TM'_8 (nI (S 1)) WW'_19 NN'_19 (nI (S 3)) ++ gSa cA B2 (nI (S 0)) (nI (S 2)) (nI (S 4)) (nI (S 5)) L2 R2 LL2 RL2 TM2 (nI (S 1)) WW2 NN2 (nI (S 3))) := hD
  refine lv_aload_n hx hb dX6_takeOver_22 rfl (lv_at hl 0 rfl) ?_
  refine lv_aload_n hx hb dX6_takeOver_23 rfl (lv_at hl 1 rfl) ?_
  refine va_get (D := D) (ci := 6) (v := .int (nI (S 0))) (C := RX6) (T := TX6) (N := 6) hx hb hts hi_X6_takeOver_X6 hown hK hP 10 rfl rfl 2 (by decide) (hts (.fieldLink RX6 27 "FallingWords$State" "word" "I") (by decide +kernel)) (fun _ h9 => h9) rfl dX6_takeOver_24 ?_
  refine va_put (D := D) (ci := 6) (v := .int (nI (S 0))) (ty := .int) (C := RX6) (T := TX6) (N := 6) hx hb hts hi_X6_takeOver_X6 tyX6 tyX6_ok nmX6 hown hK hP hD hS 0 rfl rfl 2 (by decide) (hts (.fieldLink RX6 27 "FallingWords$State" "word" "I") (by decide +kernel)) (fun _ h9 => h9) rfl (by decide +kernel) rfl rfl (Nat.le_of_ble_eq_true rfl) dX6_takeOver_27 (fun H locs hP hD hS => ?_)
  have hP : va_P D vwCl (gSa cA B (nI (S 0)) cho tak stp L'_8 R'_8 LL'_8 RL'_8 TM'_8 (nI (S 1)) WW'_19 NN'_19 (nI (S 3)) ++ gSa cA B2 (nI (S 0)) (nI (S 2)) (nI (S 4)) (nI (S 5)) L2 R2 LL2 RL2 TM2 (nI (S 1)) WW2 NN2 (nI (S 3))) H := hP
  have hD : va_D AY (gSa cA B (nI (S 0)) cho tak stp L'_8 R'_8 LL'_8 RL'_8 TM'_8 (nI (S 1)) WW'_19 NN'_19 (nI (S 3)) ++ gSa cA B2 (nI (S 0)) (nI (S 2)) (nI (S 4)) (nI (S 5)) L2 R2 LL2 RL2 TM2 (nI (S 1)) WW2 NN2 (nI (S 3))) := hD
  refine lv_aload_n hx hb dX6_takeOver_30 rfl (lv_at hl 0 rfl) ?_
  refine lv_aload_n hx hb dX6_takeOver_31 rfl (lv_at hl 1 rfl) ?_
  refine va_get (D := D) (ci := 6) (v := .int (nI (S 2))) (C := RX6) (T := TX6) (N := 6) hx hb hts hi_X6_takeOver_X6 hown hK hP 10 rfl rfl 3 (by decide) (hts (.fieldLink RX6 31 "FallingWords$State" "choosing" "I") (by decide +kernel)) (fun _ h9 => h9) rfl dX6_takeOver_32 ?_
  refine va_put (D := D) (ci := 6) (v := .int (nI (S 2))) (ty := .int) (C := RX6) (T := TX6) (N := 6) hx hb hts hi_X6_takeOver_X6 tyX6 tyX6_ok nmX6 hown hK hP hD hS 0 rfl rfl 3 (by decide) (hts (.fieldLink RX6 31 "FallingWords$State" "choosing" "I") (by decide +kernel)) (fun _ h9 => h9) rfl (by decide +kernel) rfl rfl (Nat.le_of_ble_eq_true rfl) dX6_takeOver_35 (fun H locs hP hD hS => ?_)
  have hP : va_P D vwCl (gSa cA B (nI (S 0)) (nI (S 2)) tak stp L'_8 R'_8 LL'_8 RL'_8 TM'_8 (nI (S 1)) WW'_19 NN'_19 (nI (S 3)) ++ gSa cA B2 (nI (S 0)) (nI (S 2)) (nI (S 4)) (nI (S 5)) L2 R2 LL2 RL2 TM2 (nI (S 1)) WW2 NN2 (nI (S 3))) H := hP
  have hD : va_D AY (gSa cA B (nI (S 0)) (nI (S 2)) tak stp L'_8 R'_8 LL'_8 RL'_8 TM'_8 (nI (S 1)) WW'_19 NN'_19 (nI (S 3)) ++ gSa cA B2 (nI (S 0)) (nI (S 2)) (nI (S 4)) (nI (S 5)) L2 R2 LL2 RL2 TM2 (nI (S 1)) WW2 NN2 (nI (S 3))) := hD
  refine lv_aload_n hx hb dX6_takeOver_38 rfl (lv_at hl 0 rfl) ?_
  refine lv_aload_n hx hb dX6_takeOver_39 rfl (lv_at hl 1 rfl) ?_
  refine va_get (D := D) (ci := 6) (v := .int (nI (S 4))) (C := RX6) (T := TX6) (N := 6) hx hb hts hi_X6_takeOver_X6 hown hK hP 10 rfl rfl 4 (by decide) (hts (.fieldLink RX6 41 "FallingWords$State" "taken" "I") (by decide +kernel)) (fun _ h9 => h9) rfl dX6_takeOver_40 ?_
  refine va_put (D := D) (ci := 6) (v := .int (nI (S 4))) (ty := .int) (C := RX6) (T := TX6) (N := 6) hx hb hts hi_X6_takeOver_X6 tyX6 tyX6_ok nmX6 hown hK hP hD hS 0 rfl rfl 4 (by decide) (hts (.fieldLink RX6 41 "FallingWords$State" "taken" "I") (by decide +kernel)) (fun _ h9 => h9) rfl (by decide +kernel) rfl rfl (Nat.le_of_ble_eq_true rfl) dX6_takeOver_43 (fun H locs hP hD hS => ?_)
  have hP : va_P D vwCl (gSa cA B (nI (S 0)) (nI (S 2)) (nI (S 4)) stp L'_8 R'_8 LL'_8 RL'_8 TM'_8 (nI (S 1)) WW'_19 NN'_19 (nI (S 3)) ++ gSa cA B2 (nI (S 0)) (nI (S 2)) (nI (S 4)) (nI (S 5)) L2 R2 LL2 RL2 TM2 (nI (S 1)) WW2 NN2 (nI (S 3))) H := hP
  have hD : va_D AY (gSa cA B (nI (S 0)) (nI (S 2)) (nI (S 4)) stp L'_8 R'_8 LL'_8 RL'_8 TM'_8 (nI (S 1)) WW'_19 NN'_19 (nI (S 3)) ++ gSa cA B2 (nI (S 0)) (nI (S 2)) (nI (S 4)) (nI (S 5)) L2 R2 LL2 RL2 TM2 (nI (S 1)) WW2 NN2 (nI (S 3))) := hD
  refine lv_aload_n hx hb dX6_takeOver_46 rfl (lv_at hl 0 rfl) ?_
  refine lv_aload_n hx hb dX6_takeOver_47 rfl (lv_at hl 1 rfl) ?_
  refine va_get (D := D) (ci := 6) (v := .int (nI (S 5))) (C := RX6) (T := TX6) (N := 6) hx hb hts hi_X6_takeOver_X6 hown hK hP 10 rfl rfl 5 (by decide) (hts (.fieldLink RX6 44 "FallingWords$State" "steps" "I") (by decide +kernel)) (fun _ h9 => h9) rfl dX6_takeOver_48 ?_
  refine va_put (D := D) (ci := 6) (v := .int (nI (S 5))) (ty := .int) (C := RX6) (T := TX6) (N := 6) hx hb hts hi_X6_takeOver_X6 tyX6 tyX6_ok nmX6 hown hK hP hD hS 0 rfl rfl 5 (by decide) (hts (.fieldLink RX6 44 "FallingWords$State" "steps" "I") (by decide +kernel)) (fun _ h9 => h9) rfl (by decide +kernel) rfl rfl (Nat.le_of_ble_eq_true rfl) dX6_takeOver_51 (fun H locs hP hD hS => ?_)
  have hP : va_P D vwCl (gSa cA B (nI (S 0)) (nI (S 2)) (nI (S 4)) (nI (S 5)) L'_8 R'_8 LL'_8 RL'_8 TM'_8 (nI (S 1)) WW'_19 NN'_19 (nI (S 3)) ++ gSa cA B2 (nI (S 0)) (nI (S 2)) (nI (S 4)) (nI (S 5)) L2 R2 LL2 RL2 TM2 (nI (S 1)) WW2 NN2 (nI (S 3))) H := hP
  have hD : va_D AY (gSa cA B (nI (S 0)) (nI (S 2)) (nI (S 4)) (nI (S 5)) L'_8 R'_8 LL'_8 RL'_8 TM'_8 (nI (S 1)) WW'_19 NN'_19 (nI (S 3)) ++ gSa cA B2 (nI (S 0)) (nI (S 2)) (nI (S 4)) (nI (S 5)) L2 R2 LL2 RL2 TM2 (nI (S 1)) WW2 NN2 (nI (S 3))) := hD
  exact hret _ _ _ _ _ dX6_takeOver_54 ⟨L'_8, R'_8, LL'_8, RL'_8, TM'_8, WW'_19, NN'_19, rfl, rRu_cN hr hI.1.1 f0_8 f1_8 f2_8 f3_8 f4_8, rSo_cN ho hI.2.1 f1_19 f2_19⟩ hP hD hS

theorem hi_X6_addRule_X6 : ∀ w ∈ u_ws RX6 TX6 6, w ∈ wsX6_addRule := by decide +kernel
theorem hi_X6_addRule_X7 : ∀ w ∈ u_ws RX7 TX7 3, w ∈ wsX6_addRule := by decide +kernel
set_option maxHeartbeats 1000000 in
set_option maxRecDepth 100000 in
theorem k_X6_addRule (lY : Launch) (D : va_G) (cA : Nat → ClassId) (B : Nat → Nat) (S : St) (L R LL RL TM WW NN : Nat → Int32) (a b : Nat) (hI : IV S) (hr : rRu S L R LL RL TM) (ho : rSo S WW NN) (h10 : S 1 < 10) (ha : vw 4 a) (hb2 : vw 4 b) : MetV lY D cA yX6_addRule wsX6_addRule 2 44 0 0 [.ref (B 0), .int (nI a), .int (nI b)] (gSa cA B (nI (S 0)) (nI (S 2)) (nI (S 4)) (nI (S 5)) L R LL RL TM (nI (S 1)) WW NN (nI (S 3))) (fun wY => ∃ (L' : Nat → Int32) (R' : Nat → Int32) (LL' : Nat → Int32) (RL' : Nat → Int32) (TM' : Nat → Int32) (WW' : Nat → Int32) (NN' : Nat → Int32), wY = gSa cA B (nI ((addS S a b) 0)) (nI ((addS S a b) 2)) (nI ((addS S a b) 4)) (nI ((addS S a b) 5)) L' R' LL' RL' TM' (nI ((addS S a b) 1)) WW' NN' (nI ((addS S a b) 3)) ∧ (rRu (addS S a b) L' R' LL' RL' TM') ∧ (rSo (addS S a b) WW' NN')) := by
  refine MetV.of (cc := cX6_addRule) (maxL := 3) (by decide) rfl (Nat.le_of_ble_eq_true rfl) ?_
  intro pY eY sY mY aY bY tY cY QY AY ls h0 hP hK hN hD hA hS hl hin hret
  obtain ⟨hx, hb, hml, hown, hts⟩ := id h0
  have hl : lv_has ls 3 [(0, .ref (B 0)), (1, .int (nI a)), (2, .int (nI b))] := hl
  have hP : va_P D vwCl (gSa cA B (nI (S 0)) (nI (S 2)) (nI (S 4)) (nI (S 5)) L R LL RL TM (nI (S 1)) WW NN (nI (S 3))) sY.heap := hP
  have hD : va_D AY (gSa cA B (nI (S 0)) (nI (S 2)) (nI (S 4)) (nI (S 5)) L R LL RL TM (nI (S 1)) WW NN (nI (S 3))) := hD
  refine lv_aload_n hx hb dX6_addRule_0 rfl (lv_at hl 0 rfl) ?_
  refine va_get (D := D) (ci := 6) (v := .ref (B 1)) (C := RX6) (T := TX6) (N := 6) hx hb hts hi_X6_addRule_X6 hown hK hP 0 rfl rfl 0 (by decide) (hts (.fieldLink RX6 12 "FallingWords$State" "rules" "LFallingWords$Rules;") (by decide +kernel)) (fun _ h9 => h9) rfl dX6_addRule_1 ?_
  refine lv_iload_n hx hb dX6_addRule_4 rfl (lv_at hl 1 rfl) ?_
  refine lv_iload_n hx hb dX6_addRule_5 rfl (lv_at hl 2 rfl) ?_
  refine cv_VN (As := [.int (nI a), .int (nI b)]) (rest := []) h0 hK hN hP hD hS hA hl.1 (k_X4_add lY D cA (fun i => B (i + 1)) S L R LL RL TM a b (by first | assumption | omega) (by first | assumption | omega) (by first | assumption | omega) (by first | assumption | omega)) [1, 2, 3, 4, 5, 6] rfl (by decide) ⟨(va_cnB 2 hts gX6_addRule_X4_add_n47 rfl rfl rfl (hN (.methodLinkNest RX6 47 yX4_add "FallingWords") (by decide +kernel)) (hts (.initialized RX4) (by decide +kernel)) (by decide +kernel) ⟨Nat.le_of_ble_eq_true rfl, Nat.le_of_ble_eq_true rfl⟩), hts (.instanceMethod yX4_add) (by decide +kernel), hts (.selects RX4 yX4_add yX4_add) (by decide +kernel)⟩ (cl_recv (ci := 4) (q := (RX4, TX4, 6)) (q0 := 1) hP hK rfl rfl) rfl rfl (Nat.le_of_ble_eq_true rfl) dX6_addRule_6 ⟨Nat.zero_le _, Nat.zero_le _⟩ (fun wY H locs hwY hJ hS => ?_)
  obtain ⟨L'_6, R'_6, LL'_6, RL'_6, TM'_6, e2Y, fr_6⟩ := hwY
  have e3Y := e2Y.symm
  clear e2Y
  subst e3Y
  obtain ⟨hP, hD⟩ := hJ rfl
  have hP : va_P D vwCl (gSa cA B (nI (S 0)) (nI (S 2)) (nI (S 4)) (nI (S 5)) L'_6 R'_6 LL'_6 RL'_6 TM'_6 (nI (S 1 + 1)) WW NN (nI (S 3))) H := hP
  have hD : va_D AY (gSa cA B (nI (S 0)) (nI (S 2)) (nI (S 4)) (nI (S 5)) L'_6 R'_6 LL'_6 RL'_6 TM'_6 (nI (S 1 + 1)) WW NN (nI (S 3))) := hD
  refine lv_aload_n hx hb dX6_addRule_9 rfl (lv_at hl 0 rfl) ?_
  refine va_get (D := D) (ci := 6) (v := .ref (B 7)) (C := RX6) (T := TX6) (N := 6) hx hb hts hi_X6_addRule_X6 hown hK hP 0 rfl rfl 1 (by decide) (hts (.fieldLink RX6 21 "FallingWords$State" "store" "LFallingWords$Store;") (by decide +kernel)) (fun _ h9 => h9) rfl dX6_addRule_10 ?_
  refine lv_iconst (v := nI 0) hx hb dX6_addRule_13 (by decide +kernel) ?_
  refine va_putN (D := D) (ci := 7) (v := .int (nI 0)) (ty := .int) (C := RX7) (T := TX7) (N := 3) hx hb hts hi_X6_addRule_X7 tyX7 tyX7_ok nmX7 hown hK hP hD hS 7 rfl rfl 2 (by decide) (hN.fl (w := .fieldLinkNest RX6 51 "FallingWords$Store" "size" "I" "FallingWords") (by decide +kernel)) (fun _ h9 => h9) rfl (by decide +kernel) rfl rfl (Nat.le_of_ble_eq_true rfl) dX6_addRule_14 (fun H locs hP hD hS => ?_)
  have hP : va_P D vwCl (gSa cA B (nI (S 0)) (nI (S 2)) (nI (S 4)) (nI (S 5)) L'_6 R'_6 LL'_6 RL'_6 TM'_6 (nI (S 1 + 1)) WW NN (nI 0)) H := hP
  have hD : va_D AY (gSa cA B (nI (S 0)) (nI (S 2)) (nI (S 4)) (nI (S 5)) L'_6 R'_6 LL'_6 RL'_6 TM'_6 (nI (S 1 + 1)) WW NN (nI 0)) := hD
  have q0 : (addS S a b) 0 = S 0 := by unfold addS upN; (try dsimp only); repeat first | rw [if_pos (by omega)] | rw [if_neg (by omega)]
  have q1 : (addS S a b) 1 = S 1 + 1 := by unfold addS upN; (try dsimp only); repeat first | rw [if_pos (by omega)] | rw [if_neg (by omega)]
  have q2 : (addS S a b) 2 = S 2 := by unfold addS upN; (try dsimp only); repeat first | rw [if_pos (by omega)] | rw [if_neg (by omega)]
  have q3 : (addS S a b) 3 = 0 := by unfold addS upN; (try dsimp only); repeat first | rw [if_pos (by omega)] | rw [if_neg (by omega)]
  have q4 : (addS S a b) 4 = S 4 := by unfold addS upN; (try dsimp only); repeat first | rw [if_pos (by omega)] | rw [if_neg (by omega)]
  have q5 : (addS S a b) 5 = S 5 := by unfold addS upN; (try dsimp only); repeat first | rw [if_pos (by omega)] | rw [if_neg (by omega)]
  exact hret _ _ _ _ _ dX6_addRule_17 ⟨L'_6, R'_6, LL'_6, RL'_6, TM'_6, WW, NN, by rw [q0, q1, q2, q3, q4, q5], fr_6, rSo_0 q3⟩ hP hD hS

theorem hi_X6_removeRule_X6 : ∀ w ∈ u_ws RX6 TX6 6, w ∈ wsX6_removeRule := by decide +kernel
theorem hi_X6_removeRule_X7 : ∀ w ∈ u_ws RX7 TX7 3, w ∈ wsX6_removeRule := by decide +kernel
set_option maxHeartbeats 1000000 in
set_option maxRecDepth 100000 in
theorem k_X6_removeRule (lY : Launch) (D : va_G) (cA : Nat → ClassId) (B : Nat → Nat) (S : St) (L R LL RL TM WW NN : Nat → Int32) (g : Nat) (hI : IV S) (hr : rRu S L R LL RL TM) (ho : rSo S WW NN) (hg : g < S 1) : MetV lY D cA yX6_removeRule wsX6_removeRule 2 43 0 0 [.ref (B 0), .int (nI g)] (gSa cA B (nI (S 0)) (nI (S 2)) (nI (S 4)) (nI (S 5)) L R LL RL TM (nI (S 1)) WW NN (nI (S 3))) (fun wY => ∃ (L' : Nat → Int32) (R' : Nat → Int32) (LL' : Nat → Int32) (RL' : Nat → Int32) (TM' : Nat → Int32) (WW' : Nat → Int32) (NN' : Nat → Int32), wY = gSa cA B (nI ((dropS S g) 0)) (nI ((dropS S g) 2)) (nI ((dropS S g) 4)) (nI ((dropS S g) 5)) L' R' LL' RL' TM' (nI ((dropS S g) 1)) WW' NN' (nI ((dropS S g) 3)) ∧ (rRu (dropS S g) L' R' LL' RL' TM') ∧ (rSo (dropS S g) WW' NN')) := by
  refine MetV.of (cc := cX6_removeRule) (maxL := 2) (by decide) rfl (Nat.le_of_ble_eq_true rfl) ?_
  intro pY eY sY mY aY bY tY cY QY AY ls h0 hP hK hN hD hA hS hl hin hret
  obtain ⟨hx, hb, hml, hown, hts⟩ := id h0
  have hl : lv_has ls 2 [(0, .ref (B 0)), (1, .int (nI g))] := hl
  have hP : va_P D vwCl (gSa cA B (nI (S 0)) (nI (S 2)) (nI (S 4)) (nI (S 5)) L R LL RL TM (nI (S 1)) WW NN (nI (S 3))) sY.heap := hP
  have hD : va_D AY (gSa cA B (nI (S 0)) (nI (S 2)) (nI (S 4)) (nI (S 5)) L R LL RL TM (nI (S 1)) WW NN (nI (S 3))) := hD
  refine lv_aload_n hx hb dX6_removeRule_0 rfl (lv_at hl 0 rfl) ?_
  refine va_get (D := D) (ci := 6) (v := .ref (B 1)) (C := RX6) (T := TX6) (N := 6) hx hb hts hi_X6_removeRule_X6 hown hK hP 0 rfl rfl 0 (by decide) (hts (.fieldLink RX6 12 "FallingWords$State" "rules" "LFallingWords$Rules;") (by decide +kernel)) (fun _ h9 => h9) rfl dX6_removeRule_1 ?_
  refine lv_iload_n hx hb dX6_removeRule_4 rfl (lv_at hl 1 rfl) ?_
  refine cv_VN (As := [.int (nI g)]) (rest := []) h0 hK hN hP hD hS hA hl.1 (k_X4_remove lY D cA (fun i => B (i + 1)) S L R LL RL TM g (hI.1.1) (by first | assumption | omega) (by first | assumption | omega)) [1, 2, 3, 4, 5, 6] rfl (by decide) ⟨(va_cnB 1 hts gX6_removeRule_X4_remove_n54 rfl rfl rfl (hN (.methodLinkNest RX6 54 yX4_remove "FallingWords") (by decide +kernel)) (hts (.initialized RX4) (by decide +kernel)) (by decide +kernel) ⟨Nat.le_of_ble_eq_true rfl, Nat.le_of_ble_eq_true rfl⟩), hts (.instanceMethod yX4_remove) (by decide +kernel), hts (.selects RX4 yX4_remove yX4_remove) (by decide +kernel)⟩ (cl_recv (ci := 4) (q := (RX4, TX4, 6)) (q0 := 1) hP hK rfl rfl) rfl rfl (Nat.le_of_ble_eq_true rfl) dX6_removeRule_5 ⟨Nat.zero_le _, Nat.zero_le _⟩ (fun wY H locs hwY hJ hS => ?_)
  obtain ⟨L'_5, R'_5, LL'_5, RL'_5, TM'_5, e2Y, fr_5⟩ := hwY
  have e3Y := e2Y.symm
  clear e2Y
  subst e3Y
  obtain ⟨hP, hD⟩ := hJ rfl
  have hP : va_P D vwCl (gSa cA B (nI (S 0)) (nI (S 2)) (nI (S 4)) (nI (S 5)) L'_5 R'_5 LL'_5 RL'_5 TM'_5 (nI (S 1 - 1)) WW NN (nI (S 3))) H := hP
  have hD : va_D AY (gSa cA B (nI (S 0)) (nI (S 2)) (nI (S 4)) (nI (S 5)) L'_5 R'_5 LL'_5 RL'_5 TM'_5 (nI (S 1 - 1)) WW NN (nI (S 3))) := hD
  refine lv_aload_n hx hb dX6_removeRule_8 rfl (lv_at hl 0 rfl) ?_
  refine va_get (D := D) (ci := 6) (v := .ref (B 7)) (C := RX6) (T := TX6) (N := 6) hx hb hts hi_X6_removeRule_X6 hown hK hP 0 rfl rfl 1 (by decide) (hts (.fieldLink RX6 21 "FallingWords$State" "store" "LFallingWords$Store;") (by decide +kernel)) (fun _ h9 => h9) rfl dX6_removeRule_9 ?_
  refine lv_iconst (v := nI 0) hx hb dX6_removeRule_12 (by decide +kernel) ?_
  refine va_putN (D := D) (ci := 7) (v := .int (nI 0)) (ty := .int) (C := RX7) (T := TX7) (N := 3) hx hb hts hi_X6_removeRule_X7 tyX7 tyX7_ok nmX7 hown hK hP hD hS 7 rfl rfl 2 (by decide) (hN.fl (w := .fieldLinkNest RX6 51 "FallingWords$Store" "size" "I" "FallingWords") (by decide +kernel)) (fun _ h9 => h9) rfl (by decide +kernel) rfl rfl (Nat.le_of_ble_eq_true rfl) dX6_removeRule_13 (fun H locs hP hD hS => ?_)
  have hP : va_P D vwCl (gSa cA B (nI (S 0)) (nI (S 2)) (nI (S 4)) (nI (S 5)) L'_5 R'_5 LL'_5 RL'_5 TM'_5 (nI (S 1 - 1)) WW NN (nI 0)) H := hP
  have hD : va_D AY (gSa cA B (nI (S 0)) (nI (S 2)) (nI (S 4)) (nI (S 5)) L'_5 R'_5 LL'_5 RL'_5 TM'_5 (nI (S 1 - 1)) WW NN (nI 0)) := hD
  have h10 := hI.1.1
  have q0 : (dropS S g) 0 = S 0 := by unfold dropS upN; (try dsimp only); repeat first | rw [if_pos (by omega)] | rw [if_neg (by omega)]
  have q1 : (dropS S g) 1 = S 1 - 1 := by unfold dropS upN; (try dsimp only); repeat first | rw [if_pos (by omega)] | rw [if_neg (by omega)]
  have q2 : (dropS S g) 2 = S 2 := by unfold dropS upN; (try dsimp only); repeat first | rw [if_pos (by omega)] | rw [if_neg (by omega)]
  have q3 : (dropS S g) 3 = 0 := by unfold dropS upN; (try dsimp only); repeat first | rw [if_pos (by omega)] | rw [if_neg (by omega)]
  have q4 : (dropS S g) 4 = S 4 := by unfold dropS upN; (try dsimp only); repeat first | rw [if_pos (by omega)] | rw [if_neg (by omega)]
  have q5 : (dropS S g) 5 = S 5 := by unfold dropS upN; (try dsimp only); repeat first | rw [if_pos (by omega)] | rw [if_neg (by omega)]
  exact hret _ _ _ _ _ dX6_removeRule_16 ⟨L'_5, R'_5, LL'_5, RL'_5, TM'_5, WW, NN, by rw [q0, q1, q2, q3, q4, q5], fr_5, rSo_0 q3⟩ hP hD hS

theorem hi_X6_setChoosing_X6 : ∀ w ∈ u_ws RX6 TX6 6, w ∈ wsX6_setChoosing := by decide +kernel
theorem hi_X6_setChoosing_X7 : ∀ w ∈ u_ws RX7 TX7 3, w ∈ wsX6_setChoosing := by decide +kernel
set_option maxHeartbeats 1000000 in
set_option maxRecDepth 100000 in
theorem k_X6_setChoosing (lY : Launch) (D : va_G) (cA : Nat → ClassId) (B : Nat → Nat) (S : St) (L R LL RL TM WW NN : Nat → Int32) (v : Nat) (hI : IV S) (hr : rRu S L R LL RL TM) (ho : rSo S WW NN) : MetV lY D cA yX6_setChoosing wsX6_setChoosing 0 0 0 0 [.ref (B 0), .int (nI v)] (gSa cA B (nI (S 0)) (nI (S 2)) (nI (S 4)) (nI (S 5)) L R LL RL TM (nI (S 1)) WW NN (nI (S 3))) (fun wY => ∃ (L' : Nat → Int32) (R' : Nat → Int32) (LL' : Nat → Int32) (RL' : Nat → Int32) (TM' : Nat → Int32) (WW' : Nat → Int32) (NN' : Nat → Int32), wY = gSa cA B (nI ((wayS S v) 0)) (nI ((wayS S v) 2)) (nI ((wayS S v) 4)) (nI ((wayS S v) 5)) L' R' LL' RL' TM' (nI ((wayS S v) 1)) WW' NN' (nI ((wayS S v) 3)) ∧ (rRu (wayS S v) L' R' LL' RL' TM') ∧ (rSo (wayS S v) WW' NN')) := by
  refine MetV.of (cc := cX6_setChoosing) (maxL := 2) (by decide) rfl (Nat.le_of_ble_eq_true rfl) ?_
  intro pY eY sY mY aY bY tY cY QY AY ls h0 hP hK hN hD hA hS hl hin hret
  obtain ⟨hx, hb, hml, hown, hts⟩ := id h0
  have hl : lv_has ls 2 [(0, .ref (B 0)), (1, .int (nI v))] := hl
  have hP : va_P D vwCl (gSa cA B (nI (S 0)) (nI (S 2)) (nI (S 4)) (nI (S 5)) L R LL RL TM (nI (S 1)) WW NN (nI (S 3))) sY.heap := hP
  have hD : va_D AY (gSa cA B (nI (S 0)) (nI (S 2)) (nI (S 4)) (nI (S 5)) L R LL RL TM (nI (S 1)) WW NN (nI (S 3))) := hD
  refine lv_aload_n hx hb dX6_setChoosing_0 rfl (lv_at hl 0 rfl) ?_
  refine lv_iload_n hx hb dX6_setChoosing_1 rfl (lv_at hl 1 rfl) ?_
  refine va_put (D := D) (ci := 6) (v := .int (nI v)) (ty := .int) (C := RX6) (T := TX6) (N := 6) hx hb hts hi_X6_setChoosing_X6 tyX6 tyX6_ok nmX6 hown hK hP hD hS 0 rfl rfl 3 (by decide) (hts (.fieldLink RX6 31 "FallingWords$State" "choosing" "I") (by decide +kernel)) (fun _ h9 => h9) rfl (by decide +kernel) rfl rfl (Nat.le_of_ble_eq_true rfl) dX6_setChoosing_2 (fun H locs hP hD hS => ?_)
  have hP : va_P D vwCl (gSa cA B (nI (S 0)) (nI v) (nI (S 4)) (nI (S 5)) L R LL RL TM (nI (S 1)) WW NN (nI (S 3))) H := hP
  have hD : va_D AY (gSa cA B (nI (S 0)) (nI v) (nI (S 4)) (nI (S 5)) L R LL RL TM (nI (S 1)) WW NN (nI (S 3))) := hD
  refine lv_aload_n hx hb dX6_setChoosing_5 rfl (lv_at hl 0 rfl) ?_
  refine va_get (D := D) (ci := 6) (v := .ref (B 7)) (C := RX6) (T := TX6) (N := 6) hx hb hts hi_X6_setChoosing_X6 hown hK hP 0 rfl rfl 1 (by decide) (hts (.fieldLink RX6 21 "FallingWords$State" "store" "LFallingWords$Store;") (by decide +kernel)) (fun _ h9 => h9) rfl dX6_setChoosing_6 ?_
  refine lv_iconst (v := nI 0) hx hb dX6_setChoosing_9 (by decide +kernel) ?_
  refine va_putN (D := D) (ci := 7) (v := .int (nI 0)) (ty := .int) (C := RX7) (T := TX7) (N := 3) hx hb hts hi_X6_setChoosing_X7 tyX7 tyX7_ok nmX7 hown hK hP hD hS 7 rfl rfl 2 (by decide) (hN.fl (w := .fieldLinkNest RX6 51 "FallingWords$Store" "size" "I" "FallingWords") (by decide +kernel)) (fun _ h9 => h9) rfl (by decide +kernel) rfl rfl (Nat.le_of_ble_eq_true rfl) dX6_setChoosing_10 (fun H locs hP hD hS => ?_)
  have hP : va_P D vwCl (gSa cA B (nI (S 0)) (nI v) (nI (S 4)) (nI (S 5)) L R LL RL TM (nI (S 1)) WW NN (nI 0)) H := hP
  have hD : va_D AY (gSa cA B (nI (S 0)) (nI v) (nI (S 4)) (nI (S 5)) L R LL RL TM (nI (S 1)) WW NN (nI 0)) := hD
  have q0 : (wayS S v) 0 = S 0 := by unfold wayS upN; (try dsimp only); repeat first | rw [if_pos (by omega)] | rw [if_neg (by omega)]
  have q1 : (wayS S v) 1 = S 1 := by unfold wayS upN; (try dsimp only); repeat first | rw [if_pos (by omega)] | rw [if_neg (by omega)]
  have q2 : (wayS S v) 2 = v := by unfold wayS upN; (try dsimp only); repeat first | rw [if_pos (by omega)] | rw [if_neg (by omega)]
  have q3 : (wayS S v) 3 = 0 := by unfold wayS upN; (try dsimp only); repeat first | rw [if_pos (by omega)] | rw [if_neg (by omega)]
  have q4 : (wayS S v) 4 = S 4 := by unfold wayS upN; (try dsimp only); repeat first | rw [if_pos (by omega)] | rw [if_neg (by omega)]
  have q5 : (wayS S v) 5 = S 5 := by unfold wayS upN; (try dsimp only); repeat first | rw [if_pos (by omega)] | rw [if_neg (by omega)]
  exact hret _ _ _ _ _ dX6_setChoosing_13 ⟨L, R, LL, RL, TM, WW, NN, by rw [q0, q1, q2, q3, q4, q5], rRu_to hr (fun j h1 h2 => (upN_n (by omega)).trans (upN_n (by omega))) q1 hI.1.1, rSo_0 q3⟩ hP hD hS

theorem hi_X6_takeStep_X4 : ∀ w ∈ u_ws RX4 TX4 6, w ∈ wsX6_takeStep := by decide +kernel
theorem hi_X6_takeStep_X6 : ∀ w ∈ u_ws RX6 TX6 6, w ∈ wsX6_takeStep := by decide +kernel
set_option maxHeartbeats 1000000 in
set_option maxRecDepth 100000 in
theorem k_X6_takeStep (lY : Launch) (D : va_G) (cA : Nat → ClassId) (B : Nat → Nat) (S : St) (L R LL RL TM WW NN : Nat → Int32) (hI : IV S) (hr : rRu S L R LL RL TM) (ho : rSo S WW NN) : MetI lY D cA yX6_takeStep wsX6_takeStep 2 58 [.ref (B 0)] (gSa cA B (nI (S 0)) (nI (S 2)) (nI (S 4)) (nI (S 5)) L R LL RL TM (nI (S 1)) WW NN (nI (S 3))) (fun rY wY => ∃ (L' : Nat → Int32) (R' : Nat → Int32) (LL' : Nat → Int32) (RL' : Nat → Int32) (TM' : Nat → Int32) (WW' : Nat → Int32) (NN' : Nat → Int32), rY = (stepR S).1 ∧ wY = gSa cA B (nI (((stepR S).2) 0)) (nI (((stepR S).2) 2)) (nI (((stepR S).2) 4)) (nI (((stepR S).2) 5)) L' R' LL' RL' TM' (nI (((stepR S).2) 1)) WW' NN' (nI (((stepR S).2) 3)) ∧ (rRu ((stepR S).2) L' R' LL' RL' TM') ∧ (rSo ((stepR S).2) WW' NN')) := by
  refine MetI.of (cc := cX6_takeStep) (maxL := 3) (ret := (some .int)) (by decide) rfl (Nat.le_of_ble_eq_true rfl) (Or.inl rfl) ?_
  intro pY eY sY mY aY bY tY cY QY AY ls h0 hP hK hN hD hA hS hl hret
  obtain ⟨hx, hb, hml, hown, hts⟩ := id h0
  have hl : lv_has ls 3 [(0, .ref (B 0))] := hl
  have hP : va_P D vwCl (gSa cA B (nI (S 0)) (nI (S 2)) (nI (S 4)) (nI (S 5)) L R LL RL TM (nI (S 1)) WW NN (nI (S 3))) sY.heap := hP
  have hD : va_D AY (gSa cA B (nI (S 0)) (nI (S 2)) (nI (S 4)) (nI (S 5)) L R LL RL TM (nI (S 1)) WW NN (nI (S 3))) := hD
  have hIR := hI.1
  have hw := hI.2.2.1
  have h10 := hIR.1
  refine lv_aload_n hx hb dX6_takeStep_0 rfl (lv_at hl 0 rfl) ?_
  refine va_get (D := D) (ci := 6) (v := .ref (B 1)) (C := RX6) (T := TX6) (N := 6) hx hb hts hi_X6_takeStep_X6 hown hK hP 0 rfl rfl 0 (by decide) (hts (.fieldLink RX6 12 "FallingWords$State" "rules" "LFallingWords$Rules;") (by decide +kernel)) (fun _ h9 => h9) rfl dX6_takeStep_1 ?_
  refine lv_aload_n hx hb dX6_takeStep_4 rfl (lv_at hl 0 rfl) ?_
  refine va_get (D := D) (ci := 6) (v := .int (nI (S 0))) (C := RX6) (T := TX6) (N := 6) hx hb hts hi_X6_takeStep_X6 hown hK hP 0 rfl rfl 2 (by decide) (hts (.fieldLink RX6 27 "FallingWords$State" "word" "I") (by decide +kernel)) (fun _ h9 => h9) rfl dX6_takeStep_5 ?_
  refine lv_aload_n hx hb dX6_takeStep_8 rfl (lv_at hl 0 rfl) ?_
  refine va_get (D := D) (ci := 6) (v := .int (nI (S 2))) (C := RX6) (T := TX6) (N := 6) hx hb hts hi_X6_takeStep_X6 hown hK hP 0 rfl rfl 3 (by decide) (hts (.fieldLink RX6 31 "FallingWords$State" "choosing" "I") (by decide +kernel)) (fun _ h9 => h9) rfl dX6_takeStep_9 ?_
  refine ci_VN (As := [.int (nI (S 0)), .int (nI (S 2))]) (rest := []) h0 hK hN hP hD hS hA hl.1 (k_X4_choiceFor lY D cA (fun i => B (i + 1)) S L R LL RL TM (S 0) (hIR) (hr) (hw)) [1, 2, 3, 4, 5, 6] rfl (by decide) ⟨(va_cnB 2 hts gX6_takeStep_X4_choiceFor_n58 rfl rfl rfl (hN (.methodLinkNest RX6 58 yX4_choiceFor "FallingWords") (by decide +kernel)) (hts (.initialized RX4) (by decide +kernel)) (by decide +kernel) ⟨Nat.le_of_ble_eq_true rfl, Nat.le_of_ble_eq_true rfl⟩), hts (.instanceMethod yX4_choiceFor) (by decide +kernel), hts (.selects RX4 yX4_choiceFor yX4_choiceFor) (by decide +kernel)⟩ (cl_recv (ci := 4) (q := (RX4, TX4, 6)) (q0 := 1) hP hK rfl rfl) rfl rfl (Nat.le_of_ble_eq_true rfl) dX6_takeStep_12 ⟨Nat.zero_le _, Nat.zero_le _⟩ (fun rY wY H locs hwY hJ hS => ?_)
  obtain ⟨e1Y, e2Y⟩ := hwY
  have e3Y := e1Y.symm
  clear e1Y
  subst e3Y
  have e3Y := e2Y.symm
  clear e2Y
  subst e3Y
  obtain ⟨hP, hD⟩ := hJ rfl
  have hP : va_P D vwCl (gSa cA B (nI (S 0)) (nI (S 2)) (nI (S 4)) (nI (S 5)) L R LL RL TM (nI (S 1)) WW NN (nI (S 3))) H := hP
  have hD : va_D AY (gSa cA B (nI (S 0)) (nI (S 2)) (nI (S 4)) (nI (S 5)) L R LL RL TM (nI (S 1)) WW NN (nI (S 3))) := hD
  refine lv_istore_n (lv' := [(1, .int (chI S (S 0))), (0, .ref (B 0))]) hx hb dX6_takeStep_15 rfl hl (by decide) rfl (fun ls hl => ?_)
  refine lv_iload_n hx hb dX6_takeStep_16 rfl (lv_at hl 0 rfl) ?_
  refine xz_ge (tgt := 23) hx hb dX6_takeStep_17 (by decide) (fun c17 => ?_) (fun c17 => ?_)
  · have hn := chI_ge c17
    obtain ⟨g1, g2, g3, g4, g5⟩ := ch_lt hIR hw hn
    have hl : lv_has ls 3 [(1, .int (nI (chp S (S 0) * 10 + chr S (S 0)))), (0, .ref (B 0))] := Eq.mp (congrArg (fun zY : Int32 => lv_has ls 3 [(1, .int zY), (0, .ref (B 0))]) (show chI S (S 0) = nI (chp S (S 0) * 10 + chr S (S 0)) from chI_yes hn)) hl
    refine lv_iload_n hx hb dX6_takeStep_23 rfl (lv_at hl 0 rfl) ?_
    refine ci_SN (As := [.int (nI (chp S (S 0) * 10 + chr S (S 0)))]) (rest := []) h0 hK hN hP hD hS hA hl.1 (k_X4_ruleIn lY D cA (chp S (S 0) * 10 + chr S (S 0)) (by omega)) [] rfl (by decide) ⟨(va_cnB 1 hts gX6_takeStep_X4_ruleIn_n63 rfl rfl rfl (hN (.methodLinkNest RX6 63 yX4_ruleIn "FallingWords") (by decide +kernel)) (hts (.initialized RX4) (by decide +kernel)) (by decide +kernel) ⟨Nat.le_of_ble_eq_true rfl, Nat.le_of_ble_eq_true rfl⟩), hts (.static yX4_ruleIn) (by decide +kernel), trivial⟩ rfl rfl (Nat.le_of_ble_eq_true rfl) dX6_takeStep_24 ⟨Nat.zero_le _, Nat.zero_le _⟩ (fun rY wY H locs hwY hJ hS => ?_)
    obtain ⟨e1Y, e2Y⟩ := hwY
    have e3Y := e1Y.symm
    clear e1Y
    subst e3Y
    have e3Y := e2Y.symm
    clear e2Y
    subst e3Y
    obtain ⟨hP, hD⟩ := hJ rfl
    have hP : va_P D vwCl (gSa cA B (nI (S 0)) (nI (S 2)) (nI (S 4)) (nI (S 5)) L R LL RL TM (nI (S 1)) WW NN (nI (S 3))) H := hP
    have hD : va_D AY (gSa cA B (nI (S 0)) (nI (S 2)) (nI (S 4)) (nI (S 5)) L R LL RL TM (nI (S 1)) WW NN (nI (S 3))) := hD
    refine xt (show nI ((chp S (S 0) * 10 + chr S (S 0)) % 10) = nI (chr S (S 0)) from congrArg nI (by omega)) ?_
    refine lv_istore_n (lv' := [(2, .int (nI (chr S (S 0)))), (1, .int (nI (chp S (S 0) * 10 + chr S (S 0)))), (0, .ref (B 0))]) hx hb dX6_takeStep_27 rfl hl (by decide) rfl (fun ls hl => ?_)
    refine lv_aload_n hx hb dX6_takeStep_28 rfl (lv_at hl 2 rfl) ?_
    refine lv_aload_n hx hb dX6_takeStep_29 rfl (lv_at hl 2 rfl) ?_
    refine va_get (D := D) (ci := 6) (v := .ref (B 1)) (C := RX6) (T := TX6) (N := 6) hx hb hts hi_X6_takeStep_X6 hown hK hP 0 rfl rfl 0 (by decide) (hts (.fieldLink RX6 12 "FallingWords$State" "rules" "LFallingWords$Rules;") (by decide +kernel)) (fun _ h9 => h9) rfl dX6_takeStep_30 ?_
    refine lv_aload_n hx hb dX6_takeStep_33 rfl (lv_at hl 2 rfl) ?_
    refine va_get (D := D) (ci := 6) (v := .int (nI (S 0))) (C := RX6) (T := TX6) (N := 6) hx hb hts hi_X6_takeStep_X6 hown hK hP 0 rfl rfl 2 (by decide) (hts (.fieldLink RX6 27 "FallingWords$State" "word" "I") (by decide +kernel)) (fun _ h9 => h9) rfl dX6_takeStep_34 ?_
    refine lv_iload_n hx hb dX6_takeStep_37 rfl (lv_at hl 0 rfl) ?_
    refine lv_iload_n hx hb dX6_takeStep_38 rfl (lv_at hl 1 rfl) ?_
    refine ci_SN (As := [.int (nI (chp S (S 0) * 10 + chr S (S 0)))]) (rest := [.int (nI (chr S (S 0))), .int (nI (S 0)), .ref (B 1), .ref (B 0)]) h0 hK hN hP hD hS hA hl.1 (k_X4_placeIn lY D cA (chp S (S 0) * 10 + chr S (S 0)) (by omega)) [] rfl (by decide) ⟨(va_cnB 1 hts gX6_takeStep_X4_placeIn_n67 rfl rfl rfl (hN (.methodLinkNest RX6 67 yX4_placeIn "FallingWords") (by decide +kernel)) (hts (.initialized RX4) (by decide +kernel)) (by decide +kernel) ⟨Nat.le_of_ble_eq_true rfl, Nat.le_of_ble_eq_true rfl⟩), hts (.static yX4_placeIn) (by decide +kernel), trivial⟩ rfl rfl (Nat.le_of_ble_eq_true rfl) dX6_takeStep_39 ⟨Nat.zero_le _, Nat.zero_le _⟩ (fun rY wY H locs hwY hJ hS => ?_)
    obtain ⟨e1Y, e2Y⟩ := hwY
    have e3Y := e1Y.symm
    clear e1Y
    subst e3Y
    have e3Y := e2Y.symm
    clear e2Y
    subst e3Y
    obtain ⟨hP, hD⟩ := hJ rfl
    have hP : va_P D vwCl (gSa cA B (nI (S 0)) (nI (S 2)) (nI (S 4)) (nI (S 5)) L R LL RL TM (nI (S 1)) WW NN (nI (S 3))) H := hP
    have hD : va_D AY (gSa cA B (nI (S 0)) (nI (S 2)) (nI (S 4)) (nI (S 5)) L R LL RL TM (nI (S 1)) WW NN (nI (S 3))) := hD
    refine xt (show nI ((chp S (S 0) * 10 + chr S (S 0)) / 10) = nI (chp S (S 0)) from congrArg nI (by omega)) ?_
    refine ci_VN (As := [.int (nI (S 0)), .int (nI (chr S (S 0))), .int (nI (chp S (S 0)))]) (rest := [.ref (B 0)]) h0 hK hN hP hD hS hA hl.1 (k_X4_applied lY D cA (fun i => B (i + 1)) S L R LL RL TM (S 0) (chr S (S 0)) (chp S (S 0)) (hIR) (hr) (hw) (g1) (g5)) [1, 2, 3, 4, 5, 6] rfl (by decide) ⟨(va_cnB 3 hts gX6_takeStep_X4_applied_n70 rfl rfl rfl (hN (.methodLinkNest RX6 70 yX4_applied "FallingWords") (by decide +kernel)) (hts (.initialized RX4) (by decide +kernel)) (by decide +kernel) ⟨Nat.le_of_ble_eq_true rfl, Nat.le_of_ble_eq_true rfl⟩), hts (.instanceMethod yX4_applied) (by decide +kernel), hts (.selects RX4 yX4_applied yX4_applied) (by decide +kernel)⟩ (cl_recv (ci := 4) (q := (RX4, TX4, 6)) (q0 := 1) hP hK rfl rfl) rfl rfl (Nat.le_of_ble_eq_true rfl) dX6_takeStep_42 ⟨Nat.zero_le _, Nat.zero_le _⟩ (fun rY wY H locs hwY hJ hS => ?_)
    obtain ⟨e1Y, e2Y⟩ := hwY
    have e3Y := e1Y.symm
    clear e1Y
    subst e3Y
    have e3Y := e2Y.symm
    clear e2Y
    subst e3Y
    obtain ⟨hP, hD⟩ := hJ rfl
    have hP : va_P D vwCl (gSa cA B (nI (S 0)) (nI (S 2)) (nI (S 4)) (nI (S 5)) L R LL RL TM (nI (S 1)) WW NN (nI (S 3))) H := hP
    have hD : va_D AY (gSa cA B (nI (S 0)) (nI (S 2)) (nI (S 4)) (nI (S 5)) L R LL RL TM (nI (S 1)) WW NN (nI (S 3))) := hD
    refine xt (show nI (app (lf S (chr S (S 0))) (rt S (chr S (S 0))) (S 0) (chp S (S 0))) = nI (nxt S (S 0)) from rfl) ?_
    refine va_put (D := D) (ci := 6) (v := .int (nI (nxt S (S 0)))) (ty := .int) (C := RX6) (T := TX6) (N := 6) hx hb hts hi_X6_takeStep_X6 tyX6 tyX6_ok nmX6 hown hK hP hD hS 0 rfl rfl 2 (by decide) (hts (.fieldLink RX6 27 "FallingWords$State" "word" "I") (by decide +kernel)) (fun _ h9 => h9) rfl (by decide +kernel) rfl rfl (Nat.le_of_ble_eq_true rfl) dX6_takeStep_45 (fun H locs hP hD hS => ?_)
    have hP : va_P D vwCl (gSa cA B (nI (nxt S (S 0))) (nI (S 2)) (nI (S 4)) (nI (S 5)) L R LL RL TM (nI (S 1)) WW NN (nI (S 3))) H := hP
    have hD : va_D AY (gSa cA B (nI (nxt S (S 0))) (nI (S 2)) (nI (S 4)) (nI (S 5)) L R LL RL TM (nI (S 1)) WW NN (nI (S 3))) := hD
    obtain ⟨-, -, -, -, g6⟩ := hr _ g1
    refine lv_aload_n hx hb dX6_takeStep_48 rfl (lv_at hl 2 rfl) ?_
    refine va_get (D := D) (ci := 6) (v := .ref (B 1)) (C := RX6) (T := TX6) (N := 6) hx hb hts hi_X6_takeStep_X6 hown hK hP 0 rfl rfl 0 (by decide) (hts (.fieldLink RX6 12 "FallingWords$State" "rules" "LFallingWords$Rules;") (by decide +kernel)) (fun _ h9 => h9) rfl dX6_takeStep_49 ?_
    refine va_getN (D := D) (ci := 4) (v := .ref (B 6)) (C := RX4) (T := TX4) (N := 6) hx hb hts hi_X6_takeStep_X4 hown hK hP 1 rfl rfl 4 (by decide) (hN.fl (w := .fieldLinkNest RX6 74 "FallingWords$Rules" "times" "[I" "FallingWords") (by decide +kernel)) (fun _ h9 => h9) rfl dX6_takeStep_52 ?_
    refine lv_iload_n hx hb dX6_takeStep_55 rfl (lv_at hl 0 rfl) ?_
    refine lv_dup2_11 hx hb dX6_takeStep_56 rfl rfl ?_
    refine xa_ld (v := nI (tms S (chr S (S 0)))) hx hb hK hP 6 rfl (by omega) (by decide) (g6) dX6_takeStep_57 ?_
    refine lv_iconst (v := nI 1) hx hb dX6_takeStep_58 (by decide +kernel) ?_
    refine lv_iadd hx hb dX6_takeStep_59 ?_
    refine xt (show (nI (tms S (chr S (S 0)))) + (nI 1) = nI (tms S (chr S (S 0))) + 1 from rfl) ?_
    refine xa_st hx hb hK hP hD hS 6 rfl (by omega) (by decide) dX6_takeStep_60 (fun H locs hP hD hS => ?_)
    have hP : va_P D vwCl (gSa cA B (nI (nxt S (S 0))) (nI (S 2)) (nI (S 4)) (nI (S 5)) L R LL RL (upd TM (chr S (S 0)) (nI (tms S (chr S (S 0))) + 1)) (nI (S 1)) WW NN (nI (S 3))) H := hP
    have hD : va_D AY (gSa cA B (nI (nxt S (S 0))) (nI (S 2)) (nI (S 4)) (nI (S 5)) L R LL RL (upd TM (chr S (S 0)) (nI (tms S (chr S (S 0))) + 1)) (nI (S 1)) WW NN (nI (S 3))) := hD
    refine lv_aload_n hx hb dX6_takeStep_61 rfl (lv_at hl 2 rfl) ?_
    refine lv_dup hx hb dX6_takeStep_62 rfl ?_
    refine va_get (D := D) (ci := 6) (v := .int (nI (S 5))) (C := RX6) (T := TX6) (N := 6) hx hb hts hi_X6_takeStep_X6 hown hK hP 0 rfl rfl 5 (by decide) (hts (.fieldLink RX6 44 "FallingWords$State" "steps" "I") (by decide +kernel)) (fun _ h9 => h9) rfl dX6_takeStep_63 ?_
    refine lv_iconst (v := nI 1) hx hb dX6_takeStep_66 (by decide +kernel) ?_
    refine lv_iadd hx hb dX6_takeStep_67 ?_
    refine xt (show (nI (S 5)) + (nI 1) = nI (S 5 + 1) from nI_add _ _) ?_
    refine va_put (D := D) (ci := 6) (v := .int (nI (S 5 + 1))) (ty := .int) (C := RX6) (T := TX6) (N := 6) hx hb hts hi_X6_takeStep_X6 tyX6 tyX6_ok nmX6 hown hK hP hD hS 0 rfl rfl 5 (by decide) (hts (.fieldLink RX6 44 "FallingWords$State" "steps" "I") (by decide +kernel)) (fun _ h9 => h9) rfl (by decide +kernel) rfl rfl (Nat.le_of_ble_eq_true rfl) dX6_takeStep_68 (fun H locs hP hD hS => ?_)
    have hP : va_P D vwCl (gSa cA B (nI (nxt S (S 0))) (nI (S 2)) (nI (S 4)) (nI (S 5 + 1)) L R LL RL (upd TM (chr S (S 0)) (nI (tms S (chr S (S 0))) + 1)) (nI (S 1)) WW NN (nI (S 3))) H := hP
    have hD : va_D AY (gSa cA B (nI (nxt S (S 0))) (nI (S 2)) (nI (S 4)) (nI (S 5 + 1)) L R LL RL (upd TM (chr S (S 0)) (nI (tms S (chr S (S 0))) + 1)) (nI (S 1)) WW NN (nI (S 3))) := hD
    refine lv_iload_n hx hb dX6_takeStep_71 rfl (lv_at hl 0 rfl) ?_
    have hR : stepR S = (nI (chr S (S 0)), stpS S) := if_neg (by rw [hn]; decide)
    have q0 : (stpS S) 0 = nxt S (S 0) := by unfold stpS upN; (try dsimp only); repeat first | rw [if_pos (by omega)] | rw [if_neg (by omega)]
    have q1 : (stpS S) 1 = S 1 := by unfold stpS upN; (try dsimp only); repeat first | rw [if_pos (by omega)] | rw [if_neg (by omega)]
    have q2 : (stpS S) 2 = S 2 := by unfold stpS upN; (try dsimp only); repeat first | rw [if_pos (by omega)] | rw [if_neg (by omega)]
    have q3 : (stpS S) 3 = S 3 := by unfold stpS upN; (try dsimp only); repeat first | rw [if_pos (by omega)] | rw [if_neg (by omega)]
    have q4 : (stpS S) 4 = S 4 := by unfold stpS upN; (try dsimp only); repeat first | rw [if_pos (by omega)] | rw [if_neg (by omega)]
    have q5 : (stpS S) 5 = S 5 + 1 := by unfold stpS upN; (try dsimp only); repeat first | rw [if_pos (by omega)] | rw [if_neg (by omega)]
    exact hret _ _ _ _ _ _ dX6_takeStep_72 ⟨L, R, LL, RL, (upd TM (chr S (S 0)) (nI (tms S (chr S (S 0))) + 1)), WW, NN, by rw [hR], by rw [hR]; dsimp only; rw [q0, q1, q2, q3, q4, q5], by rw [hR]; exact rRu_to (rRu_tm hr (c := chr S (S 0))) (fun j h1 h2 => by unfold stpS upN; dsimp only; rw [if_neg (by omega), if_neg (by omega : ¬ j = 0)]) (by rw [upN_n (by omega)]; exact q1) (by rw [upN_n (by omega)]; exact h10), by rw [hR]; exact rSo_to ho (fun j h1 => by unfold stpS upN; dsimp only; rw [if_neg (by omega), if_neg (by omega), if_neg (by omega)]) q3⟩ hP hD hS
  · refine lv_ldc (v := (-1000002)) hx hb hown (hts (.constant RX6 62 (-1000002)) (by decide +kernel)) dX6_takeStep_20 ?_
    have hn := chI_lt hIR hw c17
    have hR : stepR S = ((-1000002), S) := if_pos hn
    exact hret _ _ _ _ _ _ dX6_takeStep_22 ⟨L, R, LL, RL, TM, WW, NN, by rw [hR], by rw [hR], by rw [hR]; exact hr, by rw [hR]; exact ho⟩ hP hD hS

theorem hi_X6_reduce_X3 : ∀ w ∈ u_ws RX3 TX3 5, w ∈ wsX6_reduce := by decide +kernel
theorem hi_X6_reduce_X6 : ∀ w ∈ u_ws RX6 TX6 6, w ∈ wsX6_reduce := by decide +kernel
set_option maxHeartbeats 1000000 in
set_option maxRecDepth 100000 in
theorem k_X6_reduce (lY : Launch) (D : va_G) (cA : Nat → ClassId) (B Bd : Nat → Nat) (S : St) (L R LL RL TM WW NN : Nat → Int32) (WD RD : Nat → Int32) (oc ns rs : Int32) (hI : IV S) (hr : rRu S L R LL RL TM) (ho : rSo S WW NN) : MetI lY D cA yX6_reduce wsX6_reduce 3 82 [.ref (B 0), .ref (Bd 0)] (gSa cA B (nI (S 0)) (nI (S 2)) (nI (S 4)) (nI (S 5)) L R LL RL TM (nI (S 1)) WW NN (nI (S 3)) ++ gRd cA Bd WD RD oc ns rs) (fun rY wY => ∃ (L' : Nat → Int32) (R' : Nat → Int32) (LL' : Nat → Int32) (RL' : Nat → Int32) (TM' : Nat → Int32) (WW' : Nat → Int32) (NN' : Nat → Int32) (WD' : Nat → Int32) (RD' : Nat → Int32) (oc' : Int32) (ns' : Int32) (rs' : Int32), rY = (normR S).1 ∧ wY = gSa cA B (nI (((normR S).2) 0)) (nI (((normR S).2) 2)) (nI (((normR S).2) 4)) (nI (((normR S).2) 5)) L' R' LL' RL' TM' (nI (((normR S).2) 1)) WW' NN' (nI (((normR S).2) 3)) ++ gRd cA Bd WD' RD' oc' ns' rs' ∧ (rRu ((normR S).2) L' R' LL' RL' TM') ∧ (rSo ((normR S).2) WW' NN')) := by
  refine MetI.of (cc := cX6_reduce) (maxL := 3) (ret := (some .int)) (by decide) rfl (Nat.le_of_ble_eq_true rfl) (Or.inl rfl) ?_
  intro pY eY sY mY aY bY tY cY QY AY ls h0 hP hK hN hD hA hS hl hret
  obtain ⟨hx, hb, hml, hown, hts⟩ := id h0
  have hl : lv_has ls 3 [(0, .ref (B 0)), (1, .ref (Bd 0))] := hl
  have hP : va_P D vwCl (gSa cA B (nI (S 0)) (nI (S 2)) (nI (S 4)) (nI (S 5)) L R LL RL TM (nI (S 1)) WW NN (nI (S 3)) ++ gRd cA Bd WD RD oc ns rs) sY.heap := hP
  have hD : va_D AY (gSa cA B (nI (S 0)) (nI (S 2)) (nI (S 4)) (nI (S 5)) L R LL RL TM (nI (S 1)) WW NN (nI (S 3)) ++ gRd cA Bd WD RD oc ns rs) := hD
  have hIR := hI.1
  have hw := hI.2.2.1
  have h10 := hIR.1
  have h8 := hI.2.1
  have hB := vw_B hw (by decide)
  obtain ⟨z1, z2, z3, z4, z5, z6⟩ := red_ok hIR hw
  refine lv_aload_n hx hb dX6_reduce_0 rfl (lv_at hl 0 rfl) ?_
  refine va_get (D := D) (ci := 6) (v := .ref (B 7)) (C := RX6) (T := TX6) (N := 6) hx hb hts hi_X6_reduce_X6 hown hK hP 0 rfl rfl 1 (by decide) (hts (.fieldLink RX6 21 "FallingWords$State" "store" "LFallingWords$Store;") (by decide +kernel)) (fun _ h9 => h9) rfl dX6_reduce_1 ?_
  refine lv_aload_n hx hb dX6_reduce_4 rfl (lv_at hl 0 rfl) ?_
  refine va_get (D := D) (ci := 6) (v := .int (nI (S 0))) (C := RX6) (T := TX6) (N := 6) hx hb hts hi_X6_reduce_X6 hown hK hP 0 rfl rfl 2 (by decide) (hts (.fieldLink RX6 27 "FallingWords$State" "word" "I") (by decide +kernel)) (fun _ h9 => h9) rfl dX6_reduce_5 ?_
  refine ci_VN (As := [.int (nI (S 0))]) (rest := []) h0 hK hN hP hD hS hA hl.1 (k_X7_indexOf lY D cA (fun i => B (i + 7)) S WW NN (S 0) (h8) (ho) (by omega) (fun k hk => by have := vw_B (hI.2.2.2 k hk).1 (by decide); omega)) [7, 8, 9] rfl (by decide) ⟨(va_cnB 1 hts gX6_reduce_X7_indexOf_n78 rfl rfl rfl (hN (.methodLinkNest RX6 78 yX7_indexOf "FallingWords") (by decide +kernel)) (hts (.initialized RX7) (by decide +kernel)) (by decide +kernel) ⟨Nat.le_of_ble_eq_true rfl, Nat.le_of_ble_eq_true rfl⟩), hts (.instanceMethod yX7_indexOf) (by decide +kernel), hts (.selects RX7 yX7_indexOf yX7_indexOf) (by decide +kernel)⟩ (cl_recv (ci := 7) (q := (RX7, TX7, 3)) (q0 := 7) hP hK rfl rfl) rfl rfl (Nat.le_of_ble_eq_true rfl) dX6_reduce_8 ⟨Nat.zero_le _, Nat.zero_le _⟩ (fun rY wY H locs hwY hJ hS => ?_)
  obtain ⟨e1Y, e2Y⟩ := hwY
  have e3Y := e1Y.symm
  clear e1Y
  subst e3Y
  have e3Y := e2Y.symm
  clear e2Y
  subst e3Y
  obtain ⟨hP, hD⟩ := hJ rfl
  have hP : va_P D vwCl (gSa cA B (nI (S 0)) (nI (S 2)) (nI (S 4)) (nI (S 5)) L R LL RL TM (nI (S 1)) WW NN (nI (S 3)) ++ gRd cA Bd WD RD oc ns rs) H := hP
  have hD : va_D AY (gSa cA B (nI (S 0)) (nI (S 2)) (nI (S 4)) (nI (S 5)) L R LL RL TM (nI (S 1)) WW NN (nI (S 3)) ++ gRd cA Bd WD RD oc ns rs) := hD
  refine lv_istore_n (lv' := [(2, .int (ixI S (S 0))), (0, .ref (B 0)), (1, .ref (Bd 0))]) hx hb dX6_reduce_11 rfl hl (by decide) rfl (fun ls hl => ?_)
  refine lv_iload_n hx hb dX6_reduce_12 rfl (lv_at hl 0 rfl) ?_
  refine xz_lt (tgt := 40) hx hb dX6_reduce_13 (by decide) (fun c13 => ?_) (fun c13 => ?_)
  · have hin : ¬ fs S (S 0) < S 3 := fun q => absurd c13 (by rw [ixI, if_pos q, nI_toInt (by omega)]; omega)
    refine lv_aload_n hx hb dX6_reduce_40 rfl (lv_at hl 2 rfl) ?_
    refine lv_aload_n hx hb dX6_reduce_41 rfl (lv_at hl 1 rfl) ?_
    refine va_get (D := D) (ci := 6) (v := .ref (B 1)) (C := RX6) (T := TX6) (N := 6) hx hb hts hi_X6_reduce_X6 hown hK hP 0 rfl rfl 0 (by decide) (hts (.fieldLink RX6 12 "FallingWords$State" "rules" "LFallingWords$Rules;") (by decide +kernel)) (fun _ h9 => h9) rfl dX6_reduce_42 ?_
    refine lv_aload_n hx hb dX6_reduce_45 rfl (lv_at hl 1 rfl) ?_
    refine va_get (D := D) (ci := 6) (v := .int (nI (S 2))) (C := RX6) (T := TX6) (N := 6) hx hb hts hi_X6_reduce_X6 hown hK hP 0 rfl rfl 3 (by decide) (hts (.fieldLink RX6 31 "FallingWords$State" "choosing" "I") (by decide +kernel)) (fun _ h9 => h9) rfl dX6_reduce_46 ?_
    refine lv_aload_n hx hb dX6_reduce_49 rfl (lv_at hl 1 rfl) ?_
    refine va_get (D := D) (ci := 6) (v := .int (nI (S 0))) (C := RX6) (T := TX6) (N := 6) hx hb hts hi_X6_reduce_X6 hown hK hP 0 rfl rfl 2 (by decide) (hts (.fieldLink RX6 27 "FallingWords$State" "word" "I") (by decide +kernel)) (fun _ h9 => h9) rfl dX6_reduce_50 ?_
    refine cv_VN (As := [.ref (B 1), .int (nI (S 2)), .int (nI (S 0))]) (rest := []) h0 hK hN hP hD hS hA hl.1 (k_X3_run lY D cA Bd (fun i => B (i + 1)) WD RD oc ns rs S L R LL RL TM (S 0) (hIR) (hr) (hw)) [10, 11, 12, 1, 2, 3, 4, 5, 6] rfl (by decide) ⟨(va_cnB 3 hts gX6_reduce_X3_run_n84 rfl rfl rfl (hN (.methodLinkNest RX6 84 yX3_run "FallingWords") (by decide +kernel)) (hts (.initialized RX3) (by decide +kernel)) (by decide +kernel) ⟨Nat.le_of_ble_eq_true rfl, Nat.le_of_ble_eq_true rfl⟩), hts (.instanceMethod yX3_run) (by decide +kernel), hts (.selects RX3 yX3_run yX3_run) (by decide +kernel)⟩ (cl_recv (ci := 3) (q := (RX3, TX3, 5)) (q0 := 10) hP hK rfl rfl) rfl rfl (Nat.le_of_ble_eq_true rfl) dX6_reduce_53 ⟨Nat.zero_le _, Nat.zero_le _⟩ (fun wY H locs hwY hJ hS => ?_)
    obtain ⟨WD'_53, RD'_53, rs'_53, e2Y, f1_53, f2_53, f3_53⟩ := hwY
    have e3Y := e2Y.symm
    clear e2Y
    subst e3Y
    obtain ⟨hP, hD⟩ := hJ rfl
    have hP : va_P D vwCl (gSa cA B (nI (S 0)) (nI (S 2)) (nI (S 4)) (nI (S 5)) L R LL RL TM (nI (S 1)) WW NN (nI (S 3)) ++ gRd cA Bd WD'_53 RD'_53 (nI ((red S (S 0)).1)) (nI ((red S (S 0)).2.1)) rs'_53) H := hP
    have hD : va_D AY (gSa cA B (nI (S 0)) (nI (S 2)) (nI (S 4)) (nI (S 5)) L R LL RL TM (nI (S 1)) WW NN (nI (S 3)) ++ gRd cA Bd WD'_53 RD'_53 (nI ((red S (S 0)).1)) (nI ((red S (S 0)).2.1)) rs'_53) := hD
    refine lv_aload_n hx hb dX6_reduce_56 rfl (lv_at hl 2 rfl) ?_
    refine va_getN (D := D) (ci := 3) (v := .int (nI ((red S (S 0)).1))) (C := RX3) (T := TX3) (N := 5) hx hb hts hi_X6_reduce_X3 hown hK hP 10 rfl rfl 2 (by decide) (hN.fl (w := .fieldLinkNest RX6 90 "FallingWords$Reduction" "outcome" "I" "FallingWords") (by decide +kernel)) (fun _ h9 => h9) rfl dX6_reduce_57 ?_
    refine lv_iconst (v := nI 1) hx hb dX6_reduce_60 (by decide +kernel) ?_
    refine xc_ne (tgt := 67) hx hb dX6_reduce_61 (by decide) (by omega) (by omega) (fun c61 => ?_) (fun c61 => ?_)
    · refine lv_aload_n hx hb dX6_reduce_67 rfl (lv_at hl 2 rfl) ?_
      refine va_getN (D := D) (ci := 3) (v := .int (nI ((red S (S 0)).1))) (C := RX3) (T := TX3) (N := 5) hx hb hts hi_X6_reduce_X3 hown hK hP 10 rfl rfl 2 (by decide) (hN.fl (w := .fieldLinkNest RX6 90 "FallingWords$Reduction" "outcome" "I" "FallingWords") (by decide +kernel)) (fun _ h9 => h9) rfl dX6_reduce_68 ?_
      refine lv_iconst (v := nI 2) hx hb dX6_reduce_71 (by decide +kernel) ?_
      refine xc_ne (tgt := 78) hx hb dX6_reduce_72 (by decide) (by omega) (by omega) (fun c72 => ?_) (fun c72 => ?_)
      · have h0r : (red S (S 0)).1 = 0 := by omega
        have hch : ∀ i, i < (red S (S 0)).2.1 → chr S (xs S (S 0) i) < S 1 := fun i hi => (ch_lt hIR (z2 i hi).2 (z2 i hi).1).1
        refine lv_aload_n hx hb dX6_reduce_78 rfl (lv_at hl 2 rfl) ?_
        refine lv_aload_n hx hb dX6_reduce_79 rfl (lv_at hl 1 rfl) ?_
        refine va_get (D := D) (ci := 6) (v := .ref (B 1)) (C := RX6) (T := TX6) (N := 6) hx hb hts hi_X6_reduce_X6 hown hK hP 0 rfl rfl 0 (by decide) (hts (.fieldLink RX6 12 "FallingWords$State" "rules" "LFallingWords$Rules;") (by decide +kernel)) (fun _ h9 => h9) rfl dX6_reduce_80 ?_
        refine cv_VN (As := [.ref (B 1)]) (rest := []) h0 hK hN hP hD hS hA hl.1 (k_X3_countRules lY D cA Bd (fun i => B (i + 1)) WD'_53 RD'_53 (nI ((red S (S 0)).1)) rs'_53 ((red S (S 0)).2.1) S L R LL RL TM (S 0) (nI (S 1)) (hIR) (hr) (z1) (fun i hi => ⟨f2_53 i hi, hch i hi⟩)) [10, 11, 12, 1, 2, 3, 4, 5, 6] rfl (by decide) ⟨(va_cnB 1 hts gX6_reduce_X3_countRules_n94 rfl rfl rfl (hN (.methodLinkNest RX6 94 yX3_countRules "FallingWords") (by decide +kernel)) (hts (.initialized RX3) (by decide +kernel)) (by decide +kernel) ⟨Nat.le_of_ble_eq_true rfl, Nat.le_of_ble_eq_true rfl⟩), hts (.instanceMethod yX3_countRules) (by decide +kernel), hts (.selects RX3 yX3_countRules yX3_countRules) (by decide +kernel)⟩ (cl_recv (ci := 3) (q := (RX3, TX3, 5)) (q0 := 10) hP hK rfl rfl) rfl rfl (Nat.le_of_ble_eq_true rfl) dX6_reduce_83 ⟨Nat.zero_le _, Nat.zero_le _⟩ (fun wY H locs hwY hJ hS => ?_)
        obtain ⟨TM'_83, e2Y, fr_83⟩ := hwY
        have e3Y := e2Y.symm
        clear e2Y
        subst e3Y
        obtain ⟨hP, hD⟩ := hJ rfl
        have hP : va_P D vwCl (gSa cA B (nI (S 0)) (nI (S 2)) (nI (S 4)) (nI (S 5)) L R LL RL TM'_83 (nI (S 1)) WW NN (nI (S 3)) ++ gRd cA Bd WD'_53 RD'_53 (nI ((red S (S 0)).1)) (nI ((red S (S 0)).2.1)) rs'_53) H := hP
        have hD : va_D AY (gSa cA B (nI (S 0)) (nI (S 2)) (nI (S 4)) (nI (S 5)) L R LL RL TM'_83 (nI (S 1)) WW NN (nI (S 3)) ++ gRd cA Bd WD'_53 RD'_53 (nI ((red S (S 0)).1)) (nI ((red S (S 0)).2.1)) rs'_53) := hD
        refine lv_aload_n hx hb dX6_reduce_86 rfl (lv_at hl 1 rfl) ?_
        refine lv_dup hx hb dX6_reduce_87 rfl ?_
        refine va_get (D := D) (ci := 6) (v := .int (nI (S 5))) (C := RX6) (T := TX6) (N := 6) hx hb hts hi_X6_reduce_X6 hown hK hP 0 rfl rfl 5 (by decide) (hts (.fieldLink RX6 44 "FallingWords$State" "steps" "I") (by decide +kernel)) (fun _ h9 => h9) rfl dX6_reduce_88 ?_
        refine lv_aload_n hx hb dX6_reduce_91 rfl (lv_at hl 2 rfl) ?_
        refine va_getN (D := D) (ci := 3) (v := .int (nI ((red S (S 0)).2.1))) (C := RX3) (T := TX3) (N := 5) hx hb hts hi_X6_reduce_X3 hown hK hP 10 rfl rfl 3 (by decide) (hN.fl (w := .fieldLinkNest RX6 97 "FallingWords$Reduction" "steps" "I" "FallingWords") (by decide +kernel)) (fun _ h9 => h9) rfl dX6_reduce_92 ?_
        refine lv_iadd hx hb dX6_reduce_95 ?_
        refine xt (show (nI (S 5)) + (nI ((red S (S 0)).2.1)) = nI (S 5 + ((red S (S 0)).2.1)) from nI_add _ _) ?_
        refine va_put (D := D) (ci := 6) (v := .int (nI (S 5 + ((red S (S 0)).2.1)))) (ty := .int) (C := RX6) (T := TX6) (N := 6) hx hb hts hi_X6_reduce_X6 tyX6 tyX6_ok nmX6 hown hK hP hD hS 0 rfl rfl 5 (by decide) (hts (.fieldLink RX6 44 "FallingWords$State" "steps" "I") (by decide +kernel)) (fun _ h9 => h9) rfl (by decide +kernel) rfl rfl (Nat.le_of_ble_eq_true rfl) dX6_reduce_96 (fun H locs hP hD hS => ?_)
        have hP : va_P D vwCl (gSa cA B (nI (S 0)) (nI (S 2)) (nI (S 4)) (nI (S 5 + ((red S (S 0)).2.1))) L R LL RL TM'_83 (nI (S 1)) WW NN (nI (S 3)) ++ gRd cA Bd WD'_53 RD'_53 (nI ((red S (S 0)).1)) (nI ((red S (S 0)).2.1)) rs'_53) H := hP
        have hD : va_D AY (gSa cA B (nI (S 0)) (nI (S 2)) (nI (S 4)) (nI (S 5 + ((red S (S 0)).2.1))) L R LL RL TM'_83 (nI (S 1)) WW NN (nI (S 3)) ++ gRd cA Bd WD'_53 RD'_53 (nI ((red S (S 0)).1)) (nI ((red S (S 0)).2.1)) rs'_53) := hD
        refine lv_aload_n hx hb dX6_reduce_99 rfl (lv_at hl 1 rfl) ?_
        refine va_get (D := D) (ci := 6) (v := .ref (B 7)) (C := RX6) (T := TX6) (N := 6) hx hb hts hi_X6_reduce_X6 hown hK hP 0 rfl rfl 1 (by decide) (hts (.fieldLink RX6 21 "FallingWords$State" "store" "LFallingWords$Store;") (by decide +kernel)) (fun _ h9 => h9) rfl dX6_reduce_100 ?_
        refine lv_aload_n hx hb dX6_reduce_103 rfl (lv_at hl 1 rfl) ?_
        refine va_get (D := D) (ci := 6) (v := .int (nI (S 0))) (C := RX6) (T := TX6) (N := 6) hx hb hts hi_X6_reduce_X6 hown hK hP 0 rfl rfl 2 (by decide) (hts (.fieldLink RX6 27 "FallingWords$State" "word" "I") (by decide +kernel)) (fun _ h9 => h9) rfl dX6_reduce_104 ?_
        refine lv_aload_n hx hb dX6_reduce_107 rfl (lv_at hl 2 rfl) ?_
        refine ci_VN (As := []) (rest := [.int (nI (S 0)), .ref (B 7)]) h0 hK hN hP hD hS hA hl.1 (k_X3_last lY D cA Bd WD'_53 RD'_53 (nI ((red S (S 0)).1)) rs'_53 ((red S (S 0)).2.1) (xs S (S 0) (red S (S 0)).2.1) (z1) (f1_53 _ (Nat.le_refl _))) [10, 11, 12] rfl (by decide) ⟨(va_cnB 0 hts gX6_reduce_X3_last_n98 rfl rfl rfl (hN (.methodLinkNest RX6 98 yX3_last "FallingWords") (by decide +kernel)) (hts (.initialized RX3) (by decide +kernel)) (by decide +kernel) ⟨Nat.le_of_ble_eq_true rfl, Nat.le_of_ble_eq_true rfl⟩), hts (.instanceMethod yX3_last) (by decide +kernel), hts (.selects RX3 yX3_last yX3_last) (by decide +kernel)⟩ (cl_recv (ci := 3) (q := (RX3, TX3, 5)) (q0 := 10) hP hK rfl rfl) rfl rfl (Nat.le_of_ble_eq_true rfl) dX6_reduce_108 ⟨Nat.zero_le _, Nat.zero_le _⟩ (fun rY wY H locs hwY hJ hS => ?_)
        obtain ⟨e1Y, e2Y⟩ := hwY
        have e3Y := e1Y.symm
        clear e1Y
        subst e3Y
        have e3Y := e2Y.symm
        clear e2Y
        subst e3Y
        obtain ⟨hP, hD⟩ := hJ rfl
        have hP : va_P D vwCl (gSa cA B (nI (S 0)) (nI (S 2)) (nI (S 4)) (nI (S 5 + ((red S (S 0)).2.1))) L R LL RL TM'_83 (nI (S 1)) WW NN (nI (S 3)) ++ gRd cA Bd WD'_53 RD'_53 (nI ((red S (S 0)).1)) (nI ((red S (S 0)).2.1)) rs'_53) H := hP
        have hD : va_D AY (gSa cA B (nI (S 0)) (nI (S 2)) (nI (S 4)) (nI (S 5 + ((red S (S 0)).2.1))) L R LL RL TM'_83 (nI (S 1)) WW NN (nI (S 3)) ++ gRd cA Bd WD'_53 RD'_53 (nI ((red S (S 0)).1)) (nI ((red S (S 0)).2.1)) rs'_53) := hD
        refine cv_VN (As := [.int (nI (S 0)), .int (nI (xs S (S 0) (red S (S 0)).2.1))]) (rest := []) h0 hK hN hP hD hS hA hl.1 (k_X7_put lY D cA (fun i => B (i + 7)) S WW NN (S 0) (xs S (S 0) (red S (S 0)).2.1) (h8) (ho)) [7, 8, 9] rfl (by decide) ⟨(va_cnB 2 hts gX6_reduce_X7_put_n102 rfl rfl rfl (hN (.methodLinkNest RX6 102 yX7_put "FallingWords") (by decide +kernel)) (hts (.initialized RX7) (by decide +kernel)) (by decide +kernel) ⟨Nat.le_of_ble_eq_true rfl, Nat.le_of_ble_eq_true rfl⟩), hts (.instanceMethod yX7_put) (by decide +kernel), hts (.selects RX7 yX7_put yX7_put) (by decide +kernel)⟩ (cl_recv (ci := 7) (q := (RX7, TX7, 3)) (q0 := 7) hP hK rfl rfl) rfl rfl (Nat.le_of_ble_eq_true rfl) dX6_reduce_111 ⟨Nat.zero_le _, Nat.zero_le _⟩ (fun wY H locs hwY hJ hS => ?_)
        obtain ⟨WW'_111, NN'_111, e2Y, f1_111, f2_111⟩ := hwY
        have e3Y := e2Y.symm
        clear e2Y
        subst e3Y
        obtain ⟨hP, hD⟩ := hJ rfl
        have hP : va_P D vwCl (gSa cA B (nI (S 0)) (nI (S 2)) (nI (S 4)) (nI (S 5 + ((red S (S 0)).2.1))) L R LL RL TM'_83 (nI (S 1)) WW'_111 NN'_111 (nI (min (S 3 + 1) 8)) ++ gRd cA Bd WD'_53 RD'_53 (nI ((red S (S 0)).1)) (nI ((red S (S 0)).2.1)) rs'_53) H := hP
        have hD : va_D AY (gSa cA B (nI (S 0)) (nI (S 2)) (nI (S 4)) (nI (S 5 + ((red S (S 0)).2.1))) L R LL RL TM'_83 (nI (S 1)) WW'_111 NN'_111 (nI (min (S 3 + 1) 8)) ++ gRd cA Bd WD'_53 RD'_53 (nI ((red S (S 0)).1)) (nI ((red S (S 0)).2.1)) rs'_53) := hD
        refine lv_aload_n hx hb dX6_reduce_114 rfl (lv_at hl 1 rfl) ?_
        refine lv_aload_n hx hb dX6_reduce_115 rfl (lv_at hl 2 rfl) ?_
        refine ci_VN (As := []) (rest := [.ref (B 0)]) h0 hK hN hP hD hS hA hl.1 (k_X3_last lY D cA Bd WD'_53 RD'_53 (nI ((red S (S 0)).1)) rs'_53 ((red S (S 0)).2.1) (xs S (S 0) (red S (S 0)).2.1) (z1) (f1_53 _ (Nat.le_refl _))) [10, 11, 12] rfl (by decide) ⟨(va_cnB 0 hts gX6_reduce_X3_last_n98 rfl rfl rfl (hN (.methodLinkNest RX6 98 yX3_last "FallingWords") (by decide +kernel)) (hts (.initialized RX3) (by decide +kernel)) (by decide +kernel) ⟨Nat.le_of_ble_eq_true rfl, Nat.le_of_ble_eq_true rfl⟩), hts (.instanceMethod yX3_last) (by decide +kernel), hts (.selects RX3 yX3_last yX3_last) (by decide +kernel)⟩ (cl_recv (ci := 3) (q := (RX3, TX3, 5)) (q0 := 10) hP hK rfl rfl) rfl rfl (Nat.le_of_ble_eq_true rfl) dX6_reduce_116 ⟨Nat.zero_le _, Nat.zero_le _⟩ (fun rY wY H locs hwY hJ hS => ?_)
        obtain ⟨e1Y, e2Y⟩ := hwY
        have e3Y := e1Y.symm
        clear e1Y
        subst e3Y
        have e3Y := e2Y.symm
        clear e2Y
        subst e3Y
        obtain ⟨hP, hD⟩ := hJ rfl
        have hP : va_P D vwCl (gSa cA B (nI (S 0)) (nI (S 2)) (nI (S 4)) (nI (S 5 + ((red S (S 0)).2.1))) L R LL RL TM'_83 (nI (S 1)) WW'_111 NN'_111 (nI (min (S 3 + 1) 8)) ++ gRd cA Bd WD'_53 RD'_53 (nI ((red S (S 0)).1)) (nI ((red S (S 0)).2.1)) rs'_53) H := hP
        have hD : va_D AY (gSa cA B (nI (S 0)) (nI (S 2)) (nI (S 4)) (nI (S 5 + ((red S (S 0)).2.1))) L R LL RL TM'_83 (nI (S 1)) WW'_111 NN'_111 (nI (min (S 3 + 1) 8)) ++ gRd cA Bd WD'_53 RD'_53 (nI ((red S (S 0)).1)) (nI ((red S (S 0)).2.1)) rs'_53) := hD
        refine va_put (D := D) (ci := 6) (v := .int (nI (xs S (S 0) (red S (S 0)).2.1))) (ty := .int) (C := RX6) (T := TX6) (N := 6) hx hb hts hi_X6_reduce_X6 tyX6 tyX6_ok nmX6 hown hK hP hD hS 0 rfl rfl 2 (by decide) (hts (.fieldLink RX6 27 "FallingWords$State" "word" "I") (by decide +kernel)) (fun _ h9 => h9) rfl (by decide +kernel) rfl rfl (Nat.le_of_ble_eq_true rfl) dX6_reduce_119 (fun H locs hP hD hS => ?_)
        have hP : va_P D vwCl (gSa cA B (nI (xs S (S 0) (red S (S 0)).2.1)) (nI (S 2)) (nI (S 4)) (nI (S 5 + ((red S (S 0)).2.1))) L R LL RL TM'_83 (nI (S 1)) WW'_111 NN'_111 (nI (min (S 3 + 1) 8)) ++ gRd cA Bd WD'_53 RD'_53 (nI ((red S (S 0)).1)) (nI ((red S (S 0)).2.1)) rs'_53) H := hP
        have hD : va_D AY (gSa cA B (nI (xs S (S 0) (red S (S 0)).2.1)) (nI (S 2)) (nI (S 4)) (nI (S 5 + ((red S (S 0)).2.1))) L R LL RL TM'_83 (nI (S 1)) WW'_111 NN'_111 (nI (min (S 3 + 1) 8)) ++ gRd cA Bd WD'_53 RD'_53 (nI ((red S (S 0)).1)) (nI ((red S (S 0)).2.1)) rs'_53) := hD
        refine lv_aload_n hx hb dX6_reduce_122 rfl (lv_at hl 2 rfl) ?_
        refine va_getN (D := D) (ci := 3) (v := .int (nI ((red S (S 0)).2.1))) (C := RX3) (T := TX3) (N := 5) hx hb hts hi_X6_reduce_X3 hown hK hP 10 rfl rfl 3 (by decide) (hN.fl (w := .fieldLinkNest RX6 97 "FallingWords$Reduction" "steps" "I" "FallingWords") (by decide +kernel)) (fun _ h9 => h9) rfl dX6_reduce_123 ?_
        have hR : normR S = (nI (red S (S 0)).2.1, nmS S) := by unfold normR; rw [if_neg hin, if_pos h0r]
        have hu : ∀ j, j ≠ 0 → j ≠ 5 → (upN (upN (bmp S (S 0) (red S (S 0)).2.1) 5 (S 5 + (red S (S 0)).2.1)) 0 (xs S (S 0) (red S (S 0)).2.1)) j = bmp S (S 0) (red S (S 0)).2.1 j := fun j h1 h2 => by rw [upN_n h1, upN_n h2]
        have hb6 : ∀ j, j < 6 → bmp S (S 0) (red S (S 0)).2.1 j = S j := fun j hj => bmp_lo hj
        have hm : min ((upN (upN (bmp S (S 0) (red S (S 0)).2.1) 5 (S 5 + (red S (S 0)).2.1)) 0 (xs S (S 0) (red S (S 0)).2.1)) 3 + 1) 8 = min (S 3 + 1) 8 := by rw [hu 3 (by decide) (by decide), hb6 3 (by decide)]
        have ql : ∀ j, j < 36 → j ≠ 3 → nmS S j = (upN (upN (bmp S (S 0) (red S (S 0)).2.1) 5 (S 5 + (red S (S 0)).2.1)) 0 (xs S (S 0) (red S (S 0)).2.1)) j := fun j h1 h2 => by unfold nmS putS; rw [cfs_lo h1, upN_n h2]
        have q0 : nmS S 0 = xs S (S 0) (red S (S 0)).2.1 := by rw [ql 0 (by decide) (by decide), upN_s]
        have q1 : nmS S 1 = S 1 := by rw [ql 1 (by decide) (by decide), hu 1 (by decide) (by decide), hb6 1 (by decide)]
        have q2 : nmS S 2 = S 2 := by rw [ql 2 (by decide) (by decide), hu 2 (by decide) (by decide), hb6 2 (by decide)]
        have q3 : nmS S 3 = min (S 3 + 1) 8 := by unfold nmS putS; rw [cfs_lo (by decide), upN_s, hm]
        have q4 : nmS S 4 = S 4 := by rw [ql 4 (by decide) (by decide), hu 4 (by decide) (by decide), hb6 4 (by decide)]
        have q5 : nmS S 5 = S 5 + (red S (S 0)).2.1 := by rw [ql 5 (by decide) (by decide), upN_n (by decide), upN_s]
        exact hret _ _ _ _ _ _ dX6_reduce_126 ⟨L, R, LL, RL, TM'_83, WW'_111, NN'_111, WD'_53, RD'_53, (nI ((red S (S 0)).1)), (nI ((red S (S 0)).2.1)), rs'_53, by rw [hR], by rw [hR]; dsimp only; rw [q0, q1, q2, q3, q4, q5], by rw [hR]; exact rRu_to fr_83 (fun j h1 h2 => by dsimp only; rw [ql j (by omega) (by omega), hu j (by omega) (by omega)]) (by rw [hb6 1 (by decide)]; exact q1) (by rw [hb6 1 (by decide)]; exact h10), by rw [hR]; dsimp only; unfold nmS putS; rw [hm]; exact rSo_cfs ho f1_111 f2_111 (by omega) (fun j hj => by rw [upN_n (by omega), hu j (by omega) (by omega), bmp_hi (fun i hi => by have := hch i hi; omega) hj]) (Or.inr (by rw [upN_s]; omega)) (cfs_lo (by decide))⟩ hP hD hS
      · refine lv_ldc (v := (-1000003)) hx hb hown (hts (.constant RX6 93 (-1000003)) (by decide +kernel)) dX6_reduce_75 ?_
        have hR : normR S = ((-1000003), S) := by unfold normR; rw [if_neg hin, if_neg (by omega), if_neg c61]
        exact hret _ _ _ _ _ _ dX6_reduce_77 ⟨L, R, LL, RL, TM, WW, NN, WD'_53, RD'_53, (nI ((red S (S 0)).1)), (nI ((red S (S 0)).2.1)), rs'_53, by rw [hR], by rw [hR], by rw [hR]; exact hr, by rw [hR]; exact ho⟩ hP hD hS
    · refine lv_ldc (v := (-1000002)) hx hb hown (hts (.constant RX6 62 (-1000002)) (by decide +kernel)) dX6_reduce_64 ?_
      have hR : normR S = ((-1000002), S) := by unfold normR; rw [if_neg hin, if_neg (by omega), if_pos c61]
      exact hret _ _ _ _ _ _ dX6_reduce_66 ⟨L, R, LL, RL, TM, WW, NN, WD'_53, RD'_53, (nI ((red S (S 0)).1)), (nI ((red S (S 0)).2.1)), rs'_53, by rw [hR], by rw [hR], by rw [hR]; exact hr, by rw [hR]; exact ho⟩ hP hD hS
  · have hin : fs S (S 0) < S 3 := by
      rcases Nat.lt_or_ge (fs S (S 0)) (S 3) with q | q
      · exact q
      · exact absurd c13 (by rw [ixI, if_neg (by omega)]; decide)
    have hfs : S (36 + 2 * fs S (S 0)) = S 0 := of_decide_eq_true (ff_yes (fun k => decide (S (36 + 2 * k) = S 0)) (S 3) hin)
    have hl : lv_has ls 3 [(2, .int (nI (fs S (S 0)))), (0, .ref (B 0)), (1, .ref (Bd 0))] := Eq.mp (congrArg (fun zY : Int32 => lv_has ls 3 [(2, .int zY), (0, .ref (B 0)), (1, .ref (Bd 0))]) (show ixI S (S 0) = nI (fs S (S 0)) from if_pos hin)) hl
    refine lv_aload_n hx hb dX6_reduce_16 rfl (lv_at hl 1 rfl) ?_
    refine lv_aload_n hx hb dX6_reduce_17 rfl (lv_at hl 1 rfl) ?_
    refine va_get (D := D) (ci := 6) (v := .ref (B 7)) (C := RX6) (T := TX6) (N := 6) hx hb hts hi_X6_reduce_X6 hown hK hP 0 rfl rfl 1 (by decide) (hts (.fieldLink RX6 21 "FallingWords$State" "store" "LFallingWords$Store;") (by decide +kernel)) (fun _ h9 => h9) rfl dX6_reduce_18 ?_
    refine lv_iload_n hx hb dX6_reduce_21 rfl (lv_at hl 0 rfl) ?_
    refine ci_VN (As := [.int (nI (fs S (S 0)))]) (rest := [.ref (B 0)]) h0 hK hN hP hD hS hA hl.1 (k_X7_use lY D cA (fun i => B (i + 7)) S WW NN (fs S (S 0)) (h8) (ho) (hin)) [7, 8, 9] rfl (by decide) ⟨(va_cnB 1 hts gX6_reduce_X7_use_n81 rfl rfl rfl (hN (.methodLinkNest RX6 81 yX7_use "FallingWords") (by decide +kernel)) (hts (.initialized RX7) (by decide +kernel)) (by decide +kernel) ⟨Nat.le_of_ble_eq_true rfl, Nat.le_of_ble_eq_true rfl⟩), hts (.instanceMethod yX7_use) (by decide +kernel), hts (.selects RX7 yX7_use yX7_use) (by decide +kernel)⟩ (cl_recv (ci := 7) (q := (RX7, TX7, 3)) (q0 := 7) hP hK rfl rfl) rfl rfl (Nat.le_of_ble_eq_true rfl) dX6_reduce_22 ⟨Nat.zero_le _, Nat.zero_le _⟩ (fun rY wY H locs hwY hJ hS => ?_)
    obtain ⟨WW'_22, NN'_22, e1Y, e2Y, f1_22, f2_22⟩ := hwY
    have e3Y := e1Y.symm
    clear e1Y
    subst e3Y
    have e3Y := e2Y.symm
    clear e2Y
    subst e3Y
    obtain ⟨hP, hD⟩ := hJ rfl
    have hP : va_P D vwCl (gSa cA B (nI (S 0)) (nI (S 2)) (nI (S 4)) (nI (S 5)) L R LL RL TM (nI (S 1)) WW'_22 NN'_22 (nI (S 3)) ++ gRd cA Bd WD RD oc ns rs) H := hP
    have hD : va_D AY (gSa cA B (nI (S 0)) (nI (S 2)) (nI (S 4)) (nI (S 5)) L R LL RL TM (nI (S 1)) WW'_22 NN'_22 (nI (S 3)) ++ gRd cA Bd WD RD oc ns rs) := hD
    refine va_put (D := D) (ci := 6) (v := .int (nI (S (37 + 2 * (fs S (S 0)))))) (ty := .int) (C := RX6) (T := TX6) (N := 6) hx hb hts hi_X6_reduce_X6 tyX6 tyX6_ok nmX6 hown hK hP hD hS 0 rfl rfl 2 (by decide) (hts (.fieldLink RX6 27 "FallingWords$State" "word" "I") (by decide +kernel)) (fun _ h9 => h9) rfl (by decide +kernel) rfl rfl (Nat.le_of_ble_eq_true rfl) dX6_reduce_25 (fun H locs hP hD hS => ?_)
    have hP : va_P D vwCl (gSa cA B (nI (S (37 + 2 * (fs S (S 0))))) (nI (S 2)) (nI (S 4)) (nI (S 5)) L R LL RL TM (nI (S 1)) WW'_22 NN'_22 (nI (S 3)) ++ gRd cA Bd WD RD oc ns rs) H := hP
    have hD : va_D AY (gSa cA B (nI (S (37 + 2 * (fs S (S 0))))) (nI (S 2)) (nI (S 4)) (nI (S 5)) L R LL RL TM (nI (S 1)) WW'_22 NN'_22 (nI (S 3)) ++ gRd cA Bd WD RD oc ns rs) := hD
    refine lv_aload_n hx hb dX6_reduce_28 rfl (lv_at hl 1 rfl) ?_
    refine lv_dup hx hb dX6_reduce_29 rfl ?_
    refine va_get (D := D) (ci := 6) (v := .int (nI (S 4))) (C := RX6) (T := TX6) (N := 6) hx hb hts hi_X6_reduce_X6 hown hK hP 0 rfl rfl 4 (by decide) (hts (.fieldLink RX6 41 "FallingWords$State" "taken" "I") (by decide +kernel)) (fun _ h9 => h9) rfl dX6_reduce_30 ?_
    refine lv_iconst (v := nI 1) hx hb dX6_reduce_33 (by decide +kernel) ?_
    refine lv_iadd hx hb dX6_reduce_34 ?_
    refine xt (show (nI (S 4)) + (nI 1) = nI (S 4 + 1) from nI_add _ _) ?_
    refine va_put (D := D) (ci := 6) (v := .int (nI (S 4 + 1))) (ty := .int) (C := RX6) (T := TX6) (N := 6) hx hb hts hi_X6_reduce_X6 tyX6 tyX6_ok nmX6 hown hK hP hD hS 0 rfl rfl 4 (by decide) (hts (.fieldLink RX6 41 "FallingWords$State" "taken" "I") (by decide +kernel)) (fun _ h9 => h9) rfl (by decide +kernel) rfl rfl (Nat.le_of_ble_eq_true rfl) dX6_reduce_35 (fun H locs hP hD hS => ?_)
    have hP : va_P D vwCl (gSa cA B (nI (S (37 + 2 * (fs S (S 0))))) (nI (S 2)) (nI (S 4 + 1)) (nI (S 5)) L R LL RL TM (nI (S 1)) WW'_22 NN'_22 (nI (S 3)) ++ gRd cA Bd WD RD oc ns rs) H := hP
    have hD : va_D AY (gSa cA B (nI (S (37 + 2 * (fs S (S 0))))) (nI (S 2)) (nI (S 4 + 1)) (nI (S 5)) L R LL RL TM (nI (S 1)) WW'_22 NN'_22 (nI (S 3)) ++ gRd cA Bd WD RD oc ns rs) := hD
    refine lv_iconst (v := nI 0) hx hb dX6_reduce_38 (by decide +kernel) ?_
    have hR : normR S = (0, tkS S (fs S (S 0))) := if_pos hin
    have q0 : (tkS S (fs S (S 0))) 0 = S (37 + 2 * fs S (S 0)) := by unfold tkS cfs upN; (try dsimp only); repeat first | rw [if_pos (by omega)] | rw [if_neg (by omega)]
    have q1 : (tkS S (fs S (S 0))) 1 = S 1 := by unfold tkS cfs upN; (try dsimp only); repeat first | rw [if_pos (by omega)] | rw [if_neg (by omega)]
    have q2 : (tkS S (fs S (S 0))) 2 = S 2 := by unfold tkS cfs upN; (try dsimp only); repeat first | rw [if_pos (by omega)] | rw [if_neg (by omega)]
    have q3 : (tkS S (fs S (S 0))) 3 = S 3 := by unfold tkS cfs upN; (try dsimp only); repeat first | rw [if_pos (by omega)] | rw [if_neg (by omega)]
    have q4 : (tkS S (fs S (S 0))) 4 = S 4 + 1 := by unfold tkS cfs upN; (try dsimp only); repeat first | rw [if_pos (by omega)] | rw [if_neg (by omega)]
    have q5 : (tkS S (fs S (S 0))) 5 = S 5 := by unfold tkS cfs upN; (try dsimp only); repeat first | rw [if_pos (by omega)] | rw [if_neg (by omega)]
    rw [hfs] at f1_22
    exact hret _ _ _ _ _ _ dX6_reduce_39 ⟨L, R, LL, RL, TM, WW'_22, NN'_22, WD, RD, oc, ns, rs, by rw [hR]; rfl, by rw [hR]; dsimp only; rw [q0, q1, q2, q3, q4, q5], by rw [hR]; exact rRu_to hr (fun j h1 h2 => by unfold tkS; dsimp only; rw [upN_n (by omega), upN_n (by omega), cfs_lo (by omega)]) q1 h10, by rw [hR]; exact rSo_to (rSo_cfs ho f1_22 f2_22 (by omega) (fun _ _ => rfl) (Or.inl (Nat.le_refl _)) (cfs_lo (by decide))) (fun j h1 => by unfold tkS; dsimp only; rw [upN_n (by omega), upN_n (by omega)]) (by rw [cfs_lo (by decide)]; exact q3)⟩ hP hD hS
end
section
/-! overlaps -/
noncomputable def sl {α : Type} (x : α) : α := Classical.choose (⟨x, rfl⟩ : ∃ y, y = x)
theorem sl_eq {α : Type} (x : α) : sl x = x := Classical.choose_spec (⟨x, rfl⟩ : ∃ y, y = x)
def kA (k : Nat) : Nat := k / 40
def kB (k : Nat) : Nat := k / 4 % 10
def kQ (k : Nat) : Nat := k % 4
def agrP (x y q : Nat) : Prop := ∀ k, q ≤ k → k < len x → k < q + len y → lt4 x k = lt4 y (k - q)
noncomputable def agr (x y q : Nat) : Bool := @decide (agrP x y q) (Classical.propDecidable _)
theorem agr_t {x y q : Nat} (h : agrP x y q) : agr x y q = true := @decide_eq_true _ (Classical.propDecidable _) h
theorem agr_f {x y q : Nat} (h : ¬ agrP x y q) : agr x y q = false := @decide_eq_false _ (Classical.propDecidable _) h
theorem agr_u {x y q : Nat} (h : agr x y q = true) : agrP x y q := @of_decide_eq_true _ (Classical.propDecidable _) h
def shp (x y q : Nat) (ne : Bool) : Bool := (ne && decide (q + len y ≤ len x)) || decide (0 < q ∧ q < len x ∧ len x ≤ q + len y)
noncomputable def ovl (S : St) (a b q : Nat) : Bool := shp (lf S a) (lf S b) q (decide (a ≠ b)) && agr (lf S a) (lf S b) q
def ovx (x y e : Nat) : Nat := x * 4 ^ e + y % 4 ^ e
def ovw (S : St) (a b q : Nat) : Nat := ovx (lf S a) (lf S b) (q + len (lf S b) - len (lf S a))
def ow1 (S : St) (a b q : Nat) : Nat := app (lf S a) (rt S a) (ovw S a b q) 0
def ow2 (S : St) (a b q : Nat) : Nat := app (lf S b) (rt S b) (ovw S a b q) q
noncomputable def ovk (S : St) (k : Nat) : Bool := decide (kA k < S 1) && decide (kB k < S 1) && ovl S (kA k) (kB k) (kQ k)
noncomputable def nw (S : St) (u : Nat) : Nat := xs S u (red S u).2.1
noncomputable def par (S : St) (u v : Nat) : Nat := sl (if (red S u).1 = 0 ∧ (red S v).1 = 0 then (if nw S u = nw S v then 0 else 1) else 2)
noncomputable def prk (S : St) (k : Nat) : Nat := par S (ow1 S (kA k) (kB k) (kQ k)) (ow2 S (kA k) (kB k) (kQ k))
theorem dig (t : Nat) : ∀ u v : Nat, u % 4 ^ t = v % 4 ^ t ↔ ∀ i, i < t → u / 4 ^ i % 4 = v / 4 ^ i % 4 := by
  induction t with
  | zero => intro u v; simp [Nat.mod_one]
  | succ t ih =>
    intro u v
    have hu := Nat.mod_pow_succ (b := 4) (k := t) (x := u)
    have hv := Nat.mod_pow_succ (b := 4) (k := t) (x := v)
    have lu : u % 4 ^ t < 4 ^ t := Nat.mod_lt _ (four_pos _)
    have lv : v % 4 ^ t < 4 ^ t := Nat.mod_lt _ (four_pos _)
    rw [hu, hv]
    constructor
    · intro h
      have h1 : u % 4 ^ t = v % 4 ^ t := by
        have a := congrArg (· % 4 ^ t) h
        simp only [Nat.add_mul_mod_self_left, Nat.mod_mod] at a
        exact a
      have h2 : u / 4 ^ t % 4 = v / 4 ^ t % 4 := by
        rw [h1] at h
        exact Nat.eq_of_mul_eq_mul_left (four_pos t) (Nat.add_left_cancel h)
      intro i hi
      rcases Nat.lt_or_ge i t with q | q
      · exact (ih u v).mp h1 i q
      · rw [show i = t by omega]; exact h2
    · intro h
      rw [(ih u v).mpr (fun i hi => h i (by omega)), h t (Nat.lt_succ_self t)]
theorem stn_iff {y w q : Nat} (hq : q + len y ≤ len w) : stn y w q = true ↔ ∀ i, i < len y → lt4 w (q + i) = lt4 y i := by
  unfold stn
  rw [decide_eq_true hq, Bool.true_and, decide_eq_true_eq, dig]
  unfold lt4
  constructor
  · intro h i hi
    have a := h (len y - 1 - i) (by omega)
    rw [Nat.div_div_eq_div_mul, ← Nat.pow_add] at a
    rw [show len w - 1 - (q + i) = len w - q - len y + (len y - 1 - i) by omega]
    exact a
  · intro h i hi
    have a := h (len y - 1 - i) (by omega)
    rw [show len w - 1 - (q + (len y - 1 - i)) = len w - q - len y + i by omega, show len y - 1 - (len y - 1 - i) = i by omega] at a
    rw [Nat.div_div_eq_div_mul, ← Nat.pow_add]
    exact a
theorem ovx_wd {x y e n : Nat} (hx1 : wd n x) : wd (n + e) (ovx x y e) := wd_app hx1 (Nat.mod_lt _ (four_pos _))
theorem ovx_hi {x y e k : Nat} (hx1 : wd (len x) x) (hk : k < len x) : lt4 (ovx x y e) k = lt4 x k := by
  unfold lt4
  rw [len_wd (ovx_wd hx1), show len x + e - 1 - k = e + (len x - 1 - k) by omega, Nat.pow_add, ← Nat.div_div_eq_div_mul]
  unfold ovx
  rw [Nat.mul_comm x, Nat.mul_add_div (four_pos e), Nat.div_eq_of_lt (Nat.mod_lt _ (four_pos e)), Nat.add_zero]
theorem ovx_lo {x y e k : Nat} (hx1 : wd (len x) x) (hk : len x ≤ k) (hk2 : k < len x + e) (he : e ≤ len y) : lt4 (ovx x y e) k = lt4 y (k + len y - (len x + e)) := by
  unfold lt4
  rw [len_wd (ovx_wd hx1), show len y - 1 - (k + len y - (len x + e)) = len x + e - 1 - k by omega]
  refine (dig e _ _).mp ?_ _ (by omega)
  unfold ovx
  rw [Nat.mul_comm x, Nat.mul_add_mod, Nat.mod_mod]
theorem ov_ok {S : St} {a b q : Nat} (hI : IR S) (ha : a < S 1) (hb2 : b < S 1) (hq : q < 4) (hs : shp (lf S a) (lf S b) q (decide (a ≠ b)) = true) : vw 12 (ovw S a b q) ∧ len (ovw S a b q) = len (lf S a) + (q + len (lf S b) - len (lf S a)) ∧ stn (lf S a) (ovw S a b q) 0 = true ∧ stn (lf S b) (ovw S a b q) q = agr (lf S a) (lf S b) q := by
  obtain ⟨a1, a2, a3, a4⟩ := hI.2.2 a ha
  obtain ⟨b1, b2, b3, b4⟩ := hI.2.2 b hb2
  have a12 := a1.2
  have b12 := b1.2
  unfold shp at hs
  simp only [Bool.or_eq_true, Bool.and_eq_true, decide_eq_true_eq] at hs
  have hw : wd (len (lf S a) + (q + len (lf S b) - len (lf S a))) (ovw S a b q) := ovx_wd a1.1
  have hlen := len_wd hw
  refine ⟨wd_vw hw (by omega), hlen, ?_, ?_⟩
  · rw [stn_iff (by omega)]
    intro i hi
    rw [Nat.zero_add]
    exact ovx_hi a1.1 hi
  · cases hag : agr (lf S a) (lf S b) q with
    | true =>
      have h := agr_u hag
      rw [stn_iff (by omega)]
      intro i hi
      rcases Nat.lt_or_ge (q + i) (len (lf S a)) with c | c
      · have := ovx_hi (y := lf S b) (e := q + len (lf S b) - len (lf S a)) a1.1 c
        have h2 := h (q + i) (by omega) c (by omega)
        rw [Nat.add_sub_cancel_left] at h2
        exact this.trans h2
      · have := ovx_lo (y := lf S b) (e := q + len (lf S b) - len (lf S a)) a1.1 c (by omega) (by omega)
        rw [show q + i + len (lf S b) - (len (lf S a) + (q + len (lf S b) - len (lf S a))) = i by omega] at this
        exact this
    | false =>
      cases hst : stn (lf S b) (ovw S a b q) q with
      | false => rfl
      | true =>
        rw [stn_iff (by omega)] at hst
        refine absurd (agr_t (x := lf S a) (y := lf S b) (q := q) ?_) (by rw [hag]; decide)
        intro k h2 h3 h4
        have t := hst (k - q) (by omega)
        rw [show q + (k - q) = k by omega] at t
        rw [← t]
        exact (ovx_hi a1.1 h3).symm
theorem ov_w {S : St} {a b q : Nat} (hI : IR S) (ha : a < S 1) (hb2 : b < S 1) (hq : q < 4) (h : ovl S a b q = true) : vw 12 (ovw S a b q) ∧ 0 + len (lf S a) ≤ len (ovw S a b q) ∧ q + len (lf S b) ≤ len (ovw S a b q) ∧ vw 12 (ow1 S a b q) ∧ vw 12 (ow2 S a b q) := by
  unfold ovl at h
  rw [Bool.and_eq_true] at h
  obtain ⟨h1, h2⟩ := h
  obtain ⟨e1, e2, e3, e4⟩ := ov_ok hI ha hb2 hq h1
  rw [h2] at e4
  exact ⟨e1, stn_le e3, stn_le e4, ap_vw hI e1 ha e3, ap_vw hI e1 hb2 e4⟩
theorem inR_nI {S : St} {a : Nat} (h : a < 2147483648) : inR S (nI a) = decide (a < S 1) := by
  unfold inR
  rw [nI_toInt h]
  by_cases q : a < S 1
  · rw [decide_eq_true q, decide_eq_true (by omega)]
  · rw [decide_eq_false q, decide_eq_false (by omega)]
theorem ovx_lt {x y e n : Nat} (hx1 : vw n x) (hn : n + e ≤ 13) : x * 4 ^ e < 134217728 := by
  have h := wd_app hx1.1 (k := e) (b := 0) (four_pos _)
  have := wd_lt h (m := 13) (by have := hx1.2; omega)
  have e2 : 2 * 4 ^ 13 = 134217728 := by decide
  omega
theorem cn_mono (p : Nat → Bool) : ∀ {i j : Nat}, i ≤ j → cn p i ≤ cn p j := by
  intro i j h
  induction h with
  | refl => exact Nat.le_refl _
  | step h ih => exact Nat.le_trans ih (by show cn p _ ≤ cn p _ + _; omega)
noncomputable def cntO (S : St) : Nat := sl (cn (ovk S) 400)
noncomputable def cntV (S : St) (v : Nat) : Nat := sl (cn (fun k => ovk S k && decide (prk S k = v)) 400)
noncomputable def kth (S : St) (n : Nat) : Nat := sl (ff (fun k => ovk S k && decide (cn (ovk S) k = n)) 400)
noncomputable def pth (S : St) : Nat := sl (ff (fun k => ovk S k && decide (prk S k = 1)) 400)
noncomputable def fndB (S : St) (x : Int32) : Bool := sl (decide (0 ≤ x.toInt ∧ x.toInt < (cntO S : Int)))
theorem kth_is {S : St} {k n : Nat} (hk : k < 400) (h : ovk S k = true) (hn : cn (ovk S) k = n) : kth S n = k ∧ n < cntO S := by
  unfold kth cntO
  rw [sl_eq, sl_eq]
  refine ⟨ff_is hk (by rw [h, hn]; simp) (fun j hj => ?_), ?_⟩
  · cases hj1 : ovk S j with
    | false => rfl
    | true =>
      have h1 := cn_t hj1
      have h2 := cn_mono (ovk S) (show j + 1 ≤ k by omega)
      simp only [Bool.true_and]
      exact decide_eq_false (by omega)
  · have h1 := cn_t h
    have h2 := cn_mono (ovk S) (show k + 1 ≤ 400 by omega)
    omega
theorem par_2a {S : St} {u v : Nat} (h : (red S u).1 ≠ 0) : par S u v = 2 := by unfold par; rw [sl_eq, if_neg (fun q => h q.1)]
theorem par_2b {S : St} {u v : Nat} (h : (red S v).1 ≠ 0) : par S u v = 2 := by unfold par; rw [sl_eq, if_neg (fun q => h q.2)]
theorem par_0 {S : St} {u v : Nat} (h1 : (red S u).1 = 0) (h2 : (red S v).1 = 0) (h : nw S u = nw S v) : par S u v = 0 := by unfold par; rw [sl_eq, if_pos ⟨h1, h2⟩, if_pos h]
theorem par_1 {S : St} {u v : Nat} (h1 : (red S u).1 = 0) (h2 : (red S v).1 = 0) (h : nw S u ≠ nw S v) : par S u v = 1 := by unfold par; rw [sl_eq, if_pos ⟨h1, h2⟩, if_neg h]
theorem par_le {S : St} {u v : Nat} : par S u v ≤ 2 := by
  unfold par
  rw [sl_eq]
  split
  · split <;> decide
  · decide
theorem rRu_f {S : St} {L R LL RL TM : Nat → Int32} {r : Nat} (h : rRu S L R LL RL TM) (hr : r < S 1) : L r = nI (lf S r) ∧ R r = nI (rt S r) ∧ LL r = nI (len (lf S r)) ∧ RL r = nI (len (rt S r)) ∧ TM r = nI (tms S r) := h r hr
theorem ov_pow0 {x y e : Nat} (h : e = 0) : ovx x y e = x := by
  subst h
  unfold ovx
  rw [Nat.pow_zero, Nat.mul_one, Nat.mod_one, Nat.add_zero]
theorem kb (k : Nat) (h : k < 400) : kA k < 10 ∧ kB k < 10 ∧ kQ k < 4 := by unfold kA kB kQ; omega

abbrev gOv (cA : Nat → ClassId) (B : Nat → Nat) (fi : Int32) (se : Int32) (pl : Int32) (wd1 : Int32) (fn : Int32) (sn : Int32) : va_W := [(B 0, .inr (1, [.int fi, .int se, .int pl, .int wd1, .int fn, .int sn]))]
theorem hi_X1_coveredWord_X1 : ∀ w ∈ u_ws RX1 TX1 6, w ∈ wsX1_coveredWord := by decide +kernel
theorem hi_X1_coveredWord_X4 : ∀ w ∈ u_ws RX4 TX4 6, w ∈ wsX1_coveredWord := by decide +kernel
set_option maxHeartbeats 1000000 in
set_option maxRecDepth 100000 in
theorem k_X1_coveredWord (lY : Launch) (D : va_G) (cA : Nat → ClassId) (Bo B : Nat → Nat) (pl wd1 fn sn : Int32) (S : St) (L R LL RL TM : Nat → Int32) (a b e n1 : Nat) (hI : IR S) (hr : rRu S L R LL RL TM) (ha : a < S 1) (hb2 : b < S 1) (he : e ≤ 8) (hn : n1 ≤ 4) : MetI lY D cA yX1_coveredWord wsX1_coveredWord 1 21 [.ref (Bo 0), .ref (B 0), .int (nI e - nI n1)] (gOv cA Bo (nI a) (nI b) pl wd1 fn sn ++ gRu cA B L R LL RL TM (nI (S 1))) (fun rY wY => rY = nI (ovx (lf S a) (lf S b) (e - n1)) ∧ wY = gOv cA Bo (nI a) (nI b) pl wd1 fn sn ++ gRu cA B L R LL RL TM (nI (S 1))) := by
  refine MetI.of (cc := cX1_coveredWord) (maxL := 4) (ret := (some .int)) (by decide) rfl (Nat.le_of_ble_eq_true rfl) (Or.inl rfl) ?_
  intro pY eY sY mY aY bY tY cY QY AY ls h0 hP hK hN hD hA hS hl hret
  obtain ⟨hx, hb, hml, hown, hts⟩ := id h0
  have hl : lv_has ls 4 [(0, .ref (Bo 0)), (1, .ref (B 0)), (2, .int (nI e - nI n1))] := hl
  have hP : va_P D vwCl (gOv cA Bo (nI a) (nI b) pl wd1 fn sn ++ gRu cA B L R LL RL TM (nI (S 1))) sY.heap := hP
  have hD : va_D AY (gOv cA Bo (nI a) (nI b) pl wd1 fn sn ++ gRu cA B L R LL RL TM (nI (S 1))) := hD
  have h10 := hI.1
  obtain ⟨v1, v2, v3, v4⟩ := hI.2.2 a ha
  obtain ⟨u1, u2, u3, u4⟩ := hI.2.2 b hb2
  obtain ⟨f1, f2, f3, f4, f5⟩ := hr a ha
  obtain ⟨g1, g2, g3, g4, g5⟩ := hr b hb2
  refine lv_aload_n hx hb dX1_coveredWord_0 rfl (lv_at hl 1 rfl) ?_
  refine va_getN (D := D) (ci := 4) (v := .ref (B 1)) (C := RX4) (T := TX4) (N := 6) hx hb hts hi_X1_coveredWord_X4 hown hK hP 1 rfl rfl 0 (by decide) (hN.fl (w := .fieldLinkNest RX1 62 "FallingWords$Rules" "left" "[I" "FallingWords") (by decide +kernel)) (fun _ h9 => h9) rfl dX1_coveredWord_1 ?_
  refine lv_aload_n hx hb dX1_coveredWord_4 rfl (lv_at hl 0 rfl) ?_
  refine va_get (D := D) (ci := 1) (v := .int (nI a)) (C := RX1) (T := TX1) (N := 6) hx hb hts hi_X1_coveredWord_X1 hown hK hP 0 rfl rfl 0 (by decide) (hts (.fieldLink RX1 25 "FallingWords$Overlaps" "first" "I") (by decide +kernel)) (fun _ h9 => h9) rfl dX1_coveredWord_5 ?_
  refine xa_ld (v := nI (lf S a)) hx hb hK hP 2 rfl (by omega) (by decide) (f1) dX1_coveredWord_8 ?_
  refine lv_istore_n (lv' := [(3, .int (nI (lf S a))), (0, .ref (Bo 0)), (1, .ref (B 0)), (2, .int (nI e - nI n1))]) hx hb dX1_coveredWord_9 rfl hl (by decide) rfl (fun ls hl => ?_)
  refine lv_iload_n hx hb dX1_coveredWord_10 rfl (lv_at hl 3 rfl) ?_
  refine xd_gt (tgt := 16) hx hb dX1_coveredWord_11 (by decide) (by omega) (by omega) (fun c11 => ?_) (fun c11 => ?_)
  · have hov := ovx_lt (y := lf S b) (e := e - n1) v1 (by omega)
    have hl : lv_has ls 4 [(3, .int (nI (lf S a))), (0, .ref (Bo 0)), (1, .ref (B 0)), (2, .int (nI (e - n1)))] := Eq.mp (congrArg (fun zY : Int32 => lv_has ls 4 [(3, .int (nI (lf S a))), (0, .ref (Bo 0)), (1, .ref (B 0)), (2, .int zY)]) (show nI e - nI n1 = nI (e - n1) from pk_sub (by omega))) hl
    refine lv_iload_n hx hb dX1_coveredWord_16 rfl (lv_at hl 0 rfl) ?_
    refine lv_iconst (v := nI 2) hx hb dX1_coveredWord_17 (by decide +kernel) ?_
    refine lv_iload_n hx hb dX1_coveredWord_18 rfl (lv_at hl 3 rfl) ?_
    refine lv_imul hx hb dX1_coveredWord_19 ?_
    refine xt (show (nI 2) * (nI (e - n1)) = nI (2 * (e - n1)) from pk_mul _ _) ?_
    refine lv_ishl hx hb dX1_coveredWord_20 ?_
    refine xt (show (nI (lf S a)) <<< ((nI (2 * (e - n1))) &&& 31) = nI (lf S a * 4 ^ (e - n1)) from sh_l (by omega) (by omega)) ?_
    refine lv_aload_n hx hb dX1_coveredWord_21 rfl (lv_at hl 2 rfl) ?_
    refine va_getN (D := D) (ci := 4) (v := .ref (B 1)) (C := RX4) (T := TX4) (N := 6) hx hb hts hi_X1_coveredWord_X4 hown hK hP 1 rfl rfl 0 (by decide) (hN.fl (w := .fieldLinkNest RX1 62 "FallingWords$Rules" "left" "[I" "FallingWords") (by decide +kernel)) (fun _ h9 => h9) rfl dX1_coveredWord_22 ?_
    refine lv_aload_n hx hb dX1_coveredWord_25 rfl (lv_at hl 1 rfl) ?_
    refine va_get (D := D) (ci := 1) (v := .int (nI b)) (C := RX1) (T := TX1) (N := 6) hx hb hts hi_X1_coveredWord_X1 hown hK hP 0 rfl rfl 1 (by decide) (hts (.fieldLink RX1 29 "FallingWords$Overlaps" "second" "I") (by decide +kernel)) (fun _ h9 => h9) rfl dX1_coveredWord_26 ?_
    refine xa_ld (v := nI (lf S b)) hx hb hK hP 2 rfl (by omega) (by decide) (g1) dX1_coveredWord_29 ?_
    refine lv_iload_n hx hb dX1_coveredWord_30 rfl (lv_at hl 3 rfl) ?_
    refine ci_SN (As := [.int (nI (lf S b)), .int (nI (e - n1))]) (rest := [.int (nI (lf S a * 4 ^ (e - n1)))]) h0 hK hN hP hD hS hA hl.1 (k_X9_lastBits lY D cA (lf S b) (e - n1) (by omega)) [] rfl (by decide) ⟨(va_cnB 2 hts gX1_coveredWord_X9_lastBits_n65 rfl rfl rfl (hN (.methodLinkNest RX1 65 yX9_lastBits "FallingWords") (by decide +kernel)) (hts (.initialized RX9) (by decide +kernel)) (by decide +kernel) ⟨Nat.le_of_ble_eq_true rfl, Nat.le_of_ble_eq_true rfl⟩), hts (.static yX9_lastBits) (by decide +kernel), trivial⟩ rfl rfl (Nat.le_of_ble_eq_true rfl) dX1_coveredWord_31 ⟨Nat.zero_le _, Nat.zero_le _⟩ (fun rY wY H locs hwY hJ hS => ?_)
    obtain ⟨e1Y, e2Y⟩ := hwY
    have e3Y := e1Y.symm
    clear e1Y
    subst e3Y
    have e3Y := e2Y.symm
    clear e2Y
    subst e3Y
    obtain ⟨hP, hD⟩ := hJ rfl
    have hP : va_P D vwCl (gOv cA Bo (nI a) (nI b) pl wd1 fn sn ++ gRu cA B L R LL RL TM (nI (S 1))) H := hP
    have hD : va_D AY (gOv cA Bo (nI a) (nI b) pl wd1 fn sn ++ gRu cA B L R LL RL TM (nI (S 1))) := hD
    refine lv_ior hx hb dX1_coveredWord_34 ?_
    refine xt (show (nI (lf S a * 4 ^ (e - n1))) ||| (nI ((lf S b) % 4 ^ (e - n1))) = nI (ovx (lf S a) (lf S b) (e - n1)) from sh_o (Nat.mod_lt _ (four_pos _))) ?_
    exact hret _ _ _ _ _ _ dX1_coveredWord_35 ⟨rfl, rfl⟩ hP hD hS
  · refine lv_iload_n hx hb dX1_coveredWord_14 rfl (lv_at hl 0 rfl) ?_
    exact hret _ _ _ _ _ _ dX1_coveredWord_15 ⟨congrArg nI (ov_pow0 (by omega)).symm, rfl⟩ hP hD hS

theorem hi_X1_isOverlap_X1 : ∀ w ∈ u_ws RX1 TX1 6, w ∈ wsX1_isOverlap := by decide +kernel
theorem hi_X1_isOverlap_X4 : ∀ w ∈ u_ws RX4 TX4 6, w ∈ wsX1_isOverlap := by decide +kernel
set_option maxHeartbeats 1000000 in
set_option maxRecDepth 100000 in
theorem k_X1_isOverlap (lY : Launch) (D : va_G) (cA : Nat → ClassId) (Bo B : Nat → Nat) (fi se pl wd1 fn sn : Int32) (S : St) (L R LL RL TM : Nat → Int32) (k : Nat) (hI : IR S) (hr : rRu S L R LL RL TM) (hk : k < 400) : MetI lY D cA yX1_isOverlap wsX1_isOverlap 2 44 [.ref (Bo 0), .ref (B 0), .int (nI k)] (gOv cA Bo fi se pl wd1 fn sn ++ gRu cA B L R LL RL TM (nI (S 1))) (fun rY wY => ∃ (wd2 : Int32), rY = bI (ovk S k) ∧ wY = gOv cA Bo (nI (kA k)) (nI (kB k)) (nI (kQ k)) wd2 fn sn ++ gRu cA B L R LL RL TM (nI (S 1)) ∧ (ovk S k = true → wd2 = nI (ovw S (kA k) (kB k) (kQ k)))) := by
  refine MetI.of (cc := cX1_isOverlap) (maxL := 7) (ret := (some .boolean)) (by decide) rfl (Nat.le_of_ble_eq_true rfl) (Or.inr ⟨rfl, fun r w' h => by obtain ⟨_, h, -⟩ := h; rw [h]; exact bI_nar _⟩) ?_
  intro pY eY sY mY aY bY tY cY QY AY ls h0 hP hK hN hD hA hS hl hret
  obtain ⟨hx, hb, hml, hown, hts⟩ := id h0
  have hl : lv_has ls 7 [(0, .ref (Bo 0)), (1, .ref (B 0)), (2, .int (nI k))] := hl
  have hP : va_P D vwCl (gOv cA Bo fi se pl wd1 fn sn ++ gRu cA B L R LL RL TM (nI (S 1))) sY.heap := hP
  have hD : va_D AY (gOv cA Bo fi se pl wd1 fn sn ++ gRu cA B L R LL RL TM (nI (S 1))) := hD
  have h10 := hI.1
  obtain ⟨k1, k2, k3⟩ := kb k hk
  refine lv_aload_n hx hb dX1_isOverlap_0 rfl (lv_at hl 0 rfl) ?_
  refine lv_iload_n hx hb dX1_isOverlap_1 rfl (lv_at hl 2 rfl) ?_
  refine lv_bipush (v := nI 40) hx hb dX1_isOverlap_2 (by decide +kernel) ?_
  refine lv_idiv hx hb dX1_isOverlap_4 (by decide +kernel) ?_
  refine xt (show (nI k) / (nI 40) = nI (kA k) from pk_div (by omega) (by omega) (by omega)) ?_
  refine va_put (D := D) (ci := 1) (v := .int (nI (kA k))) (ty := .int) (C := RX1) (T := TX1) (N := 6) hx hb hts hi_X1_isOverlap_X1 tyX1 tyX1_ok nmX1 hown hK hP hD hS 0 rfl rfl 0 (by decide) (hts (.fieldLink RX1 25 "FallingWords$Overlaps" "first" "I") (by decide +kernel)) (fun _ h9 => h9) rfl (by decide +kernel) rfl rfl (Nat.le_of_ble_eq_true rfl) dX1_isOverlap_5 (fun H locs hP hD hS => ?_)
  have hP : va_P D vwCl (gOv cA Bo (nI (kA k)) se pl wd1 fn sn ++ gRu cA B L R LL RL TM (nI (S 1))) H := hP
  have hD : va_D AY (gOv cA Bo (nI (kA k)) se pl wd1 fn sn ++ gRu cA B L R LL RL TM (nI (S 1))) := hD
  refine lv_aload_n hx hb dX1_isOverlap_8 rfl (lv_at hl 0 rfl) ?_
  refine lv_iload_n hx hb dX1_isOverlap_9 rfl (lv_at hl 2 rfl) ?_
  refine lv_iconst (v := nI 4) hx hb dX1_isOverlap_10 (by decide +kernel) ?_
  refine lv_idiv hx hb dX1_isOverlap_11 (by decide +kernel) ?_
  refine xt (show (nI k) / (nI 4) = nI (k / 4) from pk_div (by omega) (by omega) (by omega)) ?_
  refine lv_bipush (v := nI 10) hx hb dX1_isOverlap_12 (by decide +kernel) ?_
  refine lv_irem hx hb dX1_isOverlap_14 (by decide +kernel) ?_
  refine xt (show (nI (k / 4)) - (nI (k / 4)) / (nI 10) * (nI 10) = nI (kB k) from pk_rem (by omega) (by omega) (by omega)) ?_
  refine va_put (D := D) (ci := 1) (v := .int (nI (kB k))) (ty := .int) (C := RX1) (T := TX1) (N := 6) hx hb hts hi_X1_isOverlap_X1 tyX1 tyX1_ok nmX1 hown hK hP hD hS 0 rfl rfl 1 (by decide) (hts (.fieldLink RX1 29 "FallingWords$Overlaps" "second" "I") (by decide +kernel)) (fun _ h9 => h9) rfl (by decide +kernel) rfl rfl (Nat.le_of_ble_eq_true rfl) dX1_isOverlap_15 (fun H locs hP hD hS => ?_)
  have hP : va_P D vwCl (gOv cA Bo (nI (kA k)) (nI (kB k)) pl wd1 fn sn ++ gRu cA B L R LL RL TM (nI (S 1))) H := hP
  have hD : va_D AY (gOv cA Bo (nI (kA k)) (nI (kB k)) pl wd1 fn sn ++ gRu cA B L R LL RL TM (nI (S 1))) := hD
  refine lv_aload_n hx hb dX1_isOverlap_18 rfl (lv_at hl 0 rfl) ?_
  refine lv_iload_n hx hb dX1_isOverlap_19 rfl (lv_at hl 2 rfl) ?_
  refine lv_iconst (v := nI 4) hx hb dX1_isOverlap_20 (by decide +kernel) ?_
  refine lv_irem hx hb dX1_isOverlap_21 (by decide +kernel) ?_
  refine xt (show (nI k) - (nI k) / (nI 4) * (nI 4) = nI (kQ k) from pk_rem (by omega) (by omega) (by omega)) ?_
  refine va_put (D := D) (ci := 1) (v := .int (nI (kQ k))) (ty := .int) (C := RX1) (T := TX1) (N := 6) hx hb hts hi_X1_isOverlap_X1 tyX1 tyX1_ok nmX1 hown hK hP hD hS 0 rfl rfl 2 (by decide) (hts (.fieldLink RX1 32 "FallingWords$Overlaps" "place" "I") (by decide +kernel)) (fun _ h9 => h9) rfl (by decide +kernel) rfl rfl (Nat.le_of_ble_eq_true rfl) dX1_isOverlap_22 (fun H locs hP hD hS => ?_)
  have hP : va_P D vwCl (gOv cA Bo (nI (kA k)) (nI (kB k)) (nI (kQ k)) wd1 fn sn ++ gRu cA B L R LL RL TM (nI (S 1))) H := hP
  have hD : va_D AY (gOv cA Bo (nI (kA k)) (nI (kB k)) (nI (kQ k)) wd1 fn sn ++ gRu cA B L R LL RL TM (nI (S 1))) := hD
  refine lv_aload_n hx hb dX1_isOverlap_25 rfl (lv_at hl 1 rfl) ?_
  refine lv_aload_n hx hb dX1_isOverlap_26 rfl (lv_at hl 0 rfl) ?_
  refine va_get (D := D) (ci := 1) (v := .int (nI (kA k))) (C := RX1) (T := TX1) (N := 6) hx hb hts hi_X1_isOverlap_X1 hown hK hP 0 rfl rfl 0 (by decide) (hts (.fieldLink RX1 25 "FallingWords$Overlaps" "first" "I") (by decide +kernel)) (fun _ h9 => h9) rfl dX1_isOverlap_27 ?_
  refine ci_VN (As := [.int (nI (kA k))]) (rest := []) h0 hK hN hP hD hS hA hl.1 (k_X4_contains lY D cA B S L R LL RL TM (nI (kA k)) (by first | assumption | omega)) [1, 2, 3, 4, 5, 6] rfl (by decide) ⟨(va_cnB 1 hts gX1_isOverlap_X4_contains_n35 rfl rfl rfl (hN (.methodLinkNest RX1 35 yX4_contains "FallingWords") (by decide +kernel)) (hts (.initialized RX4) (by decide +kernel)) (by decide +kernel) ⟨Nat.le_of_ble_eq_true rfl, Nat.le_of_ble_eq_true rfl⟩), hts (.instanceMethod yX4_contains) (by decide +kernel), hts (.selects RX4 yX4_contains yX4_contains) (by decide +kernel)⟩ (cl_recv (ci := 4) (q := (RX4, TX4, 6)) (q0 := 1) hP hK rfl rfl) rfl rfl (Nat.le_of_ble_eq_true rfl) dX1_isOverlap_30 ⟨Nat.zero_le _, Nat.zero_le _⟩ (fun rY wY H locs hwY hJ hS => ?_)
  obtain ⟨e1Y, e2Y⟩ := hwY
  have e3Y := e1Y.symm
  clear e1Y
  subst e3Y
  have e3Y := e2Y.symm
  clear e2Y
  subst e3Y
  obtain ⟨hP, hD⟩ := hJ rfl
  have hP : va_P D vwCl (gOv cA Bo (nI (kA k)) (nI (kB k)) (nI (kQ k)) wd1 fn sn ++ gRu cA B L R LL RL TM (nI (S 1))) H := hP
  have hD : va_D AY (gOv cA Bo (nI (kA k)) (nI (kB k)) (nI (kQ k)) wd1 fn sn ++ gRu cA B L R LL RL TM (nI (S 1))) := hD
  refine xt (show bI (inR S (nI (kA k))) = bI (decide (kA k < S 1)) from congrArg bI (inR_nI (by omega))) ?_
  refine xb_eq (tgt := 47) hx hb dX1_isOverlap_33 (by decide) (fun c33 => ?_) (fun c33 => ?_)
  · refine lv_iconst (v := nI 0) hx hb dX1_isOverlap_47 (by decide +kernel) ?_
    have hz : ovk S k = false := by unfold ovk; rw [c33]; rfl
    exact hret _ _ _ _ _ _ dX1_isOverlap_48 ⟨wd1, by rw [hz]; rfl, rfl, fun h => by rw [hz] at h; cases h⟩ hP hD hS
  · refine lv_aload_n hx hb dX1_isOverlap_36 rfl (lv_at hl 1 rfl) ?_
    refine lv_aload_n hx hb dX1_isOverlap_37 rfl (lv_at hl 0 rfl) ?_
    refine va_get (D := D) (ci := 1) (v := .int (nI (kB k))) (C := RX1) (T := TX1) (N := 6) hx hb hts hi_X1_isOverlap_X1 hown hK hP 0 rfl rfl 1 (by decide) (hts (.fieldLink RX1 29 "FallingWords$Overlaps" "second" "I") (by decide +kernel)) (fun _ h9 => h9) rfl dX1_isOverlap_38 ?_
    refine ci_VN (As := [.int (nI (kB k))]) (rest := []) h0 hK hN hP hD hS hA hl.1 (k_X4_contains lY D cA B S L R LL RL TM (nI (kB k)) (by first | assumption | omega)) [1, 2, 3, 4, 5, 6] rfl (by decide) ⟨(va_cnB 1 hts gX1_isOverlap_X4_contains_n35 rfl rfl rfl (hN (.methodLinkNest RX1 35 yX4_contains "FallingWords") (by decide +kernel)) (hts (.initialized RX4) (by decide +kernel)) (by decide +kernel) ⟨Nat.le_of_ble_eq_true rfl, Nat.le_of_ble_eq_true rfl⟩), hts (.instanceMethod yX4_contains) (by decide +kernel), hts (.selects RX4 yX4_contains yX4_contains) (by decide +kernel)⟩ (cl_recv (ci := 4) (q := (RX4, TX4, 6)) (q0 := 1) hP hK rfl rfl) rfl rfl (Nat.le_of_ble_eq_true rfl) dX1_isOverlap_41 ⟨Nat.zero_le _, Nat.zero_le _⟩ (fun rY wY H locs hwY hJ hS => ?_)
    obtain ⟨e1Y, e2Y⟩ := hwY
    have e3Y := e1Y.symm
    clear e1Y
    subst e3Y
    have e3Y := e2Y.symm
    clear e2Y
    subst e3Y
    obtain ⟨hP, hD⟩ := hJ rfl
    have hP : va_P D vwCl (gOv cA Bo (nI (kA k)) (nI (kB k)) (nI (kQ k)) wd1 fn sn ++ gRu cA B L R LL RL TM (nI (S 1))) H := hP
    have hD : va_D AY (gOv cA Bo (nI (kA k)) (nI (kB k)) (nI (kQ k)) wd1 fn sn ++ gRu cA B L R LL RL TM (nI (S 1))) := hD
    refine xt (show bI (inR S (nI (kB k))) = bI (decide (kB k < S 1)) from congrArg bI (inR_nI (by omega))) ?_
    refine xb_ne (tgt := 49) hx hb dX1_isOverlap_44 (by decide) (fun c44 => ?_) (fun c44 => ?_)
    · have ha := of_decide_eq_true c33
      have hb2 := of_decide_eq_true c44
      obtain ⟨v1, v2, v3, v4⟩ := hI.2.2 _ ha
      obtain ⟨u1, u2, u3, u4⟩ := hI.2.2 _ hb2
      have v12 := v1.2
      have u12 := u1.2
      obtain ⟨f1, f2, f3, f4, f5⟩ := hr _ ha
      obtain ⟨g1, g2, g3, g4, g5⟩ := hr _ hb2
      refine lv_aload_n hx hb dX1_isOverlap_49 rfl (lv_at hl 1 rfl) ?_
      refine va_getN (D := D) (ci := 4) (v := .ref (B 3)) (C := RX4) (T := TX4) (N := 6) hx hb hts hi_X1_isOverlap_X4 hown hK hP 1 rfl rfl 2 (by decide) (hN.fl (w := .fieldLinkNest RX1 41 "FallingWords$Rules" "leftLength" "[I" "FallingWords") (by decide +kernel)) (fun _ h9 => h9) rfl dX1_isOverlap_50 ?_
      refine lv_aload_n hx hb dX1_isOverlap_53 rfl (lv_at hl 0 rfl) ?_
      refine va_get (D := D) (ci := 1) (v := .int (nI (kA k))) (C := RX1) (T := TX1) (N := 6) hx hb hts hi_X1_isOverlap_X1 hown hK hP 0 rfl rfl 0 (by decide) (hts (.fieldLink RX1 25 "FallingWords$Overlaps" "first" "I") (by decide +kernel)) (fun _ h9 => h9) rfl dX1_isOverlap_54 ?_
      refine xa_ld (v := nI (len (lf S (kA k)))) hx hb hK hP 4 rfl (by omega) (by decide) (f3) dX1_isOverlap_57 ?_
      refine lv_istore_n (lv' := [(3, .int (nI (len (lf S (kA k))))), (0, .ref (Bo 0)), (1, .ref (B 0)), (2, .int (nI k))]) hx hb dX1_isOverlap_58 rfl hl (by decide) rfl (fun ls hl => ?_)
      refine lv_aload_n hx hb dX1_isOverlap_59 rfl (lv_at hl 1 rfl) ?_
      refine va_get (D := D) (ci := 1) (v := .int (nI (kQ k))) (C := RX1) (T := TX1) (N := 6) hx hb hts hi_X1_isOverlap_X1 hown hK hP 0 rfl rfl 2 (by decide) (hts (.fieldLink RX1 32 "FallingWords$Overlaps" "place" "I") (by decide +kernel)) (fun _ h9 => h9) rfl dX1_isOverlap_60 ?_
      refine lv_aload_n hx hb dX1_isOverlap_63 rfl (lv_at hl 2 rfl) ?_
      refine va_getN (D := D) (ci := 4) (v := .ref (B 3)) (C := RX4) (T := TX4) (N := 6) hx hb hts hi_X1_isOverlap_X4 hown hK hP 1 rfl rfl 2 (by decide) (hN.fl (w := .fieldLinkNest RX1 41 "FallingWords$Rules" "leftLength" "[I" "FallingWords") (by decide +kernel)) (fun _ h9 => h9) rfl dX1_isOverlap_64 ?_
      refine lv_aload_n hx hb dX1_isOverlap_67 rfl (lv_at hl 1 rfl) ?_
      refine va_get (D := D) (ci := 1) (v := .int (nI (kB k))) (C := RX1) (T := TX1) (N := 6) hx hb hts hi_X1_isOverlap_X1 hown hK hP 0 rfl rfl 1 (by decide) (hts (.fieldLink RX1 29 "FallingWords$Overlaps" "second" "I") (by decide +kernel)) (fun _ h9 => h9) rfl dX1_isOverlap_68 ?_
      refine xa_ld (v := nI (len (lf S (kB k)))) hx hb hK hP 4 rfl (by omega) (by decide) (g3) dX1_isOverlap_71 ?_
      refine lv_iadd hx hb dX1_isOverlap_72 ?_
      refine xt (show (nI (kQ k)) + (nI (len (lf S (kB k)))) = nI (kQ k + (len (lf S (kB k)))) from nI_add _ _) ?_
      refine lv_istore (lv' := [(4, .int (nI (kQ k + (len (lf S (kB k)))))), (3, .int (nI (len (lf S (kA k))))), (0, .ref (Bo 0)), (1, .ref (B 0)), (2, .int (nI k))]) hx hb dX1_isOverlap_73 hl (by decide) rfl (fun ls hl => ?_)
      have L101 :  ∀ (z : Bool), (z = decide (0 < kQ k ∧ kQ k < len (lf S (kA k)) ∧ len (lf S (kA k)) ≤ kQ k + len (lf S (kB k)))) → ∀ (H : Heap) (locs : List Loc) (ls : Array Slot), va_P D vwCl (gOv cA Bo (nI (kA k)) (nI (kB k)) (nI (kQ k)) wd1 fn sn ++ gRu cA B L R LL RL TM (nI (S 1))) H → va_D AY (gOv cA Bo (nI (kA k)) (nI (kB k)) (nI (kQ k)) wd1 fn sn ++ gRu cA B L R LL RL TM (nI (S 1))) → va_S AY sY.heap H locs → lv_has ls 7 [(4, .int (nI (kQ k + (len (lf S (kB k)))))), (3, .int (nI (len (lf S (kA k))))), (0, .ref (Bo 0)), (1, .ref (B 0)), (2, .int (nI k))] → W pY lY eY { frames := 2, cells := 0, slots := 0, locals := 44 } sY mY aY bY tY cY H locs 0 0 QY (F0 mY 101 ls [.int (bI z)]) := by
        intro z hz H locs ls hP hD hS hl
        refine lv_istore (lv' := [(5, .int (bI z)), (4, .int (nI (kQ k + (len (lf S (kB k)))))), (3, .int (nI (len (lf S (kA k))))), (0, .ref (Bo 0)), (1, .ref (B 0)), (2, .int (nI k))]) hx hb dX1_isOverlap_101 hl (by decide) rfl (fun ls hl => ?_)
        have L125 :  ∀ (z2 : Bool), (z2 = (decide (kA k ≠ kB k) && decide (kQ k + len (lf S (kB k)) ≤ len (lf S (kA k))))) → ∀ (H : Heap) (locs : List Loc) (ls : Array Slot), va_P D vwCl (gOv cA Bo (nI (kA k)) (nI (kB k)) (nI (kQ k)) wd1 fn sn ++ gRu cA B L R LL RL TM (nI (S 1))) H → va_D AY (gOv cA Bo (nI (kA k)) (nI (kB k)) (nI (kQ k)) wd1 fn sn ++ gRu cA B L R LL RL TM (nI (S 1))) → va_S AY sY.heap H locs → lv_has ls 7 [(5, .int (bI z)), (4, .int (nI (kQ k + (len (lf S (kB k)))))), (3, .int (nI (len (lf S (kA k))))), (0, .ref (Bo 0)), (1, .ref (B 0)), (2, .int (nI k))] → W pY lY eY { frames := 2, cells := 0, slots := 0, locals := 44 } sY mY aY bY tY cY H locs 0 0 QY (F0 mY 125 ls [.int (bI z2)]) := by
          intro z2 hz2 H locs ls hP hD hS hl
          refine lv_istore (lv' := [(6, .int (bI z2)), (5, .int (bI z)), (4, .int (nI (kQ k + (len (lf S (kB k)))))), (3, .int (nI (len (lf S (kA k))))), (0, .ref (Bo 0)), (1, .ref (B 0)), (2, .int (nI k))]) hx hb dX1_isOverlap_125 hl (by decide) rfl (fun ls hl => ?_)
          have L139 :  (shp (lf S (kA k)) (lf S (kB k)) (kQ k) (decide (kA k ≠ kB k)) = true) → ∀ (H : Heap) (locs : List Loc) (ls : Array Slot), va_P D vwCl (gOv cA Bo (nI (kA k)) (nI (kB k)) (nI (kQ k)) wd1 fn sn ++ gRu cA B L R LL RL TM (nI (S 1))) H → va_D AY (gOv cA Bo (nI (kA k)) (nI (kB k)) (nI (kQ k)) wd1 fn sn ++ gRu cA B L R LL RL TM (nI (S 1))) → va_S AY sY.heap H locs → lv_has ls 7 [(0, .ref (Bo 0)), (1, .ref (B 0)), (2, .int (nI k)), (3, .int (nI (len (lf S (kA k))))), (4, .int (nI (kQ k + len (lf S (kB k)))))] → W pY lY eY { frames := 2, cells := 0, slots := 0, locals := 44 } sY mY aY bY tY cY H locs 0 0 QY (F0 mY 139 ls []) := by
            intro hsh H locs ls hP hD hS hl
            obtain ⟨e1, e2, e3, e4⟩ := ov_ok hI ha hb2 k3 hsh
            have e12 := e1.2
            refine lv_aload_n hx hb dX1_isOverlap_139 rfl (lv_at hl 0 rfl) ?_
            refine lv_aload_n hx hb dX1_isOverlap_140 rfl (lv_at hl 0 rfl) ?_
            refine lv_aload_n hx hb dX1_isOverlap_141 rfl (lv_at hl 1 rfl) ?_
            refine lv_iload hx hb dX1_isOverlap_142 (lv_at hl 4 rfl) ?_
            refine lv_iload_n hx hb dX1_isOverlap_144 rfl (lv_at hl 3 rfl) ?_
            refine lv_isub hx hb dX1_isOverlap_145 ?_
            refine xt (show (nI (kQ k + len (lf S (kB k)))) - (nI (len (lf S (kA k)))) = nI (kQ k + len (lf S (kB k))) - nI (len (lf S (kA k))) from rfl) ?_
            refine ci_V (As := [.ref (B 0), .int (nI (kQ k + len (lf S (kB k))) - nI (len (lf S (kA k))))]) (rest := [.ref (Bo 0)]) h0 hK hN hP hD hS hA hl.1 (k_X1_coveredWord lY D cA Bo B (nI (kQ k)) wd1 fn sn S L R LL RL TM (kA k) (kB k) (kQ k + len (lf S (kB k))) (len (lf S (kA k))) (hI) (hr) (ha) (hb2) (by omega) (by omega)) [0, 1, 2, 3, 4, 5, 6] rfl (by decide) (cwV 2 hts gX1_isOverlap_X1_coveredWord rfl rfl rfl (by decide +kernel) ⟨Nat.le_of_ble_eq_true rfl, Nat.le_of_ble_eq_true rfl⟩) (cl_recv (ci := 1) (q := (RX1, TX1, 6)) (q0 := 0) hP hK rfl rfl) rfl rfl (Nat.le_of_ble_eq_true rfl) dX1_isOverlap_146 ⟨Nat.zero_le _, Nat.zero_le _⟩ (fun rY wY H locs hwY hJ hS => ?_)
            obtain ⟨e1Y, e2Y⟩ := hwY
            have e3Y := e1Y.symm
            clear e1Y
            subst e3Y
            have e3Y := e2Y.symm
            clear e2Y
            subst e3Y
            obtain ⟨hP, hD⟩ := hJ rfl
            have hP : va_P D vwCl (gOv cA Bo (nI (kA k)) (nI (kB k)) (nI (kQ k)) wd1 fn sn ++ gRu cA B L R LL RL TM (nI (S 1))) H := hP
            have hD : va_D AY (gOv cA Bo (nI (kA k)) (nI (kB k)) (nI (kQ k)) wd1 fn sn ++ gRu cA B L R LL RL TM (nI (S 1))) := hD
            refine xt (show nI (ovx (lf S (kA k)) (lf S (kB k)) ((kQ k + len (lf S (kB k))) - (len (lf S (kA k))))) = nI (ovw S (kA k) (kB k) (kQ k)) from rfl) ?_
            refine va_put (D := D) (ci := 1) (v := .int (nI (ovw S (kA k) (kB k) (kQ k)))) (ty := .int) (C := RX1) (T := TX1) (N := 6) hx hb hts hi_X1_isOverlap_X1 tyX1 tyX1_ok nmX1 hown hK hP hD hS 0 rfl rfl 3 (by decide) (hts (.fieldLink RX1 49 "FallingWords$Overlaps" "word" "I") (by decide +kernel)) (fun _ h9 => h9) rfl (by decide +kernel) rfl rfl (Nat.le_of_ble_eq_true rfl) dX1_isOverlap_149 (fun H locs hP hD hS => ?_)
            have hP : va_P D vwCl (gOv cA Bo (nI (kA k)) (nI (kB k)) (nI (kQ k)) (nI (ovw S (kA k) (kB k) (kQ k))) fn sn ++ gRu cA B L R LL RL TM (nI (S 1))) H := hP
            have hD : va_D AY (gOv cA Bo (nI (kA k)) (nI (kB k)) (nI (kQ k)) (nI (ovw S (kA k) (kB k) (kQ k))) fn sn ++ gRu cA B L R LL RL TM (nI (S 1))) := hD
            refine lv_aload_n hx hb dX1_isOverlap_152 rfl (lv_at hl 1 rfl) ?_
            refine lv_aload_n hx hb dX1_isOverlap_153 rfl (lv_at hl 0 rfl) ?_
            refine va_get (D := D) (ci := 1) (v := .int (nI (ovw S (kA k) (kB k) (kQ k)))) (C := RX1) (T := TX1) (N := 6) hx hb hts hi_X1_isOverlap_X1 hown hK hP 0 rfl rfl 3 (by decide) (hts (.fieldLink RX1 49 "FallingWords$Overlaps" "word" "I") (by decide +kernel)) (fun _ h9 => h9) rfl dX1_isOverlap_154 ?_
            refine lv_aload_n hx hb dX1_isOverlap_157 rfl (lv_at hl 0 rfl) ?_
            refine va_get (D := D) (ci := 1) (v := .int (nI (ovw S (kA k) (kB k) (kQ k)))) (C := RX1) (T := TX1) (N := 6) hx hb hts hi_X1_isOverlap_X1 hown hK hP 0 rfl rfl 3 (by decide) (hts (.fieldLink RX1 49 "FallingWords$Overlaps" "word" "I") (by decide +kernel)) (fun _ h9 => h9) rfl dX1_isOverlap_158 ?_
            refine ci_SN (As := [.int (nI (ovw S (kA k) (kB k) (kQ k)))]) (rest := [.int (nI (ovw S (kA k) (kB k) (kQ k))), .ref (B 0)]) h0 hK hN hP hD hS hA hl.1 (k_X9_lengthOf lY D cA (ovw S (kA k) (kB k) (kQ k)) (e1.1) (by omega)) [] rfl (by decide) ⟨(va_cnB 1 hts gX1_isOverlap_X9_lengthOf_n52 rfl rfl rfl (hN (.methodLinkNest RX1 52 yX9_lengthOf "FallingWords") (by decide +kernel)) (hts (.initialized RX9) (by decide +kernel)) (by decide +kernel) ⟨Nat.le_of_ble_eq_true rfl, Nat.le_of_ble_eq_true rfl⟩), hts (.static yX9_lengthOf) (by decide +kernel), trivial⟩ rfl rfl (Nat.le_of_ble_eq_true rfl) dX1_isOverlap_161 ⟨Nat.zero_le _, Nat.zero_le _⟩ (fun rY wY H locs hwY hJ hS => ?_)
            obtain ⟨e1Y, e2Y⟩ := hwY
            have e3Y := e1Y.symm
            clear e1Y
            subst e3Y
            have e3Y := e2Y.symm
            clear e2Y
            subst e3Y
            obtain ⟨hP, hD⟩ := hJ rfl
            have hP : va_P D vwCl (gOv cA Bo (nI (kA k)) (nI (kB k)) (nI (kQ k)) (nI (ovw S (kA k) (kB k) (kQ k))) fn sn ++ gRu cA B L R LL RL TM (nI (S 1))) H := hP
            have hD : va_D AY (gOv cA Bo (nI (kA k)) (nI (kB k)) (nI (kQ k)) (nI (ovw S (kA k) (kB k) (kQ k))) fn sn ++ gRu cA B L R LL RL TM (nI (S 1))) := hD
            refine lv_aload_n hx hb dX1_isOverlap_164 rfl (lv_at hl 0 rfl) ?_
            refine va_get (D := D) (ci := 1) (v := .int (nI (kA k))) (C := RX1) (T := TX1) (N := 6) hx hb hts hi_X1_isOverlap_X1 hown hK hP 0 rfl rfl 0 (by decide) (hts (.fieldLink RX1 25 "FallingWords$Overlaps" "first" "I") (by decide +kernel)) (fun _ h9 => h9) rfl dX1_isOverlap_165 ?_
            refine lv_iconst (v := nI 0) hx hb dX1_isOverlap_168 (by decide +kernel) ?_
            refine ci_VN (As := [.int (nI (ovw S (kA k) (kB k) (kQ k))), .int (nI (len (ovw S (kA k) (kB k) (kQ k)))), .int (nI (kA k)), .int (nI 0)]) (rest := []) h0 hK hN hP hD hS hA hl.1 (k_X4_appliesAt lY D cA B S L R LL RL TM (ovw S (kA k) (kB k) (kQ k)) (kA k) 0 (hI) (hr) (e1) (ha) (by omega)) [1, 2, 3, 4, 5, 6] rfl (by decide) ⟨(va_cnB 4 hts gX1_isOverlap_X4_appliesAt_n58 rfl rfl rfl (hN (.methodLinkNest RX1 58 yX4_appliesAt "FallingWords") (by decide +kernel)) (hts (.initialized RX4) (by decide +kernel)) (by decide +kernel) ⟨Nat.le_of_ble_eq_true rfl, Nat.le_of_ble_eq_true rfl⟩), hts (.instanceMethod yX4_appliesAt) (by decide +kernel), hts (.selects RX4 yX4_appliesAt yX4_appliesAt) (by decide +kernel)⟩ (cl_recv (ci := 4) (q := (RX4, TX4, 6)) (q0 := 1) hP hK rfl rfl) rfl rfl (Nat.le_of_ble_eq_true rfl) dX1_isOverlap_169 ⟨Nat.zero_le _, Nat.zero_le _⟩ (fun rY wY H locs hwY hJ hS => ?_)
            obtain ⟨e1Y, e2Y⟩ := hwY
            have e3Y := e1Y.symm
            clear e1Y
            subst e3Y
            have e3Y := e2Y.symm
            clear e2Y
            subst e3Y
            obtain ⟨hP, hD⟩ := hJ rfl
            have hP : va_P D vwCl (gOv cA Bo (nI (kA k)) (nI (kB k)) (nI (kQ k)) (nI (ovw S (kA k) (kB k) (kQ k))) fn sn ++ gRu cA B L R LL RL TM (nI (S 1))) H := hP
            have hD : va_D AY (gOv cA Bo (nI (kA k)) (nI (kB k)) (nI (kQ k)) (nI (ovw S (kA k) (kB k) (kQ k))) fn sn ++ gRu cA B L R LL RL TM (nI (S 1))) := hD
            refine xb_eq (tgt := 205) hx hb dX1_isOverlap_172 (by decide) (fun c172 => ?_) (fun c172 => ?_)
            · exact absurd c172 (by rw [e3]; decide)
            · refine lv_aload_n hx hb dX1_isOverlap_175 rfl (lv_at hl 1 rfl) ?_
              refine lv_aload_n hx hb dX1_isOverlap_176 rfl (lv_at hl 0 rfl) ?_
              refine va_get (D := D) (ci := 1) (v := .int (nI (ovw S (kA k) (kB k) (kQ k)))) (C := RX1) (T := TX1) (N := 6) hx hb hts hi_X1_isOverlap_X1 hown hK hP 0 rfl rfl 3 (by decide) (hts (.fieldLink RX1 49 "FallingWords$Overlaps" "word" "I") (by decide +kernel)) (fun _ h9 => h9) rfl dX1_isOverlap_177 ?_
              refine lv_aload_n hx hb dX1_isOverlap_180 rfl (lv_at hl 0 rfl) ?_
              refine va_get (D := D) (ci := 1) (v := .int (nI (ovw S (kA k) (kB k) (kQ k)))) (C := RX1) (T := TX1) (N := 6) hx hb hts hi_X1_isOverlap_X1 hown hK hP 0 rfl rfl 3 (by decide) (hts (.fieldLink RX1 49 "FallingWords$Overlaps" "word" "I") (by decide +kernel)) (fun _ h9 => h9) rfl dX1_isOverlap_181 ?_
              refine ci_SN (As := [.int (nI (ovw S (kA k) (kB k) (kQ k)))]) (rest := [.int (nI (ovw S (kA k) (kB k) (kQ k))), .ref (B 0)]) h0 hK hN hP hD hS hA hl.1 (k_X9_lengthOf lY D cA (ovw S (kA k) (kB k) (kQ k)) (e1.1) (by omega)) [] rfl (by decide) ⟨(va_cnB 1 hts gX1_isOverlap_X9_lengthOf_n52 rfl rfl rfl (hN (.methodLinkNest RX1 52 yX9_lengthOf "FallingWords") (by decide +kernel)) (hts (.initialized RX9) (by decide +kernel)) (by decide +kernel) ⟨Nat.le_of_ble_eq_true rfl, Nat.le_of_ble_eq_true rfl⟩), hts (.static yX9_lengthOf) (by decide +kernel), trivial⟩ rfl rfl (Nat.le_of_ble_eq_true rfl) dX1_isOverlap_184 ⟨Nat.zero_le _, Nat.zero_le _⟩ (fun rY wY H locs hwY hJ hS => ?_)
              obtain ⟨e1Y, e2Y⟩ := hwY
              have e3Y := e1Y.symm
              clear e1Y
              subst e3Y
              have e3Y := e2Y.symm
              clear e2Y
              subst e3Y
              obtain ⟨hP, hD⟩ := hJ rfl
              have hP : va_P D vwCl (gOv cA Bo (nI (kA k)) (nI (kB k)) (nI (kQ k)) (nI (ovw S (kA k) (kB k) (kQ k))) fn sn ++ gRu cA B L R LL RL TM (nI (S 1))) H := hP
              have hD : va_D AY (gOv cA Bo (nI (kA k)) (nI (kB k)) (nI (kQ k)) (nI (ovw S (kA k) (kB k) (kQ k))) fn sn ++ gRu cA B L R LL RL TM (nI (S 1))) := hD
              refine lv_aload_n hx hb dX1_isOverlap_187 rfl (lv_at hl 0 rfl) ?_
              refine va_get (D := D) (ci := 1) (v := .int (nI (kB k))) (C := RX1) (T := TX1) (N := 6) hx hb hts hi_X1_isOverlap_X1 hown hK hP 0 rfl rfl 1 (by decide) (hts (.fieldLink RX1 29 "FallingWords$Overlaps" "second" "I") (by decide +kernel)) (fun _ h9 => h9) rfl dX1_isOverlap_188 ?_
              refine lv_aload_n hx hb dX1_isOverlap_191 rfl (lv_at hl 0 rfl) ?_
              refine va_get (D := D) (ci := 1) (v := .int (nI (kQ k))) (C := RX1) (T := TX1) (N := 6) hx hb hts hi_X1_isOverlap_X1 hown hK hP 0 rfl rfl 2 (by decide) (hts (.fieldLink RX1 32 "FallingWords$Overlaps" "place" "I") (by decide +kernel)) (fun _ h9 => h9) rfl dX1_isOverlap_192 ?_
              refine ci_VN (As := [.int (nI (ovw S (kA k) (kB k) (kQ k))), .int (nI (len (ovw S (kA k) (kB k) (kQ k)))), .int (nI (kB k)), .int (nI (kQ k))]) (rest := []) h0 hK hN hP hD hS hA hl.1 (k_X4_appliesAt lY D cA B S L R LL RL TM (ovw S (kA k) (kB k) (kQ k)) (kB k) (kQ k) (hI) (hr) (e1) (hb2) (by omega)) [1, 2, 3, 4, 5, 6] rfl (by decide) ⟨(va_cnB 4 hts gX1_isOverlap_X4_appliesAt_n58 rfl rfl rfl (hN (.methodLinkNest RX1 58 yX4_appliesAt "FallingWords") (by decide +kernel)) (hts (.initialized RX4) (by decide +kernel)) (by decide +kernel) ⟨Nat.le_of_ble_eq_true rfl, Nat.le_of_ble_eq_true rfl⟩), hts (.instanceMethod yX4_appliesAt) (by decide +kernel), hts (.selects RX4 yX4_appliesAt yX4_appliesAt) (by decide +kernel)⟩ (cl_recv (ci := 4) (q := (RX4, TX4, 6)) (q0 := 1) hP hK rfl rfl) rfl rfl (Nat.le_of_ble_eq_true rfl) dX1_isOverlap_195 ⟨Nat.zero_le _, Nat.zero_le _⟩ (fun rY wY H locs hwY hJ hS => ?_)
              obtain ⟨e1Y, e2Y⟩ := hwY
              have e3Y := e1Y.symm
              clear e1Y
              subst e3Y
              have e3Y := e2Y.symm
              clear e2Y
              subst e3Y
              obtain ⟨hP, hD⟩ := hJ rfl
              have hP : va_P D vwCl (gOv cA Bo (nI (kA k)) (nI (kB k)) (nI (kQ k)) (nI (ovw S (kA k) (kB k) (kQ k))) fn sn ++ gRu cA B L R LL RL TM (nI (S 1))) H := hP
              have hD : va_D AY (gOv cA Bo (nI (kA k)) (nI (kB k)) (nI (kQ k)) (nI (ovw S (kA k) (kB k) (kQ k))) fn sn ++ gRu cA B L R LL RL TM (nI (S 1))) := hD
              refine xb_eq (tgt := 205) hx hb dX1_isOverlap_198 (by decide) (fun c198 => ?_) (fun c198 => ?_)
              · refine lv_iconst (v := nI 0) hx hb dX1_isOverlap_205 (by decide +kernel) ?_
                have hz3 : ovk S k = false := by unfold ovk ovl; rw [c33, c44, hsh, ← e4, c198]; rfl
                exact hret _ _ _ _ _ _ dX1_isOverlap_206 ⟨nI (ovw S (kA k) (kB k) (kQ k)), by rw [hz3]; rfl, rfl, fun _ => rfl⟩ hP hD hS
              · refine lv_iconst (v := nI 1) hx hb dX1_isOverlap_201 (by decide +kernel) ?_
                refine lv_goto (tgt := 206) hx hb dX1_isOverlap_202 (by decide) ?_
                have hz3 : ovk S k = true := by unfold ovk ovl; rw [c33, c44, hsh, ← e4, c198]; rfl
                exact hret _ _ _ _ _ _ dX1_isOverlap_206 ⟨nI (ovw S (kA k) (kB k) (kQ k)), by rw [hz3]; rfl, rfl, fun _ => rfl⟩ hP hD hS
          refine lv_iload hx hb dX1_isOverlap_127 (lv_at hl 1 rfl) ?_
          refine xb_ne (tgt := 139) hx hb dX1_isOverlap_129 (by decide) (fun c129 => ?_) (fun c129 => ?_)
          · exact L139  (by unfold shp; rw [← hz, ← hz2, c129]; simp) _ _ _ hP hD hS (lv_sub hl [4, 5, 6, 3, 2] rfl)
          · refine lv_iload hx hb dX1_isOverlap_132 (lv_at hl 0 rfl) ?_
            refine xb_ne (tgt := 139) hx hb dX1_isOverlap_134 (by decide) (fun c134 => ?_) (fun c134 => ?_)
            · exact L139  (by unfold shp; rw [← hz, ← hz2, c134]; simp) _ _ _ hP hD hS (lv_sub hl [4, 5, 6, 3, 2] rfl)
            · refine lv_iconst (v := nI 0) hx hb dX1_isOverlap_137 (by decide +kernel) ?_
              have hz3 : ovk S k = false := by unfold ovk ovl shp; rw [← hz, ← hz2, c129, c134]; simp
              exact hret _ _ _ _ _ _ dX1_isOverlap_138 ⟨wd1, by rw [hz3]; rfl, rfl, fun h => by rw [hz3] at h; cases h⟩ hP hD hS
        refine lv_aload_n hx hb dX1_isOverlap_103 rfl (lv_at hl 3 rfl) ?_
        refine va_get (D := D) (ci := 1) (v := .int (nI (kA k))) (C := RX1) (T := TX1) (N := 6) hx hb hts hi_X1_isOverlap_X1 hown hK hP 0 rfl rfl 0 (by decide) (hts (.fieldLink RX1 25 "FallingWords$Overlaps" "first" "I") (by decide +kernel)) (fun _ h9 => h9) rfl dX1_isOverlap_104 ?_
        refine lv_aload_n hx hb dX1_isOverlap_107 rfl (lv_at hl 3 rfl) ?_
        refine va_get (D := D) (ci := 1) (v := .int (nI (kB k))) (C := RX1) (T := TX1) (N := 6) hx hb hts hi_X1_isOverlap_X1 hown hK hP 0 rfl rfl 1 (by decide) (hts (.fieldLink RX1 29 "FallingWords$Overlaps" "second" "I") (by decide +kernel)) (fun _ h9 => h9) rfl dX1_isOverlap_108 ?_
        refine xc_eq (tgt := 124) hx hb dX1_isOverlap_111 (by decide) (by omega) (by omega) (fun c111 => ?_) (fun c111 => ?_)
        · refine lv_iconst (v := nI 0) hx hb dX1_isOverlap_124 (by decide +kernel) ?_
          exact L125 false (by rw [decide_eq_false (by omega), Bool.false_and]) _ _ _ hP hD hS hl
        · refine lv_iload hx hb dX1_isOverlap_114 (lv_at hl 1 rfl) ?_
          refine lv_iload_n hx hb dX1_isOverlap_116 rfl (lv_at hl 2 rfl) ?_
          refine xc_gt (tgt := 124) hx hb dX1_isOverlap_117 (by decide) (by omega) (by omega) (fun c117 => ?_) (fun c117 => ?_)
          · refine lv_iconst (v := nI 0) hx hb dX1_isOverlap_124 (by decide +kernel) ?_
            exact L125 false (by rw [decide_eq_false (p := kQ k + len (lf S (kB k)) ≤ len (lf S (kA k))) (by omega), Bool.and_false]) _ _ _ hP hD hS hl
          · refine lv_iconst (v := nI 1) hx hb dX1_isOverlap_120 (by decide +kernel) ?_
            refine lv_goto (tgt := 125) hx hb dX1_isOverlap_121 (by decide) ?_
            exact L125 true (by rw [decide_eq_true c111, decide_eq_true (by omega)]; rfl) _ _ _ hP hD hS hl
      refine lv_aload_n hx hb dX1_isOverlap_75 rfl (lv_at hl 2 rfl) ?_
      refine va_get (D := D) (ci := 1) (v := .int (nI (kQ k))) (C := RX1) (T := TX1) (N := 6) hx hb hts hi_X1_isOverlap_X1 hown hK hP 0 rfl rfl 2 (by decide) (hts (.fieldLink RX1 32 "FallingWords$Overlaps" "place" "I") (by decide +kernel)) (fun _ h9 => h9) rfl dX1_isOverlap_76 ?_
      refine x0_le (tgt := 100) hx hb dX1_isOverlap_79 (by decide) (by omega) (fun c79 => ?_) (fun c79 => ?_)
      · refine lv_iconst (v := nI 0) hx hb dX1_isOverlap_100 (by decide +kernel) ?_
        exact L101 false (by rw [decide_eq_false (by omega)]) _ _ _ hP hD hS hl
      · refine lv_aload_n hx hb dX1_isOverlap_82 rfl (lv_at hl 2 rfl) ?_
        refine va_get (D := D) (ci := 1) (v := .int (nI (kQ k))) (C := RX1) (T := TX1) (N := 6) hx hb hts hi_X1_isOverlap_X1 hown hK hP 0 rfl rfl 2 (by decide) (hts (.fieldLink RX1 32 "FallingWords$Overlaps" "place" "I") (by decide +kernel)) (fun _ h9 => h9) rfl dX1_isOverlap_83 ?_
        refine lv_iload_n hx hb dX1_isOverlap_86 rfl (lv_at hl 1 rfl) ?_
        refine xc_ge (tgt := 100) hx hb dX1_isOverlap_87 (by decide) (by omega) (by omega) (fun c87 => ?_) (fun c87 => ?_)
        · refine lv_iconst (v := nI 0) hx hb dX1_isOverlap_100 (by decide +kernel) ?_
          exact L101 false (by rw [decide_eq_false (by omega)]) _ _ _ hP hD hS hl
        · refine lv_iload hx hb dX1_isOverlap_90 (lv_at hl 0 rfl) ?_
          refine lv_iload_n hx hb dX1_isOverlap_92 rfl (lv_at hl 1 rfl) ?_
          refine xc_lt (tgt := 100) hx hb dX1_isOverlap_93 (by decide) (by omega) (by omega) (fun c93 => ?_) (fun c93 => ?_)
          · refine lv_iconst (v := nI 0) hx hb dX1_isOverlap_100 (by decide +kernel) ?_
            exact L101 false (by rw [decide_eq_false (by omega)]) _ _ _ hP hD hS hl
          · refine lv_iconst (v := nI 1) hx hb dX1_isOverlap_96 (by decide +kernel) ?_
            refine lv_goto (tgt := 101) hx hb dX1_isOverlap_97 (by decide) ?_
            exact L101 true (by rw [decide_eq_true (by omega)]) _ _ _ hP hD hS hl
    · refine lv_iconst (v := nI 0) hx hb dX1_isOverlap_47 (by decide +kernel) ?_
      have hz : ovk S k = false := by unfold ovk; rw [c44, Bool.and_false]; rfl
      exact hret _ _ _ _ _ _ dX1_isOverlap_48 ⟨wd1, by rw [hz]; rfl, rfl, fun h => by rw [hz] at h; cases h⟩ hP hD hS

theorem hi_X1_firstWord_X1 : ∀ w ∈ u_ws RX1 TX1 6, w ∈ wsX1_firstWord := by decide +kernel
set_option maxHeartbeats 1000000 in
set_option maxRecDepth 100000 in
theorem k_X1_firstWord (lY : Launch) (D : va_G) (cA : Nat → ClassId) (Bo B : Nat → Nat) (fn sn : Int32) (S : St) (L R LL RL TM : Nat → Int32) (a b q : Nat) (hI : IR S) (hr : rRu S L R LL RL TM) (ha : a < S 1) (hb2 : b < S 1) (hq : q < 4) (ho : ovl S a b q = true) : MetI lY D cA yX1_firstWord wsX1_firstWord 2 50 [.ref (Bo 0), .ref (B 0)] (gOv cA Bo (nI a) (nI b) (nI q) (nI (ovw S a b q)) fn sn ++ gRu cA B L R LL RL TM (nI (S 1))) (fun rY wY => rY = nI (ow1 S a b q) ∧ wY = gOv cA Bo (nI a) (nI b) (nI q) (nI (ovw S a b q)) fn sn ++ gRu cA B L R LL RL TM (nI (S 1))) := by
  refine MetI.of (cc := cX1_firstWord) (maxL := 2) (ret := (some .int)) (by decide) rfl (Nat.le_of_ble_eq_true rfl) (Or.inl rfl) ?_
  intro pY eY sY mY aY bY tY cY QY AY ls h0 hP hK hN hD hA hS hl hret
  obtain ⟨hx, hb, hml, hown, hts⟩ := id h0
  have hl : lv_has ls 2 [(0, .ref (Bo 0)), (1, .ref (B 0))] := hl
  have hP : va_P D vwCl (gOv cA Bo (nI a) (nI b) (nI q) (nI (ovw S a b q)) fn sn ++ gRu cA B L R LL RL TM (nI (S 1))) sY.heap := hP
  have hD : va_D AY (gOv cA Bo (nI a) (nI b) (nI q) (nI (ovw S a b q)) fn sn ++ gRu cA B L R LL RL TM (nI (S 1))) := hD
  obtain ⟨e1, e2, e3, e4, e5⟩ := ov_w hI ha hb2 hq ho
  refine lv_aload_n hx hb dX1_firstWord_0 rfl (lv_at hl 1 rfl) ?_
  refine lv_aload_n hx hb dX1_firstWord_1 rfl (lv_at hl 0 rfl) ?_
  refine va_get (D := D) (ci := 1) (v := .int (nI (ovw S a b q))) (C := RX1) (T := TX1) (N := 6) hx hb hts hi_X1_firstWord_X1 hown hK hP 0 rfl rfl 3 (by decide) (hts (.fieldLink RX1 49 "FallingWords$Overlaps" "word" "I") (by decide +kernel)) (fun _ h9 => h9) rfl dX1_firstWord_2 ?_
  refine lv_aload_n hx hb dX1_firstWord_5 rfl (lv_at hl 0 rfl) ?_
  refine va_get (D := D) (ci := 1) (v := .int (nI a)) (C := RX1) (T := TX1) (N := 6) hx hb hts hi_X1_firstWord_X1 hown hK hP 0 rfl rfl 0 (by decide) (hts (.fieldLink RX1 25 "FallingWords$Overlaps" "first" "I") (by decide +kernel)) (fun _ h9 => h9) rfl dX1_firstWord_6 ?_
  refine lv_iconst (v := nI 0) hx hb dX1_firstWord_9 (by decide +kernel) ?_
  refine ci_VN (As := [.int (nI (ovw S a b q)), .int (nI a), .int (nI 0)]) (rest := []) h0 hK hN hP hD hS hA hl.1 (k_X4_applied lY D cA B S L R LL RL TM (ovw S a b q) a 0 (hI) (hr) (e1) (ha) (e2)) [1, 2, 3, 4, 5, 6] rfl (by decide) ⟨(va_cnB 3 hts gX1_firstWord_X4_applied_n69 rfl rfl rfl (hN (.methodLinkNest RX1 69 yX4_applied "FallingWords") (by decide +kernel)) (hts (.initialized RX4) (by decide +kernel)) (by decide +kernel) ⟨Nat.le_of_ble_eq_true rfl, Nat.le_of_ble_eq_true rfl⟩), hts (.instanceMethod yX4_applied) (by decide +kernel), hts (.selects RX4 yX4_applied yX4_applied) (by decide +kernel)⟩ (cl_recv (ci := 4) (q := (RX4, TX4, 6)) (q0 := 1) hP hK rfl rfl) rfl rfl (Nat.le_of_ble_eq_true rfl) dX1_firstWord_10 ⟨Nat.zero_le _, Nat.zero_le _⟩ (fun rY wY H locs hwY hJ hS => ?_)
  obtain ⟨e1Y, e2Y⟩ := hwY
  have e3Y := e1Y.symm
  clear e1Y
  subst e3Y
  have e3Y := e2Y.symm
  clear e2Y
  subst e3Y
  obtain ⟨hP, hD⟩ := hJ rfl
  have hP : va_P D vwCl (gOv cA Bo (nI a) (nI b) (nI q) (nI (ovw S a b q)) fn sn ++ gRu cA B L R LL RL TM (nI (S 1))) H := hP
  have hD : va_D AY (gOv cA Bo (nI a) (nI b) (nI q) (nI (ovw S a b q)) fn sn ++ gRu cA B L R LL RL TM (nI (S 1))) := hD
  refine xt (show nI (app (lf S a) (rt S a) (ovw S a b q) 0) = nI (ow1 S a b q) from rfl) ?_
  exact hret _ _ _ _ _ _ dX1_firstWord_13 ⟨rfl, rfl⟩ hP hD hS

theorem hi_X1_secondWord_X1 : ∀ w ∈ u_ws RX1 TX1 6, w ∈ wsX1_secondWord := by decide +kernel
set_option maxHeartbeats 1000000 in
set_option maxRecDepth 100000 in
theorem k_X1_secondWord (lY : Launch) (D : va_G) (cA : Nat → ClassId) (Bo B : Nat → Nat) (fn sn : Int32) (S : St) (L R LL RL TM : Nat → Int32) (a b q : Nat) (hI : IR S) (hr : rRu S L R LL RL TM) (ha : a < S 1) (hb2 : b < S 1) (hq : q < 4) (ho : ovl S a b q = true) : MetI lY D cA yX1_secondWord wsX1_secondWord 2 50 [.ref (Bo 0), .ref (B 0)] (gOv cA Bo (nI a) (nI b) (nI q) (nI (ovw S a b q)) fn sn ++ gRu cA B L R LL RL TM (nI (S 1))) (fun rY wY => rY = nI (ow2 S a b q) ∧ wY = gOv cA Bo (nI a) (nI b) (nI q) (nI (ovw S a b q)) fn sn ++ gRu cA B L R LL RL TM (nI (S 1))) := by
  refine MetI.of (cc := cX1_secondWord) (maxL := 2) (ret := (some .int)) (by decide) rfl (Nat.le_of_ble_eq_true rfl) (Or.inl rfl) ?_
  intro pY eY sY mY aY bY tY cY QY AY ls h0 hP hK hN hD hA hS hl hret
  obtain ⟨hx, hb, hml, hown, hts⟩ := id h0
  have hl : lv_has ls 2 [(0, .ref (Bo 0)), (1, .ref (B 0))] := hl
  have hP : va_P D vwCl (gOv cA Bo (nI a) (nI b) (nI q) (nI (ovw S a b q)) fn sn ++ gRu cA B L R LL RL TM (nI (S 1))) sY.heap := hP
  have hD : va_D AY (gOv cA Bo (nI a) (nI b) (nI q) (nI (ovw S a b q)) fn sn ++ gRu cA B L R LL RL TM (nI (S 1))) := hD
  obtain ⟨e1, e2, e3, e4, e5⟩ := ov_w hI ha hb2 hq ho
  refine lv_aload_n hx hb dX1_secondWord_0 rfl (lv_at hl 1 rfl) ?_
  refine lv_aload_n hx hb dX1_secondWord_1 rfl (lv_at hl 0 rfl) ?_
  refine va_get (D := D) (ci := 1) (v := .int (nI (ovw S a b q))) (C := RX1) (T := TX1) (N := 6) hx hb hts hi_X1_secondWord_X1 hown hK hP 0 rfl rfl 3 (by decide) (hts (.fieldLink RX1 49 "FallingWords$Overlaps" "word" "I") (by decide +kernel)) (fun _ h9 => h9) rfl dX1_secondWord_2 ?_
  refine lv_aload_n hx hb dX1_secondWord_5 rfl (lv_at hl 0 rfl) ?_
  refine va_get (D := D) (ci := 1) (v := .int (nI b)) (C := RX1) (T := TX1) (N := 6) hx hb hts hi_X1_secondWord_X1 hown hK hP 0 rfl rfl 1 (by decide) (hts (.fieldLink RX1 29 "FallingWords$Overlaps" "second" "I") (by decide +kernel)) (fun _ h9 => h9) rfl dX1_secondWord_6 ?_
  refine lv_aload_n hx hb dX1_secondWord_9 rfl (lv_at hl 0 rfl) ?_
  refine va_get (D := D) (ci := 1) (v := .int (nI q)) (C := RX1) (T := TX1) (N := 6) hx hb hts hi_X1_secondWord_X1 hown hK hP 0 rfl rfl 2 (by decide) (hts (.fieldLink RX1 32 "FallingWords$Overlaps" "place" "I") (by decide +kernel)) (fun _ h9 => h9) rfl dX1_secondWord_10 ?_
  refine ci_VN (As := [.int (nI (ovw S a b q)), .int (nI b), .int (nI q)]) (rest := []) h0 hK hN hP hD hS hA hl.1 (k_X4_applied lY D cA B S L R LL RL TM (ovw S a b q) b q (hI) (hr) (e1) (hb2) (e3)) [1, 2, 3, 4, 5, 6] rfl (by decide) ⟨(va_cnB 3 hts gX1_secondWord_X4_applied_n69 rfl rfl rfl (hN (.methodLinkNest RX1 69 yX4_applied "FallingWords") (by decide +kernel)) (hts (.initialized RX4) (by decide +kernel)) (by decide +kernel) ⟨Nat.le_of_ble_eq_true rfl, Nat.le_of_ble_eq_true rfl⟩), hts (.instanceMethod yX4_applied) (by decide +kernel), hts (.selects RX4 yX4_applied yX4_applied) (by decide +kernel)⟩ (cl_recv (ci := 4) (q := (RX4, TX4, 6)) (q0 := 1) hP hK rfl rfl) rfl rfl (Nat.le_of_ble_eq_true rfl) dX1_secondWord_13 ⟨Nat.zero_le _, Nat.zero_le _⟩ (fun rY wY H locs hwY hJ hS => ?_)
  obtain ⟨e1Y, e2Y⟩ := hwY
  have e3Y := e1Y.symm
  clear e1Y
  subst e3Y
  have e3Y := e2Y.symm
  clear e2Y
  subst e3Y
  obtain ⟨hP, hD⟩ := hJ rfl
  have hP : va_P D vwCl (gOv cA Bo (nI a) (nI b) (nI q) (nI (ovw S a b q)) fn sn ++ gRu cA B L R LL RL TM (nI (S 1))) H := hP
  have hD : va_D AY (gOv cA Bo (nI a) (nI b) (nI q) (nI (ovw S a b q)) fn sn ++ gRu cA B L R LL RL TM (nI (S 1))) := hD
  refine xt (show nI (app (lf S b) (rt S b) (ovw S a b q) q) = nI (ow2 S a b q) from rfl) ?_
  exact hret _ _ _ _ _ _ dX1_secondWord_16 ⟨rfl, rfl⟩ hP hD hS
end
section
theorem hi_X1_verdict_X1 : ∀ w ∈ u_ws RX1 TX1 6, w ∈ wsX1_verdict := by decide +kernel
theorem hi_X1_verdict_X3 : ∀ w ∈ u_ws RX3 TX3 5, w ∈ wsX1_verdict := by decide +kernel
theorem hi_X1_verdict_X6 : ∀ w ∈ u_ws RX6 TX6 6, w ∈ wsX1_verdict := by decide +kernel
set_option maxHeartbeats 1000000 in
set_option maxRecDepth 100000 in
theorem k_X1_verdict (lY : Launch) (D : va_G) (cA : Nat → ClassId) (Bo B Bd : Nat → Nat) (fn sn : Int32) (S : St) (L R LL RL TM WW NN : Nat → Int32) (WD RD : Nat → Int32) (oc ns rs : Int32) (a b q : Nat) (hI : IR S) (hr : rRu S L R LL RL TM) (ha : a < S 1) (hb2 : b < S 1) (hq : q < 4) (ho : ovl S a b q = true) : MetI lY D cA yX1_verdict wsX1_verdict 3 82 [.ref (Bo 0), .ref (B 0), .ref (Bd 0)] (gOv cA Bo (nI a) (nI b) (nI q) (nI (ovw S a b q)) fn sn ++ gSa cA B (nI (S 0)) (nI (S 2)) (nI (S 4)) (nI (S 5)) L R LL RL TM (nI (S 1)) WW NN (nI (S 3)) ++ gRd cA Bd WD RD oc ns rs) (fun rY wY => ∃ (fn2 : Int32) (sn2 : Int32) (WD' : Nat → Int32) (RD' : Nat → Int32) (oc' : Int32) (ns' : Int32) (rs' : Int32), rY = nI (par S (ow1 S a b q) (ow2 S a b q)) ∧ wY = gOv cA Bo (nI a) (nI b) (nI q) (nI (ovw S a b q)) fn2 sn2 ++ gSa cA B (nI (S 0)) (nI (S 2)) (nI (S 4)) (nI (S 5)) L R LL RL TM (nI (S 1)) WW NN (nI (S 3)) ++ gRd cA Bd WD' RD' oc' ns' rs' ∧ (par S (ow1 S a b q) (ow2 S a b q) = 1 → fn2 = nI (nw S (ow1 S a b q)) ∧ sn2 = nI (nw S (ow2 S a b q)))) := by
  refine MetI.of (cc := cX1_verdict) (maxL := 3) (ret := (some .int)) (by decide) rfl (Nat.le_of_ble_eq_true rfl) (Or.inl rfl) ?_
  intro pY eY sY mY aY bY tY cY QY AY ls h0 hP hK hN hD hA hS hl hret
  obtain ⟨hx, hb, hml, hown, hts⟩ := id h0
  have hl : lv_has ls 3 [(0, .ref (Bo 0)), (1, .ref (B 0)), (2, .ref (Bd 0))] := hl
  have hP : va_P D vwCl (gOv cA Bo (nI a) (nI b) (nI q) (nI (ovw S a b q)) fn sn ++ gSa cA B (nI (S 0)) (nI (S 2)) (nI (S 4)) (nI (S 5)) L R LL RL TM (nI (S 1)) WW NN (nI (S 3)) ++ gRd cA Bd WD RD oc ns rs) sY.heap := hP
  have hD : va_D AY (gOv cA Bo (nI a) (nI b) (nI q) (nI (ovw S a b q)) fn sn ++ gSa cA B (nI (S 0)) (nI (S 2)) (nI (S 4)) (nI (S 5)) L R LL RL TM (nI (S 1)) WW NN (nI (S 3)) ++ gRd cA Bd WD RD oc ns rs) := hD
  obtain ⟨e1, e2, e3, e4, e5⟩ := ov_w hI ha hb2 hq ho
  obtain ⟨z1, -, z3, z4, -, -⟩ := red_ok hI e4
  obtain ⟨y1, -, y3, y4, -, -⟩ := red_ok hI e5
  have hBz := vw_B z3 (by decide)
  have hBy := vw_B y3 (by decide)
  refine lv_aload_n hx hb dX1_verdict_0 rfl (lv_at hl 2 rfl) ?_
  refine lv_aload_n hx hb dX1_verdict_1 rfl (lv_at hl 1 rfl) ?_
  refine va_getN (D := D) (ci := 6) (v := .ref (B 1)) (C := RX6) (T := TX6) (N := 6) hx hb hts hi_X1_verdict_X6 hown hK hP 1 rfl rfl 0 (by decide) (hN.fl (w := .fieldLinkNest RX1 15 "FallingWords$State" "rules" "LFallingWords$Rules;" "FallingWords") (by decide +kernel)) (fun _ h9 => h9) rfl dX1_verdict_2 ?_
  refine lv_aload_n hx hb dX1_verdict_5 rfl (lv_at hl 1 rfl) ?_
  refine va_getN (D := D) (ci := 6) (v := .int (nI (S 2))) (C := RX6) (T := TX6) (N := 6) hx hb hts hi_X1_verdict_X6 hown hK hP 1 rfl rfl 3 (by decide) (hN.fl (w := .fieldLinkNest RX1 73 "FallingWords$State" "choosing" "I" "FallingWords") (by decide +kernel)) (fun _ h9 => h9) rfl dX1_verdict_6 ?_
  refine lv_aload_n hx hb dX1_verdict_9 rfl (lv_at hl 0 rfl) ?_
  refine lv_aload_n hx hb dX1_verdict_10 rfl (lv_at hl 1 rfl) ?_
  refine va_getN (D := D) (ci := 6) (v := .ref (B 1)) (C := RX6) (T := TX6) (N := 6) hx hb hts hi_X1_verdict_X6 hown hK hP 1 rfl rfl 0 (by decide) (hN.fl (w := .fieldLinkNest RX1 15 "FallingWords$State" "rules" "LFallingWords$Rules;" "FallingWords") (by decide +kernel)) (fun _ h9 => h9) rfl dX1_verdict_11 ?_
  refine ci_V (As := [.ref (B 1)]) (rest := [.int (nI (S 2)), .ref (B 1), .ref (Bd 0)]) h0 hK hN hP hD hS hA hl.1 (k_X1_firstWord lY D cA Bo (fun i => B (i + 1)) fn sn S L R LL RL TM a b q (hI) (hr) (ha) (hb2) (hq) (ho)) [0, 2, 3, 4, 5, 6, 7] rfl (by decide) (cwV 1 hts gX1_verdict_X1_firstWord rfl rfl rfl (by decide +kernel) ⟨Nat.le_of_ble_eq_true rfl, Nat.le_of_ble_eq_true rfl⟩) (cl_recv (ci := 1) (q := (RX1, TX1, 6)) (q0 := 0) hP hK rfl rfl) rfl rfl (Nat.le_of_ble_eq_true rfl) dX1_verdict_14 ⟨Nat.zero_le _, Nat.zero_le _⟩ (fun rY wY H locs hwY hJ hS => ?_)
  obtain ⟨e1Y, e2Y⟩ := hwY
  have e3Y := e1Y.symm
  clear e1Y
  subst e3Y
  have e3Y := e2Y.symm
  clear e2Y
  subst e3Y
  obtain ⟨hP, hD⟩ := hJ rfl
  have hP : va_P D vwCl (gOv cA Bo (nI a) (nI b) (nI q) (nI (ovw S a b q)) fn sn ++ gSa cA B (nI (S 0)) (nI (S 2)) (nI (S 4)) (nI (S 5)) L R LL RL TM (nI (S 1)) WW NN (nI (S 3)) ++ gRd cA Bd WD RD oc ns rs) H := hP
  have hD : va_D AY (gOv cA Bo (nI a) (nI b) (nI q) (nI (ovw S a b q)) fn sn ++ gSa cA B (nI (S 0)) (nI (S 2)) (nI (S 4)) (nI (S 5)) L R LL RL TM (nI (S 1)) WW NN (nI (S 3)) ++ gRd cA Bd WD RD oc ns rs) := hD
  refine cv_VN (As := [.ref (B 1), .int (nI (S 2)), .int (nI (ow1 S a b q))]) (rest := []) h0 hK hN hP hD hS hA hl.1 (k_X3_run lY D cA Bd (fun i => B (i + 1)) WD RD oc ns rs S L R LL RL TM (ow1 S a b q) (hI) (hr) (e4)) [11, 12, 13, 2, 3, 4, 5, 6, 7] rfl (by decide) ⟨(va_cnB 3 hts gX1_verdict_X3_run_n80 rfl rfl rfl (hN (.methodLinkNest RX1 80 yX3_run "FallingWords") (by decide +kernel)) (hts (.initialized RX3) (by decide +kernel)) (by decide +kernel) ⟨Nat.le_of_ble_eq_true rfl, Nat.le_of_ble_eq_true rfl⟩), hts (.instanceMethod yX3_run) (by decide +kernel), hts (.selects RX3 yX3_run yX3_run) (by decide +kernel)⟩ (cl_recv (ci := 3) (q := (RX3, TX3, 5)) (q0 := 11) hP hK rfl rfl) rfl rfl (Nat.le_of_ble_eq_true rfl) dX1_verdict_17 ⟨Nat.zero_le _, Nat.zero_le _⟩ (fun wY H locs hwY hJ hS => ?_)
  obtain ⟨WD'_17, RD'_17, rs'_17, e2Y, f1_17, f2_17, f3_17⟩ := hwY
  have e3Y := e2Y.symm
  clear e2Y
  subst e3Y
  obtain ⟨hP, hD⟩ := hJ rfl
  have hP : va_P D vwCl (gOv cA Bo (nI a) (nI b) (nI q) (nI (ovw S a b q)) fn sn ++ gSa cA B (nI (S 0)) (nI (S 2)) (nI (S 4)) (nI (S 5)) L R LL RL TM (nI (S 1)) WW NN (nI (S 3)) ++ gRd cA Bd WD'_17 RD'_17 (nI ((red S (ow1 S a b q)).1)) (nI ((red S (ow1 S a b q)).2.1)) rs'_17) H := hP
  have hD : va_D AY (gOv cA Bo (nI a) (nI b) (nI q) (nI (ovw S a b q)) fn sn ++ gSa cA B (nI (S 0)) (nI (S 2)) (nI (S 4)) (nI (S 5)) L R LL RL TM (nI (S 1)) WW NN (nI (S 3)) ++ gRd cA Bd WD'_17 RD'_17 (nI ((red S (ow1 S a b q)).1)) (nI ((red S (ow1 S a b q)).2.1)) rs'_17) := hD
  refine lv_aload_n hx hb dX1_verdict_20 rfl (lv_at hl 2 rfl) ?_
  refine va_getN (D := D) (ci := 3) (v := .int (nI ((red S (ow1 S a b q)).1))) (C := RX3) (T := TX3) (N := 5) hx hb hts hi_X1_verdict_X3 hown hK hP 11 rfl rfl 2 (by decide) (hN.fl (w := .fieldLinkNest RX1 86 "FallingWords$Reduction" "outcome" "I" "FallingWords") (by decide +kernel)) (fun _ h9 => h9) rfl dX1_verdict_21 ?_
  refine x0_eq (tgt := 29) hx hb dX1_verdict_24 (by decide) (by omega) (fun c24 => ?_) (fun c24 => ?_)
  · refine lv_aload_n hx hb dX1_verdict_29 rfl (lv_at hl 0 rfl) ?_
    refine lv_aload_n hx hb dX1_verdict_30 rfl (lv_at hl 2 rfl) ?_
    refine ci_VN (As := []) (rest := [.ref (Bo 0)]) h0 hK hN hP hD hS hA hl.1 (k_X3_last lY D cA Bd WD'_17 RD'_17 (nI ((red S (ow1 S a b q)).1)) rs'_17 ((red S (ow1 S a b q)).2.1) (nw S (ow1 S a b q)) (z1) (f1_17 _ (Nat.le_refl _))) [11, 12, 13] rfl (by decide) ⟨(va_cnB 0 hts gX1_verdict_X3_last_n89 rfl rfl rfl (hN (.methodLinkNest RX1 89 yX3_last "FallingWords") (by decide +kernel)) (hts (.initialized RX3) (by decide +kernel)) (by decide +kernel) ⟨Nat.le_of_ble_eq_true rfl, Nat.le_of_ble_eq_true rfl⟩), hts (.instanceMethod yX3_last) (by decide +kernel), hts (.selects RX3 yX3_last yX3_last) (by decide +kernel)⟩ (cl_recv (ci := 3) (q := (RX3, TX3, 5)) (q0 := 11) hP hK rfl rfl) rfl rfl (Nat.le_of_ble_eq_true rfl) dX1_verdict_31 ⟨Nat.zero_le _, Nat.zero_le _⟩ (fun rY wY H locs hwY hJ hS => ?_)
    obtain ⟨e1Y, e2Y⟩ := hwY
    have e3Y := e1Y.symm
    clear e1Y
    subst e3Y
    have e3Y := e2Y.symm
    clear e2Y
    subst e3Y
    obtain ⟨hP, hD⟩ := hJ rfl
    have hP : va_P D vwCl (gOv cA Bo (nI a) (nI b) (nI q) (nI (ovw S a b q)) fn sn ++ gSa cA B (nI (S 0)) (nI (S 2)) (nI (S 4)) (nI (S 5)) L R LL RL TM (nI (S 1)) WW NN (nI (S 3)) ++ gRd cA Bd WD'_17 RD'_17 (nI ((red S (ow1 S a b q)).1)) (nI ((red S (ow1 S a b q)).2.1)) rs'_17) H := hP
    have hD : va_D AY (gOv cA Bo (nI a) (nI b) (nI q) (nI (ovw S a b q)) fn sn ++ gSa cA B (nI (S 0)) (nI (S 2)) (nI (S 4)) (nI (S 5)) L R LL RL TM (nI (S 1)) WW NN (nI (S 3)) ++ gRd cA Bd WD'_17 RD'_17 (nI ((red S (ow1 S a b q)).1)) (nI ((red S (ow1 S a b q)).2.1)) rs'_17) := hD
    refine va_put (D := D) (ci := 1) (v := .int (nI (nw S (ow1 S a b q)))) (ty := .int) (C := RX1) (T := TX1) (N := 6) hx hb hts hi_X1_verdict_X1 tyX1 tyX1_ok nmX1 hown hK hP hD hS 0 rfl rfl 4 (by decide) (hts (.fieldLink RX1 93 "FallingWords$Overlaps" "firstNormal" "I") (by decide +kernel)) (fun _ h9 => h9) rfl (by decide +kernel) rfl rfl (Nat.le_of_ble_eq_true rfl) dX1_verdict_34 (fun H locs hP hD hS => ?_)
    have hP : va_P D vwCl (gOv cA Bo (nI a) (nI b) (nI q) (nI (ovw S a b q)) (nI (nw S (ow1 S a b q))) sn ++ gSa cA B (nI (S 0)) (nI (S 2)) (nI (S 4)) (nI (S 5)) L R LL RL TM (nI (S 1)) WW NN (nI (S 3)) ++ gRd cA Bd WD'_17 RD'_17 (nI ((red S (ow1 S a b q)).1)) (nI ((red S (ow1 S a b q)).2.1)) rs'_17) H := hP
    have hD : va_D AY (gOv cA Bo (nI a) (nI b) (nI q) (nI (ovw S a b q)) (nI (nw S (ow1 S a b q))) sn ++ gSa cA B (nI (S 0)) (nI (S 2)) (nI (S 4)) (nI (S 5)) L R LL RL TM (nI (S 1)) WW NN (nI (S 3)) ++ gRd cA Bd WD'_17 RD'_17 (nI ((red S (ow1 S a b q)).1)) (nI ((red S (ow1 S a b q)).2.1)) rs'_17) := hD
    refine lv_aload_n hx hb dX1_verdict_37 rfl (lv_at hl 2 rfl) ?_
    refine lv_aload_n hx hb dX1_verdict_38 rfl (lv_at hl 1 rfl) ?_
    refine va_getN (D := D) (ci := 6) (v := .ref (B 1)) (C := RX6) (T := TX6) (N := 6) hx hb hts hi_X1_verdict_X6 hown hK hP 1 rfl rfl 0 (by decide) (hN.fl (w := .fieldLinkNest RX1 15 "FallingWords$State" "rules" "LFallingWords$Rules;" "FallingWords") (by decide +kernel)) (fun _ h9 => h9) rfl dX1_verdict_39 ?_
    refine lv_aload_n hx hb dX1_verdict_42 rfl (lv_at hl 1 rfl) ?_
    refine va_getN (D := D) (ci := 6) (v := .int (nI (S 2))) (C := RX6) (T := TX6) (N := 6) hx hb hts hi_X1_verdict_X6 hown hK hP 1 rfl rfl 3 (by decide) (hN.fl (w := .fieldLinkNest RX1 73 "FallingWords$State" "choosing" "I" "FallingWords") (by decide +kernel)) (fun _ h9 => h9) rfl dX1_verdict_43 ?_
    refine lv_aload_n hx hb dX1_verdict_46 rfl (lv_at hl 0 rfl) ?_
    refine lv_aload_n hx hb dX1_verdict_47 rfl (lv_at hl 1 rfl) ?_
    refine va_getN (D := D) (ci := 6) (v := .ref (B 1)) (C := RX6) (T := TX6) (N := 6) hx hb hts hi_X1_verdict_X6 hown hK hP 1 rfl rfl 0 (by decide) (hN.fl (w := .fieldLinkNest RX1 15 "FallingWords$State" "rules" "LFallingWords$Rules;" "FallingWords") (by decide +kernel)) (fun _ h9 => h9) rfl dX1_verdict_48 ?_
    refine ci_V (As := [.ref (B 1)]) (rest := [.int (nI (S 2)), .ref (B 1), .ref (Bd 0)]) h0 hK hN hP hD hS hA hl.1 (k_X1_secondWord lY D cA Bo (fun i => B (i + 1)) (nI (nw S (ow1 S a b q))) sn S L R LL RL TM a b q (hI) (hr) (ha) (hb2) (hq) (ho)) [0, 2, 3, 4, 5, 6, 7] rfl (by decide) (cwV 1 hts gX1_verdict_X1_secondWord rfl rfl rfl (by decide +kernel) ⟨Nat.le_of_ble_eq_true rfl, Nat.le_of_ble_eq_true rfl⟩) (cl_recv (ci := 1) (q := (RX1, TX1, 6)) (q0 := 0) hP hK rfl rfl) rfl rfl (Nat.le_of_ble_eq_true rfl) dX1_verdict_51 ⟨Nat.zero_le _, Nat.zero_le _⟩ (fun rY wY H locs hwY hJ hS => ?_)
    obtain ⟨e1Y, e2Y⟩ := hwY
    have e3Y := e1Y.symm
    clear e1Y
    subst e3Y
    have e3Y := e2Y.symm
    clear e2Y
    subst e3Y
    obtain ⟨hP, hD⟩ := hJ rfl
    have hP : va_P D vwCl (gOv cA Bo (nI a) (nI b) (nI q) (nI (ovw S a b q)) (nI (nw S (ow1 S a b q))) sn ++ gSa cA B (nI (S 0)) (nI (S 2)) (nI (S 4)) (nI (S 5)) L R LL RL TM (nI (S 1)) WW NN (nI (S 3)) ++ gRd cA Bd WD'_17 RD'_17 (nI ((red S (ow1 S a b q)).1)) (nI ((red S (ow1 S a b q)).2.1)) rs'_17) H := hP
    have hD : va_D AY (gOv cA Bo (nI a) (nI b) (nI q) (nI (ovw S a b q)) (nI (nw S (ow1 S a b q))) sn ++ gSa cA B (nI (S 0)) (nI (S 2)) (nI (S 4)) (nI (S 5)) L R LL RL TM (nI (S 1)) WW NN (nI (S 3)) ++ gRd cA Bd WD'_17 RD'_17 (nI ((red S (ow1 S a b q)).1)) (nI ((red S (ow1 S a b q)).2.1)) rs'_17) := hD
    refine cv_VN (As := [.ref (B 1), .int (nI (S 2)), .int (nI (ow2 S a b q))]) (rest := []) h0 hK hN hP hD hS hA hl.1 (k_X3_run lY D cA Bd (fun i => B (i + 1)) WD'_17 RD'_17 (nI ((red S (ow1 S a b q)).1)) (nI ((red S (ow1 S a b q)).2.1)) rs'_17 S L R LL RL TM (ow2 S a b q) (hI) (hr) (e5)) [11, 12, 13, 2, 3, 4, 5, 6, 7] rfl (by decide) ⟨(va_cnB 3 hts gX1_verdict_X3_run_n80 rfl rfl rfl (hN (.methodLinkNest RX1 80 yX3_run "FallingWords") (by decide +kernel)) (hts (.initialized RX3) (by decide +kernel)) (by decide +kernel) ⟨Nat.le_of_ble_eq_true rfl, Nat.le_of_ble_eq_true rfl⟩), hts (.instanceMethod yX3_run) (by decide +kernel), hts (.selects RX3 yX3_run yX3_run) (by decide +kernel)⟩ (cl_recv (ci := 3) (q := (RX3, TX3, 5)) (q0 := 11) hP hK rfl rfl) rfl rfl (Nat.le_of_ble_eq_true rfl) dX1_verdict_54 ⟨Nat.zero_le _, Nat.zero_le _⟩ (fun wY H locs hwY hJ hS => ?_)
    obtain ⟨WD'_54, RD'_54, rs'_54, e2Y, f1_54, f2_54, f3_54⟩ := hwY
    have e3Y := e2Y.symm
    clear e2Y
    subst e3Y
    obtain ⟨hP, hD⟩ := hJ rfl
    have hP : va_P D vwCl (gOv cA Bo (nI a) (nI b) (nI q) (nI (ovw S a b q)) (nI (nw S (ow1 S a b q))) sn ++ gSa cA B (nI (S 0)) (nI (S 2)) (nI (S 4)) (nI (S 5)) L R LL RL TM (nI (S 1)) WW NN (nI (S 3)) ++ gRd cA Bd WD'_54 RD'_54 (nI ((red S (ow2 S a b q)).1)) (nI ((red S (ow2 S a b q)).2.1)) rs'_54) H := hP
    have hD : va_D AY (gOv cA Bo (nI a) (nI b) (nI q) (nI (ovw S a b q)) (nI (nw S (ow1 S a b q))) sn ++ gSa cA B (nI (S 0)) (nI (S 2)) (nI (S 4)) (nI (S 5)) L R LL RL TM (nI (S 1)) WW NN (nI (S 3)) ++ gRd cA Bd WD'_54 RD'_54 (nI ((red S (ow2 S a b q)).1)) (nI ((red S (ow2 S a b q)).2.1)) rs'_54) := hD
    refine lv_aload_n hx hb dX1_verdict_57 rfl (lv_at hl 2 rfl) ?_
    refine va_getN (D := D) (ci := 3) (v := .int (nI ((red S (ow2 S a b q)).1))) (C := RX3) (T := TX3) (N := 5) hx hb hts hi_X1_verdict_X3 hown hK hP 11 rfl rfl 2 (by decide) (hN.fl (w := .fieldLinkNest RX1 86 "FallingWords$Reduction" "outcome" "I" "FallingWords") (by decide +kernel)) (fun _ h9 => h9) rfl dX1_verdict_58 ?_
    refine x0_eq (tgt := 66) hx hb dX1_verdict_61 (by decide) (by omega) (fun c61 => ?_) (fun c61 => ?_)
    · refine lv_aload_n hx hb dX1_verdict_66 rfl (lv_at hl 0 rfl) ?_
      refine lv_aload_n hx hb dX1_verdict_67 rfl (lv_at hl 2 rfl) ?_
      refine ci_VN (As := []) (rest := [.ref (Bo 0)]) h0 hK hN hP hD hS hA hl.1 (k_X3_last lY D cA Bd WD'_54 RD'_54 (nI ((red S (ow2 S a b q)).1)) rs'_54 ((red S (ow2 S a b q)).2.1) (nw S (ow2 S a b q)) (y1) (f1_54 _ (Nat.le_refl _))) [11, 12, 13] rfl (by decide) ⟨(va_cnB 0 hts gX1_verdict_X3_last_n89 rfl rfl rfl (hN (.methodLinkNest RX1 89 yX3_last "FallingWords") (by decide +kernel)) (hts (.initialized RX3) (by decide +kernel)) (by decide +kernel) ⟨Nat.le_of_ble_eq_true rfl, Nat.le_of_ble_eq_true rfl⟩), hts (.instanceMethod yX3_last) (by decide +kernel), hts (.selects RX3 yX3_last yX3_last) (by decide +kernel)⟩ (cl_recv (ci := 3) (q := (RX3, TX3, 5)) (q0 := 11) hP hK rfl rfl) rfl rfl (Nat.le_of_ble_eq_true rfl) dX1_verdict_68 ⟨Nat.zero_le _, Nat.zero_le _⟩ (fun rY wY H locs hwY hJ hS => ?_)
      obtain ⟨e1Y, e2Y⟩ := hwY
      have e3Y := e1Y.symm
      clear e1Y
      subst e3Y
      have e3Y := e2Y.symm
      clear e2Y
      subst e3Y
      obtain ⟨hP, hD⟩ := hJ rfl
      have hP : va_P D vwCl (gOv cA Bo (nI a) (nI b) (nI q) (nI (ovw S a b q)) (nI (nw S (ow1 S a b q))) sn ++ gSa cA B (nI (S 0)) (nI (S 2)) (nI (S 4)) (nI (S 5)) L R LL RL TM (nI (S 1)) WW NN (nI (S 3)) ++ gRd cA Bd WD'_54 RD'_54 (nI ((red S (ow2 S a b q)).1)) (nI ((red S (ow2 S a b q)).2.1)) rs'_54) H := hP
      have hD : va_D AY (gOv cA Bo (nI a) (nI b) (nI q) (nI (ovw S a b q)) (nI (nw S (ow1 S a b q))) sn ++ gSa cA B (nI (S 0)) (nI (S 2)) (nI (S 4)) (nI (S 5)) L R LL RL TM (nI (S 1)) WW NN (nI (S 3)) ++ gRd cA Bd WD'_54 RD'_54 (nI ((red S (ow2 S a b q)).1)) (nI ((red S (ow2 S a b q)).2.1)) rs'_54) := hD
      refine va_put (D := D) (ci := 1) (v := .int (nI (nw S (ow2 S a b q)))) (ty := .int) (C := RX1) (T := TX1) (N := 6) hx hb hts hi_X1_verdict_X1 tyX1 tyX1_ok nmX1 hown hK hP hD hS 0 rfl rfl 5 (by decide) (hts (.fieldLink RX1 99 "FallingWords$Overlaps" "secondNormal" "I") (by decide +kernel)) (fun _ h9 => h9) rfl (by decide +kernel) rfl rfl (Nat.le_of_ble_eq_true rfl) dX1_verdict_71 (fun H locs hP hD hS => ?_)
      have hP : va_P D vwCl (gOv cA Bo (nI a) (nI b) (nI q) (nI (ovw S a b q)) (nI (nw S (ow1 S a b q))) (nI (nw S (ow2 S a b q))) ++ gSa cA B (nI (S 0)) (nI (S 2)) (nI (S 4)) (nI (S 5)) L R LL RL TM (nI (S 1)) WW NN (nI (S 3)) ++ gRd cA Bd WD'_54 RD'_54 (nI ((red S (ow2 S a b q)).1)) (nI ((red S (ow2 S a b q)).2.1)) rs'_54) H := hP
      have hD : va_D AY (gOv cA Bo (nI a) (nI b) (nI q) (nI (ovw S a b q)) (nI (nw S (ow1 S a b q))) (nI (nw S (ow2 S a b q))) ++ gSa cA B (nI (S 0)) (nI (S 2)) (nI (S 4)) (nI (S 5)) L R LL RL TM (nI (S 1)) WW NN (nI (S 3)) ++ gRd cA Bd WD'_54 RD'_54 (nI ((red S (ow2 S a b q)).1)) (nI ((red S (ow2 S a b q)).2.1)) rs'_54) := hD
      refine lv_aload_n hx hb dX1_verdict_74 rfl (lv_at hl 0 rfl) ?_
      refine va_get (D := D) (ci := 1) (v := .int (nI (nw S (ow1 S a b q)))) (C := RX1) (T := TX1) (N := 6) hx hb hts hi_X1_verdict_X1 hown hK hP 0 rfl rfl 4 (by decide) (hts (.fieldLink RX1 93 "FallingWords$Overlaps" "firstNormal" "I") (by decide +kernel)) (fun _ h9 => h9) rfl dX1_verdict_75 ?_
      have hBz2 : nw S (ow1 S a b q) < 134217728 := hBz
      have hBy2 : nw S (ow2 S a b q) < 134217728 := hBy
      refine lv_aload_n hx hb dX1_verdict_78 rfl (lv_at hl 0 rfl) ?_
      refine va_get (D := D) (ci := 1) (v := .int (nI (nw S (ow2 S a b q)))) (C := RX1) (T := TX1) (N := 6) hx hb hts hi_X1_verdict_X1 hown hK hP 0 rfl rfl 5 (by decide) (hts (.fieldLink RX1 99 "FallingWords$Overlaps" "secondNormal" "I") (by decide +kernel)) (fun _ h9 => h9) rfl dX1_verdict_79 ?_
      refine xc_ne (tgt := 89) hx hb dX1_verdict_82 (by decide) (by omega) (by omega) (fun c82 => ?_) (fun c82 => ?_)
      · refine lv_iconst (v := nI 1) hx hb dX1_verdict_89 (by decide +kernel) ?_
        have hp2 := par_1 c24 c61 c82
        exact hret _ _ _ _ _ _ dX1_verdict_90 ⟨(nI (nw S (ow1 S a b q))), (nI (nw S (ow2 S a b q))), WD'_54, RD'_54, (nI ((red S (ow2 S a b q)).1)), (nI ((red S (ow2 S a b q)).2.1)), rs'_54, by rw [hp2], rfl, fun _ => ⟨rfl, rfl⟩⟩ hP hD hS
      · refine lv_iconst (v := nI 0) hx hb dX1_verdict_85 (by decide +kernel) ?_
        refine lv_goto (tgt := 90) hx hb dX1_verdict_86 (by decide) ?_
        have hp2 := par_0 c24 c61 c82
        exact hret _ _ _ _ _ _ dX1_verdict_90 ⟨(nI (nw S (ow1 S a b q))), (nI (nw S (ow2 S a b q))), WD'_54, RD'_54, (nI ((red S (ow2 S a b q)).1)), (nI ((red S (ow2 S a b q)).2.1)), rs'_54, by rw [hp2], rfl, fun _ => ⟨rfl, rfl⟩⟩ hP hD hS
    · refine lv_iconst (v := nI 2) hx hb dX1_verdict_64 (by decide +kernel) ?_
      have hp2 := par_2b (u := ow1 S a b q) c61
      exact hret _ _ _ _ _ _ dX1_verdict_65 ⟨(nI (nw S (ow1 S a b q))), sn, WD'_54, RD'_54, (nI ((red S (ow2 S a b q)).1)), (nI ((red S (ow2 S a b q)).2.1)), rs'_54, by rw [hp2], rfl, fun h => by omega⟩ hP hD hS
  · refine lv_iconst (v := nI 2) hx hb dX1_verdict_27 (by decide +kernel) ?_
    have hp2 := par_2a (v := ow2 S a b q) c24
    exact hret _ _ _ _ _ _ dX1_verdict_28 ⟨fn, sn, WD'_17, RD'_17, (nI ((red S (ow1 S a b q)).1)), (nI ((red S (ow1 S a b q)).2.1)), rs'_17, by rw [hp2], rfl, fun h => by omega⟩ hP hD hS

set_option maxHeartbeats 1000000 in
set_option maxRecDepth 100000 in
theorem k_X1_find (lY : Launch) (D : va_G) (cA : Nat → ClassId) (Bo B : Nat → Nat) (fi se pl wd1 fn sn : Int32) (S : St) (L R LL RL TM : Nat → Int32) (x : Int32) (hI : IR S) (hr : rRu S L R LL RL TM) : MetI lY D cA yX1_find wsX1_find 3 70 [.ref (Bo 0), .ref (B 0), .int x] (gOv cA Bo fi se pl wd1 fn sn ++ gRu cA B L R LL RL TM (nI (S 1))) (fun rY wY => ∃ (fi2 : Int32) (se2 : Int32) (pl2 : Int32) (wd2 : Int32), rY = bI (fndB S x) ∧ wY = gOv cA Bo fi2 se2 pl2 wd2 fn sn ++ gRu cA B L R LL RL TM (nI (S 1)) ∧ (fndB S x = true → kth S x.toInt.toNat < 400 ∧ ovk S (kth S x.toInt.toNat) = true ∧ fi2 = nI (kA (kth S x.toInt.toNat)) ∧ se2 = nI (kB (kth S x.toInt.toNat)) ∧ pl2 = nI (kQ (kth S x.toInt.toNat)) ∧ wd2 = nI (ovw S (kA (kth S x.toInt.toNat)) (kB (kth S x.toInt.toNat)) (kQ (kth S x.toInt.toNat))))) := by
  refine MetI.of (cc := cX1_find) (maxL := 5) (ret := (some .boolean)) (by decide) rfl (Nat.le_of_ble_eq_true rfl) (Or.inr ⟨rfl, fun r w' h => by obtain ⟨_, _, _, _, h, -⟩ := h; rw [h]; exact bI_nar _⟩) ?_
  intro pY eY sY mY aY bY tY cY QY AY ls h0 hP hK hN hD hA hS hl hret
  obtain ⟨hx, hb, hml, hown, hts⟩ := id h0
  have hl : lv_has ls 5 [(0, .ref (Bo 0)), (1, .ref (B 0)), (2, .int x)] := hl
  have hP : va_P D vwCl (gOv cA Bo fi se pl wd1 fn sn ++ gRu cA B L R LL RL TM (nI (S 1))) sY.heap := hP
  have hD : va_D AY (gOv cA Bo fi se pl wd1 fn sn ++ gRu cA B L R LL RL TM (nI (S 1))) := hD
  refine lv_iconst (v := nI 0) hx hb dX1_find_0 (by decide +kernel) ?_
  refine lv_istore_n (lv' := [(3, .int (nI 0)), (0, .ref (Bo 0)), (1, .ref (B 0)), (2, .int x)]) hx hb dX1_find_1 rfl hl (by decide) rfl (fun ls hl => ?_)
  refine lv_iconst (v := nI 0) hx hb dX1_find_2 (by decide +kernel) ?_
  refine lv_istore (lv' := [(4, .int (nI 0)), (3, .int (nI 0)), (0, .ref (Bo 0)), (1, .ref (B 0)), (2, .int x)]) hx hb dX1_find_3 hl (by decide) rfl (fun ls hl => ?_)
  have L5 : ∀ (nY : Nat), ∀ (k : Nat) (c : Nat) (fi' : Int32) (se' : Int32) (pl' : Int32) (wd' : Int32), (k ≤ 400) → (c = cn (ovk S) k) → (x.toInt < 0 ∨ (c : Int) ≤ x.toInt) → (400 - k < nY) → ∀ (H : Heap) (locs : List Loc) (ls : Array Slot), va_P D vwCl (gOv cA Bo fi' se' pl' wd' fn sn ++ gRu cA B L R LL RL TM (nI (S 1))) H → va_D AY (gOv cA Bo fi' se' pl' wd' fn sn ++ gRu cA B L R LL RL TM (nI (S 1))) → va_S AY sY.heap H locs → lv_has ls 5 [(0, .ref (Bo 0)), (1, .ref (B 0)), (2, .int x), (3, .int (nI c)), (4, .int (nI k))] → W pY lY eY { frames := 3, cells := 0, slots := 0, locals := 70 } sY mY aY bY tY cY H locs 0 0 QY (F0 mY 5 ls []) := by
    intro nY5
    induction nY5 with
    | zero => intro k c fi' se' pl' wd' hk hc hno hm5; exact absurd hm5 (Nat.not_lt_zero _)
    | succ nY5 ih5 =>
      intro k c fi' se' pl' wd' hk hc hno hm5 H locs ls hP hD hS hl
      have hcl := cn_le (ovk S) k
      refine lv_iload hx hb dX1_find_5 (lv_at hl 4 rfl) ?_
      refine lv_sipush (v := nI 400) hx hb dX1_find_7 (by decide +kernel) ?_
      refine xc_ge (tgt := 39) hx hb dX1_find_10 (by decide) (by omega) (by omega) (fun c10 => ?_) (fun c10 => ?_)
      · refine lv_iconst (v := nI 0) hx hb dX1_find_39 (by decide +kernel) ?_
        have hk4 : k = 400 := by omega
        subst hk4
        have hz : fndB S x = false := by unfold fndB cntO; rw [sl_eq, sl_eq]; exact decide_eq_false (by omega)
        exact hret _ _ _ _ _ _ dX1_find_40 ⟨_, _, _, _, by rw [hz]; rfl, rfl, fun h => by rw [hz] at h; cases h⟩ hP hD hS
      · refine lv_aload_n hx hb dX1_find_13 rfl (lv_at hl 0 rfl) ?_
        refine lv_aload_n hx hb dX1_find_14 rfl (lv_at hl 1 rfl) ?_
        refine lv_iload hx hb dX1_find_15 (lv_at hl 4 rfl) ?_
        refine ci_V (As := [.ref (B 0), .int (nI k)]) (rest := []) h0 hK hN hP hD hS hA hl.1 (k_X1_isOverlap lY D cA Bo B fi' se' pl' wd' fn sn S L R LL RL TM k (hI) (hr) (by omega)) [0, 1, 2, 3, 4, 5, 6] rfl (by decide) (cwV 2 hts gX1_find_X1_isOverlap rfl rfl rfl (by decide +kernel) ⟨Nat.le_of_ble_eq_true rfl, Nat.le_of_ble_eq_true rfl⟩) (cl_recv (ci := 1) (q := (RX1, TX1, 6)) (q0 := 0) hP hK rfl rfl) rfl rfl (Nat.le_of_ble_eq_true rfl) dX1_find_17 ⟨Nat.zero_le _, Nat.zero_le _⟩ (fun rY wY H locs hwY hJ hS => ?_)
        obtain ⟨wd2_17, e1Y, e2Y, fw_17⟩ := hwY
        have e3Y := e1Y.symm
        clear e1Y
        subst e3Y
        have e3Y := e2Y.symm
        clear e2Y
        subst e3Y
        obtain ⟨hP, hD⟩ := hJ rfl
        have hP : va_P D vwCl (gOv cA Bo (nI (kA k)) (nI (kB k)) (nI (kQ k)) wd2_17 fn sn ++ gRu cA B L R LL RL TM (nI (S 1))) H := hP
        have hD : va_D AY (gOv cA Bo (nI (kA k)) (nI (kB k)) (nI (kQ k)) wd2_17 fn sn ++ gRu cA B L R LL RL TM (nI (S 1))) := hD
        refine xb_eq (tgt := 33) hx hb dX1_find_20 (by decide) (fun c20 => ?_) (fun c20 => ?_)
        · refine lv_iinc (v := nI (k + 1)) (lv' := [(4, .int (nI (k + 1))), (0, .ref (Bo 0)), (1, .ref (B 0)), (2, .int x), (3, .int (nI c))]) hx hb dX1_find_33 hl (k := 4) rfl (show nI k + Int32.ofInt 1 = nI (k + 1) from nI_add k 1) (by decide) rfl (fun ls hl => ?_)
          refine lv_goto (tgt := 5) hx hb dX1_find_36 (by decide) ?_
          exact ih5 (k + 1) c (nI (kA k)) (nI (kB k)) (nI (kQ k)) wd2_17 (by omega) (hc.trans (cn_f c20).symm) (by omega) (by omega) _ _ _ hP hD hS (lv_sub hl [1, 2, 3, 4, 0] rfl)
        · have ec : (nI c).toInt = (c : Int) := nI_toInt (by omega)
          refine lv_iload_n hx hb dX1_find_23 rfl (lv_at hl 3 rfl) ?_
          refine lv_iload_n hx hb dX1_find_24 rfl (lv_at hl 2 rfl) ?_
          refine xr_ne (tgt := 30) hx hb dX1_find_25 (by decide) (fun c25 => ?_) (fun c25 => ?_)
          · refine lv_iinc (v := nI (c + 1)) (lv' := [(3, .int (nI (c + 1))), (0, .ref (Bo 0)), (1, .ref (B 0)), (2, .int x), (4, .int (nI k))]) hx hb dX1_find_30 hl (k := 3) rfl (show nI c + Int32.ofInt 1 = nI (c + 1) from nI_add c 1) (by decide) rfl (fun ls hl => ?_)
            refine lv_iinc (v := nI (k + 1)) (lv' := [(4, .int (nI (k + 1))), (3, .int (nI (c + 1))), (0, .ref (Bo 0)), (1, .ref (B 0)), (2, .int x)]) hx hb dX1_find_33 hl (k := 4) rfl (show nI k + Int32.ofInt 1 = nI (k + 1) from nI_add k 1) (by decide) rfl (fun ls hl => ?_)
            refine lv_goto (tgt := 5) hx hb dX1_find_36 (by decide) ?_
            exact ih5 (k + 1) (c + 1) (nI (kA k)) (nI (kB k)) (nI (kQ k)) wd2_17 (by omega) ((congrArg (· + 1) hc).trans (cn_t c20).symm) (by omega) (by omega) _ _ _ hP hD hS (lv_sub hl [2, 3, 4, 1, 0] rfl)
          · refine lv_iconst (v := nI 1) hx hb dX1_find_28 (by decide +kernel) ?_
            have hxc : x.toInt = (c : Int) := by omega
            obtain ⟨t1, t2⟩ := kth_is (by omega) c20 hc.symm
            have hxn : x.toInt.toNat = c := by omega
            have hz : fndB S x = true := by unfold fndB; rw [sl_eq]; exact decide_eq_true (by omega)
            exact hret _ _ _ _ _ _ dX1_find_29 ⟨_, _, _, _, by rw [hz]; rfl, rfl, fun _ => by rw [hxn, t1]; exact ⟨by omega, c20, rfl, rfl, rfl, fw_17 c20⟩⟩ hP hD hS
  exact L5 _ 0 0 fi se pl wd1 (by omega) (rfl) (by have e : (0 : Int) = ((0 : Nat) : Int) := rfl; omega) (Nat.lt_succ_self _) _ _ _ hP hD hS (lv_sub hl [2, 3, 4, 1, 0] rfl)

set_option maxHeartbeats 1000000 in
set_option maxRecDepth 100000 in
theorem k_X1_howMany (lY : Launch) (D : va_G) (cA : Nat → ClassId) (Bo B : Nat → Nat) (fi se pl wd1 fn sn : Int32) (S : St) (L R LL RL TM : Nat → Int32) (hI : IR S) (hr : rRu S L R LL RL TM) : MetI lY D cA yX1_howMany wsX1_howMany 3 70 [.ref (Bo 0), .ref (B 0)] (gOv cA Bo fi se pl wd1 fn sn ++ gRu cA B L R LL RL TM (nI (S 1))) (fun rY wY => ∃ (fi2 : Int32) (se2 : Int32) (pl2 : Int32) (wd2 : Int32), rY = nI (cntO S) ∧ wY = gOv cA Bo fi2 se2 pl2 wd2 fn sn ++ gRu cA B L R LL RL TM (nI (S 1))) := by
  refine MetI.of (cc := cX1_howMany) (maxL := 4) (ret := (some .int)) (by decide) rfl (Nat.le_of_ble_eq_true rfl) (Or.inl rfl) ?_
  intro pY eY sY mY aY bY tY cY QY AY ls h0 hP hK hN hD hA hS hl hret
  obtain ⟨hx, hb, hml, hown, hts⟩ := id h0
  have hl : lv_has ls 4 [(0, .ref (Bo 0)), (1, .ref (B 0))] := hl
  have hP : va_P D vwCl (gOv cA Bo fi se pl wd1 fn sn ++ gRu cA B L R LL RL TM (nI (S 1))) sY.heap := hP
  have hD : va_D AY (gOv cA Bo fi se pl wd1 fn sn ++ gRu cA B L R LL RL TM (nI (S 1))) := hD
  refine lv_iconst (v := nI 0) hx hb dX1_howMany_0 (by decide +kernel) ?_
  refine lv_istore_n (lv' := [(2, .int (nI 0)), (0, .ref (Bo 0)), (1, .ref (B 0))]) hx hb dX1_howMany_1 rfl hl (by decide) rfl (fun ls hl => ?_)
  refine lv_iconst (v := nI 0) hx hb dX1_howMany_2 (by decide +kernel) ?_
  refine lv_istore_n (lv' := [(3, .int (nI 0)), (2, .int (nI 0)), (0, .ref (Bo 0)), (1, .ref (B 0))]) hx hb dX1_howMany_3 rfl hl (by decide) rfl (fun ls hl => ?_)
  have L4 : ∀ (nY : Nat), ∀ (k : Nat) (c : Nat) (fi' : Int32) (se' : Int32) (pl' : Int32) (wd' : Int32), (k ≤ 400) → (c = cn (ovk S) k) → (400 - k < nY) → ∀ (H : Heap) (locs : List Loc) (ls : Array Slot), va_P D vwCl (gOv cA Bo fi' se' pl' wd' fn sn ++ gRu cA B L R LL RL TM (nI (S 1))) H → va_D AY (gOv cA Bo fi' se' pl' wd' fn sn ++ gRu cA B L R LL RL TM (nI (S 1))) → va_S AY sY.heap H locs → lv_has ls 4 [(0, .ref (Bo 0)), (1, .ref (B 0)), (2, .int (nI c)), (3, .int (nI k))] → W pY lY eY { frames := 3, cells := 0, slots := 0, locals := 70 } sY mY aY bY tY cY H locs 0 0 QY (F0 mY 4 ls []) := by
    intro nY4
    induction nY4 with
    | zero => intro k c fi' se' pl' wd' hk hc hm4; exact absurd hm4 (Nat.not_lt_zero _)
    | succ nY4 ih4 =>
      intro k c fi' se' pl' wd' hk hc hm4 H locs ls hP hD hS hl
      refine lv_iload_n hx hb dX1_howMany_4 rfl (lv_at hl 3 rfl) ?_
      refine lv_sipush (v := nI 400) hx hb dX1_howMany_5 (by decide +kernel) ?_
      refine xc_ge (tgt := 29) hx hb dX1_howMany_8 (by decide) (by omega) (by omega) (fun c8 => ?_) (fun c8 => ?_)
      · refine lv_iload_n hx hb dX1_howMany_29 rfl (lv_at hl 2 rfl) ?_
        exact hret _ _ _ _ _ _ dX1_howMany_30 ⟨_, _, _, _, congrArg nI (by unfold cntO; rw [sl_eq, hc, show k = 400 by omega]), rfl⟩ hP hD hS
      · refine lv_aload_n hx hb dX1_howMany_11 rfl (lv_at hl 0 rfl) ?_
        refine lv_aload_n hx hb dX1_howMany_12 rfl (lv_at hl 1 rfl) ?_
        refine lv_iload_n hx hb dX1_howMany_13 rfl (lv_at hl 3 rfl) ?_
        refine ci_V (As := [.ref (B 0), .int (nI k)]) (rest := []) h0 hK hN hP hD hS hA hl.1 (k_X1_isOverlap lY D cA Bo B fi' se' pl' wd' fn sn S L R LL RL TM k (hI) (hr) (by omega)) [0, 1, 2, 3, 4, 5, 6] rfl (by decide) (cwV 2 hts gX1_howMany_X1_isOverlap rfl rfl rfl (by decide +kernel) ⟨Nat.le_of_ble_eq_true rfl, Nat.le_of_ble_eq_true rfl⟩) (cl_recv (ci := 1) (q := (RX1, TX1, 6)) (q0 := 0) hP hK rfl rfl) rfl rfl (Nat.le_of_ble_eq_true rfl) dX1_howMany_14 ⟨Nat.zero_le _, Nat.zero_le _⟩ (fun rY wY H locs hwY hJ hS => ?_)
        obtain ⟨wd2_14, e1Y, e2Y, fw_14⟩ := hwY
        have e3Y := e1Y.symm
        clear e1Y
        subst e3Y
        have e3Y := e2Y.symm
        clear e2Y
        subst e3Y
        obtain ⟨hP, hD⟩ := hJ rfl
        have hP : va_P D vwCl (gOv cA Bo (nI (kA k)) (nI (kB k)) (nI (kQ k)) wd2_14 fn sn ++ gRu cA B L R LL RL TM (nI (S 1))) H := hP
        have hD : va_D AY (gOv cA Bo (nI (kA k)) (nI (kB k)) (nI (kQ k)) wd2_14 fn sn ++ gRu cA B L R LL RL TM (nI (S 1))) := hD
        refine xb_eq (tgt := 23) hx hb dX1_howMany_17 (by decide) (fun c17 => ?_) (fun c17 => ?_)
        · refine lv_iinc (v := nI (k + 1)) (lv' := [(3, .int (nI (k + 1))), (0, .ref (Bo 0)), (1, .ref (B 0)), (2, .int (nI c))]) hx hb dX1_howMany_23 hl (k := 3) rfl (show nI k + Int32.ofInt 1 = nI (k + 1) from nI_add k 1) (by decide) rfl (fun ls hl => ?_)
          refine lv_goto (tgt := 4) hx hb dX1_howMany_26 (by decide) ?_
          exact ih4 (k + 1) c (nI (kA k)) (nI (kB k)) (nI (kQ k)) wd2_14 (by omega) (hc.trans (cn_f c17).symm) (by omega) _ _ _ hP hD hS (lv_sub hl [1, 2, 3, 0] rfl)
        · refine lv_iinc (v := nI (c + 1)) (lv' := [(2, .int (nI (c + 1))), (0, .ref (Bo 0)), (1, .ref (B 0)), (3, .int (nI k))]) hx hb dX1_howMany_20 hl (k := 2) rfl (show nI c + Int32.ofInt 1 = nI (c + 1) from nI_add c 1) (by decide) rfl (fun ls hl => ?_)
          refine lv_iinc (v := nI (k + 1)) (lv' := [(3, .int (nI (k + 1))), (2, .int (nI (c + 1))), (0, .ref (Bo 0)), (1, .ref (B 0))]) hx hb dX1_howMany_23 hl (k := 3) rfl (show nI k + Int32.ofInt 1 = nI (k + 1) from nI_add k 1) (by decide) rfl (fun ls hl => ?_)
          refine lv_goto (tgt := 4) hx hb dX1_howMany_26 (by decide) ?_
          exact ih4 (k + 1) (c + 1) (nI (kA k)) (nI (kB k)) (nI (kQ k)) wd2_14 (by omega) ((congrArg (· + 1) hc).trans (cn_t c17).symm) (by omega) _ _ _ hP hD hS (lv_sub hl [2, 3, 1, 0] rfl)
  exact L4 _ 0 0 fi se pl wd1 (by omega) (rfl) (Nat.lt_succ_self _) _ _ _ hP hD hS (lv_sub hl [2, 3, 1, 0] rfl)

theorem hi_X1_howManyAre_X6 : ∀ w ∈ u_ws RX6 TX6 6, w ∈ wsX1_howManyAre := by decide +kernel
set_option maxHeartbeats 1000000 in
set_option maxRecDepth 100000 in
theorem k_X1_howManyAre (lY : Launch) (D : va_G) (cA : Nat → ClassId) (Bo B Bd : Nat → Nat) (fi se pl wd1 fn sn : Int32) (S : St) (L R LL RL TM WW NN : Nat → Int32) (WD RD : Nat → Int32) (oc ns rs : Int32) (v : Nat) (hI : IR S) (hr : rRu S L R LL RL TM) (hv : v < 2147483648) : MetI lY D cA yX1_howManyAre wsX1_howManyAre 4 104 [.ref (Bo 0), .int (nI v), .ref (B 0), .ref (Bd 0)] (gOv cA Bo fi se pl wd1 fn sn ++ gSa cA B (nI (S 0)) (nI (S 2)) (nI (S 4)) (nI (S 5)) L R LL RL TM (nI (S 1)) WW NN (nI (S 3)) ++ gRd cA Bd WD RD oc ns rs) (fun rY wY => ∃ (fi2 : Int32) (se2 : Int32) (pl2 : Int32) (wd2 : Int32) (fn2 : Int32) (sn2 : Int32) (WD' : Nat → Int32) (RD' : Nat → Int32) (oc' : Int32) (ns' : Int32) (rs' : Int32), rY = nI (cntV S v) ∧ wY = gOv cA Bo fi2 se2 pl2 wd2 fn2 sn2 ++ gSa cA B (nI (S 0)) (nI (S 2)) (nI (S 4)) (nI (S 5)) L R LL RL TM (nI (S 1)) WW NN (nI (S 3)) ++ gRd cA Bd WD' RD' oc' ns' rs') := by
  refine MetI.of (cc := cX1_howManyAre) (maxL := 6) (ret := (some .int)) (by decide) rfl (Nat.le_of_ble_eq_true rfl) (Or.inl rfl) ?_
  intro pY eY sY mY aY bY tY cY QY AY ls h0 hP hK hN hD hA hS hl hret
  obtain ⟨hx, hb, hml, hown, hts⟩ := id h0
  have hl : lv_has ls 6 [(0, .ref (Bo 0)), (1, .int (nI v)), (2, .ref (B 0)), (3, .ref (Bd 0))] := hl
  have hP : va_P D vwCl (gOv cA Bo fi se pl wd1 fn sn ++ gSa cA B (nI (S 0)) (nI (S 2)) (nI (S 4)) (nI (S 5)) L R LL RL TM (nI (S 1)) WW NN (nI (S 3)) ++ gRd cA Bd WD RD oc ns rs) sY.heap := hP
  have hD : va_D AY (gOv cA Bo fi se pl wd1 fn sn ++ gSa cA B (nI (S 0)) (nI (S 2)) (nI (S 4)) (nI (S 5)) L R LL RL TM (nI (S 1)) WW NN (nI (S 3)) ++ gRd cA Bd WD RD oc ns rs) := hD
  refine lv_iconst (v := nI 0) hx hb dX1_howManyAre_0 (by decide +kernel) ?_
  refine lv_istore (lv' := [(4, .int (nI 0)), (0, .ref (Bo 0)), (1, .int (nI v)), (2, .ref (B 0)), (3, .ref (Bd 0))]) hx hb dX1_howManyAre_1 hl (by decide) rfl (fun ls hl => ?_)
  refine lv_iconst (v := nI 0) hx hb dX1_howManyAre_3 (by decide +kernel) ?_
  refine lv_istore (lv' := [(5, .int (nI 0)), (4, .int (nI 0)), (0, .ref (Bo 0)), (1, .int (nI v)), (2, .ref (B 0)), (3, .ref (Bd 0))]) hx hb dX1_howManyAre_4 hl (by decide) rfl (fun ls hl => ?_)
  have L6 : ∀ (nY : Nat), ∀ (k : Nat) (c : Nat) (fi' : Int32) (se' : Int32) (pl' : Int32) (wd' : Int32) (fn' : Int32) (sn' : Int32) (WD1 : Nat → Int32) (RD1 : Nat → Int32) (oc1 : Int32) (ns1 : Int32) (rs1 : Int32), (k ≤ 400) → (c = cn (fun k => ovk S k && decide (prk S k = v)) k) → (400 - k < nY) → ∀ (H : Heap) (locs : List Loc) (ls : Array Slot), va_P D vwCl (gOv cA Bo fi' se' pl' wd' fn' sn' ++ gSa cA B (nI (S 0)) (nI (S 2)) (nI (S 4)) (nI (S 5)) L R LL RL TM (nI (S 1)) WW NN (nI (S 3)) ++ gRd cA Bd WD1 RD1 oc1 ns1 rs1) H → va_D AY (gOv cA Bo fi' se' pl' wd' fn' sn' ++ gSa cA B (nI (S 0)) (nI (S 2)) (nI (S 4)) (nI (S 5)) L R LL RL TM (nI (S 1)) WW NN (nI (S 3)) ++ gRd cA Bd WD1 RD1 oc1 ns1 rs1) → va_S AY sY.heap H locs → lv_has ls 6 [(0, .ref (Bo 0)), (1, .int (nI v)), (2, .ref (B 0)), (3, .ref (Bd 0)), (4, .int (nI c)), (5, .int (nI k))] → W pY lY eY { frames := 4, cells := 0, slots := 0, locals := 104 } sY mY aY bY tY cY H locs 0 0 QY (F0 mY 6 ls []) := by
    intro nY6
    induction nY6 with
    | zero => intro k c fi' se' pl' wd' fn' sn' WD1 RD1 oc1 ns1 rs1 hk hc hm6; exact absurd hm6 (Nat.not_lt_zero _)
    | succ nY6 ih6 =>
      intro k c fi' se' pl' wd' fn' sn' WD1 RD1 oc1 ns1 rs1 hk hc hm6 H locs ls hP hD hS hl
      refine lv_iload hx hb dX1_howManyAre_6 (lv_at hl 5 rfl) ?_
      refine lv_sipush (v := nI 400) hx hb dX1_howManyAre_8 (by decide +kernel) ?_
      refine xc_ge (tgt := 46) hx hb dX1_howManyAre_11 (by decide) (by omega) (by omega) (fun c11 => ?_) (fun c11 => ?_)
      · refine lv_iload hx hb dX1_howManyAre_46 (lv_at hl 4 rfl) ?_
        exact hret _ _ _ _ _ _ dX1_howManyAre_48 ⟨_, _, _, _, _, _, _, _, _, _, _, congrArg nI (by unfold cntV; rw [sl_eq, hc, show k = 400 by omega]), rfl⟩ hP hD hS
      · refine lv_aload_n hx hb dX1_howManyAre_14 rfl (lv_at hl 0 rfl) ?_
        refine lv_aload_n hx hb dX1_howManyAre_15 rfl (lv_at hl 2 rfl) ?_
        refine va_getN (D := D) (ci := 6) (v := .ref (B 1)) (C := RX6) (T := TX6) (N := 6) hx hb hts hi_X1_howManyAre_X6 hown hK hP 1 rfl rfl 0 (by decide) (hN.fl (w := .fieldLinkNest RX1 15 "FallingWords$State" "rules" "LFallingWords$Rules;" "FallingWords") (by decide +kernel)) (fun _ h9 => h9) rfl dX1_howManyAre_16 ?_
        refine lv_iload hx hb dX1_howManyAre_19 (lv_at hl 5 rfl) ?_
        refine ci_V (As := [.ref (B 1), .int (nI k)]) (rest := []) h0 hK hN hP hD hS hA hl.1 (k_X1_isOverlap lY D cA Bo (fun i => B (i + 1)) fi' se' pl' wd' fn' sn' S L R LL RL TM k (hI) (hr) (by omega)) [0, 2, 3, 4, 5, 6, 7] rfl (by decide) (cwV 2 hts gX1_howManyAre_X1_isOverlap rfl rfl rfl (by decide +kernel) ⟨Nat.le_of_ble_eq_true rfl, Nat.le_of_ble_eq_true rfl⟩) (cl_recv (ci := 1) (q := (RX1, TX1, 6)) (q0 := 0) hP hK rfl rfl) rfl rfl (Nat.le_of_ble_eq_true rfl) dX1_howManyAre_21 ⟨Nat.zero_le _, Nat.zero_le _⟩ (fun rY wY H locs hwY hJ hS => ?_)
        obtain ⟨wd2_21, e1Y, e2Y, fw_21⟩ := hwY
        have e3Y := e1Y.symm
        clear e1Y
        subst e3Y
        have e3Y := e2Y.symm
        clear e2Y
        subst e3Y
        obtain ⟨hP, hD⟩ := hJ rfl
        have hP : va_P D vwCl (gOv cA Bo (nI (kA k)) (nI (kB k)) (nI (kQ k)) wd2_21 fn' sn' ++ gSa cA B (nI (S 0)) (nI (S 2)) (nI (S 4)) (nI (S 5)) L R LL RL TM (nI (S 1)) WW NN (nI (S 3)) ++ gRd cA Bd WD1 RD1 oc1 ns1 rs1) H := hP
        have hD : va_D AY (gOv cA Bo (nI (kA k)) (nI (kB k)) (nI (kQ k)) wd2_21 fn' sn' ++ gSa cA B (nI (S 0)) (nI (S 2)) (nI (S 4)) (nI (S 5)) L R LL RL TM (nI (S 1)) WW NN (nI (S 3)) ++ gRd cA Bd WD1 RD1 oc1 ns1 rs1) := hD
        have kb2 := kb k (by omega)
        refine xb_eq (tgt := 40) hx hb dX1_howManyAre_24 (by decide) (fun c24 => ?_) (fun c24 => ?_)
        · refine lv_iinc (v := nI (k + 1)) (lv' := [(5, .int (nI (k + 1))), (0, .ref (Bo 0)), (1, .int (nI v)), (2, .ref (B 0)), (3, .ref (Bd 0)), (4, .int (nI c))]) hx hb dX1_howManyAre_40 hl (k := 5) rfl (show nI k + Int32.ofInt 1 = nI (k + 1) from nI_add k 1) (by decide) rfl (fun ls hl => ?_)
          refine lv_goto (tgt := 6) hx hb dX1_howManyAre_43 (by decide) ?_
          exact ih6 (k + 1) c (nI (kA k)) (nI (kB k)) (nI (kQ k)) wd2_21 fn' sn' WD1 RD1 oc1 ns1 rs1 (by omega) (hc.trans (cn_f (by rw [c24]; rfl)).symm) (by omega) _ _ _ hP hD hS (lv_sub hl [1, 2, 3, 4, 5, 0] rfl)
        · obtain ⟨hAB, hO1⟩ := Bool.and_eq_true _ _ |>.mp c24
          obtain ⟨hA0, hB0⟩ := Bool.and_eq_true _ _ |>.mp hAB
          have hA1 := of_decide_eq_true hA0
          have hB1 := of_decide_eq_true hB0
          rw [fw_21 c24] at hP hD
          have hP : va_P D vwCl (gOv cA Bo (nI (kA k)) (nI (kB k)) (nI (kQ k)) (nI (ovw S (kA k) (kB k) (kQ k))) fn' sn' ++ gSa cA B (nI (S 0)) (nI (S 2)) (nI (S 4)) (nI (S 5)) L R LL RL TM (nI (S 1)) WW NN (nI (S 3)) ++ gRd cA Bd WD1 RD1 oc1 ns1 rs1) H := hP
          have hD : va_D AY (gOv cA Bo (nI (kA k)) (nI (kB k)) (nI (kQ k)) (nI (ovw S (kA k) (kB k) (kQ k))) fn' sn' ++ gSa cA B (nI (S 0)) (nI (S 2)) (nI (S 4)) (nI (S 5)) L R LL RL TM (nI (S 1)) WW NN (nI (S 3)) ++ gRd cA Bd WD1 RD1 oc1 ns1 rs1) := hD
          refine lv_aload_n hx hb dX1_howManyAre_27 rfl (lv_at hl 0 rfl) ?_
          refine lv_aload_n hx hb dX1_howManyAre_28 rfl (lv_at hl 2 rfl) ?_
          refine lv_aload_n hx hb dX1_howManyAre_29 rfl (lv_at hl 3 rfl) ?_
          refine ci_V (As := [.ref (B 0), .ref (Bd 0)]) (rest := []) h0 hK hN hP hD hS hA hl.1 (k_X1_verdict lY D cA Bo B Bd fn' sn' S L R LL RL TM WW NN WD1 RD1 oc1 ns1 rs1 (kA k) (kB k) (kQ k) (hI) (hr) (hA1) (hB1) (kb2.2.2) (hO1)) [0, 1, 2, 3, 4, 5, 6, 7, 8, 9, 10, 11, 12, 13] rfl (by decide) (cwV 2 hts gX1_howManyAre_X1_verdict rfl rfl rfl (by decide +kernel) ⟨Nat.le_of_ble_eq_true rfl, Nat.le_of_ble_eq_true rfl⟩) (cl_recv (ci := 1) (q := (RX1, TX1, 6)) (q0 := 0) hP hK rfl rfl) rfl rfl (Nat.le_of_ble_eq_true rfl) dX1_howManyAre_30 ⟨Nat.zero_le _, Nat.zero_le _⟩ (fun rY wY H locs hwY hJ hS => ?_)
          obtain ⟨fn2_30, sn2_30, WD'_30, RD'_30, oc'_30, ns'_30, rs'_30, e1Y, e2Y, ff2_30⟩ := hwY
          have e3Y := e1Y.symm
          clear e1Y
          subst e3Y
          have e3Y := e2Y.symm
          clear e2Y
          subst e3Y
          obtain ⟨hP, hD⟩ := hJ rfl
          have hP : va_P D vwCl (gOv cA Bo (nI (kA k)) (nI (kB k)) (nI (kQ k)) (nI (ovw S (kA k) (kB k) (kQ k))) fn2_30 sn2_30 ++ gSa cA B (nI (S 0)) (nI (S 2)) (nI (S 4)) (nI (S 5)) L R LL RL TM (nI (S 1)) WW NN (nI (S 3)) ++ gRd cA Bd WD'_30 RD'_30 oc'_30 ns'_30 rs'_30) H := hP
          have hD : va_D AY (gOv cA Bo (nI (kA k)) (nI (kB k)) (nI (kQ k)) (nI (ovw S (kA k) (kB k) (kQ k))) fn2_30 sn2_30 ++ gSa cA B (nI (S 0)) (nI (S 2)) (nI (S 4)) (nI (S 5)) L R LL RL TM (nI (S 1)) WW NN (nI (S 3)) ++ gRd cA Bd WD'_30 RD'_30 oc'_30 ns'_30 rs'_30) := hD
          refine xt (show nI (par S (ow1 S (kA k) (kB k) (kQ k)) (ow2 S (kA k) (kB k) (kQ k))) = nI (prk S k) from rfl) ?_
          have hple : prk S k ≤ 2 := par_le
          refine lv_iload_n hx hb dX1_howManyAre_33 rfl (lv_at hl 1 rfl) ?_
          refine xc_ne (tgt := 40) hx hb dX1_howManyAre_34 (by decide) (by omega) (by omega) (fun c34 => ?_) (fun c34 => ?_)
          · refine lv_iinc (v := nI (k + 1)) (lv' := [(5, .int (nI (k + 1))), (0, .ref (Bo 0)), (1, .int (nI v)), (2, .ref (B 0)), (3, .ref (Bd 0)), (4, .int (nI c))]) hx hb dX1_howManyAre_40 hl (k := 5) rfl (show nI k + Int32.ofInt 1 = nI (k + 1) from nI_add k 1) (by decide) rfl (fun ls hl => ?_)
            refine lv_goto (tgt := 6) hx hb dX1_howManyAre_43 (by decide) ?_
            exact ih6 (k + 1) c (nI (kA k)) (nI (kB k)) (nI (kQ k)) (nI (ovw S (kA k) (kB k) (kQ k))) fn2_30 sn2_30 WD'_30 RD'_30 oc'_30 ns'_30 rs'_30 (by omega) (hc.trans (cn_f (by rw [c24]; exact decide_eq_false c34)).symm) (by omega) _ _ _ hP hD hS (lv_sub hl [1, 2, 3, 4, 5, 0] rfl)
          · refine lv_iinc (v := nI (c + 1)) (lv' := [(4, .int (nI (c + 1))), (0, .ref (Bo 0)), (1, .int (nI v)), (2, .ref (B 0)), (3, .ref (Bd 0)), (5, .int (nI k))]) hx hb dX1_howManyAre_37 hl (k := 4) rfl (show nI c + Int32.ofInt 1 = nI (c + 1) from nI_add c 1) (by decide) rfl (fun ls hl => ?_)
            refine lv_iinc (v := nI (k + 1)) (lv' := [(5, .int (nI (k + 1))), (4, .int (nI (c + 1))), (0, .ref (Bo 0)), (1, .int (nI v)), (2, .ref (B 0)), (3, .ref (Bd 0))]) hx hb dX1_howManyAre_40 hl (k := 5) rfl (show nI k + Int32.ofInt 1 = nI (k + 1) from nI_add k 1) (by decide) rfl (fun ls hl => ?_)
            refine lv_goto (tgt := 6) hx hb dX1_howManyAre_43 (by decide) ?_
            exact ih6 (k + 1) (c + 1) (nI (kA k)) (nI (kB k)) (nI (kQ k)) (nI (ovw S (kA k) (kB k) (kQ k))) fn2_30 sn2_30 WD'_30 RD'_30 oc'_30 ns'_30 rs'_30 (by omega) ((congrArg (· + 1) hc).trans (cn_t (by rw [c24]; exact decide_eq_true c34)).symm) (by omega) _ _ _ hP hD hS (lv_sub hl [2, 3, 4, 5, 1, 0] rfl)
  exact L6 _ 0 0 fi se pl wd1 fn sn WD RD oc ns rs (by omega) (rfl) (Nat.lt_succ_self _) _ _ _ hP hD hS (lv_sub hl [2, 3, 4, 5, 1, 0] rfl)

theorem hi_X1_findParting_X6 : ∀ w ∈ u_ws RX6 TX6 6, w ∈ wsX1_findParting := by decide +kernel
set_option maxHeartbeats 1000000 in
set_option maxRecDepth 100000 in
theorem k_X1_findParting (lY : Launch) (D : va_G) (cA : Nat → ClassId) (Bo B Bd : Nat → Nat) (fi se pl wd1 fn sn : Int32) (S : St) (L R LL RL TM WW NN : Nat → Int32) (WD RD : Nat → Int32) (oc ns rs : Int32) (hI : IR S) (hr : rRu S L R LL RL TM) : MetI lY D cA yX1_findParting wsX1_findParting 4 104 [.ref (Bo 0), .ref (B 0), .ref (Bd 0)] (gOv cA Bo fi se pl wd1 fn sn ++ gSa cA B (nI (S 0)) (nI (S 2)) (nI (S 4)) (nI (S 5)) L R LL RL TM (nI (S 1)) WW NN (nI (S 3)) ++ gRd cA Bd WD RD oc ns rs) (fun rY wY => ∃ (fi2 : Int32) (se2 : Int32) (pl2 : Int32) (wd2 : Int32) (fn2 : Int32) (sn2 : Int32) (WD' : Nat → Int32) (RD' : Nat → Int32) (oc' : Int32) (ns' : Int32) (rs' : Int32), rY = bI (decide (pth S < 400)) ∧ wY = gOv cA Bo fi2 se2 pl2 wd2 fn2 sn2 ++ gSa cA B (nI (S 0)) (nI (S 2)) (nI (S 4)) (nI (S 5)) L R LL RL TM (nI (S 1)) WW NN (nI (S 3)) ++ gRd cA Bd WD' RD' oc' ns' rs' ∧ (pth S < 400 → ovk S (pth S) = true ∧ prk S (pth S) = 1 ∧ fn2 = nI (nw S (ow1 S (kA (pth S)) (kB (pth S)) (kQ (pth S)))) ∧ sn2 = nI (nw S (ow2 S (kA (pth S)) (kB (pth S)) (kQ (pth S)))))) := by
  refine MetI.of (cc := cX1_findParting) (maxL := 4) (ret := (some .boolean)) (by decide) rfl (Nat.le_of_ble_eq_true rfl) (Or.inr ⟨rfl, fun r w' h => by obtain ⟨_, _, _, _, _, _, _, _, _, _, _, h, -⟩ := h; rw [h]; exact bI_nar _⟩) ?_
  intro pY eY sY mY aY bY tY cY QY AY ls h0 hP hK hN hD hA hS hl hret
  obtain ⟨hx, hb, hml, hown, hts⟩ := id h0
  have hl : lv_has ls 4 [(0, .ref (Bo 0)), (1, .ref (B 0)), (2, .ref (Bd 0))] := hl
  have hP : va_P D vwCl (gOv cA Bo fi se pl wd1 fn sn ++ gSa cA B (nI (S 0)) (nI (S 2)) (nI (S 4)) (nI (S 5)) L R LL RL TM (nI (S 1)) WW NN (nI (S 3)) ++ gRd cA Bd WD RD oc ns rs) sY.heap := hP
  have hD : va_D AY (gOv cA Bo fi se pl wd1 fn sn ++ gSa cA B (nI (S 0)) (nI (S 2)) (nI (S 4)) (nI (S 5)) L R LL RL TM (nI (S 1)) WW NN (nI (S 3)) ++ gRd cA Bd WD RD oc ns rs) := hD
  refine lv_iconst (v := nI 0) hx hb dX1_findParting_0 (by decide +kernel) ?_
  refine lv_istore_n (lv' := [(3, .int (nI 0)), (0, .ref (Bo 0)), (1, .ref (B 0)), (2, .ref (Bd 0))]) hx hb dX1_findParting_1 rfl hl (by decide) rfl (fun ls hl => ?_)
  have L2 : ∀ (nY : Nat), ∀ (k : Nat) (fi' : Int32) (se' : Int32) (pl' : Int32) (wd' : Int32) (fn' : Int32) (sn' : Int32) (WD1 : Nat → Int32) (RD1 : Nat → Int32) (oc1 : Int32) (ns1 : Int32) (rs1 : Int32), (k ≤ 400) → (∀ j, j < k → (ovk S j && decide (prk S j = 1)) = false) → (400 - k < nY) → ∀ (H : Heap) (locs : List Loc) (ls : Array Slot), va_P D vwCl (gOv cA Bo fi' se' pl' wd' fn' sn' ++ gSa cA B (nI (S 0)) (nI (S 2)) (nI (S 4)) (nI (S 5)) L R LL RL TM (nI (S 1)) WW NN (nI (S 3)) ++ gRd cA Bd WD1 RD1 oc1 ns1 rs1) H → va_D AY (gOv cA Bo fi' se' pl' wd' fn' sn' ++ gSa cA B (nI (S 0)) (nI (S 2)) (nI (S 4)) (nI (S 5)) L R LL RL TM (nI (S 1)) WW NN (nI (S 3)) ++ gRd cA Bd WD1 RD1 oc1 ns1 rs1) → va_S AY sY.heap H locs → lv_has ls 4 [(0, .ref (Bo 0)), (1, .ref (B 0)), (2, .ref (Bd 0)), (3, .int (nI k))] → W pY lY eY { frames := 4, cells := 0, slots := 0, locals := 104 } sY mY aY bY tY cY H locs 0 0 QY (F0 mY 2 ls []) := by
    intro nY2
    induction nY2 with
    | zero => intro k fi' se' pl' wd' fn' sn' WD1 RD1 oc1 ns1 rs1 hk hno hm2; exact absurd hm2 (Nat.not_lt_zero _)
    | succ nY2 ih2 =>
      intro k fi' se' pl' wd' fn' sn' WD1 RD1 oc1 ns1 rs1 hk hno hm2 H locs ls hP hD hS hl
      refine lv_iload_n hx hb dX1_findParting_2 rfl (lv_at hl 3 rfl) ?_
      refine lv_sipush (v := nI 400) hx hb dX1_findParting_3 (by decide +kernel) ?_
      refine xc_ge (tgt := 39) hx hb dX1_findParting_6 (by decide) (by omega) (by omega) (fun c6 => ?_) (fun c6 => ?_)
      · refine lv_iconst (v := nI 0) hx hb dX1_findParting_39 (by decide +kernel) ?_
        have hz : pth S = 400 := by unfold pth; rw [sl_eq]; exact ff_none (fun j hj => hno j (by omega))
        exact hret _ _ _ _ _ _ dX1_findParting_40 ⟨_, _, _, _, _, _, _, _, _, _, _, by rw [hz]; rfl, rfl, fun h => by omega⟩ hP hD hS
      · refine lv_aload_n hx hb dX1_findParting_9 rfl (lv_at hl 0 rfl) ?_
        refine lv_aload_n hx hb dX1_findParting_10 rfl (lv_at hl 1 rfl) ?_
        refine va_getN (D := D) (ci := 6) (v := .ref (B 1)) (C := RX6) (T := TX6) (N := 6) hx hb hts hi_X1_findParting_X6 hown hK hP 1 rfl rfl 0 (by decide) (hN.fl (w := .fieldLinkNest RX1 15 "FallingWords$State" "rules" "LFallingWords$Rules;" "FallingWords") (by decide +kernel)) (fun _ h9 => h9) rfl dX1_findParting_11 ?_
        refine lv_iload_n hx hb dX1_findParting_14 rfl (lv_at hl 3 rfl) ?_
        refine ci_V (As := [.ref (B 1), .int (nI k)]) (rest := []) h0 hK hN hP hD hS hA hl.1 (k_X1_isOverlap lY D cA Bo (fun i => B (i + 1)) fi' se' pl' wd' fn' sn' S L R LL RL TM k (hI) (hr) (by omega)) [0, 2, 3, 4, 5, 6, 7] rfl (by decide) (cwV 2 hts gX1_findParting_X1_isOverlap rfl rfl rfl (by decide +kernel) ⟨Nat.le_of_ble_eq_true rfl, Nat.le_of_ble_eq_true rfl⟩) (cl_recv (ci := 1) (q := (RX1, TX1, 6)) (q0 := 0) hP hK rfl rfl) rfl rfl (Nat.le_of_ble_eq_true rfl) dX1_findParting_15 ⟨Nat.zero_le _, Nat.zero_le _⟩ (fun rY wY H locs hwY hJ hS => ?_)
        obtain ⟨wd2_15, e1Y, e2Y, fw_15⟩ := hwY
        have e3Y := e1Y.symm
        clear e1Y
        subst e3Y
        have e3Y := e2Y.symm
        clear e2Y
        subst e3Y
        obtain ⟨hP, hD⟩ := hJ rfl
        have hP : va_P D vwCl (gOv cA Bo (nI (kA k)) (nI (kB k)) (nI (kQ k)) wd2_15 fn' sn' ++ gSa cA B (nI (S 0)) (nI (S 2)) (nI (S 4)) (nI (S 5)) L R LL RL TM (nI (S 1)) WW NN (nI (S 3)) ++ gRd cA Bd WD1 RD1 oc1 ns1 rs1) H := hP
        have hD : va_D AY (gOv cA Bo (nI (kA k)) (nI (kB k)) (nI (kQ k)) wd2_15 fn' sn' ++ gSa cA B (nI (S 0)) (nI (S 2)) (nI (S 4)) (nI (S 5)) L R LL RL TM (nI (S 1)) WW NN (nI (S 3)) ++ gRd cA Bd WD1 RD1 oc1 ns1 rs1) := hD
        have kb2 := kb k (by omega)
        refine xb_eq (tgt := 33) hx hb dX1_findParting_18 (by decide) (fun c18 => ?_) (fun c18 => ?_)
        · refine lv_iinc (v := nI (k + 1)) (lv' := [(3, .int (nI (k + 1))), (0, .ref (Bo 0)), (1, .ref (B 0)), (2, .ref (Bd 0))]) hx hb dX1_findParting_33 hl (k := 3) rfl (show nI k + Int32.ofInt 1 = nI (k + 1) from nI_add k 1) (by decide) rfl (fun ls hl => ?_)
          refine lv_goto (tgt := 2) hx hb dX1_findParting_36 (by decide) ?_
          exact ih2 (k + 1) (nI (kA k)) (nI (kB k)) (nI (kQ k)) wd2_15 fn' sn' WD1 RD1 oc1 ns1 rs1 (by omega) (lt_s hno (by rw [c18]; rfl)) (by omega) _ _ _ hP hD hS (lv_sub hl [1, 2, 3, 0] rfl)
        · obtain ⟨hAB, hO1⟩ := Bool.and_eq_true _ _ |>.mp c18
          obtain ⟨hA0, hB0⟩ := Bool.and_eq_true _ _ |>.mp hAB
          have hA1 := of_decide_eq_true hA0
          have hB1 := of_decide_eq_true hB0
          rw [fw_15 c18] at hP hD
          have hP : va_P D vwCl (gOv cA Bo (nI (kA k)) (nI (kB k)) (nI (kQ k)) (nI (ovw S (kA k) (kB k) (kQ k))) fn' sn' ++ gSa cA B (nI (S 0)) (nI (S 2)) (nI (S 4)) (nI (S 5)) L R LL RL TM (nI (S 1)) WW NN (nI (S 3)) ++ gRd cA Bd WD1 RD1 oc1 ns1 rs1) H := hP
          have hD : va_D AY (gOv cA Bo (nI (kA k)) (nI (kB k)) (nI (kQ k)) (nI (ovw S (kA k) (kB k) (kQ k))) fn' sn' ++ gSa cA B (nI (S 0)) (nI (S 2)) (nI (S 4)) (nI (S 5)) L R LL RL TM (nI (S 1)) WW NN (nI (S 3)) ++ gRd cA Bd WD1 RD1 oc1 ns1 rs1) := hD
          refine lv_aload_n hx hb dX1_findParting_21 rfl (lv_at hl 0 rfl) ?_
          refine lv_aload_n hx hb dX1_findParting_22 rfl (lv_at hl 1 rfl) ?_
          refine lv_aload_n hx hb dX1_findParting_23 rfl (lv_at hl 2 rfl) ?_
          refine ci_V (As := [.ref (B 0), .ref (Bd 0)]) (rest := []) h0 hK hN hP hD hS hA hl.1 (k_X1_verdict lY D cA Bo B Bd fn' sn' S L R LL RL TM WW NN WD1 RD1 oc1 ns1 rs1 (kA k) (kB k) (kQ k) (hI) (hr) (hA1) (hB1) (kb2.2.2) (hO1)) [0, 1, 2, 3, 4, 5, 6, 7, 8, 9, 10, 11, 12, 13] rfl (by decide) (cwV 2 hts gX1_findParting_X1_verdict rfl rfl rfl (by decide +kernel) ⟨Nat.le_of_ble_eq_true rfl, Nat.le_of_ble_eq_true rfl⟩) (cl_recv (ci := 1) (q := (RX1, TX1, 6)) (q0 := 0) hP hK rfl rfl) rfl rfl (Nat.le_of_ble_eq_true rfl) dX1_findParting_24 ⟨Nat.zero_le _, Nat.zero_le _⟩ (fun rY wY H locs hwY hJ hS => ?_)
          obtain ⟨fn2_24, sn2_24, WD'_24, RD'_24, oc'_24, ns'_24, rs'_24, e1Y, e2Y, ff2_24⟩ := hwY
          have e3Y := e1Y.symm
          clear e1Y
          subst e3Y
          have e3Y := e2Y.symm
          clear e2Y
          subst e3Y
          obtain ⟨hP, hD⟩ := hJ rfl
          have hP : va_P D vwCl (gOv cA Bo (nI (kA k)) (nI (kB k)) (nI (kQ k)) (nI (ovw S (kA k) (kB k) (kQ k))) fn2_24 sn2_24 ++ gSa cA B (nI (S 0)) (nI (S 2)) (nI (S 4)) (nI (S 5)) L R LL RL TM (nI (S 1)) WW NN (nI (S 3)) ++ gRd cA Bd WD'_24 RD'_24 oc'_24 ns'_24 rs'_24) H := hP
          have hD : va_D AY (gOv cA Bo (nI (kA k)) (nI (kB k)) (nI (kQ k)) (nI (ovw S (kA k) (kB k) (kQ k))) fn2_24 sn2_24 ++ gSa cA B (nI (S 0)) (nI (S 2)) (nI (S 4)) (nI (S 5)) L R LL RL TM (nI (S 1)) WW NN (nI (S 3)) ++ gRd cA Bd WD'_24 RD'_24 oc'_24 ns'_24 rs'_24) := hD
          refine xt (show nI (par S (ow1 S (kA k) (kB k) (kQ k)) (ow2 S (kA k) (kB k) (kQ k))) = nI (prk S k) from rfl) ?_
          have hple : prk S k ≤ 2 := par_le
          refine lv_iconst (v := nI 1) hx hb dX1_findParting_27 (by decide +kernel) ?_
          refine xc_ne (tgt := 33) hx hb dX1_findParting_28 (by decide) (by omega) (by omega) (fun c28 => ?_) (fun c28 => ?_)
          · refine lv_iinc (v := nI (k + 1)) (lv' := [(3, .int (nI (k + 1))), (0, .ref (Bo 0)), (1, .ref (B 0)), (2, .ref (Bd 0))]) hx hb dX1_findParting_33 hl (k := 3) rfl (show nI k + Int32.ofInt 1 = nI (k + 1) from nI_add k 1) (by decide) rfl (fun ls hl => ?_)
            refine lv_goto (tgt := 2) hx hb dX1_findParting_36 (by decide) ?_
            exact ih2 (k + 1) (nI (kA k)) (nI (kB k)) (nI (kQ k)) (nI (ovw S (kA k) (kB k) (kQ k))) fn2_24 sn2_24 WD'_24 RD'_24 oc'_24 ns'_24 rs'_24 (by omega) (lt_s hno (by rw [c18]; exact decide_eq_false c28)) (by omega) _ _ _ hP hD hS (lv_sub hl [1, 2, 3, 0] rfl)
          · refine lv_iconst (v := nI 1) hx hb dX1_findParting_31 (by decide +kernel) ?_
            have hz : pth S = k := by unfold pth; rw [sl_eq]; exact ff_is (by omega) (by rw [c18]; exact decide_eq_true c28) hno
            obtain ⟨w1, w2⟩ := ff2_24 c28
            exact hret _ _ _ _ _ _ dX1_findParting_32 ⟨_, _, _, _, _, _, _, _, _, _, _, by rw [hz, decide_eq_true (by omega)]; rfl, rfl, fun _ => by rw [hz]; exact ⟨c18, c28, w1, w2⟩⟩ hP hD hS
  exact L2 _ 0 fi se pl wd1 fn sn WD RD oc ns rs (by omega) (fun j h => absurd h (Nat.not_lt_zero j)) (Nat.lt_succ_self _) _ _ _ hP hD hS (lv_sub hl [1, 2, 3, 0] rfl)
end
