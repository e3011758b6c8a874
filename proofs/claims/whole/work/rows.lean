section
-- ===== PART A: goes FIRST, ahead of the names: the tables' words, and 'selects' of the private methods out of them =====
/-- a private method of a class that the tables say can be made, by its rows of tables_1 -/
def lw_okq (q : MethodName × Nat) : Prop := (q.1.cls ≠ "java/lang/invoke/MethodHandle" ∧ q.1.cls ≠ "java/lang/invoke/VarHandle") ∧ Cond.instantiable q.1.cls q.2 ∈ tables_1 ∧ Cond.privateMethod q.1 ∈ tables_1 ∧ Cond.instanceMethod q.1 ∈ tables_1
theorem lw_p0 : lw_okq (⟨"SpinStrips$Text", "isWhole", "(I)Z"⟩, 5) := ⟨⟨by decide +kernel, by decide +kernel⟩, List.mem_of_getElem? (i := 221) (by decide +kernel), List.mem_of_getElem? (i := 301) (by decide +kernel), List.mem_of_getElem? (i := 302) (by decide +kernel)⟩
theorem lw_p1 : lw_okq (⟨"SpinStrips$Text", "rowsAllowed", "()I"⟩, 5) := ⟨⟨by decide +kernel, by decide +kernel⟩, List.mem_of_getElem? (i := 221) (by decide +kernel), List.mem_of_getElem? (i := 305) (by decide +kernel), List.mem_of_getElem? (i := 306) (by decide +kernel)⟩
theorem lw_p2 : lw_okq (⟨"SpinStrips$Strip", "pullOfNeighbours", "(J)I"⟩, 9) := ⟨⟨by decide +kernel, by decide +kernel⟩, List.mem_of_getElem? (i := 26) (by decide +kernel), List.mem_of_getElem? (i := 325) (by decide +kernel), List.mem_of_getElem? (i := 326) (by decide +kernel)⟩
theorem lw_p3 : lw_okq (⟨"SpinStrips$Strip", "besideAlong", "(J)J"⟩, 9) := ⟨⟨by decide +kernel, by decide +kernel⟩, List.mem_of_getElem? (i := 26) (by decide +kernel), List.mem_of_getElem? (i := 329) (by decide +kernel), List.mem_of_getElem? (i := 330) (by decide +kernel)⟩
theorem lw_p4 : lw_okq (⟨"SpinStrips$Strip", "spinSum", "(J)I"⟩, 9) := ⟨⟨by decide +kernel, by decide +kernel⟩, List.mem_of_getElem? (i := 26) (by decide +kernel), List.mem_of_getElem? (i := 337) (by decide +kernel), List.mem_of_getElem? (i := 338) (by decide +kernel)⟩
theorem lw_p5 : lw_okq (⟨"SpinStrips$Strip", "besideAcross", "(J)J"⟩, 9) := ⟨⟨by decide +kernel, by decide +kernel⟩, List.mem_of_getElem? (i := 26) (by decide +kernel), List.mem_of_getElem? (i := 347) (by decide +kernel), List.mem_of_getElem? (i := 348) (by decide +kernel)⟩
theorem lw_p6 : lw_okq (⟨"SpinStrips$Prices", "priceAlong", "(I)V"⟩, 8) := ⟨⟨by decide +kernel, by decide +kernel⟩, List.mem_of_getElem? (i := 86) (by decide +kernel), List.mem_of_getElem? (i := 430) (by decide +kernel), List.mem_of_getElem? (i := 431) (by decide +kernel)⟩
theorem lw_p7 : lw_okq (⟨"SpinStrips$Prices", "priceAcross", "(I)V"⟩, 8) := ⟨⟨by decide +kernel, by decide +kernel⟩, List.mem_of_getElem? (i := 86) (by decide +kernel), List.mem_of_getElem? (i := 443) (by decide +kernel), List.mem_of_getElem? (i := 444) (by decide +kernel)⟩
theorem lw_p8 : lw_okq (⟨"SpinStrips$Prices", "priceFields", "(LSpinStrips$Strip;I)I"⟩, 8) := ⟨⟨by decide +kernel, by decide +kernel⟩, List.mem_of_getElem? (i := 86) (by decide +kernel), List.mem_of_getElem? (i := 450) (by decide +kernel), List.mem_of_getElem? (i := 451) (by decide +kernel)⟩
theorem lw_p9 : lw_okq (⟨"SpinStrips$Least", "leastCost", "(LSpinStrips$Prices;)I"⟩, 3) := ⟨⟨by decide +kernel, by decide +kernel⟩, List.mem_of_getElem? (i := 144) (by decide +kernel), List.mem_of_getElem? (i := 459) (by decide +kernel), List.mem_of_getElem? (i := 460) (by decide +kernel)⟩
theorem lw_p10 : lw_okq (⟨"SpinStrips$Least", "lookBehind", "(LSpinStrips$Prices;I)I"⟩, 3) := ⟨⟨by decide +kernel, by decide +kernel⟩, List.mem_of_getElem? (i := 144) (by decide +kernel), List.mem_of_getElem? (i := 463) (by decide +kernel), List.mem_of_getElem? (i := 464) (by decide +kernel)⟩
theorem lw_p11 : lw_okq (⟨"SpinStrips$Least", "costOfNext", "(LSpinStrips$Prices;III)I"⟩, 3) := ⟨⟨by decide +kernel, by decide +kernel⟩, List.mem_of_getElem? (i := 144) (by decide +kernel), List.mem_of_getElem? (i := 471) (by decide +kernel), List.mem_of_getElem? (i := 472) (by decide +kernel)⟩
theorem lw_p12 : lw_okq (⟨"SpinStrips$Least", "follow", "(LSpinStrips$Prices;I)J"⟩, 3) := ⟨⟨by decide +kernel, by decide +kernel⟩, List.mem_of_getElem? (i := 144) (by decide +kernel), List.mem_of_getElem? (i := 482) (by decide +kernel), List.mem_of_getElem? (i := 483) (by decide +kernel)⟩
theorem lw_p13 : lw_okq (⟨"SpinStrips$Least", "firstLeastNext", "(LSpinStrips$Prices;II)I"⟩, 3) := ⟨⟨by decide +kernel, by decide +kernel⟩, List.mem_of_getElem? (i := 144) (by decide +kernel), List.mem_of_getElem? (i := 486) (by decide +kernel), List.mem_of_getElem? (i := 487) (by decide +kernel)⟩
theorem lw_p14 : lw_okq (⟨"SpinStrips$Least", "isLeast", "(LSpinStrips$Prices;III)Z"⟩, 3) := ⟨⟨by decide +kernel, by decide +kernel⟩, List.mem_of_getElem? (i := 144) (by decide +kernel), List.mem_of_getElem? (i := 490) (by decide +kernel), List.mem_of_getElem? (i := 491) (by decide +kernel)⟩
theorem lw_p15 : lw_okq (⟨"SpinStrips$AllStrips", "learnCosts", "()V"⟩, 13) := ⟨⟨by decide +kernel, by decide +kernel⟩, List.mem_of_getElem? (i := 80) (by decide +kernel), List.mem_of_getElem? (i := 551) (by decide +kernel), List.mem_of_getElem? (i := 552) (by decide +kernel)⟩
def lw_privs_1 : List (MethodName × Nat) := [(⟨"SpinStrips$Text", "isWhole", "(I)Z"⟩, 5), (⟨"SpinStrips$Text", "rowsAllowed", "()I"⟩, 5), (⟨"SpinStrips$Strip", "pullOfNeighbours", "(J)I"⟩, 9), (⟨"SpinStrips$Strip", "besideAlong", "(J)J"⟩, 9), (⟨"SpinStrips$Strip", "spinSum", "(J)I"⟩, 9), (⟨"SpinStrips$Strip", "besideAcross", "(J)J"⟩, 9), (⟨"SpinStrips$Prices", "priceAlong", "(I)V"⟩, 8), (⟨"SpinStrips$Prices", "priceAcross", "(I)V"⟩, 8), (⟨"SpinStrips$Prices", "priceFields", "(LSpinStrips$Strip;I)I"⟩, 8), (⟨"SpinStrips$Least", "leastCost", "(LSpinStrips$Prices;)I"⟩, 3), (⟨"SpinStrips$Least", "lookBehind", "(LSpinStrips$Prices;I)I"⟩, 3), (⟨"SpinStrips$Least", "costOfNext", "(LSpinStrips$Prices;III)I"⟩, 3), (⟨"SpinStrips$Least", "follow", "(LSpinStrips$Prices;I)J"⟩, 3), (⟨"SpinStrips$Least", "firstLeastNext", "(LSpinStrips$Prices;II)I"⟩, 3), (⟨"SpinStrips$Least", "isLeast", "(LSpinStrips$Prices;III)Z"⟩, 3), (⟨"SpinStrips$AllStrips", "learnCosts", "()V"⟩, 13)]
theorem lw_r1 : ∀ q ∈ lw_privs_1, lw_okq q := List.forall_mem_cons.mpr ⟨lw_p0, List.forall_mem_cons.mpr ⟨lw_p1, List.forall_mem_cons.mpr ⟨lw_p2, List.forall_mem_cons.mpr ⟨lw_p3, List.forall_mem_cons.mpr ⟨lw_p4, List.forall_mem_cons.mpr ⟨lw_p5, List.forall_mem_cons.mpr ⟨lw_p6, List.forall_mem_cons.mpr ⟨lw_p7, List.forall_mem_cons.mpr ⟨lw_p8, List.forall_mem_cons.mpr ⟨lw_p9, List.forall_mem_cons.mpr ⟨lw_p10, List.forall_mem_cons.mpr ⟨lw_p11, List.forall_mem_cons.mpr ⟨lw_p12, List.forall_mem_cons.mpr ⟨lw_p13, List.forall_mem_cons.mpr ⟨lw_p14, List.forall_mem_cons.mpr ⟨lw_p15, fun _ h => absurd h List.not_mem_nil⟩⟩⟩⟩⟩⟩⟩⟩⟩⟩⟩⟩⟩⟩⟩⟩
theorem lw_p16 : lw_okq (⟨"SpinStrips$Sums", "addStrips", "([ILSpinStrips$Prices;II)V"⟩, 2) := ⟨⟨by decide +kernel, by decide +kernel⟩, List.mem_of_getElem? (i := 130) (by decide +kernel), List.mem_of_getElem? (i := 560) (by decide +kernel), List.mem_of_getElem? (i := 561) (by decide +kernel)⟩
theorem lw_p17 : lw_okq (⟨"SpinStrips$Sums", "begin", "(LSpinStrips$Prices;II)V"⟩, 2) := ⟨⟨by decide +kernel, by decide +kernel⟩, List.mem_of_getElem? (i := 130) (by decide +kernel), List.mem_of_getElem? (i := 564) (by decide +kernel), List.mem_of_getElem? (i := 565) (by decide +kernel)⟩
theorem lw_p18 : lw_okq (⟨"SpinStrips$Sums", "addColumn", "(LSpinStrips$Prices;I)V"⟩, 2) := ⟨⟨by decide +kernel, by decide +kernel⟩, List.mem_of_getElem? (i := 130) (by decide +kernel), List.mem_of_getElem? (i := 568) (by decide +kernel), List.mem_of_getElem? (i := 569) (by decide +kernel)⟩
theorem lw_p19 : lw_okq (⟨"SpinStrips$AllStrips", "manyAtEnergy", "(I)I"⟩, 13) := ⟨⟨by decide +kernel, by decide +kernel⟩, List.mem_of_getElem? (i := 80) (by decide +kernel), List.mem_of_getElem? (i := 576) (by decide +kernel), List.mem_of_getElem? (i := 577) (by decide +kernel)⟩
theorem lw_p20 : lw_okq (⟨"SpinStrips$Least", "addUps", "([ILSpinStrips$Prices;I)V"⟩, 3) := ⟨⟨by decide +kernel, by decide +kernel⟩, List.mem_of_getElem? (i := 144) (by decide +kernel), List.mem_of_getElem? (i := 604) (by decide +kernel), List.mem_of_getElem? (i := 605) (by decide +kernel)⟩
theorem lw_p21 : lw_okq (⟨"SpinStrips$Least", "addColumn", "(LSpinStrips$Prices;I)V"⟩, 3) := ⟨⟨by decide +kernel, by decide +kernel⟩, List.mem_of_getElem? (i := 144) (by decide +kernel), List.mem_of_getElem? (i := 609) (by decide +kernel), List.mem_of_getElem? (i := 610) (by decide +kernel)⟩
theorem lw_p22 : lw_okq (⟨"SpinStrips$AllStrips", "energyOf", "(I)I"⟩, 13) := ⟨⟨by decide +kernel, by decide +kernel⟩, List.mem_of_getElem? (i := 80) (by decide +kernel), List.mem_of_getElem? (i := 627) (by decide +kernel), List.mem_of_getElem? (i := 628) (by decide +kernel)⟩
theorem lw_p23 : lw_okq (⟨"SpinStripsModel", "lays", "(II)V"⟩, 24) := ⟨⟨by decide +kernel, by decide +kernel⟩, List.mem_of_getElem? (i := 662) (by decide +kernel), List.mem_of_getElem? (i := 668) (by decide +kernel), List.mem_of_getElem? (i := 669) (by decide +kernel)⟩
theorem lw_p24 : lw_okq (⟨"SpinStripsModel", "remember", "()V"⟩, 24) := ⟨⟨by decide +kernel, by decide +kernel⟩, List.mem_of_getElem? (i := 662) (by decide +kernel), List.mem_of_getElem? (i := 754) (by decide +kernel), List.mem_of_getElem? (i := 755) (by decide +kernel)⟩
theorem lw_p25 : lw_okq (⟨"SpinStripsModel", "cells", "()I"⟩, 24) := ⟨⟨by decide +kernel, by decide +kernel⟩, List.mem_of_getElem? (i := 662) (by decide +kernel), List.mem_of_getElem? (i := 761) (by decide +kernel), List.mem_of_getElem? (i := 762) (by decide +kernel)⟩
theorem lw_p26 : lw_okq (⟨"SpinStripsModel", "acted", "(I)I"⟩, 24) := ⟨⟨by decide +kernel, by decide +kernel⟩, List.mem_of_getElem? (i := 662) (by decide +kernel), List.mem_of_getElem? (i := 765) (by decide +kernel), List.mem_of_getElem? (i := 766) (by decide +kernel)⟩
theorem lw_p27 : lw_okq (⟨"SpinStripsModel", "energy", "()I"⟩, 24) := ⟨⟨by decide +kernel, by decide +kernel⟩, List.mem_of_getElem? (i := 662) (by decide +kernel), List.mem_of_getElem? (i := 773) (by decide +kernel), List.mem_of_getElem? (i := 774) (by decide +kernel)⟩
theorem lw_p28 : lw_okq (⟨"SpinStripsModel", "ofStrip", "(I)I"⟩, 24) := ⟨⟨by decide +kernel, by decide +kernel⟩, List.mem_of_getElem? (i := 662) (by decide +kernel), List.mem_of_getElem? (i := 777) (by decide +kernel), List.mem_of_getElem? (i := 778) (by decide +kernel)⟩
theorem lw_p29 : lw_okq (⟨"SpinStripsModel", "beside", "(II)I"⟩, 24) := ⟨⟨by decide +kernel, by decide +kernel⟩, List.mem_of_getElem? (i := 662) (by decide +kernel), List.mem_of_getElem? (i := 781) (by decide +kernel), List.mem_of_getElem? (i := 782) (by decide +kernel)⟩
theorem lw_p30 : lw_okq (⟨"SpinStripsModel", "isColumn", "(I)Z"⟩, 24) := ⟨⟨by decide +kernel, by decide +kernel⟩, List.mem_of_getElem? (i := 662) (by decide +kernel), List.mem_of_getElem? (i := 785) (by decide +kernel), List.mem_of_getElem? (i := 786) (by decide +kernel)⟩
theorem lw_p31 : lw_okq (⟨"SpinStripsModel", "isLoop", "()Z"⟩, 24) := ⟨⟨by decide +kernel, by decide +kernel⟩, List.mem_of_getElem? (i := 662) (by decide +kernel), List.mem_of_getElem? (i := 789) (by decide +kernel), List.mem_of_getElem? (i := 790) (by decide +kernel)⟩
def lw_privs_2 : List (MethodName × Nat) := [(⟨"SpinStrips$Sums", "addStrips", "([ILSpinStrips$Prices;II)V"⟩, 2), (⟨"SpinStrips$Sums", "begin", "(LSpinStrips$Prices;II)V"⟩, 2), (⟨"SpinStrips$Sums", "addColumn", "(LSpinStrips$Prices;I)V"⟩, 2), (⟨"SpinStrips$AllStrips", "manyAtEnergy", "(I)I"⟩, 13), (⟨"SpinStrips$Least", "addUps", "([ILSpinStrips$Prices;I)V"⟩, 3), (⟨"SpinStrips$Least", "addColumn", "(LSpinStrips$Prices;I)V"⟩, 3), (⟨"SpinStrips$AllStrips", "energyOf", "(I)I"⟩, 13), (⟨"SpinStripsModel", "lays", "(II)V"⟩, 24), (⟨"SpinStripsModel", "remember", "()V"⟩, 24), (⟨"SpinStripsModel", "cells", "()I"⟩, 24), (⟨"SpinStripsModel", "acted", "(I)I"⟩, 24), (⟨"SpinStripsModel", "energy", "()I"⟩, 24), (⟨"SpinStripsModel", "ofStrip", "(I)I"⟩, 24), (⟨"SpinStripsModel", "beside", "(II)I"⟩, 24), (⟨"SpinStripsModel", "isColumn", "(I)Z"⟩, 24), (⟨"SpinStripsModel", "isLoop", "()Z"⟩, 24)]
theorem lw_r2 : ∀ q ∈ lw_privs_2, lw_okq q := List.forall_mem_cons.mpr ⟨lw_p16, List.forall_mem_cons.mpr ⟨lw_p17, List.forall_mem_cons.mpr ⟨lw_p18, List.forall_mem_cons.mpr ⟨lw_p19, List.forall_mem_cons.mpr ⟨lw_p20, List.forall_mem_cons.mpr ⟨lw_p21, List.forall_mem_cons.mpr ⟨lw_p22, List.forall_mem_cons.mpr ⟨lw_p23, List.forall_mem_cons.mpr ⟨lw_p24, List.forall_mem_cons.mpr ⟨lw_p25, List.forall_mem_cons.mpr ⟨lw_p26, List.forall_mem_cons.mpr ⟨lw_p27, List.forall_mem_cons.mpr ⟨lw_p28, List.forall_mem_cons.mpr ⟨lw_p29, List.forall_mem_cons.mpr ⟨lw_p30, List.forall_mem_cons.mpr ⟨lw_p31, fun _ h => absurd h List.not_mem_nil⟩⟩⟩⟩⟩⟩⟩⟩⟩⟩⟩⟩⟩⟩⟩⟩
theorem lw_p32 : lw_okq (⟨"SpinStripsModel", "ofColumn", "(III)I"⟩, 24) := ⟨⟨by decide +kernel, by decide +kernel⟩, List.mem_of_getElem? (i := 662) (by decide +kernel), List.mem_of_getElem? (i := 793) (by decide +kernel), List.mem_of_getElem? (i := 794) (by decide +kernel)⟩
theorem lw_p33 : lw_okq (⟨"SpinStripsModel", "fieldAt", "(II)I"⟩, 24) := ⟨⟨by decide +kernel, by decide +kernel⟩, List.mem_of_getElem? (i := 662) (by decide +kernel), List.mem_of_getElem? (i := 800) (by decide +kernel), List.mem_of_getElem? (i := 801) (by decide +kernel)⟩
theorem lw_p34 : lw_okq (⟨"SpinStripsModel", "ofLink", "(III)I"⟩, 24) := ⟨⟨by decide +kernel, by decide +kernel⟩, List.mem_of_getElem? (i := 662) (by decide +kernel), List.mem_of_getElem? (i := 804) (by decide +kernel), List.mem_of_getElem? (i := 805) (by decide +kernel)⟩
theorem lw_p35 : lw_okq (⟨"SpinStripsModel", "puts", "(II)I"⟩, 24) := ⟨⟨by decide +kernel, by decide +kernel⟩, List.mem_of_getElem? (i := 662) (by decide +kernel), List.mem_of_getElem? (i := 814) (by decide +kernel), List.mem_of_getElem? (i := 815) (by decide +kernel)⟩
theorem lw_p36 : lw_okq (⟨"SpinStripsModel", "isRow", "(I)Z"⟩, 24) := ⟨⟨by decide +kernel, by decide +kernel⟩, List.mem_of_getElem? (i := 662) (by decide +kernel), List.mem_of_getElem? (i := 822) (by decide +kernel), List.mem_of_getElem? (i := 823) (by decide +kernel)⟩
theorem lw_p37 : lw_okq (⟨"SpinStripsModel", "turns", "(II)V"⟩, 24) := ⟨⟨by decide +kernel, by decide +kernel⟩, List.mem_of_getElem? (i := 662) (by decide +kernel), List.mem_of_getElem? (i := 831) (by decide +kernel), List.mem_of_getElem? (i := 832) (by decide +kernel)⟩
theorem lw_p38 : lw_okq (⟨"SpinStripsModel", "forgets", "()V"⟩, 24) := ⟨⟨by decide +kernel, by decide +kernel⟩, List.mem_of_getElem? (i := 662) (by decide +kernel), List.mem_of_getElem? (i := 839) (by decide +kernel), List.mem_of_getElem? (i := 840) (by decide +kernel)⟩
theorem lw_p39 : lw_okq (⟨"SpinStripsModel", "finds", "(II)V"⟩, 24) := ⟨⟨by decide +kernel, by decide +kernel⟩, List.mem_of_getElem? (i := 662) (by decide +kernel), List.mem_of_getElem? (i := 843) (by decide +kernel), List.mem_of_getElem? (i := 844) (by decide +kernel)⟩
theorem lw_p40 : lw_okq (⟨"SpinStripsModel", "spin", "(II)I"⟩, 24) := ⟨⟨by decide +kernel, by decide +kernel⟩, List.mem_of_getElem? (i := 662) (by decide +kernel), List.mem_of_getElem? (i := 847) (by decide +kernel), List.mem_of_getElem? (i := 848) (by decide +kernel)⟩
theorem lw_p41 : lw_okq (⟨"SpinStripsModel", "joins", "(III)V"⟩, 24) := ⟨⟨by decide +kernel, by decide +kernel⟩, List.mem_of_getElem? (i := 662) (by decide +kernel), List.mem_of_getElem? (i := 851) (by decide +kernel), List.mem_of_getElem? (i := 852) (by decide +kernel)⟩
theorem lw_p42 : lw_okq (⟨"SpinStripsModel", "sweeps", "()I"⟩, 24) := ⟨⟨by decide +kernel, by decide +kernel⟩, List.mem_of_getElem? (i := 662) (by decide +kernel), List.mem_of_getElem? (i := 860) (by decide +kernel), List.mem_of_getElem? (i := 861) (by decide +kernel)⟩
theorem lw_p43 : lw_okq (⟨"SpinStripsModel", "gain", "(II)I"⟩, 24) := ⟨⟨by decide +kernel, by decide +kernel⟩, List.mem_of_getElem? (i := 662) (by decide +kernel), List.mem_of_getElem? (i := 864) (by decide +kernel), List.mem_of_getElem? (i := 865) (by decide +kernel)⟩
theorem lw_p44 : lw_okq (⟨"SpinStripsModel", "leastEnergy", "()I"⟩, 24) := ⟨⟨by decide +kernel, by decide +kernel⟩, List.mem_of_getElem? (i := 662) (by decide +kernel), List.mem_of_getElem? (i := 872) (by decide +kernel), List.mem_of_getElem? (i := 873) (by decide +kernel)⟩
theorem lw_p45 : lw_okq (⟨"SpinStripsModel", "upsAll", "()V"⟩, 24) := ⟨⟨by decide +kernel, by decide +kernel⟩, List.mem_of_getElem? (i := 662) (by decide +kernel), List.mem_of_getElem? (i := 876) (by decide +kernel), List.mem_of_getElem? (i := 877) (by decide +kernel)⟩
theorem lw_p46 : lw_okq (⟨"SpinStripsModel", "states", "()I"⟩, 24) := ⟨⟨by decide +kernel, by decide +kernel⟩, List.mem_of_getElem? (i := 662) (by decide +kernel), List.mem_of_getElem? (i := 881) (by decide +kernel), List.mem_of_getElem? (i := 882) (by decide +kernel)⟩
theorem lw_p47 : lw_okq (⟨"SpinStripsModel", "upsFrom", "(IIZ)V"⟩, 24) := ⟨⟨by decide +kernel, by decide +kernel⟩, List.mem_of_getElem? (i := 662) (by decide +kernel), List.mem_of_getElem? (i := 885) (by decide +kernel), List.mem_of_getElem? (i := 886) (by decide +kernel)⟩
def lw_privs_3 : List (MethodName × Nat) := [(⟨"SpinStripsModel", "ofColumn", "(III)I"⟩, 24), (⟨"SpinStripsModel", "fieldAt", "(II)I"⟩, 24), (⟨"SpinStripsModel", "ofLink", "(III)I"⟩, 24), (⟨"SpinStripsModel", "puts", "(II)I"⟩, 24), (⟨"SpinStripsModel", "isRow", "(I)Z"⟩, 24), (⟨"SpinStripsModel", "turns", "(II)V"⟩, 24), (⟨"SpinStripsModel", "forgets", "()V"⟩, 24), (⟨"SpinStripsModel", "finds", "(II)V"⟩, 24), (⟨"SpinStripsModel", "spin", "(II)I"⟩, 24), (⟨"SpinStripsModel", "joins", "(III)V"⟩, 24), (⟨"SpinStripsModel", "sweeps", "()I"⟩, 24), (⟨"SpinStripsModel", "gain", "(II)I"⟩, 24), (⟨"SpinStripsModel", "leastEnergy", "()I"⟩, 24), (⟨"SpinStripsModel", "upsAll", "()V"⟩, 24), (⟨"SpinStripsModel", "states", "()I"⟩, 24), (⟨"SpinStripsModel", "upsFrom", "(IIZ)V"⟩, 24)]
theorem lw_r3 : ∀ q ∈ lw_privs_3, lw_okq q := List.forall_mem_cons.mpr ⟨lw_p32, List.forall_mem_cons.mpr ⟨lw_p33, List.forall_mem_cons.mpr ⟨lw_p34, List.forall_mem_cons.mpr ⟨lw_p35, List.forall_mem_cons.mpr ⟨lw_p36, List.forall_mem_cons.mpr ⟨lw_p37, List.forall_mem_cons.mpr ⟨lw_p38, List.forall_mem_cons.mpr ⟨lw_p39, List.forall_mem_cons.mpr ⟨lw_p40, List.forall_mem_cons.mpr ⟨lw_p41, List.forall_mem_cons.mpr ⟨lw_p42, List.forall_mem_cons.mpr ⟨lw_p43, List.forall_mem_cons.mpr ⟨lw_p44, List.forall_mem_cons.mpr ⟨lw_p45, List.forall_mem_cons.mpr ⟨lw_p46, List.forall_mem_cons.mpr ⟨lw_p47, fun _ h => absurd h List.not_mem_nil⟩⟩⟩⟩⟩⟩⟩⟩⟩⟩⟩⟩⟩⟩⟩⟩
theorem lw_p48 : lw_okq (⟨"SpinStripsModel", "settles", "(I)V"⟩, 24) := ⟨⟨by decide +kernel, by decide +kernel⟩, List.mem_of_getElem? (i := 662) (by decide +kernel), List.mem_of_getElem? (i := 895) (by decide +kernel), List.mem_of_getElem? (i := 896) (by decide +kernel)⟩
theorem lw_p49 : lw_okq (⟨"SpinStripsModel", "ranked", "(I)I"⟩, 24) := ⟨⟨by decide +kernel, by decide +kernel⟩, List.mem_of_getElem? (i := 662) (by decide +kernel), List.mem_of_getElem? (i := 899) (by decide +kernel), List.mem_of_getElem? (i := 900) (by decide +kernel)⟩
theorem lw_p50 : lw_okq (⟨"SpinStripsModel", "rests", "(I)V"⟩, 24) := ⟨⟨by decide +kernel, by decide +kernel⟩, List.mem_of_getElem? (i := 662) (by decide +kernel), List.mem_of_getElem? (i := 903) (by decide +kernel), List.mem_of_getElem? (i := 904) (by decide +kernel)⟩
theorem lw_p51 : lw_okq (⟨"SpinStripsModel", "fault", "()I"⟩, 24) := ⟨⟨by decide +kernel, by decide +kernel⟩, List.mem_of_getElem? (i := 662) (by decide +kernel), List.mem_of_getElem? (i := 919) (by decide +kernel), List.mem_of_getElem? (i := 920) (by decide +kernel)⟩
theorem lw_p52 : lw_okq (⟨"SpinStripsModel", "readsSigns", "(I)I"⟩, 24) := ⟨⟨by decide +kernel, by decide +kernel⟩, List.mem_of_getElem? (i := 662) (by decide +kernel), List.mem_of_getElem? (i := 923) (by decide +kernel), List.mem_of_getElem? (i := 924) (by decide +kernel)⟩
theorem lw_p53 : lw_okq (⟨"SpinStripsModel", "isHere", "(I)Z"⟩, 24) := ⟨⟨by decide +kernel, by decide +kernel⟩, List.mem_of_getElem? (i := 662) (by decide +kernel), List.mem_of_getElem? (i := 927) (by decide +kernel), List.mem_of_getElem? (i := 928) (by decide +kernel)⟩
theorem lw_p54 : lw_okq (⟨"SpinStripsModel", "neighbours", "(IIZ)I"⟩, 24) := ⟨⟨by decide +kernel, by decide +kernel⟩, List.mem_of_getElem? (i := 662) (by decide +kernel), List.mem_of_getElem? (i := 947) (by decide +kernel), List.mem_of_getElem? (i := 948) (by decide +kernel)⟩
theorem lw_p55 : lw_okq (⟨"SpinStripsModel", "with", "(II)I"⟩, 24) := ⟨⟨by decide +kernel, by decide +kernel⟩, List.mem_of_getElem? (i := 662) (by decide +kernel), List.mem_of_getElem? (i := 959) (by decide +kernel), List.mem_of_getElem? (i := 960) (by decide +kernel)⟩
theorem lw_p56 : lw_okq (⟨"SpinStripsModel", "countsAll", "(I)V"⟩, 24) := ⟨⟨by decide +kernel, by decide +kernel⟩, List.mem_of_getElem? (i := 662) (by decide +kernel), List.mem_of_getElem? (i := 963) (by decide +kernel), List.mem_of_getElem? (i := 964) (by decide +kernel)⟩
theorem lw_p57 : lw_okq (⟨"SpinStripsModel", "countsFrom", "(IIIZ)V"⟩, 24) := ⟨⟨by decide +kernel, by decide +kernel⟩, List.mem_of_getElem? (i := 662) (by decide +kernel), List.mem_of_getElem? (i := 967) (by decide +kernel), List.mem_of_getElem? (i := 968) (by decide +kernel)⟩
theorem lw_p58 : lw_okq (⟨"SpinStripsModel", "least", "()I"⟩, 24) := ⟨⟨by decide +kernel, by decide +kernel⟩, List.mem_of_getElem? (i := 662) (by decide +kernel), List.mem_of_getElem? (i := 990) (by decide +kernel), List.mem_of_getElem? (i := 991) (by decide +kernel)⟩
theorem lw_p59 : lw_okq (⟨"SpinStripsModel", "greatest", "()I"⟩, 24) := ⟨⟨by decide +kernel, by decide +kernel⟩, List.mem_of_getElem? (i := 662) (by decide +kernel), List.mem_of_getElem? (i := 994) (by decide +kernel), List.mem_of_getElem? (i := 995) (by decide +kernel)⟩
theorem lw_p60 : lw_okq (⟨"SpinStripsModel", "upsNow", "()I"⟩, 24) := ⟨⟨by decide +kernel, by decide +kernel⟩, List.mem_of_getElem? (i := 662) (by decide +kernel), List.mem_of_getElem? (i := 1012) (by decide +kernel), List.mem_of_getElem? (i := 1013) (by decide +kernel)⟩
theorem lw_p61 : lw_okq (⟨"SpinStripsModel", "ofAll", "(I)I"⟩, 24) := ⟨⟨by decide +kernel, by decide +kernel⟩, List.mem_of_getElem? (i := 662) (by decide +kernel), List.mem_of_getElem? (i := 1016) (by decide +kernel), List.mem_of_getElem? (i := 1017) (by decide +kernel)⟩
theorem lw_p62 : lw_okq (⟨"SpinStripsModel", "patches", "()I"⟩, 24) := ⟨⟨by decide +kernel, by decide +kernel⟩, List.mem_of_getElem? (i := 662) (by decide +kernel), List.mem_of_getElem? (i := 1020) (by decide +kernel), List.mem_of_getElem? (i := 1021) (by decide +kernel)⟩
theorem lw_p63 : lw_okq (⟨"SpinStripsModel", "thatWouldTurn", "()I"⟩, 24) := ⟨⟨by decide +kernel, by decide +kernel⟩, List.mem_of_getElem? (i := 662) (by decide +kernel), List.mem_of_getElem? (i := 1024) (by decide +kernel), List.mem_of_getElem? (i := 1025) (by decide +kernel)⟩
def lw_privs_4 : List (MethodName × Nat) := [(⟨"SpinStripsModel", "settles", "(I)V"⟩, 24), (⟨"SpinStripsModel", "ranked", "(I)I"⟩, 24), (⟨"SpinStripsModel", "rests", "(I)V"⟩, 24), (⟨"SpinStripsModel", "fault", "()I"⟩, 24), (⟨"SpinStripsModel", "readsSigns", "(I)I"⟩, 24), (⟨"SpinStripsModel", "isHere", "(I)Z"⟩, 24), (⟨"SpinStripsModel", "neighbours", "(IIZ)I"⟩, 24), (⟨"SpinStripsModel", "with", "(II)I"⟩, 24), (⟨"SpinStripsModel", "countsAll", "(I)V"⟩, 24), (⟨"SpinStripsModel", "countsFrom", "(IIIZ)V"⟩, 24), (⟨"SpinStripsModel", "least", "()I"⟩, 24), (⟨"SpinStripsModel", "greatest", "()I"⟩, 24), (⟨"SpinStripsModel", "upsNow", "()I"⟩, 24), (⟨"SpinStripsModel", "ofAll", "(I)I"⟩, 24), (⟨"SpinStripsModel", "patches", "()I"⟩, 24), (⟨"SpinStripsModel", "thatWouldTurn", "()I"⟩, 24)]
theorem lw_r4 : ∀ q ∈ lw_privs_4, lw_okq q := List.forall_mem_cons.mpr ⟨lw_p48, List.forall_mem_cons.mpr ⟨lw_p49, List.forall_mem_cons.mpr ⟨lw_p50, List.forall_mem_cons.mpr ⟨lw_p51, List.forall_mem_cons.mpr ⟨lw_p52, List.forall_mem_cons.mpr ⟨lw_p53, List.forall_mem_cons.mpr ⟨lw_p54, List.forall_mem_cons.mpr ⟨lw_p55, List.forall_mem_cons.mpr ⟨lw_p56, List.forall_mem_cons.mpr ⟨lw_p57, List.forall_mem_cons.mpr ⟨lw_p58, List.forall_mem_cons.mpr ⟨lw_p59, List.forall_mem_cons.mpr ⟨lw_p60, List.forall_mem_cons.mpr ⟨lw_p61, List.forall_mem_cons.mpr ⟨lw_p62, List.forall_mem_cons.mpr ⟨lw_p63, fun _ h => absurd h List.not_mem_nil⟩⟩⟩⟩⟩⟩⟩⟩⟩⟩⟩⟩⟩⟩⟩⟩
theorem lw_p64 : lw_okq (⟨"SpinStripsModel", "pairs", "()I"⟩, 24) := ⟨⟨by decide +kernel, by decide +kernel⟩, List.mem_of_getElem? (i := 662) (by decide +kernel), List.mem_of_getElem? (i := 1028) (by decide +kernel), List.mem_of_getElem? (i := 1029) (by decide +kernel)⟩
def lw_privs_5 : List (MethodName × Nat) := [(⟨"SpinStripsModel", "pairs", "()I"⟩, 24)]
theorem lw_r5 : ∀ q ∈ lw_privs_5, lw_okq q := List.forall_mem_cons.mpr ⟨lw_p64, fun _ h => absurd h List.not_mem_nil⟩
def lw_privs : List (MethodName × Nat) := lw_privs_1 ++ (lw_privs_2 ++ (lw_privs_3 ++ (lw_privs_4 ++ (lw_privs_5))))
def lw_tbl : List Cond := k2_sels lw_privs ++ tables_1
theorem lw_privs_ok : ∀ q ∈ lw_privs, lw_okq q := by
  show ∀ q ∈ lw_privs_1 ++ (lw_privs_2 ++ (lw_privs_3 ++ (lw_privs_4 ++ (lw_privs_5)))), lw_okq q
  exact List.forall_mem_append.mpr ⟨lw_r1, List.forall_mem_append.mpr ⟨lw_r2, List.forall_mem_append.mpr ⟨lw_r3, List.forall_mem_append.mpr ⟨lw_r4, lw_r5⟩⟩⟩⟩
/-- the streams that the claim lets the run draw from -/
abbrev lw_cs : List Choice := [Jvm.Choice.named "NaN.bits"]
theorem lw_bits : nanBits ∈ lw_cs := by first | decide | exact List.mem_cons_self | simp [lw_cs, nanBits]
end
section
def RX0 : String := "SpinStrips$AllStrips"
def TX0 : u_T := fun k => match k with
  | 0 => ("SpinStrips$AllStrips", "strip", "LSpinStrips$Strip;", true)
  | 1 => ("SpinStrips$AllStrips", "prices", "LSpinStrips$Prices;", true)
  | 2 => ("SpinStrips$AllStrips", "wallPrices", "LSpinStrips$Prices;", true)
  | 3 => ("SpinStrips$AllStrips", "sums", "LSpinStrips$Sums;", true)
  | 4 => ("SpinStrips$AllStrips", "least", "LSpinStrips$Least;", true)
  | 5 => ("SpinStrips$AllStrips", "manyByCost", "[I", true)
  | 6 => ("SpinStrips$AllStrips", "manyByWalls", "[I", true)
  | 7 => ("SpinStrips$AllStrips", "manyOfLeastByUps", "[I", true)
  | 8 => ("SpinStrips$AllStrips", "leastCost", "I", false)
  | 9 => ("SpinStrips$AllStrips", "greatestCost", "I", false)
  | 10 => ("SpinStrips$AllStrips", "costsKnown", "Z", false)
  | 11 => ("SpinStrips$AllStrips", "wallsKnown", "Z", false)
  | _ => ("SpinStrips$AllStrips", "leastUpsKnown", "Z", false)
def tyX0 : Nat → FieldType := fun k => match k with
  | 0 => .object "SpinStrips$Strip"
  | 1 => .object "SpinStrips$Prices"
  | 2 => .object "SpinStrips$Prices"
  | 3 => .object "SpinStrips$Sums"
  | 4 => .object "SpinStrips$Least"
  | 5 => .array .int
  | 6 => .array .int
  | 7 => .array .int
  | 8 => .int
  | 9 => .int
  | 10 => .boolean
  | 11 => .boolean
  | _ => .boolean
theorem nmX0 : ∀ a, a < 13 → ∀ b, b < 13 → a ≠ b → (TX0 a).2.1 ≠ (TX0 b).2.1 := by decide +kernel
theorem tyX0_ok : ∀ k, k < 13 → parseFieldDescriptor (TX0 k).2.2.1 = some (tyX0 k) := by decide +kernel
abbrev cX0_init : ByteArray := prog_2_method_1_code
def yX0_init : MethodName := ⟨RX0, "<init>", "(LSpinStrips$Strip;)V"⟩
abbrev cX0_forget : ByteArray := prog_2_method_2_code
def yX0_forget : MethodName := ⟨RX0, "forget", "()V"⟩
abbrev cX0_manyWithEnergy : ByteArray := prog_2_method_3_code
def yX0_manyWithEnergy : MethodName := ⟨RX0, "manyWithEnergy", "(I)I"⟩
abbrev cX0_manyWithWalls : ByteArray := prog_2_method_4_code
def yX0_manyWithWalls : MethodName := ⟨RX0, "manyWithWalls", "(I)I"⟩
abbrev cX0_manyOfLeastWithUps : ByteArray := prog_2_method_5_code
def yX0_manyOfLeastWithUps : MethodName := ⟨RX0, "manyOfLeastWithUps", "(I)I"⟩
abbrev cX0_manyWithUps : ByteArray := prog_2_method_6_code
def yX0_manyWithUps : MethodName := ⟨RX0, "manyWithUps", "(I)I"⟩
abbrev cX0_leastEnergy : ByteArray := prog_2_method_7_code
def yX0_leastEnergy : MethodName := ⟨RX0, "leastEnergy", "()I"⟩
abbrev cX0_greatestEnergy : ByteArray := prog_2_method_8_code
def yX0_greatestEnergy : MethodName := ⟨RX0, "greatestEnergy", "()I"⟩
abbrev cX0_firstWithLeastEnergy : ByteArray := prog_2_method_9_code
def yX0_firstWithLeastEnergy : MethodName := ⟨RX0, "firstWithLeastEnergy", "()J"⟩
abbrev cX0_sumOfWeights : ByteArray := prog_2_method_10_code
def yX0_sumOfWeights : MethodName := ⟨RX0, "sumOfWeights", "(FZ)F"⟩
abbrev cX0_learnCosts : ByteArray := prog_2_method_11_code
def yX0_learnCosts : MethodName := ⟨RX0, "learnCosts", "()V"⟩
abbrev cX0_energyOf : ByteArray := prog_2_method_12_code
def yX0_energyOf : MethodName := ⟨RX0, "energyOf", "(I)I"⟩
abbrev cX0_manyAtEnergy : ByteArray := prog_2_method_13_code
def yX0_manyAtEnergy : MethodName := ⟨RX0, "manyAtEnergy", "(I)I"⟩
abbrev cX0_at : ByteArray := prog_2_method_14_code
def yX0_at : MethodName := ⟨RX0, "at", "([II)I"⟩
def RX1 : String := "SpinStrips$History"
def TX1 : u_T := fun k => match k with
  | 0 => ("SpinStrips$History", "states", "[LSpinStrips$Strip;", true)
  | 1 => ("SpinStrips$History", "oldest", "I", false)
  | _ => ("SpinStrips$History", "size", "I", false)
def tyX1 : Nat → FieldType := fun k => match k with
  | 0 => .array (.object "SpinStrips$Strip")
  | 1 => .int
  | _ => .int
theorem nmX1 : ∀ a, a < 3 → ∀ b, b < 3 → a ≠ b → (TX1 a).2.1 ≠ (TX1 b).2.1 := by decide +kernel
theorem tyX1_ok : ∀ k, k < 3 → parseFieldDescriptor (TX1 k).2.2.1 = some (tyX1 k) := by decide +kernel
abbrev cX1_init : ByteArray := prog_3_method_1_code
def yX1_init : MethodName := ⟨RX1, "<init>", "()V"⟩
abbrev cX1_record : ByteArray := prog_3_method_2_code
def yX1_record : MethodName := ⟨RX1, "record", "(LSpinStrips$Strip;)V"⟩
abbrev cX1_takeLatest : ByteArray := prog_3_method_3_code
def yX1_takeLatest : MethodName := ⟨RX1, "takeLatest", "(LSpinStrips$Strip;)Z"⟩
def RX2 : String := "SpinStrips$Least"
def TX2 : u_T := fun k => match k with
  | 0 => ("SpinStrips$Least", "behind", "[[I", true)
  | 1 => ("SpinStrips$Least", "now", "[[I", false)
  | _ => ("SpinStrips$Least", "next", "[[I", false)
def tyX2 : Nat → FieldType := fun k => match k with
  | 0 => .array (.array .int)
  | 1 => .array (.array .int)
  | _ => .array (.array .int)
theorem nmX2 : ∀ a, a < 3 → ∀ b, b < 3 → a ≠ b → (TX2 a).2.1 ≠ (TX2 b).2.1 := by decide +kernel
theorem tyX2_ok : ∀ k, k < 3 → parseFieldDescriptor (TX2 k).2.2.1 = some (tyX2 k) := by decide +kernel
abbrev cX2_init : ByteArray := prog_4_method_1_code
def yX2_init : MethodName := ⟨RX2, "<init>", "()V"⟩
abbrev cX2_firstStrip : ByteArray := prog_4_method_2_code
def yX2_firstStrip : MethodName := ⟨RX2, "firstStrip", "(LSpinStrips$Prices;)J"⟩
abbrev cX2_fillUps : ByteArray := prog_4_method_3_code
def yX2_fillUps : MethodName := ⟨RX2, "fillUps", "([ILSpinStrips$Prices;)V"⟩
abbrev cX2_leastCost : ByteArray := prog_4_method_4_code
def yX2_leastCost : MethodName := ⟨RX2, "leastCost", "(LSpinStrips$Prices;)I"⟩
abbrev cX2_lookBehind : ByteArray := prog_4_method_5_code
def yX2_lookBehind : MethodName := ⟨RX2, "lookBehind", "(LSpinStrips$Prices;I)I"⟩
abbrev cX2_costOfNext : ByteArray := prog_4_method_6_code
def yX2_costOfNext : MethodName := ⟨RX2, "costOfNext", "(LSpinStrips$Prices;III)I"⟩
abbrev cX2_isLeast : ByteArray := prog_4_method_7_code
def yX2_isLeast : MethodName := ⟨RX2, "isLeast", "(LSpinStrips$Prices;III)Z"⟩
abbrev cX2_follow : ByteArray := prog_4_method_8_code
def yX2_follow : MethodName := ⟨RX2, "follow", "(LSpinStrips$Prices;I)J"⟩
abbrev cX2_firstLeastNext : ByteArray := prog_4_method_9_code
def yX2_firstLeastNext : MethodName := ⟨RX2, "firstLeastNext", "(LSpinStrips$Prices;II)I"⟩
abbrev cX2_addUps : ByteArray := prog_4_method_10_code
def yX2_addUps : MethodName := ⟨RX2, "addUps", "([ILSpinStrips$Prices;I)V"⟩
abbrev cX2_addColumn : ByteArray := prog_4_method_11_code
def yX2_addColumn : MethodName := ⟨RX2, "addColumn", "(LSpinStrips$Prices;I)V"⟩
def RX3 : String := "SpinStrips$Prices"
def TX3 : u_T := fun k => match k with
  | 0 => ("SpinStrips$Prices", "columns", "I", false)
  | 1 => ("SpinStrips$Prices", "rows", "I", false)
  | 2 => ("SpinStrips$Prices", "kinds", "I", false)
  | 3 => ("SpinStrips$Prices", "closed", "Z", false)
  | 4 => ("SpinStrips$Prices", "wholeReach", "I", false)
  | 5 => ("SpinStrips$Prices", "reachUpTo", "[I", true)
  | 6 => ("SpinStrips$Prices", "inside", "[[I", true)
  | _ => ("SpinStrips$Prices", "between", "[[I", true)
def tyX3 : Nat → FieldType := fun k => match k with
  | 0 => .int
  | 1 => .int
  | 2 => .int
  | 3 => .boolean
  | 4 => .int
  | 5 => .array .int
  | 6 => .array (.array .int)
  | _ => .array (.array .int)
theorem nmX3 : ∀ a, a < 8 → ∀ b, b < 8 → a ≠ b → (TX3 a).2.1 ≠ (TX3 b).2.1 := by decide +kernel
theorem tyX3_ok : ∀ k, k < 8 → parseFieldDescriptor (TX3 k).2.2.1 = some (tyX3 k) := by decide +kernel
abbrev cX3_init : ByteArray := prog_5_method_1_code
def yX3_init : MethodName := ⟨RX3, "<init>", "()V"⟩
abbrev cX3_takeFrom : ByteArray := prog_5_method_2_code
def yX3_takeFrom : MethodName := ⟨RX3, "takeFrom", "(LSpinStrips$Strip;Z)V"⟩
abbrev cX3_priceAlong : ByteArray := prog_5_method_3_code
def yX3_priceAlong : MethodName := ⟨RX3, "priceAlong", "(I)V"⟩
abbrev cX3_priceAcross : ByteArray := prog_5_method_4_code
def yX3_priceAcross : MethodName := ⟨RX3, "priceAcross", "(I)V"⟩
abbrev cX3_priceFields : ByteArray := prog_5_method_5_code
def yX3_priceFields : MethodName := ⟨RX3, "priceFields", "(LSpinStrips$Strip;I)I"⟩
abbrev cX3_price : ByteArray := prog_5_method_6_code
def yX3_price : MethodName := ⟨RX3, "price", "(III)I"⟩
abbrev cX3_seam : ByteArray := prog_5_method_7_code
def yX3_seam : MethodName := ⟨RX3, "seam", "(II)I"⟩
abbrev cX3_kindInOrder : ByteArray := prog_5_method_8_code
def yX3_kindInOrder : MethodName := ⟨RX3, "kindInOrder", "(I)I"⟩
def RX4 : String := "SpinStrips$Strip"
def TX4 : u_T := fun k => match k with
  | 0 => ("SpinStrips$Strip", "columns", "I", false)
  | 1 => ("SpinStrips$Strip", "rows", "I", false)
  | 2 => ("SpinStrips$Strip", "ring", "Z", false)
  | 3 => ("SpinStrips$Strip", "along", "I", false)
  | 4 => ("SpinStrips$Strip", "across", "I", false)
  | 5 => ("SpinStrips$Strip", "cells", "J", false)
  | 6 => ("SpinStrips$Strip", "ups", "J", false)
  | 7 => ("SpinStrips$Strip", "turned", "I", false)
  | _ => ("SpinStrips$Strip", "fields", "[I", true)
def tyX4 : Nat → FieldType := fun k => match k with
  | 0 => .int
  | 1 => .int
  | 2 => .boolean
  | 3 => .int
  | 4 => .int
  | 5 => .long
  | 6 => .long
  | 7 => .int
  | _ => .array .int
theorem nmX4 : ∀ a, a < 9 → ∀ b, b < 9 → a ≠ b → (TX4 a).2.1 ≠ (TX4 b).2.1 := by decide +kernel
theorem tyX4_ok : ∀ k, k < 9 → parseFieldDescriptor (TX4 k).2.2.1 = some (tyX4 k) := by decide +kernel
abbrev cX4_init : ByteArray := prog_6_method_1_code
def yX4_init : MethodName := ⟨RX4, "<init>", "()V"⟩
abbrev cX4_place : ByteArray := prog_6_method_2_code
def yX4_place : MethodName := ⟨RX4, "place", "(II)I"⟩
abbrev cX4_bit : ByteArray := prog_6_method_3_code
def yX4_bit : MethodName := ⟨RX4, "bit", "(II)J"⟩
abbrev cX4_allCells : ByteArray := prog_6_method_4_code
def yX4_allCells : MethodName := ⟨RX4, "allCells", "(II)J"⟩
abbrev cX4_has : ByteArray := prog_6_method_5_code
def yX4_has : MethodName := ⟨RX4, "has", "(II)Z"⟩
abbrev cX4_closed : ByteArray := prog_6_method_6_code
def yX4_closed : MethodName := ⟨RX4, "closed", "()Z"⟩
abbrev cX4_copyFrom : ByteArray := prog_6_method_7_code
def yX4_copyFrom : MethodName := ⟨RX4, "copyFrom", "(LSpinStrips$Strip;)V"⟩
abbrev cX4_remake : ByteArray := prog_6_method_8_code
def yX4_remake : MethodName := ⟨RX4, "remake", "(IIZ)V"⟩
abbrev cX4_spinAt : ByteArray := prog_6_method_9_code
def yX4_spinAt : MethodName := ⟨RX4, "spinAt", "(II)I"⟩
abbrev cX4_fieldAt : ByteArray := prog_6_method_10_code
def yX4_fieldAt : MethodName := ⟨RX4, "fieldAt", "(II)I"⟩
abbrev cX4_putField : ByteArray := prog_6_method_11_code
def yX4_putField : MethodName := ⟨RX4, "putField", "(III)V"⟩
abbrev cX4_kindOf : ByteArray := prog_6_method_12_code
def yX4_kindOf : MethodName := ⟨RX4, "kindOf", "(I)I"⟩
abbrev cX4_flip : ByteArray := prog_6_method_13_code
def yX4_flip : MethodName := ⟨RX4, "flip", "(J)V"⟩
abbrev cX4_besideAlong : ByteArray := prog_6_method_14_code
def yX4_besideAlong : MethodName := ⟨RX4, "besideAlong", "(J)J"⟩
abbrev cX4_besideAcross : ByteArray := prog_6_method_15_code
def yX4_besideAcross : MethodName := ⟨RX4, "besideAcross", "(J)J"⟩
abbrev cX4_beside : ByteArray := prog_6_method_16_code
def yX4_beside : MethodName := ⟨RX4, "beside", "(J)J"⟩
abbrev cX4_alike : ByteArray := prog_6_method_17_code
def yX4_alike : MethodName := ⟨RX4, "alike", "(J)J"⟩
abbrev cX4_spinSum : ByteArray := prog_6_method_18_code
def yX4_spinSum : MethodName := ⟨RX4, "spinSum", "(J)I"⟩
abbrev cX4_pullOfNeighbours : ByteArray := prog_6_method_19_code
def yX4_pullOfNeighbours : MethodName := ⟨RX4, "pullOfNeighbours", "(J)I"⟩
abbrev cX4_gain : ByteArray := prog_6_method_20_code
def yX4_gain : MethodName := ⟨RX4, "gain", "(II)I"⟩
abbrev cX4_energy : ByteArray := prog_6_method_21_code
def yX4_energy : MethodName := ⟨RX4, "energy", "()I"⟩
abbrev cX4_walls : ByteArray := prog_6_method_22_code
def yX4_walls : MethodName := ⟨RX4, "walls", "()I"⟩
abbrev cX4_pairs : ByteArray := prog_6_method_23_code
def yX4_pairs : MethodName := ⟨RX4, "pairs", "()I"⟩
abbrev cX4_patchOf : ByteArray := prog_6_method_24_code
def yX4_patchOf : MethodName := ⟨RX4, "patchOf", "(J)J"⟩
abbrev cX4_patches : ByteArray := prog_6_method_25_code
def yX4_patches : MethodName := ⟨RX4, "patches", "()I"⟩
abbrev cX4_gainingCells : ByteArray := prog_6_method_26_code
def yX4_gainingCells : MethodName := ⟨RX4, "gainingCells", "()I"⟩
abbrev cX4_flipGainingCells : ByteArray := prog_6_method_27_code
def yX4_flipGainingCells : MethodName := ⟨RX4, "flipGainingCells", "()I"⟩
def RX5 : String := "SpinStrips$Sums"
def TX5 : u_T := fun k => match k with
  | 0 => ("SpinStrips$Sums", "now", "[[I", false)
  | _ => ("SpinStrips$Sums", "next", "[[I", false)
def tyX5 : Nat → FieldType := fun k => match k with
  | 0 => .array (.array .int)
  | _ => .array (.array .int)
theorem nmX5 : ∀ a, a < 2 → ∀ b, b < 2 → a ≠ b → (TX5 a).2.1 ≠ (TX5 b).2.1 := by decide +kernel
theorem tyX5_ok : ∀ k, k < 2 → parseFieldDescriptor (TX5 k).2.2.1 = some (tyX5 k) := by decide +kernel
abbrev cX5_init : ByteArray := prog_7_method_1_code
def yX5_init : MethodName := ⟨RX5, "<init>", "()V"⟩
abbrev cX5_fill : ByteArray := prog_7_method_2_code
def yX5_fill : MethodName := ⟨RX5, "fill", "([ILSpinStrips$Prices;)V"⟩
abbrev cX5_addStrips : ByteArray := prog_7_method_3_code
def yX5_addStrips : MethodName := ⟨RX5, "addStrips", "([ILSpinStrips$Prices;II)V"⟩
abbrev cX5_begin : ByteArray := prog_7_method_4_code
def yX5_begin : MethodName := ⟨RX5, "begin", "(LSpinStrips$Prices;II)V"⟩
abbrev cX5_addColumn : ByteArray := prog_7_method_5_code
def yX5_addColumn : MethodName := ⟨RX5, "addColumn", "(LSpinStrips$Prices;I)V"⟩
abbrev cX5_addShifted : ByteArray := prog_7_method_6_code
def yX5_addShifted : MethodName := ⟨RX5, "addShifted", "([III[I)V"⟩
def RX6 : String := "SpinStrips$Text"
def TX6 : u_T := fun k => match k with
  | 0 => ("SpinStrips$Text", "characters", "[C", true)
  | 1 => ("SpinStrips$Text", "length", "I", false)
  | 2 => ("SpinStrips$Text", "columns", "I", false)
  | 3 => ("SpinStrips$Text", "rows", "I", false)
  | _ => ("SpinStrips$Text", "ups", "J", false)
def tyX6 : Nat → FieldType := fun k => match k with
  | 0 => .array .char
  | 1 => .int
  | 2 => .int
  | 3 => .int
  | _ => .long
theorem nmX6 : ∀ a, a < 5 → ∀ b, b < 5 → a ≠ b → (TX6 a).2.1 ≠ (TX6 b).2.1 := by decide +kernel
theorem tyX6_ok : ∀ k, k < 5 → parseFieldDescriptor (TX6 k).2.2.1 = some (tyX6 k) := by decide +kernel
abbrev cX6_init : ByteArray := prog_8_method_1_code
def yX6_init : MethodName := ⟨RX6, "<init>", "()V"⟩
abbrev cX6_append : ByteArray := prog_8_method_2_code
def yX6_append : MethodName := ⟨RX6, "append", "(C)Z"⟩
abbrev cX6_firstFault : ByteArray := prog_8_method_3_code
def yX6_firstFault : MethodName := ⟨RX6, "firstFault", "()I"⟩
abbrev cX6_isWhole : ByteArray := prog_8_method_4_code
def yX6_isWhole : MethodName := ⟨RX6, "isWhole", "(I)Z"⟩
abbrev cX6_rowsAllowed : ByteArray := prog_8_method_5_code
def yX6_rowsAllowed : MethodName := ⟨RX6, "rowsAllowed", "()I"⟩
def RX7 : String := "SpinStrips"
def TX7 : u_T := fun k => match k with
  | 0 => ("SpinStrips", "strip", "LSpinStrips$Strip;", true)
  | 1 => ("SpinStrips", "all", "LSpinStrips$AllStrips;", true)
  | 2 => ("SpinStrips", "history", "LSpinStrips$History;", true)
  | 3 => ("SpinStrips", "snapshot", "LSpinStrips$Strip;", true)
  | 4 => ("SpinStrips", "kept", "Z", false)
  | _ => ("SpinStrips", "text", "LSpinStrips$Text;", true)
def tyX7 : Nat → FieldType := fun k => match k with
  | 0 => .object "SpinStrips$Strip"
  | 1 => .object "SpinStrips$AllStrips"
  | 2 => .object "SpinStrips$History"
  | 3 => .object "SpinStrips$Strip"
  | 4 => .boolean
  | _ => .object "SpinStrips$Text"
theorem nmX7 : ∀ a, a < 6 → ∀ b, b < 6 → a ≠ b → (TX7 a).2.1 ≠ (TX7 b).2.1 := by decide +kernel
theorem tyX7_ok : ∀ k, k < 6 → parseFieldDescriptor (TX7 k).2.2.1 = some (tyX7 k) := by decide +kernel
abbrev cX7_init : ByteArray := prog_1_method_1_code
def yX7_init : MethodName := ⟨RX7, "<init>", "()V"⟩
abbrev cX7_lay : ByteArray := prog_1_method_2_code
def yX7_lay : MethodName := ⟨RX7, "lay", "(IIZ)I"⟩
abbrev cX7_read : ByteArray := prog_1_method_3_code
def yX7_read : MethodName := ⟨RX7, "read", "()I"⟩
abbrev cX7_close : ByteArray := prog_1_method_4_code
def yX7_close : MethodName := ⟨RX7, "close", "(Z)I"⟩
abbrev cX7_setPull : ByteArray := prog_1_method_5_code
def yX7_setPull : MethodName := ⟨RX7, "setPull", "(ZI)I"⟩
abbrev cX7_setField : ByteArray := prog_1_method_6_code
def yX7_setField : MethodName := ⟨RX7, "setField", "(III)I"⟩
abbrev cX7_turn : ByteArray := prog_1_method_7_code
def yX7_turn : MethodName := ⟨RX7, "turn", "(II)I"⟩
abbrev cX7_turnPatch : ByteArray := prog_1_method_8_code
def yX7_turnPatch : MethodName := ⟨RX7, "turnPatch", "(II)I"⟩
abbrev cX7_sweep : ByteArray := prog_1_method_9_code
def yX7_sweep : MethodName := ⟨RX7, "sweep", "(I)I"⟩
abbrev cX7_settle : ByteArray := prog_1_method_10_code
def yX7_settle : MethodName := ⟨RX7, "settle", "()I"⟩
abbrev cX7_type : ByteArray := prog_1_method_11_code
def yX7_type : MethodName := ⟨RX7, "type", "(C)I"⟩
abbrev cX7_clearText : ByteArray := prog_1_method_12_code
def yX7_clearText : MethodName := ⟨RX7, "clearText", "()I"⟩
abbrev cX7_undo : ByteArray := prog_1_method_13_code
def yX7_undo : MethodName := ⟨RX7, "undo", "()I"⟩
abbrev cX7_keep : ByteArray := prog_1_method_14_code
def yX7_keep : MethodName := ⟨RX7, "keep", "()I"⟩
abbrev cX7_restore : ByteArray := prog_1_method_15_code
def yX7_restore : MethodName := ⟨RX7, "restore", "()I"⟩
abbrev cX7_cell : ByteArray := prog_1_method_16_code
def yX7_cell : MethodName := ⟨RX7, "cell", "(III)I"⟩
abbrev cX7_column : ByteArray := prog_1_method_17_code
def yX7_column : MethodName := ⟨RX7, "column", "(I)I"⟩
abbrev cX7_withEnergy : ByteArray := prog_1_method_18_code
def yX7_withEnergy : MethodName := ⟨RX7, "withEnergy", "(I)I"⟩
abbrev cX7_withWalls : ByteArray := prog_1_method_19_code
def yX7_withWalls : MethodName := ⟨RX7, "withWalls", "(I)I"⟩
abbrev cX7_withUps : ByteArray := prog_1_method_20_code
def yX7_withUps : MethodName := ⟨RX7, "withUps", "(IZ)I"⟩
abbrev cX7_heat : ByteArray := prog_1_method_21_code
def yX7_heat : MethodName := ⟨RX7, "heat", "(IZ)I"⟩
abbrev cX7_count : ByteArray := prog_1_method_22_code
def yX7_count : MethodName := ⟨RX7, "count", "(I)I"⟩
abbrev cX7_reason : ByteArray := prog_1_method_23_code
def yX7_reason : MethodName := ⟨RX7, "reason", "(I)I"⟩
abbrev cX7_bitsOf : ByteArray := prog_1_method_24_code
def yX7_bitsOf : MethodName := ⟨RX7, "bitsOf", "(F)I"⟩
def RX8 : String := "SpinStripsModel"
def TX8 : u_T := fun k => match k with
  | 0 => ("SpinStripsModel", "all", "[I", true)
  | 1 => ("SpinStripsModel", "kept", "[I", true)
  | 2 => ("SpinStripsModel", "history", "[I", true)
  | 3 => ("SpinStripsModel", "historyLong", "I", false)
  | 4 => ("SpinStripsModel", "snapshot", "[I", true)
  | 5 => ("SpinStripsModel", "isTaken", "I", false)
  | 6 => ("SpinStripsModel", "counts", "[I", true)
  | 7 => ("SpinStripsModel", "now", "[I", true)
  | 8 => ("SpinStripsModel", "then", "[I", true)
  | 9 => ("SpinStripsModel", "leastNow", "[I", true)
  | 10 => ("SpinStripsModel", "manyNow", "[I", true)
  | 11 => ("SpinStripsModel", "leastThen", "[I", true)
  | 12 => ("SpinStripsModel", "manyThen", "[I", true)
  | 13 => ("SpinStripsModel", "leastOf", "[I", true)
  | 14 => ("SpinStripsModel", "manyOf", "[I", true)
  | 15 => ("SpinStripsModel", "rest", "[I", true)
  | 16 => ("SpinStripsModel", "patch", "[I", true)
  | 17 => ("SpinStripsModel", "pile", "[I", true)
  | 18 => ("SpinStripsModel", "patchLong", "I", false)
  | 19 => ("SpinStripsModel", "text", "[I", true)
  | 20 => ("SpinStripsModel", "textLong", "I", false)
  | 21 => ("SpinStripsModel", "spot", "I", false)
  | 22 => ("SpinStripsModel", "readColumns", "I", false)
  | _ => ("SpinStripsModel", "readRows", "I", false)
def tyX8 : Nat → FieldType := fun k => match k with
  | 0 => .array .int
  | 1 => .array .int
  | 2 => .array .int
  | 3 => .int
  | 4 => .array .int
  | 5 => .int
  | 6 => .array .int
  | 7 => .array .int
  | 8 => .array .int
  | 9 => .array .int
  | 10 => .array .int
  | 11 => .array .int
  | 12 => .array .int
  | 13 => .array .int
  | 14 => .array .int
  | 15 => .array .int
  | 16 => .array .int
  | 17 => .array .int
  | 18 => .int
  | 19 => .array .int
  | 20 => .int
  | 21 => .int
  | 22 => .int
  | _ => .int
theorem nmX8 : ∀ a, a < 24 → ∀ b, b < 24 → a ≠ b → (TX8 a).2.1 ≠ (TX8 b).2.1 := by decide +kernel
theorem tyX8_ok : ∀ k, k < 24 → parseFieldDescriptor (TX8 k).2.2.1 = some (tyX8 k) := by decide +kernel
abbrev cX8_init : ByteArray := prog_10_method_1_code
def yX8_init : MethodName := ⟨RX8, "<init>", "()V"⟩
abbrev cX8_in : ByteArray := prog_10_method_3_code
def yX8_in : MethodName := ⟨RX8, "in", "(JJJ)Z"⟩
abbrev cX8_copy : ByteArray := prog_10_method_4_code
def yX8_copy : MethodName := ⟨RX8, "copy", "([I[I)V"⟩
abbrev cX8_remember : ByteArray := prog_10_method_5_code
def yX8_remember : MethodName := ⟨RX8, "remember", "()V"⟩
abbrev cX8_acted : ByteArray := prog_10_method_6_code
def yX8_acted : MethodName := ⟨RX8, "acted", "(I)I"⟩
abbrev cX8_lays : ByteArray := prog_10_method_7_code
def yX8_lays : MethodName := ⟨RX8, "lays", "(II)V"⟩
abbrev cX8_cells : ByteArray := prog_10_method_8_code
def yX8_cells : MethodName := ⟨RX8, "cells", "()I"⟩
abbrev cX8_isRow : ByteArray := prog_10_method_9_code
def yX8_isRow : MethodName := ⟨RX8, "isRow", "(I)Z"⟩
abbrev cX8_isColumn : ByteArray := prog_10_method_10_code
def yX8_isColumn : MethodName := ⟨RX8, "isColumn", "(I)Z"⟩
abbrev cX8_isLoop : ByteArray := prog_10_method_11_code
def yX8_isLoop : MethodName := ⟨RX8, "isLoop", "()Z"⟩
abbrev cX8_spinIn : ByteArray := prog_10_method_12_code
def yX8_spinIn : MethodName := ⟨RX8, "spinIn", "(II)I"⟩
abbrev cX8_spin : ByteArray := prog_10_method_13_code
def yX8_spin : MethodName := ⟨RX8, "spin", "(II)I"⟩
abbrev cX8_fieldAt : ByteArray := prog_10_method_14_code
def yX8_fieldAt : MethodName := ⟨RX8, "fieldAt", "(II)I"⟩
abbrev cX8_beside : ByteArray := prog_10_method_15_code
def yX8_beside : MethodName := ⟨RX8, "beside", "(II)I"⟩
abbrev cX8_ofColumn : ByteArray := prog_10_method_16_code
def yX8_ofColumn : MethodName := ⟨RX8, "ofColumn", "(III)I"⟩
abbrev cX8_ofLink : ByteArray := prog_10_method_17_code
def yX8_ofLink : MethodName := ⟨RX8, "ofLink", "(III)I"⟩
abbrev cX8_ofStrip : ByteArray := prog_10_method_18_code
def yX8_ofStrip : MethodName := ⟨RX8, "ofStrip", "(I)I"⟩
abbrev cX8_energy : ByteArray := prog_10_method_19_code
def yX8_energy : MethodName := ⟨RX8, "energy", "()I"⟩
abbrev cX8_gain : ByteArray := prog_10_method_20_code
def yX8_gain : MethodName := ⟨RX8, "gain", "(II)I"⟩
abbrev cX8_states : ByteArray := prog_10_method_21_code
def yX8_states : MethodName := ⟨RX8, "states", "()I"⟩
abbrev cX8_countsFrom : ByteArray := prog_10_method_22_code
def yX8_countsFrom : MethodName := ⟨RX8, "countsFrom", "(IIIZ)V"⟩
abbrev cX8_countsAll : ByteArray := prog_10_method_23_code
def yX8_countsAll : MethodName := ⟨RX8, "countsAll", "(I)V"⟩
abbrev cX8_least : ByteArray := prog_10_method_24_code
def yX8_least : MethodName := ⟨RX8, "least", "()I"⟩
abbrev cX8_greatest : ByteArray := prog_10_method_25_code
def yX8_greatest : MethodName := ⟨RX8, "greatest", "()I"⟩
abbrev cX8_with : ByteArray := prog_10_method_26_code
def yX8_with : MethodName := ⟨RX8, "with", "(II)I"⟩
abbrev cX8_ups : ByteArray := prog_10_method_27_code
def yX8_ups : MethodName := ⟨RX8, "ups", "(I)I"⟩
abbrev cX8_meets : ByteArray := prog_10_method_28_code
def yX8_meets : MethodName := ⟨RX8, "meets", "([I[IIII)V"⟩
abbrev cX8_upsFrom : ByteArray := prog_10_method_29_code
def yX8_upsFrom : MethodName := ⟨RX8, "upsFrom", "(IIZ)V"⟩
abbrev cX8_upsAll : ByteArray := prog_10_method_30_code
def yX8_upsAll : MethodName := ⟨RX8, "upsAll", "()V"⟩
abbrev cX8_leastEnergy : ByteArray := prog_10_method_31_code
def yX8_leastEnergy : MethodName := ⟨RX8, "leastEnergy", "()I"⟩
abbrev cX8_rests : ByteArray := prog_10_method_32_code
def yX8_rests : MethodName := ⟨RX8, "rests", "(I)V"⟩
abbrev cX8_ranked : ByteArray := prog_10_method_33_code
def yX8_ranked : MethodName := ⟨RX8, "ranked", "(I)I"⟩
abbrev cX8_settles : ByteArray := prog_10_method_34_code
def yX8_settles : MethodName := ⟨RX8, "settles", "(I)V"⟩
abbrev cX8_joins : ByteArray := prog_10_method_35_code
def yX8_joins : MethodName := ⟨RX8, "joins", "(III)V"⟩
abbrev cX8_finds : ByteArray := prog_10_method_36_code
def yX8_finds : MethodName := ⟨RX8, "finds", "(II)V"⟩
abbrev cX8_forgets : ByteArray := prog_10_method_37_code
def yX8_forgets : MethodName := ⟨RX8, "forgets", "()V"⟩
abbrev cX8_patches : ByteArray := prog_10_method_38_code
def yX8_patches : MethodName := ⟨RX8, "patches", "()I"⟩
abbrev cX8_lay : ByteArray := prog_10_method_39_code
def yX8_lay : MethodName := ⟨RX8, "lay", "(IIZ)I"⟩
abbrev cX8_close : ByteArray := prog_10_method_40_code
def yX8_close : MethodName := ⟨RX8, "close", "(Z)I"⟩
abbrev cX8_puts : ByteArray := prog_10_method_41_code
def yX8_puts : MethodName := ⟨RX8, "puts", "(II)I"⟩
abbrev cX8_setPull : ByteArray := prog_10_method_42_code
def yX8_setPull : MethodName := ⟨RX8, "setPull", "(ZI)I"⟩
abbrev cX8_setField : ByteArray := prog_10_method_43_code
def yX8_setField : MethodName := ⟨RX8, "setField", "(III)I"⟩
abbrev cX8_turns : ByteArray := prog_10_method_44_code
def yX8_turns : MethodName := ⟨RX8, "turns", "(II)V"⟩
abbrev cX8_turn : ByteArray := prog_10_method_45_code
def yX8_turn : MethodName := ⟨RX8, "turn", "(II)I"⟩
abbrev cX8_turnPatch : ByteArray := prog_10_method_46_code
def yX8_turnPatch : MethodName := ⟨RX8, "turnPatch", "(II)I"⟩
abbrev cX8_sweeps : ByteArray := prog_10_method_47_code
def yX8_sweeps : MethodName := ⟨RX8, "sweeps", "()I"⟩
abbrev cX8_sweep : ByteArray := prog_10_method_48_code
def yX8_sweep : MethodName := ⟨RX8, "sweep", "(I)I"⟩
abbrev cX8_settle : ByteArray := prog_10_method_49_code
def yX8_settle : MethodName := ⟨RX8, "settle", "()I"⟩
abbrev cX8_type : ByteArray := prog_10_method_50_code
def yX8_type : MethodName := ⟨RX8, "type", "(C)I"⟩
abbrev cX8_clearText : ByteArray := prog_10_method_51_code
def yX8_clearText : MethodName := ⟨RX8, "clearText", "()I"⟩
abbrev cX8_isHere : ByteArray := prog_10_method_52_code
def yX8_isHere : MethodName := ⟨RX8, "isHere", "(I)Z"⟩
abbrev cX8_readsSigns : ByteArray := prog_10_method_53_code
def yX8_readsSigns : MethodName := ⟨RX8, "readsSigns", "(I)I"⟩
abbrev cX8_fault : ByteArray := prog_10_method_54_code
def yX8_fault : MethodName := ⟨RX8, "fault", "()I"⟩
abbrev cX8_read : ByteArray := prog_10_method_55_code
def yX8_read : MethodName := ⟨RX8, "read", "()I"⟩
abbrev cX8_undo : ByteArray := prog_10_method_56_code
def yX8_undo : MethodName := ⟨RX8, "undo", "()I"⟩
abbrev cX8_keep : ByteArray := prog_10_method_57_code
def yX8_keep : MethodName := ⟨RX8, "keep", "()I"⟩
abbrev cX8_restore : ByteArray := prog_10_method_58_code
def yX8_restore : MethodName := ⟨RX8, "restore", "()I"⟩
abbrev cX8_neighbours : ByteArray := prog_10_method_59_code
def yX8_neighbours : MethodName := ⟨RX8, "neighbours", "(IIZ)I"⟩
abbrev cX8_cell : ByteArray := prog_10_method_60_code
def yX8_cell : MethodName := ⟨RX8, "cell", "(III)I"⟩
abbrev cX8_column : ByteArray := prog_10_method_61_code
def yX8_column : MethodName := ⟨RX8, "column", "(I)I"⟩
abbrev cX8_withEnergy : ByteArray := prog_10_method_62_code
def yX8_withEnergy : MethodName := ⟨RX8, "withEnergy", "(I)I"⟩
abbrev cX8_withWalls : ByteArray := prog_10_method_63_code
def yX8_withWalls : MethodName := ⟨RX8, "withWalls", "(I)I"⟩
abbrev cX8_choices : ByteArray := prog_10_method_64_code
def yX8_choices : MethodName := ⟨RX8, "choices", "(II)I"⟩
abbrev cX8_withUps : ByteArray := prog_10_method_65_code
def yX8_withUps : MethodName := ⟨RX8, "withUps", "(IZ)I"⟩
abbrev cX8_heat : ByteArray := prog_10_method_66_code
def yX8_heat : MethodName := ⟨RX8, "heat", "(IZ)I"⟩
abbrev cX8_upsNow : ByteArray := prog_10_method_67_code
def yX8_upsNow : MethodName := ⟨RX8, "upsNow", "()I"⟩
abbrev cX8_thatWouldTurn : ByteArray := prog_10_method_68_code
def yX8_thatWouldTurn : MethodName := ⟨RX8, "thatWouldTurn", "()I"⟩
abbrev cX8_pairs : ByteArray := prog_10_method_69_code
def yX8_pairs : MethodName := ⟨RX8, "pairs", "()I"⟩
abbrev cX8_ofAll : ByteArray := prog_10_method_70_code
def yX8_ofAll : MethodName := ⟨RX8, "ofAll", "(I)I"⟩
abbrev cX8_count : ByteArray := prog_10_method_71_code
def yX8_count : MethodName := ⟨RX8, "count", "(I)I"⟩
def RJx145de : String := "java/io/Serializable"
def RJxb160c : String := "java/lang/Comparable"
def RJxf58ca : String := "java/lang/Float"
abbrev cJxf58ca_isNaN_12338 : ByteArray := prog_11_method_6_code
def yJxf58ca_isNaN_12338 : MethodName := ⟨RJxf58ca, "isNaN", "(F)Z"⟩
abbrev cJxf58ca_floatToIntBits_5c35a : ByteArray := prog_11_method_24_code
def yJxf58ca_floatToIntBits_5c35a : MethodName := ⟨RJxf58ca, "floatToIntBits", "(F)I"⟩
def RJ6 : String := "java/lang/Integer"
abbrev cJ6_bitCount_0f7a4 : ByteArray := prog_12_method_49_code
def yJ6_bitCount_0f7a4 : MethodName := ⟨RJ6, "bitCount", "(I)I"⟩
def RJ13 : String := "java/lang/Long"
abbrev cJ13_bitCount_95d88 : ByteArray := prog_13_method_50_code
def yJ13_bitCount_95d88 : MethodName := ⟨RJ13, "bitCount", "(J)I"⟩
def RJ9 : String := "java/lang/Math"
abbrev cJ9_abs_0f7a4 : ByteArray := prog_14_method_59_code
def yJ9_abs_0f7a4 : MethodName := ⟨RJ9, "abs", "(I)I"⟩
abbrev cJ9_min_7cf53 : ByteArray := prog_14_method_69_code
def yJ9_min_7cf53 : MethodName := ⟨RJ9, "min", "(II)I"⟩
def RJxd2413 : String := "java/lang/Number"
def RJ10 : String := "java/lang/System"
def RJxfd54e : String := "java/lang/constant/Constable"
def RJx3cf43 : String := "java/lang/constant/ConstantDesc"
def RJ7 : String := "java/util/Arrays"
abbrev cJ7_fill_53178 : ByteArray := prog_17_method_103_code
def yJ7_fill_53178 : MethodName := ⟨RJ7, "fill", "([II)V"⟩
def RL : String := "SpinStripsLaw"
abbrev cL_law : ByteArray := code
def yL_law : MethodName := ⟨RL, "law", "([I)Z"⟩
abbrev vwCl : List vw_C := [(RX0, TX0, 13), (RX1, TX1, 3), (RX2, TX2, 3), (RX3, TX3, 8), (RX4, TX4, 9), (RX5, TX5, 2), (RX6, TX6, 5), (RX7, TX7, 6), (RX8, TX8, 24)]
end
section
theorem dX0_init_0 : decode cX0_init 0 = .ok (.aload_n 0, 1) := by decide +kernel
theorem dX0_init_1 : decode cX0_init 1 = .ok (.invokespecial 3, 3) := by decide +kernel
theorem dX0_init_4 : decode cX0_init 4 = .ok (.aload_n 0, 1) := by decide +kernel
theorem dX0_init_5 : decode cX0_init 5 = .ok (.new 9, 3) := by decide +kernel
theorem dX0_init_8 : decode cX0_init 8 = .ok (.dup, 1) := by decide +kernel
theorem dX0_init_9 : decode cX0_init 9 = .ok (.invokespecial 11, 3) := by decide +kernel
theorem dX0_init_12 : decode cX0_init 12 = .ok (.putfield 12, 3) := by decide +kernel
theorem dX0_init_15 : decode cX0_init 15 = .ok (.aload_n 0, 1) := by decide +kernel
theorem dX0_init_16 : decode cX0_init 16 = .ok (.new 9, 3) := by decide +kernel
theorem dX0_init_19 : decode cX0_init 19 = .ok (.dup, 1) := by decide +kernel
theorem dX0_init_20 : decode cX0_init 20 = .ok (.invokespecial 11, 3) := by decide +kernel
theorem dX0_init_23 : decode cX0_init 23 = .ok (.putfield 18, 3) := by decide +kernel
theorem dX0_init_26 : decode cX0_init 26 = .ok (.aload_n 0, 1) := by decide +kernel
theorem dX0_init_27 : decode cX0_init 27 = .ok (.new 21, 3) := by decide +kernel
theorem dX0_init_30 : decode cX0_init 30 = .ok (.dup, 1) := by decide +kernel
theorem dX0_init_31 : decode cX0_init 31 = .ok (.invokespecial 23, 3) := by decide +kernel
theorem dX0_init_34 : decode cX0_init 34 = .ok (.putfield 24, 3) := by decide +kernel
theorem dX0_init_37 : decode cX0_init 37 = .ok (.aload_n 0, 1) := by decide +kernel
theorem dX0_init_38 : decode cX0_init 38 = .ok (.new 28, 3) := by decide +kernel
theorem dX0_init_41 : decode cX0_init 41 = .ok (.dup, 1) := by decide +kernel
theorem dX0_init_42 : decode cX0_init 42 = .ok (.invokespecial 30, 3) := by decide +kernel
theorem dX0_init_45 : decode cX0_init 45 = .ok (.putfield 31, 3) := by decide +kernel
theorem dX0_init_48 : decode cX0_init 48 = .ok (.aload_n 0, 1) := by decide +kernel
theorem dX0_init_49 : decode cX0_init 49 = .ok (.sipush 191, 3) := by decide +kernel
theorem dX0_init_52 : decode cX0_init 52 = .ok (.newarray .int, 2) := by decide +kernel
theorem dX0_init_54 : decode cX0_init 54 = .ok (.putfield 35, 3) := by decide +kernel
theorem dX0_init_57 : decode cX0_init 57 = .ok (.aload_n 0, 1) := by decide +kernel
theorem dX0_init_58 : decode cX0_init 58 = .ok (.sipush 191, 3) := by decide +kernel
theorem dX0_init_61 : decode cX0_init 61 = .ok (.newarray .int, 2) := by decide +kernel
theorem dX0_init_63 : decode cX0_init 63 = .ok (.putfield 39, 3) := by decide +kernel
theorem dX0_init_66 : decode cX0_init 66 = .ok (.aload_n 0, 1) := by decide +kernel
theorem dX0_init_67 : decode cX0_init 67 = .ok (.bipush 31, 2) := by decide +kernel
theorem dX0_init_69 : decode cX0_init 69 = .ok (.newarray .int, 2) := by decide +kernel
theorem dX0_init_71 : decode cX0_init 71 = .ok (.putfield 42, 3) := by decide +kernel
theorem dX0_init_74 : decode cX0_init 74 = .ok (.aload_n 0, 1) := by decide +kernel
theorem dX0_init_75 : decode cX0_init 75 = .ok (.iconst 0, 1) := by decide +kernel
theorem dX0_init_76 : decode cX0_init 76 = .ok (.putfield 45, 3) := by decide +kernel
theorem dX0_init_79 : decode cX0_init 79 = .ok (.aload_n 0, 1) := by decide +kernel
theorem dX0_init_80 : decode cX0_init 80 = .ok (.iconst 0, 1) := by decide +kernel
theorem dX0_init_81 : decode cX0_init 81 = .ok (.putfield 49, 3) := by decide +kernel
theorem dX0_init_84 : decode cX0_init 84 = .ok (.aload_n 0, 1) := by decide +kernel
theorem dX0_init_85 : decode cX0_init 85 = .ok (.iconst 0, 1) := by decide +kernel
theorem dX0_init_86 : decode cX0_init 86 = .ok (.putfield 52, 3) := by decide +kernel
theorem dX0_init_89 : decode cX0_init 89 = .ok (.aload_n 0, 1) := by decide +kernel
theorem dX0_init_90 : decode cX0_init 90 = .ok (.iconst 0, 1) := by decide +kernel
theorem dX0_init_91 : decode cX0_init 91 = .ok (.putfield 56, 3) := by decide +kernel
theorem dX0_init_94 : decode cX0_init 94 = .ok (.aload_n 0, 1) := by decide +kernel
theorem dX0_init_95 : decode cX0_init 95 = .ok (.iconst 0, 1) := by decide +kernel
theorem dX0_init_96 : decode cX0_init 96 = .ok (.putfield 59, 3) := by decide +kernel
theorem dX0_init_99 : decode cX0_init 99 = .ok (.aload_n 0, 1) := by decide +kernel
theorem dX0_init_100 : decode cX0_init 100 = .ok (.aload_n 1, 1) := by decide +kernel
theorem dX0_init_101 : decode cX0_init 101 = .ok (.putfield 62, 3) := by decide +kernel
theorem dX0_init_104 : decode cX0_init 104 = .ok (.return_, 1) := by decide +kernel
theorem dX0_forget_0 : decode cX0_forget 0 = .ok (.aload_n 0, 1) := by decide +kernel
theorem dX0_forget_1 : decode cX0_forget 1 = .ok (.iconst 0, 1) := by decide +kernel
theorem dX0_forget_2 : decode cX0_forget 2 = .ok (.putfield 52, 3) := by decide +kernel
theorem dX0_forget_5 : decode cX0_forget 5 = .ok (.aload_n 0, 1) := by decide +kernel
theorem dX0_forget_6 : decode cX0_forget 6 = .ok (.iconst 0, 1) := by decide +kernel
theorem dX0_forget_7 : decode cX0_forget 7 = .ok (.putfield 56, 3) := by decide +kernel
theorem dX0_forget_10 : decode cX0_forget 10 = .ok (.aload_n 0, 1) := by decide +kernel
theorem dX0_forget_11 : decode cX0_forget 11 = .ok (.iconst 0, 1) := by decide +kernel
theorem dX0_forget_12 : decode cX0_forget 12 = .ok (.putfield 59, 3) := by decide +kernel
theorem dX0_forget_15 : decode cX0_forget 15 = .ok (.return_, 1) := by decide +kernel
theorem dX0_manyWithEnergy_0 : decode cX0_manyWithEnergy 0 = .ok (.aload_n 0, 1) := by decide +kernel
theorem dX0_manyWithEnergy_1 : decode cX0_manyWithEnergy 1 = .ok (.invokevirtual 66, 3) := by decide +kernel
theorem dX0_manyWithEnergy_4 : decode cX0_manyWithEnergy 4 = .ok (.aload_n 0, 1) := by decide +kernel
theorem dX0_manyWithEnergy_5 : decode cX0_manyWithEnergy 5 = .ok (.iload_n 1, 1) := by decide +kernel
theorem dX0_manyWithEnergy_6 : decode cX0_manyWithEnergy 6 = .ok (.invokevirtual 69, 3) := by decide +kernel
theorem dX0_manyWithEnergy_9 : decode cX0_manyWithEnergy 9 = .ok (.ireturn, 1) := by decide +kernel
theorem dX0_manyWithWalls_0 : decode cX0_manyWithWalls 0 = .ok (.aload_n 0, 1) := by decide +kernel
theorem dX0_manyWithWalls_1 : decode cX0_manyWithWalls 1 = .ok (.getfield 56, 3) := by decide +kernel
theorem dX0_manyWithWalls_4 : decode cX0_manyWithWalls 4 = .ok (.ifCond .ne 35, 3) := by decide +kernel
theorem dX0_manyWithWalls_7 : decode cX0_manyWithWalls 7 = .ok (.aload_n 0, 1) := by decide +kernel
theorem dX0_manyWithWalls_8 : decode cX0_manyWithWalls 8 = .ok (.getfield 18, 3) := by decide +kernel
theorem dX0_manyWithWalls_11 : decode cX0_manyWithWalls 11 = .ok (.aload_n 0, 1) := by decide +kernel
theorem dX0_manyWithWalls_12 : decode cX0_manyWithWalls 12 = .ok (.getfield 62, 3) := by decide +kernel
theorem dX0_manyWithWalls_15 : decode cX0_manyWithWalls 15 = .ok (.iconst 1, 1) := by decide +kernel
theorem dX0_manyWithWalls_16 : decode cX0_manyWithWalls 16 = .ok (.invokevirtual 73, 3) := by decide +kernel
theorem dX0_manyWithWalls_19 : decode cX0_manyWithWalls 19 = .ok (.aload_n 0, 1) := by decide +kernel
theorem dX0_manyWithWalls_20 : decode cX0_manyWithWalls 20 = .ok (.getfield 24, 3) := by decide +kernel
theorem dX0_manyWithWalls_23 : decode cX0_manyWithWalls 23 = .ok (.aload_n 0, 1) := by decide +kernel
theorem dX0_manyWithWalls_24 : decode cX0_manyWithWalls 24 = .ok (.getfield 39, 3) := by decide +kernel
theorem dX0_manyWithWalls_27 : decode cX0_manyWithWalls 27 = .ok (.aload_n 0, 1) := by decide +kernel
theorem dX0_manyWithWalls_28 : decode cX0_manyWithWalls 28 = .ok (.getfield 18, 3) := by decide +kernel
theorem dX0_manyWithWalls_31 : decode cX0_manyWithWalls 31 = .ok (.invokevirtual 77, 3) := by decide +kernel
theorem dX0_manyWithWalls_34 : decode cX0_manyWithWalls 34 = .ok (.aload_n 0, 1) := by decide +kernel
theorem dX0_manyWithWalls_35 : decode cX0_manyWithWalls 35 = .ok (.iconst 1, 1) := by decide +kernel
theorem dX0_manyWithWalls_36 : decode cX0_manyWithWalls 36 = .ok (.putfield 56, 3) := by decide +kernel
theorem dX0_manyWithWalls_39 : decode cX0_manyWithWalls 39 = .ok (.aload_n 0, 1) := by decide +kernel
theorem dX0_manyWithWalls_40 : decode cX0_manyWithWalls 40 = .ok (.getfield 39, 3) := by decide +kernel
theorem dX0_manyWithWalls_43 : decode cX0_manyWithWalls 43 = .ok (.iload_n 1, 1) := by decide +kernel
theorem dX0_manyWithWalls_44 : decode cX0_manyWithWalls 44 = .ok (.invokestatic 81, 3) := by decide +kernel
theorem dX0_manyWithWalls_47 : decode cX0_manyWithWalls 47 = .ok (.ireturn, 1) := by decide +kernel
theorem dX0_manyOfLeastWithUps_0 : decode cX0_manyOfLeastWithUps 0 = .ok (.aload_n 0, 1) := by decide +kernel
theorem dX0_manyOfLeastWithUps_1 : decode cX0_manyOfLeastWithUps 1 = .ok (.getfield 59, 3) := by decide +kernel
theorem dX0_manyOfLeastWithUps_4 : decode cX0_manyOfLeastWithUps 4 = .ok (.ifCond .ne 35, 3) := by decide +kernel
theorem dX0_manyOfLeastWithUps_7 : decode cX0_manyOfLeastWithUps 7 = .ok (.aload_n 0, 1) := by decide +kernel
theorem dX0_manyOfLeastWithUps_8 : decode cX0_manyOfLeastWithUps 8 = .ok (.getfield 12, 3) := by decide +kernel
theorem dX0_manyOfLeastWithUps_11 : decode cX0_manyOfLeastWithUps 11 = .ok (.aload_n 0, 1) := by decide +kernel
theorem dX0_manyOfLeastWithUps_12 : decode cX0_manyOfLeastWithUps 12 = .ok (.getfield 62, 3) := by decide +kernel
theorem dX0_manyOfLeastWithUps_15 : decode cX0_manyOfLeastWithUps 15 = .ok (.iconst 0, 1) := by decide +kernel
theorem dX0_manyOfLeastWithUps_16 : decode cX0_manyOfLeastWithUps 16 = .ok (.invokevirtual 73, 3) := by decide +kernel
theorem dX0_manyOfLeastWithUps_19 : decode cX0_manyOfLeastWithUps 19 = .ok (.aload_n 0, 1) := by decide +kernel
theorem dX0_manyOfLeastWithUps_20 : decode cX0_manyOfLeastWithUps 20 = .ok (.getfield 31, 3) := by decide +kernel
theorem dX0_manyOfLeastWithUps_23 : decode cX0_manyOfLeastWithUps 23 = .ok (.aload_n 0, 1) := by decide +kernel
theorem dX0_manyOfLeastWithUps_24 : decode cX0_manyOfLeastWithUps 24 = .ok (.getfield 42, 3) := by decide +kernel
theorem dX0_manyOfLeastWithUps_27 : decode cX0_manyOfLeastWithUps 27 = .ok (.aload_n 0, 1) := by decide +kernel
theorem dX0_manyOfLeastWithUps_28 : decode cX0_manyOfLeastWithUps 28 = .ok (.getfield 12, 3) := by decide +kernel
theorem dX0_manyOfLeastWithUps_31 : decode cX0_manyOfLeastWithUps 31 = .ok (.invokevirtual 85, 3) := by decide +kernel
theorem dX0_manyOfLeastWithUps_34 : decode cX0_manyOfLeastWithUps 34 = .ok (.aload_n 0, 1) := by decide +kernel
theorem dX0_manyOfLeastWithUps_35 : decode cX0_manyOfLeastWithUps 35 = .ok (.iconst 1, 1) := by decide +kernel
theorem dX0_manyOfLeastWithUps_36 : decode cX0_manyOfLeastWithUps 36 = .ok (.putfield 59, 3) := by decide +kernel
theorem dX0_manyOfLeastWithUps_39 : decode cX0_manyOfLeastWithUps 39 = .ok (.aload_n 0, 1) := by decide +kernel
theorem dX0_manyOfLeastWithUps_40 : decode cX0_manyOfLeastWithUps 40 = .ok (.getfield 42, 3) := by decide +kernel
theorem dX0_manyOfLeastWithUps_43 : decode cX0_manyOfLeastWithUps 43 = .ok (.iload_n 1, 1) := by decide +kernel
theorem dX0_manyOfLeastWithUps_44 : decode cX0_manyOfLeastWithUps 44 = .ok (.invokestatic 81, 3) := by decide +kernel
theorem dX0_manyOfLeastWithUps_47 : decode cX0_manyOfLeastWithUps 47 = .ok (.ireturn, 1) := by decide +kernel
theorem dX0_manyWithUps_0 : decode cX0_manyWithUps 0 = .ok (.aload_n 0, 1) := by decide +kernel
theorem dX0_manyWithUps_1 : decode cX0_manyWithUps 1 = .ok (.getfield 62, 3) := by decide +kernel
theorem dX0_manyWithUps_4 : decode cX0_manyWithUps 4 = .ok (.getfield 88, 3) := by decide +kernel
theorem dX0_manyWithUps_7 : decode cX0_manyWithUps 7 = .ok (.aload_n 0, 1) := by decide +kernel
theorem dX0_manyWithUps_8 : decode cX0_manyWithUps 8 = .ok (.getfield 62, 3) := by decide +kernel
theorem dX0_manyWithUps_11 : decode cX0_manyWithUps 11 = .ok (.getfield 93, 3) := by decide +kernel
theorem dX0_manyWithUps_14 : decode cX0_manyWithUps 14 = .ok (.imul, 1) := by decide +kernel
theorem dX0_manyWithUps_15 : decode cX0_manyWithUps 15 = .ok (.istore_n 2, 1) := by decide +kernel
theorem dX0_manyWithUps_16 : decode cX0_manyWithUps 16 = .ok (.iload_n 1, 1) := by decide +kernel
theorem dX0_manyWithUps_17 : decode cX0_manyWithUps 17 = .ok (.ifCond .lt 8, 3) := by decide +kernel
theorem dX0_manyWithUps_20 : decode cX0_manyWithUps 20 = .ok (.iload_n 1, 1) := by decide +kernel
theorem dX0_manyWithUps_21 : decode cX0_manyWithUps 21 = .ok (.iload_n 2, 1) := by decide +kernel
theorem dX0_manyWithUps_22 : decode cX0_manyWithUps 22 = .ok (.if_icmp .le 5, 3) := by decide +kernel
theorem dX0_manyWithUps_25 : decode cX0_manyWithUps 25 = .ok (.iconst 0, 1) := by decide +kernel
theorem dX0_manyWithUps_26 : decode cX0_manyWithUps 26 = .ok (.ireturn, 1) := by decide +kernel
theorem dX0_manyWithUps_27 : decode cX0_manyWithUps 27 = .ok (.lconst 1, 1) := by decide +kernel
theorem dX0_manyWithUps_28 : decode cX0_manyWithUps 28 = .ok (.lstore_n 3, 1) := by decide +kernel
theorem dX0_manyWithUps_29 : decode cX0_manyWithUps 29 = .ok (.iconst 1, 1) := by decide +kernel
theorem dX0_manyWithUps_30 : decode cX0_manyWithUps 30 = .ok (.istore 5, 2) := by decide +kernel
theorem dX0_manyWithUps_32 : decode cX0_manyWithUps 32 = .ok (.iload 5, 2) := by decide +kernel
theorem dX0_manyWithUps_34 : decode cX0_manyWithUps 34 = .ok (.iload_n 1, 1) := by decide +kernel
theorem dX0_manyWithUps_35 : decode cX0_manyWithUps 35 = .ok (.if_icmp .gt 23, 3) := by decide +kernel
theorem dX0_manyWithUps_38 : decode cX0_manyWithUps 38 = .ok (.lload_n 3, 1) := by decide +kernel
theorem dX0_manyWithUps_39 : decode cX0_manyWithUps 39 = .ok (.iload_n 2, 1) := by decide +kernel
theorem dX0_manyWithUps_40 : decode cX0_manyWithUps 40 = .ok (.iload 5, 2) := by decide +kernel
theorem dX0_manyWithUps_42 : decode cX0_manyWithUps 42 = .ok (.isub, 1) := by decide +kernel
theorem dX0_manyWithUps_43 : decode cX0_manyWithUps 43 = .ok (.iconst 1, 1) := by decide +kernel
theorem dX0_manyWithUps_44 : decode cX0_manyWithUps 44 = .ok (.iadd, 1) := by decide +kernel
theorem dX0_manyWithUps_45 : decode cX0_manyWithUps 45 = .ok (.i2l, 1) := by decide +kernel
theorem dX0_manyWithUps_46 : decode cX0_manyWithUps 46 = .ok (.lmul, 1) := by decide +kernel
theorem dX0_manyWithUps_47 : decode cX0_manyWithUps 47 = .ok (.iload 5, 2) := by decide +kernel
theorem dX0_manyWithUps_49 : decode cX0_manyWithUps 49 = .ok (.i2l, 1) := by decide +kernel
theorem dX0_manyWithUps_50 : decode cX0_manyWithUps 50 = .ok (.ldiv, 1) := by decide +kernel
theorem dX0_manyWithUps_51 : decode cX0_manyWithUps 51 = .ok (.lstore_n 3, 1) := by decide +kernel
theorem dX0_manyWithUps_52 : decode cX0_manyWithUps 52 = .ok (.iinc 5 1, 3) := by decide +kernel
theorem dX0_manyWithUps_55 : decode cX0_manyWithUps 55 = .ok (.goto (-23), 3) := by decide +kernel
theorem dX0_manyWithUps_58 : decode cX0_manyWithUps 58 = .ok (.lload_n 3, 1) := by decide +kernel
theorem dX0_manyWithUps_59 : decode cX0_manyWithUps 59 = .ok (.l2i, 1) := by decide +kernel
theorem dX0_manyWithUps_60 : decode cX0_manyWithUps 60 = .ok (.ireturn, 1) := by decide +kernel
theorem dX0_leastEnergy_0 : decode cX0_leastEnergy 0 = .ok (.aload_n 0, 1) := by decide +kernel
theorem dX0_leastEnergy_1 : decode cX0_leastEnergy 1 = .ok (.invokevirtual 66, 3) := by decide +kernel
theorem dX0_leastEnergy_4 : decode cX0_leastEnergy 4 = .ok (.aload_n 0, 1) := by decide +kernel
theorem dX0_leastEnergy_5 : decode cX0_leastEnergy 5 = .ok (.aload_n 0, 1) := by decide +kernel
theorem dX0_leastEnergy_6 : decode cX0_leastEnergy 6 = .ok (.getfield 45, 3) := by decide +kernel
theorem dX0_leastEnergy_9 : decode cX0_leastEnergy 9 = .ok (.invokevirtual 96, 3) := by decide +kernel
theorem dX0_leastEnergy_12 : decode cX0_leastEnergy 12 = .ok (.ireturn, 1) := by decide +kernel
theorem dX0_greatestEnergy_0 : decode cX0_greatestEnergy 0 = .ok (.aload_n 0, 1) := by decide +kernel
theorem dX0_greatestEnergy_1 : decode cX0_greatestEnergy 1 = .ok (.invokevirtual 66, 3) := by decide +kernel
theorem dX0_greatestEnergy_4 : decode cX0_greatestEnergy 4 = .ok (.aload_n 0, 1) := by decide +kernel
theorem dX0_greatestEnergy_5 : decode cX0_greatestEnergy 5 = .ok (.aload_n 0, 1) := by decide +kernel
theorem dX0_greatestEnergy_6 : decode cX0_greatestEnergy 6 = .ok (.getfield 49, 3) := by decide +kernel
theorem dX0_greatestEnergy_9 : decode cX0_greatestEnergy 9 = .ok (.invokevirtual 96, 3) := by decide +kernel
theorem dX0_greatestEnergy_12 : decode cX0_greatestEnergy 12 = .ok (.ireturn, 1) := by decide +kernel
theorem dX0_firstWithLeastEnergy_0 : decode cX0_firstWithLeastEnergy 0 = .ok (.aload_n 0, 1) := by decide +kernel
theorem dX0_firstWithLeastEnergy_1 : decode cX0_firstWithLeastEnergy 1 = .ok (.getfield 12, 3) := by decide +kernel
theorem dX0_firstWithLeastEnergy_4 : decode cX0_firstWithLeastEnergy 4 = .ok (.aload_n 0, 1) := by decide +kernel
theorem dX0_firstWithLeastEnergy_5 : decode cX0_firstWithLeastEnergy 5 = .ok (.getfield 62, 3) := by decide +kernel
theorem dX0_firstWithLeastEnergy_8 : decode cX0_firstWithLeastEnergy 8 = .ok (.iconst 0, 1) := by decide +kernel
theorem dX0_firstWithLeastEnergy_9 : decode cX0_firstWithLeastEnergy 9 = .ok (.invokevirtual 73, 3) := by decide +kernel
theorem dX0_firstWithLeastEnergy_12 : decode cX0_firstWithLeastEnergy 12 = .ok (.aload_n 0, 1) := by decide +kernel
theorem dX0_firstWithLeastEnergy_13 : decode cX0_firstWithLeastEnergy 13 = .ok (.getfield 31, 3) := by decide +kernel
theorem dX0_firstWithLeastEnergy_16 : decode cX0_firstWithLeastEnergy 16 = .ok (.aload_n 0, 1) := by decide +kernel
theorem dX0_firstWithLeastEnergy_17 : decode cX0_firstWithLeastEnergy 17 = .ok (.getfield 12, 3) := by decide +kernel
theorem dX0_firstWithLeastEnergy_20 : decode cX0_firstWithLeastEnergy 20 = .ok (.invokevirtual 99, 3) := by decide +kernel
theorem dX0_firstWithLeastEnergy_23 : decode cX0_firstWithLeastEnergy 23 = .ok (.lreturn, 1) := by decide +kernel
theorem dX0_sumOfWeights_0 : decode cX0_sumOfWeights 0 = .ok (.aload_n 0, 1) := by decide +kernel
theorem dX0_sumOfWeights_1 : decode cX0_sumOfWeights 1 = .ok (.invokevirtual 66, 3) := by decide +kernel
theorem dX0_sumOfWeights_4 : decode cX0_sumOfWeights 4 = .ok (.aload_n 0, 1) := by decide +kernel
theorem dX0_sumOfWeights_5 : decode cX0_sumOfWeights 5 = .ok (.aload_n 0, 1) := by decide +kernel
theorem dX0_sumOfWeights_6 : decode cX0_sumOfWeights 6 = .ok (.getfield 49, 3) := by decide +kernel
theorem dX0_sumOfWeights_9 : decode cX0_sumOfWeights 9 = .ok (.invokevirtual 96, 3) := by decide +kernel
theorem dX0_sumOfWeights_12 : decode cX0_sumOfWeights 12 = .ok (.istore_n 3, 1) := by decide +kernel
theorem dX0_sumOfWeights_13 : decode cX0_sumOfWeights 13 = .ok (.fconst 1, 1) := by decide +kernel
theorem dX0_sumOfWeights_14 : decode cX0_sumOfWeights 14 = .ok (.fstore 4, 2) := by decide +kernel
theorem dX0_sumOfWeights_16 : decode cX0_sumOfWeights 16 = .ok (.fconst 0, 1) := by decide +kernel
theorem dX0_sumOfWeights_17 : decode cX0_sumOfWeights 17 = .ok (.fstore 5, 2) := by decide +kernel
theorem dX0_sumOfWeights_19 : decode cX0_sumOfWeights 19 = .ok (.aload_n 0, 1) := by decide +kernel
theorem dX0_sumOfWeights_20 : decode cX0_sumOfWeights 20 = .ok (.aload_n 0, 1) := by decide +kernel
theorem dX0_sumOfWeights_21 : decode cX0_sumOfWeights 21 = .ok (.getfield 45, 3) := by decide +kernel
theorem dX0_sumOfWeights_24 : decode cX0_sumOfWeights 24 = .ok (.invokevirtual 96, 3) := by decide +kernel
theorem dX0_sumOfWeights_27 : decode cX0_sumOfWeights 27 = .ok (.istore 6, 2) := by decide +kernel
theorem dX0_sumOfWeights_29 : decode cX0_sumOfWeights 29 = .ok (.iload 6, 2) := by decide +kernel
theorem dX0_sumOfWeights_31 : decode cX0_sumOfWeights 31 = .ok (.iload_n 3, 1) := by decide +kernel
theorem dX0_sumOfWeights_32 : decode cX0_sumOfWeights 32 = .ok (.if_icmp .gt 47, 3) := by decide +kernel
theorem dX0_sumOfWeights_35 : decode cX0_sumOfWeights 35 = .ok (.aload_n 0, 1) := by decide +kernel
theorem dX0_sumOfWeights_36 : decode cX0_sumOfWeights 36 = .ok (.iload 6, 2) := by decide +kernel
theorem dX0_sumOfWeights_38 : decode cX0_sumOfWeights 38 = .ok (.invokevirtual 69, 3) := by decide +kernel
theorem dX0_sumOfWeights_41 : decode cX0_sumOfWeights 41 = .ok (.i2f, 1) := by decide +kernel
theorem dX0_sumOfWeights_42 : decode cX0_sumOfWeights 42 = .ok (.fload 4, 2) := by decide +kernel
theorem dX0_sumOfWeights_44 : decode cX0_sumOfWeights 44 = .ok (.fmul, 1) := by decide +kernel
theorem dX0_sumOfWeights_45 : decode cX0_sumOfWeights 45 = .ok (.fstore 7, 2) := by decide +kernel
theorem dX0_sumOfWeights_47 : decode cX0_sumOfWeights 47 = .ok (.fload 5, 2) := by decide +kernel
theorem dX0_sumOfWeights_49 : decode cX0_sumOfWeights 49 = .ok (.iload_n 2, 1) := by decide +kernel
theorem dX0_sumOfWeights_50 : decode cX0_sumOfWeights 50 = .ok (.ifCond .eq 12, 3) := by decide +kernel
theorem dX0_sumOfWeights_53 : decode cX0_sumOfWeights 53 = .ok (.fload 7, 2) := by decide +kernel
theorem dX0_sumOfWeights_55 : decode cX0_sumOfWeights 55 = .ok (.iload 6, 2) := by decide +kernel
theorem dX0_sumOfWeights_57 : decode cX0_sumOfWeights 57 = .ok (.i2f, 1) := by decide +kernel
theorem dX0_sumOfWeights_58 : decode cX0_sumOfWeights 58 = .ok (.fmul, 1) := by decide +kernel
theorem dX0_sumOfWeights_59 : decode cX0_sumOfWeights 59 = .ok (.goto 5, 3) := by decide +kernel
theorem dX0_sumOfWeights_62 : decode cX0_sumOfWeights 62 = .ok (.fload 7, 2) := by decide +kernel
theorem dX0_sumOfWeights_64 : decode cX0_sumOfWeights 64 = .ok (.fadd, 1) := by decide +kernel
theorem dX0_sumOfWeights_65 : decode cX0_sumOfWeights 65 = .ok (.fstore 5, 2) := by decide +kernel
theorem dX0_sumOfWeights_67 : decode cX0_sumOfWeights 67 = .ok (.fload 4, 2) := by decide +kernel
theorem dX0_sumOfWeights_69 : decode cX0_sumOfWeights 69 = .ok (.fload_n 1, 1) := by decide +kernel
theorem dX0_sumOfWeights_70 : decode cX0_sumOfWeights 70 = .ok (.fmul, 1) := by decide +kernel
theorem dX0_sumOfWeights_71 : decode cX0_sumOfWeights 71 = .ok (.fstore 4, 2) := by decide +kernel
theorem dX0_sumOfWeights_73 : decode cX0_sumOfWeights 73 = .ok (.iinc 6 1, 3) := by decide +kernel
theorem dX0_sumOfWeights_76 : decode cX0_sumOfWeights 76 = .ok (.goto (-47), 3) := by decide +kernel
theorem dX0_sumOfWeights_79 : decode cX0_sumOfWeights 79 = .ok (.fload 5, 2) := by decide +kernel
theorem dX0_sumOfWeights_81 : decode cX0_sumOfWeights 81 = .ok (.freturn, 1) := by decide +kernel
theorem dX0_learnCosts_0 : decode cX0_learnCosts 0 = .ok (.aload_n 0, 1) := by decide +kernel
theorem dX0_learnCosts_1 : decode cX0_learnCosts 1 = .ok (.getfield 52, 3) := by decide +kernel
theorem dX0_learnCosts_4 : decode cX0_learnCosts 4 = .ok (.ifCond .eq 4, 3) := by decide +kernel
theorem dX0_learnCosts_7 : decode cX0_learnCosts 7 = .ok (.return_, 1) := by decide +kernel
theorem dX0_learnCosts_8 : decode cX0_learnCosts 8 = .ok (.aload_n 0, 1) := by decide +kernel
theorem dX0_learnCosts_9 : decode cX0_learnCosts 9 = .ok (.getfield 12, 3) := by decide +kernel
theorem dX0_learnCosts_12 : decode cX0_learnCosts 12 = .ok (.aload_n 0, 1) := by decide +kernel
theorem dX0_learnCosts_13 : decode cX0_learnCosts 13 = .ok (.getfield 62, 3) := by decide +kernel
theorem dX0_learnCosts_16 : decode cX0_learnCosts 16 = .ok (.iconst 0, 1) := by decide +kernel
theorem dX0_learnCosts_17 : decode cX0_learnCosts 17 = .ok (.invokevirtual 73, 3) := by decide +kernel
theorem dX0_learnCosts_20 : decode cX0_learnCosts 20 = .ok (.aload_n 0, 1) := by decide +kernel
theorem dX0_learnCosts_21 : decode cX0_learnCosts 21 = .ok (.getfield 24, 3) := by decide +kernel
theorem dX0_learnCosts_24 : decode cX0_learnCosts 24 = .ok (.aload_n 0, 1) := by decide +kernel
theorem dX0_learnCosts_25 : decode cX0_learnCosts 25 = .ok (.getfield 35, 3) := by decide +kernel
theorem dX0_learnCosts_28 : decode cX0_learnCosts 28 = .ok (.aload_n 0, 1) := by decide +kernel
theorem dX0_learnCosts_29 : decode cX0_learnCosts 29 = .ok (.getfield 12, 3) := by decide +kernel
theorem dX0_learnCosts_32 : decode cX0_learnCosts 32 = .ok (.invokevirtual 77, 3) := by decide +kernel
theorem dX0_learnCosts_35 : decode cX0_learnCosts 35 = .ok (.aload_n 0, 1) := by decide +kernel
theorem dX0_learnCosts_36 : decode cX0_learnCosts 36 = .ok (.iconst 0, 1) := by decide +kernel
theorem dX0_learnCosts_37 : decode cX0_learnCosts 37 = .ok (.putfield 45, 3) := by decide +kernel
theorem dX0_learnCosts_40 : decode cX0_learnCosts 40 = .ok (.aload_n 0, 1) := by decide +kernel
theorem dX0_learnCosts_41 : decode cX0_learnCosts 41 = .ok (.getfield 45, 3) := by decide +kernel
theorem dX0_learnCosts_44 : decode cX0_learnCosts 44 = .ok (.sipush 190, 3) := by decide +kernel
theorem dX0_learnCosts_47 : decode cX0_learnCosts 47 = .ok (.if_icmp .ge 28, 3) := by decide +kernel
theorem dX0_learnCosts_50 : decode cX0_learnCosts 50 = .ok (.aload_n 0, 1) := by decide +kernel
theorem dX0_learnCosts_51 : decode cX0_learnCosts 51 = .ok (.getfield 35, 3) := by decide +kernel
theorem dX0_learnCosts_54 : decode cX0_learnCosts 54 = .ok (.aload_n 0, 1) := by decide +kernel
theorem dX0_learnCosts_55 : decode cX0_learnCosts 55 = .ok (.getfield 45, 3) := by decide +kernel
theorem dX0_learnCosts_58 : decode cX0_learnCosts 58 = .ok (.iaload, 1) := by decide +kernel
theorem dX0_learnCosts_59 : decode cX0_learnCosts 59 = .ok (.ifCond .ne 16, 3) := by decide +kernel
theorem dX0_learnCosts_62 : decode cX0_learnCosts 62 = .ok (.aload_n 0, 1) := by decide +kernel
theorem dX0_learnCosts_63 : decode cX0_learnCosts 63 = .ok (.dup, 1) := by decide +kernel
theorem dX0_learnCosts_64 : decode cX0_learnCosts 64 = .ok (.getfield 45, 3) := by decide +kernel
theorem dX0_learnCosts_67 : decode cX0_learnCosts 67 = .ok (.iconst 1, 1) := by decide +kernel
theorem dX0_learnCosts_68 : decode cX0_learnCosts 68 = .ok (.iadd, 1) := by decide +kernel
theorem dX0_learnCosts_69 : decode cX0_learnCosts 69 = .ok (.putfield 45, 3) := by decide +kernel
theorem dX0_learnCosts_72 : decode cX0_learnCosts 72 = .ok (.goto (-32), 3) := by decide +kernel
theorem dX0_learnCosts_75 : decode cX0_learnCosts 75 = .ok (.aload_n 0, 1) := by decide +kernel
theorem dX0_learnCosts_76 : decode cX0_learnCosts 76 = .ok (.sipush 190, 3) := by decide +kernel
theorem dX0_learnCosts_79 : decode cX0_learnCosts 79 = .ok (.putfield 49, 3) := by decide +kernel
theorem dX0_learnCosts_82 : decode cX0_learnCosts 82 = .ok (.aload_n 0, 1) := by decide +kernel
theorem dX0_learnCosts_83 : decode cX0_learnCosts 83 = .ok (.getfield 49, 3) := by decide +kernel
theorem dX0_learnCosts_86 : decode cX0_learnCosts 86 = .ok (.ifCond .le 28, 3) := by decide +kernel
theorem dX0_learnCosts_89 : decode cX0_learnCosts 89 = .ok (.aload_n 0, 1) := by decide +kernel
theorem dX0_learnCosts_90 : decode cX0_learnCosts 90 = .ok (.getfield 35, 3) := by decide +kernel
theorem dX0_learnCosts_93 : decode cX0_learnCosts 93 = .ok (.aload_n 0, 1) := by decide +kernel
theorem dX0_learnCosts_94 : decode cX0_learnCosts 94 = .ok (.getfield 49, 3) := by decide +kernel
theorem dX0_learnCosts_97 : decode cX0_learnCosts 97 = .ok (.iaload, 1) := by decide +kernel
theorem dX0_learnCosts_98 : decode cX0_learnCosts 98 = .ok (.ifCond .ne 16, 3) := by decide +kernel
theorem dX0_learnCosts_101 : decode cX0_learnCosts 101 = .ok (.aload_n 0, 1) := by decide +kernel
theorem dX0_learnCosts_102 : decode cX0_learnCosts 102 = .ok (.dup, 1) := by decide +kernel
theorem dX0_learnCosts_103 : decode cX0_learnCosts 103 = .ok (.getfield 49, 3) := by decide +kernel
theorem dX0_learnCosts_106 : decode cX0_learnCosts 106 = .ok (.iconst 1, 1) := by decide +kernel
theorem dX0_learnCosts_107 : decode cX0_learnCosts 107 = .ok (.isub, 1) := by decide +kernel
theorem dX0_learnCosts_108 : decode cX0_learnCosts 108 = .ok (.putfield 49, 3) := by decide +kernel
theorem dX0_learnCosts_111 : decode cX0_learnCosts 111 = .ok (.goto (-29), 3) := by decide +kernel
theorem dX0_learnCosts_114 : decode cX0_learnCosts 114 = .ok (.aload_n 0, 1) := by decide +kernel
theorem dX0_learnCosts_115 : decode cX0_learnCosts 115 = .ok (.iconst 1, 1) := by decide +kernel
theorem dX0_learnCosts_116 : decode cX0_learnCosts 116 = .ok (.putfield 52, 3) := by decide +kernel
theorem dX0_learnCosts_119 : decode cX0_learnCosts 119 = .ok (.return_, 1) := by decide +kernel
theorem dX0_energyOf_0 : decode cX0_energyOf 0 = .ok (.iconst 2, 1) := by decide +kernel
theorem dX0_energyOf_1 : decode cX0_energyOf 1 = .ok (.iload_n 1, 1) := by decide +kernel
theorem dX0_energyOf_2 : decode cX0_energyOf 2 = .ok (.imul, 1) := by decide +kernel
theorem dX0_energyOf_3 : decode cX0_energyOf 3 = .ok (.aload_n 0, 1) := by decide +kernel
theorem dX0_energyOf_4 : decode cX0_energyOf 4 = .ok (.getfield 12, 3) := by decide +kernel
theorem dX0_energyOf_7 : decode cX0_energyOf 7 = .ok (.getfield 103, 3) := by decide +kernel
theorem dX0_energyOf_10 : decode cX0_energyOf 10 = .ok (.isub, 1) := by decide +kernel
theorem dX0_energyOf_11 : decode cX0_energyOf 11 = .ok (.ireturn, 1) := by decide +kernel
theorem dX0_manyAtEnergy_0 : decode cX0_manyAtEnergy 0 = .ok (.aload_n 0, 1) := by decide +kernel
theorem dX0_manyAtEnergy_1 : decode cX0_manyAtEnergy 1 = .ok (.getfield 12, 3) := by decide +kernel
theorem dX0_manyAtEnergy_4 : decode cX0_manyAtEnergy 4 = .ok (.getfield 103, 3) := by decide +kernel
theorem dX0_manyAtEnergy_7 : decode cX0_manyAtEnergy 7 = .ok (.istore_n 2, 1) := by decide +kernel
theorem dX0_manyAtEnergy_8 : decode cX0_manyAtEnergy 8 = .ok (.iload_n 1, 1) := by decide +kernel
theorem dX0_manyAtEnergy_9 : decode cX0_manyAtEnergy 9 = .ok (.iload_n 2, 1) := by decide +kernel
theorem dX0_manyAtEnergy_10 : decode cX0_manyAtEnergy 10 = .ok (.iadd, 1) := by decide +kernel
theorem dX0_manyAtEnergy_11 : decode cX0_manyAtEnergy 11 = .ok (.iconst 1, 1) := by decide +kernel
theorem dX0_manyAtEnergy_12 : decode cX0_manyAtEnergy 12 = .ok (.iand, 1) := by decide +kernel
theorem dX0_manyAtEnergy_13 : decode cX0_manyAtEnergy 13 = .ok (.iconst 1, 1) := by decide +kernel
theorem dX0_manyAtEnergy_14 : decode cX0_manyAtEnergy 14 = .ok (.if_icmp .ne 7, 3) := by decide +kernel
theorem dX0_manyAtEnergy_17 : decode cX0_manyAtEnergy 17 = .ok (.iconst 1, 1) := by decide +kernel
theorem dX0_manyAtEnergy_18 : decode cX0_manyAtEnergy 18 = .ok (.goto 4, 3) := by decide +kernel
theorem dX0_manyAtEnergy_21 : decode cX0_manyAtEnergy 21 = .ok (.iconst 0, 1) := by decide +kernel
theorem dX0_manyAtEnergy_22 : decode cX0_manyAtEnergy 22 = .ok (.istore_n 3, 1) := by decide +kernel
theorem dX0_manyAtEnergy_23 : decode cX0_manyAtEnergy 23 = .ok (.iload_n 3, 1) := by decide +kernel
theorem dX0_manyAtEnergy_24 : decode cX0_manyAtEnergy 24 = .ok (.ifCond .ne 14, 3) := by decide +kernel
theorem dX0_manyAtEnergy_27 : decode cX0_manyAtEnergy 27 = .ok (.iload_n 1, 1) := by decide +kernel
theorem dX0_manyAtEnergy_28 : decode cX0_manyAtEnergy 28 = .ok (.iload_n 2, 1) := by decide +kernel
theorem dX0_manyAtEnergy_29 : decode cX0_manyAtEnergy 29 = .ok (.ineg, 1) := by decide +kernel
theorem dX0_manyAtEnergy_30 : decode cX0_manyAtEnergy 30 = .ok (.if_icmp .lt 8, 3) := by decide +kernel
theorem dX0_manyAtEnergy_33 : decode cX0_manyAtEnergy 33 = .ok (.iload_n 1, 1) := by decide +kernel
theorem dX0_manyAtEnergy_34 : decode cX0_manyAtEnergy 34 = .ok (.iload_n 2, 1) := by decide +kernel
theorem dX0_manyAtEnergy_35 : decode cX0_manyAtEnergy 35 = .ok (.if_icmp .le 5, 3) := by decide +kernel
theorem dX0_manyAtEnergy_38 : decode cX0_manyAtEnergy 38 = .ok (.iconst 0, 1) := by decide +kernel
theorem dX0_manyAtEnergy_39 : decode cX0_manyAtEnergy 39 = .ok (.ireturn, 1) := by decide +kernel
theorem dX0_manyAtEnergy_40 : decode cX0_manyAtEnergy 40 = .ok (.aload_n 0, 1) := by decide +kernel
theorem dX0_manyAtEnergy_41 : decode cX0_manyAtEnergy 41 = .ok (.getfield 35, 3) := by decide +kernel
theorem dX0_manyAtEnergy_44 : decode cX0_manyAtEnergy 44 = .ok (.iload_n 1, 1) := by decide +kernel
theorem dX0_manyAtEnergy_45 : decode cX0_manyAtEnergy 45 = .ok (.iload_n 2, 1) := by decide +kernel
theorem dX0_manyAtEnergy_46 : decode cX0_manyAtEnergy 46 = .ok (.iadd, 1) := by decide +kernel
theorem dX0_manyAtEnergy_47 : decode cX0_manyAtEnergy 47 = .ok (.iconst 2, 1) := by decide +kernel
theorem dX0_manyAtEnergy_48 : decode cX0_manyAtEnergy 48 = .ok (.idiv, 1) := by decide +kernel
theorem dX0_manyAtEnergy_49 : decode cX0_manyAtEnergy 49 = .ok (.invokestatic 81, 3) := by decide +kernel
theorem dX0_manyAtEnergy_52 : decode cX0_manyAtEnergy 52 = .ok (.ireturn, 1) := by decide +kernel
theorem dX0_at_0 : decode cX0_at 0 = .ok (.iload_n 1, 1) := by decide +kernel
theorem dX0_at_1 : decode cX0_at 1 = .ok (.ifCond .lt 15, 3) := by decide +kernel
theorem dX0_at_4 : decode cX0_at 4 = .ok (.iload_n 1, 1) := by decide +kernel
theorem dX0_at_5 : decode cX0_at 5 = .ok (.aload_n 0, 1) := by decide +kernel
theorem dX0_at_6 : decode cX0_at 6 = .ok (.arraylength, 1) := by decide +kernel
theorem dX0_at_7 : decode cX0_at 7 = .ok (.if_icmp .ge 9, 3) := by decide +kernel
theorem dX0_at_10 : decode cX0_at 10 = .ok (.aload_n 0, 1) := by decide +kernel
theorem dX0_at_11 : decode cX0_at 11 = .ok (.iload_n 1, 1) := by decide +kernel
theorem dX0_at_12 : decode cX0_at 12 = .ok (.iaload, 1) := by decide +kernel
theorem dX0_at_13 : decode cX0_at 13 = .ok (.goto 4, 3) := by decide +kernel
theorem dX0_at_16 : decode cX0_at 16 = .ok (.iconst 0, 1) := by decide +kernel
theorem dX0_at_17 : decode cX0_at 17 = .ok (.ireturn, 1) := by decide +kernel
theorem dX1_init_0 : decode cX1_init 0 = .ok (.aload_n 0, 1) := by decide +kernel
theorem dX1_init_1 : decode cX1_init 1 = .ok (.invokespecial 3, 3) := by decide +kernel
theorem dX1_init_4 : decode cX1_init 4 = .ok (.aload_n 0, 1) := by decide +kernel
theorem dX1_init_5 : decode cX1_init 5 = .ok (.iconst 4, 1) := by decide +kernel
theorem dX1_init_6 : decode cX1_init 6 = .ok (.anewarray 9, 3) := by decide +kernel
theorem dX1_init_9 : decode cX1_init 9 = .ok (.putfield 11, 3) := by decide +kernel
theorem dX1_init_12 : decode cX1_init 12 = .ok (.aload_n 0, 1) := by decide +kernel
theorem dX1_init_13 : decode cX1_init 13 = .ok (.iconst 0, 1) := by decide +kernel
theorem dX1_init_14 : decode cX1_init 14 = .ok (.putfield 17, 3) := by decide +kernel
theorem dX1_init_17 : decode cX1_init 17 = .ok (.aload_n 0, 1) := by decide +kernel
theorem dX1_init_18 : decode cX1_init 18 = .ok (.iconst 0, 1) := by decide +kernel
theorem dX1_init_19 : decode cX1_init 19 = .ok (.putfield 21, 3) := by decide +kernel
theorem dX1_init_22 : decode cX1_init 22 = .ok (.iconst 0, 1) := by decide +kernel
theorem dX1_init_23 : decode cX1_init 23 = .ok (.istore_n 1, 1) := by decide +kernel
theorem dX1_init_24 : decode cX1_init 24 = .ok (.iload_n 1, 1) := by decide +kernel
theorem dX1_init_25 : decode cX1_init 25 = .ok (.iconst 4, 1) := by decide +kernel
theorem dX1_init_26 : decode cX1_init 26 = .ok (.if_icmp .ge 22, 3) := by decide +kernel
theorem dX1_init_29 : decode cX1_init 29 = .ok (.aload_n 0, 1) := by decide +kernel
theorem dX1_init_30 : decode cX1_init 30 = .ok (.getfield 11, 3) := by decide +kernel
theorem dX1_init_33 : decode cX1_init 33 = .ok (.iload_n 1, 1) := by decide +kernel
theorem dX1_init_34 : decode cX1_init 34 = .ok (.new 9, 3) := by decide +kernel
theorem dX1_init_37 : decode cX1_init 37 = .ok (.dup, 1) := by decide +kernel
theorem dX1_init_38 : decode cX1_init 38 = .ok (.invokespecial 24, 3) := by decide +kernel
theorem dX1_init_41 : decode cX1_init 41 = .ok (.aastore, 1) := by decide +kernel
theorem dX1_init_42 : decode cX1_init 42 = .ok (.iinc 1 1, 3) := by decide +kernel
theorem dX1_init_45 : decode cX1_init 45 = .ok (.goto (-21), 3) := by decide +kernel
theorem dX1_init_48 : decode cX1_init 48 = .ok (.return_, 1) := by decide +kernel
theorem dX1_record_0 : decode cX1_record 0 = .ok (.aload_n 0, 1) := by decide +kernel
theorem dX1_record_1 : decode cX1_record 1 = .ok (.getfield 21, 3) := by decide +kernel
theorem dX1_record_4 : decode cX1_record 4 = .ok (.iconst 4, 1) := by decide +kernel
theorem dX1_record_5 : decode cX1_record 5 = .ok (.if_icmp .ne 25, 3) := by decide +kernel
theorem dX1_record_8 : decode cX1_record 8 = .ok (.aload_n 0, 1) := by decide +kernel
theorem dX1_record_9 : decode cX1_record 9 = .ok (.aload_n 0, 1) := by decide +kernel
theorem dX1_record_10 : decode cX1_record 10 = .ok (.getfield 17, 3) := by decide +kernel
theorem dX1_record_13 : decode cX1_record 13 = .ok (.iconst 1, 1) := by decide +kernel
theorem dX1_record_14 : decode cX1_record 14 = .ok (.iadd, 1) := by decide +kernel
theorem dX1_record_15 : decode cX1_record 15 = .ok (.iconst 4, 1) := by decide +kernel
theorem dX1_record_16 : decode cX1_record 16 = .ok (.irem, 1) := by decide +kernel
theorem dX1_record_17 : decode cX1_record 17 = .ok (.putfield 17, 3) := by decide +kernel
theorem dX1_record_20 : decode cX1_record 20 = .ok (.aload_n 0, 1) := by decide +kernel
theorem dX1_record_21 : decode cX1_record 21 = .ok (.dup, 1) := by decide +kernel
theorem dX1_record_22 : decode cX1_record 22 = .ok (.getfield 21, 3) := by decide +kernel
theorem dX1_record_25 : decode cX1_record 25 = .ok (.iconst 1, 1) := by decide +kernel
theorem dX1_record_26 : decode cX1_record 26 = .ok (.isub, 1) := by decide +kernel
theorem dX1_record_27 : decode cX1_record 27 = .ok (.putfield 21, 3) := by decide +kernel
theorem dX1_record_30 : decode cX1_record 30 = .ok (.aload_n 0, 1) := by decide +kernel
theorem dX1_record_31 : decode cX1_record 31 = .ok (.getfield 11, 3) := by decide +kernel
theorem dX1_record_34 : decode cX1_record 34 = .ok (.aload_n 0, 1) := by decide +kernel
theorem dX1_record_35 : decode cX1_record 35 = .ok (.getfield 17, 3) := by decide +kernel
theorem dX1_record_38 : decode cX1_record 38 = .ok (.aload_n 0, 1) := by decide +kernel
theorem dX1_record_39 : decode cX1_record 39 = .ok (.getfield 21, 3) := by decide +kernel
theorem dX1_record_42 : decode cX1_record 42 = .ok (.iadd, 1) := by decide +kernel
theorem dX1_record_43 : decode cX1_record 43 = .ok (.iconst 4, 1) := by decide +kernel
theorem dX1_record_44 : decode cX1_record 44 = .ok (.irem, 1) := by decide +kernel
theorem dX1_record_45 : decode cX1_record 45 = .ok (.aaload, 1) := by decide +kernel
theorem dX1_record_46 : decode cX1_record 46 = .ok (.aload_n 1, 1) := by decide +kernel
theorem dX1_record_47 : decode cX1_record 47 = .ok (.invokevirtual 25, 3) := by decide +kernel
theorem dX1_record_50 : decode cX1_record 50 = .ok (.aload_n 0, 1) := by decide +kernel
theorem dX1_record_51 : decode cX1_record 51 = .ok (.dup, 1) := by decide +kernel
theorem dX1_record_52 : decode cX1_record 52 = .ok (.getfield 21, 3) := by decide +kernel
theorem dX1_record_55 : decode cX1_record 55 = .ok (.iconst 1, 1) := by decide +kernel
theorem dX1_record_56 : decode cX1_record 56 = .ok (.iadd, 1) := by decide +kernel
theorem dX1_record_57 : decode cX1_record 57 = .ok (.putfield 21, 3) := by decide +kernel
theorem dX1_record_60 : decode cX1_record 60 = .ok (.return_, 1) := by decide +kernel
theorem dX1_takeLatest_0 : decode cX1_takeLatest 0 = .ok (.aload_n 0, 1) := by decide +kernel
theorem dX1_takeLatest_1 : decode cX1_takeLatest 1 = .ok (.getfield 21, 3) := by decide +kernel
theorem dX1_takeLatest_4 : decode cX1_takeLatest 4 = .ok (.ifCond .ne 5, 3) := by decide +kernel
theorem dX1_takeLatest_7 : decode cX1_takeLatest 7 = .ok (.iconst 0, 1) := by decide +kernel
theorem dX1_takeLatest_8 : decode cX1_takeLatest 8 = .ok (.ireturn, 1) := by decide +kernel
theorem dX1_takeLatest_9 : decode cX1_takeLatest 9 = .ok (.aload_n 0, 1) := by decide +kernel
theorem dX1_takeLatest_10 : decode cX1_takeLatest 10 = .ok (.dup, 1) := by decide +kernel
theorem dX1_takeLatest_11 : decode cX1_takeLatest 11 = .ok (.getfield 21, 3) := by decide +kernel
theorem dX1_takeLatest_14 : decode cX1_takeLatest 14 = .ok (.iconst 1, 1) := by decide +kernel
theorem dX1_takeLatest_15 : decode cX1_takeLatest 15 = .ok (.isub, 1) := by decide +kernel
theorem dX1_takeLatest_16 : decode cX1_takeLatest 16 = .ok (.putfield 21, 3) := by decide +kernel
theorem dX1_takeLatest_19 : decode cX1_takeLatest 19 = .ok (.aload_n 1, 1) := by decide +kernel
theorem dX1_takeLatest_20 : decode cX1_takeLatest 20 = .ok (.aload_n 0, 1) := by decide +kernel
theorem dX1_takeLatest_21 : decode cX1_takeLatest 21 = .ok (.getfield 11, 3) := by decide +kernel
theorem dX1_takeLatest_24 : decode cX1_takeLatest 24 = .ok (.aload_n 0, 1) := by decide +kernel
theorem dX1_takeLatest_25 : decode cX1_takeLatest 25 = .ok (.getfield 17, 3) := by decide +kernel
theorem dX1_takeLatest_28 : decode cX1_takeLatest 28 = .ok (.aload_n 0, 1) := by decide +kernel
theorem dX1_takeLatest_29 : decode cX1_takeLatest 29 = .ok (.getfield 21, 3) := by decide +kernel
theorem dX1_takeLatest_32 : decode cX1_takeLatest 32 = .ok (.iadd, 1) := by decide +kernel
theorem dX1_takeLatest_33 : decode cX1_takeLatest 33 = .ok (.iconst 4, 1) := by decide +kernel
theorem dX1_takeLatest_34 : decode cX1_takeLatest 34 = .ok (.irem, 1) := by decide +kernel
theorem dX1_takeLatest_35 : decode cX1_takeLatest 35 = .ok (.aaload, 1) := by decide +kernel
theorem dX1_takeLatest_36 : decode cX1_takeLatest 36 = .ok (.invokevirtual 25, 3) := by decide +kernel
theorem dX1_takeLatest_39 : decode cX1_takeLatest 39 = .ok (.iconst 1, 1) := by decide +kernel
theorem dX1_takeLatest_40 : decode cX1_takeLatest 40 = .ok (.ireturn, 1) := by decide +kernel
theorem dX2_init_0 : decode cX2_init 0 = .ok (.aload_n 0, 1) := by decide +kernel
theorem dX2_init_1 : decode cX2_init 1 = .ok (.invokespecial 3, 3) := by decide +kernel
theorem dX2_init_4 : decode cX2_init 4 = .ok (.aload_n 0, 1) := by decide +kernel
theorem dX2_init_5 : decode cX2_init 5 = .ok (.bipush 10, 2) := by decide +kernel
theorem dX2_init_7 : decode cX2_init 7 = .ok (.bipush 8, 2) := by decide +kernel
theorem dX2_init_9 : decode cX2_init 9 = .ok (.multianewarray 9 2, 4) := by decide +kernel
theorem dX2_init_13 : decode cX2_init 13 = .ok (.putfield 11, 3) := by decide +kernel
theorem dX2_init_16 : decode cX2_init 16 = .ok (.aload_n 0, 1) := by decide +kernel
theorem dX2_init_17 : decode cX2_init 17 = .ok (.bipush 8, 2) := by decide +kernel
theorem dX2_init_19 : decode cX2_init 19 = .ok (.bipush 31, 2) := by decide +kernel
theorem dX2_init_21 : decode cX2_init 21 = .ok (.multianewarray 9 2, 4) := by decide +kernel
theorem dX2_init_25 : decode cX2_init 25 = .ok (.putfield 16, 3) := by decide +kernel
theorem dX2_init_28 : decode cX2_init 28 = .ok (.aload_n 0, 1) := by decide +kernel
theorem dX2_init_29 : decode cX2_init 29 = .ok (.bipush 8, 2) := by decide +kernel
theorem dX2_init_31 : decode cX2_init 31 = .ok (.bipush 31, 2) := by decide +kernel
theorem dX2_init_33 : decode cX2_init 33 = .ok (.multianewarray 9 2, 4) := by decide +kernel
theorem dX2_init_37 : decode cX2_init 37 = .ok (.putfield 19, 3) := by decide +kernel
theorem dX2_init_40 : decode cX2_init 40 = .ok (.return_, 1) := by decide +kernel
theorem dX2_firstStrip_0 : decode cX2_firstStrip 0 = .ok (.aload_n 0, 1) := by decide +kernel
theorem dX2_firstStrip_1 : decode cX2_firstStrip 1 = .ok (.aload_n 1, 1) := by decide +kernel
theorem dX2_firstStrip_2 : decode cX2_firstStrip 2 = .ok (.invokevirtual 22, 3) := by decide +kernel
theorem dX2_firstStrip_5 : decode cX2_firstStrip 5 = .ok (.istore_n 2, 1) := by decide +kernel
theorem dX2_firstStrip_6 : decode cX2_firstStrip 6 = .ok (.iconst 0, 1) := by decide +kernel
theorem dX2_firstStrip_7 : decode cX2_firstStrip 7 = .ok (.istore_n 3, 1) := by decide +kernel
theorem dX2_firstStrip_8 : decode cX2_firstStrip 8 = .ok (.iload_n 3, 1) := by decide +kernel
theorem dX2_firstStrip_9 : decode cX2_firstStrip 9 = .ok (.aload_n 1, 1) := by decide +kernel
theorem dX2_firstStrip_10 : decode cX2_firstStrip 10 = .ok (.getfield 26, 3) := by decide +kernel
theorem dX2_firstStrip_13 : decode cX2_firstStrip 13 = .ok (.if_icmp .ge 35, 3) := by decide +kernel
theorem dX2_firstStrip_16 : decode cX2_firstStrip 16 = .ok (.aload_n 1, 1) := by decide +kernel
theorem dX2_firstStrip_17 : decode cX2_firstStrip 17 = .ok (.iload_n 3, 1) := by decide +kernel
theorem dX2_firstStrip_18 : decode cX2_firstStrip 18 = .ok (.invokevirtual 32, 3) := by decide +kernel
theorem dX2_firstStrip_21 : decode cX2_firstStrip 21 = .ok (.istore 4, 2) := by decide +kernel
theorem dX2_firstStrip_23 : decode cX2_firstStrip 23 = .ok (.aload_n 0, 1) := by decide +kernel
theorem dX2_firstStrip_24 : decode cX2_firstStrip 24 = .ok (.aload_n 1, 1) := by decide +kernel
theorem dX2_firstStrip_25 : decode cX2_firstStrip 25 = .ok (.iload 4, 2) := by decide +kernel
theorem dX2_firstStrip_27 : decode cX2_firstStrip 27 = .ok (.invokevirtual 36, 3) := by decide +kernel
theorem dX2_firstStrip_30 : decode cX2_firstStrip 30 = .ok (.iload_n 2, 1) := by decide +kernel
theorem dX2_firstStrip_31 : decode cX2_firstStrip 31 = .ok (.if_icmp .ne 11, 3) := by decide +kernel
theorem dX2_firstStrip_34 : decode cX2_firstStrip 34 = .ok (.aload_n 0, 1) := by decide +kernel
theorem dX2_firstStrip_35 : decode cX2_firstStrip 35 = .ok (.aload_n 1, 1) := by decide +kernel
theorem dX2_firstStrip_36 : decode cX2_firstStrip 36 = .ok (.iload 4, 2) := by decide +kernel
theorem dX2_firstStrip_38 : decode cX2_firstStrip 38 = .ok (.invokevirtual 40, 3) := by decide +kernel
theorem dX2_firstStrip_41 : decode cX2_firstStrip 41 = .ok (.lreturn, 1) := by decide +kernel
theorem dX2_firstStrip_42 : decode cX2_firstStrip 42 = .ok (.iinc 3 1, 3) := by decide +kernel
theorem dX2_firstStrip_45 : decode cX2_firstStrip 45 = .ok (.goto (-37), 3) := by decide +kernel
theorem dX2_firstStrip_48 : decode cX2_firstStrip 48 = .ok (.lconst 0, 1) := by decide +kernel
theorem dX2_firstStrip_49 : decode cX2_firstStrip 49 = .ok (.lreturn, 1) := by decide +kernel
theorem dX2_fillUps_0 : decode cX2_fillUps 0 = .ok (.aload_n 1, 1) := by decide +kernel
theorem dX2_fillUps_1 : decode cX2_fillUps 1 = .ok (.iconst 0, 1) := by decide +kernel
theorem dX2_fillUps_2 : decode cX2_fillUps 2 = .ok (.invokestatic 44, 3) := by decide +kernel
theorem dX2_fillUps_5 : decode cX2_fillUps 5 = .ok (.aload_n 0, 1) := by decide +kernel
theorem dX2_fillUps_6 : decode cX2_fillUps 6 = .ok (.aload_n 2, 1) := by decide +kernel
theorem dX2_fillUps_7 : decode cX2_fillUps 7 = .ok (.invokevirtual 22, 3) := by decide +kernel
theorem dX2_fillUps_10 : decode cX2_fillUps 10 = .ok (.istore_n 3, 1) := by decide +kernel
theorem dX2_fillUps_11 : decode cX2_fillUps 11 = .ok (.iconst 0, 1) := by decide +kernel
theorem dX2_fillUps_12 : decode cX2_fillUps 12 = .ok (.istore 4, 2) := by decide +kernel
theorem dX2_fillUps_14 : decode cX2_fillUps 14 = .ok (.iload 4, 2) := by decide +kernel
theorem dX2_fillUps_16 : decode cX2_fillUps 16 = .ok (.aload_n 2, 1) := by decide +kernel
theorem dX2_fillUps_17 : decode cX2_fillUps 17 = .ok (.getfield 26, 3) := by decide +kernel
theorem dX2_fillUps_20 : decode cX2_fillUps 20 = .ok (.if_icmp .ge 28, 3) := by decide +kernel
theorem dX2_fillUps_23 : decode cX2_fillUps 23 = .ok (.aload_n 0, 1) := by decide +kernel
theorem dX2_fillUps_24 : decode cX2_fillUps 24 = .ok (.aload_n 2, 1) := by decide +kernel
theorem dX2_fillUps_25 : decode cX2_fillUps 25 = .ok (.iload 4, 2) := by decide +kernel
theorem dX2_fillUps_27 : decode cX2_fillUps 27 = .ok (.invokevirtual 36, 3) := by decide +kernel
theorem dX2_fillUps_30 : decode cX2_fillUps 30 = .ok (.iload_n 3, 1) := by decide +kernel
theorem dX2_fillUps_31 : decode cX2_fillUps 31 = .ok (.if_icmp .ne 11, 3) := by decide +kernel
theorem dX2_fillUps_34 : decode cX2_fillUps 34 = .ok (.aload_n 0, 1) := by decide +kernel
theorem dX2_fillUps_35 : decode cX2_fillUps 35 = .ok (.aload_n 1, 1) := by decide +kernel
theorem dX2_fillUps_36 : decode cX2_fillUps 36 = .ok (.aload_n 2, 1) := by decide +kernel
theorem dX2_fillUps_37 : decode cX2_fillUps 37 = .ok (.iload 4, 2) := by decide +kernel
theorem dX2_fillUps_39 : decode cX2_fillUps 39 = .ok (.invokevirtual 50, 3) := by decide +kernel
theorem dX2_fillUps_42 : decode cX2_fillUps 42 = .ok (.iinc 4 1, 3) := by decide +kernel
theorem dX2_fillUps_45 : decode cX2_fillUps 45 = .ok (.goto (-31), 3) := by decide +kernel
theorem dX2_fillUps_48 : decode cX2_fillUps 48 = .ok (.return_, 1) := by decide +kernel
theorem dX2_leastCost_0 : decode cX2_leastCost 0 = .ok (.aload_n 0, 1) := by decide +kernel
theorem dX2_leastCost_1 : decode cX2_leastCost 1 = .ok (.aload_n 1, 1) := by decide +kernel
theorem dX2_leastCost_2 : decode cX2_leastCost 2 = .ok (.iconst 0, 1) := by decide +kernel
theorem dX2_leastCost_3 : decode cX2_leastCost 3 = .ok (.invokevirtual 36, 3) := by decide +kernel
theorem dX2_leastCost_6 : decode cX2_leastCost 6 = .ok (.istore_n 2, 1) := by decide +kernel
theorem dX2_leastCost_7 : decode cX2_leastCost 7 = .ok (.iconst 1, 1) := by decide +kernel
theorem dX2_leastCost_8 : decode cX2_leastCost 8 = .ok (.istore_n 3, 1) := by decide +kernel
theorem dX2_leastCost_9 : decode cX2_leastCost 9 = .ok (.iload_n 3, 1) := by decide +kernel
theorem dX2_leastCost_10 : decode cX2_leastCost 10 = .ok (.aload_n 1, 1) := by decide +kernel
theorem dX2_leastCost_11 : decode cX2_leastCost 11 = .ok (.getfield 26, 3) := by decide +kernel
theorem dX2_leastCost_14 : decode cX2_leastCost 14 = .ok (.if_icmp .ge 20, 3) := by decide +kernel
theorem dX2_leastCost_17 : decode cX2_leastCost 17 = .ok (.iload_n 2, 1) := by decide +kernel
theorem dX2_leastCost_18 : decode cX2_leastCost 18 = .ok (.aload_n 0, 1) := by decide +kernel
theorem dX2_leastCost_19 : decode cX2_leastCost 19 = .ok (.aload_n 1, 1) := by decide +kernel
theorem dX2_leastCost_20 : decode cX2_leastCost 20 = .ok (.iload_n 3, 1) := by decide +kernel
theorem dX2_leastCost_21 : decode cX2_leastCost 21 = .ok (.invokevirtual 36, 3) := by decide +kernel
theorem dX2_leastCost_24 : decode cX2_leastCost 24 = .ok (.invokestatic 54, 3) := by decide +kernel
theorem dX2_leastCost_27 : decode cX2_leastCost 27 = .ok (.istore_n 2, 1) := by decide +kernel
theorem dX2_leastCost_28 : decode cX2_leastCost 28 = .ok (.iinc 3 1, 3) := by decide +kernel
theorem dX2_leastCost_31 : decode cX2_leastCost 31 = .ok (.goto (-22), 3) := by decide +kernel
theorem dX2_leastCost_34 : decode cX2_leastCost 34 = .ok (.iload_n 2, 1) := by decide +kernel
theorem dX2_leastCost_35 : decode cX2_leastCost 35 = .ok (.ireturn, 1) := by decide +kernel
theorem dX2_lookBehind_0 : decode cX2_lookBehind 0 = .ok (.aload_n 1, 1) := by decide +kernel
theorem dX2_lookBehind_1 : decode cX2_lookBehind 1 = .ok (.getfield 60, 3) := by decide +kernel
theorem dX2_lookBehind_4 : decode cX2_lookBehind 4 = .ok (.iconst 1, 1) := by decide +kernel
theorem dX2_lookBehind_5 : decode cX2_lookBehind 5 = .ok (.isub, 1) := by decide +kernel
theorem dX2_lookBehind_6 : decode cX2_lookBehind 6 = .ok (.istore_n 3, 1) := by decide +kernel
theorem dX2_lookBehind_7 : decode cX2_lookBehind 7 = .ok (.iconst 0, 1) := by decide +kernel
theorem dX2_lookBehind_8 : decode cX2_lookBehind 8 = .ok (.istore 4, 2) := by decide +kernel
theorem dX2_lookBehind_10 : decode cX2_lookBehind 10 = .ok (.iload 4, 2) := by decide +kernel
theorem dX2_lookBehind_12 : decode cX2_lookBehind 12 = .ok (.aload_n 1, 1) := by decide +kernel
theorem dX2_lookBehind_13 : decode cX2_lookBehind 13 = .ok (.getfield 26, 3) := by decide +kernel
theorem dX2_lookBehind_16 : decode cX2_lookBehind 16 = .ok (.if_icmp .ge 25, 3) := by decide +kernel
theorem dX2_lookBehind_19 : decode cX2_lookBehind 19 = .ok (.aload_n 0, 1) := by decide +kernel
theorem dX2_lookBehind_20 : decode cX2_lookBehind 20 = .ok (.getfield 11, 3) := by decide +kernel
theorem dX2_lookBehind_23 : decode cX2_lookBehind 23 = .ok (.iload_n 3, 1) := by decide +kernel
theorem dX2_lookBehind_24 : decode cX2_lookBehind 24 = .ok (.aaload, 1) := by decide +kernel
theorem dX2_lookBehind_25 : decode cX2_lookBehind 25 = .ok (.iload 4, 2) := by decide +kernel
theorem dX2_lookBehind_27 : decode cX2_lookBehind 27 = .ok (.aload_n 1, 1) := by decide +kernel
theorem dX2_lookBehind_28 : decode cX2_lookBehind 28 = .ok (.iload 4, 2) := by decide +kernel
theorem dX2_lookBehind_30 : decode cX2_lookBehind 30 = .ok (.iload_n 2, 1) := by decide +kernel
theorem dX2_lookBehind_31 : decode cX2_lookBehind 31 = .ok (.invokevirtual 63, 3) := by decide +kernel
theorem dX2_lookBehind_34 : decode cX2_lookBehind 34 = .ok (.iastore, 1) := by decide +kernel
theorem dX2_lookBehind_35 : decode cX2_lookBehind 35 = .ok (.iinc 4 1, 3) := by decide +kernel
theorem dX2_lookBehind_38 : decode cX2_lookBehind 38 = .ok (.goto (-28), 3) := by decide +kernel
theorem dX2_lookBehind_41 : decode cX2_lookBehind 41 = .ok (.iload_n 3, 1) := by decide +kernel
theorem dX2_lookBehind_42 : decode cX2_lookBehind 42 = .ok (.iconst 1, 1) := by decide +kernel
theorem dX2_lookBehind_43 : decode cX2_lookBehind 43 = .ok (.isub, 1) := by decide +kernel
theorem dX2_lookBehind_44 : decode cX2_lookBehind 44 = .ok (.istore 4, 2) := by decide +kernel
theorem dX2_lookBehind_46 : decode cX2_lookBehind 46 = .ok (.iload 4, 2) := by decide +kernel
theorem dX2_lookBehind_48 : decode cX2_lookBehind 48 = .ok (.ifCond .lt 87, 3) := by decide +kernel
theorem dX2_lookBehind_51 : decode cX2_lookBehind 51 = .ok (.iconst 0, 1) := by decide +kernel
theorem dX2_lookBehind_52 : decode cX2_lookBehind 52 = .ok (.istore 5, 2) := by decide +kernel
theorem dX2_lookBehind_54 : decode cX2_lookBehind 54 = .ok (.iload 5, 2) := by decide +kernel
theorem dX2_lookBehind_56 : decode cX2_lookBehind 56 = .ok (.aload_n 1, 1) := by decide +kernel
theorem dX2_lookBehind_57 : decode cX2_lookBehind 57 = .ok (.getfield 26, 3) := by decide +kernel
theorem dX2_lookBehind_60 : decode cX2_lookBehind 60 = .ok (.if_icmp .ge 69, 3) := by decide +kernel
theorem dX2_lookBehind_63 : decode cX2_lookBehind 63 = .ok (.aload_n 0, 1) := by decide +kernel
theorem dX2_lookBehind_64 : decode cX2_lookBehind 64 = .ok (.aload_n 1, 1) := by decide +kernel
theorem dX2_lookBehind_65 : decode cX2_lookBehind 65 = .ok (.iload 4, 2) := by decide +kernel
theorem dX2_lookBehind_67 : decode cX2_lookBehind 67 = .ok (.iload 5, 2) := by decide +kernel
theorem dX2_lookBehind_69 : decode cX2_lookBehind 69 = .ok (.iconst 0, 1) := by decide +kernel
theorem dX2_lookBehind_70 : decode cX2_lookBehind 70 = .ok (.invokevirtual 66, 3) := by decide +kernel
theorem dX2_lookBehind_73 : decode cX2_lookBehind 73 = .ok (.istore 6, 2) := by decide +kernel
theorem dX2_lookBehind_75 : decode cX2_lookBehind 75 = .ok (.iconst 1, 1) := by decide +kernel
theorem dX2_lookBehind_76 : decode cX2_lookBehind 76 = .ok (.istore 7, 2) := by decide +kernel
theorem dX2_lookBehind_78 : decode cX2_lookBehind 78 = .ok (.iload 7, 2) := by decide +kernel
theorem dX2_lookBehind_80 : decode cX2_lookBehind 80 = .ok (.aload_n 1, 1) := by decide +kernel
theorem dX2_lookBehind_81 : decode cX2_lookBehind 81 = .ok (.getfield 26, 3) := by decide +kernel
theorem dX2_lookBehind_84 : decode cX2_lookBehind 84 = .ok (.if_icmp .ge 27, 3) := by decide +kernel
theorem dX2_lookBehind_87 : decode cX2_lookBehind 87 = .ok (.iload 6, 2) := by decide +kernel
theorem dX2_lookBehind_89 : decode cX2_lookBehind 89 = .ok (.aload_n 0, 1) := by decide +kernel
theorem dX2_lookBehind_90 : decode cX2_lookBehind 90 = .ok (.aload_n 1, 1) := by decide +kernel
theorem dX2_lookBehind_91 : decode cX2_lookBehind 91 = .ok (.iload 4, 2) := by decide +kernel
theorem dX2_lookBehind_93 : decode cX2_lookBehind 93 = .ok (.iload 5, 2) := by decide +kernel
theorem dX2_lookBehind_95 : decode cX2_lookBehind 95 = .ok (.iload 7, 2) := by decide +kernel
theorem dX2_lookBehind_97 : decode cX2_lookBehind 97 = .ok (.invokevirtual 66, 3) := by decide +kernel
theorem dX2_lookBehind_100 : decode cX2_lookBehind 100 = .ok (.invokestatic 54, 3) := by decide +kernel
theorem dX2_lookBehind_103 : decode cX2_lookBehind 103 = .ok (.istore 6, 2) := by decide +kernel
theorem dX2_lookBehind_105 : decode cX2_lookBehind 105 = .ok (.iinc 7 1, 3) := by decide +kernel
theorem dX2_lookBehind_108 : decode cX2_lookBehind 108 = .ok (.goto (-30), 3) := by decide +kernel
theorem dX2_lookBehind_111 : decode cX2_lookBehind 111 = .ok (.aload_n 0, 1) := by decide +kernel
theorem dX2_lookBehind_112 : decode cX2_lookBehind 112 = .ok (.getfield 11, 3) := by decide +kernel
theorem dX2_lookBehind_115 : decode cX2_lookBehind 115 = .ok (.iload 4, 2) := by decide +kernel
theorem dX2_lookBehind_117 : decode cX2_lookBehind 117 = .ok (.aaload, 1) := by decide +kernel
theorem dX2_lookBehind_118 : decode cX2_lookBehind 118 = .ok (.iload 5, 2) := by decide +kernel
theorem dX2_lookBehind_120 : decode cX2_lookBehind 120 = .ok (.iload 6, 2) := by decide +kernel
theorem dX2_lookBehind_122 : decode cX2_lookBehind 122 = .ok (.iastore, 1) := by decide +kernel
theorem dX2_lookBehind_123 : decode cX2_lookBehind 123 = .ok (.iinc 5 1, 3) := by decide +kernel
theorem dX2_lookBehind_126 : decode cX2_lookBehind 126 = .ok (.goto (-72), 3) := by decide +kernel
theorem dX2_lookBehind_129 : decode cX2_lookBehind 129 = .ok (.iinc 4 (-1), 3) := by decide +kernel
theorem dX2_lookBehind_132 : decode cX2_lookBehind 132 = .ok (.goto (-86), 3) := by decide +kernel
theorem dX2_lookBehind_135 : decode cX2_lookBehind 135 = .ok (.aload_n 1, 1) := by decide +kernel
theorem dX2_lookBehind_136 : decode cX2_lookBehind 136 = .ok (.getfield 70, 3) := by decide +kernel
theorem dX2_lookBehind_139 : decode cX2_lookBehind 139 = .ok (.iconst 0, 1) := by decide +kernel
theorem dX2_lookBehind_140 : decode cX2_lookBehind 140 = .ok (.aaload, 1) := by decide +kernel
theorem dX2_lookBehind_141 : decode cX2_lookBehind 141 = .ok (.iload_n 2, 1) := by decide +kernel
theorem dX2_lookBehind_142 : decode cX2_lookBehind 142 = .ok (.iaload, 1) := by decide +kernel
theorem dX2_lookBehind_143 : decode cX2_lookBehind 143 = .ok (.aload_n 0, 1) := by decide +kernel
theorem dX2_lookBehind_144 : decode cX2_lookBehind 144 = .ok (.getfield 11, 3) := by decide +kernel
theorem dX2_lookBehind_147 : decode cX2_lookBehind 147 = .ok (.iconst 0, 1) := by decide +kernel
theorem dX2_lookBehind_148 : decode cX2_lookBehind 148 = .ok (.aaload, 1) := by decide +kernel
theorem dX2_lookBehind_149 : decode cX2_lookBehind 149 = .ok (.iload_n 2, 1) := by decide +kernel
theorem dX2_lookBehind_150 : decode cX2_lookBehind 150 = .ok (.iaload, 1) := by decide +kernel
theorem dX2_lookBehind_151 : decode cX2_lookBehind 151 = .ok (.iadd, 1) := by decide +kernel
theorem dX2_lookBehind_152 : decode cX2_lookBehind 152 = .ok (.ireturn, 1) := by decide +kernel
theorem dX2_costOfNext_0 : decode cX2_costOfNext 0 = .ok (.iload_n 2, 1) := by decide +kernel
theorem dX2_costOfNext_1 : decode cX2_costOfNext 1 = .ok (.ifCond .lt 13, 3) := by decide +kernel
theorem dX2_costOfNext_4 : decode cX2_costOfNext 4 = .ok (.iload_n 2, 1) := by decide +kernel
theorem dX2_costOfNext_5 : decode cX2_costOfNext 5 = .ok (.iconst 1, 1) := by decide +kernel
theorem dX2_costOfNext_6 : decode cX2_costOfNext 6 = .ok (.iadd, 1) := by decide +kernel
theorem dX2_costOfNext_7 : decode cX2_costOfNext 7 = .ok (.aload_n 1, 1) := by decide +kernel
theorem dX2_costOfNext_8 : decode cX2_costOfNext 8 = .ok (.getfield 60, 3) := by decide +kernel
theorem dX2_costOfNext_11 : decode cX2_costOfNext 11 = .ok (.if_icmp .lt 5, 3) := by decide +kernel
theorem dX2_costOfNext_14 : decode cX2_costOfNext 14 = .ok (.iconst 0, 1) := by decide +kernel
theorem dX2_costOfNext_15 : decode cX2_costOfNext 15 = .ok (.ireturn, 1) := by decide +kernel
theorem dX2_costOfNext_16 : decode cX2_costOfNext 16 = .ok (.aload_n 1, 1) := by decide +kernel
theorem dX2_costOfNext_17 : decode cX2_costOfNext 17 = .ok (.getfield 73, 3) := by decide +kernel
theorem dX2_costOfNext_20 : decode cX2_costOfNext 20 = .ok (.iload_n 3, 1) := by decide +kernel
theorem dX2_costOfNext_21 : decode cX2_costOfNext 21 = .ok (.aaload, 1) := by decide +kernel
theorem dX2_costOfNext_22 : decode cX2_costOfNext 22 = .ok (.iload 4, 2) := by decide +kernel
theorem dX2_costOfNext_24 : decode cX2_costOfNext 24 = .ok (.iaload, 1) := by decide +kernel
theorem dX2_costOfNext_25 : decode cX2_costOfNext 25 = .ok (.aload_n 1, 1) := by decide +kernel
theorem dX2_costOfNext_26 : decode cX2_costOfNext 26 = .ok (.getfield 70, 3) := by decide +kernel
theorem dX2_costOfNext_29 : decode cX2_costOfNext 29 = .ok (.iload_n 2, 1) := by decide +kernel
theorem dX2_costOfNext_30 : decode cX2_costOfNext 30 = .ok (.iconst 1, 1) := by decide +kernel
theorem dX2_costOfNext_31 : decode cX2_costOfNext 31 = .ok (.iadd, 1) := by decide +kernel
theorem dX2_costOfNext_32 : decode cX2_costOfNext 32 = .ok (.aaload, 1) := by decide +kernel
theorem dX2_costOfNext_33 : decode cX2_costOfNext 33 = .ok (.iload 4, 2) := by decide +kernel
theorem dX2_costOfNext_35 : decode cX2_costOfNext 35 = .ok (.iaload, 1) := by decide +kernel
theorem dX2_costOfNext_36 : decode cX2_costOfNext 36 = .ok (.iadd, 1) := by decide +kernel
theorem dX2_costOfNext_37 : decode cX2_costOfNext 37 = .ok (.aload_n 0, 1) := by decide +kernel
theorem dX2_costOfNext_38 : decode cX2_costOfNext 38 = .ok (.getfield 11, 3) := by decide +kernel
theorem dX2_costOfNext_41 : decode cX2_costOfNext 41 = .ok (.iload_n 2, 1) := by decide +kernel
theorem dX2_costOfNext_42 : decode cX2_costOfNext 42 = .ok (.iconst 1, 1) := by decide +kernel
theorem dX2_costOfNext_43 : decode cX2_costOfNext 43 = .ok (.iadd, 1) := by decide +kernel
theorem dX2_costOfNext_44 : decode cX2_costOfNext 44 = .ok (.aaload, 1) := by decide +kernel
theorem dX2_costOfNext_45 : decode cX2_costOfNext 45 = .ok (.iload 4, 2) := by decide +kernel
theorem dX2_costOfNext_47 : decode cX2_costOfNext 47 = .ok (.iaload, 1) := by decide +kernel
theorem dX2_costOfNext_48 : decode cX2_costOfNext 48 = .ok (.iadd, 1) := by decide +kernel
theorem dX2_costOfNext_49 : decode cX2_costOfNext 49 = .ok (.ireturn, 1) := by decide +kernel
theorem dX2_isLeast_0 : decode cX2_isLeast 0 = .ok (.aload_n 0, 1) := by decide +kernel
theorem dX2_isLeast_1 : decode cX2_isLeast 1 = .ok (.aload_n 1, 1) := by decide +kernel
theorem dX2_isLeast_2 : decode cX2_isLeast 2 = .ok (.iload_n 2, 1) := by decide +kernel
theorem dX2_isLeast_3 : decode cX2_isLeast 3 = .ok (.iload_n 3, 1) := by decide +kernel
theorem dX2_isLeast_4 : decode cX2_isLeast 4 = .ok (.iload 4, 2) := by decide +kernel
theorem dX2_isLeast_6 : decode cX2_isLeast 6 = .ok (.invokevirtual 66, 3) := by decide +kernel
theorem dX2_isLeast_9 : decode cX2_isLeast 9 = .ok (.aload_n 0, 1) := by decide +kernel
theorem dX2_isLeast_10 : decode cX2_isLeast 10 = .ok (.getfield 11, 3) := by decide +kernel
theorem dX2_isLeast_13 : decode cX2_isLeast 13 = .ok (.iload_n 2, 1) := by decide +kernel
theorem dX2_isLeast_14 : decode cX2_isLeast 14 = .ok (.aaload, 1) := by decide +kernel
theorem dX2_isLeast_15 : decode cX2_isLeast 15 = .ok (.iload_n 3, 1) := by decide +kernel
theorem dX2_isLeast_16 : decode cX2_isLeast 16 = .ok (.iaload, 1) := by decide +kernel
theorem dX2_isLeast_17 : decode cX2_isLeast 17 = .ok (.if_icmp .ne 7, 3) := by decide +kernel
theorem dX2_isLeast_20 : decode cX2_isLeast 20 = .ok (.iconst 1, 1) := by decide +kernel
theorem dX2_isLeast_21 : decode cX2_isLeast 21 = .ok (.goto 4, 3) := by decide +kernel
theorem dX2_isLeast_24 : decode cX2_isLeast 24 = .ok (.iconst 0, 1) := by decide +kernel
theorem dX2_isLeast_25 : decode cX2_isLeast 25 = .ok (.ireturn, 1) := by decide +kernel
theorem dX2_follow_0 : decode cX2_follow 0 = .ok (.iload_n 2, 1) := by decide +kernel
theorem dX2_follow_1 : decode cX2_follow 1 = .ok (.i2l, 1) := by decide +kernel
theorem dX2_follow_2 : decode cX2_follow 2 = .ok (.lstore_n 3, 1) := by decide +kernel
theorem dX2_follow_3 : decode cX2_follow 3 = .ok (.iload_n 2, 1) := by decide +kernel
theorem dX2_follow_4 : decode cX2_follow 4 = .ok (.istore 5, 2) := by decide +kernel
theorem dX2_follow_6 : decode cX2_follow 6 = .ok (.iconst 0, 1) := by decide +kernel
theorem dX2_follow_7 : decode cX2_follow 7 = .ok (.istore 6, 2) := by decide +kernel
theorem dX2_follow_9 : decode cX2_follow 9 = .ok (.iload 6, 2) := by decide +kernel
theorem dX2_follow_11 : decode cX2_follow 11 = .ok (.aload_n 1, 1) := by decide +kernel
theorem dX2_follow_12 : decode cX2_follow 12 = .ok (.getfield 60, 3) := by decide +kernel
theorem dX2_follow_15 : decode cX2_follow 15 = .ok (.iconst 1, 1) := by decide +kernel
theorem dX2_follow_16 : decode cX2_follow 16 = .ok (.isub, 1) := by decide +kernel
theorem dX2_follow_17 : decode cX2_follow 17 = .ok (.if_icmp .ge 35, 3) := by decide +kernel
theorem dX2_follow_20 : decode cX2_follow 20 = .ok (.aload_n 0, 1) := by decide +kernel
theorem dX2_follow_21 : decode cX2_follow 21 = .ok (.aload_n 1, 1) := by decide +kernel
theorem dX2_follow_22 : decode cX2_follow 22 = .ok (.iload 6, 2) := by decide +kernel
theorem dX2_follow_24 : decode cX2_follow 24 = .ok (.iload 5, 2) := by decide +kernel
theorem dX2_follow_26 : decode cX2_follow 26 = .ok (.invokevirtual 76, 3) := by decide +kernel
theorem dX2_follow_29 : decode cX2_follow 29 = .ok (.istore 5, 2) := by decide +kernel
theorem dX2_follow_31 : decode cX2_follow 31 = .ok (.lload_n 3, 1) := by decide +kernel
theorem dX2_follow_32 : decode cX2_follow 32 = .ok (.iload 5, 2) := by decide +kernel
theorem dX2_follow_34 : decode cX2_follow 34 = .ok (.i2l, 1) := by decide +kernel
theorem dX2_follow_35 : decode cX2_follow 35 = .ok (.iconst 0, 1) := by decide +kernel
theorem dX2_follow_36 : decode cX2_follow 36 = .ok (.iload 6, 2) := by decide +kernel
theorem dX2_follow_38 : decode cX2_follow 38 = .ok (.iconst 1, 1) := by decide +kernel
theorem dX2_follow_39 : decode cX2_follow 39 = .ok (.iadd, 1) := by decide +kernel
theorem dX2_follow_40 : decode cX2_follow 40 = .ok (.invokestatic 80, 3) := by decide +kernel
theorem dX2_follow_43 : decode cX2_follow 43 = .ok (.lshl, 1) := by decide +kernel
theorem dX2_follow_44 : decode cX2_follow 44 = .ok (.lor, 1) := by decide +kernel
theorem dX2_follow_45 : decode cX2_follow 45 = .ok (.lstore_n 3, 1) := by decide +kernel
theorem dX2_follow_46 : decode cX2_follow 46 = .ok (.iinc 6 1, 3) := by decide +kernel
theorem dX2_follow_49 : decode cX2_follow 49 = .ok (.goto (-40), 3) := by decide +kernel
theorem dX2_follow_52 : decode cX2_follow 52 = .ok (.lload_n 3, 1) := by decide +kernel
theorem dX2_follow_53 : decode cX2_follow 53 = .ok (.lreturn, 1) := by decide +kernel
theorem dX2_firstLeastNext_0 : decode cX2_firstLeastNext 0 = .ok (.iconst 0, 1) := by decide +kernel
theorem dX2_firstLeastNext_1 : decode cX2_firstLeastNext 1 = .ok (.istore 4, 2) := by decide +kernel
theorem dX2_firstLeastNext_3 : decode cX2_firstLeastNext 3 = .ok (.iload 4, 2) := by decide +kernel
theorem dX2_firstLeastNext_5 : decode cX2_firstLeastNext 5 = .ok (.aload_n 1, 1) := by decide +kernel
theorem dX2_firstLeastNext_6 : decode cX2_firstLeastNext 6 = .ok (.getfield 26, 3) := by decide +kernel
theorem dX2_firstLeastNext_9 : decode cX2_firstLeastNext 9 = .ok (.if_icmp .ge 32, 3) := by decide +kernel
theorem dX2_firstLeastNext_12 : decode cX2_firstLeastNext 12 = .ok (.aload_n 1, 1) := by decide +kernel
theorem dX2_firstLeastNext_13 : decode cX2_firstLeastNext 13 = .ok (.iload 4, 2) := by decide +kernel
theorem dX2_firstLeastNext_15 : decode cX2_firstLeastNext 15 = .ok (.invokevirtual 32, 3) := by decide +kernel
theorem dX2_firstLeastNext_18 : decode cX2_firstLeastNext 18 = .ok (.istore 5, 2) := by decide +kernel
theorem dX2_firstLeastNext_20 : decode cX2_firstLeastNext 20 = .ok (.aload_n 0, 1) := by decide +kernel
theorem dX2_firstLeastNext_21 : decode cX2_firstLeastNext 21 = .ok (.aload_n 1, 1) := by decide +kernel
theorem dX2_firstLeastNext_22 : decode cX2_firstLeastNext 22 = .ok (.iload_n 2, 1) := by decide +kernel
theorem dX2_firstLeastNext_23 : decode cX2_firstLeastNext 23 = .ok (.iload_n 3, 1) := by decide +kernel
theorem dX2_firstLeastNext_24 : decode cX2_firstLeastNext 24 = .ok (.iload 5, 2) := by decide +kernel
theorem dX2_firstLeastNext_26 : decode cX2_firstLeastNext 26 = .ok (.invokevirtual 85, 3) := by decide +kernel
theorem dX2_firstLeastNext_29 : decode cX2_firstLeastNext 29 = .ok (.ifCond .eq 6, 3) := by decide +kernel
theorem dX2_firstLeastNext_32 : decode cX2_firstLeastNext 32 = .ok (.iload 5, 2) := by decide +kernel
theorem dX2_firstLeastNext_34 : decode cX2_firstLeastNext 34 = .ok (.ireturn, 1) := by decide +kernel
theorem dX2_firstLeastNext_35 : decode cX2_firstLeastNext 35 = .ok (.iinc 4 1, 3) := by decide +kernel
theorem dX2_firstLeastNext_38 : decode cX2_firstLeastNext 38 = .ok (.goto (-35), 3) := by decide +kernel
theorem dX2_firstLeastNext_41 : decode cX2_firstLeastNext 41 = .ok (.iconst 0, 1) := by decide +kernel
theorem dX2_firstLeastNext_42 : decode cX2_firstLeastNext 42 = .ok (.ireturn, 1) := by decide +kernel
theorem dX2_addUps_0 : decode cX2_addUps 0 = .ok (.iconst 0, 1) := by decide +kernel
theorem dX2_addUps_1 : decode cX2_addUps 1 = .ok (.istore 4, 2) := by decide +kernel
theorem dX2_addUps_3 : decode cX2_addUps 3 = .ok (.iload 4, 2) := by decide +kernel
theorem dX2_addUps_5 : decode cX2_addUps 5 = .ok (.aload_n 2, 1) := by decide +kernel
theorem dX2_addUps_6 : decode cX2_addUps 6 = .ok (.getfield 26, 3) := by decide +kernel
theorem dX2_addUps_9 : decode cX2_addUps 9 = .ok (.if_icmp .ge 20, 3) := by decide +kernel
theorem dX2_addUps_12 : decode cX2_addUps 12 = .ok (.aload_n 0, 1) := by decide +kernel
theorem dX2_addUps_13 : decode cX2_addUps 13 = .ok (.getfield 16, 3) := by decide +kernel
theorem dX2_addUps_16 : decode cX2_addUps 16 = .ok (.iload 4, 2) := by decide +kernel
theorem dX2_addUps_18 : decode cX2_addUps 18 = .ok (.aaload, 1) := by decide +kernel
theorem dX2_addUps_19 : decode cX2_addUps 19 = .ok (.iconst 0, 1) := by decide +kernel
theorem dX2_addUps_20 : decode cX2_addUps 20 = .ok (.invokestatic 44, 3) := by decide +kernel
theorem dX2_addUps_23 : decode cX2_addUps 23 = .ok (.iinc 4 1, 3) := by decide +kernel
theorem dX2_addUps_26 : decode cX2_addUps 26 = .ok (.goto (-23), 3) := by decide +kernel
theorem dX2_addUps_29 : decode cX2_addUps 29 = .ok (.aload_n 0, 1) := by decide +kernel
theorem dX2_addUps_30 : decode cX2_addUps 30 = .ok (.getfield 16, 3) := by decide +kernel
theorem dX2_addUps_33 : decode cX2_addUps 33 = .ok (.iload_n 3, 1) := by decide +kernel
theorem dX2_addUps_34 : decode cX2_addUps 34 = .ok (.aaload, 1) := by decide +kernel
theorem dX2_addUps_35 : decode cX2_addUps 35 = .ok (.iload_n 3, 1) := by decide +kernel
theorem dX2_addUps_36 : decode cX2_addUps 36 = .ok (.invokestatic 89, 3) := by decide +kernel
theorem dX2_addUps_39 : decode cX2_addUps 39 = .ok (.iconst 1, 1) := by decide +kernel
theorem dX2_addUps_40 : decode cX2_addUps 40 = .ok (.iastore, 1) := by decide +kernel
theorem dX2_addUps_41 : decode cX2_addUps 41 = .ok (.iconst 0, 1) := by decide +kernel
theorem dX2_addUps_42 : decode cX2_addUps 42 = .ok (.istore 4, 2) := by decide +kernel
theorem dX2_addUps_44 : decode cX2_addUps 44 = .ok (.iload 4, 2) := by decide +kernel
theorem dX2_addUps_46 : decode cX2_addUps 46 = .ok (.aload_n 2, 1) := by decide +kernel
theorem dX2_addUps_47 : decode cX2_addUps 47 = .ok (.getfield 60, 3) := by decide +kernel
theorem dX2_addUps_50 : decode cX2_addUps 50 = .ok (.iconst 1, 1) := by decide +kernel
theorem dX2_addUps_51 : decode cX2_addUps 51 = .ok (.isub, 1) := by decide +kernel
theorem dX2_addUps_52 : decode cX2_addUps 52 = .ok (.if_icmp .ge 16, 3) := by decide +kernel
theorem dX2_addUps_55 : decode cX2_addUps 55 = .ok (.aload_n 0, 1) := by decide +kernel
theorem dX2_addUps_56 : decode cX2_addUps 56 = .ok (.aload_n 2, 1) := by decide +kernel
theorem dX2_addUps_57 : decode cX2_addUps 57 = .ok (.iload 4, 2) := by decide +kernel
theorem dX2_addUps_59 : decode cX2_addUps 59 = .ok (.invokevirtual 94, 3) := by decide +kernel
theorem dX2_addUps_62 : decode cX2_addUps 62 = .ok (.iinc 4 1, 3) := by decide +kernel
theorem dX2_addUps_65 : decode cX2_addUps 65 = .ok (.goto (-21), 3) := by decide +kernel
theorem dX2_addUps_68 : decode cX2_addUps 68 = .ok (.iconst 0, 1) := by decide +kernel
theorem dX2_addUps_69 : decode cX2_addUps 69 = .ok (.istore 4, 2) := by decide +kernel
theorem dX2_addUps_71 : decode cX2_addUps 71 = .ok (.iload 4, 2) := by decide +kernel
theorem dX2_addUps_73 : decode cX2_addUps 73 = .ok (.aload_n 2, 1) := by decide +kernel
theorem dX2_addUps_74 : decode cX2_addUps 74 = .ok (.getfield 26, 3) := by decide +kernel
theorem dX2_addUps_77 : decode cX2_addUps 77 = .ok (.if_icmp .ge 23, 3) := by decide +kernel
theorem dX2_addUps_80 : decode cX2_addUps 80 = .ok (.aload_n 0, 1) := by decide +kernel
theorem dX2_addUps_81 : decode cX2_addUps 81 = .ok (.getfield 16, 3) := by decide +kernel
theorem dX2_addUps_84 : decode cX2_addUps 84 = .ok (.iload 4, 2) := by decide +kernel
theorem dX2_addUps_86 : decode cX2_addUps 86 = .ok (.aaload, 1) := by decide +kernel
theorem dX2_addUps_87 : decode cX2_addUps 87 = .ok (.bipush 30, 2) := by decide +kernel
theorem dX2_addUps_89 : decode cX2_addUps 89 = .ok (.iconst 0, 1) := by decide +kernel
theorem dX2_addUps_90 : decode cX2_addUps 90 = .ok (.aload_n 1, 1) := by decide +kernel
theorem dX2_addUps_91 : decode cX2_addUps 91 = .ok (.invokestatic 98, 3) := by decide +kernel
theorem dX2_addUps_94 : decode cX2_addUps 94 = .ok (.iinc 4 1, 3) := by decide +kernel
theorem dX2_addUps_97 : decode cX2_addUps 97 = .ok (.goto (-26), 3) := by decide +kernel
theorem dX2_addUps_100 : decode cX2_addUps 100 = .ok (.return_, 1) := by decide +kernel
theorem dX2_addColumn_0 : decode cX2_addColumn 0 = .ok (.iconst 0, 1) := by decide +kernel
theorem dX2_addColumn_1 : decode cX2_addColumn 1 = .ok (.istore_n 3, 1) := by decide +kernel
theorem dX2_addColumn_2 : decode cX2_addColumn 2 = .ok (.iload_n 3, 1) := by decide +kernel
theorem dX2_addColumn_3 : decode cX2_addColumn 3 = .ok (.aload_n 1, 1) := by decide +kernel
theorem dX2_addColumn_4 : decode cX2_addColumn 4 = .ok (.getfield 26, 3) := by decide +kernel
theorem dX2_addColumn_7 : decode cX2_addColumn 7 = .ok (.if_icmp .ge 19, 3) := by decide +kernel
theorem dX2_addColumn_10 : decode cX2_addColumn 10 = .ok (.aload_n 0, 1) := by decide +kernel
theorem dX2_addColumn_11 : decode cX2_addColumn 11 = .ok (.getfield 19, 3) := by decide +kernel
theorem dX2_addColumn_14 : decode cX2_addColumn 14 = .ok (.iload_n 3, 1) := by decide +kernel
theorem dX2_addColumn_15 : decode cX2_addColumn 15 = .ok (.aaload, 1) := by decide +kernel
theorem dX2_addColumn_16 : decode cX2_addColumn 16 = .ok (.iconst 0, 1) := by decide +kernel
theorem dX2_addColumn_17 : decode cX2_addColumn 17 = .ok (.invokestatic 44, 3) := by decide +kernel
theorem dX2_addColumn_20 : decode cX2_addColumn 20 = .ok (.iinc 3 1, 3) := by decide +kernel
theorem dX2_addColumn_23 : decode cX2_addColumn 23 = .ok (.goto (-21), 3) := by decide +kernel
theorem dX2_addColumn_26 : decode cX2_addColumn 26 = .ok (.iconst 0, 1) := by decide +kernel
theorem dX2_addColumn_27 : decode cX2_addColumn 27 = .ok (.istore_n 3, 1) := by decide +kernel
theorem dX2_addColumn_28 : decode cX2_addColumn 28 = .ok (.iload_n 3, 1) := by decide +kernel
theorem dX2_addColumn_29 : decode cX2_addColumn 29 = .ok (.aload_n 1, 1) := by decide +kernel
theorem dX2_addColumn_30 : decode cX2_addColumn 30 = .ok (.getfield 26, 3) := by decide +kernel
theorem dX2_addColumn_33 : decode cX2_addColumn 33 = .ok (.if_icmp .ge 62, 3) := by decide +kernel
theorem dX2_addColumn_36 : decode cX2_addColumn 36 = .ok (.iconst 0, 1) := by decide +kernel
theorem dX2_addColumn_37 : decode cX2_addColumn 37 = .ok (.istore 4, 2) := by decide +kernel
theorem dX2_addColumn_39 : decode cX2_addColumn 39 = .ok (.iload 4, 2) := by decide +kernel
theorem dX2_addColumn_41 : decode cX2_addColumn 41 = .ok (.aload_n 1, 1) := by decide +kernel
theorem dX2_addColumn_42 : decode cX2_addColumn 42 = .ok (.getfield 26, 3) := by decide +kernel
theorem dX2_addColumn_45 : decode cX2_addColumn 45 = .ok (.if_icmp .ge 44, 3) := by decide +kernel
theorem dX2_addColumn_48 : decode cX2_addColumn 48 = .ok (.aload_n 0, 1) := by decide +kernel
theorem dX2_addColumn_49 : decode cX2_addColumn 49 = .ok (.aload_n 1, 1) := by decide +kernel
theorem dX2_addColumn_50 : decode cX2_addColumn 50 = .ok (.iload_n 2, 1) := by decide +kernel
theorem dX2_addColumn_51 : decode cX2_addColumn 51 = .ok (.iload_n 3, 1) := by decide +kernel
theorem dX2_addColumn_52 : decode cX2_addColumn 52 = .ok (.iload 4, 2) := by decide +kernel
theorem dX2_addColumn_54 : decode cX2_addColumn 54 = .ok (.invokevirtual 85, 3) := by decide +kernel
theorem dX2_addColumn_57 : decode cX2_addColumn 57 = .ok (.ifCond .eq 26, 3) := by decide +kernel
theorem dX2_addColumn_60 : decode cX2_addColumn 60 = .ok (.aload_n 0, 1) := by decide +kernel
theorem dX2_addColumn_61 : decode cX2_addColumn 61 = .ok (.getfield 16, 3) := by decide +kernel
theorem dX2_addColumn_64 : decode cX2_addColumn 64 = .ok (.iload_n 3, 1) := by decide +kernel
theorem dX2_addColumn_65 : decode cX2_addColumn 65 = .ok (.aaload, 1) := by decide +kernel
theorem dX2_addColumn_66 : decode cX2_addColumn 66 = .ok (.bipush 30, 2) := by decide +kernel
theorem dX2_addColumn_68 : decode cX2_addColumn 68 = .ok (.iload 4, 2) := by decide +kernel
theorem dX2_addColumn_70 : decode cX2_addColumn 70 = .ok (.invokestatic 89, 3) := by decide +kernel
theorem dX2_addColumn_73 : decode cX2_addColumn 73 = .ok (.aload_n 0, 1) := by decide +kernel
theorem dX2_addColumn_74 : decode cX2_addColumn 74 = .ok (.getfield 19, 3) := by decide +kernel
theorem dX2_addColumn_77 : decode cX2_addColumn 77 = .ok (.iload 4, 2) := by decide +kernel
theorem dX2_addColumn_79 : decode cX2_addColumn 79 = .ok (.aaload, 1) := by decide +kernel
theorem dX2_addColumn_80 : decode cX2_addColumn 80 = .ok (.invokestatic 98, 3) := by decide +kernel
theorem dX2_addColumn_83 : decode cX2_addColumn 83 = .ok (.iinc 4 1, 3) := by decide +kernel
theorem dX2_addColumn_86 : decode cX2_addColumn 86 = .ok (.goto (-47), 3) := by decide +kernel
theorem dX2_addColumn_89 : decode cX2_addColumn 89 = .ok (.iinc 3 1, 3) := by decide +kernel
theorem dX2_addColumn_92 : decode cX2_addColumn 92 = .ok (.goto (-64), 3) := by decide +kernel
theorem dX2_addColumn_95 : decode cX2_addColumn 95 = .ok (.aload_n 0, 1) := by decide +kernel
theorem dX2_addColumn_96 : decode cX2_addColumn 96 = .ok (.getfield 16, 3) := by decide +kernel
theorem dX2_addColumn_99 : decode cX2_addColumn 99 = .ok (.astore_n 3, 1) := by decide +kernel
theorem dX2_addColumn_100 : decode cX2_addColumn 100 = .ok (.aload_n 0, 1) := by decide +kernel
theorem dX2_addColumn_101 : decode cX2_addColumn 101 = .ok (.aload_n 0, 1) := by decide +kernel
theorem dX2_addColumn_102 : decode cX2_addColumn 102 = .ok (.getfield 19, 3) := by decide +kernel
theorem dX2_addColumn_105 : decode cX2_addColumn 105 = .ok (.putfield 16, 3) := by decide +kernel
theorem dX2_addColumn_108 : decode cX2_addColumn 108 = .ok (.aload_n 0, 1) := by decide +kernel
theorem dX2_addColumn_109 : decode cX2_addColumn 109 = .ok (.aload_n 3, 1) := by decide +kernel
theorem dX2_addColumn_110 : decode cX2_addColumn 110 = .ok (.putfield 19, 3) := by decide +kernel
theorem dX2_addColumn_113 : decode cX2_addColumn 113 = .ok (.return_, 1) := by decide +kernel
theorem dX3_init_0 : decode cX3_init 0 = .ok (.aload_n 0, 1) := by decide +kernel
theorem dX3_init_1 : decode cX3_init 1 = .ok (.invokespecial 3, 3) := by decide +kernel
theorem dX3_init_4 : decode cX3_init 4 = .ok (.aload_n 0, 1) := by decide +kernel
theorem dX3_init_5 : decode cX3_init 5 = .ok (.iconst 1, 1) := by decide +kernel
theorem dX3_init_6 : decode cX3_init 6 = .ok (.putfield 9, 3) := by decide +kernel
theorem dX3_init_9 : decode cX3_init 9 = .ok (.aload_n 0, 1) := by decide +kernel
theorem dX3_init_10 : decode cX3_init 10 = .ok (.iconst 1, 1) := by decide +kernel
theorem dX3_init_11 : decode cX3_init 11 = .ok (.putfield 15, 3) := by decide +kernel
theorem dX3_init_14 : decode cX3_init 14 = .ok (.aload_n 0, 1) := by decide +kernel
theorem dX3_init_15 : decode cX3_init 15 = .ok (.iconst 2, 1) := by decide +kernel
theorem dX3_init_16 : decode cX3_init 16 = .ok (.putfield 18, 3) := by decide +kernel
theorem dX3_init_19 : decode cX3_init 19 = .ok (.aload_n 0, 1) := by decide +kernel
theorem dX3_init_20 : decode cX3_init 20 = .ok (.iconst 0, 1) := by decide +kernel
theorem dX3_init_21 : decode cX3_init 21 = .ok (.putfield 21, 3) := by decide +kernel
theorem dX3_init_24 : decode cX3_init 24 = .ok (.aload_n 0, 1) := by decide +kernel
theorem dX3_init_25 : decode cX3_init 25 = .ok (.iconst 0, 1) := by decide +kernel
theorem dX3_init_26 : decode cX3_init 26 = .ok (.putfield 25, 3) := by decide +kernel
theorem dX3_init_29 : decode cX3_init 29 = .ok (.aload_n 0, 1) := by decide +kernel
theorem dX3_init_30 : decode cX3_init 30 = .ok (.bipush 10, 2) := by decide +kernel
theorem dX3_init_32 : decode cX3_init 32 = .ok (.newarray .int, 2) := by decide +kernel
theorem dX3_init_34 : decode cX3_init 34 = .ok (.putfield 28, 3) := by decide +kernel
theorem dX3_init_37 : decode cX3_init 37 = .ok (.aload_n 0, 1) := by decide +kernel
theorem dX3_init_38 : decode cX3_init 38 = .ok (.bipush 10, 2) := by decide +kernel
theorem dX3_init_40 : decode cX3_init 40 = .ok (.bipush 8, 2) := by decide +kernel
theorem dX3_init_42 : decode cX3_init 42 = .ok (.multianewarray 32 2, 4) := by decide +kernel
theorem dX3_init_46 : decode cX3_init 46 = .ok (.putfield 34, 3) := by decide +kernel
theorem dX3_init_49 : decode cX3_init 49 = .ok (.aload_n 0, 1) := by decide +kernel
theorem dX3_init_50 : decode cX3_init 50 = .ok (.bipush 8, 2) := by decide +kernel
theorem dX3_init_52 : decode cX3_init 52 = .ok (.bipush 8, 2) := by decide +kernel
theorem dX3_init_54 : decode cX3_init 54 = .ok (.multianewarray 32 2, 4) := by decide +kernel
theorem dX3_init_58 : decode cX3_init 58 = .ok (.putfield 37, 3) := by decide +kernel
theorem dX3_init_61 : decode cX3_init 61 = .ok (.return_, 1) := by decide +kernel
theorem dX3_takeFrom_0 : decode cX3_takeFrom 0 = .ok (.aload_n 0, 1) := by decide +kernel
theorem dX3_takeFrom_1 : decode cX3_takeFrom 1 = .ok (.aload_n 1, 1) := by decide +kernel
theorem dX3_takeFrom_2 : decode cX3_takeFrom 2 = .ok (.getfield 40, 3) := by decide +kernel
theorem dX3_takeFrom_5 : decode cX3_takeFrom 5 = .ok (.putfield 9, 3) := by decide +kernel
theorem dX3_takeFrom_8 : decode cX3_takeFrom 8 = .ok (.aload_n 0, 1) := by decide +kernel
theorem dX3_takeFrom_9 : decode cX3_takeFrom 9 = .ok (.aload_n 1, 1) := by decide +kernel
theorem dX3_takeFrom_10 : decode cX3_takeFrom 10 = .ok (.getfield 43, 3) := by decide +kernel
theorem dX3_takeFrom_13 : decode cX3_takeFrom 13 = .ok (.putfield 15, 3) := by decide +kernel
theorem dX3_takeFrom_16 : decode cX3_takeFrom 16 = .ok (.aload_n 0, 1) := by decide +kernel
theorem dX3_takeFrom_17 : decode cX3_takeFrom 17 = .ok (.iconst 1, 1) := by decide +kernel
theorem dX3_takeFrom_18 : decode cX3_takeFrom 18 = .ok (.aload_n 0, 1) := by decide +kernel
theorem dX3_takeFrom_19 : decode cX3_takeFrom 19 = .ok (.getfield 15, 3) := by decide +kernel
theorem dX3_takeFrom_22 : decode cX3_takeFrom 22 = .ok (.ishl, 1) := by decide +kernel
theorem dX3_takeFrom_23 : decode cX3_takeFrom 23 = .ok (.putfield 18, 3) := by decide +kernel
theorem dX3_takeFrom_26 : decode cX3_takeFrom 26 = .ok (.aload_n 0, 1) := by decide +kernel
theorem dX3_takeFrom_27 : decode cX3_takeFrom 27 = .ok (.aload_n 1, 1) := by decide +kernel
theorem dX3_takeFrom_28 : decode cX3_takeFrom 28 = .ok (.invokevirtual 44, 3) := by decide +kernel
theorem dX3_takeFrom_31 : decode cX3_takeFrom 31 = .ok (.putfield 21, 3) := by decide +kernel
theorem dX3_takeFrom_34 : decode cX3_takeFrom 34 = .ok (.iload_n 2, 1) := by decide +kernel
theorem dX3_takeFrom_35 : decode cX3_takeFrom 35 = .ok (.ifCond .eq 7, 3) := by decide +kernel
theorem dX3_takeFrom_38 : decode cX3_takeFrom 38 = .ok (.iconst 1, 1) := by decide +kernel
theorem dX3_takeFrom_39 : decode cX3_takeFrom 39 = .ok (.goto 7, 3) := by decide +kernel
theorem dX3_takeFrom_42 : decode cX3_takeFrom 42 = .ok (.aload_n 1, 1) := by decide +kernel
theorem dX3_takeFrom_43 : decode cX3_takeFrom 43 = .ok (.getfield 47, 3) := by decide +kernel
theorem dX3_takeFrom_46 : decode cX3_takeFrom 46 = .ok (.istore_n 3, 1) := by decide +kernel
theorem dX3_takeFrom_47 : decode cX3_takeFrom 47 = .ok (.iload_n 2, 1) := by decide +kernel
theorem dX3_takeFrom_48 : decode cX3_takeFrom 48 = .ok (.ifCond .eq 7, 3) := by decide +kernel
theorem dX3_takeFrom_51 : decode cX3_takeFrom 51 = .ok (.iconst 1, 1) := by decide +kernel
theorem dX3_takeFrom_52 : decode cX3_takeFrom 52 = .ok (.goto 7, 3) := by decide +kernel
theorem dX3_takeFrom_55 : decode cX3_takeFrom 55 = .ok (.aload_n 1, 1) := by decide +kernel
theorem dX3_takeFrom_56 : decode cX3_takeFrom 56 = .ok (.getfield 50, 3) := by decide +kernel
theorem dX3_takeFrom_59 : decode cX3_takeFrom 59 = .ok (.istore 4, 2) := by decide +kernel
theorem dX3_takeFrom_61 : decode cX3_takeFrom 61 = .ok (.aload_n 0, 1) := by decide +kernel
theorem dX3_takeFrom_62 : decode cX3_takeFrom 62 = .ok (.iload_n 3, 1) := by decide +kernel
theorem dX3_takeFrom_63 : decode cX3_takeFrom 63 = .ok (.invokevirtual 53, 3) := by decide +kernel
theorem dX3_takeFrom_66 : decode cX3_takeFrom 66 = .ok (.aload_n 0, 1) := by decide +kernel
theorem dX3_takeFrom_67 : decode cX3_takeFrom 67 = .ok (.iload 4, 2) := by decide +kernel
theorem dX3_takeFrom_69 : decode cX3_takeFrom 69 = .ok (.invokevirtual 57, 3) := by decide +kernel
theorem dX3_takeFrom_72 : decode cX3_takeFrom 72 = .ok (.aload_n 0, 1) := by decide +kernel
theorem dX3_takeFrom_73 : decode cX3_takeFrom 73 = .ok (.getfield 15, 3) := by decide +kernel
theorem dX3_takeFrom_76 : decode cX3_takeFrom 76 = .ok (.iload_n 3, 1) := by decide +kernel
theorem dX3_takeFrom_77 : decode cX3_takeFrom 77 = .ok (.invokestatic 60, 3) := by decide +kernel
theorem dX3_takeFrom_80 : decode cX3_takeFrom 80 = .ok (.imul, 1) := by decide +kernel
theorem dX3_takeFrom_81 : decode cX3_takeFrom 81 = .ok (.istore 5, 2) := by decide +kernel
theorem dX3_takeFrom_83 : decode cX3_takeFrom 83 = .ok (.aload_n 0, 1) := by decide +kernel
theorem dX3_takeFrom_84 : decode cX3_takeFrom 84 = .ok (.getfield 15, 3) := by decide +kernel
theorem dX3_takeFrom_87 : decode cX3_takeFrom 87 = .ok (.iconst 1, 1) := by decide +kernel
theorem dX3_takeFrom_88 : decode cX3_takeFrom 88 = .ok (.isub, 1) := by decide +kernel
theorem dX3_takeFrom_89 : decode cX3_takeFrom 89 = .ok (.iload 4, 2) := by decide +kernel
theorem dX3_takeFrom_91 : decode cX3_takeFrom 91 = .ok (.invokestatic 60, 3) := by decide +kernel
theorem dX3_takeFrom_94 : decode cX3_takeFrom 94 = .ok (.imul, 1) := by decide +kernel
theorem dX3_takeFrom_95 : decode cX3_takeFrom 95 = .ok (.istore 6, 2) := by decide +kernel
theorem dX3_takeFrom_97 : decode cX3_takeFrom 97 = .ok (.iconst 0, 1) := by decide +kernel
theorem dX3_takeFrom_98 : decode cX3_takeFrom 98 = .ok (.istore 7, 2) := by decide +kernel
theorem dX3_takeFrom_100 : decode cX3_takeFrom 100 = .ok (.iconst 0, 1) := by decide +kernel
theorem dX3_takeFrom_101 : decode cX3_takeFrom 101 = .ok (.istore 8, 2) := by decide +kernel
theorem dX3_takeFrom_103 : decode cX3_takeFrom 103 = .ok (.iload 8, 2) := by decide +kernel
theorem dX3_takeFrom_105 : decode cX3_takeFrom 105 = .ok (.aload_n 0, 1) := by decide +kernel
theorem dX3_takeFrom_106 : decode cX3_takeFrom 106 = .ok (.getfield 9, 3) := by decide +kernel
theorem dX3_takeFrom_109 : decode cX3_takeFrom 109 = .ok (.if_icmp .ge 54, 3) := by decide +kernel
theorem dX3_takeFrom_112 : decode cX3_takeFrom 112 = .ok (.iload 7, 2) := by decide +kernel
theorem dX3_takeFrom_114 : decode cX3_takeFrom 114 = .ok (.iload 8, 2) := by decide +kernel
theorem dX3_takeFrom_116 : decode cX3_takeFrom 116 = .ok (.ifCond .ne 8, 3) := by decide +kernel
theorem dX3_takeFrom_119 : decode cX3_takeFrom 119 = .ok (.iload 6, 2) := by decide +kernel
theorem dX3_takeFrom_121 : decode cX3_takeFrom 121 = .ok (.goto 8, 3) := by decide +kernel
theorem dX3_takeFrom_124 : decode cX3_takeFrom 124 = .ok (.iload 6, 2) := by decide +kernel
theorem dX3_takeFrom_126 : decode cX3_takeFrom 126 = .ok (.iload 5, 2) := by decide +kernel
theorem dX3_takeFrom_128 : decode cX3_takeFrom 128 = .ok (.iadd, 1) := by decide +kernel
theorem dX3_takeFrom_129 : decode cX3_takeFrom 129 = .ok (.iadd, 1) := by decide +kernel
theorem dX3_takeFrom_130 : decode cX3_takeFrom 130 = .ok (.istore 7, 2) := by decide +kernel
theorem dX3_takeFrom_132 : decode cX3_takeFrom 132 = .ok (.iload_n 2, 1) := by decide +kernel
theorem dX3_takeFrom_133 : decode cX3_takeFrom 133 = .ok (.ifCond .ne 15, 3) := by decide +kernel
theorem dX3_takeFrom_136 : decode cX3_takeFrom 136 = .ok (.iload 7, 2) := by decide +kernel
theorem dX3_takeFrom_138 : decode cX3_takeFrom 138 = .ok (.aload_n 0, 1) := by decide +kernel
theorem dX3_takeFrom_139 : decode cX3_takeFrom 139 = .ok (.aload_n 1, 1) := by decide +kernel
theorem dX3_takeFrom_140 : decode cX3_takeFrom 140 = .ok (.iload 8, 2) := by decide +kernel
theorem dX3_takeFrom_142 : decode cX3_takeFrom 142 = .ok (.invokevirtual 66, 3) := by decide +kernel
theorem dX3_takeFrom_145 : decode cX3_takeFrom 145 = .ok (.iadd, 1) := by decide +kernel
theorem dX3_takeFrom_146 : decode cX3_takeFrom 146 = .ok (.istore 7, 2) := by decide +kernel
theorem dX3_takeFrom_148 : decode cX3_takeFrom 148 = .ok (.aload_n 0, 1) := by decide +kernel
theorem dX3_takeFrom_149 : decode cX3_takeFrom 149 = .ok (.getfield 28, 3) := by decide +kernel
theorem dX3_takeFrom_152 : decode cX3_takeFrom 152 = .ok (.iload 8, 2) := by decide +kernel
theorem dX3_takeFrom_154 : decode cX3_takeFrom 154 = .ok (.iload 7, 2) := by decide +kernel
theorem dX3_takeFrom_156 : decode cX3_takeFrom 156 = .ok (.iastore, 1) := by decide +kernel
theorem dX3_takeFrom_157 : decode cX3_takeFrom 157 = .ok (.iinc 8 1, 3) := by decide +kernel
theorem dX3_takeFrom_160 : decode cX3_takeFrom 160 = .ok (.goto (-57), 3) := by decide +kernel
theorem dX3_takeFrom_163 : decode cX3_takeFrom 163 = .ok (.aload_n 0, 1) := by decide +kernel
theorem dX3_takeFrom_164 : decode cX3_takeFrom 164 = .ok (.aload_n 0, 1) := by decide +kernel
theorem dX3_takeFrom_165 : decode cX3_takeFrom 165 = .ok (.getfield 21, 3) := by decide +kernel
theorem dX3_takeFrom_168 : decode cX3_takeFrom 168 = .ok (.ifCond .eq 11, 3) := by decide +kernel
theorem dX3_takeFrom_171 : decode cX3_takeFrom 171 = .ok (.iload 7, 2) := by decide +kernel
theorem dX3_takeFrom_173 : decode cX3_takeFrom 173 = .ok (.iload 5, 2) := by decide +kernel
theorem dX3_takeFrom_175 : decode cX3_takeFrom 175 = .ok (.iadd, 1) := by decide +kernel
theorem dX3_takeFrom_176 : decode cX3_takeFrom 176 = .ok (.goto 5, 3) := by decide +kernel
theorem dX3_takeFrom_179 : decode cX3_takeFrom 179 = .ok (.iload 7, 2) := by decide +kernel
theorem dX3_takeFrom_181 : decode cX3_takeFrom 181 = .ok (.putfield 25, 3) := by decide +kernel
theorem dX3_takeFrom_184 : decode cX3_takeFrom 184 = .ok (.return_, 1) := by decide +kernel
theorem dX3_priceAlong_0 : decode cX3_priceAlong 0 = .ok (.iconst 0, 1) := by decide +kernel
theorem dX3_priceAlong_1 : decode cX3_priceAlong 1 = .ok (.istore_n 2, 1) := by decide +kernel
theorem dX3_priceAlong_2 : decode cX3_priceAlong 2 = .ok (.iload_n 2, 1) := by decide +kernel
theorem dX3_priceAlong_3 : decode cX3_priceAlong 3 = .ok (.aload_n 0, 1) := by decide +kernel
theorem dX3_priceAlong_4 : decode cX3_priceAlong 4 = .ok (.getfield 18, 3) := by decide +kernel
theorem dX3_priceAlong_7 : decode cX3_priceAlong 7 = .ok (.if_icmp .ge 47, 3) := by decide +kernel
theorem dX3_priceAlong_10 : decode cX3_priceAlong 10 = .ok (.iconst 0, 1) := by decide +kernel
theorem dX3_priceAlong_11 : decode cX3_priceAlong 11 = .ok (.istore_n 3, 1) := by decide +kernel
theorem dX3_priceAlong_12 : decode cX3_priceAlong 12 = .ok (.iload_n 3, 1) := by decide +kernel
theorem dX3_priceAlong_13 : decode cX3_priceAlong 13 = .ok (.aload_n 0, 1) := by decide +kernel
theorem dX3_priceAlong_14 : decode cX3_priceAlong 14 = .ok (.getfield 18, 3) := by decide +kernel
theorem dX3_priceAlong_17 : decode cX3_priceAlong 17 = .ok (.if_icmp .ge 31, 3) := by decide +kernel
theorem dX3_priceAlong_20 : decode cX3_priceAlong 20 = .ok (.aload_n 0, 1) := by decide +kernel
theorem dX3_priceAlong_21 : decode cX3_priceAlong 21 = .ok (.getfield 37, 3) := by decide +kernel
theorem dX3_priceAlong_24 : decode cX3_priceAlong 24 = .ok (.iload_n 2, 1) := by decide +kernel
theorem dX3_priceAlong_25 : decode cX3_priceAlong 25 = .ok (.aaload, 1) := by decide +kernel
theorem dX3_priceAlong_26 : decode cX3_priceAlong 26 = .ok (.iload_n 3, 1) := by decide +kernel
theorem dX3_priceAlong_27 : decode cX3_priceAlong 27 = .ok (.iload_n 1, 1) := by decide +kernel
theorem dX3_priceAlong_28 : decode cX3_priceAlong 28 = .ok (.iload_n 2, 1) := by decide +kernel
theorem dX3_priceAlong_29 : decode cX3_priceAlong 29 = .ok (.iload_n 3, 1) := by decide +kernel
theorem dX3_priceAlong_30 : decode cX3_priceAlong 30 = .ok (.ixor, 1) := by decide +kernel
theorem dX3_priceAlong_31 : decode cX3_priceAlong 31 = .ok (.invokestatic 70, 3) := by decide +kernel
theorem dX3_priceAlong_34 : decode cX3_priceAlong 34 = .ok (.aload_n 0, 1) := by decide +kernel
theorem dX3_priceAlong_35 : decode cX3_priceAlong 35 = .ok (.getfield 15, 3) := by decide +kernel
theorem dX3_priceAlong_38 : decode cX3_priceAlong 38 = .ok (.invokestatic 75, 3) := by decide +kernel
theorem dX3_priceAlong_41 : decode cX3_priceAlong 41 = .ok (.iastore, 1) := by decide +kernel
theorem dX3_priceAlong_42 : decode cX3_priceAlong 42 = .ok (.iinc 3 1, 3) := by decide +kernel
theorem dX3_priceAlong_45 : decode cX3_priceAlong 45 = .ok (.goto (-33), 3) := by decide +kernel
theorem dX3_priceAlong_48 : decode cX3_priceAlong 48 = .ok (.iinc 2 1, 3) := by decide +kernel
theorem dX3_priceAlong_51 : decode cX3_priceAlong 51 = .ok (.goto (-49), 3) := by decide +kernel
theorem dX3_priceAlong_54 : decode cX3_priceAlong 54 = .ok (.return_, 1) := by decide +kernel
theorem dX3_priceAcross_0 : decode cX3_priceAcross 0 = .ok (.aload_n 0, 1) := by decide +kernel
theorem dX3_priceAcross_1 : decode cX3_priceAcross 1 = .ok (.getfield 15, 3) := by decide +kernel
theorem dX3_priceAcross_4 : decode cX3_priceAcross 4 = .ok (.iconst 1, 1) := by decide +kernel
theorem dX3_priceAcross_5 : decode cX3_priceAcross 5 = .ok (.isub, 1) := by decide +kernel
theorem dX3_priceAcross_6 : decode cX3_priceAcross 6 = .ok (.istore_n 2, 1) := by decide +kernel
theorem dX3_priceAcross_7 : decode cX3_priceAcross 7 = .ok (.iconst 0, 1) := by decide +kernel
theorem dX3_priceAcross_8 : decode cX3_priceAcross 8 = .ok (.istore_n 3, 1) := by decide +kernel
theorem dX3_priceAcross_9 : decode cX3_priceAcross 9 = .ok (.iload_n 3, 1) := by decide +kernel
theorem dX3_priceAcross_10 : decode cX3_priceAcross 10 = .ok (.aload_n 0, 1) := by decide +kernel
theorem dX3_priceAcross_11 : decode cX3_priceAcross 11 = .ok (.getfield 18, 3) := by decide +kernel
theorem dX3_priceAcross_14 : decode cX3_priceAcross 14 = .ok (.if_icmp .ge 59, 3) := by decide +kernel
theorem dX3_priceAcross_17 : decode cX3_priceAcross 17 = .ok (.iload_n 3, 1) := by decide +kernel
theorem dX3_priceAcross_18 : decode cX3_priceAcross 18 = .ok (.iload_n 3, 1) := by decide +kernel
theorem dX3_priceAcross_19 : decode cX3_priceAcross 19 = .ok (.iconst 1, 1) := by decide +kernel
theorem dX3_priceAcross_20 : decode cX3_priceAcross 20 = .ok (.ishr, 1) := by decide +kernel
theorem dX3_priceAcross_21 : decode cX3_priceAcross 21 = .ok (.ixor, 1) := by decide +kernel
theorem dX3_priceAcross_22 : decode cX3_priceAcross 22 = .ok (.iconst 1, 1) := by decide +kernel
theorem dX3_priceAcross_23 : decode cX3_priceAcross 23 = .ok (.iload_n 2, 1) := by decide +kernel
theorem dX3_priceAcross_24 : decode cX3_priceAcross 24 = .ok (.ishl, 1) := by decide +kernel
theorem dX3_priceAcross_25 : decode cX3_priceAcross 25 = .ok (.iconst 1, 1) := by decide +kernel
theorem dX3_priceAcross_26 : decode cX3_priceAcross 26 = .ok (.isub, 1) := by decide +kernel
theorem dX3_priceAcross_27 : decode cX3_priceAcross 27 = .ok (.iand, 1) := by decide +kernel
theorem dX3_priceAcross_28 : decode cX3_priceAcross 28 = .ok (.invokestatic 70, 3) := by decide +kernel
theorem dX3_priceAcross_31 : decode cX3_priceAcross 31 = .ok (.istore 4, 2) := by decide +kernel
theorem dX3_priceAcross_33 : decode cX3_priceAcross 33 = .ok (.iconst 0, 1) := by decide +kernel
theorem dX3_priceAcross_34 : decode cX3_priceAcross 34 = .ok (.istore 5, 2) := by decide +kernel
theorem dX3_priceAcross_36 : decode cX3_priceAcross 36 = .ok (.iload 5, 2) := by decide +kernel
theorem dX3_priceAcross_38 : decode cX3_priceAcross 38 = .ok (.aload_n 0, 1) := by decide +kernel
theorem dX3_priceAcross_39 : decode cX3_priceAcross 39 = .ok (.getfield 9, 3) := by decide +kernel
theorem dX3_priceAcross_42 : decode cX3_priceAcross 42 = .ok (.if_icmp .ge 25, 3) := by decide +kernel
theorem dX3_priceAcross_45 : decode cX3_priceAcross 45 = .ok (.aload_n 0, 1) := by decide +kernel
theorem dX3_priceAcross_46 : decode cX3_priceAcross 46 = .ok (.getfield 34, 3) := by decide +kernel
theorem dX3_priceAcross_49 : decode cX3_priceAcross 49 = .ok (.iload 5, 2) := by decide +kernel
theorem dX3_priceAcross_51 : decode cX3_priceAcross 51 = .ok (.aaload, 1) := by decide +kernel
theorem dX3_priceAcross_52 : decode cX3_priceAcross 52 = .ok (.iload_n 3, 1) := by decide +kernel
theorem dX3_priceAcross_53 : decode cX3_priceAcross 53 = .ok (.iload_n 1, 1) := by decide +kernel
theorem dX3_priceAcross_54 : decode cX3_priceAcross 54 = .ok (.iload 4, 2) := by decide +kernel
theorem dX3_priceAcross_56 : decode cX3_priceAcross 56 = .ok (.iload_n 2, 1) := by decide +kernel
theorem dX3_priceAcross_57 : decode cX3_priceAcross 57 = .ok (.invokestatic 75, 3) := by decide +kernel
theorem dX3_priceAcross_60 : decode cX3_priceAcross 60 = .ok (.iastore, 1) := by decide +kernel
theorem dX3_priceAcross_61 : decode cX3_priceAcross 61 = .ok (.iinc 5 1, 3) := by decide +kernel
theorem dX3_priceAcross_64 : decode cX3_priceAcross 64 = .ok (.goto (-28), 3) := by decide +kernel
theorem dX3_priceAcross_67 : decode cX3_priceAcross 67 = .ok (.iinc 3 1, 3) := by decide +kernel
theorem dX3_priceAcross_70 : decode cX3_priceAcross 70 = .ok (.goto (-61), 3) := by decide +kernel
theorem dX3_priceAcross_73 : decode cX3_priceAcross 73 = .ok (.return_, 1) := by decide +kernel
theorem dX3_priceFields_0 : decode cX3_priceFields 0 = .ok (.iconst 0, 1) := by decide +kernel
theorem dX3_priceFields_1 : decode cX3_priceFields 1 = .ok (.istore_n 3, 1) := by decide +kernel
theorem dX3_priceFields_2 : decode cX3_priceFields 2 = .ok (.iconst 0, 1) := by decide +kernel
theorem dX3_priceFields_3 : decode cX3_priceFields 3 = .ok (.istore 4, 2) := by decide +kernel
theorem dX3_priceFields_5 : decode cX3_priceFields 5 = .ok (.iload 4, 2) := by decide +kernel
theorem dX3_priceFields_7 : decode cX3_priceFields 7 = .ok (.aload_n 0, 1) := by decide +kernel
theorem dX3_priceFields_8 : decode cX3_priceFields 8 = .ok (.getfield 15, 3) := by decide +kernel
theorem dX3_priceFields_11 : decode cX3_priceFields 11 = .ok (.if_icmp .ge 97, 3) := by decide +kernel
theorem dX3_priceFields_14 : decode cX3_priceFields 14 = .ok (.aload_n 1, 1) := by decide +kernel
theorem dX3_priceFields_15 : decode cX3_priceFields 15 = .ok (.iload 4, 2) := by decide +kernel
theorem dX3_priceFields_17 : decode cX3_priceFields 17 = .ok (.iload_n 2, 1) := by decide +kernel
theorem dX3_priceFields_18 : decode cX3_priceFields 18 = .ok (.invokevirtual 79, 3) := by decide +kernel
theorem dX3_priceFields_21 : decode cX3_priceFields 21 = .ok (.istore 5, 2) := by decide +kernel
theorem dX3_priceFields_23 : decode cX3_priceFields 23 = .ok (.iconst 0, 1) := by decide +kernel
theorem dX3_priceFields_24 : decode cX3_priceFields 24 = .ok (.istore 6, 2) := by decide +kernel
theorem dX3_priceFields_26 : decode cX3_priceFields 26 = .ok (.iload 6, 2) := by decide +kernel
theorem dX3_priceFields_28 : decode cX3_priceFields 28 = .ok (.aload_n 0, 1) := by decide +kernel
theorem dX3_priceFields_29 : decode cX3_priceFields 29 = .ok (.getfield 18, 3) := by decide +kernel
theorem dX3_priceFields_32 : decode cX3_priceFields 32 = .ok (.if_icmp .ge 62, 3) := by decide +kernel
theorem dX3_priceFields_35 : decode cX3_priceFields 35 = .ok (.iload 6, 2) := by decide +kernel
theorem dX3_priceFields_37 : decode cX3_priceFields 37 = .ok (.iload 4, 2) := by decide +kernel
theorem dX3_priceFields_39 : decode cX3_priceFields 39 = .ok (.ishr, 1) := by decide +kernel
theorem dX3_priceFields_40 : decode cX3_priceFields 40 = .ok (.iconst 1, 1) := by decide +kernel
theorem dX3_priceFields_41 : decode cX3_priceFields 41 = .ok (.iand, 1) := by decide +kernel
theorem dX3_priceFields_42 : decode cX3_priceFields 42 = .ok (.iconst 1, 1) := by decide +kernel
theorem dX3_priceFields_43 : decode cX3_priceFields 43 = .ok (.if_icmp .ne 7, 3) := by decide +kernel
theorem dX3_priceFields_46 : decode cX3_priceFields 46 = .ok (.iconst 1, 1) := by decide +kernel
theorem dX3_priceFields_47 : decode cX3_priceFields 47 = .ok (.goto 4, 3) := by decide +kernel
theorem dX3_priceFields_50 : decode cX3_priceFields 50 = .ok (.iconst 0, 1) := by decide +kernel
theorem dX3_priceFields_51 : decode cX3_priceFields 51 = .ok (.istore 7, 2) := by decide +kernel
theorem dX3_priceFields_53 : decode cX3_priceFields 53 = .ok (.iload 7, 2) := by decide +kernel
theorem dX3_priceFields_55 : decode cX3_priceFields 55 = .ok (.ifCond .eq 11, 3) := by decide +kernel
theorem dX3_priceFields_58 : decode cX3_priceFields 58 = .ok (.iload 5, 2) := by decide +kernel
theorem dX3_priceFields_60 : decode cX3_priceFields 60 = .ok (.ifCond .ge 28, 3) := by decide +kernel
theorem dX3_priceFields_63 : decode cX3_priceFields 63 = .ok (.goto 8, 3) := by decide +kernel
theorem dX3_priceFields_66 : decode cX3_priceFields 66 = .ok (.iload 5, 2) := by decide +kernel
theorem dX3_priceFields_68 : decode cX3_priceFields 68 = .ok (.ifCond .le 20, 3) := by decide +kernel
theorem dX3_priceFields_71 : decode cX3_priceFields 71 = .ok (.aload_n 0, 1) := by decide +kernel
theorem dX3_priceFields_72 : decode cX3_priceFields 72 = .ok (.getfield 34, 3) := by decide +kernel
theorem dX3_priceFields_75 : decode cX3_priceFields 75 = .ok (.iload_n 2, 1) := by decide +kernel
theorem dX3_priceFields_76 : decode cX3_priceFields 76 = .ok (.aaload, 1) := by decide +kernel
theorem dX3_priceFields_77 : decode cX3_priceFields 77 = .ok (.iload 6, 2) := by decide +kernel
theorem dX3_priceFields_79 : decode cX3_priceFields 79 = .ok (.dup2, 1) := by decide +kernel
theorem dX3_priceFields_80 : decode cX3_priceFields 80 = .ok (.iaload, 1) := by decide +kernel
theorem dX3_priceFields_81 : decode cX3_priceFields 81 = .ok (.iload 5, 2) := by decide +kernel
theorem dX3_priceFields_83 : decode cX3_priceFields 83 = .ok (.invokestatic 60, 3) := by decide +kernel
theorem dX3_priceFields_86 : decode cX3_priceFields 86 = .ok (.iadd, 1) := by decide +kernel
theorem dX3_priceFields_87 : decode cX3_priceFields 87 = .ok (.iastore, 1) := by decide +kernel
theorem dX3_priceFields_88 : decode cX3_priceFields 88 = .ok (.iinc 6 1, 3) := by decide +kernel
theorem dX3_priceFields_91 : decode cX3_priceFields 91 = .ok (.goto (-65), 3) := by decide +kernel
theorem dX3_priceFields_94 : decode cX3_priceFields 94 = .ok (.iload_n 3, 1) := by decide +kernel
theorem dX3_priceFields_95 : decode cX3_priceFields 95 = .ok (.iload 5, 2) := by decide +kernel
theorem dX3_priceFields_97 : decode cX3_priceFields 97 = .ok (.invokestatic 60, 3) := by decide +kernel
theorem dX3_priceFields_100 : decode cX3_priceFields 100 = .ok (.iadd, 1) := by decide +kernel
theorem dX3_priceFields_101 : decode cX3_priceFields 101 = .ok (.istore_n 3, 1) := by decide +kernel
theorem dX3_priceFields_102 : decode cX3_priceFields 102 = .ok (.iinc 4 1, 3) := by decide +kernel
theorem dX3_priceFields_105 : decode cX3_priceFields 105 = .ok (.goto (-100), 3) := by decide +kernel
theorem dX3_priceFields_108 : decode cX3_priceFields 108 = .ok (.iload_n 3, 1) := by decide +kernel
theorem dX3_priceFields_109 : decode cX3_priceFields 109 = .ok (.ireturn, 1) := by decide +kernel
theorem dX3_price_0 : decode cX3_price 0 = .ok (.iload_n 0, 1) := by decide +kernel
theorem dX3_price_1 : decode cX3_price 1 = .ok (.ifCond .ge 12, 3) := by decide +kernel
theorem dX3_price_4 : decode cX3_price 4 = .ok (.iload_n 0, 1) := by decide +kernel
theorem dX3_price_5 : decode cX3_price 5 = .ok (.ineg, 1) := by decide +kernel
theorem dX3_price_6 : decode cX3_price 6 = .ok (.iload_n 2, 1) := by decide +kernel
theorem dX3_price_7 : decode cX3_price 7 = .ok (.iload_n 1, 1) := by decide +kernel
theorem dX3_price_8 : decode cX3_price 8 = .ok (.isub, 1) := by decide +kernel
theorem dX3_price_9 : decode cX3_price 9 = .ok (.imul, 1) := by decide +kernel
theorem dX3_price_10 : decode cX3_price 10 = .ok (.goto 6, 3) := by decide +kernel
theorem dX3_price_13 : decode cX3_price 13 = .ok (.iload_n 0, 1) := by decide +kernel
theorem dX3_price_14 : decode cX3_price 14 = .ok (.iload_n 1, 1) := by decide +kernel
theorem dX3_price_15 : decode cX3_price 15 = .ok (.imul, 1) := by decide +kernel
theorem dX3_price_16 : decode cX3_price 16 = .ok (.ireturn, 1) := by decide +kernel
theorem dX3_seam_0 : decode cX3_seam 0 = .ok (.aload_n 0, 1) := by decide +kernel
theorem dX3_seam_1 : decode cX3_seam 1 = .ok (.getfield 21, 3) := by decide +kernel
theorem dX3_seam_4 : decode cX3_seam 4 = .ok (.ifCond .eq 14, 3) := by decide +kernel
theorem dX3_seam_7 : decode cX3_seam 7 = .ok (.aload_n 0, 1) := by decide +kernel
theorem dX3_seam_8 : decode cX3_seam 8 = .ok (.getfield 37, 3) := by decide +kernel
theorem dX3_seam_11 : decode cX3_seam 11 = .ok (.iload_n 1, 1) := by decide +kernel
theorem dX3_seam_12 : decode cX3_seam 12 = .ok (.aaload, 1) := by decide +kernel
theorem dX3_seam_13 : decode cX3_seam 13 = .ok (.iload_n 2, 1) := by decide +kernel
theorem dX3_seam_14 : decode cX3_seam 14 = .ok (.iaload, 1) := by decide +kernel
theorem dX3_seam_15 : decode cX3_seam 15 = .ok (.goto 4, 3) := by decide +kernel
theorem dX3_seam_18 : decode cX3_seam 18 = .ok (.iconst 0, 1) := by decide +kernel
theorem dX3_seam_19 : decode cX3_seam 19 = .ok (.ireturn, 1) := by decide +kernel
theorem dX3_kindInOrder_0 : decode cX3_kindInOrder 0 = .ok (.iconst 0, 1) := by decide +kernel
theorem dX3_kindInOrder_1 : decode cX3_kindInOrder 1 = .ok (.istore_n 2, 1) := by decide +kernel
theorem dX3_kindInOrder_2 : decode cX3_kindInOrder 2 = .ok (.iconst 0, 1) := by decide +kernel
theorem dX3_kindInOrder_3 : decode cX3_kindInOrder 3 = .ok (.istore_n 3, 1) := by decide +kernel
theorem dX3_kindInOrder_4 : decode cX3_kindInOrder 4 = .ok (.iload_n 3, 1) := by decide +kernel
theorem dX3_kindInOrder_5 : decode cX3_kindInOrder 5 = .ok (.aload_n 0, 1) := by decide +kernel
theorem dX3_kindInOrder_6 : decode cX3_kindInOrder 6 = .ok (.getfield 15, 3) := by decide +kernel
theorem dX3_kindInOrder_9 : decode cX3_kindInOrder 9 = .ok (.if_icmp .ge 19, 3) := by decide +kernel
theorem dX3_kindInOrder_12 : decode cX3_kindInOrder 12 = .ok (.iload_n 2, 1) := by decide +kernel
theorem dX3_kindInOrder_13 : decode cX3_kindInOrder 13 = .ok (.iconst 1, 1) := by decide +kernel
theorem dX3_kindInOrder_14 : decode cX3_kindInOrder 14 = .ok (.ishl, 1) := by decide +kernel
theorem dX3_kindInOrder_15 : decode cX3_kindInOrder 15 = .ok (.iload_n 1, 1) := by decide +kernel
theorem dX3_kindInOrder_16 : decode cX3_kindInOrder 16 = .ok (.iload_n 3, 1) := by decide +kernel
theorem dX3_kindInOrder_17 : decode cX3_kindInOrder 17 = .ok (.ishr, 1) := by decide +kernel
theorem dX3_kindInOrder_18 : decode cX3_kindInOrder 18 = .ok (.iconst 1, 1) := by decide +kernel
theorem dX3_kindInOrder_19 : decode cX3_kindInOrder 19 = .ok (.iand, 1) := by decide +kernel
theorem dX3_kindInOrder_20 : decode cX3_kindInOrder 20 = .ok (.ior, 1) := by decide +kernel
theorem dX3_kindInOrder_21 : decode cX3_kindInOrder 21 = .ok (.istore_n 2, 1) := by decide +kernel
theorem dX3_kindInOrder_22 : decode cX3_kindInOrder 22 = .ok (.iinc 3 1, 3) := by decide +kernel
theorem dX3_kindInOrder_25 : decode cX3_kindInOrder 25 = .ok (.goto (-21), 3) := by decide +kernel
theorem dX3_kindInOrder_28 : decode cX3_kindInOrder 28 = .ok (.iload_n 2, 1) := by decide +kernel
theorem dX3_kindInOrder_29 : decode cX3_kindInOrder 29 = .ok (.ireturn, 1) := by decide +kernel
theorem dX4_init_0 : decode cX4_init 0 = .ok (.aload_n 0, 1) := by decide +kernel
theorem dX4_init_1 : decode cX4_init 1 = .ok (.invokespecial 3, 3) := by decide +kernel
theorem dX4_init_4 : decode cX4_init 4 = .ok (.aload_n 0, 1) := by decide +kernel
theorem dX4_init_5 : decode cX4_init 5 = .ok (.bipush 6, 2) := by decide +kernel
theorem dX4_init_7 : decode cX4_init 7 = .ok (.putfield 9, 3) := by decide +kernel
theorem dX4_init_10 : decode cX4_init 10 = .ok (.aload_n 0, 1) := by decide +kernel
theorem dX4_init_11 : decode cX4_init 11 = .ok (.iconst 2, 1) := by decide +kernel
theorem dX4_init_12 : decode cX4_init 12 = .ok (.putfield 15, 3) := by decide +kernel
theorem dX4_init_15 : decode cX4_init 15 = .ok (.aload_n 0, 1) := by decide +kernel
theorem dX4_init_16 : decode cX4_init 16 = .ok (.iconst 0, 1) := by decide +kernel
theorem dX4_init_17 : decode cX4_init 17 = .ok (.putfield 18, 3) := by decide +kernel
theorem dX4_init_20 : decode cX4_init 20 = .ok (.aload_n 0, 1) := by decide +kernel
theorem dX4_init_21 : decode cX4_init 21 = .ok (.iconst 1, 1) := by decide +kernel
theorem dX4_init_22 : decode cX4_init 22 = .ok (.putfield 22, 3) := by decide +kernel
theorem dX4_init_25 : decode cX4_init 25 = .ok (.aload_n 0, 1) := by decide +kernel
theorem dX4_init_26 : decode cX4_init 26 = .ok (.iconst 1, 1) := by decide +kernel
theorem dX4_init_27 : decode cX4_init 27 = .ok (.putfield 25, 3) := by decide +kernel
theorem dX4_init_30 : decode cX4_init 30 = .ok (.aload_n 0, 1) := by decide +kernel
theorem dX4_init_31 : decode cX4_init 31 = .ok (.aload_n 0, 1) := by decide +kernel
theorem dX4_init_32 : decode cX4_init 32 = .ok (.getfield 9, 3) := by decide +kernel
theorem dX4_init_35 : decode cX4_init 35 = .ok (.aload_n 0, 1) := by decide +kernel
theorem dX4_init_36 : decode cX4_init 36 = .ok (.getfield 15, 3) := by decide +kernel
theorem dX4_init_39 : decode cX4_init 39 = .ok (.invokestatic 28, 3) := by decide +kernel
theorem dX4_init_42 : decode cX4_init 42 = .ok (.putfield 32, 3) := by decide +kernel
theorem dX4_init_45 : decode cX4_init 45 = .ok (.aload_n 0, 1) := by decide +kernel
theorem dX4_init_46 : decode cX4_init 46 = .ok (.aload_n 0, 1) := by decide +kernel
theorem dX4_init_47 : decode cX4_init 47 = .ok (.getfield 32, 3) := by decide +kernel
theorem dX4_init_50 : decode cX4_init 50 = .ok (.putfield 36, 3) := by decide +kernel
theorem dX4_init_53 : decode cX4_init 53 = .ok (.aload_n 0, 1) := by decide +kernel
theorem dX4_init_54 : decode cX4_init 54 = .ok (.iconst 0, 1) := by decide +kernel
theorem dX4_init_55 : decode cX4_init 55 = .ok (.putfield 39, 3) := by decide +kernel
theorem dX4_init_58 : decode cX4_init 58 = .ok (.aload_n 0, 1) := by decide +kernel
theorem dX4_init_59 : decode cX4_init 59 = .ok (.bipush 40, 2) := by decide +kernel
theorem dX4_init_61 : decode cX4_init 61 = .ok (.newarray .int, 2) := by decide +kernel
theorem dX4_init_63 : decode cX4_init 63 = .ok (.putfield 42, 3) := by decide +kernel
theorem dX4_init_66 : decode cX4_init 66 = .ok (.return_, 1) := by decide +kernel
theorem dX4_place_0 : decode cX4_place 0 = .ok (.iload_n 1, 1) := by decide +kernel
theorem dX4_place_1 : decode cX4_place 1 = .ok (.iconst 4, 1) := by decide +kernel
theorem dX4_place_2 : decode cX4_place 2 = .ok (.imul, 1) := by decide +kernel
theorem dX4_place_3 : decode cX4_place 3 = .ok (.iload_n 0, 1) := by decide +kernel
theorem dX4_place_4 : decode cX4_place 4 = .ok (.iadd, 1) := by decide +kernel
theorem dX4_place_5 : decode cX4_place 5 = .ok (.ireturn, 1) := by decide +kernel
theorem dX4_bit_0 : decode cX4_bit 0 = .ok (.lconst 1, 1) := by decide +kernel
theorem dX4_bit_1 : decode cX4_bit 1 = .ok (.iload_n 0, 1) := by decide +kernel
theorem dX4_bit_2 : decode cX4_bit 2 = .ok (.iload_n 1, 1) := by decide +kernel
theorem dX4_bit_3 : decode cX4_bit 3 = .ok (.invokestatic 46, 3) := by decide +kernel
theorem dX4_bit_6 : decode cX4_bit 6 = .ok (.lshl, 1) := by decide +kernel
theorem dX4_bit_7 : decode cX4_bit 7 = .ok (.lreturn, 1) := by decide +kernel
theorem dX4_allCells_0 : decode cX4_allCells 0 = .ok (.lconst 0, 1) := by decide +kernel
theorem dX4_allCells_1 : decode cX4_allCells 1 = .ok (.lstore_n 2, 1) := by decide +kernel
theorem dX4_allCells_2 : decode cX4_allCells 2 = .ok (.iconst 0, 1) := by decide +kernel
theorem dX4_allCells_3 : decode cX4_allCells 3 = .ok (.istore 4, 2) := by decide +kernel
theorem dX4_allCells_5 : decode cX4_allCells 5 = .ok (.iload 4, 2) := by decide +kernel
theorem dX4_allCells_7 : decode cX4_allCells 7 = .ok (.iload_n 0, 1) := by decide +kernel
theorem dX4_allCells_8 : decode cX4_allCells 8 = .ok (.if_icmp .ge 24, 3) := by decide +kernel
theorem dX4_allCells_11 : decode cX4_allCells 11 = .ok (.lload_n 2, 1) := by decide +kernel
theorem dX4_allCells_12 : decode cX4_allCells 12 = .ok (.lconst 1, 1) := by decide +kernel
theorem dX4_allCells_13 : decode cX4_allCells 13 = .ok (.iload_n 1, 1) := by decide +kernel
theorem dX4_allCells_14 : decode cX4_allCells 14 = .ok (.lshl, 1) := by decide +kernel
theorem dX4_allCells_15 : decode cX4_allCells 15 = .ok (.lconst 1, 1) := by decide +kernel
theorem dX4_allCells_16 : decode cX4_allCells 16 = .ok (.lsub, 1) := by decide +kernel
theorem dX4_allCells_17 : decode cX4_allCells 17 = .ok (.iconst 0, 1) := by decide +kernel
theorem dX4_allCells_18 : decode cX4_allCells 18 = .ok (.iload 4, 2) := by decide +kernel
theorem dX4_allCells_20 : decode cX4_allCells 20 = .ok (.invokestatic 46, 3) := by decide +kernel
theorem dX4_allCells_23 : decode cX4_allCells 23 = .ok (.lshl, 1) := by decide +kernel
theorem dX4_allCells_24 : decode cX4_allCells 24 = .ok (.lor, 1) := by decide +kernel
theorem dX4_allCells_25 : decode cX4_allCells 25 = .ok (.lstore_n 2, 1) := by decide +kernel
theorem dX4_allCells_26 : decode cX4_allCells 26 = .ok (.iinc 4 1, 3) := by decide +kernel
theorem dX4_allCells_29 : decode cX4_allCells 29 = .ok (.goto (-24), 3) := by decide +kernel
theorem dX4_allCells_32 : decode cX4_allCells 32 = .ok (.lload_n 2, 1) := by decide +kernel
theorem dX4_allCells_33 : decode cX4_allCells 33 = .ok (.lreturn, 1) := by decide +kernel
theorem dX4_has_0 : decode cX4_has 0 = .ok (.iload_n 1, 1) := by decide +kernel
theorem dX4_has_1 : decode cX4_has 1 = .ok (.ifCond .lt 27, 3) := by decide +kernel
theorem dX4_has_4 : decode cX4_has 4 = .ok (.iload_n 1, 1) := by decide +kernel
theorem dX4_has_5 : decode cX4_has 5 = .ok (.aload_n 0, 1) := by decide +kernel
theorem dX4_has_6 : decode cX4_has 6 = .ok (.getfield 15, 3) := by decide +kernel
theorem dX4_has_9 : decode cX4_has 9 = .ok (.if_icmp .ge 19, 3) := by decide +kernel
theorem dX4_has_12 : decode cX4_has 12 = .ok (.iload_n 2, 1) := by decide +kernel
theorem dX4_has_13 : decode cX4_has 13 = .ok (.ifCond .lt 15, 3) := by decide +kernel
theorem dX4_has_16 : decode cX4_has 16 = .ok (.iload_n 2, 1) := by decide +kernel
theorem dX4_has_17 : decode cX4_has 17 = .ok (.aload_n 0, 1) := by decide +kernel
theorem dX4_has_18 : decode cX4_has 18 = .ok (.getfield 9, 3) := by decide +kernel
theorem dX4_has_21 : decode cX4_has 21 = .ok (.if_icmp .ge 7, 3) := by decide +kernel
theorem dX4_has_24 : decode cX4_has 24 = .ok (.iconst 1, 1) := by decide +kernel
theorem dX4_has_25 : decode cX4_has 25 = .ok (.goto 4, 3) := by decide +kernel
theorem dX4_has_28 : decode cX4_has 28 = .ok (.iconst 0, 1) := by decide +kernel
theorem dX4_has_29 : decode cX4_has 29 = .ok (.ireturn, 1) := by decide +kernel
theorem dX4_closed_0 : decode cX4_closed 0 = .ok (.aload_n 0, 1) := by decide +kernel
theorem dX4_closed_1 : decode cX4_closed 1 = .ok (.getfield 18, 3) := by decide +kernel
theorem dX4_closed_4 : decode cX4_closed 4 = .ok (.ifCond .eq 15, 3) := by decide +kernel
theorem dX4_closed_7 : decode cX4_closed 7 = .ok (.aload_n 0, 1) := by decide +kernel
theorem dX4_closed_8 : decode cX4_closed 8 = .ok (.getfield 9, 3) := by decide +kernel
theorem dX4_closed_11 : decode cX4_closed 11 = .ok (.iconst 3, 1) := by decide +kernel
theorem dX4_closed_12 : decode cX4_closed 12 = .ok (.if_icmp .lt 7, 3) := by decide +kernel
theorem dX4_closed_15 : decode cX4_closed 15 = .ok (.iconst 1, 1) := by decide +kernel
theorem dX4_closed_16 : decode cX4_closed 16 = .ok (.goto 4, 3) := by decide +kernel
theorem dX4_closed_19 : decode cX4_closed 19 = .ok (.iconst 0, 1) := by decide +kernel
theorem dX4_closed_20 : decode cX4_closed 20 = .ok (.ireturn, 1) := by decide +kernel
theorem dX4_copyFrom_0 : decode cX4_copyFrom 0 = .ok (.aload_n 0, 1) := by decide +kernel
theorem dX4_copyFrom_1 : decode cX4_copyFrom 1 = .ok (.aload_n 1, 1) := by decide +kernel
theorem dX4_copyFrom_2 : decode cX4_copyFrom 2 = .ok (.getfield 9, 3) := by decide +kernel
theorem dX4_copyFrom_5 : decode cX4_copyFrom 5 = .ok (.putfield 9, 3) := by decide +kernel
theorem dX4_copyFrom_8 : decode cX4_copyFrom 8 = .ok (.aload_n 0, 1) := by decide +kernel
theorem dX4_copyFrom_9 : decode cX4_copyFrom 9 = .ok (.aload_n 1, 1) := by decide +kernel
theorem dX4_copyFrom_10 : decode cX4_copyFrom 10 = .ok (.getfield 15, 3) := by decide +kernel
theorem dX4_copyFrom_13 : decode cX4_copyFrom 13 = .ok (.putfield 15, 3) := by decide +kernel
theorem dX4_copyFrom_16 : decode cX4_copyFrom 16 = .ok (.aload_n 0, 1) := by decide +kernel
theorem dX4_copyFrom_17 : decode cX4_copyFrom 17 = .ok (.aload_n 1, 1) := by decide +kernel
theorem dX4_copyFrom_18 : decode cX4_copyFrom 18 = .ok (.getfield 18, 3) := by decide +kernel
theorem dX4_copyFrom_21 : decode cX4_copyFrom 21 = .ok (.putfield 18, 3) := by decide +kernel
theorem dX4_copyFrom_24 : decode cX4_copyFrom 24 = .ok (.aload_n 0, 1) := by decide +kernel
theorem dX4_copyFrom_25 : decode cX4_copyFrom 25 = .ok (.aload_n 1, 1) := by decide +kernel
theorem dX4_copyFrom_26 : decode cX4_copyFrom 26 = .ok (.getfield 22, 3) := by decide +kernel
theorem dX4_copyFrom_29 : decode cX4_copyFrom 29 = .ok (.putfield 22, 3) := by decide +kernel
theorem dX4_copyFrom_32 : decode cX4_copyFrom 32 = .ok (.aload_n 0, 1) := by decide +kernel
theorem dX4_copyFrom_33 : decode cX4_copyFrom 33 = .ok (.aload_n 1, 1) := by decide +kernel
theorem dX4_copyFrom_34 : decode cX4_copyFrom 34 = .ok (.getfield 25, 3) := by decide +kernel
theorem dX4_copyFrom_37 : decode cX4_copyFrom 37 = .ok (.putfield 25, 3) := by decide +kernel
theorem dX4_copyFrom_40 : decode cX4_copyFrom 40 = .ok (.aload_n 0, 1) := by decide +kernel
theorem dX4_copyFrom_41 : decode cX4_copyFrom 41 = .ok (.aload_n 1, 1) := by decide +kernel
theorem dX4_copyFrom_42 : decode cX4_copyFrom 42 = .ok (.getfield 32, 3) := by decide +kernel
theorem dX4_copyFrom_45 : decode cX4_copyFrom 45 = .ok (.putfield 32, 3) := by decide +kernel
theorem dX4_copyFrom_48 : decode cX4_copyFrom 48 = .ok (.aload_n 0, 1) := by decide +kernel
theorem dX4_copyFrom_49 : decode cX4_copyFrom 49 = .ok (.aload_n 1, 1) := by decide +kernel
theorem dX4_copyFrom_50 : decode cX4_copyFrom 50 = .ok (.getfield 36, 3) := by decide +kernel
theorem dX4_copyFrom_53 : decode cX4_copyFrom 53 = .ok (.putfield 36, 3) := by decide +kernel
theorem dX4_copyFrom_56 : decode cX4_copyFrom 56 = .ok (.aload_n 0, 1) := by decide +kernel
theorem dX4_copyFrom_57 : decode cX4_copyFrom 57 = .ok (.aload_n 1, 1) := by decide +kernel
theorem dX4_copyFrom_58 : decode cX4_copyFrom 58 = .ok (.getfield 39, 3) := by decide +kernel
theorem dX4_copyFrom_61 : decode cX4_copyFrom 61 = .ok (.putfield 39, 3) := by decide +kernel
theorem dX4_copyFrom_64 : decode cX4_copyFrom 64 = .ok (.aload_n 1, 1) := by decide +kernel
theorem dX4_copyFrom_65 : decode cX4_copyFrom 65 = .ok (.getfield 42, 3) := by decide +kernel
theorem dX4_copyFrom_68 : decode cX4_copyFrom 68 = .ok (.iconst 0, 1) := by decide +kernel
theorem dX4_copyFrom_69 : decode cX4_copyFrom 69 = .ok (.aload_n 0, 1) := by decide +kernel
theorem dX4_copyFrom_70 : decode cX4_copyFrom 70 = .ok (.getfield 42, 3) := by decide +kernel
theorem dX4_copyFrom_73 : decode cX4_copyFrom 73 = .ok (.iconst 0, 1) := by decide +kernel
theorem dX4_copyFrom_74 : decode cX4_copyFrom 74 = .ok (.aload_n 0, 1) := by decide +kernel
theorem dX4_copyFrom_75 : decode cX4_copyFrom 75 = .ok (.getfield 42, 3) := by decide +kernel
theorem dX4_copyFrom_78 : decode cX4_copyFrom 78 = .ok (.arraylength, 1) := by decide +kernel
theorem dX4_copyFrom_79 : decode cX4_copyFrom 79 = .ok (.invokestatic 50, 3) := by decide +kernel
theorem dX4_copyFrom_82 : decode cX4_copyFrom 82 = .ok (.return_, 1) := by decide +kernel
theorem dX4_remake_0 : decode cX4_remake 0 = .ok (.aload_n 0, 1) := by decide +kernel
theorem dX4_remake_1 : decode cX4_remake 1 = .ok (.iload_n 1, 1) := by decide +kernel
theorem dX4_remake_2 : decode cX4_remake 2 = .ok (.putfield 9, 3) := by decide +kernel
theorem dX4_remake_5 : decode cX4_remake 5 = .ok (.aload_n 0, 1) := by decide +kernel
theorem dX4_remake_6 : decode cX4_remake 6 = .ok (.iload_n 2, 1) := by decide +kernel
theorem dX4_remake_7 : decode cX4_remake 7 = .ok (.putfield 15, 3) := by decide +kernel
theorem dX4_remake_10 : decode cX4_remake 10 = .ok (.aload_n 0, 1) := by decide +kernel
theorem dX4_remake_11 : decode cX4_remake 11 = .ok (.iload_n 3, 1) := by decide +kernel
theorem dX4_remake_12 : decode cX4_remake 12 = .ok (.putfield 18, 3) := by decide +kernel
theorem dX4_remake_15 : decode cX4_remake 15 = .ok (.aload_n 0, 1) := by decide +kernel
theorem dX4_remake_16 : decode cX4_remake 16 = .ok (.aload_n 0, 1) := by decide +kernel
theorem dX4_remake_17 : decode cX4_remake 17 = .ok (.getfield 9, 3) := by decide +kernel
theorem dX4_remake_20 : decode cX4_remake 20 = .ok (.aload_n 0, 1) := by decide +kernel
theorem dX4_remake_21 : decode cX4_remake 21 = .ok (.getfield 15, 3) := by decide +kernel
theorem dX4_remake_24 : decode cX4_remake 24 = .ok (.invokestatic 28, 3) := by decide +kernel
theorem dX4_remake_27 : decode cX4_remake 27 = .ok (.putfield 32, 3) := by decide +kernel
theorem dX4_remake_30 : decode cX4_remake 30 = .ok (.aload_n 0, 1) := by decide +kernel
theorem dX4_remake_31 : decode cX4_remake 31 = .ok (.aload_n 0, 1) := by decide +kernel
theorem dX4_remake_32 : decode cX4_remake 32 = .ok (.getfield 32, 3) := by decide +kernel
theorem dX4_remake_35 : decode cX4_remake 35 = .ok (.putfield 36, 3) := by decide +kernel
theorem dX4_remake_38 : decode cX4_remake 38 = .ok (.aload_n 0, 1) := by decide +kernel
theorem dX4_remake_39 : decode cX4_remake 39 = .ok (.getfield 42, 3) := by decide +kernel
theorem dX4_remake_42 : decode cX4_remake 42 = .ok (.iconst 0, 1) := by decide +kernel
theorem dX4_remake_43 : decode cX4_remake 43 = .ok (.invokestatic 56, 3) := by decide +kernel
theorem dX4_remake_46 : decode cX4_remake 46 = .ok (.return_, 1) := by decide +kernel
theorem dX4_spinAt_0 : decode cX4_spinAt 0 = .ok (.aload_n 0, 1) := by decide +kernel
theorem dX4_spinAt_1 : decode cX4_spinAt 1 = .ok (.getfield 36, 3) := by decide +kernel
theorem dX4_spinAt_4 : decode cX4_spinAt 4 = .ok (.iload_n 1, 1) := by decide +kernel
theorem dX4_spinAt_5 : decode cX4_spinAt 5 = .ok (.iload_n 2, 1) := by decide +kernel
theorem dX4_spinAt_6 : decode cX4_spinAt 6 = .ok (.invokestatic 62, 3) := by decide +kernel
theorem dX4_spinAt_9 : decode cX4_spinAt 9 = .ok (.land, 1) := by decide +kernel
theorem dX4_spinAt_10 : decode cX4_spinAt 10 = .ok (.lconst 0, 1) := by decide +kernel
theorem dX4_spinAt_11 : decode cX4_spinAt 11 = .ok (.lcmp, 1) := by decide +kernel
theorem dX4_spinAt_12 : decode cX4_spinAt 12 = .ok (.ifCond .eq 7, 3) := by decide +kernel
theorem dX4_spinAt_15 : decode cX4_spinAt 15 = .ok (.iconst 1, 1) := by decide +kernel
theorem dX4_spinAt_16 : decode cX4_spinAt 16 = .ok (.goto 4, 3) := by decide +kernel
theorem dX4_spinAt_19 : decode cX4_spinAt 19 = .ok (.iconst (-1), 1) := by decide +kernel
theorem dX4_spinAt_20 : decode cX4_spinAt 20 = .ok (.ireturn, 1) := by decide +kernel
theorem dX4_fieldAt_0 : decode cX4_fieldAt 0 = .ok (.aload_n 0, 1) := by decide +kernel
theorem dX4_fieldAt_1 : decode cX4_fieldAt 1 = .ok (.iload_n 1, 1) := by decide +kernel
theorem dX4_fieldAt_2 : decode cX4_fieldAt 2 = .ok (.iload_n 2, 1) := by decide +kernel
theorem dX4_fieldAt_3 : decode cX4_fieldAt 3 = .ok (.invokevirtual 65, 3) := by decide +kernel
theorem dX4_fieldAt_6 : decode cX4_fieldAt 6 = .ok (.ifCond .eq 16, 3) := by decide +kernel
theorem dX4_fieldAt_9 : decode cX4_fieldAt 9 = .ok (.aload_n 0, 1) := by decide +kernel
theorem dX4_fieldAt_10 : decode cX4_fieldAt 10 = .ok (.getfield 42, 3) := by decide +kernel
theorem dX4_fieldAt_13 : decode cX4_fieldAt 13 = .ok (.iload_n 1, 1) := by decide +kernel
theorem dX4_fieldAt_14 : decode cX4_fieldAt 14 = .ok (.iload_n 2, 1) := by decide +kernel
theorem dX4_fieldAt_15 : decode cX4_fieldAt 15 = .ok (.invokestatic 46, 3) := by decide +kernel
theorem dX4_fieldAt_18 : decode cX4_fieldAt 18 = .ok (.iaload, 1) := by decide +kernel
theorem dX4_fieldAt_19 : decode cX4_fieldAt 19 = .ok (.goto 4, 3) := by decide +kernel
theorem dX4_fieldAt_22 : decode cX4_fieldAt 22 = .ok (.iconst 0, 1) := by decide +kernel
theorem dX4_fieldAt_23 : decode cX4_fieldAt 23 = .ok (.ireturn, 1) := by decide +kernel
theorem dX4_putField_0 : decode cX4_putField 0 = .ok (.aload_n 0, 1) := by decide +kernel
theorem dX4_putField_1 : decode cX4_putField 1 = .ok (.iload_n 1, 1) := by decide +kernel
theorem dX4_putField_2 : decode cX4_putField 2 = .ok (.iload_n 2, 1) := by decide +kernel
theorem dX4_putField_3 : decode cX4_putField 3 = .ok (.invokevirtual 65, 3) := by decide +kernel
theorem dX4_putField_6 : decode cX4_putField 6 = .ok (.ifCond .eq 14, 3) := by decide +kernel
theorem dX4_putField_9 : decode cX4_putField 9 = .ok (.aload_n 0, 1) := by decide +kernel
theorem dX4_putField_10 : decode cX4_putField 10 = .ok (.getfield 42, 3) := by decide +kernel
theorem dX4_putField_13 : decode cX4_putField 13 = .ok (.iload_n 1, 1) := by decide +kernel
theorem dX4_putField_14 : decode cX4_putField 14 = .ok (.iload_n 2, 1) := by decide +kernel
theorem dX4_putField_15 : decode cX4_putField 15 = .ok (.invokestatic 46, 3) := by decide +kernel
theorem dX4_putField_18 : decode cX4_putField 18 = .ok (.iload_n 3, 1) := by decide +kernel
theorem dX4_putField_19 : decode cX4_putField 19 = .ok (.iastore, 1) := by decide +kernel
theorem dX4_putField_20 : decode cX4_putField 20 = .ok (.return_, 1) := by decide +kernel
theorem dX4_kindOf_0 : decode cX4_kindOf 0 = .ok (.aload_n 0, 1) := by decide +kernel
theorem dX4_kindOf_1 : decode cX4_kindOf 1 = .ok (.getfield 36, 3) := by decide +kernel
theorem dX4_kindOf_4 : decode cX4_kindOf 4 = .ok (.iconst 0, 1) := by decide +kernel
theorem dX4_kindOf_5 : decode cX4_kindOf 5 = .ok (.iload_n 1, 1) := by decide +kernel
theorem dX4_kindOf_6 : decode cX4_kindOf 6 = .ok (.invokestatic 46, 3) := by decide +kernel
theorem dX4_kindOf_9 : decode cX4_kindOf 9 = .ok (.lushr, 1) := by decide +kernel
theorem dX4_kindOf_10 : decode cX4_kindOf 10 = .ok (.l2i, 1) := by decide +kernel
theorem dX4_kindOf_11 : decode cX4_kindOf 11 = .ok (.iconst 1, 1) := by decide +kernel
theorem dX4_kindOf_12 : decode cX4_kindOf 12 = .ok (.aload_n 0, 1) := by decide +kernel
theorem dX4_kindOf_13 : decode cX4_kindOf 13 = .ok (.getfield 15, 3) := by decide +kernel
theorem dX4_kindOf_16 : decode cX4_kindOf 16 = .ok (.ishl, 1) := by decide +kernel
theorem dX4_kindOf_17 : decode cX4_kindOf 17 = .ok (.iconst 1, 1) := by decide +kernel
theorem dX4_kindOf_18 : decode cX4_kindOf 18 = .ok (.isub, 1) := by decide +kernel
theorem dX4_kindOf_19 : decode cX4_kindOf 19 = .ok (.iand, 1) := by decide +kernel
theorem dX4_kindOf_20 : decode cX4_kindOf 20 = .ok (.ireturn, 1) := by decide +kernel
theorem dX4_flip_0 : decode cX4_flip 0 = .ok (.aload_n 0, 1) := by decide +kernel
theorem dX4_flip_1 : decode cX4_flip 1 = .ok (.dup, 1) := by decide +kernel
theorem dX4_flip_2 : decode cX4_flip 2 = .ok (.getfield 36, 3) := by decide +kernel
theorem dX4_flip_5 : decode cX4_flip 5 = .ok (.lload_n 1, 1) := by decide +kernel
theorem dX4_flip_6 : decode cX4_flip 6 = .ok (.lxor, 1) := by decide +kernel
theorem dX4_flip_7 : decode cX4_flip 7 = .ok (.putfield 36, 3) := by decide +kernel
theorem dX4_flip_10 : decode cX4_flip 10 = .ok (.aload_n 0, 1) := by decide +kernel
theorem dX4_flip_11 : decode cX4_flip 11 = .ok (.dup, 1) := by decide +kernel
theorem dX4_flip_12 : decode cX4_flip 12 = .ok (.getfield 39, 3) := by decide +kernel
theorem dX4_flip_15 : decode cX4_flip 15 = .ok (.lload_n 1, 1) := by decide +kernel
theorem dX4_flip_16 : decode cX4_flip 16 = .ok (.invokestatic 69, 3) := by decide +kernel
theorem dX4_flip_19 : decode cX4_flip 19 = .ok (.iadd, 1) := by decide +kernel
theorem dX4_flip_20 : decode cX4_flip 20 = .ok (.putfield 39, 3) := by decide +kernel
theorem dX4_flip_23 : decode cX4_flip 23 = .ok (.return_, 1) := by decide +kernel
theorem dX4_besideAlong_0 : decode cX4_besideAlong 0 = .ok (.lload_n 1, 1) := by decide +kernel
theorem dX4_besideAlong_1 : decode cX4_besideAlong 1 = .ok (.iconst 4, 1) := by decide +kernel
theorem dX4_besideAlong_2 : decode cX4_besideAlong 2 = .ok (.lshl, 1) := by decide +kernel
theorem dX4_besideAlong_3 : decode cX4_besideAlong 3 = .ok (.lload_n 1, 1) := by decide +kernel
theorem dX4_besideAlong_4 : decode cX4_besideAlong 4 = .ok (.iconst 4, 1) := by decide +kernel
theorem dX4_besideAlong_5 : decode cX4_besideAlong 5 = .ok (.lushr, 1) := by decide +kernel
theorem dX4_besideAlong_6 : decode cX4_besideAlong 6 = .ok (.lor, 1) := by decide +kernel
theorem dX4_besideAlong_7 : decode cX4_besideAlong 7 = .ok (.lstore_n 3, 1) := by decide +kernel
theorem dX4_besideAlong_8 : decode cX4_besideAlong 8 = .ok (.aload_n 0, 1) := by decide +kernel
theorem dX4_besideAlong_9 : decode cX4_besideAlong 9 = .ok (.invokevirtual 75, 3) := by decide +kernel
theorem dX4_besideAlong_12 : decode cX4_besideAlong 12 = .ok (.ifCond .eq 27, 3) := by decide +kernel
theorem dX4_besideAlong_15 : decode cX4_besideAlong 15 = .ok (.iconst 0, 1) := by decide +kernel
theorem dX4_besideAlong_16 : decode cX4_besideAlong 16 = .ok (.aload_n 0, 1) := by decide +kernel
theorem dX4_besideAlong_17 : decode cX4_besideAlong 17 = .ok (.getfield 9, 3) := by decide +kernel
theorem dX4_besideAlong_20 : decode cX4_besideAlong 20 = .ok (.iconst 1, 1) := by decide +kernel
theorem dX4_besideAlong_21 : decode cX4_besideAlong 21 = .ok (.isub, 1) := by decide +kernel
theorem dX4_besideAlong_22 : decode cX4_besideAlong 22 = .ok (.invokestatic 46, 3) := by decide +kernel
theorem dX4_besideAlong_25 : decode cX4_besideAlong 25 = .ok (.istore 5, 2) := by decide +kernel
theorem dX4_besideAlong_27 : decode cX4_besideAlong 27 = .ok (.lload_n 3, 1) := by decide +kernel
theorem dX4_besideAlong_28 : decode cX4_besideAlong 28 = .ok (.lload_n 1, 1) := by decide +kernel
theorem dX4_besideAlong_29 : decode cX4_besideAlong 29 = .ok (.iload 5, 2) := by decide +kernel
theorem dX4_besideAlong_31 : decode cX4_besideAlong 31 = .ok (.lshl, 1) := by decide +kernel
theorem dX4_besideAlong_32 : decode cX4_besideAlong 32 = .ok (.lload_n 1, 1) := by decide +kernel
theorem dX4_besideAlong_33 : decode cX4_besideAlong 33 = .ok (.iload 5, 2) := by decide +kernel
theorem dX4_besideAlong_35 : decode cX4_besideAlong 35 = .ok (.lushr, 1) := by decide +kernel
theorem dX4_besideAlong_36 : decode cX4_besideAlong 36 = .ok (.lor, 1) := by decide +kernel
theorem dX4_besideAlong_37 : decode cX4_besideAlong 37 = .ok (.lor, 1) := by decide +kernel
theorem dX4_besideAlong_38 : decode cX4_besideAlong 38 = .ok (.lstore_n 3, 1) := by decide +kernel
theorem dX4_besideAlong_39 : decode cX4_besideAlong 39 = .ok (.lload_n 3, 1) := by decide +kernel
theorem dX4_besideAlong_40 : decode cX4_besideAlong 40 = .ok (.aload_n 0, 1) := by decide +kernel
theorem dX4_besideAlong_41 : decode cX4_besideAlong 41 = .ok (.getfield 32, 3) := by decide +kernel
theorem dX4_besideAlong_44 : decode cX4_besideAlong 44 = .ok (.land, 1) := by decide +kernel
theorem dX4_besideAlong_45 : decode cX4_besideAlong 45 = .ok (.lreturn, 1) := by decide +kernel
theorem dX4_besideAcross_0 : decode cX4_besideAcross 0 = .ok (.lload_n 1, 1) := by decide +kernel
theorem dX4_besideAcross_1 : decode cX4_besideAcross 1 = .ok (.iconst 1, 1) := by decide +kernel
theorem dX4_besideAcross_2 : decode cX4_besideAcross 2 = .ok (.lshl, 1) := by decide +kernel
theorem dX4_besideAcross_3 : decode cX4_besideAcross 3 = .ok (.lload_n 1, 1) := by decide +kernel
theorem dX4_besideAcross_4 : decode cX4_besideAcross 4 = .ok (.iconst 1, 1) := by decide +kernel
theorem dX4_besideAcross_5 : decode cX4_besideAcross 5 = .ok (.lushr, 1) := by decide +kernel
theorem dX4_besideAcross_6 : decode cX4_besideAcross 6 = .ok (.lor, 1) := by decide +kernel
theorem dX4_besideAcross_7 : decode cX4_besideAcross 7 = .ok (.aload_n 0, 1) := by decide +kernel
theorem dX4_besideAcross_8 : decode cX4_besideAcross 8 = .ok (.getfield 32, 3) := by decide +kernel
theorem dX4_besideAcross_11 : decode cX4_besideAcross 11 = .ok (.land, 1) := by decide +kernel
theorem dX4_besideAcross_12 : decode cX4_besideAcross 12 = .ok (.lreturn, 1) := by decide +kernel
theorem dX4_beside_0 : decode cX4_beside 0 = .ok (.aload_n 0, 1) := by decide +kernel
theorem dX4_beside_1 : decode cX4_beside 1 = .ok (.lload_n 1, 1) := by decide +kernel
theorem dX4_beside_2 : decode cX4_beside 2 = .ok (.invokevirtual 79, 3) := by decide +kernel
theorem dX4_beside_5 : decode cX4_beside 5 = .ok (.aload_n 0, 1) := by decide +kernel
theorem dX4_beside_6 : decode cX4_beside 6 = .ok (.lload_n 1, 1) := by decide +kernel
theorem dX4_beside_7 : decode cX4_beside 7 = .ok (.invokevirtual 83, 3) := by decide +kernel
theorem dX4_beside_10 : decode cX4_beside 10 = .ok (.lor, 1) := by decide +kernel
theorem dX4_beside_11 : decode cX4_beside 11 = .ok (.lreturn, 1) := by decide +kernel
theorem dX4_alike_0 : decode cX4_alike 0 = .ok (.aload_n 0, 1) := by decide +kernel
theorem dX4_alike_1 : decode cX4_alike 1 = .ok (.getfield 36, 3) := by decide +kernel
theorem dX4_alike_4 : decode cX4_alike 4 = .ok (.lload_n 1, 1) := by decide +kernel
theorem dX4_alike_5 : decode cX4_alike 5 = .ok (.land, 1) := by decide +kernel
theorem dX4_alike_6 : decode cX4_alike 6 = .ok (.lconst 0, 1) := by decide +kernel
theorem dX4_alike_7 : decode cX4_alike 7 = .ok (.lcmp, 1) := by decide +kernel
theorem dX4_alike_8 : decode cX4_alike 8 = .ok (.ifCond .eq 10, 3) := by decide +kernel
theorem dX4_alike_11 : decode cX4_alike 11 = .ok (.aload_n 0, 1) := by decide +kernel
theorem dX4_alike_12 : decode cX4_alike 12 = .ok (.getfield 36, 3) := by decide +kernel
theorem dX4_alike_15 : decode cX4_alike 15 = .ok (.goto 16, 3) := by decide +kernel
theorem dX4_alike_18 : decode cX4_alike 18 = .ok (.aload_n 0, 1) := by decide +kernel
theorem dX4_alike_19 : decode cX4_alike 19 = .ok (.getfield 32, 3) := by decide +kernel
theorem dX4_alike_22 : decode cX4_alike 22 = .ok (.aload_n 0, 1) := by decide +kernel
theorem dX4_alike_23 : decode cX4_alike 23 = .ok (.getfield 36, 3) := by decide +kernel
theorem dX4_alike_26 : decode cX4_alike 26 = .ok (.ldc2_w 86, 3) := by decide +kernel
theorem dX4_alike_29 : decode cX4_alike 29 = .ok (.lxor, 1) := by decide +kernel
theorem dX4_alike_30 : decode cX4_alike 30 = .ok (.land, 1) := by decide +kernel
theorem dX4_alike_31 : decode cX4_alike 31 = .ok (.lreturn, 1) := by decide +kernel
theorem dX4_spinSum_0 : decode cX4_spinSum 0 = .ok (.iconst 2, 1) := by decide +kernel
theorem dX4_spinSum_1 : decode cX4_spinSum 1 = .ok (.lload_n 1, 1) := by decide +kernel
theorem dX4_spinSum_2 : decode cX4_spinSum 2 = .ok (.aload_n 0, 1) := by decide +kernel
theorem dX4_spinSum_3 : decode cX4_spinSum 3 = .ok (.getfield 36, 3) := by decide +kernel
theorem dX4_spinSum_6 : decode cX4_spinSum 6 = .ok (.land, 1) := by decide +kernel
theorem dX4_spinSum_7 : decode cX4_spinSum 7 = .ok (.invokestatic 69, 3) := by decide +kernel
theorem dX4_spinSum_10 : decode cX4_spinSum 10 = .ok (.imul, 1) := by decide +kernel
theorem dX4_spinSum_11 : decode cX4_spinSum 11 = .ok (.lload_n 1, 1) := by decide +kernel
theorem dX4_spinSum_12 : decode cX4_spinSum 12 = .ok (.invokestatic 69, 3) := by decide +kernel
theorem dX4_spinSum_15 : decode cX4_spinSum 15 = .ok (.isub, 1) := by decide +kernel
theorem dX4_spinSum_16 : decode cX4_spinSum 16 = .ok (.ireturn, 1) := by decide +kernel
theorem dX4_pullOfNeighbours_0 : decode cX4_pullOfNeighbours 0 = .ok (.aload_n 0, 1) := by decide +kernel
theorem dX4_pullOfNeighbours_1 : decode cX4_pullOfNeighbours 1 = .ok (.getfield 22, 3) := by decide +kernel
theorem dX4_pullOfNeighbours_4 : decode cX4_pullOfNeighbours 4 = .ok (.aload_n 0, 1) := by decide +kernel
theorem dX4_pullOfNeighbours_5 : decode cX4_pullOfNeighbours 5 = .ok (.aload_n 0, 1) := by decide +kernel
theorem dX4_pullOfNeighbours_6 : decode cX4_pullOfNeighbours 6 = .ok (.lload_n 1, 1) := by decide +kernel
theorem dX4_pullOfNeighbours_7 : decode cX4_pullOfNeighbours 7 = .ok (.invokevirtual 79, 3) := by decide +kernel
theorem dX4_pullOfNeighbours_10 : decode cX4_pullOfNeighbours 10 = .ok (.invokevirtual 88, 3) := by decide +kernel
theorem dX4_pullOfNeighbours_13 : decode cX4_pullOfNeighbours 13 = .ok (.imul, 1) := by decide +kernel
theorem dX4_pullOfNeighbours_14 : decode cX4_pullOfNeighbours 14 = .ok (.aload_n 0, 1) := by decide +kernel
theorem dX4_pullOfNeighbours_15 : decode cX4_pullOfNeighbours 15 = .ok (.getfield 25, 3) := by decide +kernel
theorem dX4_pullOfNeighbours_18 : decode cX4_pullOfNeighbours 18 = .ok (.aload_n 0, 1) := by decide +kernel
theorem dX4_pullOfNeighbours_19 : decode cX4_pullOfNeighbours 19 = .ok (.aload_n 0, 1) := by decide +kernel
theorem dX4_pullOfNeighbours_20 : decode cX4_pullOfNeighbours 20 = .ok (.lload_n 1, 1) := by decide +kernel
theorem dX4_pullOfNeighbours_21 : decode cX4_pullOfNeighbours 21 = .ok (.invokevirtual 83, 3) := by decide +kernel
theorem dX4_pullOfNeighbours_24 : decode cX4_pullOfNeighbours 24 = .ok (.invokevirtual 88, 3) := by decide +kernel
theorem dX4_pullOfNeighbours_27 : decode cX4_pullOfNeighbours 27 = .ok (.imul, 1) := by decide +kernel
theorem dX4_pullOfNeighbours_28 : decode cX4_pullOfNeighbours 28 = .ok (.iadd, 1) := by decide +kernel
theorem dX4_pullOfNeighbours_29 : decode cX4_pullOfNeighbours 29 = .ok (.ireturn, 1) := by decide +kernel
theorem dX4_gain_0 : decode cX4_gain 0 = .ok (.aload_n 0, 1) := by decide +kernel
theorem dX4_gain_1 : decode cX4_gain 1 = .ok (.iload_n 1, 1) := by decide +kernel
theorem dX4_gain_2 : decode cX4_gain 2 = .ok (.iload_n 2, 1) := by decide +kernel
theorem dX4_gain_3 : decode cX4_gain 3 = .ok (.invokestatic 62, 3) := by decide +kernel
theorem dX4_gain_6 : decode cX4_gain 6 = .ok (.invokevirtual 91, 3) := by decide +kernel
theorem dX4_gain_9 : decode cX4_gain 9 = .ok (.aload_n 0, 1) := by decide +kernel
theorem dX4_gain_10 : decode cX4_gain 10 = .ok (.iload_n 1, 1) := by decide +kernel
theorem dX4_gain_11 : decode cX4_gain 11 = .ok (.iload_n 2, 1) := by decide +kernel
theorem dX4_gain_12 : decode cX4_gain 12 = .ok (.invokevirtual 94, 3) := by decide +kernel
theorem dX4_gain_15 : decode cX4_gain 15 = .ok (.iadd, 1) := by decide +kernel
theorem dX4_gain_16 : decode cX4_gain 16 = .ok (.istore_n 3, 1) := by decide +kernel
theorem dX4_gain_17 : decode cX4_gain 17 = .ok (.bipush (-2), 2) := by decide +kernel
theorem dX4_gain_19 : decode cX4_gain 19 = .ok (.aload_n 0, 1) := by decide +kernel
theorem dX4_gain_20 : decode cX4_gain 20 = .ok (.iload_n 1, 1) := by decide +kernel
theorem dX4_gain_21 : decode cX4_gain 21 = .ok (.iload_n 2, 1) := by decide +kernel
theorem dX4_gain_22 : decode cX4_gain 22 = .ok (.invokevirtual 97, 3) := by decide +kernel
theorem dX4_gain_25 : decode cX4_gain 25 = .ok (.imul, 1) := by decide +kernel
theorem dX4_gain_26 : decode cX4_gain 26 = .ok (.iload_n 3, 1) := by decide +kernel
theorem dX4_gain_27 : decode cX4_gain 27 = .ok (.imul, 1) := by decide +kernel
theorem dX4_gain_28 : decode cX4_gain 28 = .ok (.ireturn, 1) := by decide +kernel
theorem dX4_energy_0 : decode cX4_energy 0 = .ok (.iconst 0, 1) := by decide +kernel
theorem dX4_energy_1 : decode cX4_energy 1 = .ok (.istore_n 1, 1) := by decide +kernel
theorem dX4_energy_2 : decode cX4_energy 2 = .ok (.iconst 0, 1) := by decide +kernel
theorem dX4_energy_3 : decode cX4_energy 3 = .ok (.istore_n 2, 1) := by decide +kernel
theorem dX4_energy_4 : decode cX4_energy 4 = .ok (.iconst 0, 1) := by decide +kernel
theorem dX4_energy_5 : decode cX4_energy 5 = .ok (.istore_n 3, 1) := by decide +kernel
theorem dX4_energy_6 : decode cX4_energy 6 = .ok (.iload_n 3, 1) := by decide +kernel
theorem dX4_energy_7 : decode cX4_energy 7 = .ok (.aload_n 0, 1) := by decide +kernel
theorem dX4_energy_8 : decode cX4_energy 8 = .ok (.getfield 9, 3) := by decide +kernel
theorem dX4_energy_11 : decode cX4_energy 11 = .ok (.if_icmp .ge 65, 3) := by decide +kernel
theorem dX4_energy_14 : decode cX4_energy 14 = .ok (.iconst 0, 1) := by decide +kernel
theorem dX4_energy_15 : decode cX4_energy 15 = .ok (.istore 4, 2) := by decide +kernel
theorem dX4_energy_17 : decode cX4_energy 17 = .ok (.iload 4, 2) := by decide +kernel
theorem dX4_energy_19 : decode cX4_energy 19 = .ok (.aload_n 0, 1) := by decide +kernel
theorem dX4_energy_20 : decode cX4_energy 20 = .ok (.getfield 15, 3) := by decide +kernel
theorem dX4_energy_23 : decode cX4_energy 23 = .ok (.if_icmp .ge 47, 3) := by decide +kernel
theorem dX4_energy_26 : decode cX4_energy 26 = .ok (.aload_n 0, 1) := by decide +kernel
theorem dX4_energy_27 : decode cX4_energy 27 = .ok (.iload 4, 2) := by decide +kernel
theorem dX4_energy_29 : decode cX4_energy 29 = .ok (.iload_n 3, 1) := by decide +kernel
theorem dX4_energy_30 : decode cX4_energy 30 = .ok (.invokevirtual 97, 3) := by decide +kernel
theorem dX4_energy_33 : decode cX4_energy 33 = .ok (.istore 5, 2) := by decide +kernel
theorem dX4_energy_35 : decode cX4_energy 35 = .ok (.iload_n 1, 1) := by decide +kernel
theorem dX4_energy_36 : decode cX4_energy 36 = .ok (.iload 5, 2) := by decide +kernel
theorem dX4_energy_38 : decode cX4_energy 38 = .ok (.aload_n 0, 1) := by decide +kernel
theorem dX4_energy_39 : decode cX4_energy 39 = .ok (.iload 4, 2) := by decide +kernel
theorem dX4_energy_41 : decode cX4_energy 41 = .ok (.iload_n 3, 1) := by decide +kernel
theorem dX4_energy_42 : decode cX4_energy 42 = .ok (.invokestatic 62, 3) := by decide +kernel
theorem dX4_energy_45 : decode cX4_energy 45 = .ok (.invokevirtual 91, 3) := by decide +kernel
theorem dX4_energy_48 : decode cX4_energy 48 = .ok (.imul, 1) := by decide +kernel
theorem dX4_energy_49 : decode cX4_energy 49 = .ok (.iadd, 1) := by decide +kernel
theorem dX4_energy_50 : decode cX4_energy 50 = .ok (.istore_n 1, 1) := by decide +kernel
theorem dX4_energy_51 : decode cX4_energy 51 = .ok (.iload_n 2, 1) := by decide +kernel
theorem dX4_energy_52 : decode cX4_energy 52 = .ok (.iload 5, 2) := by decide +kernel
theorem dX4_energy_54 : decode cX4_energy 54 = .ok (.aload_n 0, 1) := by decide +kernel
theorem dX4_energy_55 : decode cX4_energy 55 = .ok (.iload 4, 2) := by decide +kernel
theorem dX4_energy_57 : decode cX4_energy 57 = .ok (.iload_n 3, 1) := by decide +kernel
theorem dX4_energy_58 : decode cX4_energy 58 = .ok (.invokevirtual 94, 3) := by decide +kernel
theorem dX4_energy_61 : decode cX4_energy 61 = .ok (.imul, 1) := by decide +kernel
theorem dX4_energy_62 : decode cX4_energy 62 = .ok (.iadd, 1) := by decide +kernel
theorem dX4_energy_63 : decode cX4_energy 63 = .ok (.istore_n 2, 1) := by decide +kernel
theorem dX4_energy_64 : decode cX4_energy 64 = .ok (.iinc 4 1, 3) := by decide +kernel
theorem dX4_energy_67 : decode cX4_energy 67 = .ok (.goto (-50), 3) := by decide +kernel
theorem dX4_energy_70 : decode cX4_energy 70 = .ok (.iinc 3 1, 3) := by decide +kernel
theorem dX4_energy_73 : decode cX4_energy 73 = .ok (.goto (-67), 3) := by decide +kernel
theorem dX4_energy_76 : decode cX4_energy 76 = .ok (.iload_n 1, 1) := by decide +kernel
theorem dX4_energy_77 : decode cX4_energy 77 = .ok (.iconst 2, 1) := by decide +kernel
theorem dX4_energy_78 : decode cX4_energy 78 = .ok (.idiv, 1) := by decide +kernel
theorem dX4_energy_79 : decode cX4_energy 79 = .ok (.iload_n 2, 1) := by decide +kernel
theorem dX4_energy_80 : decode cX4_energy 80 = .ok (.iadd, 1) := by decide +kernel
theorem dX4_energy_81 : decode cX4_energy 81 = .ok (.ineg, 1) := by decide +kernel
theorem dX4_energy_82 : decode cX4_energy 82 = .ok (.ireturn, 1) := by decide +kernel
theorem dX4_walls_0 : decode cX4_walls 0 = .ok (.iconst 0, 1) := by decide +kernel
theorem dX4_walls_1 : decode cX4_walls 1 = .ok (.istore_n 1, 1) := by decide +kernel
theorem dX4_walls_2 : decode cX4_walls 2 = .ok (.iconst 0, 1) := by decide +kernel
theorem dX4_walls_3 : decode cX4_walls 3 = .ok (.istore_n 2, 1) := by decide +kernel
theorem dX4_walls_4 : decode cX4_walls 4 = .ok (.iload_n 2, 1) := by decide +kernel
theorem dX4_walls_5 : decode cX4_walls 5 = .ok (.aload_n 0, 1) := by decide +kernel
theorem dX4_walls_6 : decode cX4_walls 6 = .ok (.getfield 9, 3) := by decide +kernel
theorem dX4_walls_9 : decode cX4_walls 9 = .ok (.if_icmp .ge 55, 3) := by decide +kernel
theorem dX4_walls_12 : decode cX4_walls 12 = .ok (.iconst 0, 1) := by decide +kernel
theorem dX4_walls_13 : decode cX4_walls 13 = .ok (.istore_n 3, 1) := by decide +kernel
theorem dX4_walls_14 : decode cX4_walls 14 = .ok (.iload_n 3, 1) := by decide +kernel
theorem dX4_walls_15 : decode cX4_walls 15 = .ok (.aload_n 0, 1) := by decide +kernel
theorem dX4_walls_16 : decode cX4_walls 16 = .ok (.getfield 15, 3) := by decide +kernel
theorem dX4_walls_19 : decode cX4_walls 19 = .ok (.if_icmp .ge 39, 3) := by decide +kernel
theorem dX4_walls_22 : decode cX4_walls 22 = .ok (.iload_n 3, 1) := by decide +kernel
theorem dX4_walls_23 : decode cX4_walls 23 = .ok (.iload_n 2, 1) := by decide +kernel
theorem dX4_walls_24 : decode cX4_walls 24 = .ok (.invokestatic 62, 3) := by decide +kernel
theorem dX4_walls_27 : decode cX4_walls 27 = .ok (.lstore 4, 2) := by decide +kernel
theorem dX4_walls_29 : decode cX4_walls 29 = .ok (.iload_n 1, 1) := by decide +kernel
theorem dX4_walls_30 : decode cX4_walls 30 = .ok (.aload_n 0, 1) := by decide +kernel
theorem dX4_walls_31 : decode cX4_walls 31 = .ok (.lload 4, 2) := by decide +kernel
theorem dX4_walls_33 : decode cX4_walls 33 = .ok (.invokevirtual 100, 3) := by decide +kernel
theorem dX4_walls_36 : decode cX4_walls 36 = .ok (.aload_n 0, 1) := by decide +kernel
theorem dX4_walls_37 : decode cX4_walls 37 = .ok (.lload 4, 2) := by decide +kernel
theorem dX4_walls_39 : decode cX4_walls 39 = .ok (.invokevirtual 103, 3) := by decide +kernel
theorem dX4_walls_42 : decode cX4_walls 42 = .ok (.ldc2_w 86, 3) := by decide +kernel
theorem dX4_walls_45 : decode cX4_walls 45 = .ok (.lxor, 1) := by decide +kernel
theorem dX4_walls_46 : decode cX4_walls 46 = .ok (.land, 1) := by decide +kernel
theorem dX4_walls_47 : decode cX4_walls 47 = .ok (.invokestatic 69, 3) := by decide +kernel
theorem dX4_walls_50 : decode cX4_walls 50 = .ok (.iadd, 1) := by decide +kernel
theorem dX4_walls_51 : decode cX4_walls 51 = .ok (.istore_n 1, 1) := by decide +kernel
theorem dX4_walls_52 : decode cX4_walls 52 = .ok (.iinc 3 1, 3) := by decide +kernel
theorem dX4_walls_55 : decode cX4_walls 55 = .ok (.goto (-41), 3) := by decide +kernel
theorem dX4_walls_58 : decode cX4_walls 58 = .ok (.iinc 2 1, 3) := by decide +kernel
theorem dX4_walls_61 : decode cX4_walls 61 = .ok (.goto (-57), 3) := by decide +kernel
theorem dX4_walls_64 : decode cX4_walls 64 = .ok (.iload_n 1, 1) := by decide +kernel
theorem dX4_walls_65 : decode cX4_walls 65 = .ok (.iconst 2, 1) := by decide +kernel
theorem dX4_walls_66 : decode cX4_walls 66 = .ok (.idiv, 1) := by decide +kernel
theorem dX4_walls_67 : decode cX4_walls 67 = .ok (.ireturn, 1) := by decide +kernel
theorem dX4_pairs_0 : decode cX4_pairs 0 = .ok (.iconst 0, 1) := by decide +kernel
theorem dX4_pairs_1 : decode cX4_pairs 1 = .ok (.istore_n 1, 1) := by decide +kernel
theorem dX4_pairs_2 : decode cX4_pairs 2 = .ok (.iconst 0, 1) := by decide +kernel
theorem dX4_pairs_3 : decode cX4_pairs 3 = .ok (.istore_n 2, 1) := by decide +kernel
theorem dX4_pairs_4 : decode cX4_pairs 4 = .ok (.iload_n 2, 1) := by decide +kernel
theorem dX4_pairs_5 : decode cX4_pairs 5 = .ok (.aload_n 0, 1) := by decide +kernel
theorem dX4_pairs_6 : decode cX4_pairs 6 = .ok (.getfield 9, 3) := by decide +kernel
theorem dX4_pairs_9 : decode cX4_pairs 9 = .ok (.if_icmp .ge 40, 3) := by decide +kernel
theorem dX4_pairs_12 : decode cX4_pairs 12 = .ok (.iconst 0, 1) := by decide +kernel
theorem dX4_pairs_13 : decode cX4_pairs 13 = .ok (.istore_n 3, 1) := by decide +kernel
theorem dX4_pairs_14 : decode cX4_pairs 14 = .ok (.iload_n 3, 1) := by decide +kernel
theorem dX4_pairs_15 : decode cX4_pairs 15 = .ok (.aload_n 0, 1) := by decide +kernel
theorem dX4_pairs_16 : decode cX4_pairs 16 = .ok (.getfield 15, 3) := by decide +kernel
theorem dX4_pairs_19 : decode cX4_pairs 19 = .ok (.if_icmp .ge 24, 3) := by decide +kernel
theorem dX4_pairs_22 : decode cX4_pairs 22 = .ok (.iload_n 1, 1) := by decide +kernel
theorem dX4_pairs_23 : decode cX4_pairs 23 = .ok (.aload_n 0, 1) := by decide +kernel
theorem dX4_pairs_24 : decode cX4_pairs 24 = .ok (.iload_n 3, 1) := by decide +kernel
theorem dX4_pairs_25 : decode cX4_pairs 25 = .ok (.iload_n 2, 1) := by decide +kernel
theorem dX4_pairs_26 : decode cX4_pairs 26 = .ok (.invokestatic 62, 3) := by decide +kernel
theorem dX4_pairs_29 : decode cX4_pairs 29 = .ok (.invokevirtual 100, 3) := by decide +kernel
theorem dX4_pairs_32 : decode cX4_pairs 32 = .ok (.invokestatic 69, 3) := by decide +kernel
theorem dX4_pairs_35 : decode cX4_pairs 35 = .ok (.iadd, 1) := by decide +kernel
theorem dX4_pairs_36 : decode cX4_pairs 36 = .ok (.istore_n 1, 1) := by decide +kernel
theorem dX4_pairs_37 : decode cX4_pairs 37 = .ok (.iinc 3 1, 3) := by decide +kernel
theorem dX4_pairs_40 : decode cX4_pairs 40 = .ok (.goto (-26), 3) := by decide +kernel
theorem dX4_pairs_43 : decode cX4_pairs 43 = .ok (.iinc 2 1, 3) := by decide +kernel
theorem dX4_pairs_46 : decode cX4_pairs 46 = .ok (.goto (-42), 3) := by decide +kernel
theorem dX4_pairs_49 : decode cX4_pairs 49 = .ok (.iload_n 1, 1) := by decide +kernel
theorem dX4_pairs_50 : decode cX4_pairs 50 = .ok (.iconst 2, 1) := by decide +kernel
theorem dX4_pairs_51 : decode cX4_pairs 51 = .ok (.idiv, 1) := by decide +kernel
theorem dX4_pairs_52 : decode cX4_pairs 52 = .ok (.ireturn, 1) := by decide +kernel
theorem dX4_patchOf_0 : decode cX4_patchOf 0 = .ok (.aload_n 0, 1) := by decide +kernel
theorem dX4_patchOf_1 : decode cX4_patchOf 1 = .ok (.lload_n 1, 1) := by decide +kernel
theorem dX4_patchOf_2 : decode cX4_patchOf 2 = .ok (.invokevirtual 103, 3) := by decide +kernel
theorem dX4_patchOf_5 : decode cX4_patchOf 5 = .ok (.lstore_n 3, 1) := by decide +kernel
theorem dX4_patchOf_6 : decode cX4_patchOf 6 = .ok (.lload_n 1, 1) := by decide +kernel
theorem dX4_patchOf_7 : decode cX4_patchOf 7 = .ok (.lstore 5, 2) := by decide +kernel
theorem dX4_patchOf_9 : decode cX4_patchOf 9 = .ok (.lconst 0, 1) := by decide +kernel
theorem dX4_patchOf_10 : decode cX4_patchOf 10 = .ok (.lstore 7, 2) := by decide +kernel
theorem dX4_patchOf_12 : decode cX4_patchOf 12 = .ok (.iconst 0, 1) := by decide +kernel
theorem dX4_patchOf_13 : decode cX4_patchOf 13 = .ok (.istore 9, 2) := by decide +kernel
theorem dX4_patchOf_15 : decode cX4_patchOf 15 = .ok (.iload 9, 2) := by decide +kernel
theorem dX4_patchOf_17 : decode cX4_patchOf 17 = .ok (.bipush 30, 2) := by decide +kernel
theorem dX4_patchOf_19 : decode cX4_patchOf 19 = .ok (.if_icmp .ge 34, 3) := by decide +kernel
theorem dX4_patchOf_22 : decode cX4_patchOf 22 = .ok (.lload 5, 2) := by decide +kernel
theorem dX4_patchOf_24 : decode cX4_patchOf 24 = .ok (.lload 7, 2) := by decide +kernel
theorem dX4_patchOf_26 : decode cX4_patchOf 26 = .ok (.lcmp, 1) := by decide +kernel
theorem dX4_patchOf_27 : decode cX4_patchOf 27 = .ok (.ifCond .eq 26, 3) := by decide +kernel
theorem dX4_patchOf_30 : decode cX4_patchOf 30 = .ok (.lload 5, 2) := by decide +kernel
theorem dX4_patchOf_32 : decode cX4_patchOf 32 = .ok (.lstore 7, 2) := by decide +kernel
theorem dX4_patchOf_34 : decode cX4_patchOf 34 = .ok (.lload 5, 2) := by decide +kernel
theorem dX4_patchOf_36 : decode cX4_patchOf 36 = .ok (.aload_n 0, 1) := by decide +kernel
theorem dX4_patchOf_37 : decode cX4_patchOf 37 = .ok (.lload 5, 2) := by decide +kernel
theorem dX4_patchOf_39 : decode cX4_patchOf 39 = .ok (.invokevirtual 100, 3) := by decide +kernel
theorem dX4_patchOf_42 : decode cX4_patchOf 42 = .ok (.lload_n 3, 1) := by decide +kernel
theorem dX4_patchOf_43 : decode cX4_patchOf 43 = .ok (.land, 1) := by decide +kernel
theorem dX4_patchOf_44 : decode cX4_patchOf 44 = .ok (.lor, 1) := by decide +kernel
theorem dX4_patchOf_45 : decode cX4_patchOf 45 = .ok (.lstore 5, 2) := by decide +kernel
theorem dX4_patchOf_47 : decode cX4_patchOf 47 = .ok (.iinc 9 1, 3) := by decide +kernel
theorem dX4_patchOf_50 : decode cX4_patchOf 50 = .ok (.goto (-35), 3) := by decide +kernel
theorem dX4_patchOf_53 : decode cX4_patchOf 53 = .ok (.lload 5, 2) := by decide +kernel
theorem dX4_patchOf_55 : decode cX4_patchOf 55 = .ok (.lreturn, 1) := by decide +kernel
theorem dX4_patches_0 : decode cX4_patches 0 = .ok (.iconst 0, 1) := by decide +kernel
theorem dX4_patches_1 : decode cX4_patches 1 = .ok (.istore_n 1, 1) := by decide +kernel
theorem dX4_patches_2 : decode cX4_patches 2 = .ok (.lconst 0, 1) := by decide +kernel
theorem dX4_patches_3 : decode cX4_patches 3 = .ok (.lstore_n 2, 1) := by decide +kernel
theorem dX4_patches_4 : decode cX4_patches 4 = .ok (.iconst 0, 1) := by decide +kernel
theorem dX4_patches_5 : decode cX4_patches 5 = .ok (.istore 4, 2) := by decide +kernel
theorem dX4_patches_7 : decode cX4_patches 7 = .ok (.iload 4, 2) := by decide +kernel
theorem dX4_patches_9 : decode cX4_patches 9 = .ok (.aload_n 0, 1) := by decide +kernel
theorem dX4_patches_10 : decode cX4_patches 10 = .ok (.getfield 9, 3) := by decide +kernel
theorem dX4_patches_13 : decode cX4_patches 13 = .ok (.if_icmp .ge 57, 3) := by decide +kernel
theorem dX4_patches_16 : decode cX4_patches 16 = .ok (.iconst 0, 1) := by decide +kernel
theorem dX4_patches_17 : decode cX4_patches 17 = .ok (.istore 5, 2) := by decide +kernel
theorem dX4_patches_19 : decode cX4_patches 19 = .ok (.iload 5, 2) := by decide +kernel
theorem dX4_patches_21 : decode cX4_patches 21 = .ok (.aload_n 0, 1) := by decide +kernel
theorem dX4_patches_22 : decode cX4_patches 22 = .ok (.getfield 15, 3) := by decide +kernel
theorem dX4_patches_25 : decode cX4_patches 25 = .ok (.if_icmp .ge 39, 3) := by decide +kernel
theorem dX4_patches_28 : decode cX4_patches 28 = .ok (.iload 5, 2) := by decide +kernel
theorem dX4_patches_30 : decode cX4_patches 30 = .ok (.iload 4, 2) := by decide +kernel
theorem dX4_patches_32 : decode cX4_patches 32 = .ok (.invokestatic 62, 3) := by decide +kernel
theorem dX4_patches_35 : decode cX4_patches 35 = .ok (.lstore 6, 2) := by decide +kernel
theorem dX4_patches_37 : decode cX4_patches 37 = .ok (.lload_n 2, 1) := by decide +kernel
theorem dX4_patches_38 : decode cX4_patches 38 = .ok (.lload 6, 2) := by decide +kernel
theorem dX4_patches_40 : decode cX4_patches 40 = .ok (.land, 1) := by decide +kernel
theorem dX4_patches_41 : decode cX4_patches 41 = .ok (.lconst 0, 1) := by decide +kernel
theorem dX4_patches_42 : decode cX4_patches 42 = .ok (.lcmp, 1) := by decide +kernel
theorem dX4_patches_43 : decode cX4_patches 43 = .ok (.ifCond .ne 15, 3) := by decide +kernel
theorem dX4_patches_46 : decode cX4_patches 46 = .ok (.lload_n 2, 1) := by decide +kernel
theorem dX4_patches_47 : decode cX4_patches 47 = .ok (.aload_n 0, 1) := by decide +kernel
theorem dX4_patches_48 : decode cX4_patches 48 = .ok (.lload 6, 2) := by decide +kernel
theorem dX4_patches_50 : decode cX4_patches 50 = .ok (.invokevirtual 106, 3) := by decide +kernel
theorem dX4_patches_53 : decode cX4_patches 53 = .ok (.lor, 1) := by decide +kernel
theorem dX4_patches_54 : decode cX4_patches 54 = .ok (.lstore_n 2, 1) := by decide +kernel
theorem dX4_patches_55 : decode cX4_patches 55 = .ok (.iinc 1 1, 3) := by decide +kernel
theorem dX4_patches_58 : decode cX4_patches 58 = .ok (.iinc 5 1, 3) := by decide +kernel
theorem dX4_patches_61 : decode cX4_patches 61 = .ok (.goto (-42), 3) := by decide +kernel
theorem dX4_patches_64 : decode cX4_patches 64 = .ok (.iinc 4 1, 3) := by decide +kernel
theorem dX4_patches_67 : decode cX4_patches 67 = .ok (.goto (-60), 3) := by decide +kernel
theorem dX4_patches_70 : decode cX4_patches 70 = .ok (.iload_n 1, 1) := by decide +kernel
theorem dX4_patches_71 : decode cX4_patches 71 = .ok (.ireturn, 1) := by decide +kernel
theorem dX4_gainingCells_0 : decode cX4_gainingCells 0 = .ok (.iconst 0, 1) := by decide +kernel
theorem dX4_gainingCells_1 : decode cX4_gainingCells 1 = .ok (.istore_n 1, 1) := by decide +kernel
theorem dX4_gainingCells_2 : decode cX4_gainingCells 2 = .ok (.iconst 0, 1) := by decide +kernel
theorem dX4_gainingCells_3 : decode cX4_gainingCells 3 = .ok (.istore_n 2, 1) := by decide +kernel
theorem dX4_gainingCells_4 : decode cX4_gainingCells 4 = .ok (.iload_n 2, 1) := by decide +kernel
theorem dX4_gainingCells_5 : decode cX4_gainingCells 5 = .ok (.aload_n 0, 1) := by decide +kernel
theorem dX4_gainingCells_6 : decode cX4_gainingCells 6 = .ok (.getfield 9, 3) := by decide +kernel
theorem dX4_gainingCells_9 : decode cX4_gainingCells 9 = .ok (.if_icmp .ge 37, 3) := by decide +kernel
theorem dX4_gainingCells_12 : decode cX4_gainingCells 12 = .ok (.iconst 0, 1) := by decide +kernel
theorem dX4_gainingCells_13 : decode cX4_gainingCells 13 = .ok (.istore_n 3, 1) := by decide +kernel
theorem dX4_gainingCells_14 : decode cX4_gainingCells 14 = .ok (.iload_n 3, 1) := by decide +kernel
theorem dX4_gainingCells_15 : decode cX4_gainingCells 15 = .ok (.aload_n 0, 1) := by decide +kernel
theorem dX4_gainingCells_16 : decode cX4_gainingCells 16 = .ok (.getfield 15, 3) := by decide +kernel
theorem dX4_gainingCells_19 : decode cX4_gainingCells 19 = .ok (.if_icmp .ge 21, 3) := by decide +kernel
theorem dX4_gainingCells_22 : decode cX4_gainingCells 22 = .ok (.aload_n 0, 1) := by decide +kernel
theorem dX4_gainingCells_23 : decode cX4_gainingCells 23 = .ok (.iload_n 3, 1) := by decide +kernel
theorem dX4_gainingCells_24 : decode cX4_gainingCells 24 = .ok (.iload_n 2, 1) := by decide +kernel
theorem dX4_gainingCells_25 : decode cX4_gainingCells 25 = .ok (.invokevirtual 109, 3) := by decide +kernel
theorem dX4_gainingCells_28 : decode cX4_gainingCells 28 = .ok (.ifCond .le 6, 3) := by decide +kernel
theorem dX4_gainingCells_31 : decode cX4_gainingCells 31 = .ok (.iinc 1 1, 3) := by decide +kernel
theorem dX4_gainingCells_34 : decode cX4_gainingCells 34 = .ok (.iinc 3 1, 3) := by decide +kernel
theorem dX4_gainingCells_37 : decode cX4_gainingCells 37 = .ok (.goto (-23), 3) := by decide +kernel
theorem dX4_gainingCells_40 : decode cX4_gainingCells 40 = .ok (.iinc 2 1, 3) := by decide +kernel
theorem dX4_gainingCells_43 : decode cX4_gainingCells 43 = .ok (.goto (-39), 3) := by decide +kernel
theorem dX4_gainingCells_46 : decode cX4_gainingCells 46 = .ok (.iload_n 1, 1) := by decide +kernel
theorem dX4_gainingCells_47 : decode cX4_gainingCells 47 = .ok (.ireturn, 1) := by decide +kernel
theorem dX4_flipGainingCells_0 : decode cX4_flipGainingCells 0 = .ok (.aload_n 0, 1) := by decide +kernel
theorem dX4_flipGainingCells_1 : decode cX4_flipGainingCells 1 = .ok (.getfield 39, 3) := by decide +kernel
theorem dX4_flipGainingCells_4 : decode cX4_flipGainingCells 4 = .ok (.istore_n 1, 1) := by decide +kernel
theorem dX4_flipGainingCells_5 : decode cX4_flipGainingCells 5 = .ok (.iconst 0, 1) := by decide +kernel
theorem dX4_flipGainingCells_6 : decode cX4_flipGainingCells 6 = .ok (.istore_n 2, 1) := by decide +kernel
theorem dX4_flipGainingCells_7 : decode cX4_flipGainingCells 7 = .ok (.iload_n 2, 1) := by decide +kernel
theorem dX4_flipGainingCells_8 : decode cX4_flipGainingCells 8 = .ok (.aload_n 0, 1) := by decide +kernel
theorem dX4_flipGainingCells_9 : decode cX4_flipGainingCells 9 = .ok (.getfield 9, 3) := by decide +kernel
theorem dX4_flipGainingCells_12 : decode cX4_flipGainingCells 12 = .ok (.if_icmp .ge 43, 3) := by decide +kernel
theorem dX4_flipGainingCells_15 : decode cX4_flipGainingCells 15 = .ok (.iconst 0, 1) := by decide +kernel
theorem dX4_flipGainingCells_16 : decode cX4_flipGainingCells 16 = .ok (.istore_n 3, 1) := by decide +kernel
theorem dX4_flipGainingCells_17 : decode cX4_flipGainingCells 17 = .ok (.iload_n 3, 1) := by decide +kernel
theorem dX4_flipGainingCells_18 : decode cX4_flipGainingCells 18 = .ok (.aload_n 0, 1) := by decide +kernel
theorem dX4_flipGainingCells_19 : decode cX4_flipGainingCells 19 = .ok (.getfield 15, 3) := by decide +kernel
theorem dX4_flipGainingCells_22 : decode cX4_flipGainingCells 22 = .ok (.if_icmp .ge 27, 3) := by decide +kernel
theorem dX4_flipGainingCells_25 : decode cX4_flipGainingCells 25 = .ok (.aload_n 0, 1) := by decide +kernel
theorem dX4_flipGainingCells_26 : decode cX4_flipGainingCells 26 = .ok (.iload_n 3, 1) := by decide +kernel
theorem dX4_flipGainingCells_27 : decode cX4_flipGainingCells 27 = .ok (.iload_n 2, 1) := by decide +kernel
theorem dX4_flipGainingCells_28 : decode cX4_flipGainingCells 28 = .ok (.invokevirtual 109, 3) := by decide +kernel
theorem dX4_flipGainingCells_31 : decode cX4_flipGainingCells 31 = .ok (.ifCond .le 12, 3) := by decide +kernel
theorem dX4_flipGainingCells_34 : decode cX4_flipGainingCells 34 = .ok (.aload_n 0, 1) := by decide +kernel
theorem dX4_flipGainingCells_35 : decode cX4_flipGainingCells 35 = .ok (.iload_n 3, 1) := by decide +kernel
theorem dX4_flipGainingCells_36 : decode cX4_flipGainingCells 36 = .ok (.iload_n 2, 1) := by decide +kernel
theorem dX4_flipGainingCells_37 : decode cX4_flipGainingCells 37 = .ok (.invokestatic 62, 3) := by decide +kernel
theorem dX4_flipGainingCells_40 : decode cX4_flipGainingCells 40 = .ok (.invokevirtual 112, 3) := by decide +kernel
theorem dX4_flipGainingCells_43 : decode cX4_flipGainingCells 43 = .ok (.iinc 3 1, 3) := by decide +kernel
theorem dX4_flipGainingCells_46 : decode cX4_flipGainingCells 46 = .ok (.goto (-29), 3) := by decide +kernel
theorem dX4_flipGainingCells_49 : decode cX4_flipGainingCells 49 = .ok (.iinc 2 1, 3) := by decide +kernel
theorem dX4_flipGainingCells_52 : decode cX4_flipGainingCells 52 = .ok (.goto (-45), 3) := by decide +kernel
theorem dX4_flipGainingCells_55 : decode cX4_flipGainingCells 55 = .ok (.aload_n 0, 1) := by decide +kernel
theorem dX4_flipGainingCells_56 : decode cX4_flipGainingCells 56 = .ok (.getfield 39, 3) := by decide +kernel
theorem dX4_flipGainingCells_59 : decode cX4_flipGainingCells 59 = .ok (.iload_n 1, 1) := by decide +kernel
theorem dX4_flipGainingCells_60 : decode cX4_flipGainingCells 60 = .ok (.isub, 1) := by decide +kernel
theorem dX4_flipGainingCells_61 : decode cX4_flipGainingCells 61 = .ok (.ireturn, 1) := by decide +kernel
theorem dX5_init_0 : decode cX5_init 0 = .ok (.aload_n 0, 1) := by decide +kernel
theorem dX5_init_1 : decode cX5_init 1 = .ok (.invokespecial 3, 3) := by decide +kernel
theorem dX5_init_4 : decode cX5_init 4 = .ok (.aload_n 0, 1) := by decide +kernel
theorem dX5_init_5 : decode cX5_init 5 = .ok (.bipush 8, 2) := by decide +kernel
theorem dX5_init_7 : decode cX5_init 7 = .ok (.sipush 191, 3) := by decide +kernel
theorem dX5_init_10 : decode cX5_init 10 = .ok (.multianewarray 9 2, 4) := by decide +kernel
theorem dX5_init_14 : decode cX5_init 14 = .ok (.putfield 11, 3) := by decide +kernel
theorem dX5_init_17 : decode cX5_init 17 = .ok (.aload_n 0, 1) := by decide +kernel
theorem dX5_init_18 : decode cX5_init 18 = .ok (.bipush 8, 2) := by decide +kernel
theorem dX5_init_20 : decode cX5_init 20 = .ok (.sipush 191, 3) := by decide +kernel
theorem dX5_init_23 : decode cX5_init 23 = .ok (.multianewarray 9 2, 4) := by decide +kernel
theorem dX5_init_27 : decode cX5_init 27 = .ok (.putfield 16, 3) := by decide +kernel
theorem dX5_init_30 : decode cX5_init 30 = .ok (.return_, 1) := by decide +kernel
theorem dX5_fill_0 : decode cX5_fill 0 = .ok (.aload_n 1, 1) := by decide +kernel
theorem dX5_fill_1 : decode cX5_fill 1 = .ok (.iconst 0, 1) := by decide +kernel
theorem dX5_fill_2 : decode cX5_fill 2 = .ok (.invokestatic 19, 3) := by decide +kernel
theorem dX5_fill_5 : decode cX5_fill 5 = .ok (.aload_n 2, 1) := by decide +kernel
theorem dX5_fill_6 : decode cX5_fill 6 = .ok (.getfield 25, 3) := by decide +kernel
theorem dX5_fill_9 : decode cX5_fill 9 = .ok (.ifCond .ne 15, 3) := by decide +kernel
theorem dX5_fill_12 : decode cX5_fill 12 = .ok (.aload_n 0, 1) := by decide +kernel
theorem dX5_fill_13 : decode cX5_fill 13 = .ok (.aload_n 1, 1) := by decide +kernel
theorem dX5_fill_14 : decode cX5_fill 14 = .ok (.aload_n 2, 1) := by decide +kernel
theorem dX5_fill_15 : decode cX5_fill 15 = .ok (.iconst 0, 1) := by decide +kernel
theorem dX5_fill_16 : decode cX5_fill 16 = .ok (.aload_n 2, 1) := by decide +kernel
theorem dX5_fill_17 : decode cX5_fill 17 = .ok (.getfield 31, 3) := by decide +kernel
theorem dX5_fill_20 : decode cX5_fill 20 = .ok (.invokevirtual 35, 3) := by decide +kernel
theorem dX5_fill_23 : decode cX5_fill 23 = .ok (.return_, 1) := by decide +kernel
theorem dX5_fill_24 : decode cX5_fill 24 = .ok (.iconst 0, 1) := by decide +kernel
theorem dX5_fill_25 : decode cX5_fill 25 = .ok (.istore_n 3, 1) := by decide +kernel
theorem dX5_fill_26 : decode cX5_fill 26 = .ok (.iload_n 3, 1) := by decide +kernel
theorem dX5_fill_27 : decode cX5_fill 27 = .ok (.aload_n 2, 1) := by decide +kernel
theorem dX5_fill_28 : decode cX5_fill 28 = .ok (.getfield 31, 3) := by decide +kernel
theorem dX5_fill_31 : decode cX5_fill 31 = .ok (.if_icmp .ge 19, 3) := by decide +kernel
theorem dX5_fill_34 : decode cX5_fill 34 = .ok (.aload_n 0, 1) := by decide +kernel
theorem dX5_fill_35 : decode cX5_fill 35 = .ok (.aload_n 1, 1) := by decide +kernel
theorem dX5_fill_36 : decode cX5_fill 36 = .ok (.aload_n 2, 1) := by decide +kernel
theorem dX5_fill_37 : decode cX5_fill 37 = .ok (.iload_n 3, 1) := by decide +kernel
theorem dX5_fill_38 : decode cX5_fill 38 = .ok (.iload_n 3, 1) := by decide +kernel
theorem dX5_fill_39 : decode cX5_fill 39 = .ok (.iconst 1, 1) := by decide +kernel
theorem dX5_fill_40 : decode cX5_fill 40 = .ok (.iadd, 1) := by decide +kernel
theorem dX5_fill_41 : decode cX5_fill 41 = .ok (.invokevirtual 35, 3) := by decide +kernel
theorem dX5_fill_44 : decode cX5_fill 44 = .ok (.iinc 3 1, 3) := by decide +kernel
theorem dX5_fill_47 : decode cX5_fill 47 = .ok (.goto (-21), 3) := by decide +kernel
theorem dX5_fill_50 : decode cX5_fill 50 = .ok (.return_, 1) := by decide +kernel
theorem dX5_addStrips_0 : decode cX5_addStrips 0 = .ok (.aload_n 0, 1) := by decide +kernel
theorem dX5_addStrips_1 : decode cX5_addStrips 1 = .ok (.aload_n 2, 1) := by decide +kernel
theorem dX5_addStrips_2 : decode cX5_addStrips 2 = .ok (.iload_n 3, 1) := by decide +kernel
theorem dX5_addStrips_3 : decode cX5_addStrips 3 = .ok (.iload 4, 2) := by decide +kernel
theorem dX5_addStrips_5 : decode cX5_addStrips 5 = .ok (.invokevirtual 39, 3) := by decide +kernel
theorem dX5_addStrips_8 : decode cX5_addStrips 8 = .ok (.iconst 1, 1) := by decide +kernel
theorem dX5_addStrips_9 : decode cX5_addStrips 9 = .ok (.istore 5, 2) := by decide +kernel
theorem dX5_addStrips_11 : decode cX5_addStrips 11 = .ok (.iload 5, 2) := by decide +kernel
theorem dX5_addStrips_13 : decode cX5_addStrips 13 = .ok (.aload_n 2, 1) := by decide +kernel
theorem dX5_addStrips_14 : decode cX5_addStrips 14 = .ok (.getfield 43, 3) := by decide +kernel
theorem dX5_addStrips_17 : decode cX5_addStrips 17 = .ok (.if_icmp .ge 16, 3) := by decide +kernel
theorem dX5_addStrips_20 : decode cX5_addStrips 20 = .ok (.aload_n 0, 1) := by decide +kernel
theorem dX5_addStrips_21 : decode cX5_addStrips 21 = .ok (.aload_n 2, 1) := by decide +kernel
theorem dX5_addStrips_22 : decode cX5_addStrips 22 = .ok (.iload 5, 2) := by decide +kernel
theorem dX5_addStrips_24 : decode cX5_addStrips 24 = .ok (.invokevirtual 46, 3) := by decide +kernel
theorem dX5_addStrips_27 : decode cX5_addStrips 27 = .ok (.iinc 5 1, 3) := by decide +kernel
theorem dX5_addStrips_30 : decode cX5_addStrips 30 = .ok (.goto (-19), 3) := by decide +kernel
theorem dX5_addStrips_33 : decode cX5_addStrips 33 = .ok (.iconst 0, 1) := by decide +kernel
theorem dX5_addStrips_34 : decode cX5_addStrips 34 = .ok (.istore 5, 2) := by decide +kernel
theorem dX5_addStrips_36 : decode cX5_addStrips 36 = .ok (.iload 5, 2) := by decide +kernel
theorem dX5_addStrips_38 : decode cX5_addStrips 38 = .ok (.aload_n 2, 1) := by decide +kernel
theorem dX5_addStrips_39 : decode cX5_addStrips 39 = .ok (.getfield 31, 3) := by decide +kernel
theorem dX5_addStrips_42 : decode cX5_addStrips 42 = .ok (.if_icmp .ge 38, 3) := by decide +kernel
theorem dX5_addStrips_45 : decode cX5_addStrips 45 = .ok (.aload_n 0, 1) := by decide +kernel
theorem dX5_addStrips_46 : decode cX5_addStrips 46 = .ok (.getfield 11, 3) := by decide +kernel
theorem dX5_addStrips_49 : decode cX5_addStrips 49 = .ok (.iload 5, 2) := by decide +kernel
theorem dX5_addStrips_51 : decode cX5_addStrips 51 = .ok (.aaload, 1) := by decide +kernel
theorem dX5_addStrips_52 : decode cX5_addStrips 52 = .ok (.aload_n 2, 1) := by decide +kernel
theorem dX5_addStrips_53 : decode cX5_addStrips 53 = .ok (.getfield 50, 3) := by decide +kernel
theorem dX5_addStrips_56 : decode cX5_addStrips 56 = .ok (.aload_n 2, 1) := by decide +kernel
theorem dX5_addStrips_57 : decode cX5_addStrips 57 = .ok (.getfield 43, 3) := by decide +kernel
theorem dX5_addStrips_60 : decode cX5_addStrips 60 = .ok (.iconst 1, 1) := by decide +kernel
theorem dX5_addStrips_61 : decode cX5_addStrips 61 = .ok (.isub, 1) := by decide +kernel
theorem dX5_addStrips_62 : decode cX5_addStrips 62 = .ok (.iaload, 1) := by decide +kernel
theorem dX5_addStrips_63 : decode cX5_addStrips 63 = .ok (.aload_n 2, 1) := by decide +kernel
theorem dX5_addStrips_64 : decode cX5_addStrips 64 = .ok (.iload 5, 2) := by decide +kernel
theorem dX5_addStrips_66 : decode cX5_addStrips 66 = .ok (.iload_n 3, 1) := by decide +kernel
theorem dX5_addStrips_67 : decode cX5_addStrips 67 = .ok (.invokevirtual 54, 3) := by decide +kernel
theorem dX5_addStrips_70 : decode cX5_addStrips 70 = .ok (.aload_n 1, 1) := by decide +kernel
theorem dX5_addStrips_71 : decode cX5_addStrips 71 = .ok (.invokestatic 58, 3) := by decide +kernel
theorem dX5_addStrips_74 : decode cX5_addStrips 74 = .ok (.iinc 5 1, 3) := by decide +kernel
theorem dX5_addStrips_77 : decode cX5_addStrips 77 = .ok (.goto (-41), 3) := by decide +kernel
theorem dX5_addStrips_80 : decode cX5_addStrips 80 = .ok (.return_, 1) := by decide +kernel
theorem dX5_begin_0 : decode cX5_begin 0 = .ok (.iconst 0, 1) := by decide +kernel
theorem dX5_begin_1 : decode cX5_begin 1 = .ok (.istore 4, 2) := by decide +kernel
theorem dX5_begin_3 : decode cX5_begin 3 = .ok (.iload 4, 2) := by decide +kernel
theorem dX5_begin_5 : decode cX5_begin 5 = .ok (.aload_n 1, 1) := by decide +kernel
theorem dX5_begin_6 : decode cX5_begin 6 = .ok (.getfield 31, 3) := by decide +kernel
theorem dX5_begin_9 : decode cX5_begin 9 = .ok (.if_icmp .ge 67, 3) := by decide +kernel
theorem dX5_begin_12 : decode cX5_begin 12 = .ok (.aload_n 0, 1) := by decide +kernel
theorem dX5_begin_13 : decode cX5_begin 13 = .ok (.getfield 11, 3) := by decide +kernel
theorem dX5_begin_16 : decode cX5_begin 16 = .ok (.iload 4, 2) := by decide +kernel
theorem dX5_begin_18 : decode cX5_begin 18 = .ok (.aaload, 1) := by decide +kernel
theorem dX5_begin_19 : decode cX5_begin 19 = .ok (.iconst 0, 1) := by decide +kernel
theorem dX5_begin_20 : decode cX5_begin 20 = .ok (.invokestatic 19, 3) := by decide +kernel
theorem dX5_begin_23 : decode cX5_begin 23 = .ok (.aload_n 1, 1) := by decide +kernel
theorem dX5_begin_24 : decode cX5_begin 24 = .ok (.getfield 62, 3) := by decide +kernel
theorem dX5_begin_27 : decode cX5_begin 27 = .ok (.iconst 0, 1) := by decide +kernel
theorem dX5_begin_28 : decode cX5_begin 28 = .ok (.aaload, 1) := by decide +kernel
theorem dX5_begin_29 : decode cX5_begin 29 = .ok (.iload 4, 2) := by decide +kernel
theorem dX5_begin_31 : decode cX5_begin 31 = .ok (.iaload, 1) := by decide +kernel
theorem dX5_begin_32 : decode cX5_begin 32 = .ok (.istore 5, 2) := by decide +kernel
theorem dX5_begin_34 : decode cX5_begin 34 = .ok (.iload 4, 2) := by decide +kernel
theorem dX5_begin_36 : decode cX5_begin 36 = .ok (.iload_n 2, 1) := by decide +kernel
theorem dX5_begin_37 : decode cX5_begin 37 = .ok (.if_icmp .lt 33, 3) := by decide +kernel
theorem dX5_begin_40 : decode cX5_begin 40 = .ok (.iload 4, 2) := by decide +kernel
theorem dX5_begin_42 : decode cX5_begin 42 = .ok (.iload_n 3, 1) := by decide +kernel
theorem dX5_begin_43 : decode cX5_begin 43 = .ok (.if_icmp .ge 27, 3) := by decide +kernel
theorem dX5_begin_46 : decode cX5_begin 46 = .ok (.iload 5, 2) := by decide +kernel
theorem dX5_begin_48 : decode cX5_begin 48 = .ok (.aload_n 0, 1) := by decide +kernel
theorem dX5_begin_49 : decode cX5_begin 49 = .ok (.getfield 11, 3) := by decide +kernel
theorem dX5_begin_52 : decode cX5_begin 52 = .ok (.iload 4, 2) := by decide +kernel
theorem dX5_begin_54 : decode cX5_begin 54 = .ok (.aaload, 1) := by decide +kernel
theorem dX5_begin_55 : decode cX5_begin 55 = .ok (.arraylength, 1) := by decide +kernel
theorem dX5_begin_56 : decode cX5_begin 56 = .ok (.if_icmp .ge 14, 3) := by decide +kernel
theorem dX5_begin_59 : decode cX5_begin 59 = .ok (.aload_n 0, 1) := by decide +kernel
theorem dX5_begin_60 : decode cX5_begin 60 = .ok (.getfield 11, 3) := by decide +kernel
theorem dX5_begin_63 : decode cX5_begin 63 = .ok (.iload 4, 2) := by decide +kernel
theorem dX5_begin_65 : decode cX5_begin 65 = .ok (.aaload, 1) := by decide +kernel
theorem dX5_begin_66 : decode cX5_begin 66 = .ok (.iload 5, 2) := by decide +kernel
theorem dX5_begin_68 : decode cX5_begin 68 = .ok (.iconst 1, 1) := by decide +kernel
theorem dX5_begin_69 : decode cX5_begin 69 = .ok (.iastore, 1) := by decide +kernel
theorem dX5_begin_70 : decode cX5_begin 70 = .ok (.iinc 4 1, 3) := by decide +kernel
theorem dX5_begin_73 : decode cX5_begin 73 = .ok (.goto (-70), 3) := by decide +kernel
theorem dX5_begin_76 : decode cX5_begin 76 = .ok (.return_, 1) := by decide +kernel
theorem dX5_addColumn_0 : decode cX5_addColumn 0 = .ok (.iconst 0, 1) := by decide +kernel
theorem dX5_addColumn_1 : decode cX5_addColumn 1 = .ok (.istore_n 3, 1) := by decide +kernel
theorem dX5_addColumn_2 : decode cX5_addColumn 2 = .ok (.iload_n 3, 1) := by decide +kernel
theorem dX5_addColumn_3 : decode cX5_addColumn 3 = .ok (.aload_n 1, 1) := by decide +kernel
theorem dX5_addColumn_4 : decode cX5_addColumn 4 = .ok (.getfield 31, 3) := by decide +kernel
theorem dX5_addColumn_7 : decode cX5_addColumn 7 = .ok (.if_icmp .ge 83, 3) := by decide +kernel
theorem dX5_addColumn_10 : decode cX5_addColumn 10 = .ok (.aload_n 0, 1) := by decide +kernel
theorem dX5_addColumn_11 : decode cX5_addColumn 11 = .ok (.getfield 16, 3) := by decide +kernel
theorem dX5_addColumn_14 : decode cX5_addColumn 14 = .ok (.iload_n 3, 1) := by decide +kernel
theorem dX5_addColumn_15 : decode cX5_addColumn 15 = .ok (.aaload, 1) := by decide +kernel
theorem dX5_addColumn_16 : decode cX5_addColumn 16 = .ok (.iconst 0, 1) := by decide +kernel
theorem dX5_addColumn_17 : decode cX5_addColumn 17 = .ok (.invokestatic 19, 3) := by decide +kernel
theorem dX5_addColumn_20 : decode cX5_addColumn 20 = .ok (.iconst 0, 1) := by decide +kernel
theorem dX5_addColumn_21 : decode cX5_addColumn 21 = .ok (.istore 4, 2) := by decide +kernel
theorem dX5_addColumn_23 : decode cX5_addColumn 23 = .ok (.iload 4, 2) := by decide +kernel
theorem dX5_addColumn_25 : decode cX5_addColumn 25 = .ok (.aload_n 1, 1) := by decide +kernel
theorem dX5_addColumn_26 : decode cX5_addColumn 26 = .ok (.getfield 31, 3) := by decide +kernel
theorem dX5_addColumn_29 : decode cX5_addColumn 29 = .ok (.if_icmp .ge 55, 3) := by decide +kernel
theorem dX5_addColumn_32 : decode cX5_addColumn 32 = .ok (.aload_n 1, 1) := by decide +kernel
theorem dX5_addColumn_33 : decode cX5_addColumn 33 = .ok (.getfield 65, 3) := by decide +kernel
theorem dX5_addColumn_36 : decode cX5_addColumn 36 = .ok (.iload 4, 2) := by decide +kernel
theorem dX5_addColumn_38 : decode cX5_addColumn 38 = .ok (.aaload, 1) := by decide +kernel
theorem dX5_addColumn_39 : decode cX5_addColumn 39 = .ok (.iload_n 3, 1) := by decide +kernel
theorem dX5_addColumn_40 : decode cX5_addColumn 40 = .ok (.iaload, 1) := by decide +kernel
theorem dX5_addColumn_41 : decode cX5_addColumn 41 = .ok (.aload_n 1, 1) := by decide +kernel
theorem dX5_addColumn_42 : decode cX5_addColumn 42 = .ok (.getfield 62, 3) := by decide +kernel
theorem dX5_addColumn_45 : decode cX5_addColumn 45 = .ok (.iload_n 2, 1) := by decide +kernel
theorem dX5_addColumn_46 : decode cX5_addColumn 46 = .ok (.aaload, 1) := by decide +kernel
theorem dX5_addColumn_47 : decode cX5_addColumn 47 = .ok (.iload_n 3, 1) := by decide +kernel
theorem dX5_addColumn_48 : decode cX5_addColumn 48 = .ok (.iaload, 1) := by decide +kernel
theorem dX5_addColumn_49 : decode cX5_addColumn 49 = .ok (.iadd, 1) := by decide +kernel
theorem dX5_addColumn_50 : decode cX5_addColumn 50 = .ok (.istore 5, 2) := by decide +kernel
theorem dX5_addColumn_52 : decode cX5_addColumn 52 = .ok (.aload_n 0, 1) := by decide +kernel
theorem dX5_addColumn_53 : decode cX5_addColumn 53 = .ok (.getfield 11, 3) := by decide +kernel
theorem dX5_addColumn_56 : decode cX5_addColumn 56 = .ok (.iload 4, 2) := by decide +kernel
theorem dX5_addColumn_58 : decode cX5_addColumn 58 = .ok (.aaload, 1) := by decide +kernel
theorem dX5_addColumn_59 : decode cX5_addColumn 59 = .ok (.aload_n 1, 1) := by decide +kernel
theorem dX5_addColumn_60 : decode cX5_addColumn 60 = .ok (.getfield 50, 3) := by decide +kernel
theorem dX5_addColumn_63 : decode cX5_addColumn 63 = .ok (.iload_n 2, 1) := by decide +kernel
theorem dX5_addColumn_64 : decode cX5_addColumn 64 = .ok (.iconst 1, 1) := by decide +kernel
theorem dX5_addColumn_65 : decode cX5_addColumn 65 = .ok (.isub, 1) := by decide +kernel
theorem dX5_addColumn_66 : decode cX5_addColumn 66 = .ok (.iaload, 1) := by decide +kernel
theorem dX5_addColumn_67 : decode cX5_addColumn 67 = .ok (.iload 5, 2) := by decide +kernel
theorem dX5_addColumn_69 : decode cX5_addColumn 69 = .ok (.aload_n 0, 1) := by decide +kernel
theorem dX5_addColumn_70 : decode cX5_addColumn 70 = .ok (.getfield 16, 3) := by decide +kernel
theorem dX5_addColumn_73 : decode cX5_addColumn 73 = .ok (.iload_n 3, 1) := by decide +kernel
theorem dX5_addColumn_74 : decode cX5_addColumn 74 = .ok (.aaload, 1) := by decide +kernel
theorem dX5_addColumn_75 : decode cX5_addColumn 75 = .ok (.invokestatic 58, 3) := by decide +kernel
theorem dX5_addColumn_78 : decode cX5_addColumn 78 = .ok (.iinc 4 1, 3) := by decide +kernel
theorem dX5_addColumn_81 : decode cX5_addColumn 81 = .ok (.goto (-58), 3) := by decide +kernel
theorem dX5_addColumn_84 : decode cX5_addColumn 84 = .ok (.iinc 3 1, 3) := by decide +kernel
theorem dX5_addColumn_87 : decode cX5_addColumn 87 = .ok (.goto (-85), 3) := by decide +kernel
theorem dX5_addColumn_90 : decode cX5_addColumn 90 = .ok (.aload_n 0, 1) := by decide +kernel
theorem dX5_addColumn_91 : decode cX5_addColumn 91 = .ok (.getfield 11, 3) := by decide +kernel
theorem dX5_addColumn_94 : decode cX5_addColumn 94 = .ok (.astore_n 3, 1) := by decide +kernel
theorem dX5_addColumn_95 : decode cX5_addColumn 95 = .ok (.aload_n 0, 1) := by decide +kernel
theorem dX5_addColumn_96 : decode cX5_addColumn 96 = .ok (.aload_n 0, 1) := by decide +kernel
theorem dX5_addColumn_97 : decode cX5_addColumn 97 = .ok (.getfield 16, 3) := by decide +kernel
theorem dX5_addColumn_100 : decode cX5_addColumn 100 = .ok (.putfield 11, 3) := by decide +kernel
theorem dX5_addColumn_103 : decode cX5_addColumn 103 = .ok (.aload_n 0, 1) := by decide +kernel
theorem dX5_addColumn_104 : decode cX5_addColumn 104 = .ok (.aload_n 3, 1) := by decide +kernel
theorem dX5_addColumn_105 : decode cX5_addColumn 105 = .ok (.putfield 16, 3) := by decide +kernel
theorem dX5_addColumn_108 : decode cX5_addColumn 108 = .ok (.return_, 1) := by decide +kernel
theorem dX5_addShifted_0 : decode cX5_addShifted 0 = .ok (.iconst 0, 1) := by decide +kernel
theorem dX5_addShifted_1 : decode cX5_addShifted 1 = .ok (.istore 4, 2) := by decide +kernel
theorem dX5_addShifted_3 : decode cX5_addShifted 3 = .ok (.iload 4, 2) := by decide +kernel
theorem dX5_addShifted_5 : decode cX5_addShifted 5 = .ok (.iload_n 1, 1) := by decide +kernel
theorem dX5_addShifted_6 : decode cX5_addShifted 6 = .ok (.if_icmp .gt 38, 3) := by decide +kernel
theorem dX5_addShifted_9 : decode cX5_addShifted 9 = .ok (.iload 4, 2) := by decide +kernel
theorem dX5_addShifted_11 : decode cX5_addShifted 11 = .ok (.aload_n 0, 1) := by decide +kernel
theorem dX5_addShifted_12 : decode cX5_addShifted 12 = .ok (.arraylength, 1) := by decide +kernel
theorem dX5_addShifted_13 : decode cX5_addShifted 13 = .ok (.if_icmp .ge 31, 3) := by decide +kernel
theorem dX5_addShifted_16 : decode cX5_addShifted 16 = .ok (.iload 4, 2) := by decide +kernel
theorem dX5_addShifted_18 : decode cX5_addShifted 18 = .ok (.iload_n 2, 1) := by decide +kernel
theorem dX5_addShifted_19 : decode cX5_addShifted 19 = .ok (.iadd, 1) := by decide +kernel
theorem dX5_addShifted_20 : decode cX5_addShifted 20 = .ok (.aload_n 3, 1) := by decide +kernel
theorem dX5_addShifted_21 : decode cX5_addShifted 21 = .ok (.arraylength, 1) := by decide +kernel
theorem dX5_addShifted_22 : decode cX5_addShifted 22 = .ok (.if_icmp .ge 22, 3) := by decide +kernel
theorem dX5_addShifted_25 : decode cX5_addShifted 25 = .ok (.aload_n 3, 1) := by decide +kernel
theorem dX5_addShifted_26 : decode cX5_addShifted 26 = .ok (.iload 4, 2) := by decide +kernel
theorem dX5_addShifted_28 : decode cX5_addShifted 28 = .ok (.iload_n 2, 1) := by decide +kernel
theorem dX5_addShifted_29 : decode cX5_addShifted 29 = .ok (.iadd, 1) := by decide +kernel
theorem dX5_addShifted_30 : decode cX5_addShifted 30 = .ok (.dup2, 1) := by decide +kernel
theorem dX5_addShifted_31 : decode cX5_addShifted 31 = .ok (.iaload, 1) := by decide +kernel
theorem dX5_addShifted_32 : decode cX5_addShifted 32 = .ok (.aload_n 0, 1) := by decide +kernel
theorem dX5_addShifted_33 : decode cX5_addShifted 33 = .ok (.iload 4, 2) := by decide +kernel
theorem dX5_addShifted_35 : decode cX5_addShifted 35 = .ok (.iaload, 1) := by decide +kernel
theorem dX5_addShifted_36 : decode cX5_addShifted 36 = .ok (.iadd, 1) := by decide +kernel
theorem dX5_addShifted_37 : decode cX5_addShifted 37 = .ok (.iastore, 1) := by decide +kernel
theorem dX5_addShifted_38 : decode cX5_addShifted 38 = .ok (.iinc 4 1, 3) := by decide +kernel
theorem dX5_addShifted_41 : decode cX5_addShifted 41 = .ok (.goto (-38), 3) := by decide +kernel
theorem dX5_addShifted_44 : decode cX5_addShifted 44 = .ok (.return_, 1) := by decide +kernel
theorem dX6_init_0 : decode cX6_init 0 = .ok (.aload_n 0, 1) := by decide +kernel
theorem dX6_init_1 : decode cX6_init 1 = .ok (.invokespecial 3, 3) := by decide +kernel
theorem dX6_init_4 : decode cX6_init 4 = .ok (.aload_n 0, 1) := by decide +kernel
theorem dX6_init_5 : decode cX6_init 5 = .ok (.bipush 60, 2) := by decide +kernel
theorem dX6_init_7 : decode cX6_init 7 = .ok (.newarray .char, 2) := by decide +kernel
theorem dX6_init_9 : decode cX6_init 9 = .ok (.putfield 9, 3) := by decide +kernel
theorem dX6_init_12 : decode cX6_init 12 = .ok (.aload_n 0, 1) := by decide +kernel
theorem dX6_init_13 : decode cX6_init 13 = .ok (.iconst 0, 1) := by decide +kernel
theorem dX6_init_14 : decode cX6_init 14 = .ok (.putfield 15, 3) := by decide +kernel
theorem dX6_init_17 : decode cX6_init 17 = .ok (.aload_n 0, 1) := by decide +kernel
theorem dX6_init_18 : decode cX6_init 18 = .ok (.iconst 0, 1) := by decide +kernel
theorem dX6_init_19 : decode cX6_init 19 = .ok (.putfield 19, 3) := by decide +kernel
theorem dX6_init_22 : decode cX6_init 22 = .ok (.aload_n 0, 1) := by decide +kernel
theorem dX6_init_23 : decode cX6_init 23 = .ok (.iconst 0, 1) := by decide +kernel
theorem dX6_init_24 : decode cX6_init 24 = .ok (.putfield 22, 3) := by decide +kernel
theorem dX6_init_27 : decode cX6_init 27 = .ok (.aload_n 0, 1) := by decide +kernel
theorem dX6_init_28 : decode cX6_init 28 = .ok (.lconst 0, 1) := by decide +kernel
theorem dX6_init_29 : decode cX6_init 29 = .ok (.putfield 25, 3) := by decide +kernel
theorem dX6_init_32 : decode cX6_init 32 = .ok (.return_, 1) := by decide +kernel
theorem dX6_append_0 : decode cX6_append 0 = .ok (.aload_n 0, 1) := by decide +kernel
theorem dX6_append_1 : decode cX6_append 1 = .ok (.getfield 15, 3) := by decide +kernel
theorem dX6_append_4 : decode cX6_append 4 = .ok (.bipush 60, 2) := by decide +kernel
theorem dX6_append_6 : decode cX6_append 6 = .ok (.if_icmp .lt 5, 3) := by decide +kernel
theorem dX6_append_9 : decode cX6_append 9 = .ok (.iconst 0, 1) := by decide +kernel
theorem dX6_append_10 : decode cX6_append 10 = .ok (.ireturn, 1) := by decide +kernel
theorem dX6_append_11 : decode cX6_append 11 = .ok (.aload_n 0, 1) := by decide +kernel
theorem dX6_append_12 : decode cX6_append 12 = .ok (.getfield 9, 3) := by decide +kernel
theorem dX6_append_15 : decode cX6_append 15 = .ok (.aload_n 0, 1) := by decide +kernel
theorem dX6_append_16 : decode cX6_append 16 = .ok (.getfield 15, 3) := by decide +kernel
theorem dX6_append_19 : decode cX6_append 19 = .ok (.iload_n 1, 1) := by decide +kernel
theorem dX6_append_20 : decode cX6_append 20 = .ok (.castore, 1) := by decide +kernel
theorem dX6_append_21 : decode cX6_append 21 = .ok (.aload_n 0, 1) := by decide +kernel
theorem dX6_append_22 : decode cX6_append 22 = .ok (.dup, 1) := by decide +kernel
theorem dX6_append_23 : decode cX6_append 23 = .ok (.getfield 15, 3) := by decide +kernel
theorem dX6_append_26 : decode cX6_append 26 = .ok (.iconst 1, 1) := by decide +kernel
theorem dX6_append_27 : decode cX6_append 27 = .ok (.iadd, 1) := by decide +kernel
theorem dX6_append_28 : decode cX6_append 28 = .ok (.putfield 15, 3) := by decide +kernel
theorem dX6_append_31 : decode cX6_append 31 = .ok (.iconst 1, 1) := by decide +kernel
theorem dX6_append_32 : decode cX6_append 32 = .ok (.ireturn, 1) := by decide +kernel
theorem dX6_firstFault_0 : decode cX6_firstFault 0 = .ok (.aload_n 0, 1) := by decide +kernel
theorem dX6_firstFault_1 : decode cX6_firstFault 1 = .ok (.iconst 1, 1) := by decide +kernel
theorem dX6_firstFault_2 : decode cX6_firstFault 2 = .ok (.putfield 19, 3) := by decide +kernel
theorem dX6_firstFault_5 : decode cX6_firstFault 5 = .ok (.aload_n 0, 1) := by decide +kernel
theorem dX6_firstFault_6 : decode cX6_firstFault 6 = .ok (.iconst 0, 1) := by decide +kernel
theorem dX6_firstFault_7 : decode cX6_firstFault 7 = .ok (.putfield 22, 3) := by decide +kernel
theorem dX6_firstFault_10 : decode cX6_firstFault 10 = .ok (.aload_n 0, 1) := by decide +kernel
theorem dX6_firstFault_11 : decode cX6_firstFault 11 = .ok (.lconst 0, 1) := by decide +kernel
theorem dX6_firstFault_12 : decode cX6_firstFault 12 = .ok (.putfield 25, 3) := by decide +kernel
theorem dX6_firstFault_15 : decode cX6_firstFault 15 = .ok (.iconst 0, 1) := by decide +kernel
theorem dX6_firstFault_16 : decode cX6_firstFault 16 = .ok (.istore_n 1, 1) := by decide +kernel
theorem dX6_firstFault_17 : decode cX6_firstFault 17 = .ok (.iconst 0, 1) := by decide +kernel
theorem dX6_firstFault_18 : decode cX6_firstFault 18 = .ok (.istore_n 2, 1) := by decide +kernel
theorem dX6_firstFault_19 : decode cX6_firstFault 19 = .ok (.iload_n 2, 1) := by decide +kernel
theorem dX6_firstFault_20 : decode cX6_firstFault 20 = .ok (.aload_n 0, 1) := by decide +kernel
theorem dX6_firstFault_21 : decode cX6_firstFault 21 = .ok (.getfield 15, 3) := by decide +kernel
theorem dX6_firstFault_24 : decode cX6_firstFault 24 = .ok (.if_icmp .ge 112, 3) := by decide +kernel
theorem dX6_firstFault_27 : decode cX6_firstFault 27 = .ok (.aload_n 0, 1) := by decide +kernel
theorem dX6_firstFault_28 : decode cX6_firstFault 28 = .ok (.getfield 9, 3) := by decide +kernel
theorem dX6_firstFault_31 : decode cX6_firstFault 31 = .ok (.iload_n 2, 1) := by decide +kernel
theorem dX6_firstFault_32 : decode cX6_firstFault 32 = .ok (.caload, 1) := by decide +kernel
theorem dX6_firstFault_33 : decode cX6_firstFault 33 = .ok (.istore_n 3, 1) := by decide +kernel
theorem dX6_firstFault_34 : decode cX6_firstFault 34 = .ok (.iload_n 3, 1) := by decide +kernel
theorem dX6_firstFault_35 : decode cX6_firstFault 35 = .ok (.bipush 44, 2) := by decide +kernel
theorem dX6_firstFault_37 : decode cX6_firstFault 37 = .ok (.if_icmp .ne 40, 3) := by decide +kernel
theorem dX6_firstFault_40 : decode cX6_firstFault 40 = .ok (.aload_n 0, 1) := by decide +kernel
theorem dX6_firstFault_41 : decode cX6_firstFault 41 = .ok (.iload_n 1, 1) := by decide +kernel
theorem dX6_firstFault_42 : decode cX6_firstFault 42 = .ok (.invokevirtual 29, 3) := by decide +kernel
theorem dX6_firstFault_45 : decode cX6_firstFault 45 = .ok (.ifCond .eq 32, 3) := by decide +kernel
theorem dX6_firstFault_48 : decode cX6_firstFault 48 = .ok (.aload_n 0, 1) := by decide +kernel
theorem dX6_firstFault_49 : decode cX6_firstFault 49 = .ok (.getfield 19, 3) := by decide +kernel
theorem dX6_firstFault_52 : decode cX6_firstFault 52 = .ok (.bipush 10, 2) := by decide +kernel
theorem dX6_firstFault_54 : decode cX6_firstFault 54 = .ok (.if_icmp .ge 23, 3) := by decide +kernel
theorem dX6_firstFault_57 : decode cX6_firstFault 57 = .ok (.aload_n 0, 1) := by decide +kernel
theorem dX6_firstFault_58 : decode cX6_firstFault 58 = .ok (.iload_n 1, 1) := by decide +kernel
theorem dX6_firstFault_59 : decode cX6_firstFault 59 = .ok (.putfield 22, 3) := by decide +kernel
theorem dX6_firstFault_62 : decode cX6_firstFault 62 = .ok (.aload_n 0, 1) := by decide +kernel
theorem dX6_firstFault_63 : decode cX6_firstFault 63 = .ok (.dup, 1) := by decide +kernel
theorem dX6_firstFault_64 : decode cX6_firstFault 64 = .ok (.getfield 19, 3) := by decide +kernel
theorem dX6_firstFault_67 : decode cX6_firstFault 67 = .ok (.iconst 1, 1) := by decide +kernel
theorem dX6_firstFault_68 : decode cX6_firstFault 68 = .ok (.iadd, 1) := by decide +kernel
theorem dX6_firstFault_69 : decode cX6_firstFault 69 = .ok (.putfield 19, 3) := by decide +kernel
theorem dX6_firstFault_72 : decode cX6_firstFault 72 = .ok (.iconst 0, 1) := by decide +kernel
theorem dX6_firstFault_73 : decode cX6_firstFault 73 = .ok (.istore_n 1, 1) := by decide +kernel
theorem dX6_firstFault_74 : decode cX6_firstFault 74 = .ok (.goto 56, 3) := by decide +kernel
theorem dX6_firstFault_77 : decode cX6_firstFault 77 = .ok (.iload_n 3, 1) := by decide +kernel
theorem dX6_firstFault_78 : decode cX6_firstFault 78 = .ok (.bipush 43, 2) := by decide +kernel
theorem dX6_firstFault_80 : decode cX6_firstFault 80 = .ok (.if_icmp .eq 9, 3) := by decide +kernel
theorem dX6_firstFault_83 : decode cX6_firstFault 83 = .ok (.iload_n 3, 1) := by decide +kernel
theorem dX6_firstFault_84 : decode cX6_firstFault 84 = .ok (.bipush 45, 2) := by decide +kernel
theorem dX6_firstFault_86 : decode cX6_firstFault 86 = .ok (.if_icmp .ne 42, 3) := by decide +kernel
theorem dX6_firstFault_89 : decode cX6_firstFault 89 = .ok (.iload_n 1, 1) := by decide +kernel
theorem dX6_firstFault_90 : decode cX6_firstFault 90 = .ok (.aload_n 0, 1) := by decide +kernel
theorem dX6_firstFault_91 : decode cX6_firstFault 91 = .ok (.invokevirtual 33, 3) := by decide +kernel
theorem dX6_firstFault_94 : decode cX6_firstFault 94 = .ok (.if_icmp .ge 34, 3) := by decide +kernel
theorem dX6_firstFault_97 : decode cX6_firstFault 97 = .ok (.iload_n 3, 1) := by decide +kernel
theorem dX6_firstFault_98 : decode cX6_firstFault 98 = .ok (.bipush 43, 2) := by decide +kernel
theorem dX6_firstFault_100 : decode cX6_firstFault 100 = .ok (.if_icmp .ne 22, 3) := by decide +kernel
theorem dX6_firstFault_103 : decode cX6_firstFault 103 = .ok (.aload_n 0, 1) := by decide +kernel
theorem dX6_firstFault_104 : decode cX6_firstFault 104 = .ok (.dup, 1) := by decide +kernel
theorem dX6_firstFault_105 : decode cX6_firstFault 105 = .ok (.getfield 25, 3) := by decide +kernel
theorem dX6_firstFault_108 : decode cX6_firstFault 108 = .ok (.iload_n 1, 1) := by decide +kernel
theorem dX6_firstFault_109 : decode cX6_firstFault 109 = .ok (.aload_n 0, 1) := by decide +kernel
theorem dX6_firstFault_110 : decode cX6_firstFault 110 = .ok (.getfield 19, 3) := by decide +kernel
theorem dX6_firstFault_113 : decode cX6_firstFault 113 = .ok (.iconst 1, 1) := by decide +kernel
theorem dX6_firstFault_114 : decode cX6_firstFault 114 = .ok (.isub, 1) := by decide +kernel
theorem dX6_firstFault_115 : decode cX6_firstFault 115 = .ok (.invokestatic 37, 3) := by decide +kernel
theorem dX6_firstFault_118 : decode cX6_firstFault 118 = .ok (.lor, 1) := by decide +kernel
theorem dX6_firstFault_119 : decode cX6_firstFault 119 = .ok (.putfield 25, 3) := by decide +kernel
theorem dX6_firstFault_122 : decode cX6_firstFault 122 = .ok (.iinc 1 1, 3) := by decide +kernel
theorem dX6_firstFault_125 : decode cX6_firstFault 125 = .ok (.goto 5, 3) := by decide +kernel
theorem dX6_firstFault_128 : decode cX6_firstFault 128 = .ok (.iload_n 2, 1) := by decide +kernel
theorem dX6_firstFault_129 : decode cX6_firstFault 129 = .ok (.ireturn, 1) := by decide +kernel
theorem dX6_firstFault_130 : decode cX6_firstFault 130 = .ok (.iinc 2 1, 3) := by decide +kernel
theorem dX6_firstFault_133 : decode cX6_firstFault 133 = .ok (.goto (-114), 3) := by decide +kernel
theorem dX6_firstFault_136 : decode cX6_firstFault 136 = .ok (.aload_n 0, 1) := by decide +kernel
theorem dX6_firstFault_137 : decode cX6_firstFault 137 = .ok (.iload_n 1, 1) := by decide +kernel
theorem dX6_firstFault_138 : decode cX6_firstFault 138 = .ok (.invokevirtual 29, 3) := by decide +kernel
theorem dX6_firstFault_141 : decode cX6_firstFault 141 = .ok (.ifCond .ne 8, 3) := by decide +kernel
theorem dX6_firstFault_144 : decode cX6_firstFault 144 = .ok (.aload_n 0, 1) := by decide +kernel
theorem dX6_firstFault_145 : decode cX6_firstFault 145 = .ok (.getfield 15, 3) := by decide +kernel
theorem dX6_firstFault_148 : decode cX6_firstFault 148 = .ok (.ireturn, 1) := by decide +kernel
theorem dX6_firstFault_149 : decode cX6_firstFault 149 = .ok (.aload_n 0, 1) := by decide +kernel
theorem dX6_firstFault_150 : decode cX6_firstFault 150 = .ok (.iload_n 1, 1) := by decide +kernel
theorem dX6_firstFault_151 : decode cX6_firstFault 151 = .ok (.putfield 22, 3) := by decide +kernel
theorem dX6_firstFault_154 : decode cX6_firstFault 154 = .ok (.iconst (-1), 1) := by decide +kernel
theorem dX6_firstFault_155 : decode cX6_firstFault 155 = .ok (.ireturn, 1) := by decide +kernel
theorem dX6_isWhole_0 : decode cX6_isWhole 0 = .ok (.aload_n 0, 1) := by decide +kernel
theorem dX6_isWhole_1 : decode cX6_isWhole 1 = .ok (.getfield 19, 3) := by decide +kernel
theorem dX6_isWhole_4 : decode cX6_isWhole 4 = .ok (.iconst 1, 1) := by decide +kernel
theorem dX6_isWhole_5 : decode cX6_isWhole 5 = .ok (.if_icmp .ne 15, 3) := by decide +kernel
theorem dX6_isWhole_8 : decode cX6_isWhole 8 = .ok (.iload_n 1, 1) := by decide +kernel
theorem dX6_isWhole_9 : decode cX6_isWhole 9 = .ok (.ifCond .le 7, 3) := by decide +kernel
theorem dX6_isWhole_12 : decode cX6_isWhole 12 = .ok (.iconst 1, 1) := by decide +kernel
theorem dX6_isWhole_13 : decode cX6_isWhole 13 = .ok (.goto 20, 3) := by decide +kernel
theorem dX6_isWhole_16 : decode cX6_isWhole 16 = .ok (.iconst 0, 1) := by decide +kernel
theorem dX6_isWhole_17 : decode cX6_isWhole 17 = .ok (.goto 16, 3) := by decide +kernel
theorem dX6_isWhole_20 : decode cX6_isWhole 20 = .ok (.iload_n 1, 1) := by decide +kernel
theorem dX6_isWhole_21 : decode cX6_isWhole 21 = .ok (.aload_n 0, 1) := by decide +kernel
theorem dX6_isWhole_22 : decode cX6_isWhole 22 = .ok (.getfield 22, 3) := by decide +kernel
theorem dX6_isWhole_25 : decode cX6_isWhole 25 = .ok (.if_icmp .ne 7, 3) := by decide +kernel
theorem dX6_isWhole_28 : decode cX6_isWhole 28 = .ok (.iconst 1, 1) := by decide +kernel
theorem dX6_isWhole_29 : decode cX6_isWhole 29 = .ok (.goto 4, 3) := by decide +kernel
theorem dX6_isWhole_32 : decode cX6_isWhole 32 = .ok (.iconst 0, 1) := by decide +kernel
theorem dX6_isWhole_33 : decode cX6_isWhole 33 = .ok (.ireturn, 1) := by decide +kernel
theorem dX6_rowsAllowed_0 : decode cX6_rowsAllowed 0 = .ok (.aload_n 0, 1) := by decide +kernel
theorem dX6_rowsAllowed_1 : decode cX6_rowsAllowed 1 = .ok (.getfield 19, 3) := by decide +kernel
theorem dX6_rowsAllowed_4 : decode cX6_rowsAllowed 4 = .ok (.iconst 1, 1) := by decide +kernel
theorem dX6_rowsAllowed_5 : decode cX6_rowsAllowed 5 = .ok (.if_icmp .ne 7, 3) := by decide +kernel
theorem dX6_rowsAllowed_8 : decode cX6_rowsAllowed 8 = .ok (.iconst 3, 1) := by decide +kernel
theorem dX6_rowsAllowed_9 : decode cX6_rowsAllowed 9 = .ok (.goto 7, 3) := by decide +kernel
theorem dX6_rowsAllowed_12 : decode cX6_rowsAllowed 12 = .ok (.aload_n 0, 1) := by decide +kernel
theorem dX6_rowsAllowed_13 : decode cX6_rowsAllowed 13 = .ok (.getfield 22, 3) := by decide +kernel
theorem dX6_rowsAllowed_16 : decode cX6_rowsAllowed 16 = .ok (.ireturn, 1) := by decide +kernel
theorem dX7_init_0 : decode cX7_init 0 = .ok (.aload_n 0, 1) := by decide +kernel
theorem dX7_init_1 : decode cX7_init 1 = .ok (.invokespecial 3, 3) := by decide +kernel
theorem dX7_init_4 : decode cX7_init 4 = .ok (.aload_n 0, 1) := by decide +kernel
theorem dX7_init_5 : decode cX7_init 5 = .ok (.new 9, 3) := by decide +kernel
theorem dX7_init_8 : decode cX7_init 8 = .ok (.dup, 1) := by decide +kernel
theorem dX7_init_9 : decode cX7_init 9 = .ok (.invokespecial 11, 3) := by decide +kernel
theorem dX7_init_12 : decode cX7_init 12 = .ok (.putfield 12, 3) := by decide +kernel
theorem dX7_init_15 : decode cX7_init 15 = .ok (.aload_n 0, 1) := by decide +kernel
theorem dX7_init_16 : decode cX7_init 16 = .ok (.new 16, 3) := by decide +kernel
theorem dX7_init_19 : decode cX7_init 19 = .ok (.dup, 1) := by decide +kernel
theorem dX7_init_20 : decode cX7_init 20 = .ok (.aload_n 0, 1) := by decide +kernel
theorem dX7_init_21 : decode cX7_init 21 = .ok (.getfield 12, 3) := by decide +kernel
theorem dX7_init_24 : decode cX7_init 24 = .ok (.invokespecial 18, 3) := by decide +kernel
theorem dX7_init_27 : decode cX7_init 27 = .ok (.putfield 21, 3) := by decide +kernel
theorem dX7_init_30 : decode cX7_init 30 = .ok (.aload_n 0, 1) := by decide +kernel
theorem dX7_init_31 : decode cX7_init 31 = .ok (.new 25, 3) := by decide +kernel
theorem dX7_init_34 : decode cX7_init 34 = .ok (.dup, 1) := by decide +kernel
theorem dX7_init_35 : decode cX7_init 35 = .ok (.invokespecial 27, 3) := by decide +kernel
theorem dX7_init_38 : decode cX7_init 38 = .ok (.putfield 28, 3) := by decide +kernel
theorem dX7_init_41 : decode cX7_init 41 = .ok (.aload_n 0, 1) := by decide +kernel
theorem dX7_init_42 : decode cX7_init 42 = .ok (.new 9, 3) := by decide +kernel
theorem dX7_init_45 : decode cX7_init 45 = .ok (.dup, 1) := by decide +kernel
theorem dX7_init_46 : decode cX7_init 46 = .ok (.invokespecial 11, 3) := by decide +kernel
theorem dX7_init_49 : decode cX7_init 49 = .ok (.putfield 32, 3) := by decide +kernel
theorem dX7_init_52 : decode cX7_init 52 = .ok (.aload_n 0, 1) := by decide +kernel
theorem dX7_init_53 : decode cX7_init 53 = .ok (.iconst 0, 1) := by decide +kernel
theorem dX7_init_54 : decode cX7_init 54 = .ok (.putfield 35, 3) := by decide +kernel
theorem dX7_init_57 : decode cX7_init 57 = .ok (.aload_n 0, 1) := by decide +kernel
theorem dX7_init_58 : decode cX7_init 58 = .ok (.new 39, 3) := by decide +kernel
theorem dX7_init_61 : decode cX7_init 61 = .ok (.dup, 1) := by decide +kernel
theorem dX7_init_62 : decode cX7_init 62 = .ok (.invokespecial 41, 3) := by decide +kernel
theorem dX7_init_65 : decode cX7_init 65 = .ok (.putfield 42, 3) := by decide +kernel
theorem dX7_init_68 : decode cX7_init 68 = .ok (.return_, 1) := by decide +kernel
theorem dX7_lay_0 : decode cX7_lay 0 = .ok (.iload_n 1, 1) := by decide +kernel
theorem dX7_lay_1 : decode cX7_lay 1 = .ok (.iconst 1, 1) := by decide +kernel
theorem dX7_lay_2 : decode cX7_lay 2 = .ok (.if_icmp .lt 19, 3) := by decide +kernel
theorem dX7_lay_5 : decode cX7_lay 5 = .ok (.iload_n 1, 1) := by decide +kernel
theorem dX7_lay_6 : decode cX7_lay 6 = .ok (.bipush 10, 2) := by decide +kernel
theorem dX7_lay_8 : decode cX7_lay 8 = .ok (.if_icmp .gt 13, 3) := by decide +kernel
theorem dX7_lay_11 : decode cX7_lay 11 = .ok (.iload_n 2, 1) := by decide +kernel
theorem dX7_lay_12 : decode cX7_lay 12 = .ok (.iconst 1, 1) := by decide +kernel
theorem dX7_lay_13 : decode cX7_lay 13 = .ok (.if_icmp .lt 8, 3) := by decide +kernel
theorem dX7_lay_16 : decode cX7_lay 16 = .ok (.iload_n 2, 1) := by decide +kernel
theorem dX7_lay_17 : decode cX7_lay 17 = .ok (.iconst 3, 1) := by decide +kernel
theorem dX7_lay_18 : decode cX7_lay 18 = .ok (.if_icmp .le 7, 3) := by decide +kernel
theorem dX7_lay_21 : decode cX7_lay 21 = .ok (.sipush (-1002), 3) := by decide +kernel
theorem dX7_lay_24 : decode cX7_lay 24 = .ok (.ireturn, 1) := by decide +kernel
theorem dX7_lay_25 : decode cX7_lay 25 = .ok (.aload_n 0, 1) := by decide +kernel
theorem dX7_lay_26 : decode cX7_lay 26 = .ok (.getfield 28, 3) := by decide +kernel
theorem dX7_lay_29 : decode cX7_lay 29 = .ok (.aload_n 0, 1) := by decide +kernel
theorem dX7_lay_30 : decode cX7_lay 30 = .ok (.getfield 12, 3) := by decide +kernel
theorem dX7_lay_33 : decode cX7_lay 33 = .ok (.invokevirtual 46, 3) := by decide +kernel
theorem dX7_lay_36 : decode cX7_lay 36 = .ok (.aload_n 0, 1) := by decide +kernel
theorem dX7_lay_37 : decode cX7_lay 37 = .ok (.getfield 12, 3) := by decide +kernel
theorem dX7_lay_40 : decode cX7_lay 40 = .ok (.iload_n 1, 1) := by decide +kernel
theorem dX7_lay_41 : decode cX7_lay 41 = .ok (.iload_n 2, 1) := by decide +kernel
theorem dX7_lay_42 : decode cX7_lay 42 = .ok (.iload_n 3, 1) := by decide +kernel
theorem dX7_lay_43 : decode cX7_lay 43 = .ok (.invokevirtual 49, 3) := by decide +kernel
theorem dX7_lay_46 : decode cX7_lay 46 = .ok (.aload_n 0, 1) := by decide +kernel
theorem dX7_lay_47 : decode cX7_lay 47 = .ok (.getfield 21, 3) := by decide +kernel
theorem dX7_lay_50 : decode cX7_lay 50 = .ok (.invokevirtual 53, 3) := by decide +kernel
theorem dX7_lay_53 : decode cX7_lay 53 = .ok (.iload_n 1, 1) := by decide +kernel
theorem dX7_lay_54 : decode cX7_lay 54 = .ok (.iload_n 2, 1) := by decide +kernel
theorem dX7_lay_55 : decode cX7_lay 55 = .ok (.imul, 1) := by decide +kernel
theorem dX7_lay_56 : decode cX7_lay 56 = .ok (.ireturn, 1) := by decide +kernel
theorem dX7_read_0 : decode cX7_read 0 = .ok (.aload_n 0, 1) := by decide +kernel
theorem dX7_read_1 : decode cX7_read 1 = .ok (.getfield 42, 3) := by decide +kernel
theorem dX7_read_4 : decode cX7_read 4 = .ok (.invokevirtual 56, 3) := by decide +kernel
theorem dX7_read_7 : decode cX7_read 7 = .ok (.istore_n 1, 1) := by decide +kernel
theorem dX7_read_8 : decode cX7_read 8 = .ok (.iload_n 1, 1) := by decide +kernel
theorem dX7_read_9 : decode cX7_read 9 = .ok (.iconst (-1), 1) := by decide +kernel
theorem dX7_read_10 : decode cX7_read 10 = .ok (.if_icmp .eq 9, 3) := by decide +kernel
theorem dX7_read_13 : decode cX7_read 13 = .ok (.sipush (-1100), 3) := by decide +kernel
theorem dX7_read_16 : decode cX7_read 16 = .ok (.iload_n 1, 1) := by decide +kernel
theorem dX7_read_17 : decode cX7_read 17 = .ok (.isub, 1) := by decide +kernel
theorem dX7_read_18 : decode cX7_read 18 = .ok (.ireturn, 1) := by decide +kernel
theorem dX7_read_19 : decode cX7_read 19 = .ok (.aload_n 0, 1) := by decide +kernel
theorem dX7_read_20 : decode cX7_read 20 = .ok (.getfield 28, 3) := by decide +kernel
theorem dX7_read_23 : decode cX7_read 23 = .ok (.aload_n 0, 1) := by decide +kernel
theorem dX7_read_24 : decode cX7_read 24 = .ok (.getfield 12, 3) := by decide +kernel
theorem dX7_read_27 : decode cX7_read 27 = .ok (.invokevirtual 46, 3) := by decide +kernel
theorem dX7_read_30 : decode cX7_read 30 = .ok (.aload_n 0, 1) := by decide +kernel
theorem dX7_read_31 : decode cX7_read 31 = .ok (.getfield 12, 3) := by decide +kernel
theorem dX7_read_34 : decode cX7_read 34 = .ok (.aload_n 0, 1) := by decide +kernel
theorem dX7_read_35 : decode cX7_read 35 = .ok (.getfield 42, 3) := by decide +kernel
theorem dX7_read_38 : decode cX7_read 38 = .ok (.getfield 60, 3) := by decide +kernel
theorem dX7_read_41 : decode cX7_read 41 = .ok (.aload_n 0, 1) := by decide +kernel
theorem dX7_read_42 : decode cX7_read 42 = .ok (.getfield 42, 3) := by decide +kernel
theorem dX7_read_45 : decode cX7_read 45 = .ok (.getfield 64, 3) := by decide +kernel
theorem dX7_read_48 : decode cX7_read 48 = .ok (.aload_n 0, 1) := by decide +kernel
theorem dX7_read_49 : decode cX7_read 49 = .ok (.getfield 12, 3) := by decide +kernel
theorem dX7_read_52 : decode cX7_read 52 = .ok (.getfield 67, 3) := by decide +kernel
theorem dX7_read_55 : decode cX7_read 55 = .ok (.invokevirtual 49, 3) := by decide +kernel
theorem dX7_read_58 : decode cX7_read 58 = .ok (.aload_n 0, 1) := by decide +kernel
theorem dX7_read_59 : decode cX7_read 59 = .ok (.getfield 12, 3) := by decide +kernel
theorem dX7_read_62 : decode cX7_read 62 = .ok (.aload_n 0, 1) := by decide +kernel
theorem dX7_read_63 : decode cX7_read 63 = .ok (.getfield 42, 3) := by decide +kernel
theorem dX7_read_66 : decode cX7_read 66 = .ok (.getfield 70, 3) := by decide +kernel
theorem dX7_read_69 : decode cX7_read 69 = .ok (.putfield 74, 3) := by decide +kernel
theorem dX7_read_72 : decode cX7_read 72 = .ok (.aload_n 0, 1) := by decide +kernel
theorem dX7_read_73 : decode cX7_read 73 = .ok (.getfield 21, 3) := by decide +kernel
theorem dX7_read_76 : decode cX7_read 76 = .ok (.invokevirtual 53, 3) := by decide +kernel
theorem dX7_read_79 : decode cX7_read 79 = .ok (.aload_n 0, 1) := by decide +kernel
theorem dX7_read_80 : decode cX7_read 80 = .ok (.getfield 42, 3) := by decide +kernel
theorem dX7_read_83 : decode cX7_read 83 = .ok (.getfield 60, 3) := by decide +kernel
theorem dX7_read_86 : decode cX7_read 86 = .ok (.aload_n 0, 1) := by decide +kernel
theorem dX7_read_87 : decode cX7_read 87 = .ok (.getfield 42, 3) := by decide +kernel
theorem dX7_read_90 : decode cX7_read 90 = .ok (.getfield 64, 3) := by decide +kernel
theorem dX7_read_93 : decode cX7_read 93 = .ok (.imul, 1) := by decide +kernel
theorem dX7_read_94 : decode cX7_read 94 = .ok (.ireturn, 1) := by decide +kernel
theorem dX7_close_0 : decode cX7_close 0 = .ok (.iload_n 1, 1) := by decide +kernel
theorem dX7_close_1 : decode cX7_close 1 = .ok (.aload_n 0, 1) := by decide +kernel
theorem dX7_close_2 : decode cX7_close 2 = .ok (.getfield 12, 3) := by decide +kernel
theorem dX7_close_5 : decode cX7_close 5 = .ok (.getfield 67, 3) := by decide +kernel
theorem dX7_close_8 : decode cX7_close 8 = .ok (.if_icmp .ne 7, 3) := by decide +kernel
theorem dX7_close_11 : decode cX7_close 11 = .ok (.sipush (-1005), 3) := by decide +kernel
theorem dX7_close_14 : decode cX7_close 14 = .ok (.ireturn, 1) := by decide +kernel
theorem dX7_close_15 : decode cX7_close 15 = .ok (.aload_n 0, 1) := by decide +kernel
theorem dX7_close_16 : decode cX7_close 16 = .ok (.getfield 28, 3) := by decide +kernel
theorem dX7_close_19 : decode cX7_close 19 = .ok (.aload_n 0, 1) := by decide +kernel
theorem dX7_close_20 : decode cX7_close 20 = .ok (.getfield 12, 3) := by decide +kernel
theorem dX7_close_23 : decode cX7_close 23 = .ok (.invokevirtual 46, 3) := by decide +kernel
theorem dX7_close_26 : decode cX7_close 26 = .ok (.aload_n 0, 1) := by decide +kernel
theorem dX7_close_27 : decode cX7_close 27 = .ok (.getfield 12, 3) := by decide +kernel
theorem dX7_close_30 : decode cX7_close 30 = .ok (.iload_n 1, 1) := by decide +kernel
theorem dX7_close_31 : decode cX7_close 31 = .ok (.putfield 67, 3) := by decide +kernel
theorem dX7_close_34 : decode cX7_close 34 = .ok (.aload_n 0, 1) := by decide +kernel
theorem dX7_close_35 : decode cX7_close 35 = .ok (.getfield 21, 3) := by decide +kernel
theorem dX7_close_38 : decode cX7_close 38 = .ok (.invokevirtual 53, 3) := by decide +kernel
theorem dX7_close_41 : decode cX7_close 41 = .ok (.aload_n 0, 1) := by decide +kernel
theorem dX7_close_42 : decode cX7_close 42 = .ok (.getfield 12, 3) := by decide +kernel
theorem dX7_close_45 : decode cX7_close 45 = .ok (.invokevirtual 75, 3) := by decide +kernel
theorem dX7_close_48 : decode cX7_close 48 = .ok (.ireturn, 1) := by decide +kernel
theorem dX7_setPull_0 : decode cX7_setPull 0 = .ok (.iload_n 2, 1) := by decide +kernel
theorem dX7_setPull_1 : decode cX7_setPull 1 = .ok (.bipush (-2), 2) := by decide +kernel
theorem dX7_setPull_3 : decode cX7_setPull 3 = .ok (.if_icmp .lt 8, 3) := by decide +kernel
theorem dX7_setPull_6 : decode cX7_setPull 6 = .ok (.iload_n 2, 1) := by decide +kernel
theorem dX7_setPull_7 : decode cX7_setPull 7 = .ok (.iconst 2, 1) := by decide +kernel
theorem dX7_setPull_8 : decode cX7_setPull 8 = .ok (.if_icmp .le 7, 3) := by decide +kernel
theorem dX7_setPull_11 : decode cX7_setPull 11 = .ok (.sipush (-1002), 3) := by decide +kernel
theorem dX7_setPull_14 : decode cX7_setPull 14 = .ok (.ireturn, 1) := by decide +kernel
theorem dX7_setPull_15 : decode cX7_setPull 15 = .ok (.iload_n 1, 1) := by decide +kernel
theorem dX7_setPull_16 : decode cX7_setPull 16 = .ok (.ifCond .eq 13, 3) := by decide +kernel
theorem dX7_setPull_19 : decode cX7_setPull 19 = .ok (.aload_n 0, 1) := by decide +kernel
theorem dX7_setPull_20 : decode cX7_setPull 20 = .ok (.getfield 12, 3) := by decide +kernel
theorem dX7_setPull_23 : decode cX7_setPull 23 = .ok (.getfield 78, 3) := by decide +kernel
theorem dX7_setPull_26 : decode cX7_setPull 26 = .ok (.goto 10, 3) := by decide +kernel
theorem dX7_setPull_29 : decode cX7_setPull 29 = .ok (.aload_n 0, 1) := by decide +kernel
theorem dX7_setPull_30 : decode cX7_setPull 30 = .ok (.getfield 12, 3) := by decide +kernel
theorem dX7_setPull_33 : decode cX7_setPull 33 = .ok (.getfield 81, 3) := by decide +kernel
theorem dX7_setPull_36 : decode cX7_setPull 36 = .ok (.istore_n 3, 1) := by decide +kernel
theorem dX7_setPull_37 : decode cX7_setPull 37 = .ok (.iload_n 2, 1) := by decide +kernel
theorem dX7_setPull_38 : decode cX7_setPull 38 = .ok (.iload_n 3, 1) := by decide +kernel
theorem dX7_setPull_39 : decode cX7_setPull 39 = .ok (.if_icmp .ne 7, 3) := by decide +kernel
theorem dX7_setPull_42 : decode cX7_setPull 42 = .ok (.sipush (-1005), 3) := by decide +kernel
theorem dX7_setPull_45 : decode cX7_setPull 45 = .ok (.ireturn, 1) := by decide +kernel
theorem dX7_setPull_46 : decode cX7_setPull 46 = .ok (.aload_n 0, 1) := by decide +kernel
theorem dX7_setPull_47 : decode cX7_setPull 47 = .ok (.getfield 28, 3) := by decide +kernel
theorem dX7_setPull_50 : decode cX7_setPull 50 = .ok (.aload_n 0, 1) := by decide +kernel
theorem dX7_setPull_51 : decode cX7_setPull 51 = .ok (.getfield 12, 3) := by decide +kernel
theorem dX7_setPull_54 : decode cX7_setPull 54 = .ok (.invokevirtual 46, 3) := by decide +kernel
theorem dX7_setPull_57 : decode cX7_setPull 57 = .ok (.iload_n 1, 1) := by decide +kernel
theorem dX7_setPull_58 : decode cX7_setPull 58 = .ok (.ifCond .eq 14, 3) := by decide +kernel
theorem dX7_setPull_61 : decode cX7_setPull 61 = .ok (.aload_n 0, 1) := by decide +kernel
theorem dX7_setPull_62 : decode cX7_setPull 62 = .ok (.getfield 12, 3) := by decide +kernel
theorem dX7_setPull_65 : decode cX7_setPull 65 = .ok (.iload_n 2, 1) := by decide +kernel
theorem dX7_setPull_66 : decode cX7_setPull 66 = .ok (.putfield 78, 3) := by decide +kernel
theorem dX7_setPull_69 : decode cX7_setPull 69 = .ok (.goto 11, 3) := by decide +kernel
theorem dX7_setPull_72 : decode cX7_setPull 72 = .ok (.aload_n 0, 1) := by decide +kernel
theorem dX7_setPull_73 : decode cX7_setPull 73 = .ok (.getfield 12, 3) := by decide +kernel
theorem dX7_setPull_76 : decode cX7_setPull 76 = .ok (.iload_n 2, 1) := by decide +kernel
theorem dX7_setPull_77 : decode cX7_setPull 77 = .ok (.putfield 81, 3) := by decide +kernel
theorem dX7_setPull_80 : decode cX7_setPull 80 = .ok (.aload_n 0, 1) := by decide +kernel
theorem dX7_setPull_81 : decode cX7_setPull 81 = .ok (.getfield 21, 3) := by decide +kernel
theorem dX7_setPull_84 : decode cX7_setPull 84 = .ok (.invokevirtual 53, 3) := by decide +kernel
theorem dX7_setPull_87 : decode cX7_setPull 87 = .ok (.iload_n 3, 1) := by decide +kernel
theorem dX7_setPull_88 : decode cX7_setPull 88 = .ok (.ireturn, 1) := by decide +kernel
theorem dX7_setField_0 : decode cX7_setField 0 = .ok (.aload_n 0, 1) := by decide +kernel
theorem dX7_setField_1 : decode cX7_setField 1 = .ok (.getfield 12, 3) := by decide +kernel
theorem dX7_setField_4 : decode cX7_setField 4 = .ok (.iload_n 1, 1) := by decide +kernel
theorem dX7_setField_5 : decode cX7_setField 5 = .ok (.iload_n 2, 1) := by decide +kernel
theorem dX7_setField_6 : decode cX7_setField 6 = .ok (.invokevirtual 84, 3) := by decide +kernel
theorem dX7_setField_9 : decode cX7_setField 9 = .ok (.ifCond .ne 7, 3) := by decide +kernel
theorem dX7_setField_12 : decode cX7_setField 12 = .ok (.sipush (-1001), 3) := by decide +kernel
theorem dX7_setField_15 : decode cX7_setField 15 = .ok (.ireturn, 1) := by decide +kernel
theorem dX7_setField_16 : decode cX7_setField 16 = .ok (.iload_n 3, 1) := by decide +kernel
theorem dX7_setField_17 : decode cX7_setField 17 = .ok (.bipush (-3), 2) := by decide +kernel
theorem dX7_setField_19 : decode cX7_setField 19 = .ok (.if_icmp .lt 8, 3) := by decide +kernel
theorem dX7_setField_22 : decode cX7_setField 22 = .ok (.iload_n 3, 1) := by decide +kernel
theorem dX7_setField_23 : decode cX7_setField 23 = .ok (.iconst 3, 1) := by decide +kernel
theorem dX7_setField_24 : decode cX7_setField 24 = .ok (.if_icmp .le 7, 3) := by decide +kernel
theorem dX7_setField_27 : decode cX7_setField 27 = .ok (.sipush (-1002), 3) := by decide +kernel
theorem dX7_setField_30 : decode cX7_setField 30 = .ok (.ireturn, 1) := by decide +kernel
theorem dX7_setField_31 : decode cX7_setField 31 = .ok (.aload_n 0, 1) := by decide +kernel
theorem dX7_setField_32 : decode cX7_setField 32 = .ok (.getfield 12, 3) := by decide +kernel
theorem dX7_setField_35 : decode cX7_setField 35 = .ok (.iload_n 1, 1) := by decide +kernel
theorem dX7_setField_36 : decode cX7_setField 36 = .ok (.iload_n 2, 1) := by decide +kernel
theorem dX7_setField_37 : decode cX7_setField 37 = .ok (.invokevirtual 88, 3) := by decide +kernel
theorem dX7_setField_40 : decode cX7_setField 40 = .ok (.istore 4, 2) := by decide +kernel
theorem dX7_setField_42 : decode cX7_setField 42 = .ok (.iload_n 3, 1) := by decide +kernel
theorem dX7_setField_43 : decode cX7_setField 43 = .ok (.iload 4, 2) := by decide +kernel
theorem dX7_setField_45 : decode cX7_setField 45 = .ok (.if_icmp .ne 7, 3) := by decide +kernel
theorem dX7_setField_48 : decode cX7_setField 48 = .ok (.sipush (-1005), 3) := by decide +kernel
theorem dX7_setField_51 : decode cX7_setField 51 = .ok (.ireturn, 1) := by decide +kernel
theorem dX7_setField_52 : decode cX7_setField 52 = .ok (.aload_n 0, 1) := by decide +kernel
theorem dX7_setField_53 : decode cX7_setField 53 = .ok (.getfield 28, 3) := by decide +kernel
theorem dX7_setField_56 : decode cX7_setField 56 = .ok (.aload_n 0, 1) := by decide +kernel
theorem dX7_setField_57 : decode cX7_setField 57 = .ok (.getfield 12, 3) := by decide +kernel
theorem dX7_setField_60 : decode cX7_setField 60 = .ok (.invokevirtual 46, 3) := by decide +kernel
theorem dX7_setField_63 : decode cX7_setField 63 = .ok (.aload_n 0, 1) := by decide +kernel
theorem dX7_setField_64 : decode cX7_setField 64 = .ok (.getfield 12, 3) := by decide +kernel
theorem dX7_setField_67 : decode cX7_setField 67 = .ok (.iload_n 1, 1) := by decide +kernel
theorem dX7_setField_68 : decode cX7_setField 68 = .ok (.iload_n 2, 1) := by decide +kernel
theorem dX7_setField_69 : decode cX7_setField 69 = .ok (.iload_n 3, 1) := by decide +kernel
theorem dX7_setField_70 : decode cX7_setField 70 = .ok (.invokevirtual 92, 3) := by decide +kernel
theorem dX7_setField_73 : decode cX7_setField 73 = .ok (.aload_n 0, 1) := by decide +kernel
theorem dX7_setField_74 : decode cX7_setField 74 = .ok (.getfield 21, 3) := by decide +kernel
theorem dX7_setField_77 : decode cX7_setField 77 = .ok (.invokevirtual 53, 3) := by decide +kernel
theorem dX7_setField_80 : decode cX7_setField 80 = .ok (.iload 4, 2) := by decide +kernel
theorem dX7_setField_82 : decode cX7_setField 82 = .ok (.ireturn, 1) := by decide +kernel
theorem dX7_turn_0 : decode cX7_turn 0 = .ok (.aload_n 0, 1) := by decide +kernel
theorem dX7_turn_1 : decode cX7_turn 1 = .ok (.getfield 12, 3) := by decide +kernel
theorem dX7_turn_4 : decode cX7_turn 4 = .ok (.iload_n 1, 1) := by decide +kernel
theorem dX7_turn_5 : decode cX7_turn 5 = .ok (.iload_n 2, 1) := by decide +kernel
theorem dX7_turn_6 : decode cX7_turn 6 = .ok (.invokevirtual 84, 3) := by decide +kernel
theorem dX7_turn_9 : decode cX7_turn 9 = .ok (.ifCond .ne 7, 3) := by decide +kernel
theorem dX7_turn_12 : decode cX7_turn 12 = .ok (.sipush (-1001), 3) := by decide +kernel
theorem dX7_turn_15 : decode cX7_turn 15 = .ok (.ireturn, 1) := by decide +kernel
theorem dX7_turn_16 : decode cX7_turn 16 = .ok (.aload_n 0, 1) := by decide +kernel
theorem dX7_turn_17 : decode cX7_turn 17 = .ok (.getfield 28, 3) := by decide +kernel
theorem dX7_turn_20 : decode cX7_turn 20 = .ok (.aload_n 0, 1) := by decide +kernel
theorem dX7_turn_21 : decode cX7_turn 21 = .ok (.getfield 12, 3) := by decide +kernel
theorem dX7_turn_24 : decode cX7_turn 24 = .ok (.invokevirtual 46, 3) := by decide +kernel
theorem dX7_turn_27 : decode cX7_turn 27 = .ok (.aload_n 0, 1) := by decide +kernel
theorem dX7_turn_28 : decode cX7_turn 28 = .ok (.getfield 12, 3) := by decide +kernel
theorem dX7_turn_31 : decode cX7_turn 31 = .ok (.iload_n 1, 1) := by decide +kernel
theorem dX7_turn_32 : decode cX7_turn 32 = .ok (.iload_n 2, 1) := by decide +kernel
theorem dX7_turn_33 : decode cX7_turn 33 = .ok (.invokestatic 96, 3) := by decide +kernel
theorem dX7_turn_36 : decode cX7_turn 36 = .ok (.invokevirtual 100, 3) := by decide +kernel
theorem dX7_turn_39 : decode cX7_turn 39 = .ok (.aload_n 0, 1) := by decide +kernel
theorem dX7_turn_40 : decode cX7_turn 40 = .ok (.getfield 12, 3) := by decide +kernel
theorem dX7_turn_43 : decode cX7_turn 43 = .ok (.invokevirtual 75, 3) := by decide +kernel
theorem dX7_turn_46 : decode cX7_turn 46 = .ok (.ireturn, 1) := by decide +kernel
theorem dX7_turnPatch_0 : decode cX7_turnPatch 0 = .ok (.aload_n 0, 1) := by decide +kernel
theorem dX7_turnPatch_1 : decode cX7_turnPatch 1 = .ok (.getfield 12, 3) := by decide +kernel
theorem dX7_turnPatch_4 : decode cX7_turnPatch 4 = .ok (.iload_n 1, 1) := by decide +kernel
theorem dX7_turnPatch_5 : decode cX7_turnPatch 5 = .ok (.iload_n 2, 1) := by decide +kernel
theorem dX7_turnPatch_6 : decode cX7_turnPatch 6 = .ok (.invokevirtual 84, 3) := by decide +kernel
theorem dX7_turnPatch_9 : decode cX7_turnPatch 9 = .ok (.ifCond .ne 7, 3) := by decide +kernel
theorem dX7_turnPatch_12 : decode cX7_turnPatch 12 = .ok (.sipush (-1001), 3) := by decide +kernel
theorem dX7_turnPatch_15 : decode cX7_turnPatch 15 = .ok (.ireturn, 1) := by decide +kernel
theorem dX7_turnPatch_16 : decode cX7_turnPatch 16 = .ok (.aload_n 0, 1) := by decide +kernel
theorem dX7_turnPatch_17 : decode cX7_turnPatch 17 = .ok (.getfield 28, 3) := by decide +kernel
theorem dX7_turnPatch_20 : decode cX7_turnPatch 20 = .ok (.aload_n 0, 1) := by decide +kernel
theorem dX7_turnPatch_21 : decode cX7_turnPatch 21 = .ok (.getfield 12, 3) := by decide +kernel
theorem dX7_turnPatch_24 : decode cX7_turnPatch 24 = .ok (.invokevirtual 46, 3) := by decide +kernel
theorem dX7_turnPatch_27 : decode cX7_turnPatch 27 = .ok (.aload_n 0, 1) := by decide +kernel
theorem dX7_turnPatch_28 : decode cX7_turnPatch 28 = .ok (.getfield 12, 3) := by decide +kernel
theorem dX7_turnPatch_31 : decode cX7_turnPatch 31 = .ok (.iload_n 1, 1) := by decide +kernel
theorem dX7_turnPatch_32 : decode cX7_turnPatch 32 = .ok (.iload_n 2, 1) := by decide +kernel
theorem dX7_turnPatch_33 : decode cX7_turnPatch 33 = .ok (.invokestatic 96, 3) := by decide +kernel
theorem dX7_turnPatch_36 : decode cX7_turnPatch 36 = .ok (.invokevirtual 104, 3) := by decide +kernel
theorem dX7_turnPatch_39 : decode cX7_turnPatch 39 = .ok (.lstore_n 3, 1) := by decide +kernel
theorem dX7_turnPatch_40 : decode cX7_turnPatch 40 = .ok (.aload_n 0, 1) := by decide +kernel
theorem dX7_turnPatch_41 : decode cX7_turnPatch 41 = .ok (.getfield 12, 3) := by decide +kernel
theorem dX7_turnPatch_44 : decode cX7_turnPatch 44 = .ok (.lload_n 3, 1) := by decide +kernel
theorem dX7_turnPatch_45 : decode cX7_turnPatch 45 = .ok (.invokevirtual 100, 3) := by decide +kernel
theorem dX7_turnPatch_48 : decode cX7_turnPatch 48 = .ok (.lload_n 3, 1) := by decide +kernel
theorem dX7_turnPatch_49 : decode cX7_turnPatch 49 = .ok (.invokestatic 108, 3) := by decide +kernel
theorem dX7_turnPatch_52 : decode cX7_turnPatch 52 = .ok (.ireturn, 1) := by decide +kernel
theorem dX7_sweep_0 : decode cX7_sweep 0 = .ok (.iload_n 1, 1) := by decide +kernel
theorem dX7_sweep_1 : decode cX7_sweep 1 = .ok (.iconst 1, 1) := by decide +kernel
theorem dX7_sweep_2 : decode cX7_sweep 2 = .ok (.if_icmp .lt 9, 3) := by decide +kernel
theorem dX7_sweep_5 : decode cX7_sweep 5 = .ok (.iload_n 1, 1) := by decide +kernel
theorem dX7_sweep_6 : decode cX7_sweep 6 = .ok (.bipush 50, 2) := by decide +kernel
theorem dX7_sweep_8 : decode cX7_sweep 8 = .ok (.if_icmp .le 7, 3) := by decide +kernel
theorem dX7_sweep_11 : decode cX7_sweep 11 = .ok (.sipush (-1002), 3) := by decide +kernel
theorem dX7_sweep_14 : decode cX7_sweep 14 = .ok (.ireturn, 1) := by decide +kernel
theorem dX7_sweep_15 : decode cX7_sweep 15 = .ok (.aload_n 0, 1) := by decide +kernel
theorem dX7_sweep_16 : decode cX7_sweep 16 = .ok (.getfield 12, 3) := by decide +kernel
theorem dX7_sweep_19 : decode cX7_sweep 19 = .ok (.invokevirtual 114, 3) := by decide +kernel
theorem dX7_sweep_22 : decode cX7_sweep 22 = .ok (.ifCond .ne 7, 3) := by decide +kernel
theorem dX7_sweep_25 : decode cX7_sweep 25 = .ok (.sipush (-1005), 3) := by decide +kernel
theorem dX7_sweep_28 : decode cX7_sweep 28 = .ok (.ireturn, 1) := by decide +kernel
theorem dX7_sweep_29 : decode cX7_sweep 29 = .ok (.aload_n 0, 1) := by decide +kernel
theorem dX7_sweep_30 : decode cX7_sweep 30 = .ok (.getfield 28, 3) := by decide +kernel
theorem dX7_sweep_33 : decode cX7_sweep 33 = .ok (.aload_n 0, 1) := by decide +kernel
theorem dX7_sweep_34 : decode cX7_sweep 34 = .ok (.getfield 12, 3) := by decide +kernel
theorem dX7_sweep_37 : decode cX7_sweep 37 = .ok (.invokevirtual 46, 3) := by decide +kernel
theorem dX7_sweep_40 : decode cX7_sweep 40 = .ok (.iconst 0, 1) := by decide +kernel
theorem dX7_sweep_41 : decode cX7_sweep 41 = .ok (.istore_n 2, 1) := by decide +kernel
theorem dX7_sweep_42 : decode cX7_sweep 42 = .ok (.iconst 1, 1) := by decide +kernel
theorem dX7_sweep_43 : decode cX7_sweep 43 = .ok (.istore_n 3, 1) := by decide +kernel
theorem dX7_sweep_44 : decode cX7_sweep 44 = .ok (.iconst 0, 1) := by decide +kernel
theorem dX7_sweep_45 : decode cX7_sweep 45 = .ok (.istore 4, 2) := by decide +kernel
theorem dX7_sweep_47 : decode cX7_sweep 47 = .ok (.iload 4, 2) := by decide +kernel
theorem dX7_sweep_49 : decode cX7_sweep 49 = .ok (.iload_n 1, 1) := by decide +kernel
theorem dX7_sweep_50 : decode cX7_sweep 50 = .ok (.if_icmp .ge 25, 3) := by decide +kernel
theorem dX7_sweep_53 : decode cX7_sweep 53 = .ok (.iload_n 3, 1) := by decide +kernel
theorem dX7_sweep_54 : decode cX7_sweep 54 = .ok (.ifCond .le 21, 3) := by decide +kernel
theorem dX7_sweep_57 : decode cX7_sweep 57 = .ok (.aload_n 0, 1) := by decide +kernel
theorem dX7_sweep_58 : decode cX7_sweep 58 = .ok (.getfield 12, 3) := by decide +kernel
theorem dX7_sweep_61 : decode cX7_sweep 61 = .ok (.invokevirtual 117, 3) := by decide +kernel
theorem dX7_sweep_64 : decode cX7_sweep 64 = .ok (.istore_n 3, 1) := by decide +kernel
theorem dX7_sweep_65 : decode cX7_sweep 65 = .ok (.iload_n 2, 1) := by decide +kernel
theorem dX7_sweep_66 : decode cX7_sweep 66 = .ok (.iload_n 3, 1) := by decide +kernel
theorem dX7_sweep_67 : decode cX7_sweep 67 = .ok (.iadd, 1) := by decide +kernel
theorem dX7_sweep_68 : decode cX7_sweep 68 = .ok (.istore_n 2, 1) := by decide +kernel
theorem dX7_sweep_69 : decode cX7_sweep 69 = .ok (.iinc 4 1, 3) := by decide +kernel
theorem dX7_sweep_72 : decode cX7_sweep 72 = .ok (.goto (-25), 3) := by decide +kernel
theorem dX7_sweep_75 : decode cX7_sweep 75 = .ok (.iload_n 2, 1) := by decide +kernel
theorem dX7_sweep_76 : decode cX7_sweep 76 = .ok (.ireturn, 1) := by decide +kernel
theorem dX7_settle_0 : decode cX7_settle 0 = .ok (.aload_n 0, 1) := by decide +kernel
theorem dX7_settle_1 : decode cX7_settle 1 = .ok (.getfield 21, 3) := by decide +kernel
theorem dX7_settle_4 : decode cX7_settle 4 = .ok (.invokevirtual 120, 3) := by decide +kernel
theorem dX7_settle_7 : decode cX7_settle 7 = .ok (.lstore_n 1, 1) := by decide +kernel
theorem dX7_settle_8 : decode cX7_settle 8 = .ok (.lload_n 1, 1) := by decide +kernel
theorem dX7_settle_9 : decode cX7_settle 9 = .ok (.aload_n 0, 1) := by decide +kernel
theorem dX7_settle_10 : decode cX7_settle 10 = .ok (.getfield 12, 3) := by decide +kernel
theorem dX7_settle_13 : decode cX7_settle 13 = .ok (.getfield 74, 3) := by decide +kernel
theorem dX7_settle_16 : decode cX7_settle 16 = .ok (.lcmp, 1) := by decide +kernel
theorem dX7_settle_17 : decode cX7_settle 17 = .ok (.ifCond .ne 7, 3) := by decide +kernel
theorem dX7_settle_20 : decode cX7_settle 20 = .ok (.sipush (-1005), 3) := by decide +kernel
theorem dX7_settle_23 : decode cX7_settle 23 = .ok (.ireturn, 1) := by decide +kernel
theorem dX7_settle_24 : decode cX7_settle 24 = .ok (.aload_n 0, 1) := by decide +kernel
theorem dX7_settle_25 : decode cX7_settle 25 = .ok (.getfield 28, 3) := by decide +kernel
theorem dX7_settle_28 : decode cX7_settle 28 = .ok (.aload_n 0, 1) := by decide +kernel
theorem dX7_settle_29 : decode cX7_settle 29 = .ok (.getfield 12, 3) := by decide +kernel
theorem dX7_settle_32 : decode cX7_settle 32 = .ok (.invokevirtual 46, 3) := by decide +kernel
theorem dX7_settle_35 : decode cX7_settle 35 = .ok (.aload_n 0, 1) := by decide +kernel
theorem dX7_settle_36 : decode cX7_settle 36 = .ok (.getfield 12, 3) := by decide +kernel
theorem dX7_settle_39 : decode cX7_settle 39 = .ok (.lload_n 1, 1) := by decide +kernel
theorem dX7_settle_40 : decode cX7_settle 40 = .ok (.putfield 74, 3) := by decide +kernel
theorem dX7_settle_43 : decode cX7_settle 43 = .ok (.aload_n 0, 1) := by decide +kernel
theorem dX7_settle_44 : decode cX7_settle 44 = .ok (.getfield 12, 3) := by decide +kernel
theorem dX7_settle_47 : decode cX7_settle 47 = .ok (.invokevirtual 75, 3) := by decide +kernel
theorem dX7_settle_50 : decode cX7_settle 50 = .ok (.ireturn, 1) := by decide +kernel
theorem dX7_type_0 : decode cX7_type 0 = .ok (.aload_n 0, 1) := by decide +kernel
theorem dX7_type_1 : decode cX7_type 1 = .ok (.getfield 42, 3) := by decide +kernel
theorem dX7_type_4 : decode cX7_type 4 = .ok (.iload_n 1, 1) := by decide +kernel
theorem dX7_type_5 : decode cX7_type 5 = .ok (.invokevirtual 124, 3) := by decide +kernel
theorem dX7_type_8 : decode cX7_type 8 = .ok (.ifCond .eq 13, 3) := by decide +kernel
theorem dX7_type_11 : decode cX7_type 11 = .ok (.aload_n 0, 1) := by decide +kernel
theorem dX7_type_12 : decode cX7_type 12 = .ok (.getfield 42, 3) := by decide +kernel
theorem dX7_type_15 : decode cX7_type 15 = .ok (.getfield 128, 3) := by decide +kernel
theorem dX7_type_18 : decode cX7_type 18 = .ok (.goto 6, 3) := by decide +kernel
theorem dX7_type_21 : decode cX7_type 21 = .ok (.sipush (-1003), 3) := by decide +kernel
theorem dX7_type_24 : decode cX7_type 24 = .ok (.ireturn, 1) := by decide +kernel
theorem dX7_clearText_0 : decode cX7_clearText 0 = .ok (.aload_n 0, 1) := by decide +kernel
theorem dX7_clearText_1 : decode cX7_clearText 1 = .ok (.getfield 42, 3) := by decide +kernel
theorem dX7_clearText_4 : decode cX7_clearText 4 = .ok (.getfield 128, 3) := by decide +kernel
theorem dX7_clearText_7 : decode cX7_clearText 7 = .ok (.istore_n 1, 1) := by decide +kernel
theorem dX7_clearText_8 : decode cX7_clearText 8 = .ok (.aload_n 0, 1) := by decide +kernel
theorem dX7_clearText_9 : decode cX7_clearText 9 = .ok (.getfield 42, 3) := by decide +kernel
theorem dX7_clearText_12 : decode cX7_clearText 12 = .ok (.iconst 0, 1) := by decide +kernel
theorem dX7_clearText_13 : decode cX7_clearText 13 = .ok (.putfield 128, 3) := by decide +kernel
theorem dX7_clearText_16 : decode cX7_clearText 16 = .ok (.iload_n 1, 1) := by decide +kernel
theorem dX7_clearText_17 : decode cX7_clearText 17 = .ok (.ireturn, 1) := by decide +kernel
theorem dX7_undo_0 : decode cX7_undo 0 = .ok (.aload_n 0, 1) := by decide +kernel
theorem dX7_undo_1 : decode cX7_undo 1 = .ok (.getfield 28, 3) := by decide +kernel
theorem dX7_undo_4 : decode cX7_undo 4 = .ok (.aload_n 0, 1) := by decide +kernel
theorem dX7_undo_5 : decode cX7_undo 5 = .ok (.getfield 12, 3) := by decide +kernel
theorem dX7_undo_8 : decode cX7_undo 8 = .ok (.invokevirtual 131, 3) := by decide +kernel
theorem dX7_undo_11 : decode cX7_undo 11 = .ok (.ifCond .ne 7, 3) := by decide +kernel
theorem dX7_undo_14 : decode cX7_undo 14 = .ok (.sipush (-1005), 3) := by decide +kernel
theorem dX7_undo_17 : decode cX7_undo 17 = .ok (.ireturn, 1) := by decide +kernel
theorem dX7_undo_18 : decode cX7_undo 18 = .ok (.aload_n 0, 1) := by decide +kernel
theorem dX7_undo_19 : decode cX7_undo 19 = .ok (.getfield 21, 3) := by decide +kernel
theorem dX7_undo_22 : decode cX7_undo 22 = .ok (.invokevirtual 53, 3) := by decide +kernel
theorem dX7_undo_25 : decode cX7_undo 25 = .ok (.aload_n 0, 1) := by decide +kernel
theorem dX7_undo_26 : decode cX7_undo 26 = .ok (.getfield 28, 3) := by decide +kernel
theorem dX7_undo_29 : decode cX7_undo 29 = .ok (.getfield 135, 3) := by decide +kernel
theorem dX7_undo_32 : decode cX7_undo 32 = .ok (.ireturn, 1) := by decide +kernel
theorem dX7_keep_0 : decode cX7_keep 0 = .ok (.aload_n 0, 1) := by decide +kernel
theorem dX7_keep_1 : decode cX7_keep 1 = .ok (.getfield 32, 3) := by decide +kernel
theorem dX7_keep_4 : decode cX7_keep 4 = .ok (.aload_n 0, 1) := by decide +kernel
theorem dX7_keep_5 : decode cX7_keep 5 = .ok (.getfield 12, 3) := by decide +kernel
theorem dX7_keep_8 : decode cX7_keep 8 = .ok (.invokevirtual 138, 3) := by decide +kernel
theorem dX7_keep_11 : decode cX7_keep 11 = .ok (.aload_n 0, 1) := by decide +kernel
theorem dX7_keep_12 : decode cX7_keep 12 = .ok (.iconst 1, 1) := by decide +kernel
theorem dX7_keep_13 : decode cX7_keep 13 = .ok (.putfield 35, 3) := by decide +kernel
theorem dX7_keep_16 : decode cX7_keep 16 = .ok (.aload_n 0, 1) := by decide +kernel
theorem dX7_keep_17 : decode cX7_keep 17 = .ok (.getfield 12, 3) := by decide +kernel
theorem dX7_keep_20 : decode cX7_keep 20 = .ok (.invokevirtual 75, 3) := by decide +kernel
theorem dX7_keep_23 : decode cX7_keep 23 = .ok (.ireturn, 1) := by decide +kernel
theorem dX7_restore_0 : decode cX7_restore 0 = .ok (.aload_n 0, 1) := by decide +kernel
theorem dX7_restore_1 : decode cX7_restore 1 = .ok (.getfield 35, 3) := by decide +kernel
theorem dX7_restore_4 : decode cX7_restore 4 = .ok (.ifCond .ne 7, 3) := by decide +kernel
theorem dX7_restore_7 : decode cX7_restore 7 = .ok (.sipush (-1005), 3) := by decide +kernel
theorem dX7_restore_10 : decode cX7_restore 10 = .ok (.ireturn, 1) := by decide +kernel
theorem dX7_restore_11 : decode cX7_restore 11 = .ok (.aload_n 0, 1) := by decide +kernel
theorem dX7_restore_12 : decode cX7_restore 12 = .ok (.getfield 28, 3) := by decide +kernel
theorem dX7_restore_15 : decode cX7_restore 15 = .ok (.aload_n 0, 1) := by decide +kernel
theorem dX7_restore_16 : decode cX7_restore 16 = .ok (.getfield 12, 3) := by decide +kernel
theorem dX7_restore_19 : decode cX7_restore 19 = .ok (.invokevirtual 46, 3) := by decide +kernel
theorem dX7_restore_22 : decode cX7_restore 22 = .ok (.aload_n 0, 1) := by decide +kernel
theorem dX7_restore_23 : decode cX7_restore 23 = .ok (.getfield 12, 3) := by decide +kernel
theorem dX7_restore_26 : decode cX7_restore 26 = .ok (.aload_n 0, 1) := by decide +kernel
theorem dX7_restore_27 : decode cX7_restore 27 = .ok (.getfield 32, 3) := by decide +kernel
theorem dX7_restore_30 : decode cX7_restore 30 = .ok (.invokevirtual 138, 3) := by decide +kernel
theorem dX7_restore_33 : decode cX7_restore 33 = .ok (.aload_n 0, 1) := by decide +kernel
theorem dX7_restore_34 : decode cX7_restore 34 = .ok (.getfield 21, 3) := by decide +kernel
theorem dX7_restore_37 : decode cX7_restore 37 = .ok (.invokevirtual 53, 3) := by decide +kernel
theorem dX7_restore_40 : decode cX7_restore 40 = .ok (.aload_n 0, 1) := by decide +kernel
theorem dX7_restore_41 : decode cX7_restore 41 = .ok (.getfield 12, 3) := by decide +kernel
theorem dX7_restore_44 : decode cX7_restore 44 = .ok (.invokevirtual 75, 3) := by decide +kernel
theorem dX7_restore_47 : decode cX7_restore 47 = .ok (.ireturn, 1) := by decide +kernel
theorem dX7_cell_0 : decode cX7_cell 0 = .ok (.aload_n 0, 1) := by decide +kernel
theorem dX7_cell_1 : decode cX7_cell 1 = .ok (.getfield 12, 3) := by decide +kernel
theorem dX7_cell_4 : decode cX7_cell 4 = .ok (.iload_n 1, 1) := by decide +kernel
theorem dX7_cell_5 : decode cX7_cell 5 = .ok (.iload_n 2, 1) := by decide +kernel
theorem dX7_cell_6 : decode cX7_cell 6 = .ok (.invokevirtual 84, 3) := by decide +kernel
theorem dX7_cell_9 : decode cX7_cell 9 = .ok (.ifCond .ne 7, 3) := by decide +kernel
theorem dX7_cell_12 : decode cX7_cell 12 = .ok (.sipush (-1001), 3) := by decide +kernel
theorem dX7_cell_15 : decode cX7_cell 15 = .ok (.ireturn, 1) := by decide +kernel
theorem dX7_cell_16 : decode cX7_cell 16 = .ok (.iload_n 1, 1) := by decide +kernel
theorem dX7_cell_17 : decode cX7_cell 17 = .ok (.iload_n 2, 1) := by decide +kernel
theorem dX7_cell_18 : decode cX7_cell 18 = .ok (.invokestatic 96, 3) := by decide +kernel
theorem dX7_cell_21 : decode cX7_cell 21 = .ok (.lstore 4, 2) := by decide +kernel
theorem dX7_cell_23 : decode cX7_cell 23 = .ok (.iload_n 3, 1) := by decide +kernel
theorem dX7_cell_24 : decode cX7_cell 24 = .ok (.tableswitch 136 0 6 #[44, 54, 64, 74, 87, 100, 123], 44) := by decide +kernel
theorem dX7_cell_68 : decode cX7_cell 68 = .ok (.aload_n 0, 1) := by decide +kernel
theorem dX7_cell_69 : decode cX7_cell 69 = .ok (.getfield 12, 3) := by decide +kernel
theorem dX7_cell_72 : decode cX7_cell 72 = .ok (.iload_n 1, 1) := by decide +kernel
theorem dX7_cell_73 : decode cX7_cell 73 = .ok (.iload_n 2, 1) := by decide +kernel
theorem dX7_cell_74 : decode cX7_cell 74 = .ok (.invokevirtual 141, 3) := by decide +kernel
theorem dX7_cell_77 : decode cX7_cell 77 = .ok (.ireturn, 1) := by decide +kernel
theorem dX7_cell_78 : decode cX7_cell 78 = .ok (.aload_n 0, 1) := by decide +kernel
theorem dX7_cell_79 : decode cX7_cell 79 = .ok (.getfield 12, 3) := by decide +kernel
theorem dX7_cell_82 : decode cX7_cell 82 = .ok (.iload_n 1, 1) := by decide +kernel
theorem dX7_cell_83 : decode cX7_cell 83 = .ok (.iload_n 2, 1) := by decide +kernel
theorem dX7_cell_84 : decode cX7_cell 84 = .ok (.invokevirtual 88, 3) := by decide +kernel
theorem dX7_cell_87 : decode cX7_cell 87 = .ok (.ireturn, 1) := by decide +kernel
theorem dX7_cell_88 : decode cX7_cell 88 = .ok (.aload_n 0, 1) := by decide +kernel
theorem dX7_cell_89 : decode cX7_cell 89 = .ok (.getfield 12, 3) := by decide +kernel
theorem dX7_cell_92 : decode cX7_cell 92 = .ok (.iload_n 1, 1) := by decide +kernel
theorem dX7_cell_93 : decode cX7_cell 93 = .ok (.iload_n 2, 1) := by decide +kernel
theorem dX7_cell_94 : decode cX7_cell 94 = .ok (.invokevirtual 144, 3) := by decide +kernel
theorem dX7_cell_97 : decode cX7_cell 97 = .ok (.ireturn, 1) := by decide +kernel
theorem dX7_cell_98 : decode cX7_cell 98 = .ok (.aload_n 0, 1) := by decide +kernel
theorem dX7_cell_99 : decode cX7_cell 99 = .ok (.getfield 12, 3) := by decide +kernel
theorem dX7_cell_102 : decode cX7_cell 102 = .ok (.iload_n 1, 1) := by decide +kernel
theorem dX7_cell_103 : decode cX7_cell 103 = .ok (.iload_n 2, 1) := by decide +kernel
theorem dX7_cell_104 : decode cX7_cell 104 = .ok (.invokevirtual 144, 3) := by decide +kernel
theorem dX7_cell_107 : decode cX7_cell 107 = .ok (.invokestatic 147, 3) := by decide +kernel
theorem dX7_cell_110 : decode cX7_cell 110 = .ok (.ireturn, 1) := by decide +kernel
theorem dX7_cell_111 : decode cX7_cell 111 = .ok (.aload_n 0, 1) := by decide +kernel
theorem dX7_cell_112 : decode cX7_cell 112 = .ok (.getfield 12, 3) := by decide +kernel
theorem dX7_cell_115 : decode cX7_cell 115 = .ok (.lload 4, 2) := by decide +kernel
theorem dX7_cell_117 : decode cX7_cell 117 = .ok (.invokevirtual 151, 3) := by decide +kernel
theorem dX7_cell_120 : decode cX7_cell 120 = .ok (.invokestatic 108, 3) := by decide +kernel
theorem dX7_cell_123 : decode cX7_cell 123 = .ok (.ireturn, 1) := by decide +kernel
theorem dX7_cell_124 : decode cX7_cell 124 = .ok (.aload_n 0, 1) := by decide +kernel
theorem dX7_cell_125 : decode cX7_cell 125 = .ok (.getfield 12, 3) := by decide +kernel
theorem dX7_cell_128 : decode cX7_cell 128 = .ok (.lload 4, 2) := by decide +kernel
theorem dX7_cell_130 : decode cX7_cell 130 = .ok (.invokevirtual 151, 3) := by decide +kernel
theorem dX7_cell_133 : decode cX7_cell 133 = .ok (.aload_n 0, 1) := by decide +kernel
theorem dX7_cell_134 : decode cX7_cell 134 = .ok (.getfield 12, 3) := by decide +kernel
theorem dX7_cell_137 : decode cX7_cell 137 = .ok (.lload 4, 2) := by decide +kernel
theorem dX7_cell_139 : decode cX7_cell 139 = .ok (.invokevirtual 154, 3) := by decide +kernel
theorem dX7_cell_142 : decode cX7_cell 142 = .ok (.land, 1) := by decide +kernel
theorem dX7_cell_143 : decode cX7_cell 143 = .ok (.invokestatic 108, 3) := by decide +kernel
theorem dX7_cell_146 : decode cX7_cell 146 = .ok (.ireturn, 1) := by decide +kernel
theorem dX7_cell_147 : decode cX7_cell 147 = .ok (.aload_n 0, 1) := by decide +kernel
theorem dX7_cell_148 : decode cX7_cell 148 = .ok (.getfield 12, 3) := by decide +kernel
theorem dX7_cell_151 : decode cX7_cell 151 = .ok (.lload 4, 2) := by decide +kernel
theorem dX7_cell_153 : decode cX7_cell 153 = .ok (.invokevirtual 104, 3) := by decide +kernel
theorem dX7_cell_156 : decode cX7_cell 156 = .ok (.invokestatic 108, 3) := by decide +kernel
theorem dX7_cell_159 : decode cX7_cell 159 = .ok (.ireturn, 1) := by decide +kernel
theorem dX7_cell_160 : decode cX7_cell 160 = .ok (.sipush (-1002), 3) := by decide +kernel
theorem dX7_cell_163 : decode cX7_cell 163 = .ok (.ireturn, 1) := by decide +kernel
theorem dX7_column_0 : decode cX7_column 0 = .ok (.aload_n 0, 1) := by decide +kernel
theorem dX7_column_1 : decode cX7_column 1 = .ok (.getfield 12, 3) := by decide +kernel
theorem dX7_column_4 : decode cX7_column 4 = .ok (.iconst 0, 1) := by decide +kernel
theorem dX7_column_5 : decode cX7_column 5 = .ok (.iload_n 1, 1) := by decide +kernel
theorem dX7_column_6 : decode cX7_column 6 = .ok (.invokevirtual 84, 3) := by decide +kernel
theorem dX7_column_9 : decode cX7_column 9 = .ok (.ifCond .eq 14, 3) := by decide +kernel
theorem dX7_column_12 : decode cX7_column 12 = .ok (.aload_n 0, 1) := by decide +kernel
theorem dX7_column_13 : decode cX7_column 13 = .ok (.getfield 12, 3) := by decide +kernel
theorem dX7_column_16 : decode cX7_column 16 = .ok (.iload_n 1, 1) := by decide +kernel
theorem dX7_column_17 : decode cX7_column 17 = .ok (.invokevirtual 157, 3) := by decide +kernel
theorem dX7_column_20 : decode cX7_column 20 = .ok (.goto 6, 3) := by decide +kernel
theorem dX7_column_23 : decode cX7_column 23 = .ok (.sipush (-1001), 3) := by decide +kernel
theorem dX7_column_26 : decode cX7_column 26 = .ok (.ireturn, 1) := by decide +kernel
theorem dX7_withEnergy_0 : decode cX7_withEnergy 0 = .ok (.aload_n 0, 1) := by decide +kernel
theorem dX7_withEnergy_1 : decode cX7_withEnergy 1 = .ok (.getfield 21, 3) := by decide +kernel
theorem dX7_withEnergy_4 : decode cX7_withEnergy 4 = .ok (.iload_n 1, 1) := by decide +kernel
theorem dX7_withEnergy_5 : decode cX7_withEnergy 5 = .ok (.invokevirtual 160, 3) := by decide +kernel
theorem dX7_withEnergy_8 : decode cX7_withEnergy 8 = .ok (.ireturn, 1) := by decide +kernel
theorem dX7_withWalls_0 : decode cX7_withWalls 0 = .ok (.aload_n 0, 1) := by decide +kernel
theorem dX7_withWalls_1 : decode cX7_withWalls 1 = .ok (.getfield 21, 3) := by decide +kernel
theorem dX7_withWalls_4 : decode cX7_withWalls 4 = .ok (.iload_n 1, 1) := by decide +kernel
theorem dX7_withWalls_5 : decode cX7_withWalls 5 = .ok (.invokevirtual 163, 3) := by decide +kernel
theorem dX7_withWalls_8 : decode cX7_withWalls 8 = .ok (.ireturn, 1) := by decide +kernel
theorem dX7_withUps_0 : decode cX7_withUps 0 = .ok (.iload_n 2, 1) := by decide +kernel
theorem dX7_withUps_1 : decode cX7_withUps 1 = .ok (.ifCond .eq 14, 3) := by decide +kernel
theorem dX7_withUps_4 : decode cX7_withUps 4 = .ok (.aload_n 0, 1) := by decide +kernel
theorem dX7_withUps_5 : decode cX7_withUps 5 = .ok (.getfield 21, 3) := by decide +kernel
theorem dX7_withUps_8 : decode cX7_withUps 8 = .ok (.iload_n 1, 1) := by decide +kernel
theorem dX7_withUps_9 : decode cX7_withUps 9 = .ok (.invokevirtual 166, 3) := by decide +kernel
theorem dX7_withUps_12 : decode cX7_withUps 12 = .ok (.goto 11, 3) := by decide +kernel
theorem dX7_withUps_15 : decode cX7_withUps 15 = .ok (.aload_n 0, 1) := by decide +kernel
theorem dX7_withUps_16 : decode cX7_withUps 16 = .ok (.getfield 21, 3) := by decide +kernel
theorem dX7_withUps_19 : decode cX7_withUps 19 = .ok (.iload_n 1, 1) := by decide +kernel
theorem dX7_withUps_20 : decode cX7_withUps 20 = .ok (.invokevirtual 169, 3) := by decide +kernel
theorem dX7_withUps_23 : decode cX7_withUps 23 = .ok (.ireturn, 1) := by decide +kernel
theorem dX7_heat_0 : decode cX7_heat 0 = .ok (.iload_n 1, 1) := by decide +kernel
theorem dX7_heat_1 : decode cX7_heat 1 = .ok (.bipush 50, 2) := by decide +kernel
theorem dX7_heat_3 : decode cX7_heat 3 = .ok (.if_icmp .lt 9, 3) := by decide +kernel
theorem dX7_heat_6 : decode cX7_heat 6 = .ok (.iload_n 1, 1) := by decide +kernel
theorem dX7_heat_7 : decode cX7_heat 7 = .ok (.bipush 100, 2) := by decide +kernel
theorem dX7_heat_9 : decode cX7_heat 9 = .ok (.if_icmp .le 5, 3) := by decide +kernel
theorem dX7_heat_12 : decode cX7_heat 12 = .ok (.iconst 0, 1) := by decide +kernel
theorem dX7_heat_13 : decode cX7_heat 13 = .ok (.ireturn, 1) := by decide +kernel
theorem dX7_heat_14 : decode cX7_heat 14 = .ok (.iload_n 1, 1) := by decide +kernel
theorem dX7_heat_15 : decode cX7_heat 15 = .ok (.i2f, 1) := by decide +kernel
theorem dX7_heat_16 : decode cX7_heat 16 = .ok (.ldc 172, 2) := by decide +kernel
theorem dX7_heat_18 : decode cX7_heat 18 = .ok (.fdiv, 1) := by decide +kernel
theorem dX7_heat_19 : decode cX7_heat 19 = .ok (.fstore_n 3, 1) := by decide +kernel
theorem dX7_heat_20 : decode cX7_heat 20 = .ok (.aload_n 0, 1) := by decide +kernel
theorem dX7_heat_21 : decode cX7_heat 21 = .ok (.getfield 21, 3) := by decide +kernel
theorem dX7_heat_24 : decode cX7_heat 24 = .ok (.fload_n 3, 1) := by decide +kernel
theorem dX7_heat_25 : decode cX7_heat 25 = .ok (.iconst 0, 1) := by decide +kernel
theorem dX7_heat_26 : decode cX7_heat 26 = .ok (.invokevirtual 173, 3) := by decide +kernel
theorem dX7_heat_29 : decode cX7_heat 29 = .ok (.fstore 4, 2) := by decide +kernel
theorem dX7_heat_31 : decode cX7_heat 31 = .ok (.iload_n 2, 1) := by decide +kernel
theorem dX7_heat_32 : decode cX7_heat 32 = .ok (.ifCond .ne 9, 3) := by decide +kernel
theorem dX7_heat_35 : decode cX7_heat 35 = .ok (.fload 4, 2) := by decide +kernel
theorem dX7_heat_37 : decode cX7_heat 37 = .ok (.invokestatic 177, 3) := by decide +kernel
theorem dX7_heat_40 : decode cX7_heat 40 = .ok (.ireturn, 1) := by decide +kernel
theorem dX7_heat_41 : decode cX7_heat 41 = .ok (.fload 4, 2) := by decide +kernel
theorem dX7_heat_43 : decode cX7_heat 43 = .ok (.fconst 0, 1) := by decide +kernel
theorem dX7_heat_44 : decode cX7_heat 44 = .ok (.fcmp .l, 1) := by decide +kernel
theorem dX7_heat_45 : decode cX7_heat 45 = .ok (.ifCond .le 21, 3) := by decide +kernel
theorem dX7_heat_48 : decode cX7_heat 48 = .ok (.aload_n 0, 1) := by decide +kernel
theorem dX7_heat_49 : decode cX7_heat 49 = .ok (.getfield 21, 3) := by decide +kernel
theorem dX7_heat_52 : decode cX7_heat 52 = .ok (.fload_n 3, 1) := by decide +kernel
theorem dX7_heat_53 : decode cX7_heat 53 = .ok (.iconst 1, 1) := by decide +kernel
theorem dX7_heat_54 : decode cX7_heat 54 = .ok (.invokevirtual 173, 3) := by decide +kernel
theorem dX7_heat_57 : decode cX7_heat 57 = .ok (.fload 4, 2) := by decide +kernel
theorem dX7_heat_59 : decode cX7_heat 59 = .ok (.fdiv, 1) := by decide +kernel
theorem dX7_heat_60 : decode cX7_heat 60 = .ok (.invokestatic 177, 3) := by decide +kernel
theorem dX7_heat_63 : decode cX7_heat 63 = .ok (.goto 4, 3) := by decide +kernel
theorem dX7_heat_66 : decode cX7_heat 66 = .ok (.iconst 0, 1) := by decide +kernel
theorem dX7_heat_67 : decode cX7_heat 67 = .ok (.ireturn, 1) := by decide +kernel
theorem dX7_count_0 : decode cX7_count 0 = .ok (.iload_n 1, 1) := by decide +kernel
theorem dX7_count_1 : decode cX7_count 1 = .ok (.tableswitch 237 0 16 #[83, 91, 99, 115, 123, 131, 142, 150, 158, 166, 174, 189, 197, 205, 213, 221, 229], 83) := by decide +kernel
theorem dX7_count_84 : decode cX7_count 84 = .ok (.aload_n 0, 1) := by decide +kernel
theorem dX7_count_85 : decode cX7_count 85 = .ok (.getfield 12, 3) := by decide +kernel
theorem dX7_count_88 : decode cX7_count 88 = .ok (.getfield 181, 3) := by decide +kernel
theorem dX7_count_91 : decode cX7_count 91 = .ok (.ireturn, 1) := by decide +kernel
theorem dX7_count_92 : decode cX7_count 92 = .ok (.aload_n 0, 1) := by decide +kernel
theorem dX7_count_93 : decode cX7_count 93 = .ok (.getfield 12, 3) := by decide +kernel
theorem dX7_count_96 : decode cX7_count 96 = .ok (.getfield 182, 3) := by decide +kernel
theorem dX7_count_99 : decode cX7_count 99 = .ok (.ireturn, 1) := by decide +kernel
theorem dX7_count_100 : decode cX7_count 100 = .ok (.aload_n 0, 1) := by decide +kernel
theorem dX7_count_101 : decode cX7_count 101 = .ok (.getfield 12, 3) := by decide +kernel
theorem dX7_count_104 : decode cX7_count 104 = .ok (.getfield 67, 3) := by decide +kernel
theorem dX7_count_107 : decode cX7_count 107 = .ok (.ifCond .eq 7, 3) := by decide +kernel
theorem dX7_count_110 : decode cX7_count 110 = .ok (.iconst 1, 1) := by decide +kernel
theorem dX7_count_111 : decode cX7_count 111 = .ok (.goto 4, 3) := by decide +kernel
theorem dX7_count_114 : decode cX7_count 114 = .ok (.iconst 0, 1) := by decide +kernel
theorem dX7_count_115 : decode cX7_count 115 = .ok (.ireturn, 1) := by decide +kernel
theorem dX7_count_116 : decode cX7_count 116 = .ok (.aload_n 0, 1) := by decide +kernel
theorem dX7_count_117 : decode cX7_count 117 = .ok (.getfield 12, 3) := by decide +kernel
theorem dX7_count_120 : decode cX7_count 120 = .ok (.invokevirtual 75, 3) := by decide +kernel
theorem dX7_count_123 : decode cX7_count 123 = .ok (.ireturn, 1) := by decide +kernel
theorem dX7_count_124 : decode cX7_count 124 = .ok (.aload_n 0, 1) := by decide +kernel
theorem dX7_count_125 : decode cX7_count 125 = .ok (.getfield 12, 3) := by decide +kernel
theorem dX7_count_128 : decode cX7_count 128 = .ok (.invokevirtual 183, 3) := by decide +kernel
theorem dX7_count_131 : decode cX7_count 131 = .ok (.ireturn, 1) := by decide +kernel
theorem dX7_count_132 : decode cX7_count 132 = .ok (.aload_n 0, 1) := by decide +kernel
theorem dX7_count_133 : decode cX7_count 133 = .ok (.getfield 12, 3) := by decide +kernel
theorem dX7_count_136 : decode cX7_count 136 = .ok (.getfield 74, 3) := by decide +kernel
theorem dX7_count_139 : decode cX7_count 139 = .ok (.invokestatic 108, 3) := by decide +kernel
theorem dX7_count_142 : decode cX7_count 142 = .ok (.ireturn, 1) := by decide +kernel
theorem dX7_count_143 : decode cX7_count 143 = .ok (.aload_n 0, 1) := by decide +kernel
theorem dX7_count_144 : decode cX7_count 144 = .ok (.getfield 12, 3) := by decide +kernel
theorem dX7_count_147 : decode cX7_count 147 = .ok (.getfield 81, 3) := by decide +kernel
theorem dX7_count_150 : decode cX7_count 150 = .ok (.ireturn, 1) := by decide +kernel
theorem dX7_count_151 : decode cX7_count 151 = .ok (.aload_n 0, 1) := by decide +kernel
theorem dX7_count_152 : decode cX7_count 152 = .ok (.getfield 12, 3) := by decide +kernel
theorem dX7_count_155 : decode cX7_count 155 = .ok (.getfield 78, 3) := by decide +kernel
theorem dX7_count_158 : decode cX7_count 158 = .ok (.ireturn, 1) := by decide +kernel
theorem dX7_count_159 : decode cX7_count 159 = .ok (.aload_n 0, 1) := by decide +kernel
theorem dX7_count_160 : decode cX7_count 160 = .ok (.getfield 21, 3) := by decide +kernel
theorem dX7_count_163 : decode cX7_count 163 = .ok (.invokevirtual 186, 3) := by decide +kernel
theorem dX7_count_166 : decode cX7_count 166 = .ok (.ireturn, 1) := by decide +kernel
theorem dX7_count_167 : decode cX7_count 167 = .ok (.aload_n 0, 1) := by decide +kernel
theorem dX7_count_168 : decode cX7_count 168 = .ok (.getfield 21, 3) := by decide +kernel
theorem dX7_count_171 : decode cX7_count 171 = .ok (.invokevirtual 189, 3) := by decide +kernel
theorem dX7_count_174 : decode cX7_count 174 = .ok (.ireturn, 1) := by decide +kernel
theorem dX7_count_175 : decode cX7_count 175 = .ok (.aload_n 0, 1) := by decide +kernel
theorem dX7_count_176 : decode cX7_count 176 = .ok (.getfield 21, 3) := by decide +kernel
theorem dX7_count_179 : decode cX7_count 179 = .ok (.aload_n 0, 1) := by decide +kernel
theorem dX7_count_180 : decode cX7_count 180 = .ok (.getfield 21, 3) := by decide +kernel
theorem dX7_count_183 : decode cX7_count 183 = .ok (.invokevirtual 186, 3) := by decide +kernel
theorem dX7_count_186 : decode cX7_count 186 = .ok (.invokevirtual 160, 3) := by decide +kernel
theorem dX7_count_189 : decode cX7_count 189 = .ok (.ireturn, 1) := by decide +kernel
theorem dX7_count_190 : decode cX7_count 190 = .ok (.aload_n 0, 1) := by decide +kernel
theorem dX7_count_191 : decode cX7_count 191 = .ok (.getfield 12, 3) := by decide +kernel
theorem dX7_count_194 : decode cX7_count 194 = .ok (.invokevirtual 192, 3) := by decide +kernel
theorem dX7_count_197 : decode cX7_count 197 = .ok (.ireturn, 1) := by decide +kernel
theorem dX7_count_198 : decode cX7_count 198 = .ok (.aload_n 0, 1) := by decide +kernel
theorem dX7_count_199 : decode cX7_count 199 = .ok (.getfield 12, 3) := by decide +kernel
theorem dX7_count_202 : decode cX7_count 202 = .ok (.invokevirtual 114, 3) := by decide +kernel
theorem dX7_count_205 : decode cX7_count 205 = .ok (.ireturn, 1) := by decide +kernel
theorem dX7_count_206 : decode cX7_count 206 = .ok (.aload_n 0, 1) := by decide +kernel
theorem dX7_count_207 : decode cX7_count 207 = .ok (.getfield 12, 3) := by decide +kernel
theorem dX7_count_210 : decode cX7_count 210 = .ok (.getfield 195, 3) := by decide +kernel
theorem dX7_count_213 : decode cX7_count 213 = .ok (.ireturn, 1) := by decide +kernel
theorem dX7_count_214 : decode cX7_count 214 = .ok (.aload_n 0, 1) := by decide +kernel
theorem dX7_count_215 : decode cX7_count 215 = .ok (.getfield 12, 3) := by decide +kernel
theorem dX7_count_218 : decode cX7_count 218 = .ok (.invokevirtual 198, 3) := by decide +kernel
theorem dX7_count_221 : decode cX7_count 221 = .ok (.ireturn, 1) := by decide +kernel
theorem dX7_count_222 : decode cX7_count 222 = .ok (.aload_n 0, 1) := by decide +kernel
theorem dX7_count_223 : decode cX7_count 223 = .ok (.getfield 28, 3) := by decide +kernel
theorem dX7_count_226 : decode cX7_count 226 = .ok (.getfield 135, 3) := by decide +kernel
theorem dX7_count_229 : decode cX7_count 229 = .ok (.ireturn, 1) := by decide +kernel
theorem dX7_count_230 : decode cX7_count 230 = .ok (.aload_n 0, 1) := by decide +kernel
theorem dX7_count_231 : decode cX7_count 231 = .ok (.getfield 42, 3) := by decide +kernel
theorem dX7_count_234 : decode cX7_count 234 = .ok (.getfield 128, 3) := by decide +kernel
theorem dX7_count_237 : decode cX7_count 237 = .ok (.ireturn, 1) := by decide +kernel
theorem dX7_count_238 : decode cX7_count 238 = .ok (.sipush (-1002), 3) := by decide +kernel
theorem dX7_count_241 : decode cX7_count 241 = .ok (.ireturn, 1) := by decide +kernel
theorem dX7_reason_0 : decode cX7_reason 0 = .ok (.iload_n 0, 1) := by decide +kernel
theorem dX7_reason_1 : decode cX7_reason 1 = .ok (.ifCond .ne 5, 3) := by decide +kernel
theorem dX7_reason_4 : decode cX7_reason 4 = .ok (.iconst 1, 1) := by decide +kernel
theorem dX7_reason_5 : decode cX7_reason 5 = .ok (.ireturn, 1) := by decide +kernel
theorem dX7_reason_6 : decode cX7_reason 6 = .ok (.iload_n 0, 1) := by decide +kernel
theorem dX7_reason_7 : decode cX7_reason 7 = .ok (.ifCond .ge 7, 3) := by decide +kernel
theorem dX7_reason_10 : decode cX7_reason 10 = .ok (.iconst 2, 1) := by decide +kernel
theorem dX7_reason_11 : decode cX7_reason 11 = .ok (.goto 4, 3) := by decide +kernel
theorem dX7_reason_14 : decode cX7_reason 14 = .ok (.iconst 0, 1) := by decide +kernel
theorem dX7_reason_15 : decode cX7_reason 15 = .ok (.ireturn, 1) := by decide +kernel
theorem dX7_bitsOf_0 : decode cX7_bitsOf 0 = .ok (.fload_n 0, 1) := by decide +kernel
theorem dX7_bitsOf_1 : decode cX7_bitsOf 1 = .ok (.fconst 0, 1) := by decide +kernel
theorem dX7_bitsOf_2 : decode cX7_bitsOf 2 = .ok (.fcmp .l, 1) := by decide +kernel
theorem dX7_bitsOf_3 : decode cX7_bitsOf 3 = .ok (.ifCond .ne 5, 3) := by decide +kernel
theorem dX7_bitsOf_6 : decode cX7_bitsOf 6 = .ok (.iconst 0, 1) := by decide +kernel
theorem dX7_bitsOf_7 : decode cX7_bitsOf 7 = .ok (.ireturn, 1) := by decide +kernel
theorem dX7_bitsOf_8 : decode cX7_bitsOf 8 = .ok (.fload_n 0, 1) := by decide +kernel
theorem dX7_bitsOf_9 : decode cX7_bitsOf 9 = .ok (.fconst 0, 1) := by decide +kernel
theorem dX7_bitsOf_10 : decode cX7_bitsOf 10 = .ok (.fcmp .g, 1) := by decide +kernel
theorem dX7_bitsOf_11 : decode cX7_bitsOf 11 = .ok (.ifCond .ge 8, 3) := by decide +kernel
theorem dX7_bitsOf_14 : decode cX7_bitsOf 14 = .ok (.fload_n 0, 1) := by decide +kernel
theorem dX7_bitsOf_15 : decode cX7_bitsOf 15 = .ok (.fneg, 1) := by decide +kernel
theorem dX7_bitsOf_16 : decode cX7_bitsOf 16 = .ok (.goto 4, 3) := by decide +kernel
theorem dX7_bitsOf_19 : decode cX7_bitsOf 19 = .ok (.fload_n 0, 1) := by decide +kernel
theorem dX7_bitsOf_20 : decode cX7_bitsOf 20 = .ok (.fstore_n 1, 1) := by decide +kernel
theorem dX7_bitsOf_21 : decode cX7_bitsOf 21 = .ok (.bipush 127, 2) := by decide +kernel
theorem dX7_bitsOf_23 : decode cX7_bitsOf 23 = .ok (.istore_n 2, 1) := by decide +kernel
theorem dX7_bitsOf_24 : decode cX7_bitsOf 24 = .ok (.fload_n 1, 1) := by decide +kernel
theorem dX7_bitsOf_25 : decode cX7_bitsOf 25 = .ok (.fconst 2, 1) := by decide +kernel
theorem dX7_bitsOf_26 : decode cX7_bitsOf 26 = .ok (.fcmp .l, 1) := by decide +kernel
theorem dX7_bitsOf_27 : decode cX7_bitsOf 27 = .ok (.ifCond .lt 20, 3) := by decide +kernel
theorem dX7_bitsOf_30 : decode cX7_bitsOf 30 = .ok (.iload_n 2, 1) := by decide +kernel
theorem dX7_bitsOf_31 : decode cX7_bitsOf 31 = .ok (.sipush 254, 3) := by decide +kernel
theorem dX7_bitsOf_34 : decode cX7_bitsOf 34 = .ok (.if_icmp .ge 13, 3) := by decide +kernel
theorem dX7_bitsOf_37 : decode cX7_bitsOf 37 = .ok (.fload_n 1, 1) := by decide +kernel
theorem dX7_bitsOf_38 : decode cX7_bitsOf 38 = .ok (.fconst 2, 1) := by decide +kernel
theorem dX7_bitsOf_39 : decode cX7_bitsOf 39 = .ok (.fdiv, 1) := by decide +kernel
theorem dX7_bitsOf_40 : decode cX7_bitsOf 40 = .ok (.fstore_n 1, 1) := by decide +kernel
theorem dX7_bitsOf_41 : decode cX7_bitsOf 41 = .ok (.iinc 2 1, 3) := by decide +kernel
theorem dX7_bitsOf_44 : decode cX7_bitsOf 44 = .ok (.goto (-20), 3) := by decide +kernel
theorem dX7_bitsOf_47 : decode cX7_bitsOf 47 = .ok (.fload_n 1, 1) := by decide +kernel
theorem dX7_bitsOf_48 : decode cX7_bitsOf 48 = .ok (.fconst 1, 1) := by decide +kernel
theorem dX7_bitsOf_49 : decode cX7_bitsOf 49 = .ok (.fcmp .g, 1) := by decide +kernel
theorem dX7_bitsOf_50 : decode cX7_bitsOf 50 = .ok (.ifCond .ge 18, 3) := by decide +kernel
theorem dX7_bitsOf_53 : decode cX7_bitsOf 53 = .ok (.iload_n 2, 1) := by decide +kernel
theorem dX7_bitsOf_54 : decode cX7_bitsOf 54 = .ok (.iconst 1, 1) := by decide +kernel
theorem dX7_bitsOf_55 : decode cX7_bitsOf 55 = .ok (.if_icmp .le 13, 3) := by decide +kernel
theorem dX7_bitsOf_58 : decode cX7_bitsOf 58 = .ok (.fload_n 1, 1) := by decide +kernel
theorem dX7_bitsOf_59 : decode cX7_bitsOf 59 = .ok (.fconst 2, 1) := by decide +kernel
theorem dX7_bitsOf_60 : decode cX7_bitsOf 60 = .ok (.fmul, 1) := by decide +kernel
theorem dX7_bitsOf_61 : decode cX7_bitsOf 61 = .ok (.fstore_n 1, 1) := by decide +kernel
theorem dX7_bitsOf_62 : decode cX7_bitsOf 62 = .ok (.iinc 2 (-1), 3) := by decide +kernel
theorem dX7_bitsOf_65 : decode cX7_bitsOf 65 = .ok (.goto (-18), 3) := by decide +kernel
theorem dX7_bitsOf_68 : decode cX7_bitsOf 68 = .ok (.fload_n 1, 1) := by decide +kernel
theorem dX7_bitsOf_69 : decode cX7_bitsOf 69 = .ok (.fconst 1, 1) := by decide +kernel
theorem dX7_bitsOf_70 : decode cX7_bitsOf 70 = .ok (.fcmp .g, 1) := by decide +kernel
theorem dX7_bitsOf_71 : decode cX7_bitsOf 71 = .ok (.ifCond .ge 11, 3) := by decide +kernel
theorem dX7_bitsOf_74 : decode cX7_bitsOf 74 = .ok (.fload_n 1, 1) := by decide +kernel
theorem dX7_bitsOf_75 : decode cX7_bitsOf 75 = .ok (.ldc 201, 2) := by decide +kernel
theorem dX7_bitsOf_77 : decode cX7_bitsOf 77 = .ok (.fmul, 1) := by decide +kernel
theorem dX7_bitsOf_78 : decode cX7_bitsOf 78 = .ok (.f2i, 1) := by decide +kernel
theorem dX7_bitsOf_79 : decode cX7_bitsOf 79 = .ok (.goto 15, 3) := by decide +kernel
theorem dX7_bitsOf_82 : decode cX7_bitsOf 82 = .ok (.iload_n 2, 1) := by decide +kernel
theorem dX7_bitsOf_83 : decode cX7_bitsOf 83 = .ok (.ldc 202, 2) := by decide +kernel
theorem dX7_bitsOf_85 : decode cX7_bitsOf 85 = .ok (.imul, 1) := by decide +kernel
theorem dX7_bitsOf_86 : decode cX7_bitsOf 86 = .ok (.fload_n 1, 1) := by decide +kernel
theorem dX7_bitsOf_87 : decode cX7_bitsOf 87 = .ok (.fconst 1, 1) := by decide +kernel
theorem dX7_bitsOf_88 : decode cX7_bitsOf 88 = .ok (.fsub, 1) := by decide +kernel
theorem dX7_bitsOf_89 : decode cX7_bitsOf 89 = .ok (.ldc 201, 2) := by decide +kernel
theorem dX7_bitsOf_91 : decode cX7_bitsOf 91 = .ok (.fmul, 1) := by decide +kernel
theorem dX7_bitsOf_92 : decode cX7_bitsOf 92 = .ok (.f2i, 1) := by decide +kernel
theorem dX7_bitsOf_93 : decode cX7_bitsOf 93 = .ok (.iadd, 1) := by decide +kernel
theorem dX7_bitsOf_94 : decode cX7_bitsOf 94 = .ok (.istore_n 3, 1) := by decide +kernel
theorem dX7_bitsOf_95 : decode cX7_bitsOf 95 = .ok (.fload_n 0, 1) := by decide +kernel
theorem dX7_bitsOf_96 : decode cX7_bitsOf 96 = .ok (.fconst 0, 1) := by decide +kernel
theorem dX7_bitsOf_97 : decode cX7_bitsOf 97 = .ok (.fcmp .g, 1) := by decide +kernel
theorem dX7_bitsOf_98 : decode cX7_bitsOf 98 = .ok (.ifCond .ge 10, 3) := by decide +kernel
theorem dX7_bitsOf_101 : decode cX7_bitsOf 101 = .ok (.iload_n 3, 1) := by decide +kernel
theorem dX7_bitsOf_102 : decode cX7_bitsOf 102 = .ok (.ldc 203, 2) := by decide +kernel
theorem dX7_bitsOf_104 : decode cX7_bitsOf 104 = .ok (.ior, 1) := by decide +kernel
theorem dX7_bitsOf_105 : decode cX7_bitsOf 105 = .ok (.goto 4, 3) := by decide +kernel
theorem dX7_bitsOf_108 : decode cX7_bitsOf 108 = .ok (.iload_n 3, 1) := by decide +kernel
theorem dX7_bitsOf_109 : decode cX7_bitsOf 109 = .ok (.ireturn, 1) := by decide +kernel
theorem dJxf58ca_isNaN_12338_0 : decode cJxf58ca_isNaN_12338 0 = .ok (.fload_n 0, 1) := by decide +kernel
theorem dJxf58ca_isNaN_12338_1 : decode cJxf58ca_isNaN_12338 1 = .ok (.fload_n 0, 1) := by decide +kernel
theorem dJxf58ca_isNaN_12338_2 : decode cJxf58ca_isNaN_12338 2 = .ok (.fcmp .l, 1) := by decide +kernel
theorem dJxf58ca_isNaN_12338_3 : decode cJxf58ca_isNaN_12338 3 = .ok (.ifCond .eq 7, 3) := by decide +kernel
theorem dJxf58ca_isNaN_12338_6 : decode cJxf58ca_isNaN_12338 6 = .ok (.iconst 1, 1) := by decide +kernel
theorem dJxf58ca_isNaN_12338_7 : decode cJxf58ca_isNaN_12338 7 = .ok (.goto 4, 3) := by decide +kernel
theorem dJxf58ca_isNaN_12338_10 : decode cJxf58ca_isNaN_12338 10 = .ok (.iconst 0, 1) := by decide +kernel
theorem dJxf58ca_isNaN_12338_11 : decode cJxf58ca_isNaN_12338 11 = .ok (.ireturn, 1) := by decide +kernel
theorem dJxf58ca_floatToIntBits_5c35a_0 : decode cJxf58ca_floatToIntBits_5c35a 0 = .ok (.fload_n 0, 1) := by decide +kernel
theorem dJxf58ca_floatToIntBits_5c35a_1 : decode cJxf58ca_floatToIntBits_5c35a 1 = .ok (.invokestatic 59, 3) := by decide +kernel
theorem dJxf58ca_floatToIntBits_5c35a_4 : decode cJxf58ca_floatToIntBits_5c35a 4 = .ok (.ifCond .ne 8, 3) := by decide +kernel
theorem dJxf58ca_floatToIntBits_5c35a_7 : decode cJxf58ca_floatToIntBits_5c35a 7 = .ok (.fload_n 0, 1) := by decide +kernel
theorem dJxf58ca_floatToIntBits_5c35a_8 : decode cJxf58ca_floatToIntBits_5c35a 8 = .ok (.invokestatic 74, 3) := by decide +kernel
theorem dJxf58ca_floatToIntBits_5c35a_11 : decode cJxf58ca_floatToIntBits_5c35a 11 = .ok (.ireturn, 1) := by decide +kernel
theorem dJxf58ca_floatToIntBits_5c35a_12 : decode cJxf58ca_floatToIntBits_5c35a 12 = .ok (.ldc 77, 2) := by decide +kernel
theorem dJxf58ca_floatToIntBits_5c35a_14 : decode cJxf58ca_floatToIntBits_5c35a 14 = .ok (.ireturn, 1) := by decide +kernel
theorem dJ6_bitCount_0f7a4_0 : decode cJ6_bitCount_0f7a4 0 = .ok (.iload_n 0, 1) := by decide +kernel
theorem dJ6_bitCount_0f7a4_1 : decode cJ6_bitCount_0f7a4 1 = .ok (.iload_n 0, 1) := by decide +kernel
theorem dJ6_bitCount_0f7a4_2 : decode cJ6_bitCount_0f7a4 2 = .ok (.iconst 1, 1) := by decide +kernel
theorem dJ6_bitCount_0f7a4_3 : decode cJ6_bitCount_0f7a4 3 = .ok (.iushr, 1) := by decide +kernel
theorem dJ6_bitCount_0f7a4_4 : decode cJ6_bitCount_0f7a4 4 = .ok (.ldc_w 265, 3) := by decide +kernel
theorem dJ6_bitCount_0f7a4_7 : decode cJ6_bitCount_0f7a4 7 = .ok (.iand, 1) := by decide +kernel
theorem dJ6_bitCount_0f7a4_8 : decode cJ6_bitCount_0f7a4 8 = .ok (.isub, 1) := by decide +kernel
theorem dJ6_bitCount_0f7a4_9 : decode cJ6_bitCount_0f7a4 9 = .ok (.istore_n 0, 1) := by decide +kernel
theorem dJ6_bitCount_0f7a4_10 : decode cJ6_bitCount_0f7a4 10 = .ok (.iload_n 0, 1) := by decide +kernel
theorem dJ6_bitCount_0f7a4_11 : decode cJ6_bitCount_0f7a4 11 = .ok (.ldc_w 266, 3) := by decide +kernel
theorem dJ6_bitCount_0f7a4_14 : decode cJ6_bitCount_0f7a4 14 = .ok (.iand, 1) := by decide +kernel
theorem dJ6_bitCount_0f7a4_15 : decode cJ6_bitCount_0f7a4 15 = .ok (.iload_n 0, 1) := by decide +kernel
theorem dJ6_bitCount_0f7a4_16 : decode cJ6_bitCount_0f7a4 16 = .ok (.iconst 2, 1) := by decide +kernel
theorem dJ6_bitCount_0f7a4_17 : decode cJ6_bitCount_0f7a4 17 = .ok (.iushr, 1) := by decide +kernel
theorem dJ6_bitCount_0f7a4_18 : decode cJ6_bitCount_0f7a4 18 = .ok (.ldc_w 266, 3) := by decide +kernel
theorem dJ6_bitCount_0f7a4_21 : decode cJ6_bitCount_0f7a4 21 = .ok (.iand, 1) := by decide +kernel
theorem dJ6_bitCount_0f7a4_22 : decode cJ6_bitCount_0f7a4 22 = .ok (.iadd, 1) := by decide +kernel
theorem dJ6_bitCount_0f7a4_23 : decode cJ6_bitCount_0f7a4 23 = .ok (.istore_n 0, 1) := by decide +kernel
theorem dJ6_bitCount_0f7a4_24 : decode cJ6_bitCount_0f7a4 24 = .ok (.iload_n 0, 1) := by decide +kernel
theorem dJ6_bitCount_0f7a4_25 : decode cJ6_bitCount_0f7a4 25 = .ok (.iload_n 0, 1) := by decide +kernel
theorem dJ6_bitCount_0f7a4_26 : decode cJ6_bitCount_0f7a4 26 = .ok (.iconst 4, 1) := by decide +kernel
theorem dJ6_bitCount_0f7a4_27 : decode cJ6_bitCount_0f7a4 27 = .ok (.iushr, 1) := by decide +kernel
theorem dJ6_bitCount_0f7a4_28 : decode cJ6_bitCount_0f7a4 28 = .ok (.iadd, 1) := by decide +kernel
theorem dJ6_bitCount_0f7a4_29 : decode cJ6_bitCount_0f7a4 29 = .ok (.ldc_w 267, 3) := by decide +kernel
theorem dJ6_bitCount_0f7a4_32 : decode cJ6_bitCount_0f7a4 32 = .ok (.iand, 1) := by decide +kernel
theorem dJ6_bitCount_0f7a4_33 : decode cJ6_bitCount_0f7a4 33 = .ok (.istore_n 0, 1) := by decide +kernel
theorem dJ6_bitCount_0f7a4_34 : decode cJ6_bitCount_0f7a4 34 = .ok (.iload_n 0, 1) := by decide +kernel
theorem dJ6_bitCount_0f7a4_35 : decode cJ6_bitCount_0f7a4 35 = .ok (.iload_n 0, 1) := by decide +kernel
theorem dJ6_bitCount_0f7a4_36 : decode cJ6_bitCount_0f7a4 36 = .ok (.bipush 8, 2) := by decide +kernel
theorem dJ6_bitCount_0f7a4_38 : decode cJ6_bitCount_0f7a4 38 = .ok (.iushr, 1) := by decide +kernel
theorem dJ6_bitCount_0f7a4_39 : decode cJ6_bitCount_0f7a4 39 = .ok (.iadd, 1) := by decide +kernel
theorem dJ6_bitCount_0f7a4_40 : decode cJ6_bitCount_0f7a4 40 = .ok (.istore_n 0, 1) := by decide +kernel
theorem dJ6_bitCount_0f7a4_41 : decode cJ6_bitCount_0f7a4 41 = .ok (.iload_n 0, 1) := by decide +kernel
theorem dJ6_bitCount_0f7a4_42 : decode cJ6_bitCount_0f7a4 42 = .ok (.iload_n 0, 1) := by decide +kernel
theorem dJ6_bitCount_0f7a4_43 : decode cJ6_bitCount_0f7a4 43 = .ok (.bipush 16, 2) := by decide +kernel
theorem dJ6_bitCount_0f7a4_45 : decode cJ6_bitCount_0f7a4 45 = .ok (.iushr, 1) := by decide +kernel
theorem dJ6_bitCount_0f7a4_46 : decode cJ6_bitCount_0f7a4 46 = .ok (.iadd, 1) := by decide +kernel
theorem dJ6_bitCount_0f7a4_47 : decode cJ6_bitCount_0f7a4 47 = .ok (.istore_n 0, 1) := by decide +kernel
theorem dJ6_bitCount_0f7a4_48 : decode cJ6_bitCount_0f7a4 48 = .ok (.iload_n 0, 1) := by decide +kernel
theorem dJ6_bitCount_0f7a4_49 : decode cJ6_bitCount_0f7a4 49 = .ok (.bipush 63, 2) := by decide +kernel
theorem dJ6_bitCount_0f7a4_51 : decode cJ6_bitCount_0f7a4 51 = .ok (.iand, 1) := by decide +kernel
theorem dJ6_bitCount_0f7a4_52 : decode cJ6_bitCount_0f7a4 52 = .ok (.ireturn, 1) := by decide +kernel
theorem dJ13_bitCount_95d88_0 : decode cJ13_bitCount_95d88 0 = .ok (.lload_n 0, 1) := by decide +kernel
theorem dJ13_bitCount_95d88_1 : decode cJ13_bitCount_95d88 1 = .ok (.lload_n 0, 1) := by decide +kernel
theorem dJ13_bitCount_95d88_2 : decode cJ13_bitCount_95d88 2 = .ok (.iconst 1, 1) := by decide +kernel
theorem dJ13_bitCount_95d88_3 : decode cJ13_bitCount_95d88 3 = .ok (.lushr, 1) := by decide +kernel
theorem dJ13_bitCount_95d88_4 : decode cJ13_bitCount_95d88 4 = .ok (.ldc2_w 314, 3) := by decide +kernel
theorem dJ13_bitCount_95d88_7 : decode cJ13_bitCount_95d88 7 = .ok (.land, 1) := by decide +kernel
theorem dJ13_bitCount_95d88_8 : decode cJ13_bitCount_95d88 8 = .ok (.lsub, 1) := by decide +kernel
theorem dJ13_bitCount_95d88_9 : decode cJ13_bitCount_95d88 9 = .ok (.lstore_n 0, 1) := by decide +kernel
theorem dJ13_bitCount_95d88_10 : decode cJ13_bitCount_95d88 10 = .ok (.lload_n 0, 1) := by decide +kernel
theorem dJ13_bitCount_95d88_11 : decode cJ13_bitCount_95d88 11 = .ok (.ldc2_w 316, 3) := by decide +kernel
theorem dJ13_bitCount_95d88_14 : decode cJ13_bitCount_95d88 14 = .ok (.land, 1) := by decide +kernel
theorem dJ13_bitCount_95d88_15 : decode cJ13_bitCount_95d88 15 = .ok (.lload_n 0, 1) := by decide +kernel
theorem dJ13_bitCount_95d88_16 : decode cJ13_bitCount_95d88 16 = .ok (.iconst 2, 1) := by decide +kernel
theorem dJ13_bitCount_95d88_17 : decode cJ13_bitCount_95d88 17 = .ok (.lushr, 1) := by decide +kernel
theorem dJ13_bitCount_95d88_18 : decode cJ13_bitCount_95d88 18 = .ok (.ldc2_w 316, 3) := by decide +kernel
theorem dJ13_bitCount_95d88_21 : decode cJ13_bitCount_95d88 21 = .ok (.land, 1) := by decide +kernel
theorem dJ13_bitCount_95d88_22 : decode cJ13_bitCount_95d88 22 = .ok (.ladd, 1) := by decide +kernel
theorem dJ13_bitCount_95d88_23 : decode cJ13_bitCount_95d88 23 = .ok (.lstore_n 0, 1) := by decide +kernel
theorem dJ13_bitCount_95d88_24 : decode cJ13_bitCount_95d88 24 = .ok (.lload_n 0, 1) := by decide +kernel
theorem dJ13_bitCount_95d88_25 : decode cJ13_bitCount_95d88 25 = .ok (.lload_n 0, 1) := by decide +kernel
theorem dJ13_bitCount_95d88_26 : decode cJ13_bitCount_95d88 26 = .ok (.iconst 4, 1) := by decide +kernel
theorem dJ13_bitCount_95d88_27 : decode cJ13_bitCount_95d88 27 = .ok (.lushr, 1) := by decide +kernel
theorem dJ13_bitCount_95d88_28 : decode cJ13_bitCount_95d88 28 = .ok (.ladd, 1) := by decide +kernel
theorem dJ13_bitCount_95d88_29 : decode cJ13_bitCount_95d88 29 = .ok (.ldc2_w 318, 3) := by decide +kernel
theorem dJ13_bitCount_95d88_32 : decode cJ13_bitCount_95d88 32 = .ok (.land, 1) := by decide +kernel
theorem dJ13_bitCount_95d88_33 : decode cJ13_bitCount_95d88 33 = .ok (.lstore_n 0, 1) := by decide +kernel
theorem dJ13_bitCount_95d88_34 : decode cJ13_bitCount_95d88 34 = .ok (.lload_n 0, 1) := by decide +kernel
theorem dJ13_bitCount_95d88_35 : decode cJ13_bitCount_95d88 35 = .ok (.lload_n 0, 1) := by decide +kernel
theorem dJ13_bitCount_95d88_36 : decode cJ13_bitCount_95d88 36 = .ok (.bipush 8, 2) := by decide +kernel
theorem dJ13_bitCount_95d88_38 : decode cJ13_bitCount_95d88 38 = .ok (.lushr, 1) := by decide +kernel
theorem dJ13_bitCount_95d88_39 : decode cJ13_bitCount_95d88 39 = .ok (.ladd, 1) := by decide +kernel
theorem dJ13_bitCount_95d88_40 : decode cJ13_bitCount_95d88 40 = .ok (.lstore_n 0, 1) := by decide +kernel
theorem dJ13_bitCount_95d88_41 : decode cJ13_bitCount_95d88 41 = .ok (.lload_n 0, 1) := by decide +kernel
theorem dJ13_bitCount_95d88_42 : decode cJ13_bitCount_95d88 42 = .ok (.lload_n 0, 1) := by decide +kernel
theorem dJ13_bitCount_95d88_43 : decode cJ13_bitCount_95d88 43 = .ok (.bipush 16, 2) := by decide +kernel
theorem dJ13_bitCount_95d88_45 : decode cJ13_bitCount_95d88 45 = .ok (.lushr, 1) := by decide +kernel
theorem dJ13_bitCount_95d88_46 : decode cJ13_bitCount_95d88 46 = .ok (.ladd, 1) := by decide +kernel
theorem dJ13_bitCount_95d88_47 : decode cJ13_bitCount_95d88 47 = .ok (.lstore_n 0, 1) := by decide +kernel
theorem dJ13_bitCount_95d88_48 : decode cJ13_bitCount_95d88 48 = .ok (.lload_n 0, 1) := by decide +kernel
theorem dJ13_bitCount_95d88_49 : decode cJ13_bitCount_95d88 49 = .ok (.lload_n 0, 1) := by decide +kernel
theorem dJ13_bitCount_95d88_50 : decode cJ13_bitCount_95d88 50 = .ok (.bipush 32, 2) := by decide +kernel
theorem dJ13_bitCount_95d88_52 : decode cJ13_bitCount_95d88 52 = .ok (.lushr, 1) := by decide +kernel
theorem dJ13_bitCount_95d88_53 : decode cJ13_bitCount_95d88 53 = .ok (.ladd, 1) := by decide +kernel
theorem dJ13_bitCount_95d88_54 : decode cJ13_bitCount_95d88 54 = .ok (.lstore_n 0, 1) := by decide +kernel
theorem dJ13_bitCount_95d88_55 : decode cJ13_bitCount_95d88 55 = .ok (.lload_n 0, 1) := by decide +kernel
theorem dJ13_bitCount_95d88_56 : decode cJ13_bitCount_95d88 56 = .ok (.l2i, 1) := by decide +kernel
theorem dJ13_bitCount_95d88_57 : decode cJ13_bitCount_95d88 57 = .ok (.bipush 127, 2) := by decide +kernel
theorem dJ13_bitCount_95d88_59 : decode cJ13_bitCount_95d88 59 = .ok (.iand, 1) := by decide +kernel
theorem dJ13_bitCount_95d88_60 : decode cJ13_bitCount_95d88 60 = .ok (.ireturn, 1) := by decide +kernel
theorem dJ9_abs_0f7a4_0 : decode cJ9_abs_0f7a4 0 = .ok (.iload_n 0, 1) := by decide +kernel
theorem dJ9_abs_0f7a4_1 : decode cJ9_abs_0f7a4 1 = .ok (.ifCond .ge 8, 3) := by decide +kernel
theorem dJ9_abs_0f7a4_4 : decode cJ9_abs_0f7a4 4 = .ok (.iload_n 0, 1) := by decide +kernel
theorem dJ9_abs_0f7a4_5 : decode cJ9_abs_0f7a4 5 = .ok (.ineg, 1) := by decide +kernel
theorem dJ9_abs_0f7a4_6 : decode cJ9_abs_0f7a4 6 = .ok (.goto 4, 3) := by decide +kernel
theorem dJ9_abs_0f7a4_9 : decode cJ9_abs_0f7a4 9 = .ok (.iload_n 0, 1) := by decide +kernel
theorem dJ9_abs_0f7a4_10 : decode cJ9_abs_0f7a4 10 = .ok (.ireturn, 1) := by decide +kernel
theorem dJ9_min_7cf53_0 : decode cJ9_min_7cf53 0 = .ok (.iload_n 0, 1) := by decide +kernel
theorem dJ9_min_7cf53_1 : decode cJ9_min_7cf53 1 = .ok (.iload_n 1, 1) := by decide +kernel
theorem dJ9_min_7cf53_2 : decode cJ9_min_7cf53 2 = .ok (.if_icmp .gt 7, 3) := by decide +kernel
theorem dJ9_min_7cf53_5 : decode cJ9_min_7cf53 5 = .ok (.iload_n 0, 1) := by decide +kernel
theorem dJ9_min_7cf53_6 : decode cJ9_min_7cf53 6 = .ok (.goto 4, 3) := by decide +kernel
theorem dJ9_min_7cf53_9 : decode cJ9_min_7cf53 9 = .ok (.iload_n 1, 1) := by decide +kernel
theorem dJ9_min_7cf53_10 : decode cJ9_min_7cf53 10 = .ok (.ireturn, 1) := by decide +kernel
theorem dJ7_fill_53178_0 : decode cJ7_fill_53178 0 = .ok (.iconst 0, 1) := by decide +kernel
theorem dJ7_fill_53178_1 : decode cJ7_fill_53178 1 = .ok (.istore_n 2, 1) := by decide +kernel
theorem dJ7_fill_53178_2 : decode cJ7_fill_53178 2 = .ok (.aload_n 0, 1) := by decide +kernel
theorem dJ7_fill_53178_3 : decode cJ7_fill_53178 3 = .ok (.arraylength, 1) := by decide +kernel
theorem dJ7_fill_53178_4 : decode cJ7_fill_53178 4 = .ok (.istore_n 3, 1) := by decide +kernel
theorem dJ7_fill_53178_5 : decode cJ7_fill_53178 5 = .ok (.iload_n 2, 1) := by decide +kernel
theorem dJ7_fill_53178_6 : decode cJ7_fill_53178 6 = .ok (.iload_n 3, 1) := by decide +kernel
theorem dJ7_fill_53178_7 : decode cJ7_fill_53178 7 = .ok (.if_icmp .ge 13, 3) := by decide +kernel
theorem dJ7_fill_53178_10 : decode cJ7_fill_53178 10 = .ok (.aload_n 0, 1) := by decide +kernel
theorem dJ7_fill_53178_11 : decode cJ7_fill_53178 11 = .ok (.iload_n 2, 1) := by decide +kernel
theorem dJ7_fill_53178_12 : decode cJ7_fill_53178 12 = .ok (.iload_n 1, 1) := by decide +kernel
theorem dJ7_fill_53178_13 : decode cJ7_fill_53178 13 = .ok (.iastore, 1) := by decide +kernel
theorem dJ7_fill_53178_14 : decode cJ7_fill_53178 14 = .ok (.iinc 2 1, 3) := by decide +kernel
theorem dJ7_fill_53178_17 : decode cJ7_fill_53178 17 = .ok (.goto (-12), 3) := by decide +kernel
theorem dJ7_fill_53178_20 : decode cJ7_fill_53178 20 = .ok (.return_, 1) := by decide +kernel
end
section
theorem dX8_init_0 : decode cX8_init 0 = .ok (.aload_n 0, 1) := by decide +kernel
theorem dX8_init_1 : decode cX8_init 1 = .ok (.invokespecial 1, 3) := by decide +kernel
theorem dX8_init_4 : decode cX8_init 4 = .ok (.aload_n 0, 1) := by decide +kernel
theorem dX8_init_5 : decode cX8_init 5 = .ok (.bipush 46, 2) := by decide +kernel
theorem dX8_init_7 : decode cX8_init 7 = .ok (.newarray .int, 2) := by decide +kernel
theorem dX8_init_9 : decode cX8_init 9 = .ok (.putfield 7, 3) := by decide +kernel
theorem dX8_init_12 : decode cX8_init 12 = .ok (.aload_n 0, 1) := by decide +kernel
theorem dX8_init_13 : decode cX8_init 13 = .ok (.bipush 46, 2) := by decide +kernel
theorem dX8_init_15 : decode cX8_init 15 = .ok (.newarray .int, 2) := by decide +kernel
theorem dX8_init_17 : decode cX8_init 17 = .ok (.putfield 13, 3) := by decide +kernel
theorem dX8_init_20 : decode cX8_init 20 = .ok (.aload_n 0, 1) := by decide +kernel
theorem dX8_init_21 : decode cX8_init 21 = .ok (.sipush 184, 3) := by decide +kernel
theorem dX8_init_24 : decode cX8_init 24 = .ok (.newarray .int, 2) := by decide +kernel
theorem dX8_init_26 : decode cX8_init 26 = .ok (.putfield 16, 3) := by decide +kernel
theorem dX8_init_29 : decode cX8_init 29 = .ok (.aload_n 0, 1) := by decide +kernel
theorem dX8_init_30 : decode cX8_init 30 = .ok (.bipush 46, 2) := by decide +kernel
theorem dX8_init_32 : decode cX8_init 32 = .ok (.newarray .int, 2) := by decide +kernel
theorem dX8_init_34 : decode cX8_init 34 = .ok (.putfield 19, 3) := by decide +kernel
theorem dX8_init_37 : decode cX8_init 37 = .ok (.aload_n 0, 1) := by decide +kernel
theorem dX8_init_38 : decode cX8_init 38 = .ok (.sipush 401, 3) := by decide +kernel
theorem dX8_init_41 : decode cX8_init 41 = .ok (.newarray .int, 2) := by decide +kernel
theorem dX8_init_43 : decode cX8_init 43 = .ok (.putfield 22, 3) := by decide +kernel
theorem dX8_init_46 : decode cX8_init 46 = .ok (.aload_n 0, 1) := by decide +kernel
theorem dX8_init_47 : decode cX8_init 47 = .ok (.sipush 3208, 3) := by decide +kernel
theorem dX8_init_50 : decode cX8_init 50 = .ok (.newarray .int, 2) := by decide +kernel
theorem dX8_init_52 : decode cX8_init 52 = .ok (.putfield 25, 3) := by decide +kernel
theorem dX8_init_55 : decode cX8_init 55 = .ok (.aload_n 0, 1) := by decide +kernel
theorem dX8_init_56 : decode cX8_init 56 = .ok (.sipush 3208, 3) := by decide +kernel
theorem dX8_init_59 : decode cX8_init 59 = .ok (.newarray .int, 2) := by decide +kernel
theorem dX8_init_61 : decode cX8_init 61 = .ok (.putfield 28, 3) := by decide +kernel
theorem dX8_init_64 : decode cX8_init 64 = .ok (.aload_n 0, 1) := by decide +kernel
theorem dX8_init_65 : decode cX8_init 65 = .ok (.sipush 248, 3) := by decide +kernel
theorem dX8_init_68 : decode cX8_init 68 = .ok (.newarray .int, 2) := by decide +kernel
theorem dX8_init_70 : decode cX8_init 70 = .ok (.putfield 31, 3) := by decide +kernel
theorem dX8_init_73 : decode cX8_init 73 = .ok (.aload_n 0, 1) := by decide +kernel
theorem dX8_init_74 : decode cX8_init 74 = .ok (.sipush 248, 3) := by decide +kernel
theorem dX8_init_77 : decode cX8_init 77 = .ok (.newarray .int, 2) := by decide +kernel
theorem dX8_init_79 : decode cX8_init 79 = .ok (.putfield 34, 3) := by decide +kernel
theorem dX8_init_82 : decode cX8_init 82 = .ok (.aload_n 0, 1) := by decide +kernel
theorem dX8_init_83 : decode cX8_init 83 = .ok (.sipush 248, 3) := by decide +kernel
theorem dX8_init_86 : decode cX8_init 86 = .ok (.newarray .int, 2) := by decide +kernel
theorem dX8_init_88 : decode cX8_init 88 = .ok (.putfield 37, 3) := by decide +kernel
theorem dX8_init_91 : decode cX8_init 91 = .ok (.aload_n 0, 1) := by decide +kernel
theorem dX8_init_92 : decode cX8_init 92 = .ok (.sipush 248, 3) := by decide +kernel
theorem dX8_init_95 : decode cX8_init 95 = .ok (.newarray .int, 2) := by decide +kernel
theorem dX8_init_97 : decode cX8_init 97 = .ok (.putfield 40, 3) := by decide +kernel
theorem dX8_init_100 : decode cX8_init 100 = .ok (.aload_n 0, 1) := by decide +kernel
theorem dX8_init_101 : decode cX8_init 101 = .ok (.bipush 31, 2) := by decide +kernel
theorem dX8_init_103 : decode cX8_init 103 = .ok (.newarray .int, 2) := by decide +kernel
theorem dX8_init_105 : decode cX8_init 105 = .ok (.putfield 43, 3) := by decide +kernel
theorem dX8_init_108 : decode cX8_init 108 = .ok (.aload_n 0, 1) := by decide +kernel
theorem dX8_init_109 : decode cX8_init 109 = .ok (.bipush 31, 2) := by decide +kernel
theorem dX8_init_111 : decode cX8_init 111 = .ok (.newarray .int, 2) := by decide +kernel
theorem dX8_init_113 : decode cX8_init 113 = .ok (.putfield 46, 3) := by decide +kernel
theorem dX8_init_116 : decode cX8_init 116 = .ok (.aload_n 0, 1) := by decide +kernel
theorem dX8_init_117 : decode cX8_init 117 = .ok (.bipush 80, 2) := by decide +kernel
theorem dX8_init_119 : decode cX8_init 119 = .ok (.newarray .int, 2) := by decide +kernel
theorem dX8_init_121 : decode cX8_init 121 = .ok (.putfield 49, 3) := by decide +kernel
theorem dX8_init_124 : decode cX8_init 124 = .ok (.aload_n 0, 1) := by decide +kernel
theorem dX8_init_125 : decode cX8_init 125 = .ok (.bipush 30, 2) := by decide +kernel
theorem dX8_init_127 : decode cX8_init 127 = .ok (.newarray .int, 2) := by decide +kernel
theorem dX8_init_129 : decode cX8_init 129 = .ok (.putfield 52, 3) := by decide +kernel
theorem dX8_init_132 : decode cX8_init 132 = .ok (.aload_n 0, 1) := by decide +kernel
theorem dX8_init_133 : decode cX8_init 133 = .ok (.bipush 30, 2) := by decide +kernel
theorem dX8_init_135 : decode cX8_init 135 = .ok (.newarray .int, 2) := by decide +kernel
theorem dX8_init_137 : decode cX8_init 137 = .ok (.putfield 55, 3) := by decide +kernel
theorem dX8_init_140 : decode cX8_init 140 = .ok (.aload_n 0, 1) := by decide +kernel
theorem dX8_init_141 : decode cX8_init 141 = .ok (.bipush 60, 2) := by decide +kernel
theorem dX8_init_143 : decode cX8_init 143 = .ok (.newarray .int, 2) := by decide +kernel
theorem dX8_init_145 : decode cX8_init 145 = .ok (.putfield 58, 3) := by decide +kernel
theorem dX8_init_148 : decode cX8_init 148 = .ok (.aload_n 0, 1) := by decide +kernel
theorem dX8_init_149 : decode cX8_init 149 = .ok (.getfield 7, 3) := by decide +kernel
theorem dX8_init_152 : decode cX8_init 152 = .ok (.iconst 3, 1) := by decide +kernel
theorem dX8_init_153 : decode cX8_init 153 = .ok (.iconst 1, 1) := by decide +kernel
theorem dX8_init_154 : decode cX8_init 154 = .ok (.iastore, 1) := by decide +kernel
theorem dX8_init_155 : decode cX8_init 155 = .ok (.aload_n 0, 1) := by decide +kernel
theorem dX8_init_156 : decode cX8_init 156 = .ok (.getfield 7, 3) := by decide +kernel
theorem dX8_init_159 : decode cX8_init 159 = .ok (.iconst 4, 1) := by decide +kernel
theorem dX8_init_160 : decode cX8_init 160 = .ok (.iconst 1, 1) := by decide +kernel
theorem dX8_init_161 : decode cX8_init 161 = .ok (.iastore, 1) := by decide +kernel
theorem dX8_init_162 : decode cX8_init 162 = .ok (.aload_n 0, 1) := by decide +kernel
theorem dX8_init_163 : decode cX8_init 163 = .ok (.bipush 6, 2) := by decide +kernel
theorem dX8_init_165 : decode cX8_init 165 = .ok (.iconst 2, 1) := by decide +kernel
theorem dX8_init_166 : decode cX8_init 166 = .ok (.invokevirtual 61, 3) := by decide +kernel
theorem dX8_init_169 : decode cX8_init 169 = .ok (.return_, 1) := by decide +kernel
theorem dX8_in_0 : decode cX8_in 0 = .ok (.lload_n 0, 1) := by decide +kernel
theorem dX8_in_1 : decode cX8_in 1 = .ok (.lload_n 2, 1) := by decide +kernel
theorem dX8_in_2 : decode cX8_in 2 = .ok (.lcmp, 1) := by decide +kernel
theorem dX8_in_3 : decode cX8_in 3 = .ok (.ifCond .lt 14, 3) := by decide +kernel
theorem dX8_in_6 : decode cX8_in 6 = .ok (.lload_n 0, 1) := by decide +kernel
theorem dX8_in_7 : decode cX8_in 7 = .ok (.lload 4, 2) := by decide +kernel
theorem dX8_in_9 : decode cX8_in 9 = .ok (.lcmp, 1) := by decide +kernel
theorem dX8_in_10 : decode cX8_in 10 = .ok (.ifCond .gt 7, 3) := by decide +kernel
theorem dX8_in_13 : decode cX8_in 13 = .ok (.iconst 1, 1) := by decide +kernel
theorem dX8_in_14 : decode cX8_in 14 = .ok (.goto 4, 3) := by decide +kernel
theorem dX8_in_17 : decode cX8_in 17 = .ok (.iconst 0, 1) := by decide +kernel
theorem dX8_in_18 : decode cX8_in 18 = .ok (.ireturn, 1) := by decide +kernel
theorem dX8_copy_0 : decode cX8_copy 0 = .ok (.iconst 0, 1) := by decide +kernel
theorem dX8_copy_1 : decode cX8_copy 1 = .ok (.istore_n 2, 1) := by decide +kernel
theorem dX8_copy_2 : decode cX8_copy 2 = .ok (.iload_n 2, 1) := by decide +kernel
theorem dX8_copy_3 : decode cX8_copy 3 = .ok (.bipush 46, 2) := by decide +kernel
theorem dX8_copy_5 : decode cX8_copy 5 = .ok (.if_icmp .ge 15, 3) := by decide +kernel
theorem dX8_copy_8 : decode cX8_copy 8 = .ok (.aload_n 1, 1) := by decide +kernel
theorem dX8_copy_9 : decode cX8_copy 9 = .ok (.iload_n 2, 1) := by decide +kernel
theorem dX8_copy_10 : decode cX8_copy 10 = .ok (.aload_n 0, 1) := by decide +kernel
theorem dX8_copy_11 : decode cX8_copy 11 = .ok (.iload_n 2, 1) := by decide +kernel
theorem dX8_copy_12 : decode cX8_copy 12 = .ok (.iaload, 1) := by decide +kernel
theorem dX8_copy_13 : decode cX8_copy 13 = .ok (.iastore, 1) := by decide +kernel
theorem dX8_copy_14 : decode cX8_copy 14 = .ok (.iinc 2 1, 3) := by decide +kernel
theorem dX8_copy_17 : decode cX8_copy 17 = .ok (.goto (-15), 3) := by decide +kernel
theorem dX8_copy_20 : decode cX8_copy 20 = .ok (.return_, 1) := by decide +kernel
theorem dX8_remember_0 : decode cX8_remember 0 = .ok (.aload_n 0, 1) := by decide +kernel
theorem dX8_remember_1 : decode cX8_remember 1 = .ok (.getfield 7, 3) := by decide +kernel
theorem dX8_remember_4 : decode cX8_remember 4 = .ok (.aload_n 0, 1) := by decide +kernel
theorem dX8_remember_5 : decode cX8_remember 5 = .ok (.getfield 13, 3) := by decide +kernel
theorem dX8_remember_8 : decode cX8_remember 8 = .ok (.invokestatic 65, 3) := by decide +kernel
theorem dX8_remember_11 : decode cX8_remember 11 = .ok (.return_, 1) := by decide +kernel
theorem dX8_acted_0 : decode cX8_acted 0 = .ok (.aload_n 0, 1) := by decide +kernel
theorem dX8_acted_1 : decode cX8_acted 1 = .ok (.getfield 69, 3) := by decide +kernel
theorem dX8_acted_4 : decode cX8_acted 4 = .ok (.iconst 4, 1) := by decide +kernel
theorem dX8_acted_5 : decode cX8_acted 5 = .ok (.if_icmp .ne 43, 3) := by decide +kernel
theorem dX8_acted_8 : decode cX8_acted 8 = .ok (.iconst 0, 1) := by decide +kernel
theorem dX8_acted_9 : decode cX8_acted 9 = .ok (.istore_n 2, 1) := by decide +kernel
theorem dX8_acted_10 : decode cX8_acted 10 = .ok (.iload_n 2, 1) := by decide +kernel
theorem dX8_acted_11 : decode cX8_acted 11 = .ok (.sipush 138, 3) := by decide +kernel
theorem dX8_acted_14 : decode cX8_acted 14 = .ok (.if_icmp .ge 24, 3) := by decide +kernel
theorem dX8_acted_17 : decode cX8_acted 17 = .ok (.aload_n 0, 1) := by decide +kernel
theorem dX8_acted_18 : decode cX8_acted 18 = .ok (.getfield 16, 3) := by decide +kernel
theorem dX8_acted_21 : decode cX8_acted 21 = .ok (.iload_n 2, 1) := by decide +kernel
theorem dX8_acted_22 : decode cX8_acted 22 = .ok (.aload_n 0, 1) := by decide +kernel
theorem dX8_acted_23 : decode cX8_acted 23 = .ok (.getfield 16, 3) := by decide +kernel
theorem dX8_acted_26 : decode cX8_acted 26 = .ok (.iload_n 2, 1) := by decide +kernel
theorem dX8_acted_27 : decode cX8_acted 27 = .ok (.bipush 46, 2) := by decide +kernel
theorem dX8_acted_29 : decode cX8_acted 29 = .ok (.iadd, 1) := by decide +kernel
theorem dX8_acted_30 : decode cX8_acted 30 = .ok (.iaload, 1) := by decide +kernel
theorem dX8_acted_31 : decode cX8_acted 31 = .ok (.iastore, 1) := by decide +kernel
theorem dX8_acted_32 : decode cX8_acted 32 = .ok (.iinc 2 1, 3) := by decide +kernel
theorem dX8_acted_35 : decode cX8_acted 35 = .ok (.goto (-25), 3) := by decide +kernel
theorem dX8_acted_38 : decode cX8_acted 38 = .ok (.aload_n 0, 1) := by decide +kernel
theorem dX8_acted_39 : decode cX8_acted 39 = .ok (.dup, 1) := by decide +kernel
theorem dX8_acted_40 : decode cX8_acted 40 = .ok (.getfield 69, 3) := by decide +kernel
theorem dX8_acted_43 : decode cX8_acted 43 = .ok (.iconst 1, 1) := by decide +kernel
theorem dX8_acted_44 : decode cX8_acted 44 = .ok (.isub, 1) := by decide +kernel
theorem dX8_acted_45 : decode cX8_acted 45 = .ok (.putfield 69, 3) := by decide +kernel
theorem dX8_acted_48 : decode cX8_acted 48 = .ok (.iconst 0, 1) := by decide +kernel
theorem dX8_acted_49 : decode cX8_acted 49 = .ok (.istore_n 2, 1) := by decide +kernel
theorem dX8_acted_50 : decode cX8_acted 50 = .ok (.iload_n 2, 1) := by decide +kernel
theorem dX8_acted_51 : decode cX8_acted 51 = .ok (.bipush 46, 2) := by decide +kernel
theorem dX8_acted_53 : decode cX8_acted 53 = .ok (.if_icmp .ge 29, 3) := by decide +kernel
theorem dX8_acted_56 : decode cX8_acted 56 = .ok (.aload_n 0, 1) := by decide +kernel
theorem dX8_acted_57 : decode cX8_acted 57 = .ok (.getfield 16, 3) := by decide +kernel
theorem dX8_acted_60 : decode cX8_acted 60 = .ok (.bipush 46, 2) := by decide +kernel
theorem dX8_acted_62 : decode cX8_acted 62 = .ok (.aload_n 0, 1) := by decide +kernel
theorem dX8_acted_63 : decode cX8_acted 63 = .ok (.getfield 69, 3) := by decide +kernel
theorem dX8_acted_66 : decode cX8_acted 66 = .ok (.imul, 1) := by decide +kernel
theorem dX8_acted_67 : decode cX8_acted 67 = .ok (.iload_n 2, 1) := by decide +kernel
theorem dX8_acted_68 : decode cX8_acted 68 = .ok (.iadd, 1) := by decide +kernel
theorem dX8_acted_69 : decode cX8_acted 69 = .ok (.aload_n 0, 1) := by decide +kernel
theorem dX8_acted_70 : decode cX8_acted 70 = .ok (.getfield 13, 3) := by decide +kernel
theorem dX8_acted_73 : decode cX8_acted 73 = .ok (.iload_n 2, 1) := by decide +kernel
theorem dX8_acted_74 : decode cX8_acted 74 = .ok (.iaload, 1) := by decide +kernel
theorem dX8_acted_75 : decode cX8_acted 75 = .ok (.iastore, 1) := by decide +kernel
theorem dX8_acted_76 : decode cX8_acted 76 = .ok (.iinc 2 1, 3) := by decide +kernel
theorem dX8_acted_79 : decode cX8_acted 79 = .ok (.goto (-29), 3) := by decide +kernel
theorem dX8_acted_82 : decode cX8_acted 82 = .ok (.aload_n 0, 1) := by decide +kernel
theorem dX8_acted_83 : decode cX8_acted 83 = .ok (.dup, 1) := by decide +kernel
theorem dX8_acted_84 : decode cX8_acted 84 = .ok (.getfield 69, 3) := by decide +kernel
theorem dX8_acted_87 : decode cX8_acted 87 = .ok (.iconst 1, 1) := by decide +kernel
theorem dX8_acted_88 : decode cX8_acted 88 = .ok (.iadd, 1) := by decide +kernel
theorem dX8_acted_89 : decode cX8_acted 89 = .ok (.putfield 69, 3) := by decide +kernel
theorem dX8_acted_92 : decode cX8_acted 92 = .ok (.iload_n 1, 1) := by decide +kernel
theorem dX8_acted_93 : decode cX8_acted 93 = .ok (.ireturn, 1) := by decide +kernel
theorem dX8_lays_0 : decode cX8_lays 0 = .ok (.aload_n 0, 1) := by decide +kernel
theorem dX8_lays_1 : decode cX8_lays 1 = .ok (.getfield 7, 3) := by decide +kernel
theorem dX8_lays_4 : decode cX8_lays 4 = .ok (.iconst 0, 1) := by decide +kernel
theorem dX8_lays_5 : decode cX8_lays 5 = .ok (.iload_n 1, 1) := by decide +kernel
theorem dX8_lays_6 : decode cX8_lays 6 = .ok (.iastore, 1) := by decide +kernel
theorem dX8_lays_7 : decode cX8_lays 7 = .ok (.aload_n 0, 1) := by decide +kernel
theorem dX8_lays_8 : decode cX8_lays 8 = .ok (.getfield 7, 3) := by decide +kernel
theorem dX8_lays_11 : decode cX8_lays 11 = .ok (.iconst 1, 1) := by decide +kernel
theorem dX8_lays_12 : decode cX8_lays 12 = .ok (.iload_n 2, 1) := by decide +kernel
theorem dX8_lays_13 : decode cX8_lays 13 = .ok (.iastore, 1) := by decide +kernel
theorem dX8_lays_14 : decode cX8_lays 14 = .ok (.iconst 0, 1) := by decide +kernel
theorem dX8_lays_15 : decode cX8_lays 15 = .ok (.istore_n 3, 1) := by decide +kernel
theorem dX8_lays_16 : decode cX8_lays 16 = .ok (.iload_n 3, 1) := by decide +kernel
theorem dX8_lays_17 : decode cX8_lays 17 = .ok (.bipush 10, 2) := by decide +kernel
theorem dX8_lays_19 : decode cX8_lays 19 = .ok (.if_icmp .ge 32, 3) := by decide +kernel
theorem dX8_lays_22 : decode cX8_lays 22 = .ok (.aload_n 0, 1) := by decide +kernel
theorem dX8_lays_23 : decode cX8_lays 23 = .ok (.getfield 7, 3) := by decide +kernel
theorem dX8_lays_26 : decode cX8_lays 26 = .ok (.bipush 6, 2) := by decide +kernel
theorem dX8_lays_28 : decode cX8_lays 28 = .ok (.iload_n 3, 1) := by decide +kernel
theorem dX8_lays_29 : decode cX8_lays 29 = .ok (.iadd, 1) := by decide +kernel
theorem dX8_lays_30 : decode cX8_lays 30 = .ok (.iload_n 3, 1) := by decide +kernel
theorem dX8_lays_31 : decode cX8_lays 31 = .ok (.iload_n 1, 1) := by decide +kernel
theorem dX8_lays_32 : decode cX8_lays 32 = .ok (.if_icmp .ge 11, 3) := by decide +kernel
theorem dX8_lays_35 : decode cX8_lays 35 = .ok (.iconst 1, 1) := by decide +kernel
theorem dX8_lays_36 : decode cX8_lays 36 = .ok (.iload_n 2, 1) := by decide +kernel
theorem dX8_lays_37 : decode cX8_lays 37 = .ok (.ishl, 1) := by decide +kernel
theorem dX8_lays_38 : decode cX8_lays 38 = .ok (.iconst 1, 1) := by decide +kernel
theorem dX8_lays_39 : decode cX8_lays 39 = .ok (.isub, 1) := by decide +kernel
theorem dX8_lays_40 : decode cX8_lays 40 = .ok (.goto 4, 3) := by decide +kernel
theorem dX8_lays_43 : decode cX8_lays 43 = .ok (.iconst 0, 1) := by decide +kernel
theorem dX8_lays_44 : decode cX8_lays 44 = .ok (.iastore, 1) := by decide +kernel
theorem dX8_lays_45 : decode cX8_lays 45 = .ok (.iinc 3 1, 3) := by decide +kernel
theorem dX8_lays_48 : decode cX8_lays 48 = .ok (.goto (-32), 3) := by decide +kernel
theorem dX8_lays_51 : decode cX8_lays 51 = .ok (.iconst 0, 1) := by decide +kernel
theorem dX8_lays_52 : decode cX8_lays 52 = .ok (.istore_n 3, 1) := by decide +kernel
theorem dX8_lays_53 : decode cX8_lays 53 = .ok (.iload_n 3, 1) := by decide +kernel
theorem dX8_lays_54 : decode cX8_lays 54 = .ok (.bipush 30, 2) := by decide +kernel
theorem dX8_lays_56 : decode cX8_lays 56 = .ok (.if_icmp .ge 19, 3) := by decide +kernel
theorem dX8_lays_59 : decode cX8_lays 59 = .ok (.aload_n 0, 1) := by decide +kernel
theorem dX8_lays_60 : decode cX8_lays 60 = .ok (.getfield 7, 3) := by decide +kernel
theorem dX8_lays_63 : decode cX8_lays 63 = .ok (.bipush 16, 2) := by decide +kernel
theorem dX8_lays_65 : decode cX8_lays 65 = .ok (.iload_n 3, 1) := by decide +kernel
theorem dX8_lays_66 : decode cX8_lays 66 = .ok (.iadd, 1) := by decide +kernel
theorem dX8_lays_67 : decode cX8_lays 67 = .ok (.iconst 0, 1) := by decide +kernel
theorem dX8_lays_68 : decode cX8_lays 68 = .ok (.iastore, 1) := by decide +kernel
theorem dX8_lays_69 : decode cX8_lays 69 = .ok (.iinc 3 1, 3) := by decide +kernel
theorem dX8_lays_72 : decode cX8_lays 72 = .ok (.goto (-19), 3) := by decide +kernel
theorem dX8_lays_75 : decode cX8_lays 75 = .ok (.return_, 1) := by decide +kernel
theorem dX8_cells_0 : decode cX8_cells 0 = .ok (.aload_n 0, 1) := by decide +kernel
theorem dX8_cells_1 : decode cX8_cells 1 = .ok (.getfield 7, 3) := by decide +kernel
theorem dX8_cells_4 : decode cX8_cells 4 = .ok (.iconst 0, 1) := by decide +kernel
theorem dX8_cells_5 : decode cX8_cells 5 = .ok (.iaload, 1) := by decide +kernel
theorem dX8_cells_6 : decode cX8_cells 6 = .ok (.aload_n 0, 1) := by decide +kernel
theorem dX8_cells_7 : decode cX8_cells 7 = .ok (.getfield 7, 3) := by decide +kernel
theorem dX8_cells_10 : decode cX8_cells 10 = .ok (.iconst 1, 1) := by decide +kernel
theorem dX8_cells_11 : decode cX8_cells 11 = .ok (.iaload, 1) := by decide +kernel
theorem dX8_cells_12 : decode cX8_cells 12 = .ok (.imul, 1) := by decide +kernel
theorem dX8_cells_13 : decode cX8_cells 13 = .ok (.ireturn, 1) := by decide +kernel
theorem dX8_isRow_0 : decode cX8_isRow 0 = .ok (.iload_n 1, 1) := by decide +kernel
theorem dX8_isRow_1 : decode cX8_isRow 1 = .ok (.i2l, 1) := by decide +kernel
theorem dX8_isRow_2 : decode cX8_isRow 2 = .ok (.lconst 0, 1) := by decide +kernel
theorem dX8_isRow_3 : decode cX8_isRow 3 = .ok (.aload_n 0, 1) := by decide +kernel
theorem dX8_isRow_4 : decode cX8_isRow 4 = .ok (.getfield 7, 3) := by decide +kernel
theorem dX8_isRow_7 : decode cX8_isRow 7 = .ok (.iconst 1, 1) := by decide +kernel
theorem dX8_isRow_8 : decode cX8_isRow 8 = .ok (.iaload, 1) := by decide +kernel
theorem dX8_isRow_9 : decode cX8_isRow 9 = .ok (.i2l, 1) := by decide +kernel
theorem dX8_isRow_10 : decode cX8_isRow 10 = .ok (.lconst 1, 1) := by decide +kernel
theorem dX8_isRow_11 : decode cX8_isRow 11 = .ok (.lsub, 1) := by decide +kernel
theorem dX8_isRow_12 : decode cX8_isRow 12 = .ok (.invokestatic 73, 3) := by decide +kernel
theorem dX8_isRow_15 : decode cX8_isRow 15 = .ok (.ireturn, 1) := by decide +kernel
theorem dX8_isColumn_0 : decode cX8_isColumn 0 = .ok (.iload_n 1, 1) := by decide +kernel
theorem dX8_isColumn_1 : decode cX8_isColumn 1 = .ok (.i2l, 1) := by decide +kernel
theorem dX8_isColumn_2 : decode cX8_isColumn 2 = .ok (.lconst 0, 1) := by decide +kernel
theorem dX8_isColumn_3 : decode cX8_isColumn 3 = .ok (.aload_n 0, 1) := by decide +kernel
theorem dX8_isColumn_4 : decode cX8_isColumn 4 = .ok (.getfield 7, 3) := by decide +kernel
theorem dX8_isColumn_7 : decode cX8_isColumn 7 = .ok (.iconst 0, 1) := by decide +kernel
theorem dX8_isColumn_8 : decode cX8_isColumn 8 = .ok (.iaload, 1) := by decide +kernel
theorem dX8_isColumn_9 : decode cX8_isColumn 9 = .ok (.i2l, 1) := by decide +kernel
theorem dX8_isColumn_10 : decode cX8_isColumn 10 = .ok (.lconst 1, 1) := by decide +kernel
theorem dX8_isColumn_11 : decode cX8_isColumn 11 = .ok (.lsub, 1) := by decide +kernel
theorem dX8_isColumn_12 : decode cX8_isColumn 12 = .ok (.invokestatic 73, 3) := by decide +kernel
theorem dX8_isColumn_15 : decode cX8_isColumn 15 = .ok (.ireturn, 1) := by decide +kernel
theorem dX8_isLoop_0 : decode cX8_isLoop 0 = .ok (.aload_n 0, 1) := by decide +kernel
theorem dX8_isLoop_1 : decode cX8_isLoop 1 = .ok (.getfield 7, 3) := by decide +kernel
theorem dX8_isLoop_4 : decode cX8_isLoop 4 = .ok (.iconst 2, 1) := by decide +kernel
theorem dX8_isLoop_5 : decode cX8_isLoop 5 = .ok (.iaload, 1) := by decide +kernel
theorem dX8_isLoop_6 : decode cX8_isLoop 6 = .ok (.iconst 1, 1) := by decide +kernel
theorem dX8_isLoop_7 : decode cX8_isLoop 7 = .ok (.if_icmp .ne 17, 3) := by decide +kernel
theorem dX8_isLoop_10 : decode cX8_isLoop 10 = .ok (.aload_n 0, 1) := by decide +kernel
theorem dX8_isLoop_11 : decode cX8_isLoop 11 = .ok (.getfield 7, 3) := by decide +kernel
theorem dX8_isLoop_14 : decode cX8_isLoop 14 = .ok (.iconst 0, 1) := by decide +kernel
theorem dX8_isLoop_15 : decode cX8_isLoop 15 = .ok (.iaload, 1) := by decide +kernel
theorem dX8_isLoop_16 : decode cX8_isLoop 16 = .ok (.iconst 2, 1) := by decide +kernel
theorem dX8_isLoop_17 : decode cX8_isLoop 17 = .ok (.if_icmp .le 7, 3) := by decide +kernel
theorem dX8_isLoop_20 : decode cX8_isLoop 20 = .ok (.iconst 1, 1) := by decide +kernel
theorem dX8_isLoop_21 : decode cX8_isLoop 21 = .ok (.goto 4, 3) := by decide +kernel
theorem dX8_isLoop_24 : decode cX8_isLoop 24 = .ok (.iconst 0, 1) := by decide +kernel
theorem dX8_isLoop_25 : decode cX8_isLoop 25 = .ok (.ireturn, 1) := by decide +kernel
theorem dX8_spinIn_0 : decode cX8_spinIn 0 = .ok (.iload_n 0, 1) := by decide +kernel
theorem dX8_spinIn_1 : decode cX8_spinIn 1 = .ok (.iload_n 1, 1) := by decide +kernel
theorem dX8_spinIn_2 : decode cX8_spinIn 2 = .ok (.ishr, 1) := by decide +kernel
theorem dX8_spinIn_3 : decode cX8_spinIn 3 = .ok (.iconst 1, 1) := by decide +kernel
theorem dX8_spinIn_4 : decode cX8_spinIn 4 = .ok (.iand, 1) := by decide +kernel
theorem dX8_spinIn_5 : decode cX8_spinIn 5 = .ok (.iconst 1, 1) := by decide +kernel
theorem dX8_spinIn_6 : decode cX8_spinIn 6 = .ok (.if_icmp .ne 7, 3) := by decide +kernel
theorem dX8_spinIn_9 : decode cX8_spinIn 9 = .ok (.iconst 1, 1) := by decide +kernel
theorem dX8_spinIn_10 : decode cX8_spinIn 10 = .ok (.goto 4, 3) := by decide +kernel
theorem dX8_spinIn_13 : decode cX8_spinIn 13 = .ok (.iconst (-1), 1) := by decide +kernel
theorem dX8_spinIn_14 : decode cX8_spinIn 14 = .ok (.ireturn, 1) := by decide +kernel
theorem dX8_spin_0 : decode cX8_spin 0 = .ok (.aload_n 0, 1) := by decide +kernel
theorem dX8_spin_1 : decode cX8_spin 1 = .ok (.getfield 7, 3) := by decide +kernel
theorem dX8_spin_4 : decode cX8_spin 4 = .ok (.bipush 6, 2) := by decide +kernel
theorem dX8_spin_6 : decode cX8_spin 6 = .ok (.iload_n 2, 1) := by decide +kernel
theorem dX8_spin_7 : decode cX8_spin 7 = .ok (.iadd, 1) := by decide +kernel
theorem dX8_spin_8 : decode cX8_spin 8 = .ok (.iaload, 1) := by decide +kernel
theorem dX8_spin_9 : decode cX8_spin 9 = .ok (.iload_n 1, 1) := by decide +kernel
theorem dX8_spin_10 : decode cX8_spin 10 = .ok (.invokestatic 77, 3) := by decide +kernel
theorem dX8_spin_13 : decode cX8_spin 13 = .ok (.ireturn, 1) := by decide +kernel
theorem dX8_fieldAt_0 : decode cX8_fieldAt 0 = .ok (.aload_n 0, 1) := by decide +kernel
theorem dX8_fieldAt_1 : decode cX8_fieldAt 1 = .ok (.getfield 7, 3) := by decide +kernel
theorem dX8_fieldAt_4 : decode cX8_fieldAt 4 = .ok (.bipush 16, 2) := by decide +kernel
theorem dX8_fieldAt_6 : decode cX8_fieldAt 6 = .ok (.iconst 3, 1) := by decide +kernel
theorem dX8_fieldAt_7 : decode cX8_fieldAt 7 = .ok (.iload_n 2, 1) := by decide +kernel
theorem dX8_fieldAt_8 : decode cX8_fieldAt 8 = .ok (.imul, 1) := by decide +kernel
theorem dX8_fieldAt_9 : decode cX8_fieldAt 9 = .ok (.iadd, 1) := by decide +kernel
theorem dX8_fieldAt_10 : decode cX8_fieldAt 10 = .ok (.iload_n 1, 1) := by decide +kernel
theorem dX8_fieldAt_11 : decode cX8_fieldAt 11 = .ok (.iadd, 1) := by decide +kernel
theorem dX8_fieldAt_12 : decode cX8_fieldAt 12 = .ok (.iaload, 1) := by decide +kernel
theorem dX8_fieldAt_13 : decode cX8_fieldAt 13 = .ok (.ireturn, 1) := by decide +kernel
theorem dX8_beside_0 : decode cX8_beside 0 = .ok (.iload_n 1, 1) := by decide +kernel
theorem dX8_beside_1 : decode cX8_beside 1 = .ok (.iload_n 2, 1) := by decide +kernel
theorem dX8_beside_2 : decode cX8_beside 2 = .ok (.iadd, 1) := by decide +kernel
theorem dX8_beside_3 : decode cX8_beside 3 = .ok (.istore_n 3, 1) := by decide +kernel
theorem dX8_beside_4 : decode cX8_beside 4 = .ok (.aload_n 0, 1) := by decide +kernel
theorem dX8_beside_5 : decode cX8_beside 5 = .ok (.iload_n 3, 1) := by decide +kernel
theorem dX8_beside_6 : decode cX8_beside 6 = .ok (.invokevirtual 81, 3) := by decide +kernel
theorem dX8_beside_9 : decode cX8_beside 9 = .ok (.ifCond .eq 5, 3) := by decide +kernel
theorem dX8_beside_12 : decode cX8_beside 12 = .ok (.iload_n 3, 1) := by decide +kernel
theorem dX8_beside_13 : decode cX8_beside 13 = .ok (.ireturn, 1) := by decide +kernel
theorem dX8_beside_14 : decode cX8_beside 14 = .ok (.aload_n 0, 1) := by decide +kernel
theorem dX8_beside_15 : decode cX8_beside 15 = .ok (.invokevirtual 85, 3) := by decide +kernel
theorem dX8_beside_18 : decode cX8_beside 18 = .ok (.ifCond .ne 9, 3) := by decide +kernel
theorem dX8_beside_21 : decode cX8_beside 21 = .ok (.sipush (-1005), 3) := by decide +kernel
theorem dX8_beside_24 : decode cX8_beside 24 = .ok (.goto 19, 3) := by decide +kernel
theorem dX8_beside_27 : decode cX8_beside 27 = .ok (.iload_n 2, 1) := by decide +kernel
theorem dX8_beside_28 : decode cX8_beside 28 = .ok (.ifCond .le 7, 3) := by decide +kernel
theorem dX8_beside_31 : decode cX8_beside 31 = .ok (.iconst 0, 1) := by decide +kernel
theorem dX8_beside_32 : decode cX8_beside 32 = .ok (.goto 11, 3) := by decide +kernel
theorem dX8_beside_35 : decode cX8_beside 35 = .ok (.aload_n 0, 1) := by decide +kernel
theorem dX8_beside_36 : decode cX8_beside 36 = .ok (.getfield 7, 3) := by decide +kernel
theorem dX8_beside_39 : decode cX8_beside 39 = .ok (.iconst 0, 1) := by decide +kernel
theorem dX8_beside_40 : decode cX8_beside 40 = .ok (.iaload, 1) := by decide +kernel
theorem dX8_beside_41 : decode cX8_beside 41 = .ok (.iconst 1, 1) := by decide +kernel
theorem dX8_beside_42 : decode cX8_beside 42 = .ok (.isub, 1) := by decide +kernel
theorem dX8_beside_43 : decode cX8_beside 43 = .ok (.ireturn, 1) := by decide +kernel
theorem dX8_ofColumn_0 : decode cX8_ofColumn 0 = .ok (.iconst 0, 1) := by decide +kernel
theorem dX8_ofColumn_1 : decode cX8_ofColumn 1 = .ok (.istore 4, 2) := by decide +kernel
theorem dX8_ofColumn_3 : decode cX8_ofColumn 3 = .ok (.iconst 0, 1) := by decide +kernel
theorem dX8_ofColumn_4 : decode cX8_ofColumn 4 = .ok (.istore 5, 2) := by decide +kernel
theorem dX8_ofColumn_6 : decode cX8_ofColumn 6 = .ok (.iload 5, 2) := by decide +kernel
theorem dX8_ofColumn_8 : decode cX8_ofColumn 8 = .ok (.aload_n 0, 1) := by decide +kernel
theorem dX8_ofColumn_9 : decode cX8_ofColumn 9 = .ok (.getfield 7, 3) := by decide +kernel
theorem dX8_ofColumn_12 : decode cX8_ofColumn 12 = .ok (.iconst 1, 1) := by decide +kernel
theorem dX8_ofColumn_13 : decode cX8_ofColumn 13 = .ok (.iaload, 1) := by decide +kernel
theorem dX8_ofColumn_14 : decode cX8_ofColumn 14 = .ok (.if_icmp .ge 94, 3) := by decide +kernel
theorem dX8_ofColumn_17 : decode cX8_ofColumn 17 = .ok (.iload_n 3, 1) := by decide +kernel
theorem dX8_ofColumn_18 : decode cX8_ofColumn 18 = .ok (.iload 5, 2) := by decide +kernel
theorem dX8_ofColumn_20 : decode cX8_ofColumn 20 = .ok (.invokestatic 77, 3) := by decide +kernel
theorem dX8_ofColumn_23 : decode cX8_ofColumn 23 = .ok (.istore 6, 2) := by decide +kernel
theorem dX8_ofColumn_25 : decode cX8_ofColumn 25 = .ok (.iload 5, 2) := by decide +kernel
theorem dX8_ofColumn_27 : decode cX8_ofColumn 27 = .ok (.iconst 1, 1) := by decide +kernel
theorem dX8_ofColumn_28 : decode cX8_ofColumn 28 = .ok (.iadd, 1) := by decide +kernel
theorem dX8_ofColumn_29 : decode cX8_ofColumn 29 = .ok (.aload_n 0, 1) := by decide +kernel
theorem dX8_ofColumn_30 : decode cX8_ofColumn 30 = .ok (.getfield 7, 3) := by decide +kernel
theorem dX8_ofColumn_33 : decode cX8_ofColumn 33 = .ok (.iconst 1, 1) := by decide +kernel
theorem dX8_ofColumn_34 : decode cX8_ofColumn 34 = .ok (.iaload, 1) := by decide +kernel
theorem dX8_ofColumn_35 : decode cX8_ofColumn 35 = .ok (.if_icmp .ge 14, 3) := by decide +kernel
theorem dX8_ofColumn_38 : decode cX8_ofColumn 38 = .ok (.iload_n 3, 1) := by decide +kernel
theorem dX8_ofColumn_39 : decode cX8_ofColumn 39 = .ok (.iload 5, 2) := by decide +kernel
theorem dX8_ofColumn_41 : decode cX8_ofColumn 41 = .ok (.iconst 1, 1) := by decide +kernel
theorem dX8_ofColumn_42 : decode cX8_ofColumn 42 = .ok (.iadd, 1) := by decide +kernel
theorem dX8_ofColumn_43 : decode cX8_ofColumn 43 = .ok (.invokestatic 77, 3) := by decide +kernel
theorem dX8_ofColumn_46 : decode cX8_ofColumn 46 = .ok (.goto 4, 3) := by decide +kernel
theorem dX8_ofColumn_49 : decode cX8_ofColumn 49 = .ok (.iconst 0, 1) := by decide +kernel
theorem dX8_ofColumn_50 : decode cX8_ofColumn 50 = .ok (.istore 7, 2) := by decide +kernel
theorem dX8_ofColumn_52 : decode cX8_ofColumn 52 = .ok (.iload 4, 2) := by decide +kernel
theorem dX8_ofColumn_54 : decode cX8_ofColumn 54 = .ok (.iload_n 1, 1) := by decide +kernel
theorem dX8_ofColumn_55 : decode cX8_ofColumn 55 = .ok (.iconst 1, 1) := by decide +kernel
theorem dX8_ofColumn_56 : decode cX8_ofColumn 56 = .ok (.if_icmp .ne 19, 3) := by decide +kernel
theorem dX8_ofColumn_59 : decode cX8_ofColumn 59 = .ok (.iload 6, 2) := by decide +kernel
theorem dX8_ofColumn_61 : decode cX8_ofColumn 61 = .ok (.iload 7, 2) := by decide +kernel
theorem dX8_ofColumn_63 : decode cX8_ofColumn 63 = .ok (.imul, 1) := by decide +kernel
theorem dX8_ofColumn_64 : decode cX8_ofColumn 64 = .ok (.ifCond .ge 7, 3) := by decide +kernel
theorem dX8_ofColumn_67 : decode cX8_ofColumn 67 = .ok (.iconst 1, 1) := by decide +kernel
theorem dX8_ofColumn_68 : decode cX8_ofColumn 68 = .ok (.goto 31, 3) := by decide +kernel
theorem dX8_ofColumn_71 : decode cX8_ofColumn 71 = .ok (.iconst 0, 1) := by decide +kernel
theorem dX8_ofColumn_72 : decode cX8_ofColumn 72 = .ok (.goto 27, 3) := by decide +kernel
theorem dX8_ofColumn_75 : decode cX8_ofColumn 75 = .ok (.aload_n 0, 1) := by decide +kernel
theorem dX8_ofColumn_76 : decode cX8_ofColumn 76 = .ok (.getfield 7, 3) := by decide +kernel
theorem dX8_ofColumn_79 : decode cX8_ofColumn 79 = .ok (.iconst 4, 1) := by decide +kernel
theorem dX8_ofColumn_80 : decode cX8_ofColumn 80 = .ok (.iaload, 1) := by decide +kernel
theorem dX8_ofColumn_81 : decode cX8_ofColumn 81 = .ok (.ineg, 1) := by decide +kernel
theorem dX8_ofColumn_82 : decode cX8_ofColumn 82 = .ok (.iload 6, 2) := by decide +kernel
theorem dX8_ofColumn_84 : decode cX8_ofColumn 84 = .ok (.imul, 1) := by decide +kernel
theorem dX8_ofColumn_85 : decode cX8_ofColumn 85 = .ok (.iload 7, 2) := by decide +kernel
theorem dX8_ofColumn_87 : decode cX8_ofColumn 87 = .ok (.imul, 1) := by decide +kernel
theorem dX8_ofColumn_88 : decode cX8_ofColumn 88 = .ok (.aload_n 0, 1) := by decide +kernel
theorem dX8_ofColumn_89 : decode cX8_ofColumn 89 = .ok (.iload 5, 2) := by decide +kernel
theorem dX8_ofColumn_91 : decode cX8_ofColumn 91 = .ok (.iload_n 2, 1) := by decide +kernel
theorem dX8_ofColumn_92 : decode cX8_ofColumn 92 = .ok (.invokevirtual 89, 3) := by decide +kernel
theorem dX8_ofColumn_95 : decode cX8_ofColumn 95 = .ok (.iload 6, 2) := by decide +kernel
theorem dX8_ofColumn_97 : decode cX8_ofColumn 97 = .ok (.imul, 1) := by decide +kernel
theorem dX8_ofColumn_98 : decode cX8_ofColumn 98 = .ok (.isub, 1) := by decide +kernel
theorem dX8_ofColumn_99 : decode cX8_ofColumn 99 = .ok (.iadd, 1) := by decide +kernel
theorem dX8_ofColumn_100 : decode cX8_ofColumn 100 = .ok (.istore 4, 2) := by decide +kernel
theorem dX8_ofColumn_102 : decode cX8_ofColumn 102 = .ok (.iinc 5 1, 3) := by decide +kernel
theorem dX8_ofColumn_105 : decode cX8_ofColumn 105 = .ok (.goto (-99), 3) := by decide +kernel
theorem dX8_ofColumn_108 : decode cX8_ofColumn 108 = .ok (.iload 4, 2) := by decide +kernel
theorem dX8_ofColumn_110 : decode cX8_ofColumn 110 = .ok (.ireturn, 1) := by decide +kernel
theorem dX8_ofLink_0 : decode cX8_ofLink 0 = .ok (.iconst 0, 1) := by decide +kernel
theorem dX8_ofLink_1 : decode cX8_ofLink 1 = .ok (.istore 4, 2) := by decide +kernel
theorem dX8_ofLink_3 : decode cX8_ofLink 3 = .ok (.iconst 0, 1) := by decide +kernel
theorem dX8_ofLink_4 : decode cX8_ofLink 4 = .ok (.istore 5, 2) := by decide +kernel
theorem dX8_ofLink_6 : decode cX8_ofLink 6 = .ok (.iload 5, 2) := by decide +kernel
theorem dX8_ofLink_8 : decode cX8_ofLink 8 = .ok (.aload_n 0, 1) := by decide +kernel
theorem dX8_ofLink_9 : decode cX8_ofLink 9 = .ok (.getfield 7, 3) := by decide +kernel
theorem dX8_ofLink_12 : decode cX8_ofLink 12 = .ok (.iconst 1, 1) := by decide +kernel
theorem dX8_ofLink_13 : decode cX8_ofLink 13 = .ok (.iaload, 1) := by decide +kernel
theorem dX8_ofLink_14 : decode cX8_ofLink 14 = .ok (.if_icmp .ge 57, 3) := by decide +kernel
theorem dX8_ofLink_17 : decode cX8_ofLink 17 = .ok (.iload_n 2, 1) := by decide +kernel
theorem dX8_ofLink_18 : decode cX8_ofLink 18 = .ok (.iload 5, 2) := by decide +kernel
theorem dX8_ofLink_20 : decode cX8_ofLink 20 = .ok (.invokestatic 77, 3) := by decide +kernel
theorem dX8_ofLink_23 : decode cX8_ofLink 23 = .ok (.iload_n 3, 1) := by decide +kernel
theorem dX8_ofLink_24 : decode cX8_ofLink 24 = .ok (.iload 5, 2) := by decide +kernel
theorem dX8_ofLink_26 : decode cX8_ofLink 26 = .ok (.invokestatic 77, 3) := by decide +kernel
theorem dX8_ofLink_29 : decode cX8_ofLink 29 = .ok (.imul, 1) := by decide +kernel
theorem dX8_ofLink_30 : decode cX8_ofLink 30 = .ok (.istore 6, 2) := by decide +kernel
theorem dX8_ofLink_32 : decode cX8_ofLink 32 = .ok (.iload 4, 2) := by decide +kernel
theorem dX8_ofLink_34 : decode cX8_ofLink 34 = .ok (.iload_n 1, 1) := by decide +kernel
theorem dX8_ofLink_35 : decode cX8_ofLink 35 = .ok (.iconst 1, 1) := by decide +kernel
theorem dX8_ofLink_36 : decode cX8_ofLink 36 = .ok (.if_icmp .ne 16, 3) := by decide +kernel
theorem dX8_ofLink_39 : decode cX8_ofLink 39 = .ok (.iload 6, 2) := by decide +kernel
theorem dX8_ofLink_41 : decode cX8_ofLink 41 = .ok (.ifCond .ge 7, 3) := by decide +kernel
theorem dX8_ofLink_44 : decode cX8_ofLink 44 = .ok (.iconst 1, 1) := by decide +kernel
theorem dX8_ofLink_45 : decode cX8_ofLink 45 = .ok (.goto 17, 3) := by decide +kernel
theorem dX8_ofLink_48 : decode cX8_ofLink 48 = .ok (.iconst 0, 1) := by decide +kernel
theorem dX8_ofLink_49 : decode cX8_ofLink 49 = .ok (.goto 13, 3) := by decide +kernel
theorem dX8_ofLink_52 : decode cX8_ofLink 52 = .ok (.aload_n 0, 1) := by decide +kernel
theorem dX8_ofLink_53 : decode cX8_ofLink 53 = .ok (.getfield 7, 3) := by decide +kernel
theorem dX8_ofLink_56 : decode cX8_ofLink 56 = .ok (.iconst 3, 1) := by decide +kernel
theorem dX8_ofLink_57 : decode cX8_ofLink 57 = .ok (.iaload, 1) := by decide +kernel
theorem dX8_ofLink_58 : decode cX8_ofLink 58 = .ok (.ineg, 1) := by decide +kernel
theorem dX8_ofLink_59 : decode cX8_ofLink 59 = .ok (.iload 6, 2) := by decide +kernel
theorem dX8_ofLink_61 : decode cX8_ofLink 61 = .ok (.imul, 1) := by decide +kernel
theorem dX8_ofLink_62 : decode cX8_ofLink 62 = .ok (.iadd, 1) := by decide +kernel
theorem dX8_ofLink_63 : decode cX8_ofLink 63 = .ok (.istore 4, 2) := by decide +kernel
theorem dX8_ofLink_65 : decode cX8_ofLink 65 = .ok (.iinc 5 1, 3) := by decide +kernel
theorem dX8_ofLink_68 : decode cX8_ofLink 68 = .ok (.goto (-62), 3) := by decide +kernel
theorem dX8_ofLink_71 : decode cX8_ofLink 71 = .ok (.iload 4, 2) := by decide +kernel
theorem dX8_ofLink_73 : decode cX8_ofLink 73 = .ok (.ireturn, 1) := by decide +kernel
theorem dX8_ofStrip_0 : decode cX8_ofStrip 0 = .ok (.iconst 0, 1) := by decide +kernel
theorem dX8_ofStrip_1 : decode cX8_ofStrip 1 = .ok (.istore_n 2, 1) := by decide +kernel
theorem dX8_ofStrip_2 : decode cX8_ofStrip 2 = .ok (.iconst 0, 1) := by decide +kernel
theorem dX8_ofStrip_3 : decode cX8_ofStrip 3 = .ok (.istore_n 3, 1) := by decide +kernel
theorem dX8_ofStrip_4 : decode cX8_ofStrip 4 = .ok (.iload_n 3, 1) := by decide +kernel
theorem dX8_ofStrip_5 : decode cX8_ofStrip 5 = .ok (.aload_n 0, 1) := by decide +kernel
theorem dX8_ofStrip_6 : decode cX8_ofStrip 6 = .ok (.getfield 7, 3) := by decide +kernel
theorem dX8_ofStrip_9 : decode cX8_ofStrip 9 = .ok (.iconst 0, 1) := by decide +kernel
theorem dX8_ofStrip_10 : decode cX8_ofStrip 10 = .ok (.iaload, 1) := by decide +kernel
theorem dX8_ofStrip_11 : decode cX8_ofStrip 11 = .ok (.if_icmp .ge 72, 3) := by decide +kernel
theorem dX8_ofStrip_14 : decode cX8_ofStrip 14 = .ok (.aload_n 0, 1) := by decide +kernel
theorem dX8_ofStrip_15 : decode cX8_ofStrip 15 = .ok (.iload_n 3, 1) := by decide +kernel
theorem dX8_ofStrip_16 : decode cX8_ofStrip 16 = .ok (.iconst 1, 1) := by decide +kernel
theorem dX8_ofStrip_17 : decode cX8_ofStrip 17 = .ok (.invokevirtual 92, 3) := by decide +kernel
theorem dX8_ofStrip_20 : decode cX8_ofStrip 20 = .ok (.istore 4, 2) := by decide +kernel
theorem dX8_ofStrip_22 : decode cX8_ofStrip 22 = .ok (.iload_n 2, 1) := by decide +kernel
theorem dX8_ofStrip_23 : decode cX8_ofStrip 23 = .ok (.aload_n 0, 1) := by decide +kernel
theorem dX8_ofStrip_24 : decode cX8_ofStrip 24 = .ok (.iload_n 1, 1) := by decide +kernel
theorem dX8_ofStrip_25 : decode cX8_ofStrip 25 = .ok (.iload_n 3, 1) := by decide +kernel
theorem dX8_ofStrip_26 : decode cX8_ofStrip 26 = .ok (.aload_n 0, 1) := by decide +kernel
theorem dX8_ofStrip_27 : decode cX8_ofStrip 27 = .ok (.getfield 7, 3) := by decide +kernel
theorem dX8_ofStrip_30 : decode cX8_ofStrip 30 = .ok (.bipush 6, 2) := by decide +kernel
theorem dX8_ofStrip_32 : decode cX8_ofStrip 32 = .ok (.iload_n 3, 1) := by decide +kernel
theorem dX8_ofStrip_33 : decode cX8_ofStrip 33 = .ok (.iadd, 1) := by decide +kernel
theorem dX8_ofStrip_34 : decode cX8_ofStrip 34 = .ok (.iaload, 1) := by decide +kernel
theorem dX8_ofStrip_35 : decode cX8_ofStrip 35 = .ok (.invokevirtual 95, 3) := by decide +kernel
theorem dX8_ofStrip_38 : decode cX8_ofStrip 38 = .ok (.iload 4, 2) := by decide +kernel
theorem dX8_ofStrip_40 : decode cX8_ofStrip 40 = .ok (.sipush (-1005), 3) := by decide +kernel
theorem dX8_ofStrip_43 : decode cX8_ofStrip 43 = .ok (.if_icmp .ne 7, 3) := by decide +kernel
theorem dX8_ofStrip_46 : decode cX8_ofStrip 46 = .ok (.iconst 0, 1) := by decide +kernel
theorem dX8_ofStrip_47 : decode cX8_ofStrip 47 = .ok (.goto 27, 3) := by decide +kernel
theorem dX8_ofStrip_50 : decode cX8_ofStrip 50 = .ok (.aload_n 0, 1) := by decide +kernel
theorem dX8_ofStrip_51 : decode cX8_ofStrip 51 = .ok (.iload_n 1, 1) := by decide +kernel
theorem dX8_ofStrip_52 : decode cX8_ofStrip 52 = .ok (.aload_n 0, 1) := by decide +kernel
theorem dX8_ofStrip_53 : decode cX8_ofStrip 53 = .ok (.getfield 7, 3) := by decide +kernel
theorem dX8_ofStrip_56 : decode cX8_ofStrip 56 = .ok (.bipush 6, 2) := by decide +kernel
theorem dX8_ofStrip_58 : decode cX8_ofStrip 58 = .ok (.iload_n 3, 1) := by decide +kernel
theorem dX8_ofStrip_59 : decode cX8_ofStrip 59 = .ok (.iadd, 1) := by decide +kernel
theorem dX8_ofStrip_60 : decode cX8_ofStrip 60 = .ok (.iaload, 1) := by decide +kernel
theorem dX8_ofStrip_61 : decode cX8_ofStrip 61 = .ok (.aload_n 0, 1) := by decide +kernel
theorem dX8_ofStrip_62 : decode cX8_ofStrip 62 = .ok (.getfield 7, 3) := by decide +kernel
theorem dX8_ofStrip_65 : decode cX8_ofStrip 65 = .ok (.bipush 6, 2) := by decide +kernel
theorem dX8_ofStrip_67 : decode cX8_ofStrip 67 = .ok (.iload 4, 2) := by decide +kernel
theorem dX8_ofStrip_69 : decode cX8_ofStrip 69 = .ok (.iadd, 1) := by decide +kernel
theorem dX8_ofStrip_70 : decode cX8_ofStrip 70 = .ok (.iaload, 1) := by decide +kernel
theorem dX8_ofStrip_71 : decode cX8_ofStrip 71 = .ok (.invokevirtual 99, 3) := by decide +kernel
theorem dX8_ofStrip_74 : decode cX8_ofStrip 74 = .ok (.iadd, 1) := by decide +kernel
theorem dX8_ofStrip_75 : decode cX8_ofStrip 75 = .ok (.iadd, 1) := by decide +kernel
theorem dX8_ofStrip_76 : decode cX8_ofStrip 76 = .ok (.istore_n 2, 1) := by decide +kernel
theorem dX8_ofStrip_77 : decode cX8_ofStrip 77 = .ok (.iinc 3 1, 3) := by decide +kernel
theorem dX8_ofStrip_80 : decode cX8_ofStrip 80 = .ok (.goto (-76), 3) := by decide +kernel
theorem dX8_ofStrip_83 : decode cX8_ofStrip 83 = .ok (.iload_n 2, 1) := by decide +kernel
theorem dX8_ofStrip_84 : decode cX8_ofStrip 84 = .ok (.ireturn, 1) := by decide +kernel
theorem dX8_energy_0 : decode cX8_energy 0 = .ok (.aload_n 0, 1) := by decide +kernel
theorem dX8_energy_1 : decode cX8_energy 1 = .ok (.iconst 0, 1) := by decide +kernel
theorem dX8_energy_2 : decode cX8_energy 2 = .ok (.invokevirtual 102, 3) := by decide +kernel
theorem dX8_energy_5 : decode cX8_energy 5 = .ok (.ireturn, 1) := by decide +kernel
theorem dX8_gain_0 : decode cX8_gain 0 = .ok (.aload_n 0, 1) := by decide +kernel
theorem dX8_gain_1 : decode cX8_gain 1 = .ok (.iload_n 1, 1) := by decide +kernel
theorem dX8_gain_2 : decode cX8_gain 2 = .ok (.iload_n 2, 1) := by decide +kernel
theorem dX8_gain_3 : decode cX8_gain 3 = .ok (.invokevirtual 89, 3) := by decide +kernel
theorem dX8_gain_6 : decode cX8_gain 6 = .ok (.istore_n 3, 1) := by decide +kernel
theorem dX8_gain_7 : decode cX8_gain 7 = .ok (.iconst (-1), 1) := by decide +kernel
theorem dX8_gain_8 : decode cX8_gain 8 = .ok (.istore 4, 2) := by decide +kernel
theorem dX8_gain_10 : decode cX8_gain 10 = .ok (.iload 4, 2) := by decide +kernel
theorem dX8_gain_12 : decode cX8_gain 12 = .ok (.iconst 2, 1) := by decide +kernel
theorem dX8_gain_13 : decode cX8_gain 13 = .ok (.if_icmp .ge 81, 3) := by decide +kernel
theorem dX8_gain_16 : decode cX8_gain 16 = .ok (.aload_n 0, 1) := by decide +kernel
theorem dX8_gain_17 : decode cX8_gain 17 = .ok (.iload_n 2, 1) := by decide +kernel
theorem dX8_gain_18 : decode cX8_gain 18 = .ok (.iload 4, 2) := by decide +kernel
theorem dX8_gain_20 : decode cX8_gain 20 = .ok (.invokevirtual 92, 3) := by decide +kernel
theorem dX8_gain_23 : decode cX8_gain 23 = .ok (.istore 5, 2) := by decide +kernel
theorem dX8_gain_25 : decode cX8_gain 25 = .ok (.iload_n 3, 1) := by decide +kernel
theorem dX8_gain_26 : decode cX8_gain 26 = .ok (.iload 5, 2) := by decide +kernel
theorem dX8_gain_28 : decode cX8_gain 28 = .ok (.sipush (-1005), 3) := by decide +kernel
theorem dX8_gain_31 : decode cX8_gain 31 = .ok (.if_icmp .ne 7, 3) := by decide +kernel
theorem dX8_gain_34 : decode cX8_gain 34 = .ok (.iconst 0, 1) := by decide +kernel
theorem dX8_gain_35 : decode cX8_gain 35 = .ok (.goto 17, 3) := by decide +kernel
theorem dX8_gain_38 : decode cX8_gain 38 = .ok (.aload_n 0, 1) := by decide +kernel
theorem dX8_gain_39 : decode cX8_gain 39 = .ok (.getfield 7, 3) := by decide +kernel
theorem dX8_gain_42 : decode cX8_gain 42 = .ok (.iconst 3, 1) := by decide +kernel
theorem dX8_gain_43 : decode cX8_gain 43 = .ok (.iaload, 1) := by decide +kernel
theorem dX8_gain_44 : decode cX8_gain 44 = .ok (.aload_n 0, 1) := by decide +kernel
theorem dX8_gain_45 : decode cX8_gain 45 = .ok (.iload_n 1, 1) := by decide +kernel
theorem dX8_gain_46 : decode cX8_gain 46 = .ok (.iload 5, 2) := by decide +kernel
theorem dX8_gain_48 : decode cX8_gain 48 = .ok (.invokevirtual 106, 3) := by decide +kernel
theorem dX8_gain_51 : decode cX8_gain 51 = .ok (.imul, 1) := by decide +kernel
theorem dX8_gain_52 : decode cX8_gain 52 = .ok (.iadd, 1) := by decide +kernel
theorem dX8_gain_53 : decode cX8_gain 53 = .ok (.istore_n 3, 1) := by decide +kernel
theorem dX8_gain_54 : decode cX8_gain 54 = .ok (.iload_n 3, 1) := by decide +kernel
theorem dX8_gain_55 : decode cX8_gain 55 = .ok (.aload_n 0, 1) := by decide +kernel
theorem dX8_gain_56 : decode cX8_gain 56 = .ok (.iload_n 1, 1) := by decide +kernel
theorem dX8_gain_57 : decode cX8_gain 57 = .ok (.iload 4, 2) := by decide +kernel
theorem dX8_gain_59 : decode cX8_gain 59 = .ok (.iadd, 1) := by decide +kernel
theorem dX8_gain_60 : decode cX8_gain 60 = .ok (.invokevirtual 109, 3) := by decide +kernel
theorem dX8_gain_63 : decode cX8_gain 63 = .ok (.ifCond .eq 22, 3) := by decide +kernel
theorem dX8_gain_66 : decode cX8_gain 66 = .ok (.aload_n 0, 1) := by decide +kernel
theorem dX8_gain_67 : decode cX8_gain 67 = .ok (.getfield 7, 3) := by decide +kernel
theorem dX8_gain_70 : decode cX8_gain 70 = .ok (.iconst 4, 1) := by decide +kernel
theorem dX8_gain_71 : decode cX8_gain 71 = .ok (.iaload, 1) := by decide +kernel
theorem dX8_gain_72 : decode cX8_gain 72 = .ok (.aload_n 0, 1) := by decide +kernel
theorem dX8_gain_73 : decode cX8_gain 73 = .ok (.iload_n 1, 1) := by decide +kernel
theorem dX8_gain_74 : decode cX8_gain 74 = .ok (.iload 4, 2) := by decide +kernel
theorem dX8_gain_76 : decode cX8_gain 76 = .ok (.iadd, 1) := by decide +kernel
theorem dX8_gain_77 : decode cX8_gain 77 = .ok (.iload_n 2, 1) := by decide +kernel
theorem dX8_gain_78 : decode cX8_gain 78 = .ok (.invokevirtual 106, 3) := by decide +kernel
theorem dX8_gain_81 : decode cX8_gain 81 = .ok (.imul, 1) := by decide +kernel
theorem dX8_gain_82 : decode cX8_gain 82 = .ok (.goto 4, 3) := by decide +kernel
theorem dX8_gain_85 : decode cX8_gain 85 = .ok (.iconst 0, 1) := by decide +kernel
theorem dX8_gain_86 : decode cX8_gain 86 = .ok (.iadd, 1) := by decide +kernel
theorem dX8_gain_87 : decode cX8_gain 87 = .ok (.istore_n 3, 1) := by decide +kernel
theorem dX8_gain_88 : decode cX8_gain 88 = .ok (.iinc 4 2, 3) := by decide +kernel
theorem dX8_gain_91 : decode cX8_gain 91 = .ok (.goto (-81), 3) := by decide +kernel
theorem dX8_gain_94 : decode cX8_gain 94 = .ok (.bipush (-2), 2) := by decide +kernel
theorem dX8_gain_96 : decode cX8_gain 96 = .ok (.aload_n 0, 1) := by decide +kernel
theorem dX8_gain_97 : decode cX8_gain 97 = .ok (.iload_n 1, 1) := by decide +kernel
theorem dX8_gain_98 : decode cX8_gain 98 = .ok (.iload_n 2, 1) := by decide +kernel
theorem dX8_gain_99 : decode cX8_gain 99 = .ok (.invokevirtual 106, 3) := by decide +kernel
theorem dX8_gain_102 : decode cX8_gain 102 = .ok (.imul, 1) := by decide +kernel
theorem dX8_gain_103 : decode cX8_gain 103 = .ok (.iload_n 3, 1) := by decide +kernel
theorem dX8_gain_104 : decode cX8_gain 104 = .ok (.imul, 1) := by decide +kernel
theorem dX8_gain_105 : decode cX8_gain 105 = .ok (.ireturn, 1) := by decide +kernel
theorem dX8_states_0 : decode cX8_states 0 = .ok (.iconst 1, 1) := by decide +kernel
theorem dX8_states_1 : decode cX8_states 1 = .ok (.aload_n 0, 1) := by decide +kernel
theorem dX8_states_2 : decode cX8_states 2 = .ok (.getfield 7, 3) := by decide +kernel
theorem dX8_states_5 : decode cX8_states 5 = .ok (.iconst 1, 1) := by decide +kernel
theorem dX8_states_6 : decode cX8_states 6 = .ok (.iaload, 1) := by decide +kernel
theorem dX8_states_7 : decode cX8_states 7 = .ok (.ishl, 1) := by decide +kernel
theorem dX8_states_8 : decode cX8_states 8 = .ok (.ireturn, 1) := by decide +kernel
theorem dX8_countsFrom_0 : decode cX8_countsFrom 0 = .ok (.iconst 0, 1) := by decide +kernel
theorem dX8_countsFrom_1 : decode cX8_countsFrom 1 = .ok (.istore 5, 2) := by decide +kernel
theorem dX8_countsFrom_3 : decode cX8_countsFrom 3 = .ok (.iload 5, 2) := by decide +kernel
theorem dX8_countsFrom_5 : decode cX8_countsFrom 5 = .ok (.sipush 3208, 3) := by decide +kernel
theorem dX8_countsFrom_8 : decode cX8_countsFrom 8 = .ok (.if_icmp .ge 17, 3) := by decide +kernel
theorem dX8_countsFrom_11 : decode cX8_countsFrom 11 = .ok (.aload_n 0, 1) := by decide +kernel
theorem dX8_countsFrom_12 : decode cX8_countsFrom 12 = .ok (.getfield 25, 3) := by decide +kernel
theorem dX8_countsFrom_15 : decode cX8_countsFrom 15 = .ok (.iload 5, 2) := by decide +kernel
theorem dX8_countsFrom_17 : decode cX8_countsFrom 17 = .ok (.iconst 0, 1) := by decide +kernel
theorem dX8_countsFrom_18 : decode cX8_countsFrom 18 = .ok (.iastore, 1) := by decide +kernel
theorem dX8_countsFrom_19 : decode cX8_countsFrom 19 = .ok (.iinc 5 1, 3) := by decide +kernel
theorem dX8_countsFrom_22 : decode cX8_countsFrom 22 = .ok (.goto (-19), 3) := by decide +kernel
theorem dX8_countsFrom_25 : decode cX8_countsFrom 25 = .ok (.iload_n 2, 1) := by decide +kernel
theorem dX8_countsFrom_26 : decode cX8_countsFrom 26 = .ok (.istore 5, 2) := by decide +kernel
theorem dX8_countsFrom_28 : decode cX8_countsFrom 28 = .ok (.iload 5, 2) := by decide +kernel
theorem dX8_countsFrom_30 : decode cX8_countsFrom 30 = .ok (.iload_n 3, 1) := by decide +kernel
theorem dX8_countsFrom_31 : decode cX8_countsFrom 31 = .ok (.if_icmp .gt 34, 3) := by decide +kernel
theorem dX8_countsFrom_34 : decode cX8_countsFrom 34 = .ok (.aload_n 0, 1) := by decide +kernel
theorem dX8_countsFrom_35 : decode cX8_countsFrom 35 = .ok (.getfield 25, 3) := by decide +kernel
theorem dX8_countsFrom_38 : decode cX8_countsFrom 38 = .ok (.sipush 401, 3) := by decide +kernel
theorem dX8_countsFrom_41 : decode cX8_countsFrom 41 = .ok (.iload 5, 2) := by decide +kernel
theorem dX8_countsFrom_43 : decode cX8_countsFrom 43 = .ok (.imul, 1) := by decide +kernel
theorem dX8_countsFrom_44 : decode cX8_countsFrom 44 = .ok (.sipush 200, 3) := by decide +kernel
theorem dX8_countsFrom_47 : decode cX8_countsFrom 47 = .ok (.iadd, 1) := by decide +kernel
theorem dX8_countsFrom_48 : decode cX8_countsFrom 48 = .ok (.aload_n 0, 1) := by decide +kernel
theorem dX8_countsFrom_49 : decode cX8_countsFrom 49 = .ok (.iload_n 1, 1) := by decide +kernel
theorem dX8_countsFrom_50 : decode cX8_countsFrom 50 = .ok (.iconst 0, 1) := by decide +kernel
theorem dX8_countsFrom_51 : decode cX8_countsFrom 51 = .ok (.iload 5, 2) := by decide +kernel
theorem dX8_countsFrom_53 : decode cX8_countsFrom 53 = .ok (.invokevirtual 95, 3) := by decide +kernel
theorem dX8_countsFrom_56 : decode cX8_countsFrom 56 = .ok (.iadd, 1) := by decide +kernel
theorem dX8_countsFrom_57 : decode cX8_countsFrom 57 = .ok (.iconst 1, 1) := by decide +kernel
theorem dX8_countsFrom_58 : decode cX8_countsFrom 58 = .ok (.iastore, 1) := by decide +kernel
theorem dX8_countsFrom_59 : decode cX8_countsFrom 59 = .ok (.iinc 5 1, 3) := by decide +kernel
theorem dX8_countsFrom_62 : decode cX8_countsFrom 62 = .ok (.goto (-34), 3) := by decide +kernel
theorem dX8_countsFrom_65 : decode cX8_countsFrom 65 = .ok (.iconst 1, 1) := by decide +kernel
theorem dX8_countsFrom_66 : decode cX8_countsFrom 66 = .ok (.istore 5, 2) := by decide +kernel
theorem dX8_countsFrom_68 : decode cX8_countsFrom 68 = .ok (.iload 5, 2) := by decide +kernel
theorem dX8_countsFrom_70 : decode cX8_countsFrom 70 = .ok (.aload_n 0, 1) := by decide +kernel
theorem dX8_countsFrom_71 : decode cX8_countsFrom 71 = .ok (.getfield 7, 3) := by decide +kernel
theorem dX8_countsFrom_74 : decode cX8_countsFrom 74 = .ok (.iconst 0, 1) := by decide +kernel
theorem dX8_countsFrom_75 : decode cX8_countsFrom 75 = .ok (.iaload, 1) := by decide +kernel
theorem dX8_countsFrom_76 : decode cX8_countsFrom 76 = .ok (.if_icmp .ge 182, 3) := by decide +kernel
theorem dX8_countsFrom_79 : decode cX8_countsFrom 79 = .ok (.iconst 0, 1) := by decide +kernel
theorem dX8_countsFrom_80 : decode cX8_countsFrom 80 = .ok (.istore 6, 2) := by decide +kernel
theorem dX8_countsFrom_82 : decode cX8_countsFrom 82 = .ok (.iload 6, 2) := by decide +kernel
theorem dX8_countsFrom_84 : decode cX8_countsFrom 84 = .ok (.sipush 3208, 3) := by decide +kernel
theorem dX8_countsFrom_87 : decode cX8_countsFrom 87 = .ok (.if_icmp .ge 17, 3) := by decide +kernel
theorem dX8_countsFrom_90 : decode cX8_countsFrom 90 = .ok (.aload_n 0, 1) := by decide +kernel
theorem dX8_countsFrom_91 : decode cX8_countsFrom 91 = .ok (.getfield 28, 3) := by decide +kernel
theorem dX8_countsFrom_94 : decode cX8_countsFrom 94 = .ok (.iload 6, 2) := by decide +kernel
theorem dX8_countsFrom_96 : decode cX8_countsFrom 96 = .ok (.iconst 0, 1) := by decide +kernel
theorem dX8_countsFrom_97 : decode cX8_countsFrom 97 = .ok (.iastore, 1) := by decide +kernel
theorem dX8_countsFrom_98 : decode cX8_countsFrom 98 = .ok (.iinc 6 1, 3) := by decide +kernel
theorem dX8_countsFrom_101 : decode cX8_countsFrom 101 = .ok (.goto (-19), 3) := by decide +kernel
theorem dX8_countsFrom_104 : decode cX8_countsFrom 104 = .ok (.iconst 0, 1) := by decide +kernel
theorem dX8_countsFrom_105 : decode cX8_countsFrom 105 = .ok (.istore 6, 2) := by decide +kernel
theorem dX8_countsFrom_107 : decode cX8_countsFrom 107 = .ok (.iload 6, 2) := by decide +kernel
theorem dX8_countsFrom_109 : decode cX8_countsFrom 109 = .ok (.aload_n 0, 1) := by decide +kernel
theorem dX8_countsFrom_110 : decode cX8_countsFrom 110 = .ok (.invokevirtual 112, 3) := by decide +kernel
theorem dX8_countsFrom_113 : decode cX8_countsFrom 113 = .ok (.if_icmp .ge 108, 3) := by decide +kernel
theorem dX8_countsFrom_116 : decode cX8_countsFrom 116 = .ok (.iconst 0, 1) := by decide +kernel
theorem dX8_countsFrom_117 : decode cX8_countsFrom 117 = .ok (.istore 7, 2) := by decide +kernel
theorem dX8_countsFrom_119 : decode cX8_countsFrom 119 = .ok (.iload 7, 2) := by decide +kernel
theorem dX8_countsFrom_121 : decode cX8_countsFrom 121 = .ok (.aload_n 0, 1) := by decide +kernel
theorem dX8_countsFrom_122 : decode cX8_countsFrom 122 = .ok (.invokevirtual 112, 3) := by decide +kernel
theorem dX8_countsFrom_125 : decode cX8_countsFrom 125 = .ok (.if_icmp .ge 90, 3) := by decide +kernel
theorem dX8_countsFrom_128 : decode cX8_countsFrom 128 = .ok (.aload_n 0, 1) := by decide +kernel
theorem dX8_countsFrom_129 : decode cX8_countsFrom 129 = .ok (.iload_n 1, 1) := by decide +kernel
theorem dX8_countsFrom_130 : decode cX8_countsFrom 130 = .ok (.iload 6, 2) := by decide +kernel
theorem dX8_countsFrom_132 : decode cX8_countsFrom 132 = .ok (.iload 7, 2) := by decide +kernel
theorem dX8_countsFrom_134 : decode cX8_countsFrom 134 = .ok (.invokevirtual 99, 3) := by decide +kernel
theorem dX8_countsFrom_137 : decode cX8_countsFrom 137 = .ok (.aload_n 0, 1) := by decide +kernel
theorem dX8_countsFrom_138 : decode cX8_countsFrom 138 = .ok (.iload_n 1, 1) := by decide +kernel
theorem dX8_countsFrom_139 : decode cX8_countsFrom 139 = .ok (.iload 5, 2) := by decide +kernel
theorem dX8_countsFrom_141 : decode cX8_countsFrom 141 = .ok (.iload 7, 2) := by decide +kernel
theorem dX8_countsFrom_143 : decode cX8_countsFrom 143 = .ok (.invokevirtual 95, 3) := by decide +kernel
theorem dX8_countsFrom_146 : decode cX8_countsFrom 146 = .ok (.iadd, 1) := by decide +kernel
theorem dX8_countsFrom_147 : decode cX8_countsFrom 147 = .ok (.istore 8, 2) := by decide +kernel
theorem dX8_countsFrom_149 : decode cX8_countsFrom 149 = .ok (.iconst 0, 1) := by decide +kernel
theorem dX8_countsFrom_150 : decode cX8_countsFrom 150 = .ok (.istore 9, 2) := by decide +kernel
theorem dX8_countsFrom_152 : decode cX8_countsFrom 152 = .ok (.iload 9, 2) := by decide +kernel
theorem dX8_countsFrom_154 : decode cX8_countsFrom 154 = .ok (.sipush 401, 3) := by decide +kernel
theorem dX8_countsFrom_157 : decode cX8_countsFrom 157 = .ok (.if_icmp .ge 52, 3) := by decide +kernel
theorem dX8_countsFrom_160 : decode cX8_countsFrom 160 = .ok (.aload_n 0, 1) := by decide +kernel
theorem dX8_countsFrom_161 : decode cX8_countsFrom 161 = .ok (.getfield 25, 3) := by decide +kernel
theorem dX8_countsFrom_164 : decode cX8_countsFrom 164 = .ok (.sipush 401, 3) := by decide +kernel
theorem dX8_countsFrom_167 : decode cX8_countsFrom 167 = .ok (.iload 6, 2) := by decide +kernel
theorem dX8_countsFrom_169 : decode cX8_countsFrom 169 = .ok (.imul, 1) := by decide +kernel
theorem dX8_countsFrom_170 : decode cX8_countsFrom 170 = .ok (.iload 9, 2) := by decide +kernel
theorem dX8_countsFrom_172 : decode cX8_countsFrom 172 = .ok (.iadd, 1) := by decide +kernel
theorem dX8_countsFrom_173 : decode cX8_countsFrom 173 = .ok (.iaload, 1) := by decide +kernel
theorem dX8_countsFrom_174 : decode cX8_countsFrom 174 = .ok (.istore 10, 2) := by decide +kernel
theorem dX8_countsFrom_176 : decode cX8_countsFrom 176 = .ok (.iload 10, 2) := by decide +kernel
theorem dX8_countsFrom_178 : decode cX8_countsFrom 178 = .ok (.ifCond .le 25, 3) := by decide +kernel
theorem dX8_countsFrom_181 : decode cX8_countsFrom 181 = .ok (.aload_n 0, 1) := by decide +kernel
theorem dX8_countsFrom_182 : decode cX8_countsFrom 182 = .ok (.getfield 28, 3) := by decide +kernel
theorem dX8_countsFrom_185 : decode cX8_countsFrom 185 = .ok (.sipush 401, 3) := by decide +kernel
theorem dX8_countsFrom_188 : decode cX8_countsFrom 188 = .ok (.iload 7, 2) := by decide +kernel
theorem dX8_countsFrom_190 : decode cX8_countsFrom 190 = .ok (.imul, 1) := by decide +kernel
theorem dX8_countsFrom_191 : decode cX8_countsFrom 191 = .ok (.iload 9, 2) := by decide +kernel
theorem dX8_countsFrom_193 : decode cX8_countsFrom 193 = .ok (.iadd, 1) := by decide +kernel
theorem dX8_countsFrom_194 : decode cX8_countsFrom 194 = .ok (.iload 8, 2) := by decide +kernel
theorem dX8_countsFrom_196 : decode cX8_countsFrom 196 = .ok (.iadd, 1) := by decide +kernel
theorem dX8_countsFrom_197 : decode cX8_countsFrom 197 = .ok (.dup2, 1) := by decide +kernel
theorem dX8_countsFrom_198 : decode cX8_countsFrom 198 = .ok (.iaload, 1) := by decide +kernel
theorem dX8_countsFrom_199 : decode cX8_countsFrom 199 = .ok (.iload 10, 2) := by decide +kernel
theorem dX8_countsFrom_201 : decode cX8_countsFrom 201 = .ok (.iadd, 1) := by decide +kernel
theorem dX8_countsFrom_202 : decode cX8_countsFrom 202 = .ok (.iastore, 1) := by decide +kernel
theorem dX8_countsFrom_203 : decode cX8_countsFrom 203 = .ok (.iinc 9 1, 3) := by decide +kernel
theorem dX8_countsFrom_206 : decode cX8_countsFrom 206 = .ok (.goto (-54), 3) := by decide +kernel
theorem dX8_countsFrom_209 : decode cX8_countsFrom 209 = .ok (.iinc 7 1, 3) := by decide +kernel
theorem dX8_countsFrom_212 : decode cX8_countsFrom 212 = .ok (.goto (-93), 3) := by decide +kernel
theorem dX8_countsFrom_215 : decode cX8_countsFrom 215 = .ok (.iinc 6 1, 3) := by decide +kernel
theorem dX8_countsFrom_218 : decode cX8_countsFrom 218 = .ok (.goto (-111), 3) := by decide +kernel
theorem dX8_countsFrom_221 : decode cX8_countsFrom 221 = .ok (.iconst 0, 1) := by decide +kernel
theorem dX8_countsFrom_222 : decode cX8_countsFrom 222 = .ok (.istore 6, 2) := by decide +kernel
theorem dX8_countsFrom_224 : decode cX8_countsFrom 224 = .ok (.iload 6, 2) := by decide +kernel
theorem dX8_countsFrom_226 : decode cX8_countsFrom 226 = .ok (.sipush 3208, 3) := by decide +kernel
theorem dX8_countsFrom_229 : decode cX8_countsFrom 229 = .ok (.if_icmp .ge 23, 3) := by decide +kernel
theorem dX8_countsFrom_232 : decode cX8_countsFrom 232 = .ok (.aload_n 0, 1) := by decide +kernel
theorem dX8_countsFrom_233 : decode cX8_countsFrom 233 = .ok (.getfield 25, 3) := by decide +kernel
theorem dX8_countsFrom_236 : decode cX8_countsFrom 236 = .ok (.iload 6, 2) := by decide +kernel
theorem dX8_countsFrom_238 : decode cX8_countsFrom 238 = .ok (.aload_n 0, 1) := by decide +kernel
theorem dX8_countsFrom_239 : decode cX8_countsFrom 239 = .ok (.getfield 28, 3) := by decide +kernel
theorem dX8_countsFrom_242 : decode cX8_countsFrom 242 = .ok (.iload 6, 2) := by decide +kernel
theorem dX8_countsFrom_244 : decode cX8_countsFrom 244 = .ok (.iaload, 1) := by decide +kernel
theorem dX8_countsFrom_245 : decode cX8_countsFrom 245 = .ok (.iastore, 1) := by decide +kernel
theorem dX8_countsFrom_246 : decode cX8_countsFrom 246 = .ok (.iinc 6 1, 3) := by decide +kernel
theorem dX8_countsFrom_249 : decode cX8_countsFrom 249 = .ok (.goto (-25), 3) := by decide +kernel
theorem dX8_countsFrom_252 : decode cX8_countsFrom 252 = .ok (.iinc 5 1, 3) := by decide +kernel
theorem dX8_countsFrom_255 : decode cX8_countsFrom 255 = .ok (.goto (-187), 3) := by decide +kernel
theorem dX8_countsFrom_258 : decode cX8_countsFrom 258 = .ok (.iconst 0, 1) := by decide +kernel
theorem dX8_countsFrom_259 : decode cX8_countsFrom 259 = .ok (.istore 5, 2) := by decide +kernel
theorem dX8_countsFrom_261 : decode cX8_countsFrom 261 = .ok (.iload 5, 2) := by decide +kernel
theorem dX8_countsFrom_263 : decode cX8_countsFrom 263 = .ok (.aload_n 0, 1) := by decide +kernel
theorem dX8_countsFrom_264 : decode cX8_countsFrom 264 = .ok (.invokevirtual 112, 3) := by decide +kernel
theorem dX8_countsFrom_267 : decode cX8_countsFrom 267 = .ok (.if_icmp .ge 81, 3) := by decide +kernel
theorem dX8_countsFrom_270 : decode cX8_countsFrom 270 = .ok (.iload 4, 2) := by decide +kernel
theorem dX8_countsFrom_272 : decode cX8_countsFrom 272 = .ok (.ifCond .eq 14, 3) := by decide +kernel
theorem dX8_countsFrom_275 : decode cX8_countsFrom 275 = .ok (.aload_n 0, 1) := by decide +kernel
theorem dX8_countsFrom_276 : decode cX8_countsFrom 276 = .ok (.iload_n 1, 1) := by decide +kernel
theorem dX8_countsFrom_277 : decode cX8_countsFrom 277 = .ok (.iload 5, 2) := by decide +kernel
theorem dX8_countsFrom_279 : decode cX8_countsFrom 279 = .ok (.iload_n 2, 1) := by decide +kernel
theorem dX8_countsFrom_280 : decode cX8_countsFrom 280 = .ok (.invokevirtual 99, 3) := by decide +kernel
theorem dX8_countsFrom_283 : decode cX8_countsFrom 283 = .ok (.goto 4, 3) := by decide +kernel
theorem dX8_countsFrom_286 : decode cX8_countsFrom 286 = .ok (.iconst 0, 1) := by decide +kernel
theorem dX8_countsFrom_287 : decode cX8_countsFrom 287 = .ok (.istore 6, 2) := by decide +kernel
theorem dX8_countsFrom_289 : decode cX8_countsFrom 289 = .ok (.iconst 0, 1) := by decide +kernel
theorem dX8_countsFrom_290 : decode cX8_countsFrom 290 = .ok (.istore 7, 2) := by decide +kernel
theorem dX8_countsFrom_292 : decode cX8_countsFrom 292 = .ok (.iload 7, 2) := by decide +kernel
theorem dX8_countsFrom_294 : decode cX8_countsFrom 294 = .ok (.sipush 401, 3) := by decide +kernel
theorem dX8_countsFrom_297 : decode cX8_countsFrom 297 = .ok (.if_icmp .ge 45, 3) := by decide +kernel
theorem dX8_countsFrom_300 : decode cX8_countsFrom 300 = .ok (.aload_n 0, 1) := by decide +kernel
theorem dX8_countsFrom_301 : decode cX8_countsFrom 301 = .ok (.getfield 25, 3) := by decide +kernel
theorem dX8_countsFrom_304 : decode cX8_countsFrom 304 = .ok (.sipush 401, 3) := by decide +kernel
theorem dX8_countsFrom_307 : decode cX8_countsFrom 307 = .ok (.iload 5, 2) := by decide +kernel
theorem dX8_countsFrom_309 : decode cX8_countsFrom 309 = .ok (.imul, 1) := by decide +kernel
theorem dX8_countsFrom_310 : decode cX8_countsFrom 310 = .ok (.iload 7, 2) := by decide +kernel
theorem dX8_countsFrom_312 : decode cX8_countsFrom 312 = .ok (.iadd, 1) := by decide +kernel
theorem dX8_countsFrom_313 : decode cX8_countsFrom 313 = .ok (.iaload, 1) := by decide +kernel
theorem dX8_countsFrom_314 : decode cX8_countsFrom 314 = .ok (.istore 8, 2) := by decide +kernel
theorem dX8_countsFrom_316 : decode cX8_countsFrom 316 = .ok (.iload 8, 2) := by decide +kernel
theorem dX8_countsFrom_318 : decode cX8_countsFrom 318 = .ok (.ifCond .le 18, 3) := by decide +kernel
theorem dX8_countsFrom_321 : decode cX8_countsFrom 321 = .ok (.aload_n 0, 1) := by decide +kernel
theorem dX8_countsFrom_322 : decode cX8_countsFrom 322 = .ok (.getfield 22, 3) := by decide +kernel
theorem dX8_countsFrom_325 : decode cX8_countsFrom 325 = .ok (.iload 7, 2) := by decide +kernel
theorem dX8_countsFrom_327 : decode cX8_countsFrom 327 = .ok (.iload 6, 2) := by decide +kernel
theorem dX8_countsFrom_329 : decode cX8_countsFrom 329 = .ok (.iadd, 1) := by decide +kernel
theorem dX8_countsFrom_330 : decode cX8_countsFrom 330 = .ok (.dup2, 1) := by decide +kernel
theorem dX8_countsFrom_331 : decode cX8_countsFrom 331 = .ok (.iaload, 1) := by decide +kernel
theorem dX8_countsFrom_332 : decode cX8_countsFrom 332 = .ok (.iload 8, 2) := by decide +kernel
theorem dX8_countsFrom_334 : decode cX8_countsFrom 334 = .ok (.iadd, 1) := by decide +kernel
theorem dX8_countsFrom_335 : decode cX8_countsFrom 335 = .ok (.iastore, 1) := by decide +kernel
theorem dX8_countsFrom_336 : decode cX8_countsFrom 336 = .ok (.iinc 7 1, 3) := by decide +kernel
theorem dX8_countsFrom_339 : decode cX8_countsFrom 339 = .ok (.goto (-47), 3) := by decide +kernel
theorem dX8_countsFrom_342 : decode cX8_countsFrom 342 = .ok (.iinc 5 1, 3) := by decide +kernel
theorem dX8_countsFrom_345 : decode cX8_countsFrom 345 = .ok (.goto (-84), 3) := by decide +kernel
theorem dX8_countsFrom_348 : decode cX8_countsFrom 348 = .ok (.return_, 1) := by decide +kernel
theorem dX8_countsAll_0 : decode cX8_countsAll 0 = .ok (.iconst 0, 1) := by decide +kernel
theorem dX8_countsAll_1 : decode cX8_countsAll 1 = .ok (.istore_n 2, 1) := by decide +kernel
theorem dX8_countsAll_2 : decode cX8_countsAll 2 = .ok (.iload_n 2, 1) := by decide +kernel
theorem dX8_countsAll_3 : decode cX8_countsAll 3 = .ok (.sipush 401, 3) := by decide +kernel
theorem dX8_countsAll_6 : decode cX8_countsAll 6 = .ok (.if_icmp .ge 16, 3) := by decide +kernel
theorem dX8_countsAll_9 : decode cX8_countsAll 9 = .ok (.aload_n 0, 1) := by decide +kernel
theorem dX8_countsAll_10 : decode cX8_countsAll 10 = .ok (.getfield 22, 3) := by decide +kernel
theorem dX8_countsAll_13 : decode cX8_countsAll 13 = .ok (.iload_n 2, 1) := by decide +kernel
theorem dX8_countsAll_14 : decode cX8_countsAll 14 = .ok (.iconst 0, 1) := by decide +kernel
theorem dX8_countsAll_15 : decode cX8_countsAll 15 = .ok (.iastore, 1) := by decide +kernel
theorem dX8_countsAll_16 : decode cX8_countsAll 16 = .ok (.iinc 2 1, 3) := by decide +kernel
theorem dX8_countsAll_19 : decode cX8_countsAll 19 = .ok (.goto (-17), 3) := by decide +kernel
theorem dX8_countsAll_22 : decode cX8_countsAll 22 = .ok (.aload_n 0, 1) := by decide +kernel
theorem dX8_countsAll_23 : decode cX8_countsAll 23 = .ok (.invokevirtual 85, 3) := by decide +kernel
theorem dX8_countsAll_26 : decode cX8_countsAll 26 = .ok (.ifCond .eq 30, 3) := by decide +kernel
theorem dX8_countsAll_29 : decode cX8_countsAll 29 = .ok (.iconst 0, 1) := by decide +kernel
theorem dX8_countsAll_30 : decode cX8_countsAll 30 = .ok (.istore_n 2, 1) := by decide +kernel
theorem dX8_countsAll_31 : decode cX8_countsAll 31 = .ok (.iload_n 2, 1) := by decide +kernel
theorem dX8_countsAll_32 : decode cX8_countsAll 32 = .ok (.aload_n 0, 1) := by decide +kernel
theorem dX8_countsAll_33 : decode cX8_countsAll 33 = .ok (.invokevirtual 112, 3) := by decide +kernel
theorem dX8_countsAll_36 : decode cX8_countsAll 36 = .ok (.if_icmp .ge 17, 3) := by decide +kernel
theorem dX8_countsAll_39 : decode cX8_countsAll 39 = .ok (.aload_n 0, 1) := by decide +kernel
theorem dX8_countsAll_40 : decode cX8_countsAll 40 = .ok (.iload_n 1, 1) := by decide +kernel
theorem dX8_countsAll_41 : decode cX8_countsAll 41 = .ok (.iload_n 2, 1) := by decide +kernel
theorem dX8_countsAll_42 : decode cX8_countsAll 42 = .ok (.iload_n 2, 1) := by decide +kernel
theorem dX8_countsAll_43 : decode cX8_countsAll 43 = .ok (.iconst 1, 1) := by decide +kernel
theorem dX8_countsAll_44 : decode cX8_countsAll 44 = .ok (.invokevirtual 116, 3) := by decide +kernel
theorem dX8_countsAll_47 : decode cX8_countsAll 47 = .ok (.iinc 2 1, 3) := by decide +kernel
theorem dX8_countsAll_50 : decode cX8_countsAll 50 = .ok (.goto (-19), 3) := by decide +kernel
theorem dX8_countsAll_53 : decode cX8_countsAll 53 = .ok (.goto 16, 3) := by decide +kernel
theorem dX8_countsAll_56 : decode cX8_countsAll 56 = .ok (.aload_n 0, 1) := by decide +kernel
theorem dX8_countsAll_57 : decode cX8_countsAll 57 = .ok (.iload_n 1, 1) := by decide +kernel
theorem dX8_countsAll_58 : decode cX8_countsAll 58 = .ok (.iconst 0, 1) := by decide +kernel
theorem dX8_countsAll_59 : decode cX8_countsAll 59 = .ok (.aload_n 0, 1) := by decide +kernel
theorem dX8_countsAll_60 : decode cX8_countsAll 60 = .ok (.invokevirtual 112, 3) := by decide +kernel
theorem dX8_countsAll_63 : decode cX8_countsAll 63 = .ok (.iconst 1, 1) := by decide +kernel
theorem dX8_countsAll_64 : decode cX8_countsAll 64 = .ok (.isub, 1) := by decide +kernel
theorem dX8_countsAll_65 : decode cX8_countsAll 65 = .ok (.iconst 0, 1) := by decide +kernel
theorem dX8_countsAll_66 : decode cX8_countsAll 66 = .ok (.invokevirtual 116, 3) := by decide +kernel
theorem dX8_countsAll_69 : decode cX8_countsAll 69 = .ok (.return_, 1) := by decide +kernel
theorem dX8_least_0 : decode cX8_least 0 = .ok (.iconst 0, 1) := by decide +kernel
theorem dX8_least_1 : decode cX8_least 1 = .ok (.istore_n 1, 1) := by decide +kernel
theorem dX8_least_2 : decode cX8_least 2 = .ok (.aload_n 0, 1) := by decide +kernel
theorem dX8_least_3 : decode cX8_least 3 = .ok (.getfield 22, 3) := by decide +kernel
theorem dX8_least_6 : decode cX8_least 6 = .ok (.iload_n 1, 1) := by decide +kernel
theorem dX8_least_7 : decode cX8_least 7 = .ok (.iaload, 1) := by decide +kernel
theorem dX8_least_8 : decode cX8_least 8 = .ok (.ifCond .ne 9, 3) := by decide +kernel
theorem dX8_least_11 : decode cX8_least 11 = .ok (.iinc 1 1, 3) := by decide +kernel
theorem dX8_least_14 : decode cX8_least 14 = .ok (.goto (-12), 3) := by decide +kernel
theorem dX8_least_17 : decode cX8_least 17 = .ok (.iload_n 1, 1) := by decide +kernel
theorem dX8_least_18 : decode cX8_least 18 = .ok (.sipush 200, 3) := by decide +kernel
theorem dX8_least_21 : decode cX8_least 21 = .ok (.isub, 1) := by decide +kernel
theorem dX8_least_22 : decode cX8_least 22 = .ok (.ireturn, 1) := by decide +kernel
theorem dX8_greatest_0 : decode cX8_greatest 0 = .ok (.sipush 400, 3) := by decide +kernel
theorem dX8_greatest_3 : decode cX8_greatest 3 = .ok (.istore_n 1, 1) := by decide +kernel
theorem dX8_greatest_4 : decode cX8_greatest 4 = .ok (.aload_n 0, 1) := by decide +kernel
theorem dX8_greatest_5 : decode cX8_greatest 5 = .ok (.getfield 22, 3) := by decide +kernel
theorem dX8_greatest_8 : decode cX8_greatest 8 = .ok (.iload_n 1, 1) := by decide +kernel
theorem dX8_greatest_9 : decode cX8_greatest 9 = .ok (.iaload, 1) := by decide +kernel
theorem dX8_greatest_10 : decode cX8_greatest 10 = .ok (.ifCond .ne 9, 3) := by decide +kernel
theorem dX8_greatest_13 : decode cX8_greatest 13 = .ok (.iinc 1 (-1), 3) := by decide +kernel
theorem dX8_greatest_16 : decode cX8_greatest 16 = .ok (.goto (-12), 3) := by decide +kernel
theorem dX8_greatest_19 : decode cX8_greatest 19 = .ok (.iload_n 1, 1) := by decide +kernel
theorem dX8_greatest_20 : decode cX8_greatest 20 = .ok (.sipush 200, 3) := by decide +kernel
theorem dX8_greatest_23 : decode cX8_greatest 23 = .ok (.isub, 1) := by decide +kernel
theorem dX8_greatest_24 : decode cX8_greatest 24 = .ok (.ireturn, 1) := by decide +kernel
theorem dX8_with_0 : decode cX8_with 0 = .ok (.aload_n 0, 1) := by decide +kernel
theorem dX8_with_1 : decode cX8_with 1 = .ok (.iload_n 1, 1) := by decide +kernel
theorem dX8_with_2 : decode cX8_with 2 = .ok (.invokevirtual 120, 3) := by decide +kernel
theorem dX8_with_5 : decode cX8_with 5 = .ok (.iload_n 2, 1) := by decide +kernel
theorem dX8_with_6 : decode cX8_with 6 = .ok (.i2l, 1) := by decide +kernel
theorem dX8_with_7 : decode cX8_with 7 = .ok (.ldc2_w 124, 3) := by decide +kernel
theorem dX8_with_10 : decode cX8_with 10 = .ok (.ldc2_w 126, 3) := by decide +kernel
theorem dX8_with_13 : decode cX8_with 13 = .ok (.invokestatic 73, 3) := by decide +kernel
theorem dX8_with_16 : decode cX8_with 16 = .ok (.ifCond .eq 16, 3) := by decide +kernel
theorem dX8_with_19 : decode cX8_with 19 = .ok (.aload_n 0, 1) := by decide +kernel
theorem dX8_with_20 : decode cX8_with 20 = .ok (.getfield 22, 3) := by decide +kernel
theorem dX8_with_23 : decode cX8_with 23 = .ok (.sipush 200, 3) := by decide +kernel
theorem dX8_with_26 : decode cX8_with 26 = .ok (.iload_n 2, 1) := by decide +kernel
theorem dX8_with_27 : decode cX8_with 27 = .ok (.iadd, 1) := by decide +kernel
theorem dX8_with_28 : decode cX8_with 28 = .ok (.iaload, 1) := by decide +kernel
theorem dX8_with_29 : decode cX8_with 29 = .ok (.goto 4, 3) := by decide +kernel
theorem dX8_with_32 : decode cX8_with 32 = .ok (.iconst 0, 1) := by decide +kernel
theorem dX8_with_33 : decode cX8_with 33 = .ok (.ireturn, 1) := by decide +kernel
theorem dX8_ups_0 : decode cX8_ups 0 = .ok (.iload_n 0, 1) := by decide +kernel
theorem dX8_ups_1 : decode cX8_ups 1 = .ok (.iconst 1, 1) := by decide +kernel
theorem dX8_ups_2 : decode cX8_ups 2 = .ok (.iand, 1) := by decide +kernel
theorem dX8_ups_3 : decode cX8_ups 3 = .ok (.iload_n 0, 1) := by decide +kernel
theorem dX8_ups_4 : decode cX8_ups 4 = .ok (.iconst 1, 1) := by decide +kernel
theorem dX8_ups_5 : decode cX8_ups 5 = .ok (.ishr, 1) := by decide +kernel
theorem dX8_ups_6 : decode cX8_ups 6 = .ok (.iconst 1, 1) := by decide +kernel
theorem dX8_ups_7 : decode cX8_ups 7 = .ok (.iand, 1) := by decide +kernel
theorem dX8_ups_8 : decode cX8_ups 8 = .ok (.iadd, 1) := by decide +kernel
theorem dX8_ups_9 : decode cX8_ups 9 = .ok (.iload_n 0, 1) := by decide +kernel
theorem dX8_ups_10 : decode cX8_ups 10 = .ok (.iconst 2, 1) := by decide +kernel
theorem dX8_ups_11 : decode cX8_ups 11 = .ok (.ishr, 1) := by decide +kernel
theorem dX8_ups_12 : decode cX8_ups 12 = .ok (.iconst 1, 1) := by decide +kernel
theorem dX8_ups_13 : decode cX8_ups 13 = .ok (.iand, 1) := by decide +kernel
theorem dX8_ups_14 : decode cX8_ups 14 = .ok (.iadd, 1) := by decide +kernel
theorem dX8_ups_15 : decode cX8_ups 15 = .ok (.ireturn, 1) := by decide +kernel
theorem dX8_meets_0 : decode cX8_meets 0 = .ok (.iload_n 3, 1) := by decide +kernel
theorem dX8_meets_1 : decode cX8_meets 1 = .ok (.aload_n 0, 1) := by decide +kernel
theorem dX8_meets_2 : decode cX8_meets 2 = .ok (.iload_n 2, 1) := by decide +kernel
theorem dX8_meets_3 : decode cX8_meets 3 = .ok (.iaload, 1) := by decide +kernel
theorem dX8_meets_4 : decode cX8_meets 4 = .ok (.if_icmp .ge 11, 3) := by decide +kernel
theorem dX8_meets_7 : decode cX8_meets 7 = .ok (.aload_n 0, 1) := by decide +kernel
theorem dX8_meets_8 : decode cX8_meets 8 = .ok (.iload_n 2, 1) := by decide +kernel
theorem dX8_meets_9 : decode cX8_meets 9 = .ok (.iload_n 3, 1) := by decide +kernel
theorem dX8_meets_10 : decode cX8_meets 10 = .ok (.iastore, 1) := by decide +kernel
theorem dX8_meets_11 : decode cX8_meets 11 = .ok (.aload_n 1, 1) := by decide +kernel
theorem dX8_meets_12 : decode cX8_meets 12 = .ok (.iload_n 2, 1) := by decide +kernel
theorem dX8_meets_13 : decode cX8_meets 13 = .ok (.iconst 0, 1) := by decide +kernel
theorem dX8_meets_14 : decode cX8_meets 14 = .ok (.iastore, 1) := by decide +kernel
theorem dX8_meets_15 : decode cX8_meets 15 = .ok (.aload_n 1, 1) := by decide +kernel
theorem dX8_meets_16 : decode cX8_meets 16 = .ok (.iload_n 2, 1) := by decide +kernel
theorem dX8_meets_17 : decode cX8_meets 17 = .ok (.dup2, 1) := by decide +kernel
theorem dX8_meets_18 : decode cX8_meets 18 = .ok (.iaload, 1) := by decide +kernel
theorem dX8_meets_19 : decode cX8_meets 19 = .ok (.iload_n 3, 1) := by decide +kernel
theorem dX8_meets_20 : decode cX8_meets 20 = .ok (.aload_n 0, 1) := by decide +kernel
theorem dX8_meets_21 : decode cX8_meets 21 = .ok (.iload_n 2, 1) := by decide +kernel
theorem dX8_meets_22 : decode cX8_meets 22 = .ok (.iaload, 1) := by decide +kernel
theorem dX8_meets_23 : decode cX8_meets 23 = .ok (.if_icmp .ne 8, 3) := by decide +kernel
theorem dX8_meets_26 : decode cX8_meets 26 = .ok (.iload 4, 2) := by decide +kernel
theorem dX8_meets_28 : decode cX8_meets 28 = .ok (.goto 4, 3) := by decide +kernel
theorem dX8_meets_31 : decode cX8_meets 31 = .ok (.iconst 0, 1) := by decide +kernel
theorem dX8_meets_32 : decode cX8_meets 32 = .ok (.iadd, 1) := by decide +kernel
theorem dX8_meets_33 : decode cX8_meets 33 = .ok (.iastore, 1) := by decide +kernel
theorem dX8_meets_34 : decode cX8_meets 34 = .ok (.return_, 1) := by decide +kernel
theorem dX8_upsFrom_0 : decode cX8_upsFrom 0 = .ok (.iconst 0, 1) := by decide +kernel
theorem dX8_upsFrom_1 : decode cX8_upsFrom 1 = .ok (.istore 4, 2) := by decide +kernel
theorem dX8_upsFrom_3 : decode cX8_upsFrom 3 = .ok (.iload 4, 2) := by decide +kernel
theorem dX8_upsFrom_5 : decode cX8_upsFrom 5 = .ok (.sipush 248, 3) := by decide +kernel
theorem dX8_upsFrom_8 : decode cX8_upsFrom 8 = .ok (.if_icmp .ge 26, 3) := by decide +kernel
theorem dX8_upsFrom_11 : decode cX8_upsFrom 11 = .ok (.aload_n 0, 1) := by decide +kernel
theorem dX8_upsFrom_12 : decode cX8_upsFrom 12 = .ok (.getfield 31, 3) := by decide +kernel
theorem dX8_upsFrom_15 : decode cX8_upsFrom 15 = .ok (.iload 4, 2) := by decide +kernel
theorem dX8_upsFrom_17 : decode cX8_upsFrom 17 = .ok (.ldc 128, 2) := by decide +kernel
theorem dX8_upsFrom_19 : decode cX8_upsFrom 19 = .ok (.iastore, 1) := by decide +kernel
theorem dX8_upsFrom_20 : decode cX8_upsFrom 20 = .ok (.aload_n 0, 1) := by decide +kernel
theorem dX8_upsFrom_21 : decode cX8_upsFrom 21 = .ok (.getfield 34, 3) := by decide +kernel
theorem dX8_upsFrom_24 : decode cX8_upsFrom 24 = .ok (.iload 4, 2) := by decide +kernel
theorem dX8_upsFrom_26 : decode cX8_upsFrom 26 = .ok (.iconst 0, 1) := by decide +kernel
theorem dX8_upsFrom_27 : decode cX8_upsFrom 27 = .ok (.iastore, 1) := by decide +kernel
theorem dX8_upsFrom_28 : decode cX8_upsFrom 28 = .ok (.iinc 4 1, 3) := by decide +kernel
theorem dX8_upsFrom_31 : decode cX8_upsFrom 31 = .ok (.goto (-28), 3) := by decide +kernel
theorem dX8_upsFrom_34 : decode cX8_upsFrom 34 = .ok (.iload_n 1, 1) := by decide +kernel
theorem dX8_upsFrom_35 : decode cX8_upsFrom 35 = .ok (.istore 4, 2) := by decide +kernel
theorem dX8_upsFrom_37 : decode cX8_upsFrom 37 = .ok (.iload 4, 2) := by decide +kernel
theorem dX8_upsFrom_39 : decode cX8_upsFrom 39 = .ok (.iload_n 2, 1) := by decide +kernel
theorem dX8_upsFrom_40 : decode cX8_upsFrom 40 = .ok (.if_icmp .gt 50, 3) := by decide +kernel
theorem dX8_upsFrom_43 : decode cX8_upsFrom 43 = .ok (.aload_n 0, 1) := by decide +kernel
theorem dX8_upsFrom_44 : decode cX8_upsFrom 44 = .ok (.getfield 31, 3) := by decide +kernel
theorem dX8_upsFrom_47 : decode cX8_upsFrom 47 = .ok (.bipush 31, 2) := by decide +kernel
theorem dX8_upsFrom_49 : decode cX8_upsFrom 49 = .ok (.iload 4, 2) := by decide +kernel
theorem dX8_upsFrom_51 : decode cX8_upsFrom 51 = .ok (.imul, 1) := by decide +kernel
theorem dX8_upsFrom_52 : decode cX8_upsFrom 52 = .ok (.iload 4, 2) := by decide +kernel
theorem dX8_upsFrom_54 : decode cX8_upsFrom 54 = .ok (.invokestatic 129, 3) := by decide +kernel
theorem dX8_upsFrom_57 : decode cX8_upsFrom 57 = .ok (.iadd, 1) := by decide +kernel
theorem dX8_upsFrom_58 : decode cX8_upsFrom 58 = .ok (.aload_n 0, 1) := by decide +kernel
theorem dX8_upsFrom_59 : decode cX8_upsFrom 59 = .ok (.iconst 0, 1) := by decide +kernel
theorem dX8_upsFrom_60 : decode cX8_upsFrom 60 = .ok (.iconst 0, 1) := by decide +kernel
theorem dX8_upsFrom_61 : decode cX8_upsFrom 61 = .ok (.iload 4, 2) := by decide +kernel
theorem dX8_upsFrom_63 : decode cX8_upsFrom 63 = .ok (.invokevirtual 95, 3) := by decide +kernel
theorem dX8_upsFrom_66 : decode cX8_upsFrom 66 = .ok (.iastore, 1) := by decide +kernel
theorem dX8_upsFrom_67 : decode cX8_upsFrom 67 = .ok (.aload_n 0, 1) := by decide +kernel
theorem dX8_upsFrom_68 : decode cX8_upsFrom 68 = .ok (.getfield 34, 3) := by decide +kernel
theorem dX8_upsFrom_71 : decode cX8_upsFrom 71 = .ok (.bipush 31, 2) := by decide +kernel
theorem dX8_upsFrom_73 : decode cX8_upsFrom 73 = .ok (.iload 4, 2) := by decide +kernel
theorem dX8_upsFrom_75 : decode cX8_upsFrom 75 = .ok (.imul, 1) := by decide +kernel
theorem dX8_upsFrom_76 : decode cX8_upsFrom 76 = .ok (.iload 4, 2) := by decide +kernel
theorem dX8_upsFrom_78 : decode cX8_upsFrom 78 = .ok (.invokestatic 129, 3) := by decide +kernel
theorem dX8_upsFrom_81 : decode cX8_upsFrom 81 = .ok (.iadd, 1) := by decide +kernel
theorem dX8_upsFrom_82 : decode cX8_upsFrom 82 = .ok (.iconst 1, 1) := by decide +kernel
theorem dX8_upsFrom_83 : decode cX8_upsFrom 83 = .ok (.iastore, 1) := by decide +kernel
theorem dX8_upsFrom_84 : decode cX8_upsFrom 84 = .ok (.iinc 4 1, 3) := by decide +kernel
theorem dX8_upsFrom_87 : decode cX8_upsFrom 87 = .ok (.goto (-50), 3) := by decide +kernel
theorem dX8_upsFrom_90 : decode cX8_upsFrom 90 = .ok (.iconst 1, 1) := by decide +kernel
theorem dX8_upsFrom_91 : decode cX8_upsFrom 91 = .ok (.istore 4, 2) := by decide +kernel
theorem dX8_upsFrom_93 : decode cX8_upsFrom 93 = .ok (.iload 4, 2) := by decide +kernel
theorem dX8_upsFrom_95 : decode cX8_upsFrom 95 = .ok (.aload_n 0, 1) := by decide +kernel
theorem dX8_upsFrom_96 : decode cX8_upsFrom 96 = .ok (.getfield 7, 3) := by decide +kernel
theorem dX8_upsFrom_99 : decode cX8_upsFrom 99 = .ok (.iconst 0, 1) := by decide +kernel
theorem dX8_upsFrom_100 : decode cX8_upsFrom 100 = .ok (.iaload, 1) := by decide +kernel
theorem dX8_upsFrom_101 : decode cX8_upsFrom 101 = .ok (.if_icmp .ge 237, 3) := by decide +kernel
theorem dX8_upsFrom_104 : decode cX8_upsFrom 104 = .ok (.iconst 0, 1) := by decide +kernel
theorem dX8_upsFrom_105 : decode cX8_upsFrom 105 = .ok (.istore 5, 2) := by decide +kernel
theorem dX8_upsFrom_107 : decode cX8_upsFrom 107 = .ok (.iload 5, 2) := by decide +kernel
theorem dX8_upsFrom_109 : decode cX8_upsFrom 109 = .ok (.sipush 248, 3) := by decide +kernel
theorem dX8_upsFrom_112 : decode cX8_upsFrom 112 = .ok (.if_icmp .ge 26, 3) := by decide +kernel
theorem dX8_upsFrom_115 : decode cX8_upsFrom 115 = .ok (.aload_n 0, 1) := by decide +kernel
theorem dX8_upsFrom_116 : decode cX8_upsFrom 116 = .ok (.getfield 37, 3) := by decide +kernel
theorem dX8_upsFrom_119 : decode cX8_upsFrom 119 = .ok (.iload 5, 2) := by decide +kernel
theorem dX8_upsFrom_121 : decode cX8_upsFrom 121 = .ok (.ldc 128, 2) := by decide +kernel
theorem dX8_upsFrom_123 : decode cX8_upsFrom 123 = .ok (.iastore, 1) := by decide +kernel
theorem dX8_upsFrom_124 : decode cX8_upsFrom 124 = .ok (.aload_n 0, 1) := by decide +kernel
theorem dX8_upsFrom_125 : decode cX8_upsFrom 125 = .ok (.getfield 40, 3) := by decide +kernel
theorem dX8_upsFrom_128 : decode cX8_upsFrom 128 = .ok (.iload 5, 2) := by decide +kernel
theorem dX8_upsFrom_130 : decode cX8_upsFrom 130 = .ok (.iconst 0, 1) := by decide +kernel
theorem dX8_upsFrom_131 : decode cX8_upsFrom 131 = .ok (.iastore, 1) := by decide +kernel
theorem dX8_upsFrom_132 : decode cX8_upsFrom 132 = .ok (.iinc 5 1, 3) := by decide +kernel
theorem dX8_upsFrom_135 : decode cX8_upsFrom 135 = .ok (.goto (-28), 3) := by decide +kernel
theorem dX8_upsFrom_138 : decode cX8_upsFrom 138 = .ok (.iconst 0, 1) := by decide +kernel
theorem dX8_upsFrom_139 : decode cX8_upsFrom 139 = .ok (.istore 5, 2) := by decide +kernel
theorem dX8_upsFrom_141 : decode cX8_upsFrom 141 = .ok (.iload 5, 2) := by decide +kernel
theorem dX8_upsFrom_143 : decode cX8_upsFrom 143 = .ok (.aload_n 0, 1) := by decide +kernel
theorem dX8_upsFrom_144 : decode cX8_upsFrom 144 = .ok (.invokevirtual 112, 3) := by decide +kernel
theorem dX8_upsFrom_147 : decode cX8_upsFrom 147 = .ok (.if_icmp .ge 140, 3) := by decide +kernel
theorem dX8_upsFrom_150 : decode cX8_upsFrom 150 = .ok (.iconst 0, 1) := by decide +kernel
theorem dX8_upsFrom_151 : decode cX8_upsFrom 151 = .ok (.istore 6, 2) := by decide +kernel
theorem dX8_upsFrom_153 : decode cX8_upsFrom 153 = .ok (.iload 6, 2) := by decide +kernel
theorem dX8_upsFrom_155 : decode cX8_upsFrom 155 = .ok (.aload_n 0, 1) := by decide +kernel
theorem dX8_upsFrom_156 : decode cX8_upsFrom 156 = .ok (.invokevirtual 112, 3) := by decide +kernel
theorem dX8_upsFrom_159 : decode cX8_upsFrom 159 = .ok (.if_icmp .ge 122, 3) := by decide +kernel
theorem dX8_upsFrom_162 : decode cX8_upsFrom 162 = .ok (.aload_n 0, 1) := by decide +kernel
theorem dX8_upsFrom_163 : decode cX8_upsFrom 163 = .ok (.iconst 0, 1) := by decide +kernel
theorem dX8_upsFrom_164 : decode cX8_upsFrom 164 = .ok (.iload 5, 2) := by decide +kernel
theorem dX8_upsFrom_166 : decode cX8_upsFrom 166 = .ok (.iload 6, 2) := by decide +kernel
theorem dX8_upsFrom_168 : decode cX8_upsFrom 168 = .ok (.invokevirtual 99, 3) := by decide +kernel
theorem dX8_upsFrom_171 : decode cX8_upsFrom 171 = .ok (.aload_n 0, 1) := by decide +kernel
theorem dX8_upsFrom_172 : decode cX8_upsFrom 172 = .ok (.iconst 0, 1) := by decide +kernel
theorem dX8_upsFrom_173 : decode cX8_upsFrom 173 = .ok (.iload 4, 2) := by decide +kernel
theorem dX8_upsFrom_175 : decode cX8_upsFrom 175 = .ok (.iload 6, 2) := by decide +kernel
theorem dX8_upsFrom_177 : decode cX8_upsFrom 177 = .ok (.invokevirtual 95, 3) := by decide +kernel
theorem dX8_upsFrom_180 : decode cX8_upsFrom 180 = .ok (.iadd, 1) := by decide +kernel
theorem dX8_upsFrom_181 : decode cX8_upsFrom 181 = .ok (.istore 7, 2) := by decide +kernel
theorem dX8_upsFrom_183 : decode cX8_upsFrom 183 = .ok (.iconst 0, 1) := by decide +kernel
theorem dX8_upsFrom_184 : decode cX8_upsFrom 184 = .ok (.istore 8, 2) := by decide +kernel
theorem dX8_upsFrom_186 : decode cX8_upsFrom 186 = .ok (.iload 8, 2) := by decide +kernel
theorem dX8_upsFrom_188 : decode cX8_upsFrom 188 = .ok (.iload 6, 2) := by decide +kernel
theorem dX8_upsFrom_190 : decode cX8_upsFrom 190 = .ok (.invokestatic 129, 3) := by decide +kernel
theorem dX8_upsFrom_193 : decode cX8_upsFrom 193 = .ok (.iadd, 1) := by decide +kernel
theorem dX8_upsFrom_194 : decode cX8_upsFrom 194 = .ok (.bipush 31, 2) := by decide +kernel
theorem dX8_upsFrom_196 : decode cX8_upsFrom 196 = .ok (.if_icmp .ge 79, 3) := by decide +kernel
theorem dX8_upsFrom_199 : decode cX8_upsFrom 199 = .ok (.aload_n 0, 1) := by decide +kernel
theorem dX8_upsFrom_200 : decode cX8_upsFrom 200 = .ok (.getfield 34, 3) := by decide +kernel
theorem dX8_upsFrom_203 : decode cX8_upsFrom 203 = .ok (.bipush 31, 2) := by decide +kernel
theorem dX8_upsFrom_205 : decode cX8_upsFrom 205 = .ok (.iload 5, 2) := by decide +kernel
theorem dX8_upsFrom_207 : decode cX8_upsFrom 207 = .ok (.imul, 1) := by decide +kernel
theorem dX8_upsFrom_208 : decode cX8_upsFrom 208 = .ok (.iload 8, 2) := by decide +kernel
theorem dX8_upsFrom_210 : decode cX8_upsFrom 210 = .ok (.iadd, 1) := by decide +kernel
theorem dX8_upsFrom_211 : decode cX8_upsFrom 211 = .ok (.iaload, 1) := by decide +kernel
theorem dX8_upsFrom_212 : decode cX8_upsFrom 212 = .ok (.ifCond .le 57, 3) := by decide +kernel
theorem dX8_upsFrom_215 : decode cX8_upsFrom 215 = .ok (.aload_n 0, 1) := by decide +kernel
theorem dX8_upsFrom_216 : decode cX8_upsFrom 216 = .ok (.getfield 37, 3) := by decide +kernel
theorem dX8_upsFrom_219 : decode cX8_upsFrom 219 = .ok (.aload_n 0, 1) := by decide +kernel
theorem dX8_upsFrom_220 : decode cX8_upsFrom 220 = .ok (.getfield 40, 3) := by decide +kernel
theorem dX8_upsFrom_223 : decode cX8_upsFrom 223 = .ok (.bipush 31, 2) := by decide +kernel
theorem dX8_upsFrom_225 : decode cX8_upsFrom 225 = .ok (.iload 6, 2) := by decide +kernel
theorem dX8_upsFrom_227 : decode cX8_upsFrom 227 = .ok (.imul, 1) := by decide +kernel
theorem dX8_upsFrom_228 : decode cX8_upsFrom 228 = .ok (.iload 8, 2) := by decide +kernel
theorem dX8_upsFrom_230 : decode cX8_upsFrom 230 = .ok (.iadd, 1) := by decide +kernel
theorem dX8_upsFrom_231 : decode cX8_upsFrom 231 = .ok (.iload 6, 2) := by decide +kernel
theorem dX8_upsFrom_233 : decode cX8_upsFrom 233 = .ok (.invokestatic 129, 3) := by decide +kernel
theorem dX8_upsFrom_236 : decode cX8_upsFrom 236 = .ok (.iadd, 1) := by decide +kernel
theorem dX8_upsFrom_237 : decode cX8_upsFrom 237 = .ok (.aload_n 0, 1) := by decide +kernel
theorem dX8_upsFrom_238 : decode cX8_upsFrom 238 = .ok (.getfield 31, 3) := by decide +kernel
theorem dX8_upsFrom_241 : decode cX8_upsFrom 241 = .ok (.bipush 31, 2) := by decide +kernel
theorem dX8_upsFrom_243 : decode cX8_upsFrom 243 = .ok (.iload 5, 2) := by decide +kernel
theorem dX8_upsFrom_245 : decode cX8_upsFrom 245 = .ok (.imul, 1) := by decide +kernel
theorem dX8_upsFrom_246 : decode cX8_upsFrom 246 = .ok (.iload 8, 2) := by decide +kernel
theorem dX8_upsFrom_248 : decode cX8_upsFrom 248 = .ok (.iadd, 1) := by decide +kernel
theorem dX8_upsFrom_249 : decode cX8_upsFrom 249 = .ok (.iaload, 1) := by decide +kernel
theorem dX8_upsFrom_250 : decode cX8_upsFrom 250 = .ok (.iload 7, 2) := by decide +kernel
theorem dX8_upsFrom_252 : decode cX8_upsFrom 252 = .ok (.iadd, 1) := by decide +kernel
theorem dX8_upsFrom_253 : decode cX8_upsFrom 253 = .ok (.aload_n 0, 1) := by decide +kernel
theorem dX8_upsFrom_254 : decode cX8_upsFrom 254 = .ok (.getfield 34, 3) := by decide +kernel
theorem dX8_upsFrom_257 : decode cX8_upsFrom 257 = .ok (.bipush 31, 2) := by decide +kernel
theorem dX8_upsFrom_259 : decode cX8_upsFrom 259 = .ok (.iload 5, 2) := by decide +kernel
theorem dX8_upsFrom_261 : decode cX8_upsFrom 261 = .ok (.imul, 1) := by decide +kernel
theorem dX8_upsFrom_262 : decode cX8_upsFrom 262 = .ok (.iload 8, 2) := by decide +kernel
theorem dX8_upsFrom_264 : decode cX8_upsFrom 264 = .ok (.iadd, 1) := by decide +kernel
theorem dX8_upsFrom_265 : decode cX8_upsFrom 265 = .ok (.iaload, 1) := by decide +kernel
theorem dX8_upsFrom_266 : decode cX8_upsFrom 266 = .ok (.invokestatic 132, 3) := by decide +kernel
theorem dX8_upsFrom_269 : decode cX8_upsFrom 269 = .ok (.iinc 8 1, 3) := by decide +kernel
theorem dX8_upsFrom_272 : decode cX8_upsFrom 272 = .ok (.goto (-86), 3) := by decide +kernel
theorem dX8_upsFrom_275 : decode cX8_upsFrom 275 = .ok (.iinc 6 1, 3) := by decide +kernel
theorem dX8_upsFrom_278 : decode cX8_upsFrom 278 = .ok (.goto (-125), 3) := by decide +kernel
theorem dX8_upsFrom_281 : decode cX8_upsFrom 281 = .ok (.iinc 5 1, 3) := by decide +kernel
theorem dX8_upsFrom_284 : decode cX8_upsFrom 284 = .ok (.goto (-143), 3) := by decide +kernel
theorem dX8_upsFrom_287 : decode cX8_upsFrom 287 = .ok (.iconst 0, 1) := by decide +kernel
theorem dX8_upsFrom_288 : decode cX8_upsFrom 288 = .ok (.istore 5, 2) := by decide +kernel
theorem dX8_upsFrom_290 : decode cX8_upsFrom 290 = .ok (.iload 5, 2) := by decide +kernel
theorem dX8_upsFrom_292 : decode cX8_upsFrom 292 = .ok (.sipush 248, 3) := by decide +kernel
theorem dX8_upsFrom_295 : decode cX8_upsFrom 295 = .ok (.if_icmp .ge 37, 3) := by decide +kernel
theorem dX8_upsFrom_298 : decode cX8_upsFrom 298 = .ok (.aload_n 0, 1) := by decide +kernel
theorem dX8_upsFrom_299 : decode cX8_upsFrom 299 = .ok (.getfield 31, 3) := by decide +kernel
theorem dX8_upsFrom_302 : decode cX8_upsFrom 302 = .ok (.iload 5, 2) := by decide +kernel
theorem dX8_upsFrom_304 : decode cX8_upsFrom 304 = .ok (.aload_n 0, 1) := by decide +kernel
theorem dX8_upsFrom_305 : decode cX8_upsFrom 305 = .ok (.getfield 37, 3) := by decide +kernel
theorem dX8_upsFrom_308 : decode cX8_upsFrom 308 = .ok (.iload 5, 2) := by decide +kernel
theorem dX8_upsFrom_310 : decode cX8_upsFrom 310 = .ok (.iaload, 1) := by decide +kernel
theorem dX8_upsFrom_311 : decode cX8_upsFrom 311 = .ok (.iastore, 1) := by decide +kernel
theorem dX8_upsFrom_312 : decode cX8_upsFrom 312 = .ok (.aload_n 0, 1) := by decide +kernel
theorem dX8_upsFrom_313 : decode cX8_upsFrom 313 = .ok (.getfield 34, 3) := by decide +kernel
theorem dX8_upsFrom_316 : decode cX8_upsFrom 316 = .ok (.iload 5, 2) := by decide +kernel
theorem dX8_upsFrom_318 : decode cX8_upsFrom 318 = .ok (.aload_n 0, 1) := by decide +kernel
theorem dX8_upsFrom_319 : decode cX8_upsFrom 319 = .ok (.getfield 40, 3) := by decide +kernel
theorem dX8_upsFrom_322 : decode cX8_upsFrom 322 = .ok (.iload 5, 2) := by decide +kernel
theorem dX8_upsFrom_324 : decode cX8_upsFrom 324 = .ok (.iaload, 1) := by decide +kernel
theorem dX8_upsFrom_325 : decode cX8_upsFrom 325 = .ok (.iastore, 1) := by decide +kernel
theorem dX8_upsFrom_326 : decode cX8_upsFrom 326 = .ok (.iinc 5 1, 3) := by decide +kernel
theorem dX8_upsFrom_329 : decode cX8_upsFrom 329 = .ok (.goto (-39), 3) := by decide +kernel
theorem dX8_upsFrom_332 : decode cX8_upsFrom 332 = .ok (.iinc 4 1, 3) := by decide +kernel
theorem dX8_upsFrom_335 : decode cX8_upsFrom 335 = .ok (.goto (-242), 3) := by decide +kernel
theorem dX8_upsFrom_338 : decode cX8_upsFrom 338 = .ok (.iconst 0, 1) := by decide +kernel
theorem dX8_upsFrom_339 : decode cX8_upsFrom 339 = .ok (.istore 4, 2) := by decide +kernel
theorem dX8_upsFrom_341 : decode cX8_upsFrom 341 = .ok (.iload 4, 2) := by decide +kernel
theorem dX8_upsFrom_343 : decode cX8_upsFrom 343 = .ok (.aload_n 0, 1) := by decide +kernel
theorem dX8_upsFrom_344 : decode cX8_upsFrom 344 = .ok (.invokevirtual 112, 3) := by decide +kernel
theorem dX8_upsFrom_347 : decode cX8_upsFrom 347 = .ok (.if_icmp .ge 101, 3) := by decide +kernel
theorem dX8_upsFrom_350 : decode cX8_upsFrom 350 = .ok (.iload_n 3, 1) := by decide +kernel
theorem dX8_upsFrom_351 : decode cX8_upsFrom 351 = .ok (.ifCond .eq 14, 3) := by decide +kernel
theorem dX8_upsFrom_354 : decode cX8_upsFrom 354 = .ok (.aload_n 0, 1) := by decide +kernel
theorem dX8_upsFrom_355 : decode cX8_upsFrom 355 = .ok (.iconst 0, 1) := by decide +kernel
theorem dX8_upsFrom_356 : decode cX8_upsFrom 356 = .ok (.iload 4, 2) := by decide +kernel
theorem dX8_upsFrom_358 : decode cX8_upsFrom 358 = .ok (.iload_n 1, 1) := by decide +kernel
theorem dX8_upsFrom_359 : decode cX8_upsFrom 359 = .ok (.invokevirtual 99, 3) := by decide +kernel
theorem dX8_upsFrom_362 : decode cX8_upsFrom 362 = .ok (.goto 4, 3) := by decide +kernel
theorem dX8_upsFrom_365 : decode cX8_upsFrom 365 = .ok (.iconst 0, 1) := by decide +kernel
theorem dX8_upsFrom_366 : decode cX8_upsFrom 366 = .ok (.istore 5, 2) := by decide +kernel
theorem dX8_upsFrom_368 : decode cX8_upsFrom 368 = .ok (.iconst 0, 1) := by decide +kernel
theorem dX8_upsFrom_369 : decode cX8_upsFrom 369 = .ok (.istore 6, 2) := by decide +kernel
theorem dX8_upsFrom_371 : decode cX8_upsFrom 371 = .ok (.iload 6, 2) := by decide +kernel
theorem dX8_upsFrom_373 : decode cX8_upsFrom 373 = .ok (.bipush 31, 2) := by decide +kernel
theorem dX8_upsFrom_375 : decode cX8_upsFrom 375 = .ok (.if_icmp .ge 67, 3) := by decide +kernel
theorem dX8_upsFrom_378 : decode cX8_upsFrom 378 = .ok (.aload_n 0, 1) := by decide +kernel
theorem dX8_upsFrom_379 : decode cX8_upsFrom 379 = .ok (.getfield 34, 3) := by decide +kernel
theorem dX8_upsFrom_382 : decode cX8_upsFrom 382 = .ok (.bipush 31, 2) := by decide +kernel
theorem dX8_upsFrom_384 : decode cX8_upsFrom 384 = .ok (.iload 4, 2) := by decide +kernel
theorem dX8_upsFrom_386 : decode cX8_upsFrom 386 = .ok (.imul, 1) := by decide +kernel
theorem dX8_upsFrom_387 : decode cX8_upsFrom 387 = .ok (.iload 6, 2) := by decide +kernel
theorem dX8_upsFrom_389 : decode cX8_upsFrom 389 = .ok (.iadd, 1) := by decide +kernel
theorem dX8_upsFrom_390 : decode cX8_upsFrom 390 = .ok (.iaload, 1) := by decide +kernel
theorem dX8_upsFrom_391 : decode cX8_upsFrom 391 = .ok (.ifCond .le 45, 3) := by decide +kernel
theorem dX8_upsFrom_394 : decode cX8_upsFrom 394 = .ok (.aload_n 0, 1) := by decide +kernel
theorem dX8_upsFrom_395 : decode cX8_upsFrom 395 = .ok (.getfield 43, 3) := by decide +kernel
theorem dX8_upsFrom_398 : decode cX8_upsFrom 398 = .ok (.aload_n 0, 1) := by decide +kernel
theorem dX8_upsFrom_399 : decode cX8_upsFrom 399 = .ok (.getfield 46, 3) := by decide +kernel
theorem dX8_upsFrom_402 : decode cX8_upsFrom 402 = .ok (.iload 6, 2) := by decide +kernel
theorem dX8_upsFrom_404 : decode cX8_upsFrom 404 = .ok (.aload_n 0, 1) := by decide +kernel
theorem dX8_upsFrom_405 : decode cX8_upsFrom 405 = .ok (.getfield 31, 3) := by decide +kernel
theorem dX8_upsFrom_408 : decode cX8_upsFrom 408 = .ok (.bipush 31, 2) := by decide +kernel
theorem dX8_upsFrom_410 : decode cX8_upsFrom 410 = .ok (.iload 4, 2) := by decide +kernel
theorem dX8_upsFrom_412 : decode cX8_upsFrom 412 = .ok (.imul, 1) := by decide +kernel
theorem dX8_upsFrom_413 : decode cX8_upsFrom 413 = .ok (.iload 6, 2) := by decide +kernel
theorem dX8_upsFrom_415 : decode cX8_upsFrom 415 = .ok (.iadd, 1) := by decide +kernel
theorem dX8_upsFrom_416 : decode cX8_upsFrom 416 = .ok (.iaload, 1) := by decide +kernel
theorem dX8_upsFrom_417 : decode cX8_upsFrom 417 = .ok (.iload 5, 2) := by decide +kernel
theorem dX8_upsFrom_419 : decode cX8_upsFrom 419 = .ok (.iadd, 1) := by decide +kernel
theorem dX8_upsFrom_420 : decode cX8_upsFrom 420 = .ok (.aload_n 0, 1) := by decide +kernel
theorem dX8_upsFrom_421 : decode cX8_upsFrom 421 = .ok (.getfield 34, 3) := by decide +kernel
theorem dX8_upsFrom_424 : decode cX8_upsFrom 424 = .ok (.bipush 31, 2) := by decide +kernel
theorem dX8_upsFrom_426 : decode cX8_upsFrom 426 = .ok (.iload 4, 2) := by decide +kernel
theorem dX8_upsFrom_428 : decode cX8_upsFrom 428 = .ok (.imul, 1) := by decide +kernel
theorem dX8_upsFrom_429 : decode cX8_upsFrom 429 = .ok (.iload 6, 2) := by decide +kernel
theorem dX8_upsFrom_431 : decode cX8_upsFrom 431 = .ok (.iadd, 1) := by decide +kernel
theorem dX8_upsFrom_432 : decode cX8_upsFrom 432 = .ok (.iaload, 1) := by decide +kernel
theorem dX8_upsFrom_433 : decode cX8_upsFrom 433 = .ok (.invokestatic 132, 3) := by decide +kernel
theorem dX8_upsFrom_436 : decode cX8_upsFrom 436 = .ok (.iinc 6 1, 3) := by decide +kernel
theorem dX8_upsFrom_439 : decode cX8_upsFrom 439 = .ok (.goto (-68), 3) := by decide +kernel
theorem dX8_upsFrom_442 : decode cX8_upsFrom 442 = .ok (.iinc 4 1, 3) := by decide +kernel
theorem dX8_upsFrom_445 : decode cX8_upsFrom 445 = .ok (.goto (-104), 3) := by decide +kernel
theorem dX8_upsFrom_448 : decode cX8_upsFrom 448 = .ok (.return_, 1) := by decide +kernel
theorem dX8_upsAll_0 : decode cX8_upsAll 0 = .ok (.iconst 0, 1) := by decide +kernel
theorem dX8_upsAll_1 : decode cX8_upsAll 1 = .ok (.istore_n 1, 1) := by decide +kernel
theorem dX8_upsAll_2 : decode cX8_upsAll 2 = .ok (.iload_n 1, 1) := by decide +kernel
theorem dX8_upsAll_3 : decode cX8_upsAll 3 = .ok (.bipush 31, 2) := by decide +kernel
theorem dX8_upsAll_5 : decode cX8_upsAll 5 = .ok (.if_icmp .ge 24, 3) := by decide +kernel
theorem dX8_upsAll_8 : decode cX8_upsAll 8 = .ok (.aload_n 0, 1) := by decide +kernel
theorem dX8_upsAll_9 : decode cX8_upsAll 9 = .ok (.getfield 43, 3) := by decide +kernel
theorem dX8_upsAll_12 : decode cX8_upsAll 12 = .ok (.iload_n 1, 1) := by decide +kernel
theorem dX8_upsAll_13 : decode cX8_upsAll 13 = .ok (.ldc 128, 2) := by decide +kernel
theorem dX8_upsAll_15 : decode cX8_upsAll 15 = .ok (.iastore, 1) := by decide +kernel
theorem dX8_upsAll_16 : decode cX8_upsAll 16 = .ok (.aload_n 0, 1) := by decide +kernel
theorem dX8_upsAll_17 : decode cX8_upsAll 17 = .ok (.getfield 46, 3) := by decide +kernel
theorem dX8_upsAll_20 : decode cX8_upsAll 20 = .ok (.iload_n 1, 1) := by decide +kernel
theorem dX8_upsAll_21 : decode cX8_upsAll 21 = .ok (.iconst 0, 1) := by decide +kernel
theorem dX8_upsAll_22 : decode cX8_upsAll 22 = .ok (.iastore, 1) := by decide +kernel
theorem dX8_upsAll_23 : decode cX8_upsAll 23 = .ok (.iinc 1 1, 3) := by decide +kernel
theorem dX8_upsAll_26 : decode cX8_upsAll 26 = .ok (.goto (-24), 3) := by decide +kernel
theorem dX8_upsAll_29 : decode cX8_upsAll 29 = .ok (.aload_n 0, 1) := by decide +kernel
theorem dX8_upsAll_30 : decode cX8_upsAll 30 = .ok (.invokevirtual 85, 3) := by decide +kernel
theorem dX8_upsAll_33 : decode cX8_upsAll 33 = .ok (.ifCond .eq 29, 3) := by decide +kernel
theorem dX8_upsAll_36 : decode cX8_upsAll 36 = .ok (.iconst 0, 1) := by decide +kernel
theorem dX8_upsAll_37 : decode cX8_upsAll 37 = .ok (.istore_n 1, 1) := by decide +kernel
theorem dX8_upsAll_38 : decode cX8_upsAll 38 = .ok (.iload_n 1, 1) := by decide +kernel
theorem dX8_upsAll_39 : decode cX8_upsAll 39 = .ok (.aload_n 0, 1) := by decide +kernel
theorem dX8_upsAll_40 : decode cX8_upsAll 40 = .ok (.invokevirtual 112, 3) := by decide +kernel
theorem dX8_upsAll_43 : decode cX8_upsAll 43 = .ok (.if_icmp .ge 16, 3) := by decide +kernel
theorem dX8_upsAll_46 : decode cX8_upsAll 46 = .ok (.aload_n 0, 1) := by decide +kernel
theorem dX8_upsAll_47 : decode cX8_upsAll 47 = .ok (.iload_n 1, 1) := by decide +kernel
theorem dX8_upsAll_48 : decode cX8_upsAll 48 = .ok (.iload_n 1, 1) := by decide +kernel
theorem dX8_upsAll_49 : decode cX8_upsAll 49 = .ok (.iconst 1, 1) := by decide +kernel
theorem dX8_upsAll_50 : decode cX8_upsAll 50 = .ok (.invokevirtual 136, 3) := by decide +kernel
theorem dX8_upsAll_53 : decode cX8_upsAll 53 = .ok (.iinc 1 1, 3) := by decide +kernel
theorem dX8_upsAll_56 : decode cX8_upsAll 56 = .ok (.goto (-18), 3) := by decide +kernel
theorem dX8_upsAll_59 : decode cX8_upsAll 59 = .ok (.goto 15, 3) := by decide +kernel
theorem dX8_upsAll_62 : decode cX8_upsAll 62 = .ok (.aload_n 0, 1) := by decide +kernel
theorem dX8_upsAll_63 : decode cX8_upsAll 63 = .ok (.iconst 0, 1) := by decide +kernel
theorem dX8_upsAll_64 : decode cX8_upsAll 64 = .ok (.aload_n 0, 1) := by decide +kernel
theorem dX8_upsAll_65 : decode cX8_upsAll 65 = .ok (.invokevirtual 112, 3) := by decide +kernel
theorem dX8_upsAll_68 : decode cX8_upsAll 68 = .ok (.iconst 1, 1) := by decide +kernel
theorem dX8_upsAll_69 : decode cX8_upsAll 69 = .ok (.isub, 1) := by decide +kernel
theorem dX8_upsAll_70 : decode cX8_upsAll 70 = .ok (.iconst 0, 1) := by decide +kernel
theorem dX8_upsAll_71 : decode cX8_upsAll 71 = .ok (.invokevirtual 136, 3) := by decide +kernel
theorem dX8_upsAll_74 : decode cX8_upsAll 74 = .ok (.return_, 1) := by decide +kernel
theorem dX8_leastEnergy_0 : decode cX8_leastEnergy 0 = .ok (.aload_n 0, 1) := by decide +kernel
theorem dX8_leastEnergy_1 : decode cX8_leastEnergy 1 = .ok (.invokevirtual 140, 3) := by decide +kernel
theorem dX8_leastEnergy_4 : decode cX8_leastEnergy 4 = .ok (.ldc 128, 2) := by decide +kernel
theorem dX8_leastEnergy_6 : decode cX8_leastEnergy 6 = .ok (.istore_n 1, 1) := by decide +kernel
theorem dX8_leastEnergy_7 : decode cX8_leastEnergy 7 = .ok (.iconst 0, 1) := by decide +kernel
theorem dX8_leastEnergy_8 : decode cX8_leastEnergy 8 = .ok (.istore_n 2, 1) := by decide +kernel
theorem dX8_leastEnergy_9 : decode cX8_leastEnergy 9 = .ok (.iload_n 2, 1) := by decide +kernel
theorem dX8_leastEnergy_10 : decode cX8_leastEnergy 10 = .ok (.bipush 31, 2) := by decide +kernel
theorem dX8_leastEnergy_12 : decode cX8_leastEnergy 12 = .ok (.if_icmp .ge 30, 3) := by decide +kernel
theorem dX8_leastEnergy_15 : decode cX8_leastEnergy 15 = .ok (.aload_n 0, 1) := by decide +kernel
theorem dX8_leastEnergy_16 : decode cX8_leastEnergy 16 = .ok (.getfield 43, 3) := by decide +kernel
theorem dX8_leastEnergy_19 : decode cX8_leastEnergy 19 = .ok (.iload_n 2, 1) := by decide +kernel
theorem dX8_leastEnergy_20 : decode cX8_leastEnergy 20 = .ok (.iaload, 1) := by decide +kernel
theorem dX8_leastEnergy_21 : decode cX8_leastEnergy 21 = .ok (.iload_n 1, 1) := by decide +kernel
theorem dX8_leastEnergy_22 : decode cX8_leastEnergy 22 = .ok (.if_icmp .ge 12, 3) := by decide +kernel
theorem dX8_leastEnergy_25 : decode cX8_leastEnergy 25 = .ok (.aload_n 0, 1) := by decide +kernel
theorem dX8_leastEnergy_26 : decode cX8_leastEnergy 26 = .ok (.getfield 43, 3) := by decide +kernel
theorem dX8_leastEnergy_29 : decode cX8_leastEnergy 29 = .ok (.iload_n 2, 1) := by decide +kernel
theorem dX8_leastEnergy_30 : decode cX8_leastEnergy 30 = .ok (.iaload, 1) := by decide +kernel
theorem dX8_leastEnergy_31 : decode cX8_leastEnergy 31 = .ok (.goto 4, 3) := by decide +kernel
theorem dX8_leastEnergy_34 : decode cX8_leastEnergy 34 = .ok (.iload_n 1, 1) := by decide +kernel
theorem dX8_leastEnergy_35 : decode cX8_leastEnergy 35 = .ok (.istore_n 1, 1) := by decide +kernel
theorem dX8_leastEnergy_36 : decode cX8_leastEnergy 36 = .ok (.iinc 2 1, 3) := by decide +kernel
theorem dX8_leastEnergy_39 : decode cX8_leastEnergy 39 = .ok (.goto (-30), 3) := by decide +kernel
theorem dX8_leastEnergy_42 : decode cX8_leastEnergy 42 = .ok (.iload_n 1, 1) := by decide +kernel
theorem dX8_leastEnergy_43 : decode cX8_leastEnergy 43 = .ok (.ireturn, 1) := by decide +kernel
theorem dX8_rests_0 : decode cX8_rests 0 = .ok (.aload_n 0, 1) := by decide +kernel
theorem dX8_rests_1 : decode cX8_rests 1 = .ok (.getfield 7, 3) := by decide +kernel
theorem dX8_rests_4 : decode cX8_rests 4 = .ok (.iconst 0, 1) := by decide +kernel
theorem dX8_rests_5 : decode cX8_rests 5 = .ok (.iaload, 1) := by decide +kernel
theorem dX8_rests_6 : decode cX8_rests 6 = .ok (.iconst 1, 1) := by decide +kernel
theorem dX8_rests_7 : decode cX8_rests 7 = .ok (.isub, 1) := by decide +kernel
theorem dX8_rests_8 : decode cX8_rests 8 = .ok (.istore_n 2, 1) := by decide +kernel
theorem dX8_rests_9 : decode cX8_rests 9 = .ok (.iload_n 2, 1) := by decide +kernel
theorem dX8_rests_10 : decode cX8_rests 10 = .ok (.istore_n 3, 1) := by decide +kernel
theorem dX8_rests_11 : decode cX8_rests 11 = .ok (.iload_n 3, 1) := by decide +kernel
theorem dX8_rests_12 : decode cX8_rests 12 = .ok (.ifCond .lt 146, 3) := by decide +kernel
theorem dX8_rests_15 : decode cX8_rests 15 = .ok (.iconst 0, 1) := by decide +kernel
theorem dX8_rests_16 : decode cX8_rests 16 = .ok (.istore 4, 2) := by decide +kernel
theorem dX8_rests_18 : decode cX8_rests 18 = .ok (.iload 4, 2) := by decide +kernel
theorem dX8_rests_20 : decode cX8_rests 20 = .ok (.aload_n 0, 1) := by decide +kernel
theorem dX8_rests_21 : decode cX8_rests 21 = .ok (.invokevirtual 112, 3) := by decide +kernel
theorem dX8_rests_24 : decode cX8_rests 24 = .ok (.if_icmp .ge 128, 3) := by decide +kernel
theorem dX8_rests_27 : decode cX8_rests 27 = .ok (.iload_n 3, 1) := by decide +kernel
theorem dX8_rests_28 : decode cX8_rests 28 = .ok (.iload_n 2, 1) := by decide +kernel
theorem dX8_rests_29 : decode cX8_rests 29 = .ok (.if_icmp .ge 8, 3) := by decide +kernel
theorem dX8_rests_32 : decode cX8_rests 32 = .ok (.ldc 128, 2) := by decide +kernel
theorem dX8_rests_34 : decode cX8_rests 34 = .ok (.goto 22, 3) := by decide +kernel
theorem dX8_rests_37 : decode cX8_rests 37 = .ok (.aload_n 0, 1) := by decide +kernel
theorem dX8_rests_38 : decode cX8_rests 38 = .ok (.invokevirtual 85, 3) := by decide +kernel
theorem dX8_rests_41 : decode cX8_rests 41 = .ok (.ifCond .eq 14, 3) := by decide +kernel
theorem dX8_rests_44 : decode cX8_rests 44 = .ok (.aload_n 0, 1) := by decide +kernel
theorem dX8_rests_45 : decode cX8_rests 45 = .ok (.iconst 0, 1) := by decide +kernel
theorem dX8_rests_46 : decode cX8_rests 46 = .ok (.iload 4, 2) := by decide +kernel
theorem dX8_rests_48 : decode cX8_rests 48 = .ok (.iload_n 1, 1) := by decide +kernel
theorem dX8_rests_49 : decode cX8_rests 49 = .ok (.invokevirtual 99, 3) := by decide +kernel
theorem dX8_rests_52 : decode cX8_rests 52 = .ok (.goto 4, 3) := by decide +kernel
theorem dX8_rests_55 : decode cX8_rests 55 = .ok (.iconst 0, 1) := by decide +kernel
theorem dX8_rests_56 : decode cX8_rests 56 = .ok (.istore 5, 2) := by decide +kernel
theorem dX8_rests_58 : decode cX8_rests 58 = .ok (.iconst 0, 1) := by decide +kernel
theorem dX8_rests_59 : decode cX8_rests 59 = .ok (.istore 6, 2) := by decide +kernel
theorem dX8_rests_61 : decode cX8_rests 61 = .ok (.iload 6, 2) := by decide +kernel
theorem dX8_rests_63 : decode cX8_rests 63 = .ok (.aload_n 0, 1) := by decide +kernel
theorem dX8_rests_64 : decode cX8_rests 64 = .ok (.invokevirtual 112, 3) := by decide +kernel
theorem dX8_rests_67 : decode cX8_rests 67 = .ok (.if_icmp .ge 56, 3) := by decide +kernel
theorem dX8_rests_70 : decode cX8_rests 70 = .ok (.iload_n 3, 1) := by decide +kernel
theorem dX8_rests_71 : decode cX8_rests 71 = .ok (.iload_n 2, 1) := by decide +kernel
theorem dX8_rests_72 : decode cX8_rests 72 = .ok (.if_icmp .ge 51, 3) := by decide +kernel
theorem dX8_rests_75 : decode cX8_rests 75 = .ok (.aload_n 0, 1) := by decide +kernel
theorem dX8_rests_76 : decode cX8_rests 76 = .ok (.iconst 0, 1) := by decide +kernel
theorem dX8_rests_77 : decode cX8_rests 77 = .ok (.iload 4, 2) := by decide +kernel
theorem dX8_rests_79 : decode cX8_rests 79 = .ok (.iload 6, 2) := by decide +kernel
theorem dX8_rests_81 : decode cX8_rests 81 = .ok (.invokevirtual 99, 3) := by decide +kernel
theorem dX8_rests_84 : decode cX8_rests 84 = .ok (.aload_n 0, 1) := by decide +kernel
theorem dX8_rests_85 : decode cX8_rests 85 = .ok (.getfield 49, 3) := by decide +kernel
theorem dX8_rests_88 : decode cX8_rests 88 = .ok (.bipush 8, 2) := by decide +kernel
theorem dX8_rests_90 : decode cX8_rests 90 = .ok (.iload_n 3, 1) := by decide +kernel
theorem dX8_rests_91 : decode cX8_rests 91 = .ok (.iconst 1, 1) := by decide +kernel
theorem dX8_rests_92 : decode cX8_rests 92 = .ok (.iadd, 1) := by decide +kernel
theorem dX8_rests_93 : decode cX8_rests 93 = .ok (.imul, 1) := by decide +kernel
theorem dX8_rests_94 : decode cX8_rests 94 = .ok (.iload 6, 2) := by decide +kernel
theorem dX8_rests_96 : decode cX8_rests 96 = .ok (.iadd, 1) := by decide +kernel
theorem dX8_rests_97 : decode cX8_rests 97 = .ok (.iaload, 1) := by decide +kernel
theorem dX8_rests_98 : decode cX8_rests 98 = .ok (.iadd, 1) := by decide +kernel
theorem dX8_rests_99 : decode cX8_rests 99 = .ok (.istore 7, 2) := by decide +kernel
theorem dX8_rests_101 : decode cX8_rests 101 = .ok (.iload 7, 2) := by decide +kernel
theorem dX8_rests_103 : decode cX8_rests 103 = .ok (.iload 5, 2) := by decide +kernel
theorem dX8_rests_105 : decode cX8_rests 105 = .ok (.if_icmp .ge 8, 3) := by decide +kernel
theorem dX8_rests_108 : decode cX8_rests 108 = .ok (.iload 7, 2) := by decide +kernel
theorem dX8_rests_110 : decode cX8_rests 110 = .ok (.goto 5, 3) := by decide +kernel
theorem dX8_rests_113 : decode cX8_rests 113 = .ok (.iload 5, 2) := by decide +kernel
theorem dX8_rests_115 : decode cX8_rests 115 = .ok (.istore 5, 2) := by decide +kernel
theorem dX8_rests_117 : decode cX8_rests 117 = .ok (.iinc 6 1, 3) := by decide +kernel
theorem dX8_rests_120 : decode cX8_rests 120 = .ok (.goto (-59), 3) := by decide +kernel
theorem dX8_rests_123 : decode cX8_rests 123 = .ok (.aload_n 0, 1) := by decide +kernel
theorem dX8_rests_124 : decode cX8_rests 124 = .ok (.getfield 49, 3) := by decide +kernel
theorem dX8_rests_127 : decode cX8_rests 127 = .ok (.bipush 8, 2) := by decide +kernel
theorem dX8_rests_129 : decode cX8_rests 129 = .ok (.iload_n 3, 1) := by decide +kernel
theorem dX8_rests_130 : decode cX8_rests 130 = .ok (.imul, 1) := by decide +kernel
theorem dX8_rests_131 : decode cX8_rests 131 = .ok (.iload 4, 2) := by decide +kernel
theorem dX8_rests_133 : decode cX8_rests 133 = .ok (.iadd, 1) := by decide +kernel
theorem dX8_rests_134 : decode cX8_rests 134 = .ok (.iload 5, 2) := by decide +kernel
theorem dX8_rests_136 : decode cX8_rests 136 = .ok (.aload_n 0, 1) := by decide +kernel
theorem dX8_rests_137 : decode cX8_rests 137 = .ok (.iconst 0, 1) := by decide +kernel
theorem dX8_rests_138 : decode cX8_rests 138 = .ok (.iload_n 3, 1) := by decide +kernel
theorem dX8_rests_139 : decode cX8_rests 139 = .ok (.iload 4, 2) := by decide +kernel
theorem dX8_rests_141 : decode cX8_rests 141 = .ok (.invokevirtual 95, 3) := by decide +kernel
theorem dX8_rests_144 : decode cX8_rests 144 = .ok (.iadd, 1) := by decide +kernel
theorem dX8_rests_145 : decode cX8_rests 145 = .ok (.iastore, 1) := by decide +kernel
theorem dX8_rests_146 : decode cX8_rests 146 = .ok (.iinc 4 1, 3) := by decide +kernel
theorem dX8_rests_149 : decode cX8_rests 149 = .ok (.goto (-131), 3) := by decide +kernel
theorem dX8_rests_152 : decode cX8_rests 152 = .ok (.iinc 3 (-1), 3) := by decide +kernel
theorem dX8_rests_155 : decode cX8_rests 155 = .ok (.goto (-144), 3) := by decide +kernel
theorem dX8_rests_158 : decode cX8_rests 158 = .ok (.return_, 1) := by decide +kernel
theorem dX8_ranked_0 : decode cX8_ranked 0 = .ok (.iconst 0, 1) := by decide +kernel
theorem dX8_ranked_1 : decode cX8_ranked 1 = .ok (.istore_n 2, 1) := by decide +kernel
theorem dX8_ranked_2 : decode cX8_ranked 2 = .ok (.iconst 0, 1) := by decide +kernel
theorem dX8_ranked_3 : decode cX8_ranked 3 = .ok (.istore_n 3, 1) := by decide +kernel
theorem dX8_ranked_4 : decode cX8_ranked 4 = .ok (.iload_n 3, 1) := by decide +kernel
theorem dX8_ranked_5 : decode cX8_ranked 5 = .ok (.aload_n 0, 1) := by decide +kernel
theorem dX8_ranked_6 : decode cX8_ranked 6 = .ok (.getfield 7, 3) := by decide +kernel
theorem dX8_ranked_9 : decode cX8_ranked 9 = .ok (.iconst 1, 1) := by decide +kernel
theorem dX8_ranked_10 : decode cX8_ranked 10 = .ok (.iaload, 1) := by decide +kernel
theorem dX8_ranked_11 : decode cX8_ranked 11 = .ok (.if_icmp .ge 28, 3) := by decide +kernel
theorem dX8_ranked_14 : decode cX8_ranked 14 = .ok (.iload_n 2, 1) := by decide +kernel
theorem dX8_ranked_15 : decode cX8_ranked 15 = .ok (.iload_n 1, 1) := by decide +kernel
theorem dX8_ranked_16 : decode cX8_ranked 16 = .ok (.aload_n 0, 1) := by decide +kernel
theorem dX8_ranked_17 : decode cX8_ranked 17 = .ok (.getfield 7, 3) := by decide +kernel
theorem dX8_ranked_20 : decode cX8_ranked 20 = .ok (.iconst 1, 1) := by decide +kernel
theorem dX8_ranked_21 : decode cX8_ranked 21 = .ok (.iaload, 1) := by decide +kernel
theorem dX8_ranked_22 : decode cX8_ranked 22 = .ok (.iconst 1, 1) := by decide +kernel
theorem dX8_ranked_23 : decode cX8_ranked 23 = .ok (.isub, 1) := by decide +kernel
theorem dX8_ranked_24 : decode cX8_ranked 24 = .ok (.iload_n 3, 1) := by decide +kernel
theorem dX8_ranked_25 : decode cX8_ranked 25 = .ok (.isub, 1) := by decide +kernel
theorem dX8_ranked_26 : decode cX8_ranked 26 = .ok (.ishr, 1) := by decide +kernel
theorem dX8_ranked_27 : decode cX8_ranked 27 = .ok (.iconst 1, 1) := by decide +kernel
theorem dX8_ranked_28 : decode cX8_ranked 28 = .ok (.iand, 1) := by decide +kernel
theorem dX8_ranked_29 : decode cX8_ranked 29 = .ok (.iload_n 3, 1) := by decide +kernel
theorem dX8_ranked_30 : decode cX8_ranked 30 = .ok (.ishl, 1) := by decide +kernel
theorem dX8_ranked_31 : decode cX8_ranked 31 = .ok (.ior, 1) := by decide +kernel
theorem dX8_ranked_32 : decode cX8_ranked 32 = .ok (.istore_n 2, 1) := by decide +kernel
theorem dX8_ranked_33 : decode cX8_ranked 33 = .ok (.iinc 3 1, 3) := by decide +kernel
theorem dX8_ranked_36 : decode cX8_ranked 36 = .ok (.goto (-32), 3) := by decide +kernel
theorem dX8_ranked_39 : decode cX8_ranked 39 = .ok (.iload_n 2, 1) := by decide +kernel
theorem dX8_ranked_40 : decode cX8_ranked 40 = .ok (.ireturn, 1) := by decide +kernel
theorem dX8_settles_0 : decode cX8_settles 0 = .ok (.iconst 0, 1) := by decide +kernel
theorem dX8_settles_1 : decode cX8_settles 1 = .ok (.istore_n 2, 1) := by decide +kernel
theorem dX8_settles_2 : decode cX8_settles 2 = .ok (.aload_n 0, 1) := by decide +kernel
theorem dX8_settles_3 : decode cX8_settles 3 = .ok (.aload_n 0, 1) := by decide +kernel
theorem dX8_settles_4 : decode cX8_settles 4 = .ok (.iconst 0, 1) := by decide +kernel
theorem dX8_settles_5 : decode cX8_settles 5 = .ok (.invokevirtual 143, 3) := by decide +kernel
theorem dX8_settles_8 : decode cX8_settles 8 = .ok (.invokevirtual 146, 3) := by decide +kernel
theorem dX8_settles_11 : decode cX8_settles 11 = .ok (.iconst 1, 1) := by decide +kernel
theorem dX8_settles_12 : decode cX8_settles 12 = .ok (.istore_n 3, 1) := by decide +kernel
theorem dX8_settles_13 : decode cX8_settles 13 = .ok (.aload_n 0, 1) := by decide +kernel
theorem dX8_settles_14 : decode cX8_settles 14 = .ok (.getfield 49, 3) := by decide +kernel
theorem dX8_settles_17 : decode cX8_settles 17 = .ok (.aload_n 0, 1) := by decide +kernel
theorem dX8_settles_18 : decode cX8_settles 18 = .ok (.iload_n 2, 1) := by decide +kernel
theorem dX8_settles_19 : decode cX8_settles 19 = .ok (.invokevirtual 143, 3) := by decide +kernel
theorem dX8_settles_22 : decode cX8_settles 22 = .ok (.iaload, 1) := by decide +kernel
theorem dX8_settles_23 : decode cX8_settles 23 = .ok (.iload_n 1, 1) := by decide +kernel
theorem dX8_settles_24 : decode cX8_settles 24 = .ok (.if_icmp .le 20, 3) := by decide +kernel
theorem dX8_settles_27 : decode cX8_settles 27 = .ok (.iload_n 3, 1) := by decide +kernel
theorem dX8_settles_28 : decode cX8_settles 28 = .ok (.istore_n 2, 1) := by decide +kernel
theorem dX8_settles_29 : decode cX8_settles 29 = .ok (.aload_n 0, 1) := by decide +kernel
theorem dX8_settles_30 : decode cX8_settles 30 = .ok (.aload_n 0, 1) := by decide +kernel
theorem dX8_settles_31 : decode cX8_settles 31 = .ok (.iload_n 2, 1) := by decide +kernel
theorem dX8_settles_32 : decode cX8_settles 32 = .ok (.invokevirtual 143, 3) := by decide +kernel
theorem dX8_settles_35 : decode cX8_settles 35 = .ok (.invokevirtual 146, 3) := by decide +kernel
theorem dX8_settles_38 : decode cX8_settles 38 = .ok (.iinc 3 1, 3) := by decide +kernel
theorem dX8_settles_41 : decode cX8_settles 41 = .ok (.goto (-28), 3) := by decide +kernel
theorem dX8_settles_44 : decode cX8_settles 44 = .ok (.aload_n 0, 1) := by decide +kernel
theorem dX8_settles_45 : decode cX8_settles 45 = .ok (.getfield 7, 3) := by decide +kernel
theorem dX8_settles_48 : decode cX8_settles 48 = .ok (.bipush 6, 2) := by decide +kernel
theorem dX8_settles_50 : decode cX8_settles 50 = .ok (.aload_n 0, 1) := by decide +kernel
theorem dX8_settles_51 : decode cX8_settles 51 = .ok (.iload_n 2, 1) := by decide +kernel
theorem dX8_settles_52 : decode cX8_settles 52 = .ok (.invokevirtual 143, 3) := by decide +kernel
theorem dX8_settles_55 : decode cX8_settles 55 = .ok (.iastore, 1) := by decide +kernel
theorem dX8_settles_56 : decode cX8_settles 56 = .ok (.iconst 1, 1) := by decide +kernel
theorem dX8_settles_57 : decode cX8_settles 57 = .ok (.istore_n 3, 1) := by decide +kernel
theorem dX8_settles_58 : decode cX8_settles 58 = .ok (.iload_n 3, 1) := by decide +kernel
theorem dX8_settles_59 : decode cX8_settles 59 = .ok (.aload_n 0, 1) := by decide +kernel
theorem dX8_settles_60 : decode cX8_settles 60 = .ok (.getfield 7, 3) := by decide +kernel
theorem dX8_settles_63 : decode cX8_settles 63 = .ok (.iconst 0, 1) := by decide +kernel
theorem dX8_settles_64 : decode cX8_settles 64 = .ok (.iaload, 1) := by decide +kernel
theorem dX8_settles_65 : decode cX8_settles 65 = .ok (.if_icmp .ge 108, 3) := by decide +kernel
theorem dX8_settles_68 : decode cX8_settles 68 = .ok (.aload_n 0, 1) := by decide +kernel
theorem dX8_settles_69 : decode cX8_settles 69 = .ok (.getfield 7, 3) := by decide +kernel
theorem dX8_settles_72 : decode cX8_settles 72 = .ok (.bipush 6, 2) := by decide +kernel
theorem dX8_settles_74 : decode cX8_settles 74 = .ok (.iload_n 3, 1) := by decide +kernel
theorem dX8_settles_75 : decode cX8_settles 75 = .ok (.iadd, 1) := by decide +kernel
theorem dX8_settles_76 : decode cX8_settles 76 = .ok (.iconst 1, 1) := by decide +kernel
theorem dX8_settles_77 : decode cX8_settles 77 = .ok (.isub, 1) := by decide +kernel
theorem dX8_settles_78 : decode cX8_settles 78 = .ok (.iaload, 1) := by decide +kernel
theorem dX8_settles_79 : decode cX8_settles 79 = .ok (.istore 4, 2) := by decide +kernel
theorem dX8_settles_81 : decode cX8_settles 81 = .ok (.aload_n 0, 1) := by decide +kernel
theorem dX8_settles_82 : decode cX8_settles 82 = .ok (.getfield 49, 3) := by decide +kernel
theorem dX8_settles_85 : decode cX8_settles 85 = .ok (.bipush 8, 2) := by decide +kernel
theorem dX8_settles_87 : decode cX8_settles 87 = .ok (.iload_n 3, 1) := by decide +kernel
theorem dX8_settles_88 : decode cX8_settles 88 = .ok (.iconst 1, 1) := by decide +kernel
theorem dX8_settles_89 : decode cX8_settles 89 = .ok (.isub, 1) := by decide +kernel
theorem dX8_settles_90 : decode cX8_settles 90 = .ok (.imul, 1) := by decide +kernel
theorem dX8_settles_91 : decode cX8_settles 91 = .ok (.iload 4, 2) := by decide +kernel
theorem dX8_settles_93 : decode cX8_settles 93 = .ok (.iadd, 1) := by decide +kernel
theorem dX8_settles_94 : decode cX8_settles 94 = .ok (.iaload, 1) := by decide +kernel
theorem dX8_settles_95 : decode cX8_settles 95 = .ok (.aload_n 0, 1) := by decide +kernel
theorem dX8_settles_96 : decode cX8_settles 96 = .ok (.iconst 0, 1) := by decide +kernel
theorem dX8_settles_97 : decode cX8_settles 97 = .ok (.iload_n 3, 1) := by decide +kernel
theorem dX8_settles_98 : decode cX8_settles 98 = .ok (.iconst 1, 1) := by decide +kernel
theorem dX8_settles_99 : decode cX8_settles 99 = .ok (.isub, 1) := by decide +kernel
theorem dX8_settles_100 : decode cX8_settles 100 = .ok (.iload 4, 2) := by decide +kernel
theorem dX8_settles_102 : decode cX8_settles 102 = .ok (.invokevirtual 95, 3) := by decide +kernel
theorem dX8_settles_105 : decode cX8_settles 105 = .ok (.isub, 1) := by decide +kernel
theorem dX8_settles_106 : decode cX8_settles 106 = .ok (.istore 5, 2) := by decide +kernel
theorem dX8_settles_108 : decode cX8_settles 108 = .ok (.iconst 0, 1) := by decide +kernel
theorem dX8_settles_109 : decode cX8_settles 109 = .ok (.istore 6, 2) := by decide +kernel
theorem dX8_settles_111 : decode cX8_settles 111 = .ok (.aload_n 0, 1) := by decide +kernel
theorem dX8_settles_112 : decode cX8_settles 112 = .ok (.iconst 0, 1) := by decide +kernel
theorem dX8_settles_113 : decode cX8_settles 113 = .ok (.iload 4, 2) := by decide +kernel
theorem dX8_settles_115 : decode cX8_settles 115 = .ok (.aload_n 0, 1) := by decide +kernel
theorem dX8_settles_116 : decode cX8_settles 116 = .ok (.iload 6, 2) := by decide +kernel
theorem dX8_settles_118 : decode cX8_settles 118 = .ok (.invokevirtual 143, 3) := by decide +kernel
theorem dX8_settles_121 : decode cX8_settles 121 = .ok (.invokevirtual 99, 3) := by decide +kernel
theorem dX8_settles_124 : decode cX8_settles 124 = .ok (.aload_n 0, 1) := by decide +kernel
theorem dX8_settles_125 : decode cX8_settles 125 = .ok (.getfield 49, 3) := by decide +kernel
theorem dX8_settles_128 : decode cX8_settles 128 = .ok (.bipush 8, 2) := by decide +kernel
theorem dX8_settles_130 : decode cX8_settles 130 = .ok (.iload_n 3, 1) := by decide +kernel
theorem dX8_settles_131 : decode cX8_settles 131 = .ok (.imul, 1) := by decide +kernel
theorem dX8_settles_132 : decode cX8_settles 132 = .ok (.aload_n 0, 1) := by decide +kernel
theorem dX8_settles_133 : decode cX8_settles 133 = .ok (.iload 6, 2) := by decide +kernel
theorem dX8_settles_135 : decode cX8_settles 135 = .ok (.invokevirtual 143, 3) := by decide +kernel
theorem dX8_settles_138 : decode cX8_settles 138 = .ok (.iadd, 1) := by decide +kernel
theorem dX8_settles_139 : decode cX8_settles 139 = .ok (.iaload, 1) := by decide +kernel
theorem dX8_settles_140 : decode cX8_settles 140 = .ok (.iadd, 1) := by decide +kernel
theorem dX8_settles_141 : decode cX8_settles 141 = .ok (.iload 5, 2) := by decide +kernel
theorem dX8_settles_143 : decode cX8_settles 143 = .ok (.if_icmp .le 9, 3) := by decide +kernel
theorem dX8_settles_146 : decode cX8_settles 146 = .ok (.iinc 6 1, 3) := by decide +kernel
theorem dX8_settles_149 : decode cX8_settles 149 = .ok (.goto (-38), 3) := by decide +kernel
theorem dX8_settles_152 : decode cX8_settles 152 = .ok (.aload_n 0, 1) := by decide +kernel
theorem dX8_settles_153 : decode cX8_settles 153 = .ok (.getfield 7, 3) := by decide +kernel
theorem dX8_settles_156 : decode cX8_settles 156 = .ok (.bipush 6, 2) := by decide +kernel
theorem dX8_settles_158 : decode cX8_settles 158 = .ok (.iload_n 3, 1) := by decide +kernel
theorem dX8_settles_159 : decode cX8_settles 159 = .ok (.iadd, 1) := by decide +kernel
theorem dX8_settles_160 : decode cX8_settles 160 = .ok (.aload_n 0, 1) := by decide +kernel
theorem dX8_settles_161 : decode cX8_settles 161 = .ok (.iload 6, 2) := by decide +kernel
theorem dX8_settles_163 : decode cX8_settles 163 = .ok (.invokevirtual 143, 3) := by decide +kernel
theorem dX8_settles_166 : decode cX8_settles 166 = .ok (.iastore, 1) := by decide +kernel
theorem dX8_settles_167 : decode cX8_settles 167 = .ok (.iinc 3 1, 3) := by decide +kernel
theorem dX8_settles_170 : decode cX8_settles 170 = .ok (.goto (-112), 3) := by decide +kernel
theorem dX8_settles_173 : decode cX8_settles 173 = .ok (.return_, 1) := by decide +kernel
theorem dX8_joins_0 : decode cX8_joins 0 = .ok (.aload_n 0, 1) := by decide +kernel
theorem dX8_joins_1 : decode cX8_joins 1 = .ok (.iload_n 1, 1) := by decide +kernel
theorem dX8_joins_2 : decode cX8_joins 2 = .ok (.invokevirtual 109, 3) := by decide +kernel
theorem dX8_joins_5 : decode cX8_joins 5 = .ok (.ifCond .eq 33, 3) := by decide +kernel
theorem dX8_joins_8 : decode cX8_joins 8 = .ok (.iload_n 2, 1) := by decide +kernel
theorem dX8_joins_9 : decode cX8_joins 9 = .ok (.sipush (-1005), 3) := by decide +kernel
theorem dX8_joins_12 : decode cX8_joins 12 = .ok (.if_icmp .eq 26, 3) := by decide +kernel
theorem dX8_joins_15 : decode cX8_joins 15 = .ok (.aload_n 0, 1) := by decide +kernel
theorem dX8_joins_16 : decode cX8_joins 16 = .ok (.iload_n 1, 1) := by decide +kernel
theorem dX8_joins_17 : decode cX8_joins 17 = .ok (.iload_n 2, 1) := by decide +kernel
theorem dX8_joins_18 : decode cX8_joins 18 = .ok (.invokevirtual 106, 3) := by decide +kernel
theorem dX8_joins_21 : decode cX8_joins 21 = .ok (.iload_n 3, 1) := by decide +kernel
theorem dX8_joins_22 : decode cX8_joins 22 = .ok (.if_icmp .ne 16, 3) := by decide +kernel
theorem dX8_joins_25 : decode cX8_joins 25 = .ok (.aload_n 0, 1) := by decide +kernel
theorem dX8_joins_26 : decode cX8_joins 26 = .ok (.getfield 52, 3) := by decide +kernel
theorem dX8_joins_29 : decode cX8_joins 29 = .ok (.iconst 3, 1) := by decide +kernel
theorem dX8_joins_30 : decode cX8_joins 30 = .ok (.iload_n 2, 1) := by decide +kernel
theorem dX8_joins_31 : decode cX8_joins 31 = .ok (.imul, 1) := by decide +kernel
theorem dX8_joins_32 : decode cX8_joins 32 = .ok (.iload_n 1, 1) := by decide +kernel
theorem dX8_joins_33 : decode cX8_joins 33 = .ok (.iadd, 1) := by decide +kernel
theorem dX8_joins_34 : decode cX8_joins 34 = .ok (.iaload, 1) := by decide +kernel
theorem dX8_joins_35 : decode cX8_joins 35 = .ok (.ifCond .le 4, 3) := by decide +kernel
theorem dX8_joins_38 : decode cX8_joins 38 = .ok (.return_, 1) := by decide +kernel
theorem dX8_joins_39 : decode cX8_joins 39 = .ok (.aload_n 0, 1) := by decide +kernel
theorem dX8_joins_40 : decode cX8_joins 40 = .ok (.getfield 52, 3) := by decide +kernel
theorem dX8_joins_43 : decode cX8_joins 43 = .ok (.iconst 3, 1) := by decide +kernel
theorem dX8_joins_44 : decode cX8_joins 44 = .ok (.iload_n 2, 1) := by decide +kernel
theorem dX8_joins_45 : decode cX8_joins 45 = .ok (.imul, 1) := by decide +kernel
theorem dX8_joins_46 : decode cX8_joins 46 = .ok (.iload_n 1, 1) := by decide +kernel
theorem dX8_joins_47 : decode cX8_joins 47 = .ok (.iadd, 1) := by decide +kernel
theorem dX8_joins_48 : decode cX8_joins 48 = .ok (.iconst 1, 1) := by decide +kernel
theorem dX8_joins_49 : decode cX8_joins 49 = .ok (.iastore, 1) := by decide +kernel
theorem dX8_joins_50 : decode cX8_joins 50 = .ok (.aload_n 0, 1) := by decide +kernel
theorem dX8_joins_51 : decode cX8_joins 51 = .ok (.getfield 55, 3) := by decide +kernel
theorem dX8_joins_54 : decode cX8_joins 54 = .ok (.aload_n 0, 1) := by decide +kernel
theorem dX8_joins_55 : decode cX8_joins 55 = .ok (.getfield 149, 3) := by decide +kernel
theorem dX8_joins_58 : decode cX8_joins 58 = .ok (.iconst 3, 1) := by decide +kernel
theorem dX8_joins_59 : decode cX8_joins 59 = .ok (.iload_n 2, 1) := by decide +kernel
theorem dX8_joins_60 : decode cX8_joins 60 = .ok (.imul, 1) := by decide +kernel
theorem dX8_joins_61 : decode cX8_joins 61 = .ok (.iload_n 1, 1) := by decide +kernel
theorem dX8_joins_62 : decode cX8_joins 62 = .ok (.iadd, 1) := by decide +kernel
theorem dX8_joins_63 : decode cX8_joins 63 = .ok (.iastore, 1) := by decide +kernel
theorem dX8_joins_64 : decode cX8_joins 64 = .ok (.aload_n 0, 1) := by decide +kernel
theorem dX8_joins_65 : decode cX8_joins 65 = .ok (.dup, 1) := by decide +kernel
theorem dX8_joins_66 : decode cX8_joins 66 = .ok (.getfield 149, 3) := by decide +kernel
theorem dX8_joins_69 : decode cX8_joins 69 = .ok (.iconst 1, 1) := by decide +kernel
theorem dX8_joins_70 : decode cX8_joins 70 = .ok (.iadd, 1) := by decide +kernel
theorem dX8_joins_71 : decode cX8_joins 71 = .ok (.putfield 149, 3) := by decide +kernel
theorem dX8_joins_74 : decode cX8_joins 74 = .ok (.return_, 1) := by decide +kernel
theorem dX8_finds_0 : decode cX8_finds 0 = .ok (.aload_n 0, 1) := by decide +kernel
theorem dX8_finds_1 : decode cX8_finds 1 = .ok (.iconst 0, 1) := by decide +kernel
theorem dX8_finds_2 : decode cX8_finds 2 = .ok (.putfield 149, 3) := by decide +kernel
theorem dX8_finds_5 : decode cX8_finds 5 = .ok (.aload_n 0, 1) := by decide +kernel
theorem dX8_finds_6 : decode cX8_finds 6 = .ok (.iload_n 1, 1) := by decide +kernel
theorem dX8_finds_7 : decode cX8_finds 7 = .ok (.iload_n 2, 1) := by decide +kernel
theorem dX8_finds_8 : decode cX8_finds 8 = .ok (.invokevirtual 106, 3) := by decide +kernel
theorem dX8_finds_11 : decode cX8_finds 11 = .ok (.istore_n 3, 1) := by decide +kernel
theorem dX8_finds_12 : decode cX8_finds 12 = .ok (.aload_n 0, 1) := by decide +kernel
theorem dX8_finds_13 : decode cX8_finds 13 = .ok (.iload_n 1, 1) := by decide +kernel
theorem dX8_finds_14 : decode cX8_finds 14 = .ok (.iload_n 2, 1) := by decide +kernel
theorem dX8_finds_15 : decode cX8_finds 15 = .ok (.iload_n 3, 1) := by decide +kernel
theorem dX8_finds_16 : decode cX8_finds 16 = .ok (.invokevirtual 152, 3) := by decide +kernel
theorem dX8_finds_19 : decode cX8_finds 19 = .ok (.iconst 0, 1) := by decide +kernel
theorem dX8_finds_20 : decode cX8_finds 20 = .ok (.istore 4, 2) := by decide +kernel
theorem dX8_finds_22 : decode cX8_finds 22 = .ok (.iload 4, 2) := by decide +kernel
theorem dX8_finds_24 : decode cX8_finds 24 = .ok (.aload_n 0, 1) := by decide +kernel
theorem dX8_finds_25 : decode cX8_finds 25 = .ok (.getfield 149, 3) := by decide +kernel
theorem dX8_finds_28 : decode cX8_finds 28 = .ok (.if_icmp .ge 81, 3) := by decide +kernel
theorem dX8_finds_31 : decode cX8_finds 31 = .ok (.aload_n 0, 1) := by decide +kernel
theorem dX8_finds_32 : decode cX8_finds 32 = .ok (.getfield 55, 3) := by decide +kernel
theorem dX8_finds_35 : decode cX8_finds 35 = .ok (.iload 4, 2) := by decide +kernel
theorem dX8_finds_37 : decode cX8_finds 37 = .ok (.iaload, 1) := by decide +kernel
theorem dX8_finds_38 : decode cX8_finds 38 = .ok (.iconst 3, 1) := by decide +kernel
theorem dX8_finds_39 : decode cX8_finds 39 = .ok (.irem, 1) := by decide +kernel
theorem dX8_finds_40 : decode cX8_finds 40 = .ok (.istore 5, 2) := by decide +kernel
theorem dX8_finds_42 : decode cX8_finds 42 = .ok (.aload_n 0, 1) := by decide +kernel
theorem dX8_finds_43 : decode cX8_finds 43 = .ok (.getfield 55, 3) := by decide +kernel
theorem dX8_finds_46 : decode cX8_finds 46 = .ok (.iload 4, 2) := by decide +kernel
theorem dX8_finds_48 : decode cX8_finds 48 = .ok (.iaload, 1) := by decide +kernel
theorem dX8_finds_49 : decode cX8_finds 49 = .ok (.iconst 3, 1) := by decide +kernel
theorem dX8_finds_50 : decode cX8_finds 50 = .ok (.idiv, 1) := by decide +kernel
theorem dX8_finds_51 : decode cX8_finds 51 = .ok (.istore 6, 2) := by decide +kernel
theorem dX8_finds_53 : decode cX8_finds 53 = .ok (.aload_n 0, 1) := by decide +kernel
theorem dX8_finds_54 : decode cX8_finds 54 = .ok (.iload 5, 2) := by decide +kernel
theorem dX8_finds_56 : decode cX8_finds 56 = .ok (.iconst 1, 1) := by decide +kernel
theorem dX8_finds_57 : decode cX8_finds 57 = .ok (.isub, 1) := by decide +kernel
theorem dX8_finds_58 : decode cX8_finds 58 = .ok (.iload 6, 2) := by decide +kernel
theorem dX8_finds_60 : decode cX8_finds 60 = .ok (.iload_n 3, 1) := by decide +kernel
theorem dX8_finds_61 : decode cX8_finds 61 = .ok (.invokevirtual 152, 3) := by decide +kernel
theorem dX8_finds_64 : decode cX8_finds 64 = .ok (.aload_n 0, 1) := by decide +kernel
theorem dX8_finds_65 : decode cX8_finds 65 = .ok (.iload 5, 2) := by decide +kernel
theorem dX8_finds_67 : decode cX8_finds 67 = .ok (.iconst 1, 1) := by decide +kernel
theorem dX8_finds_68 : decode cX8_finds 68 = .ok (.iadd, 1) := by decide +kernel
theorem dX8_finds_69 : decode cX8_finds 69 = .ok (.iload 6, 2) := by decide +kernel
theorem dX8_finds_71 : decode cX8_finds 71 = .ok (.iload_n 3, 1) := by decide +kernel
theorem dX8_finds_72 : decode cX8_finds 72 = .ok (.invokevirtual 152, 3) := by decide +kernel
theorem dX8_finds_75 : decode cX8_finds 75 = .ok (.aload_n 0, 1) := by decide +kernel
theorem dX8_finds_76 : decode cX8_finds 76 = .ok (.iload 5, 2) := by decide +kernel
theorem dX8_finds_78 : decode cX8_finds 78 = .ok (.aload_n 0, 1) := by decide +kernel
theorem dX8_finds_79 : decode cX8_finds 79 = .ok (.iload 6, 2) := by decide +kernel
theorem dX8_finds_81 : decode cX8_finds 81 = .ok (.iconst (-1), 1) := by decide +kernel
theorem dX8_finds_82 : decode cX8_finds 82 = .ok (.invokevirtual 92, 3) := by decide +kernel
theorem dX8_finds_85 : decode cX8_finds 85 = .ok (.iload_n 3, 1) := by decide +kernel
theorem dX8_finds_86 : decode cX8_finds 86 = .ok (.invokevirtual 152, 3) := by decide +kernel
theorem dX8_finds_89 : decode cX8_finds 89 = .ok (.aload_n 0, 1) := by decide +kernel
theorem dX8_finds_90 : decode cX8_finds 90 = .ok (.iload 5, 2) := by decide +kernel
theorem dX8_finds_92 : decode cX8_finds 92 = .ok (.aload_n 0, 1) := by decide +kernel
theorem dX8_finds_93 : decode cX8_finds 93 = .ok (.iload 6, 2) := by decide +kernel
theorem dX8_finds_95 : decode cX8_finds 95 = .ok (.iconst 1, 1) := by decide +kernel
theorem dX8_finds_96 : decode cX8_finds 96 = .ok (.invokevirtual 92, 3) := by decide +kernel
theorem dX8_finds_99 : decode cX8_finds 99 = .ok (.iload_n 3, 1) := by decide +kernel
theorem dX8_finds_100 : decode cX8_finds 100 = .ok (.invokevirtual 152, 3) := by decide +kernel
theorem dX8_finds_103 : decode cX8_finds 103 = .ok (.iinc 4 1, 3) := by decide +kernel
theorem dX8_finds_106 : decode cX8_finds 106 = .ok (.goto (-84), 3) := by decide +kernel
theorem dX8_finds_109 : decode cX8_finds 109 = .ok (.return_, 1) := by decide +kernel
theorem dX8_forgets_0 : decode cX8_forgets 0 = .ok (.iconst 0, 1) := by decide +kernel
theorem dX8_forgets_1 : decode cX8_forgets 1 = .ok (.istore_n 1, 1) := by decide +kernel
theorem dX8_forgets_2 : decode cX8_forgets 2 = .ok (.iload_n 1, 1) := by decide +kernel
theorem dX8_forgets_3 : decode cX8_forgets 3 = .ok (.bipush 30, 2) := by decide +kernel
theorem dX8_forgets_5 : decode cX8_forgets 5 = .ok (.if_icmp .ge 16, 3) := by decide +kernel
theorem dX8_forgets_8 : decode cX8_forgets 8 = .ok (.aload_n 0, 1) := by decide +kernel
theorem dX8_forgets_9 : decode cX8_forgets 9 = .ok (.getfield 52, 3) := by decide +kernel
theorem dX8_forgets_12 : decode cX8_forgets 12 = .ok (.iload_n 1, 1) := by decide +kernel
theorem dX8_forgets_13 : decode cX8_forgets 13 = .ok (.iconst 0, 1) := by decide +kernel
theorem dX8_forgets_14 : decode cX8_forgets 14 = .ok (.iastore, 1) := by decide +kernel
theorem dX8_forgets_15 : decode cX8_forgets 15 = .ok (.iinc 1 1, 3) := by decide +kernel
theorem dX8_forgets_18 : decode cX8_forgets 18 = .ok (.goto (-16), 3) := by decide +kernel
theorem dX8_forgets_21 : decode cX8_forgets 21 = .ok (.return_, 1) := by decide +kernel
theorem dX8_patches_0 : decode cX8_patches 0 = .ok (.aload_n 0, 1) := by decide +kernel
theorem dX8_patches_1 : decode cX8_patches 1 = .ok (.invokevirtual 156, 3) := by decide +kernel
theorem dX8_patches_4 : decode cX8_patches 4 = .ok (.iconst 0, 1) := by decide +kernel
theorem dX8_patches_5 : decode cX8_patches 5 = .ok (.istore_n 1, 1) := by decide +kernel
theorem dX8_patches_6 : decode cX8_patches 6 = .ok (.iconst 0, 1) := by decide +kernel
theorem dX8_patches_7 : decode cX8_patches 7 = .ok (.istore_n 2, 1) := by decide +kernel
theorem dX8_patches_8 : decode cX8_patches 8 = .ok (.iload_n 2, 1) := by decide +kernel
theorem dX8_patches_9 : decode cX8_patches 9 = .ok (.aload_n 0, 1) := by decide +kernel
theorem dX8_patches_10 : decode cX8_patches 10 = .ok (.invokevirtual 159, 3) := by decide +kernel
theorem dX8_patches_13 : decode cX8_patches 13 = .ok (.if_icmp .ge 52, 3) := by decide +kernel
theorem dX8_patches_16 : decode cX8_patches 16 = .ok (.iload_n 2, 1) := by decide +kernel
theorem dX8_patches_17 : decode cX8_patches 17 = .ok (.aload_n 0, 1) := by decide +kernel
theorem dX8_patches_18 : decode cX8_patches 18 = .ok (.getfield 7, 3) := by decide +kernel
theorem dX8_patches_21 : decode cX8_patches 21 = .ok (.iconst 1, 1) := by decide +kernel
theorem dX8_patches_22 : decode cX8_patches 22 = .ok (.iaload, 1) := by decide +kernel
theorem dX8_patches_23 : decode cX8_patches 23 = .ok (.irem, 1) := by decide +kernel
theorem dX8_patches_24 : decode cX8_patches 24 = .ok (.istore_n 3, 1) := by decide +kernel
theorem dX8_patches_25 : decode cX8_patches 25 = .ok (.iload_n 2, 1) := by decide +kernel
theorem dX8_patches_26 : decode cX8_patches 26 = .ok (.aload_n 0, 1) := by decide +kernel
theorem dX8_patches_27 : decode cX8_patches 27 = .ok (.getfield 7, 3) := by decide +kernel
theorem dX8_patches_30 : decode cX8_patches 30 = .ok (.iconst 1, 1) := by decide +kernel
theorem dX8_patches_31 : decode cX8_patches 31 = .ok (.iaload, 1) := by decide +kernel
theorem dX8_patches_32 : decode cX8_patches 32 = .ok (.idiv, 1) := by decide +kernel
theorem dX8_patches_33 : decode cX8_patches 33 = .ok (.istore 4, 2) := by decide +kernel
theorem dX8_patches_35 : decode cX8_patches 35 = .ok (.aload_n 0, 1) := by decide +kernel
theorem dX8_patches_36 : decode cX8_patches 36 = .ok (.getfield 52, 3) := by decide +kernel
theorem dX8_patches_39 : decode cX8_patches 39 = .ok (.iconst 3, 1) := by decide +kernel
theorem dX8_patches_40 : decode cX8_patches 40 = .ok (.iload 4, 2) := by decide +kernel
theorem dX8_patches_42 : decode cX8_patches 42 = .ok (.imul, 1) := by decide +kernel
theorem dX8_patches_43 : decode cX8_patches 43 = .ok (.iload_n 3, 1) := by decide +kernel
theorem dX8_patches_44 : decode cX8_patches 44 = .ok (.iadd, 1) := by decide +kernel
theorem dX8_patches_45 : decode cX8_patches 45 = .ok (.iaload, 1) := by decide +kernel
theorem dX8_patches_46 : decode cX8_patches 46 = .ok (.ifCond .ne 13, 3) := by decide +kernel
theorem dX8_patches_49 : decode cX8_patches 49 = .ok (.aload_n 0, 1) := by decide +kernel
theorem dX8_patches_50 : decode cX8_patches 50 = .ok (.iload_n 3, 1) := by decide +kernel
theorem dX8_patches_51 : decode cX8_patches 51 = .ok (.iload 4, 2) := by decide +kernel
theorem dX8_patches_53 : decode cX8_patches 53 = .ok (.invokevirtual 162, 3) := by decide +kernel
theorem dX8_patches_56 : decode cX8_patches 56 = .ok (.iinc 1 1, 3) := by decide +kernel
theorem dX8_patches_59 : decode cX8_patches 59 = .ok (.iinc 2 1, 3) := by decide +kernel
theorem dX8_patches_62 : decode cX8_patches 62 = .ok (.goto (-54), 3) := by decide +kernel
theorem dX8_patches_65 : decode cX8_patches 65 = .ok (.iload_n 1, 1) := by decide +kernel
theorem dX8_patches_66 : decode cX8_patches 66 = .ok (.ireturn, 1) := by decide +kernel
theorem dX8_lay_0 : decode cX8_lay 0 = .ok (.iload_n 1, 1) := by decide +kernel
theorem dX8_lay_1 : decode cX8_lay 1 = .ok (.i2l, 1) := by decide +kernel
theorem dX8_lay_2 : decode cX8_lay 2 = .ok (.lconst 1, 1) := by decide +kernel
theorem dX8_lay_3 : decode cX8_lay 3 = .ok (.ldc2_w 165, 3) := by decide +kernel
theorem dX8_lay_6 : decode cX8_lay 6 = .ok (.invokestatic 73, 3) := by decide +kernel
theorem dX8_lay_9 : decode cX8_lay 9 = .ok (.ifCond .eq 15, 3) := by decide +kernel
theorem dX8_lay_12 : decode cX8_lay 12 = .ok (.iload_n 2, 1) := by decide +kernel
theorem dX8_lay_13 : decode cX8_lay 13 = .ok (.i2l, 1) := by decide +kernel
theorem dX8_lay_14 : decode cX8_lay 14 = .ok (.lconst 1, 1) := by decide +kernel
theorem dX8_lay_15 : decode cX8_lay 15 = .ok (.ldc2_w 167, 3) := by decide +kernel
theorem dX8_lay_18 : decode cX8_lay 18 = .ok (.invokestatic 73, 3) := by decide +kernel
theorem dX8_lay_21 : decode cX8_lay 21 = .ok (.ifCond .ne 7, 3) := by decide +kernel
theorem dX8_lay_24 : decode cX8_lay 24 = .ok (.sipush (-1002), 3) := by decide +kernel
theorem dX8_lay_27 : decode cX8_lay 27 = .ok (.ireturn, 1) := by decide +kernel
theorem dX8_lay_28 : decode cX8_lay 28 = .ok (.aload_n 0, 1) := by decide +kernel
theorem dX8_lay_29 : decode cX8_lay 29 = .ok (.invokevirtual 169, 3) := by decide +kernel
theorem dX8_lay_32 : decode cX8_lay 32 = .ok (.aload_n 0, 1) := by decide +kernel
theorem dX8_lay_33 : decode cX8_lay 33 = .ok (.getfield 7, 3) := by decide +kernel
theorem dX8_lay_36 : decode cX8_lay 36 = .ok (.iconst 2, 1) := by decide +kernel
theorem dX8_lay_37 : decode cX8_lay 37 = .ok (.iload_n 3, 1) := by decide +kernel
theorem dX8_lay_38 : decode cX8_lay 38 = .ok (.ifCond .eq 7, 3) := by decide +kernel
theorem dX8_lay_41 : decode cX8_lay 41 = .ok (.iconst 1, 1) := by decide +kernel
theorem dX8_lay_42 : decode cX8_lay 42 = .ok (.goto 4, 3) := by decide +kernel
theorem dX8_lay_45 : decode cX8_lay 45 = .ok (.iconst 0, 1) := by decide +kernel
theorem dX8_lay_46 : decode cX8_lay 46 = .ok (.iastore, 1) := by decide +kernel
theorem dX8_lay_47 : decode cX8_lay 47 = .ok (.aload_n 0, 1) := by decide +kernel
theorem dX8_lay_48 : decode cX8_lay 48 = .ok (.iload_n 1, 1) := by decide +kernel
theorem dX8_lay_49 : decode cX8_lay 49 = .ok (.iload_n 2, 1) := by decide +kernel
theorem dX8_lay_50 : decode cX8_lay 50 = .ok (.invokevirtual 61, 3) := by decide +kernel
theorem dX8_lay_53 : decode cX8_lay 53 = .ok (.aload_n 0, 1) := by decide +kernel
theorem dX8_lay_54 : decode cX8_lay 54 = .ok (.aload_n 0, 1) := by decide +kernel
theorem dX8_lay_55 : decode cX8_lay 55 = .ok (.invokevirtual 159, 3) := by decide +kernel
theorem dX8_lay_58 : decode cX8_lay 58 = .ok (.invokevirtual 172, 3) := by decide +kernel
theorem dX8_lay_61 : decode cX8_lay 61 = .ok (.ireturn, 1) := by decide +kernel
theorem dX8_close_0 : decode cX8_close 0 = .ok (.iload_n 1, 1) := by decide +kernel
theorem dX8_close_1 : decode cX8_close 1 = .ok (.ifCond .eq 7, 3) := by decide +kernel
theorem dX8_close_4 : decode cX8_close 4 = .ok (.iconst 1, 1) := by decide +kernel
theorem dX8_close_5 : decode cX8_close 5 = .ok (.goto 4, 3) := by decide +kernel
theorem dX8_close_8 : decode cX8_close 8 = .ok (.iconst 0, 1) := by decide +kernel
theorem dX8_close_9 : decode cX8_close 9 = .ok (.istore_n 2, 1) := by decide +kernel
theorem dX8_close_10 : decode cX8_close 10 = .ok (.aload_n 0, 1) := by decide +kernel
theorem dX8_close_11 : decode cX8_close 11 = .ok (.getfield 7, 3) := by decide +kernel
theorem dX8_close_14 : decode cX8_close 14 = .ok (.iconst 2, 1) := by decide +kernel
theorem dX8_close_15 : decode cX8_close 15 = .ok (.iaload, 1) := by decide +kernel
theorem dX8_close_16 : decode cX8_close 16 = .ok (.iload_n 2, 1) := by decide +kernel
theorem dX8_close_17 : decode cX8_close 17 = .ok (.if_icmp .ne 7, 3) := by decide +kernel
theorem dX8_close_20 : decode cX8_close 20 = .ok (.sipush (-1005), 3) := by decide +kernel
theorem dX8_close_23 : decode cX8_close 23 = .ok (.ireturn, 1) := by decide +kernel
theorem dX8_close_24 : decode cX8_close 24 = .ok (.aload_n 0, 1) := by decide +kernel
theorem dX8_close_25 : decode cX8_close 25 = .ok (.invokevirtual 169, 3) := by decide +kernel
theorem dX8_close_28 : decode cX8_close 28 = .ok (.aload_n 0, 1) := by decide +kernel
theorem dX8_close_29 : decode cX8_close 29 = .ok (.getfield 7, 3) := by decide +kernel
theorem dX8_close_32 : decode cX8_close 32 = .ok (.iconst 2, 1) := by decide +kernel
theorem dX8_close_33 : decode cX8_close 33 = .ok (.iload_n 2, 1) := by decide +kernel
theorem dX8_close_34 : decode cX8_close 34 = .ok (.iastore, 1) := by decide +kernel
theorem dX8_close_35 : decode cX8_close 35 = .ok (.aload_n 0, 1) := by decide +kernel
theorem dX8_close_36 : decode cX8_close 36 = .ok (.aload_n 0, 1) := by decide +kernel
theorem dX8_close_37 : decode cX8_close 37 = .ok (.invokevirtual 175, 3) := by decide +kernel
theorem dX8_close_40 : decode cX8_close 40 = .ok (.invokevirtual 172, 3) := by decide +kernel
theorem dX8_close_43 : decode cX8_close 43 = .ok (.ireturn, 1) := by decide +kernel
theorem dX8_puts_0 : decode cX8_puts 0 = .ok (.aload_n 0, 1) := by decide +kernel
theorem dX8_puts_1 : decode cX8_puts 1 = .ok (.getfield 7, 3) := by decide +kernel
theorem dX8_puts_4 : decode cX8_puts 4 = .ok (.iload_n 1, 1) := by decide +kernel
theorem dX8_puts_5 : decode cX8_puts 5 = .ok (.iaload, 1) := by decide +kernel
theorem dX8_puts_6 : decode cX8_puts 6 = .ok (.istore_n 3, 1) := by decide +kernel
theorem dX8_puts_7 : decode cX8_puts 7 = .ok (.iload_n 3, 1) := by decide +kernel
theorem dX8_puts_8 : decode cX8_puts 8 = .ok (.iload_n 2, 1) := by decide +kernel
theorem dX8_puts_9 : decode cX8_puts 9 = .ok (.if_icmp .ne 7, 3) := by decide +kernel
theorem dX8_puts_12 : decode cX8_puts 12 = .ok (.sipush (-1005), 3) := by decide +kernel
theorem dX8_puts_15 : decode cX8_puts 15 = .ok (.ireturn, 1) := by decide +kernel
theorem dX8_puts_16 : decode cX8_puts 16 = .ok (.aload_n 0, 1) := by decide +kernel
theorem dX8_puts_17 : decode cX8_puts 17 = .ok (.invokevirtual 169, 3) := by decide +kernel
theorem dX8_puts_20 : decode cX8_puts 20 = .ok (.aload_n 0, 1) := by decide +kernel
theorem dX8_puts_21 : decode cX8_puts 21 = .ok (.getfield 7, 3) := by decide +kernel
theorem dX8_puts_24 : decode cX8_puts 24 = .ok (.iload_n 1, 1) := by decide +kernel
theorem dX8_puts_25 : decode cX8_puts 25 = .ok (.iload_n 2, 1) := by decide +kernel
theorem dX8_puts_26 : decode cX8_puts 26 = .ok (.iastore, 1) := by decide +kernel
theorem dX8_puts_27 : decode cX8_puts 27 = .ok (.aload_n 0, 1) := by decide +kernel
theorem dX8_puts_28 : decode cX8_puts 28 = .ok (.iload_n 3, 1) := by decide +kernel
theorem dX8_puts_29 : decode cX8_puts 29 = .ok (.invokevirtual 172, 3) := by decide +kernel
theorem dX8_puts_32 : decode cX8_puts 32 = .ok (.ireturn, 1) := by decide +kernel
theorem dX8_setPull_0 : decode cX8_setPull 0 = .ok (.iload_n 2, 1) := by decide +kernel
theorem dX8_setPull_1 : decode cX8_setPull 1 = .ok (.i2l, 1) := by decide +kernel
theorem dX8_setPull_2 : decode cX8_setPull 2 = .ok (.ldc2_w 178, 3) := by decide +kernel
theorem dX8_setPull_5 : decode cX8_setPull 5 = .ok (.ldc2_w 180, 3) := by decide +kernel
theorem dX8_setPull_8 : decode cX8_setPull 8 = .ok (.invokestatic 73, 3) := by decide +kernel
theorem dX8_setPull_11 : decode cX8_setPull 11 = .ok (.ifCond .eq 20, 3) := by decide +kernel
theorem dX8_setPull_14 : decode cX8_setPull 14 = .ok (.aload_n 0, 1) := by decide +kernel
theorem dX8_setPull_15 : decode cX8_setPull 15 = .ok (.iload_n 1, 1) := by decide +kernel
theorem dX8_setPull_16 : decode cX8_setPull 16 = .ok (.ifCond .eq 7, 3) := by decide +kernel
theorem dX8_setPull_19 : decode cX8_setPull 19 = .ok (.iconst 4, 1) := by decide +kernel
theorem dX8_setPull_20 : decode cX8_setPull 20 = .ok (.goto 4, 3) := by decide +kernel
theorem dX8_setPull_23 : decode cX8_setPull 23 = .ok (.iconst 3, 1) := by decide +kernel
theorem dX8_setPull_24 : decode cX8_setPull 24 = .ok (.iload_n 2, 1) := by decide +kernel
theorem dX8_setPull_25 : decode cX8_setPull 25 = .ok (.invokevirtual 182, 3) := by decide +kernel
theorem dX8_setPull_28 : decode cX8_setPull 28 = .ok (.goto 6, 3) := by decide +kernel
theorem dX8_setPull_31 : decode cX8_setPull 31 = .ok (.sipush (-1002), 3) := by decide +kernel
theorem dX8_setPull_34 : decode cX8_setPull 34 = .ok (.ireturn, 1) := by decide +kernel
theorem dX8_setField_0 : decode cX8_setField 0 = .ok (.aload_n 0, 1) := by decide +kernel
theorem dX8_setField_1 : decode cX8_setField 1 = .ok (.iload_n 1, 1) := by decide +kernel
theorem dX8_setField_2 : decode cX8_setField 2 = .ok (.invokevirtual 109, 3) := by decide +kernel
theorem dX8_setField_5 : decode cX8_setField 5 = .ok (.ifCond .eq 11, 3) := by decide +kernel
theorem dX8_setField_8 : decode cX8_setField 8 = .ok (.aload_n 0, 1) := by decide +kernel
theorem dX8_setField_9 : decode cX8_setField 9 = .ok (.iload_n 2, 1) := by decide +kernel
theorem dX8_setField_10 : decode cX8_setField 10 = .ok (.invokevirtual 81, 3) := by decide +kernel
theorem dX8_setField_13 : decode cX8_setField 13 = .ok (.ifCond .ne 7, 3) := by decide +kernel
theorem dX8_setField_16 : decode cX8_setField 16 = .ok (.sipush (-1001), 3) := by decide +kernel
theorem dX8_setField_19 : decode cX8_setField 19 = .ok (.ireturn, 1) := by decide +kernel
theorem dX8_setField_20 : decode cX8_setField 20 = .ok (.iload_n 3, 1) := by decide +kernel
theorem dX8_setField_21 : decode cX8_setField 21 = .ok (.i2l, 1) := by decide +kernel
theorem dX8_setField_22 : decode cX8_setField 22 = .ok (.ldc2_w 185, 3) := by decide +kernel
theorem dX8_setField_25 : decode cX8_setField 25 = .ok (.ldc2_w 167, 3) := by decide +kernel
theorem dX8_setField_28 : decode cX8_setField 28 = .ok (.invokestatic 73, 3) := by decide +kernel
theorem dX8_setField_31 : decode cX8_setField 31 = .ok (.ifCond .eq 19, 3) := by decide +kernel
theorem dX8_setField_34 : decode cX8_setField 34 = .ok (.aload_n 0, 1) := by decide +kernel
theorem dX8_setField_35 : decode cX8_setField 35 = .ok (.bipush 16, 2) := by decide +kernel
theorem dX8_setField_37 : decode cX8_setField 37 = .ok (.iconst 3, 1) := by decide +kernel
theorem dX8_setField_38 : decode cX8_setField 38 = .ok (.iload_n 2, 1) := by decide +kernel
theorem dX8_setField_39 : decode cX8_setField 39 = .ok (.imul, 1) := by decide +kernel
theorem dX8_setField_40 : decode cX8_setField 40 = .ok (.iadd, 1) := by decide +kernel
theorem dX8_setField_41 : decode cX8_setField 41 = .ok (.iload_n 1, 1) := by decide +kernel
theorem dX8_setField_42 : decode cX8_setField 42 = .ok (.iadd, 1) := by decide +kernel
theorem dX8_setField_43 : decode cX8_setField 43 = .ok (.iload_n 3, 1) := by decide +kernel
theorem dX8_setField_44 : decode cX8_setField 44 = .ok (.invokevirtual 182, 3) := by decide +kernel
theorem dX8_setField_47 : decode cX8_setField 47 = .ok (.goto 6, 3) := by decide +kernel
theorem dX8_setField_50 : decode cX8_setField 50 = .ok (.sipush (-1002), 3) := by decide +kernel
theorem dX8_setField_53 : decode cX8_setField 53 = .ok (.ireturn, 1) := by decide +kernel
theorem dX8_turns_0 : decode cX8_turns 0 = .ok (.aload_n 0, 1) := by decide +kernel
theorem dX8_turns_1 : decode cX8_turns 1 = .ok (.getfield 7, 3) := by decide +kernel
theorem dX8_turns_4 : decode cX8_turns 4 = .ok (.bipush 6, 2) := by decide +kernel
theorem dX8_turns_6 : decode cX8_turns 6 = .ok (.iload_n 2, 1) := by decide +kernel
theorem dX8_turns_7 : decode cX8_turns 7 = .ok (.iadd, 1) := by decide +kernel
theorem dX8_turns_8 : decode cX8_turns 8 = .ok (.dup2, 1) := by decide +kernel
theorem dX8_turns_9 : decode cX8_turns 9 = .ok (.iaload, 1) := by decide +kernel
theorem dX8_turns_10 : decode cX8_turns 10 = .ok (.iconst 1, 1) := by decide +kernel
theorem dX8_turns_11 : decode cX8_turns 11 = .ok (.iload_n 1, 1) := by decide +kernel
theorem dX8_turns_12 : decode cX8_turns 12 = .ok (.ishl, 1) := by decide +kernel
theorem dX8_turns_13 : decode cX8_turns 13 = .ok (.ixor, 1) := by decide +kernel
theorem dX8_turns_14 : decode cX8_turns 14 = .ok (.iastore, 1) := by decide +kernel
theorem dX8_turns_15 : decode cX8_turns 15 = .ok (.aload_n 0, 1) := by decide +kernel
theorem dX8_turns_16 : decode cX8_turns 16 = .ok (.getfield 7, 3) := by decide +kernel
theorem dX8_turns_19 : decode cX8_turns 19 = .ok (.iconst 5, 1) := by decide +kernel
theorem dX8_turns_20 : decode cX8_turns 20 = .ok (.dup2, 1) := by decide +kernel
theorem dX8_turns_21 : decode cX8_turns 21 = .ok (.iaload, 1) := by decide +kernel
theorem dX8_turns_22 : decode cX8_turns 22 = .ok (.iconst 1, 1) := by decide +kernel
theorem dX8_turns_23 : decode cX8_turns 23 = .ok (.iadd, 1) := by decide +kernel
theorem dX8_turns_24 : decode cX8_turns 24 = .ok (.iastore, 1) := by decide +kernel
theorem dX8_turns_25 : decode cX8_turns 25 = .ok (.return_, 1) := by decide +kernel
theorem dX8_turn_0 : decode cX8_turn 0 = .ok (.aload_n 0, 1) := by decide +kernel
theorem dX8_turn_1 : decode cX8_turn 1 = .ok (.iload_n 1, 1) := by decide +kernel
theorem dX8_turn_2 : decode cX8_turn 2 = .ok (.invokevirtual 109, 3) := by decide +kernel
theorem dX8_turn_5 : decode cX8_turn 5 = .ok (.ifCond .eq 11, 3) := by decide +kernel
theorem dX8_turn_8 : decode cX8_turn 8 = .ok (.aload_n 0, 1) := by decide +kernel
theorem dX8_turn_9 : decode cX8_turn 9 = .ok (.iload_n 2, 1) := by decide +kernel
theorem dX8_turn_10 : decode cX8_turn 10 = .ok (.invokevirtual 81, 3) := by decide +kernel
theorem dX8_turn_13 : decode cX8_turn 13 = .ok (.ifCond .ne 7, 3) := by decide +kernel
theorem dX8_turn_16 : decode cX8_turn 16 = .ok (.sipush (-1001), 3) := by decide +kernel
theorem dX8_turn_19 : decode cX8_turn 19 = .ok (.ireturn, 1) := by decide +kernel
theorem dX8_turn_20 : decode cX8_turn 20 = .ok (.aload_n 0, 1) := by decide +kernel
theorem dX8_turn_21 : decode cX8_turn 21 = .ok (.invokevirtual 169, 3) := by decide +kernel
theorem dX8_turn_24 : decode cX8_turn 24 = .ok (.aload_n 0, 1) := by decide +kernel
theorem dX8_turn_25 : decode cX8_turn 25 = .ok (.iload_n 1, 1) := by decide +kernel
theorem dX8_turn_26 : decode cX8_turn 26 = .ok (.iload_n 2, 1) := by decide +kernel
theorem dX8_turn_27 : decode cX8_turn 27 = .ok (.invokevirtual 187, 3) := by decide +kernel
theorem dX8_turn_30 : decode cX8_turn 30 = .ok (.aload_n 0, 1) := by decide +kernel
theorem dX8_turn_31 : decode cX8_turn 31 = .ok (.aload_n 0, 1) := by decide +kernel
theorem dX8_turn_32 : decode cX8_turn 32 = .ok (.invokevirtual 175, 3) := by decide +kernel
theorem dX8_turn_35 : decode cX8_turn 35 = .ok (.invokevirtual 172, 3) := by decide +kernel
theorem dX8_turn_38 : decode cX8_turn 38 = .ok (.ireturn, 1) := by decide +kernel
theorem dX8_turnPatch_0 : decode cX8_turnPatch 0 = .ok (.aload_n 0, 1) := by decide +kernel
theorem dX8_turnPatch_1 : decode cX8_turnPatch 1 = .ok (.iload_n 1, 1) := by decide +kernel
theorem dX8_turnPatch_2 : decode cX8_turnPatch 2 = .ok (.invokevirtual 109, 3) := by decide +kernel
theorem dX8_turnPatch_5 : decode cX8_turnPatch 5 = .ok (.ifCond .eq 11, 3) := by decide +kernel
theorem dX8_turnPatch_8 : decode cX8_turnPatch 8 = .ok (.aload_n 0, 1) := by decide +kernel
theorem dX8_turnPatch_9 : decode cX8_turnPatch 9 = .ok (.iload_n 2, 1) := by decide +kernel
theorem dX8_turnPatch_10 : decode cX8_turnPatch 10 = .ok (.invokevirtual 81, 3) := by decide +kernel
theorem dX8_turnPatch_13 : decode cX8_turnPatch 13 = .ok (.ifCond .ne 7, 3) := by decide +kernel
theorem dX8_turnPatch_16 : decode cX8_turnPatch 16 = .ok (.sipush (-1001), 3) := by decide +kernel
theorem dX8_turnPatch_19 : decode cX8_turnPatch 19 = .ok (.ireturn, 1) := by decide +kernel
theorem dX8_turnPatch_20 : decode cX8_turnPatch 20 = .ok (.aload_n 0, 1) := by decide +kernel
theorem dX8_turnPatch_21 : decode cX8_turnPatch 21 = .ok (.invokevirtual 169, 3) := by decide +kernel
theorem dX8_turnPatch_24 : decode cX8_turnPatch 24 = .ok (.aload_n 0, 1) := by decide +kernel
theorem dX8_turnPatch_25 : decode cX8_turnPatch 25 = .ok (.invokevirtual 156, 3) := by decide +kernel
theorem dX8_turnPatch_28 : decode cX8_turnPatch 28 = .ok (.aload_n 0, 1) := by decide +kernel
theorem dX8_turnPatch_29 : decode cX8_turnPatch 29 = .ok (.iload_n 1, 1) := by decide +kernel
theorem dX8_turnPatch_30 : decode cX8_turnPatch 30 = .ok (.iload_n 2, 1) := by decide +kernel
theorem dX8_turnPatch_31 : decode cX8_turnPatch 31 = .ok (.invokevirtual 162, 3) := by decide +kernel
theorem dX8_turnPatch_34 : decode cX8_turnPatch 34 = .ok (.iconst 0, 1) := by decide +kernel
theorem dX8_turnPatch_35 : decode cX8_turnPatch 35 = .ok (.istore_n 3, 1) := by decide +kernel
theorem dX8_turnPatch_36 : decode cX8_turnPatch 36 = .ok (.iload_n 3, 1) := by decide +kernel
theorem dX8_turnPatch_37 : decode cX8_turnPatch 37 = .ok (.aload_n 0, 1) := by decide +kernel
theorem dX8_turnPatch_38 : decode cX8_turnPatch 38 = .ok (.getfield 149, 3) := by decide +kernel
theorem dX8_turnPatch_41 : decode cX8_turnPatch 41 = .ok (.if_icmp .ge 29, 3) := by decide +kernel
theorem dX8_turnPatch_44 : decode cX8_turnPatch 44 = .ok (.aload_n 0, 1) := by decide +kernel
theorem dX8_turnPatch_45 : decode cX8_turnPatch 45 = .ok (.aload_n 0, 1) := by decide +kernel
theorem dX8_turnPatch_46 : decode cX8_turnPatch 46 = .ok (.getfield 55, 3) := by decide +kernel
theorem dX8_turnPatch_49 : decode cX8_turnPatch 49 = .ok (.iload_n 3, 1) := by decide +kernel
theorem dX8_turnPatch_50 : decode cX8_turnPatch 50 = .ok (.iaload, 1) := by decide +kernel
theorem dX8_turnPatch_51 : decode cX8_turnPatch 51 = .ok (.iconst 3, 1) := by decide +kernel
theorem dX8_turnPatch_52 : decode cX8_turnPatch 52 = .ok (.irem, 1) := by decide +kernel
theorem dX8_turnPatch_53 : decode cX8_turnPatch 53 = .ok (.aload_n 0, 1) := by decide +kernel
theorem dX8_turnPatch_54 : decode cX8_turnPatch 54 = .ok (.getfield 55, 3) := by decide +kernel
theorem dX8_turnPatch_57 : decode cX8_turnPatch 57 = .ok (.iload_n 3, 1) := by decide +kernel
theorem dX8_turnPatch_58 : decode cX8_turnPatch 58 = .ok (.iaload, 1) := by decide +kernel
theorem dX8_turnPatch_59 : decode cX8_turnPatch 59 = .ok (.iconst 3, 1) := by decide +kernel
theorem dX8_turnPatch_60 : decode cX8_turnPatch 60 = .ok (.idiv, 1) := by decide +kernel
theorem dX8_turnPatch_61 : decode cX8_turnPatch 61 = .ok (.invokevirtual 187, 3) := by decide +kernel
theorem dX8_turnPatch_64 : decode cX8_turnPatch 64 = .ok (.iinc 3 1, 3) := by decide +kernel
theorem dX8_turnPatch_67 : decode cX8_turnPatch 67 = .ok (.goto (-31), 3) := by decide +kernel
theorem dX8_turnPatch_70 : decode cX8_turnPatch 70 = .ok (.aload_n 0, 1) := by decide +kernel
theorem dX8_turnPatch_71 : decode cX8_turnPatch 71 = .ok (.aload_n 0, 1) := by decide +kernel
theorem dX8_turnPatch_72 : decode cX8_turnPatch 72 = .ok (.getfield 149, 3) := by decide +kernel
theorem dX8_turnPatch_75 : decode cX8_turnPatch 75 = .ok (.invokevirtual 172, 3) := by decide +kernel
theorem dX8_turnPatch_78 : decode cX8_turnPatch 78 = .ok (.ireturn, 1) := by decide +kernel
theorem dX8_sweeps_0 : decode cX8_sweeps 0 = .ok (.iconst 0, 1) := by decide +kernel
theorem dX8_sweeps_1 : decode cX8_sweeps 1 = .ok (.istore_n 1, 1) := by decide +kernel
theorem dX8_sweeps_2 : decode cX8_sweeps 2 = .ok (.iconst 0, 1) := by decide +kernel
theorem dX8_sweeps_3 : decode cX8_sweeps 3 = .ok (.istore_n 2, 1) := by decide +kernel
theorem dX8_sweeps_4 : decode cX8_sweeps 4 = .ok (.iload_n 2, 1) := by decide +kernel
theorem dX8_sweeps_5 : decode cX8_sweeps 5 = .ok (.aload_n 0, 1) := by decide +kernel
theorem dX8_sweeps_6 : decode cX8_sweeps 6 = .ok (.invokevirtual 159, 3) := by decide +kernel
theorem dX8_sweeps_9 : decode cX8_sweeps 9 = .ok (.if_icmp .ge 55, 3) := by decide +kernel
theorem dX8_sweeps_12 : decode cX8_sweeps 12 = .ok (.aload_n 0, 1) := by decide +kernel
theorem dX8_sweeps_13 : decode cX8_sweeps 13 = .ok (.iload_n 2, 1) := by decide +kernel
theorem dX8_sweeps_14 : decode cX8_sweeps 14 = .ok (.aload_n 0, 1) := by decide +kernel
theorem dX8_sweeps_15 : decode cX8_sweeps 15 = .ok (.getfield 7, 3) := by decide +kernel
theorem dX8_sweeps_18 : decode cX8_sweeps 18 = .ok (.iconst 1, 1) := by decide +kernel
theorem dX8_sweeps_19 : decode cX8_sweeps 19 = .ok (.iaload, 1) := by decide +kernel
theorem dX8_sweeps_20 : decode cX8_sweeps 20 = .ok (.irem, 1) := by decide +kernel
theorem dX8_sweeps_21 : decode cX8_sweeps 21 = .ok (.iload_n 2, 1) := by decide +kernel
theorem dX8_sweeps_22 : decode cX8_sweeps 22 = .ok (.aload_n 0, 1) := by decide +kernel
theorem dX8_sweeps_23 : decode cX8_sweeps 23 = .ok (.getfield 7, 3) := by decide +kernel
theorem dX8_sweeps_26 : decode cX8_sweeps 26 = .ok (.iconst 1, 1) := by decide +kernel
theorem dX8_sweeps_27 : decode cX8_sweeps 27 = .ok (.iaload, 1) := by decide +kernel
theorem dX8_sweeps_28 : decode cX8_sweeps 28 = .ok (.idiv, 1) := by decide +kernel
theorem dX8_sweeps_29 : decode cX8_sweeps 29 = .ok (.invokevirtual 190, 3) := by decide +kernel
theorem dX8_sweeps_32 : decode cX8_sweeps 32 = .ok (.ifCond .le 26, 3) := by decide +kernel
theorem dX8_sweeps_35 : decode cX8_sweeps 35 = .ok (.aload_n 0, 1) := by decide +kernel
theorem dX8_sweeps_36 : decode cX8_sweeps 36 = .ok (.iload_n 2, 1) := by decide +kernel
theorem dX8_sweeps_37 : decode cX8_sweeps 37 = .ok (.aload_n 0, 1) := by decide +kernel
theorem dX8_sweeps_38 : decode cX8_sweeps 38 = .ok (.getfield 7, 3) := by decide +kernel
theorem dX8_sweeps_41 : decode cX8_sweeps 41 = .ok (.iconst 1, 1) := by decide +kernel
theorem dX8_sweeps_42 : decode cX8_sweeps 42 = .ok (.iaload, 1) := by decide +kernel
theorem dX8_sweeps_43 : decode cX8_sweeps 43 = .ok (.irem, 1) := by decide +kernel
theorem dX8_sweeps_44 : decode cX8_sweeps 44 = .ok (.iload_n 2, 1) := by decide +kernel
theorem dX8_sweeps_45 : decode cX8_sweeps 45 = .ok (.aload_n 0, 1) := by decide +kernel
theorem dX8_sweeps_46 : decode cX8_sweeps 46 = .ok (.getfield 7, 3) := by decide +kernel
theorem dX8_sweeps_49 : decode cX8_sweeps 49 = .ok (.iconst 1, 1) := by decide +kernel
theorem dX8_sweeps_50 : decode cX8_sweeps 50 = .ok (.iaload, 1) := by decide +kernel
theorem dX8_sweeps_51 : decode cX8_sweeps 51 = .ok (.idiv, 1) := by decide +kernel
theorem dX8_sweeps_52 : decode cX8_sweeps 52 = .ok (.invokevirtual 187, 3) := by decide +kernel
theorem dX8_sweeps_55 : decode cX8_sweeps 55 = .ok (.iinc 1 1, 3) := by decide +kernel
theorem dX8_sweeps_58 : decode cX8_sweeps 58 = .ok (.iinc 2 1, 3) := by decide +kernel
theorem dX8_sweeps_61 : decode cX8_sweeps 61 = .ok (.goto (-57), 3) := by decide +kernel
theorem dX8_sweeps_64 : decode cX8_sweeps 64 = .ok (.iload_n 1, 1) := by decide +kernel
theorem dX8_sweeps_65 : decode cX8_sweeps 65 = .ok (.ireturn, 1) := by decide +kernel
theorem dX8_sweep_0 : decode cX8_sweep 0 = .ok (.iload_n 1, 1) := by decide +kernel
theorem dX8_sweep_1 : decode cX8_sweep 1 = .ok (.i2l, 1) := by decide +kernel
theorem dX8_sweep_2 : decode cX8_sweep 2 = .ok (.lconst 1, 1) := by decide +kernel
theorem dX8_sweep_3 : decode cX8_sweep 3 = .ok (.ldc2_w 193, 3) := by decide +kernel
theorem dX8_sweep_6 : decode cX8_sweep 6 = .ok (.invokestatic 73, 3) := by decide +kernel
theorem dX8_sweep_9 : decode cX8_sweep 9 = .ok (.ifCond .ne 7, 3) := by decide +kernel
theorem dX8_sweep_12 : decode cX8_sweep 12 = .ok (.sipush (-1002), 3) := by decide +kernel
theorem dX8_sweep_15 : decode cX8_sweep 15 = .ok (.ireturn, 1) := by decide +kernel
theorem dX8_sweep_16 : decode cX8_sweep 16 = .ok (.aload_n 0, 1) := by decide +kernel
theorem dX8_sweep_17 : decode cX8_sweep 17 = .ok (.invokevirtual 169, 3) := by decide +kernel
theorem dX8_sweep_20 : decode cX8_sweep 20 = .ok (.iconst 0, 1) := by decide +kernel
theorem dX8_sweep_21 : decode cX8_sweep 21 = .ok (.istore_n 2, 1) := by decide +kernel
theorem dX8_sweep_22 : decode cX8_sweep 22 = .ok (.iconst 1, 1) := by decide +kernel
theorem dX8_sweep_23 : decode cX8_sweep 23 = .ok (.istore_n 3, 1) := by decide +kernel
theorem dX8_sweep_24 : decode cX8_sweep 24 = .ok (.iconst 0, 1) := by decide +kernel
theorem dX8_sweep_25 : decode cX8_sweep 25 = .ok (.istore 4, 2) := by decide +kernel
theorem dX8_sweep_27 : decode cX8_sweep 27 = .ok (.iload 4, 2) := by decide +kernel
theorem dX8_sweep_29 : decode cX8_sweep 29 = .ok (.iload_n 1, 1) := by decide +kernel
theorem dX8_sweep_30 : decode cX8_sweep 30 = .ok (.if_icmp .ge 22, 3) := by decide +kernel
theorem dX8_sweep_33 : decode cX8_sweep 33 = .ok (.iload_n 3, 1) := by decide +kernel
theorem dX8_sweep_34 : decode cX8_sweep 34 = .ok (.ifCond .le 18, 3) := by decide +kernel
theorem dX8_sweep_37 : decode cX8_sweep 37 = .ok (.aload_n 0, 1) := by decide +kernel
theorem dX8_sweep_38 : decode cX8_sweep 38 = .ok (.invokevirtual 195, 3) := by decide +kernel
theorem dX8_sweep_41 : decode cX8_sweep 41 = .ok (.istore_n 3, 1) := by decide +kernel
theorem dX8_sweep_42 : decode cX8_sweep 42 = .ok (.iload_n 2, 1) := by decide +kernel
theorem dX8_sweep_43 : decode cX8_sweep 43 = .ok (.iload_n 3, 1) := by decide +kernel
theorem dX8_sweep_44 : decode cX8_sweep 44 = .ok (.iadd, 1) := by decide +kernel
theorem dX8_sweep_45 : decode cX8_sweep 45 = .ok (.istore_n 2, 1) := by decide +kernel
theorem dX8_sweep_46 : decode cX8_sweep 46 = .ok (.iinc 4 1, 3) := by decide +kernel
theorem dX8_sweep_49 : decode cX8_sweep 49 = .ok (.goto (-22), 3) := by decide +kernel
theorem dX8_sweep_52 : decode cX8_sweep 52 = .ok (.iload_n 2, 1) := by decide +kernel
theorem dX8_sweep_53 : decode cX8_sweep 53 = .ok (.ifCond .ne 9, 3) := by decide +kernel
theorem dX8_sweep_56 : decode cX8_sweep 56 = .ok (.sipush (-1005), 3) := by decide +kernel
theorem dX8_sweep_59 : decode cX8_sweep 59 = .ok (.goto 8, 3) := by decide +kernel
theorem dX8_sweep_62 : decode cX8_sweep 62 = .ok (.aload_n 0, 1) := by decide +kernel
theorem dX8_sweep_63 : decode cX8_sweep 63 = .ok (.iload_n 2, 1) := by decide +kernel
theorem dX8_sweep_64 : decode cX8_sweep 64 = .ok (.invokevirtual 172, 3) := by decide +kernel
theorem dX8_sweep_67 : decode cX8_sweep 67 = .ok (.ireturn, 1) := by decide +kernel
theorem dX8_settle_0 : decode cX8_settle 0 = .ok (.aload_n 0, 1) := by decide +kernel
theorem dX8_settle_1 : decode cX8_settle 1 = .ok (.invokevirtual 169, 3) := by decide +kernel
theorem dX8_settle_4 : decode cX8_settle 4 = .ok (.aload_n 0, 1) := by decide +kernel
theorem dX8_settle_5 : decode cX8_settle 5 = .ok (.invokevirtual 198, 3) := by decide +kernel
theorem dX8_settle_8 : decode cX8_settle 8 = .ok (.istore_n 1, 1) := by decide +kernel
theorem dX8_settle_9 : decode cX8_settle 9 = .ok (.aload_n 0, 1) := by decide +kernel
theorem dX8_settle_10 : decode cX8_settle 10 = .ok (.iload_n 1, 1) := by decide +kernel
theorem dX8_settle_11 : decode cX8_settle 11 = .ok (.invokevirtual 201, 3) := by decide +kernel
theorem dX8_settle_14 : decode cX8_settle 14 = .ok (.iconst 1, 1) := by decide +kernel
theorem dX8_settle_15 : decode cX8_settle 15 = .ok (.istore_n 2, 1) := by decide +kernel
theorem dX8_settle_16 : decode cX8_settle 16 = .ok (.iconst 0, 1) := by decide +kernel
theorem dX8_settle_17 : decode cX8_settle 17 = .ok (.istore_n 3, 1) := by decide +kernel
theorem dX8_settle_18 : decode cX8_settle 18 = .ok (.iload_n 3, 1) := by decide +kernel
theorem dX8_settle_19 : decode cX8_settle 19 = .ok (.bipush 10, 2) := by decide +kernel
theorem dX8_settle_21 : decode cX8_settle 21 = .ok (.if_icmp .ge 40, 3) := by decide +kernel
theorem dX8_settle_24 : decode cX8_settle 24 = .ok (.iload_n 2, 1) := by decide +kernel
theorem dX8_settle_25 : decode cX8_settle 25 = .ok (.ifCond .eq 28, 3) := by decide +kernel
theorem dX8_settle_28 : decode cX8_settle 28 = .ok (.aload_n 0, 1) := by decide +kernel
theorem dX8_settle_29 : decode cX8_settle 29 = .ok (.getfield 7, 3) := by decide +kernel
theorem dX8_settle_32 : decode cX8_settle 32 = .ok (.bipush 6, 2) := by decide +kernel
theorem dX8_settle_34 : decode cX8_settle 34 = .ok (.iload_n 3, 1) := by decide +kernel
theorem dX8_settle_35 : decode cX8_settle 35 = .ok (.iadd, 1) := by decide +kernel
theorem dX8_settle_36 : decode cX8_settle 36 = .ok (.iaload, 1) := by decide +kernel
theorem dX8_settle_37 : decode cX8_settle 37 = .ok (.aload_n 0, 1) := by decide +kernel
theorem dX8_settle_38 : decode cX8_settle 38 = .ok (.getfield 13, 3) := by decide +kernel
theorem dX8_settle_41 : decode cX8_settle 41 = .ok (.bipush 6, 2) := by decide +kernel
theorem dX8_settle_43 : decode cX8_settle 43 = .ok (.iload_n 3, 1) := by decide +kernel
theorem dX8_settle_44 : decode cX8_settle 44 = .ok (.iadd, 1) := by decide +kernel
theorem dX8_settle_45 : decode cX8_settle 45 = .ok (.iaload, 1) := by decide +kernel
theorem dX8_settle_46 : decode cX8_settle 46 = .ok (.if_icmp .ne 7, 3) := by decide +kernel
theorem dX8_settle_49 : decode cX8_settle 49 = .ok (.iconst 1, 1) := by decide +kernel
theorem dX8_settle_50 : decode cX8_settle 50 = .ok (.goto 4, 3) := by decide +kernel
theorem dX8_settle_53 : decode cX8_settle 53 = .ok (.iconst 0, 1) := by decide +kernel
theorem dX8_settle_54 : decode cX8_settle 54 = .ok (.istore_n 2, 1) := by decide +kernel
theorem dX8_settle_55 : decode cX8_settle 55 = .ok (.iinc 3 1, 3) := by decide +kernel
theorem dX8_settle_58 : decode cX8_settle 58 = .ok (.goto (-40), 3) := by decide +kernel
theorem dX8_settle_61 : decode cX8_settle 61 = .ok (.iload_n 2, 1) := by decide +kernel
theorem dX8_settle_62 : decode cX8_settle 62 = .ok (.ifCond .eq 9, 3) := by decide +kernel
theorem dX8_settle_65 : decode cX8_settle 65 = .ok (.sipush (-1005), 3) := by decide +kernel
theorem dX8_settle_68 : decode cX8_settle 68 = .ok (.goto 8, 3) := by decide +kernel
theorem dX8_settle_71 : decode cX8_settle 71 = .ok (.aload_n 0, 1) := by decide +kernel
theorem dX8_settle_72 : decode cX8_settle 72 = .ok (.iload_n 1, 1) := by decide +kernel
theorem dX8_settle_73 : decode cX8_settle 73 = .ok (.invokevirtual 172, 3) := by decide +kernel
theorem dX8_settle_76 : decode cX8_settle 76 = .ok (.ireturn, 1) := by decide +kernel
theorem dX8_type_0 : decode cX8_type 0 = .ok (.aload_n 0, 1) := by decide +kernel
theorem dX8_type_1 : decode cX8_type 1 = .ok (.getfield 204, 3) := by decide +kernel
theorem dX8_type_4 : decode cX8_type 4 = .ok (.bipush 60, 2) := by decide +kernel
theorem dX8_type_6 : decode cX8_type 6 = .ok (.if_icmp .ne 7, 3) := by decide +kernel
theorem dX8_type_9 : decode cX8_type 9 = .ok (.sipush (-1003), 3) := by decide +kernel
theorem dX8_type_12 : decode cX8_type 12 = .ok (.ireturn, 1) := by decide +kernel
theorem dX8_type_13 : decode cX8_type 13 = .ok (.aload_n 0, 1) := by decide +kernel
theorem dX8_type_14 : decode cX8_type 14 = .ok (.getfield 58, 3) := by decide +kernel
theorem dX8_type_17 : decode cX8_type 17 = .ok (.aload_n 0, 1) := by decide +kernel
theorem dX8_type_18 : decode cX8_type 18 = .ok (.getfield 204, 3) := by decide +kernel
theorem dX8_type_21 : decode cX8_type 21 = .ok (.iload_n 1, 1) := by decide +kernel
theorem dX8_type_22 : decode cX8_type 22 = .ok (.iastore, 1) := by decide +kernel
theorem dX8_type_23 : decode cX8_type 23 = .ok (.aload_n 0, 1) := by decide +kernel
theorem dX8_type_24 : decode cX8_type 24 = .ok (.dup, 1) := by decide +kernel
theorem dX8_type_25 : decode cX8_type 25 = .ok (.getfield 204, 3) := by decide +kernel
theorem dX8_type_28 : decode cX8_type 28 = .ok (.iconst 1, 1) := by decide +kernel
theorem dX8_type_29 : decode cX8_type 29 = .ok (.iadd, 1) := by decide +kernel
theorem dX8_type_30 : decode cX8_type 30 = .ok (.putfield 204, 3) := by decide +kernel
theorem dX8_type_33 : decode cX8_type 33 = .ok (.aload_n 0, 1) := by decide +kernel
theorem dX8_type_34 : decode cX8_type 34 = .ok (.getfield 204, 3) := by decide +kernel
theorem dX8_type_37 : decode cX8_type 37 = .ok (.ireturn, 1) := by decide +kernel
theorem dX8_clearText_0 : decode cX8_clearText 0 = .ok (.aload_n 0, 1) := by decide +kernel
theorem dX8_clearText_1 : decode cX8_clearText 1 = .ok (.getfield 204, 3) := by decide +kernel
theorem dX8_clearText_4 : decode cX8_clearText 4 = .ok (.istore_n 1, 1) := by decide +kernel
theorem dX8_clearText_5 : decode cX8_clearText 5 = .ok (.aload_n 0, 1) := by decide +kernel
theorem dX8_clearText_6 : decode cX8_clearText 6 = .ok (.iconst 0, 1) := by decide +kernel
theorem dX8_clearText_7 : decode cX8_clearText 7 = .ok (.putfield 204, 3) := by decide +kernel
theorem dX8_clearText_10 : decode cX8_clearText 10 = .ok (.iload_n 1, 1) := by decide +kernel
theorem dX8_clearText_11 : decode cX8_clearText 11 = .ok (.ireturn, 1) := by decide +kernel
theorem dX8_isHere_0 : decode cX8_isHere 0 = .ok (.aload_n 0, 1) := by decide +kernel
theorem dX8_isHere_1 : decode cX8_isHere 1 = .ok (.getfield 207, 3) := by decide +kernel
theorem dX8_isHere_4 : decode cX8_isHere 4 = .ok (.aload_n 0, 1) := by decide +kernel
theorem dX8_isHere_5 : decode cX8_isHere 5 = .ok (.getfield 204, 3) := by decide +kernel
theorem dX8_isHere_8 : decode cX8_isHere 8 = .ok (.if_icmp .ge 20, 3) := by decide +kernel
theorem dX8_isHere_11 : decode cX8_isHere 11 = .ok (.aload_n 0, 1) := by decide +kernel
theorem dX8_isHere_12 : decode cX8_isHere 12 = .ok (.getfield 58, 3) := by decide +kernel
theorem dX8_isHere_15 : decode cX8_isHere 15 = .ok (.aload_n 0, 1) := by decide +kernel
theorem dX8_isHere_16 : decode cX8_isHere 16 = .ok (.getfield 207, 3) := by decide +kernel
theorem dX8_isHere_19 : decode cX8_isHere 19 = .ok (.iaload, 1) := by decide +kernel
theorem dX8_isHere_20 : decode cX8_isHere 20 = .ok (.iload_n 1, 1) := by decide +kernel
theorem dX8_isHere_21 : decode cX8_isHere 21 = .ok (.if_icmp .ne 7, 3) := by decide +kernel
theorem dX8_isHere_24 : decode cX8_isHere 24 = .ok (.iconst 1, 1) := by decide +kernel
theorem dX8_isHere_25 : decode cX8_isHere 25 = .ok (.goto 4, 3) := by decide +kernel
theorem dX8_isHere_28 : decode cX8_isHere 28 = .ok (.iconst 0, 1) := by decide +kernel
theorem dX8_isHere_29 : decode cX8_isHere 29 = .ok (.ireturn, 1) := by decide +kernel
theorem dX8_readsSigns_0 : decode cX8_readsSigns 0 = .ok (.iconst 0, 1) := by decide +kernel
theorem dX8_readsSigns_1 : decode cX8_readsSigns 1 = .ok (.istore_n 2, 1) := by decide +kernel
theorem dX8_readsSigns_2 : decode cX8_readsSigns 2 = .ok (.iload_n 2, 1) := by decide +kernel
theorem dX8_readsSigns_3 : decode cX8_readsSigns 3 = .ok (.iload_n 1, 1) := by decide +kernel
theorem dX8_readsSigns_4 : decode cX8_readsSigns 4 = .ok (.if_icmp .ge 37, 3) := by decide +kernel
theorem dX8_readsSigns_7 : decode cX8_readsSigns 7 = .ok (.aload_n 0, 1) := by decide +kernel
theorem dX8_readsSigns_8 : decode cX8_readsSigns 8 = .ok (.bipush 43, 2) := by decide +kernel
theorem dX8_readsSigns_10 : decode cX8_readsSigns 10 = .ok (.invokevirtual 210, 3) := by decide +kernel
theorem dX8_readsSigns_13 : decode cX8_readsSigns 13 = .ok (.ifCond .ne 12, 3) := by decide +kernel
theorem dX8_readsSigns_16 : decode cX8_readsSigns 16 = .ok (.aload_n 0, 1) := by decide +kernel
theorem dX8_readsSigns_17 : decode cX8_readsSigns 17 = .ok (.bipush 45, 2) := by decide +kernel
theorem dX8_readsSigns_19 : decode cX8_readsSigns 19 = .ok (.invokevirtual 210, 3) := by decide +kernel
theorem dX8_readsSigns_22 : decode cX8_readsSigns 22 = .ok (.ifCond .eq 19, 3) := by decide +kernel
theorem dX8_readsSigns_25 : decode cX8_readsSigns 25 = .ok (.aload_n 0, 1) := by decide +kernel
theorem dX8_readsSigns_26 : decode cX8_readsSigns 26 = .ok (.dup, 1) := by decide +kernel
theorem dX8_readsSigns_27 : decode cX8_readsSigns 27 = .ok (.getfield 207, 3) := by decide +kernel
theorem dX8_readsSigns_30 : decode cX8_readsSigns 30 = .ok (.iconst 1, 1) := by decide +kernel
theorem dX8_readsSigns_31 : decode cX8_readsSigns 31 = .ok (.iadd, 1) := by decide +kernel
theorem dX8_readsSigns_32 : decode cX8_readsSigns 32 = .ok (.putfield 207, 3) := by decide +kernel
theorem dX8_readsSigns_35 : decode cX8_readsSigns 35 = .ok (.iinc 2 1, 3) := by decide +kernel
theorem dX8_readsSigns_38 : decode cX8_readsSigns 38 = .ok (.goto (-36), 3) := by decide +kernel
theorem dX8_readsSigns_41 : decode cX8_readsSigns 41 = .ok (.iload_n 2, 1) := by decide +kernel
theorem dX8_readsSigns_42 : decode cX8_readsSigns 42 = .ok (.ireturn, 1) := by decide +kernel
theorem dX8_fault_0 : decode cX8_fault 0 = .ok (.aload_n 0, 1) := by decide +kernel
theorem dX8_fault_1 : decode cX8_fault 1 = .ok (.iconst 0, 1) := by decide +kernel
theorem dX8_fault_2 : decode cX8_fault 2 = .ok (.putfield 207, 3) := by decide +kernel
theorem dX8_fault_5 : decode cX8_fault 5 = .ok (.aload_n 0, 1) := by decide +kernel
theorem dX8_fault_6 : decode cX8_fault 6 = .ok (.aload_n 0, 1) := by decide +kernel
theorem dX8_fault_7 : decode cX8_fault 7 = .ok (.iconst 3, 1) := by decide +kernel
theorem dX8_fault_8 : decode cX8_fault 8 = .ok (.invokevirtual 213, 3) := by decide +kernel
theorem dX8_fault_11 : decode cX8_fault 11 = .ok (.putfield 216, 3) := by decide +kernel
theorem dX8_fault_14 : decode cX8_fault 14 = .ok (.aload_n 0, 1) := by decide +kernel
theorem dX8_fault_15 : decode cX8_fault 15 = .ok (.iconst 1, 1) := by decide +kernel
theorem dX8_fault_16 : decode cX8_fault 16 = .ok (.putfield 219, 3) := by decide +kernel
theorem dX8_fault_19 : decode cX8_fault 19 = .ok (.aload_n 0, 1) := by decide +kernel
theorem dX8_fault_20 : decode cX8_fault 20 = .ok (.getfield 216, 3) := by decide +kernel
theorem dX8_fault_23 : decode cX8_fault 23 = .ok (.ifCond .ne 8, 3) := by decide +kernel
theorem dX8_fault_26 : decode cX8_fault 26 = .ok (.aload_n 0, 1) := by decide +kernel
theorem dX8_fault_27 : decode cX8_fault 27 = .ok (.getfield 207, 3) := by decide +kernel
theorem dX8_fault_30 : decode cX8_fault 30 = .ok (.ireturn, 1) := by decide +kernel
theorem dX8_fault_31 : decode cX8_fault 31 = .ok (.aload_n 0, 1) := by decide +kernel
theorem dX8_fault_32 : decode cX8_fault 32 = .ok (.getfield 219, 3) := by decide +kernel
theorem dX8_fault_35 : decode cX8_fault 35 = .ok (.bipush 10, 2) := by decide +kernel
theorem dX8_fault_37 : decode cX8_fault 37 = .ok (.if_icmp .ge 55, 3) := by decide +kernel
theorem dX8_fault_40 : decode cX8_fault 40 = .ok (.aload_n 0, 1) := by decide +kernel
theorem dX8_fault_41 : decode cX8_fault 41 = .ok (.bipush 44, 2) := by decide +kernel
theorem dX8_fault_43 : decode cX8_fault 43 = .ok (.invokevirtual 210, 3) := by decide +kernel
theorem dX8_fault_46 : decode cX8_fault 46 = .ok (.ifCond .eq 46, 3) := by decide +kernel
theorem dX8_fault_49 : decode cX8_fault 49 = .ok (.aload_n 0, 1) := by decide +kernel
theorem dX8_fault_50 : decode cX8_fault 50 = .ok (.dup, 1) := by decide +kernel
theorem dX8_fault_51 : decode cX8_fault 51 = .ok (.getfield 207, 3) := by decide +kernel
theorem dX8_fault_54 : decode cX8_fault 54 = .ok (.iconst 1, 1) := by decide +kernel
theorem dX8_fault_55 : decode cX8_fault 55 = .ok (.iadd, 1) := by decide +kernel
theorem dX8_fault_56 : decode cX8_fault 56 = .ok (.putfield 207, 3) := by decide +kernel
theorem dX8_fault_59 : decode cX8_fault 59 = .ok (.aload_n 0, 1) := by decide +kernel
theorem dX8_fault_60 : decode cX8_fault 60 = .ok (.aload_n 0, 1) := by decide +kernel
theorem dX8_fault_61 : decode cX8_fault 61 = .ok (.getfield 216, 3) := by decide +kernel
theorem dX8_fault_64 : decode cX8_fault 64 = .ok (.invokevirtual 213, 3) := by decide +kernel
theorem dX8_fault_67 : decode cX8_fault 67 = .ok (.aload_n 0, 1) := by decide +kernel
theorem dX8_fault_68 : decode cX8_fault 68 = .ok (.getfield 216, 3) := by decide +kernel
theorem dX8_fault_71 : decode cX8_fault 71 = .ok (.if_icmp .ge 8, 3) := by decide +kernel
theorem dX8_fault_74 : decode cX8_fault 74 = .ok (.aload_n 0, 1) := by decide +kernel
theorem dX8_fault_75 : decode cX8_fault 75 = .ok (.getfield 207, 3) := by decide +kernel
theorem dX8_fault_78 : decode cX8_fault 78 = .ok (.ireturn, 1) := by decide +kernel
theorem dX8_fault_79 : decode cX8_fault 79 = .ok (.aload_n 0, 1) := by decide +kernel
theorem dX8_fault_80 : decode cX8_fault 80 = .ok (.dup, 1) := by decide +kernel
theorem dX8_fault_81 : decode cX8_fault 81 = .ok (.getfield 219, 3) := by decide +kernel
theorem dX8_fault_84 : decode cX8_fault 84 = .ok (.iconst 1, 1) := by decide +kernel
theorem dX8_fault_85 : decode cX8_fault 85 = .ok (.iadd, 1) := by decide +kernel
theorem dX8_fault_86 : decode cX8_fault 86 = .ok (.putfield 219, 3) := by decide +kernel
theorem dX8_fault_89 : decode cX8_fault 89 = .ok (.goto (-58), 3) := by decide +kernel
theorem dX8_fault_92 : decode cX8_fault 92 = .ok (.aload_n 0, 1) := by decide +kernel
theorem dX8_fault_93 : decode cX8_fault 93 = .ok (.getfield 207, 3) := by decide +kernel
theorem dX8_fault_96 : decode cX8_fault 96 = .ok (.aload_n 0, 1) := by decide +kernel
theorem dX8_fault_97 : decode cX8_fault 97 = .ok (.getfield 204, 3) := by decide +kernel
theorem dX8_fault_100 : decode cX8_fault 100 = .ok (.if_icmp .ne 9, 3) := by decide +kernel
theorem dX8_fault_103 : decode cX8_fault 103 = .ok (.sipush (-1005), 3) := by decide +kernel
theorem dX8_fault_106 : decode cX8_fault 106 = .ok (.goto 7, 3) := by decide +kernel
theorem dX8_fault_109 : decode cX8_fault 109 = .ok (.aload_n 0, 1) := by decide +kernel
theorem dX8_fault_110 : decode cX8_fault 110 = .ok (.getfield 207, 3) := by decide +kernel
theorem dX8_fault_113 : decode cX8_fault 113 = .ok (.ireturn, 1) := by decide +kernel
theorem dX8_read_0 : decode cX8_read 0 = .ok (.aload_n 0, 1) := by decide +kernel
theorem dX8_read_1 : decode cX8_read 1 = .ok (.invokevirtual 222, 3) := by decide +kernel
theorem dX8_read_4 : decode cX8_read 4 = .ok (.istore_n 1, 1) := by decide +kernel
theorem dX8_read_5 : decode cX8_read 5 = .ok (.iload_n 1, 1) := by decide +kernel
theorem dX8_read_6 : decode cX8_read 6 = .ok (.sipush (-1005), 3) := by decide +kernel
theorem dX8_read_9 : decode cX8_read 9 = .ok (.if_icmp .eq 9, 3) := by decide +kernel
theorem dX8_read_12 : decode cX8_read 12 = .ok (.sipush (-1100), 3) := by decide +kernel
theorem dX8_read_15 : decode cX8_read 15 = .ok (.iload_n 1, 1) := by decide +kernel
theorem dX8_read_16 : decode cX8_read 16 = .ok (.isub, 1) := by decide +kernel
theorem dX8_read_17 : decode cX8_read 17 = .ok (.ireturn, 1) := by decide +kernel
theorem dX8_read_18 : decode cX8_read 18 = .ok (.aload_n 0, 1) := by decide +kernel
theorem dX8_read_19 : decode cX8_read 19 = .ok (.invokevirtual 169, 3) := by decide +kernel
theorem dX8_read_22 : decode cX8_read 22 = .ok (.aload_n 0, 1) := by decide +kernel
theorem dX8_read_23 : decode cX8_read 23 = .ok (.aload_n 0, 1) := by decide +kernel
theorem dX8_read_24 : decode cX8_read 24 = .ok (.getfield 219, 3) := by decide +kernel
theorem dX8_read_27 : decode cX8_read 27 = .ok (.aload_n 0, 1) := by decide +kernel
theorem dX8_read_28 : decode cX8_read 28 = .ok (.getfield 216, 3) := by decide +kernel
theorem dX8_read_31 : decode cX8_read 31 = .ok (.invokevirtual 61, 3) := by decide +kernel
theorem dX8_read_34 : decode cX8_read 34 = .ok (.iconst 0, 1) := by decide +kernel
theorem dX8_read_35 : decode cX8_read 35 = .ok (.istore_n 2, 1) := by decide +kernel
theorem dX8_read_36 : decode cX8_read 36 = .ok (.iload_n 2, 1) := by decide +kernel
theorem dX8_read_37 : decode cX8_read 37 = .ok (.aload_n 0, 1) := by decide +kernel
theorem dX8_read_38 : decode cX8_read 38 = .ok (.getfield 219, 3) := by decide +kernel
theorem dX8_read_41 : decode cX8_read 41 = .ok (.if_icmp .ge 74, 3) := by decide +kernel
theorem dX8_read_44 : decode cX8_read 44 = .ok (.aload_n 0, 1) := by decide +kernel
theorem dX8_read_45 : decode cX8_read 45 = .ok (.getfield 7, 3) := by decide +kernel
theorem dX8_read_48 : decode cX8_read 48 = .ok (.bipush 6, 2) := by decide +kernel
theorem dX8_read_50 : decode cX8_read 50 = .ok (.iload_n 2, 1) := by decide +kernel
theorem dX8_read_51 : decode cX8_read 51 = .ok (.iadd, 1) := by decide +kernel
theorem dX8_read_52 : decode cX8_read 52 = .ok (.iconst 0, 1) := by decide +kernel
theorem dX8_read_53 : decode cX8_read 53 = .ok (.iastore, 1) := by decide +kernel
theorem dX8_read_54 : decode cX8_read 54 = .ok (.iconst 0, 1) := by decide +kernel
theorem dX8_read_55 : decode cX8_read 55 = .ok (.istore_n 3, 1) := by decide +kernel
theorem dX8_read_56 : decode cX8_read 56 = .ok (.iload_n 3, 1) := by decide +kernel
theorem dX8_read_57 : decode cX8_read 57 = .ok (.aload_n 0, 1) := by decide +kernel
theorem dX8_read_58 : decode cX8_read 58 = .ok (.getfield 216, 3) := by decide +kernel
theorem dX8_read_61 : decode cX8_read 61 = .ok (.if_icmp .ge 48, 3) := by decide +kernel
theorem dX8_read_64 : decode cX8_read 64 = .ok (.aload_n 0, 1) := by decide +kernel
theorem dX8_read_65 : decode cX8_read 65 = .ok (.getfield 7, 3) := by decide +kernel
theorem dX8_read_68 : decode cX8_read 68 = .ok (.bipush 6, 2) := by decide +kernel
theorem dX8_read_70 : decode cX8_read 70 = .ok (.iload_n 2, 1) := by decide +kernel
theorem dX8_read_71 : decode cX8_read 71 = .ok (.iadd, 1) := by decide +kernel
theorem dX8_read_72 : decode cX8_read 72 = .ok (.dup2, 1) := by decide +kernel
theorem dX8_read_73 : decode cX8_read 73 = .ok (.iaload, 1) := by decide +kernel
theorem dX8_read_74 : decode cX8_read 74 = .ok (.aload_n 0, 1) := by decide +kernel
theorem dX8_read_75 : decode cX8_read 75 = .ok (.getfield 58, 3) := by decide +kernel
theorem dX8_read_78 : decode cX8_read 78 = .ok (.aload_n 0, 1) := by decide +kernel
theorem dX8_read_79 : decode cX8_read 79 = .ok (.getfield 216, 3) := by decide +kernel
theorem dX8_read_82 : decode cX8_read 82 = .ok (.iconst 1, 1) := by decide +kernel
theorem dX8_read_83 : decode cX8_read 83 = .ok (.iadd, 1) := by decide +kernel
theorem dX8_read_84 : decode cX8_read 84 = .ok (.iload_n 2, 1) := by decide +kernel
theorem dX8_read_85 : decode cX8_read 85 = .ok (.imul, 1) := by decide +kernel
theorem dX8_read_86 : decode cX8_read 86 = .ok (.iload_n 3, 1) := by decide +kernel
theorem dX8_read_87 : decode cX8_read 87 = .ok (.iadd, 1) := by decide +kernel
theorem dX8_read_88 : decode cX8_read 88 = .ok (.iaload, 1) := by decide +kernel
theorem dX8_read_89 : decode cX8_read 89 = .ok (.bipush 43, 2) := by decide +kernel
theorem dX8_read_91 : decode cX8_read 91 = .ok (.if_icmp .ne 9, 3) := by decide +kernel
theorem dX8_read_94 : decode cX8_read 94 = .ok (.iconst 1, 1) := by decide +kernel
theorem dX8_read_95 : decode cX8_read 95 = .ok (.iload_n 3, 1) := by decide +kernel
theorem dX8_read_96 : decode cX8_read 96 = .ok (.ishl, 1) := by decide +kernel
theorem dX8_read_97 : decode cX8_read 97 = .ok (.goto 4, 3) := by decide +kernel
theorem dX8_read_100 : decode cX8_read 100 = .ok (.iconst 0, 1) := by decide +kernel
theorem dX8_read_101 : decode cX8_read 101 = .ok (.ior, 1) := by decide +kernel
theorem dX8_read_102 : decode cX8_read 102 = .ok (.iastore, 1) := by decide +kernel
theorem dX8_read_103 : decode cX8_read 103 = .ok (.iinc 3 1, 3) := by decide +kernel
theorem dX8_read_106 : decode cX8_read 106 = .ok (.goto (-50), 3) := by decide +kernel
theorem dX8_read_109 : decode cX8_read 109 = .ok (.iinc 2 1, 3) := by decide +kernel
theorem dX8_read_112 : decode cX8_read 112 = .ok (.goto (-76), 3) := by decide +kernel
theorem dX8_read_115 : decode cX8_read 115 = .ok (.aload_n 0, 1) := by decide +kernel
theorem dX8_read_116 : decode cX8_read 116 = .ok (.aload_n 0, 1) := by decide +kernel
theorem dX8_read_117 : decode cX8_read 117 = .ok (.invokevirtual 159, 3) := by decide +kernel
theorem dX8_read_120 : decode cX8_read 120 = .ok (.invokevirtual 172, 3) := by decide +kernel
theorem dX8_read_123 : decode cX8_read 123 = .ok (.ireturn, 1) := by decide +kernel
theorem dX8_undo_0 : decode cX8_undo 0 = .ok (.aload_n 0, 1) := by decide +kernel
theorem dX8_undo_1 : decode cX8_undo 1 = .ok (.getfield 69, 3) := by decide +kernel
theorem dX8_undo_4 : decode cX8_undo 4 = .ok (.ifCond .ne 7, 3) := by decide +kernel
theorem dX8_undo_7 : decode cX8_undo 7 = .ok (.sipush (-1005), 3) := by decide +kernel
theorem dX8_undo_10 : decode cX8_undo 10 = .ok (.ireturn, 1) := by decide +kernel
theorem dX8_undo_11 : decode cX8_undo 11 = .ok (.aload_n 0, 1) := by decide +kernel
theorem dX8_undo_12 : decode cX8_undo 12 = .ok (.dup, 1) := by decide +kernel
theorem dX8_undo_13 : decode cX8_undo 13 = .ok (.getfield 69, 3) := by decide +kernel
theorem dX8_undo_16 : decode cX8_undo 16 = .ok (.iconst 1, 1) := by decide +kernel
theorem dX8_undo_17 : decode cX8_undo 17 = .ok (.isub, 1) := by decide +kernel
theorem dX8_undo_18 : decode cX8_undo 18 = .ok (.putfield 69, 3) := by decide +kernel
theorem dX8_undo_21 : decode cX8_undo 21 = .ok (.iconst 0, 1) := by decide +kernel
theorem dX8_undo_22 : decode cX8_undo 22 = .ok (.istore_n 1, 1) := by decide +kernel
theorem dX8_undo_23 : decode cX8_undo 23 = .ok (.iload_n 1, 1) := by decide +kernel
theorem dX8_undo_24 : decode cX8_undo 24 = .ok (.bipush 46, 2) := by decide +kernel
theorem dX8_undo_26 : decode cX8_undo 26 = .ok (.if_icmp .ge 29, 3) := by decide +kernel
theorem dX8_undo_29 : decode cX8_undo 29 = .ok (.aload_n 0, 1) := by decide +kernel
theorem dX8_undo_30 : decode cX8_undo 30 = .ok (.getfield 7, 3) := by decide +kernel
theorem dX8_undo_33 : decode cX8_undo 33 = .ok (.iload_n 1, 1) := by decide +kernel
theorem dX8_undo_34 : decode cX8_undo 34 = .ok (.aload_n 0, 1) := by decide +kernel
theorem dX8_undo_35 : decode cX8_undo 35 = .ok (.getfield 16, 3) := by decide +kernel
theorem dX8_undo_38 : decode cX8_undo 38 = .ok (.bipush 46, 2) := by decide +kernel
theorem dX8_undo_40 : decode cX8_undo 40 = .ok (.aload_n 0, 1) := by decide +kernel
theorem dX8_undo_41 : decode cX8_undo 41 = .ok (.getfield 69, 3) := by decide +kernel
theorem dX8_undo_44 : decode cX8_undo 44 = .ok (.imul, 1) := by decide +kernel
theorem dX8_undo_45 : decode cX8_undo 45 = .ok (.iload_n 1, 1) := by decide +kernel
theorem dX8_undo_46 : decode cX8_undo 46 = .ok (.iadd, 1) := by decide +kernel
theorem dX8_undo_47 : decode cX8_undo 47 = .ok (.iaload, 1) := by decide +kernel
theorem dX8_undo_48 : decode cX8_undo 48 = .ok (.iastore, 1) := by decide +kernel
theorem dX8_undo_49 : decode cX8_undo 49 = .ok (.iinc 1 1, 3) := by decide +kernel
theorem dX8_undo_52 : decode cX8_undo 52 = .ok (.goto (-29), 3) := by decide +kernel
theorem dX8_undo_55 : decode cX8_undo 55 = .ok (.aload_n 0, 1) := by decide +kernel
theorem dX8_undo_56 : decode cX8_undo 56 = .ok (.getfield 69, 3) := by decide +kernel
theorem dX8_undo_59 : decode cX8_undo 59 = .ok (.ireturn, 1) := by decide +kernel
theorem dX8_keep_0 : decode cX8_keep 0 = .ok (.aload_n 0, 1) := by decide +kernel
theorem dX8_keep_1 : decode cX8_keep 1 = .ok (.getfield 7, 3) := by decide +kernel
theorem dX8_keep_4 : decode cX8_keep 4 = .ok (.aload_n 0, 1) := by decide +kernel
theorem dX8_keep_5 : decode cX8_keep 5 = .ok (.getfield 19, 3) := by decide +kernel
theorem dX8_keep_8 : decode cX8_keep 8 = .ok (.invokestatic 65, 3) := by decide +kernel
theorem dX8_keep_11 : decode cX8_keep 11 = .ok (.aload_n 0, 1) := by decide +kernel
theorem dX8_keep_12 : decode cX8_keep 12 = .ok (.iconst 1, 1) := by decide +kernel
theorem dX8_keep_13 : decode cX8_keep 13 = .ok (.putfield 225, 3) := by decide +kernel
theorem dX8_keep_16 : decode cX8_keep 16 = .ok (.aload_n 0, 1) := by decide +kernel
theorem dX8_keep_17 : decode cX8_keep 17 = .ok (.invokevirtual 175, 3) := by decide +kernel
theorem dX8_keep_20 : decode cX8_keep 20 = .ok (.ireturn, 1) := by decide +kernel
theorem dX8_restore_0 : decode cX8_restore 0 = .ok (.aload_n 0, 1) := by decide +kernel
theorem dX8_restore_1 : decode cX8_restore 1 = .ok (.getfield 225, 3) := by decide +kernel
theorem dX8_restore_4 : decode cX8_restore 4 = .ok (.ifCond .ne 7, 3) := by decide +kernel
theorem dX8_restore_7 : decode cX8_restore 7 = .ok (.sipush (-1005), 3) := by decide +kernel
theorem dX8_restore_10 : decode cX8_restore 10 = .ok (.ireturn, 1) := by decide +kernel
theorem dX8_restore_11 : decode cX8_restore 11 = .ok (.aload_n 0, 1) := by decide +kernel
theorem dX8_restore_12 : decode cX8_restore 12 = .ok (.invokevirtual 169, 3) := by decide +kernel
theorem dX8_restore_15 : decode cX8_restore 15 = .ok (.aload_n 0, 1) := by decide +kernel
theorem dX8_restore_16 : decode cX8_restore 16 = .ok (.getfield 19, 3) := by decide +kernel
theorem dX8_restore_19 : decode cX8_restore 19 = .ok (.aload_n 0, 1) := by decide +kernel
theorem dX8_restore_20 : decode cX8_restore 20 = .ok (.getfield 7, 3) := by decide +kernel
theorem dX8_restore_23 : decode cX8_restore 23 = .ok (.invokestatic 65, 3) := by decide +kernel
theorem dX8_restore_26 : decode cX8_restore 26 = .ok (.aload_n 0, 1) := by decide +kernel
theorem dX8_restore_27 : decode cX8_restore 27 = .ok (.aload_n 0, 1) := by decide +kernel
theorem dX8_restore_28 : decode cX8_restore 28 = .ok (.invokevirtual 175, 3) := by decide +kernel
theorem dX8_restore_31 : decode cX8_restore 31 = .ok (.invokevirtual 172, 3) := by decide +kernel
theorem dX8_restore_34 : decode cX8_restore 34 = .ok (.ireturn, 1) := by decide +kernel
theorem dX8_neighbours_0 : decode cX8_neighbours 0 = .ok (.iconst 0, 1) := by decide +kernel
theorem dX8_neighbours_1 : decode cX8_neighbours 1 = .ok (.istore 4, 2) := by decide +kernel
theorem dX8_neighbours_3 : decode cX8_neighbours 3 = .ok (.aload_n 0, 1) := by decide +kernel
theorem dX8_neighbours_4 : decode cX8_neighbours 4 = .ok (.iload_n 1, 1) := by decide +kernel
theorem dX8_neighbours_5 : decode cX8_neighbours 5 = .ok (.iload_n 2, 1) := by decide +kernel
theorem dX8_neighbours_6 : decode cX8_neighbours 6 = .ok (.invokevirtual 106, 3) := by decide +kernel
theorem dX8_neighbours_9 : decode cX8_neighbours 9 = .ok (.istore 5, 2) := by decide +kernel
theorem dX8_neighbours_11 : decode cX8_neighbours 11 = .ok (.iconst (-1), 1) := by decide +kernel
theorem dX8_neighbours_12 : decode cX8_neighbours 12 = .ok (.istore 6, 2) := by decide +kernel
theorem dX8_neighbours_14 : decode cX8_neighbours 14 = .ok (.iload 6, 2) := by decide +kernel
theorem dX8_neighbours_16 : decode cX8_neighbours 16 = .ok (.iconst 2, 1) := by decide +kernel
theorem dX8_neighbours_17 : decode cX8_neighbours 17 = .ok (.if_icmp .ge 91, 3) := by decide +kernel
theorem dX8_neighbours_20 : decode cX8_neighbours 20 = .ok (.aload_n 0, 1) := by decide +kernel
theorem dX8_neighbours_21 : decode cX8_neighbours 21 = .ok (.iload_n 2, 1) := by decide +kernel
theorem dX8_neighbours_22 : decode cX8_neighbours 22 = .ok (.iload 6, 2) := by decide +kernel
theorem dX8_neighbours_24 : decode cX8_neighbours 24 = .ok (.invokevirtual 92, 3) := by decide +kernel
theorem dX8_neighbours_27 : decode cX8_neighbours 27 = .ok (.istore 7, 2) := by decide +kernel
theorem dX8_neighbours_29 : decode cX8_neighbours 29 = .ok (.iload 4, 2) := by decide +kernel
theorem dX8_neighbours_31 : decode cX8_neighbours 31 = .ok (.iload 7, 2) := by decide +kernel
theorem dX8_neighbours_33 : decode cX8_neighbours 33 = .ok (.sipush (-1005), 3) := by decide +kernel
theorem dX8_neighbours_36 : decode cX8_neighbours 36 = .ok (.if_icmp .eq 23, 3) := by decide +kernel
theorem dX8_neighbours_39 : decode cX8_neighbours 39 = .ok (.iload_n 3, 1) := by decide +kernel
theorem dX8_neighbours_40 : decode cX8_neighbours 40 = .ok (.ifCond .eq 15, 3) := by decide +kernel
theorem dX8_neighbours_43 : decode cX8_neighbours 43 = .ok (.aload_n 0, 1) := by decide +kernel
theorem dX8_neighbours_44 : decode cX8_neighbours 44 = .ok (.iload_n 1, 1) := by decide +kernel
theorem dX8_neighbours_45 : decode cX8_neighbours 45 = .ok (.iload 7, 2) := by decide +kernel
theorem dX8_neighbours_47 : decode cX8_neighbours 47 = .ok (.invokevirtual 106, 3) := by decide +kernel
theorem dX8_neighbours_50 : decode cX8_neighbours 50 = .ok (.iload 5, 2) := by decide +kernel
theorem dX8_neighbours_52 : decode cX8_neighbours 52 = .ok (.if_icmp .ne 7, 3) := by decide +kernel
theorem dX8_neighbours_55 : decode cX8_neighbours 55 = .ok (.iconst 1, 1) := by decide +kernel
theorem dX8_neighbours_56 : decode cX8_neighbours 56 = .ok (.goto 4, 3) := by decide +kernel
theorem dX8_neighbours_59 : decode cX8_neighbours 59 = .ok (.iconst 0, 1) := by decide +kernel
theorem dX8_neighbours_60 : decode cX8_neighbours 60 = .ok (.iadd, 1) := by decide +kernel
theorem dX8_neighbours_61 : decode cX8_neighbours 61 = .ok (.istore 4, 2) := by decide +kernel
theorem dX8_neighbours_63 : decode cX8_neighbours 63 = .ok (.iload 4, 2) := by decide +kernel
theorem dX8_neighbours_65 : decode cX8_neighbours 65 = .ok (.aload_n 0, 1) := by decide +kernel
theorem dX8_neighbours_66 : decode cX8_neighbours 66 = .ok (.iload_n 1, 1) := by decide +kernel
theorem dX8_neighbours_67 : decode cX8_neighbours 67 = .ok (.iload 6, 2) := by decide +kernel
theorem dX8_neighbours_69 : decode cX8_neighbours 69 = .ok (.iadd, 1) := by decide +kernel
theorem dX8_neighbours_70 : decode cX8_neighbours 70 = .ok (.invokevirtual 109, 3) := by decide +kernel
theorem dX8_neighbours_73 : decode cX8_neighbours 73 = .ok (.ifCond .eq 25, 3) := by decide +kernel
theorem dX8_neighbours_76 : decode cX8_neighbours 76 = .ok (.iload_n 3, 1) := by decide +kernel
theorem dX8_neighbours_77 : decode cX8_neighbours 77 = .ok (.ifCond .eq 17, 3) := by decide +kernel
theorem dX8_neighbours_80 : decode cX8_neighbours 80 = .ok (.aload_n 0, 1) := by decide +kernel
theorem dX8_neighbours_81 : decode cX8_neighbours 81 = .ok (.iload_n 1, 1) := by decide +kernel
theorem dX8_neighbours_82 : decode cX8_neighbours 82 = .ok (.iload 6, 2) := by decide +kernel
theorem dX8_neighbours_84 : decode cX8_neighbours 84 = .ok (.iadd, 1) := by decide +kernel
theorem dX8_neighbours_85 : decode cX8_neighbours 85 = .ok (.iload_n 2, 1) := by decide +kernel
theorem dX8_neighbours_86 : decode cX8_neighbours 86 = .ok (.invokevirtual 106, 3) := by decide +kernel
theorem dX8_neighbours_89 : decode cX8_neighbours 89 = .ok (.iload 5, 2) := by decide +kernel
theorem dX8_neighbours_91 : decode cX8_neighbours 91 = .ok (.if_icmp .ne 7, 3) := by decide +kernel
theorem dX8_neighbours_94 : decode cX8_neighbours 94 = .ok (.iconst 1, 1) := by decide +kernel
theorem dX8_neighbours_95 : decode cX8_neighbours 95 = .ok (.goto 4, 3) := by decide +kernel
theorem dX8_neighbours_98 : decode cX8_neighbours 98 = .ok (.iconst 0, 1) := by decide +kernel
theorem dX8_neighbours_99 : decode cX8_neighbours 99 = .ok (.iadd, 1) := by decide +kernel
theorem dX8_neighbours_100 : decode cX8_neighbours 100 = .ok (.istore 4, 2) := by decide +kernel
theorem dX8_neighbours_102 : decode cX8_neighbours 102 = .ok (.iinc 6 2, 3) := by decide +kernel
theorem dX8_neighbours_105 : decode cX8_neighbours 105 = .ok (.goto (-91), 3) := by decide +kernel
theorem dX8_neighbours_108 : decode cX8_neighbours 108 = .ok (.iload 4, 2) := by decide +kernel
theorem dX8_neighbours_110 : decode cX8_neighbours 110 = .ok (.ireturn, 1) := by decide +kernel
theorem dX8_cell_0 : decode cX8_cell 0 = .ok (.aload_n 0, 1) := by decide +kernel
theorem dX8_cell_1 : decode cX8_cell 1 = .ok (.iload_n 1, 1) := by decide +kernel
theorem dX8_cell_2 : decode cX8_cell 2 = .ok (.invokevirtual 109, 3) := by decide +kernel
theorem dX8_cell_5 : decode cX8_cell 5 = .ok (.ifCond .eq 11, 3) := by decide +kernel
theorem dX8_cell_8 : decode cX8_cell 8 = .ok (.aload_n 0, 1) := by decide +kernel
theorem dX8_cell_9 : decode cX8_cell 9 = .ok (.iload_n 2, 1) := by decide +kernel
theorem dX8_cell_10 : decode cX8_cell 10 = .ok (.invokevirtual 81, 3) := by decide +kernel
theorem dX8_cell_13 : decode cX8_cell 13 = .ok (.ifCond .ne 7, 3) := by decide +kernel
theorem dX8_cell_16 : decode cX8_cell 16 = .ok (.sipush (-1001), 3) := by decide +kernel
theorem dX8_cell_19 : decode cX8_cell 19 = .ok (.ireturn, 1) := by decide +kernel
theorem dX8_cell_20 : decode cX8_cell 20 = .ok (.aload_n 0, 1) := by decide +kernel
theorem dX8_cell_21 : decode cX8_cell 21 = .ok (.iload_n 1, 1) := by decide +kernel
theorem dX8_cell_22 : decode cX8_cell 22 = .ok (.iload_n 2, 1) := by decide +kernel
theorem dX8_cell_23 : decode cX8_cell 23 = .ok (.invokevirtual 190, 3) := by decide +kernel
theorem dX8_cell_26 : decode cX8_cell 26 = .ok (.istore 4, 2) := by decide +kernel
theorem dX8_cell_28 : decode cX8_cell 28 = .ok (.iload_n 3, 1) := by decide +kernel
theorem dX8_cell_29 : decode cX8_cell 29 = .ok (.tableswitch 112 0 6 #[43, 50, 57, 60, 80, 80, 97], 43) := by decide +kernel
theorem dX8_cell_72 : decode cX8_cell 72 = .ok (.aload_n 0, 1) := by decide +kernel
theorem dX8_cell_73 : decode cX8_cell 73 = .ok (.iload_n 1, 1) := by decide +kernel
theorem dX8_cell_74 : decode cX8_cell 74 = .ok (.iload_n 2, 1) := by decide +kernel
theorem dX8_cell_75 : decode cX8_cell 75 = .ok (.invokevirtual 106, 3) := by decide +kernel
theorem dX8_cell_78 : decode cX8_cell 78 = .ok (.ireturn, 1) := by decide +kernel
theorem dX8_cell_79 : decode cX8_cell 79 = .ok (.aload_n 0, 1) := by decide +kernel
theorem dX8_cell_80 : decode cX8_cell 80 = .ok (.iload_n 1, 1) := by decide +kernel
theorem dX8_cell_81 : decode cX8_cell 81 = .ok (.iload_n 2, 1) := by decide +kernel
theorem dX8_cell_82 : decode cX8_cell 82 = .ok (.invokevirtual 89, 3) := by decide +kernel
theorem dX8_cell_85 : decode cX8_cell 85 = .ok (.ireturn, 1) := by decide +kernel
theorem dX8_cell_86 : decode cX8_cell 86 = .ok (.iload 4, 2) := by decide +kernel
theorem dX8_cell_88 : decode cX8_cell 88 = .ok (.ireturn, 1) := by decide +kernel
theorem dX8_cell_89 : decode cX8_cell 89 = .ok (.iload 4, 2) := by decide +kernel
theorem dX8_cell_91 : decode cX8_cell 91 = .ok (.ifCond .le 7, 3) := by decide +kernel
theorem dX8_cell_94 : decode cX8_cell 94 = .ok (.iconst 0, 1) := by decide +kernel
theorem dX8_cell_95 : decode cX8_cell 95 = .ok (.goto 13, 3) := by decide +kernel
theorem dX8_cell_98 : decode cX8_cell 98 = .ok (.iload 4, 2) := by decide +kernel
theorem dX8_cell_100 : decode cX8_cell 100 = .ok (.ifCond .ne 7, 3) := by decide +kernel
theorem dX8_cell_103 : decode cX8_cell 103 = .ok (.iconst 1, 1) := by decide +kernel
theorem dX8_cell_104 : decode cX8_cell 104 = .ok (.goto 4, 3) := by decide +kernel
theorem dX8_cell_107 : decode cX8_cell 107 = .ok (.iconst 2, 1) := by decide +kernel
theorem dX8_cell_108 : decode cX8_cell 108 = .ok (.ireturn, 1) := by decide +kernel
theorem dX8_cell_109 : decode cX8_cell 109 = .ok (.aload_n 0, 1) := by decide +kernel
theorem dX8_cell_110 : decode cX8_cell 110 = .ok (.iload_n 1, 1) := by decide +kernel
theorem dX8_cell_111 : decode cX8_cell 111 = .ok (.iload_n 2, 1) := by decide +kernel
theorem dX8_cell_112 : decode cX8_cell 112 = .ok (.iload_n 3, 1) := by decide +kernel
theorem dX8_cell_113 : decode cX8_cell 113 = .ok (.iconst 5, 1) := by decide +kernel
theorem dX8_cell_114 : decode cX8_cell 114 = .ok (.if_icmp .ne 7, 3) := by decide +kernel
theorem dX8_cell_117 : decode cX8_cell 117 = .ok (.iconst 1, 1) := by decide +kernel
theorem dX8_cell_118 : decode cX8_cell 118 = .ok (.goto 4, 3) := by decide +kernel
theorem dX8_cell_121 : decode cX8_cell 121 = .ok (.iconst 0, 1) := by decide +kernel
theorem dX8_cell_122 : decode cX8_cell 122 = .ok (.invokevirtual 228, 3) := by decide +kernel
theorem dX8_cell_125 : decode cX8_cell 125 = .ok (.ireturn, 1) := by decide +kernel
theorem dX8_cell_126 : decode cX8_cell 126 = .ok (.aload_n 0, 1) := by decide +kernel
theorem dX8_cell_127 : decode cX8_cell 127 = .ok (.invokevirtual 156, 3) := by decide +kernel
theorem dX8_cell_130 : decode cX8_cell 130 = .ok (.aload_n 0, 1) := by decide +kernel
theorem dX8_cell_131 : decode cX8_cell 131 = .ok (.iload_n 1, 1) := by decide +kernel
theorem dX8_cell_132 : decode cX8_cell 132 = .ok (.iload_n 2, 1) := by decide +kernel
theorem dX8_cell_133 : decode cX8_cell 133 = .ok (.invokevirtual 162, 3) := by decide +kernel
theorem dX8_cell_136 : decode cX8_cell 136 = .ok (.aload_n 0, 1) := by decide +kernel
theorem dX8_cell_137 : decode cX8_cell 137 = .ok (.getfield 149, 3) := by decide +kernel
theorem dX8_cell_140 : decode cX8_cell 140 = .ok (.ireturn, 1) := by decide +kernel
theorem dX8_cell_141 : decode cX8_cell 141 = .ok (.sipush (-1002), 3) := by decide +kernel
theorem dX8_cell_144 : decode cX8_cell 144 = .ok (.ireturn, 1) := by decide +kernel
theorem dX8_column_0 : decode cX8_column 0 = .ok (.aload_n 0, 1) := by decide +kernel
theorem dX8_column_1 : decode cX8_column 1 = .ok (.iload_n 1, 1) := by decide +kernel
theorem dX8_column_2 : decode cX8_column 2 = .ok (.invokevirtual 81, 3) := by decide +kernel
theorem dX8_column_5 : decode cX8_column 5 = .ok (.ifCond .eq 15, 3) := by decide +kernel
theorem dX8_column_8 : decode cX8_column 8 = .ok (.aload_n 0, 1) := by decide +kernel
theorem dX8_column_9 : decode cX8_column 9 = .ok (.getfield 7, 3) := by decide +kernel
theorem dX8_column_12 : decode cX8_column 12 = .ok (.bipush 6, 2) := by decide +kernel
theorem dX8_column_14 : decode cX8_column 14 = .ok (.iload_n 1, 1) := by decide +kernel
theorem dX8_column_15 : decode cX8_column 15 = .ok (.iadd, 1) := by decide +kernel
theorem dX8_column_16 : decode cX8_column 16 = .ok (.iaload, 1) := by decide +kernel
theorem dX8_column_17 : decode cX8_column 17 = .ok (.goto 6, 3) := by decide +kernel
theorem dX8_column_20 : decode cX8_column 20 = .ok (.sipush (-1001), 3) := by decide +kernel
theorem dX8_column_23 : decode cX8_column 23 = .ok (.ireturn, 1) := by decide +kernel
theorem dX8_withEnergy_0 : decode cX8_withEnergy 0 = .ok (.aload_n 0, 1) := by decide +kernel
theorem dX8_withEnergy_1 : decode cX8_withEnergy 1 = .ok (.iconst 0, 1) := by decide +kernel
theorem dX8_withEnergy_2 : decode cX8_withEnergy 2 = .ok (.iload_n 1, 1) := by decide +kernel
theorem dX8_withEnergy_3 : decode cX8_withEnergy 3 = .ok (.invokevirtual 232, 3) := by decide +kernel
theorem dX8_withEnergy_6 : decode cX8_withEnergy 6 = .ok (.ireturn, 1) := by decide +kernel
theorem dX8_withWalls_0 : decode cX8_withWalls 0 = .ok (.aload_n 0, 1) := by decide +kernel
theorem dX8_withWalls_1 : decode cX8_withWalls 1 = .ok (.iconst 1, 1) := by decide +kernel
theorem dX8_withWalls_2 : decode cX8_withWalls 2 = .ok (.iload_n 1, 1) := by decide +kernel
theorem dX8_withWalls_3 : decode cX8_withWalls 3 = .ok (.invokevirtual 232, 3) := by decide +kernel
theorem dX8_withWalls_6 : decode cX8_withWalls 6 = .ok (.ireturn, 1) := by decide +kernel
theorem dX8_choices_0 : decode cX8_choices 0 = .ok (.lconst 1, 1) := by decide +kernel
theorem dX8_choices_1 : decode cX8_choices 1 = .ok (.lstore_n 2, 1) := by decide +kernel
theorem dX8_choices_2 : decode cX8_choices 2 = .ok (.iconst 0, 1) := by decide +kernel
theorem dX8_choices_3 : decode cX8_choices 3 = .ok (.istore 4, 2) := by decide +kernel
theorem dX8_choices_5 : decode cX8_choices 5 = .ok (.iload 4, 2) := by decide +kernel
theorem dX8_choices_7 : decode cX8_choices 7 = .ok (.iload_n 1, 1) := by decide +kernel
theorem dX8_choices_8 : decode cX8_choices 8 = .ok (.if_icmp .ge 23, 3) := by decide +kernel
theorem dX8_choices_11 : decode cX8_choices 11 = .ok (.lload_n 2, 1) := by decide +kernel
theorem dX8_choices_12 : decode cX8_choices 12 = .ok (.iload_n 0, 1) := by decide +kernel
theorem dX8_choices_13 : decode cX8_choices 13 = .ok (.iload 4, 2) := by decide +kernel
theorem dX8_choices_15 : decode cX8_choices 15 = .ok (.isub, 1) := by decide +kernel
theorem dX8_choices_16 : decode cX8_choices 16 = .ok (.i2l, 1) := by decide +kernel
theorem dX8_choices_17 : decode cX8_choices 17 = .ok (.lmul, 1) := by decide +kernel
theorem dX8_choices_18 : decode cX8_choices 18 = .ok (.iload 4, 2) := by decide +kernel
theorem dX8_choices_20 : decode cX8_choices 20 = .ok (.iconst 1, 1) := by decide +kernel
theorem dX8_choices_21 : decode cX8_choices 21 = .ok (.iadd, 1) := by decide +kernel
theorem dX8_choices_22 : decode cX8_choices 22 = .ok (.i2l, 1) := by decide +kernel
theorem dX8_choices_23 : decode cX8_choices 23 = .ok (.ldiv, 1) := by decide +kernel
theorem dX8_choices_24 : decode cX8_choices 24 = .ok (.lstore_n 2, 1) := by decide +kernel
theorem dX8_choices_25 : decode cX8_choices 25 = .ok (.iinc 4 1, 3) := by decide +kernel
theorem dX8_choices_28 : decode cX8_choices 28 = .ok (.goto (-23), 3) := by decide +kernel
theorem dX8_choices_31 : decode cX8_choices 31 = .ok (.lload_n 2, 1) := by decide +kernel
theorem dX8_choices_32 : decode cX8_choices 32 = .ok (.l2i, 1) := by decide +kernel
theorem dX8_choices_33 : decode cX8_choices 33 = .ok (.ireturn, 1) := by decide +kernel
theorem dX8_withUps_0 : decode cX8_withUps 0 = .ok (.iload_n 1, 1) := by decide +kernel
theorem dX8_withUps_1 : decode cX8_withUps 1 = .ok (.i2l, 1) := by decide +kernel
theorem dX8_withUps_2 : decode cX8_withUps 2 = .ok (.lconst 0, 1) := by decide +kernel
theorem dX8_withUps_3 : decode cX8_withUps 3 = .ok (.aload_n 0, 1) := by decide +kernel
theorem dX8_withUps_4 : decode cX8_withUps 4 = .ok (.invokevirtual 159, 3) := by decide +kernel
theorem dX8_withUps_7 : decode cX8_withUps 7 = .ok (.i2l, 1) := by decide +kernel
theorem dX8_withUps_8 : decode cX8_withUps 8 = .ok (.invokestatic 73, 3) := by decide +kernel
theorem dX8_withUps_11 : decode cX8_withUps 11 = .ok (.ifCond .ne 5, 3) := by decide +kernel
theorem dX8_withUps_14 : decode cX8_withUps 14 = .ok (.iconst 0, 1) := by decide +kernel
theorem dX8_withUps_15 : decode cX8_withUps 15 = .ok (.ireturn, 1) := by decide +kernel
theorem dX8_withUps_16 : decode cX8_withUps 16 = .ok (.iload_n 2, 1) := by decide +kernel
theorem dX8_withUps_17 : decode cX8_withUps 17 = .ok (.ifCond .ne 12, 3) := by decide +kernel
theorem dX8_withUps_20 : decode cX8_withUps 20 = .ok (.aload_n 0, 1) := by decide +kernel
theorem dX8_withUps_21 : decode cX8_withUps 21 = .ok (.invokevirtual 159, 3) := by decide +kernel
theorem dX8_withUps_24 : decode cX8_withUps 24 = .ok (.iload_n 1, 1) := by decide +kernel
theorem dX8_withUps_25 : decode cX8_withUps 25 = .ok (.invokestatic 235, 3) := by decide +kernel
theorem dX8_withUps_28 : decode cX8_withUps 28 = .ok (.ireturn, 1) := by decide +kernel
theorem dX8_withUps_29 : decode cX8_withUps 29 = .ok (.aload_n 0, 1) := by decide +kernel
theorem dX8_withUps_30 : decode cX8_withUps 30 = .ok (.invokevirtual 198, 3) := by decide +kernel
theorem dX8_withUps_33 : decode cX8_withUps 33 = .ok (.istore_n 3, 1) := by decide +kernel
theorem dX8_withUps_34 : decode cX8_withUps 34 = .ok (.aload_n 0, 1) := by decide +kernel
theorem dX8_withUps_35 : decode cX8_withUps 35 = .ok (.getfield 43, 3) := by decide +kernel
theorem dX8_withUps_38 : decode cX8_withUps 38 = .ok (.iload_n 1, 1) := by decide +kernel
theorem dX8_withUps_39 : decode cX8_withUps 39 = .ok (.iaload, 1) := by decide +kernel
theorem dX8_withUps_40 : decode cX8_withUps 40 = .ok (.iload_n 3, 1) := by decide +kernel
theorem dX8_withUps_41 : decode cX8_withUps 41 = .ok (.if_icmp .ne 12, 3) := by decide +kernel
theorem dX8_withUps_44 : decode cX8_withUps 44 = .ok (.aload_n 0, 1) := by decide +kernel
theorem dX8_withUps_45 : decode cX8_withUps 45 = .ok (.getfield 46, 3) := by decide +kernel
theorem dX8_withUps_48 : decode cX8_withUps 48 = .ok (.iload_n 1, 1) := by decide +kernel
theorem dX8_withUps_49 : decode cX8_withUps 49 = .ok (.iaload, 1) := by decide +kernel
theorem dX8_withUps_50 : decode cX8_withUps 50 = .ok (.goto 4, 3) := by decide +kernel
theorem dX8_withUps_53 : decode cX8_withUps 53 = .ok (.iconst 0, 1) := by decide +kernel
theorem dX8_withUps_54 : decode cX8_withUps 54 = .ok (.ireturn, 1) := by decide +kernel
theorem dX8_heat_0 : decode cX8_heat 0 = .ok (.iload_n 1, 1) := by decide +kernel
theorem dX8_heat_1 : decode cX8_heat 1 = .ok (.i2l, 1) := by decide +kernel
theorem dX8_heat_2 : decode cX8_heat 2 = .ok (.ldc2_w 193, 3) := by decide +kernel
theorem dX8_heat_5 : decode cX8_heat 5 = .ok (.ldc2_w 238, 3) := by decide +kernel
theorem dX8_heat_8 : decode cX8_heat 8 = .ok (.invokestatic 73, 3) := by decide +kernel
theorem dX8_heat_11 : decode cX8_heat 11 = .ok (.ifCond .ne 5, 3) := by decide +kernel
theorem dX8_heat_14 : decode cX8_heat 14 = .ok (.iconst 0, 1) := by decide +kernel
theorem dX8_heat_15 : decode cX8_heat 15 = .ok (.ireturn, 1) := by decide +kernel
theorem dX8_heat_16 : decode cX8_heat 16 = .ok (.aload_n 0, 1) := by decide +kernel
theorem dX8_heat_17 : decode cX8_heat 17 = .ok (.iconst 0, 1) := by decide +kernel
theorem dX8_heat_18 : decode cX8_heat 18 = .ok (.invokevirtual 120, 3) := by decide +kernel
theorem dX8_heat_21 : decode cX8_heat 21 = .ok (.iload_n 1, 1) := by decide +kernel
theorem dX8_heat_22 : decode cX8_heat 22 = .ok (.i2f, 1) := by decide +kernel
theorem dX8_heat_23 : decode cX8_heat 23 = .ok (.ldc 240, 2) := by decide +kernel
theorem dX8_heat_25 : decode cX8_heat 25 = .ok (.fdiv, 1) := by decide +kernel
theorem dX8_heat_26 : decode cX8_heat 26 = .ok (.fstore_n 3, 1) := by decide +kernel
theorem dX8_heat_27 : decode cX8_heat 27 = .ok (.fconst 1, 1) := by decide +kernel
theorem dX8_heat_28 : decode cX8_heat 28 = .ok (.fstore 4, 2) := by decide +kernel
theorem dX8_heat_30 : decode cX8_heat 30 = .ok (.fconst 0, 1) := by decide +kernel
theorem dX8_heat_31 : decode cX8_heat 31 = .ok (.fstore 5, 2) := by decide +kernel
theorem dX8_heat_33 : decode cX8_heat 33 = .ok (.fconst 0, 1) := by decide +kernel
theorem dX8_heat_34 : decode cX8_heat 34 = .ok (.fstore 6, 2) := by decide +kernel
theorem dX8_heat_36 : decode cX8_heat 36 = .ok (.aload_n 0, 1) := by decide +kernel
theorem dX8_heat_37 : decode cX8_heat 37 = .ok (.invokevirtual 241, 3) := by decide +kernel
theorem dX8_heat_40 : decode cX8_heat 40 = .ok (.istore 7, 2) := by decide +kernel
theorem dX8_heat_42 : decode cX8_heat 42 = .ok (.iload 7, 2) := by decide +kernel
theorem dX8_heat_44 : decode cX8_heat 44 = .ok (.aload_n 0, 1) := by decide +kernel
theorem dX8_heat_45 : decode cX8_heat 45 = .ok (.invokevirtual 244, 3) := by decide +kernel
theorem dX8_heat_48 : decode cX8_heat 48 = .ok (.if_icmp .gt 50, 3) := by decide +kernel
theorem dX8_heat_51 : decode cX8_heat 51 = .ok (.aload_n 0, 1) := by decide +kernel
theorem dX8_heat_52 : decode cX8_heat 52 = .ok (.getfield 22, 3) := by decide +kernel
theorem dX8_heat_55 : decode cX8_heat 55 = .ok (.sipush 200, 3) := by decide +kernel
theorem dX8_heat_58 : decode cX8_heat 58 = .ok (.iload 7, 2) := by decide +kernel
theorem dX8_heat_60 : decode cX8_heat 60 = .ok (.iadd, 1) := by decide +kernel
theorem dX8_heat_61 : decode cX8_heat 61 = .ok (.iaload, 1) := by decide +kernel
theorem dX8_heat_62 : decode cX8_heat 62 = .ok (.i2f, 1) := by decide +kernel
theorem dX8_heat_63 : decode cX8_heat 63 = .ok (.fload 4, 2) := by decide +kernel
theorem dX8_heat_65 : decode cX8_heat 65 = .ok (.fmul, 1) := by decide +kernel
theorem dX8_heat_66 : decode cX8_heat 66 = .ok (.fstore 8, 2) := by decide +kernel
theorem dX8_heat_68 : decode cX8_heat 68 = .ok (.fload 5, 2) := by decide +kernel
theorem dX8_heat_70 : decode cX8_heat 70 = .ok (.fload 8, 2) := by decide +kernel
theorem dX8_heat_72 : decode cX8_heat 72 = .ok (.fadd, 1) := by decide +kernel
theorem dX8_heat_73 : decode cX8_heat 73 = .ok (.fstore 5, 2) := by decide +kernel
theorem dX8_heat_75 : decode cX8_heat 75 = .ok (.fload 6, 2) := by decide +kernel
theorem dX8_heat_77 : decode cX8_heat 77 = .ok (.fload 8, 2) := by decide +kernel
theorem dX8_heat_79 : decode cX8_heat 79 = .ok (.iload 7, 2) := by decide +kernel
theorem dX8_heat_81 : decode cX8_heat 81 = .ok (.i2f, 1) := by decide +kernel
theorem dX8_heat_82 : decode cX8_heat 82 = .ok (.fmul, 1) := by decide +kernel
theorem dX8_heat_83 : decode cX8_heat 83 = .ok (.fadd, 1) := by decide +kernel
theorem dX8_heat_84 : decode cX8_heat 84 = .ok (.fstore 6, 2) := by decide +kernel
theorem dX8_heat_86 : decode cX8_heat 86 = .ok (.fload 4, 2) := by decide +kernel
theorem dX8_heat_88 : decode cX8_heat 88 = .ok (.fload_n 3, 1) := by decide +kernel
theorem dX8_heat_89 : decode cX8_heat 89 = .ok (.fmul, 1) := by decide +kernel
theorem dX8_heat_90 : decode cX8_heat 90 = .ok (.fstore 4, 2) := by decide +kernel
theorem dX8_heat_92 : decode cX8_heat 92 = .ok (.iinc 7 1, 3) := by decide +kernel
theorem dX8_heat_95 : decode cX8_heat 95 = .ok (.goto (-53), 3) := by decide +kernel
theorem dX8_heat_98 : decode cX8_heat 98 = .ok (.iload_n 2, 1) := by decide +kernel
theorem dX8_heat_99 : decode cX8_heat 99 = .ok (.ifCond .eq 11, 3) := by decide +kernel
theorem dX8_heat_102 : decode cX8_heat 102 = .ok (.fload 6, 2) := by decide +kernel
theorem dX8_heat_104 : decode cX8_heat 104 = .ok (.fload 5, 2) := by decide +kernel
theorem dX8_heat_106 : decode cX8_heat 106 = .ok (.fdiv, 1) := by decide +kernel
theorem dX8_heat_107 : decode cX8_heat 107 = .ok (.goto 5, 3) := by decide +kernel
theorem dX8_heat_110 : decode cX8_heat 110 = .ok (.fload 5, 2) := by decide +kernel
theorem dX8_heat_112 : decode cX8_heat 112 = .ok (.invokestatic 247, 3) := by decide +kernel
theorem dX8_heat_115 : decode cX8_heat 115 = .ok (.ireturn, 1) := by decide +kernel
theorem dX8_upsNow_0 : decode cX8_upsNow 0 = .ok (.iconst 0, 1) := by decide +kernel
theorem dX8_upsNow_1 : decode cX8_upsNow 1 = .ok (.istore_n 1, 1) := by decide +kernel
theorem dX8_upsNow_2 : decode cX8_upsNow 2 = .ok (.iconst 0, 1) := by decide +kernel
theorem dX8_upsNow_3 : decode cX8_upsNow 3 = .ok (.istore_n 2, 1) := by decide +kernel
theorem dX8_upsNow_4 : decode cX8_upsNow 4 = .ok (.iload_n 2, 1) := by decide +kernel
theorem dX8_upsNow_5 : decode cX8_upsNow 5 = .ok (.aload_n 0, 1) := by decide +kernel
theorem dX8_upsNow_6 : decode cX8_upsNow 6 = .ok (.getfield 7, 3) := by decide +kernel
theorem dX8_upsNow_9 : decode cX8_upsNow 9 = .ok (.iconst 0, 1) := by decide +kernel
theorem dX8_upsNow_10 : decode cX8_upsNow 10 = .ok (.iaload, 1) := by decide +kernel
theorem dX8_upsNow_11 : decode cX8_upsNow 11 = .ok (.if_icmp .ge 24, 3) := by decide +kernel
theorem dX8_upsNow_14 : decode cX8_upsNow 14 = .ok (.iload_n 1, 1) := by decide +kernel
theorem dX8_upsNow_15 : decode cX8_upsNow 15 = .ok (.aload_n 0, 1) := by decide +kernel
theorem dX8_upsNow_16 : decode cX8_upsNow 16 = .ok (.getfield 7, 3) := by decide +kernel
theorem dX8_upsNow_19 : decode cX8_upsNow 19 = .ok (.bipush 6, 2) := by decide +kernel
theorem dX8_upsNow_21 : decode cX8_upsNow 21 = .ok (.iload_n 2, 1) := by decide +kernel
theorem dX8_upsNow_22 : decode cX8_upsNow 22 = .ok (.iadd, 1) := by decide +kernel
theorem dX8_upsNow_23 : decode cX8_upsNow 23 = .ok (.iaload, 1) := by decide +kernel
theorem dX8_upsNow_24 : decode cX8_upsNow 24 = .ok (.invokestatic 129, 3) := by decide +kernel
theorem dX8_upsNow_27 : decode cX8_upsNow 27 = .ok (.iadd, 1) := by decide +kernel
theorem dX8_upsNow_28 : decode cX8_upsNow 28 = .ok (.istore_n 1, 1) := by decide +kernel
theorem dX8_upsNow_29 : decode cX8_upsNow 29 = .ok (.iinc 2 1, 3) := by decide +kernel
theorem dX8_upsNow_32 : decode cX8_upsNow 32 = .ok (.goto (-28), 3) := by decide +kernel
theorem dX8_upsNow_35 : decode cX8_upsNow 35 = .ok (.iload_n 1, 1) := by decide +kernel
theorem dX8_upsNow_36 : decode cX8_upsNow 36 = .ok (.ireturn, 1) := by decide +kernel
theorem dX8_thatWouldTurn_0 : decode cX8_thatWouldTurn 0 = .ok (.iconst 0, 1) := by decide +kernel
theorem dX8_thatWouldTurn_1 : decode cX8_thatWouldTurn 1 = .ok (.istore_n 1, 1) := by decide +kernel
theorem dX8_thatWouldTurn_2 : decode cX8_thatWouldTurn 2 = .ok (.iconst 0, 1) := by decide +kernel
theorem dX8_thatWouldTurn_3 : decode cX8_thatWouldTurn 3 = .ok (.istore_n 2, 1) := by decide +kernel
theorem dX8_thatWouldTurn_4 : decode cX8_thatWouldTurn 4 = .ok (.iload_n 2, 1) := by decide +kernel
theorem dX8_thatWouldTurn_5 : decode cX8_thatWouldTurn 5 = .ok (.aload_n 0, 1) := by decide +kernel
theorem dX8_thatWouldTurn_6 : decode cX8_thatWouldTurn 6 = .ok (.invokevirtual 159, 3) := by decide +kernel
theorem dX8_thatWouldTurn_9 : decode cX8_thatWouldTurn 9 = .ok (.if_icmp .ge 40, 3) := by decide +kernel
theorem dX8_thatWouldTurn_12 : decode cX8_thatWouldTurn 12 = .ok (.iload_n 1, 1) := by decide +kernel
theorem dX8_thatWouldTurn_13 : decode cX8_thatWouldTurn 13 = .ok (.aload_n 0, 1) := by decide +kernel
theorem dX8_thatWouldTurn_14 : decode cX8_thatWouldTurn 14 = .ok (.iload_n 2, 1) := by decide +kernel
theorem dX8_thatWouldTurn_15 : decode cX8_thatWouldTurn 15 = .ok (.aload_n 0, 1) := by decide +kernel
theorem dX8_thatWouldTurn_16 : decode cX8_thatWouldTurn 16 = .ok (.getfield 7, 3) := by decide +kernel
theorem dX8_thatWouldTurn_19 : decode cX8_thatWouldTurn 19 = .ok (.iconst 1, 1) := by decide +kernel
theorem dX8_thatWouldTurn_20 : decode cX8_thatWouldTurn 20 = .ok (.iaload, 1) := by decide +kernel
theorem dX8_thatWouldTurn_21 : decode cX8_thatWouldTurn 21 = .ok (.irem, 1) := by decide +kernel
theorem dX8_thatWouldTurn_22 : decode cX8_thatWouldTurn 22 = .ok (.iload_n 2, 1) := by decide +kernel
theorem dX8_thatWouldTurn_23 : decode cX8_thatWouldTurn 23 = .ok (.aload_n 0, 1) := by decide +kernel
theorem dX8_thatWouldTurn_24 : decode cX8_thatWouldTurn 24 = .ok (.getfield 7, 3) := by decide +kernel
theorem dX8_thatWouldTurn_27 : decode cX8_thatWouldTurn 27 = .ok (.iconst 1, 1) := by decide +kernel
theorem dX8_thatWouldTurn_28 : decode cX8_thatWouldTurn 28 = .ok (.iaload, 1) := by decide +kernel
theorem dX8_thatWouldTurn_29 : decode cX8_thatWouldTurn 29 = .ok (.idiv, 1) := by decide +kernel
theorem dX8_thatWouldTurn_30 : decode cX8_thatWouldTurn 30 = .ok (.invokevirtual 190, 3) := by decide +kernel
theorem dX8_thatWouldTurn_33 : decode cX8_thatWouldTurn 33 = .ok (.ifCond .le 7, 3) := by decide +kernel
theorem dX8_thatWouldTurn_36 : decode cX8_thatWouldTurn 36 = .ok (.iconst 1, 1) := by decide +kernel
theorem dX8_thatWouldTurn_37 : decode cX8_thatWouldTurn 37 = .ok (.goto 4, 3) := by decide +kernel
theorem dX8_thatWouldTurn_40 : decode cX8_thatWouldTurn 40 = .ok (.iconst 0, 1) := by decide +kernel
theorem dX8_thatWouldTurn_41 : decode cX8_thatWouldTurn 41 = .ok (.iadd, 1) := by decide +kernel
theorem dX8_thatWouldTurn_42 : decode cX8_thatWouldTurn 42 = .ok (.istore_n 1, 1) := by decide +kernel
theorem dX8_thatWouldTurn_43 : decode cX8_thatWouldTurn 43 = .ok (.iinc 2 1, 3) := by decide +kernel
theorem dX8_thatWouldTurn_46 : decode cX8_thatWouldTurn 46 = .ok (.goto (-42), 3) := by decide +kernel
theorem dX8_thatWouldTurn_49 : decode cX8_thatWouldTurn 49 = .ok (.iload_n 1, 1) := by decide +kernel
theorem dX8_thatWouldTurn_50 : decode cX8_thatWouldTurn 50 = .ok (.ireturn, 1) := by decide +kernel
theorem dX8_pairs_0 : decode cX8_pairs 0 = .ok (.aload_n 0, 1) := by decide +kernel
theorem dX8_pairs_1 : decode cX8_pairs 1 = .ok (.getfield 7, 3) := by decide +kernel
theorem dX8_pairs_4 : decode cX8_pairs 4 = .ok (.iconst 0, 1) := by decide +kernel
theorem dX8_pairs_5 : decode cX8_pairs 5 = .ok (.iaload, 1) := by decide +kernel
theorem dX8_pairs_6 : decode cX8_pairs 6 = .ok (.istore_n 1, 1) := by decide +kernel
theorem dX8_pairs_7 : decode cX8_pairs 7 = .ok (.aload_n 0, 1) := by decide +kernel
theorem dX8_pairs_8 : decode cX8_pairs 8 = .ok (.getfield 7, 3) := by decide +kernel
theorem dX8_pairs_11 : decode cX8_pairs 11 = .ok (.iconst 1, 1) := by decide +kernel
theorem dX8_pairs_12 : decode cX8_pairs 12 = .ok (.iaload, 1) := by decide +kernel
theorem dX8_pairs_13 : decode cX8_pairs 13 = .ok (.aload_n 0, 1) := by decide +kernel
theorem dX8_pairs_14 : decode cX8_pairs 14 = .ok (.invokevirtual 85, 3) := by decide +kernel
theorem dX8_pairs_17 : decode cX8_pairs 17 = .ok (.ifCond .eq 7, 3) := by decide +kernel
theorem dX8_pairs_20 : decode cX8_pairs 20 = .ok (.iload_n 1, 1) := by decide +kernel
theorem dX8_pairs_21 : decode cX8_pairs 21 = .ok (.goto 6, 3) := by decide +kernel
theorem dX8_pairs_24 : decode cX8_pairs 24 = .ok (.iload_n 1, 1) := by decide +kernel
theorem dX8_pairs_25 : decode cX8_pairs 25 = .ok (.iconst 1, 1) := by decide +kernel
theorem dX8_pairs_26 : decode cX8_pairs 26 = .ok (.isub, 1) := by decide +kernel
theorem dX8_pairs_27 : decode cX8_pairs 27 = .ok (.imul, 1) := by decide +kernel
theorem dX8_pairs_28 : decode cX8_pairs 28 = .ok (.iload_n 1, 1) := by decide +kernel
theorem dX8_pairs_29 : decode cX8_pairs 29 = .ok (.aload_n 0, 1) := by decide +kernel
theorem dX8_pairs_30 : decode cX8_pairs 30 = .ok (.getfield 7, 3) := by decide +kernel
theorem dX8_pairs_33 : decode cX8_pairs 33 = .ok (.iconst 1, 1) := by decide +kernel
theorem dX8_pairs_34 : decode cX8_pairs 34 = .ok (.iaload, 1) := by decide +kernel
theorem dX8_pairs_35 : decode cX8_pairs 35 = .ok (.iconst 1, 1) := by decide +kernel
theorem dX8_pairs_36 : decode cX8_pairs 36 = .ok (.isub, 1) := by decide +kernel
theorem dX8_pairs_37 : decode cX8_pairs 37 = .ok (.imul, 1) := by decide +kernel
theorem dX8_pairs_38 : decode cX8_pairs 38 = .ok (.iadd, 1) := by decide +kernel
theorem dX8_pairs_39 : decode cX8_pairs 39 = .ok (.ireturn, 1) := by decide +kernel
theorem dX8_ofAll_0 : decode cX8_ofAll 0 = .ok (.aload_n 0, 1) := by decide +kernel
theorem dX8_ofAll_1 : decode cX8_ofAll 1 = .ok (.iconst 0, 1) := by decide +kernel
theorem dX8_ofAll_2 : decode cX8_ofAll 2 = .ok (.invokevirtual 120, 3) := by decide +kernel
theorem dX8_ofAll_5 : decode cX8_ofAll 5 = .ok (.iload_n 1, 1) := by decide +kernel
theorem dX8_ofAll_6 : decode cX8_ofAll 6 = .ok (.bipush 8, 2) := by decide +kernel
theorem dX8_ofAll_8 : decode cX8_ofAll 8 = .ok (.if_icmp .ne 10, 3) := by decide +kernel
theorem dX8_ofAll_11 : decode cX8_ofAll 11 = .ok (.aload_n 0, 1) := by decide +kernel
theorem dX8_ofAll_12 : decode cX8_ofAll 12 = .ok (.invokevirtual 241, 3) := by decide +kernel
theorem dX8_ofAll_15 : decode cX8_ofAll 15 = .ok (.goto 29, 3) := by decide +kernel
theorem dX8_ofAll_18 : decode cX8_ofAll 18 = .ok (.iload_n 1, 1) := by decide +kernel
theorem dX8_ofAll_19 : decode cX8_ofAll 19 = .ok (.bipush 9, 2) := by decide +kernel
theorem dX8_ofAll_21 : decode cX8_ofAll 21 = .ok (.if_icmp .ne 10, 3) := by decide +kernel
theorem dX8_ofAll_24 : decode cX8_ofAll 24 = .ok (.aload_n 0, 1) := by decide +kernel
theorem dX8_ofAll_25 : decode cX8_ofAll 25 = .ok (.invokevirtual 244, 3) := by decide +kernel
theorem dX8_ofAll_28 : decode cX8_ofAll 28 = .ok (.goto 16, 3) := by decide +kernel
theorem dX8_ofAll_31 : decode cX8_ofAll 31 = .ok (.aload_n 0, 1) := by decide +kernel
theorem dX8_ofAll_32 : decode cX8_ofAll 32 = .ok (.getfield 22, 3) := by decide +kernel
theorem dX8_ofAll_35 : decode cX8_ofAll 35 = .ok (.sipush 200, 3) := by decide +kernel
theorem dX8_ofAll_38 : decode cX8_ofAll 38 = .ok (.aload_n 0, 1) := by decide +kernel
theorem dX8_ofAll_39 : decode cX8_ofAll 39 = .ok (.invokevirtual 241, 3) := by decide +kernel
theorem dX8_ofAll_42 : decode cX8_ofAll 42 = .ok (.iadd, 1) := by decide +kernel
theorem dX8_ofAll_43 : decode cX8_ofAll 43 = .ok (.iaload, 1) := by decide +kernel
theorem dX8_ofAll_44 : decode cX8_ofAll 44 = .ok (.ireturn, 1) := by decide +kernel
theorem dX8_count_0 : decode cX8_count 0 = .ok (.iload_n 1, 1) := by decide +kernel
theorem dX8_count_1 : decode cX8_count 1 = .ok (.tableswitch 156 0 16 #[83, 83, 83, 90, 95, 101, 106, 106, 118, 118, 118, 124, 129, 134, 141, 146, 151], 83) := by decide +kernel
theorem dX8_count_84 : decode cX8_count 84 = .ok (.aload_n 0, 1) := by decide +kernel
theorem dX8_count_85 : decode cX8_count 85 = .ok (.getfield 7, 3) := by decide +kernel
theorem dX8_count_88 : decode cX8_count 88 = .ok (.iload_n 1, 1) := by decide +kernel
theorem dX8_count_89 : decode cX8_count 89 = .ok (.iaload, 1) := by decide +kernel
theorem dX8_count_90 : decode cX8_count 90 = .ok (.ireturn, 1) := by decide +kernel
theorem dX8_count_91 : decode cX8_count 91 = .ok (.aload_n 0, 1) := by decide +kernel
theorem dX8_count_92 : decode cX8_count 92 = .ok (.invokevirtual 175, 3) := by decide +kernel
theorem dX8_count_95 : decode cX8_count 95 = .ok (.ireturn, 1) := by decide +kernel
theorem dX8_count_96 : decode cX8_count 96 = .ok (.aload_n 0, 1) := by decide +kernel
theorem dX8_count_97 : decode cX8_count 97 = .ok (.iconst 1, 1) := by decide +kernel
theorem dX8_count_98 : decode cX8_count 98 = .ok (.invokevirtual 102, 3) := by decide +kernel
theorem dX8_count_101 : decode cX8_count 101 = .ok (.ireturn, 1) := by decide +kernel
theorem dX8_count_102 : decode cX8_count 102 = .ok (.aload_n 0, 1) := by decide +kernel
theorem dX8_count_103 : decode cX8_count 103 = .ok (.invokevirtual 253, 3) := by decide +kernel
theorem dX8_count_106 : decode cX8_count 106 = .ok (.ireturn, 1) := by decide +kernel
theorem dX8_count_107 : decode cX8_count 107 = .ok (.aload_n 0, 1) := by decide +kernel
theorem dX8_count_108 : decode cX8_count 108 = .ok (.getfield 7, 3) := by decide +kernel
theorem dX8_count_111 : decode cX8_count 111 = .ok (.iconst 3, 1) := by decide +kernel
theorem dX8_count_112 : decode cX8_count 112 = .ok (.iload_n 1, 1) := by decide +kernel
theorem dX8_count_113 : decode cX8_count 113 = .ok (.iadd, 1) := by decide +kernel
theorem dX8_count_114 : decode cX8_count 114 = .ok (.bipush 6, 2) := by decide +kernel
theorem dX8_count_116 : decode cX8_count 116 = .ok (.isub, 1) := by decide +kernel
theorem dX8_count_117 : decode cX8_count 117 = .ok (.iaload, 1) := by decide +kernel
theorem dX8_count_118 : decode cX8_count 118 = .ok (.ireturn, 1) := by decide +kernel
theorem dX8_count_119 : decode cX8_count 119 = .ok (.aload_n 0, 1) := by decide +kernel
theorem dX8_count_120 : decode cX8_count 120 = .ok (.iload_n 1, 1) := by decide +kernel
theorem dX8_count_121 : decode cX8_count 121 = .ok (.invokevirtual 256, 3) := by decide +kernel
theorem dX8_count_124 : decode cX8_count 124 = .ok (.ireturn, 1) := by decide +kernel
theorem dX8_count_125 : decode cX8_count 125 = .ok (.aload_n 0, 1) := by decide +kernel
theorem dX8_count_126 : decode cX8_count 126 = .ok (.invokevirtual 259, 3) := by decide +kernel
theorem dX8_count_129 : decode cX8_count 129 = .ok (.ireturn, 1) := by decide +kernel
theorem dX8_count_130 : decode cX8_count 130 = .ok (.aload_n 0, 1) := by decide +kernel
theorem dX8_count_131 : decode cX8_count 131 = .ok (.invokevirtual 262, 3) := by decide +kernel
theorem dX8_count_134 : decode cX8_count 134 = .ok (.ireturn, 1) := by decide +kernel
theorem dX8_count_135 : decode cX8_count 135 = .ok (.aload_n 0, 1) := by decide +kernel
theorem dX8_count_136 : decode cX8_count 136 = .ok (.getfield 7, 3) := by decide +kernel
theorem dX8_count_139 : decode cX8_count 139 = .ok (.iconst 5, 1) := by decide +kernel
theorem dX8_count_140 : decode cX8_count 140 = .ok (.iaload, 1) := by decide +kernel
theorem dX8_count_141 : decode cX8_count 141 = .ok (.ireturn, 1) := by decide +kernel
theorem dX8_count_142 : decode cX8_count 142 = .ok (.aload_n 0, 1) := by decide +kernel
theorem dX8_count_143 : decode cX8_count 143 = .ok (.invokevirtual 265, 3) := by decide +kernel
theorem dX8_count_146 : decode cX8_count 146 = .ok (.ireturn, 1) := by decide +kernel
theorem dX8_count_147 : decode cX8_count 147 = .ok (.aload_n 0, 1) := by decide +kernel
theorem dX8_count_148 : decode cX8_count 148 = .ok (.getfield 69, 3) := by decide +kernel
theorem dX8_count_151 : decode cX8_count 151 = .ok (.ireturn, 1) := by decide +kernel
theorem dX8_count_152 : decode cX8_count 152 = .ok (.aload_n 0, 1) := by decide +kernel
theorem dX8_count_153 : decode cX8_count 153 = .ok (.getfield 204, 3) := by decide +kernel
theorem dX8_count_156 : decode cX8_count 156 = .ok (.ireturn, 1) := by decide +kernel
theorem dX8_count_157 : decode cX8_count 157 = .ok (.sipush (-1002), 3) := by decide +kernel
theorem dX8_count_160 : decode cX8_count 160 = .ok (.ireturn, 1) := by decide +kernel
theorem dL_law_0 : decode cL_law 0 = .ok (.new 7, 3) := by decide +kernel
theorem dL_law_3 : decode cL_law 3 = .ok (.dup, 1) := by decide +kernel
theorem dL_law_4 : decode cL_law 4 = .ok (.invokespecial 9, 3) := by decide +kernel
theorem dL_law_7 : decode cL_law 7 = .ok (.astore_n 1, 1) := by decide +kernel
theorem dL_law_8 : decode cL_law 8 = .ok (.new 10, 3) := by decide +kernel
theorem dL_law_11 : decode cL_law 11 = .ok (.dup, 1) := by decide +kernel
theorem dL_law_12 : decode cL_law 12 = .ok (.invokespecial 12, 3) := by decide +kernel
theorem dL_law_15 : decode cL_law 15 = .ok (.astore_n 2, 1) := by decide +kernel
theorem dL_law_16 : decode cL_law 16 = .ok (.iconst 0, 1) := by decide +kernel
theorem dL_law_17 : decode cL_law 17 = .ok (.istore_n 3, 1) := by decide +kernel
theorem dL_law_18 : decode cL_law 18 = .ok (.iload_n 3, 1) := by decide +kernel
theorem dL_law_19 : decode cL_law 19 = .ok (.aload_n 0, 1) := by decide +kernel
theorem dL_law_20 : decode cL_law 20 = .ok (.arraylength, 1) := by decide +kernel
theorem dL_law_21 : decode cL_law 21 = .ok (.iconst 4, 1) := by decide +kernel
theorem dL_law_22 : decode cL_law 22 = .ok (.isub, 1) := by decide +kernel
theorem dL_law_23 : decode cL_law 23 = .ok (.if_icmp .gt 730, 3) := by decide +kernel
theorem dL_law_26 : decode cL_law 26 = .ok (.aload_n 0, 1) := by decide +kernel
theorem dL_law_27 : decode cL_law 27 = .ok (.iload_n 3, 1) := by decide +kernel
theorem dL_law_28 : decode cL_law 28 = .ok (.iaload, 1) := by decide +kernel
theorem dL_law_29 : decode cL_law 29 = .ok (.bipush 31, 2) := by decide +kernel
theorem dL_law_31 : decode cL_law 31 = .ok (.iand, 1) := by decide +kernel
theorem dL_law_32 : decode cL_law 32 = .ok (.tableswitch 715 0 20 #[100, 159, 172, 211, 260, 303, 336, 369, 392, 405, 430, 443, 456, 469, 482, 525, 548, 571, 594, 643, 692], 100) := by decide +kernel
theorem dL_law_132 : decode cL_law 132 = .ok (.aload_n 1, 1) := by decide +kernel
theorem dL_law_133 : decode cL_law 133 = .ok (.aload_n 0, 1) := by decide +kernel
theorem dL_law_134 : decode cL_law 134 = .ok (.iload_n 3, 1) := by decide +kernel
theorem dL_law_135 : decode cL_law 135 = .ok (.iconst 1, 1) := by decide +kernel
theorem dL_law_136 : decode cL_law 136 = .ok (.iadd, 1) := by decide +kernel
theorem dL_law_137 : decode cL_law 137 = .ok (.iaload, 1) := by decide +kernel
theorem dL_law_138 : decode cL_law 138 = .ok (.aload_n 0, 1) := by decide +kernel
theorem dL_law_139 : decode cL_law 139 = .ok (.iload_n 3, 1) := by decide +kernel
theorem dL_law_140 : decode cL_law 140 = .ok (.iconst 2, 1) := by decide +kernel
theorem dL_law_141 : decode cL_law 141 = .ok (.iadd, 1) := by decide +kernel
theorem dL_law_142 : decode cL_law 142 = .ok (.iaload, 1) := by decide +kernel
theorem dL_law_143 : decode cL_law 143 = .ok (.aload_n 0, 1) := by decide +kernel
theorem dL_law_144 : decode cL_law 144 = .ok (.iload_n 3, 1) := by decide +kernel
theorem dL_law_145 : decode cL_law 145 = .ok (.iconst 3, 1) := by decide +kernel
theorem dL_law_146 : decode cL_law 146 = .ok (.iadd, 1) := by decide +kernel
theorem dL_law_147 : decode cL_law 147 = .ok (.iaload, 1) := by decide +kernel
theorem dL_law_148 : decode cL_law 148 = .ok (.ifCond .eq 7, 3) := by decide +kernel
theorem dL_law_151 : decode cL_law 151 = .ok (.iconst 1, 1) := by decide +kernel
theorem dL_law_152 : decode cL_law 152 = .ok (.goto 4, 3) := by decide +kernel
theorem dL_law_155 : decode cL_law 155 = .ok (.iconst 0, 1) := by decide +kernel
theorem dL_law_156 : decode cL_law 156 = .ok (.invokevirtual 13, 3) := by decide +kernel
theorem dL_law_159 : decode cL_law 159 = .ok (.aload_n 2, 1) := by decide +kernel
theorem dL_law_160 : decode cL_law 160 = .ok (.aload_n 0, 1) := by decide +kernel
theorem dL_law_161 : decode cL_law 161 = .ok (.iload_n 3, 1) := by decide +kernel
theorem dL_law_162 : decode cL_law 162 = .ok (.iconst 1, 1) := by decide +kernel
theorem dL_law_163 : decode cL_law 163 = .ok (.iadd, 1) := by decide +kernel
theorem dL_law_164 : decode cL_law 164 = .ok (.iaload, 1) := by decide +kernel
theorem dL_law_165 : decode cL_law 165 = .ok (.aload_n 0, 1) := by decide +kernel
theorem dL_law_166 : decode cL_law 166 = .ok (.iload_n 3, 1) := by decide +kernel
theorem dL_law_167 : decode cL_law 167 = .ok (.iconst 2, 1) := by decide +kernel
theorem dL_law_168 : decode cL_law 168 = .ok (.iadd, 1) := by decide +kernel
theorem dL_law_169 : decode cL_law 169 = .ok (.iaload, 1) := by decide +kernel
theorem dL_law_170 : decode cL_law 170 = .ok (.aload_n 0, 1) := by decide +kernel
theorem dL_law_171 : decode cL_law 171 = .ok (.iload_n 3, 1) := by decide +kernel
theorem dL_law_172 : decode cL_law 172 = .ok (.iconst 3, 1) := by decide +kernel
theorem dL_law_173 : decode cL_law 173 = .ok (.iadd, 1) := by decide +kernel
theorem dL_law_174 : decode cL_law 174 = .ok (.iaload, 1) := by decide +kernel
theorem dL_law_175 : decode cL_law 175 = .ok (.ifCond .eq 7, 3) := by decide +kernel
theorem dL_law_178 : decode cL_law 178 = .ok (.iconst 1, 1) := by decide +kernel
theorem dL_law_179 : decode cL_law 179 = .ok (.goto 4, 3) := by decide +kernel
theorem dL_law_182 : decode cL_law 182 = .ok (.iconst 0, 1) := by decide +kernel
theorem dL_law_183 : decode cL_law 183 = .ok (.invokevirtual 17, 3) := by decide +kernel
theorem dL_law_186 : decode cL_law 186 = .ok (.if_icmp .eq 561, 3) := by decide +kernel
theorem dL_law_189 : decode cL_law 189 = .ok (.iconst 0, 1) := by decide +kernel
theorem dL_law_190 : decode cL_law 190 = .ok (.ireturn, 1) := by decide +kernel
theorem dL_law_191 : decode cL_law 191 = .ok (.aload_n 1, 1) := by decide +kernel
theorem dL_law_192 : decode cL_law 192 = .ok (.invokevirtual 18, 3) := by decide +kernel
theorem dL_law_195 : decode cL_law 195 = .ok (.aload_n 2, 1) := by decide +kernel
theorem dL_law_196 : decode cL_law 196 = .ok (.invokevirtual 22, 3) := by decide +kernel
theorem dL_law_199 : decode cL_law 199 = .ok (.if_icmp .eq 548, 3) := by decide +kernel
theorem dL_law_202 : decode cL_law 202 = .ok (.iconst 0, 1) := by decide +kernel
theorem dL_law_203 : decode cL_law 203 = .ok (.ireturn, 1) := by decide +kernel
theorem dL_law_204 : decode cL_law 204 = .ok (.aload_n 1, 1) := by decide +kernel
theorem dL_law_205 : decode cL_law 205 = .ok (.aload_n 0, 1) := by decide +kernel
theorem dL_law_206 : decode cL_law 206 = .ok (.iload_n 3, 1) := by decide +kernel
theorem dL_law_207 : decode cL_law 207 = .ok (.iconst 1, 1) := by decide +kernel
theorem dL_law_208 : decode cL_law 208 = .ok (.iadd, 1) := by decide +kernel
theorem dL_law_209 : decode cL_law 209 = .ok (.iaload, 1) := by decide +kernel
theorem dL_law_210 : decode cL_law 210 = .ok (.ifCond .eq 7, 3) := by decide +kernel
theorem dL_law_213 : decode cL_law 213 = .ok (.iconst 1, 1) := by decide +kernel
theorem dL_law_214 : decode cL_law 214 = .ok (.goto 4, 3) := by decide +kernel
theorem dL_law_217 : decode cL_law 217 = .ok (.iconst 0, 1) := by decide +kernel
theorem dL_law_218 : decode cL_law 218 = .ok (.invokevirtual 23, 3) := by decide +kernel
theorem dL_law_221 : decode cL_law 221 = .ok (.aload_n 2, 1) := by decide +kernel
theorem dL_law_222 : decode cL_law 222 = .ok (.aload_n 0, 1) := by decide +kernel
theorem dL_law_223 : decode cL_law 223 = .ok (.iload_n 3, 1) := by decide +kernel
theorem dL_law_224 : decode cL_law 224 = .ok (.iconst 1, 1) := by decide +kernel
theorem dL_law_225 : decode cL_law 225 = .ok (.iadd, 1) := by decide +kernel
theorem dL_law_226 : decode cL_law 226 = .ok (.iaload, 1) := by decide +kernel
theorem dL_law_227 : decode cL_law 227 = .ok (.ifCond .eq 7, 3) := by decide +kernel
theorem dL_law_230 : decode cL_law 230 = .ok (.iconst 1, 1) := by decide +kernel
theorem dL_law_231 : decode cL_law 231 = .ok (.goto 4, 3) := by decide +kernel
theorem dL_law_234 : decode cL_law 234 = .ok (.iconst 0, 1) := by decide +kernel
theorem dL_law_235 : decode cL_law 235 = .ok (.invokevirtual 27, 3) := by decide +kernel
theorem dL_law_238 : decode cL_law 238 = .ok (.if_icmp .eq 509, 3) := by decide +kernel
theorem dL_law_241 : decode cL_law 241 = .ok (.iconst 0, 1) := by decide +kernel
theorem dL_law_242 : decode cL_law 242 = .ok (.ireturn, 1) := by decide +kernel
theorem dL_law_243 : decode cL_law 243 = .ok (.aload_n 1, 1) := by decide +kernel
theorem dL_law_244 : decode cL_law 244 = .ok (.aload_n 0, 1) := by decide +kernel
theorem dL_law_245 : decode cL_law 245 = .ok (.iload_n 3, 1) := by decide +kernel
theorem dL_law_246 : decode cL_law 246 = .ok (.iconst 1, 1) := by decide +kernel
theorem dL_law_247 : decode cL_law 247 = .ok (.iadd, 1) := by decide +kernel
theorem dL_law_248 : decode cL_law 248 = .ok (.iaload, 1) := by decide +kernel
theorem dL_law_249 : decode cL_law 249 = .ok (.ifCond .eq 7, 3) := by decide +kernel
theorem dL_law_252 : decode cL_law 252 = .ok (.iconst 1, 1) := by decide +kernel
theorem dL_law_253 : decode cL_law 253 = .ok (.goto 4, 3) := by decide +kernel
theorem dL_law_256 : decode cL_law 256 = .ok (.iconst 0, 1) := by decide +kernel
theorem dL_law_257 : decode cL_law 257 = .ok (.aload_n 0, 1) := by decide +kernel
theorem dL_law_258 : decode cL_law 258 = .ok (.iload_n 3, 1) := by decide +kernel
theorem dL_law_259 : decode cL_law 259 = .ok (.iconst 2, 1) := by decide +kernel
theorem dL_law_260 : decode cL_law 260 = .ok (.iadd, 1) := by decide +kernel
theorem dL_law_261 : decode cL_law 261 = .ok (.iaload, 1) := by decide +kernel
theorem dL_law_262 : decode cL_law 262 = .ok (.invokevirtual 28, 3) := by decide +kernel
theorem dL_law_265 : decode cL_law 265 = .ok (.aload_n 2, 1) := by decide +kernel
theorem dL_law_266 : decode cL_law 266 = .ok (.aload_n 0, 1) := by decide +kernel
theorem dL_law_267 : decode cL_law 267 = .ok (.iload_n 3, 1) := by decide +kernel
theorem dL_law_268 : decode cL_law 268 = .ok (.iconst 1, 1) := by decide +kernel
theorem dL_law_269 : decode cL_law 269 = .ok (.iadd, 1) := by decide +kernel
theorem dL_law_270 : decode cL_law 270 = .ok (.iaload, 1) := by decide +kernel
theorem dL_law_271 : decode cL_law 271 = .ok (.ifCond .eq 7, 3) := by decide +kernel
theorem dL_law_274 : decode cL_law 274 = .ok (.iconst 1, 1) := by decide +kernel
theorem dL_law_275 : decode cL_law 275 = .ok (.goto 4, 3) := by decide +kernel
theorem dL_law_278 : decode cL_law 278 = .ok (.iconst 0, 1) := by decide +kernel
theorem dL_law_279 : decode cL_law 279 = .ok (.aload_n 0, 1) := by decide +kernel
theorem dL_law_280 : decode cL_law 280 = .ok (.iload_n 3, 1) := by decide +kernel
theorem dL_law_281 : decode cL_law 281 = .ok (.iconst 2, 1) := by decide +kernel
theorem dL_law_282 : decode cL_law 282 = .ok (.iadd, 1) := by decide +kernel
theorem dL_law_283 : decode cL_law 283 = .ok (.iaload, 1) := by decide +kernel
theorem dL_law_284 : decode cL_law 284 = .ok (.invokevirtual 32, 3) := by decide +kernel
theorem dL_law_287 : decode cL_law 287 = .ok (.if_icmp .eq 460, 3) := by decide +kernel
theorem dL_law_290 : decode cL_law 290 = .ok (.iconst 0, 1) := by decide +kernel
theorem dL_law_291 : decode cL_law 291 = .ok (.ireturn, 1) := by decide +kernel
theorem dL_law_292 : decode cL_law 292 = .ok (.aload_n 1, 1) := by decide +kernel
theorem dL_law_293 : decode cL_law 293 = .ok (.aload_n 0, 1) := by decide +kernel
theorem dL_law_294 : decode cL_law 294 = .ok (.iload_n 3, 1) := by decide +kernel
theorem dL_law_295 : decode cL_law 295 = .ok (.iconst 1, 1) := by decide +kernel
theorem dL_law_296 : decode cL_law 296 = .ok (.iadd, 1) := by decide +kernel
theorem dL_law_297 : decode cL_law 297 = .ok (.iaload, 1) := by decide +kernel
theorem dL_law_298 : decode cL_law 298 = .ok (.aload_n 0, 1) := by decide +kernel
theorem dL_law_299 : decode cL_law 299 = .ok (.iload_n 3, 1) := by decide +kernel
theorem dL_law_300 : decode cL_law 300 = .ok (.iconst 2, 1) := by decide +kernel
theorem dL_law_301 : decode cL_law 301 = .ok (.iadd, 1) := by decide +kernel
theorem dL_law_302 : decode cL_law 302 = .ok (.iaload, 1) := by decide +kernel
theorem dL_law_303 : decode cL_law 303 = .ok (.aload_n 0, 1) := by decide +kernel
theorem dL_law_304 : decode cL_law 304 = .ok (.iload_n 3, 1) := by decide +kernel
theorem dL_law_305 : decode cL_law 305 = .ok (.iconst 3, 1) := by decide +kernel
theorem dL_law_306 : decode cL_law 306 = .ok (.iadd, 1) := by decide +kernel
theorem dL_law_307 : decode cL_law 307 = .ok (.iaload, 1) := by decide +kernel
theorem dL_law_308 : decode cL_law 308 = .ok (.invokevirtual 33, 3) := by decide +kernel
theorem dL_law_311 : decode cL_law 311 = .ok (.aload_n 2, 1) := by decide +kernel
theorem dL_law_312 : decode cL_law 312 = .ok (.aload_n 0, 1) := by decide +kernel
theorem dL_law_313 : decode cL_law 313 = .ok (.iload_n 3, 1) := by decide +kernel
theorem dL_law_314 : decode cL_law 314 = .ok (.iconst 1, 1) := by decide +kernel
theorem dL_law_315 : decode cL_law 315 = .ok (.iadd, 1) := by decide +kernel
theorem dL_law_316 : decode cL_law 316 = .ok (.iaload, 1) := by decide +kernel
theorem dL_law_317 : decode cL_law 317 = .ok (.aload_n 0, 1) := by decide +kernel
theorem dL_law_318 : decode cL_law 318 = .ok (.iload_n 3, 1) := by decide +kernel
theorem dL_law_319 : decode cL_law 319 = .ok (.iconst 2, 1) := by decide +kernel
theorem dL_law_320 : decode cL_law 320 = .ok (.iadd, 1) := by decide +kernel
theorem dL_law_321 : decode cL_law 321 = .ok (.iaload, 1) := by decide +kernel
theorem dL_law_322 : decode cL_law 322 = .ok (.aload_n 0, 1) := by decide +kernel
theorem dL_law_323 : decode cL_law 323 = .ok (.iload_n 3, 1) := by decide +kernel
theorem dL_law_324 : decode cL_law 324 = .ok (.iconst 3, 1) := by decide +kernel
theorem dL_law_325 : decode cL_law 325 = .ok (.iadd, 1) := by decide +kernel
theorem dL_law_326 : decode cL_law 326 = .ok (.iaload, 1) := by decide +kernel
theorem dL_law_327 : decode cL_law 327 = .ok (.invokevirtual 37, 3) := by decide +kernel
theorem dL_law_330 : decode cL_law 330 = .ok (.if_icmp .eq 417, 3) := by decide +kernel
theorem dL_law_333 : decode cL_law 333 = .ok (.iconst 0, 1) := by decide +kernel
theorem dL_law_334 : decode cL_law 334 = .ok (.ireturn, 1) := by decide +kernel
theorem dL_law_335 : decode cL_law 335 = .ok (.aload_n 1, 1) := by decide +kernel
theorem dL_law_336 : decode cL_law 336 = .ok (.aload_n 0, 1) := by decide +kernel
theorem dL_law_337 : decode cL_law 337 = .ok (.iload_n 3, 1) := by decide +kernel
theorem dL_law_338 : decode cL_law 338 = .ok (.iconst 1, 1) := by decide +kernel
theorem dL_law_339 : decode cL_law 339 = .ok (.iadd, 1) := by decide +kernel
theorem dL_law_340 : decode cL_law 340 = .ok (.iaload, 1) := by decide +kernel
theorem dL_law_341 : decode cL_law 341 = .ok (.aload_n 0, 1) := by decide +kernel
theorem dL_law_342 : decode cL_law 342 = .ok (.iload_n 3, 1) := by decide +kernel
theorem dL_law_343 : decode cL_law 343 = .ok (.iconst 2, 1) := by decide +kernel
theorem dL_law_344 : decode cL_law 344 = .ok (.iadd, 1) := by decide +kernel
theorem dL_law_345 : decode cL_law 345 = .ok (.iaload, 1) := by decide +kernel
theorem dL_law_346 : decode cL_law 346 = .ok (.invokevirtual 38, 3) := by decide +kernel
theorem dL_law_349 : decode cL_law 349 = .ok (.aload_n 2, 1) := by decide +kernel
theorem dL_law_350 : decode cL_law 350 = .ok (.aload_n 0, 1) := by decide +kernel
theorem dL_law_351 : decode cL_law 351 = .ok (.iload_n 3, 1) := by decide +kernel
theorem dL_law_352 : decode cL_law 352 = .ok (.iconst 1, 1) := by decide +kernel
theorem dL_law_353 : decode cL_law 353 = .ok (.iadd, 1) := by decide +kernel
theorem dL_law_354 : decode cL_law 354 = .ok (.iaload, 1) := by decide +kernel
theorem dL_law_355 : decode cL_law 355 = .ok (.aload_n 0, 1) := by decide +kernel
theorem dL_law_356 : decode cL_law 356 = .ok (.iload_n 3, 1) := by decide +kernel
theorem dL_law_357 : decode cL_law 357 = .ok (.iconst 2, 1) := by decide +kernel
theorem dL_law_358 : decode cL_law 358 = .ok (.iadd, 1) := by decide +kernel
theorem dL_law_359 : decode cL_law 359 = .ok (.iaload, 1) := by decide +kernel
theorem dL_law_360 : decode cL_law 360 = .ok (.invokevirtual 42, 3) := by decide +kernel
theorem dL_law_363 : decode cL_law 363 = .ok (.if_icmp .eq 384, 3) := by decide +kernel
theorem dL_law_366 : decode cL_law 366 = .ok (.iconst 0, 1) := by decide +kernel
theorem dL_law_367 : decode cL_law 367 = .ok (.ireturn, 1) := by decide +kernel
theorem dL_law_368 : decode cL_law 368 = .ok (.aload_n 1, 1) := by decide +kernel
theorem dL_law_369 : decode cL_law 369 = .ok (.aload_n 0, 1) := by decide +kernel
theorem dL_law_370 : decode cL_law 370 = .ok (.iload_n 3, 1) := by decide +kernel
theorem dL_law_371 : decode cL_law 371 = .ok (.iconst 1, 1) := by decide +kernel
theorem dL_law_372 : decode cL_law 372 = .ok (.iadd, 1) := by decide +kernel
theorem dL_law_373 : decode cL_law 373 = .ok (.iaload, 1) := by decide +kernel
theorem dL_law_374 : decode cL_law 374 = .ok (.aload_n 0, 1) := by decide +kernel
theorem dL_law_375 : decode cL_law 375 = .ok (.iload_n 3, 1) := by decide +kernel
theorem dL_law_376 : decode cL_law 376 = .ok (.iconst 2, 1) := by decide +kernel
theorem dL_law_377 : decode cL_law 377 = .ok (.iadd, 1) := by decide +kernel
theorem dL_law_378 : decode cL_law 378 = .ok (.iaload, 1) := by decide +kernel
theorem dL_law_379 : decode cL_law 379 = .ok (.invokevirtual 43, 3) := by decide +kernel
theorem dL_law_382 : decode cL_law 382 = .ok (.aload_n 2, 1) := by decide +kernel
theorem dL_law_383 : decode cL_law 383 = .ok (.aload_n 0, 1) := by decide +kernel
theorem dL_law_384 : decode cL_law 384 = .ok (.iload_n 3, 1) := by decide +kernel
theorem dL_law_385 : decode cL_law 385 = .ok (.iconst 1, 1) := by decide +kernel
theorem dL_law_386 : decode cL_law 386 = .ok (.iadd, 1) := by decide +kernel
theorem dL_law_387 : decode cL_law 387 = .ok (.iaload, 1) := by decide +kernel
theorem dL_law_388 : decode cL_law 388 = .ok (.aload_n 0, 1) := by decide +kernel
theorem dL_law_389 : decode cL_law 389 = .ok (.iload_n 3, 1) := by decide +kernel
theorem dL_law_390 : decode cL_law 390 = .ok (.iconst 2, 1) := by decide +kernel
theorem dL_law_391 : decode cL_law 391 = .ok (.iadd, 1) := by decide +kernel
theorem dL_law_392 : decode cL_law 392 = .ok (.iaload, 1) := by decide +kernel
theorem dL_law_393 : decode cL_law 393 = .ok (.invokevirtual 46, 3) := by decide +kernel
theorem dL_law_396 : decode cL_law 396 = .ok (.if_icmp .eq 351, 3) := by decide +kernel
theorem dL_law_399 : decode cL_law 399 = .ok (.iconst 0, 1) := by decide +kernel
theorem dL_law_400 : decode cL_law 400 = .ok (.ireturn, 1) := by decide +kernel
theorem dL_law_401 : decode cL_law 401 = .ok (.aload_n 1, 1) := by decide +kernel
theorem dL_law_402 : decode cL_law 402 = .ok (.aload_n 0, 1) := by decide +kernel
theorem dL_law_403 : decode cL_law 403 = .ok (.iload_n 3, 1) := by decide +kernel
theorem dL_law_404 : decode cL_law 404 = .ok (.iconst 1, 1) := by decide +kernel
theorem dL_law_405 : decode cL_law 405 = .ok (.iadd, 1) := by decide +kernel
theorem dL_law_406 : decode cL_law 406 = .ok (.iaload, 1) := by decide +kernel
theorem dL_law_407 : decode cL_law 407 = .ok (.invokevirtual 47, 3) := by decide +kernel
theorem dL_law_410 : decode cL_law 410 = .ok (.aload_n 2, 1) := by decide +kernel
theorem dL_law_411 : decode cL_law 411 = .ok (.aload_n 0, 1) := by decide +kernel
theorem dL_law_412 : decode cL_law 412 = .ok (.iload_n 3, 1) := by decide +kernel
theorem dL_law_413 : decode cL_law 413 = .ok (.iconst 1, 1) := by decide +kernel
theorem dL_law_414 : decode cL_law 414 = .ok (.iadd, 1) := by decide +kernel
theorem dL_law_415 : decode cL_law 415 = .ok (.iaload, 1) := by decide +kernel
theorem dL_law_416 : decode cL_law 416 = .ok (.invokevirtual 51, 3) := by decide +kernel
theorem dL_law_419 : decode cL_law 419 = .ok (.if_icmp .eq 328, 3) := by decide +kernel
theorem dL_law_422 : decode cL_law 422 = .ok (.iconst 0, 1) := by decide +kernel
theorem dL_law_423 : decode cL_law 423 = .ok (.ireturn, 1) := by decide +kernel
theorem dL_law_424 : decode cL_law 424 = .ok (.aload_n 1, 1) := by decide +kernel
theorem dL_law_425 : decode cL_law 425 = .ok (.invokevirtual 52, 3) := by decide +kernel
theorem dL_law_428 : decode cL_law 428 = .ok (.aload_n 2, 1) := by decide +kernel
theorem dL_law_429 : decode cL_law 429 = .ok (.invokevirtual 55, 3) := by decide +kernel
theorem dL_law_432 : decode cL_law 432 = .ok (.if_icmp .eq 315, 3) := by decide +kernel
theorem dL_law_435 : decode cL_law 435 = .ok (.iconst 0, 1) := by decide +kernel
theorem dL_law_436 : decode cL_law 436 = .ok (.ireturn, 1) := by decide +kernel
theorem dL_law_437 : decode cL_law 437 = .ok (.aload_n 1, 1) := by decide +kernel
theorem dL_law_438 : decode cL_law 438 = .ok (.aload_n 0, 1) := by decide +kernel
theorem dL_law_439 : decode cL_law 439 = .ok (.iload_n 3, 1) := by decide +kernel
theorem dL_law_440 : decode cL_law 440 = .ok (.iconst 1, 1) := by decide +kernel
theorem dL_law_441 : decode cL_law 441 = .ok (.iadd, 1) := by decide +kernel
theorem dL_law_442 : decode cL_law 442 = .ok (.iaload, 1) := by decide +kernel
theorem dL_law_443 : decode cL_law 443 = .ok (.i2c, 1) := by decide +kernel
theorem dL_law_444 : decode cL_law 444 = .ok (.invokevirtual 56, 3) := by decide +kernel
theorem dL_law_447 : decode cL_law 447 = .ok (.aload_n 2, 1) := by decide +kernel
theorem dL_law_448 : decode cL_law 448 = .ok (.aload_n 0, 1) := by decide +kernel
theorem dL_law_449 : decode cL_law 449 = .ok (.iload_n 3, 1) := by decide +kernel
theorem dL_law_450 : decode cL_law 450 = .ok (.iconst 1, 1) := by decide +kernel
theorem dL_law_451 : decode cL_law 451 = .ok (.iadd, 1) := by decide +kernel
theorem dL_law_452 : decode cL_law 452 = .ok (.iaload, 1) := by decide +kernel
theorem dL_law_453 : decode cL_law 453 = .ok (.i2c, 1) := by decide +kernel
theorem dL_law_454 : decode cL_law 454 = .ok (.invokevirtual 60, 3) := by decide +kernel
theorem dL_law_457 : decode cL_law 457 = .ok (.if_icmp .eq 290, 3) := by decide +kernel
theorem dL_law_460 : decode cL_law 460 = .ok (.iconst 0, 1) := by decide +kernel
theorem dL_law_461 : decode cL_law 461 = .ok (.ireturn, 1) := by decide +kernel
theorem dL_law_462 : decode cL_law 462 = .ok (.aload_n 1, 1) := by decide +kernel
theorem dL_law_463 : decode cL_law 463 = .ok (.invokevirtual 61, 3) := by decide +kernel
theorem dL_law_466 : decode cL_law 466 = .ok (.aload_n 2, 1) := by decide +kernel
theorem dL_law_467 : decode cL_law 467 = .ok (.invokevirtual 64, 3) := by decide +kernel
theorem dL_law_470 : decode cL_law 470 = .ok (.if_icmp .eq 277, 3) := by decide +kernel
theorem dL_law_473 : decode cL_law 473 = .ok (.iconst 0, 1) := by decide +kernel
theorem dL_law_474 : decode cL_law 474 = .ok (.ireturn, 1) := by decide +kernel
theorem dL_law_475 : decode cL_law 475 = .ok (.aload_n 1, 1) := by decide +kernel
theorem dL_law_476 : decode cL_law 476 = .ok (.invokevirtual 65, 3) := by decide +kernel
theorem dL_law_479 : decode cL_law 479 = .ok (.aload_n 2, 1) := by decide +kernel
theorem dL_law_480 : decode cL_law 480 = .ok (.invokevirtual 68, 3) := by decide +kernel
theorem dL_law_483 : decode cL_law 483 = .ok (.if_icmp .eq 264, 3) := by decide +kernel
theorem dL_law_486 : decode cL_law 486 = .ok (.iconst 0, 1) := by decide +kernel
theorem dL_law_487 : decode cL_law 487 = .ok (.ireturn, 1) := by decide +kernel
theorem dL_law_488 : decode cL_law 488 = .ok (.aload_n 1, 1) := by decide +kernel
theorem dL_law_489 : decode cL_law 489 = .ok (.invokevirtual 69, 3) := by decide +kernel
theorem dL_law_492 : decode cL_law 492 = .ok (.aload_n 2, 1) := by decide +kernel
theorem dL_law_493 : decode cL_law 493 = .ok (.invokevirtual 72, 3) := by decide +kernel
theorem dL_law_496 : decode cL_law 496 = .ok (.if_icmp .eq 251, 3) := by decide +kernel
theorem dL_law_499 : decode cL_law 499 = .ok (.iconst 0, 1) := by decide +kernel
theorem dL_law_500 : decode cL_law 500 = .ok (.ireturn, 1) := by decide +kernel
theorem dL_law_501 : decode cL_law 501 = .ok (.aload_n 1, 1) := by decide +kernel
theorem dL_law_502 : decode cL_law 502 = .ok (.invokevirtual 73, 3) := by decide +kernel
theorem dL_law_505 : decode cL_law 505 = .ok (.aload_n 2, 1) := by decide +kernel
theorem dL_law_506 : decode cL_law 506 = .ok (.invokevirtual 76, 3) := by decide +kernel
theorem dL_law_509 : decode cL_law 509 = .ok (.if_icmp .eq 238, 3) := by decide +kernel
theorem dL_law_512 : decode cL_law 512 = .ok (.iconst 0, 1) := by decide +kernel
theorem dL_law_513 : decode cL_law 513 = .ok (.ireturn, 1) := by decide +kernel
theorem dL_law_514 : decode cL_law 514 = .ok (.aload_n 1, 1) := by decide +kernel
theorem dL_law_515 : decode cL_law 515 = .ok (.aload_n 0, 1) := by decide +kernel
theorem dL_law_516 : decode cL_law 516 = .ok (.iload_n 3, 1) := by decide +kernel
theorem dL_law_517 : decode cL_law 517 = .ok (.iconst 1, 1) := by decide +kernel
theorem dL_law_518 : decode cL_law 518 = .ok (.iadd, 1) := by decide +kernel
theorem dL_law_519 : decode cL_law 519 = .ok (.iaload, 1) := by decide +kernel
theorem dL_law_520 : decode cL_law 520 = .ok (.aload_n 0, 1) := by decide +kernel
theorem dL_law_521 : decode cL_law 521 = .ok (.iload_n 3, 1) := by decide +kernel
theorem dL_law_522 : decode cL_law 522 = .ok (.iconst 2, 1) := by decide +kernel
theorem dL_law_523 : decode cL_law 523 = .ok (.iadd, 1) := by decide +kernel
theorem dL_law_524 : decode cL_law 524 = .ok (.iaload, 1) := by decide +kernel
theorem dL_law_525 : decode cL_law 525 = .ok (.aload_n 0, 1) := by decide +kernel
theorem dL_law_526 : decode cL_law 526 = .ok (.iload_n 3, 1) := by decide +kernel
theorem dL_law_527 : decode cL_law 527 = .ok (.iconst 3, 1) := by decide +kernel
theorem dL_law_528 : decode cL_law 528 = .ok (.iadd, 1) := by decide +kernel
theorem dL_law_529 : decode cL_law 529 = .ok (.iaload, 1) := by decide +kernel
theorem dL_law_530 : decode cL_law 530 = .ok (.invokevirtual 77, 3) := by decide +kernel
theorem dL_law_533 : decode cL_law 533 = .ok (.aload_n 2, 1) := by decide +kernel
theorem dL_law_534 : decode cL_law 534 = .ok (.aload_n 0, 1) := by decide +kernel
theorem dL_law_535 : decode cL_law 535 = .ok (.iload_n 3, 1) := by decide +kernel
theorem dL_law_536 : decode cL_law 536 = .ok (.iconst 1, 1) := by decide +kernel
theorem dL_law_537 : decode cL_law 537 = .ok (.iadd, 1) := by decide +kernel
theorem dL_law_538 : decode cL_law 538 = .ok (.iaload, 1) := by decide +kernel
theorem dL_law_539 : decode cL_law 539 = .ok (.aload_n 0, 1) := by decide +kernel
theorem dL_law_540 : decode cL_law 540 = .ok (.iload_n 3, 1) := by decide +kernel
theorem dL_law_541 : decode cL_law 541 = .ok (.iconst 2, 1) := by decide +kernel
theorem dL_law_542 : decode cL_law 542 = .ok (.iadd, 1) := by decide +kernel
theorem dL_law_543 : decode cL_law 543 = .ok (.iaload, 1) := by decide +kernel
theorem dL_law_544 : decode cL_law 544 = .ok (.aload_n 0, 1) := by decide +kernel
theorem dL_law_545 : decode cL_law 545 = .ok (.iload_n 3, 1) := by decide +kernel
theorem dL_law_546 : decode cL_law 546 = .ok (.iconst 3, 1) := by decide +kernel
theorem dL_law_547 : decode cL_law 547 = .ok (.iadd, 1) := by decide +kernel
theorem dL_law_548 : decode cL_law 548 = .ok (.iaload, 1) := by decide +kernel
theorem dL_law_549 : decode cL_law 549 = .ok (.invokevirtual 80, 3) := by decide +kernel
theorem dL_law_552 : decode cL_law 552 = .ok (.if_icmp .eq 195, 3) := by decide +kernel
theorem dL_law_555 : decode cL_law 555 = .ok (.iconst 0, 1) := by decide +kernel
theorem dL_law_556 : decode cL_law 556 = .ok (.ireturn, 1) := by decide +kernel
theorem dL_law_557 : decode cL_law 557 = .ok (.aload_n 1, 1) := by decide +kernel
theorem dL_law_558 : decode cL_law 558 = .ok (.aload_n 0, 1) := by decide +kernel
theorem dL_law_559 : decode cL_law 559 = .ok (.iload_n 3, 1) := by decide +kernel
theorem dL_law_560 : decode cL_law 560 = .ok (.iconst 1, 1) := by decide +kernel
theorem dL_law_561 : decode cL_law 561 = .ok (.iadd, 1) := by decide +kernel
theorem dL_law_562 : decode cL_law 562 = .ok (.iaload, 1) := by decide +kernel
theorem dL_law_563 : decode cL_law 563 = .ok (.invokevirtual 81, 3) := by decide +kernel
theorem dL_law_566 : decode cL_law 566 = .ok (.aload_n 2, 1) := by decide +kernel
theorem dL_law_567 : decode cL_law 567 = .ok (.aload_n 0, 1) := by decide +kernel
theorem dL_law_568 : decode cL_law 568 = .ok (.iload_n 3, 1) := by decide +kernel
theorem dL_law_569 : decode cL_law 569 = .ok (.iconst 1, 1) := by decide +kernel
theorem dL_law_570 : decode cL_law 570 = .ok (.iadd, 1) := by decide +kernel
theorem dL_law_571 : decode cL_law 571 = .ok (.iaload, 1) := by decide +kernel
theorem dL_law_572 : decode cL_law 572 = .ok (.invokevirtual 84, 3) := by decide +kernel
theorem dL_law_575 : decode cL_law 575 = .ok (.if_icmp .eq 172, 3) := by decide +kernel
theorem dL_law_578 : decode cL_law 578 = .ok (.iconst 0, 1) := by decide +kernel
theorem dL_law_579 : decode cL_law 579 = .ok (.ireturn, 1) := by decide +kernel
theorem dL_law_580 : decode cL_law 580 = .ok (.aload_n 1, 1) := by decide +kernel
theorem dL_law_581 : decode cL_law 581 = .ok (.aload_n 0, 1) := by decide +kernel
theorem dL_law_582 : decode cL_law 582 = .ok (.iload_n 3, 1) := by decide +kernel
theorem dL_law_583 : decode cL_law 583 = .ok (.iconst 1, 1) := by decide +kernel
theorem dL_law_584 : decode cL_law 584 = .ok (.iadd, 1) := by decide +kernel
theorem dL_law_585 : decode cL_law 585 = .ok (.iaload, 1) := by decide +kernel
theorem dL_law_586 : decode cL_law 586 = .ok (.invokevirtual 85, 3) := by decide +kernel
theorem dL_law_589 : decode cL_law 589 = .ok (.aload_n 2, 1) := by decide +kernel
theorem dL_law_590 : decode cL_law 590 = .ok (.aload_n 0, 1) := by decide +kernel
theorem dL_law_591 : decode cL_law 591 = .ok (.iload_n 3, 1) := by decide +kernel
theorem dL_law_592 : decode cL_law 592 = .ok (.iconst 1, 1) := by decide +kernel
theorem dL_law_593 : decode cL_law 593 = .ok (.iadd, 1) := by decide +kernel
theorem dL_law_594 : decode cL_law 594 = .ok (.iaload, 1) := by decide +kernel
theorem dL_law_595 : decode cL_law 595 = .ok (.invokevirtual 88, 3) := by decide +kernel
theorem dL_law_598 : decode cL_law 598 = .ok (.if_icmp .eq 149, 3) := by decide +kernel
theorem dL_law_601 : decode cL_law 601 = .ok (.iconst 0, 1) := by decide +kernel
theorem dL_law_602 : decode cL_law 602 = .ok (.ireturn, 1) := by decide +kernel
theorem dL_law_603 : decode cL_law 603 = .ok (.aload_n 1, 1) := by decide +kernel
theorem dL_law_604 : decode cL_law 604 = .ok (.aload_n 0, 1) := by decide +kernel
theorem dL_law_605 : decode cL_law 605 = .ok (.iload_n 3, 1) := by decide +kernel
theorem dL_law_606 : decode cL_law 606 = .ok (.iconst 1, 1) := by decide +kernel
theorem dL_law_607 : decode cL_law 607 = .ok (.iadd, 1) := by decide +kernel
theorem dL_law_608 : decode cL_law 608 = .ok (.iaload, 1) := by decide +kernel
theorem dL_law_609 : decode cL_law 609 = .ok (.invokevirtual 89, 3) := by decide +kernel
theorem dL_law_612 : decode cL_law 612 = .ok (.aload_n 2, 1) := by decide +kernel
theorem dL_law_613 : decode cL_law 613 = .ok (.aload_n 0, 1) := by decide +kernel
theorem dL_law_614 : decode cL_law 614 = .ok (.iload_n 3, 1) := by decide +kernel
theorem dL_law_615 : decode cL_law 615 = .ok (.iconst 1, 1) := by decide +kernel
theorem dL_law_616 : decode cL_law 616 = .ok (.iadd, 1) := by decide +kernel
theorem dL_law_617 : decode cL_law 617 = .ok (.iaload, 1) := by decide +kernel
theorem dL_law_618 : decode cL_law 618 = .ok (.invokevirtual 92, 3) := by decide +kernel
theorem dL_law_621 : decode cL_law 621 = .ok (.if_icmp .eq 126, 3) := by decide +kernel
theorem dL_law_624 : decode cL_law 624 = .ok (.iconst 0, 1) := by decide +kernel
theorem dL_law_625 : decode cL_law 625 = .ok (.ireturn, 1) := by decide +kernel
theorem dL_law_626 : decode cL_law 626 = .ok (.aload_n 1, 1) := by decide +kernel
theorem dL_law_627 : decode cL_law 627 = .ok (.aload_n 0, 1) := by decide +kernel
theorem dL_law_628 : decode cL_law 628 = .ok (.iload_n 3, 1) := by decide +kernel
theorem dL_law_629 : decode cL_law 629 = .ok (.iconst 1, 1) := by decide +kernel
theorem dL_law_630 : decode cL_law 630 = .ok (.iadd, 1) := by decide +kernel
theorem dL_law_631 : decode cL_law 631 = .ok (.iaload, 1) := by decide +kernel
theorem dL_law_632 : decode cL_law 632 = .ok (.aload_n 0, 1) := by decide +kernel
theorem dL_law_633 : decode cL_law 633 = .ok (.iload_n 3, 1) := by decide +kernel
theorem dL_law_634 : decode cL_law 634 = .ok (.iconst 2, 1) := by decide +kernel
theorem dL_law_635 : decode cL_law 635 = .ok (.iadd, 1) := by decide +kernel
theorem dL_law_636 : decode cL_law 636 = .ok (.iaload, 1) := by decide +kernel
theorem dL_law_637 : decode cL_law 637 = .ok (.ifCond .eq 7, 3) := by decide +kernel
theorem dL_law_640 : decode cL_law 640 = .ok (.iconst 1, 1) := by decide +kernel
theorem dL_law_641 : decode cL_law 641 = .ok (.goto 4, 3) := by decide +kernel
theorem dL_law_644 : decode cL_law 644 = .ok (.iconst 0, 1) := by decide +kernel
theorem dL_law_645 : decode cL_law 645 = .ok (.invokevirtual 93, 3) := by decide +kernel
theorem dL_law_648 : decode cL_law 648 = .ok (.aload_n 2, 1) := by decide +kernel
theorem dL_law_649 : decode cL_law 649 = .ok (.aload_n 0, 1) := by decide +kernel
theorem dL_law_650 : decode cL_law 650 = .ok (.iload_n 3, 1) := by decide +kernel
theorem dL_law_651 : decode cL_law 651 = .ok (.iconst 1, 1) := by decide +kernel
theorem dL_law_652 : decode cL_law 652 = .ok (.iadd, 1) := by decide +kernel
theorem dL_law_653 : decode cL_law 653 = .ok (.iaload, 1) := by decide +kernel
theorem dL_law_654 : decode cL_law 654 = .ok (.aload_n 0, 1) := by decide +kernel
theorem dL_law_655 : decode cL_law 655 = .ok (.iload_n 3, 1) := by decide +kernel
theorem dL_law_656 : decode cL_law 656 = .ok (.iconst 2, 1) := by decide +kernel
theorem dL_law_657 : decode cL_law 657 = .ok (.iadd, 1) := by decide +kernel
theorem dL_law_658 : decode cL_law 658 = .ok (.iaload, 1) := by decide +kernel
theorem dL_law_659 : decode cL_law 659 = .ok (.ifCond .eq 7, 3) := by decide +kernel
theorem dL_law_662 : decode cL_law 662 = .ok (.iconst 1, 1) := by decide +kernel
theorem dL_law_663 : decode cL_law 663 = .ok (.goto 4, 3) := by decide +kernel
theorem dL_law_666 : decode cL_law 666 = .ok (.iconst 0, 1) := by decide +kernel
theorem dL_law_667 : decode cL_law 667 = .ok (.invokevirtual 97, 3) := by decide +kernel
theorem dL_law_670 : decode cL_law 670 = .ok (.if_icmp .eq 77, 3) := by decide +kernel
theorem dL_law_673 : decode cL_law 673 = .ok (.iconst 0, 1) := by decide +kernel
theorem dL_law_674 : decode cL_law 674 = .ok (.ireturn, 1) := by decide +kernel
theorem dL_law_675 : decode cL_law 675 = .ok (.aload_n 1, 1) := by decide +kernel
theorem dL_law_676 : decode cL_law 676 = .ok (.aload_n 0, 1) := by decide +kernel
theorem dL_law_677 : decode cL_law 677 = .ok (.iload_n 3, 1) := by decide +kernel
theorem dL_law_678 : decode cL_law 678 = .ok (.iconst 1, 1) := by decide +kernel
theorem dL_law_679 : decode cL_law 679 = .ok (.iadd, 1) := by decide +kernel
theorem dL_law_680 : decode cL_law 680 = .ok (.iaload, 1) := by decide +kernel
theorem dL_law_681 : decode cL_law 681 = .ok (.aload_n 0, 1) := by decide +kernel
theorem dL_law_682 : decode cL_law 682 = .ok (.iload_n 3, 1) := by decide +kernel
theorem dL_law_683 : decode cL_law 683 = .ok (.iconst 2, 1) := by decide +kernel
theorem dL_law_684 : decode cL_law 684 = .ok (.iadd, 1) := by decide +kernel
theorem dL_law_685 : decode cL_law 685 = .ok (.iaload, 1) := by decide +kernel
theorem dL_law_686 : decode cL_law 686 = .ok (.ifCond .eq 7, 3) := by decide +kernel
theorem dL_law_689 : decode cL_law 689 = .ok (.iconst 1, 1) := by decide +kernel
theorem dL_law_690 : decode cL_law 690 = .ok (.goto 4, 3) := by decide +kernel
theorem dL_law_693 : decode cL_law 693 = .ok (.iconst 0, 1) := by decide +kernel
theorem dL_law_694 : decode cL_law 694 = .ok (.invokevirtual 98, 3) := by decide +kernel
theorem dL_law_697 : decode cL_law 697 = .ok (.aload_n 2, 1) := by decide +kernel
theorem dL_law_698 : decode cL_law 698 = .ok (.aload_n 0, 1) := by decide +kernel
theorem dL_law_699 : decode cL_law 699 = .ok (.iload_n 3, 1) := by decide +kernel
theorem dL_law_700 : decode cL_law 700 = .ok (.iconst 1, 1) := by decide +kernel
theorem dL_law_701 : decode cL_law 701 = .ok (.iadd, 1) := by decide +kernel
theorem dL_law_702 : decode cL_law 702 = .ok (.iaload, 1) := by decide +kernel
theorem dL_law_703 : decode cL_law 703 = .ok (.aload_n 0, 1) := by decide +kernel
theorem dL_law_704 : decode cL_law 704 = .ok (.iload_n 3, 1) := by decide +kernel
theorem dL_law_705 : decode cL_law 705 = .ok (.iconst 2, 1) := by decide +kernel
theorem dL_law_706 : decode cL_law 706 = .ok (.iadd, 1) := by decide +kernel
theorem dL_law_707 : decode cL_law 707 = .ok (.iaload, 1) := by decide +kernel
theorem dL_law_708 : decode cL_law 708 = .ok (.ifCond .eq 7, 3) := by decide +kernel
theorem dL_law_711 : decode cL_law 711 = .ok (.iconst 1, 1) := by decide +kernel
theorem dL_law_712 : decode cL_law 712 = .ok (.goto 4, 3) := by decide +kernel
theorem dL_law_715 : decode cL_law 715 = .ok (.iconst 0, 1) := by decide +kernel
theorem dL_law_716 : decode cL_law 716 = .ok (.invokevirtual 101, 3) := by decide +kernel
theorem dL_law_719 : decode cL_law 719 = .ok (.if_icmp .eq 28, 3) := by decide +kernel
theorem dL_law_722 : decode cL_law 722 = .ok (.iconst 0, 1) := by decide +kernel
theorem dL_law_723 : decode cL_law 723 = .ok (.ireturn, 1) := by decide +kernel
theorem dL_law_724 : decode cL_law 724 = .ok (.aload_n 1, 1) := by decide +kernel
theorem dL_law_725 : decode cL_law 725 = .ok (.aload_n 0, 1) := by decide +kernel
theorem dL_law_726 : decode cL_law 726 = .ok (.iload_n 3, 1) := by decide +kernel
theorem dL_law_727 : decode cL_law 727 = .ok (.iconst 1, 1) := by decide +kernel
theorem dL_law_728 : decode cL_law 728 = .ok (.iadd, 1) := by decide +kernel
theorem dL_law_729 : decode cL_law 729 = .ok (.iaload, 1) := by decide +kernel
theorem dL_law_730 : decode cL_law 730 = .ok (.invokevirtual 102, 3) := by decide +kernel
theorem dL_law_733 : decode cL_law 733 = .ok (.aload_n 2, 1) := by decide +kernel
theorem dL_law_734 : decode cL_law 734 = .ok (.aload_n 0, 1) := by decide +kernel
theorem dL_law_735 : decode cL_law 735 = .ok (.iload_n 3, 1) := by decide +kernel
theorem dL_law_736 : decode cL_law 736 = .ok (.iconst 1, 1) := by decide +kernel
theorem dL_law_737 : decode cL_law 737 = .ok (.iadd, 1) := by decide +kernel
theorem dL_law_738 : decode cL_law 738 = .ok (.iaload, 1) := by decide +kernel
theorem dL_law_739 : decode cL_law 739 = .ok (.invokevirtual 105, 3) := by decide +kernel
theorem dL_law_742 : decode cL_law 742 = .ok (.if_icmp .eq 5, 3) := by decide +kernel
theorem dL_law_745 : decode cL_law 745 = .ok (.iconst 0, 1) := by decide +kernel
theorem dL_law_746 : decode cL_law 746 = .ok (.ireturn, 1) := by decide +kernel
theorem dL_law_747 : decode cL_law 747 = .ok (.iinc 3 4, 3) := by decide +kernel
theorem dL_law_750 : decode cL_law 750 = .ok (.goto (-732), 3) := by decide +kernel
theorem dL_law_753 : decode cL_law 753 = .ok (.iconst 1, 1) := by decide +kernel
theorem dL_law_754 : decode cL_law 754 = .ok (.ireturn, 1) := by decide +kernel
end
section
/-! THE PURE LAYER. A world is a store of numbered cells, the cell k of it lies at the address h0 + k. 'PW' says of a place in a method: from here the method comes to its end, with Q of its answer and of the store then. -/
abbrev PC : Type := (FieldType × Nat × (Nat → Int32)) ⊕ (FieldType × Nat × (Nat → Option Nat)) ⊕ (Nat × List Value)
abbrev pI (ty : FieldType) (n : Nat) (f : Nat → Int32) : PC := .inl (ty, n, f)
abbrev pR (ty : FieldType) (n : Nat) (f : Nat → Option Nat) : PC := .inr (.inl (ty, n, f))
abbrev pO (ci : Nat) (fs : List Value) : PC := .inr (.inr (ci, fs))
abbrev Sto : Type := Nat → PC
abbrev Mth : Type := MethodName × ByteArray × Nat × Option FieldType × Nat
def pw_tv (h0 : Nat) : Value → Value
  | .ref k => .ref (h0 + k)
  | v => v
theorem pw_tv_cat (h0 : Nat) (v : Value) : (pw_tv h0 v).category = v.category := by cases v <;> rfl
def pw_tr (h0 : Nat) (aC : FieldType → ClassId) : PC → va_E
  | .inl (ty, n, f) => .inl (aC ty, n, .inl f)
  | .inr (.inl (ty, n, f)) => .inl (aC ty, n, .inr (.inr (.inr (.inr (fun j => (f j).map (fun k => h0 + k))))))
  | .inr (.inr (ci, fs)) => .inr (ci, fs.map (pw_tv h0))
def pw_wl (h0 : Nat) (aC : FieldType → ClassId) (n : Nat) (σ : Sto) : va_W := (List.range n).map (fun k => (h0 + k, pw_tr h0 aC (σ k)))
theorem pw_wl_at {h0 : Nat} {aC : FieldType → ClassId} {n : Nat} {σ : Sto} {k : Nat} (h : k < n) : (pw_wl h0 aC n σ)[k]? = some (h0 + k, pw_tr h0 aC (σ k)) := by
  simp [pw_wl, h]
theorem pw_wl_in {h0 : Nat} {aC : FieldType → ClassId} {n : Nat} {σ : Sto} {k : Nat} {q : Nat × va_E} (h : (pw_wl h0 aC n σ)[k]? = some q) : k < n ∧ q = (h0 + k, pw_tr h0 aC (σ k)) := by
  have hl := (List.getElem?_eq_some_iff.mp h).1
  have hk : k < n := by simpa [pw_wl] using hl
  rw [pw_wl_at hk] at h
  exact ⟨hk, (Option.some.inj h).symm⟩
theorem pw_wl_len (h0 : Nat) (aC : FieldType → ClassId) (n : Nat) (σ : Sto) : (pw_wl h0 aC n σ).length = n := by simp [pw_wl]
theorem pw_wl_set {h0 : Nat} {aC : FieldType → ClassId} {n : Nat} {σ : Sto} {k : Nat} (c : PC) : (pw_wl h0 aC n σ).set k (h0 + k, pw_tr h0 aC c) = pw_wl h0 aC n (va_up σ k c) := by
  apply List.ext_getElem?
  intro j
  rw [List.getElem?_set]
  by_cases hj : k = j
  · subst hj
    rw [if_pos rfl, pw_wl_len]
    by_cases hn : k < n
    · rw [if_pos hn, pw_wl_at hn]
      simp [va_up]
    · rw [if_neg hn, List.getElem?_eq_none (by rw [pw_wl_len]; omega)]
  · rw [if_neg hj]
    by_cases hn : j < n
    · rw [pw_wl_at hn, pw_wl_at hn]
      simp [va_up, Ne.symm hj]
    · rw [List.getElem?_eq_none (by rw [pw_wl_len]; omega), List.getElem?_eq_none (by rw [pw_wl_len]; omega)]
theorem pw_wl_congr {h0 : Nat} {aC : FieldType → ClassId} {n : Nat} {σ τ : Sto} (h : ∀ k, k < n → σ k = τ k) : pw_wl h0 aC n σ = pw_wl h0 aC n τ := by
  apply List.map_congr_left
  intro k hk
  rw [h k (List.mem_range.mp hk)]
theorem pw_wl_push {h0 : Nat} {aC : FieldType → ClassId} {n : Nat} {σ : Sto} (c : PC) : pw_wl h0 aC n σ ++ [(h0 + n, pw_tr h0 aC c)] = pw_wl h0 aC (n + 1) (va_up σ n c) := by
  have h : pw_wl h0 aC n σ = pw_wl h0 aC n (va_up σ n c) := pw_wl_congr fun k hk => by
    rw [va_up, if_neg (Nat.ne_of_lt hk)]
  rw [h]
  simp [pw_wl, List.range_succ, va_up]
theorem pw_D (h0 : Nat) (aC : FieldType → ClassId) (n : Nat) (σ : Sto) : va_D (fun q => h0 ≤ q) (pw_wl h0 aC n σ) := by
  refine ⟨fun i j p q hi hj h => ?_, fun k q hk => ?_⟩
  · obtain ⟨-, rfl⟩ := pw_wl_in hi
    obtain ⟨-, rfl⟩ := pw_wl_in hj
    have h' : h0 + i = h0 + j := h
    omega
  · obtain ⟨-, rfl⟩ := pw_wl_in hk
    exact Nat.le_add_right _ _
/-- the heap holds the store: its n cells are the last ones -/
def pw_W (D : va_G) (aC : FieldType → ClassId) (h0 n : Nat) (σ : Sto) (H : Heap) : Prop := va_P D vwCl (pw_wl h0 aC n σ) H ∧ H.size = h0 + n
def pw_tys (aC : FieldType → ClassId) : List (ClassId × FieldType) := [(aC .int, .int), (aC .char, .char), (aC (.array .int), .array .int), (aC (.object "SpinStrips$Strip"), .object "SpinStrips$Strip")]
/-- the tables' words: those that any later table keeps; those on nest mates; the array classes -/
def lw_w : List Cond := lw_tbl.filter goodWord
def pw_nest : Cond → Bool
  | .fieldLinkNest .. => true
  | .methodLinkNest .. => true
  | _ => false
def lw_x : List Cond := lw_tbl.filter pw_nest
theorem lw_w_at {w : Cond} {i : Nat} (h : lw_tbl[i]? = some w) (hg : goodWord w = true) : w ∈ lw_w := List.mem_filter.mpr ⟨List.mem_of_getElem? h, hg⟩
theorem lw_x_at {w : Cond} {i : Nat} (h : lw_tbl[i]? = some w) (hg : pw_nest w = true) : w ∈ lw_x := List.mem_filter.mpr ⟨List.mem_of_getElem? h, hg⟩
def pw_AO (U : State) : Prop := ∀ ty : FieldType, ty = .array .int ∨ ty = .object "SpinStrips$Strip" → (Cond.arrayOver ty).before #[] U = true
theorem pw_AO.moved {u U : State} (hvm : u.vm.Alike U.vm) (h : pw_AO u) : pw_AO U := by
  intro ty hty
  have key : ∀ (ty : FieldType) (nm : String), ((Cond.arrayOver ty).before #[] U = (((U.vm.findClass nm).bind fun comp => (U.vm.classes.findIdx? fun x => match x.kind with | .array component _ => component == comp | _ => false).bind fun c => (U.vm.classes[c]?).map fun k => match k.kind with | .array _ t => decide (t = ty) && decide (U.vm.findClass ("[" ++ ty.toString) = some c) | _ => false) == some true)) → ((Cond.arrayOver ty).before #[] u = (((u.vm.findClass nm).bind fun comp => (u.vm.classes.findIdx? fun x => match x.kind with | .array component _ => component == comp | _ => false).bind fun c => (u.vm.classes[c]?).map fun k => match k.kind with | .array _ t => decide (t = ty) && decide (u.vm.findClass ("[" ++ ty.toString) = some c) | _ => false) == some true)) → (Cond.arrayOver ty).before #[] u = true → (Cond.arrayOver ty).before #[] U = true := by
    intro ty nm e1 e2 hu
    rw [e2] at hu
    rw [e1]
    simp only [beq_iff_eq, Option.bind_eq_some_iff, Option.map_eq_some_iff] at hu ⊢
    obtain ⟨comp, h1, c, h2, k, h3, h4⟩ := hu
    obtain ⟨k', hk', he⟩ := hvm.2.2 _ _ h3
    refine ⟨comp, by rw [hvm.findClass]; exact h1, c, by rw [hvm.findIdx?_eq _ (fun _ => rfl)]; exact h2, k', hk', ?_⟩
    have hkk : k'.kind = k.kind := by rw [he]
    rw [hkk, hvm.findClass]
    exact h4
  rcases hty with rfl | rfl
  · exact key _ (FieldType.array .int).toString rfl rfl (h _ (Or.inl rfl))
  · exact key _ "SpinStrips$Strip" rfl rfl (h _ (Or.inr rfl))
def pw_K (D : va_G) (aC : FieldType → ClassId) (U : State) : Prop := va_K D vwCl (pw_tys aC) U ∧ (∀ w ∈ lw_x, va_Nw w U) ∧ pw_AO U
theorem pw_x_warm {s U : State} (hW : s.WarmedH U.vm) (h : ∀ w ∈ lw_x, va_Nw w s) : ∀ w ∈ lw_x, va_Nw w U := by
  intro w hw
  have h1 := h w hw
  have h2 := (List.mem_filter.mp hw).2
  cases w <;> first | exact va_Nw.warmF hW h1 | exact va_Nw.warmM hW h1 | cases h2
theorem pw_x_same {u U : State} (hvm : u.vm = U.vm) (h : ∀ w ∈ lw_x, va_Nw w u) : ∀ w ∈ lw_x, va_Nw w U := by
  intro w hw
  have h1 := h w hw
  have h2 := (List.mem_filter.mp hw).2
  cases w <;> first | exact va_Nw.same rfl hvm h1 | cases h2
theorem pw_K.warm {D : va_G} {aC : FieldType → ClassId} {s U : State} (hW : s.WarmedH U.vm) (h : pw_K D aC s) : pw_K D aC U := ⟨va_K.moved hW.alike h.1, pw_x_warm hW h.2.1, h.2.2.moved hW.alike⟩
theorem pw_K.same {D : va_G} {aC : FieldType → ClassId} {u U : State} (hvm : u.vm = U.vm) (h : pw_K D aC u) : pw_K D aC U := by
  have hal : u.vm.Alike U.vm := by rw [hvm]; exact Vm.Alike.refl _
  exact ⟨va_K.moved hal h.1, pw_x_same hvm h.2.1, h.2.2.moved hal⟩
def pw_C (p : Program) (s : State) (m : MethodId) (args : Array Value) (meth : Method) (c : Code) (M : Mth) (D : va_G) (aC : FieldType → ClassId) : Prop :=
  p.tables.exec = Jvm.exec ∧ c.code = M.2.1 ∧ c.maxLocals = M.2.2.1 ∧ s.vm.findClass M.1.cls = some m.cls ∧ (∀ w ∈ lw_w, w.before args s = true) ∧ pw_K D aC s ∧ meth.locks = false ∧ meth.sig.returnType = M.2.2.2.1 ∧ meth.name = M.1.name
def pw_L (h0 : Nat) (L : List (Option Value)) (ls : Array Slot) (nL : Nat) : Prop := ls.size = nL ∧ lv_wf ls ∧ ∀ (i : Nat) (v : Value), L[i]? = some (some v) → ls[i]? = some (.val (pw_tv h0 v))
def pw_rm (d mc ms : Nat) : Room := { frames := d, cells := mc, slots := ms, locals := 37 * d }
def pw_Q (D : va_G) (aC : FieldType → ClassId) (h0 mc : Nat) (Q : Option Value → Sto → Prop) : Array Value → State → Outcome → State → Prop := fun _ st o t =>
  (∃ (v : Option Value) (n : Nat) (σ : Sto), o = .returned (v.map (pw_tv h0)) ∧ Q v σ ∧ pw_W D aC h0 n σ t.heap ∧ st.heap.size + mc = h0 + n) ∧ va_F (fun q => h0 ≤ q) st t
def PW (M : Mth) (mc ms : Nat) (Q : Option Value → Sto → Prop) (pc : Nat) (L : List (Option Value)) (S : List Value) (n : Nat) (σ : Sto) (cs sl : Nat) : Prop :=
  ∀ (p : Program) (l : Launch) (e : Env) (s : State) (m : MethodId) (args : Array Value) (below : List Frame) (meth : Method) (c : Code) (D : va_G) (aC : FieldType → ClassId) (h0 : Nat) (H : Heap) (locs : List Loc) (ls : Array Slot),
    pw_C p s m args meth c M D aC → h0 ≤ s.heap.size → s.heap.size + cs = h0 + n → pw_W D aC h0 n σ H → va_S (fun q => h0 ≤ q) s.heap H locs → pw_L h0 L ls M.2.2.1 →
    W p l e (pw_rm M.2.2.2.2 mc ms) s m args below meth c H locs cs sl (MQ below (pw_Q D aC h0 mc Q) args s mc ms (fun q => h0 ≤ q)) (F0 m pc ls (S.map (pw_tv h0)))
/-- the contract of a method M: called with As in the store σ of n cells it ends with Q, having made mc cells of ms places -/
def CP (M : Mth) (mc ms : Nat) (As : List Value) (n : Nat) (σ : Sto) (Q : Option Value → Sto → Prop) : Prop :=
  ∀ (l : Launch) (D : va_G) (aC : FieldType → ClassId) (h0 : Nat), Met l M.1 (Cond.code M.1 M.2.1 M.2.2.1 M.2.2.2.1 :: lw_w) (pw_rm M.2.2.2.2 mc ms) (va_Pc (As.map (pw_tv h0)) (fun U => pw_W D aC h0 n σ U.heap ∧ pw_K D aC U)) (pw_Q D aC h0 mc Q) mc ms (fun q => h0 ≤ q)
/-- the locals at a method's entry -/
def pw_ent : List Value → Nat → List (Option Value)
  | [], n => List.replicate n none
  | .long x :: vs, n => some (.long x) :: none :: pw_ent vs (n - 2)
  | .double x :: vs, n => some (.double x) :: none :: pw_ent vs (n - 2)
  | v :: vs, n => some v :: pw_ent vs (n - 1)
theorem pw_ent_in (h0 : Nat) : ∀ (vs : List Value) (n k i : Nat) (v : Value), (pw_ent vs n)[i]? = some (some v) → (k + i, pw_tv h0 v) ∈ lv_args k (vs.map (pw_tv h0)) := by
  intro vs
  induction vs with
  | nil =>
    intro n k i v h
    simp [pw_ent, List.getElem?_replicate] at h
  | cons w vs ih =>
    intro n k i v h
    have two : ∀ x : Value, x.category = 2 → (some x :: none :: pw_ent vs (n - 2))[i]? = some (some v) → (k + i, pw_tv h0 v) ∈ lv_args k ((x :: vs).map (pw_tv h0)) := by
      intro x hx h
      rw [List.map_cons, lv_args, pw_tv_cat, if_pos hx]
      match i, h with
      | 0, h => cases h; exact List.mem_cons_self
      | 1, h => cases h
      | i + 2, h =>
        refine List.mem_cons_of_mem _ ?_
        rw [show k + (i + 2) = (k + 2) + i by omega]
        exact ih (n - 2) (k + 2) i v h
    have one : ∀ x : Value, x.category = 1 → (some x :: pw_ent vs (n - 1))[i]? = some (some v) → (k + i, pw_tv h0 v) ∈ lv_args k ((x :: vs).map (pw_tv h0)) := by
      intro x hx h
      rw [List.map_cons, lv_args, pw_tv_cat, if_neg (by omega)]
      match i, h with
      | 0, h => cases h; exact List.mem_cons_self
      | i + 1, h =>
        refine List.mem_cons_of_mem _ ?_
        rw [show k + (i + 1) = (k + 1) + i by omega]
        exact ih (n - 1) (k + 1) i v h
    cases w with
    | long x => exact two _ rfl h
    | double x => exact two _ rfl h
    | int x => exact one _ rfl h
    | float x => exact one _ rfl h
    | null => exact one _ rfl h
    | ref x => exact one _ rfl h
    | retAddr x => exact one _ rfl h
theorem pw_sl_len (h0 : Nat) (vs : List Value) : (lg_sl (vs.map (pw_tv h0))).length = (lg_sl vs).length := by
  induction vs with
  | nil => rfl
  | cons v vs ih =>
    have e : ∀ (x : Value) (xs : List Value), lg_sl (x :: xs) = (if x.category = 2 then [.val x, .second] else [.val x]) ++ lg_sl xs := fun x xs => by simp [lg_sl]
    rw [List.map_cons, e, e, List.length_append, List.length_append, ih, pw_tv_cat]
    split <;> rfl
theorem CP_of {M : Mth} {mc ms : Nat} {As : List Value} {n : Nat} {σ : Sto} {Q : Option Value → Sto → Prop} (hy : plainName M.1.cls = true) (hn : (lg_sl As).length ≤ M.2.2.1) (k : PW M mc ms Q 0 (pw_ent As M.2.2.1) [] n σ 0 0) : CP M mc ms As n σ Q := by
  intro l D aC h0
  refine Met.ofW (cc := M.2.1) (maxL := M.2.2.1) (ret := M.2.2.2.1) hy rfl ?_
  intro p e s m args below meth c s₁ B hml hv
  obtain ⟨rfl, hW, hK⟩ := hv
  have hts := atoms_spec (ws := Cond.code M.1 M.2.1 M.2.2.1 M.2.2.2.1 :: lw_w) B.pre
  have hsz : s.heap.size = h0 + n := hW.2
  have hl := lv_entry (As.map (pw_tv h0)) (n := M.2.2.1) (by rw [pw_sl_len]; exact hn)
  rw [lg_entry_eq]
  refine k p l e s m _ below meth c D aC h0 s.heap [] _ ⟨B.exec, B.bytes, hml, findClass_of_methodNamed B.named, fun w hw => hts w (List.mem_cons_of_mem _ hw), hK, B.notSynchronized, B.returns, (name_of_methodNamed B.named B.method).1⟩ (by omega) (by omega) hW va_S.rf ⟨hl.1, hl.2.1, fun i v hi => ?_⟩
  have h2 := pw_ent_in h0 As M.2.2.1 0 i v hi
  rw [Nat.zero_add] at h2
  exact hl.2.2 _ h2
/-- storing into a local -/
def pw_clr : Option Value → Option Value
  | some (.long _) => none
  | some (.double _) => none
  | x => x
def pw_cl1 : List (Option Value) → Nat → List (Option Value)
  | x :: l, 1 => pw_clr x :: l
  | x :: l, i + 2 => x :: pw_cl1 l (i + 1)
  | l, _ => l
def pw_st1 (L : List (Option Value)) (i : Nat) (v : Value) : List (Option Value) := (pw_cl1 L i).set i (some v)
def pw_st2 (L : List (Option Value)) (i : Nat) (v : Value) : List (Option Value) := ((pw_cl1 L i).set (i + 1) none).set i (some v)
theorem pw_clr_some {x : Option Value} {v : Value} (h : pw_clr x = some v) : x = some v ∧ ¬ v.category = 2 := by
  cases x with
  | none => cases h
  | some w => cases w <;> first | cases h; done | (cases h; exact ⟨rfl, by simp [Value.category]⟩)
theorem pw_cl1_at : ∀ (L : List (Option Value)) (i j : Nat) (w : Value), (pw_cl1 L i)[j]? = some (some w) → L[j]? = some (some w) ∧ ¬ (j + 1 = i ∧ w.category = 2)
  | [], i, j, w, h => by simp [pw_cl1] at h
  | x :: l, 0, j, w, h => ⟨h, by omega⟩
  | x :: l, 1, j, w, h => by
    cases j with
    | zero =>
      simp only [pw_cl1, List.getElem?_cons_zero, Option.some.injEq] at h
      obtain ⟨a, b⟩ := pw_clr_some h
      exact ⟨by rw [a]; rfl, fun q => b q.2⟩
    | succ j => exact ⟨h, by omega⟩
  | x :: l, i + 2, j, w, h => by
    cases j with
    | zero => exact ⟨h, by omega⟩
    | succ j =>
      obtain ⟨a, b⟩ := pw_cl1_at l (i + 1) j w h
      exact ⟨a, fun q => b ⟨by omega, q.2⟩⟩
theorem pw_st1_at {L : List (Option Value)} {i j : Nat} {v w : Value} (h : (pw_st1 L i v)[j]? = some (some w)) : (j = i ∧ w = v) ∨ (j ≠ i ∧ L[j]? = some (some w) ∧ ¬ (j + 1 = i ∧ w.category = 2)) := by
  unfold pw_st1 at h
  rw [List.getElem?_set] at h
  by_cases e : i = j
  · rw [if_pos e] at h
    split at h
    · cases h; exact Or.inl ⟨e.symm, rfl⟩
    · cases h
  · rw [if_neg e] at h
    obtain ⟨a, b⟩ := pw_cl1_at L i j w h
    exact Or.inr ⟨Ne.symm e, a, b⟩
theorem pw_st2_at {L : List (Option Value)} {i j : Nat} {v w : Value} (h : (pw_st2 L i v)[j]? = some (some w)) : (j = i ∧ w = v) ∨ (j ≠ i ∧ j ≠ i + 1 ∧ L[j]? = some (some w) ∧ ¬ (j + 1 = i ∧ w.category = 2)) := by
  unfold pw_st2 at h
  rw [List.getElem?_set] at h
  by_cases e : i = j
  · rw [if_pos e] at h
    split at h
    · cases h; exact Or.inl ⟨e.symm, rfl⟩
    · cases h
  · rw [if_neg e, List.getElem?_set] at h
    by_cases e1 : i + 1 = j
    · rw [if_pos e1] at h
      split at h <;> cases h
    · rw [if_neg e1] at h
      obtain ⟨a, b⟩ := pw_cl1_at L i j w h
      exact Or.inr ⟨Ne.symm e, Ne.symm e1, a, b⟩
/-- the locals as the kit's rows take them -/
def pw_asc (h0 : Nat) (L : List (Option Value)) : List (Nat × Value) := (List.range L.length).filterMap (fun j => (L[j]?.join).map (fun v => (j, pw_tv h0 v)))
theorem pw_asc_in {h0 : Nat} {L : List (Option Value)} {i : Nat} {v : Value} (h : L[i]? = some (some v)) : (i, pw_tv h0 v) ∈ pw_asc h0 L := by
  refine List.mem_filterMap.mpr ⟨i, List.mem_range.mpr (List.getElem?_eq_some_iff.mp h).1, ?_⟩
  rw [h]; rfl
theorem pw_asc_of {h0 : Nat} {L : List (Option Value)} {q : Nat × Value} (h : q ∈ pw_asc h0 L) : ∃ v, L[q.1]? = some (some v) ∧ q.2 = pw_tv h0 v := by
  obtain ⟨j, -, hj⟩ := List.mem_filterMap.mp h
  cases hL : L[j]? with
  | none => rw [hL] at hj; cases hj
  | some x =>
    cases x with
    | none => rw [hL] at hj; cases hj
    | some v =>
      rw [hL] at hj
      cases hj
      exact ⟨v, hL, rfl⟩
theorem pw_L.has {h0 nL : Nat} {L : List (Option Value)} {ls : Array Slot} (h : pw_L h0 L ls nL) : lv_has ls nL (pw_asc h0 L) := by
  refine ⟨h.1, h.2.1, fun q hq => ?_⟩
  obtain ⟨v, h1, h2⟩ := pw_asc_of hq
  rw [h2]
  exact h.2.2 _ _ h1
theorem pw_L.of1 {h0 nL i : Nat} {L : List (Option Value)} {ls : Array Slot} {v : Value} (h : lv_has ls nL ((i, pw_tv h0 v) :: (pw_asc h0 L).filter (fun q => !(q.1 == i) && !(q.1 + 1 == i && q.2.category == 2)))) : pw_L h0 (pw_st1 L i v) ls nL := by
  refine ⟨h.1, h.2.1, fun j w hj => ?_⟩
  rcases pw_st1_at hj with ⟨rfl, rfl⟩ | ⟨a, b, c⟩
  · exact h.2.2 _ List.mem_cons_self
  · refine h.2.2 (j, pw_tv h0 w) (List.mem_cons_of_mem _ (List.mem_filter.mpr ⟨pw_asc_in b, ?_⟩))
    have e1 : (j == i) = false := by simpa using a
    have e2 : (j + 1 == i && (pw_tv h0 w).category == 2) = false := by
      rw [pw_tv_cat, Bool.and_eq_false_iff]
      by_cases q : j + 1 = i
      · exact Or.inr (by simpa using fun z => c ⟨q, z⟩)
      · exact Or.inl (by simpa using q)
    simp only [e1, e2, Bool.not_false, Bool.and_self]
theorem pw_L.of2 {h0 nL i : Nat} {L : List (Option Value)} {ls : Array Slot} {v : Value} (h : lv_has ls nL ((i, pw_tv h0 v) :: (pw_asc h0 L).filter (fun q => !(q.1 == i) && (!(q.1 == i + 1) && !(q.1 + 1 == i && q.2.category == 2))))) : pw_L h0 (pw_st2 L i v) ls nL := by
  refine ⟨h.1, h.2.1, fun j w hj => ?_⟩
  rcases pw_st2_at hj with ⟨rfl, rfl⟩ | ⟨a, a1, b, c⟩
  · exact h.2.2 _ List.mem_cons_self
  · refine h.2.2 (j, pw_tv h0 w) (List.mem_cons_of_mem _ (List.mem_filter.mpr ⟨pw_asc_in b, ?_⟩))
    have e1 : (j == i) = false := by simpa using a
    have e3 : (j == i + 1) = false := by simpa using a1
    have e2 : (j + 1 == i && (pw_tv h0 w).category == 2) = false := by
      rw [pw_tv_cat, Bool.and_eq_false_iff]
      by_cases q : j + 1 = i
      · exact Or.inr (by simpa using fun z => c ⟨q, z⟩)
      · exact Or.inl (by simpa using q)
    simp only [e1, e2, e3, Bool.not_false, Bool.and_self]
theorem pw_len_cl1 : ∀ (L : List (Option Value)) (i : Nat), (pw_cl1 L i).length = L.length
  | [], i => rfl
  | x :: l, 0 => rfl
  | x :: l, 1 => rfl
  | x :: l, i + 2 => by simp [pw_cl1, pw_len_cl1 l (i + 1)]
end
section
/-! RULES OF PW, an instruction each (by program) -/
section PWR
variable {M : Mth} {mc ms : Nat} {Q : Option Value → Sto → Prop} {pc q n cs sl : Nat} {L : List (Option Value)} {S : List Value} {σ : Sto}
theorem P_step {L' : List (Option Value)} {S' : List Value} (h : ∀ (p : Program) (l : Launch) (e : Env) (R : Room) (s : State) (m : MethodId) (args : Array Value) (below : List Frame) (meth : Method) (c : Code) (D : va_G) (aC : FieldType → ClassId) (h0 : Nat) (H : Heap) (locs : List Loc) (ls : Array Slot) (Qm : State → Prop),
    pw_C p s m args meth c M D aC → pw_L h0 L ls M.2.2.1 → (∀ ls', pw_L h0 L' ls' M.2.2.1 → W p l e R s m args below meth c H locs cs sl Qm (F0 m q ls' (S'.map (pw_tv h0)))) → W p l e R s m args below meth c H locs cs sl Qm (F0 m pc ls (S.map (pw_tv h0))))
    (k : PW M mc ms Q q L' S' n σ cs sl) : PW M mc ms Q pc L S n σ cs sl :=
  fun p l e s m args below meth c D aC h0 H locs ls hC hh hz hW hS hL => h p l e _ s m args below meth c D aC h0 H locs ls _ hC hL (fun ls' hL' => k p l e s m args below meth c D aC h0 H locs ls' hC hh hz hW hS hL')
theorem P_iconst {z : Int} {v : Int32} (d : decode M.2.1 pc = .ok (.iconst z, 1)) (hq : pc + 1 = q) (hv : Int32.ofInt z = v) (k : PW M mc ms Q q L (.int v :: S) n σ cs sl) : PW M mc ms Q pc L (S) n σ cs sl := by
  subst hq
  exact P_step (fun p l e R s m args below meth c D aC h0 H locs ls Qm hC hL kk => lv_iconst hC.1 hC.2.1 d hv (kk ls hL)) k
theorem P_bipush {z : Int} {v : Int32} (d : decode M.2.1 pc = .ok (.bipush z, 2)) (hq : pc + 2 = q) (hv : (Int8.ofInt z).toInt32 = v) (k : PW M mc ms Q q L (.int v :: S) n σ cs sl) : PW M mc ms Q pc L (S) n σ cs sl := by
  subst hq
  exact P_step (fun p l e R s m args below meth c D aC h0 H locs ls Qm hC hL kk => lv_bipush hC.1 hC.2.1 d hv (kk ls hL)) k
theorem P_sipush {z : Int} {v : Int32} (d : decode M.2.1 pc = .ok (.sipush z, 3)) (hq : pc + 3 = q) (hv : (Int16.ofInt z).toInt32 = v) (k : PW M mc ms Q q L (.int v :: S) n σ cs sl) : PW M mc ms Q pc L (S) n σ cs sl := by
  subst hq
  exact P_step (fun p l e R s m args below meth c D aC h0 H locs ls Qm hC hL kk => lv_sipush hC.1 hC.2.1 d hv (kk ls hL)) k
theorem P_lconst {z : Fin 2} {v : Int64} (d : decode M.2.1 pc = .ok (.lconst z, 1)) (hq : pc + 1 = q) (hv : Int64.ofNat (z : Nat) = v) (k : PW M mc ms Q q L (.long v :: S) n σ cs sl) : PW M mc ms Q pc L (S) n σ cs sl := by
  subst hq
  exact P_step (fun p l e R s m args below meth c D aC h0 H locs ls Qm hC hL kk => lv_lconst hC.1 hC.2.1 d hv (kk ls hL)) k
theorem P_fconst0 (d : decode M.2.1 pc = .ok (.fconst 0, 1)) (hq : pc + 1 = q) (k : PW M mc ms Q q L (.float FP.fconst0 :: S) n σ cs sl) : PW M mc ms Q pc L (S) n σ cs sl := by
  subst hq
  exact P_step (fun p l e R s m args below meth c D aC h0 H locs ls Qm hC hL kk => lv_fconst0 hC.1 hC.2.1 d (kk ls hL)) k
theorem P_fconst1 (d : decode M.2.1 pc = .ok (.fconst 1, 1)) (hq : pc + 1 = q) (k : PW M mc ms Q q L (.float FP.fconst1 :: S) n σ cs sl) : PW M mc ms Q pc L (S) n σ cs sl := by
  subst hq
  exact P_step (fun p l e R s m args below meth c D aC h0 H locs ls Qm hC hL kk => lv_fconst1 hC.1 hC.2.1 d (kk ls hL)) k
theorem P_fconst2 (d : decode M.2.1 pc = .ok (.fconst 2, 1)) (hq : pc + 1 = q) (k : PW M mc ms Q q L (.float FP.fconst2 :: S) n σ cs sl) : PW M mc ms Q pc L (S) n σ cs sl := by
  subst hq
  exact P_step (fun p l e R s m args below meth c D aC h0 H locs ls Qm hC hL kk => lv_fconst2 hC.1 hC.2.1 d (kk ls hL)) k
theorem P_ldc {ix : Nat} {v : Int32} (d : decode M.2.1 pc = .ok (.ldc ix, 2)) (hq : pc + 2 = q) (hv : Cond.constant M.1.cls ix v ∈ lw_w) (k : PW M mc ms Q q L (.int v :: S) n σ cs sl) : PW M mc ms Q pc L (S) n σ cs sl := by
  subst hq
  exact P_step (fun p l e R s m args below meth c D aC h0 H locs ls Qm hC hL kk => lv_ldc hC.1 hC.2.1 hC.2.2.2.1 (hC.2.2.2.2.1 _ hv) d (kk ls hL)) k
theorem P_ldcw {ix : Nat} {v : Int32} (d : decode M.2.1 pc = .ok (.ldc_w ix, 3)) (hq : pc + 3 = q) (hv : Cond.constant M.1.cls ix v ∈ lw_w) (k : PW M mc ms Q q L (.int v :: S) n σ cs sl) : PW M mc ms Q pc L (S) n σ cs sl := by
  subst hq
  exact P_step (fun p l e R s m args below meth c D aC h0 H locs ls Qm hC hL kk => lv_ldcw hC.1 hC.2.1 hC.2.2.2.1 (hC.2.2.2.2.1 _ hv) d (kk ls hL)) k
theorem P_ldcf {ix : Nat} {v : UInt32} (d : decode M.2.1 pc = .ok (.ldc ix, 2)) (hq : pc + 2 = q) (hv : Cond.constantFloat M.1.cls ix v ∈ lw_w) (k : PW M mc ms Q q L (.float v :: S) n σ cs sl) : PW M mc ms Q pc L (S) n σ cs sl := by
  subst hq
  exact P_step (fun p l e R s m args below meth c D aC h0 H locs ls Qm hC hL kk => lv_ldcf hC.1 hC.2.1 hC.2.2.2.1 (hC.2.2.2.2.1 _ hv) d (kk ls hL)) k
theorem P_ldc2 {ix : Nat} {v : Int64} (d : decode M.2.1 pc = .ok (.ldc2_w ix, 3)) (hq : pc + 3 = q) (hv : Cond.constantLong M.1.cls ix v ∈ lw_w) (k : PW M mc ms Q q L (.long v :: S) n σ cs sl) : PW M mc ms Q pc L (S) n σ cs sl := by
  subst hq
  exact P_step (fun p l e R s m args below meth c D aC h0 H locs ls Qm hC hL kk => lv_ldc2 hC.1 hC.2.1 hC.2.2.2.1 (hC.2.2.2.2.1 _ hv) d (kk ls hL)) k
theorem P_iload_n {k4 : Fin 4} {x : Int32} (d : decode M.2.1 pc = .ok (.iload_n k4, 1)) (hq : pc + 1 = q) (hx : L[(k4 : Nat)]? = some (some (.int x))) (k : PW M mc ms Q q L (.int x :: S) n σ cs sl) : PW M mc ms Q pc L (S) n σ cs sl := by
  subst hq
  exact P_step (fun p l e R s m args below meth c D aC h0 H locs ls Qm hC hL kk => lv_iload_n hC.1 hC.2.1 d rfl (hL.2.2 _ _ hx) (kk ls hL)) k
theorem P_iload {i : Nat} {x : Int32} (d : decode M.2.1 pc = .ok (.iload i, 2)) (hq : pc + 2 = q) (hx : L[i]? = some (some (.int x))) (k : PW M mc ms Q q L (.int x :: S) n σ cs sl) : PW M mc ms Q pc L (S) n σ cs sl := by
  subst hq
  exact P_step (fun p l e R s m args below meth c D aC h0 H locs ls Qm hC hL kk => lv_iload hC.1 hC.2.1 d (hL.2.2 _ _ hx) (kk ls hL)) k
theorem P_lload_n {k4 : Fin 4} {x : Int64} (d : decode M.2.1 pc = .ok (.lload_n k4, 1)) (hq : pc + 1 = q) (hx : L[(k4 : Nat)]? = some (some (.long x))) (k : PW M mc ms Q q L (.long x :: S) n σ cs sl) : PW M mc ms Q pc L (S) n σ cs sl := by
  subst hq
  exact P_step (fun p l e R s m args below meth c D aC h0 H locs ls Qm hC hL kk => lv_lload_n hC.1 hC.2.1 d rfl (hL.2.2 _ _ hx) (kk ls hL)) k
theorem P_lload {i : Nat} {x : Int64} (d : decode M.2.1 pc = .ok (.lload i, 2)) (hq : pc + 2 = q) (hx : L[i]? = some (some (.long x))) (k : PW M mc ms Q q L (.long x :: S) n σ cs sl) : PW M mc ms Q pc L (S) n σ cs sl := by
  subst hq
  exact P_step (fun p l e R s m args below meth c D aC h0 H locs ls Qm hC hL kk => lv_lload hC.1 hC.2.1 d (hL.2.2 _ _ hx) (kk ls hL)) k
theorem P_fload_n {k4 : Fin 4} {x : UInt32} (d : decode M.2.1 pc = .ok (.fload_n k4, 1)) (hq : pc + 1 = q) (hx : L[(k4 : Nat)]? = some (some (.float x))) (k : PW M mc ms Q q L (.float x :: S) n σ cs sl) : PW M mc ms Q pc L (S) n σ cs sl := by
  subst hq
  exact P_step (fun p l e R s m args below meth c D aC h0 H locs ls Qm hC hL kk => lv_fload_n hC.1 hC.2.1 d rfl (hL.2.2 _ _ hx) (kk ls hL)) k
theorem P_fload {i : Nat} {x : UInt32} (d : decode M.2.1 pc = .ok (.fload i, 2)) (hq : pc + 2 = q) (hx : L[i]? = some (some (.float x))) (k : PW M mc ms Q q L (.float x :: S) n σ cs sl) : PW M mc ms Q pc L (S) n σ cs sl := by
  subst hq
  exact P_step (fun p l e R s m args below meth c D aC h0 H locs ls Qm hC hL kk => lv_fload hC.1 hC.2.1 d (hL.2.2 _ _ hx) (kk ls hL)) k
theorem P_aload_n {k4 : Fin 4} {x : Nat} (d : decode M.2.1 pc = .ok (.aload_n k4, 1)) (hq : pc + 1 = q) (hx : L[(k4 : Nat)]? = some (some (.ref x))) (k : PW M mc ms Q q L (.ref x :: S) n σ cs sl) : PW M mc ms Q pc L (S) n σ cs sl := by
  subst hq
  exact P_step (fun p l e R s m args below meth c D aC h0 H locs ls Qm hC hL kk => lv_aload_n hC.1 hC.2.1 d rfl (hL.2.2 _ _ hx) (kk ls hL)) k
theorem P_aload {i : Nat} {x : Nat} (d : decode M.2.1 pc = .ok (.aload i, 2)) (hq : pc + 2 = q) (hx : L[i]? = some (some (.ref x))) (k : PW M mc ms Q q L (.ref x :: S) n σ cs sl) : PW M mc ms Q pc L (S) n σ cs sl := by
  subst hq
  exact P_step (fun p l e R s m args below meth c D aC h0 H locs ls Qm hC hL kk => lv_aload hC.1 hC.2.1 d (hL.2.2 _ _ hx) (kk ls hL)) k
theorem P_istore_n {k4 : Fin 4} {x : Int32} {L' : List (Option Value)} (d : decode M.2.1 pc = .ok (.istore_n k4, 1)) (hq : pc + 1 = q) (hn : (k4 : Nat) < M.2.2.1) (hl : pw_st1 L (k4 : Nat) (.int x) = L') (k : PW M mc ms Q q L' (S) n σ cs sl) : PW M mc ms Q pc L (.int x :: S) n σ cs sl := by
  subst hq
  exact P_step (fun p l e R s m args below meth c D aC h0 H locs ls Qm hC hL kk => lv_istore_n hC.1 hC.2.1 d rfl hL.has hn rfl (fun ls' h' => kk ls' (hl ▸ pw_L.of1 (v := .int x) h'))) k
theorem P_istore {i : Nat} {x : Int32} {L' : List (Option Value)} (d : decode M.2.1 pc = .ok (.istore i, 2)) (hq : pc + 2 = q) (hn : i < M.2.2.1) (hl : pw_st1 L i (.int x) = L') (k : PW M mc ms Q q L' (S) n σ cs sl) : PW M mc ms Q pc L (.int x :: S) n σ cs sl := by
  subst hq
  exact P_step (fun p l e R s m args below meth c D aC h0 H locs ls Qm hC hL kk => lv_istore hC.1 hC.2.1 d hL.has hn rfl (fun ls' h' => kk ls' (hl ▸ pw_L.of1 (v := .int x) h'))) k
theorem P_fstore_n {k4 : Fin 4} {x : UInt32} {L' : List (Option Value)} (d : decode M.2.1 pc = .ok (.fstore_n k4, 1)) (hq : pc + 1 = q) (hn : (k4 : Nat) < M.2.2.1) (hl : pw_st1 L (k4 : Nat) (.float x) = L') (k : PW M mc ms Q q L' (S) n σ cs sl) : PW M mc ms Q pc L (.float x :: S) n σ cs sl := by
  subst hq
  exact P_step (fun p l e R s m args below meth c D aC h0 H locs ls Qm hC hL kk => lv_fstore_n hC.1 hC.2.1 d rfl hL.has hn rfl (fun ls' h' => kk ls' (hl ▸ pw_L.of1 (v := .float x) h'))) k
theorem P_fstore {i : Nat} {x : UInt32} {L' : List (Option Value)} (d : decode M.2.1 pc = .ok (.fstore i, 2)) (hq : pc + 2 = q) (hn : i < M.2.2.1) (hl : pw_st1 L i (.float x) = L') (k : PW M mc ms Q q L' (S) n σ cs sl) : PW M mc ms Q pc L (.float x :: S) n σ cs sl := by
  subst hq
  exact P_step (fun p l e R s m args below meth c D aC h0 H locs ls Qm hC hL kk => lv_fstore hC.1 hC.2.1 d hL.has hn rfl (fun ls' h' => kk ls' (hl ▸ pw_L.of1 (v := .float x) h'))) k
theorem P_astore_n {k4 : Fin 4} {x : Nat} {L' : List (Option Value)} (d : decode M.2.1 pc = .ok (.astore_n k4, 1)) (hq : pc + 1 = q) (hn : (k4 : Nat) < M.2.2.1) (hl : pw_st1 L (k4 : Nat) (.ref x) = L') (k : PW M mc ms Q q L' (S) n σ cs sl) : PW M mc ms Q pc L (.ref x :: S) n σ cs sl := by
  subst hq
  exact P_step (fun p l e R s m args below meth c D aC h0 H locs ls Qm hC hL kk => lv_astore_n hC.1 hC.2.1 d rfl hL.has hn rfl (fun ls' h' => kk ls' (hl ▸ pw_L.of1 (v := .ref x) h'))) k
theorem P_astore {i : Nat} {x : Nat} {L' : List (Option Value)} (d : decode M.2.1 pc = .ok (.astore i, 2)) (hq : pc + 2 = q) (hn : i < M.2.2.1) (hl : pw_st1 L i (.ref x) = L') (k : PW M mc ms Q q L' (S) n σ cs sl) : PW M mc ms Q pc L (.ref x :: S) n σ cs sl := by
  subst hq
  exact P_step (fun p l e R s m args below meth c D aC h0 H locs ls Qm hC hL kk => lv_astore hC.1 hC.2.1 d hL.has hn rfl (fun ls' h' => kk ls' (hl ▸ pw_L.of1 (v := .ref x) h'))) k
theorem P_lstore_n {k4 : Fin 4} {x : Int64} {L' : List (Option Value)} (d : decode M.2.1 pc = .ok (.lstore_n k4, 1)) (hq : pc + 1 = q) (hn : (k4 : Nat) + 1 < M.2.2.1) (hl : pw_st2 L (k4 : Nat) (.long x) = L') (k : PW M mc ms Q q L' (S) n σ cs sl) : PW M mc ms Q pc L (.long x :: S) n σ cs sl := by
  subst hq
  exact P_step (fun p l e R s m args below meth c D aC h0 H locs ls Qm hC hL kk => lv_lstore_n hC.1 hC.2.1 d rfl hL.has hn rfl (fun ls' h' => kk ls' (hl ▸ pw_L.of2 (v := .long x) h'))) k
theorem P_lstore {i : Nat} {x : Int64} {L' : List (Option Value)} (d : decode M.2.1 pc = .ok (.lstore i, 2)) (hq : pc + 2 = q) (hn : i + 1 < M.2.2.1) (hl : pw_st2 L i (.long x) = L') (k : PW M mc ms Q q L' (S) n σ cs sl) : PW M mc ms Q pc L (.long x :: S) n σ cs sl := by
  subst hq
  exact P_step (fun p l e R s m args below meth c D aC h0 H locs ls Qm hC hL kk => lv_lstore hC.1 hC.2.1 d hL.has hn rfl (fun ls' h' => kk ls' (hl ▸ pw_L.of2 (v := .long x) h'))) k
theorem P_iinc {i : Nat} {z : Int} {x v : Int32} {L' : List (Option Value)} (d : decode M.2.1 pc = .ok (.iinc i z, 3)) (hq : pc + 3 = q) (hn : i < M.2.2.1) (hx : L[i]? = some (some (.int x))) (hv : x + Int32.ofInt z = v) (hl : pw_st1 L i (.int v) = L') (k : PW M mc ms Q q L' S n σ cs sl) : PW M mc ms Q pc L S n σ cs sl := by
  subst hq
  refine P_step (fun p l e R s m args below meth c D aC h0 H locs ls Qm hC hL kk => ?_) k
  obtain ⟨k0, hk0⟩ := List.getElem?_of_mem (pw_asc_in (h0 := h0) hx)
  exact lv_iinc hC.1 hC.2.1 d hL.has hk0 hv hn rfl (fun ls' h' => kk ls' (hl ▸ pw_L.of1 (v := .int v) h'))
theorem P_iadd {x y : Int32} (d : decode M.2.1 pc = .ok (.iadd, 1)) (hq : pc + 1 = q) (k : PW M mc ms Q q L (.int (x + y) :: S) n σ cs sl) : PW M mc ms Q pc L (.int y :: .int x :: S) n σ cs sl := by
  subst hq
  exact P_step (fun p l e R s m args below meth c D aC h0 H locs ls Qm hC hL kk => lv_iadd hC.1 hC.2.1 d (kk ls hL)) k
theorem P_isub {x y : Int32} (d : decode M.2.1 pc = .ok (.isub, 1)) (hq : pc + 1 = q) (k : PW M mc ms Q q L (.int (x - y) :: S) n σ cs sl) : PW M mc ms Q pc L (.int y :: .int x :: S) n σ cs sl := by
  subst hq
  exact P_step (fun p l e R s m args below meth c D aC h0 H locs ls Qm hC hL kk => lv_isub hC.1 hC.2.1 d (kk ls hL)) k
theorem P_imul {x y : Int32} (d : decode M.2.1 pc = .ok (.imul, 1)) (hq : pc + 1 = q) (k : PW M mc ms Q q L (.int (x * y) :: S) n σ cs sl) : PW M mc ms Q pc L (.int y :: .int x :: S) n σ cs sl := by
  subst hq
  exact P_step (fun p l e R s m args below meth c D aC h0 H locs ls Qm hC hL kk => lv_imul hC.1 hC.2.1 d (kk ls hL)) k
theorem P_iand {x y : Int32} (d : decode M.2.1 pc = .ok (.iand, 1)) (hq : pc + 1 = q) (k : PW M mc ms Q q L (.int (x &&& y) :: S) n σ cs sl) : PW M mc ms Q pc L (.int y :: .int x :: S) n σ cs sl := by
  subst hq
  exact P_step (fun p l e R s m args below meth c D aC h0 H locs ls Qm hC hL kk => lv_iand hC.1 hC.2.1 d (kk ls hL)) k
theorem P_ior {x y : Int32} (d : decode M.2.1 pc = .ok (.ior, 1)) (hq : pc + 1 = q) (k : PW M mc ms Q q L (.int (x ||| y) :: S) n σ cs sl) : PW M mc ms Q pc L (.int y :: .int x :: S) n σ cs sl := by
  subst hq
  exact P_step (fun p l e R s m args below meth c D aC h0 H locs ls Qm hC hL kk => lv_ior hC.1 hC.2.1 d (kk ls hL)) k
theorem P_ixor {x y : Int32} (d : decode M.2.1 pc = .ok (.ixor, 1)) (hq : pc + 1 = q) (k : PW M mc ms Q q L (.int (x ^^^ y) :: S) n σ cs sl) : PW M mc ms Q pc L (.int y :: .int x :: S) n σ cs sl := by
  subst hq
  exact P_step (fun p l e R s m args below meth c D aC h0 H locs ls Qm hC hL kk => lv_ixor hC.1 hC.2.1 d (kk ls hL)) k
theorem P_ishl {x y : Int32} (d : decode M.2.1 pc = .ok (.ishl, 1)) (hq : pc + 1 = q) (k : PW M mc ms Q q L (.int (x <<< (y &&& 31)) :: S) n σ cs sl) : PW M mc ms Q pc L (.int y :: .int x :: S) n σ cs sl := by
  subst hq
  exact P_step (fun p l e R s m args below meth c D aC h0 H locs ls Qm hC hL kk => lv_ishl hC.1 hC.2.1 d (kk ls hL)) k
theorem P_ishr {x y : Int32} (d : decode M.2.1 pc = .ok (.ishr, 1)) (hq : pc + 1 = q) (k : PW M mc ms Q q L (.int (x >>> (y &&& 31)) :: S) n σ cs sl) : PW M mc ms Q pc L (.int y :: .int x :: S) n σ cs sl := by
  subst hq
  exact P_step (fun p l e R s m args below meth c D aC h0 H locs ls Qm hC hL kk => lv_ishr hC.1 hC.2.1 d (kk ls hL)) k
theorem P_idiv {x y : Int32} (d : decode M.2.1 pc = .ok (.idiv, 1)) (hq : pc + 1 = q) (hy : ¬ y = 0) (k : PW M mc ms Q q L (.int (x / y) :: S) n σ cs sl) : PW M mc ms Q pc L (.int y :: .int x :: S) n σ cs sl := by
  subst hq
  exact P_step (fun p l e R s m args below meth c D aC h0 H locs ls Qm hC hL kk => lv_idiv hC.1 hC.2.1 d hy (kk ls hL)) k
theorem P_irem {x y : Int32} (d : decode M.2.1 pc = .ok (.irem, 1)) (hq : pc + 1 = q) (hy : ¬ y = 0) (k : PW M mc ms Q q L (.int (x - x / y * y) :: S) n σ cs sl) : PW M mc ms Q pc L (.int y :: .int x :: S) n σ cs sl := by
  subst hq
  exact P_step (fun p l e R s m args below meth c D aC h0 H locs ls Qm hC hL kk => lv_irem hC.1 hC.2.1 d hy (kk ls hL)) k
theorem P_iushr {x y : Int32} (d : decode M.2.1 pc = .ok (.iushr, 1)) (hq : pc + 1 = q) (k : PW M mc ms Q q L (.int (x.toUInt32 >>> (y.toUInt32 &&& Int32.toUInt32 31)).toInt32 :: S) n σ cs sl) : PW M mc ms Q pc L (.int y :: .int x :: S) n σ cs sl := by
  subst hq
  exact P_step (fun p l e R s m args below meth c D aC h0 H locs ls Qm hC hL kk => lv_iushr hC.1 hC.2.1 d rfl (kk ls hL)) k
theorem P_ineg {x : Int32} (d : decode M.2.1 pc = .ok (.ineg, 1)) (hq : pc + 1 = q) (k : PW M mc ms Q q L (.int (-x) :: S) n σ cs sl) : PW M mc ms Q pc L (.int x :: S) n σ cs sl := by
  subst hq
  exact P_step (fun p l e R s m args below meth c D aC h0 H locs ls Qm hC hL kk => lv_ineg hC.1 hC.2.1 d (kk ls hL)) k
theorem P_i2c {x : Int32} (d : decode M.2.1 pc = .ok (.i2c, 1)) (hq : pc + 1 = q) (k : PW M mc ms Q q L (.int (x.toUInt32 % 65536).toInt32 :: S) n σ cs sl) : PW M mc ms Q pc L (.int x :: S) n σ cs sl := by
  subst hq
  exact P_step (fun p l e R s m args below meth c D aC h0 H locs ls Qm hC hL kk => lv_i2c hC.1 hC.2.1 d rfl (kk ls hL)) k
theorem P_i2l {x : Int32} (d : decode M.2.1 pc = .ok (.i2l, 1)) (hq : pc + 1 = q) (k : PW M mc ms Q q L (.long x.toInt64 :: S) n σ cs sl) : PW M mc ms Q pc L (.int x :: S) n σ cs sl := by
  subst hq
  exact P_step (fun p l e R s m args below meth c D aC h0 H locs ls Qm hC hL kk => lv_i2l hC.1 hC.2.1 d rfl (kk ls hL)) k
theorem P_l2i {x : Int64} (d : decode M.2.1 pc = .ok (.l2i, 1)) (hq : pc + 1 = q) (k : PW M mc ms Q q L (.int x.toInt32 :: S) n σ cs sl) : PW M mc ms Q pc L (.long x :: S) n σ cs sl := by
  subst hq
  exact P_step (fun p l e R s m args below meth c D aC h0 H locs ls Qm hC hL kk => lv_l2i hC.1 hC.2.1 d rfl (kk ls hL)) k
theorem P_ladd {x y : Int64} (d : decode M.2.1 pc = .ok (.ladd, 1)) (hq : pc + 1 = q) (k : PW M mc ms Q q L (.long (x + y) :: S) n σ cs sl) : PW M mc ms Q pc L (.long y :: .long x :: S) n σ cs sl := by
  subst hq
  exact P_step (fun p l e R s m args below meth c D aC h0 H locs ls Qm hC hL kk => lv_ladd hC.1 hC.2.1 d (kk ls hL)) k
theorem P_lsub {x y : Int64} (d : decode M.2.1 pc = .ok (.lsub, 1)) (hq : pc + 1 = q) (k : PW M mc ms Q q L (.long (x - y) :: S) n σ cs sl) : PW M mc ms Q pc L (.long y :: .long x :: S) n σ cs sl := by
  subst hq
  exact P_step (fun p l e R s m args below meth c D aC h0 H locs ls Qm hC hL kk => lv_lsub hC.1 hC.2.1 d (kk ls hL)) k
theorem P_lmul {x y : Int64} (d : decode M.2.1 pc = .ok (.lmul, 1)) (hq : pc + 1 = q) (k : PW M mc ms Q q L (.long (x * y) :: S) n σ cs sl) : PW M mc ms Q pc L (.long y :: .long x :: S) n σ cs sl := by
  subst hq
  exact P_step (fun p l e R s m args below meth c D aC h0 H locs ls Qm hC hL kk => lv_lmul hC.1 hC.2.1 d (kk ls hL)) k
theorem P_land {x y : Int64} (d : decode M.2.1 pc = .ok (.land, 1)) (hq : pc + 1 = q) (k : PW M mc ms Q q L (.long (x &&& y) :: S) n σ cs sl) : PW M mc ms Q pc L (.long y :: .long x :: S) n σ cs sl := by
  subst hq
  exact P_step (fun p l e R s m args below meth c D aC h0 H locs ls Qm hC hL kk => lv_land hC.1 hC.2.1 d (kk ls hL)) k
theorem P_lor {x y : Int64} (d : decode M.2.1 pc = .ok (.lor, 1)) (hq : pc + 1 = q) (k : PW M mc ms Q q L (.long (x ||| y) :: S) n σ cs sl) : PW M mc ms Q pc L (.long y :: .long x :: S) n σ cs sl := by
  subst hq
  exact P_step (fun p l e R s m args below meth c D aC h0 H locs ls Qm hC hL kk => lv_lor hC.1 hC.2.1 d (kk ls hL)) k
theorem P_lxor {x y : Int64} (d : decode M.2.1 pc = .ok (.lxor, 1)) (hq : pc + 1 = q) (k : PW M mc ms Q q L (.long (x ^^^ y) :: S) n σ cs sl) : PW M mc ms Q pc L (.long y :: .long x :: S) n σ cs sl := by
  subst hq
  exact P_step (fun p l e R s m args below meth c D aC h0 H locs ls Qm hC hL kk => lv_lxor hC.1 hC.2.1 d (kk ls hL)) k
theorem P_ldiv {x y : Int64} (d : decode M.2.1 pc = .ok (.ldiv, 1)) (hq : pc + 1 = q) (hy : ¬ y = 0) (k : PW M mc ms Q q L (.long (x / y) :: S) n σ cs sl) : PW M mc ms Q pc L (.long y :: .long x :: S) n σ cs sl := by
  subst hq
  exact P_step (fun p l e R s m args below meth c D aC h0 H locs ls Qm hC hL kk => lv_ldiv hC.1 hC.2.1 d hy (kk ls hL)) k
theorem P_lshl {x : Int64} {y : Int32} (d : decode M.2.1 pc = .ok (.lshl, 1)) (hq : pc + 1 = q) (k : PW M mc ms Q q L (.long (x <<< (y.toInt64 &&& 63)) :: S) n σ cs sl) : PW M mc ms Q pc L (.int y :: .long x :: S) n σ cs sl := by
  subst hq
  exact P_step (fun p l e R s m args below meth c D aC h0 H locs ls Qm hC hL kk => lv_lshl hC.1 hC.2.1 d rfl (kk ls hL)) k
theorem P_lushr {x : Int64} {y : Int32} (d : decode M.2.1 pc = .ok (.lushr, 1)) (hq : pc + 1 = q) (k : PW M mc ms Q q L (.long (x.toUInt64 >>> (y.toInt64.toUInt64 &&& Int64.toUInt64 63)).toInt64 :: S) n σ cs sl) : PW M mc ms Q pc L (.int y :: .long x :: S) n σ cs sl := by
  subst hq
  exact P_step (fun p l e R s m args below meth c D aC h0 H locs ls Qm hC hL kk => lv_lushr hC.1 hC.2.1 d rfl (kk ls hL)) k
theorem P_lcmp {x y : Int64} (d : decode M.2.1 pc = .ok (.lcmp, 1)) (hq : pc + 1 = q) (k : PW M mc ms Q q L (.int (lg_cmp x y) :: S) n σ cs sl) : PW M mc ms Q pc L (.long y :: .long x :: S) n σ cs sl := by
  subst hq
  exact P_step (fun p l e R s m args below meth c D aC h0 H locs ls Qm hC hL kk => W.lcmp hC.1 hC.2.1 d (kk ls hL)) k
theorem P_dup {v : Value} (d : decode M.2.1 pc = .ok (.dup, 1)) (hq : pc + 1 = q) (hc : v.category = 1) (k : PW M mc ms Q q L (v :: v :: S) n σ cs sl) : PW M mc ms Q pc L (v :: S) n σ cs sl := by
  subst hq
  exact P_step (fun p l e R s m args below meth c D aC h0 H locs ls Qm hC hL kk => lv_dup hC.1 hC.2.1 d ((pw_tv_cat h0 v).trans hc) (kk ls hL)) k
theorem P_dup2 {v w : Value} (d : decode M.2.1 pc = .ok (.dup2, 1)) (hq : pc + 1 = q) (hc : v.category = 1) (hc2 : w.category = 1) (k : PW M mc ms Q q L (v :: w :: v :: w :: S) n σ cs sl) : PW M mc ms Q pc L (v :: w :: S) n σ cs sl := by
  subst hq
  exact P_step (fun p l e R s m args below meth c D aC h0 H locs ls Qm hC hL kk => lv_dup2_11 hC.1 hC.2.1 d ((pw_tv_cat h0 v).trans hc) ((pw_tv_cat h0 w).trans hc2) (kk ls hL)) k
theorem P_dup2_2 {v : Value} (d : decode M.2.1 pc = .ok (.dup2, 1)) (hq : pc + 1 = q) (hc : v.category = 2) (k : PW M mc ms Q q L (v :: v :: S) n σ cs sl) : PW M mc ms Q pc L (v :: S) n σ cs sl := by
  subst hq
  exact P_step (fun p l e R s m args below meth c D aC h0 H locs ls Qm hC hL kk => lv_dup2_2 hC.1 hC.2.1 d ((pw_tv_cat h0 v).trans hc) (kk ls hL)) k
theorem P_fadd {x y : UInt32} (d : decode M.2.1 pc = .ok (.fadd, 1)) (hq : pc + 1 = q) (hy : vf_n32 (FP.fadd x y)) (k : PW M mc ms Q q L (.float (FP.fadd x y) :: S) n σ cs sl) : PW M mc ms Q pc L (.float y :: .float x :: S) n σ cs sl := by
  subst hq
  exact P_step (fun p l e R s m args below meth c D aC h0 H locs ls Qm hC hL kk => lv_fadd hC.1 hC.2.1 d hy (kk ls hL)) k
theorem P_fsub {x y : UInt32} (d : decode M.2.1 pc = .ok (.fsub, 1)) (hq : pc + 1 = q) (hy : vf_n32 (FP.fsub x y)) (k : PW M mc ms Q q L (.float (FP.fsub x y) :: S) n σ cs sl) : PW M mc ms Q pc L (.float y :: .float x :: S) n σ cs sl := by
  subst hq
  exact P_step (fun p l e R s m args below meth c D aC h0 H locs ls Qm hC hL kk => lv_fsub hC.1 hC.2.1 d hy (kk ls hL)) k
theorem P_fmul {x y : UInt32} (d : decode M.2.1 pc = .ok (.fmul, 1)) (hq : pc + 1 = q) (hy : vf_n32 (FP.fmul x y)) (k : PW M mc ms Q q L (.float (FP.fmul x y) :: S) n σ cs sl) : PW M mc ms Q pc L (.float y :: .float x :: S) n σ cs sl := by
  subst hq
  exact P_step (fun p l e R s m args below meth c D aC h0 H locs ls Qm hC hL kk => lv_fmul hC.1 hC.2.1 d hy (kk ls hL)) k
theorem P_fdiv {x y : UInt32} (d : decode M.2.1 pc = .ok (.fdiv, 1)) (hq : pc + 1 = q) (hy : vf_n32 (FP.fdiv x y)) (k : PW M mc ms Q q L (.float (FP.fdiv x y) :: S) n σ cs sl) : PW M mc ms Q pc L (.float y :: .float x :: S) n σ cs sl := by
  subst hq
  exact P_step (fun p l e R s m args below meth c D aC h0 H locs ls Qm hC hL kk => lv_fdiv hC.1 hC.2.1 d hy (kk ls hL)) k
theorem P_fneg {x : UInt32} (d : decode M.2.1 pc = .ok (.fneg, 1)) (hq : pc + 1 = q) (k : PW M mc ms Q q L (.float (FP.fneg x) :: S) n σ cs sl) : PW M mc ms Q pc L (.float x :: S) n σ cs sl := by
  subst hq
  exact P_step (fun p l e R s m args below meth c D aC h0 H locs ls Qm hC hL kk => lv_fneg hC.1 hC.2.1 d (kk ls hL)) k
theorem P_fcmp {x y : UInt32} {op : CmpOp} (d : decode M.2.1 pc = .ok (.fcmp op, 1)) (hq : pc + 1 = q) (k : PW M mc ms Q q L (.int (Op.cmpValue (FP.fcmp x y) op) :: S) n σ cs sl) : PW M mc ms Q pc L (.float y :: .float x :: S) n σ cs sl := by
  subst hq
  exact P_step (fun p l e R s m args below meth c D aC h0 H locs ls Qm hC hL kk => lv_fcmp hC.1 hC.2.1 d (kk ls hL)) k
theorem P_i2f {x : Int32} (d : decode M.2.1 pc = .ok (.i2f, 1)) (hq : pc + 1 = q) (k : PW M mc ms Q q L (.float (FP.i2f x) :: S) n σ cs sl) : PW M mc ms Q pc L (.int x :: S) n σ cs sl := by
  subst hq
  exact P_step (fun p l e R s m args below meth c D aC h0 H locs ls Qm hC hL kk => lv_i2f hC.1 hC.2.1 d (kk ls hL)) k
theorem P_f2i {x : UInt32} (d : decode M.2.1 pc = .ok (.f2i, 1)) (hq : pc + 1 = q) (k : PW M mc ms Q q L (.int (FP.f2i x) :: S) n σ cs sl) : PW M mc ms Q pc L (.float x :: S) n σ cs sl := by
  subst hq
  exact P_step (fun p l e R s m args below meth c D aC h0 H locs ls Qm hC hL kk => lv_f2i hC.1 hC.2.1 d (kk ls hL)) k
theorem P_if_eq {x : Int32} {off : Int} {tgt : Nat} (d : decode M.2.1 pc = .ok (.ifCond .eq off, 3)) (hq : pc + 3 = q) (ht : (pc : Int) + off = (tgt : Int)) (kt : x = 0 → PW M mc ms Q tgt L S n σ cs sl) (kf : ¬ x = 0 → PW M mc ms Q q L S n σ cs sl) : PW M mc ms Q pc L (.int x :: S) n σ cs sl := by
  subst hq
  exact fun p l e s m args below meth c D aC h0 H locs ls hC hh hz hW hS hL => lv_if_eq hC.1 hC.2.1 d ht (fun h => kt h p l e s m args below meth c D aC h0 H locs ls hC hh hz hW hS hL) (fun h => kf h p l e s m args below meth c D aC h0 H locs ls hC hh hz hW hS hL)
theorem P_icmp_eq {x y : Int32} {off : Int} {tgt : Nat} (d : decode M.2.1 pc = .ok (.if_icmp .eq off, 3)) (hq : pc + 3 = q) (ht : (pc : Int) + off = (tgt : Int)) (kt : x = y → PW M mc ms Q tgt L S n σ cs sl) (kf : ¬ x = y → PW M mc ms Q q L S n σ cs sl) : PW M mc ms Q pc L (.int y :: .int x :: S) n σ cs sl := by
  subst hq
  exact fun p l e s m args below meth c D aC h0 H locs ls hC hh hz hW hS hL => lv_icmp_eq hC.1 hC.2.1 d ht (fun h => kt h p l e s m args below meth c D aC h0 H locs ls hC hh hz hW hS hL) (fun h => kf h p l e s m args below meth c D aC h0 H locs ls hC hh hz hW hS hL)
theorem P_if_ne {x : Int32} {off : Int} {tgt : Nat} (d : decode M.2.1 pc = .ok (.ifCond .ne off, 3)) (hq : pc + 3 = q) (ht : (pc : Int) + off = (tgt : Int)) (kt : ¬ x = 0 → PW M mc ms Q tgt L S n σ cs sl) (kf : x = 0 → PW M mc ms Q q L S n σ cs sl) : PW M mc ms Q pc L (.int x :: S) n σ cs sl := by
  subst hq
  intro p l e s m args below meth c D aC h0 H locs ls hC hh hz hW hS hL
  by_cases hx : x = 0
  · exact lv_if_ne hC.1 hC.2.1 d ht (fun h => absurd hx h) (fun _ => kf hx p l e s m args below meth c D aC h0 H locs ls hC hh hz hW hS hL)
  · exact lv_if_ne hC.1 hC.2.1 d ht (fun _ => kt hx p l e s m args below meth c D aC h0 H locs ls hC hh hz hW hS hL) (fun h => absurd h (by first | exact fun z => hx (by simpa using z) | simpa using hx))
theorem P_icmp_ne {x y : Int32} {off : Int} {tgt : Nat} (d : decode M.2.1 pc = .ok (.if_icmp .ne off, 3)) (hq : pc + 3 = q) (ht : (pc : Int) + off = (tgt : Int)) (kt : ¬ x = y → PW M mc ms Q tgt L S n σ cs sl) (kf : x = y → PW M mc ms Q q L S n σ cs sl) : PW M mc ms Q pc L (.int y :: .int x :: S) n σ cs sl := by
  subst hq
  intro p l e s m args below meth c D aC h0 H locs ls hC hh hz hW hS hL
  by_cases hx : x = y
  · exact lv_icmp_ne hC.1 hC.2.1 d ht (fun h => absurd hx h) (fun _ => kf hx p l e s m args below meth c D aC h0 H locs ls hC hh hz hW hS hL)
  · exact lv_icmp_ne hC.1 hC.2.1 d ht (fun _ => kt hx p l e s m args below meth c D aC h0 H locs ls hC hh hz hW hS hL) (fun h => absurd h (by first | exact fun z => hx (by simpa using z) | simpa using hx))
theorem P_if_lt {x : Int32} {off : Int} {tgt : Nat} (d : decode M.2.1 pc = .ok (.ifCond .lt off, 3)) (hq : pc + 3 = q) (ht : (pc : Int) + off = (tgt : Int)) (kt : x < 0 → PW M mc ms Q tgt L S n σ cs sl) (kf : ¬ x < 0 → PW M mc ms Q q L S n σ cs sl) : PW M mc ms Q pc L (.int x :: S) n σ cs sl := by
  subst hq
  exact fun p l e s m args below meth c D aC h0 H locs ls hC hh hz hW hS hL => lv_if_lt hC.1 hC.2.1 d ht (fun h => kt h p l e s m args below meth c D aC h0 H locs ls hC hh hz hW hS hL) (fun h => kf h p l e s m args below meth c D aC h0 H locs ls hC hh hz hW hS hL)
theorem P_icmp_lt {x y : Int32} {off : Int} {tgt : Nat} (d : decode M.2.1 pc = .ok (.if_icmp .lt off, 3)) (hq : pc + 3 = q) (ht : (pc : Int) + off = (tgt : Int)) (kt : x < y → PW M mc ms Q tgt L S n σ cs sl) (kf : ¬ x < y → PW M mc ms Q q L S n σ cs sl) : PW M mc ms Q pc L (.int y :: .int x :: S) n σ cs sl := by
  subst hq
  exact fun p l e s m args below meth c D aC h0 H locs ls hC hh hz hW hS hL => lv_icmp_lt hC.1 hC.2.1 d ht (fun h => kt h p l e s m args below meth c D aC h0 H locs ls hC hh hz hW hS hL) (fun h => kf h p l e s m args below meth c D aC h0 H locs ls hC hh hz hW hS hL)
theorem P_if_ge {x : Int32} {off : Int} {tgt : Nat} (d : decode M.2.1 pc = .ok (.ifCond .ge off, 3)) (hq : pc + 3 = q) (ht : (pc : Int) + off = (tgt : Int)) (kt : 0 ≤ x → PW M mc ms Q tgt L S n σ cs sl) (kf : ¬ 0 ≤ x → PW M mc ms Q q L S n σ cs sl) : PW M mc ms Q pc L (.int x :: S) n σ cs sl := by
  subst hq
  exact fun p l e s m args below meth c D aC h0 H locs ls hC hh hz hW hS hL => lv_if_ge hC.1 hC.2.1 d ht (fun h => kt h p l e s m args below meth c D aC h0 H locs ls hC hh hz hW hS hL) (fun h => kf h p l e s m args below meth c D aC h0 H locs ls hC hh hz hW hS hL)
theorem P_icmp_ge {x y : Int32} {off : Int} {tgt : Nat} (d : decode M.2.1 pc = .ok (.if_icmp .ge off, 3)) (hq : pc + 3 = q) (ht : (pc : Int) + off = (tgt : Int)) (kt : y ≤ x → PW M mc ms Q tgt L S n σ cs sl) (kf : ¬ y ≤ x → PW M mc ms Q q L S n σ cs sl) : PW M mc ms Q pc L (.int y :: .int x :: S) n σ cs sl := by
  subst hq
  exact fun p l e s m args below meth c D aC h0 H locs ls hC hh hz hW hS hL => lv_icmp_ge hC.1 hC.2.1 d ht (fun h => kt h p l e s m args below meth c D aC h0 H locs ls hC hh hz hW hS hL) (fun h => kf h p l e s m args below meth c D aC h0 H locs ls hC hh hz hW hS hL)
theorem P_if_gt {x : Int32} {off : Int} {tgt : Nat} (d : decode M.2.1 pc = .ok (.ifCond .gt off, 3)) (hq : pc + 3 = q) (ht : (pc : Int) + off = (tgt : Int)) (kt : 0 < x → PW M mc ms Q tgt L S n σ cs sl) (kf : ¬ 0 < x → PW M mc ms Q q L S n σ cs sl) : PW M mc ms Q pc L (.int x :: S) n σ cs sl := by
  subst hq
  exact fun p l e s m args below meth c D aC h0 H locs ls hC hh hz hW hS hL => lv_if_gt hC.1 hC.2.1 d ht (fun h => kt h p l e s m args below meth c D aC h0 H locs ls hC hh hz hW hS hL) (fun h => kf h p l e s m args below meth c D aC h0 H locs ls hC hh hz hW hS hL)
theorem P_icmp_gt {x y : Int32} {off : Int} {tgt : Nat} (d : decode M.2.1 pc = .ok (.if_icmp .gt off, 3)) (hq : pc + 3 = q) (ht : (pc : Int) + off = (tgt : Int)) (kt : y < x → PW M mc ms Q tgt L S n σ cs sl) (kf : ¬ y < x → PW M mc ms Q q L S n σ cs sl) : PW M mc ms Q pc L (.int y :: .int x :: S) n σ cs sl := by
  subst hq
  exact fun p l e s m args below meth c D aC h0 H locs ls hC hh hz hW hS hL => lv_icmp_gt hC.1 hC.2.1 d ht (fun h => kt h p l e s m args below meth c D aC h0 H locs ls hC hh hz hW hS hL) (fun h => kf h p l e s m args below meth c D aC h0 H locs ls hC hh hz hW hS hL)
theorem P_if_le {x : Int32} {off : Int} {tgt : Nat} (d : decode M.2.1 pc = .ok (.ifCond .le off, 3)) (hq : pc + 3 = q) (ht : (pc : Int) + off = (tgt : Int)) (kt : x ≤ 0 → PW M mc ms Q tgt L S n σ cs sl) (kf : ¬ x ≤ 0 → PW M mc ms Q q L S n σ cs sl) : PW M mc ms Q pc L (.int x :: S) n σ cs sl := by
  subst hq
  exact fun p l e s m args below meth c D aC h0 H locs ls hC hh hz hW hS hL => lv_if_le hC.1 hC.2.1 d ht (fun h => kt h p l e s m args below meth c D aC h0 H locs ls hC hh hz hW hS hL) (fun h => kf h p l e s m args below meth c D aC h0 H locs ls hC hh hz hW hS hL)
theorem P_icmp_le {x y : Int32} {off : Int} {tgt : Nat} (d : decode M.2.1 pc = .ok (.if_icmp .le off, 3)) (hq : pc + 3 = q) (ht : (pc : Int) + off = (tgt : Int)) (kt : x ≤ y → PW M mc ms Q tgt L S n σ cs sl) (kf : ¬ x ≤ y → PW M mc ms Q q L S n σ cs sl) : PW M mc ms Q pc L (.int y :: .int x :: S) n σ cs sl := by
  subst hq
  exact fun p l e s m args below meth c D aC h0 H locs ls hC hh hz hW hS hL => lv_icmp_le hC.1 hC.2.1 d ht (fun h => kt h p l e s m args below meth c D aC h0 H locs ls hC hh hz hW hS hL) (fun h => kf h p l e s m args below meth c D aC h0 H locs ls hC hh hz hW hS hL)
theorem P_goto {off : Int} {tgt : Nat} (d : decode M.2.1 pc = .ok (.goto off, 3)) (ht : (pc : Int) + off = (tgt : Int)) (k : PW M mc ms Q tgt L S n σ cs sl) : PW M mc ms Q pc L S n σ cs sl :=
  P_step (fun p l e R s m args below meth c D aC h0 H locs ls Qm hC hL kk => lv_goto hC.1 hC.2.1 d ht (kk ls hL)) k
theorem P_tabOut {dflt lo hi : Int} {offs : Array Int} {len : Nat} {x : Int32} {tgt : Nat} (d : decode M.2.1 pc = .ok (.tableswitch dflt lo hi offs, len)) (h : x.toInt < lo ∨ hi < x.toInt) (ht : (pc : Int) + dflt = (tgt : Int)) (k : PW M mc ms Q tgt L S n σ cs sl) : PW M mc ms Q pc L (.int x :: S) n σ cs sl :=
  P_step (fun p l e R s m args below meth c D aC h0 H locs ls Qm hC hL kk => lv_tableOut hC.1 hC.2.1 d h ht (kk ls hL)) k
theorem P_tabIn {dflt lo hi : Int} {offs : Array Int} {len : Nat} {x : Int32} {off : Int} {tgt : Nat} (d : decode M.2.1 pc = .ok (.tableswitch dflt lo hi offs, len)) (h1 : ¬ x.toInt < lo) (h2 : ¬ hi < x.toInt) (ho : offs[(x.toInt - lo).toNat]? = some off) (ht : (pc : Int) + off = (tgt : Int)) (k : PW M mc ms Q tgt L S n σ cs sl) : PW M mc ms Q pc L (.int x :: S) n σ cs sl :=
  P_step (fun p l e R s m args below meth c D aC h0 H locs ls Qm hC hL kk => lv_tableIn hC.1 hC.2.1 d h1 h2 ho ht (kk ls hL)) k
/-- the ends -/
theorem P_iret {v : Int32} {ty : FieldType} (d : decode M.2.1 pc = .ok (.ireturn, 1)) (hr : M.2.2.2.1 = some ty) (hn : narrow ty (.int v) = .int v) (hQ : Q (some (.int v)) σ) : PW M mc ms Q pc L [.int v] n σ mc ms :=
  fun p l e s m args below meth c D aC h0 H locs ls hC hh hz hW hS hL => W.zret hC.1 hC.2.1 (hC.2.2.2.2.2.2.2.1.trans hr) hn (fun t ht _ => ⟨⟨some (.int v), n, σ, rfl, hQ, by rw [ht]; exact hW, hz⟩, hS.F ht⟩) hS.2.2 d hC.2.2.2.2.2.2.1
theorem P_lret {v : Int64} (d : decode M.2.1 pc = .ok (.lreturn, 1)) (hr : M.2.2.2.1 = some .long) (hQ : Q (some (.long v)) σ) : PW M mc ms Q pc L [.long v] n σ mc ms :=
  fun p l e s m args below meth c D aC h0 H locs ls hC hh hz hW hS hL => W.lret hC.1 hC.2.1 (hC.2.2.2.2.2.2.2.1.trans hr) (fun t ht _ => ⟨⟨some (.long v), n, σ, rfl, hQ, by rw [ht]; exact hW, hz⟩, hS.F ht⟩) hS.2.2 d hC.2.2.2.2.2.2.1
theorem P_fret {v : UInt32} (d : decode M.2.1 pc = .ok (.freturn, 1)) (hr : M.2.2.2.1 = some .float) (hQ : Q (some (.float v)) σ) : PW M mc ms Q pc L [.float v] n σ mc ms :=
  fun p l e s m args below meth c D aC h0 H locs ls hC hh hz hW hS hL => W.fret hC.1 hC.2.1 (hC.2.2.2.2.2.2.2.1.trans hr) (fun t ht _ => ⟨⟨some (.float v), n, σ, rfl, hQ, by rw [ht]; exact hW, hz⟩, hS.F ht⟩) hS.2.2 d hC.2.2.2.2.2.2.1
theorem P_vret (d : decode M.2.1 pc = .ok (.return_, 1)) (hr : M.2.2.2.1 = none) (hQ : Q none σ) : PW M mc ms Q pc L [] n σ mc ms :=
  fun p l e s m args below meth c D aC h0 H locs ls hC hh hz hW hS hL => W.vret hC.1 hC.2.1 (hC.2.2.2.2.2.2.2.1.trans hr) (fun t ht _ => ⟨⟨none, n, σ, rfl, hQ, by rw [ht]; exact hW, hz⟩, hS.F ht⟩) hS.2.2 d hC.2.2.2.2.2.2.1
end PWR
end
section
/-! RULES OF PW FOR CELLS AND CALLS -/
def CLS (ci : Nat) (C : String) (T : u_T) (N : Nat) : Prop := vwCl[ci]? = some (C, T, N) ∧ (∀ w ∈ u_ws C T N, w ∈ lw_w) ∧ (∃ ty0 : Nat → FieldType, ∀ k, k < N → parseFieldDescriptor (T k).2.2.1 = some (ty0 k)) ∧ (∀ a, a < N → ∀ b, b < N → a ≠ b → (T a).2.1 ≠ (T b).2.1)
def LkX (own : String) (idx : Nat) (T : u_T) (k : Nat) : Prop := Cond.fieldLink own idx (T k).1 (T k).2.1 (T k).2.2.1 ∈ lw_w ∨ ∃ host : String, Cond.fieldLinkNest own idx (T k).1 (T k).2.1 (T k).2.2.1 host ∈ lw_x
def LkF (own : String) (idx ci k : Nat) : Prop := ∃ (C : String) (T : u_T) (N : Nat), CLS ci C T N ∧ k < N ∧ LkX own idx T k
def LkP (own : String) (idx ci k : Nat) (ty : FieldType) : Prop := ∃ (C : String) (T : u_T) (N : Nat), CLS ci C T N ∧ k < N ∧ LkX own idx T k ∧ parseFieldDescriptor (T k).2.2.1 = some ty ∧ (T k).2.2.2 = false
def LkQ (own : String) (idx ci k : Nat) (ty : FieldType) : Prop := ∃ (C : String) (T : u_T) (N : Nat), CLS ci C T N ∧ k < N ∧ Cond.fieldLink own idx (T k).1 (T k).2.1 (T k).2.2.1 ∈ lw_w ∧ parseFieldDescriptor (T k).2.2.1 = some ty ∧ (T k).2.2.2 = true ∧ (T k).1 = own
theorem W_sz {p : Program} {l : Launch} {e : Env} {R : Room} {s : State} {m : MethodId} {args : Array Value} {below : List Frame} {meth : Method} {c : Code} {H : Heap} {locs : List Loc} {cells slots : Nat} {Qm : State → Prop} {g : JFrame} (k : H.size ≤ s.heap.size + cells → W p l e R s m args below meth c H locs cells slots Qm g) : W p l e R s m args below meth c H locs cells slots Qm g := fun T hT X => k (hT ▸ X.heapSize) T hT X
theorem pw_W_mk {D : va_G} {aC : FieldType → ClassId} {h0 n : Nat} {σ : Sto} {H : Heap} (hP : va_P D vwCl (pw_wl h0 aC n σ) H) (h1 : h0 ≤ H.size) (h2 : H.size ≤ h0 + n) : pw_W D aC h0 n σ H := by
  refine ⟨hP, ?_⟩
  cases n with
  | zero => omega
  | succ n =>
    have := (hP n _ (pw_wl_at (Nat.lt_succ_self n))).lt
    have h3 : h0 + n < H.size := this
    omega
theorem pw_at {D : va_G} {aC : FieldType → ClassId} {h0 n a : Nat} {σ : Sto} {c : PC} (ha : a < n) (hσ : σ a = c) : (pw_wl h0 aC n σ)[a]? = some (h0 + a, pw_tr h0 aC c) := by
  rw [← hσ]; exact pw_wl_at ha
section PWH
variable {M : Mth} {mc ms : Nat} {Q : Option Value → Sto → Prop} {pc q n cs sl : Nat} {L : List (Option Value)} {S : List Value} {σ : Sto}
theorem P_get {idx a ci k : Nat} {fs : List Value} {v : Value} (d : decode M.2.1 pc = .ok (.getfield idx, 3)) (hq : pc + 3 = q) (hf : LkF M.1.cls idx ci k) (ha : a < n) (hσ : σ a = pO ci fs) (hv : fs[k]? = some v) (kk : PW M mc ms Q q L (v :: S) n σ cs sl) : PW M mc ms Q pc L (.ref a :: S) n σ cs sl := by
  subst hq
  intro p l e s m args below meth c D aC h0 H locs ls hC hh hz hW hS hL
  obtain ⟨C, T, N, ⟨hc, hin, -, -⟩, hk, hl⟩ := hf
  have he := pw_at (D := D) (aC := aC) (h0 := h0) ha hσ
  have hv' : (fs.map (pw_tv h0))[k]? = some (pw_tv h0 v) := by simp [hv]
  have kk' := kk p l e s m args below meth c D aC h0 H locs ls hC hh hz hW hS hL
  rcases hl with hl | ⟨host, hl⟩
  · exact va_get hC.1 hC.2.1 hC.2.2.2.2.1 hin hC.2.2.2.1 hC.2.2.2.2.2.1.1 hW.1 a he hc k hk (hC.2.2.2.2.1 _ hl) (fun _ h => h) hv' d kk'
  · exact va_getN hC.1 hC.2.1 hC.2.2.2.2.1 hin hC.2.2.2.1 hC.2.2.2.2.2.1.1 hW.1 a he hc k hk (va_Nw.use rfl (hC.2.2.2.2.2.1.2.1 _ hl)) (fun _ h => h) hv' d kk'
/-- behind a store into the cell a -/
theorem pw_back {a : Nat} {cx : PC} {σ' : Sto} (hs : va_up σ a cx = σ') {pc' : Nat} {L' : List (Option Value)} {S' : List Value} (kk : PW M mc ms Q pc' L' S' n σ' cs sl) {p : Program} {l : Launch} {e : Env} {s : State} {m : MethodId} {args : Array Value} {below : List Frame} {meth : Method} {c : Code} {D : va_G} {aC : FieldType → ClassId} {h0 : Nat} {H1 : Heap} {locs1 : List Loc} {ls : Array Slot}
    (hC : pw_C p s m args meth c M D aC) (hh : h0 ≤ s.heap.size) (hz : s.heap.size + cs = h0 + n) (hL : pw_L h0 L' ls M.2.2.1) {x : va_E} (hx : x = pw_tr h0 aC cx) (hP : va_P D vwCl ((pw_wl h0 aC n σ).set a (h0 + a, x)) H1) (hS : va_S (fun q => h0 ≤ q) s.heap H1 locs1) :
    W p l e (pw_rm M.2.2.2.2 mc ms) s m args below meth c H1 locs1 cs sl (MQ below (pw_Q D aC h0 mc Q) args s mc ms (fun q => h0 ≤ q)) (F0 m pc' ls (S'.map (pw_tv h0))) := by
  subst hx
  rw [pw_wl_set, hs] at hP
  refine W_sz fun h2 => ?_
  exact kk p l e s m args below meth c D aC h0 H1 locs1 ls hC hh hz (pw_W_mk hP (Nat.le_trans hh hS.1) (by omega)) hS hL
theorem P_put {idx a ci k : Nat} {fs fs' : List Value} {v : Value} {ty : FieldType} {σ' : Sto} (d : decode M.2.1 pc = .ok (.putfield idx, 3)) (hq : pc + 3 = q) (hf : LkP M.1.cls idx ci k ty) (ha : a < n) (hσ : σ a = pO ci fs) (hn : ∀ h0, narrow ty (pw_tv h0 v) = pw_tv h0 v) (ht : ∀ h0, fits ty (pw_tv h0 v) = true) (hl : k < fs.length) (hs : fs.set k v = fs') (hs' : va_up σ a (pO ci fs') = σ') (kk : PW M mc ms Q q L S n σ' cs sl) : PW M mc ms Q pc L (v :: .ref a :: S) n σ cs sl := by
  subst hq
  intro p l e s m args below meth c D aC h0 H locs ls hC hh hz hW hS hL
  obtain ⟨C, T, N, ⟨hc, hin, ⟨ty0, hty⟩, hnm⟩, hk, hlk, hd, hfin⟩ := hf
  have he := pw_at (D := D) (aC := aC) (h0 := h0) ha hσ
  have hlen : k < (fs.map (pw_tv h0)).length := by simpa using hl
  have hx : (Sum.inr (ci, (fs.map (pw_tv h0)).set k (pw_tv h0 v)) : va_E) = pw_tr h0 aC (pO ci fs') := by
    show _ = (Sum.inr (ci, fs'.map (pw_tv h0)) : va_E)
    rw [← hs, List.map_set]
  rcases hlk with hlk | ⟨host, hlk⟩
  · exact va_put hC.1 hC.2.1 hC.2.2.2.2.1 hin ty0 hty hnm hC.2.2.2.1 hC.2.2.2.2.2.1.1 hW.1 (pw_D h0 aC n σ) hS a he hc k hk (hC.2.2.2.2.1 _ hlk) (fun _ h => h) hfin hd (hn h0) (ht h0) hlen d (fun H1 locs1 hP _ hS1 => pw_back hs' kk hC hh hz hL hx hP hS1)
  · exact va_putN hC.1 hC.2.1 hC.2.2.2.2.1 hin ty0 hty hnm hC.2.2.2.1 hC.2.2.2.2.2.1.1 hW.1 (pw_D h0 aC n σ) hS a he hc k hk (va_Nw.use rfl (hC.2.2.2.2.2.1.2.1 _ hlk)) (fun _ h => h) hfin hd (hn h0) (ht h0) hlen d (fun H1 locs1 hP _ hS1 => pw_back hs' kk hC hh hz hL hx hP hS1)
theorem P_putF {idx a ci k : Nat} {fs fs' : List Value} {v : Value} {ty : FieldType} {σ' : Sto} (d : decode M.2.1 pc = .ok (.putfield idx, 3)) (hq : pc + 3 = q) (hf : LkQ M.1.cls idx ci k ty) (hi : M.1.name = "<init>") (ha : a < n) (hσ : σ a = pO ci fs) (hn : ∀ h0, narrow ty (pw_tv h0 v) = pw_tv h0 v) (ht : ∀ h0, fits ty (pw_tv h0 v) = true) (hl : k < fs.length) (hs : fs.set k v = fs') (hs' : va_up σ a (pO ci fs') = σ') (kk : PW M mc ms Q q L S n σ' cs sl) : PW M mc ms Q pc L (v :: .ref a :: S) n σ cs sl := by
  subst hq
  intro p l e s m args below meth c D aC h0 H locs ls hC hh hz hW hS hL
  obtain ⟨C, T, N, ⟨hc, hin, ⟨ty0, hty⟩, hnm⟩, hk, hlk, hd, hfin, hdecl⟩ := hf
  have he := pw_at (D := D) (aC := aC) (h0 := h0) ha hσ
  have hlen : k < (fs.map (pw_tv h0)).length := by simpa using hl
  have hx : (Sum.inr (ci, (fs.map (pw_tv h0)).set k (pw_tv h0 v)) : va_E) = pw_tr h0 aC (pO ci fs') := by
    show _ = (Sum.inr (ci, fs'.map (pw_tv h0)) : va_E)
    rw [← hs, List.map_set]
  exact va_putF hC.1 hC.2.1 hC.2.2.2.2.1 hin ty0 hty hnm hC.2.2.2.1 hC.2.2.2.2.2.1.1 hW.1 (pw_D h0 aC n σ) hS a he hc k hk (hC.2.2.2.2.1 _ hlk) (fun _ h => h) hfin (hC.2.2.2.2.2.2.2.2.trans hi) hdecl hd (hn h0) (ht h0) hlen d (fun H1 locs1 hP _ hS1 => pw_back hs' kk hC hh hz hL hx hP hS1)
/-- arrays; an index is told as a number -/
theorem P_iald {a N j : Nat} {f : Nat → Int32} {i : Int32} (d : decode M.2.1 pc = .ok (.iaload, 1)) (hq : pc + 1 = q) (ha : a < n) (hσ : σ a = pI .int N f) (hi : i = nI j) (hj : j < N) (hN : N < 2 ^ 31) (kk : PW M mc ms Q q L (.int (f j) :: S) n σ cs sl) : PW M mc ms Q pc L (.int i :: .ref a :: S) n σ cs sl := by
  subst hq; subst hi
  intro p l e s m args below meth c D aC h0 H locs ls hC hh hz hW hS hL
  have he := pw_at (D := D) (aC := aC) (h0 := h0) ha hσ
  have kk' := kk p l e s m args below meth c D aC h0 H locs ls hC hh hz hW hS hL
  refine va_iald hC.1 hC.2.1 hC.2.2.2.2.2.1.1 hW.1 a 0 he rfl (vp_in_nI hj hN) d ?_
  rw [nI_clamp (by omega)]
  exact kk'
theorem P_cald {a N j : Nat} {f : Nat → Int32} {i : Int32} (d : decode M.2.1 pc = .ok (.caload, 1)) (hq : pc + 1 = q) (ha : a < n) (hσ : σ a = pI .char N f) (hi : i = nI j) (hj : j < N) (hN : N < 2 ^ 31) (kk : PW M mc ms Q q L (.int (f j) :: S) n σ cs sl) : PW M mc ms Q pc L (.int i :: .ref a :: S) n σ cs sl := by
  subst hq; subst hi
  intro p l e s m args below meth c D aC h0 H locs ls hC hh hz hW hS hL
  have he := pw_at (D := D) (aC := aC) (h0 := h0) ha hσ
  have kk' := kk p l e s m args below meth c D aC h0 H locs ls hC hh hz hW hS hL
  refine va_cald hC.1 hC.2.1 hC.2.2.2.2.2.1.1 hW.1 a 1 he rfl (vp_in_nI hj hN) d ?_
  rw [nI_clamp (by omega)]
  exact kk'
theorem P_qald {a N j b : Nat} {ty : FieldType} {g : Nat → Option Nat} {i : Int32} (t0 : Nat) (ht : ∀ aC : FieldType → ClassId, (pw_tys aC)[t0]? = some (aC ty, ty)) (hty : ty.isReference = true) (d : decode M.2.1 pc = .ok (.aaload, 1)) (hq : pc + 1 = q) (ha : a < n) (hσ : σ a = pR ty N g) (hi : i = nI j) (hj : j < N) (hN : N < 2 ^ 31) (hb : g j = some b) (kk : PW M mc ms Q q L (.ref b :: S) n σ cs sl) : PW M mc ms Q pc L (.int i :: .ref a :: S) n σ cs sl := by
  subst hq; subst hi
  intro p l e s m args below meth c D aC h0 H locs ls hC hh hz hW hS hL
  have he := pw_at (D := D) (aC := aC) (h0 := h0) ha hσ
  have kk' := kk p l e s m args below meth c D aC h0 H locs ls hC hh hz hW hS hL
  have hcell := hW.1 a _ he
  refine W.aald (v := .ref (h0 + b)) (ty := ty) hC.1 hC.2.1 hcell ((hC.2.2.2.2.2.1.1.2 t0 _ (ht aC)).1 N (fun j => va_rf ((g j).map (fun k => h0 + k)))) hty (fun q => by cases q) (by show ¬ (_ ∨ (arrV _ _ _).slots.size ≤ _); rw [arrV_size]; exact vp_in_nI hj hN) ?_ rfl rfl d kk'
  rw [nI_clamp (by omega)]
  show (arrV _ _ _).slots[_]? = _
  rw [arrV_read _ _ hj]
  show some (va_rf ((g j).map (fun k => h0 + k))) = _
  rw [hb]
  rfl
theorem P_iast {a N j : Nat} {f f' : Nat → Int32} {i x : Int32} {σ' : Sto} (d : decode M.2.1 pc = .ok (.iastore, 1)) (hq : pc + 1 = q) (ha : a < n) (hσ : σ a = pI .int N f) (hi : i = nI j) (hj : j < N) (hN : N < 2 ^ 31) (hf : upd f j x = f') (hs : va_up σ a (pI .int N f') = σ') (kk : PW M mc ms Q q L S n σ' cs sl) : PW M mc ms Q pc L (.int x :: .int i :: .ref a :: S) n σ cs sl := by
  subst hq; subst hi
  intro p l e s m args below meth c D aC h0 H locs ls hC hh hz hW hS hL
  have he := pw_at (D := D) (aC := aC) (h0 := h0) ha hσ
  refine va_iast hC.1 hC.2.1 hC.2.2.2.2.2.1.1 hW.1 (pw_D h0 aC n σ) hS a 0 he rfl (vp_in_nI hj hN) d (fun H1 locs1 hP _ hS1 => pw_back hs kk hC hh hz hL ?_ hP hS1)
  rw [nI_clamp (by omega), hf]
  rfl
theorem P_cast {a N j : Nat} {f f' : Nat → Int32} {i x : Int32} {σ' : Sto} (d : decode M.2.1 pc = .ok (.castore, 1)) (hq : pc + 1 = q) (ha : a < n) (hσ : σ a = pI .char N f) (hi : i = nI j) (hj : j < N) (hN : N < 2 ^ 31) (hf : upd f j (vp_nar .char x) = f') (hs : va_up σ a (pI .char N f') = σ') (kk : PW M mc ms Q q L S n σ' cs sl) : PW M mc ms Q pc L (.int x :: .int i :: .ref a :: S) n σ cs sl := by
  subst hq; subst hi
  intro p l e s m args below meth c D aC h0 H locs ls hC hh hz hW hS hL
  have he := pw_at (D := D) (aC := aC) (h0 := h0) ha hσ
  refine va_cast hC.1 hC.2.1 hC.2.2.2.2.2.1.1 hW.1 (pw_D h0 aC n σ) hS a 1 he rfl (vp_in_nI hj hN) d (fun H1 locs1 hP _ hS1 => pw_back hs kk hC hh hz hL ?_ hP hS1)
  rw [nI_clamp (by omega), hf]
  rfl
theorem P_ilen {a N : Nat} {ty : FieldType} {f : Nat → Int32} (t0 : Nat) (ht : ∀ aC : FieldType → ClassId, (pw_tys aC)[t0]? = some (aC ty, ty)) (d : decode M.2.1 pc = .ok (.arraylength, 1)) (hq : pc + 1 = q) (ha : a < n) (hσ : σ a = pI ty N f) (kk : PW M mc ms Q q L (.int (nI N) :: S) n σ cs sl) : PW M mc ms Q pc L (.ref a :: S) n σ cs sl := by
  subst hq
  intro p l e s m args below meth c D aC h0 H locs ls hC hh hz hW hS hL
  exact va_alen hC.1 hC.2.1 hC.2.2.2.2.2.1.1 hW.1 a t0 (pw_at (D := D) (aC := aC) (h0 := h0) ha hσ) (ht aC) rfl d (kk p l e s m args below meth c D aC h0 H locs ls hC hh hz hW hS hL)
end PWH
end
section
/-! CALLS -/
theorem lw_good : ∀ w ∈ lw_w, (w.onTables && w.keeps) = true ∨ ∃ ty, w = .arrayClass ty := fun _ hw => good_of_word (List.mem_filter.mp hw).2
/-- what the tables say of a method -/
def MOK (M : Mth) (na : Nat) : Prop := Cond.code M.1 M.2.1 M.2.2.1 M.2.2.2.1 ∈ lw_w ∧ Cond.initialized M.1.cls ∈ lw_w ∧ (M.1.cls ≠ "java/lang/invoke/MethodHandle" ∧ M.1.cls ≠ "java/lang/invoke/VarHandle" ∧ (parseMethodDescriptor M.1.desc).map (fun d => d.parameters.length) = some na)
def LkS (own : String) (idx : Nat) (M : Mth) (na : Nat) : Prop := MOK M na ∧ Cond.methodLink own idx M.1 ∈ lw_w ∧ Cond.static M.1 ∈ lw_w
def LkV (own : String) (idx : Nat) (M : Mth) (na : Nat) : Prop := MOK M na ∧ Cond.methodLink own idx M.1 ∈ lw_w ∧ Cond.instanceMethod M.1 ∈ lw_w ∧ Cond.selects M.1.cls M.1 M.1 ∈ lw_w
def LkI (own : String) (idx : Nat) (M : Mth) (na : Nat) : Prop := MOK M na ∧ (Cond.methodLink own idx M.1 ∈ lw_w ∨ ∃ host : String, Cond.methodLinkNest own idx M.1 host ∈ lw_x) ∧ Cond.instanceMethod M.1 ∈ lw_w ∧ M.1.name = "<init>" ∧ M.2.2.2.1 = none
theorem MOK.gin {M : Mth} {na : Nat} (h : MOK M na) : GoodIn lw_w (Cond.code M.1 M.2.1 M.2.2.1 M.2.2.2.1 :: lw_w) := by
  intro w hw
  rcases List.mem_cons.mp hw with rfl | hw
  · exact ⟨h.1, lw_good _ h.1⟩
  · exact ⟨hw, lw_good _ hw⟩
theorem pw_blind {D : va_G} {aC : FieldType → ClassId} {h0 n : Nat} {σ : Sto} {As : List Value} : FrameBlind (va_Pc As (fun U => pw_W D aC h0 n σ U.heap ∧ pw_K D aC U)) := by
  intro a U g mk h
  obtain ⟨h1, h2, h3⟩ := h
  exact ⟨h1, h2, pw_K.same (u := U) (U := U.calling g mk a) rfl h3⟩
theorem pw_map_rev (h0 : Nat) (As S : List Value) : (As.reverse ++ S).map (pw_tv h0) = (As.map (pw_tv h0)).reverse ++ S.map (pw_tv h0) := by
  rw [List.map_append, List.map_reverse]
theorem pw_map_cat (h0 : Nat) (S : List Value) : ((S.map (pw_tv h0)).map fun v => v.category).sum = (S.map fun v => v.category).sum := by
  rw [List.map_map]
  congr 1
  apply List.map_congr_left
  intro v _
  exact pw_tv_cat h0 v
section PWK
variable {p : Program} {l : Launch} {e : Env} {R : Room} {s : State} {m : MethodId} {args : Array Value} {below : List Frame} {meth : Method} {c : Code} {H : Heap} {locs : List Loc} {cs sl : Nat} {Qm : State → Prop}
variable {D : va_G} {aC : FieldType → ClassId} {h0 n pc : Nat} {σ : Sto} {ls : Array Slot}
variable {N : Mth} {mc' ms' na idx : Nat} {As : List Value} {Q' : Option Value → Sto → Prop} {own : String} {cc : ByteArray} {nL : Nat}
/-- the room that a call of N wants -/
def pw_fit (N : Mth) (R : Room) : Prop := N.2.2.2.2 + 1 ≤ R.frames ∧ 8 + (N.2.2.1 + 11) + 37 * N.2.2.2.2 ≤ R.locals
theorem pw_after {st rest : List Value} {a : Array Value} (hr : va_Run p l e R s m args below meth c H locs cs sl mc' ms' (F0 m pc ls st) rest (pw_Q D aC h0 mc' Q' a) (fun q => h0 ≤ q)) (hS : va_S (fun q => h0 ≤ q) s.heap H locs) (hW : pw_W D aC h0 n σ H)
    (kk : ∀ (v : Option Value) (σ' : Sto) (H1 : Heap) (locs1 : List Loc), Q' v σ' → pw_W D aC h0 (n + mc') σ' H1 → va_S (fun q => h0 ≤ q) s.heap H1 locs1 → W p l e R s m args below meth c H1 locs1 (cs + mc') (sl + ms') Qm (F0 m (pc + 3) ls ((v.map (pw_tv h0)).toList ++ rest))) : W p l e R s m args below meth c H locs cs sl Qm (F0 m pc ls st) := by
  intro T hT X
  obtain ⟨v, st₀, t, T', Lc, e0, X', hL, e1, e2, ⟨⟨v', n', σ', hv, hQ, hW', hz'⟩, hz, hk⟩, go⟩ := hr T hT X
  cases hv
  rw [e0] at hz hk hz'
  have hn : n' = n + mc' := by have := hW.2; omega
  subst hn
  obtain ⟨t2, a1, b1⟩ := kk v' σ' T'.heap (locs ++ Lc) hQ (by rw [e1]; exact hW') ⟨Nat.le_trans hS.1 (by rw [e1]; exact hz), fun q h1 h2 => by rw [e1, hk q (Nat.lt_of_lt_of_le h1 hS.1) h2]; exact hS.2.1 q h1 h2, fun q hq => by
      rcases List.mem_append.mp hq with h | h
      · exact hS.2.2 q h
      · exact hL q h⟩ T' rfl X'
  exact ⟨t2, go t2 a1, b1⟩
theorem pw_calls {S : List Value} (hx : p.tables.exec = Jvm.exec) (hb : c.code = cc) (hml : c.maxLocals = nL) (hown : s.vm.findClass own = some m.cls) (hts : ∀ w ∈ lw_w, w.before args s = true) (hK : pw_K D aC s) (hW : pw_W D aC h0 n σ H) (hls : ls.size = nL)
    (hM : CP N mc' ms' As n σ Q') (hl : LkS own idx N na) (hna : As.length = na) (hR : pw_fit N R) (hsum : (S.map fun v => v.category).sum ≤ 8) (d : decode cc pc = .ok (.invokestatic idx, 3)) (hf : cs + mc' ≤ R.cells ∧ sl + ms' ≤ R.slots) :
    va_Run p l e R s m args below meth c H locs cs sl mc' ms' (F0 m pc ls ((As.reverse ++ S).map (pw_tv h0))) (S.map (pw_tv h0)) (pw_Q D aC h0 mc' Q' (As.map (pw_tv h0)).toArray) (fun q => h0 ≤ q) := by
  obtain ⟨hok, hl1, hl2⟩ := hl
  exact va_runS (As := As.map (pw_tv h0)) ⟨hx, hb, hml, hown, hts⟩ (hM l D aC h0) ⟨callB_of na hts hok.gin rfl rfl rfl (hts _ hok.2.1) (hts _ hl1) hok.2.2 hR, hts _ hl2⟩
    ⟨pw_blind, fun U hU hWm => ⟨rfl, by rw [hU]; exact hW, hK.warm hWm⟩⟩ rfl (by rw [List.length_map]; exact hna) hls (pw_map_rev h0 As S) (lv_room (by rw [pw_map_cat]; exact hsum)) d hf
theorem pw_callv {S : List Value} {b ci : Nat} {fs : List Value} (hx : p.tables.exec = Jvm.exec) (hb : c.code = cc) (hml : c.maxLocals = nL) (hown : s.vm.findClass own = some m.cls) (hts : ∀ w ∈ lw_w, w.before args s = true) (hK : pw_K D aC s) (hW : pw_W D aC h0 n σ H) (hls : ls.size = nL)
    (hM : CP N mc' ms' (.ref b :: As) n σ Q') (hl : LkV own idx N na) (hna : As.length = na) (hbn : b < n) (hσ : σ b = pO ci fs) (hci : (vwCl[ci]?).map (fun q => q.1) = some N.1.cls) (hR : pw_fit N R) (hsum : (S.map fun v => v.category).sum ≤ 8) (d : decode cc pc = .ok (.invokevirtual idx, 3)) (hf : cs + mc' ≤ R.cells ∧ sl + ms' ≤ R.slots) :
    va_Run p l e R s m args below meth c H locs cs sl mc' ms' (F0 m pc ls ((As.reverse ++ .ref b :: S).map (pw_tv h0))) (S.map (pw_tv h0)) (pw_Q D aC h0 mc' Q' ((.ref b :: As).map (pw_tv h0)).toArray) (fun q => h0 ≤ q) := by
  obtain ⟨hok, hl1, hl2, hl3⟩ := hl
  obtain ⟨r, hr1, hr2⟩ := Option.map_eq_some_iff.mp hci
  have hrec := va_recv hK.1 hW.1 hr1 (pw_at (D := D) (aC := aC) (h0 := h0) hbn hσ)
  rw [hr2] at hrec
  exact va_runV (As := As.map (pw_tv h0)) (b := h0 + b) ⟨hx, hb, hml, hown, hts⟩ (hM l D aC h0) ⟨callB_of na hts hok.gin rfl rfl rfl (hts _ hok.2.1) (hts _ hl1) hok.2.2 hR, hts _ hl2, hts _ hl3⟩
    ⟨pw_blind, hrec, fun U hU hWm => ⟨rfl, by rw [hU]; exact hW, hK.warm hWm⟩⟩ rfl (by rw [List.length_map]; exact hna) hls (pw_map_rev h0 As (.ref b :: S)) (lv_room (by rw [pw_map_cat]; exact hsum)) d hf
theorem pw_calli {S : List Value} {b : Nat} (hx : p.tables.exec = Jvm.exec) (hb : c.code = cc) (hml : c.maxLocals = nL) (hown : s.vm.findClass own = some m.cls) (hts : ∀ w ∈ lw_w, w.before args s = true) (hK : pw_K D aC s) (hW : pw_W D aC h0 n σ H) (hls : ls.size = nL)
    (hM : CP N mc' ms' (.ref b :: As) n σ Q') (hl : LkI own idx N na) (hna : As.length = na) (hR : pw_fit N R) (hsum : (S.map fun v => v.category).sum ≤ 8) (d : decode cc pc = .ok (.invokespecial idx, 3)) (hf : cs + mc' ≤ R.cells ∧ sl + ms' ≤ R.slots) :
    va_Run p l e R s m args below meth c H locs cs sl mc' ms' (F0 m pc ls ((As.reverse ++ .ref b :: S).map (pw_tv h0))) (S.map (pw_tv h0)) (pw_Q D aC h0 mc' Q' ((.ref b :: As).map (pw_tv h0)).toArray) (fun q => h0 ≤ q) := by
  obtain ⟨hok, hl1, hl2, hl3, hl4⟩ := hl
  have hM' := hM l D aC h0
  obtain ⟨y, bytes, maxL, ret, dep⟩ := N
  dsimp only at hl4
  subst hl4
  rcases hl1 with hl1 | ⟨host, hl1⟩
  · exact va_runI (As := As.map (pw_tv h0)) (b := h0 + b) ⟨hx, hb, hml, hown, hts⟩ hM' ⟨callB_of na hts hok.gin rfl rfl rfl (hts _ hok.2.1) (hts _ hl1) hok.2.2 hR, hl3, hts _ hl2⟩
      ⟨pw_blind, fun U hU hWm => ⟨rfl, by rw [hU]; exact hW, hK.warm hWm⟩⟩ rfl (by rw [List.length_map]; exact hna) hls (pw_map_rev h0 As (.ref b :: S)) (lv_room (by rw [pw_map_cat]; exact hsum)) d hf
  · exact va_runIN (As := As.map (pw_tv h0)) (b := h0 + b) ⟨hx, hb, hml, hown, hts⟩ hM' ⟨va_cnB na hts hok.gin rfl rfl rfl (hK.2.1 _ hl1) (hts _ hok.2.1) hok.2.2 hR, hl3, hts _ hl2⟩
      ⟨pw_blind, fun U hU hWm => ⟨rfl, by rw [hU]; exact hW, hK.warm hWm⟩⟩ rfl (by rw [List.length_map]; exact hna) hls (pw_map_rev h0 As (.ref b :: S)) (lv_room (by rw [pw_map_cat]; exact hsum)) d hf
end PWK
section PWC
variable {M : Mth} {mc ms : Nat} {Q : Option Value → Sto → Prop} {pc q n cs sl : Nat} {L : List (Option Value)} {S st : List Value} {σ : Sto}
variable {N : Mth} {mc' ms' na idx : Nat} {As : List Value} {Q' : Option Value → Sto → Prop}
def pw_fits (N M : Mth) : Prop := N.2.2.2.2 + 1 ≤ M.2.2.2.2 ∧ 8 + (N.2.2.1 + 11) + 37 * N.2.2.2.2 ≤ 37 * M.2.2.2.2
theorem pw_stk (h0 : Nat) (v : Option Value) (S : List Value) : (v.map (pw_tv h0)).toList ++ S.map (pw_tv h0) = (v.toList ++ S).map (pw_tv h0) := by
  cases v <;> rfl
theorem P_calls (d : decode M.2.1 pc = .ok (.invokestatic idx, 3)) (hq : pc + 3 = q) (hM : CP N mc' ms' As n σ Q') (hl : LkS M.1.cls idx N na) (hna : As.length = na) (hst : As.reverse ++ S = st) (hR : pw_fits N M) (hsum : (S.map fun v => v.category).sum ≤ 8) (hf : cs + mc' ≤ mc ∧ sl + ms' ≤ ms)
    (kk : ∀ (v : Option Value) (σ' : Sto), Q' v σ' → PW M mc ms Q q L (v.toList ++ S) (n + mc') σ' (cs + mc') (sl + ms')) : PW M mc ms Q pc L st n σ cs sl := by
  subst hq; subst hst
  intro p l e s m args below meth c D aC h0 H locs ls hC hh hz hW hS hL
  refine pw_after (pw_calls hC.1 hC.2.1 hC.2.2.1 hC.2.2.2.1 hC.2.2.2.2.1 hC.2.2.2.2.2.1 hW hL.1 hM hl hna hR hsum d hf) hS hW (fun v σ' H1 locs1 hQ hW1 hS1 => ?_)
  rw [pw_stk]
  exact kk v σ' hQ p l e s m args below meth c D aC h0 H1 locs1 ls hC hh (by omega) hW1 hS1 hL
theorem P_callv {b ci : Nat} {fs : List Value} (d : decode M.2.1 pc = .ok (.invokevirtual idx, 3)) (hq : pc + 3 = q) (hM : CP N mc' ms' (.ref b :: As) n σ Q') (hl : LkV M.1.cls idx N na) (hna : As.length = na) (hst : As.reverse ++ .ref b :: S = st) (hbn : b < n) (hσ : σ b = pO ci fs) (hci : (vwCl[ci]?).map (fun q => q.1) = some N.1.cls) (hR : pw_fits N M) (hsum : (S.map fun v => v.category).sum ≤ 8) (hf : cs + mc' ≤ mc ∧ sl + ms' ≤ ms)
    (kk : ∀ (v : Option Value) (σ' : Sto), Q' v σ' → PW M mc ms Q q L (v.toList ++ S) (n + mc') σ' (cs + mc') (sl + ms')) : PW M mc ms Q pc L st n σ cs sl := by
  subst hq; subst hst
  intro p l e s m args below meth c D aC h0 H locs ls hC hh hz hW hS hL
  refine pw_after (pw_callv hC.1 hC.2.1 hC.2.2.1 hC.2.2.2.1 hC.2.2.2.2.1 hC.2.2.2.2.2.1 hW hL.1 hM hl hna hbn hσ hci hR hsum d hf) hS hW (fun v σ' H1 locs1 hQ hW1 hS1 => ?_)
  rw [pw_stk]
  exact kk v σ' hQ p l e s m args below meth c D aC h0 H1 locs1 ls hC hh (by omega) hW1 hS1 hL
theorem P_calli {b : Nat} (d : decode M.2.1 pc = .ok (.invokespecial idx, 3)) (hq : pc + 3 = q) (hM : CP N mc' ms' (.ref b :: As) n σ Q') (hl : LkI M.1.cls idx N na) (hna : As.length = na) (hst : As.reverse ++ .ref b :: S = st) (hR : pw_fits N M) (hsum : (S.map fun v => v.category).sum ≤ 8) (hf : cs + mc' ≤ mc ∧ sl + ms' ≤ ms)
    (kk : ∀ (v : Option Value) (σ' : Sto), Q' v σ' → PW M mc ms Q q L (v.toList ++ S) (n + mc') σ' (cs + mc') (sl + ms')) : PW M mc ms Q pc L st n σ cs sl := by
  subst hq; subst hst
  intro p l e s m args below meth c D aC h0 H locs ls hC hh hz hW hS hL
  refine pw_after (pw_calli hC.1 hC.2.1 hC.2.2.1 hC.2.2.2.1 hC.2.2.2.2.1 hC.2.2.2.2.2.1 hW hL.1 hM hl hna hR hsum d hf) hS hW (fun v σ' H1 locs1 hQ hW1 hS1 => ?_)
  rw [pw_stk]
  exact kk v σ' hQ p l e s m args below meth c D aC h0 H1 locs1 ls hC hh (by omega) hW1 hS1 hL
theorem P_objinit {b : Nat} (d : decode M.2.1 pc = .ok (.invokespecial idx, 3)) (hq : pc + 3 = q) (h1 : Cond.methodLink M.1.cls idx Lib.objectInit ∈ lw_w) (h2 : Cond.instanceMethod Lib.objectInit ∈ lw_w) (h3 : Cond.code Lib.objectInit ⟨#[0xb1]⟩ 1 none ∈ lw_w) (hd : 1 ≤ M.2.2.2.2) (hsum : (S.map fun v => v.category).sum ≤ 8) (kk : PW M mc ms Q q L S n σ cs sl) : PW M mc ms Q pc L (.ref b :: S) n σ cs sl := by
  subst hq
  intro p l e s m args below meth c D aC h0 H locs ls hC hh hz hW hS hL
  refine W.objInit hC.1 hC.2.1 hC.2.2.2.1 (hC.2.2.2.2.1 _ h1) (hC.2.2.2.2.1 _ h2) (hC.2.2.2.2.1 _ h3) rfl (hL.1.trans hC.2.2.1.symm) rfl d (by show 1 ≤ M.2.2.2.2; exact hd) ?_ (W.eq (g2 := F0 m (pc + 3) ls (S.map (pw_tv h0))) rfl (kk p l e s m args below meth c D aC h0 H locs ls hC hh hz hW hS hL))
  show 2 * 0 + ((S.map (pw_tv h0)).map fun v => v.category).sum + 12 ≤ 37 * M.2.2.2.2
  rw [pw_map_cat]
  omega
/-- a contract said more weakly -/
theorem CP.imp {Q₁ Q₂ : Option Value → Sto → Prop} (h : CP N mc ms As n σ Q₁) (hi : ∀ v σ', Q₁ v σ' → Q₂ v σ') : CP N mc ms As n σ Q₂ := by
  intro l D aC h0 p e ha hc hk s m args below hf h1 h2 h3
  obtain ⟨k, o, g1, g2, g3, ⟨⟨⟨v, n', σ', a, b, c⟩, d⟩, r⟩⟩ := h l D aC h0 p e ha hc hk s m args below hf h1 h2 h3
  exact ⟨k, o, g1, g2, g3, ⟨⟨⟨v, n', σ', a, hi v σ' b, c⟩, d⟩, r⟩⟩
end PWC
/-- a contract with one answer and one store behind it, nothing made -/
def CD (N : Mth) (As : List Value) (n : Nat) (σ : Sto) (r : Option Value) (τ : Sto) : Prop := CP N 0 0 As n σ (fun v σ' => v = r ∧ σ' = τ)
section PWD
variable {M : Mth} {mc ms : Nat} {Q : Option Value → Sto → Prop} {pc q n cs sl : Nat} {L : List (Option Value)} {S st : List Value} {σ τ : Sto}
variable {N : Mth} {na idx : Nat} {As : List Value} {r : Value}
theorem P_cs1 (d : decode M.2.1 pc = .ok (.invokestatic idx, 3)) (hq : pc + 3 = q) (hl : LkS M.1.cls idx N na) (hM : CD N As n σ (some r) τ) (hna : As.length = na) (hst : As.reverse ++ S = st) (hR : pw_fits N M) (hsum : (S.map fun v => v.category).sum ≤ 8) (hf : cs ≤ mc ∧ sl ≤ ms) (kk : PW M mc ms Q q L (r :: S) n τ cs sl) : PW M mc ms Q pc L st n σ cs sl := by
  refine P_calls d hq hM hl hna hst hR hsum hf (fun v σ' h => ?_)
  obtain ⟨rfl, rfl⟩ := h
  exact kk
theorem P_cs0 (d : decode M.2.1 pc = .ok (.invokestatic idx, 3)) (hq : pc + 3 = q) (hl : LkS M.1.cls idx N na) (hM : CD N As n σ none τ) (hna : As.length = na) (hst : As.reverse ++ S = st) (hR : pw_fits N M) (hsum : (S.map fun v => v.category).sum ≤ 8) (hf : cs ≤ mc ∧ sl ≤ ms) (kk : PW M mc ms Q q L S n τ cs sl) : PW M mc ms Q pc L st n σ cs sl := by
  refine P_calls d hq hM hl hna hst hR hsum hf (fun v σ' h => ?_)
  obtain ⟨rfl, rfl⟩ := h
  exact kk
theorem P_cv1 {b ci : Nat} {fs : List Value} (d : decode M.2.1 pc = .ok (.invokevirtual idx, 3)) (hq : pc + 3 = q) (hl : LkV M.1.cls idx N na) (hM : CD N (.ref b :: As) n σ (some r) τ) (hna : As.length = na) (hst : As.reverse ++ .ref b :: S = st) (hbn : b < n) (hσ : σ b = pO ci fs) (hci : (vwCl[ci]?).map (fun q => q.1) = some N.1.cls) (hR : pw_fits N M) (hsum : (S.map fun v => v.category).sum ≤ 8) (hf : cs ≤ mc ∧ sl ≤ ms) (kk : PW M mc ms Q q L (r :: S) n τ cs sl) : PW M mc ms Q pc L st n σ cs sl := by
  refine P_callv d hq hM hl hna hst hbn hσ hci hR hsum hf (fun v σ' h => ?_)
  obtain ⟨rfl, rfl⟩ := h
  exact kk
theorem P_cv0 {b ci : Nat} {fs : List Value} (d : decode M.2.1 pc = .ok (.invokevirtual idx, 3)) (hq : pc + 3 = q) (hl : LkV M.1.cls idx N na) (hM : CD N (.ref b :: As) n σ none τ) (hna : As.length = na) (hst : As.reverse ++ .ref b :: S = st) (hbn : b < n) (hσ : σ b = pO ci fs) (hci : (vwCl[ci]?).map (fun q => q.1) = some N.1.cls) (hR : pw_fits N M) (hsum : (S.map fun v => v.category).sum ≤ 8) (hf : cs ≤ mc ∧ sl ≤ ms) (kk : PW M mc ms Q q L S n τ cs sl) : PW M mc ms Q pc L st n σ cs sl := by
  refine P_callv d hq hM hl hna hst hbn hσ hci hR hsum hf (fun v σ' h => ?_)
  obtain ⟨rfl, rfl⟩ := h
  exact kk
end PWD
end
section
/-! WHAT THE TABLES SAY, a theorem each (by program) -/
theorem in_of (ws : List Cond) (ps : List Nat) (hp : ws = ps.filterMap (fun i => lw_tbl[i]?)) (h : ws.all goodWord = true) : ∀ w ∈ ws, w ∈ lw_w := by
  intro w hw
  have h1 := List.all_eq_true.mp h w hw
  rw [hp] at hw
  obtain ⟨i, -, hi⟩ := List.mem_filterMap.mp hw
  exact lw_w_at hi h1
set_option maxRecDepth 20000 in
theorem cls_0 : CLS 0 RX0 TX0 13 := ⟨rfl, in_of _ [238, 240, 242, 244, 246, 248, 250, 252, 254, 256, 258, 260, 262] (by decide +kernel) (by decide +kernel), ⟨tyX0, tyX0_ok⟩, nmX0⟩
set_option maxRecDepth 20000 in
theorem cls_1 : CLS 1 RX1 TX1 3 := ⟨rfl, in_of _ [278, 280, 282] (by decide +kernel) (by decide +kernel), ⟨tyX1, tyX1_ok⟩, nmX1⟩
set_option maxRecDepth 20000 in
theorem cls_2 : CLS 2 RX2 TX2 3 := ⟨rfl, in_of _ [218, 220, 222] (by decide +kernel) (by decide +kernel), ⟨tyX2, tyX2_ok⟩, nmX2⟩
set_option maxRecDepth 20000 in
theorem cls_3 : CLS 3 RX3 TX3 8 := ⟨rfl, in_of _ [177, 179, 181, 183, 185, 187, 189, 191] (by decide +kernel) (by decide +kernel), ⟨tyX3, tyX3_ok⟩, nmX3⟩
set_option maxRecDepth 20000 in
theorem cls_4 : CLS 4 RX4 TX4 9 := ⟨rfl, in_of _ [124, 126, 128, 130, 132, 134, 136, 138, 140] (by decide +kernel) (by decide +kernel), ⟨tyX4, tyX4_ok⟩, nmX4⟩
set_option maxRecDepth 20000 in
theorem cls_5 : CLS 5 RX5 TX5 2 := ⟨rfl, in_of _ [203, 205] (by decide +kernel) (by decide +kernel), ⟨tyX5, tyX5_ok⟩, nmX5⟩
set_option maxRecDepth 20000 in
theorem cls_6 : CLS 6 RX6 TX6 5 := ⟨rfl, in_of _ [300, 302, 304, 306, 308] (by decide +kernel) (by decide +kernel), ⟨tyX6, tyX6_ok⟩, nmX6⟩
set_option maxRecDepth 20000 in
theorem cls_7 : CLS 7 RX7 TX7 6 := ⟨rfl, in_of _ [318, 320, 322, 324, 326, 328] (by decide +kernel) (by decide +kernel), ⟨tyX7, tyX7_ok⟩, nmX7⟩
set_option maxRecDepth 20000 in
theorem cls_8 : CLS 8 RX8 TX8 24 := ⟨rfl, in_of _ [760, 762, 764, 766, 768, 770, 772, 774, 776, 778, 780, 782, 784, 786, 788, 790, 792, 794, 796, 798, 800, 802, 804, 806] (by decide +kernel) (by decide +kernel), ⟨tyX8, tyX8_ok⟩, nmX8⟩
abbrev mJ13_bitCount_95d88 : Mth := (yJ13_bitCount_95d88, cJ13_bitCount_95d88, 2, (some .int), 0)
theorem ok_J13_bitCount_95d88 : MOK mJ13_bitCount_95d88 1 := ⟨lw_w_at (i := 407) (by decide +kernel) (by decide +kernel), lw_w_at (i := 78) (by decide +kernel) (by decide +kernel), by decide +kernel, by decide +kernel, by decide +kernel⟩
abbrev mJ6_bitCount_0f7a4 : Mth := (yJ6_bitCount_0f7a4, cJ6_bitCount_0f7a4, 1, (some .int), 0)
theorem ok_J6_bitCount_0f7a4 : MOK mJ6_bitCount_0f7a4 1 := ⟨lw_w_at (i := 500) (by decide +kernel) (by decide +kernel), lw_w_at (i := 79) (by decide +kernel) (by decide +kernel), by decide +kernel, by decide +kernel, by decide +kernel⟩
abbrev mJ7_fill_53178 : Mth := (yJ7_fill_53178, cJ7_fill_53178, 4, none, 0)
theorem ok_J7_fill_53178 : MOK mJ7_fill_53178 2 := ⟨lw_w_at (i := 352) (by decide +kernel) (by decide +kernel), lw_w_at (i := 76) (by decide +kernel) (by decide +kernel), by decide +kernel, by decide +kernel, by decide +kernel⟩
abbrev mJ9_abs_0f7a4 : Mth := (yJ9_abs_0f7a4, cJ9_abs_0f7a4, 1, (some .int), 0)
theorem ok_J9_abs_0f7a4 : MOK mJ9_abs_0f7a4 1 := ⟨lw_w_at (i := 513) (by decide +kernel) (by decide +kernel), lw_w_at (i := 80) (by decide +kernel) (by decide +kernel), by decide +kernel, by decide +kernel, by decide +kernel⟩
abbrev mJ9_min_7cf53 : Mth := (yJ9_min_7cf53, cJ9_min_7cf53, 2, (some .int), 0)
theorem ok_J9_min_7cf53 : MOK mJ9_min_7cf53 2 := ⟨lw_w_at (i := 541) (by decide +kernel) (by decide +kernel), lw_w_at (i := 80) (by decide +kernel) (by decide +kernel), by decide +kernel, by decide +kernel, by decide +kernel⟩
abbrev mJxf58ca_isNaN_12338 : Mth := (yJxf58ca_isNaN_12338, cJxf58ca_isNaN_12338, 1, (some .boolean), 0)
theorem ok_Jxf58ca_isNaN_12338 : MOK mJxf58ca_isNaN_12338 1 := ⟨lw_w_at (i := 1067) (by decide +kernel) (by decide +kernel), lw_w_at (i := 81) (by decide +kernel) (by decide +kernel), by decide +kernel, by decide +kernel, by decide +kernel⟩
abbrev mX0_at : Mth := (yX0_at, cX0_at, 2, (some .int), 0)
theorem ok_X0_at : MOK mX0_at 2 := ⟨lw_w_at (i := 646) (by decide +kernel) (by decide +kernel), lw_w_at (i := 68) (by decide +kernel) (by decide +kernel), by decide +kernel, by decide +kernel, by decide +kernel⟩
abbrev mX0_energyOf : Mth := (yX0_energyOf, cX0_energyOf, 2, (some .int), 0)
theorem ok_X0_energyOf : MOK mX0_energyOf 1 := ⟨lw_w_at (i := 694) (by decide +kernel) (by decide +kernel), lw_w_at (i := 68) (by decide +kernel) (by decide +kernel), by decide +kernel, by decide +kernel, by decide +kernel⟩
abbrev mX0_forget : Mth := (yX0_forget, cX0_forget, 1, none, 0)
theorem ok_X0_forget : MOK mX0_forget 0 := ⟨lw_w_at (i := 356) (by decide +kernel) (by decide +kernel), lw_w_at (i := 68) (by decide +kernel) (by decide +kernel), by decide +kernel, by decide +kernel, by decide +kernel⟩
abbrev mX0_manyWithUps : Mth := (yX0_manyWithUps, cX0_manyWithUps, 6, (some .int), 0)
theorem ok_X0_manyWithUps : MOK mX0_manyWithUps 1 := ⟨lw_w_at (i := 681) (by decide +kernel) (by decide +kernel), lw_w_at (i := 68) (by decide +kernel) (by decide +kernel), by decide +kernel, by decide +kernel, by decide +kernel⟩
abbrev mX2_costOfNext : Mth := (yX2_costOfNext, cX2_costOfNext, 5, (some .int), 0)
theorem ok_X2_costOfNext : MOK mX2_costOfNext 4 := ⟨lw_w_at (i := 538) (by decide +kernel) (by decide +kernel), lw_w_at (i := 71) (by decide +kernel) (by decide +kernel), by decide +kernel, by decide +kernel, by decide +kernel⟩
abbrev mX3_kindInOrder : Mth := (yX3_kindInOrder, cX3_kindInOrder, 4, (some .int), 0)
theorem ok_X3_kindInOrder : MOK mX3_kindInOrder 1 := ⟨lw_w_at (i := 545) (by decide +kernel) (by decide +kernel), lw_w_at (i := 69) (by decide +kernel) (by decide +kernel), by decide +kernel, by decide +kernel, by decide +kernel⟩
abbrev mX3_price : Mth := (yX3_price, cX3_price, 3, (some .int), 0)
theorem ok_X3_price : MOK mX3_price 3 := ⟨lw_w_at (i := 506) (by decide +kernel) (by decide +kernel), lw_w_at (i := 69) (by decide +kernel) (by decide +kernel), by decide +kernel, by decide +kernel, by decide +kernel⟩
abbrev mX3_seam : Mth := (yX3_seam, cX3_seam, 3, (some .int), 0)
theorem ok_X3_seam : MOK mX3_seam 2 := ⟨lw_w_at (i := 534) (by decide +kernel) (by decide +kernel), lw_w_at (i := 69) (by decide +kernel) (by decide +kernel), by decide +kernel, by decide +kernel, by decide +kernel⟩
abbrev mX4_alike : Mth := (yX4_alike, cX4_alike, 3, (some .long), 0)
theorem ok_X4_alike : MOK mX4_alike 1 := ⟨lw_w_at (i := 457) (by decide +kernel) (by decide +kernel), lw_w_at (i := 67) (by decide +kernel) (by decide +kernel), by decide +kernel, by decide +kernel, by decide +kernel⟩
abbrev mX4_besideAcross : Mth := (yX4_besideAcross, cX4_besideAcross, 3, (some .long), 0)
theorem ok_X4_besideAcross : MOK mX4_besideAcross 1 := ⟨lw_w_at (i := 414) (by decide +kernel) (by decide +kernel), lw_w_at (i := 67) (by decide +kernel) (by decide +kernel), by decide +kernel, by decide +kernel, by decide +kernel⟩
abbrev mX4_closed : Mth := (yX4_closed, cX4_closed, 1, (some .boolean), 0)
theorem ok_X4_closed : MOK mX4_closed 0 := ⟨lw_w_at (i := 400) (by decide +kernel) (by decide +kernel), lw_w_at (i := 67) (by decide +kernel) (by decide +kernel), by decide +kernel, by decide +kernel, by decide +kernel⟩
abbrev mX4_has : Mth := (yX4_has, cX4_has, 3, (some .boolean), 0)
theorem ok_X4_has : MOK mX4_has 2 := ⟨lw_w_at (i := 422) (by decide +kernel) (by decide +kernel), lw_w_at (i := 67) (by decide +kernel) (by decide +kernel), by decide +kernel, by decide +kernel, by decide +kernel⟩
abbrev mX4_place : Mth := (yX4_place, cX4_place, 2, (some .int), 0)
theorem ok_X4_place : MOK mX4_place 2 := ⟨lw_w_at (i := 101) (by decide +kernel) (by decide +kernel), lw_w_at (i := 67) (by decide +kernel) (by decide +kernel), by decide +kernel, by decide +kernel, by decide +kernel⟩
abbrev mX5_addShifted : Mth := (yX5_addShifted, cX5_addShifted, 5, none, 0)
theorem ok_X5_addShifted : MOK mX5_addShifted 4 := ⟨lw_w_at (i := 638) (by decide +kernel) (by decide +kernel), lw_w_at (i := 70) (by decide +kernel) (by decide +kernel), by decide +kernel, by decide +kernel, by decide +kernel⟩
abbrev mX6_append : Mth := (yX6_append, cX6_append, 2, (some .boolean), 0)
theorem ok_X6_append : MOK mX6_append 1 := ⟨lw_w_at (i := 566) (by decide +kernel) (by decide +kernel), lw_w_at (i := 73) (by decide +kernel) (by decide +kernel), by decide +kernel, by decide +kernel, by decide +kernel⟩
abbrev mX6_isWhole : Mth := (yX6_isWhole, cX6_isWhole, 2, (some .boolean), 0)
theorem ok_X6_isWhole : MOK mX6_isWhole 1 := ⟨lw_w_at (i := 368) (by decide +kernel) (by decide +kernel), lw_w_at (i := 73) (by decide +kernel) (by decide +kernel), by decide +kernel, by decide +kernel, by decide +kernel⟩
abbrev mX6_rowsAllowed : Mth := (yX6_rowsAllowed, cX6_rowsAllowed, 1, (some .int), 0)
theorem ok_X6_rowsAllowed : MOK mX6_rowsAllowed 0 := ⟨lw_w_at (i := 372) (by decide +kernel) (by decide +kernel), lw_w_at (i := 73) (by decide +kernel) (by decide +kernel), by decide +kernel, by decide +kernel, by decide +kernel⟩
abbrev mX7_bitsOf : Mth := (yX7_bitsOf, cX7_bitsOf, 4, (some .int), 0)
theorem ok_X7_bitsOf : MOK mX7_bitsOf 1 := ⟨lw_w_at (i := 697) (by decide +kernel) (by decide +kernel), lw_w_at (i := 66) (by decide +kernel) (by decide +kernel), by decide +kernel, by decide +kernel, by decide +kernel⟩
abbrev mX7_clearText : Mth := (yX7_clearText, cX7_clearText, 2, (some .int), 0)
theorem ok_X7_clearText : MOK mX7_clearText 0 := ⟨lw_w_at (i := 570) (by decide +kernel) (by decide +kernel), lw_w_at (i := 66) (by decide +kernel) (by decide +kernel), by decide +kernel, by decide +kernel, by decide +kernel⟩
abbrev mX7_reason : Mth := (yX7_reason, cX7_reason, 1, (some .int), 0)
theorem ok_X7_reason : MOK mX7_reason 1 := ⟨lw_w_at (i := 596) (by decide +kernel) (by decide +kernel), lw_w_at (i := 66) (by decide +kernel) (by decide +kernel), by decide +kernel, by decide +kernel, by decide +kernel⟩
abbrev mX8_acted : Mth := (yX8_acted, cX8_acted, 3, (some .int), 0)
theorem ok_X8_acted : MOK mX8_acted 1 := ⟨lw_w_at (i := 832) (by decide +kernel) (by decide +kernel), lw_w_at (i := 74) (by decide +kernel) (by decide +kernel), by decide +kernel, by decide +kernel, by decide +kernel⟩
abbrev mX8_cells : Mth := (yX8_cells, cX8_cells, 1, (some .int), 0)
theorem ok_X8_cells : MOK mX8_cells 0 := ⟨lw_w_at (i := 828) (by decide +kernel) (by decide +kernel), lw_w_at (i := 74) (by decide +kernel) (by decide +kernel), by decide +kernel, by decide +kernel, by decide +kernel⟩
abbrev mX8_choices : Mth := (yX8_choices, cX8_choices, 5, (some .int), 0)
theorem ok_X8_choices : MOK mX8_choices 2 := ⟨lw_w_at (i := 1047) (by decide +kernel) (by decide +kernel), lw_w_at (i := 74) (by decide +kernel) (by decide +kernel), by decide +kernel, by decide +kernel, by decide +kernel⟩
abbrev mX8_clearText : Mth := (yX8_clearText, cX8_clearText, 2, (some .int), 0)
theorem ok_X8_clearText : MOK mX8_clearText 0 := ⟨lw_w_at (i := 978) (by decide +kernel) (by decide +kernel), lw_w_at (i := 74) (by decide +kernel) (by decide +kernel), by decide +kernel, by decide +kernel, by decide +kernel⟩
abbrev mX8_copy : Mth := (yX8_copy, cX8_copy, 3, none, 0)
theorem ok_X8_copy : MOK mX8_copy 2 := ⟨lw_w_at (i := 824) (by decide +kernel) (by decide +kernel), lw_w_at (i := 74) (by decide +kernel) (by decide +kernel), by decide +kernel, by decide +kernel, by decide +kernel⟩
abbrev mX8_fieldAt : Mth := (yX8_fieldAt, cX8_fieldAt, 3, (some .int), 0)
theorem ok_X8_fieldAt : MOK mX8_fieldAt 2 := ⟨lw_w_at (i := 867) (by decide +kernel) (by decide +kernel), lw_w_at (i := 74) (by decide +kernel) (by decide +kernel), by decide +kernel, by decide +kernel, by decide +kernel⟩
abbrev mX8_forgets : Mth := (yX8_forgets, cX8_forgets, 2, none, 0)
theorem ok_X8_forgets : MOK mX8_forgets 0 := ⟨lw_w_at (i := 906) (by decide +kernel) (by decide +kernel), lw_w_at (i := 74) (by decide +kernel) (by decide +kernel), by decide +kernel, by decide +kernel, by decide +kernel⟩
abbrev mX8_greatest : Mth := (yX8_greatest, cX8_greatest, 2, (some .int), 0)
theorem ok_X8_greatest : MOK mX8_greatest 0 := ⟨lw_w_at (i := 1061) (by decide +kernel) (by decide +kernel), lw_w_at (i := 74) (by decide +kernel) (by decide +kernel), by decide +kernel, by decide +kernel, by decide +kernel⟩
abbrev mX8_in : Mth := (yX8_in, cX8_in, 6, (some .boolean), 0)
theorem ok_X8_in : MOK mX8_in 3 := ⟨lw_w_at (i := 816) (by decide +kernel) (by decide +kernel), lw_w_at (i := 74) (by decide +kernel) (by decide +kernel), by decide +kernel, by decide +kernel, by decide +kernel⟩
abbrev mX8_isHere : Mth := (yX8_isHere, cX8_isHere, 2, (some .boolean), 0)
theorem ok_X8_isHere : MOK mX8_isHere 1 := ⟨lw_w_at (i := 994) (by decide +kernel) (by decide +kernel), lw_w_at (i := 74) (by decide +kernel) (by decide +kernel), by decide +kernel, by decide +kernel, by decide +kernel⟩
abbrev mX8_isLoop : Mth := (yX8_isLoop, cX8_isLoop, 1, (some .boolean), 0)
theorem ok_X8_isLoop : MOK mX8_isLoop 0 := ⟨lw_w_at (i := 856) (by decide +kernel) (by decide +kernel), lw_w_at (i := 74) (by decide +kernel) (by decide +kernel), by decide +kernel, by decide +kernel, by decide +kernel⟩
abbrev mX8_lays : Mth := (yX8_lays, cX8_lays, 4, none, 0)
theorem ok_X8_lays : MOK mX8_lays 2 := ⟨lw_w_at (i := 735) (by decide +kernel) (by decide +kernel), lw_w_at (i := 74) (by decide +kernel) (by decide +kernel), by decide +kernel, by decide +kernel, by decide +kernel⟩
abbrev mX8_least : Mth := (yX8_least, cX8_least, 2, (some .int), 0)
theorem ok_X8_least : MOK mX8_least 0 := ⟨lw_w_at (i := 1057) (by decide +kernel) (by decide +kernel), lw_w_at (i := 74) (by decide +kernel) (by decide +kernel), by decide +kernel, by decide +kernel, by decide +kernel⟩
abbrev mX8_meets : Mth := (yX8_meets, cX8_meets, 5, none, 0)
theorem ok_X8_meets : MOK mX8_meets 5 := ⟨lw_w_at (i := 958) (by decide +kernel) (by decide +kernel), lw_w_at (i := 74) (by decide +kernel) (by decide +kernel), by decide +kernel, by decide +kernel, by decide +kernel⟩
abbrev mX8_ranked : Mth := (yX8_ranked, cX8_ranked, 4, (some .int), 0)
theorem ok_X8_ranked : MOK mX8_ranked 1 := ⟨lw_w_at (i := 966) (by decide +kernel) (by decide +kernel), lw_w_at (i := 74) (by decide +kernel) (by decide +kernel), by decide +kernel, by decide +kernel, by decide +kernel⟩
abbrev mX8_spinIn : Mth := (yX8_spinIn, cX8_spinIn, 2, (some .int), 0)
theorem ok_X8_spinIn : MOK mX8_spinIn 2 := ⟨lw_w_at (i := 863) (by decide +kernel) (by decide +kernel), lw_w_at (i := 74) (by decide +kernel) (by decide +kernel), by decide +kernel, by decide +kernel, by decide +kernel⟩
abbrev mX8_states : Mth := (yX8_states, cX8_states, 1, (some .int), 0)
theorem ok_X8_states : MOK mX8_states 0 := ⟨lw_w_at (i := 948) (by decide +kernel) (by decide +kernel), lw_w_at (i := 74) (by decide +kernel) (by decide +kernel), by decide +kernel, by decide +kernel, by decide +kernel⟩
abbrev mX8_turns : Mth := (yX8_turns, cX8_turns, 3, none, 0)
theorem ok_X8_turns : MOK mX8_turns 2 := ⟨lw_w_at (i := 898) (by decide +kernel) (by decide +kernel), lw_w_at (i := 74) (by decide +kernel) (by decide +kernel), by decide +kernel, by decide +kernel, by decide +kernel⟩
abbrev mX8_type : Mth := (yX8_type, cX8_type, 2, (some .int), 0)
theorem ok_X8_type : MOK mX8_type 1 := ⟨lw_w_at (i := 974) (by decide +kernel) (by decide +kernel), lw_w_at (i := 74) (by decide +kernel) (by decide +kernel), by decide +kernel, by decide +kernel, by decide +kernel⟩
abbrev mX8_undo : Mth := (yX8_undo, cX8_undo, 2, (some .int), 0)
theorem ok_X8_undo : MOK mX8_undo 0 := ⟨lw_w_at (i := 998) (by decide +kernel) (by decide +kernel), lw_w_at (i := 74) (by decide +kernel) (by decide +kernel), by decide +kernel, by decide +kernel, by decide +kernel⟩
abbrev mX8_ups : Mth := (yX8_ups, cX8_ups, 1, (some .int), 0)
theorem ok_X8_ups : MOK mX8_ups 1 := ⟨lw_w_at (i := 955) (by decide +kernel) (by decide +kernel), lw_w_at (i := 74) (by decide +kernel) (by decide +kernel), by decide +kernel, by decide +kernel, by decide +kernel⟩
abbrev mJxf58ca_floatToIntBits_5c35a : Mth := (yJxf58ca_floatToIntBits_5c35a, cJxf58ca_floatToIntBits_5c35a, 1, (some .int), 1)
theorem ok_Jxf58ca_floatToIntBits_5c35a : MOK mJxf58ca_floatToIntBits_5c35a 1 := ⟨lw_w_at (i := 1064) (by decide +kernel) (by decide +kernel), lw_w_at (i := 81) (by decide +kernel) (by decide +kernel), by decide +kernel, by decide +kernel, by decide +kernel⟩
abbrev mX0_manyAtEnergy : Mth := (yX0_manyAtEnergy, cX0_manyAtEnergy, 4, (some .int), 1)
theorem ok_X0_manyAtEnergy : MOK mX0_manyAtEnergy 1 := ⟨lw_w_at (i := 643) (by decide +kernel) (by decide +kernel), lw_w_at (i := 68) (by decide +kernel) (by decide +kernel), by decide +kernel, by decide +kernel, by decide +kernel⟩
abbrev mX2_init : Mth := (yX2_init, cX2_init, 1, none, 1)
theorem ok_X2_init : MOK mX2_init 0 := ⟨lw_w_at (i := 212) (by decide +kernel) (by decide +kernel), lw_w_at (i := 71) (by decide +kernel) (by decide +kernel), by decide +kernel, by decide +kernel, by decide +kernel⟩
abbrev mX2_isLeast : Mth := (yX2_isLeast, cX2_isLeast, 5, (some .boolean), 1)
theorem ok_X2_isLeast : MOK mX2_isLeast 4 := ⟨lw_w_at (i := 557) (by decide +kernel) (by decide +kernel), lw_w_at (i := 71) (by decide +kernel) (by decide +kernel), by decide +kernel, by decide +kernel, by decide +kernel⟩
abbrev mX2_lookBehind : Mth := (yX2_lookBehind, cX2_lookBehind, 8, (some .int), 1)
theorem ok_X2_lookBehind : MOK mX2_lookBehind 2 := ⟨lw_w_at (i := 530) (by decide +kernel) (by decide +kernel), lw_w_at (i := 71) (by decide +kernel) (by decide +kernel), by decide +kernel, by decide +kernel, by decide +kernel⟩
abbrev mX3_init : Mth := (yX3_init, cX3_init, 1, none, 1)
theorem ok_X3_init : MOK mX3_init 0 := ⟨lw_w_at (i := 154) (by decide +kernel) (by decide +kernel), lw_w_at (i := 69) (by decide +kernel) (by decide +kernel), by decide +kernel, by decide +kernel, by decide +kernel⟩
abbrev mX3_priceAcross : Mth := (yX3_priceAcross, cX3_priceAcross, 6, none, 1)
theorem ok_X3_priceAcross : MOK mX3_priceAcross 1 := ⟨lw_w_at (i := 510) (by decide +kernel) (by decide +kernel), lw_w_at (i := 69) (by decide +kernel) (by decide +kernel), by decide +kernel, by decide +kernel, by decide +kernel⟩
abbrev mX3_priceAlong : Mth := (yX3_priceAlong, cX3_priceAlong, 4, none, 1)
theorem ok_X3_priceAlong : MOK mX3_priceAlong 1 := ⟨lw_w_at (i := 497) (by decide +kernel) (by decide +kernel), lw_w_at (i := 69) (by decide +kernel) (by decide +kernel), by decide +kernel, by decide +kernel, by decide +kernel⟩
abbrev mX4_allCells : Mth := (yX4_allCells, cX4_allCells, 5, (some .long), 1)
theorem ok_X4_allCells : MOK mX4_allCells 2 := ⟨lw_w_at (i := 98) (by decide +kernel) (by decide +kernel), lw_w_at (i := 67) (by decide +kernel) (by decide +kernel), by decide +kernel, by decide +kernel, by decide +kernel⟩
abbrev mX4_besideAlong : Mth := (yX4_besideAlong, cX4_besideAlong, 6, (some .long), 1)
theorem ok_X4_besideAlong : MOK mX4_besideAlong 1 := ⟨lw_w_at (i := 396) (by decide +kernel) (by decide +kernel), lw_w_at (i := 67) (by decide +kernel) (by decide +kernel), by decide +kernel, by decide +kernel, by decide +kernel⟩
abbrev mX4_bit : Mth := (yX4_bit, cX4_bit, 2, (some .long), 1)
theorem ok_X4_bit : MOK mX4_bit 2 := ⟨lw_w_at (i := 375) (by decide +kernel) (by decide +kernel), lw_w_at (i := 67) (by decide +kernel) (by decide +kernel), by decide +kernel, by decide +kernel, by decide +kernel⟩
abbrev mX4_copyFrom : Mth := (yX4_copyFrom, cX4_copyFrom, 2, none, 1)
theorem ok_X4_copyFrom : MOK mX4_copyFrom 1 := ⟨lw_w_at (i := 342) (by decide +kernel) (by decide +kernel), lw_w_at (i := 67) (by decide +kernel) (by decide +kernel), by decide +kernel, by decide +kernel, by decide +kernel⟩
abbrev mX4_fieldAt : Mth := (yX4_fieldAt, cX4_fieldAt, 3, (some .int), 1)
theorem ok_X4_fieldAt : MOK mX4_fieldAt 2 := ⟨lw_w_at (i := 418) (by decide +kernel) (by decide +kernel), lw_w_at (i := 67) (by decide +kernel) (by decide +kernel), by decide +kernel, by decide +kernel, by decide +kernel⟩
abbrev mX4_flip : Mth := (yX4_flip, cX4_flip, 3, none, 1)
theorem ok_X4_flip : MOK mX4_flip 1 := ⟨lw_w_at (i := 445) (by decide +kernel) (by decide +kernel), lw_w_at (i := 67) (by decide +kernel) (by decide +kernel), by decide +kernel, by decide +kernel, by decide +kernel⟩
abbrev mX4_kindOf : Mth := (yX4_kindOf, cX4_kindOf, 2, (some .int), 1)
theorem ok_X4_kindOf : MOK mX4_kindOf 1 := ⟨lw_w_at (i := 606) (by decide +kernel) (by decide +kernel), lw_w_at (i := 67) (by decide +kernel) (by decide +kernel), by decide +kernel, by decide +kernel, by decide +kernel⟩
abbrev mX4_putField : Mth := (yX4_putField, cX4_putField, 4, none, 1)
theorem ok_X4_putField : MOK mX4_putField 3 := ⟨lw_w_at (i := 436) (by decide +kernel) (by decide +kernel), lw_w_at (i := 67) (by decide +kernel) (by decide +kernel), by decide +kernel, by decide +kernel, by decide +kernel⟩
abbrev mX4_spinSum : Mth := (yX4_spinSum, cX4_spinSum, 3, (some .int), 1)
theorem ok_X4_spinSum : MOK mX4_spinSum 1 := ⟨lw_w_at (i := 404) (by decide +kernel) (by decide +kernel), lw_w_at (i := 67) (by decide +kernel) (by decide +kernel), by decide +kernel, by decide +kernel, by decide +kernel⟩
abbrev mX5_addColumn : Mth := (yX5_addColumn, cX5_addColumn, 6, none, 1)
theorem ok_X5_addColumn : MOK mX5_addColumn 2 := ⟨lw_w_at (i := 635) (by decide +kernel) (by decide +kernel), lw_w_at (i := 70) (by decide +kernel) (by decide +kernel), by decide +kernel, by decide +kernel, by decide +kernel⟩
abbrev mX5_begin : Mth := (yX5_begin, cX5_begin, 6, none, 1)
theorem ok_X5_begin : MOK mX5_begin 3 := ⟨lw_w_at (i := 631) (by decide +kernel) (by decide +kernel), lw_w_at (i := 70) (by decide +kernel) (by decide +kernel), by decide +kernel, by decide +kernel, by decide +kernel⟩
abbrev mX5_init : Mth := (yX5_init, cX5_init, 1, none, 1)
theorem ok_X5_init : MOK mX5_init 0 := ⟨lw_w_at (i := 198) (by decide +kernel) (by decide +kernel), lw_w_at (i := 70) (by decide +kernel) (by decide +kernel), by decide +kernel, by decide +kernel, by decide +kernel⟩
abbrev mX6_init : Mth := (yX6_init, cX6_init, 1, none, 1)
theorem ok_X6_init : MOK mX6_init 0 := ⟨lw_w_at (i := 289) (by decide +kernel) (by decide +kernel), lw_w_at (i := 73) (by decide +kernel) (by decide +kernel), by decide +kernel, by decide +kernel, by decide +kernel⟩
abbrev mX7_type : Mth := (yX7_type, cX7_type, 2, (some .int), 1)
theorem ok_X7_type : MOK mX7_type 1 := ⟨lw_w_at (i := 562) (by decide +kernel) (by decide +kernel), lw_w_at (i := 66) (by decide +kernel) (by decide +kernel), by decide +kernel, by decide +kernel, by decide +kernel⟩
abbrev mX8_init : Mth := (yX8_init, cX8_init, 1, none, 1)
theorem ok_X8_init : MOK mX8_init 0 := ⟨lw_w_at (i := 730) (by decide +kernel) (by decide +kernel), lw_w_at (i := 74) (by decide +kernel) (by decide +kernel), by decide +kernel, by decide +kernel, by decide +kernel⟩
abbrev mX8_isColumn : Mth := (yX8_isColumn, cX8_isColumn, 2, (some .boolean), 1)
theorem ok_X8_isColumn : MOK mX8_isColumn 1 := ⟨lw_w_at (i := 852) (by decide +kernel) (by decide +kernel), lw_w_at (i := 74) (by decide +kernel) (by decide +kernel), by decide +kernel, by decide +kernel, by decide +kernel⟩
abbrev mX8_isRow : Mth := (yX8_isRow, cX8_isRow, 2, (some .boolean), 1)
theorem ok_X8_isRow : MOK mX8_isRow 1 := ⟨lw_w_at (i := 889) (by decide +kernel) (by decide +kernel), lw_w_at (i := 74) (by decide +kernel) (by decide +kernel), by decide +kernel, by decide +kernel, by decide +kernel⟩
abbrev mX8_ofColumn : Mth := (yX8_ofColumn, cX8_ofColumn, 8, (some .int), 1)
theorem ok_X8_ofColumn : MOK mX8_ofColumn 3 := ⟨lw_w_at (i := 860) (by decide +kernel) (by decide +kernel), lw_w_at (i := 74) (by decide +kernel) (by decide +kernel), by decide +kernel, by decide +kernel, by decide +kernel⟩
abbrev mX8_ofLink : Mth := (yX8_ofLink, cX8_ofLink, 7, (some .int), 1)
theorem ok_X8_ofLink : MOK mX8_ofLink 3 := ⟨lw_w_at (i := 871) (by decide +kernel) (by decide +kernel), lw_w_at (i := 74) (by decide +kernel) (by decide +kernel), by decide +kernel, by decide +kernel, by decide +kernel⟩
abbrev mX8_pairs : Mth := (yX8_pairs, cX8_pairs, 2, (some .int), 1)
theorem ok_X8_pairs : MOK mX8_pairs 0 := ⟨lw_w_at (i := 1095) (by decide +kernel) (by decide +kernel), lw_w_at (i := 74) (by decide +kernel) (by decide +kernel), by decide +kernel, by decide +kernel, by decide +kernel⟩
abbrev mX8_readsSigns : Mth := (yX8_readsSigns, cX8_readsSigns, 3, (some .int), 1)
theorem ok_X8_readsSigns : MOK mX8_readsSigns 1 := ⟨lw_w_at (i := 990) (by decide +kernel) (by decide +kernel), lw_w_at (i := 74) (by decide +kernel) (by decide +kernel), by decide +kernel, by decide +kernel, by decide +kernel⟩
abbrev mX8_remember : Mth := (yX8_remember, cX8_remember, 1, none, 1)
theorem ok_X8_remember : MOK mX8_remember 0 := ⟨lw_w_at (i := 821) (by decide +kernel) (by decide +kernel), lw_w_at (i := 74) (by decide +kernel) (by decide +kernel), by decide +kernel, by decide +kernel, by decide +kernel⟩
abbrev mX8_spin : Mth := (yX8_spin, cX8_spin, 3, (some .int), 1)
theorem ok_X8_spin : MOK mX8_spin 2 := ⟨lw_w_at (i := 914) (by decide +kernel) (by decide +kernel), lw_w_at (i := 74) (by decide +kernel) (by decide +kernel), by decide +kernel, by decide +kernel, by decide +kernel⟩
abbrev mX8_upsNow : Mth := (yX8_upsNow, cX8_upsNow, 3, (some .int), 1)
theorem ok_X8_upsNow : MOK mX8_upsNow 0 := ⟨lw_w_at (i := 1079) (by decide +kernel) (by decide +kernel), lw_w_at (i := 74) (by decide +kernel) (by decide +kernel), by decide +kernel, by decide +kernel, by decide +kernel⟩
abbrev mX0_init : Mth := (yX0_init, cX0_init, 2, none, 2)
theorem ok_X0_init : MOK mX0_init 1 := ⟨lw_w_at (i := 148) (by decide +kernel) (by decide +kernel), lw_w_at (i := 68) (by decide +kernel) (by decide +kernel), by decide +kernel, by decide +kernel, by decide +kernel⟩
abbrev mX1_record : Mth := (yX1_record, cX1_record, 2, none, 2)
theorem ok_X1_record : MOK mX1_record 1 := ⟨lw_w_at (i := 338) (by decide +kernel) (by decide +kernel), lw_w_at (i := 72) (by decide +kernel) (by decide +kernel), by decide +kernel, by decide +kernel, by decide +kernel⟩
abbrev mX1_takeLatest : Mth := (yX1_takeLatest, cX1_takeLatest, 2, (some .boolean), 2)
theorem ok_X1_takeLatest : MOK mX1_takeLatest 1 := ⟨lw_w_at (i := 578) (by decide +kernel) (by decide +kernel), lw_w_at (i := 72) (by decide +kernel) (by decide +kernel), by decide +kernel, by decide +kernel, by decide +kernel⟩
abbrev mX2_addColumn : Mth := (yX2_addColumn, cX2_addColumn, 5, none, 2)
theorem ok_X2_addColumn : MOK mX2_addColumn 2 := ⟨lw_w_at (i := 676) (by decide +kernel) (by decide +kernel), lw_w_at (i := 71) (by decide +kernel) (by decide +kernel), by decide +kernel, by decide +kernel, by decide +kernel⟩
abbrev mX2_firstLeastNext : Mth := (yX2_firstLeastNext, cX2_firstLeastNext, 6, (some .int), 2)
theorem ok_X2_firstLeastNext : MOK mX2_firstLeastNext 3 := ⟨lw_w_at (i := 553) (by decide +kernel) (by decide +kernel), lw_w_at (i := 71) (by decide +kernel) (by decide +kernel), by decide +kernel, by decide +kernel, by decide +kernel⟩
abbrev mX2_leastCost : Mth := (yX2_leastCost, cX2_leastCost, 4, (some .int), 2)
theorem ok_X2_leastCost : MOK mX2_leastCost 1 := ⟨lw_w_at (i := 526) (by decide +kernel) (by decide +kernel), lw_w_at (i := 71) (by decide +kernel) (by decide +kernel), by decide +kernel, by decide +kernel, by decide +kernel⟩
abbrev mX3_priceFields : Mth := (yX3_priceFields, cX3_priceFields, 8, (some .int), 2)
theorem ok_X3_priceFields : MOK mX3_priceFields 2 := ⟨lw_w_at (i := 517) (by decide +kernel) (by decide +kernel), lw_w_at (i := 69) (by decide +kernel) (by decide +kernel), by decide +kernel, by decide +kernel, by decide +kernel⟩
abbrev mX4_beside : Mth := (yX4_beside, cX4_beside, 3, (some .long), 2)
theorem ok_X4_beside : MOK mX4_beside 1 := ⟨lw_w_at (i := 462) (by decide +kernel) (by decide +kernel), lw_w_at (i := 67) (by decide +kernel) (by decide +kernel), by decide +kernel, by decide +kernel, by decide +kernel⟩
abbrev mX4_init : Mth := (yX4_init, cX4_init, 1, none, 2)
theorem ok_X4_init : MOK mX4_init 0 := ⟨lw_w_at (i := 94) (by decide +kernel) (by decide +kernel), lw_w_at (i := 67) (by decide +kernel) (by decide +kernel), by decide +kernel, by decide +kernel, by decide +kernel⟩
abbrev mX4_pullOfNeighbours : Mth := (yX4_pullOfNeighbours, cX4_pullOfNeighbours, 3, (some .int), 2)
theorem ok_X4_pullOfNeighbours : MOK mX4_pullOfNeighbours 1 := ⟨lw_w_at (i := 392) (by decide +kernel) (by decide +kernel), lw_w_at (i := 67) (by decide +kernel) (by decide +kernel), by decide +kernel, by decide +kernel, by decide +kernel⟩
abbrev mX4_remake : Mth := (yX4_remake, cX4_remake, 4, none, 2)
theorem ok_X4_remake : MOK mX4_remake 3 := ⟨lw_w_at (i := 349) (by decide +kernel) (by decide +kernel), lw_w_at (i := 67) (by decide +kernel) (by decide +kernel), by decide +kernel, by decide +kernel, by decide +kernel⟩
abbrev mX4_spinAt : Mth := (yX4_spinAt, cX4_spinAt, 3, (some .int), 2)
theorem ok_X4_spinAt : MOK mX4_spinAt 2 := ⟨lw_w_at (i := 387) (by decide +kernel) (by decide +kernel), lw_w_at (i := 67) (by decide +kernel) (by decide +kernel), by decide +kernel, by decide +kernel, by decide +kernel⟩
abbrev mX5_addStrips : Mth := (yX5_addStrips, cX5_addStrips, 6, none, 2)
theorem ok_X5_addStrips : MOK mX5_addStrips 4 := ⟨lw_w_at (i := 627) (by decide +kernel) (by decide +kernel), lw_w_at (i := 70) (by decide +kernel) (by decide +kernel), by decide +kernel, by decide +kernel, by decide +kernel⟩
abbrev mX6_firstFault : Mth := (yX6_firstFault, cX6_firstFault, 4, (some .int), 2)
theorem ok_X6_firstFault : MOK mX6_firstFault 0 := ⟨lw_w_at (i := 364) (by decide +kernel) (by decide +kernel), lw_w_at (i := 73) (by decide +kernel) (by decide +kernel), by decide +kernel, by decide +kernel, by decide +kernel⟩
abbrev mX7_column : Mth := (yX7_column, cX7_column, 2, (some .int), 2)
theorem ok_X7_column : MOK mX7_column 1 := ⟨lw_w_at (i := 602) (by decide +kernel) (by decide +kernel), lw_w_at (i := 66) (by decide +kernel) (by decide +kernel), by decide +kernel, by decide +kernel, by decide +kernel⟩
abbrev mX8_beside : Mth := (yX8_beside, cX8_beside, 4, (some .int), 2)
theorem ok_X8_beside : MOK mX8_beside 2 := ⟨lw_w_at (i := 848) (by decide +kernel) (by decide +kernel), lw_w_at (i := 74) (by decide +kernel) (by decide +kernel), by decide +kernel, by decide +kernel, by decide +kernel⟩
abbrev mX8_column : Mth := (yX8_column, cX8_column, 2, (some .int), 2)
theorem ok_X8_column : MOK mX8_column 1 := ⟨lw_w_at (i := 1018) (by decide +kernel) (by decide +kernel), lw_w_at (i := 74) (by decide +kernel) (by decide +kernel), by decide +kernel, by decide +kernel, by decide +kernel⟩
abbrev mX8_countsFrom : Mth := (yX8_countsFrom, cX8_countsFrom, 11, none, 2)
theorem ok_X8_countsFrom : MOK mX8_countsFrom 4 := ⟨lw_w_at (i := 1034) (by decide +kernel) (by decide +kernel), lw_w_at (i := 74) (by decide +kernel) (by decide +kernel), by decide +kernel, by decide +kernel, by decide +kernel⟩
abbrev mX8_fault : Mth := (yX8_fault, cX8_fault, 1, (some .int), 2)
theorem ok_X8_fault : MOK mX8_fault 0 := ⟨lw_w_at (i := 986) (by decide +kernel) (by decide +kernel), lw_w_at (i := 74) (by decide +kernel) (by decide +kernel), by decide +kernel, by decide +kernel, by decide +kernel⟩
abbrev mX8_joins : Mth := (yX8_joins, cX8_joins, 4, none, 2)
theorem ok_X8_joins : MOK mX8_joins 3 := ⟨lw_w_at (i := 918) (by decide +kernel) (by decide +kernel), lw_w_at (i := 74) (by decide +kernel) (by decide +kernel), by decide +kernel, by decide +kernel, by decide +kernel⟩
abbrev mX8_lay : Mth := (yX8_lay, cX8_lay, 4, (some .int), 2)
theorem ok_X8_lay : MOK mX8_lay 3 := ⟨lw_w_at (i := 812) (by decide +kernel) (by decide +kernel), lw_w_at (i := 74) (by decide +kernel) (by decide +kernel), by decide +kernel, by decide +kernel, by decide +kernel⟩
abbrev mX8_puts : Mth := (yX8_puts, cX8_puts, 4, (some .int), 2)
theorem ok_X8_puts : MOK mX8_puts 2 := ⟨lw_w_at (i := 881) (by decide +kernel) (by decide +kernel), lw_w_at (i := 74) (by decide +kernel) (by decide +kernel), by decide +kernel, by decide +kernel, by decide +kernel⟩
abbrev mX8_rests : Mth := (yX8_rests, cX8_rests, 8, none, 2)
theorem ok_X8_rests : MOK mX8_rests 1 := ⟨lw_w_at (i := 970) (by decide +kernel) (by decide +kernel), lw_w_at (i := 74) (by decide +kernel) (by decide +kernel), by decide +kernel, by decide +kernel, by decide +kernel⟩
abbrev mX8_upsFrom : Mth := (yX8_upsFrom, cX8_upsFrom, 9, none, 2)
theorem ok_X8_upsFrom : MOK mX8_upsFrom 3 := ⟨lw_w_at (i := 952) (by decide +kernel) (by decide +kernel), lw_w_at (i := 74) (by decide +kernel) (by decide +kernel), by decide +kernel, by decide +kernel, by decide +kernel⟩
abbrev mX1_init : Mth := (yX1_init, cX1_init, 2, none, 3)
theorem ok_X1_init : MOK mX1_init 0 := ⟨lw_w_at (i := 269) (by decide +kernel) (by decide +kernel), lw_w_at (i := 72) (by decide +kernel) (by decide +kernel), by decide +kernel, by decide +kernel, by decide +kernel⟩
abbrev mX2_addUps : Mth := (yX2_addUps, cX2_addUps, 5, none, 3)
theorem ok_X2_addUps : MOK mX2_addUps 3 := ⟨lw_w_at (i := 671) (by decide +kernel) (by decide +kernel), lw_w_at (i := 71) (by decide +kernel) (by decide +kernel), by decide +kernel, by decide +kernel, by decide +kernel⟩
abbrev mX2_follow : Mth := (yX2_follow, cX2_follow, 7, (some .long), 3)
theorem ok_X2_follow : MOK mX2_follow 2 := ⟨lw_w_at (i := 549) (by decide +kernel) (by decide +kernel), lw_w_at (i := 71) (by decide +kernel) (by decide +kernel), by decide +kernel, by decide +kernel, by decide +kernel⟩
abbrev mX3_takeFrom : Mth := (yX3_takeFrom, cX3_takeFrom, 9, none, 3)
theorem ok_X3_takeFrom : MOK mX3_takeFrom 2 := ⟨lw_w_at (i := 492) (by decide +kernel) (by decide +kernel), lw_w_at (i := 69) (by decide +kernel) (by decide +kernel), by decide +kernel, by decide +kernel, by decide +kernel⟩
abbrev mX4_energy : Mth := (yX4_energy, cX4_energy, 6, (some .int), 3)
theorem ok_X4_energy : MOK mX4_energy 0 := ⟨lw_w_at (i := 383) (by decide +kernel) (by decide +kernel), lw_w_at (i := 67) (by decide +kernel) (by decide +kernel), by decide +kernel, by decide +kernel, by decide +kernel⟩
abbrev mX4_gain : Mth := (yX4_gain, cX4_gain, 4, (some .int), 3)
theorem ok_X4_gain : MOK mX4_gain 2 := ⟨lw_w_at (i := 475) (by decide +kernel) (by decide +kernel), lw_w_at (i := 67) (by decide +kernel) (by decide +kernel), by decide +kernel, by decide +kernel, by decide +kernel⟩
abbrev mX4_pairs : Mth := (yX4_pairs, cX4_pairs, 4, (some .int), 3)
theorem ok_X4_pairs : MOK mX4_pairs 0 := ⟨lw_w_at (i := 725) (by decide +kernel) (by decide +kernel), lw_w_at (i := 67) (by decide +kernel) (by decide +kernel), by decide +kernel, by decide +kernel, by decide +kernel⟩
abbrev mX4_patchOf : Mth := (yX4_patchOf, cX4_patchOf, 10, (some .long), 3)
theorem ok_X4_patchOf : MOK mX4_patchOf 1 := ⟨lw_w_at (i := 453) (by decide +kernel) (by decide +kernel), lw_w_at (i := 67) (by decide +kernel) (by decide +kernel), by decide +kernel, by decide +kernel, by decide +kernel⟩
abbrev mX4_walls : Mth := (yX4_walls, cX4_walls, 6, (some .int), 3)
theorem ok_X4_walls : MOK mX4_walls 0 := ⟨lw_w_at (i := 708) (by decide +kernel) (by decide +kernel), lw_w_at (i := 67) (by decide +kernel) (by decide +kernel), by decide +kernel, by decide +kernel, by decide +kernel⟩
abbrev mX5_fill : Mth := (yX5_fill, cX5_fill, 4, none, 3)
theorem ok_X5_fill : MOK mX5_fill 2 := ⟨lw_w_at (i := 622) (by decide +kernel) (by decide +kernel), lw_w_at (i := 70) (by decide +kernel) (by decide +kernel), by decide +kernel, by decide +kernel, by decide +kernel⟩
abbrev mX7_lay : Mth := (yX7_lay, cX7_lay, 4, (some .int), 3)
theorem ok_X7_lay : MOK mX7_lay 3 := ⟨lw_w_at (i := 334) (by decide +kernel) (by decide +kernel), lw_w_at (i := 66) (by decide +kernel) (by decide +kernel), by decide +kernel, by decide +kernel, by decide +kernel⟩
abbrev mX7_read : Mth := (yX7_read, cX7_read, 2, (some .int), 3)
theorem ok_X7_read : MOK mX7_read 0 := ⟨lw_w_at (i := 360) (by decide +kernel) (by decide +kernel), lw_w_at (i := 66) (by decide +kernel) (by decide +kernel), by decide +kernel, by decide +kernel, by decide +kernel⟩
abbrev mX7_setField : Mth := (yX7_setField, cX7_setField, 5, (some .int), 3)
theorem ok_X7_setField : MOK mX7_setField 3 := ⟨lw_w_at (i := 430) (by decide +kernel) (by decide +kernel), lw_w_at (i := 66) (by decide +kernel) (by decide +kernel), by decide +kernel, by decide +kernel, by decide +kernel⟩
abbrev mX7_setPull : Mth := (yX7_setPull, cX7_setPull, 4, (some .int), 3)
theorem ok_X7_setPull : MOK mX7_setPull 2 := ⟨lw_w_at (i := 426) (by decide +kernel) (by decide +kernel), lw_w_at (i := 66) (by decide +kernel) (by decide +kernel), by decide +kernel, by decide +kernel, by decide +kernel⟩
abbrev mX7_undo : Mth := (yX7_undo, cX7_undo, 1, (some .int), 3)
theorem ok_X7_undo : MOK mX7_undo 0 := ⟨lw_w_at (i := 574) (by decide +kernel) (by decide +kernel), lw_w_at (i := 66) (by decide +kernel) (by decide +kernel), by decide +kernel, by decide +kernel, by decide +kernel⟩
abbrev mX8_countsAll : Mth := (yX8_countsAll, cX8_countsAll, 3, none, 3)
theorem ok_X8_countsAll : MOK mX8_countsAll 1 := ⟨lw_w_at (i := 1030) (by decide +kernel) (by decide +kernel), lw_w_at (i := 74) (by decide +kernel) (by decide +kernel), by decide +kernel, by decide +kernel, by decide +kernel⟩
abbrev mX8_finds : Mth := (yX8_finds, cX8_finds, 7, none, 3)
theorem ok_X8_finds : MOK mX8_finds 2 := ⟨lw_w_at (i := 910) (by decide +kernel) (by decide +kernel), lw_w_at (i := 74) (by decide +kernel) (by decide +kernel), by decide +kernel, by decide +kernel, by decide +kernel⟩
abbrev mX8_gain : Mth := (yX8_gain, cX8_gain, 6, (some .int), 3)
theorem ok_X8_gain : MOK mX8_gain 2 := ⟨lw_w_at (i := 931) (by decide +kernel) (by decide +kernel), lw_w_at (i := 74) (by decide +kernel) (by decide +kernel), by decide +kernel, by decide +kernel, by decide +kernel⟩
abbrev mX8_neighbours : Mth := (yX8_neighbours, cX8_neighbours, 8, (some .int), 3)
theorem ok_X8_neighbours : MOK mX8_neighbours 3 := ⟨lw_w_at (i := 1014) (by decide +kernel) (by decide +kernel), lw_w_at (i := 74) (by decide +kernel) (by decide +kernel), by decide +kernel, by decide +kernel, by decide +kernel⟩
abbrev mX8_ofStrip : Mth := (yX8_ofStrip, cX8_ofStrip, 5, (some .int), 3)
theorem ok_X8_ofStrip : MOK mX8_ofStrip 1 := ⟨lw_w_at (i := 844) (by decide +kernel) (by decide +kernel), lw_w_at (i := 74) (by decide +kernel) (by decide +kernel), by decide +kernel, by decide +kernel, by decide +kernel⟩
abbrev mX8_read : Mth := (yX8_read, cX8_read, 4, (some .int), 3)
theorem ok_X8_read : MOK mX8_read 0 := ⟨lw_w_at (i := 982) (by decide +kernel) (by decide +kernel), lw_w_at (i := 74) (by decide +kernel) (by decide +kernel), by decide +kernel, by decide +kernel, by decide +kernel⟩
abbrev mX8_setField : Mth := (yX8_setField, cX8_setField, 4, (some .int), 3)
theorem ok_X8_setField : MOK mX8_setField 3 := ⟨lw_w_at (i := 885) (by decide +kernel) (by decide +kernel), lw_w_at (i := 74) (by decide +kernel) (by decide +kernel), by decide +kernel, by decide +kernel, by decide +kernel⟩
abbrev mX8_setPull : Mth := (yX8_setPull, cX8_setPull, 3, (some .int), 3)
theorem ok_X8_setPull : MOK mX8_setPull 2 := ⟨lw_w_at (i := 875) (by decide +kernel) (by decide +kernel), lw_w_at (i := 74) (by decide +kernel) (by decide +kernel), by decide +kernel, by decide +kernel, by decide +kernel⟩
abbrev mX8_settles : Mth := (yX8_settles, cX8_settles, 7, none, 3)
theorem ok_X8_settles : MOK mX8_settles 1 := ⟨lw_w_at (i := 962) (by decide +kernel) (by decide +kernel), lw_w_at (i := 74) (by decide +kernel) (by decide +kernel), by decide +kernel, by decide +kernel, by decide +kernel⟩
abbrev mX8_upsAll : Mth := (yX8_upsAll, cX8_upsAll, 2, none, 3)
theorem ok_X8_upsAll : MOK mX8_upsAll 0 := ⟨lw_w_at (i := 943) (by decide +kernel) (by decide +kernel), lw_w_at (i := 74) (by decide +kernel) (by decide +kernel), by decide +kernel, by decide +kernel, by decide +kernel⟩
abbrev mX0_learnCosts : Mth := (yX0_learnCosts, cX0_learnCosts, 1, none, 4)
theorem ok_X0_learnCosts : MOK mX0_learnCosts 0 := ⟨lw_w_at (i := 618) (by decide +kernel) (by decide +kernel), lw_w_at (i := 68) (by decide +kernel) (by decide +kernel), by decide +kernel, by decide +kernel, by decide +kernel⟩
abbrev mX0_manyWithWalls : Mth := (yX0_manyWithWalls, cX0_manyWithWalls, 2, (some .int), 4)
theorem ok_X0_manyWithWalls : MOK mX0_manyWithWalls 1 := ⟨lw_w_at (i := 654) (by decide +kernel) (by decide +kernel), lw_w_at (i := 68) (by decide +kernel) (by decide +kernel), by decide +kernel, by decide +kernel, by decide +kernel⟩
abbrev mX2_fillUps : Mth := (yX2_fillUps, cX2_fillUps, 5, none, 4)
theorem ok_X2_fillUps : MOK mX2_fillUps 2 := ⟨lw_w_at (i := 666) (by decide +kernel) (by decide +kernel), lw_w_at (i := 71) (by decide +kernel) (by decide +kernel), by decide +kernel, by decide +kernel, by decide +kernel⟩
abbrev mX2_firstStrip : Mth := (yX2_firstStrip, cX2_firstStrip, 5, (some .long), 4)
theorem ok_X2_firstStrip : MOK mX2_firstStrip 1 := ⟨lw_w_at (i := 522) (by decide +kernel) (by decide +kernel), lw_w_at (i := 71) (by decide +kernel) (by decide +kernel), by decide +kernel, by decide +kernel, by decide +kernel⟩
abbrev mX4_flipGainingCells : Mth := (yX4_flipGainingCells, cX4_flipGainingCells, 4, (some .int), 4)
theorem ok_X4_flipGainingCells : MOK mX4_flipGainingCells 0 := ⟨lw_w_at (i := 479) (by decide +kernel) (by decide +kernel), lw_w_at (i := 67) (by decide +kernel) (by decide +kernel), by decide +kernel, by decide +kernel, by decide +kernel⟩
abbrev mX4_gainingCells : Mth := (yX4_gainingCells, cX4_gainingCells, 4, (some .int), 4)
theorem ok_X4_gainingCells : MOK mX4_gainingCells 0 := ⟨lw_w_at (i := 471) (by decide +kernel) (by decide +kernel), lw_w_at (i := 67) (by decide +kernel) (by decide +kernel), by decide +kernel, by decide +kernel, by decide +kernel⟩
abbrev mX4_patches : Mth := (yX4_patches, cX4_patches, 8, (some .int), 4)
theorem ok_X4_patches : MOK mX4_patches 0 := ⟨lw_w_at (i := 720) (by decide +kernel) (by decide +kernel), lw_w_at (i := 67) (by decide +kernel) (by decide +kernel), by decide +kernel, by decide +kernel, by decide +kernel⟩
abbrev mX7_cell : Mth := (yX7_cell, cX7_cell, 6, (some .int), 4)
theorem ok_X7_cell : MOK mX7_cell 3 := ⟨lw_w_at (i := 591) (by decide +kernel) (by decide +kernel), lw_w_at (i := 66) (by decide +kernel) (by decide +kernel), by decide +kernel, by decide +kernel, by decide +kernel⟩
abbrev mX7_close : Mth := (yX7_close, cX7_close, 2, (some .int), 4)
theorem ok_X7_close : MOK mX7_close 1 := ⟨lw_w_at (i := 379) (by decide +kernel) (by decide +kernel), lw_w_at (i := 66) (by decide +kernel) (by decide +kernel), by decide +kernel, by decide +kernel, by decide +kernel⟩
abbrev mX7_init : Mth := (yX7_init, cX7_init, 1, none, 4)
theorem ok_X7_init : MOK mX7_init 0 := ⟨lw_w_at (i := 86) (by decide +kernel) (by decide +kernel), lw_w_at (i := 66) (by decide +kernel) (by decide +kernel), by decide +kernel, by decide +kernel, by decide +kernel⟩
abbrev mX7_keep : Mth := (yX7_keep, cX7_keep, 1, (some .int), 4)
theorem ok_X7_keep : MOK mX7_keep 0 := ⟨lw_w_at (i := 582) (by decide +kernel) (by decide +kernel), lw_w_at (i := 66) (by decide +kernel) (by decide +kernel), by decide +kernel, by decide +kernel, by decide +kernel⟩
abbrev mX7_restore : Mth := (yX7_restore, cX7_restore, 1, (some .int), 4)
theorem ok_X7_restore : MOK mX7_restore 0 := ⟨lw_w_at (i := 587) (by decide +kernel) (by decide +kernel), lw_w_at (i := 66) (by decide +kernel) (by decide +kernel), by decide +kernel, by decide +kernel, by decide +kernel⟩
abbrev mX7_turn : Mth := (yX7_turn, cX7_turn, 3, (some .int), 4)
theorem ok_X7_turn : MOK mX7_turn 2 := ⟨lw_w_at (i := 440) (by decide +kernel) (by decide +kernel), lw_w_at (i := 66) (by decide +kernel) (by decide +kernel), by decide +kernel, by decide +kernel, by decide +kernel⟩
abbrev mX7_turnPatch : Mth := (yX7_turnPatch, cX7_turnPatch, 5, (some .int), 4)
theorem ok_X7_turnPatch : MOK mX7_turnPatch 2 := ⟨lw_w_at (i := 449) (by decide +kernel) (by decide +kernel), lw_w_at (i := 66) (by decide +kernel) (by decide +kernel), by decide +kernel, by decide +kernel, by decide +kernel⟩
abbrev mX8_cell : Mth := (yX8_cell, cX8_cell, 5, (some .int), 4)
theorem ok_X8_cell : MOK mX8_cell 3 := ⟨lw_w_at (i := 1010) (by decide +kernel) (by decide +kernel), lw_w_at (i := 74) (by decide +kernel) (by decide +kernel), by decide +kernel, by decide +kernel, by decide +kernel⟩
abbrev mX8_energy : Mth := (yX8_energy, cX8_energy, 1, (some .int), 4)
theorem ok_X8_energy : MOK mX8_energy 0 := ⟨lw_w_at (i := 840) (by decide +kernel) (by decide +kernel), lw_w_at (i := 74) (by decide +kernel) (by decide +kernel), by decide +kernel, by decide +kernel, by decide +kernel⟩
abbrev mX8_heat : Mth := (yX8_heat, cX8_heat, 9, (some .int), 4)
theorem ok_X8_heat : MOK mX8_heat 2 := ⟨lw_w_at (i := 1051) (by decide +kernel) (by decide +kernel), lw_w_at (i := 74) (by decide +kernel) (by decide +kernel), by decide +kernel, by decide +kernel, by decide +kernel⟩
abbrev mX8_leastEnergy : Mth := (yX8_leastEnergy, cX8_leastEnergy, 3, (some .int), 4)
theorem ok_X8_leastEnergy : MOK mX8_leastEnergy 0 := ⟨lw_w_at (i := 939) (by decide +kernel) (by decide +kernel), lw_w_at (i := 74) (by decide +kernel) (by decide +kernel), by decide +kernel, by decide +kernel, by decide +kernel⟩
abbrev mX8_ofAll : Mth := (yX8_ofAll, cX8_ofAll, 2, (some .int), 4)
theorem ok_X8_ofAll : MOK mX8_ofAll 1 := ⟨lw_w_at (i := 1083) (by decide +kernel) (by decide +kernel), lw_w_at (i := 74) (by decide +kernel) (by decide +kernel), by decide +kernel, by decide +kernel, by decide +kernel⟩
abbrev mX8_patches : Mth := (yX8_patches, cX8_patches, 5, (some .int), 4)
theorem ok_X8_patches : MOK mX8_patches 0 := ⟨lw_w_at (i := 1087) (by decide +kernel) (by decide +kernel), lw_w_at (i := 74) (by decide +kernel) (by decide +kernel), by decide +kernel, by decide +kernel, by decide +kernel⟩
abbrev mX8_sweeps : Mth := (yX8_sweeps, cX8_sweeps, 3, (some .int), 4)
theorem ok_X8_sweeps : MOK mX8_sweeps 0 := ⟨lw_w_at (i := 927) (by decide +kernel) (by decide +kernel), lw_w_at (i := 74) (by decide +kernel) (by decide +kernel), by decide +kernel, by decide +kernel, by decide +kernel⟩
abbrev mX8_thatWouldTurn : Mth := (yX8_thatWouldTurn, cX8_thatWouldTurn, 3, (some .int), 4)
theorem ok_X8_thatWouldTurn : MOK mX8_thatWouldTurn 0 := ⟨lw_w_at (i := 1091) (by decide +kernel) (by decide +kernel), lw_w_at (i := 74) (by decide +kernel) (by decide +kernel), by decide +kernel, by decide +kernel, by decide +kernel⟩
abbrev mX8_turnPatch : Mth := (yX8_turnPatch, cX8_turnPatch, 4, (some .int), 4)
theorem ok_X8_turnPatch : MOK mX8_turnPatch 2 := ⟨lw_w_at (i := 902) (by decide +kernel) (by decide +kernel), lw_w_at (i := 74) (by decide +kernel) (by decide +kernel), by decide +kernel, by decide +kernel, by decide +kernel⟩
abbrev mX8_with : Mth := (yX8_with, cX8_with, 3, (some .int), 4)
theorem ok_X8_with : MOK mX8_with 2 := ⟨lw_w_at (i := 1026) (by decide +kernel) (by decide +kernel), lw_w_at (i := 74) (by decide +kernel) (by decide +kernel), by decide +kernel, by decide +kernel, by decide +kernel⟩
abbrev mX0_firstWithLeastEnergy : Mth := (yX0_firstWithLeastEnergy, cX0_firstWithLeastEnergy, 1, (some .long), 5)
theorem ok_X0_firstWithLeastEnergy : MOK mX0_firstWithLeastEnergy 0 := ⟨lw_w_at (i := 488) (by decide +kernel) (by decide +kernel), lw_w_at (i := 68) (by decide +kernel) (by decide +kernel), by decide +kernel, by decide +kernel, by decide +kernel⟩
abbrev mX0_greatestEnergy : Mth := (yX0_greatestEnergy, cX0_greatestEnergy, 1, (some .int), 5)
theorem ok_X0_greatestEnergy : MOK mX0_greatestEnergy 0 := ⟨lw_w_at (i := 716) (by decide +kernel) (by decide +kernel), lw_w_at (i := 68) (by decide +kernel) (by decide +kernel), by decide +kernel, by decide +kernel, by decide +kernel⟩
abbrev mX0_leastEnergy : Mth := (yX0_leastEnergy, cX0_leastEnergy, 1, (some .int), 5)
theorem ok_X0_leastEnergy : MOK mX0_leastEnergy 0 := ⟨lw_w_at (i := 712) (by decide +kernel) (by decide +kernel), lw_w_at (i := 68) (by decide +kernel) (by decide +kernel), by decide +kernel, by decide +kernel, by decide +kernel⟩
abbrev mX0_manyOfLeastWithUps : Mth := (yX0_manyOfLeastWithUps, cX0_manyOfLeastWithUps, 2, (some .int), 5)
theorem ok_X0_manyOfLeastWithUps : MOK mX0_manyOfLeastWithUps 1 := ⟨lw_w_at (i := 662) (by decide +kernel) (by decide +kernel), lw_w_at (i := 68) (by decide +kernel) (by decide +kernel), by decide +kernel, by decide +kernel, by decide +kernel⟩
abbrev mX0_manyWithEnergy : Mth := (yX0_manyWithEnergy, cX0_manyWithEnergy, 2, (some .int), 5)
theorem ok_X0_manyWithEnergy : MOK mX0_manyWithEnergy 1 := ⟨lw_w_at (i := 614) (by decide +kernel) (by decide +kernel), lw_w_at (i := 68) (by decide +kernel) (by decide +kernel), by decide +kernel, by decide +kernel, by decide +kernel⟩
abbrev mX0_sumOfWeights : Mth := (yX0_sumOfWeights, cX0_sumOfWeights, 8, (some .float), 5)
theorem ok_X0_sumOfWeights : MOK mX0_sumOfWeights 2 := ⟨lw_w_at (i := 690) (by decide +kernel) (by decide +kernel), lw_w_at (i := 68) (by decide +kernel) (by decide +kernel), by decide +kernel, by decide +kernel, by decide +kernel⟩
abbrev mX7_sweep : Mth := (yX7_sweep, cX7_sweep, 5, (some .int), 5)
theorem ok_X7_sweep : MOK mX7_sweep 1 := ⟨lw_w_at (i := 467) (by decide +kernel) (by decide +kernel), lw_w_at (i := 66) (by decide +kernel) (by decide +kernel), by decide +kernel, by decide +kernel, by decide +kernel⟩
abbrev mX7_withWalls : Mth := (yX7_withWalls, cX7_withWalls, 2, (some .int), 5)
theorem ok_X7_withWalls : MOK mX7_withWalls 1 := ⟨lw_w_at (i := 650) (by decide +kernel) (by decide +kernel), lw_w_at (i := 66) (by decide +kernel) (by decide +kernel), by decide +kernel, by decide +kernel, by decide +kernel⟩
abbrev mX8_close : Mth := (yX8_close, cX8_close, 3, (some .int), 5)
theorem ok_X8_close : MOK mX8_close 1 := ⟨lw_w_at (i := 836) (by decide +kernel) (by decide +kernel), lw_w_at (i := 74) (by decide +kernel) (by decide +kernel), by decide +kernel, by decide +kernel, by decide +kernel⟩
abbrev mX8_count : Mth := (yX8_count, cX8_count, 2, (some .int), 5)
theorem ok_X8_count : MOK mX8_count 1 := ⟨lw_w_at (i := 1075) (by decide +kernel) (by decide +kernel), lw_w_at (i := 74) (by decide +kernel) (by decide +kernel), by decide +kernel, by decide +kernel, by decide +kernel⟩
abbrev mX8_keep : Mth := (yX8_keep, cX8_keep, 1, (some .int), 5)
theorem ok_X8_keep : MOK mX8_keep 0 := ⟨lw_w_at (i := 1002) (by decide +kernel) (by decide +kernel), lw_w_at (i := 74) (by decide +kernel) (by decide +kernel), by decide +kernel, by decide +kernel, by decide +kernel⟩
abbrev mX8_restore : Mth := (yX8_restore, cX8_restore, 1, (some .int), 5)
theorem ok_X8_restore : MOK mX8_restore 0 := ⟨lw_w_at (i := 1006) (by decide +kernel) (by decide +kernel), lw_w_at (i := 74) (by decide +kernel) (by decide +kernel), by decide +kernel, by decide +kernel, by decide +kernel⟩
abbrev mX8_settle : Mth := (yX8_settle, cX8_settle, 4, (some .int), 5)
theorem ok_X8_settle : MOK mX8_settle 0 := ⟨lw_w_at (i := 935) (by decide +kernel) (by decide +kernel), lw_w_at (i := 74) (by decide +kernel) (by decide +kernel), by decide +kernel, by decide +kernel, by decide +kernel⟩
abbrev mX8_sweep : Mth := (yX8_sweep, cX8_sweep, 5, (some .int), 5)
theorem ok_X8_sweep : MOK mX8_sweep 1 := ⟨lw_w_at (i := 922) (by decide +kernel) (by decide +kernel), lw_w_at (i := 74) (by decide +kernel) (by decide +kernel), by decide +kernel, by decide +kernel, by decide +kernel⟩
abbrev mX8_turn : Mth := (yX8_turn, cX8_turn, 3, (some .int), 5)
theorem ok_X8_turn : MOK mX8_turn 2 := ⟨lw_w_at (i := 894) (by decide +kernel) (by decide +kernel), lw_w_at (i := 74) (by decide +kernel) (by decide +kernel), by decide +kernel, by decide +kernel, by decide +kernel⟩
abbrev mX8_withEnergy : Mth := (yX8_withEnergy, cX8_withEnergy, 2, (some .int), 5)
theorem ok_X8_withEnergy : MOK mX8_withEnergy 1 := ⟨lw_w_at (i := 1022) (by decide +kernel) (by decide +kernel), lw_w_at (i := 74) (by decide +kernel) (by decide +kernel), by decide +kernel, by decide +kernel, by decide +kernel⟩
abbrev mX8_withUps : Mth := (yX8_withUps, cX8_withUps, 4, (some .int), 5)
theorem ok_X8_withUps : MOK mX8_withUps 2 := ⟨lw_w_at (i := 1044) (by decide +kernel) (by decide +kernel), lw_w_at (i := 74) (by decide +kernel) (by decide +kernel), by decide +kernel, by decide +kernel, by decide +kernel⟩
abbrev mX8_withWalls : Mth := (yX8_withWalls, cX8_withWalls, 2, (some .int), 5)
theorem ok_X8_withWalls : MOK mX8_withWalls 1 := ⟨lw_w_at (i := 1040) (by decide +kernel) (by decide +kernel), lw_w_at (i := 74) (by decide +kernel) (by decide +kernel), by decide +kernel, by decide +kernel, by decide +kernel⟩
abbrev mX7_count : Mth := (yX7_count, cX7_count, 2, (some .int), 6)
theorem ok_X7_count : MOK mX7_count 1 := ⟨lw_w_at (i := 704) (by decide +kernel) (by decide +kernel), lw_w_at (i := 66) (by decide +kernel) (by decide +kernel), by decide +kernel, by decide +kernel, by decide +kernel⟩
abbrev mX7_heat : Mth := (yX7_heat, cX7_heat, 5, (some .int), 6)
theorem ok_X7_heat : MOK mX7_heat 2 := ⟨lw_w_at (i := 685) (by decide +kernel) (by decide +kernel), lw_w_at (i := 66) (by decide +kernel) (by decide +kernel), by decide +kernel, by decide +kernel, by decide +kernel⟩
abbrev mX7_settle : Mth := (yX7_settle, cX7_settle, 3, (some .int), 6)
theorem ok_X7_settle : MOK mX7_settle 0 := ⟨lw_w_at (i := 484) (by decide +kernel) (by decide +kernel), lw_w_at (i := 66) (by decide +kernel) (by decide +kernel), by decide +kernel, by decide +kernel, by decide +kernel⟩
abbrev mX7_withEnergy : Mth := (yX7_withEnergy, cX7_withEnergy, 2, (some .int), 6)
theorem ok_X7_withEnergy : MOK mX7_withEnergy 1 := ⟨lw_w_at (i := 610) (by decide +kernel) (by decide +kernel), lw_w_at (i := 66) (by decide +kernel) (by decide +kernel), by decide +kernel, by decide +kernel, by decide +kernel⟩
abbrev mX7_withUps : Mth := (yX7_withUps, cX7_withUps, 3, (some .int), 6)
theorem ok_X7_withUps : MOK mX7_withUps 2 := ⟨lw_w_at (i := 658) (by decide +kernel) (by decide +kernel), lw_w_at (i := 66) (by decide +kernel) (by decide +kernel), by decide +kernel, by decide +kernel, by decide +kernel⟩
theorem fX0_12 : LkF RX0 12 0 1 := ⟨_, _, _, cls_0, by decide, Or.inl (lw_w_at (w := .fieldLink RX0 12 (TX0 1).1 (TX0 1).2.1 (TX0 1).2.2.1) (i := 226) (by decide +kernel) (by decide +kernel))⟩
theorem fX0_103 : LkF RX0 103 3 4 := ⟨_, _, _, cls_3, by decide, Or.inr ⟨_, lw_x_at (w := .fieldLinkNest RX0 103 (TX3 4).1 (TX3 4).2.1 (TX3 4).2.2.1 "SpinStrips") (i := 168) (by decide +kernel) (by decide +kernel)⟩⟩
theorem gX0_52 : LkP RX0 52 0 10 (.boolean) := ⟨_, _, _, cls_0, by decide, Or.inl (lw_w_at (w := .fieldLink RX0 52 (TX0 10).1 (TX0 10).2.1 (TX0 10).2.2.1) (i := 235) (by decide +kernel) (by decide +kernel)), by decide +kernel, rfl⟩
theorem gX0_56 : LkP RX0 56 0 11 (.boolean) := ⟨_, _, _, cls_0, by decide, Or.inl (lw_w_at (w := .fieldLink RX0 56 (TX0 11).1 (TX0 11).2.1 (TX0 11).2.2.1) (i := 236) (by decide +kernel) (by decide +kernel)), by decide +kernel, rfl⟩
theorem gX0_59 : LkP RX0 59 0 12 (.boolean) := ⟨_, _, _, cls_0, by decide, Or.inl (lw_w_at (w := .fieldLink RX0 59 (TX0 12).1 (TX0 12).2.1 (TX0 12).2.2.1) (i := 237) (by decide +kernel) (by decide +kernel)), by decide +kernel, rfl⟩
theorem fX0_62 : LkF RX0 62 0 0 := ⟨_, _, _, cls_0, by decide, Or.inl (lw_w_at (w := .fieldLink RX0 62 (TX0 0).1 (TX0 0).2.1 (TX0 0).2.2.1) (i := 225) (by decide +kernel) (by decide +kernel))⟩
theorem fX0_88 : LkF RX0 88 4 0 := ⟨_, _, _, cls_4, by decide, Or.inr ⟨_, lw_x_at (w := .fieldLinkNest RX0 88 (TX4 0).1 (TX4 0).2.1 (TX4 0).2.2.1 "SpinStrips") (i := 104) (by decide +kernel) (by decide +kernel)⟩⟩
theorem fX0_93 : LkF RX0 93 4 1 := ⟨_, _, _, cls_4, by decide, Or.inr ⟨_, lw_x_at (w := .fieldLinkNest RX0 93 (TX4 1).1 (TX4 1).2.1 (TX4 1).2.2.1 "SpinStrips") (i := 108) (by decide +kernel) (by decide +kernel)⟩⟩
theorem fX2_60 : LkF RX2 60 3 0 := ⟨_, _, _, cls_3, by decide, Or.inr ⟨_, lw_x_at (w := .fieldLinkNest RX2 60 (TX3 0).1 (TX3 0).2.1 (TX3 0).2.2.1 "SpinStrips") (i := 160) (by decide +kernel) (by decide +kernel)⟩⟩
theorem fX2_73 : LkF RX2 73 3 7 := ⟨_, _, _, cls_3, by decide, Or.inr ⟨_, lw_x_at (w := .fieldLinkNest RX2 73 (TX3 7).1 (TX3 7).2.1 (TX3 7).2.2.1 "SpinStrips") (i := 176) (by decide +kernel) (by decide +kernel)⟩⟩
theorem fX2_70 : LkF RX2 70 3 6 := ⟨_, _, _, cls_3, by decide, Or.inr ⟨_, lw_x_at (w := .fieldLinkNest RX2 70 (TX3 6).1 (TX3 6).2.1 (TX3 6).2.2.1 "SpinStrips") (i := 173) (by decide +kernel) (by decide +kernel)⟩⟩
theorem fX2_11 : LkF RX2 11 2 0 := ⟨_, _, _, cls_2, by decide, Or.inl (lw_w_at (w := .fieldLink RX2 11 (TX2 0).1 (TX2 0).2.1 (TX2 0).2.2.1) (i := 215) (by decide +kernel) (by decide +kernel))⟩
theorem fX3_15 : LkF RX3 15 3 1 := ⟨_, _, _, cls_3, by decide, Or.inl (lw_w_at (w := .fieldLink RX3 15 (TX3 1).1 (TX3 1).2.1 (TX3 1).2.2.1) (i := 161) (by decide +kernel) (by decide +kernel))⟩
theorem fX3_21 : LkF RX3 21 3 3 := ⟨_, _, _, cls_3, by decide, Or.inl (lw_w_at (w := .fieldLink RX3 21 (TX3 3).1 (TX3 3).2.1 (TX3 3).2.2.1) (i := 165) (by decide +kernel) (by decide +kernel))⟩
theorem fX3_37 : LkF RX3 37 3 7 := ⟨_, _, _, cls_3, by decide, Or.inl (lw_w_at (w := .fieldLink RX3 37 (TX3 7).1 (TX3 7).2.1 (TX3 7).2.2.1) (i := 174) (by decide +kernel) (by decide +kernel))⟩
theorem fX4_36 : LkF RX4 36 4 6 := ⟨_, _, _, cls_4, by decide, Or.inl (lw_w_at (w := .fieldLink RX4 36 (TX4 6).1 (TX4 6).2.1 (TX4 6).2.2.1) (i := 119) (by decide +kernel) (by decide +kernel))⟩
theorem fX4_32 : LkF RX4 32 4 5 := ⟨_, _, _, cls_4, by decide, Or.inl (lw_w_at (w := .fieldLink RX4 32 (TX4 5).1 (TX4 5).2.1 (TX4 5).2.2.1) (i := 118) (by decide +kernel) (by decide +kernel))⟩
theorem fX4_18 : LkF RX4 18 4 2 := ⟨_, _, _, cls_4, by decide, Or.inl (lw_w_at (w := .fieldLink RX4 18 (TX4 2).1 (TX4 2).2.1 (TX4 2).2.2.1) (i := 110) (by decide +kernel) (by decide +kernel))⟩
theorem fX4_9 : LkF RX4 9 4 0 := ⟨_, _, _, cls_4, by decide, Or.inl (lw_w_at (w := .fieldLink RX4 9 (TX4 0).1 (TX4 0).2.1 (TX4 0).2.2.1) (i := 102) (by decide +kernel) (by decide +kernel))⟩
theorem fX4_15 : LkF RX4 15 4 1 := ⟨_, _, _, cls_4, by decide, Or.inl (lw_w_at (w := .fieldLink RX4 15 (TX4 1).1 (TX4 1).2.1 (TX4 1).2.2.1) (i := 106) (by decide +kernel) (by decide +kernel))⟩
theorem fX6_15 : LkF RX6 15 6 1 := ⟨_, _, _, cls_6, by decide, Or.inl (lw_w_at (w := .fieldLink RX6 15 (TX6 1).1 (TX6 1).2.1 (TX6 1).2.2.1) (i := 292) (by decide +kernel) (by decide +kernel))⟩
theorem fX6_9 : LkF RX6 9 6 0 := ⟨_, _, _, cls_6, by decide, Or.inl (lw_w_at (w := .fieldLink RX6 9 (TX6 0).1 (TX6 0).2.1 (TX6 0).2.2.1) (i := 291) (by decide +kernel) (by decide +kernel))⟩
theorem gX6_15 : LkP RX6 15 6 1 (.int) := ⟨_, _, _, cls_6, by decide, Or.inl (lw_w_at (w := .fieldLink RX6 15 (TX6 1).1 (TX6 1).2.1 (TX6 1).2.2.1) (i := 292) (by decide +kernel) (by decide +kernel)), by decide +kernel, rfl⟩
theorem fX6_19 : LkF RX6 19 6 2 := ⟨_, _, _, cls_6, by decide, Or.inl (lw_w_at (w := .fieldLink RX6 19 (TX6 2).1 (TX6 2).2.1 (TX6 2).2.2.1) (i := 294) (by decide +kernel) (by decide +kernel))⟩
theorem fX6_22 : LkF RX6 22 6 3 := ⟨_, _, _, cls_6, by decide, Or.inl (lw_w_at (w := .fieldLink RX6 22 (TX6 3).1 (TX6 3).2.1 (TX6 3).2.2.1) (i := 296) (by decide +kernel) (by decide +kernel))⟩
theorem fX7_42 : LkF RX7 42 7 5 := ⟨_, _, _, cls_7, by decide, Or.inl (lw_w_at (w := .fieldLink RX7 42 (TX7 5).1 (TX7 5).2.1 (TX7 5).2.2.1) (i := 317) (by decide +kernel) (by decide +kernel))⟩
theorem fX7_128 : LkF RX7 128 6 1 := ⟨_, _, _, cls_6, by decide, Or.inr ⟨_, lw_x_at (w := .fieldLinkNest RX7 128 (TX6 1).1 (TX6 1).2.1 (TX6 1).2.2.1 "SpinStrips") (i := 293) (by decide +kernel) (by decide +kernel)⟩⟩
theorem gX7_128 : LkP RX7 128 6 1 (.int) := ⟨_, _, _, cls_6, by decide, Or.inr ⟨_, lw_x_at (w := .fieldLinkNest RX7 128 (TX6 1).1 (TX6 1).2.1 (TX6 1).2.2.1 "SpinStrips") (i := 293) (by decide +kernel) (by decide +kernel)⟩, by decide +kernel, rfl⟩
theorem fX8_69 : LkF RX8 69 8 3 := ⟨_, _, _, cls_8, by decide, Or.inl (lw_w_at (w := .fieldLink RX8 69 (TX8 3).1 (TX8 3).2.1 (TX8 3).2.2.1) (i := 739) (by decide +kernel) (by decide +kernel))⟩
theorem fX8_16 : LkF RX8 16 8 2 := ⟨_, _, _, cls_8, by decide, Or.inl (lw_w_at (w := .fieldLink RX8 16 (TX8 2).1 (TX8 2).2.1 (TX8 2).2.2.1) (i := 738) (by decide +kernel) (by decide +kernel))⟩
theorem gX8_69 : LkP RX8 69 8 3 (.int) := ⟨_, _, _, cls_8, by decide, Or.inl (lw_w_at (w := .fieldLink RX8 69 (TX8 3).1 (TX8 3).2.1 (TX8 3).2.2.1) (i := 739) (by decide +kernel) (by decide +kernel)), by decide +kernel, rfl⟩
theorem fX8_13 : LkF RX8 13 8 1 := ⟨_, _, _, cls_8, by decide, Or.inl (lw_w_at (w := .fieldLink RX8 13 (TX8 1).1 (TX8 1).2.1 (TX8 1).2.2.1) (i := 737) (by decide +kernel) (by decide +kernel))⟩
theorem fX8_7 : LkF RX8 7 8 0 := ⟨_, _, _, cls_8, by decide, Or.inl (lw_w_at (w := .fieldLink RX8 7 (TX8 0).1 (TX8 0).2.1 (TX8 0).2.2.1) (i := 736) (by decide +kernel) (by decide +kernel))⟩
theorem fX8_204 : LkF RX8 204 8 20 := ⟨_, _, _, cls_8, by decide, Or.inl (lw_w_at (w := .fieldLink RX8 204 (TX8 20).1 (TX8 20).2.1 (TX8 20).2.2.1) (i := 756) (by decide +kernel) (by decide +kernel))⟩
theorem gX8_204 : LkP RX8 204 8 20 (.int) := ⟨_, _, _, cls_8, by decide, Or.inl (lw_w_at (w := .fieldLink RX8 204 (TX8 20).1 (TX8 20).2.1 (TX8 20).2.2.1) (i := 756) (by decide +kernel) (by decide +kernel)), by decide +kernel, rfl⟩
theorem fX8_52 : LkF RX8 52 8 16 := ⟨_, _, _, cls_8, by decide, Or.inl (lw_w_at (w := .fieldLink RX8 52 (TX8 16).1 (TX8 16).2.1 (TX8 16).2.2.1) (i := 752) (by decide +kernel) (by decide +kernel))⟩
theorem fX8_22 : LkF RX8 22 8 6 := ⟨_, _, _, cls_8, by decide, Or.inl (lw_w_at (w := .fieldLink RX8 22 (TX8 6).1 (TX8 6).2.1 (TX8 6).2.2.1) (i := 742) (by decide +kernel) (by decide +kernel))⟩
theorem fX8_207 : LkF RX8 207 8 21 := ⟨_, _, _, cls_8, by decide, Or.inl (lw_w_at (w := .fieldLink RX8 207 (TX8 21).1 (TX8 21).2.1 (TX8 21).2.2.1) (i := 757) (by decide +kernel) (by decide +kernel))⟩
theorem fX8_58 : LkF RX8 58 8 19 := ⟨_, _, _, cls_8, by decide, Or.inl (lw_w_at (w := .fieldLink RX8 58 (TX8 19).1 (TX8 19).2.1 (TX8 19).2.2.1) (i := 755) (by decide +kernel) (by decide +kernel))⟩
theorem kJxf58ca_59 : LkS RJxf58ca 59 mJxf58ca_isNaN_12338 1 := ⟨ok_Jxf58ca_isNaN_12338, lw_w_at (i := 1065) (by decide +kernel) (by decide +kernel), lw_w_at (i := 1066) (by decide +kernel) (by decide +kernel)⟩
theorem kJxf58ca_74 : Cond.methodLink RJxf58ca 74 ⟨"java/lang/Float", "floatToRawIntBits", "(F)I"⟩ ∈ lw_w := lw_w_at (i := 1068) (by decide +kernel) (by decide +kernel)
theorem fX0_35 : LkF RX0 35 0 5 := ⟨_, _, _, cls_0, by decide, Or.inl (lw_w_at (w := .fieldLink RX0 35 (TX0 5).1 (TX0 5).2.1 (TX0 5).2.2.1) (i := 230) (by decide +kernel) (by decide +kernel))⟩
theorem kX0_81 : LkS RX0 81 mX0_at 2 := ⟨ok_X0_at, lw_w_at (i := 644) (by decide +kernel) (by decide +kernel), lw_w_at (i := 645) (by decide +kernel) (by decide +kernel)⟩
theorem kX2_3 : Cond.methodLink RX2 3 Lib.objectInit ∈ lw_w := lw_w_at (i := 213) (by decide +kernel) (by decide +kernel)
theorem gX2_11 : LkQ RX2 11 2 0 (.array (.array .int)) := ⟨_, _, _, cls_2, by decide, lw_w_at (w := .fieldLink RX2 11 (TX2 0).1 (TX2 0).2.1 (TX2 0).2.2.1) (i := 215) (by decide +kernel) (by decide +kernel), by decide +kernel, rfl, rfl⟩
theorem gX2_16 : LkP RX2 16 2 1 (.array (.array .int)) := ⟨_, _, _, cls_2, by decide, Or.inl (lw_w_at (w := .fieldLink RX2 16 (TX2 1).1 (TX2 1).2.1 (TX2 1).2.2.1) (i := 216) (by decide +kernel) (by decide +kernel)), by decide +kernel, rfl⟩
theorem gX2_19 : LkP RX2 19 2 2 (.array (.array .int)) := ⟨_, _, _, cls_2, by decide, Or.inl (lw_w_at (w := .fieldLink RX2 19 (TX2 2).1 (TX2 2).2.1 (TX2 2).2.2.1) (i := 217) (by decide +kernel) (by decide +kernel)), by decide +kernel, rfl⟩
theorem kX2_66 : LkV RX2 66 mX2_costOfNext 4 := ⟨ok_X2_costOfNext, lw_w_at (i := 535) (by decide +kernel) (by decide +kernel), lw_w_at (i := 537) (by decide +kernel) (by decide +kernel), lw_w_at (i := 11) (by decide +kernel) (by decide +kernel)⟩
theorem fX2_26 : LkF RX2 26 3 2 := ⟨_, _, _, cls_3, by decide, Or.inr ⟨_, lw_x_at (w := .fieldLinkNest RX2 26 (TX3 2).1 (TX3 2).2.1 (TX3 2).2.2.1 "SpinStrips") (i := 163) (by decide +kernel) (by decide +kernel)⟩⟩
theorem kX2_63 : LkV RX2 63 mX3_seam 2 := ⟨ok_X3_seam, lw_w_at (i := 531) (by decide +kernel) (by decide +kernel), lw_w_at (i := 532) (by decide +kernel) (by decide +kernel), lw_w_at (i := 533) (by decide +kernel) (by decide +kernel)⟩
theorem kX2_54 : LkS RX2 54 mJ9_min_7cf53 2 := ⟨ok_J9_min_7cf53, lw_w_at (i := 539) (by decide +kernel) (by decide +kernel), lw_w_at (i := 540) (by decide +kernel) (by decide +kernel)⟩
theorem kX3_3 : Cond.methodLink RX3 3 Lib.objectInit ∈ lw_w := lw_w_at (i := 155) (by decide +kernel) (by decide +kernel)
theorem gX3_9 : LkP RX3 9 3 0 (.int) := ⟨_, _, _, cls_3, by decide, Or.inl (lw_w_at (w := .fieldLink RX3 9 (TX3 0).1 (TX3 0).2.1 (TX3 0).2.2.1) (i := 158) (by decide +kernel) (by decide +kernel)), by decide +kernel, rfl⟩
theorem gX3_15 : LkP RX3 15 3 1 (.int) := ⟨_, _, _, cls_3, by decide, Or.inl (lw_w_at (w := .fieldLink RX3 15 (TX3 1).1 (TX3 1).2.1 (TX3 1).2.2.1) (i := 161) (by decide +kernel) (by decide +kernel)), by decide +kernel, rfl⟩
theorem gX3_18 : LkP RX3 18 3 2 (.int) := ⟨_, _, _, cls_3, by decide, Or.inl (lw_w_at (w := .fieldLink RX3 18 (TX3 2).1 (TX3 2).2.1 (TX3 2).2.2.1) (i := 162) (by decide +kernel) (by decide +kernel)), by decide +kernel, rfl⟩
theorem gX3_21 : LkP RX3 21 3 3 (.boolean) := ⟨_, _, _, cls_3, by decide, Or.inl (lw_w_at (w := .fieldLink RX3 21 (TX3 3).1 (TX3 3).2.1 (TX3 3).2.2.1) (i := 165) (by decide +kernel) (by decide +kernel)), by decide +kernel, rfl⟩
theorem gX3_25 : LkP RX3 25 3 4 (.int) := ⟨_, _, _, cls_3, by decide, Or.inl (lw_w_at (w := .fieldLink RX3 25 (TX3 4).1 (TX3 4).2.1 (TX3 4).2.2.1) (i := 167) (by decide +kernel) (by decide +kernel)), by decide +kernel, rfl⟩
theorem gX3_28 : LkQ RX3 28 3 5 (.array .int) := ⟨_, _, _, cls_3, by decide, lw_w_at (w := .fieldLink RX3 28 (TX3 5).1 (TX3 5).2.1 (TX3 5).2.2.1) (i := 169) (by decide +kernel) (by decide +kernel), by decide +kernel, rfl, rfl⟩
theorem gX3_34 : LkQ RX3 34 3 6 (.array (.array .int)) := ⟨_, _, _, cls_3, by decide, lw_w_at (w := .fieldLink RX3 34 (TX3 6).1 (TX3 6).2.1 (TX3 6).2.2.1) (i := 171) (by decide +kernel) (by decide +kernel), by decide +kernel, rfl, rfl⟩
theorem gX3_37 : LkQ RX3 37 3 7 (.array (.array .int)) := ⟨_, _, _, cls_3, by decide, lw_w_at (w := .fieldLink RX3 37 (TX3 7).1 (TX3 7).2.1 (TX3 7).2.2.1) (i := 174) (by decide +kernel) (by decide +kernel), by decide +kernel, rfl, rfl⟩
theorem fX3_18 : LkF RX3 18 3 2 := ⟨_, _, _, cls_3, by decide, Or.inl (lw_w_at (w := .fieldLink RX3 18 (TX3 2).1 (TX3 2).2.1 (TX3 2).2.2.1) (i := 162) (by decide +kernel) (by decide +kernel))⟩
theorem kX3_70 : LkS RX3 70 mJ6_bitCount_0f7a4 1 := ⟨ok_J6_bitCount_0f7a4, lw_w_at (i := 498) (by decide +kernel) (by decide +kernel), lw_w_at (i := 499) (by decide +kernel) (by decide +kernel)⟩
theorem fX3_9 : LkF RX3 9 3 0 := ⟨_, _, _, cls_3, by decide, Or.inl (lw_w_at (w := .fieldLink RX3 9 (TX3 0).1 (TX3 0).2.1 (TX3 0).2.2.1) (i := 158) (by decide +kernel) (by decide +kernel))⟩
theorem fX3_34 : LkF RX3 34 3 6 := ⟨_, _, _, cls_3, by decide, Or.inl (lw_w_at (w := .fieldLink RX3 34 (TX3 6).1 (TX3 6).2.1 (TX3 6).2.2.1) (i := 171) (by decide +kernel) (by decide +kernel))⟩
theorem kX3_75 : LkS RX3 75 mX3_price 3 := ⟨ok_X3_price, lw_w_at (i := 504) (by decide +kernel) (by decide +kernel), lw_w_at (i := 505) (by decide +kernel) (by decide +kernel)⟩
theorem kX4_46 : LkS RX4 46 mX4_place 2 := ⟨ok_X4_place, lw_w_at (i := 99) (by decide +kernel) (by decide +kernel), lw_w_at (i := 100) (by decide +kernel) (by decide +kernel)⟩
theorem kX4_75 : LkV RX4 75 mX4_closed 0 := ⟨ok_X4_closed, lw_w_at (i := 397) (by decide +kernel) (by decide +kernel), lw_w_at (i := 398) (by decide +kernel) (by decide +kernel), lw_w_at (i := 399) (by decide +kernel) (by decide +kernel)⟩
theorem gX4_9 : LkP RX4 9 4 0 (.int) := ⟨_, _, _, cls_4, by decide, Or.inl (lw_w_at (w := .fieldLink RX4 9 (TX4 0).1 (TX4 0).2.1 (TX4 0).2.2.1) (i := 102) (by decide +kernel) (by decide +kernel)), by decide +kernel, rfl⟩
theorem gX4_15 : LkP RX4 15 4 1 (.int) := ⟨_, _, _, cls_4, by decide, Or.inl (lw_w_at (w := .fieldLink RX4 15 (TX4 1).1 (TX4 1).2.1 (TX4 1).2.2.1) (i := 106) (by decide +kernel) (by decide +kernel)), by decide +kernel, rfl⟩
theorem gX4_18 : LkP RX4 18 4 2 (.boolean) := ⟨_, _, _, cls_4, by decide, Or.inl (lw_w_at (w := .fieldLink RX4 18 (TX4 2).1 (TX4 2).2.1 (TX4 2).2.2.1) (i := 110) (by decide +kernel) (by decide +kernel)), by decide +kernel, rfl⟩
theorem fX4_22 : LkF RX4 22 4 3 := ⟨_, _, _, cls_4, by decide, Or.inl (lw_w_at (w := .fieldLink RX4 22 (TX4 3).1 (TX4 3).2.1 (TX4 3).2.2.1) (i := 112) (by decide +kernel) (by decide +kernel))⟩
theorem gX4_22 : LkP RX4 22 4 3 (.int) := ⟨_, _, _, cls_4, by decide, Or.inl (lw_w_at (w := .fieldLink RX4 22 (TX4 3).1 (TX4 3).2.1 (TX4 3).2.2.1) (i := 112) (by decide +kernel) (by decide +kernel)), by decide +kernel, rfl⟩
theorem fX4_25 : LkF RX4 25 4 4 := ⟨_, _, _, cls_4, by decide, Or.inl (lw_w_at (w := .fieldLink RX4 25 (TX4 4).1 (TX4 4).2.1 (TX4 4).2.2.1) (i := 115) (by decide +kernel) (by decide +kernel))⟩
theorem gX4_25 : LkP RX4 25 4 4 (.int) := ⟨_, _, _, cls_4, by decide, Or.inl (lw_w_at (w := .fieldLink RX4 25 (TX4 4).1 (TX4 4).2.1 (TX4 4).2.2.1) (i := 115) (by decide +kernel) (by decide +kernel)), by decide +kernel, rfl⟩
theorem gX4_32 : LkP RX4 32 4 5 (.long) := ⟨_, _, _, cls_4, by decide, Or.inl (lw_w_at (w := .fieldLink RX4 32 (TX4 5).1 (TX4 5).2.1 (TX4 5).2.2.1) (i := 118) (by decide +kernel) (by decide +kernel)), by decide +kernel, rfl⟩
theorem gX4_36 : LkP RX4 36 4 6 (.long) := ⟨_, _, _, cls_4, by decide, Or.inl (lw_w_at (w := .fieldLink RX4 36 (TX4 6).1 (TX4 6).2.1 (TX4 6).2.2.1) (i := 119) (by decide +kernel) (by decide +kernel)), by decide +kernel, rfl⟩
theorem fX4_39 : LkF RX4 39 4 7 := ⟨_, _, _, cls_4, by decide, Or.inl (lw_w_at (w := .fieldLink RX4 39 (TX4 7).1 (TX4 7).2.1 (TX4 7).2.2.1) (i := 121) (by decide +kernel) (by decide +kernel))⟩
theorem gX4_39 : LkP RX4 39 4 7 (.int) := ⟨_, _, _, cls_4, by decide, Or.inl (lw_w_at (w := .fieldLink RX4 39 (TX4 7).1 (TX4 7).2.1 (TX4 7).2.2.1) (i := 121) (by decide +kernel) (by decide +kernel)), by decide +kernel, rfl⟩
theorem fX4_42 : LkF RX4 42 4 8 := ⟨_, _, _, cls_4, by decide, Or.inl (lw_w_at (w := .fieldLink RX4 42 (TX4 8).1 (TX4 8).2.1 (TX4 8).2.2.1) (i := 123) (by decide +kernel) (by decide +kernel))⟩
theorem kX4_50 : Cond.methodLink RX4 50 ⟨"java/lang/System", "arraycopy", "(Ljava/lang/Object;ILjava/lang/Object;II)V"⟩ ∈ lw_w := lw_w_at (i := 343) (by decide +kernel) (by decide +kernel)
theorem kX4_65 : LkV RX4 65 mX4_has 2 := ⟨ok_X4_has, lw_w_at (i := 419) (by decide +kernel) (by decide +kernel), lw_w_at (i := 420) (by decide +kernel) (by decide +kernel), lw_w_at (i := 421) (by decide +kernel) (by decide +kernel)⟩
theorem kX4_69 : LkS RX4 69 mJ13_bitCount_95d88 1 := ⟨ok_J13_bitCount_95d88, lw_w_at (i := 405) (by decide +kernel) (by decide +kernel), lw_w_at (i := 406) (by decide +kernel) (by decide +kernel)⟩
theorem fX5_31 : LkF RX5 31 3 2 := ⟨_, _, _, cls_3, by decide, Or.inr ⟨_, lw_x_at (w := .fieldLinkNest RX5 31 (TX3 2).1 (TX3 2).2.1 (TX3 2).2.2.1 "SpinStrips") (i := 164) (by decide +kernel) (by decide +kernel)⟩⟩
theorem fX5_16 : LkF RX5 16 5 1 := ⟨_, _, _, cls_5, by decide, Or.inl (lw_w_at (w := .fieldLink RX5 16 (TX5 1).1 (TX5 1).2.1 (TX5 1).2.2.1) (i := 202) (by decide +kernel) (by decide +kernel))⟩
theorem kX5_19 : LkS RX5 19 mJ7_fill_53178 2 := ⟨ok_J7_fill_53178, lw_w_at (i := 623) (by decide +kernel) (by decide +kernel), lw_w_at (i := 351) (by decide +kernel) (by decide +kernel)⟩
theorem fX5_65 : LkF RX5 65 3 7 := ⟨_, _, _, cls_3, by decide, Or.inr ⟨_, lw_x_at (w := .fieldLinkNest RX5 65 (TX3 7).1 (TX3 7).2.1 (TX3 7).2.2.1 "SpinStrips") (i := 175) (by decide +kernel) (by decide +kernel)⟩⟩
theorem fX5_62 : LkF RX5 62 3 6 := ⟨_, _, _, cls_3, by decide, Or.inr ⟨_, lw_x_at (w := .fieldLinkNest RX5 62 (TX3 6).1 (TX3 6).2.1 (TX3 6).2.2.1 "SpinStrips") (i := 172) (by decide +kernel) (by decide +kernel)⟩⟩
theorem fX5_11 : LkF RX5 11 5 0 := ⟨_, _, _, cls_5, by decide, Or.inl (lw_w_at (w := .fieldLink RX5 11 (TX5 0).1 (TX5 0).2.1 (TX5 0).2.2.1) (i := 201) (by decide +kernel) (by decide +kernel))⟩
theorem fX5_50 : LkF RX5 50 3 5 := ⟨_, _, _, cls_3, by decide, Or.inr ⟨_, lw_x_at (w := .fieldLinkNest RX5 50 (TX3 5).1 (TX3 5).2.1 (TX3 5).2.2.1 "SpinStrips") (i := 170) (by decide +kernel) (by decide +kernel)⟩⟩
theorem kX5_58 : LkS RX5 58 mX5_addShifted 4 := ⟨ok_X5_addShifted, lw_w_at (i := 636) (by decide +kernel) (by decide +kernel), lw_w_at (i := 637) (by decide +kernel) (by decide +kernel)⟩
theorem gX5_11 : LkP RX5 11 5 0 (.array (.array .int)) := ⟨_, _, _, cls_5, by decide, Or.inl (lw_w_at (w := .fieldLink RX5 11 (TX5 0).1 (TX5 0).2.1 (TX5 0).2.2.1) (i := 201) (by decide +kernel) (by decide +kernel)), by decide +kernel, rfl⟩
theorem gX5_16 : LkP RX5 16 5 1 (.array (.array .int)) := ⟨_, _, _, cls_5, by decide, Or.inl (lw_w_at (w := .fieldLink RX5 16 (TX5 1).1 (TX5 1).2.1 (TX5 1).2.2.1) (i := 202) (by decide +kernel) (by decide +kernel)), by decide +kernel, rfl⟩
theorem kX5_3 : Cond.methodLink RX5 3 Lib.objectInit ∈ lw_w := lw_w_at (i := 199) (by decide +kernel) (by decide +kernel)
theorem kX6_3 : Cond.methodLink RX6 3 Lib.objectInit ∈ lw_w := lw_w_at (i := 290) (by decide +kernel) (by decide +kernel)
theorem gX6_9 : LkQ RX6 9 6 0 (.array .char) := ⟨_, _, _, cls_6, by decide, lw_w_at (w := .fieldLink RX6 9 (TX6 0).1 (TX6 0).2.1 (TX6 0).2.2.1) (i := 291) (by decide +kernel) (by decide +kernel), by decide +kernel, rfl, rfl⟩
theorem gX6_19 : LkP RX6 19 6 2 (.int) := ⟨_, _, _, cls_6, by decide, Or.inl (lw_w_at (w := .fieldLink RX6 19 (TX6 2).1 (TX6 2).2.1 (TX6 2).2.2.1) (i := 294) (by decide +kernel) (by decide +kernel)), by decide +kernel, rfl⟩
theorem gX6_22 : LkP RX6 22 6 3 (.int) := ⟨_, _, _, cls_6, by decide, Or.inl (lw_w_at (w := .fieldLink RX6 22 (TX6 3).1 (TX6 3).2.1 (TX6 3).2.2.1) (i := 296) (by decide +kernel) (by decide +kernel)), by decide +kernel, rfl⟩
theorem gX6_25 : LkP RX6 25 6 4 (.long) := ⟨_, _, _, cls_6, by decide, Or.inl (lw_w_at (w := .fieldLink RX6 25 (TX6 4).1 (TX6 4).2.1 (TX6 4).2.2.1) (i := 298) (by decide +kernel) (by decide +kernel)), by decide +kernel, rfl⟩
theorem kX7_124 : LkV RX7 124 mX6_append 1 := ⟨ok_X6_append, lw_w_at (i := 563) (by decide +kernel) (by decide +kernel), lw_w_at (i := 564) (by decide +kernel) (by decide +kernel), lw_w_at (i := 565) (by decide +kernel) (by decide +kernel)⟩
theorem kX8_1 : Cond.methodLink RX8 1 Lib.objectInit ∈ lw_w := lw_w_at (i := 731) (by decide +kernel) (by decide +kernel)
theorem gX8_7 : LkQ RX8 7 8 0 (.array .int) := ⟨_, _, _, cls_8, by decide, lw_w_at (w := .fieldLink RX8 7 (TX8 0).1 (TX8 0).2.1 (TX8 0).2.2.1) (i := 736) (by decide +kernel) (by decide +kernel), by decide +kernel, rfl, rfl⟩
theorem gX8_13 : LkQ RX8 13 8 1 (.array .int) := ⟨_, _, _, cls_8, by decide, lw_w_at (w := .fieldLink RX8 13 (TX8 1).1 (TX8 1).2.1 (TX8 1).2.2.1) (i := 737) (by decide +kernel) (by decide +kernel), by decide +kernel, rfl, rfl⟩
theorem gX8_16 : LkQ RX8 16 8 2 (.array .int) := ⟨_, _, _, cls_8, by decide, lw_w_at (w := .fieldLink RX8 16 (TX8 2).1 (TX8 2).2.1 (TX8 2).2.2.1) (i := 738) (by decide +kernel) (by decide +kernel), by decide +kernel, rfl, rfl⟩
theorem gX8_19 : LkQ RX8 19 8 4 (.array .int) := ⟨_, _, _, cls_8, by decide, lw_w_at (w := .fieldLink RX8 19 (TX8 4).1 (TX8 4).2.1 (TX8 4).2.2.1) (i := 740) (by decide +kernel) (by decide +kernel), by decide +kernel, rfl, rfl⟩
theorem gX8_22 : LkQ RX8 22 8 6 (.array .int) := ⟨_, _, _, cls_8, by decide, lw_w_at (w := .fieldLink RX8 22 (TX8 6).1 (TX8 6).2.1 (TX8 6).2.2.1) (i := 742) (by decide +kernel) (by decide +kernel), by decide +kernel, rfl, rfl⟩
theorem gX8_25 : LkQ RX8 25 8 7 (.array .int) := ⟨_, _, _, cls_8, by decide, lw_w_at (w := .fieldLink RX8 25 (TX8 7).1 (TX8 7).2.1 (TX8 7).2.2.1) (i := 743) (by decide +kernel) (by decide +kernel), by decide +kernel, rfl, rfl⟩
theorem gX8_28 : LkQ RX8 28 8 8 (.array .int) := ⟨_, _, _, cls_8, by decide, lw_w_at (w := .fieldLink RX8 28 (TX8 8).1 (TX8 8).2.1 (TX8 8).2.2.1) (i := 744) (by decide +kernel) (by decide +kernel), by decide +kernel, rfl, rfl⟩
theorem gX8_31 : LkQ RX8 31 8 9 (.array .int) := ⟨_, _, _, cls_8, by decide, lw_w_at (w := .fieldLink RX8 31 (TX8 9).1 (TX8 9).2.1 (TX8 9).2.2.1) (i := 745) (by decide +kernel) (by decide +kernel), by decide +kernel, rfl, rfl⟩
theorem gX8_34 : LkQ RX8 34 8 10 (.array .int) := ⟨_, _, _, cls_8, by decide, lw_w_at (w := .fieldLink RX8 34 (TX8 10).1 (TX8 10).2.1 (TX8 10).2.2.1) (i := 746) (by decide +kernel) (by decide +kernel), by decide +kernel, rfl, rfl⟩
theorem gX8_37 : LkQ RX8 37 8 11 (.array .int) := ⟨_, _, _, cls_8, by decide, lw_w_at (w := .fieldLink RX8 37 (TX8 11).1 (TX8 11).2.1 (TX8 11).2.2.1) (i := 747) (by decide +kernel) (by decide +kernel), by decide +kernel, rfl, rfl⟩
theorem gX8_40 : LkQ RX8 40 8 12 (.array .int) := ⟨_, _, _, cls_8, by decide, lw_w_at (w := .fieldLink RX8 40 (TX8 12).1 (TX8 12).2.1 (TX8 12).2.2.1) (i := 748) (by decide +kernel) (by decide +kernel), by decide +kernel, rfl, rfl⟩
theorem gX8_43 : LkQ RX8 43 8 13 (.array .int) := ⟨_, _, _, cls_8, by decide, lw_w_at (w := .fieldLink RX8 43 (TX8 13).1 (TX8 13).2.1 (TX8 13).2.2.1) (i := 749) (by decide +kernel) (by decide +kernel), by decide +kernel, rfl, rfl⟩
theorem gX8_46 : LkQ RX8 46 8 14 (.array .int) := ⟨_, _, _, cls_8, by decide, lw_w_at (w := .fieldLink RX8 46 (TX8 14).1 (TX8 14).2.1 (TX8 14).2.2.1) (i := 750) (by decide +kernel) (by decide +kernel), by decide +kernel, rfl, rfl⟩
theorem gX8_49 : LkQ RX8 49 8 15 (.array .int) := ⟨_, _, _, cls_8, by decide, lw_w_at (w := .fieldLink RX8 49 (TX8 15).1 (TX8 15).2.1 (TX8 15).2.2.1) (i := 751) (by decide +kernel) (by decide +kernel), by decide +kernel, rfl, rfl⟩
theorem gX8_52 : LkQ RX8 52 8 16 (.array .int) := ⟨_, _, _, cls_8, by decide, lw_w_at (w := .fieldLink RX8 52 (TX8 16).1 (TX8 16).2.1 (TX8 16).2.2.1) (i := 752) (by decide +kernel) (by decide +kernel), by decide +kernel, rfl, rfl⟩
theorem gX8_55 : LkQ RX8 55 8 17 (.array .int) := ⟨_, _, _, cls_8, by decide, lw_w_at (w := .fieldLink RX8 55 (TX8 17).1 (TX8 17).2.1 (TX8 17).2.2.1) (i := 753) (by decide +kernel) (by decide +kernel), by decide +kernel, rfl, rfl⟩
theorem gX8_58 : LkQ RX8 58 8 19 (.array .int) := ⟨_, _, _, cls_8, by decide, lw_w_at (w := .fieldLink RX8 58 (TX8 19).1 (TX8 19).2.1 (TX8 19).2.2.1) (i := 755) (by decide +kernel) (by decide +kernel), by decide +kernel, rfl, rfl⟩
theorem kX8_61 : LkV RX8 61 mX8_lays 2 := ⟨ok_X8_lays, lw_w_at (i := 732) (by decide +kernel) (by decide +kernel), lw_w_at (i := 734) (by decide +kernel) (by decide +kernel), lw_w_at (i := 23) (by decide +kernel) (by decide +kernel)⟩
theorem kX8_73 : LkS RX8 73 mX8_in 3 := ⟨ok_X8_in, lw_w_at (i := 814) (by decide +kernel) (by decide +kernel), lw_w_at (i := 815) (by decide +kernel) (by decide +kernel)⟩
theorem kX8_77 : LkS RX8 77 mX8_spinIn 2 := ⟨ok_X8_spinIn, lw_w_at (i := 861) (by decide +kernel) (by decide +kernel), lw_w_at (i := 862) (by decide +kernel) (by decide +kernel)⟩
theorem kX8_89 : LkV RX8 89 mX8_fieldAt 2 := ⟨ok_X8_fieldAt, lw_w_at (i := 864) (by decide +kernel) (by decide +kernel), lw_w_at (i := 866) (by decide +kernel) (by decide +kernel), lw_w_at (i := 33) (by decide +kernel) (by decide +kernel)⟩
theorem kX8_85 : LkV RX8 85 mX8_isLoop 0 := ⟨ok_X8_isLoop, lw_w_at (i := 853) (by decide +kernel) (by decide +kernel), lw_w_at (i := 855) (by decide +kernel) (by decide +kernel), lw_w_at (i := 31) (by decide +kernel) (by decide +kernel)⟩
theorem kX8_210 : LkV RX8 210 mX8_isHere 1 := ⟨ok_X8_isHere, lw_w_at (i := 991) (by decide +kernel) (by decide +kernel), lw_w_at (i := 993) (by decide +kernel) (by decide +kernel), lw_w_at (i := 53) (by decide +kernel) (by decide +kernel)⟩
theorem gX8_207 : LkP RX8 207 8 21 (.int) := ⟨_, _, _, cls_8, by decide, Or.inl (lw_w_at (w := .fieldLink RX8 207 (TX8 21).1 (TX8 21).2.1 (TX8 21).2.2.1) (i := 757) (by decide +kernel) (by decide +kernel)), by decide +kernel, rfl⟩
theorem kX8_65 : LkS RX8 65 mX8_copy 2 := ⟨ok_X8_copy, lw_w_at (i := 822) (by decide +kernel) (by decide +kernel), lw_w_at (i := 823) (by decide +kernel) (by decide +kernel)⟩
theorem kX8_129 : LkS RX8 129 mX8_ups 1 := ⟨ok_X8_ups, lw_w_at (i := 953) (by decide +kernel) (by decide +kernel), lw_w_at (i := 954) (by decide +kernel) (by decide +kernel)⟩
theorem kX0_3 : Cond.methodLink RX0 3 Lib.objectInit ∈ lw_w := lw_w_at (i := 149) (by decide +kernel) (by decide +kernel)
theorem kX0_11 : LkI RX0 11 mX3_init 0 := ⟨ok_X3_init, Or.inr ⟨_, lw_x_at (w := .methodLinkNest RX0 11 yX3_init "SpinStrips") (i := 152) (by decide +kernel) (by decide +kernel)⟩, lw_w_at (i := 153) (by decide +kernel) (by decide +kernel), rfl, rfl⟩
theorem gX0_12 : LkQ RX0 12 0 1 (.object "SpinStrips$Prices") := ⟨_, _, _, cls_0, by decide, lw_w_at (w := .fieldLink RX0 12 (TX0 1).1 (TX0 1).2.1 (TX0 1).2.2.1) (i := 226) (by decide +kernel) (by decide +kernel), by decide +kernel, rfl, rfl⟩
theorem gX0_18 : LkQ RX0 18 0 2 (.object "SpinStrips$Prices") := ⟨_, _, _, cls_0, by decide, lw_w_at (w := .fieldLink RX0 18 (TX0 2).1 (TX0 2).2.1 (TX0 2).2.2.1) (i := 227) (by decide +kernel) (by decide +kernel), by decide +kernel, rfl, rfl⟩
theorem kX0_23 : LkI RX0 23 mX5_init 0 := ⟨ok_X5_init, Or.inr ⟨_, lw_x_at (w := .methodLinkNest RX0 23 yX5_init "SpinStrips") (i := 196) (by decide +kernel) (by decide +kernel)⟩, lw_w_at (i := 197) (by decide +kernel) (by decide +kernel), rfl, rfl⟩
theorem gX0_24 : LkQ RX0 24 0 3 (.object "SpinStrips$Sums") := ⟨_, _, _, cls_0, by decide, lw_w_at (w := .fieldLink RX0 24 (TX0 3).1 (TX0 3).2.1 (TX0 3).2.2.1) (i := 228) (by decide +kernel) (by decide +kernel), by decide +kernel, rfl, rfl⟩
theorem kX0_30 : LkI RX0 30 mX2_init 0 := ⟨ok_X2_init, Or.inr ⟨_, lw_x_at (w := .methodLinkNest RX0 30 yX2_init "SpinStrips") (i := 210) (by decide +kernel) (by decide +kernel)⟩, lw_w_at (i := 211) (by decide +kernel) (by decide +kernel), rfl, rfl⟩
theorem gX0_31 : LkQ RX0 31 0 4 (.object "SpinStrips$Least") := ⟨_, _, _, cls_0, by decide, lw_w_at (w := .fieldLink RX0 31 (TX0 4).1 (TX0 4).2.1 (TX0 4).2.2.1) (i := 229) (by decide +kernel) (by decide +kernel), by decide +kernel, rfl, rfl⟩
theorem gX0_35 : LkQ RX0 35 0 5 (.array .int) := ⟨_, _, _, cls_0, by decide, lw_w_at (w := .fieldLink RX0 35 (TX0 5).1 (TX0 5).2.1 (TX0 5).2.2.1) (i := 230) (by decide +kernel) (by decide +kernel), by decide +kernel, rfl, rfl⟩
theorem gX0_39 : LkQ RX0 39 0 6 (.array .int) := ⟨_, _, _, cls_0, by decide, lw_w_at (w := .fieldLink RX0 39 (TX0 6).1 (TX0 6).2.1 (TX0 6).2.2.1) (i := 231) (by decide +kernel) (by decide +kernel), by decide +kernel, rfl, rfl⟩
theorem gX0_42 : LkQ RX0 42 0 7 (.array .int) := ⟨_, _, _, cls_0, by decide, lw_w_at (w := .fieldLink RX0 42 (TX0 7).1 (TX0 7).2.1 (TX0 7).2.2.1) (i := 232) (by decide +kernel) (by decide +kernel), by decide +kernel, rfl, rfl⟩
theorem gX0_45 : LkP RX0 45 0 8 (.int) := ⟨_, _, _, cls_0, by decide, Or.inl (lw_w_at (w := .fieldLink RX0 45 (TX0 8).1 (TX0 8).2.1 (TX0 8).2.2.1) (i := 233) (by decide +kernel) (by decide +kernel)), by decide +kernel, rfl⟩
theorem gX0_49 : LkP RX0 49 0 9 (.int) := ⟨_, _, _, cls_0, by decide, Or.inl (lw_w_at (w := .fieldLink RX0 49 (TX0 9).1 (TX0 9).2.1 (TX0 9).2.2.1) (i := 234) (by decide +kernel) (by decide +kernel)), by decide +kernel, rfl⟩
theorem gX0_62 : LkQ RX0 62 0 0 (.object "SpinStrips$Strip") := ⟨_, _, _, cls_0, by decide, lw_w_at (w := .fieldLink RX0 62 (TX0 0).1 (TX0 0).2.1 (TX0 0).2.2.1) (i := 225) (by decide +kernel) (by decide +kernel), by decide +kernel, rfl, rfl⟩
theorem fX1_21 : LkF RX1 21 1 2 := ⟨_, _, _, cls_1, by decide, Or.inl (lw_w_at (w := .fieldLink RX1 21 (TX1 2).1 (TX1 2).2.1 (TX1 2).2.2.1) (i := 276) (by decide +kernel) (by decide +kernel))⟩
theorem fX1_17 : LkF RX1 17 1 1 := ⟨_, _, _, cls_1, by decide, Or.inl (lw_w_at (w := .fieldLink RX1 17 (TX1 1).1 (TX1 1).2.1 (TX1 1).2.2.1) (i := 275) (by decide +kernel) (by decide +kernel))⟩
theorem gX1_17 : LkP RX1 17 1 1 (.int) := ⟨_, _, _, cls_1, by decide, Or.inl (lw_w_at (w := .fieldLink RX1 17 (TX1 1).1 (TX1 1).2.1 (TX1 1).2.2.1) (i := 275) (by decide +kernel) (by decide +kernel)), by decide +kernel, rfl⟩
theorem gX1_21 : LkP RX1 21 1 2 (.int) := ⟨_, _, _, cls_1, by decide, Or.inl (lw_w_at (w := .fieldLink RX1 21 (TX1 2).1 (TX1 2).2.1 (TX1 2).2.2.1) (i := 276) (by decide +kernel) (by decide +kernel)), by decide +kernel, rfl⟩
theorem fX1_11 : LkF RX1 11 1 0 := ⟨_, _, _, cls_1, by decide, Or.inl (lw_w_at (w := .fieldLink RX1 11 (TX1 0).1 (TX1 0).2.1 (TX1 0).2.2.1) (i := 274) (by decide +kernel) (by decide +kernel))⟩
theorem kX1_25 : LkV RX1 25 mX4_copyFrom 1 := ⟨ok_X4_copyFrom, lw_w_at (i := 339) (by decide +kernel) (by decide +kernel), lw_w_at (i := 340) (by decide +kernel) (by decide +kernel), lw_w_at (i := 341) (by decide +kernel) (by decide +kernel)⟩
theorem fX2_19 : LkF RX2 19 2 2 := ⟨_, _, _, cls_2, by decide, Or.inl (lw_w_at (w := .fieldLink RX2 19 (TX2 2).1 (TX2 2).2.1 (TX2 2).2.2.1) (i := 217) (by decide +kernel) (by decide +kernel))⟩
theorem kX2_44 : LkS RX2 44 mJ7_fill_53178 2 := ⟨ok_J7_fill_53178, lw_w_at (i := 667) (by decide +kernel) (by decide +kernel), lw_w_at (i := 351) (by decide +kernel) (by decide +kernel)⟩
theorem kX2_85 : LkV RX2 85 mX2_isLeast 4 := ⟨ok_X2_isLeast, lw_w_at (i := 554) (by decide +kernel) (by decide +kernel), lw_w_at (i := 556) (by decide +kernel) (by decide +kernel), lw_w_at (i := 14) (by decide +kernel) (by decide +kernel)⟩
theorem fX2_16 : LkF RX2 16 2 1 := ⟨_, _, _, cls_2, by decide, Or.inl (lw_w_at (w := .fieldLink RX2 16 (TX2 1).1 (TX2 1).2.1 (TX2 1).2.2.1) (i := 216) (by decide +kernel) (by decide +kernel))⟩
theorem kX2_89 : LkS RX2 89 mJ6_bitCount_0f7a4 1 := ⟨ok_J6_bitCount_0f7a4, lw_w_at (i := 672) (by decide +kernel) (by decide +kernel), lw_w_at (i := 499) (by decide +kernel) (by decide +kernel)⟩
theorem kX2_98 : LkS RX2 98 mX5_addShifted 4 := ⟨ok_X5_addShifted, lw_w_at (i := 677) (by decide +kernel) (by decide +kernel), lw_w_at (i := 637) (by decide +kernel) (by decide +kernel)⟩
theorem kX2_32 : LkV RX2 32 mX3_kindInOrder 1 := ⟨ok_X3_kindInOrder, lw_w_at (i := 542) (by decide +kernel) (by decide +kernel), lw_w_at (i := 543) (by decide +kernel) (by decide +kernel), lw_w_at (i := 544) (by decide +kernel) (by decide +kernel)⟩
theorem kX2_36 : LkV RX2 36 mX2_lookBehind 2 := ⟨ok_X2_lookBehind, lw_w_at (i := 527) (by decide +kernel) (by decide +kernel), lw_w_at (i := 529) (by decide +kernel) (by decide +kernel), lw_w_at (i := 10) (by decide +kernel) (by decide +kernel)⟩
theorem kX3_79 : LkV RX3 79 mX4_fieldAt 2 := ⟨ok_X4_fieldAt, lw_w_at (i := 518) (by decide +kernel) (by decide +kernel), lw_w_at (i := 416) (by decide +kernel) (by decide +kernel), lw_w_at (i := 417) (by decide +kernel) (by decide +kernel)⟩
theorem kX3_60 : LkS RX3 60 mJ9_abs_0f7a4 1 := ⟨ok_J9_abs_0f7a4, lw_w_at (i := 511) (by decide +kernel) (by decide +kernel), lw_w_at (i := 512) (by decide +kernel) (by decide +kernel)⟩
theorem kX4_79 : LkV RX4 79 mX4_besideAlong 1 := ⟨ok_X4_besideAlong, lw_w_at (i := 393) (by decide +kernel) (by decide +kernel), lw_w_at (i := 395) (by decide +kernel) (by decide +kernel), lw_w_at (i := 3) (by decide +kernel) (by decide +kernel)⟩
theorem kX4_83 : LkV RX4 83 mX4_besideAcross 1 := ⟨ok_X4_besideAcross, lw_w_at (i := 411) (by decide +kernel) (by decide +kernel), lw_w_at (i := 413) (by decide +kernel) (by decide +kernel), lw_w_at (i := 5) (by decide +kernel) (by decide +kernel)⟩
theorem kX4_3 : Cond.methodLink RX4 3 Lib.objectInit ∈ lw_w := lw_w_at (i := 95) (by decide +kernel) (by decide +kernel)
theorem kX4_28 : LkS RX4 28 mX4_allCells 2 := ⟨ok_X4_allCells, lw_w_at (i := 96) (by decide +kernel) (by decide +kernel), lw_w_at (i := 97) (by decide +kernel) (by decide +kernel)⟩
theorem gX4_42 : LkQ RX4 42 4 8 (.array .int) := ⟨_, _, _, cls_4, by decide, lw_w_at (w := .fieldLink RX4 42 (TX4 8).1 (TX4 8).2.1 (TX4 8).2.2.1) (i := 123) (by decide +kernel) (by decide +kernel), by decide +kernel, rfl, rfl⟩
theorem kX4_88 : LkV RX4 88 mX4_spinSum 1 := ⟨ok_X4_spinSum, lw_w_at (i := 401) (by decide +kernel) (by decide +kernel), lw_w_at (i := 403) (by decide +kernel) (by decide +kernel), lw_w_at (i := 4) (by decide +kernel) (by decide +kernel)⟩
theorem kX4_56 : LkS RX4 56 mJ7_fill_53178 2 := ⟨ok_J7_fill_53178, lw_w_at (i := 350) (by decide +kernel) (by decide +kernel), lw_w_at (i := 351) (by decide +kernel) (by decide +kernel)⟩
theorem kX4_62 : LkS RX4 62 mX4_bit 2 := ⟨ok_X4_bit, lw_w_at (i := 388) (by decide +kernel) (by decide +kernel), lw_w_at (i := 374) (by decide +kernel) (by decide +kernel)⟩
theorem kX5_39 : LkV RX5 39 mX5_begin 3 := ⟨ok_X5_begin, lw_w_at (i := 628) (by decide +kernel) (by decide +kernel), lw_w_at (i := 630) (by decide +kernel) (by decide +kernel), lw_w_at (i := 17) (by decide +kernel) (by decide +kernel)⟩
theorem fX5_43 : LkF RX5 43 3 0 := ⟨_, _, _, cls_3, by decide, Or.inr ⟨_, lw_x_at (w := .fieldLinkNest RX5 43 (TX3 0).1 (TX3 0).2.1 (TX3 0).2.2.1 "SpinStrips") (i := 159) (by decide +kernel) (by decide +kernel)⟩⟩
theorem kX5_46 : LkV RX5 46 mX5_addColumn 2 := ⟨ok_X5_addColumn, lw_w_at (i := 632) (by decide +kernel) (by decide +kernel), lw_w_at (i := 634) (by decide +kernel) (by decide +kernel), lw_w_at (i := 18) (by decide +kernel) (by decide +kernel)⟩
theorem kX5_54 : LkV RX5 54 mX3_seam 2 := ⟨ok_X3_seam, lw_w_at (i := 639) (by decide +kernel) (by decide +kernel), lw_w_at (i := 532) (by decide +kernel) (by decide +kernel), lw_w_at (i := 533) (by decide +kernel) (by decide +kernel)⟩
theorem kX6_29 : LkV RX6 29 mX6_isWhole 1 := ⟨ok_X6_isWhole, lw_w_at (i := 365) (by decide +kernel) (by decide +kernel), lw_w_at (i := 367) (by decide +kernel) (by decide +kernel), lw_w_at (i := 0) (by decide +kernel) (by decide +kernel)⟩
theorem kX6_33 : LkV RX6 33 mX6_rowsAllowed 0 := ⟨ok_X6_rowsAllowed, lw_w_at (i := 369) (by decide +kernel) (by decide +kernel), lw_w_at (i := 371) (by decide +kernel) (by decide +kernel), lw_w_at (i := 1) (by decide +kernel) (by decide +kernel)⟩
theorem fX6_25 : LkF RX6 25 6 4 := ⟨_, _, _, cls_6, by decide, Or.inl (lw_w_at (w := .fieldLink RX6 25 (TX6 4).1 (TX6 4).2.1 (TX6 4).2.2.1) (i := 298) (by decide +kernel) (by decide +kernel))⟩
theorem kX6_37 : LkS RX6 37 mX4_bit 2 := ⟨ok_X4_bit, lw_w_at (i := 373) (by decide +kernel) (by decide +kernel), lw_w_at (i := 374) (by decide +kernel) (by decide +kernel)⟩
theorem fX7_12 : LkF RX7 12 7 0 := ⟨_, _, _, cls_7, by decide, Or.inl (lw_w_at (w := .fieldLink RX7 12 (TX7 0).1 (TX7 0).2.1 (TX7 0).2.2.1) (i := 312) (by decide +kernel) (by decide +kernel))⟩
theorem kX7_84 : LkV RX7 84 mX4_has 2 := ⟨ok_X4_has, lw_w_at (i := 431) (by decide +kernel) (by decide +kernel), lw_w_at (i := 420) (by decide +kernel) (by decide +kernel), lw_w_at (i := 421) (by decide +kernel) (by decide +kernel)⟩
theorem kX7_157 : LkV RX7 157 mX4_kindOf 1 := ⟨ok_X4_kindOf, lw_w_at (i := 603) (by decide +kernel) (by decide +kernel), lw_w_at (i := 604) (by decide +kernel) (by decide +kernel), lw_w_at (i := 605) (by decide +kernel) (by decide +kernel)⟩
theorem kX8_81 : LkV RX8 81 mX8_isColumn 1 := ⟨ok_X8_isColumn, lw_w_at (i := 849) (by decide +kernel) (by decide +kernel), lw_w_at (i := 851) (by decide +kernel) (by decide +kernel), lw_w_at (i := 30) (by decide +kernel) (by decide +kernel)⟩
theorem fX8_25 : LkF RX8 25 8 7 := ⟨_, _, _, cls_8, by decide, Or.inl (lw_w_at (w := .fieldLink RX8 25 (TX8 7).1 (TX8 7).2.1 (TX8 7).2.2.1) (i := 743) (by decide +kernel) (by decide +kernel))⟩
theorem kX8_95 : LkV RX8 95 mX8_ofColumn 3 := ⟨ok_X8_ofColumn, lw_w_at (i := 857) (by decide +kernel) (by decide +kernel), lw_w_at (i := 859) (by decide +kernel) (by decide +kernel), lw_w_at (i := 32) (by decide +kernel) (by decide +kernel)⟩
theorem fX8_28 : LkF RX8 28 8 8 := ⟨_, _, _, cls_8, by decide, Or.inl (lw_w_at (w := .fieldLink RX8 28 (TX8 8).1 (TX8 8).2.1 (TX8 8).2.2.1) (i := 744) (by decide +kernel) (by decide +kernel))⟩
theorem kX8_112 : LkV RX8 112 mX8_states 0 := ⟨ok_X8_states, lw_w_at (i := 945) (by decide +kernel) (by decide +kernel), lw_w_at (i := 947) (by decide +kernel) (by decide +kernel), lw_w_at (i := 46) (by decide +kernel) (by decide +kernel)⟩
theorem kX8_99 : LkV RX8 99 mX8_ofLink 3 := ⟨ok_X8_ofLink, lw_w_at (i := 868) (by decide +kernel) (by decide +kernel), lw_w_at (i := 870) (by decide +kernel) (by decide +kernel), lw_w_at (i := 34) (by decide +kernel) (by decide +kernel)⟩
theorem kX8_213 : LkV RX8 213 mX8_readsSigns 1 := ⟨ok_X8_readsSigns, lw_w_at (i := 987) (by decide +kernel) (by decide +kernel), lw_w_at (i := 989) (by decide +kernel) (by decide +kernel), lw_w_at (i := 52) (by decide +kernel) (by decide +kernel)⟩
theorem gX8_216 : LkP RX8 216 8 23 (.int) := ⟨_, _, _, cls_8, by decide, Or.inl (lw_w_at (w := .fieldLink RX8 216 (TX8 23).1 (TX8 23).2.1 (TX8 23).2.2.1) (i := 759) (by decide +kernel) (by decide +kernel)), by decide +kernel, rfl⟩
theorem gX8_219 : LkP RX8 219 8 22 (.int) := ⟨_, _, _, cls_8, by decide, Or.inl (lw_w_at (w := .fieldLink RX8 219 (TX8 22).1 (TX8 22).2.1 (TX8 22).2.2.1) (i := 758) (by decide +kernel) (by decide +kernel)), by decide +kernel, rfl⟩
theorem fX8_216 : LkF RX8 216 8 23 := ⟨_, _, _, cls_8, by decide, Or.inl (lw_w_at (w := .fieldLink RX8 216 (TX8 23).1 (TX8 23).2.1 (TX8 23).2.2.1) (i := 759) (by decide +kernel) (by decide +kernel))⟩
theorem fX8_219 : LkF RX8 219 8 22 := ⟨_, _, _, cls_8, by decide, Or.inl (lw_w_at (w := .fieldLink RX8 219 (TX8 22).1 (TX8 22).2.1 (TX8 22).2.2.1) (i := 758) (by decide +kernel) (by decide +kernel))⟩
theorem kX8_109 : LkV RX8 109 mX8_isRow 1 := ⟨ok_X8_isRow, lw_w_at (i := 886) (by decide +kernel) (by decide +kernel), lw_w_at (i := 888) (by decide +kernel) (by decide +kernel), lw_w_at (i := 36) (by decide +kernel) (by decide +kernel)⟩
theorem kX8_106 : LkV RX8 106 mX8_spin 2 := ⟨ok_X8_spin, lw_w_at (i := 911) (by decide +kernel) (by decide +kernel), lw_w_at (i := 913) (by decide +kernel) (by decide +kernel), lw_w_at (i := 40) (by decide +kernel) (by decide +kernel)⟩
theorem fX8_55 : LkF RX8 55 8 17 := ⟨_, _, _, cls_8, by decide, Or.inl (lw_w_at (w := .fieldLink RX8 55 (TX8 17).1 (TX8 17).2.1 (TX8 17).2.2.1) (i := 753) (by decide +kernel) (by decide +kernel))⟩
theorem fX8_149 : LkF RX8 149 8 18 := ⟨_, _, _, cls_8, by decide, Or.inl (lw_w_at (w := .fieldLink RX8 149 (TX8 18).1 (TX8 18).2.1 (TX8 18).2.2.1) (i := 754) (by decide +kernel) (by decide +kernel))⟩
theorem gX8_149 : LkP RX8 149 8 18 (.int) := ⟨_, _, _, cls_8, by decide, Or.inl (lw_w_at (w := .fieldLink RX8 149 (TX8 18).1 (TX8 18).2.1 (TX8 18).2.2.1) (i := 754) (by decide +kernel) (by decide +kernel)), by decide +kernel, rfl⟩
theorem kX8_169 : LkV RX8 169 mX8_remember 0 := ⟨ok_X8_remember, lw_w_at (i := 818) (by decide +kernel) (by decide +kernel), lw_w_at (i := 820) (by decide +kernel) (by decide +kernel), lw_w_at (i := 24) (by decide +kernel) (by decide +kernel)⟩
theorem kX8_159 : LkV RX8 159 mX8_cells 0 := ⟨ok_X8_cells, lw_w_at (i := 825) (by decide +kernel) (by decide +kernel), lw_w_at (i := 827) (by decide +kernel) (by decide +kernel), lw_w_at (i := 25) (by decide +kernel) (by decide +kernel)⟩
theorem kX8_172 : LkV RX8 172 mX8_acted 1 := ⟨ok_X8_acted, lw_w_at (i := 829) (by decide +kernel) (by decide +kernel), lw_w_at (i := 831) (by decide +kernel) (by decide +kernel), lw_w_at (i := 26) (by decide +kernel) (by decide +kernel)⟩
theorem fX8_49 : LkF RX8 49 8 15 := ⟨_, _, _, cls_8, by decide, Or.inl (lw_w_at (w := .fieldLink RX8 49 (TX8 15).1 (TX8 15).2.1 (TX8 15).2.2.1) (i := 751) (by decide +kernel) (by decide +kernel))⟩
theorem fX8_31 : LkF RX8 31 8 9 := ⟨_, _, _, cls_8, by decide, Or.inl (lw_w_at (w := .fieldLink RX8 31 (TX8 9).1 (TX8 9).2.1 (TX8 9).2.2.1) (i := 745) (by decide +kernel) (by decide +kernel))⟩
theorem fX8_34 : LkF RX8 34 8 10 := ⟨_, _, _, cls_8, by decide, Or.inl (lw_w_at (w := .fieldLink RX8 34 (TX8 10).1 (TX8 10).2.1 (TX8 10).2.2.1) (i := 746) (by decide +kernel) (by decide +kernel))⟩
theorem fX8_37 : LkF RX8 37 8 11 := ⟨_, _, _, cls_8, by decide, Or.inl (lw_w_at (w := .fieldLink RX8 37 (TX8 11).1 (TX8 11).2.1 (TX8 11).2.2.1) (i := 747) (by decide +kernel) (by decide +kernel))⟩
theorem fX8_40 : LkF RX8 40 8 12 := ⟨_, _, _, cls_8, by decide, Or.inl (lw_w_at (w := .fieldLink RX8 40 (TX8 12).1 (TX8 12).2.1 (TX8 12).2.2.1) (i := 748) (by decide +kernel) (by decide +kernel))⟩
theorem kX8_132 : LkS RX8 132 mX8_meets 5 := ⟨ok_X8_meets, lw_w_at (i := 956) (by decide +kernel) (by decide +kernel), lw_w_at (i := 957) (by decide +kernel) (by decide +kernel)⟩
theorem fX8_43 : LkF RX8 43 8 13 := ⟨_, _, _, cls_8, by decide, Or.inl (lw_w_at (w := .fieldLink RX8 43 (TX8 13).1 (TX8 13).2.1 (TX8 13).2.2.1) (i := 749) (by decide +kernel) (by decide +kernel))⟩
theorem fX8_46 : LkF RX8 46 8 14 := ⟨_, _, _, cls_8, by decide, Or.inl (lw_w_at (w := .fieldLink RX8 46 (TX8 14).1 (TX8 14).2.1 (TX8 14).2.2.1) (i := 750) (by decide +kernel) (by decide +kernel))⟩
theorem kX1_3 : Cond.methodLink RX1 3 Lib.objectInit ∈ lw_w := lw_w_at (i := 270) (by decide +kernel) (by decide +kernel)
theorem gX1_11 : LkQ RX1 11 1 0 (.array (.object "SpinStrips$Strip")) := ⟨_, _, _, cls_1, by decide, lw_w_at (w := .fieldLink RX1 11 (TX1 0).1 (TX1 0).2.1 (TX1 0).2.2.1) (i := 274) (by decide +kernel) (by decide +kernel), by decide +kernel, rfl, rfl⟩
theorem kX1_24 : LkI RX1 24 mX4_init 0 := ⟨ok_X4_init, Or.inr ⟨_, lw_x_at (w := .methodLinkNest RX1 24 yX4_init "SpinStrips") (i := 273) (by decide +kernel) (by decide +kernel)⟩, lw_w_at (i := 93) (by decide +kernel) (by decide +kernel), rfl, rfl⟩
theorem kX2_94 : LkV RX2 94 mX2_addColumn 2 := ⟨ok_X2_addColumn, lw_w_at (i := 673) (by decide +kernel) (by decide +kernel), lw_w_at (i := 675) (by decide +kernel) (by decide +kernel), lw_w_at (i := 21) (by decide +kernel) (by decide +kernel)⟩
theorem kX2_76 : LkV RX2 76 mX2_firstLeastNext 3 := ⟨ok_X2_firstLeastNext, lw_w_at (i := 550) (by decide +kernel) (by decide +kernel), lw_w_at (i := 552) (by decide +kernel) (by decide +kernel), lw_w_at (i := 13) (by decide +kernel) (by decide +kernel)⟩
theorem kX2_80 : LkS RX2 80 mX4_place 2 := ⟨ok_X4_place, lw_w_at (i := 558) (by decide +kernel) (by decide +kernel), lw_w_at (i := 100) (by decide +kernel) (by decide +kernel)⟩
theorem fX3_40 : LkF RX3 40 4 0 := ⟨_, _, _, cls_4, by decide, Or.inr ⟨_, lw_x_at (w := .fieldLinkNest RX3 40 (TX4 0).1 (TX4 0).2.1 (TX4 0).2.2.1 "SpinStrips") (i := 103) (by decide +kernel) (by decide +kernel)⟩⟩
theorem fX3_43 : LkF RX3 43 4 1 := ⟨_, _, _, cls_4, by decide, Or.inr ⟨_, lw_x_at (w := .fieldLinkNest RX3 43 (TX4 1).1 (TX4 1).2.1 (TX4 1).2.2.1 "SpinStrips") (i := 107) (by decide +kernel) (by decide +kernel)⟩⟩
theorem kX3_44 : LkV RX3 44 mX4_closed 0 := ⟨ok_X4_closed, lw_w_at (i := 493) (by decide +kernel) (by decide +kernel), lw_w_at (i := 398) (by decide +kernel) (by decide +kernel), lw_w_at (i := 399) (by decide +kernel) (by decide +kernel)⟩
theorem fX3_47 : LkF RX3 47 4 3 := ⟨_, _, _, cls_4, by decide, Or.inr ⟨_, lw_x_at (w := .fieldLinkNest RX3 47 (TX4 3).1 (TX4 3).2.1 (TX4 3).2.2.1 "SpinStrips") (i := 113) (by decide +kernel) (by decide +kernel)⟩⟩
theorem fX3_50 : LkF RX3 50 4 4 := ⟨_, _, _, cls_4, by decide, Or.inr ⟨_, lw_x_at (w := .fieldLinkNest RX3 50 (TX4 4).1 (TX4 4).2.1 (TX4 4).2.2.1 "SpinStrips") (i := 116) (by decide +kernel) (by decide +kernel)⟩⟩
theorem kX3_53 : LkV RX3 53 mX3_priceAlong 1 := ⟨ok_X3_priceAlong, lw_w_at (i := 494) (by decide +kernel) (by decide +kernel), lw_w_at (i := 496) (by decide +kernel) (by decide +kernel), lw_w_at (i := 6) (by decide +kernel) (by decide +kernel)⟩
theorem kX3_57 : LkV RX3 57 mX3_priceAcross 1 := ⟨ok_X3_priceAcross, lw_w_at (i := 507) (by decide +kernel) (by decide +kernel), lw_w_at (i := 509) (by decide +kernel) (by decide +kernel), lw_w_at (i := 7) (by decide +kernel) (by decide +kernel)⟩
theorem kX3_66 : LkV RX3 66 mX3_priceFields 2 := ⟨ok_X3_priceFields, lw_w_at (i := 514) (by decide +kernel) (by decide +kernel), lw_w_at (i := 516) (by decide +kernel) (by decide +kernel), lw_w_at (i := 8) (by decide +kernel) (by decide +kernel)⟩
theorem fX3_28 : LkF RX3 28 3 5 := ⟨_, _, _, cls_3, by decide, Or.inl (lw_w_at (w := .fieldLink RX3 28 (TX3 5).1 (TX3 5).2.1 (TX3 5).2.2.1) (i := 169) (by decide +kernel) (by decide +kernel))⟩
theorem kX4_97 : LkV RX4 97 mX4_spinAt 2 := ⟨ok_X4_spinAt, lw_w_at (i := 384) (by decide +kernel) (by decide +kernel), lw_w_at (i := 385) (by decide +kernel) (by decide +kernel), lw_w_at (i := 386) (by decide +kernel) (by decide +kernel)⟩
theorem kX4_91 : LkV RX4 91 mX4_pullOfNeighbours 1 := ⟨ok_X4_pullOfNeighbours, lw_w_at (i := 389) (by decide +kernel) (by decide +kernel), lw_w_at (i := 391) (by decide +kernel) (by decide +kernel), lw_w_at (i := 2) (by decide +kernel) (by decide +kernel)⟩
theorem kX4_94 : LkV RX4 94 mX4_fieldAt 2 := ⟨ok_X4_fieldAt, lw_w_at (i := 415) (by decide +kernel) (by decide +kernel), lw_w_at (i := 416) (by decide +kernel) (by decide +kernel), lw_w_at (i := 417) (by decide +kernel) (by decide +kernel)⟩
theorem kX4_100 : LkV RX4 100 mX4_beside 1 := ⟨ok_X4_beside, lw_w_at (i := 459) (by decide +kernel) (by decide +kernel), lw_w_at (i := 460) (by decide +kernel) (by decide +kernel), lw_w_at (i := 461) (by decide +kernel) (by decide +kernel)⟩
theorem kX4_103 : LkV RX4 103 mX4_alike 1 := ⟨ok_X4_alike, lw_w_at (i := 454) (by decide +kernel) (by decide +kernel), lw_w_at (i := 455) (by decide +kernel) (by decide +kernel), lw_w_at (i := 456) (by decide +kernel) (by decide +kernel)⟩
theorem fX5_25 : LkF RX5 25 3 3 := ⟨_, _, _, cls_3, by decide, Or.inr ⟨_, lw_x_at (w := .fieldLinkNest RX5 25 (TX3 3).1 (TX3 3).2.1 (TX3 3).2.2.1 "SpinStrips") (i := 166) (by decide +kernel) (by decide +kernel)⟩⟩
theorem kX5_35 : LkV RX5 35 mX5_addStrips 4 := ⟨ok_X5_addStrips, lw_w_at (i := 624) (by decide +kernel) (by decide +kernel), lw_w_at (i := 626) (by decide +kernel) (by decide +kernel), lw_w_at (i := 16) (by decide +kernel) (by decide +kernel)⟩
theorem fX7_28 : LkF RX7 28 7 2 := ⟨_, _, _, cls_7, by decide, Or.inl (lw_w_at (w := .fieldLink RX7 28 (TX7 2).1 (TX7 2).2.1 (TX7 2).2.2.1) (i := 314) (by decide +kernel) (by decide +kernel))⟩
theorem kX7_46 : LkV RX7 46 mX1_record 1 := ⟨ok_X1_record, lw_w_at (i := 335) (by decide +kernel) (by decide +kernel), lw_w_at (i := 336) (by decide +kernel) (by decide +kernel), lw_w_at (i := 337) (by decide +kernel) (by decide +kernel)⟩
theorem kX7_49 : LkV RX7 49 mX4_remake 3 := ⟨ok_X4_remake, lw_w_at (i := 346) (by decide +kernel) (by decide +kernel), lw_w_at (i := 347) (by decide +kernel) (by decide +kernel), lw_w_at (i := 348) (by decide +kernel) (by decide +kernel)⟩
theorem fX7_21 : LkF RX7 21 7 1 := ⟨_, _, _, cls_7, by decide, Or.inl (lw_w_at (w := .fieldLink RX7 21 (TX7 1).1 (TX7 1).2.1 (TX7 1).2.2.1) (i := 313) (by decide +kernel) (by decide +kernel))⟩
theorem kX7_53 : LkV RX7 53 mX0_forget 0 := ⟨ok_X0_forget, lw_w_at (i := 353) (by decide +kernel) (by decide +kernel), lw_w_at (i := 354) (by decide +kernel) (by decide +kernel), lw_w_at (i := 355) (by decide +kernel) (by decide +kernel)⟩
theorem kX7_56 : LkV RX7 56 mX6_firstFault 0 := ⟨ok_X6_firstFault, lw_w_at (i := 361) (by decide +kernel) (by decide +kernel), lw_w_at (i := 362) (by decide +kernel) (by decide +kernel), lw_w_at (i := 363) (by decide +kernel) (by decide +kernel)⟩
theorem fX7_60 : LkF RX7 60 6 2 := ⟨_, _, _, cls_6, by decide, Or.inr ⟨_, lw_x_at (w := .fieldLinkNest RX7 60 (TX6 2).1 (TX6 2).2.1 (TX6 2).2.2.1 "SpinStrips") (i := 295) (by decide +kernel) (by decide +kernel)⟩⟩
theorem fX7_64 : LkF RX7 64 6 3 := ⟨_, _, _, cls_6, by decide, Or.inr ⟨_, lw_x_at (w := .fieldLinkNest RX7 64 (TX6 3).1 (TX6 3).2.1 (TX6 3).2.2.1 "SpinStrips") (i := 297) (by decide +kernel) (by decide +kernel)⟩⟩
theorem fX7_67 : LkF RX7 67 4 2 := ⟨_, _, _, cls_4, by decide, Or.inr ⟨_, lw_x_at (w := .fieldLinkNest RX7 67 (TX4 2).1 (TX4 2).2.1 (TX4 2).2.2.1 "SpinStrips") (i := 111) (by decide +kernel) (by decide +kernel)⟩⟩
theorem fX7_70 : LkF RX7 70 6 4 := ⟨_, _, _, cls_6, by decide, Or.inr ⟨_, lw_x_at (w := .fieldLinkNest RX7 70 (TX6 4).1 (TX6 4).2.1 (TX6 4).2.2.1 "SpinStrips") (i := 299) (by decide +kernel) (by decide +kernel)⟩⟩
theorem gX7_74 : LkP RX7 74 4 6 (.long) := ⟨_, _, _, cls_4, by decide, Or.inr ⟨_, lw_x_at (w := .fieldLinkNest RX7 74 (TX4 6).1 (TX4 6).2.1 (TX4 6).2.2.1 "SpinStrips") (i := 120) (by decide +kernel) (by decide +kernel)⟩, by decide +kernel, rfl⟩
theorem kX7_88 : LkV RX7 88 mX4_fieldAt 2 := ⟨ok_X4_fieldAt, lw_w_at (i := 432) (by decide +kernel) (by decide +kernel), lw_w_at (i := 416) (by decide +kernel) (by decide +kernel), lw_w_at (i := 417) (by decide +kernel) (by decide +kernel)⟩
theorem kX7_92 : LkV RX7 92 mX4_putField 3 := ⟨ok_X4_putField, lw_w_at (i := 433) (by decide +kernel) (by decide +kernel), lw_w_at (i := 434) (by decide +kernel) (by decide +kernel), lw_w_at (i := 435) (by decide +kernel) (by decide +kernel)⟩
theorem fX7_78 : LkF RX7 78 4 4 := ⟨_, _, _, cls_4, by decide, Or.inr ⟨_, lw_x_at (w := .fieldLinkNest RX7 78 (TX4 4).1 (TX4 4).2.1 (TX4 4).2.2.1 "SpinStrips") (i := 117) (by decide +kernel) (by decide +kernel)⟩⟩
theorem fX7_81 : LkF RX7 81 4 3 := ⟨_, _, _, cls_4, by decide, Or.inr ⟨_, lw_x_at (w := .fieldLinkNest RX7 81 (TX4 3).1 (TX4 3).2.1 (TX4 3).2.2.1 "SpinStrips") (i := 114) (by decide +kernel) (by decide +kernel)⟩⟩
theorem gX7_78 : LkP RX7 78 4 4 (.int) := ⟨_, _, _, cls_4, by decide, Or.inr ⟨_, lw_x_at (w := .fieldLinkNest RX7 78 (TX4 4).1 (TX4 4).2.1 (TX4 4).2.2.1 "SpinStrips") (i := 117) (by decide +kernel) (by decide +kernel)⟩, by decide +kernel, rfl⟩
theorem gX7_81 : LkP RX7 81 4 3 (.int) := ⟨_, _, _, cls_4, by decide, Or.inr ⟨_, lw_x_at (w := .fieldLinkNest RX7 81 (TX4 3).1 (TX4 3).2.1 (TX4 3).2.2.1 "SpinStrips") (i := 114) (by decide +kernel) (by decide +kernel)⟩, by decide +kernel, rfl⟩
theorem kX7_131 : LkV RX7 131 mX1_takeLatest 1 := ⟨ok_X1_takeLatest, lw_w_at (i := 575) (by decide +kernel) (by decide +kernel), lw_w_at (i := 576) (by decide +kernel) (by decide +kernel), lw_w_at (i := 577) (by decide +kernel) (by decide +kernel)⟩
theorem fX7_135 : LkF RX7 135 1 2 := ⟨_, _, _, cls_1, by decide, Or.inr ⟨_, lw_x_at (w := .fieldLinkNest RX7 135 (TX1 2).1 (TX1 2).2.1 (TX1 2).2.2.1 "SpinStrips") (i := 277) (by decide +kernel) (by decide +kernel)⟩⟩
theorem kX8_116 : LkV RX8 116 mX8_countsFrom 4 := ⟨ok_X8_countsFrom, lw_w_at (i := 1031) (by decide +kernel) (by decide +kernel), lw_w_at (i := 1033) (by decide +kernel) (by decide +kernel), lw_w_at (i := 57) (by decide +kernel) (by decide +kernel)⟩
theorem kX8_152 : LkV RX8 152 mX8_joins 3 := ⟨ok_X8_joins, lw_w_at (i := 915) (by decide +kernel) (by decide +kernel), lw_w_at (i := 917) (by decide +kernel) (by decide +kernel), lw_w_at (i := 41) (by decide +kernel) (by decide +kernel)⟩
theorem kX8_92 : LkV RX8 92 mX8_beside 2 := ⟨ok_X8_beside, lw_w_at (i := 845) (by decide +kernel) (by decide +kernel), lw_w_at (i := 847) (by decide +kernel) (by decide +kernel), lw_w_at (i := 29) (by decide +kernel) (by decide +kernel)⟩
theorem kX8_222 : LkV RX8 222 mX8_fault 0 := ⟨ok_X8_fault, lw_w_at (i := 983) (by decide +kernel) (by decide +kernel), lw_w_at (i := 985) (by decide +kernel) (by decide +kernel), lw_w_at (i := 51) (by decide +kernel) (by decide +kernel)⟩
theorem kX8_182 : LkV RX8 182 mX8_puts 2 := ⟨ok_X8_puts, lw_w_at (i := 878) (by decide +kernel) (by decide +kernel), lw_w_at (i := 880) (by decide +kernel) (by decide +kernel), lw_w_at (i := 35) (by decide +kernel) (by decide +kernel)⟩
theorem kX8_143 : LkV RX8 143 mX8_ranked 1 := ⟨ok_X8_ranked, lw_w_at (i := 963) (by decide +kernel) (by decide +kernel), lw_w_at (i := 965) (by decide +kernel) (by decide +kernel), lw_w_at (i := 49) (by decide +kernel) (by decide +kernel)⟩
theorem kX8_146 : LkV RX8 146 mX8_rests 1 := ⟨ok_X8_rests, lw_w_at (i := 967) (by decide +kernel) (by decide +kernel), lw_w_at (i := 969) (by decide +kernel) (by decide +kernel), lw_w_at (i := 50) (by decide +kernel) (by decide +kernel)⟩
theorem kX8_136 : LkV RX8 136 mX8_upsFrom 3 := ⟨ok_X8_upsFrom, lw_w_at (i := 949) (by decide +kernel) (by decide +kernel), lw_w_at (i := 951) (by decide +kernel) (by decide +kernel), lw_w_at (i := 47) (by decide +kernel) (by decide +kernel)⟩
theorem fX0_52 : LkF RX0 52 0 10 := ⟨_, _, _, cls_0, by decide, Or.inl (lw_w_at (w := .fieldLink RX0 52 (TX0 10).1 (TX0 10).2.1 (TX0 10).2.2.1) (i := 235) (by decide +kernel) (by decide +kernel))⟩
theorem kX0_73 : LkV RX0 73 mX3_takeFrom 2 := ⟨ok_X3_takeFrom, lw_w_at (i := 489) (by decide +kernel) (by decide +kernel), lw_w_at (i := 490) (by decide +kernel) (by decide +kernel), lw_w_at (i := 491) (by decide +kernel) (by decide +kernel)⟩
theorem fX0_24 : LkF RX0 24 0 3 := ⟨_, _, _, cls_0, by decide, Or.inl (lw_w_at (w := .fieldLink RX0 24 (TX0 3).1 (TX0 3).2.1 (TX0 3).2.2.1) (i := 228) (by decide +kernel) (by decide +kernel))⟩
theorem kX0_77 : LkV RX0 77 mX5_fill 2 := ⟨ok_X5_fill, lw_w_at (i := 619) (by decide +kernel) (by decide +kernel), lw_w_at (i := 620) (by decide +kernel) (by decide +kernel), lw_w_at (i := 621) (by decide +kernel) (by decide +kernel)⟩
theorem fX0_45 : LkF RX0 45 0 8 := ⟨_, _, _, cls_0, by decide, Or.inl (lw_w_at (w := .fieldLink RX0 45 (TX0 8).1 (TX0 8).2.1 (TX0 8).2.2.1) (i := 233) (by decide +kernel) (by decide +kernel))⟩
theorem fX0_49 : LkF RX0 49 0 9 := ⟨_, _, _, cls_0, by decide, Or.inl (lw_w_at (w := .fieldLink RX0 49 (TX0 9).1 (TX0 9).2.1 (TX0 9).2.2.1) (i := 234) (by decide +kernel) (by decide +kernel))⟩
theorem fX0_56 : LkF RX0 56 0 11 := ⟨_, _, _, cls_0, by decide, Or.inl (lw_w_at (w := .fieldLink RX0 56 (TX0 11).1 (TX0 11).2.1 (TX0 11).2.2.1) (i := 236) (by decide +kernel) (by decide +kernel))⟩
theorem fX0_18 : LkF RX0 18 0 2 := ⟨_, _, _, cls_0, by decide, Or.inl (lw_w_at (w := .fieldLink RX0 18 (TX0 2).1 (TX0 2).2.1 (TX0 2).2.2.1) (i := 227) (by decide +kernel) (by decide +kernel))⟩
theorem fX0_39 : LkF RX0 39 0 6 := ⟨_, _, _, cls_0, by decide, Or.inl (lw_w_at (w := .fieldLink RX0 39 (TX0 6).1 (TX0 6).2.1 (TX0 6).2.2.1) (i := 231) (by decide +kernel) (by decide +kernel))⟩
theorem kX2_22 : LkV RX2 22 mX2_leastCost 1 := ⟨ok_X2_leastCost, lw_w_at (i := 523) (by decide +kernel) (by decide +kernel), lw_w_at (i := 525) (by decide +kernel) (by decide +kernel), lw_w_at (i := 9) (by decide +kernel) (by decide +kernel)⟩
theorem kX2_50 : LkV RX2 50 mX2_addUps 3 := ⟨ok_X2_addUps, lw_w_at (i := 668) (by decide +kernel) (by decide +kernel), lw_w_at (i := 670) (by decide +kernel) (by decide +kernel), lw_w_at (i := 20) (by decide +kernel) (by decide +kernel)⟩
theorem kX2_40 : LkV RX2 40 mX2_follow 2 := ⟨ok_X2_follow, lw_w_at (i := 546) (by decide +kernel) (by decide +kernel), lw_w_at (i := 548) (by decide +kernel) (by decide +kernel), lw_w_at (i := 12) (by decide +kernel) (by decide +kernel)⟩
theorem kX4_109 : LkV RX4 109 mX4_gain 2 := ⟨ok_X4_gain, lw_w_at (i := 472) (by decide +kernel) (by decide +kernel), lw_w_at (i := 473) (by decide +kernel) (by decide +kernel), lw_w_at (i := 474) (by decide +kernel) (by decide +kernel)⟩
theorem kX4_112 : LkV RX4 112 mX4_flip 1 := ⟨ok_X4_flip, lw_w_at (i := 480) (by decide +kernel) (by decide +kernel), lw_w_at (i := 443) (by decide +kernel) (by decide +kernel), lw_w_at (i := 444) (by decide +kernel) (by decide +kernel)⟩
theorem kX4_106 : LkV RX4 106 mX4_patchOf 1 := ⟨ok_X4_patchOf, lw_w_at (i := 721) (by decide +kernel) (by decide +kernel), lw_w_at (i := 451) (by decide +kernel) (by decide +kernel), lw_w_at (i := 452) (by decide +kernel) (by decide +kernel)⟩
theorem kX7_96 : LkS RX7 96 mX4_bit 2 := ⟨ok_X4_bit, lw_w_at (i := 441) (by decide +kernel) (by decide +kernel), lw_w_at (i := 374) (by decide +kernel) (by decide +kernel)⟩
theorem kX7_141 : LkV RX7 141 mX4_spinAt 2 := ⟨ok_X4_spinAt, lw_w_at (i := 592) (by decide +kernel) (by decide +kernel), lw_w_at (i := 385) (by decide +kernel) (by decide +kernel), lw_w_at (i := 386) (by decide +kernel) (by decide +kernel)⟩
theorem kX7_144 : LkV RX7 144 mX4_gain 2 := ⟨ok_X4_gain, lw_w_at (i := 593) (by decide +kernel) (by decide +kernel), lw_w_at (i := 473) (by decide +kernel) (by decide +kernel), lw_w_at (i := 474) (by decide +kernel) (by decide +kernel)⟩
theorem kX7_147 : LkS RX7 147 mX7_reason 1 := ⟨ok_X7_reason, lw_w_at (i := 594) (by decide +kernel) (by decide +kernel), lw_w_at (i := 595) (by decide +kernel) (by decide +kernel)⟩
theorem kX7_151 : LkV RX7 151 mX4_beside 1 := ⟨ok_X4_beside, lw_w_at (i := 597) (by decide +kernel) (by decide +kernel), lw_w_at (i := 460) (by decide +kernel) (by decide +kernel), lw_w_at (i := 461) (by decide +kernel) (by decide +kernel)⟩
theorem kX7_108 : LkS RX7 108 mJ13_bitCount_95d88 1 := ⟨ok_J13_bitCount_95d88, lw_w_at (i := 463) (by decide +kernel) (by decide +kernel), lw_w_at (i := 406) (by decide +kernel) (by decide +kernel)⟩
theorem kX7_154 : LkV RX7 154 mX4_alike 1 := ⟨ok_X4_alike, lw_w_at (i := 598) (by decide +kernel) (by decide +kernel), lw_w_at (i := 455) (by decide +kernel) (by decide +kernel), lw_w_at (i := 456) (by decide +kernel) (by decide +kernel)⟩
theorem kX7_104 : LkV RX7 104 mX4_patchOf 1 := ⟨ok_X4_patchOf, lw_w_at (i := 450) (by decide +kernel) (by decide +kernel), lw_w_at (i := 451) (by decide +kernel) (by decide +kernel), lw_w_at (i := 452) (by decide +kernel) (by decide +kernel)⟩
theorem gX7_67 : LkP RX7 67 4 2 (.boolean) := ⟨_, _, _, cls_4, by decide, Or.inr ⟨_, lw_x_at (w := .fieldLinkNest RX7 67 (TX4 2).1 (TX4 2).2.1 (TX4 2).2.2.1 "SpinStrips") (i := 111) (by decide +kernel) (by decide +kernel)⟩, by decide +kernel, rfl⟩
theorem kX7_75 : LkV RX7 75 mX4_energy 0 := ⟨ok_X4_energy, lw_w_at (i := 380) (by decide +kernel) (by decide +kernel), lw_w_at (i := 381) (by decide +kernel) (by decide +kernel), lw_w_at (i := 382) (by decide +kernel) (by decide +kernel)⟩
theorem kX7_3 : Cond.methodLink RX7 3 Lib.objectInit ∈ lw_w := lw_w_at (i := 87) (by decide +kernel) (by decide +kernel)
theorem kX7_11 : LkI RX7 11 mX4_init 0 := ⟨ok_X4_init, Or.inr ⟨_, lw_x_at (w := .methodLinkNest RX7 11 yX4_init "SpinStrips") (i := 92) (by decide +kernel) (by decide +kernel)⟩, lw_w_at (i := 93) (by decide +kernel) (by decide +kernel), rfl, rfl⟩
theorem gX7_12 : LkQ RX7 12 7 0 (.object "SpinStrips$Strip") := ⟨_, _, _, cls_7, by decide, lw_w_at (w := .fieldLink RX7 12 (TX7 0).1 (TX7 0).2.1 (TX7 0).2.2.1) (i := 312) (by decide +kernel) (by decide +kernel), by decide +kernel, rfl, rfl⟩
theorem kX7_18 : LkI RX7 18 mX0_init 1 := ⟨ok_X0_init, Or.inl (lw_w_at (i := 146) (by decide +kernel) (by decide +kernel)), lw_w_at (i := 147) (by decide +kernel) (by decide +kernel), rfl, rfl⟩
theorem gX7_21 : LkQ RX7 21 7 1 (.object "SpinStrips$AllStrips") := ⟨_, _, _, cls_7, by decide, lw_w_at (w := .fieldLink RX7 21 (TX7 1).1 (TX7 1).2.1 (TX7 1).2.2.1) (i := 313) (by decide +kernel) (by decide +kernel), by decide +kernel, rfl, rfl⟩
theorem kX7_27 : LkI RX7 27 mX1_init 0 := ⟨ok_X1_init, Or.inl (lw_w_at (i := 267) (by decide +kernel) (by decide +kernel)), lw_w_at (i := 268) (by decide +kernel) (by decide +kernel), rfl, rfl⟩
theorem gX7_28 : LkQ RX7 28 7 2 (.object "SpinStrips$History") := ⟨_, _, _, cls_7, by decide, lw_w_at (w := .fieldLink RX7 28 (TX7 2).1 (TX7 2).2.1 (TX7 2).2.2.1) (i := 314) (by decide +kernel) (by decide +kernel), by decide +kernel, rfl, rfl⟩
theorem gX7_32 : LkQ RX7 32 7 3 (.object "SpinStrips$Strip") := ⟨_, _, _, cls_7, by decide, lw_w_at (w := .fieldLink RX7 32 (TX7 3).1 (TX7 3).2.1 (TX7 3).2.2.1) (i := 315) (by decide +kernel) (by decide +kernel), by decide +kernel, rfl, rfl⟩
theorem gX7_35 : LkP RX7 35 7 4 (.boolean) := ⟨_, _, _, cls_7, by decide, Or.inl (lw_w_at (w := .fieldLink RX7 35 (TX7 4).1 (TX7 4).2.1 (TX7 4).2.2.1) (i := 316) (by decide +kernel) (by decide +kernel)), by decide +kernel, rfl⟩
theorem kX7_41 : LkI RX7 41 mX6_init 0 := ⟨ok_X6_init, Or.inr ⟨_, lw_x_at (w := .methodLinkNest RX7 41 yX6_init "SpinStrips") (i := 287) (by decide +kernel) (by decide +kernel)⟩, lw_w_at (i := 288) (by decide +kernel) (by decide +kernel), rfl, rfl⟩
theorem gX7_42 : LkQ RX7 42 7 5 (.object "SpinStrips$Text") := ⟨_, _, _, cls_7, by decide, lw_w_at (w := .fieldLink RX7 42 (TX7 5).1 (TX7 5).2.1 (TX7 5).2.2.1) (i := 317) (by decide +kernel) (by decide +kernel), by decide +kernel, rfl, rfl⟩
theorem fX7_32 : LkF RX7 32 7 3 := ⟨_, _, _, cls_7, by decide, Or.inl (lw_w_at (w := .fieldLink RX7 32 (TX7 3).1 (TX7 3).2.1 (TX7 3).2.2.1) (i := 315) (by decide +kernel) (by decide +kernel))⟩
theorem kX7_138 : LkV RX7 138 mX4_copyFrom 1 := ⟨ok_X4_copyFrom, lw_w_at (i := 583) (by decide +kernel) (by decide +kernel), lw_w_at (i := 340) (by decide +kernel) (by decide +kernel), lw_w_at (i := 341) (by decide +kernel) (by decide +kernel)⟩
theorem fX7_35 : LkF RX7 35 7 4 := ⟨_, _, _, cls_7, by decide, Or.inl (lw_w_at (w := .fieldLink RX7 35 (TX7 4).1 (TX7 4).2.1 (TX7 4).2.2.1) (i := 316) (by decide +kernel) (by decide +kernel))⟩
theorem kX7_100 : LkV RX7 100 mX4_flip 1 := ⟨ok_X4_flip, lw_w_at (i := 442) (by decide +kernel) (by decide +kernel), lw_w_at (i := 443) (by decide +kernel) (by decide +kernel), lw_w_at (i := 444) (by decide +kernel) (by decide +kernel)⟩
theorem kX8_190 : LkV RX8 190 mX8_gain 2 := ⟨ok_X8_gain, lw_w_at (i := 928) (by decide +kernel) (by decide +kernel), lw_w_at (i := 930) (by decide +kernel) (by decide +kernel), lw_w_at (i := 43) (by decide +kernel) (by decide +kernel)⟩
theorem kX8_228 : LkV RX8 228 mX8_neighbours 3 := ⟨ok_X8_neighbours, lw_w_at (i := 1011) (by decide +kernel) (by decide +kernel), lw_w_at (i := 1013) (by decide +kernel) (by decide +kernel), lw_w_at (i := 54) (by decide +kernel) (by decide +kernel)⟩
theorem kX8_156 : LkV RX8 156 mX8_forgets 0 := ⟨ok_X8_forgets, lw_w_at (i := 903) (by decide +kernel) (by decide +kernel), lw_w_at (i := 905) (by decide +kernel) (by decide +kernel), lw_w_at (i := 38) (by decide +kernel) (by decide +kernel)⟩
theorem kX8_162 : LkV RX8 162 mX8_finds 2 := ⟨ok_X8_finds, lw_w_at (i := 907) (by decide +kernel) (by decide +kernel), lw_w_at (i := 909) (by decide +kernel) (by decide +kernel), lw_w_at (i := 39) (by decide +kernel) (by decide +kernel)⟩
theorem kX8_102 : LkV RX8 102 mX8_ofStrip 1 := ⟨ok_X8_ofStrip, lw_w_at (i := 841) (by decide +kernel) (by decide +kernel), lw_w_at (i := 843) (by decide +kernel) (by decide +kernel), lw_w_at (i := 28) (by decide +kernel) (by decide +kernel)⟩
theorem kX8_120 : LkV RX8 120 mX8_countsAll 1 := ⟨ok_X8_countsAll, lw_w_at (i := 1027) (by decide +kernel) (by decide +kernel), lw_w_at (i := 1029) (by decide +kernel) (by decide +kernel), lw_w_at (i := 56) (by decide +kernel) (by decide +kernel)⟩
theorem kX8_241 : LkV RX8 241 mX8_least 0 := ⟨ok_X8_least, lw_w_at (i := 1054) (by decide +kernel) (by decide +kernel), lw_w_at (i := 1056) (by decide +kernel) (by decide +kernel), lw_w_at (i := 58) (by decide +kernel) (by decide +kernel)⟩
theorem kX8_244 : LkV RX8 244 mX8_greatest 0 := ⟨ok_X8_greatest, lw_w_at (i := 1058) (by decide +kernel) (by decide +kernel), lw_w_at (i := 1060) (by decide +kernel) (by decide +kernel), lw_w_at (i := 59) (by decide +kernel) (by decide +kernel)⟩
theorem kX8_247 : LkS RX8 247 mJxf58ca_floatToIntBits_5c35a 1 := ⟨ok_Jxf58ca_floatToIntBits_5c35a, lw_w_at (i := 1062) (by decide +kernel) (by decide +kernel), lw_w_at (i := 1063) (by decide +kernel) (by decide +kernel)⟩
theorem kX8_140 : LkV RX8 140 mX8_upsAll 0 := ⟨ok_X8_upsAll, lw_w_at (i := 940) (by decide +kernel) (by decide +kernel), lw_w_at (i := 942) (by decide +kernel) (by decide +kernel), lw_w_at (i := 45) (by decide +kernel) (by decide +kernel)⟩
theorem kX8_187 : LkV RX8 187 mX8_turns 2 := ⟨ok_X8_turns, lw_w_at (i := 895) (by decide +kernel) (by decide +kernel), lw_w_at (i := 897) (by decide +kernel) (by decide +kernel), lw_w_at (i := 37) (by decide +kernel) (by decide +kernel)⟩
theorem fX0_31 : LkF RX0 31 0 4 := ⟨_, _, _, cls_0, by decide, Or.inl (lw_w_at (w := .fieldLink RX0 31 (TX0 4).1 (TX0 4).2.1 (TX0 4).2.2.1) (i := 229) (by decide +kernel) (by decide +kernel))⟩
theorem kX0_99 : LkV RX0 99 mX2_firstStrip 1 := ⟨ok_X2_firstStrip, lw_w_at (i := 519) (by decide +kernel) (by decide +kernel), lw_w_at (i := 520) (by decide +kernel) (by decide +kernel), lw_w_at (i := 521) (by decide +kernel) (by decide +kernel)⟩
theorem kX0_66 : LkV RX0 66 mX0_learnCosts 0 := ⟨ok_X0_learnCosts, lw_w_at (i := 615) (by decide +kernel) (by decide +kernel), lw_w_at (i := 617) (by decide +kernel) (by decide +kernel), lw_w_at (i := 15) (by decide +kernel) (by decide +kernel)⟩
theorem kX0_96 : LkV RX0 96 mX0_energyOf 1 := ⟨ok_X0_energyOf, lw_w_at (i := 691) (by decide +kernel) (by decide +kernel), lw_w_at (i := 693) (by decide +kernel) (by decide +kernel), lw_w_at (i := 22) (by decide +kernel) (by decide +kernel)⟩
theorem fX0_59 : LkF RX0 59 0 12 := ⟨_, _, _, cls_0, by decide, Or.inl (lw_w_at (w := .fieldLink RX0 59 (TX0 12).1 (TX0 12).2.1 (TX0 12).2.2.1) (i := 237) (by decide +kernel) (by decide +kernel))⟩
theorem fX0_42 : LkF RX0 42 0 7 := ⟨_, _, _, cls_0, by decide, Or.inl (lw_w_at (w := .fieldLink RX0 42 (TX0 7).1 (TX0 7).2.1 (TX0 7).2.2.1) (i := 232) (by decide +kernel) (by decide +kernel))⟩
theorem kX0_85 : LkV RX0 85 mX2_fillUps 2 := ⟨ok_X2_fillUps, lw_w_at (i := 663) (by decide +kernel) (by decide +kernel), lw_w_at (i := 664) (by decide +kernel) (by decide +kernel), lw_w_at (i := 665) (by decide +kernel) (by decide +kernel)⟩
theorem kX0_69 : LkV RX0 69 mX0_manyAtEnergy 1 := ⟨ok_X0_manyAtEnergy, lw_w_at (i := 640) (by decide +kernel) (by decide +kernel), lw_w_at (i := 642) (by decide +kernel) (by decide +kernel), lw_w_at (i := 19) (by decide +kernel) (by decide +kernel)⟩
theorem kX7_114 : LkV RX7 114 mX4_gainingCells 0 := ⟨ok_X4_gainingCells, lw_w_at (i := 468) (by decide +kernel) (by decide +kernel), lw_w_at (i := 469) (by decide +kernel) (by decide +kernel), lw_w_at (i := 470) (by decide +kernel) (by decide +kernel)⟩
theorem kX7_117 : LkV RX7 117 mX4_flipGainingCells 0 := ⟨ok_X4_flipGainingCells, lw_w_at (i := 476) (by decide +kernel) (by decide +kernel), lw_w_at (i := 477) (by decide +kernel) (by decide +kernel), lw_w_at (i := 478) (by decide +kernel) (by decide +kernel)⟩
theorem kX7_163 : LkV RX7 163 mX0_manyWithWalls 1 := ⟨ok_X0_manyWithWalls, lw_w_at (i := 651) (by decide +kernel) (by decide +kernel), lw_w_at (i := 652) (by decide +kernel) (by decide +kernel), lw_w_at (i := 653) (by decide +kernel) (by decide +kernel)⟩
theorem kX8_175 : LkV RX8 175 mX8_energy 0 := ⟨ok_X8_energy, lw_w_at (i := 837) (by decide +kernel) (by decide +kernel), lw_w_at (i := 839) (by decide +kernel) (by decide +kernel), lw_w_at (i := 27) (by decide +kernel) (by decide +kernel)⟩
theorem kX8_253 : LkV RX8 253 mX8_upsNow 0 := ⟨ok_X8_upsNow, lw_w_at (i := 1076) (by decide +kernel) (by decide +kernel), lw_w_at (i := 1078) (by decide +kernel) (by decide +kernel), lw_w_at (i := 60) (by decide +kernel) (by decide +kernel)⟩
theorem kX8_256 : LkV RX8 256 mX8_ofAll 1 := ⟨ok_X8_ofAll, lw_w_at (i := 1080) (by decide +kernel) (by decide +kernel), lw_w_at (i := 1082) (by decide +kernel) (by decide +kernel), lw_w_at (i := 61) (by decide +kernel) (by decide +kernel)⟩
theorem kX8_259 : LkV RX8 259 mX8_patches 0 := ⟨ok_X8_patches, lw_w_at (i := 1084) (by decide +kernel) (by decide +kernel), lw_w_at (i := 1086) (by decide +kernel) (by decide +kernel), lw_w_at (i := 62) (by decide +kernel) (by decide +kernel)⟩
theorem kX8_262 : LkV RX8 262 mX8_thatWouldTurn 0 := ⟨ok_X8_thatWouldTurn, lw_w_at (i := 1088) (by decide +kernel) (by decide +kernel), lw_w_at (i := 1090) (by decide +kernel) (by decide +kernel), lw_w_at (i := 63) (by decide +kernel) (by decide +kernel)⟩
theorem kX8_265 : LkV RX8 265 mX8_pairs 0 := ⟨ok_X8_pairs, lw_w_at (i := 1092) (by decide +kernel) (by decide +kernel), lw_w_at (i := 1094) (by decide +kernel) (by decide +kernel), lw_w_at (i := 64) (by decide +kernel) (by decide +kernel)⟩
theorem fX8_19 : LkF RX8 19 8 4 := ⟨_, _, _, cls_8, by decide, Or.inl (lw_w_at (w := .fieldLink RX8 19 (TX8 4).1 (TX8 4).2.1 (TX8 4).2.2.1) (i := 740) (by decide +kernel) (by decide +kernel))⟩
theorem gX8_225 : LkP RX8 225 8 5 (.int) := ⟨_, _, _, cls_8, by decide, Or.inl (lw_w_at (w := .fieldLink RX8 225 (TX8 5).1 (TX8 5).2.1 (TX8 5).2.2.1) (i := 741) (by decide +kernel) (by decide +kernel)), by decide +kernel, rfl⟩
theorem fX8_225 : LkF RX8 225 8 5 := ⟨_, _, _, cls_8, by decide, Or.inl (lw_w_at (w := .fieldLink RX8 225 (TX8 5).1 (TX8 5).2.1 (TX8 5).2.2.1) (i := 741) (by decide +kernel) (by decide +kernel))⟩
theorem kX8_198 : LkV RX8 198 mX8_leastEnergy 0 := ⟨ok_X8_leastEnergy, lw_w_at (i := 936) (by decide +kernel) (by decide +kernel), lw_w_at (i := 938) (by decide +kernel) (by decide +kernel), lw_w_at (i := 44) (by decide +kernel) (by decide +kernel)⟩
theorem kX8_201 : LkV RX8 201 mX8_settles 1 := ⟨ok_X8_settles, lw_w_at (i := 959) (by decide +kernel) (by decide +kernel), lw_w_at (i := 961) (by decide +kernel) (by decide +kernel), lw_w_at (i := 48) (by decide +kernel) (by decide +kernel)⟩
theorem kX8_195 : LkV RX8 195 mX8_sweeps 0 := ⟨ok_X8_sweeps, lw_w_at (i := 924) (by decide +kernel) (by decide +kernel), lw_w_at (i := 926) (by decide +kernel) (by decide +kernel), lw_w_at (i := 42) (by decide +kernel) (by decide +kernel)⟩
theorem kX8_232 : LkV RX8 232 mX8_with 2 := ⟨ok_X8_with, lw_w_at (i := 1023) (by decide +kernel) (by decide +kernel), lw_w_at (i := 1025) (by decide +kernel) (by decide +kernel), lw_w_at (i := 55) (by decide +kernel) (by decide +kernel)⟩
theorem kX8_235 : LkS RX8 235 mX8_choices 2 := ⟨ok_X8_choices, lw_w_at (i := 1045) (by decide +kernel) (by decide +kernel), lw_w_at (i := 1046) (by decide +kernel) (by decide +kernel)⟩
theorem fX7_181 : LkF RX7 181 4 0 := ⟨_, _, _, cls_4, by decide, Or.inr ⟨_, lw_x_at (w := .fieldLinkNest RX7 181 (TX4 0).1 (TX4 0).2.1 (TX4 0).2.2.1 "SpinStrips") (i := 105) (by decide +kernel) (by decide +kernel)⟩⟩
theorem fX7_182 : LkF RX7 182 4 1 := ⟨_, _, _, cls_4, by decide, Or.inr ⟨_, lw_x_at (w := .fieldLinkNest RX7 182 (TX4 1).1 (TX4 1).2.1 (TX4 1).2.2.1 "SpinStrips") (i := 109) (by decide +kernel) (by decide +kernel)⟩⟩
theorem kX7_183 : LkV RX7 183 mX4_walls 0 := ⟨ok_X4_walls, lw_w_at (i := 705) (by decide +kernel) (by decide +kernel), lw_w_at (i := 706) (by decide +kernel) (by decide +kernel), lw_w_at (i := 707) (by decide +kernel) (by decide +kernel)⟩
theorem fX7_74 : LkF RX7 74 4 6 := ⟨_, _, _, cls_4, by decide, Or.inr ⟨_, lw_x_at (w := .fieldLinkNest RX7 74 (TX4 6).1 (TX4 6).2.1 (TX4 6).2.2.1 "SpinStrips") (i := 120) (by decide +kernel) (by decide +kernel)⟩⟩
theorem kX7_186 : LkV RX7 186 mX0_leastEnergy 0 := ⟨ok_X0_leastEnergy, lw_w_at (i := 709) (by decide +kernel) (by decide +kernel), lw_w_at (i := 710) (by decide +kernel) (by decide +kernel), lw_w_at (i := 711) (by decide +kernel) (by decide +kernel)⟩
theorem kX7_189 : LkV RX7 189 mX0_greatestEnergy 0 := ⟨ok_X0_greatestEnergy, lw_w_at (i := 713) (by decide +kernel) (by decide +kernel), lw_w_at (i := 714) (by decide +kernel) (by decide +kernel), lw_w_at (i := 715) (by decide +kernel) (by decide +kernel)⟩
theorem kX7_160 : LkV RX7 160 mX0_manyWithEnergy 1 := ⟨ok_X0_manyWithEnergy, lw_w_at (i := 611) (by decide +kernel) (by decide +kernel), lw_w_at (i := 612) (by decide +kernel) (by decide +kernel), lw_w_at (i := 613) (by decide +kernel) (by decide +kernel)⟩
theorem kX7_192 : LkV RX7 192 mX4_patches 0 := ⟨ok_X4_patches, lw_w_at (i := 717) (by decide +kernel) (by decide +kernel), lw_w_at (i := 718) (by decide +kernel) (by decide +kernel), lw_w_at (i := 719) (by decide +kernel) (by decide +kernel)⟩
theorem fX7_195 : LkF RX7 195 4 7 := ⟨_, _, _, cls_4, by decide, Or.inr ⟨_, lw_x_at (w := .fieldLinkNest RX7 195 (TX4 7).1 (TX4 7).2.1 (TX4 7).2.2.1 "SpinStrips") (i := 122) (by decide +kernel) (by decide +kernel)⟩⟩
theorem kX7_198 : LkV RX7 198 mX4_pairs 0 := ⟨ok_X4_pairs, lw_w_at (i := 722) (by decide +kernel) (by decide +kernel), lw_w_at (i := 723) (by decide +kernel) (by decide +kernel), lw_w_at (i := 724) (by decide +kernel) (by decide +kernel)⟩
theorem kX7_173 : LkV RX7 173 mX0_sumOfWeights 2 := ⟨ok_X0_sumOfWeights, lw_w_at (i := 687) (by decide +kernel) (by decide +kernel), lw_w_at (i := 688) (by decide +kernel) (by decide +kernel), lw_w_at (i := 689) (by decide +kernel) (by decide +kernel)⟩
theorem kX7_177 : LkS RX7 177 mX7_bitsOf 1 := ⟨ok_X7_bitsOf, lw_w_at (i := 695) (by decide +kernel) (by decide +kernel), lw_w_at (i := 696) (by decide +kernel) (by decide +kernel)⟩
theorem kX7_120 : LkV RX7 120 mX0_firstWithLeastEnergy 0 := ⟨ok_X0_firstWithLeastEnergy, lw_w_at (i := 485) (by decide +kernel) (by decide +kernel), lw_w_at (i := 486) (by decide +kernel) (by decide +kernel), lw_w_at (i := 487) (by decide +kernel) (by decide +kernel)⟩
theorem kX7_166 : LkV RX7 166 mX0_manyOfLeastWithUps 1 := ⟨ok_X0_manyOfLeastWithUps, lw_w_at (i := 659) (by decide +kernel) (by decide +kernel), lw_w_at (i := 660) (by decide +kernel) (by decide +kernel), lw_w_at (i := 661) (by decide +kernel) (by decide +kernel)⟩
theorem kX7_169 : LkV RX7 169 mX0_manyWithUps 1 := ⟨ok_X0_manyWithUps, lw_w_at (i := 678) (by decide +kernel) (by decide +kernel), lw_w_at (i := 679) (by decide +kernel) (by decide +kernel), lw_w_at (i := 680) (by decide +kernel) (by decide +kernel)⟩
theorem kL_9 : LkI RL 9 mX7_init 0 := ⟨ok_X7_init, Or.inl (lw_w_at (i := 84) (by decide +kernel) (by decide +kernel)), lw_w_at (i := 85) (by decide +kernel) (by decide +kernel), rfl, rfl⟩
theorem kL_12 : LkI RL 12 mX8_init 0 := ⟨ok_X8_init, Or.inl (lw_w_at (i := 728) (by decide +kernel) (by decide +kernel)), lw_w_at (i := 729) (by decide +kernel) (by decide +kernel), rfl, rfl⟩
theorem kL_13 : LkV RL 13 mX7_lay 3 := ⟨ok_X7_lay, lw_w_at (i := 331) (by decide +kernel) (by decide +kernel), lw_w_at (i := 332) (by decide +kernel) (by decide +kernel), lw_w_at (i := 333) (by decide +kernel) (by decide +kernel)⟩
theorem kL_17 : LkV RL 17 mX8_lay 3 := ⟨ok_X8_lay, lw_w_at (i := 809) (by decide +kernel) (by decide +kernel), lw_w_at (i := 810) (by decide +kernel) (by decide +kernel), lw_w_at (i := 811) (by decide +kernel) (by decide +kernel)⟩
theorem kL_18 : LkV RL 18 mX7_read 0 := ⟨ok_X7_read, lw_w_at (i := 357) (by decide +kernel) (by decide +kernel), lw_w_at (i := 358) (by decide +kernel) (by decide +kernel), lw_w_at (i := 359) (by decide +kernel) (by decide +kernel)⟩
theorem kL_22 : LkV RL 22 mX8_read 0 := ⟨ok_X8_read, lw_w_at (i := 979) (by decide +kernel) (by decide +kernel), lw_w_at (i := 980) (by decide +kernel) (by decide +kernel), lw_w_at (i := 981) (by decide +kernel) (by decide +kernel)⟩
theorem kL_23 : LkV RL 23 mX7_close 1 := ⟨ok_X7_close, lw_w_at (i := 376) (by decide +kernel) (by decide +kernel), lw_w_at (i := 377) (by decide +kernel) (by decide +kernel), lw_w_at (i := 378) (by decide +kernel) (by decide +kernel)⟩
theorem kL_27 : LkV RL 27 mX8_close 1 := ⟨ok_X8_close, lw_w_at (i := 833) (by decide +kernel) (by decide +kernel), lw_w_at (i := 834) (by decide +kernel) (by decide +kernel), lw_w_at (i := 835) (by decide +kernel) (by decide +kernel)⟩
theorem kL_28 : LkV RL 28 mX7_setPull 2 := ⟨ok_X7_setPull, lw_w_at (i := 423) (by decide +kernel) (by decide +kernel), lw_w_at (i := 424) (by decide +kernel) (by decide +kernel), lw_w_at (i := 425) (by decide +kernel) (by decide +kernel)⟩
theorem kL_32 : LkV RL 32 mX8_setPull 2 := ⟨ok_X8_setPull, lw_w_at (i := 872) (by decide +kernel) (by decide +kernel), lw_w_at (i := 873) (by decide +kernel) (by decide +kernel), lw_w_at (i := 874) (by decide +kernel) (by decide +kernel)⟩
theorem kL_33 : LkV RL 33 mX7_setField 3 := ⟨ok_X7_setField, lw_w_at (i := 427) (by decide +kernel) (by decide +kernel), lw_w_at (i := 428) (by decide +kernel) (by decide +kernel), lw_w_at (i := 429) (by decide +kernel) (by decide +kernel)⟩
theorem kL_37 : LkV RL 37 mX8_setField 3 := ⟨ok_X8_setField, lw_w_at (i := 882) (by decide +kernel) (by decide +kernel), lw_w_at (i := 883) (by decide +kernel) (by decide +kernel), lw_w_at (i := 884) (by decide +kernel) (by decide +kernel)⟩
theorem kL_38 : LkV RL 38 mX7_turn 2 := ⟨ok_X7_turn, lw_w_at (i := 437) (by decide +kernel) (by decide +kernel), lw_w_at (i := 438) (by decide +kernel) (by decide +kernel), lw_w_at (i := 439) (by decide +kernel) (by decide +kernel)⟩
theorem kL_42 : LkV RL 42 mX8_turn 2 := ⟨ok_X8_turn, lw_w_at (i := 891) (by decide +kernel) (by decide +kernel), lw_w_at (i := 892) (by decide +kernel) (by decide +kernel), lw_w_at (i := 893) (by decide +kernel) (by decide +kernel)⟩
theorem kL_43 : LkV RL 43 mX7_turnPatch 2 := ⟨ok_X7_turnPatch, lw_w_at (i := 446) (by decide +kernel) (by decide +kernel), lw_w_at (i := 447) (by decide +kernel) (by decide +kernel), lw_w_at (i := 448) (by decide +kernel) (by decide +kernel)⟩
theorem kL_46 : LkV RL 46 mX8_turnPatch 2 := ⟨ok_X8_turnPatch, lw_w_at (i := 899) (by decide +kernel) (by decide +kernel), lw_w_at (i := 900) (by decide +kernel) (by decide +kernel), lw_w_at (i := 901) (by decide +kernel) (by decide +kernel)⟩
theorem kL_47 : LkV RL 47 mX7_sweep 1 := ⟨ok_X7_sweep, lw_w_at (i := 464) (by decide +kernel) (by decide +kernel), lw_w_at (i := 465) (by decide +kernel) (by decide +kernel), lw_w_at (i := 466) (by decide +kernel) (by decide +kernel)⟩
theorem kL_51 : LkV RL 51 mX8_sweep 1 := ⟨ok_X8_sweep, lw_w_at (i := 919) (by decide +kernel) (by decide +kernel), lw_w_at (i := 920) (by decide +kernel) (by decide +kernel), lw_w_at (i := 921) (by decide +kernel) (by decide +kernel)⟩
theorem kL_52 : LkV RL 52 mX7_settle 0 := ⟨ok_X7_settle, lw_w_at (i := 481) (by decide +kernel) (by decide +kernel), lw_w_at (i := 482) (by decide +kernel) (by decide +kernel), lw_w_at (i := 483) (by decide +kernel) (by decide +kernel)⟩
theorem kL_55 : LkV RL 55 mX8_settle 0 := ⟨ok_X8_settle, lw_w_at (i := 932) (by decide +kernel) (by decide +kernel), lw_w_at (i := 933) (by decide +kernel) (by decide +kernel), lw_w_at (i := 934) (by decide +kernel) (by decide +kernel)⟩
theorem kL_56 : LkV RL 56 mX7_type 1 := ⟨ok_X7_type, lw_w_at (i := 559) (by decide +kernel) (by decide +kernel), lw_w_at (i := 560) (by decide +kernel) (by decide +kernel), lw_w_at (i := 561) (by decide +kernel) (by decide +kernel)⟩
theorem kL_60 : LkV RL 60 mX8_type 1 := ⟨ok_X8_type, lw_w_at (i := 971) (by decide +kernel) (by decide +kernel), lw_w_at (i := 972) (by decide +kernel) (by decide +kernel), lw_w_at (i := 973) (by decide +kernel) (by decide +kernel)⟩
theorem kL_61 : LkV RL 61 mX7_clearText 0 := ⟨ok_X7_clearText, lw_w_at (i := 567) (by decide +kernel) (by decide +kernel), lw_w_at (i := 568) (by decide +kernel) (by decide +kernel), lw_w_at (i := 569) (by decide +kernel) (by decide +kernel)⟩
theorem kL_64 : LkV RL 64 mX8_clearText 0 := ⟨ok_X8_clearText, lw_w_at (i := 975) (by decide +kernel) (by decide +kernel), lw_w_at (i := 976) (by decide +kernel) (by decide +kernel), lw_w_at (i := 977) (by decide +kernel) (by decide +kernel)⟩
theorem kL_65 : LkV RL 65 mX7_undo 0 := ⟨ok_X7_undo, lw_w_at (i := 571) (by decide +kernel) (by decide +kernel), lw_w_at (i := 572) (by decide +kernel) (by decide +kernel), lw_w_at (i := 573) (by decide +kernel) (by decide +kernel)⟩
theorem kL_68 : LkV RL 68 mX8_undo 0 := ⟨ok_X8_undo, lw_w_at (i := 995) (by decide +kernel) (by decide +kernel), lw_w_at (i := 996) (by decide +kernel) (by decide +kernel), lw_w_at (i := 997) (by decide +kernel) (by decide +kernel)⟩
theorem kL_69 : LkV RL 69 mX7_keep 0 := ⟨ok_X7_keep, lw_w_at (i := 579) (by decide +kernel) (by decide +kernel), lw_w_at (i := 580) (by decide +kernel) (by decide +kernel), lw_w_at (i := 581) (by decide +kernel) (by decide +kernel)⟩
theorem kL_72 : LkV RL 72 mX8_keep 0 := ⟨ok_X8_keep, lw_w_at (i := 999) (by decide +kernel) (by decide +kernel), lw_w_at (i := 1000) (by decide +kernel) (by decide +kernel), lw_w_at (i := 1001) (by decide +kernel) (by decide +kernel)⟩
theorem kL_73 : LkV RL 73 mX7_restore 0 := ⟨ok_X7_restore, lw_w_at (i := 584) (by decide +kernel) (by decide +kernel), lw_w_at (i := 585) (by decide +kernel) (by decide +kernel), lw_w_at (i := 586) (by decide +kernel) (by decide +kernel)⟩
theorem kL_76 : LkV RL 76 mX8_restore 0 := ⟨ok_X8_restore, lw_w_at (i := 1003) (by decide +kernel) (by decide +kernel), lw_w_at (i := 1004) (by decide +kernel) (by decide +kernel), lw_w_at (i := 1005) (by decide +kernel) (by decide +kernel)⟩
theorem kL_77 : LkV RL 77 mX7_cell 3 := ⟨ok_X7_cell, lw_w_at (i := 588) (by decide +kernel) (by decide +kernel), lw_w_at (i := 589) (by decide +kernel) (by decide +kernel), lw_w_at (i := 590) (by decide +kernel) (by decide +kernel)⟩
theorem kL_80 : LkV RL 80 mX8_cell 3 := ⟨ok_X8_cell, lw_w_at (i := 1007) (by decide +kernel) (by decide +kernel), lw_w_at (i := 1008) (by decide +kernel) (by decide +kernel), lw_w_at (i := 1009) (by decide +kernel) (by decide +kernel)⟩
theorem kL_81 : LkV RL 81 mX7_column 1 := ⟨ok_X7_column, lw_w_at (i := 599) (by decide +kernel) (by decide +kernel), lw_w_at (i := 600) (by decide +kernel) (by decide +kernel), lw_w_at (i := 601) (by decide +kernel) (by decide +kernel)⟩
theorem kL_84 : LkV RL 84 mX8_column 1 := ⟨ok_X8_column, lw_w_at (i := 1015) (by decide +kernel) (by decide +kernel), lw_w_at (i := 1016) (by decide +kernel) (by decide +kernel), lw_w_at (i := 1017) (by decide +kernel) (by decide +kernel)⟩
theorem kL_85 : LkV RL 85 mX7_withEnergy 1 := ⟨ok_X7_withEnergy, lw_w_at (i := 607) (by decide +kernel) (by decide +kernel), lw_w_at (i := 608) (by decide +kernel) (by decide +kernel), lw_w_at (i := 609) (by decide +kernel) (by decide +kernel)⟩
theorem kL_88 : LkV RL 88 mX8_withEnergy 1 := ⟨ok_X8_withEnergy, lw_w_at (i := 1019) (by decide +kernel) (by decide +kernel), lw_w_at (i := 1020) (by decide +kernel) (by decide +kernel), lw_w_at (i := 1021) (by decide +kernel) (by decide +kernel)⟩
theorem kL_89 : LkV RL 89 mX7_withWalls 1 := ⟨ok_X7_withWalls, lw_w_at (i := 647) (by decide +kernel) (by decide +kernel), lw_w_at (i := 648) (by decide +kernel) (by decide +kernel), lw_w_at (i := 649) (by decide +kernel) (by decide +kernel)⟩
theorem kL_92 : LkV RL 92 mX8_withWalls 1 := ⟨ok_X8_withWalls, lw_w_at (i := 1037) (by decide +kernel) (by decide +kernel), lw_w_at (i := 1038) (by decide +kernel) (by decide +kernel), lw_w_at (i := 1039) (by decide +kernel) (by decide +kernel)⟩
theorem kL_93 : LkV RL 93 mX7_withUps 2 := ⟨ok_X7_withUps, lw_w_at (i := 655) (by decide +kernel) (by decide +kernel), lw_w_at (i := 656) (by decide +kernel) (by decide +kernel), lw_w_at (i := 657) (by decide +kernel) (by decide +kernel)⟩
theorem kL_97 : LkV RL 97 mX8_withUps 2 := ⟨ok_X8_withUps, lw_w_at (i := 1041) (by decide +kernel) (by decide +kernel), lw_w_at (i := 1042) (by decide +kernel) (by decide +kernel), lw_w_at (i := 1043) (by decide +kernel) (by decide +kernel)⟩
theorem kL_98 : LkV RL 98 mX7_heat 2 := ⟨ok_X7_heat, lw_w_at (i := 682) (by decide +kernel) (by decide +kernel), lw_w_at (i := 683) (by decide +kernel) (by decide +kernel), lw_w_at (i := 684) (by decide +kernel) (by decide +kernel)⟩
theorem kL_101 : LkV RL 101 mX8_heat 2 := ⟨ok_X8_heat, lw_w_at (i := 1048) (by decide +kernel) (by decide +kernel), lw_w_at (i := 1049) (by decide +kernel) (by decide +kernel), lw_w_at (i := 1050) (by decide +kernel) (by decide +kernel)⟩
theorem kL_102 : LkV RL 102 mX7_count 1 := ⟨ok_X7_count, lw_w_at (i := 701) (by decide +kernel) (by decide +kernel), lw_w_at (i := 702) (by decide +kernel) (by decide +kernel), lw_w_at (i := 703) (by decide +kernel) (by decide +kernel)⟩
theorem kL_105 : LkV RL 105 mX8_count 1 := ⟨ok_X8_count, lw_w_at (i := 1072) (by decide +kernel) (by decide +kernel), lw_w_at (i := 1073) (by decide +kernel) (by decide +kernel), lw_w_at (i := 1074) (by decide +kernel) (by decide +kernel)⟩
theorem qJ13_314 : Cond.constantLong RJ13 314 (6148914691236517205 : Int64) ∈ lw_w := lw_w_at (i := 408) (by decide +kernel) (by decide +kernel)
theorem qJ13_316 : Cond.constantLong RJ13 316 (3689348814741910323 : Int64) ∈ lw_w := lw_w_at (i := 409) (by decide +kernel) (by decide +kernel)
theorem qJ13_318 : Cond.constantLong RJ13 318 (1085102592571150095 : Int64) ∈ lw_w := lw_w_at (i := 410) (by decide +kernel) (by decide +kernel)
theorem qX4_86 : Cond.constantLong RX4 86 (-1 : Int64) ∈ lw_w := lw_w_at (i := 458) (by decide +kernel) (by decide +kernel)
theorem qJ6_265 : Cond.constant RJ6 265 (1431655765 : Int32) ∈ lw_w := lw_w_at (i := 501) (by decide +kernel) (by decide +kernel)
theorem qJ6_266 : Cond.constant RJ6 266 (858993459 : Int32) ∈ lw_w := lw_w_at (i := 502) (by decide +kernel) (by decide +kernel)
theorem qJ6_267 : Cond.constant RJ6 267 (252645135 : Int32) ∈ lw_w := lw_w_at (i := 503) (by decide +kernel) (by decide +kernel)
theorem qX7_172 : Cond.constantFloat RX7 172 (1120403456 : UInt32) ∈ lw_w := lw_w_at (i := 686) (by decide +kernel) (by decide +kernel)
theorem qX7_201 : Cond.constantFloat RX7 201 (1258291200 : UInt32) ∈ lw_w := lw_w_at (i := 698) (by decide +kernel) (by decide +kernel)
theorem qX7_202 : Cond.constant RX7 202 (8388608 : Int32) ∈ lw_w := lw_w_at (i := 699) (by decide +kernel) (by decide +kernel)
theorem qX7_203 : Cond.constant RX7 203 (-2147483648 : Int32) ∈ lw_w := lw_w_at (i := 700) (by decide +kernel) (by decide +kernel)
theorem qX8_165 : Cond.constantLong RX8 165 (10 : Int64) ∈ lw_w := lw_w_at (i := 813) (by decide +kernel) (by decide +kernel)
theorem qX8_167 : Cond.constantLong RX8 167 (3 : Int64) ∈ lw_w := lw_w_at (i := 817) (by decide +kernel) (by decide +kernel)
theorem qX8_178 : Cond.constantLong RX8 178 (-2 : Int64) ∈ lw_w := lw_w_at (i := 876) (by decide +kernel) (by decide +kernel)
theorem qX8_180 : Cond.constantLong RX8 180 (2 : Int64) ∈ lw_w := lw_w_at (i := 877) (by decide +kernel) (by decide +kernel)
theorem qX8_185 : Cond.constantLong RX8 185 (-3 : Int64) ∈ lw_w := lw_w_at (i := 890) (by decide +kernel) (by decide +kernel)
theorem qX8_193 : Cond.constantLong RX8 193 (50 : Int64) ∈ lw_w := lw_w_at (i := 923) (by decide +kernel) (by decide +kernel)
theorem qX8_128 : Cond.constant RX8 128 (1000000 : Int32) ∈ lw_w := lw_w_at (i := 944) (by decide +kernel) (by decide +kernel)
theorem qX8_124 : Cond.constantLong RX8 124 (-200 : Int64) ∈ lw_w := lw_w_at (i := 1035) (by decide +kernel) (by decide +kernel)
theorem qX8_126 : Cond.constantLong RX8 126 (200 : Int64) ∈ lw_w := lw_w_at (i := 1036) (by decide +kernel) (by decide +kernel)
theorem qX8_238 : Cond.constantLong RX8 238 (100 : Int64) ∈ lw_w := lw_w_at (i := 1052) (by decide +kernel) (by decide +kernel)
theorem qX8_240 : Cond.constantFloat RX8 240 (1120403456 : UInt32) ∈ lw_w := lw_w_at (i := 1053) (by decide +kernel) (by decide +kernel)
theorem qJxf58ca_77 : Cond.constant RJxf58ca 77 (2143289344 : Int32) ∈ lw_w := lw_w_at (i := 1071) (by decide +kernel) (by decide +kernel)
theorem k_obj1 : Cond.instanceMethod Lib.objectInit ∈ lw_w := lw_w_at (i := 88) (by decide +kernel) (by decide +kernel)
theorem k_obj2 : Cond.code Lib.objectInit ⟨#[0xb1]⟩ 1 none ∈ lw_w := lw_w_at (i := 89) (by decide +kernel) (by decide +kernel)
end
section
/-! NUMBERS: the kit's families on lN (pasted), sums, bits counted -/
/-! ===== lN n to 2^64: shifts, and, or, masks, one bit ===== -/
theorem wb_tb (n : Nat) : (lN n).toBitVec = BitVec.ofNat 64 n := rfl
theorem wb_inj {a b : Int64} (h : a.toBitVec = b.toBitVec) : a = b := Int64.toBitVec_inj.mp h
theorem wb_tn {n : Nat} (h : n < 2 ^ 64) : (lN n).toBitVec.toNat = n := by rw [wb_tb, BitVec.toNat_ofNat, Nat.mod_eq_of_lt h]
theorem wb_of (x : Int64) : ∃ n, n < 2 ^ 64 ∧ x = lN n := ⟨x.toBitVec.toNat, x.toBitVec.isLt, wb_inj (by rw [wb_tb]; simp)⟩
theorem wb_of32 (x : Int32) : ∃ n, n < 2 ^ 32 ∧ x = nI n := ⟨x.toBitVec.toNat, x.toBitVec.isLt, Int32.toBitVec_inj.mp (by show _ = BitVec.ofNat 32 _; simp)⟩
theorem wb_c : ∀ k, k < 64 → ((nI k).toInt64 &&& 63) = lN k := by decide +kernel
theorem wb_cu : ∀ k, k < 64 → ((nI k).toInt64.toUInt64 &&& Int64.toUInt64 63) = UInt64.ofNat k := by decide +kernel
theorem wb_sm : ∀ k, k < 64 → (BitVec.ofNat 64 k).smod 64 = BitVec.ofNat 64 k := by decide +kernel
theorem wb_pw {a b : Nat} (h : a ≤ b) : 2 ^ b = 2 ^ a * 2 ^ (b - a) := by rw [← Nat.pow_add]; congr 1; omega
theorem wb_lt2 {a b : Nat} (h : a < b) : 2 ^ a < 2 ^ b := Nat.pow_lt_pow_right (by decide) h
theorem wb_mod (n : Nat) : lN n = lN (n % 2 ^ 64) := wb_inj (by rw [wb_tb, wb_tb]; apply BitVec.eq_of_toNat_eq; rw [BitVec.toNat_ofNat, BitVec.toNat_ofNat, Nat.mod_mod])
theorem wb_shr {n k : Nat} (hn : n < 2 ^ 64) (hk : k < 64) : ((lN n).toUInt64 >>> ((nI k).toInt64.toUInt64 &&& Int64.toUInt64 63)).toInt64 = lN (n / 2 ^ k) := by
  rw [wb_cu k hk]
  apply wb_inj
  apply BitVec.eq_of_toNat_eq
  show ((lN n).toUInt64 >>> UInt64.ofNat k).toNat = (BitVec.ofNat 64 _).toNat
  have h1 : (UInt64.ofNat k).toNat = k := by
    show (BitVec.ofNat 64 k).toNat = k
    rw [BitVec.toNat_ofNat, Nat.mod_eq_of_lt (by omega)]
  have h2 : (lN n).toUInt64.toNat = n := wb_tn hn
  rw [UInt64.toNat_shiftRight, h1, h2, Nat.mod_eq_of_lt hk, Nat.shiftRight_eq_div_pow, BitVec.toNat_ofNat, Nat.mod_eq_of_lt (Nat.lt_of_le_of_lt (Nat.div_le_self _ _) hn)]
theorem wb_shl (n : Nat) {k : Nat} (hk : k < 64) : lN n <<< ((nI k).toInt64 &&& 63) = lN (n * 2 ^ k) := by
  rw [wb_c k hk]
  apply wb_inj
  rw [Int64.toBitVec_shiftLeft, wb_tb, wb_tb, wb_tb, wb_sm k hk]
  apply BitVec.eq_of_toNat_eq
  rw [BitVec.shiftLeft_eq', BitVec.toNat_shiftLeft, BitVec.toNat_ofNat, BitVec.toNat_ofNat, BitVec.toNat_ofNat, Nat.mod_eq_of_lt (show k < 2 ^ 64 by omega), Nat.shiftLeft_eq, Nat.mul_mod, Nat.mod_mod, ← Nat.mul_mod]
theorem wb_and {a b : Nat} (ha : a < 2 ^ 64) (hb : b < 2 ^ 64) : lN a &&& lN b = lN (a &&& b) := by
  apply wb_inj
  rw [Int64.toBitVec_and, wb_tb, wb_tb, wb_tb]
  apply BitVec.eq_of_toNat_eq
  rw [BitVec.toNat_and, BitVec.toNat_ofNat, BitVec.toNat_ofNat, BitVec.toNat_ofNat, Nat.mod_eq_of_lt ha, Nat.mod_eq_of_lt hb, Nat.mod_eq_of_lt (Nat.and_lt_two_pow _ hb)]
theorem wb_or {a b : Nat} (ha : a < 2 ^ 64) (hb : b < 2 ^ 64) : lN a ||| lN b = lN (a ||| b) := by
  apply wb_inj
  rw [Int64.toBitVec_or, wb_tb, wb_tb, wb_tb]
  apply BitVec.eq_of_toNat_eq
  rw [BitVec.toNat_or, BitVec.toNat_ofNat, BitVec.toNat_ofNat, BitVec.toNat_ofNat, Nat.mod_eq_of_lt ha, Nat.mod_eq_of_lt hb, Nat.mod_eq_of_lt (Nat.or_lt_two_pow ha hb)]
theorem wb_mask {n k : Nat} (hn : n < 2 ^ 64) (hk : k < 64) : lN n &&& lN (2 ^ k - 1) = lN (n % 2 ^ k) := by
  rw [wb_and hn (by have := wb_lt2 hk; omega), Nat.and_two_pow_sub_one_eq_mod]
theorem wb_a1 {n : Nat} (hn : n < 2 ^ 64) : lN n &&& 1 = lN (n % 2) := wb_mask (k := 1) hn (by decide)
theorem wb_bit {n k : Nat} (hn : n < 2 ^ 64) (hk : k < 64) : ((lN n).toUInt64 >>> ((nI k).toInt64.toUInt64 &&& Int64.toUInt64 63)).toInt64 &&& 1 = lN (n / 2 ^ k % 2) := by
  rw [wb_shr hn hk, wb_a1 (Nat.lt_of_le_of_lt (Nat.div_le_self _ _) hn)]
theorem wb_xor {q k : Nat} (hk : k < 63) (h : 2 ^ k ≤ q) (h2 : q < 2 ^ (k + 1)) : lN q ^^^ lN (2 ^ k) = lN (q - 2 ^ k) := by
  obtain ⟨r, rfl⟩ : ∃ r, q = 2 ^ k + r := ⟨q - 2 ^ k, by omega⟩
  have hr : r < 2 ^ k := by rw [Nat.pow_succ] at h2; omega
  have hx : (2 ^ k + r) ^^^ 2 ^ k = r := by
    apply Nat.eq_of_testBit_eq
    intro i
    rw [Nat.testBit_xor, Nat.testBit_two_pow]
    rcases Nat.lt_trichotomy i k with h | h | h
    · rw [Nat.testBit_two_pow_add_gt h]
      simp [show ¬ k = i by omega]
    · subst h
      rw [Nat.testBit_two_pow_add_eq]
      simp
    · have a1 : 2 ^ (k + 1) ≤ 2 ^ i := Nat.pow_le_pow_right (by decide) h
      rw [Nat.testBit_lt_two_pow (show 2 ^ k + r < 2 ^ i by omega), Nat.testBit_lt_two_pow (show r < 2 ^ i by omega)]
      simp [show ¬ k = i by omega]
  have b1 := wb_lt2 (show k + 1 < 64 by omega)
  have b2 := wb_lt2 (show k < 64 by omega)
  apply wb_inj
  rw [Int64.toBitVec_xor, wb_tb, wb_tb, wb_tb]
  apply BitVec.eq_of_toNat_eq
  rw [BitVec.toNat_xor, BitVec.toNat_ofNat, BitVec.toNat_ofNat, BitVec.toNat_ofNat, Nat.mod_eq_of_lt (by omega : 2 ^ k + r < 2 ^ 64), Nat.mod_eq_of_lt b2, hx, Nat.add_sub_cancel_left, Nat.mod_eq_of_lt (by omega)]
theorem lN_bv (n : Nat) : (lN n).toBitVec = BitVec.ofNat 64 n := rfl
theorem lN_nat {n : Nat} (h : n < 2 ^ 64) : (lN n).toBitVec.toNat = n := by rw [lN_bv, BitVec.toNat_ofNat]; exact Nat.mod_eq_of_lt h
theorem lN_xor (a b : Nat) : lN a ^^^ lN b = lN (a ^^^ b) := by
  apply Int64.toBitVec_inj.mp; rw [Int64.toBitVec_xor, lN_bv, lN_bv, lN_bv]; apply BitVec.eq_of_getLsbD_eq; intro i hi; simp [BitVec.getLsbD_ofNat, Nat.testBit_xor, hi]
/-! whole numbers as Int32 -/
def iI (z : Int) : Int32 := Int32.ofInt z
def bI (b : Bool) : Int32 := if b then nI 1 else nI 0
theorem iI_nI (n : Nat) : nI n = iI (n : Int) := by
  unfold nI iI
  apply Int32.toBitVec_inj.mp
  simp [Int32.ofNat, Int32.ofInt]
theorem iI_add (a b : Int) : iI a + iI b = iI (a + b) := (Int32.ofInt_add ..).symm
theorem iI_mul (a b : Int) : iI a * iI b = iI (a * b) := (Int32.ofInt_mul ..).symm
theorem iI_neg (a : Int) : -iI a = iI (-a) := (Int32.ofInt_neg ..).symm
theorem iI_sub (a b : Int) : iI a - iI b = iI (a - b) := (Int32.ofInt_sub ..).symm
theorem iI_toInt {z : Int} (h1 : -2147483648 ≤ z) (h2 : z < 2147483648) : (iI z).toInt = z := Int32.toInt_ofInt_of_le (by simpa using h1) (by simpa using h2)
theorem iI_inj {a b : Int} (a1 : -2147483648 ≤ a) (a2 : a < 2147483648) (b1 : -2147483648 ≤ b) (b2 : b < 2147483648) : iI a = iI b ↔ a = b := by
  constructor
  · intro h
    rw [← iI_toInt a1 a2, ← iI_toInt b1 b2, h]
  · intro h; rw [h]
theorem iI_le {a b : Int} (a1 : -2147483648 ≤ a) (a2 : a < 2147483648) (b1 : -2147483648 ≤ b) (b2 : b < 2147483648) : iI a ≤ iI b ↔ a ≤ b := by
  rw [Int32.le_iff_toInt_le, iI_toInt a1 a2, iI_toInt b1 b2]
theorem iI_lt {a b : Int} (a1 : -2147483648 ≤ a) (a2 : a < 2147483648) (b1 : -2147483648 ≤ b) (b2 : b < 2147483648) : iI a < iI b ↔ a < b := by
  rw [Int32.lt_iff_toInt_lt, iI_toInt a1 a2, iI_toInt b1 b2]
theorem iI_of (x : Int32) : x = iI x.toInt := by
  unfold iI; simp
theorem nI_0' : (0 : Int32) = nI 0 := rfl
theorem bI_0 (b : Bool) : bI b = 0 ↔ b = false := by cases b <;> simp [bI] <;> decide
theorem bI_z (b : Bool) : bI b = nI 0 ↔ b = false := bI_0 b
theorem bI_n (b : Bool) : ¬ bI b = 0 ↔ b = true := by cases b <;> simp [bI] <;> decide
/-! sums -/
def sumZ (n : Nat) (f : Nat → Int) : Int := match n with
  | 0 => 0
  | n + 1 => sumZ n f + f n
def sumN (n : Nat) (f : Nat → Nat) : Nat := match n with
  | 0 => 0
  | n + 1 => sumN n f + f n
theorem sumZ_congr {n : Nat} {f g : Nat → Int} (h : ∀ i, i < n → f i = g i) : sumZ n f = sumZ n g := by
  induction n with
  | zero => rfl
  | succ n ih => rw [sumZ, sumZ, ih (fun i hi => h i (by omega)), h n (by omega)]
theorem sumN_congr {n : Nat} {f g : Nat → Nat} (h : ∀ i, i < n → f i = g i) : sumN n f = sumN n g := by
  induction n with
  | zero => rfl
  | succ n ih => rw [sumN, sumN, ih (fun i hi => h i (by omega)), h n (by omega)]
theorem sumZ_add (n : Nat) (f g : Nat → Int) : sumZ n (fun i => f i + g i) = sumZ n f + sumZ n g := by
  induction n with
  | zero => rfl
  | succ n ih => rw [sumZ, sumZ, sumZ, ih]; omega
theorem sumN_add (n : Nat) (f g : Nat → Nat) : sumN n (fun i => f i + g i) = sumN n f + sumN n g := by
  induction n with
  | zero => rfl
  | succ n ih => rw [sumN, sumN, sumN, ih]; omega
theorem sumZ_mul (n : Nat) (k : Int) (f : Nat → Int) : sumZ n (fun i => k * f i) = k * sumZ n f := by
  induction n with
  | zero => simp [sumZ]
  | succ n ih => rw [sumZ, sumZ, ih, Int.mul_add]
theorem sumZ_zero (n : Nat) : sumZ n (fun _ => 0) = 0 := by
  induction n with
  | zero => rfl
  | succ n ih => rw [sumZ, ih]; rfl
theorem sumZ_front (n : Nat) (f : Nat → Int) : sumZ (n + 1) f = f 0 + sumZ n (fun i => f (i + 1)) := by
  induction n with
  | zero => simp [sumZ]
  | succ n ih => rw [sumZ, ih, sumZ]; omega
theorem sumN_front (n : Nat) (f : Nat → Nat) : sumN (n + 1) f = f 0 + sumN n (fun i => f (i + 1)) := by
  induction n with
  | zero => simp [sumN]
  | succ n ih => rw [sumN, ih, sumN]; omega
theorem sumZ_split (a b : Nat) (f : Nat → Int) : sumZ (a + b) f = sumZ a f + sumZ b (fun i => f (a + i)) := by
  induction b with
  | zero => simp [sumZ]
  | succ b ih => rw [← Nat.add_assoc, sumZ, ih, sumZ]; omega
theorem sumN_split (a b : Nat) (f : Nat → Nat) : sumN (a + b) f = sumN a f + sumN b (fun i => f (a + i)) := by
  induction b with
  | zero => simp [sumN]
  | succ b ih => rw [← Nat.add_assoc, sumN, ih, sumN]; omega
theorem sumZ_swap (n m : Nat) (f : Nat → Nat → Int) : sumZ n (fun i => sumZ m (fun j => f i j)) = sumZ m (fun j => sumZ n (fun i => f i j)) := by
  induction n with
  | zero => simp [sumZ, sumZ_zero]
  | succ n ih => rw [sumZ, ih, ← sumZ_add]; rfl
theorem sumZ_le {n : Nat} {f : Nat → Int} {b : Int} (h : ∀ i, i < n → f i ≤ b) : sumZ n f ≤ n * b := by
  induction n with
  | zero => simp [sumZ]
  | succ n ih =>
    have h1 := ih (fun i hi => h i (by omega))
    have h2 := h n (by omega)
    rw [sumZ, Int.natCast_succ, Int.add_mul]; omega
theorem sumZ_ge {n : Nat} {f : Nat → Int} {b : Int} (h : ∀ i, i < n → b ≤ f i) : n * b ≤ sumZ n f := by
  induction n with
  | zero => simp [sumZ]
  | succ n ih =>
    have h1 := ih (fun i hi => h i (by omega))
    have h2 := h n (by omega)
    rw [sumZ, Int.natCast_succ, Int.add_mul]; omega
theorem sumN_cast (n : Nat) (f : Nat → Nat) : ((sumN n f : Nat) : Int) = sumZ n (fun i => (f i : Int)) := by
  induction n with
  | zero => rfl
  | succ n ih => rw [sumN, sumZ, ← ih]; omega
end
section
theorem rv_i {x y : Int32} (h : x = y) : some (Value.int x) = some (Value.int y) := by rw [h]
theorem rv_l {x y : Int64} (h : x = y) : some (Value.long x) = some (Value.long y) := by rw [h]
/-! the bits of a word, counted -/
def pcN (n x : Nat) : Nat := sumN n (fun i => (x.testBit i).toNat)
def ev8 : List Nat → Nat
  | [] => 0
  | b :: l => b + 256 * ev8 l
theorem ev8_and (m k : Nat) (hk : k ≤ 8) (hm : m < 2 ^ (8 - k)) : ∀ l : List Nat, (∀ b ∈ l, b < 256) → (ev8 l / 2 ^ k) &&& ev8 (l.map (fun _ => m)) = ev8 (l.map (fun b => (b / 2 ^ k) &&& m))
  | [], _ => by simp [ev8]
  | b :: l, h => by
    have hb : b < 256 := h b List.mem_cons_self
    have ih := ev8_and m k hk hm l (fun x hx => h x (List.mem_cons_of_mem _ hx))
    have h256 : (256 : Nat) = 2 ^ (8 - k) * 2 ^ k := by rw [← Nat.pow_add, show 8 - k + k = 8 by omega]
    have e1 : ev8 (b :: l) / 2 ^ k = b / 2 ^ k + 2 ^ (8 - k) * ev8 l := by
      show (b + 256 * ev8 l) / 2 ^ k = _
      rw [h256, Nat.mul_assoc, Nat.mul_left_comm, Nat.add_comm, Nat.mul_add_div (Nat.two_pow_pos k), Nat.add_comm]
    have hb2 : b / 2 ^ k < 2 ^ (8 - k) := by
      rw [Nat.div_lt_iff_lt_mul (Nat.two_pow_pos k), ← h256]; exact hb
    have hm2 : m < 256 := Nat.lt_of_lt_of_le hm (by rw [h256]; exact Nat.le_mul_of_pos_right _ (Nat.two_pow_pos k))
    have hlow : (b / 2 ^ k + 2 ^ (8 - k) * ev8 l) % 2 ^ (8 - k) = b / 2 ^ k := by
      rw [Nat.add_mul_mod_self_left, Nat.mod_eq_of_lt hb2]
    have hdiv : (b / 2 ^ k + 2 ^ (8 - k) * ev8 l) / 256 = ev8 l / 2 ^ k := by
      rw [h256, ← Nat.div_div_eq_div_mul, Nat.add_mul_div_left _ _ (Nat.two_pow_pos (8 - k)), Nat.div_eq_of_lt hb2, Nat.zero_add]
    rw [e1]
    show _ &&& (m + 256 * ev8 (l.map (fun _ => m))) = ((b / 2 ^ k) &&& m) + 256 * ev8 (l.map (fun b => (b / 2 ^ k) &&& m))
    rw [← ih, ← hdiv]
    generalize hX : b / 2 ^ k + 2 ^ (8 - k) * ev8 l = X at hlow ⊢
    generalize ev8 (l.map (fun _ => m)) = Y
    rw [← hlow]
    apply Nat.eq_of_testBit_eq
    intro i
    have r1 : X % 2 ^ (8 - k) &&& m < 2 ^ 8 := Nat.and_lt_two_pow _ (by omega)
    have r2 : ((X % 2 ^ (8 - k) &&& m) + 256 * (X / 256 &&& Y)) = 2 ^ 8 * (X / 256 &&& Y) + (X % 2 ^ (8 - k) &&& m) := by omega
    have r3 : m + 256 * Y = 2 ^ 8 * Y + m := by omega
    rw [r2, r3, Nat.testBit_and, Nat.testBit_two_pow_mul_add _ (by omega), Nat.testBit_two_pow_mul_add _ r1]
    by_cases hi : i < 8
    · rw [if_pos hi, if_pos hi, Nat.testBit_and, Nat.testBit_mod_two_pow]
      by_cases hj : i < 8 - k
      · simp [hj]
      · have : m.testBit i = false := Nat.testBit_lt_two_pow (Nat.lt_of_lt_of_le hm (Nat.pow_le_pow_right (by decide) (by omega)))
        simp [this]
    · rw [if_neg hi, if_neg hi, Nat.testBit_and, show (256 : Nat) = 2 ^ 8 from rfl, Nat.testBit_div_two_pow, show i - 8 + 8 = i by omega]
theorem ev8_add (f g : Nat → Nat) : ∀ l : List Nat, ev8 (l.map f) + ev8 (l.map g) = ev8 (l.map (fun b => f b + g b))
  | [] => rfl
  | b :: l => by
    have ih := ev8_add f g l
    simp only [List.map_cons, ev8]
    omega
theorem ev8_le (f g : Nat → Nat) (h : ∀ b, f b ≤ g b) : ∀ l : List Nat, ev8 (l.map f) ≤ ev8 (l.map g)
  | [] => Nat.le_refl _
  | b :: l => by
    have ih := ev8_le f g h l
    have := h b
    simp only [List.map_cons, ev8]
    omega
theorem ev8_sub (f g : Nat → Nat) (h : ∀ b, g b ≤ f b) : ∀ l : List Nat, ev8 (l.map f) - ev8 (l.map g) = ev8 (l.map (fun b => f b - g b))
  | [] => rfl
  | b :: l => by
    have ih := ev8_sub f g h l
    have := h b
    have := ev8_le g f h l
    simp only [List.map_cons, ev8]
    omega
theorem ev8_map (f g : Nat → Nat) : ∀ l : List Nat, (l.map f).map g = l.map (fun b => g (f b)) := fun l => by simp
def pcb1 (b : Nat) : Nat := b - (b / 2 &&& 85)
def pcb2 (b : Nat) : Nat := (b &&& 51) + (b / 4 &&& 51)
def pcb3 (b : Nat) : Nat := b % 16 + b / 16
theorem ev8_nib : ∀ l : List Nat, (∀ b ∈ l, b % 16 ≤ 4 ∧ b / 16 ≤ 4) → (ev8 l + ev8 l / 16) &&& ev8 (l.map (fun _ => 15)) = ev8 (l.map pcb3)
  | [], _ => by simp [ev8]
  | b :: l, h => by
    have hb := h b List.mem_cons_self
    have ih := ev8_nib l (fun x hx => h x (List.mem_cons_of_mem _ hx))
    have hn : ev8 l % 16 ≤ 4 := by
      cases l with
      | nil => simp [ev8]
      | cons c l =>
        have hc := (h c (by simp)).1
        show (c + 256 * ev8 l) % 16 ≤ 4
        omega
    have e : ev8 (b :: l) + ev8 (b :: l) / 16 = 2 ^ 8 * (ev8 l + ev8 l / 16) + (b + b / 16 + 16 * (ev8 l % 16)) := by
      show (b + 256 * ev8 l) + (b + 256 * ev8 l) / 16 = _
      omega
    rw [e]
    show _ &&& (15 + 256 * ev8 (l.map (fun _ => 15))) = pcb3 b + 256 * ev8 (l.map pcb3)
    rw [← ih]
    generalize hX : ev8 l + ev8 l / 16 = X
    generalize ev8 (l.map (fun _ => 15)) = Y
    have e3 : (b + b / 16 + 16 * (ev8 l % 16)) &&& 15 = pcb3 b := by
      rw [show (15 : Nat) = 2 ^ 4 - 1 from rfl, Nat.and_two_pow_sub_one_eq_mod]
      unfold pcb3
      omega
    have r4 : pcb3 b + 256 * (X &&& Y) = 2 ^ 8 * (X &&& Y) + pcb3 b := by omega
    have r5 : 15 + 256 * Y = 2 ^ 8 * Y + 15 := by omega
    have r6 : pcb3 b < 2 ^ 8 := by unfold pcb3; omega
    rw [r4, r5]
    apply Nat.eq_of_testBit_eq
    intro i
    rw [Nat.testBit_and, Nat.testBit_two_pow_mul_add _ (by omega), Nat.testBit_two_pow_mul_add _ (by decide), Nat.testBit_two_pow_mul_add _ r6]
    by_cases hi : i < 8
    · rw [if_pos hi, if_pos hi, if_pos hi, ← Nat.testBit_and, e3]
    · rw [if_neg hi, if_neg hi, if_neg hi, Nat.testBit_and]
theorem pcb_ok : ∀ b, b < 256 → (pcb1 b < 256 ∧ pcb2 (pcb1 b) % 16 ≤ 4 ∧ pcb2 (pcb1 b) / 16 ≤ 4 ∧ pcb3 (pcb2 (pcb1 b)) = pcN 8 b) := by decide +kernel
theorem pcN_split (x : Nat) : ∀ n, pcN (8 + n) x = pcN 8 (x % 256) + pcN n (x / 256) := by
  intro n
  unfold pcN
  rw [sumN_split]
  congr 1
  · refine sumN_congr fun i hi => ?_
    rw [show (256 : Nat) = 2 ^ 8 from rfl, Nat.testBit_mod_two_pow]
    simp [hi]
  · refine sumN_congr fun i _ => ?_
    rw [show (256 : Nat) = 2 ^ 8 from rfl, Nat.testBit_div_two_pow, Nat.add_comm]
def bytes8 : Nat → Nat → List Nat
  | 0, _ => []
  | n + 1, x => x % 256 :: bytes8 n (x / 256)
theorem ev8_bytes : ∀ (n x : Nat), x < 256 ^ n → ev8 (bytes8 n x) = x
  | 0, x, h => by simp at h; subst h; rfl
  | n + 1, x, h => by
    have h2 : x / 256 < 256 ^ n := by
      rw [Nat.div_lt_iff_lt_mul (by decide)]; rw [Nat.pow_succ] at h; exact h
    show x % 256 + 256 * ev8 (bytes8 n (x / 256)) = x
    rw [ev8_bytes n _ h2]; omega
theorem bytes8_lt : ∀ (n x : Nat), ∀ b ∈ bytes8 n x, b < 256
  | 0, x, b, h => by cases h
  | n + 1, x, b, h => by
    rcases List.mem_cons.mp h with rfl | h
    · omega
    · exact bytes8_lt n _ b h
theorem pcN_bytes : ∀ (n x : Nat), pcN (8 * n) x = ((bytes8 n x).map (pcN 8)).sum
  | 0, x => rfl
  | n + 1, x => by
    rw [show 8 * (n + 1) = 8 + 8 * n by omega, pcN_split, pcN_bytes n]
    rfl
/-- what Long.bitCount comes to -/
def pcw (x : Nat) : Nat :=
  let a := x - (x / 2 &&& 6148914691236517205)
  let b := (a &&& 3689348814741910323) + (a / 4 &&& 3689348814741910323)
  let c := (b + b / 16) &&& 1085102592571150095
  let d := c + c / 256
  let e := d + d / 65536
  (e + e / 4294967296) % 128
theorem pcw_st {x : Nat} (hx : x < 2 ^ 64) : ∃ l : List Nat, l.length = 8 ∧ (∀ b ∈ l, b < 256) ∧ x = ev8 l ∧ (l.map (pcN 8)).sum = pcN 64 x ∧ x / 2 &&& 6148914691236517205 ≤ x ∧ x - (x / 2 &&& 6148914691236517205) = ev8 (l.map pcb1) ∧ (ev8 (l.map pcb1) &&& 3689348814741910323) + (ev8 (l.map pcb1) / 4 &&& 3689348814741910323) = ev8 (l.map (fun b => pcb2 (pcb1 b))) ∧ (ev8 (l.map (fun b => pcb2 (pcb1 b))) + ev8 (l.map (fun b => pcb2 (pcb1 b))) / 16) &&& 1085102592571150095 = ev8 (l.map (pcN 8)) := by
  refine ⟨bytes8 8 x, rfl, bytes8_lt 8 x, (ev8_bytes 8 x (by omega)).symm, (pcN_bytes 8 x).symm, ?_⟩
  have hl := bytes8_lt 8 x
  have hlen : (bytes8 8 x).length = 8 := rfl
  have hx8 := (ev8_bytes 8 x (by omega))
  generalize bytes8 8 x = l at hl hlen hx8
  rw [← hx8]
  have m1 : ev8 (l.map (fun _ => 85)) = 6148914691236517205 := by
    match l, hlen with
    | [_, _, _, _, _, _, _, _], _ => simp [ev8]
  have m2 : ∀ l : List Nat, l.length = 8 → ev8 (l.map (fun _ => 51)) = 3689348814741910323 := by
    intro l hl
    match l, hl with
    | [_, _, _, _, _, _, _, _], _ => simp [ev8]
  have m3 : ∀ l : List Nat, l.length = 8 → ev8 (l.map (fun _ => 15)) = 1085102592571150095 := by
    intro l hl
    match l, hl with
    | [_, _, _, _, _, _, _, _], _ => simp [ev8]
  have s1 := ev8_and 85 1 (by decide) (by decide) l hl
  rw [m1] at s1
  have hid : l.map (fun b => b) = l := by simp
  have le1 : ∀ b : Nat, b / 2 ^ 1 &&& 85 ≤ b := fun b => Nat.le_trans Nat.and_le_left (by omega)
  have t1 := ev8_sub (fun b => b) (fun b => b / 2 ^ 1 &&& 85) le1 l
  have u1 := ev8_le (fun b => b / 2 ^ 1 &&& 85) (fun b => b) le1 l
  rw [hid] at t1 u1
  have hl2 : ∀ b ∈ l.map pcb1, b < 256 := fun b hb => by
    obtain ⟨c, hc, rfl⟩ := List.mem_map.mp hb
    exact (pcb_ok c (hl c hc)).1
  have s2 := ev8_and 51 0 (by decide) (by decide) (l.map pcb1) hl2
  have s3 := ev8_and 51 2 (by decide) (by decide) (l.map pcb1) hl2
  rw [m2 _ (by simpa using hlen)] at s2 s3
  refine ⟨?_, ?_, ?_, ?_⟩
  · rw [show (2 : Nat) = 2 ^ 1 from rfl, s1]; exact u1
  · rw [show ev8 l / 2 = ev8 l / 2 ^ 1 from rfl, s1]; exact t1
  · have s2' : ev8 (l.map pcb1) &&& 3689348814741910323 = ev8 ((l.map pcb1).map (fun b => b / 2 ^ 0 &&& 51)) := by rw [← s2]; simp
    rw [s2', show ev8 (l.map pcb1) / 4 = ev8 (l.map pcb1) / 2 ^ 2 from rfl, s3, ev8_add, ev8_map]
    congr 1
    apply List.map_congr_left
    intro b _
    unfold pcb2
    simp
  · have s4 := ev8_nib (l.map (fun b => pcb2 (pcb1 b))) (fun b hb => by
      obtain ⟨c, hc, rfl⟩ := List.mem_map.mp hb
      exact ⟨(pcb_ok c (hl c hc)).2.1, (pcb_ok c (hl c hc)).2.2.1⟩)
    rw [m3 _ (by simpa using hlen)] at s4
    rw [s4, ev8_map]
    congr 1
    apply List.map_congr_left
    intro b hb
    exact (pcb_ok b (hl b hb)).2.2.2
theorem pcN_le (n x : Nat) : pcN n x ≤ n := by
  unfold pcN
  induction n with
  | zero => exact Nat.le_refl _
  | succ n ih =>
    rw [sumN]
    have : (x.testBit n).toNat ≤ 1 := by cases x.testBit n <;> decide
    omega
theorem pc_dv {b B x t : Nat} (h : b < B) (e : x = b + B * t) : x / B = t := by
  rw [e, Nat.add_mul_div_left _ _ (by omega), Nat.div_eq_of_lt h, Nat.zero_add]
theorem pcw_end (l : List Nat) (hl : l.length = 8) (h : ∀ b ∈ l, b ≤ 8) : (ev8 l + ev8 l / 256 + (ev8 l + ev8 l / 256) / 65536 + (ev8 l + ev8 l / 256 + (ev8 l + ev8 l / 256) / 65536) / 4294967296) % 128 = l.sum := by
  match l, hl, h with
  | [c0, c1, c2, c3, c4, c5, c6, c7], _, h =>
    have h0 := h c0 (by simp)
    have h1 := h c1 (by simp)
    have h2 := h c2 (by simp)
    have h3 := h c3 (by simp)
    have h4 := h c4 (by simp)
    have h5 := h c5 (by simp)
    have h6 := h c6 (by simp)
    have h7 := h c7 (by simp)
    clear h
    generalize e8 : ev8 [] = X8
    have e8' : X8 = 0 := e8.symm
    generalize e7 : ev8 [c7] = X7
    have e7' : X7 = c7 + 256 * X8 := by rw [← e7, ← e8]; rfl
    generalize e6 : ev8 [c6, c7] = X6
    have e6' : X6 = c6 + 256 * X7 := by rw [← e6, ← e7]; rfl
    generalize e5 : ev8 [c5, c6, c7] = X5
    have e5' : X5 = c5 + 256 * X6 := by rw [← e5, ← e6]; rfl
    generalize e4 : ev8 [c4, c5, c6, c7] = X4
    have e4' : X4 = c4 + 256 * X5 := by rw [← e4, ← e5]; rfl
    generalize e3 : ev8 [c3, c4, c5, c6, c7] = X3
    have e3' : X3 = c3 + 256 * X4 := by rw [← e3, ← e4]; rfl
    generalize e2 : ev8 [c2, c3, c4, c5, c6, c7] = X2
    have e2' : X2 = c2 + 256 * X3 := by rw [← e2, ← e3]; rfl
    generalize e1 : ev8 [c1, c2, c3, c4, c5, c6, c7] = X1
    have e1' : X1 = c1 + 256 * X2 := by rw [← e1, ← e2]; rfl
    generalize e0 : ev8 [c0, c1, c2, c3, c4, c5, c6, c7] = X0
    have e0' : X0 = c0 + 256 * X1 := by rw [← e0, ← e1]; rfl
    clear e0 e1 e2 e3 e4 e5 e6 e7 e8
    have q1 : X0 / 256 = X1 := pc_dv (b := c0) (by clear e1' e2' e3' e4' e5' e6' e7'; omega) e0'
    rw [q1]
    generalize f4 : X4 + X5 = Y4
    generalize f3 : X3 + X4 = Y3
    generalize f2 : X2 + X3 = Y2
    generalize f1 : X1 + X2 = Y1
    generalize f0 : X0 + X1 = Y0
    generalize f5 : X5 + X6 = Y5
    generalize f6 : X6 + X7 = Y6
    have g0 : Y0 = (c0 + c1) + 256 * Y1 := by clear e2' e3' e4' e5' e6' e7'; omega
    have g1 : Y1 = (c1 + c2) + 256 * Y2 := by clear e0' e3' e4' e5' e6' e7'; omega
    have g2 : Y2 = (c2 + c3) + 256 * Y3 := by clear e0' e1' e4' e5' e6' e7'; omega
    have g3 : Y3 = (c3 + c4) + 256 * Y4 := by clear e0' e1' e2' e5' e6' e7'; omega
    have g4 : Y4 = (c4 + c5) + 256 * Y5 := by clear e0' e1' e2' e3' e6' e7'; omega
    have g5 : Y5 = (c5 + c6) + 256 * Y6 := by clear e0' e1' e2' e3' e4' e7'; omega
    have g6 : Y6 = (c6 + c7) + 256 * c7 := by clear e0' e1' e2' e3' e4' e5'; omega
    clear e0' e1' e2' e3' e4' e5' e6' e7' e8' f0 f1 f2 f3 f4 f5 f6
    have q2 : Y0 / 65536 = Y2 := pc_dv (b := (c0 + c1) + 256 * (c1 + c2)) (by clear g0 g1 g2 g3 g4 g5 g6; omega) (by clear g2 g3 g4 g5 g6; omega)
    rw [q2]
    have z0 : Y0 + Y2 = (c0 + c1 + c2 + c3) + 256 * (Y1 + Y3) := by clear g1 g3 g4 g5 g6; omega
    have z1 : Y1 + Y3 = (c1 + c2 + c3 + c4) + 256 * (Y2 + Y4) := by clear g0 g2 g4 g5 g6; omega
    have z2 : Y2 + Y4 = (c2 + c3 + c4 + c5) + 256 * (Y3 + Y5) := by clear g0 g1 g3 g5 g6; omega
    have z3 : Y3 + Y5 = (c3 + c4 + c5 + c6) + 256 * (Y4 + Y6) := by clear g0 g1 g2 g4 g6; omega
    have z4 : Y4 + Y6 = (c4 + c5 + c6 + c7) + 256 * (Y5 + c7) := by clear g0 g1 g2 g3 g5; omega
    generalize Y0 + Y2 = Z0 at z0 ⊢
    generalize Y1 + Y3 = Z1 at z0 z1
    generalize Y2 + Y4 = Z2 at z1 z2
    generalize Y3 + Y5 = Z3 at z2 z3
    generalize Y4 + Y6 = Z4 at z3 z4
    generalize Y5 + c7 = Z5 at z4
    clear g0 g1 g2 g3 g4 g5 g6 q1 q2
    have q3 : Z0 / 4294967296 = Z4 := pc_dv (b := (c0 + c1 + c2 + c3) + 256 * ((c1 + c2 + c3 + c4) + 256 * ((c2 + c3 + c4 + c5) + 256 * (c3 + c4 + c5 + c6)))) (by clear z0 z1 z2 z3 z4; omega) (by clear z4 h0 h1 h2 h3 h4 h5 h6 h7; omega)
    rw [q3]
    have z : (Z0 + Z4) = (c0 + c1 + c2 + c3 + c4 + c5 + c6 + c7) + 128 * (2 * (Z1 + Z5)) := by clear z1 z2 z3 h0 h1 h2 h3 h4 h5 h6 h7; omega
    rw [z, Nat.add_mul_mod_self_left, Nat.mod_eq_of_lt (by clear z z0 z1 z2 z3 z4; omega)]
    simp only [List.sum_cons, List.sum_nil]
    clear z z0 z1 z2 z3 z4 h0 h1 h2 h3 h4 h5 h6 h7
    omega

theorem pcw_eq {x : Nat} (hx : x < 2 ^ 64) : pcw x = pcN 64 x := by
  obtain ⟨l, h1, h2, h3, h4, h5, h6, h7, h8⟩ := pcw_st hx
  unfold pcw
  dsimp only
  rw [h6, h7, h8]
  have h := pcw_end (l.map (pcN 8)) (by simpa using h1) (fun b hb => by
    obtain ⟨c, -, rfl⟩ := List.mem_map.mp hb
    exact pcN_le 8 c)
  rw [← h4]
  exact h

theorem pc_sh {x k : Nat} (hx : x < 2 ^ 64) (hk : k < 64) (y : Nat) (hy : y = x / 2 ^ k) : ((lN x).toUInt64 >>> ((nI k).toInt64.toUInt64 &&& Int64.toUInt64 63)).toInt64 = lN y := by rw [wb_shr hx hk, hy]
theorem pc_a {x : Nat} (hx : x < 2 ^ 64) (h : x / 2 &&& 6148914691236517205 ≤ x) : lN x - (((lN x).toUInt64 >>> ((nI 1).toInt64.toUInt64 &&& Int64.toUInt64 63)).toInt64 &&& 6148914691236517205) = lN (x - (x / 2 &&& 6148914691236517205)) := by
  rw [pc_sh hx (by decide) (x / 2) rfl, show (6148914691236517205 : Int64) = lN 6148914691236517205 from rfl, wb_and (by omega) (by decide), lN_sub h]
theorem pc_b {x : Nat} (hx : x < 2 ^ 64) : (lN x &&& 3689348814741910323) + (((lN x).toUInt64 >>> ((nI 2).toInt64.toUInt64 &&& Int64.toUInt64 63)).toInt64 &&& 3689348814741910323) = lN ((x &&& 3689348814741910323) + (x / 4 &&& 3689348814741910323)) := by
  rw [pc_sh hx (by decide) (x / 4) rfl, show (3689348814741910323 : Int64) = lN 3689348814741910323 from rfl, wb_and (by omega) (by decide), wb_and (by omega) (by decide), lN_add]
theorem pc_c {x : Nat} (hx : x < 2 ^ 63) : (lN x + ((lN x).toUInt64 >>> ((nI 4).toInt64.toUInt64 &&& Int64.toUInt64 63)).toInt64) &&& 1085102592571150095 = lN ((x + x / 16) &&& 1085102592571150095) := by
  rw [pc_sh (by omega) (by decide) (x / 16) rfl, show (1085102592571150095 : Int64) = lN 1085102592571150095 from rfl, lN_add, wb_and (by omega) (by decide)]
theorem pc_d {x k : Nat} (hx : x < 2 ^ 64) (hk : k < 64) : lN x + ((lN x).toUInt64 >>> ((nI k).toInt64.toUInt64 &&& Int64.toUInt64 63)).toInt64 = lN (x + x / 2 ^ k) := by
  rw [pc_sh hx hk (x / 2 ^ k) rfl, lN_add]
theorem nI_and (a b : Nat) : nI a &&& nI b = nI (a &&& b) := by
  apply Int32.toBitVec_inj.mp
  show BitVec.ofNat 32 a &&& BitVec.ofNat 32 b = BitVec.ofNat 32 (a &&& b)
  apply BitVec.eq_of_getLsbD_eq
  intro i hi
  simp [BitVec.getLsbD_ofNat, Nat.testBit_and, hi]
theorem pc_f (x : Nat) : (lN x).toInt32 &&& nI 127 = nI (x % 128) := by
  rw [lN_i, nI_and, show (127 : Nat) = 2 ^ 7 - 1 from rfl, Nat.and_two_pow_sub_one_eq_mod]
theorem pc_m1 (x : Nat) : x &&& 3689348814741910323 < 2 ^ 62 := Nat.lt_of_le_of_lt Nat.and_le_right (by decide)
theorem pc_m2 (x : Nat) : x &&& 1085102592571150095 < 2 ^ 60 := Nat.lt_of_le_of_lt Nat.and_le_right (by decide)

set_option maxRecDepth 100000 in
set_option maxHeartbeats 4000000 in
theorem t_bitCount {n : Nat} {σ : Sto} (x : Nat) (hx : x < 2 ^ 64) : CD mJ13_bitCount_95d88 [.long (lN x)] n σ (some (.int (nI (pcN 64 x)))) σ := by
  obtain ⟨-, -, -, -, -, g1, -⟩ := pcw_st hx
  generalize ha : x - (x / 2 &&& 6148914691236517205) = a
  generalize hb : (a &&& 3689348814741910323) + (a / 4 &&& 3689348814741910323) = b
  generalize hc : (b + b / 16) &&& 1085102592571150095 = c
  have a1 : a < 2 ^ 64 := by omega
  have b1 : b < 2 ^ 63 := by have := pc_m1 a; have := pc_m1 (a / 4); omega
  have c1 : c < 2 ^ 60 := by rw [← hc]; exact pc_m2 _
  refine CP_of (by decide +kernel) (Nat.le_of_ble_eq_true rfl) ?_
  change PW _ _ _ _ 0 [_, _] [] _ _ _ _
  refine P_lload_n (q := 1) dJ13_bitCount_95d88_0 rfl rfl ?_
  refine P_lload_n (q := 2) dJ13_bitCount_95d88_1 rfl rfl ?_
  refine P_iconst (q := 3) (v := nI 1) dJ13_bitCount_95d88_2 rfl (by decide +kernel) ?_
  refine P_lushr (q := 4) dJ13_bitCount_95d88_3 rfl ?_
  refine P_ldc2 (q := 7) dJ13_bitCount_95d88_4 rfl qJ13_314 ?_
  refine P_land (q := 8) dJ13_bitCount_95d88_7 rfl ?_
  refine P_lsub (q := 9) dJ13_bitCount_95d88_8 rfl ?_
  rw [pc_a hx g1, ha]
  refine P_lstore_n (q := 10) (L' := [_, _]) dJ13_bitCount_95d88_9 rfl (by decide) rfl ?_
  refine P_lload_n (q := 11) dJ13_bitCount_95d88_10 rfl rfl ?_
  refine P_ldc2 (q := 14) dJ13_bitCount_95d88_11 rfl qJ13_316 ?_
  refine P_land (q := 15) dJ13_bitCount_95d88_14 rfl ?_
  refine P_lload_n (q := 16) dJ13_bitCount_95d88_15 rfl rfl ?_
  refine P_iconst (q := 17) (v := nI 2) dJ13_bitCount_95d88_16 rfl (by decide +kernel) ?_
  refine P_lushr (q := 18) dJ13_bitCount_95d88_17 rfl ?_
  refine P_ldc2 (q := 21) dJ13_bitCount_95d88_18 rfl qJ13_316 ?_
  refine P_land (q := 22) dJ13_bitCount_95d88_21 rfl ?_
  refine P_ladd (q := 23) dJ13_bitCount_95d88_22 rfl ?_
  rw [pc_b a1, hb]
  refine P_lstore_n (q := 24) (L' := [_, _]) dJ13_bitCount_95d88_23 rfl (by decide) rfl ?_
  refine P_lload_n (q := 25) dJ13_bitCount_95d88_24 rfl rfl ?_
  refine P_lload_n (q := 26) dJ13_bitCount_95d88_25 rfl rfl ?_
  refine P_iconst (q := 27) (v := nI 4) dJ13_bitCount_95d88_26 rfl (by decide +kernel) ?_
  refine P_lushr (q := 28) dJ13_bitCount_95d88_27 rfl ?_
  refine P_ladd (q := 29) dJ13_bitCount_95d88_28 rfl ?_
  refine P_ldc2 (q := 32) dJ13_bitCount_95d88_29 rfl qJ13_318 ?_
  refine P_land (q := 33) dJ13_bitCount_95d88_32 rfl ?_
  rw [pc_c b1, hc]
  refine P_lstore_n (q := 34) (L' := [_, _]) dJ13_bitCount_95d88_33 rfl (by decide) rfl ?_
  refine P_lload_n (q := 35) dJ13_bitCount_95d88_34 rfl rfl ?_
  refine P_lload_n (q := 36) dJ13_bitCount_95d88_35 rfl rfl ?_
  refine P_bipush (q := 38) (v := nI 8) dJ13_bitCount_95d88_36 rfl (by decide +kernel) ?_
  refine P_lushr (q := 39) dJ13_bitCount_95d88_38 rfl ?_
  refine P_ladd (q := 40) dJ13_bitCount_95d88_39 rfl ?_
  rw [pc_d (x := c) (k := 8) (by omega) (by decide)]
  refine P_lstore_n (q := 41) (L' := [_, _]) dJ13_bitCount_95d88_40 rfl (by decide) rfl ?_
  refine P_lload_n (q := 42) dJ13_bitCount_95d88_41 rfl rfl ?_
  refine P_lload_n (q := 43) dJ13_bitCount_95d88_42 rfl rfl ?_
  refine P_bipush (q := 45) (v := nI 16) dJ13_bitCount_95d88_43 rfl (by decide +kernel) ?_
  refine P_lushr (q := 46) dJ13_bitCount_95d88_45 rfl ?_
  refine P_ladd (q := 47) dJ13_bitCount_95d88_46 rfl ?_
  rw [pc_d (k := 16) (by omega) (by decide)]
  refine P_lstore_n (q := 48) (L' := [_, _]) dJ13_bitCount_95d88_47 rfl (by decide) rfl ?_
  refine P_lload_n (q := 49) dJ13_bitCount_95d88_48 rfl rfl ?_
  refine P_lload_n (q := 50) dJ13_bitCount_95d88_49 rfl rfl ?_
  refine P_bipush (q := 52) (v := nI 32) dJ13_bitCount_95d88_50 rfl (by decide +kernel) ?_
  refine P_lushr (q := 53) dJ13_bitCount_95d88_52 rfl ?_
  refine P_ladd (q := 54) dJ13_bitCount_95d88_53 rfl ?_
  rw [pc_d (k := 32) (by omega) (by decide)]
  refine P_lstore_n (q := 55) (L' := [_, _]) dJ13_bitCount_95d88_54 rfl (by decide) rfl ?_
  refine P_lload_n (q := 56) dJ13_bitCount_95d88_55 rfl rfl ?_
  refine P_l2i (q := 57) dJ13_bitCount_95d88_56 rfl ?_
  refine P_bipush (q := 59) (v := nI 127) dJ13_bitCount_95d88_57 rfl (by decide +kernel) ?_
  refine P_iand (q := 60) dJ13_bitCount_95d88_59 rfl ?_
  refine P_iret dJ13_bitCount_95d88_60 rfl (rfl) ?_
  refine ⟨rv_i ?_, rfl⟩
  rw [pc_f, ← pcw_eq hx]
  unfold pcw
  dsimp only
  rw [ha, hb, hc]
end
section
/-! the JDK's own methods: abs, min, bitCount of small ints, fill -/
theorem up_up {α : Type} (f : Nat → α) (k : Nat) (x y : α) : va_up (va_up f k x) k y = va_up f k y := by
  funext j; unfold va_up; by_cases h : j = k <;> simp [h]
theorem up_self {α : Type} {f : Nat → α} {k : Nat} {x : α} (h : f k = x) : va_up f k x = f := by
  funext j; unfold va_up; by_cases hj : j = k
  · rw [if_pos hj, hj, h]
  · rw [if_neg hj]
theorem up_at {α : Type} (f : Nat → α) (k : Nat) (x : α) : va_up f k x k = x := by unfold va_up; rw [if_pos rfl]
theorem up_ne {α : Type} (f : Nat → α) {k j : Nat} (x : α) (h : j ≠ k) : va_up f k x j = f j := by unfold va_up; rw [if_neg h]
theorem up_swap {α : Type} (f : Nat → α) {k j : Nat} (x y : α) (h : j ≠ k) : va_up (va_up f k x) j y = va_up (va_up f j y) k x := by
  funext i; unfold va_up; by_cases h1 : i = j <;> by_cases h2 : i = k <;> simp_all
section PWM
variable {M : Mth} {mc ms : Nat} {Q : Option Value → Sto → Prop} {pc q n cs sl : Nat} {L : List (Option Value)} {S : List Value} {σ : Sto}
theorem P_mabs {idx : Nat} {x : Int32} (d : decode M.2.1 pc = .ok (.invokestatic idx, 3)) (hq : pc + 3 = q) (hl : LkS M.1.cls idx mJ9_abs_0f7a4 1) (hd : 1 ≤ M.2.2.2.2) (hsum : (S.map fun v => v.category).sum ≤ 8) (hc : cs ≤ mc ∧ sl ≤ ms) (kk : PW M mc ms Q q L (.int (if 0 ≤ x then x else 0 - x) :: S) n σ cs sl) : PW M mc ms Q pc L (.int x :: S) n σ cs sl := by
  subst hq
  intro p l e s m args below meth c D aC h0 H locs ls hC hh hz hW hS hL
  obtain ⟨⟨h1, h2, -⟩, h3, h4⟩ := hl
  exact va_mabs hC.1 hC.2.1 (hC.2.2.1.trans hL.1.symm) hC.2.2.2.1 (hC.2.2.2.2.1 _ h3) (hC.2.2.2.2.1 _ h4) (hC.2.2.2.2.1 _ h2) (hC.2.2.2.2.1 _ h1) (by show 1 ≤ M.2.2.2.2; exact hd) (by show _ ≤ 37 * M.2.2.2.2; rw [pw_map_cat]; omega) (by show cs ≤ mc; exact hc.1) (by show sl ≤ ms; exact hc.2) d (kk p l e s m args below meth c D aC h0 H locs ls hC hh hz hW hS hL)
theorem P_mmin {idx : Nat} {x y : Int32} (d : decode M.2.1 pc = .ok (.invokestatic idx, 3)) (hq : pc + 3 = q) (hl : LkS M.1.cls idx mJ9_min_7cf53 2) (hd : 1 ≤ M.2.2.2.2) (hsum : (S.map fun v => v.category).sum ≤ 8) (hc : cs ≤ mc ∧ sl ≤ ms) (kk : PW M mc ms Q q L (.int (if y < x then y else x) :: S) n σ cs sl) : PW M mc ms Q pc L (.int y :: .int x :: S) n σ cs sl := by
  subst hq
  intro p l e s m args below meth c D aC h0 H locs ls hC hh hz hW hS hL
  obtain ⟨⟨h1, h2, -⟩, h3, h4⟩ := hl
  exact va_mmin hC.1 hC.2.1 (hC.2.2.1.trans hL.1.symm) hC.2.2.2.1 (hC.2.2.2.2.1 _ h3) (hC.2.2.2.2.1 _ h4) (hC.2.2.2.2.1 _ h2) (hC.2.2.2.2.1 _ h1) (by show 1 ≤ M.2.2.2.2; exact hd) (by show _ ≤ 37 * M.2.2.2.2; rw [pw_map_cat]; omega) (by show cs ≤ mc; exact hc.1) (by show sl ≤ ms; exact hc.2) d (kk p l e s m args below meth c D aC h0 H locs ls hC hh hz hW hS hL)
end PWM
theorem abs_i {z : Int} (h1 : -1000 ≤ z) (h2 : z ≤ 1000) : (if 0 ≤ iI z then iI z else 0 - iI z) = nI z.natAbs := by
  rw [iI_nI]
  have e : (0 ≤ iI z) ↔ 0 ≤ z := iI_le (a := 0) (by omega) (by omega) (by omega) (by omega)
  by_cases h : 0 ≤ z
  · rw [if_pos (e.mpr h)]; congr 1; omega
  · rw [if_neg (fun q => h (e.mp q)), show (0 : Int32) = iI 0 from rfl, iI_sub]; congr 1; omega
theorem min_n {a b : Nat} (h1 : a < 2 ^ 31) (h2 : b < 2 ^ 31) : (if nI b < nI a then nI b else nI a) = nI (min a b) := by
  have e := nI_ltI h2 h1
  by_cases h : b < a
  · rw [if_pos (e.mpr h), Nat.min_eq_right (Nat.le_of_lt h)]
  · rw [if_neg (fun q => h (e.mp q)), Nat.min_eq_left (by omega)]

theorem bc_small : ∀ x, x < 8 → (let a := nI x - (((nI x).toUInt32 >>> ((nI 1).toUInt32 &&& Int32.toUInt32 31)).toInt32 &&& 1431655765); let b := (a &&& 858993459) + (((a).toUInt32 >>> ((nI 2).toUInt32 &&& Int32.toUInt32 31)).toInt32 &&& 858993459); let c := (b + ((b).toUInt32 >>> ((nI 4).toUInt32 &&& Int32.toUInt32 31)).toInt32) &&& 252645135; let d := c + ((c).toUInt32 >>> ((nI 8).toUInt32 &&& Int32.toUInt32 31)).toInt32; let e := d + ((d).toUInt32 >>> ((nI 16).toUInt32 &&& Int32.toUInt32 31)).toInt32; e &&& nI 63) = nI (pcN 3 x) := by decide +kernel
set_option maxRecDepth 100000 in
set_option maxHeartbeats 4000000 in
theorem t_bc32 {n : Nat} {σ : Sto} (x : Nat) (hx : x < 8) : CD mJ6_bitCount_0f7a4 [.int (nI x)] n σ (some (.int (nI (pcN 3 x)))) σ := by
  refine CP_of (by decide +kernel) (Nat.le_of_ble_eq_true rfl) ?_
  change PW _ _ _ _ 0 [_] [] _ _ _ _
  refine P_iload_n (q := 1) dJ6_bitCount_0f7a4_0 rfl rfl ?_
  refine P_iload_n (q := 2) dJ6_bitCount_0f7a4_1 rfl rfl ?_
  refine P_iconst (q := 3) (v := nI 1) dJ6_bitCount_0f7a4_2 rfl (by decide +kernel) ?_
  refine P_iushr (q := 4) dJ6_bitCount_0f7a4_3 rfl ?_
  refine P_ldcw (q := 7) dJ6_bitCount_0f7a4_4 rfl qJ6_265 ?_
  refine P_iand (q := 8) dJ6_bitCount_0f7a4_7 rfl ?_
  refine P_isub (q := 9) dJ6_bitCount_0f7a4_8 rfl ?_
  refine P_istore_n (q := 10) (L' := [_]) dJ6_bitCount_0f7a4_9 rfl (by decide) rfl ?_
  refine P_iload_n (q := 11) dJ6_bitCount_0f7a4_10 rfl rfl ?_
  refine P_ldcw (q := 14) dJ6_bitCount_0f7a4_11 rfl qJ6_266 ?_
  refine P_iand (q := 15) dJ6_bitCount_0f7a4_14 rfl ?_
  refine P_iload_n (q := 16) dJ6_bitCount_0f7a4_15 rfl rfl ?_
  refine P_iconst (q := 17) (v := nI 2) dJ6_bitCount_0f7a4_16 rfl (by decide +kernel) ?_
  refine P_iushr (q := 18) dJ6_bitCount_0f7a4_17 rfl ?_
  refine P_ldcw (q := 21) dJ6_bitCount_0f7a4_18 rfl qJ6_266 ?_
  refine P_iand (q := 22) dJ6_bitCount_0f7a4_21 rfl ?_
  refine P_iadd (q := 23) dJ6_bitCount_0f7a4_22 rfl ?_
  refine P_istore_n (q := 24) (L' := [_]) dJ6_bitCount_0f7a4_23 rfl (by decide) rfl ?_
  refine P_iload_n (q := 25) dJ6_bitCount_0f7a4_24 rfl rfl ?_
  refine P_iload_n (q := 26) dJ6_bitCount_0f7a4_25 rfl rfl ?_
  refine P_iconst (q := 27) (v := nI 4) dJ6_bitCount_0f7a4_26 rfl (by decide +kernel) ?_
  refine P_iushr (q := 28) dJ6_bitCount_0f7a4_27 rfl ?_
  refine P_iadd (q := 29) dJ6_bitCount_0f7a4_28 rfl ?_
  refine P_ldcw (q := 32) dJ6_bitCount_0f7a4_29 rfl qJ6_267 ?_
  refine P_iand (q := 33) dJ6_bitCount_0f7a4_32 rfl ?_
  refine P_istore_n (q := 34) (L' := [_]) dJ6_bitCount_0f7a4_33 rfl (by decide) rfl ?_
  refine P_iload_n (q := 35) dJ6_bitCount_0f7a4_34 rfl rfl ?_
  refine P_iload_n (q := 36) dJ6_bitCount_0f7a4_35 rfl rfl ?_
  refine P_bipush (q := 38) (v := nI 8) dJ6_bitCount_0f7a4_36 rfl (by decide +kernel) ?_
  refine P_iushr (q := 39) dJ6_bitCount_0f7a4_38 rfl ?_
  refine P_iadd (q := 40) dJ6_bitCount_0f7a4_39 rfl ?_
  refine P_istore_n (q := 41) (L' := [_]) dJ6_bitCount_0f7a4_40 rfl (by decide) rfl ?_
  refine P_iload_n (q := 42) dJ6_bitCount_0f7a4_41 rfl rfl ?_
  refine P_iload_n (q := 43) dJ6_bitCount_0f7a4_42 rfl rfl ?_
  refine P_bipush (q := 45) (v := nI 16) dJ6_bitCount_0f7a4_43 rfl (by decide +kernel) ?_
  refine P_iushr (q := 46) dJ6_bitCount_0f7a4_45 rfl ?_
  refine P_iadd (q := 47) dJ6_bitCount_0f7a4_46 rfl ?_
  refine P_istore_n (q := 48) (L' := [_]) dJ6_bitCount_0f7a4_47 rfl (by decide) rfl ?_
  refine P_iload_n (q := 49) dJ6_bitCount_0f7a4_48 rfl rfl ?_
  refine P_bipush (q := 51) (v := nI 63) dJ6_bitCount_0f7a4_49 rfl (by decide +kernel) ?_
  refine P_iand (q := 52) dJ6_bitCount_0f7a4_51 rfl ?_
  refine P_iret dJ6_bitCount_0f7a4_52 rfl (rfl) ?_
  exact ⟨rv_i (bc_small x hx), rfl⟩
def flV (N : Nat) (v : Int32) (f : Nat → Int32) (i : Nat) : Nat → Int32 := fun j => if j < i then v else f j
theorem flV_succ (N : Nat) (v : Int32) (f : Nat → Int32) (i : Nat) : upd (flV N v f i) i v = flV N v f (i + 1) := by
  funext j
  unfold upd flV
  by_cases h : j = i
  · subst h; simp
  · have e : (j < i) = (j < i + 1) := by apply propext; omega
    simp only [h, e, if_false]
set_option maxRecDepth 100000 in
set_option maxHeartbeats 4000000 in
theorem w_fill {σ : Sto} {a N : Nat} {f : Nat → Int32} {v : Int32} (ha : a < 132) (hN : N < 2 ^ 31) : ∀ k i, i + k = N → PW mJ7_fill_53178 0 0 (fun r σ' => r = none ∧ σ' = va_up σ a (pI .int N (flV N v f N))) 5 [some (.ref a), some (.int v), some (.int (nI i)), some (.int (nI N))] [] 132 (va_up σ a (pI .int N (flV N v f i))) 0 0 := by
  intro k
  induction k with
  | zero =>
    intro i hi
    refine P_iload_n (q := 6) dJ7_fill_53178_5 rfl rfl ?_
    refine P_iload_n (q := 7) dJ7_fill_53178_6 rfl rfl ?_
    refine P_icmp_ge (q := 10) (tgt := 20) dJ7_fill_53178_7 rfl (by decide) (fun c_7 => ?_) (fun c_7 => ?_)
    · rw [nI_leI (by omega) (by omega)] at c_7
      refine P_vret dJ7_fill_53178_20 rfl ?_
      exact ⟨rfl, by rw [show i = N by omega]⟩
    · exfalso; rw [nI_leI (by omega) (by omega)] at c_7; omega
  | succ k ih =>
    intro i hi
    refine P_iload_n (q := 6) dJ7_fill_53178_5 rfl rfl ?_
    refine P_iload_n (q := 7) dJ7_fill_53178_6 rfl rfl ?_
    refine P_icmp_ge (q := 10) (tgt := 20) dJ7_fill_53178_7 rfl (by decide) (fun c_7 => ?_) (fun c_7 => ?_)
    · exfalso; rw [nI_leI (by omega) (by omega)] at c_7; omega
    · rw [nI_leI (by omega) (by omega)] at c_7
      refine P_aload_n (q := 11) dJ7_fill_53178_10 rfl rfl ?_
      refine P_iload_n (q := 12) dJ7_fill_53178_11 rfl rfl ?_
      refine P_iload_n (q := 13) dJ7_fill_53178_12 rfl rfl ?_
      refine P_iast (q := 14) (j := i) (f' := flV N v f (i + 1)) (σ' := va_up σ a (pI .int N (flV N v f (i + 1)))) dJ7_fill_53178_13 rfl (ha) (up_at _ _ _) (rfl) (by omega) (hN) (flV_succ _ _ _ _) (up_up _ _ _ _) ?_
      refine P_iinc (q := 17) (L' := [_, _, _, _]) (v := nI (i + 1)) dJ7_fill_53178_14 rfl (by decide) rfl (nI_1 i) rfl ?_
      refine P_goto (tgt := 5) dJ7_fill_53178_17 (by decide) ?_
      exact ih (i + 1) (by omega)
set_option maxRecDepth 100000 in
set_option maxHeartbeats 4000000 in
theorem t_fill {σ : Sto} {a N : Nat} {f : Nat → Int32} (v : Int32) (ha : a < 132) (hN : N < 2 ^ 31) (hσ : σ a = pI .int N f) : CD mJ7_fill_53178 [.ref a, .int v] 132 σ none (va_up σ a (pI .int N (flV N v f N))) := by
  refine CP_of (by decide +kernel) (Nat.le_of_ble_eq_true rfl) ?_
  change PW _ _ _ _ 0 [_, _, _, _] [] _ _ _ _
  refine P_iconst (q := 1) (v := nI 0) dJ7_fill_53178_0 rfl (by decide +kernel) ?_
  refine P_istore_n (q := 2) (L' := [_, _, _, _]) dJ7_fill_53178_1 rfl (by decide) rfl ?_
  refine P_aload_n (q := 3) dJ7_fill_53178_2 rfl rfl ?_
  refine P_ilen (q := 4) 0 (fun _ => rfl) dJ7_fill_53178_3 rfl (ha) (hσ) ?_
  refine P_istore_n (q := 5) (L' := [_, _, _, _]) dJ7_fill_53178_4 rfl (by decide) rfl ?_
  have h := w_fill (σ := σ) (f := f) (v := v) ha hN N 0 (by omega)
  rw [show va_up σ a (pI .int N (flV N v f 0)) = σ from up_self (by rw [hσ]; congr 1)] at h
  exact h
end
section
/-! A STATE OF THE STRIP, as numbers: columns, rows, ring (0, 1), pull along, pull across, the spins of each column as bits, the fields by column and row, the count of turned cells -/
abbrev St : Type := Nat × Nat × Nat × Int × Int × (Nat → Nat) × (Nat → Nat → Int) × Int32
def St.C (A : St) : Nat := A.1
def St.R (A : St) : Nat := A.2.1
def St.g (A : St) : Nat := A.2.2.1
def St.al (A : St) : Int := A.2.2.2.1
def St.ac (A : St) : Int := A.2.2.2.2.1
def St.sp (A : St) : Nat → Nat := A.2.2.2.2.2.1
def St.fd (A : St) : Nat → Nat → Int := A.2.2.2.2.2.2.1
def St.tu (A : St) : Int32 := A.2.2.2.2.2.2.2
def St.ok (A : St) : Prop := (1 ≤ A.C ∧ A.C ≤ 10) ∧ (1 ≤ A.R ∧ A.R ≤ 3) ∧ A.g ≤ 1 ∧ (-2 ≤ A.al ∧ A.al ≤ 2) ∧ (-2 ≤ A.ac ∧ A.ac ≤ 2) ∧ (∀ c, A.sp c < 2 ^ A.R) ∧ (∀ c, A.C ≤ c → A.sp c = 0) ∧ ∀ c r, -3 ≤ A.fd c r ∧ A.fd c r ≤ 3
/-- the last column and the first one are neighbours -/
def St.lp (A : St) : Bool := decide (A.g = 1 ∧ 3 ≤ A.C)
/-- a spin -/
def St.s (A : St) (c r : Nat) : Int := if (A.sp c).testBit r then 1 else -1
def St.prv (A : St) (c : Nat) : Option Nat := if 0 < c then some (c - 1) else if A.lp then some (A.C - 1) else none
def St.nxt (A : St) (c : Nat) : Option Nat := if c + 1 < A.C then some (c + 1) else if A.lp then some 0 else none
/-- what a column's neighbours along, across add up to -/
def St.so (A : St) (o : Option Nat) (r : Nat) : Int := match o with
  | none => 0
  | some c => A.s c r
def St.sA (A : St) (c r : Nat) : Int := A.so (A.prv c) r + A.so (A.nxt c) r
def St.sX (A : St) (c r : Nat) : Int := (if 0 < r then A.s c (r - 1) else 0) + (if r + 1 < A.R then A.s c (r + 1) else 0)
def St.gain (A : St) (c r : Nat) : Int := -2 * A.s c r * (A.al * A.sA c r + A.ac * A.sX c r + A.fd c r)
theorem St.s_pm (A : St) (c r : Nat) : A.s c r = 1 ∨ A.s c r = -1 := by unfold St.s; split <;> simp
theorem St.so_in (A : St) (o : Option Nat) (r : Nat) : -1 ≤ A.so o r ∧ A.so o r ≤ 1 := by
  cases o with
  | none => simp [St.so]
  | some c => rcases A.s_pm c r with h | h <;> simp [St.so, h]
theorem St.sA_in (A : St) (c r : Nat) : -2 ≤ A.sA c r ∧ A.sA c r ≤ 2 := by
  have h1 := A.so_in (A.prv c) r
  have h2 := A.so_in (A.nxt c) r
  unfold St.sA; omega
theorem St.sX_in (A : St) (c r : Nat) : -2 ≤ A.sX c r ∧ A.sX c r ≤ 2 := by
  have h1 := A.s_pm c (r - 1)
  have h2 := A.s_pm c (r + 1)
  unfold St.sX; split <;> split <;> omega
theorem mul_in {a b A B : Int} (h1 : -A ≤ a) (h2 : a ≤ A) (h3 : -B ≤ b) (h4 : b ≤ B) : -(A * B) ≤ a * b ∧ a * b ≤ A * B := by
  have hA : 0 ≤ A := by omega
  have hB : 0 ≤ B := by omega
  have e : (a * b).natAbs ≤ (A * B).natAbs := by
    rw [Int.natAbs_mul, Int.natAbs_mul]
    exact Nat.mul_le_mul (by omega) (by omega)
  have h0 : 0 ≤ A * B := Int.mul_nonneg hA hB
  omega
theorem St.pull_in {A : St} (h : A.ok) (c r : Nat) : -11 ≤ A.al * A.sA c r + A.ac * A.sX c r + A.fd c r ∧ A.al * A.sA c r + A.ac * A.sX c r + A.fd c r ≤ 11 := by
  obtain ⟨-, -, -, h1, h2, -, -, h3⟩ := h
  have a1 := mul_in (A := 2) (B := 2) h1.1 h1.2 (A.sA_in c r).1 (A.sA_in c r).2
  have a2 := mul_in (A := 2) (B := 2) h2.1 h2.2 (A.sX_in c r).1 (A.sX_in c r).2
  have a3 := h3 c r
  omega
theorem St.gain_in {A : St} (h : A.ok) (c r : Nat) : -22 ≤ A.gain c r ∧ A.gain c r ≤ 22 := by
  have h1 := A.pull_in h c r
  rcases A.s_pm c r with e | e <;> (unfold St.gain; rw [e]; omega)
/-! the bits -/
def upsN (sp : Nat → Nat) (n : Nat) : Nat := sumN n (fun c => sp c * 16 ^ c)
def mskN (C R : Nat) : Nat := upsN (fun _ => 2 ^ R - 1) C
theorem upsN_succ (sp : Nat → Nat) (n : Nat) : upsN sp (n + 1) = 2 ^ (4 * n) * sp n + upsN sp n := by
  show sumN n _ + sp n * 16 ^ n = _
  rw [Nat.pow_mul, Nat.add_comm, Nat.mul_comm (sp n)]; rfl
theorem upsN_lt {sp : Nat → Nat} (h : ∀ c, sp c < 16) : ∀ n, upsN sp n < 2 ^ (4 * n)
  | 0 => by simp [upsN, sumN]
  | n + 1 => by
    rw [upsN_succ]
    have h1 := upsN_lt h n
    have h2 := h n
    have e : 2 ^ (4 * (n + 1)) = 2 ^ (4 * n) * 16 := by rw [Nat.mul_add, Nat.pow_add]
    rw [e]
    have h3 : 2 ^ (4 * n) * sp n + 2 ^ (4 * n) ≤ 2 ^ (4 * n) * 16 := by
      rw [← Nat.mul_succ]; exact Nat.mul_le_mul_left _ h2
    omega
theorem upsN_bit {sp : Nat → Nat} (h : ∀ c, sp c < 16) (p : Nat) : ∀ n, (upsN sp n).testBit p = (decide (p / 4 < n) && (sp (p / 4)).testBit (p % 4))
  | 0 => by simp [upsN, sumN]
  | n + 1 => by
    rw [upsN_succ, Nat.testBit_two_pow_mul_add _ (upsN_lt h n)]
    by_cases hp : p < 4 * n
    · rw [if_pos hp, upsN_bit h p n]
      have h1 : p / 4 < n := by omega
      have h2 : p / 4 < n + 1 := by omega
      simp [h1, h2]
    · rw [if_neg hp]
      by_cases h3 : p / 4 < n + 1
      · have e : p / 4 = n := by omega
        have e2 : p - 4 * n = p % 4 := by omega
        simp [h3, e, e2]
      · have h5 : sp n < 2 ^ (p - 4 * n) := Nat.lt_of_lt_of_le (h n) (show 16 ≤ 2 ^ (p - 4 * n) from Nat.pow_le_pow_right (show 2 > 0 by decide) (show 4 ≤ p - 4 * n by omega))
        simp [h3, Nat.testBit_lt_two_pow h5]
theorem pow8 {R : Nat} (h : R ≤ 3) : 2 ^ R ≤ 8 := Nat.pow_le_pow_right (show 2 > 0 by decide) h
theorem mskN_bit {C R : Nat} (hR : R ≤ 3) (p : Nat) : (mskN C R).testBit p = (decide (p / 4 < C) && decide (p % 4 < R)) := by
  have := pow8 hR
  rw [mskN, upsN_bit (fun _ => by omega), Nat.testBit_two_pow_sub_one]
theorem mskN_lt {C R : Nat} (hC : C ≤ 10) (hR : R ≤ 3) : mskN C R < 2 ^ 40 :=
  Nat.lt_of_lt_of_le (upsN_lt (fun _ => by have := pow8 hR; omega) C) (Nat.pow_le_pow_right (by decide) (by omega))
def St.U (A : St) : Nat := upsN A.sp 10
theorem St.sp16 {A : St} (h : A.ok) (c : Nat) : A.sp c < 16 := by
  have h1 := h.2.2.2.2.2.1 c
  have := pow8 h.2.1.2
  omega
theorem St.U_lt {A : St} (h : A.ok) : A.U < 2 ^ 40 := upsN_lt (A.sp16 h) 10
theorem St.U_bit {A : St} (h : A.ok) (p : Nat) : A.U.testBit p = (A.sp (p / 4)).testBit (p % 4) := by
  rw [St.U, upsN_bit (A.sp16 h)]
  by_cases hp : p / 4 < 10
  · simp [hp]
  · have e := h.2.2.2.2.2.2.1 (p / 4) (by have := h.1.2; omega)
    simp [hp, e]
theorem St.U_cr {A : St} (h : A.ok) (c : Nat) {r : Nat} (hr : r < 4) : A.U.testBit (4 * c + r) = (A.sp c).testBit r := by
  rw [A.U_bit h, show (4 * c + r) / 4 = c by omega, show (4 * c + r) % 4 = r by omega]
theorem St.U_sub {A : St} (h : A.ok) (p : Nat) : A.U.testBit p = true → (mskN A.C A.R).testBit p = true := by
  intro hp
  rw [A.U_bit h] at hp
  rw [mskN_bit h.2.1.2]
  have h1 : p / 4 < A.C := by
    apply Nat.lt_of_not_le
    intro q
    rw [h.2.2.2.2.2.2.1 _ q] at hp
    simp at hp
  have h2 : p % 4 < A.R := by
    apply Nat.lt_of_not_le
    intro q
    rw [Nat.testBit_lt_two_pow (Nat.lt_of_lt_of_le (h.2.2.2.2.2.1 (p / 4)) (Nat.pow_le_pow_right (by decide) q))] at hp
    cases hp
  simp [h1, h2]
/-- the strip's object and its row of fields -/
def stO (A : St) (fr : Nat) : PC := pO 4 [.int (nI A.C), .int (nI A.R), .int (nI A.g), .int (iI A.al), .int (iI A.ac), .long (lN (mskN A.C A.R)), .long (lN A.U), .int A.tu, .ref fr]
def stF (A : St) (f : Nat → Int32) : Prop := ∀ c r, c < A.C → r < A.R → f (4 * c + r) = iI (A.fd c r)
/-! bits of lN words -/
theorem and_lt {a b k : Nat} (h : b < 2 ^ k) : a &&& b < 2 ^ k := Nat.lt_of_le_of_lt Nat.and_le_right h
theorem bit_test {U k : Nat} (hU : U < 2 ^ 63) (hk : k < 63) : lg_cmp (lN U &&& lN (2 ^ k)) (lN 0) = 0 ↔ U.testBit k = false := by
  have h1 : 2 ^ k < 2 ^ 63 := Nat.pow_lt_pow_right (by decide) hk
  rw [wb_and (by omega) (by omega)]
  have h2 : U &&& 2 ^ k < 2 ^ 63 := and_lt h1
  have e : lN (U &&& 2 ^ k) = lN 0 ↔ U &&& 2 ^ k = 0 := pk_lEQ h2 (by decide)
  have e2 : U &&& 2 ^ k = 0 ↔ U.testBit k = false := by
    constructor
    · intro q
      have := congrArg (fun z => z.testBit k) q
      simpa [Nat.testBit_and, Nat.testBit_two_pow] using this
    · intro q
      apply Nat.eq_of_testBit_eq
      intro i
      rw [Nat.testBit_and, Nat.testBit_two_pow, Nat.zero_testBit]
      by_cases h : k = i
      · subst h; simp [q]
      · simp [h]
  have e3 : lg_cmp (lN (U &&& 2 ^ k)) (lN 0) = 0 ↔ lN (U &&& 2 ^ k) = lN 0 := by
    unfold lg_cmp
    by_cases h : lN (U &&& 2 ^ k) > lN 0
    · rw [if_pos h]
      constructor
      · intro q; exact absurd q (by decide)
      · intro q; rw [q] at h; exact absurd h (by decide)
    · rw [if_neg h]
      by_cases h' : lN (U &&& 2 ^ k) = lN 0
      · simp [h']
      · rw [if_neg h']
        constructor
        · intro q; exact absurd q (by decide)
        · intro q; exact absurd q h'
  rw [e3, e, e2]
theorem lN_shl (n : Nat) {k : Nat} (hk : k < 64) : lN n <<< ((nI k).toInt64 &&& 63) = lN (n * 2 ^ k) := wb_shl n hk
end
section
/-! THE STRIP: its methods on the cells 1 (the object) and 2 (its fields) -/
set_option maxRecDepth 100000 in
set_option maxHeartbeats 4000000 in
theorem t_place {n : Nat} {σ : Sto} (r c : Nat) : CD mX4_place [.int (nI r), .int (nI c)] n σ (some (.int (nI (4 * c + r)))) σ := by
  refine CP_of (by decide +kernel) (Nat.le_of_ble_eq_true rfl) ?_
  change PW _ _ _ _ 0 [_, _] [] _ _ _ _
  refine P_iload_n (q := 1) dX4_place_0 rfl rfl ?_
  refine P_iconst (q := 2) (v := nI 4) dX4_place_1 rfl (by decide +kernel) ?_
  refine P_imul (q := 3) dX4_place_2 rfl ?_
  refine P_iload_n (q := 4) dX4_place_3 rfl rfl ?_
  refine P_iadd (q := 5) dX4_place_4 rfl ?_
  refine P_iret dX4_place_5 rfl (rfl) ?_
  exact ⟨rv_i (by rw [pk_mul, nI_add, Nat.mul_comm]), rfl⟩
set_option maxRecDepth 100000 in
set_option maxHeartbeats 4000000 in
theorem t_bit {n : Nat} {σ : Sto} (r c : Nat) (h : 4 * c + r < 64) : CD mX4_bit [.int (nI r), .int (nI c)] n σ (some (.long (lN (2 ^ (4 * c + r))))) σ := by
  refine CP_of (by decide +kernel) (Nat.le_of_ble_eq_true rfl) ?_
  change PW _ _ _ _ 0 [_, _] [] _ _ _ _
  refine P_lconst (q := 1) (v := lN 1) dX4_bit_0 rfl (by decide +kernel) ?_
  refine P_iload_n (q := 2) dX4_bit_1 rfl rfl ?_
  refine P_iload_n (q := 3) dX4_bit_2 rfl rfl ?_
  refine P_cs1 (q := 6) dX4_bit_3 rfl kX4_46 (t_place r c) rfl rfl ⟨by decide, by decide⟩ (Nat.le_of_ble_eq_true rfl) ⟨Nat.le_refl _, Nat.le_refl _⟩ ?_
  refine P_lshl (q := 7) dX4_bit_6 rfl ?_
  refine P_lret dX4_bit_7 rfl ?_
  exact ⟨rv_l (by rw [lN_shl _ h, Nat.one_mul]), rfl⟩
theorem two_sub {R : Nat} (hR : R ≤ 3) : (lN 1 <<< ((nI R).toInt64 &&& 63)) - lN 1 = lN (2 ^ R - 1) := by
  rw [lN_shl _ (by omega), Nat.one_mul, lN_sub (Nat.two_pow_pos R)]
theorem msk_or {C R : Nat} (hR : R ≤ 3) : mskN C R ||| (2 ^ R - 1) * 2 ^ (4 * C + 0) = mskN (C + 1) R := by
  have h8 := pow8 hR
  have h1 : mskN C R < 2 ^ (4 * C) := upsN_lt (fun _ => by omega) C
  have e : mskN (C + 1) R = 2 ^ (4 * C) * (2 ^ R - 1) + mskN C R := upsN_succ _ _
  rw [e, Nat.two_pow_add_eq_or_of_lt h1, Nat.or_comm, Nat.add_zero, Nat.mul_comm]
set_option maxRecDepth 100000 in
set_option maxHeartbeats 4000000 in
theorem w_allCells {n : Nat} {σ : Sto} {C R : Nat} (hC : C ≤ 10) (hR : R ≤ 3) : ∀ k i, i + k = C → PW mX4_allCells 0 0 (fun r σ' => r = some (.long (lN (mskN C R))) ∧ σ' = σ) 5 [some (.int (nI C)), some (.int (nI R)), some (.long (lN (mskN i R))), none, some (.int (nI i))] [] n σ 0 0 := by
  intro k
  induction k with
  | zero =>
    intro i hi
    refine P_iload (q := 7) dX4_allCells_5 rfl rfl ?_
    refine P_iload_n (q := 8) dX4_allCells_7 rfl rfl ?_
    refine P_icmp_ge (q := 11) (tgt := 32) dX4_allCells_8 rfl (by decide) (fun c_8 => ?_) (fun c_8 => ?_)
    · rw [nI_leI (by omega) (by omega)] at c_8
      refine P_lload_n (q := 33) dX4_allCells_32 rfl rfl ?_
      refine P_lret dX4_allCells_33 rfl ?_
      exact ⟨by rw [show i = C by omega], rfl⟩
    · exfalso; rw [nI_leI (by omega) (by omega)] at c_8; omega
  | succ k ih =>
    intro i hi
    refine P_iload (q := 7) dX4_allCells_5 rfl rfl ?_
    refine P_iload_n (q := 8) dX4_allCells_7 rfl rfl ?_
    refine P_icmp_ge (q := 11) (tgt := 32) dX4_allCells_8 rfl (by decide) (fun c_8 => ?_) (fun c_8 => ?_)
    · exfalso; rw [nI_leI (by omega) (by omega)] at c_8; omega
    · rw [nI_leI (by omega) (by omega)] at c_8
      refine P_lload_n (q := 12) dX4_allCells_11 rfl rfl ?_
      refine P_lconst (q := 13) (v := lN 1) dX4_allCells_12 rfl (by decide +kernel) ?_
      refine P_iload_n (q := 14) dX4_allCells_13 rfl rfl ?_
      refine P_lshl (q := 15) dX4_allCells_14 rfl ?_
      refine P_lconst (q := 16) (v := lN 1) dX4_allCells_15 rfl (by decide +kernel) ?_
      refine P_lsub (q := 17) dX4_allCells_16 rfl ?_
      refine P_iconst (q := 18) (v := nI 0) dX4_allCells_17 rfl (by decide +kernel) ?_
      refine P_iload (q := 20) dX4_allCells_18 rfl rfl ?_
      refine P_cs1 (q := 23) dX4_allCells_20 rfl kX4_46 (t_place 0 i) rfl rfl ⟨by decide, by decide⟩ (Nat.le_of_ble_eq_true rfl) ⟨Nat.le_refl _, Nat.le_refl _⟩ ?_
      refine P_lshl (q := 24) dX4_allCells_23 rfl ?_
      rw [two_sub hR, lN_shl _ (show 4 * i + 0 < 64 by omega)]
      refine P_lor (q := 25) dX4_allCells_24 rfl ?_
      rw [wb_or (Nat.lt_of_lt_of_le (mskN_lt (C := i) (by omega) hR) (by decide)) (Nat.lt_of_le_of_lt (Nat.le_trans Nat.right_le_or (Nat.le_of_eq (msk_or (C := i) hR))) (Nat.lt_of_lt_of_le (mskN_lt (C := i + 1) (by omega) hR) (by decide))), msk_or hR]
      refine P_lstore_n (q := 26) (L' := [_, _, _, _, _]) dX4_allCells_25 rfl (by decide) rfl ?_
      refine P_iinc (q := 29) (L' := [_, _, _, _, _]) (v := nI (i + 1)) dX4_allCells_26 rfl (by decide) rfl (nI_1 i) rfl ?_
      refine P_goto (tgt := 5) dX4_allCells_29 (by decide) ?_
      exact ih (i + 1) (by omega)
set_option maxRecDepth 100000 in
set_option maxHeartbeats 4000000 in
theorem t_allCells {n : Nat} {σ : Sto} {C R : Nat} (hC : C ≤ 10) (hR : R ≤ 3) : CD mX4_allCells [.int (nI C), .int (nI R)] n σ (some (.long (lN (mskN C R)))) σ := by
  refine CP_of (by decide +kernel) (Nat.le_of_ble_eq_true rfl) ?_
  change PW _ _ _ _ 0 [_, _, _, _, _] [] _ _ _ _
  refine P_lconst (q := 1) (v := lN 0) dX4_allCells_0 rfl (by decide +kernel) ?_
  refine P_lstore_n (q := 2) (L' := [_, _, _, _, _]) dX4_allCells_1 rfl (by decide) rfl ?_
  refine P_iconst (q := 3) (v := nI 0) dX4_allCells_2 rfl (by decide +kernel) ?_
  refine P_istore (q := 5) (L' := [_, _, _, _, _]) dX4_allCells_3 rfl (by decide) rfl ?_
  exact w_allCells hC hR C 0 (by omega)
def St.hasB (A : St) (x y : Int32) : Bool := decide (¬ x < 0 ∧ ¬ nI A.R ≤ x ∧ ¬ y < 0 ∧ ¬ nI A.C ≤ y)
theorem St.hasB_t {A : St} (h : A.ok) {x y : Int32} (hb : A.hasB x y = true) : ∃ r c : Nat, r < A.R ∧ c < A.C ∧ x = nI r ∧ y = nI c := by
  have hb := of_decide_eq_true hb
  obtain ⟨h1, h2, h3, h4⟩ := hb
  obtain ⟨r, hr, rfl⟩ := nI_of h1
  obtain ⟨c, hc, rfl⟩ := nI_of h3
  have hC := h.1.2
  have hR := h.2.1.2
  rw [nI_leI (by omega) (by omega)] at h2 h4
  exact ⟨r, c, by omega, by omega, rfl, rfl⟩
theorem St.hasB_n {A : St} (h : A.ok) {r c : Nat} (hr : r < A.R) (hc : c < A.C) : A.hasB (nI r) (nI c) = true := by
  have hC := h.1.2
  have hR := h.2.1.2
  refine decide_eq_true ⟨nI_pos (by omega), nI_ge hr (by omega), nI_pos (by omega), nI_ge hc (by omega)⟩
set_option maxRecDepth 100000 in
set_option maxHeartbeats 4000000 in
theorem t_has {σ : Sto} {A : St} (h1 : σ 1 = stO A 2) (x y : Int32) : CD mX4_has [.ref 1, .int x, .int y] 132 σ (some (.int (bI (A.hasB x y)))) σ := by
  refine CP_of (by decide +kernel) (Nat.le_of_ble_eq_true rfl) ?_
  change PW _ _ _ _ 0 [_, _, _] [] _ _ _ _
  refine P_iload_n (q := 1) dX4_has_0 rfl rfl ?_
  refine P_if_lt (q := 4) (tgt := 28) dX4_has_1 rfl (by decide) (fun c_1 => ?_) (fun c_1 => ?_)
  · refine P_iconst (q := 29) (v := nI 0) dX4_has_28 rfl (by decide +kernel) ?_
    refine P_iret dX4_has_29 rfl (rfl) ?_
    exact ⟨rv_i (by simp [St.hasB, bI, *]), rfl⟩
  · refine P_iload_n (q := 5) dX4_has_4 rfl rfl ?_
    refine P_aload_n (q := 6) dX4_has_5 rfl rfl ?_
    refine P_get (q := 9) dX4_has_6 rfl fX4_15 (by decide) (by assumption) rfl ?_
    refine P_icmp_ge (q := 12) (tgt := 28) dX4_has_9 rfl (by decide) (fun c_9 => ?_) (fun c_9 => ?_)
    · refine P_iconst (q := 29) (v := nI 0) dX4_has_28 rfl (by decide +kernel) ?_
      refine P_iret dX4_has_29 rfl (rfl) ?_
      exact ⟨rv_i (by simp [St.hasB, bI, *]), rfl⟩
    · refine P_iload_n (q := 13) dX4_has_12 rfl rfl ?_
      refine P_if_lt (q := 16) (tgt := 28) dX4_has_13 rfl (by decide) (fun c_13 => ?_) (fun c_13 => ?_)
      · refine P_iconst (q := 29) (v := nI 0) dX4_has_28 rfl (by decide +kernel) ?_
        refine P_iret dX4_has_29 rfl (rfl) ?_
        exact ⟨rv_i (by simp [St.hasB, bI, *]), rfl⟩
      · refine P_iload_n (q := 17) dX4_has_16 rfl rfl ?_
        refine P_aload_n (q := 18) dX4_has_17 rfl rfl ?_
        refine P_get (q := 21) dX4_has_18 rfl fX4_9 (by decide) (by assumption) rfl ?_
        refine P_icmp_ge (q := 24) (tgt := 28) dX4_has_21 rfl (by decide) (fun c_21 => ?_) (fun c_21 => ?_)
        · refine P_iconst (q := 29) (v := nI 0) dX4_has_28 rfl (by decide +kernel) ?_
          refine P_iret dX4_has_29 rfl (rfl) ?_
          exact ⟨rv_i (by simp [St.hasB, bI, *]), rfl⟩
        · refine P_iconst (q := 25) (v := nI 1) dX4_has_24 rfl (by decide +kernel) ?_
          refine P_goto (tgt := 29) dX4_has_25 (by decide) ?_
          refine P_iret dX4_has_29 rfl (rfl) ?_
          exact ⟨rv_i (by simp [St.hasB, bI, *]), rfl⟩
theorem g_eq {g : Nat} (h : g ≤ 1) : nI g = 0 ↔ ¬ g = 1 := by
  have : g = 0 ∨ g = 1 := by omega
  rcases this with rfl | rfl
  · exact ⟨fun _ => by omega, fun _ => rfl⟩
  · exact ⟨fun q => absurd q (by decide), fun q => absurd rfl q⟩
set_option maxRecDepth 100000 in
set_option maxHeartbeats 4000000 in
theorem t_closed {σ : Sto} {A : St} (hA : A.ok) (h1 : σ 1 = stO A 2) : CD mX4_closed [.ref 1] 132 σ (some (.int (bI A.lp))) σ := by
  have hC := hA.1.2
  refine CP_of (by decide +kernel) (Nat.le_of_ble_eq_true rfl) ?_
  change PW _ _ _ _ 0 [_] [] _ _ _ _
  refine P_aload_n (q := 1) dX4_closed_0 rfl rfl ?_
  refine P_get (q := 4) dX4_closed_1 rfl fX4_18 (by decide) (by assumption) rfl ?_
  refine P_if_eq (q := 7) (tgt := 19) dX4_closed_4 rfl (by decide) (fun c_4 => ?_) (fun c_4 => ?_)
  · rw [g_eq hA.2.2.1] at c_4
    refine P_iconst (q := 20) (v := nI 0) dX4_closed_19 rfl (by decide +kernel) ?_
    refine P_iret dX4_closed_20 rfl (rfl) ?_
    exact ⟨rv_i (by unfold St.lp bI; first | rw [if_pos (decide_eq_true (by omega))] | rw [if_neg (fun q => by have := of_decide_eq_true q; omega)]), rfl⟩
  · rw [g_eq hA.2.2.1] at c_4
    refine P_aload_n (q := 8) dX4_closed_7 rfl rfl ?_
    refine P_get (q := 11) dX4_closed_8 rfl fX4_9 (by decide) (by assumption) rfl ?_
    refine P_iconst (q := 12) (v := nI 3) dX4_closed_11 rfl (by decide +kernel) ?_
    refine P_icmp_lt (q := 15) (tgt := 19) dX4_closed_12 rfl (by decide) (fun c_12 => ?_) (fun c_12 => ?_)
    · rw [nI_ltI (by omega) (by omega)] at c_12
      refine P_iconst (q := 20) (v := nI 0) dX4_closed_19 rfl (by decide +kernel) ?_
      refine P_iret dX4_closed_20 rfl (rfl) ?_
      exact ⟨rv_i (by unfold St.lp bI; first | rw [if_pos (decide_eq_true (by omega))] | rw [if_neg (fun q => by have := of_decide_eq_true q; omega)]), rfl⟩
    · rw [nI_ltI (by omega) (by omega)] at c_12
      refine P_iconst (q := 16) (v := nI 1) dX4_closed_15 rfl (by decide +kernel) ?_
      refine P_goto (tgt := 20) dX4_closed_16 (by decide) ?_
      refine P_iret dX4_closed_20 rfl (rfl) ?_
      exact ⟨rv_i (by unfold St.lp bI; first | rw [if_pos (decide_eq_true (by omega))] | rw [if_neg (fun q => by have := of_decide_eq_true q; omega)]), rfl⟩
set_option maxRecDepth 100000 in
set_option maxHeartbeats 4000000 in
theorem t_spinAt {σ : Sto} {A : St} (hA : A.ok) (h1 : σ 1 = stO A 2) {r c : Nat} (hr : r < A.R) (hc : c < A.C) : CD mX4_spinAt [.ref 1, .int (nI r), .int (nI c)] 132 σ (some (.int (iI (A.s c r)))) σ := by
  have hC := hA.1.2
  have hR := hA.2.1.2
  have hU := A.U_lt hA
  have hb := A.U_cr hA c (r := r) (by omega)
  refine CP_of (by decide +kernel) (Nat.le_of_ble_eq_true rfl) ?_
  change PW _ _ _ _ 0 [_, _, _] [] _ _ _ _
  refine P_aload_n (q := 1) dX4_spinAt_0 rfl rfl ?_
  refine P_get (q := 4) dX4_spinAt_1 rfl fX4_36 (by decide) (by assumption) rfl ?_
  refine P_iload_n (q := 5) dX4_spinAt_4 rfl rfl ?_
  refine P_iload_n (q := 6) dX4_spinAt_5 rfl rfl ?_
  refine P_cs1 (q := 9) dX4_spinAt_6 rfl kX4_62 (t_bit r c (by omega)) rfl rfl ⟨by decide, by decide⟩ (Nat.le_of_ble_eq_true rfl) ⟨Nat.le_refl _, Nat.le_refl _⟩ ?_
  refine P_land (q := 10) dX4_spinAt_9 rfl ?_
  refine P_lconst (q := 11) (v := lN 0) dX4_spinAt_10 rfl (by decide +kernel) ?_
  refine P_lcmp (q := 12) dX4_spinAt_11 rfl ?_
  refine P_if_eq (q := 15) (tgt := 19) dX4_spinAt_12 rfl (by decide) (fun c_12 => ?_) (fun c_12 => ?_)
  · rw [bit_test (by omega) (by omega), hb] at c_12
    refine P_iconst (q := 20) (v := (-1)) dX4_spinAt_19 rfl (by decide +kernel) ?_
    refine P_iret dX4_spinAt_20 rfl (rfl) ?_
    exact ⟨rv_i (by unfold St.s; first | (rw [if_neg (by rw [c_12]; decide)]; rfl) | (rw [if_pos (by simpa using c_12)]; rfl)), rfl⟩
  · rw [bit_test (by omega) (by omega), hb] at c_12
    refine P_iconst (q := 16) (v := nI 1) dX4_spinAt_15 rfl (by decide +kernel) ?_
    refine P_goto (tgt := 20) dX4_spinAt_16 (by decide) ?_
    refine P_iret dX4_spinAt_20 rfl (rfl) ?_
    exact ⟨rv_i (by unfold St.s; first | (rw [if_neg (by rw [c_12]; decide)]; rfl) | (rw [if_pos (by simpa using c_12)]; rfl)), rfl⟩
set_option maxRecDepth 100000 in
set_option maxHeartbeats 4000000 in
theorem t_fieldAt {σ : Sto} {A : St} {f : Nat → Int32} (hA : A.ok) (h1 : σ 1 = stO A 2) (h2 : σ 2 = pI .int 40 f) (hf : stF A f) {r c : Nat} (hr : r < A.R) (hc : c < A.C) : CD mX4_fieldAt [.ref 1, .int (nI r), .int (nI c)] 132 σ (some (.int (iI (A.fd c r)))) σ := by
  have hC := hA.1.2
  have hR := hA.2.1.2
  refine CP_of (by decide +kernel) (Nat.le_of_ble_eq_true rfl) ?_
  change PW _ _ _ _ 0 [_, _, _] [] _ _ _ _
  refine P_aload_n (q := 1) dX4_fieldAt_0 rfl rfl ?_
  refine P_iload_n (q := 2) dX4_fieldAt_1 rfl rfl ?_
  refine P_iload_n (q := 3) dX4_fieldAt_2 rfl rfl ?_
  refine P_cv1 (q := 6) dX4_fieldAt_3 rfl kX4_65 (t_has h1 _ _) rfl rfl (by decide) (by assumption) rfl ⟨by decide, by decide⟩ (Nat.le_of_ble_eq_true rfl) ⟨Nat.le_refl _, Nat.le_refl _⟩ ?_
  rw [A.hasB_n hA hr hc]
  refine P_if_eq (q := 9) (tgt := 22) dX4_fieldAt_6 rfl (by decide) (fun c_6 => ?_) (fun c_6 => ?_)
  · exact absurd c_6 (by decide)
  · refine P_aload_n (q := 10) dX4_fieldAt_9 rfl rfl ?_
    refine P_get (q := 13) dX4_fieldAt_10 rfl fX4_42 (by decide) (by assumption) rfl ?_
    refine P_iload_n (q := 14) dX4_fieldAt_13 rfl rfl ?_
    refine P_iload_n (q := 15) dX4_fieldAt_14 rfl rfl ?_
    refine P_cs1 (q := 18) dX4_fieldAt_15 rfl kX4_46 (t_place r c) rfl rfl ⟨by decide, by decide⟩ (Nat.le_of_ble_eq_true rfl) ⟨Nat.le_refl _, Nat.le_refl _⟩ ?_
    refine P_iald (q := 19) (j := 4 * c + r) dX4_fieldAt_18 rfl (by decide) (by assumption) (rfl) (by omega) (by decide) ?_
    refine P_goto (tgt := 23) dX4_fieldAt_19 (by decide) ?_
    refine P_iret dX4_fieldAt_23 rfl (rfl) ?_
    exact ⟨by rw [hf c r hc hr], rfl⟩
set_option maxRecDepth 100000 in
set_option maxHeartbeats 4000000 in
theorem t_putField {σ : Sto} {A : St} {f : Nat → Int32} (hA : A.ok) (h1 : σ 1 = stO A 2) (h2 : σ 2 = pI .int 40 f) {r c : Nat} (hr : r < A.R) (hc : c < A.C) (v : Int32) : CD mX4_putField [.ref 1, .int (nI r), .int (nI c), .int v] 132 σ none (va_up σ 2 (pI .int 40 (upd f (4 * c + r) v))) := by
  have hC := hA.1.2
  have hR := hA.2.1.2
  refine CP_of (by decide +kernel) (Nat.le_of_ble_eq_true rfl) ?_
  change PW _ _ _ _ 0 [_, _, _, _] [] _ _ _ _
  refine P_aload_n (q := 1) dX4_putField_0 rfl rfl ?_
  refine P_iload_n (q := 2) dX4_putField_1 rfl rfl ?_
  refine P_iload_n (q := 3) dX4_putField_2 rfl rfl ?_
  refine P_cv1 (q := 6) dX4_putField_3 rfl kX4_65 (t_has h1 _ _) rfl rfl (by decide) (by assumption) rfl ⟨by decide, by decide⟩ (Nat.le_of_ble_eq_true rfl) ⟨Nat.le_refl _, Nat.le_refl _⟩ ?_
  rw [A.hasB_n hA hr hc]
  refine P_if_eq (q := 9) (tgt := 20) dX4_putField_6 rfl (by decide) (fun c_6 => ?_) (fun c_6 => ?_)
  · exact absurd c_6 (by decide)
  · refine P_aload_n (q := 10) dX4_putField_9 rfl rfl ?_
    refine P_get (q := 13) dX4_putField_10 rfl fX4_42 (by decide) (by assumption) rfl ?_
    refine P_iload_n (q := 14) dX4_putField_13 rfl rfl ?_
    refine P_iload_n (q := 15) dX4_putField_14 rfl rfl ?_
    refine P_cs1 (q := 18) dX4_putField_15 rfl kX4_46 (t_place r c) rfl rfl ⟨by decide, by decide⟩ (Nat.le_of_ble_eq_true rfl) ⟨Nat.le_refl _, Nat.le_refl _⟩ ?_
    refine P_iload_n (q := 19) dX4_putField_18 rfl rfl ?_
    refine P_iast (q := 20) (j := 4 * c + r) dX4_putField_19 rfl (by decide) (by assumption) (rfl) (by omega) (by decide) (rfl) (rfl) ?_
    refine P_vret dX4_putField_20 rfl ?_
    exact ⟨rfl, rfl⟩
theorem kind_n {A : St} (h : A.ok) (c : Nat) (hc : c < A.C) : (((lN A.U).toUInt64 >>> ((nI (4 * c + 0)).toInt64.toUInt64 &&& Int64.toUInt64 63)).toInt64).toInt32 &&& ((nI 1 <<< (nI A.R &&& 31)) - nI 1) = nI (A.sp c) := by
  have hC := h.1.2
  have hR := h.2.1.2
  have hU := A.U_lt h
  have e1 : nI 1 <<< (nI A.R &&& 31) - nI 1 = nI (2 ^ A.R - 1) := by
    have : A.R = 0 ∨ A.R = 1 ∨ A.R = 2 ∨ A.R = 3 := by omega
    rcases this with e | e | e | e <;> rw [e] <;> decide
  rw [wb_shr (by omega) (by omega), lN_i, e1, nI_and, Nat.and_two_pow_sub_one_eq_mod]
  congr 1
  apply Nat.eq_of_testBit_eq
  intro i
  rw [Nat.testBit_mod_two_pow, Nat.testBit_div_two_pow, A.U_bit h]
  by_cases hi : i < A.R
  · have a1 : (i + (4 * c + 0)) / 4 = c := by omega
    have a2 : (i + (4 * c + 0)) % 4 = i := by omega
    rw [a1, a2]; simp [hi]
  · rw [Nat.testBit_lt_two_pow (Nat.lt_of_lt_of_le (h.2.2.2.2.2.1 c) (Nat.pow_le_pow_right (by decide) (show A.R ≤ i by omega)))]
    simp [hi]
set_option maxRecDepth 100000 in
set_option maxHeartbeats 4000000 in
theorem t_kindOf {σ : Sto} {A : St} (hA : A.ok) (h1 : σ 1 = stO A 2) {c : Nat} (hc : c < A.C) : CD mX4_kindOf [.ref 1, .int (nI c)] 132 σ (some (.int (nI (A.sp c)))) σ := by
  refine CP_of (by decide +kernel) (Nat.le_of_ble_eq_true rfl) ?_
  change PW _ _ _ _ 0 [_, _] [] _ _ _ _
  refine P_aload_n (q := 1) dX4_kindOf_0 rfl rfl ?_
  refine P_get (q := 4) dX4_kindOf_1 rfl fX4_36 (by decide) (by assumption) rfl ?_
  refine P_iconst (q := 5) (v := nI 0) dX4_kindOf_4 rfl (by decide +kernel) ?_
  refine P_iload_n (q := 6) dX4_kindOf_5 rfl rfl ?_
  refine P_cs1 (q := 9) dX4_kindOf_6 rfl kX4_46 (t_place 0 c) rfl rfl ⟨by decide, by decide⟩ (Nat.le_of_ble_eq_true rfl) ⟨Nat.le_refl _, Nat.le_refl _⟩ ?_
  refine P_lushr (q := 10) dX4_kindOf_9 rfl ?_
  refine P_l2i (q := 11) dX4_kindOf_10 rfl ?_
  refine P_iconst (q := 12) (v := nI 1) dX4_kindOf_11 rfl (by decide +kernel) ?_
  refine P_aload_n (q := 13) dX4_kindOf_12 rfl rfl ?_
  refine P_get (q := 16) dX4_kindOf_13 rfl fX4_15 (by decide) (by assumption) rfl ?_
  refine P_ishl (q := 17) dX4_kindOf_16 rfl ?_
  refine P_iconst (q := 18) (v := nI 1) dX4_kindOf_17 rfl (by decide +kernel) ?_
  refine P_isub (q := 19) dX4_kindOf_18 rfl ?_
  refine P_iand (q := 20) dX4_kindOf_19 rfl ?_
  refine P_iret dX4_kindOf_20 rfl (rfl) ?_
  exact ⟨rv_i (kind_n hA c hc), rfl⟩
end
section
/-! NEIGHBOURS as bits -/
def bAr (C R : Nat) (lp : Bool) (a : Nat) : Nat := ((a * 16 ||| a / 16) ||| (if lp then (a * 2 ^ (4 * (C - 1)) % 2 ^ 64 ||| a / 2 ^ (4 * (C - 1))) else 0)) &&& mskN C R
def bXr (C R : Nat) (a : Nat) : Nat := (a * 2 ||| a / 2) &&& mskN C R
def St.bA (A : St) (a : Nat) : Nat := bAr A.C A.R A.lp a
def St.bX (A : St) (a : Nat) : Nat := bXr A.C A.R a
def St.bN (A : St) (a : Nat) : Nat := A.bA a ||| A.bX a
theorem or_lt {a b k : Nat} (ha : a < 2 ^ k) (hb : b < 2 ^ k) : a ||| b < 2 ^ k := Nat.or_lt_two_pow ha hb
theorem lN_or {a b : Nat} (ha : a < 2 ^ 64) (hb : b < 2 ^ 64) : lN a ||| lN b = lN (a ||| b) := wb_or ha hb
theorem lN_and {a b : Nat} (ha : a < 2 ^ 64) (hb : b < 2 ^ 64) : lN a &&& lN b = lN (a &&& b) := wb_and ha hb
theorem bA_1 {a : Nat} (h : a < 2 ^ 40) : (lN a <<< ((nI 4).toInt64 &&& 63)) ||| ((lN a).toUInt64 >>> ((nI 4).toInt64.toUInt64 &&& Int64.toUInt64 63)).toInt64 = lN (a * 16 ||| a / 16) := by
  rw [lN_shl _ (by decide), wb_shr (by omega) (by decide), lN_or (by omega) (by omega)]
theorem bX_1 {a : Nat} (h : a < 2 ^ 40) : (lN a <<< ((nI 1).toInt64 &&& 63)) ||| ((lN a).toUInt64 >>> ((nI 1).toInt64.toUInt64 &&& Int64.toUInt64 63)).toInt64 = lN (a * 2 ||| a / 2) := by
  rw [lN_shl _ (by decide), wb_shr (by omega) (by decide), lN_or (by omega) (by omega)]
theorem bA_2 {a x k : Nat} (h : a < 2 ^ 40) (hx : x < 2 ^ 64) (hk : k < 64) : lN x ||| ((lN a <<< ((nI k).toInt64 &&& 63)) ||| ((lN a).toUInt64 >>> ((nI k).toInt64.toUInt64 &&& Int64.toUInt64 63)).toInt64) = lN (x ||| (a * 2 ^ k % 2 ^ 64 ||| a / 2 ^ k)) := by
  have h1 : a * 2 ^ k % 2 ^ 64 < 2 ^ 64 := Nat.mod_lt _ (by decide)
  have h2 : a / 2 ^ k < 2 ^ 64 := Nat.lt_of_le_of_lt (Nat.div_le_self _ _) (by omega)
  rw [lN_shl _ hk, wb_shr (by omega) hk, wb_mod (a * 2 ^ k), lN_or h1 h2, lN_or hx (or_lt h1 h2)]
set_option maxRecDepth 100000 in
set_option maxHeartbeats 4000000 in
theorem t_besideAlong {σ : Sto} {A : St} (hA : A.ok) (h1 : σ 1 = stO A 2) (a : Nat) (ha : a < 2 ^ 40) : CD mX4_besideAlong [.ref 1, .long (lN a)] 132 σ (some (.long (lN (A.bA a)))) σ := by
  have hC := hA.1
  have hM := mskN_lt hC.2 hA.2.1.2
  have hx : a * 16 ||| a / 16 < 2 ^ 64 := or_lt (by omega) (by omega)
  refine CP_of (by decide +kernel) (Nat.le_of_ble_eq_true rfl) ?_
  change PW _ _ _ _ 0 [_, _, _, _, _, _] [] _ _ _ _
  refine P_lload_n (q := 1) dX4_besideAlong_0 rfl rfl ?_
  refine P_iconst (q := 2) (v := nI 4) dX4_besideAlong_1 rfl (by decide +kernel) ?_
  refine P_lshl (q := 3) dX4_besideAlong_2 rfl ?_
  refine P_lload_n (q := 4) dX4_besideAlong_3 rfl rfl ?_
  refine P_iconst (q := 5) (v := nI 4) dX4_besideAlong_4 rfl (by decide +kernel) ?_
  refine P_lushr (q := 6) dX4_besideAlong_5 rfl ?_
  refine P_lor (q := 7) dX4_besideAlong_6 rfl ?_
  rw [bA_1 ha]
  refine P_lstore_n (q := 8) (L' := [_, _, _, _, _, _]) dX4_besideAlong_7 rfl (by decide) rfl ?_
  refine P_aload_n (q := 9) dX4_besideAlong_8 rfl rfl ?_
  refine P_cv1 (q := 12) dX4_besideAlong_9 rfl kX4_75 (t_closed hA h1) rfl rfl (by decide) (by assumption) rfl ⟨by decide, by decide⟩ (Nat.le_of_ble_eq_true rfl) ⟨Nat.le_refl _, Nat.le_refl _⟩ ?_
  refine P_if_eq (q := 15) (tgt := 39) dX4_besideAlong_12 rfl (by decide) (fun c_12 => ?_) (fun c_12 => ?_)
  · rw [bI_0] at c_12
    refine P_lload_n (q := 40) dX4_besideAlong_39 rfl rfl ?_
    refine P_aload_n (q := 41) dX4_besideAlong_40 rfl rfl ?_
    refine P_get (q := 44) dX4_besideAlong_41 rfl fX4_32 (by decide) (by assumption) rfl ?_
    refine P_land (q := 45) dX4_besideAlong_44 rfl ?_
    refine P_lret dX4_besideAlong_45 rfl ?_
    exact ⟨rv_l (by rw [lN_and (by first | exact hx | exact or_lt hx (or_lt (Nat.mod_lt _ (by decide)) (Nat.lt_of_le_of_lt (Nat.div_le_self _ _) (by omega)))) (by omega)]; unfold St.bA bAr; rw [c_12]; simp), rfl⟩
  · rw [bI_n] at c_12
    refine P_iconst (q := 16) (v := nI 0) dX4_besideAlong_15 rfl (by decide +kernel) ?_
    refine P_aload_n (q := 17) dX4_besideAlong_16 rfl rfl ?_
    refine P_get (q := 20) dX4_besideAlong_17 rfl fX4_9 (by decide) (by assumption) rfl ?_
    refine P_iconst (q := 21) (v := nI 1) dX4_besideAlong_20 rfl (by decide +kernel) ?_
    refine P_isub (q := 22) dX4_besideAlong_21 rfl ?_
    rw [pk_sub (by omega)]
    refine P_cs1 (q := 25) dX4_besideAlong_22 rfl kX4_46 (t_place 0 (A.C - 1)) rfl rfl ⟨by decide, by decide⟩ (Nat.le_of_ble_eq_true rfl) ⟨Nat.le_refl _, Nat.le_refl _⟩ ?_
    refine P_istore (q := 27) (L' := [_, _, _, _, _, _]) dX4_besideAlong_25 rfl (by decide) rfl ?_
    refine P_lload_n (q := 28) dX4_besideAlong_27 rfl rfl ?_
    refine P_lload_n (q := 29) dX4_besideAlong_28 rfl rfl ?_
    refine P_iload (q := 31) dX4_besideAlong_29 rfl rfl ?_
    refine P_lshl (q := 32) dX4_besideAlong_31 rfl ?_
    refine P_lload_n (q := 33) dX4_besideAlong_32 rfl rfl ?_
    refine P_iload (q := 35) dX4_besideAlong_33 rfl rfl ?_
    refine P_lushr (q := 36) dX4_besideAlong_35 rfl ?_
    refine P_lor (q := 37) dX4_besideAlong_36 rfl ?_
    refine P_lor (q := 38) dX4_besideAlong_37 rfl ?_
    rw [bA_2 ha hx (by omega)]
    refine P_lstore_n (q := 39) (L' := [_, _, _, _, _, _]) dX4_besideAlong_38 rfl (by decide) rfl ?_
    refine P_lload_n (q := 40) dX4_besideAlong_39 rfl rfl ?_
    refine P_aload_n (q := 41) dX4_besideAlong_40 rfl rfl ?_
    refine P_get (q := 44) dX4_besideAlong_41 rfl fX4_32 (by decide) (by assumption) rfl ?_
    refine P_land (q := 45) dX4_besideAlong_44 rfl ?_
    refine P_lret dX4_besideAlong_45 rfl ?_
    exact ⟨rv_l (by rw [lN_and (by first | exact hx | exact or_lt hx (or_lt (Nat.mod_lt _ (by decide)) (Nat.lt_of_le_of_lt (Nat.div_le_self _ _) (by omega)))) (by omega)]; unfold St.bA bAr; rw [c_12]; simp), rfl⟩
set_option maxRecDepth 100000 in
set_option maxHeartbeats 4000000 in
theorem t_besideAcross {σ : Sto} {A : St} (hA : A.ok) (h1 : σ 1 = stO A 2) (a : Nat) (ha : a < 2 ^ 40) : CD mX4_besideAcross [.ref 1, .long (lN a)] 132 σ (some (.long (lN (A.bX a)))) σ := by
  have hM := mskN_lt hA.1.2 hA.2.1.2
  have hx : a * 2 ||| a / 2 < 2 ^ 64 := or_lt (by omega) (by omega)
  refine CP_of (by decide +kernel) (Nat.le_of_ble_eq_true rfl) ?_
  change PW _ _ _ _ 0 [_, _, _] [] _ _ _ _
  refine P_lload_n (q := 1) dX4_besideAcross_0 rfl rfl ?_
  refine P_iconst (q := 2) (v := nI 1) dX4_besideAcross_1 rfl (by decide +kernel) ?_
  refine P_lshl (q := 3) dX4_besideAcross_2 rfl ?_
  refine P_lload_n (q := 4) dX4_besideAcross_3 rfl rfl ?_
  refine P_iconst (q := 5) (v := nI 1) dX4_besideAcross_4 rfl (by decide +kernel) ?_
  refine P_lushr (q := 6) dX4_besideAcross_5 rfl ?_
  refine P_lor (q := 7) dX4_besideAcross_6 rfl ?_
  rw [bX_1 ha]
  refine P_aload_n (q := 8) dX4_besideAcross_7 rfl rfl ?_
  refine P_get (q := 11) dX4_besideAcross_8 rfl fX4_32 (by decide) (by assumption) rfl ?_
  refine P_land (q := 12) dX4_besideAcross_11 rfl ?_
  refine P_lret dX4_besideAcross_12 rfl ?_
  exact ⟨rv_l (by rw [lN_and hx (by omega)]; rfl), rfl⟩
theorem St.bA_lt {A : St} (hA : A.ok) (a : Nat) : A.bA a < 2 ^ 40 := and_lt (mskN_lt hA.1.2 hA.2.1.2)
theorem St.bX_lt {A : St} (hA : A.ok) (a : Nat) : A.bX a < 2 ^ 40 := and_lt (mskN_lt hA.1.2 hA.2.1.2)
theorem St.bN_lt {A : St} (hA : A.ok) (a : Nat) : A.bN a < 2 ^ 40 := or_lt (A.bA_lt hA a) (A.bX_lt hA a)
set_option maxRecDepth 100000 in
set_option maxHeartbeats 4000000 in
theorem t_beside {σ : Sto} {A : St} (hA : A.ok) (h1 : σ 1 = stO A 2) (a : Nat) (ha : a < 2 ^ 40) : CD mX4_beside [.ref 1, .long (lN a)] 132 σ (some (.long (lN (A.bN a)))) σ := by
  have h2 := A.bA_lt hA a
  have h3 := A.bX_lt hA a
  refine CP_of (by decide +kernel) (Nat.le_of_ble_eq_true rfl) ?_
  change PW _ _ _ _ 0 [_, _, _] [] _ _ _ _
  refine P_aload_n (q := 1) dX4_beside_0 rfl rfl ?_
  refine P_lload_n (q := 2) dX4_beside_1 rfl rfl ?_
  refine P_cv1 (q := 5) dX4_beside_2 rfl kX4_79 (t_besideAlong hA h1 a ha) rfl rfl (by decide) (by assumption) rfl ⟨by decide, by decide⟩ (Nat.le_of_ble_eq_true rfl) ⟨Nat.le_refl _, Nat.le_refl _⟩ ?_
  refine P_aload_n (q := 6) dX4_beside_5 rfl rfl ?_
  refine P_lload_n (q := 7) dX4_beside_6 rfl rfl ?_
  refine P_cv1 (q := 10) dX4_beside_7 rfl kX4_83 (t_besideAcross hA h1 a ha) rfl rfl (by decide) (by assumption) rfl ⟨by decide, by decide⟩ (Nat.le_of_ble_eq_true rfl) ⟨Nat.le_refl _, Nat.le_refl _⟩ ?_
  refine P_lor (q := 11) dX4_beside_10 rfl ?_
  refine P_lret dX4_beside_11 rfl ?_
  exact ⟨rv_l (lN_or (by omega) (by omega)), rfl⟩
def nt64 : Nat := 2 ^ 64 - 1
theorem nt64_bit (p : Nat) : nt64.testBit p = decide (p < 64) := Nat.testBit_two_pow_sub_one 64 p
theorem nt64_lt : nt64 < 2 ^ 64 := by decide
/-- the cells with the spin that the bit k has -/
def St.lk (A : St) (k : Nat) : Nat := if A.U.testBit k then A.U else mskN A.C A.R &&& (A.U ^^^ nt64)
theorem St.lk_lt {A : St} (hA : A.ok) (k : Nat) : A.lk k < 2 ^ 40 := by
  have h1 := A.U_lt hA
  have h2 := mskN_lt hA.1.2 hA.2.1.2
  unfold St.lk
  split
  · exact h1
  · exact Nat.lt_of_le_of_lt Nat.and_le_left h2
theorem St.lk_bit {A : St} (hA : A.ok) (k p : Nat) : (A.lk k).testBit p = ((mskN A.C A.R).testBit p && (A.U.testBit p == A.U.testBit k)) := by
  unfold St.lk
  by_cases hk : A.U.testBit k = true
  · rw [if_pos hk, hk]
    cases hp : A.U.testBit p
    · rw [show (false == true) = false from rfl, Bool.and_false]
    · rw [A.U_sub hA p hp, show (true == true) = true from rfl, Bool.and_true]
  · rw [if_neg hk, Nat.testBit_and, Nat.testBit_xor, nt64_bit]
    have hk' : A.U.testBit k = false := by simpa using hk
    rw [hk']
    by_cases h : p < 64
    · cases hp : A.U.testBit p <;> simp [h]
    · have e : (mskN A.C A.R).testBit p = false := Nat.testBit_lt_two_pow (Nat.lt_of_lt_of_le (mskN_lt hA.1.2 hA.2.1.2) (Nat.pow_le_pow_right (by decide) (by omega)))
      rw [e, Bool.false_and, Bool.false_and]
set_option maxRecDepth 100000 in
set_option maxHeartbeats 4000000 in
theorem t_alike {σ : Sto} {A : St} (hA : A.ok) (h1 : σ 1 = stO A 2) {k : Nat} (hk : k < 63) : CD mX4_alike [.ref 1, .long (lN (2 ^ k))] 132 σ (some (.long (lN (A.lk k)))) σ := by
  have hU := A.U_lt hA
  have hM := mskN_lt hA.1.2 hA.2.1.2
  have hX : A.U ^^^ nt64 < 2 ^ 64 := Nat.xor_lt_two_pow (by omega) nt64_lt
  refine CP_of (by decide +kernel) (Nat.le_of_ble_eq_true rfl) ?_
  change PW _ _ _ _ 0 [_, _, _] [] _ _ _ _
  refine P_aload_n (q := 1) dX4_alike_0 rfl rfl ?_
  refine P_get (q := 4) dX4_alike_1 rfl fX4_36 (by decide) (by assumption) rfl ?_
  refine P_lload_n (q := 5) dX4_alike_4 rfl rfl ?_
  refine P_land (q := 6) dX4_alike_5 rfl ?_
  refine P_lconst (q := 7) (v := lN 0) dX4_alike_6 rfl (by decide +kernel) ?_
  refine P_lcmp (q := 8) dX4_alike_7 rfl ?_
  refine P_if_eq (q := 11) (tgt := 18) dX4_alike_8 rfl (by decide) (fun c_8 => ?_) (fun c_8 => ?_)
  · rw [bit_test (by omega) hk] at c_8
    refine P_aload_n (q := 19) dX4_alike_18 rfl rfl ?_
    refine P_get (q := 22) dX4_alike_19 rfl fX4_32 (by decide) (by assumption) rfl ?_
    refine P_aload_n (q := 23) dX4_alike_22 rfl rfl ?_
    refine P_get (q := 26) dX4_alike_23 rfl fX4_36 (by decide) (by assumption) rfl ?_
    refine P_ldc2 (q := 29) dX4_alike_26 rfl qX4_86 ?_
    refine P_lxor (q := 30) dX4_alike_29 rfl ?_
    refine P_land (q := 31) dX4_alike_30 rfl ?_
    refine P_lret dX4_alike_31 rfl ?_
    exact ⟨rv_l (by unfold St.lk; first | (rw [if_pos (by simpa using c_8)]) | (rw [if_neg (by rw [c_8]; decide), show (-1 : Int64) = lN nt64 from by decide +kernel, lN_xor, lN_and (by omega) hX])), rfl⟩
  · rw [bit_test (by omega) hk] at c_8
    refine P_aload_n (q := 12) dX4_alike_11 rfl rfl ?_
    refine P_get (q := 15) dX4_alike_12 rfl fX4_36 (by decide) (by assumption) rfl ?_
    refine P_goto (tgt := 31) dX4_alike_15 (by decide) ?_
    refine P_lret dX4_alike_31 rfl ?_
    exact ⟨rv_l (by unfold St.lk; first | (rw [if_pos (by simpa using c_8)]) | (rw [if_neg (by rw [c_8]; decide), show (-1 : Int64) = lN nt64 from by decide +kernel, lN_xor, lN_and (by omega) hX])), rfl⟩
/-! bits counted, of words in parts -/
theorem pcN_or {a b : Nat} (n : Nat) (h : a &&& b = 0) : pcN n (a ||| b) = pcN n a + pcN n b := by
  unfold pcN
  rw [← sumN_add]
  refine sumN_congr fun i _ => ?_
  have := congrArg (fun z => z.testBit i) h
  simp only [Nat.testBit_and, Nat.zero_testBit] at this
  rw [Nat.testBit_or]
  cases h1 : a.testBit i <;> cases h2 : b.testBit i <;> simp_all
theorem pcN_zero (n : Nat) : pcN n 0 = 0 := by
  unfold pcN
  induction n with
  | zero => rfl
  | succ n ih => rw [sumN, ih]; simp
theorem pcN_one (W k : Nat) : ∀ n, k < n → pcN n (2 ^ k &&& W) = (W.testBit k).toNat
  | 0, h => by omega
  | n + 1, h => by
    unfold pcN
    rw [sumN]
    by_cases hk : k = n
    · subst hk
      have e : sumN k (fun i => ((2 ^ k &&& W).testBit i).toNat) = 0 := by
        have : sumN k (fun i => ((2 ^ k &&& W).testBit i).toNat) = sumN k (fun i => (Nat.testBit 0 i).toNat) := sumN_congr fun i hi => by
          rw [Nat.testBit_and, Nat.testBit_two_pow]
          simp [show ¬ k = i by omega]
        rw [this]; exact pcN_zero k
      rw [e, Nat.testBit_and, Nat.testBit_two_pow]
      simp
    · have ih := pcN_one W k n (by omega)
      unfold pcN at ih
      rw [ih, Nat.testBit_and, Nat.testBit_two_pow]
      simp [hk]
def oN (o : Option Nat) (r : Nat) : Nat := match o with
  | none => 0
  | some c => 2 ^ (4 * c + r)
def oB (o : Option Nat) (r W : Nat) : Nat := match o with
  | none => 0
  | some c => (W.testBit (4 * c + r)).toNat
theorem oB_eq {o : Option Nat} {r : Nat} (h : ∀ c, o = some c → 4 * c + r < 64) (W : Nat) : pcN 64 (oN o r &&& W) = oB o r W := by
  cases o with
  | none => simp [oN, oB, pcN_zero]
  | some c => exact pcN_one W _ 64 (h c rfl)
def prvr (C : Nat) (lp : Bool) (c : Nat) : Option Nat := if 0 < c then some (c - 1) else if lp then some (C - 1) else none
def nxtr (C : Nat) (lp : Bool) (c : Nat) : Option Nat := if c + 1 < C then some (c + 1) else if lp then some 0 else none
def upr (r : Nat) : Option Nat := if 0 < r then some (r - 1) else none
def dnr (R r : Nat) : Option Nat := if r + 1 < R then some (r + 1) else none
def vN (c : Nat) (o : Option Nat) : Nat := match o with
  | none => 0
  | some r => 2 ^ (4 * c + r)
def vB (c : Nat) (o : Option Nat) (W : Nat) : Nat := match o with
  | none => 0
  | some r => (W.testBit (4 * c + r)).toNat
theorem vB_eq {o : Option Nat} {c : Nat} (h : ∀ r, o = some r → 4 * c + r < 64) (W : Nat) : pcN 64 (vN c o &&& W) = vB c o W := by
  cases o with
  | none => simp [vN, vB, pcN_zero]
  | some r => exact pcN_one W _ 64 (h r rfl)
def chk1 (C R g c r : Nat) : Bool := decide (
    (bAr C R (decide (g = 1 ∧ 3 ≤ C)) (2 ^ (4 * c + r)) = oN (prvr C (decide (g = 1 ∧ 3 ≤ C)) c) r ||| oN (nxtr C (decide (g = 1 ∧ 3 ≤ C)) c) r ∧ oN (prvr C (decide (g = 1 ∧ 3 ≤ C)) c) r &&& oN (nxtr C (decide (g = 1 ∧ 3 ≤ C)) c) r = 0) ∧
    (bXr C R (2 ^ (4 * c + r)) = vN c (upr r) ||| vN c (dnr R r) ∧ vN c (upr r) &&& vN c (dnr R r) = 0) ∧ bAr C R (decide (g = 1 ∧ 3 ≤ C)) (2 ^ (4 * c + r)) &&& bXr C R (2 ^ (4 * c + r)) = 0)
theorem chk1_all : ((List.range 11).all fun C => (List.range 4).all fun R => (List.range 2).all fun g => (List.range C).all fun c => (List.range R).all fun r => chk1 C R g c r) = true := by decide +kernel
theorem one_dec (C : Nat) (hC : C < 11) (R : Nat) (hR : R < 4) (g : Nat) (hg : g < 2) (c : Nat) (hc : c < C) (r : Nat) (hr : r < R) :
    (bAr C R (decide (g = 1 ∧ 3 ≤ C)) (2 ^ (4 * c + r)) = oN (prvr C (decide (g = 1 ∧ 3 ≤ C)) c) r ||| oN (nxtr C (decide (g = 1 ∧ 3 ≤ C)) c) r ∧ oN (prvr C (decide (g = 1 ∧ 3 ≤ C)) c) r &&& oN (nxtr C (decide (g = 1 ∧ 3 ≤ C)) c) r = 0) ∧
    (bXr C R (2 ^ (4 * c + r)) = vN c (upr r) ||| vN c (dnr R r) ∧ vN c (upr r) &&& vN c (dnr R r) = 0) ∧ bAr C R (decide (g = 1 ∧ 3 ≤ C)) (2 ^ (4 * c + r)) &&& bXr C R (2 ^ (4 * c + r)) = 0 := by
  have h := List.all_eq_true.mp chk1_all C (List.mem_range.mpr hC)
  have h := List.all_eq_true.mp h R (List.mem_range.mpr hR)
  have h := List.all_eq_true.mp h g (List.mem_range.mpr hg)
  have h := List.all_eq_true.mp h c (List.mem_range.mpr hc)
  have h := List.all_eq_true.mp h r (List.mem_range.mpr hr)
  exact of_decide_eq_true h
theorem St.one {A : St} (hA : A.ok) {c r : Nat} (hc : c < A.C) (hr : r < A.R) : (A.bA (2 ^ (4 * c + r)) = oN (A.prv c) r ||| oN (A.nxt c) r ∧ oN (A.prv c) r &&& oN (A.nxt c) r = 0) ∧ (A.bX (2 ^ (4 * c + r)) = vN c (upr r) ||| vN c (dnr A.R r) ∧ vN c (upr r) &&& vN c (dnr A.R r) = 0) ∧ A.bA (2 ^ (4 * c + r)) &&& A.bX (2 ^ (4 * c + r)) = 0 := by
  have hC := hA.1.2
  have hR := hA.2.1.2
  have hg := hA.2.2.1
  exact one_dec A.C (by omega) A.R (by omega) A.g (by omega) c hc r hr
theorem St.prv_lt {A : St} (hA : A.ok) {c c' : Nat} (hc : c < A.C) (h : A.prv c = some c') : c' < A.C := by
  have := hA.1.1
  unfold St.prv at h
  split at h
  · cases h; omega
  · split at h
    · cases h; omega
    · cases h
theorem St.nxt_lt {A : St} (hA : A.ok) {c c' : Nat} (h : A.nxt c = some c') : c' < A.C := by
  have := hA.1.1
  unfold St.nxt at h
  split at h
  · cases h; omega
  · split at h
    · cases h; omega
    · cases h
theorem and_or_r (a b W : Nat) : (a ||| b) &&& W = (a &&& W) ||| (b &&& W) := Nat.and_or_distrib_right ..
theorem and_zero_r {a b : Nat} (h : a &&& b = 0) (W V : Nat) : (a &&& W) &&& (b &&& V) = 0 := by
  apply Nat.eq_of_testBit_eq
  intro i
  have := congrArg (fun z => z.testBit i) h
  simp only [Nat.testBit_and, Nat.zero_testBit] at this ⊢
  cases h1 : a.testBit i <;> cases h2 : b.testBit i <;> simp_all
theorem upr_lt {r R r' : Nat} (h : upr r = some r') (hr : r < R) : r' < R := by
  unfold upr at h; split at h <;> cases h; omega
theorem dnr_lt {r R r' : Nat} (h : dnr R r = some r') : r' < R := by
  unfold dnr at h; split at h <;> cases h; omega
theorem St.cntA {A : St} (hA : A.ok) {c r : Nat} (hc : c < A.C) (hr : r < A.R) (W : Nat) : pcN 64 (A.bA (2 ^ (4 * c + r)) &&& W) = oB (A.prv c) r W + oB (A.nxt c) r W := by
  obtain ⟨⟨h1, h2⟩, -, -⟩ := A.one hA hc hr
  have hC := hA.1.2
  have hR := hA.2.1.2
  rw [h1, and_or_r, pcN_or _ (and_zero_r h2 W W), oB_eq (fun c' h => by have := A.prv_lt hA hc h; omega), oB_eq (fun c' h => by have := A.nxt_lt hA h; omega)]
theorem St.cntX {A : St} (hA : A.ok) {c r : Nat} (hc : c < A.C) (hr : r < A.R) (W : Nat) : pcN 64 (A.bX (2 ^ (4 * c + r)) &&& W) = vB c (upr r) W + vB c (dnr A.R r) W := by
  obtain ⟨-, ⟨h1, h2⟩, -⟩ := A.one hA hc hr
  have hC := hA.1.2
  have hR := hA.2.1.2
  rw [h1, and_or_r, pcN_or _ (and_zero_r h2 W W), vB_eq (fun c' h => by have := upr_lt h hr; omega), vB_eq (fun c' h => by have := dnr_lt h; omega)]
theorem St.cntN {A : St} (hA : A.ok) {c r : Nat} (hc : c < A.C) (hr : r < A.R) (W : Nat) : pcN 64 (A.bN (2 ^ (4 * c + r)) &&& W) = (oB (A.prv c) r W + oB (A.nxt c) r W) + (vB c (upr r) W + vB c (dnr A.R r) W) := by
  obtain ⟨-, -, h⟩ := A.one hA hc hr
  unfold St.bN
  rw [and_or_r, pcN_or _ (and_zero_r h W W), A.cntA hA hc hr, A.cntX hA hc hr]
end
section
/-! SUMS OVER PAIRS OF NEIGHBOURS: told from both ends they are twice what they are told once -/
def oZ (o : Option Nat) (f : Nat → Int) : Int := match o with
  | none => 0
  | some d => f d
def St.cellP (A : St) (fa : Nat → Nat → Nat → Int) (fx : Nat → Nat → Nat → Int) (c r : Nat) : Int := (oZ (A.prv c) (fun d => fa c d r) + oZ (A.nxt c) (fun d => fa c d r)) + (oZ (upr r) (fun q => fx c r q) + oZ (dnr A.R r) (fun q => fx c r q))
def St.halfP (A : St) (fa : Nat → Nat → Nat → Int) (fx : Nat → Nat → Nat → Int) (c r : Nat) : Int := oZ (A.nxt c) (fun d => fa c d r) + oZ (dnr A.R r) (fun q => fx c r q)
theorem col_turn (R : Nat) (hR : R ≤ 3) (f : Nat → Nat → Int) (hs : ∀ a b, f a b = f b a) : sumZ R (fun r => oZ (upr r) (fun q => f r q)) = sumZ R (fun r => oZ (dnr R r) (fun q => f r q)) := by
  have : R = 0 ∨ R = 1 ∨ R = 2 ∨ R = 3 := by omega
  rcases this with rfl | rfl | rfl | rfl
  · rfl
  · simp [sumZ, oZ, upr, dnr]
  · simp [sumZ, oZ, upr, dnr, hs 1 0]
  · simp [sumZ, oZ, upr, dnr, hs 1 0, hs 2 1]
theorem St.row_turn {A : St} (hA : A.ok) (f : Nat → Nat → Int) (hs : ∀ a b, f a b = f b a) : sumZ A.C (fun c => oZ (A.prv c) (fun d => f c d)) = sumZ A.C (fun c => oZ (A.nxt c) (fun d => f c d)) := by
  have hC := hA.1.1
  obtain ⟨n, hn⟩ : ∃ n, A.C = n + 1 := ⟨A.C - 1, by omega⟩
  rw [hn, sumZ_front, sumZ]
  have e1 : sumZ n (fun i => oZ (A.prv (i + 1)) (fun d => f (i + 1) d)) = sumZ n (fun i => f (i + 1) i) := sumZ_congr fun i _ => by
    unfold St.prv; rw [if_pos (by omega)]; rfl
  have e2 : sumZ n (fun i => oZ (A.nxt i) (fun d => f i d)) = sumZ n (fun i => f i (i + 1)) := sumZ_congr fun i hi => by
    unfold St.nxt; rw [if_pos (by omega)]; rfl
  have e3 : sumZ n (fun i => f (i + 1) i) = sumZ n (fun i => f i (i + 1)) := sumZ_congr fun i _ => hs _ _
  have e4 : oZ (A.prv 0) (fun d => f 0 d) = oZ (A.nxt n) (fun d => f n d) := by
    have p0 : A.prv 0 = if A.lp then some (A.C - 1) else none := if_neg (by omega)
    have n0 : A.nxt n = if A.lp then some 0 else none := if_neg (by omega)
    rw [p0, n0]
    cases A.lp
    · rfl
    · show f 0 (A.C - 1) = f n 0
      rw [hs, show A.C - 1 = n by omega]
  rw [e1, e2, e3, e4]
  omega
theorem St.twice {A : St} (hA : A.ok) (fa : Nat → Nat → Nat → Int) (fx : Nat → Nat → Nat → Int) (ha : ∀ c d r, fa c d r = fa d c r) (hx : ∀ c r q, fx c r q = fx c q r) :
    sumZ A.C (fun c => sumZ A.R (fun r => A.cellP fa fx c r)) = 2 * sumZ A.C (fun c => sumZ A.R (fun r => A.halfP fa fx c r)) := by
  have h1 : sumZ A.C (fun c => sumZ A.R (fun r => A.cellP fa fx c r)) = (sumZ A.C (fun c => sumZ A.R (fun r => oZ (A.prv c) (fun d => fa c d r))) + sumZ A.C (fun c => sumZ A.R (fun r => oZ (A.nxt c) (fun d => fa c d r)))) + (sumZ A.C (fun c => sumZ A.R (fun r => oZ (upr r) (fun q => fx c r q))) + sumZ A.C (fun c => sumZ A.R (fun r => oZ (dnr A.R r) (fun q => fx c r q)))) := by
    rw [← sumZ_add, ← sumZ_add, ← sumZ_add]
    refine sumZ_congr fun c _ => ?_
    rw [← sumZ_add, ← sumZ_add, ← sumZ_add]
    rfl
  have h2 : sumZ A.C (fun c => sumZ A.R (fun r => A.halfP fa fx c r)) = sumZ A.C (fun c => sumZ A.R (fun r => oZ (A.nxt c) (fun d => fa c d r))) + sumZ A.C (fun c => sumZ A.R (fun r => oZ (dnr A.R r) (fun q => fx c r q))) := by
    rw [← sumZ_add]
    refine sumZ_congr fun c _ => ?_
    rw [← sumZ_add]
    rfl
  have h3 : sumZ A.C (fun c => sumZ A.R (fun r => oZ (A.prv c) (fun d => fa c d r))) = sumZ A.C (fun c => sumZ A.R (fun r => oZ (A.nxt c) (fun d => fa c d r))) := by
    rw [sumZ_swap, sumZ_swap A.C]
    exact sumZ_congr fun r _ => A.row_turn hA (fun c d => fa c d r) (fun a b => ha a b r)
  have h4 : sumZ A.C (fun c => sumZ A.R (fun r => oZ (upr r) (fun q => fx c r q))) = sumZ A.C (fun c => sumZ A.R (fun r => oZ (dnr A.R r) (fun q => fx c r q))) := sumZ_congr fun c _ => col_turn A.R hA.2.1.2 (fun a b => fx c a b) (fun a b => hx c a b)
  rw [h1, h2, h3, h4]
  omega
/-- the energy -/
def St.EP (A : St) : Int := sumZ A.C (fun c => sumZ A.R (fun r => A.halfP (fun c d r => A.al * (A.s c r * A.s d r)) (fun c r q => A.ac * (A.s c r * A.s c q)) c r))
def St.EF (A : St) : Int := sumZ A.C (fun c => sumZ A.R (fun r => A.s c r * A.fd c r))
def St.E (A : St) : Int := -(A.EP + A.EF)
theorem oZ_mul (o : Option Nat) (k : Int) (f : Nat → Int) : k * oZ o f = oZ o (fun d => k * f d) := by cases o <;> simp [oZ]
theorem St.sA_oZ (A : St) (c r : Nat) : A.sA c r = oZ (A.prv c) (fun d => A.s d r) + oZ (A.nxt c) (fun d => A.s d r) := by
  unfold St.sA
  cases A.prv c <;> cases A.nxt c <;> rfl
theorem St.sX_oZ (A : St) (c r : Nat) : A.sX c r = oZ (upr r) (fun q => A.s c q) + oZ (dnr A.R r) (fun q => A.s c q) := by
  unfold St.sX upr dnr
  split <;> split <;> rfl
theorem St.cellE (A : St) (c r : Nat) : A.s c r * (A.al * A.sA c r + A.ac * A.sX c r) = A.cellP (fun c d r => A.al * (A.s c r * A.s d r)) (fun c r q => A.ac * (A.s c r * A.s c q)) c r := by
  rw [A.sA_oZ, A.sX_oZ]
  unfold St.cellP
  simp only [← oZ_mul]
  simp only [Int.mul_add]
  congr 1 <;> congr 1 <;> rw [Int.mul_left_comm]
theorem St.EP_twice {A : St} (hA : A.ok) : sumZ A.C (fun c => sumZ A.R (fun r => A.s c r * (A.al * A.sA c r + A.ac * A.sX c r))) = 2 * A.EP := by
  have h : sumZ A.C (fun c => sumZ A.R (fun r => A.s c r * (A.al * A.sA c r + A.ac * A.sX c r))) = sumZ A.C (fun c => sumZ A.R (fun r => A.cellP (fun c d r => A.al * (A.s c r * A.s d r)) (fun c r q => A.ac * (A.s c r * A.s c q)) c r)) := sumZ_congr fun c _ => sumZ_congr fun r _ => A.cellE c r
  rw [h, A.twice hA _ _ (fun c d r => by rw [Int.mul_comm (A.s c r)]) (fun c r q => by rw [Int.mul_comm (A.s c r)])]
  rfl
theorem sumZ2_in {C R : Nat} (hC : C ≤ 10) (hR : R ≤ 3) {f : Nat → Nat → Int} {b : Int} (hb : 0 ≤ b) (h : ∀ c r, c < C → r < R → -b ≤ f c r ∧ f c r ≤ b) : -(30 * b) ≤ sumZ C (fun c => sumZ R (fun r => f c r)) ∧ sumZ C (fun c => sumZ R (fun r => f c r)) ≤ 30 * b := by
  have h1 : ∀ c, c < C → -(3 * b) ≤ sumZ R (fun r => f c r) ∧ sumZ R (fun r => f c r) ≤ 3 * b := fun c hc => by
    have a1 := sumZ_le (n := R) (f := fun r => f c r) (b := b) (fun r hr => (h c r hc hr).2)
    have a2 := sumZ_ge (n := R) (f := fun r => f c r) (b := -b) (fun r hr => (h c r hc hr).1)
    have a3 : (R : Int) * b ≤ 3 * b := Int.mul_le_mul_of_nonneg_right (by omega) hb
    rw [Int.mul_neg] at a2
    omega
  have b1 := sumZ_le (n := C) (f := fun c => sumZ R (fun r => f c r)) (b := 3 * b) (fun c hc => (h1 c hc).2)
  have b2 := sumZ_ge (n := C) (f := fun c => sumZ R (fun r => f c r)) (b := -(3 * b)) (fun c hc => (h1 c hc).1)
  have b3 : (C : Int) * (3 * b) ≤ 10 * (3 * b) := Int.mul_le_mul_of_nonneg_right (by omega) (by omega)
  rw [Int.mul_neg] at b2
  omega
theorem St.EP_in {A : St} (hA : A.ok) : -240 ≤ A.EP ∧ A.EP ≤ 240 := by
  have h := sumZ2_in (f := fun c r => A.s c r * (A.al * A.sA c r + A.ac * A.sX c r)) hA.1.2 hA.2.1.2 (b := 8) (by omega) (fun c r _ _ => by
    have h1 := mul_in (A := 2) (B := 2) hA.2.2.2.1.1 hA.2.2.2.1.2 (A.sA_in c r).1 (A.sA_in c r).2
    have h2 := mul_in (A := 2) (B := 2) hA.2.2.2.2.1.1 hA.2.2.2.2.1.2 (A.sX_in c r).1 (A.sX_in c r).2
    rcases A.s_pm c r with e | e <;> rw [e] <;> omega)
  rw [A.EP_twice hA] at h
  omega
theorem St.EF_in {A : St} (hA : A.ok) : -90 ≤ A.EF ∧ A.EF ≤ 90 := by
  have h := sumZ2_in (f := fun c r => A.s c r * A.fd c r) hA.1.2 hA.2.1.2 (b := 3) (by omega) (fun c r _ _ => by
    have h3 := hA.2.2.2.2.2.2.2 c r
    rcases A.s_pm c r with e | e <;> rw [e] <;> omega)
  exact h
theorem St.E_in {A : St} (hA : A.ok) : -330 ≤ A.E ∧ A.E ≤ 330 := by
  have h1 := A.EP_in hA
  have h2 := A.EF_in hA
  unfold St.E; omega
/-- walls and pairs -/
def bZ (b : Bool) : Int := if b then 1 else 0
def St.WL (A : St) : Int := sumZ A.C (fun c => sumZ A.R (fun r => A.halfP (fun c d r => bZ (A.s c r != A.s d r)) (fun c r q => bZ (A.s c r != A.s c q)) c r))
def St.PR (A : St) : Int := sumZ A.C (fun c => sumZ A.R (fun r => A.halfP (fun _ _ _ => 1) (fun _ _ _ => 1) c r))
theorem St.WL_twice {A : St} (hA : A.ok) : sumZ A.C (fun c => sumZ A.R (fun r => A.cellP (fun c d r => bZ (A.s c r != A.s d r)) (fun c r q => bZ (A.s c r != A.s c q)) c r)) = 2 * A.WL :=
  A.twice hA _ _ (fun c d r => by rw [bne_comm]) (fun c r q => by rw [bne_comm])
theorem St.PR_twice {A : St} (hA : A.ok) : sumZ A.C (fun c => sumZ A.R (fun r => A.cellP (fun _ _ _ => 1) (fun _ _ _ => 1) c r)) = 2 * A.PR :=
  A.twice hA _ _ (fun c d r => rfl) (fun c r q => rfl)
theorem iI_half {x : Int} (h1 : -100000 ≤ x) (h2 : x ≤ 100000) : iI (2 * x) / nI 2 = iI x := by
  apply Int32.toInt_inj.mp
  rw [Int32.toInt_div, iI_toInt (by omega) (by omega), iI_toInt (by omega) (by omega), show (nI 2).toInt = 2 from by decide, Int.mul_tdiv_cancel_left _ (by decide)]
  exact Int.bmod_eq_of_le (by omega) (by omega)
end
section
/-! THE STRIP: gains, energy, walls, pairs -/
set_option maxRecDepth 100000 in
set_option maxHeartbeats 4000000 in
theorem t_spinSum {σ : Sto} {A : St} (hA : A.ok) (h1 : σ 1 = stO A 2) (a : Nat) (ha : a < 2 ^ 40) : CD mX4_spinSum [.ref 1, .long (lN a)] 132 σ (some (.int (iI (2 * (pcN 64 (a &&& A.U) : Int) - pcN 64 a)))) σ := by
  have hU := A.U_lt hA
  have hx : a &&& A.U < 2 ^ 64 := Nat.lt_of_le_of_lt Nat.and_le_left (by omega)
  refine CP_of (by decide +kernel) (Nat.le_of_ble_eq_true rfl) ?_
  change PW _ _ _ _ 0 [_, _, _] [] _ _ _ _
  refine P_iconst (q := 1) (v := nI 2) dX4_spinSum_0 rfl (by decide +kernel) ?_
  refine P_lload_n (q := 2) dX4_spinSum_1 rfl rfl ?_
  refine P_aload_n (q := 3) dX4_spinSum_2 rfl rfl ?_
  refine P_get (q := 6) dX4_spinSum_3 rfl fX4_36 (by decide) (by assumption) rfl ?_
  refine P_land (q := 7) dX4_spinSum_6 rfl ?_
  rw [lN_and (by omega) (by omega)]
  refine P_cs1 (q := 10) dX4_spinSum_7 rfl kX4_69 (t_bitCount _ hx) rfl rfl ⟨by decide, by decide⟩ (Nat.le_of_ble_eq_true rfl) ⟨Nat.le_refl _, Nat.le_refl _⟩ ?_
  refine P_imul (q := 11) dX4_spinSum_10 rfl ?_
  refine P_lload_n (q := 12) dX4_spinSum_11 rfl rfl ?_
  refine P_cs1 (q := 15) dX4_spinSum_12 rfl kX4_69 (t_bitCount a (by omega)) rfl rfl ⟨by decide, by decide⟩ (Nat.le_of_ble_eq_true rfl) ⟨Nat.le_refl _, Nat.le_refl _⟩ ?_
  refine P_isub (q := 16) dX4_spinSum_15 rfl ?_
  refine P_iret dX4_spinSum_16 rfl (rfl) ?_
  exact ⟨rv_i (by rw [iI_nI, iI_nI, iI_nI, iI_mul, iI_sub]; rfl), rfl⟩
theorem pcN_all {a : Nat} (ha : a < 2 ^ 64) : pcN 64 a = pcN 64 (a &&& nt64) := by
  rw [show a &&& nt64 = a from by unfold nt64; rw [Nat.and_two_pow_sub_one_eq_mod, Nat.mod_eq_of_lt ha]]
theorem oB_so {A : St} (hA : A.ok) {o : Option Nat} {r : Nat} (hr : r < A.R) (ho : ∀ c, o = some c → c < A.C) : 2 * (oB o r A.U : Int) - oB o r nt64 = oZ o (fun d => A.s d r) := by
  have hC := hA.1.2
  have hR := hA.2.1.2
  cases o with
  | none => rfl
  | some c =>
    have hc := ho c rfl
    have e : nt64.testBit (4 * c + r) = true := by rw [nt64_bit]; exact decide_eq_true (by omega)
    show 2 * (((A.U.testBit (4 * c + r)).toNat : Nat) : Int) - (((nt64.testBit (4 * c + r)).toNat : Nat) : Int) = A.s c r
    rw [e, A.U_cr hA c (by omega)]
    unfold St.s
    cases (A.sp c).testBit r <;> simp
theorem vB_so {A : St} (hA : A.ok) {o : Option Nat} {c : Nat} (hc : c < A.C) (ho : ∀ r, o = some r → r < A.R) : 2 * (vB c o A.U : Int) - vB c o nt64 = oZ o (fun q => A.s c q) := by
  have hC := hA.1.2
  have hR := hA.2.1.2
  cases o with
  | none => rfl
  | some r =>
    have hr := ho r rfl
    have e : nt64.testBit (4 * c + r) = true := by rw [nt64_bit]; exact decide_eq_true (by omega)
    show 2 * (((A.U.testBit (4 * c + r)).toNat : Nat) : Int) - (((nt64.testBit (4 * c + r)).toNat : Nat) : Int) = A.s c r
    rw [e, A.U_cr hA c (by omega)]
    unfold St.s
    cases (A.sp c).testBit r <;> simp
theorem St.sumA {A : St} (hA : A.ok) {c r : Nat} (hc : c < A.C) (hr : r < A.R) : 2 * (pcN 64 (A.bA (2 ^ (4 * c + r)) &&& A.U) : Int) - pcN 64 (A.bA (2 ^ (4 * c + r))) = A.sA c r := by
  have h1 := oB_so hA hr (fun d h => A.prv_lt hA hc h)
  have h2 := oB_so hA hr (fun d h => A.nxt_lt hA (c := c) h)
  rw [pcN_all (Nat.lt_of_lt_of_le (A.bA_lt hA _) (by decide)), A.cntA hA hc hr, A.cntA hA hc hr, A.sA_oZ, ← h1, ← h2]
  omega
theorem St.sumX {A : St} (hA : A.ok) {c r : Nat} (hc : c < A.C) (hr : r < A.R) : 2 * (pcN 64 (A.bX (2 ^ (4 * c + r)) &&& A.U) : Int) - pcN 64 (A.bX (2 ^ (4 * c + r))) = A.sX c r := by
  have h1 := vB_so hA hc (fun q h => upr_lt (R := A.R) h hr)
  have h2 := vB_so hA hc (fun q h => dnr_lt (r := r) h)
  rw [pcN_all (Nat.lt_of_lt_of_le (A.bX_lt hA _) (by decide)), A.cntX hA hc hr, A.cntX hA hc hr, A.sX_oZ, ← h1, ← h2]
  omega
theorem one_lt {A : St} (hA : A.ok) {c r : Nat} (hc : c < A.C) (hr : r < A.R) : 2 ^ (4 * c + r) < 2 ^ 40 := by
  have hC := hA.1.2
  have hR := hA.2.1.2
  exact Nat.pow_lt_pow_right (by decide) (by omega)
set_option maxRecDepth 100000 in
set_option maxHeartbeats 4000000 in
theorem t_pull {σ : Sto} {A : St} (hA : A.ok) (h1 : σ 1 = stO A 2) {r c : Nat} (hr : r < A.R) (hc : c < A.C) : CD mX4_pullOfNeighbours [.ref 1, .long (lN (2 ^ (4 * c + r)))] 132 σ (some (.int (iI (A.al * A.sA c r + A.ac * A.sX c r)))) σ := by
  have h40 := one_lt hA hc hr
  refine CP_of (by decide +kernel) (Nat.le_of_ble_eq_true rfl) ?_
  change PW _ _ _ _ 0 [_, _, _] [] _ _ _ _
  refine P_aload_n (q := 1) dX4_pullOfNeighbours_0 rfl rfl ?_
  refine P_get (q := 4) dX4_pullOfNeighbours_1 rfl fX4_22 (by decide) (by assumption) rfl ?_
  refine P_aload_n (q := 5) dX4_pullOfNeighbours_4 rfl rfl ?_
  refine P_aload_n (q := 6) dX4_pullOfNeighbours_5 rfl rfl ?_
  refine P_lload_n (q := 7) dX4_pullOfNeighbours_6 rfl rfl ?_
  refine P_cv1 (q := 10) dX4_pullOfNeighbours_7 rfl kX4_79 (t_besideAlong hA h1 _ h40) rfl rfl (by decide) (by assumption) rfl ⟨by decide, by decide⟩ (Nat.le_of_ble_eq_true rfl) ⟨Nat.le_refl _, Nat.le_refl _⟩ ?_
  refine P_cv1 (q := 13) dX4_pullOfNeighbours_10 rfl kX4_88 (t_spinSum hA h1 _ (A.bA_lt hA _)) rfl rfl (by decide) (by assumption) rfl ⟨by decide, by decide⟩ (Nat.le_of_ble_eq_true rfl) ⟨Nat.le_refl _, Nat.le_refl _⟩ ?_
  rw [A.sumA hA hc hr]
  refine P_imul (q := 14) dX4_pullOfNeighbours_13 rfl ?_
  refine P_aload_n (q := 15) dX4_pullOfNeighbours_14 rfl rfl ?_
  refine P_get (q := 18) dX4_pullOfNeighbours_15 rfl fX4_25 (by decide) (by assumption) rfl ?_
  refine P_aload_n (q := 19) dX4_pullOfNeighbours_18 rfl rfl ?_
  refine P_aload_n (q := 20) dX4_pullOfNeighbours_19 rfl rfl ?_
  refine P_lload_n (q := 21) dX4_pullOfNeighbours_20 rfl rfl ?_
  refine P_cv1 (q := 24) dX4_pullOfNeighbours_21 rfl kX4_83 (t_besideAcross hA h1 _ h40) rfl rfl (by decide) (by assumption) rfl ⟨by decide, by decide⟩ (Nat.le_of_ble_eq_true rfl) ⟨Nat.le_refl _, Nat.le_refl _⟩ ?_
  refine P_cv1 (q := 27) dX4_pullOfNeighbours_24 rfl kX4_88 (t_spinSum hA h1 _ (A.bX_lt hA _)) rfl rfl (by decide) (by assumption) rfl ⟨by decide, by decide⟩ (Nat.le_of_ble_eq_true rfl) ⟨Nat.le_refl _, Nat.le_refl _⟩ ?_
  rw [A.sumX hA hc hr]
  refine P_imul (q := 28) dX4_pullOfNeighbours_27 rfl ?_
  refine P_iadd (q := 29) dX4_pullOfNeighbours_28 rfl ?_
  refine P_iret dX4_pullOfNeighbours_29 rfl (rfl) ?_
  exact ⟨rv_i (by rw [iI_mul, iI_mul, iI_add]), rfl⟩
set_option maxRecDepth 100000 in
set_option maxHeartbeats 4000000 in
theorem t_gain {σ : Sto} {A : St} {f : Nat → Int32} (hA : A.ok) (h1 : σ 1 = stO A 2) (h2 : σ 2 = pI .int 40 f) (hf : stF A f) {r c : Nat} (hr : r < A.R) (hc : c < A.C) : CD mX4_gain [.ref 1, .int (nI r), .int (nI c)] 132 σ (some (.int (iI (A.gain c r)))) σ := by
  have hC := hA.1.2
  have hR := hA.2.1.2
  refine CP_of (by decide +kernel) (Nat.le_of_ble_eq_true rfl) ?_
  change PW _ _ _ _ 0 [_, _, _, _] [] _ _ _ _
  refine P_aload_n (q := 1) dX4_gain_0 rfl rfl ?_
  refine P_iload_n (q := 2) dX4_gain_1 rfl rfl ?_
  refine P_iload_n (q := 3) dX4_gain_2 rfl rfl ?_
  refine P_cs1 (q := 6) dX4_gain_3 rfl kX4_62 (t_bit r c (by omega)) rfl rfl ⟨by decide, by decide⟩ (Nat.le_of_ble_eq_true rfl) ⟨Nat.le_refl _, Nat.le_refl _⟩ ?_
  refine P_cv1 (q := 9) dX4_gain_6 rfl kX4_91 (t_pull hA h1 hr hc) rfl rfl (by decide) (by assumption) rfl ⟨by decide, by decide⟩ (Nat.le_of_ble_eq_true rfl) ⟨Nat.le_refl _, Nat.le_refl _⟩ ?_
  refine P_aload_n (q := 10) dX4_gain_9 rfl rfl ?_
  refine P_iload_n (q := 11) dX4_gain_10 rfl rfl ?_
  refine P_iload_n (q := 12) dX4_gain_11 rfl rfl ?_
  refine P_cv1 (q := 15) dX4_gain_12 rfl kX4_94 (t_fieldAt hA h1 h2 hf hr hc) rfl rfl (by decide) (by assumption) rfl ⟨by decide, by decide⟩ (Nat.le_of_ble_eq_true rfl) ⟨Nat.le_refl _, Nat.le_refl _⟩ ?_
  refine P_iadd (q := 16) dX4_gain_15 rfl ?_
  refine P_istore_n (q := 17) (L' := [_, _, _, _]) dX4_gain_16 rfl (by decide) rfl ?_
  refine P_bipush (q := 19) (v := (-2)) dX4_gain_17 rfl (by decide +kernel) ?_
  refine P_aload_n (q := 20) dX4_gain_19 rfl rfl ?_
  refine P_iload_n (q := 21) dX4_gain_20 rfl rfl ?_
  refine P_iload_n (q := 22) dX4_gain_21 rfl rfl ?_
  refine P_cv1 (q := 25) dX4_gain_22 rfl kX4_97 (t_spinAt hA h1 hr hc) rfl rfl (by decide) (by assumption) rfl ⟨by decide, by decide⟩ (Nat.le_of_ble_eq_true rfl) ⟨Nat.le_refl _, Nat.le_refl _⟩ ?_
  refine P_imul (q := 26) dX4_gain_25 rfl ?_
  refine P_iload_n (q := 27) dX4_gain_26 rfl rfl ?_
  refine P_imul (q := 28) dX4_gain_27 rfl ?_
  refine P_iret dX4_gain_28 rfl (rfl) ?_
  exact ⟨rv_i (by rw [show (-2 : Int32) = iI (-2) from rfl, iI_add, iI_mul, iI_mul]; rfl), rfl⟩
def St.pP (A : St) (c r : Nat) : Int := A.s c r * (A.al * A.sA c r + A.ac * A.sX c r)
def St.pF (A : St) (c r : Nat) : Int := A.s c r * A.fd c r
set_option maxRecDepth 100000 in
set_option maxHeartbeats 4000000 in
theorem w_energy1 {σ : Sto} {A : St} {f : Nat → Int32} (hA : A.ok) (h1 : σ 1 = stO A 2) (h2 : σ 2 = pI .int 40 f) (hf : stF A f) {c : Nat} (hc : c < A.C) (K : ∀ x4 x5 : Option Value, PW mX4_energy 0 0 (fun v σ' => v = some (.int (iI A.E)) ∧ σ' = σ) 6 [some (.ref 1), some (.int (iI (sumZ (c + 1) (fun c => sumZ A.R (A.pP c))))), some (.int (iI (sumZ (c + 1) (fun c => sumZ A.R (A.pF c))))), some (.int (nI (c + 1))), x4, x5] [] 132 σ 0 0) : ∀ k r, r + k = A.R → ∀ x5 : Option Value, PW mX4_energy 0 0 (fun v σ' => v = some (.int (iI A.E)) ∧ σ' = σ) 17 [some (.ref 1), some (.int (iI (sumZ c (fun c => sumZ A.R (A.pP c)) + sumZ r (A.pP c)))), some (.int (iI (sumZ c (fun c => sumZ A.R (A.pF c)) + sumZ r (A.pF c)))), some (.int (nI c)), some (.int (nI r)), x5] [] 132 σ 0 0 := by
  have hC := hA.1.2
  have hR := hA.2.1.2
  intro k
  induction k with
  | zero =>
    intro r hr x5
    have e : r = A.R := by omega
    subst e
    refine P_iload (q := 19) dX4_energy_17 rfl rfl ?_
    refine P_aload_n (q := 20) dX4_energy_19 rfl rfl ?_
    refine P_get (q := 23) dX4_energy_20 rfl fX4_15 (by decide) (by assumption) rfl ?_
    refine P_icmp_ge (q := 26) (tgt := 70) dX4_energy_23 rfl (by decide) (fun c_23 => ?_) (fun c_23 => ?_)
    · rw [nI_leI (by omega) (by omega)] at c_23
      refine P_iinc (q := 73) (L' := [_, _, _, _, _, _]) (v := nI (c + 1)) dX4_energy_70 rfl (by decide) rfl (nI_1 c) rfl ?_
      refine P_goto (tgt := 6) dX4_energy_73 (by decide) ?_
      exact K _ _
    · exfalso; rw [nI_leI (by omega) (by omega)] at c_23; omega
  | succ k ih =>
    intro r hr x5
    have hr' : r < A.R := by omega
    refine P_iload (q := 19) dX4_energy_17 rfl rfl ?_
    refine P_aload_n (q := 20) dX4_energy_19 rfl rfl ?_
    refine P_get (q := 23) dX4_energy_20 rfl fX4_15 (by decide) (by assumption) rfl ?_
    refine P_icmp_ge (q := 26) (tgt := 70) dX4_energy_23 rfl (by decide) (fun c_23 => ?_) (fun c_23 => ?_)
    · exfalso; rw [nI_leI (by omega) (by omega)] at c_23; omega
    · rw [nI_leI (by omega) (by omega)] at c_23
      refine P_aload_n (q := 27) dX4_energy_26 rfl rfl ?_
      refine P_iload (q := 29) dX4_energy_27 rfl rfl ?_
      refine P_iload_n (q := 30) dX4_energy_29 rfl rfl ?_
      refine P_cv1 (q := 33) dX4_energy_30 rfl kX4_97 (t_spinAt hA h1 hr' hc) rfl rfl (by decide) (by assumption) rfl ⟨by decide, by decide⟩ (Nat.le_of_ble_eq_true rfl) ⟨Nat.le_refl _, Nat.le_refl _⟩ ?_
      refine P_istore (q := 35) (L' := [_, _, _, _, _, _]) dX4_energy_33 rfl (by decide) rfl ?_
      refine P_iload_n (q := 36) dX4_energy_35 rfl rfl ?_
      refine P_iload (q := 38) dX4_energy_36 rfl rfl ?_
      refine P_aload_n (q := 39) dX4_energy_38 rfl rfl ?_
      refine P_iload (q := 41) dX4_energy_39 rfl rfl ?_
      refine P_iload_n (q := 42) dX4_energy_41 rfl rfl ?_
      refine P_cs1 (q := 45) dX4_energy_42 rfl kX4_62 (t_bit r c (by omega)) rfl rfl ⟨by decide, by decide⟩ (Nat.le_of_ble_eq_true rfl) ⟨Nat.le_refl _, Nat.le_refl _⟩ ?_
      refine P_cv1 (q := 48) dX4_energy_45 rfl kX4_91 (t_pull hA h1 hr' hc) rfl rfl (by decide) (by assumption) rfl ⟨by decide, by decide⟩ (Nat.le_of_ble_eq_true rfl) ⟨Nat.le_refl _, Nat.le_refl _⟩ ?_
      refine P_imul (q := 49) dX4_energy_48 rfl ?_
      refine P_iadd (q := 50) dX4_energy_49 rfl ?_
      rw [iI_mul, iI_add, Int.add_assoc]
      refine P_istore_n (q := 51) (L' := [_, _, _, _, _, _]) dX4_energy_50 rfl (by decide) rfl ?_
      refine P_iload_n (q := 52) dX4_energy_51 rfl rfl ?_
      refine P_iload (q := 54) dX4_energy_52 rfl rfl ?_
      refine P_aload_n (q := 55) dX4_energy_54 rfl rfl ?_
      refine P_iload (q := 57) dX4_energy_55 rfl rfl ?_
      refine P_iload_n (q := 58) dX4_energy_57 rfl rfl ?_
      refine P_cv1 (q := 61) dX4_energy_58 rfl kX4_94 (t_fieldAt hA h1 h2 hf hr' hc) rfl rfl (by decide) (by assumption) rfl ⟨by decide, by decide⟩ (Nat.le_of_ble_eq_true rfl) ⟨Nat.le_refl _, Nat.le_refl _⟩ ?_
      refine P_imul (q := 62) dX4_energy_61 rfl ?_
      refine P_iadd (q := 63) dX4_energy_62 rfl ?_
      rw [iI_mul, iI_add, Int.add_assoc]
      refine P_istore_n (q := 64) (L' := [_, _, _, _, _, _]) dX4_energy_63 rfl (by decide) rfl ?_
      refine P_iinc (q := 67) (L' := [_, _, _, _, _, _]) (v := nI (r + 1)) dX4_energy_64 rfl (by decide) rfl (nI_1 r) rfl ?_
      refine P_goto (tgt := 17) dX4_energy_67 (by decide) ?_
      exact ih (r + 1) (by omega) _
set_option maxRecDepth 100000 in
set_option maxHeartbeats 4000000 in
theorem w_energy0 {σ : Sto} {A : St} {f : Nat → Int32} (hA : A.ok) (h1 : σ 1 = stO A 2) (h2 : σ 2 = pI .int 40 f) (hf : stF A f) : ∀ k c, c + k = A.C → ∀ x4 x5 : Option Value, PW mX4_energy 0 0 (fun v σ' => v = some (.int (iI A.E)) ∧ σ' = σ) 6 [some (.ref 1), some (.int (iI (sumZ c (fun c => sumZ A.R (A.pP c))))), some (.int (iI (sumZ c (fun c => sumZ A.R (A.pF c))))), some (.int (nI c)), x4, x5] [] 132 σ 0 0 := by
  have hC := hA.1.2
  have hR := hA.2.1.2
  intro k
  induction k with
  | zero =>
    intro c hc x4 x5
    have e : c = A.C := by omega
    subst e
    have hE := A.EP_twice hA
    have hI := A.EP_in hA
    change sumZ A.C (fun c => sumZ A.R (A.pP c)) = 2 * A.EP at hE
    refine P_iload_n (q := 7) dX4_energy_6 rfl rfl ?_
    refine P_aload_n (q := 8) dX4_energy_7 rfl rfl ?_
    refine P_get (q := 11) dX4_energy_8 rfl fX4_9 (by decide) (by assumption) rfl ?_
    refine P_icmp_ge (q := 14) (tgt := 76) dX4_energy_11 rfl (by decide) (fun c_11 => ?_) (fun c_11 => ?_)
    · rw [nI_leI (by omega) (by omega)] at c_11
      refine P_iload_n (q := 77) dX4_energy_76 rfl rfl ?_
      refine P_iconst (q := 78) (v := nI 2) dX4_energy_77 rfl (by decide +kernel) ?_
      refine P_idiv (q := 79) dX4_energy_78 rfl (by decide) ?_
      refine P_iload_n (q := 80) dX4_energy_79 rfl rfl ?_
      refine P_iadd (q := 81) dX4_energy_80 rfl ?_
      refine P_ineg (q := 82) dX4_energy_81 rfl ?_
      refine P_iret dX4_energy_82 rfl (rfl) ?_
      exact ⟨rv_i (by rw [hE, iI_half (by omega) (by omega), iI_add, iI_neg]; rfl), rfl⟩
    · exfalso; rw [nI_leI (by omega) (by omega)] at c_11; omega
  | succ k ih =>
    intro c hc x4 x5
    refine P_iload_n (q := 7) dX4_energy_6 rfl rfl ?_
    refine P_aload_n (q := 8) dX4_energy_7 rfl rfl ?_
    refine P_get (q := 11) dX4_energy_8 rfl fX4_9 (by decide) (by assumption) rfl ?_
    refine P_icmp_ge (q := 14) (tgt := 76) dX4_energy_11 rfl (by decide) (fun c_11 => ?_) (fun c_11 => ?_)
    · exfalso; rw [nI_leI (by omega) (by omega)] at c_11; omega
    · rw [nI_leI (by omega) (by omega)] at c_11
      refine P_iconst (q := 15) (v := nI 0) dX4_energy_14 rfl (by decide +kernel) ?_
      refine P_istore (q := 17) (L' := [_, _, _, _, _, _]) dX4_energy_15 rfl (by decide) rfl ?_
      have h := w_energy1 hA h1 h2 hf (show c < A.C by omega) (fun x4 x5 => ih (c + 1) (by omega) x4 x5) A.R 0 (by omega) x5
      rw [show sumZ 0 (A.pP c) = 0 from rfl, show sumZ 0 (A.pF c) = 0 from rfl, Int.add_zero, Int.add_zero] at h
      exact h
set_option maxRecDepth 100000 in
set_option maxHeartbeats 4000000 in
theorem t_energy {σ : Sto} {A : St} {f : Nat → Int32} (hA : A.ok) (h1 : σ 1 = stO A 2) (h2 : σ 2 = pI .int 40 f) (hf : stF A f) : CD mX4_energy [.ref 1] 132 σ (some (.int (iI A.E))) σ := by
  refine CP_of (by decide +kernel) (Nat.le_of_ble_eq_true rfl) ?_
  change PW _ _ _ _ 0 [_, _, _, _, _, _] [] _ _ _ _
  refine P_iconst (q := 1) (v := nI 0) dX4_energy_0 rfl (by decide +kernel) ?_
  refine P_istore_n (q := 2) (L' := [_, _, _, _, _, _]) dX4_energy_1 rfl (by decide) rfl ?_
  refine P_iconst (q := 3) (v := nI 0) dX4_energy_2 rfl (by decide +kernel) ?_
  refine P_istore_n (q := 4) (L' := [_, _, _, _, _, _]) dX4_energy_3 rfl (by decide) rfl ?_
  refine P_iconst (q := 5) (v := nI 0) dX4_energy_4 rfl (by decide +kernel) ?_
  refine P_istore_n (q := 6) (L' := [_, _, _, _, _, _]) dX4_energy_5 rfl (by decide) rfl ?_
  exact w_energy0 hA h1 h2 hf A.C 0 (by omega) _ _
end
section
/-! THE STRIP: walls, pairs, cells that a sweep would turn -/
theorem oB_bz {A : St} {o : Option Nat} {r W : Nat} (P : Nat → Bool) (h : ∀ d, o = some d → W.testBit (4 * d + r) = P d) : ((oB o r W : Nat) : Int) = oZ o (fun d => bZ (P d)) := by
  cases o with
  | none => rfl
  | some d =>
    show (((W.testBit (4 * d + r)).toNat : Nat) : Int) = bZ (P d)
    rw [h d rfl]
    cases P d <;> rfl
theorem vB_bz {A : St} {o : Option Nat} {c W : Nat} (P : Nat → Bool) (h : ∀ q, o = some q → W.testBit (4 * c + q) = P q) : ((vB c o W : Nat) : Int) = oZ o (fun q => bZ (P q)) := by
  cases o with
  | none => rfl
  | some q =>
    show (((W.testBit (4 * c + q)).toNat : Nat) : Int) = bZ (P q)
    rw [h q rfl]
    cases P q <;> rfl
theorem St.s_eq {A : St} (hA : A.ok) {c r d q : Nat} (hr : r < A.R) (hq : q < A.R) : (A.U.testBit (4 * d + q) == A.U.testBit (4 * c + r)) = (A.s c r == A.s d q) := by
  have hR := hA.2.1.2
  rw [A.U_cr hA c (by omega), A.U_cr hA d (by omega)]
  unfold St.s
  cases (A.sp c).testBit r <;> cases (A.sp d).testBit q <;> decide
theorem St.lk_cr {A : St} (hA : A.ok) {c r d q : Nat} (hd : d < A.C) (hr : r < A.R) (hq : q < A.R) : (A.lk (4 * c + r)).testBit (4 * d + q) = (A.s c r == A.s d q) := by
  have hR := hA.2.1.2
  rw [A.lk_bit hA, mskN_bit hR, A.s_eq hA hr hq, show (4 * d + q) / 4 = d by omega, show (4 * d + q) % 4 = q by omega, decide_eq_true hd, decide_eq_true hq, Bool.true_and, Bool.true_and]
theorem St.nlk_cr {A : St} (hA : A.ok) {c r d q : Nat} (hd : d < A.C) (hr : r < A.R) (hq : q < A.R) : (A.lk (4 * c + r) ^^^ nt64).testBit (4 * d + q) = (A.s c r != A.s d q) := by
  have hC := hA.1.2
  have hR := hA.2.1.2
  rw [Nat.testBit_xor, A.lk_cr hA hd hr hq, nt64_bit, decide_eq_true (show 4 * d + q < 64 by omega)]
  show ((A.s c r == A.s d q) ^^ true) = !(A.s c r == A.s d q)
  cases (A.s c r == A.s d q) <;> rfl
theorem St.cellW {A : St} (hA : A.ok) {c r : Nat} (hc : c < A.C) (hr : r < A.R) : ((pcN 64 (A.bN (2 ^ (4 * c + r)) &&& (A.lk (4 * c + r) ^^^ nt64)) : Nat) : Int) = A.cellP (fun c d r => bZ (A.s c r != A.s d r)) (fun c r q => bZ (A.s c r != A.s c q)) c r := by
  rw [A.cntN hA hc hr]
  unfold St.cellP
  rw [Int.natCast_add, Int.natCast_add, Int.natCast_add, oB_bz (A := A) (fun d => A.s c r != A.s d r) (fun d h => A.nlk_cr hA (A.prv_lt hA hc h) hr hr), oB_bz (A := A) (fun d => A.s c r != A.s d r) (fun d h => A.nlk_cr hA (A.nxt_lt hA h) hr hr), vB_bz (A := A) (fun q => A.s c r != A.s c q) (fun q h => A.nlk_cr hA hc hr (upr_lt h hr)), vB_bz (A := A) (fun q => A.s c r != A.s c q) (fun q h => A.nlk_cr hA hc hr (dnr_lt h))]
theorem St.cell1 {A : St} (hA : A.ok) {c r : Nat} (hc : c < A.C) (hr : r < A.R) : ((pcN 64 (A.bN (2 ^ (4 * c + r))) : Nat) : Int) = A.cellP (fun _ _ _ => 1) (fun _ _ _ => 1) c r := by
  have hC := hA.1.2
  have hR := hA.2.1.2
  rw [pcN_all (Nat.lt_of_lt_of_le (A.bN_lt hA _) (by decide)), A.cntN hA hc hr]
  unfold St.cellP
  rw [Int.natCast_add, Int.natCast_add, Int.natCast_add, oB_bz (A := A) (fun _ => true) (fun d h => by have := A.prv_lt hA hc h; rw [nt64_bit]; exact decide_eq_true (by omega)), oB_bz (A := A) (fun _ => true) (fun d h => by have := A.nxt_lt hA h; rw [nt64_bit]; exact decide_eq_true (by omega)), vB_bz (A := A) (fun _ => true) (fun q h => by have := upr_lt h hr; rw [nt64_bit]; exact decide_eq_true (by omega)), vB_bz (A := A) (fun _ => true) (fun q h => by have := dnr_lt h; rw [nt64_bit]; exact decide_eq_true (by omega))]
  rfl
theorem St.cellP_in {A : St} (fa fx : Nat → Nat → Nat → Int) (ha : ∀ c d r, 0 ≤ fa c d r ∧ fa c d r ≤ 1) (hx : ∀ c d r, 0 ≤ fx c d r ∧ fx c d r ≤ 1) (c r : Nat) : 0 ≤ A.cellP fa fx c r ∧ A.cellP fa fx c r ≤ 4 := by
  have o : ∀ (o : Option Nat) (f : Nat → Int), (∀ d, 0 ≤ f d ∧ f d ≤ 1) → 0 ≤ oZ o f ∧ oZ o f ≤ 1 := fun o f h => by
    cases o with
    | none => simp [oZ]
    | some d => exact h d
  have a1 := o (A.prv c) (fun d => fa c d r) (fun d => ha c d r)
  have a2 := o (A.nxt c) (fun d => fa c d r) (fun d => ha c d r)
  have a3 := o (upr r) (fun q => fx c r q) (fun q => hx c r q)
  have a4 := o (dnr A.R r) (fun q => fx c r q) (fun q => hx c r q)
  unfold St.cellP
  omega
theorem bZ_in (b : Bool) : 0 ≤ bZ b ∧ bZ b ≤ 1 := by cases b <;> simp [bZ]
theorem St.WL_in {A : St} (hA : A.ok) : -120 ≤ A.WL ∧ A.WL ≤ 120 := by
  have h := sumZ2_in (f := fun c r => A.cellP (fun c d r => bZ (A.s c r != A.s d r)) (fun c r q => bZ (A.s c r != A.s c q)) c r) hA.1.2 hA.2.1.2 (b := 4) (by omega) (fun c r _ _ => by
    have := A.cellP_in (fun c d r => bZ (A.s c r != A.s d r)) (fun c r q => bZ (A.s c r != A.s c q)) (fun _ _ _ => bZ_in _) (fun _ _ _ => bZ_in _) c r
    omega)
  rw [A.WL_twice hA] at h
  omega
theorem St.PR_in {A : St} (hA : A.ok) : -120 ≤ A.PR ∧ A.PR ≤ 120 := by
  have h := sumZ2_in (f := fun c r => A.cellP (fun _ _ _ => 1) (fun _ _ _ => 1) c r) hA.1.2 hA.2.1.2 (b := 4) (by omega) (fun c r _ _ => by
    have := A.cellP_in (fun _ _ _ => 1) (fun _ _ _ => 1) (fun _ _ _ => by omega) (fun _ _ _ => by omega) c r
    omega)
  rw [A.PR_twice hA] at h
  omega
def St.pW (A : St) (c r : Nat) : Int := A.cellP (fun c d r => bZ (A.s c r != A.s d r)) (fun c r q => bZ (A.s c r != A.s c q)) c r
def St.p1 (A : St) (c r : Nat) : Int := A.cellP (fun _ _ _ => 1) (fun _ _ _ => 1) c r
def St.pG (A : St) (c r : Nat) : Int := bZ (decide (0 < A.gain c r))
def St.GC (A : St) : Int := sumZ A.C (fun c => sumZ A.R (A.pG c))
set_option maxRecDepth 100000 in
set_option maxHeartbeats 4000000 in
theorem w_walls1 {σ : Sto} {A : St}  (hA : A.ok) (h1 : σ 1 = stO A 2) {c : Nat} (hc : c < A.C) (K : ∀ x3 x4 x5 : Option Value, PW mX4_walls 0 0 (fun v σ' => v = some (.int (iI A.WL)) ∧ σ' = σ) 4 [some (.ref 1), some (.int (iI (sumZ (c + 1) (fun c => sumZ A.R (A.pW c))))), some (.int (nI (c + 1))), x3, x4, x5] [] 132 σ 0 0) : ∀ k r, r + k = A.R → ∀ x4 x5 : Option Value, PW mX4_walls 0 0 (fun v σ' => v = some (.int (iI A.WL)) ∧ σ' = σ) 14 [some (.ref 1), some (.int (iI (sumZ c (fun c => sumZ A.R (A.pW c)) + sumZ r (A.pW c)))), some (.int (nI c)), some (.int (nI r)), x4, x5] [] 132 σ 0 0 := by
  have hC := hA.1.2
  have hR := hA.2.1.2
  intro k
  induction k with
  | zero =>
    intro r hr x4 x5
    have e : r = A.R := by omega
    subst e
    refine P_iload_n (q := 15) dX4_walls_14 rfl rfl ?_
    refine P_aload_n (q := 16) dX4_walls_15 rfl rfl ?_
    refine P_get (q := 19) dX4_walls_16 rfl fX4_15 (by decide) (by assumption) rfl ?_
    refine P_icmp_ge (q := 22) (tgt := 58) dX4_walls_19 rfl (by decide) (fun c_19 => ?_) (fun c_19 => ?_)
    · rw [nI_leI (by omega) (by omega)] at c_19
      refine P_iinc (q := 61) (L' := [_, _, _, _, _, _]) (v := nI (c + 1)) dX4_walls_58 rfl (by decide) rfl (nI_1 c) rfl ?_
      refine P_goto (tgt := 4) dX4_walls_61 (by decide) ?_
      exact K _ _ _
    · exfalso; rw [nI_leI (by omega) (by omega)] at c_19; omega
  | succ k ih =>
    intro r hr x4 x5
    have hr' : r < A.R := by omega
    refine P_iload_n (q := 15) dX4_walls_14 rfl rfl ?_
    refine P_aload_n (q := 16) dX4_walls_15 rfl rfl ?_
    refine P_get (q := 19) dX4_walls_16 rfl fX4_15 (by decide) (by assumption) rfl ?_
    refine P_icmp_ge (q := 22) (tgt := 58) dX4_walls_19 rfl (by decide) (fun c_19 => ?_) (fun c_19 => ?_)
    · exfalso; rw [nI_leI (by omega) (by omega)] at c_19; omega
    · rw [nI_leI (by omega) (by omega)] at c_19
      refine P_iload_n (q := 23) dX4_walls_22 rfl rfl ?_
      refine P_iload_n (q := 24) dX4_walls_23 rfl rfl ?_
      refine P_cs1 (q := 27) dX4_walls_24 rfl kX4_62 (t_bit r c (by omega)) rfl rfl ⟨by decide, by decide⟩ (Nat.le_of_ble_eq_true rfl) ⟨Nat.le_refl _, Nat.le_refl _⟩ ?_
      refine P_lstore (q := 29) (L' := [_, _, _, _, _, _]) dX4_walls_27 rfl (by decide) rfl ?_
      refine P_iload_n (q := 30) dX4_walls_29 rfl rfl ?_
      refine P_aload_n (q := 31) dX4_walls_30 rfl rfl ?_
      refine P_lload (q := 33) dX4_walls_31 rfl rfl ?_
      refine P_cv1 (q := 36) dX4_walls_33 rfl kX4_100 (t_beside hA h1 _ (one_lt hA hc hr')) rfl rfl (by decide) (by assumption) rfl ⟨by decide, by decide⟩ (Nat.le_of_ble_eq_true rfl) ⟨Nat.le_refl _, Nat.le_refl _⟩ ?_
      refine P_aload_n (q := 37) dX4_walls_36 rfl rfl ?_
      refine P_lload (q := 39) dX4_walls_37 rfl rfl ?_
      refine P_cv1 (q := 42) dX4_walls_39 rfl kX4_103 (t_alike hA h1 (by omega)) rfl rfl (by decide) (by assumption) rfl ⟨by decide, by decide⟩ (Nat.le_of_ble_eq_true rfl) ⟨Nat.le_refl _, Nat.le_refl _⟩ ?_
      refine P_ldc2 (q := 45) dX4_walls_42 rfl qX4_86 ?_
      refine P_lxor (q := 46) dX4_walls_45 rfl ?_
      have hl := A.lk_lt hA (4 * c + r)
      have hb := A.bN_lt hA (2 ^ (4 * c + r))
      rw [show (-1 : Int64) = lN nt64 from by decide +kernel, lN_xor]
      refine P_land (q := 47) dX4_walls_46 rfl ?_
      rw [lN_and (by omega) (Nat.xor_lt_two_pow (by omega) nt64_lt)]
      refine P_cs1 (q := 50) dX4_walls_47 rfl kX4_69 (t_bitCount _ (Nat.lt_of_le_of_lt Nat.and_le_left (by omega))) rfl rfl ⟨by decide, by decide⟩ (Nat.le_of_ble_eq_true rfl) ⟨Nat.le_refl _, Nat.le_refl _⟩ ?_
      refine P_iadd (q := 51) dX4_walls_50 rfl ?_
      rw [iI_nI (pcN 64 _), A.cellW hA hc hr', iI_add, Int.add_assoc]
      refine P_istore_n (q := 52) (L' := [_, _, _, _, _, _]) dX4_walls_51 rfl (by decide) rfl ?_
      refine P_iinc (q := 55) (L' := [_, _, _, _, _, _]) (v := nI (r + 1)) dX4_walls_52 rfl (by decide) rfl (nI_1 r) rfl ?_
      refine P_goto (tgt := 14) dX4_walls_55 (by decide) ?_
      exact ih (r + 1) (by omega) _ _
set_option maxRecDepth 100000 in
set_option maxHeartbeats 4000000 in
theorem w_walls0 {σ : Sto} {A : St}  (hA : A.ok) (h1 : σ 1 = stO A 2) : ∀ k c, c + k = A.C → ∀ x3 x4 x5 : Option Value, PW mX4_walls 0 0 (fun v σ' => v = some (.int (iI A.WL)) ∧ σ' = σ) 4 [some (.ref 1), some (.int (iI (sumZ c (fun c => sumZ A.R (A.pW c))))), some (.int (nI c)), x3, x4, x5] [] 132 σ 0 0 := by
  have hC := hA.1.2
  have hR := hA.2.1.2
  intro k
  induction k with
  | zero =>
    intro c hc x3 x4 x5
    have e : c = A.C := by omega
    subst e
    have hE := A.WL_twice hA
    have hI := A.WL_in hA
    change sumZ A.C (fun c => sumZ A.R (A.pW c)) = 2 * A.WL at hE
    refine P_iload_n (q := 5) dX4_walls_4 rfl rfl ?_
    refine P_aload_n (q := 6) dX4_walls_5 rfl rfl ?_
    refine P_get (q := 9) dX4_walls_6 rfl fX4_9 (by decide) (by assumption) rfl ?_
    refine P_icmp_ge (q := 12) (tgt := 64) dX4_walls_9 rfl (by decide) (fun c_9 => ?_) (fun c_9 => ?_)
    · rw [nI_leI (by omega) (by omega)] at c_9
      refine P_iload_n (q := 65) dX4_walls_64 rfl rfl ?_
      refine P_iconst (q := 66) (v := nI 2) dX4_walls_65 rfl (by decide +kernel) ?_
      refine P_idiv (q := 67) dX4_walls_66 rfl (by decide) ?_
      refine P_iret dX4_walls_67 rfl (rfl) ?_
      exact ⟨rv_i (by rw [hE, iI_half (by omega) (by omega)]), rfl⟩
    · exfalso; rw [nI_leI (by omega) (by omega)] at c_9; omega
  | succ k ih =>
    intro c hc x3 x4 x5
    refine P_iload_n (q := 5) dX4_walls_4 rfl rfl ?_
    refine P_aload_n (q := 6) dX4_walls_5 rfl rfl ?_
    refine P_get (q := 9) dX4_walls_6 rfl fX4_9 (by decide) (by assumption) rfl ?_
    refine P_icmp_ge (q := 12) (tgt := 64) dX4_walls_9 rfl (by decide) (fun c_9 => ?_) (fun c_9 => ?_)
    · exfalso; rw [nI_leI (by omega) (by omega)] at c_9; omega
    · rw [nI_leI (by omega) (by omega)] at c_9
      refine P_iconst (q := 13) (v := nI 0) dX4_walls_12 rfl (by decide +kernel) ?_
      refine P_istore_n (q := 14) (L' := [_, _, _, _, _, _]) dX4_walls_13 rfl (by decide) rfl ?_
      have h := w_walls1 hA h1 (show c < A.C by omega) (fun x3 x4 x5 => ih (c + 1) (by omega) x3 x4 x5) A.R 0 (by omega) x4 x5
      rw [show sumZ 0 (A.pW c) = 0 from rfl, Int.add_zero] at h
      exact h
set_option maxRecDepth 100000 in
set_option maxHeartbeats 4000000 in
theorem t_walls {σ : Sto} {A : St}  (hA : A.ok) (h1 : σ 1 = stO A 2) : CD mX4_walls [.ref 1] 132 σ (some (.int (iI A.WL))) σ := by
  refine CP_of (by decide +kernel) (Nat.le_of_ble_eq_true rfl) ?_
  change PW _ _ _ _ 0 [_, _, _, _, _, _] [] _ _ _ _
  refine P_iconst (q := 1) (v := nI 0) dX4_walls_0 rfl (by decide +kernel) ?_
  refine P_istore_n (q := 2) (L' := [_, _, _, _, _, _]) dX4_walls_1 rfl (by decide) rfl ?_
  refine P_iconst (q := 3) (v := nI 0) dX4_walls_2 rfl (by decide +kernel) ?_
  refine P_istore_n (q := 4) (L' := [_, _, _, _, _, _]) dX4_walls_3 rfl (by decide) rfl ?_
  exact w_walls0 hA h1 A.C 0 (by omega) _ _ _
set_option maxRecDepth 100000 in
set_option maxHeartbeats 4000000 in
theorem w_pairs1 {σ : Sto} {A : St}  (hA : A.ok) (h1 : σ 1 = stO A 2) {c : Nat} (hc : c < A.C) (K : ∀ x3  : Option Value, PW mX4_pairs 0 0 (fun v σ' => v = some (.int (iI A.PR)) ∧ σ' = σ) 4 [some (.ref 1), some (.int (iI (sumZ (c + 1) (fun c => sumZ A.R (A.p1 c))))), some (.int (nI (c + 1))), x3] [] 132 σ 0 0) : ∀ k r, r + k = A.R → PW mX4_pairs 0 0 (fun v σ' => v = some (.int (iI A.PR)) ∧ σ' = σ) 14 [some (.ref 1), some (.int (iI (sumZ c (fun c => sumZ A.R (A.p1 c)) + sumZ r (A.p1 c)))), some (.int (nI c)), some (.int (nI r))] [] 132 σ 0 0 := by
  have hC := hA.1.2
  have hR := hA.2.1.2
  intro k
  induction k with
  | zero =>
    intro r hr 
    have e : r = A.R := by omega
    subst e
    refine P_iload_n (q := 15) dX4_pairs_14 rfl rfl ?_
    refine P_aload_n (q := 16) dX4_pairs_15 rfl rfl ?_
    refine P_get (q := 19) dX4_pairs_16 rfl fX4_15 (by decide) (by assumption) rfl ?_
    refine P_icmp_ge (q := 22) (tgt := 43) dX4_pairs_19 rfl (by decide) (fun c_19 => ?_) (fun c_19 => ?_)
    · rw [nI_leI (by omega) (by omega)] at c_19
      refine P_iinc (q := 46) (L' := [_, _, _, _]) (v := nI (c + 1)) dX4_pairs_43 rfl (by decide) rfl (nI_1 c) rfl ?_
      refine P_goto (tgt := 4) dX4_pairs_46 (by decide) ?_
      exact K _ 
    · exfalso; rw [nI_leI (by omega) (by omega)] at c_19; omega
  | succ k ih =>
    intro r hr 
    have hr' : r < A.R := by omega
    refine P_iload_n (q := 15) dX4_pairs_14 rfl rfl ?_
    refine P_aload_n (q := 16) dX4_pairs_15 rfl rfl ?_
    refine P_get (q := 19) dX4_pairs_16 rfl fX4_15 (by decide) (by assumption) rfl ?_
    refine P_icmp_ge (q := 22) (tgt := 43) dX4_pairs_19 rfl (by decide) (fun c_19 => ?_) (fun c_19 => ?_)
    · exfalso; rw [nI_leI (by omega) (by omega)] at c_19; omega
    · rw [nI_leI (by omega) (by omega)] at c_19
      refine P_iload_n (q := 23) dX4_pairs_22 rfl rfl ?_
      refine P_aload_n (q := 24) dX4_pairs_23 rfl rfl ?_
      refine P_iload_n (q := 25) dX4_pairs_24 rfl rfl ?_
      refine P_iload_n (q := 26) dX4_pairs_25 rfl rfl ?_
      refine P_cs1 (q := 29) dX4_pairs_26 rfl kX4_62 (t_bit r c (by omega)) rfl rfl ⟨by decide, by decide⟩ (Nat.le_of_ble_eq_true rfl) ⟨Nat.le_refl _, Nat.le_refl _⟩ ?_
      refine P_cv1 (q := 32) dX4_pairs_29 rfl kX4_100 (t_beside hA h1 _ (one_lt hA hc hr')) rfl rfl (by decide) (by assumption) rfl ⟨by decide, by decide⟩ (Nat.le_of_ble_eq_true rfl) ⟨Nat.le_refl _, Nat.le_refl _⟩ ?_
      refine P_cs1 (q := 35) dX4_pairs_32 rfl kX4_69 (t_bitCount _ (Nat.lt_of_lt_of_le (A.bN_lt hA _) (by decide))) rfl rfl ⟨by decide, by decide⟩ (Nat.le_of_ble_eq_true rfl) ⟨Nat.le_refl _, Nat.le_refl _⟩ ?_
      refine P_iadd (q := 36) dX4_pairs_35 rfl ?_
      rw [iI_nI (pcN 64 _), A.cell1 hA hc hr', iI_add, Int.add_assoc]
      refine P_istore_n (q := 37) (L' := [_, _, _, _]) dX4_pairs_36 rfl (by decide) rfl ?_
      refine P_iinc (q := 40) (L' := [_, _, _, _]) (v := nI (r + 1)) dX4_pairs_37 rfl (by decide) rfl (nI_1 r) rfl ?_
      refine P_goto (tgt := 14) dX4_pairs_40 (by decide) ?_
      exact ih (r + 1) (by omega) 
set_option maxRecDepth 100000 in
set_option maxHeartbeats 4000000 in
theorem w_pairs0 {σ : Sto} {A : St}  (hA : A.ok) (h1 : σ 1 = stO A 2) : ∀ k c, c + k = A.C → ∀ x3  : Option Value, PW mX4_pairs 0 0 (fun v σ' => v = some (.int (iI A.PR)) ∧ σ' = σ) 4 [some (.ref 1), some (.int (iI (sumZ c (fun c => sumZ A.R (A.p1 c))))), some (.int (nI c)), x3] [] 132 σ 0 0 := by
  have hC := hA.1.2
  have hR := hA.2.1.2
  intro k
  induction k with
  | zero =>
    intro c hc x3 
    have e : c = A.C := by omega
    subst e
    have hE := A.PR_twice hA
    have hI := A.PR_in hA
    change sumZ A.C (fun c => sumZ A.R (A.p1 c)) = 2 * A.PR at hE
    refine P_iload_n (q := 5) dX4_pairs_4 rfl rfl ?_
    refine P_aload_n (q := 6) dX4_pairs_5 rfl rfl ?_
    refine P_get (q := 9) dX4_pairs_6 rfl fX4_9 (by decide) (by assumption) rfl ?_
    refine P_icmp_ge (q := 12) (tgt := 49) dX4_pairs_9 rfl (by decide) (fun c_9 => ?_) (fun c_9 => ?_)
    · rw [nI_leI (by omega) (by omega)] at c_9
      refine P_iload_n (q := 50) dX4_pairs_49 rfl rfl ?_
      refine P_iconst (q := 51) (v := nI 2) dX4_pairs_50 rfl (by decide +kernel) ?_
      refine P_idiv (q := 52) dX4_pairs_51 rfl (by decide) ?_
      refine P_iret dX4_pairs_52 rfl (rfl) ?_
      exact ⟨rv_i (by rw [hE, iI_half (by omega) (by omega)]), rfl⟩
    · exfalso; rw [nI_leI (by omega) (by omega)] at c_9; omega
  | succ k ih =>
    intro c hc x3 
    refine P_iload_n (q := 5) dX4_pairs_4 rfl rfl ?_
    refine P_aload_n (q := 6) dX4_pairs_5 rfl rfl ?_
    refine P_get (q := 9) dX4_pairs_6 rfl fX4_9 (by decide) (by assumption) rfl ?_
    refine P_icmp_ge (q := 12) (tgt := 49) dX4_pairs_9 rfl (by decide) (fun c_9 => ?_) (fun c_9 => ?_)
    · exfalso; rw [nI_leI (by omega) (by omega)] at c_9; omega
    · rw [nI_leI (by omega) (by omega)] at c_9
      refine P_iconst (q := 13) (v := nI 0) dX4_pairs_12 rfl (by decide +kernel) ?_
      refine P_istore_n (q := 14) (L' := [_, _, _, _]) dX4_pairs_13 rfl (by decide) rfl ?_
      have h := w_pairs1 hA h1 (show c < A.C by omega) (fun x3 => ih (c + 1) (by omega) x3 ) A.R 0 (by omega) 
      rw [show sumZ 0 (A.p1 c) = 0 from rfl, Int.add_zero] at h
      exact h
set_option maxRecDepth 100000 in
set_option maxHeartbeats 4000000 in
theorem t_pairs {σ : Sto} {A : St}  (hA : A.ok) (h1 : σ 1 = stO A 2) : CD mX4_pairs [.ref 1] 132 σ (some (.int (iI A.PR))) σ := by
  refine CP_of (by decide +kernel) (Nat.le_of_ble_eq_true rfl) ?_
  change PW _ _ _ _ 0 [_, _, _, _] [] _ _ _ _
  refine P_iconst (q := 1) (v := nI 0) dX4_pairs_0 rfl (by decide +kernel) ?_
  refine P_istore_n (q := 2) (L' := [_, _, _, _]) dX4_pairs_1 rfl (by decide) rfl ?_
  refine P_iconst (q := 3) (v := nI 0) dX4_pairs_2 rfl (by decide +kernel) ?_
  refine P_istore_n (q := 4) (L' := [_, _, _, _]) dX4_pairs_3 rfl (by decide) rfl ?_
  exact w_pairs0 hA h1 A.C 0 (by omega) _ 
set_option maxRecDepth 100000 in
set_option maxHeartbeats 4000000 in
theorem w_gaining1 {σ : Sto} {A : St} {f : Nat → Int32} (hA : A.ok) (h1 : σ 1 = stO A 2) (h2 : σ 2 = pI .int 40 f) (hf : stF A f) {c : Nat} (hc : c < A.C) (K : ∀ x3  : Option Value, PW mX4_gainingCells 0 0 (fun v σ' => v = some (.int (iI A.GC)) ∧ σ' = σ) 4 [some (.ref 1), some (.int (iI (sumZ (c + 1) (fun c => sumZ A.R (A.pG c))))), some (.int (nI (c + 1))), x3] [] 132 σ 0 0) : ∀ k r, r + k = A.R → PW mX4_gainingCells 0 0 (fun v σ' => v = some (.int (iI A.GC)) ∧ σ' = σ) 14 [some (.ref 1), some (.int (iI (sumZ c (fun c => sumZ A.R (A.pG c)) + sumZ r (A.pG c)))), some (.int (nI c)), some (.int (nI r))] [] 132 σ 0 0 := by
  have hC := hA.1.2
  have hR := hA.2.1.2
  intro k
  induction k with
  | zero =>
    intro r hr 
    have e : r = A.R := by omega
    subst e
    refine P_iload_n (q := 15) dX4_gainingCells_14 rfl rfl ?_
    refine P_aload_n (q := 16) dX4_gainingCells_15 rfl rfl ?_
    refine P_get (q := 19) dX4_gainingCells_16 rfl fX4_15 (by decide) (by assumption) rfl ?_
    refine P_icmp_ge (q := 22) (tgt := 40) dX4_gainingCells_19 rfl (by decide) (fun c_19 => ?_) (fun c_19 => ?_)
    · rw [nI_leI (by omega) (by omega)] at c_19
      refine P_iinc (q := 43) (L' := [_, _, _, _]) (v := nI (c + 1)) dX4_gainingCells_40 rfl (by decide) rfl (nI_1 c) rfl ?_
      refine P_goto (tgt := 4) dX4_gainingCells_43 (by decide) ?_
      exact K _ 
    · exfalso; rw [nI_leI (by omega) (by omega)] at c_19; omega
  | succ k ih =>
    intro r hr 
    have hr' : r < A.R := by omega
    refine P_iload_n (q := 15) dX4_gainingCells_14 rfl rfl ?_
    refine P_aload_n (q := 16) dX4_gainingCells_15 rfl rfl ?_
    refine P_get (q := 19) dX4_gainingCells_16 rfl fX4_15 (by decide) (by assumption) rfl ?_
    refine P_icmp_ge (q := 22) (tgt := 40) dX4_gainingCells_19 rfl (by decide) (fun c_19 => ?_) (fun c_19 => ?_)
    · exfalso; rw [nI_leI (by omega) (by omega)] at c_19; omega
    · rw [nI_leI (by omega) (by omega)] at c_19
      refine P_aload_n (q := 23) dX4_gainingCells_22 rfl rfl ?_
      refine P_iload_n (q := 24) dX4_gainingCells_23 rfl rfl ?_
      refine P_iload_n (q := 25) dX4_gainingCells_24 rfl rfl ?_
      refine P_cv1 (q := 28) dX4_gainingCells_25 rfl kX4_109 (t_gain hA h1 h2 hf hr' hc) rfl rfl (by decide) (by assumption) rfl ⟨by decide, by decide⟩ (Nat.le_of_ble_eq_true rfl) ⟨Nat.le_refl _, Nat.le_refl _⟩ ?_
      refine P_if_le (q := 31) (tgt := 34) dX4_gainingCells_28 rfl (by decide) (fun c_28 => ?_) (fun c_28 => ?_)
      · have hg := A.gain_in hA c r
        change iI (A.gain c r) ≤ iI 0 at c_28
        rw [iI_le (by omega) (by omega) (by omega) (by omega)] at c_28
        rw [show sumZ r (A.pG c) = sumZ (r + 1) (A.pG c) from by rw [sumZ, show A.pG c r = 0 from by unfold St.pG; rw [decide_eq_false (by omega)]; rfl, Int.add_zero]]
        refine P_iinc (q := 37) (L' := [_, _, _, _]) (v := nI (r + 1)) dX4_gainingCells_34 rfl (by decide) rfl (nI_1 r) rfl ?_
        refine P_goto (tgt := 14) dX4_gainingCells_37 (by decide) ?_
        exact ih (r + 1) (by omega) 
      · have hg := A.gain_in hA c r
        change ¬ iI (A.gain c r) ≤ iI 0 at c_28
        rw [iI_le (by omega) (by omega) (by omega) (by omega)] at c_28
        refine P_iinc (q := 34) (L' := [_, _, _, _]) (v := iI (sumZ c (fun c => sumZ A.R (A.pG c)) + sumZ (r + 1) (A.pG c))) dX4_gainingCells_31 rfl (by decide) rfl (by rw [show Int32.ofInt 1 = iI 1 from rfl, iI_add, Int.add_assoc, sumZ, show A.pG c r = 1 from by unfold St.pG; rw [decide_eq_true (by omega)]; rfl]) rfl ?_
        refine P_iinc (q := 37) (L' := [_, _, _, _]) (v := nI (r + 1)) dX4_gainingCells_34 rfl (by decide) rfl (nI_1 r) rfl ?_
        refine P_goto (tgt := 14) dX4_gainingCells_37 (by decide) ?_
        exact ih (r + 1) (by omega) 
set_option maxRecDepth 100000 in
set_option maxHeartbeats 4000000 in
theorem w_gaining0 {σ : Sto} {A : St} {f : Nat → Int32} (hA : A.ok) (h1 : σ 1 = stO A 2) (h2 : σ 2 = pI .int 40 f) (hf : stF A f) : ∀ k c, c + k = A.C → ∀ x3  : Option Value, PW mX4_gainingCells 0 0 (fun v σ' => v = some (.int (iI A.GC)) ∧ σ' = σ) 4 [some (.ref 1), some (.int (iI (sumZ c (fun c => sumZ A.R (A.pG c))))), some (.int (nI c)), x3] [] 132 σ 0 0 := by
  have hC := hA.1.2
  have hR := hA.2.1.2
  intro k
  induction k with
  | zero =>
    intro c hc x3 
    have e : c = A.C := by omega
    subst e
    refine P_iload_n (q := 5) dX4_gainingCells_4 rfl rfl ?_
    refine P_aload_n (q := 6) dX4_gainingCells_5 rfl rfl ?_
    refine P_get (q := 9) dX4_gainingCells_6 rfl fX4_9 (by decide) (by assumption) rfl ?_
    refine P_icmp_ge (q := 12) (tgt := 46) dX4_gainingCells_9 rfl (by decide) (fun c_9 => ?_) (fun c_9 => ?_)
    · rw [nI_leI (by omega) (by omega)] at c_9
      refine P_iload_n (q := 47) dX4_gainingCells_46 rfl rfl ?_
      refine P_iret dX4_gainingCells_47 rfl (rfl) ?_
      exact ⟨rfl, rfl⟩
    · exfalso; rw [nI_leI (by omega) (by omega)] at c_9; omega
  | succ k ih =>
    intro c hc x3 
    refine P_iload_n (q := 5) dX4_gainingCells_4 rfl rfl ?_
    refine P_aload_n (q := 6) dX4_gainingCells_5 rfl rfl ?_
    refine P_get (q := 9) dX4_gainingCells_6 rfl fX4_9 (by decide) (by assumption) rfl ?_
    refine P_icmp_ge (q := 12) (tgt := 46) dX4_gainingCells_9 rfl (by decide) (fun c_9 => ?_) (fun c_9 => ?_)
    · exfalso; rw [nI_leI (by omega) (by omega)] at c_9; omega
    · rw [nI_leI (by omega) (by omega)] at c_9
      refine P_iconst (q := 13) (v := nI 0) dX4_gainingCells_12 rfl (by decide +kernel) ?_
      refine P_istore_n (q := 14) (L' := [_, _, _, _]) dX4_gainingCells_13 rfl (by decide) rfl ?_
      have h := w_gaining1 hA h1 h2 hf (show c < A.C by omega) (fun x3 => ih (c + 1) (by omega) x3 ) A.R 0 (by omega) 
      rw [show sumZ 0 (A.pG c) = 0 from rfl, Int.add_zero] at h
      exact h
set_option maxRecDepth 100000 in
set_option maxHeartbeats 4000000 in
theorem t_gaining {σ : Sto} {A : St} {f : Nat → Int32} (hA : A.ok) (h1 : σ 1 = stO A 2) (h2 : σ 2 = pI .int 40 f) (hf : stF A f) : CD mX4_gainingCells [.ref 1] 132 σ (some (.int (iI A.GC))) σ := by
  refine CP_of (by decide +kernel) (Nat.le_of_ble_eq_true rfl) ?_
  change PW _ _ _ _ 0 [_, _, _, _] [] _ _ _ _
  refine P_iconst (q := 1) (v := nI 0) dX4_gainingCells_0 rfl (by decide +kernel) ?_
  refine P_istore_n (q := 2) (L' := [_, _, _, _]) dX4_gainingCells_1 rfl (by decide) rfl ?_
  refine P_iconst (q := 3) (v := nI 0) dX4_gainingCells_2 rfl (by decide +kernel) ?_
  refine P_istore_n (q := 4) (L' := [_, _, _, _]) dX4_gainingCells_3 rfl (by decide) rfl ?_
  exact w_gaining0 hA h1 h2 hf A.C 0 (by omega) _ 
end
section
/-! THE STRIP: cells turned, patches, copies, laying anew -/
def St.flip (A : St) (a : Nat) : St := (A.C, A.R, A.g, A.al, A.ac, fun c => A.sp c ^^^ (a / 16 ^ c % 16), A.fd, A.tu + nI (pcN 64 a))
theorem dig_bit (a c i : Nat) : (a / 16 ^ c % 16).testBit i = (decide (i < 4) && a.testBit (4 * c + i)) := by
  rw [show (16 : Nat) = 2 ^ 4 from rfl, ← Nat.pow_mul, Nat.testBit_mod_two_pow, Nat.testBit_div_two_pow, Nat.add_comm]
theorem St.flip_U {A : St} (hA : A.ok) {a : Nat} (ha : a < 2 ^ 40) : (A.flip a).U = A.U ^^^ a := by
  have h16 : ∀ c, A.sp c ^^^ (a / 16 ^ c % 16) < 16 := fun c => Nat.xor_lt_two_pow (n := 4) (A.sp16 hA c) (Nat.mod_lt _ (by decide))
  apply Nat.eq_of_testBit_eq
  intro p
  show (upsN (fun c => A.sp c ^^^ (a / 16 ^ c % 16)) 10).testBit p = _
  rw [upsN_bit h16, Nat.testBit_xor, Nat.testBit_xor, A.U_bit hA, dig_bit, show 4 * (p / 4) + p % 4 = p by omega, decide_eq_true (show p % 4 < 4 by omega), Bool.true_and]
  by_cases hp : p / 4 < 10
  · rw [decide_eq_true hp, Bool.true_and]
  · have e1 : a.testBit p = false := Nat.testBit_lt_two_pow (Nat.lt_of_lt_of_le ha (Nat.pow_le_pow_right (by decide) (by omega)))
    have e2 := hA.2.2.2.2.2.2.1 (p / 4) (by have := hA.1.2; omega)
    rw [decide_eq_false hp, Bool.false_and, e1, e2, Nat.zero_testBit]; simp only [Bool.false_bne, bne_self_eq_false]
theorem St.flip_ok {A : St} (hA : A.ok) {a : Nat} (ha : ∀ p, a.testBit p = true → (mskN A.C A.R).testBit p = true) : (A.flip a).ok := by
  have hR := hA.2.1.2
  have key : ∀ c i, (a / 16 ^ c % 16).testBit i = true → c < A.C ∧ i < A.R := fun c i h => by
    rw [dig_bit, Bool.and_eq_true] at h
    have h2 := ha _ h.2
    have hi := of_decide_eq_true h.1
    rw [mskN_bit hR, Bool.and_eq_true, show (4 * c + i) / 4 = c by omega, show (4 * c + i) % 4 = i by omega] at h2
    exact ⟨of_decide_eq_true h2.1, of_decide_eq_true h2.2⟩
  obtain ⟨h1, h2, h3, h4, h5, h6, h7, h8⟩ := hA
  refine ⟨h1, h2, h3, h4, h5, fun c => ?_, fun c hc => ?_, h8⟩
  · refine Nat.xor_lt_two_pow (h6 c) (Nat.lt_pow_two_of_testBit _ fun i hi => ?_)
    cases hb : (a / 16 ^ c % 16).testBit i
    · rfl
    · have := (key c i hb).2
      have hi' : A.R ≤ i := hi
      omega
  · show A.sp c ^^^ (a / 16 ^ c % 16) = 0
    have e : a / 16 ^ c % 16 = 0 := by
      apply Nat.eq_of_testBit_eq
      intro i
      rw [Nat.zero_testBit]
      cases hb : (a / 16 ^ c % 16).testBit i
      · rfl
      · have := (key c i hb).1
        have hc' : A.C ≤ c := hc
        omega
    rw [h7 c hc, e]; rfl
theorem one_sub {A : St} (hA : A.ok) {c r : Nat} (hc : c < A.C) (hr : r < A.R) : ∀ p, (2 ^ (4 * c + r)).testBit p = true → (mskN A.C A.R).testBit p = true := by
  intro p hp
  have hR := hA.2.1.2
  rw [Nat.testBit_two_pow] at hp
  have e := of_decide_eq_true hp
  subst e
  rw [mskN_bit hR, show (4 * c + r) / 4 = c by omega, show (4 * c + r) % 4 = r by omega, decide_eq_true hc, decide_eq_true hr]
  rfl
set_option maxRecDepth 100000 in
set_option maxHeartbeats 4000000 in
theorem t_flip {σ : Sto} {A : St} (hA : A.ok) (h1 : σ 1 = stO A 2) (a : Nat) (ha : a < 2 ^ 40) : CD mX4_flip [.ref 1, .long (lN a)] 132 σ none (va_up σ 1 (stO (A.flip a) 2)) := by
  refine CP_of (by decide +kernel) (Nat.le_of_ble_eq_true rfl) ?_
  change PW _ _ _ _ 0 [_, _, _] [] _ _ _ _
  refine P_aload_n (q := 1) dX4_flip_0 rfl rfl ?_
  refine P_dup (q := 2) dX4_flip_1 rfl rfl ?_
  refine P_get (q := 5) dX4_flip_2 rfl fX4_36 (by decide) (by assumption) rfl ?_
  refine P_lload_n (q := 6) dX4_flip_5 rfl rfl ?_
  refine P_lxor (q := 7) dX4_flip_6 rfl ?_
  refine P_put (q := 10) (fs' := [_, _, _, _, _, _, _, _, _]) dX4_flip_7 rfl gX4_36 (by decide) (by assumption) (fun _ => rfl) (fun _ => rfl) (Nat.le_of_ble_eq_true rfl) rfl (rfl) ?_
  refine P_aload_n (q := 11) dX4_flip_10 rfl rfl ?_
  refine P_dup (q := 12) dX4_flip_11 rfl rfl ?_
  refine P_get (q := 15) dX4_flip_12 rfl fX4_39 (by decide) (up_at _ _ _) rfl ?_
  refine P_lload_n (q := 16) dX4_flip_15 rfl rfl ?_
  refine P_cs1 (q := 19) dX4_flip_16 rfl kX4_69 (t_bitCount a (by omega)) rfl rfl ⟨by decide, by decide⟩ (Nat.le_of_ble_eq_true rfl) ⟨Nat.le_refl _, Nat.le_refl _⟩ ?_
  refine P_iadd (q := 20) dX4_flip_19 rfl ?_
  refine P_put (q := 23) (fs' := [_, _, _, _, _, _, _, _, _]) dX4_flip_20 rfl gX4_39 (by decide) (up_at _ _ _) (fun _ => rfl) (fun _ => rfl) (Nat.le_of_ble_eq_true rfl) rfl (rfl) ?_
  refine P_vret dX4_flip_23 rfl ?_
  exact ⟨rfl, by rw [up_up, lN_xor, ← A.flip_U hA ha]; rfl⟩
/-- a sweep -/
def St.stp (A : St) (c r : Nat) : St := if 0 < A.gain c r then A.flip (2 ^ (4 * c + r)) else A
def St.swc (A : St) (c : Nat) : Nat → St
  | 0 => A
  | n + 1 => (A.swc c n).stp c n
def St.swp (A : St) : Nat → St
  | 0 => A
  | n + 1 => (A.swp n).swc n A.R
def St.like (A B : St) : Prop := B.ok ∧ B.C = A.C ∧ B.R = A.R ∧ B.g = A.g ∧ B.al = A.al ∧ B.ac = A.ac ∧ B.fd = A.fd
theorem St.stp_like {A B : St} (h : A.like B) {c r : Nat} (hc : c < A.C) (hr : r < A.R) : A.like (B.stp c r) := by
  unfold St.stp
  split
  · exact ⟨B.flip_ok h.1 (one_sub h.1 (by rw [h.2.1]; exact hc) (by rw [h.2.2.1]; exact hr)), h.2⟩
  · exact h
theorem St.swc_like {A B : St} (h : A.like B) {c : Nat} (hc : c < A.C) : ∀ n, n ≤ A.R → A.like (B.swc c n)
  | 0, _ => h
  | n + 1, hn => St.stp_like (St.swc_like h hc n (by omega)) hc (by omega)
theorem St.swp_like {A : St} (hA : A.ok) : ∀ n, n ≤ A.C → A.like (A.swp n)
  | 0, _ => ⟨hA, rfl, rfl, rfl, rfl, rfl, rfl⟩
  | n + 1, hn => St.swc_like (St.swp_like hA n (by omega)) (by omega) A.R (Nat.le_refl _)
theorem St.like_f {A B : St} (h : A.like B) {f : Nat → Int32} (hf : stF A f) : stF B f := fun c r hc hr => by
  rw [h.2.2.2.2.2.2]
  exact hf c r (by rw [← h.2.1]; exact hc) (by rw [← h.2.2.1]; exact hr)
set_option maxRecDepth 100000 in
set_option maxHeartbeats 4000000 in
theorem w_fg1 {σ : Sto} {A : St} {f : Nat → Int32} (hA : A.ok) (h1 : σ 1 = stO A 2) (h2 : σ 2 = pI .int 40 f) (hf : stF A f) {c : Nat} (hc : c < A.C) (K : ∀ x3 : Option Value, PW mX4_flipGainingCells 0 0 (fun v σ' => v = some (.int ((A.swp A.C).tu - A.tu)) ∧ σ' = va_up σ 1 (stO (A.swp A.C) 2)) 7 [some (.ref 1), some (.int A.tu), some (.int (nI (c + 1))), x3] [] 132 (va_up σ 1 (stO (A.swp (c + 1)) 2)) 0 0) : ∀ k r, r + k = A.R → PW mX4_flipGainingCells 0 0 (fun v σ' => v = some (.int ((A.swp A.C).tu - A.tu)) ∧ σ' = va_up σ 1 (stO (A.swp A.C) 2)) 17 [some (.ref 1), some (.int A.tu), some (.int (nI c)), some (.int (nI r))] [] 132 (va_up σ 1 (stO ((A.swp c).swc c r) 2)) 0 0 := by
  have hC := hA.1.2
  have hR := hA.2.1.2
  intro k
  induction k with
  | zero =>
    intro r hr
    have e : r = A.R := by omega
    subst e
    have hB := St.swc_like (St.swp_like hA c (by omega)) hc A.R (Nat.le_refl _)
    have g1 : va_up σ 1 (stO ((A.swp c).swc c A.R) 2) 1 = stO ((A.swp c).swc c A.R) 2 := up_at _ _ _
    refine P_iload_n (q := 18) dX4_flipGainingCells_17 rfl rfl ?_
    refine P_aload_n (q := 19) dX4_flipGainingCells_18 rfl rfl ?_
    refine P_get (q := 22) dX4_flipGainingCells_19 rfl fX4_15 (by decide) (by assumption) rfl ?_
    rw [hB.2.2.1]
    refine P_icmp_ge (q := 25) (tgt := 49) dX4_flipGainingCells_22 rfl (by decide) (fun c_22 => ?_) (fun c_22 => ?_)
    · rw [nI_leI (by omega) (by omega)] at c_22
      refine P_iinc (q := 52) (L' := [_, _, _, _]) (v := nI (c + 1)) dX4_flipGainingCells_49 rfl (by decide) rfl (nI_1 c) rfl ?_
      refine P_goto (tgt := 7) dX4_flipGainingCells_52 (by decide) ?_
      exact K _
    · exfalso; rw [nI_leI (by omega) (by omega)] at c_22; omega
  | succ k ih =>
    intro r hr
    have hr' : r < A.R := by omega
    have hB := St.swc_like (St.swp_like hA c (by omega)) hc r (by omega)
    have hs : (A.swp c).swc c (r + 1) = ((A.swp c).swc c r).stp c r := rfl
    have ihr := ih (r + 1) (by omega)
    rw [hs] at ihr
    generalize (A.swp c).swc c r = B at hB ihr ⊢
    have g1 : va_up σ 1 (stO B 2) 1 = stO B 2 := up_at _ _ _
    have g2 : va_up σ 1 (stO B 2) 2 = pI .int 40 f := (up_ne _ _ (by decide)).trans h2
    have hBf := St.like_f hB hf
    have hg := B.gain_in hB.1 c r
    refine P_iload_n (q := 18) dX4_flipGainingCells_17 rfl rfl ?_
    refine P_aload_n (q := 19) dX4_flipGainingCells_18 rfl rfl ?_
    refine P_get (q := 22) dX4_flipGainingCells_19 rfl fX4_15 (by decide) (by assumption) rfl ?_
    rw [hB.2.2.1]
    refine P_icmp_ge (q := 25) (tgt := 49) dX4_flipGainingCells_22 rfl (by decide) (fun c_22 => ?_) (fun c_22 => ?_)
    · exfalso; rw [nI_leI (by omega) (by omega)] at c_22; omega
    · rw [nI_leI (by omega) (by omega)] at c_22
      refine P_aload_n (q := 26) dX4_flipGainingCells_25 rfl rfl ?_
      refine P_iload_n (q := 27) dX4_flipGainingCells_26 rfl rfl ?_
      refine P_iload_n (q := 28) dX4_flipGainingCells_27 rfl rfl ?_
      refine P_cv1 (q := 31) dX4_flipGainingCells_28 rfl kX4_109 (t_gain hB.1 g1 g2 hBf (by rw [hB.2.2.1]; exact hr') (by rw [hB.2.1]; exact hc)) rfl rfl (by decide) (by assumption) rfl ⟨by decide, by decide⟩ (Nat.le_of_ble_eq_true rfl) ⟨Nat.le_refl _, Nat.le_refl _⟩ ?_
      refine P_if_le (q := 34) (tgt := 43) dX4_flipGainingCells_31 rfl (by decide) (fun c_31 => ?_) (fun c_31 => ?_)
      · change iI (B.gain c r) ≤ iI 0 at c_31
        rw [iI_le (by omega) (by omega) (by omega) (by omega)] at c_31
        rw [show B.stp c r = B from if_neg (by omega)] at ihr
        refine P_iinc (q := 46) (L' := [_, _, _, _]) (v := nI (r + 1)) dX4_flipGainingCells_43 rfl (by decide) rfl (nI_1 r) rfl ?_
        refine P_goto (tgt := 17) dX4_flipGainingCells_46 (by decide) ?_
        exact ihr
      · change ¬ iI (B.gain c r) ≤ iI 0 at c_31
        rw [iI_le (by omega) (by omega) (by omega) (by omega)] at c_31
        rw [show B.stp c r = B.flip (2 ^ (4 * c + r)) from if_pos (by omega)] at ihr
        refine P_aload_n (q := 35) dX4_flipGainingCells_34 rfl rfl ?_
        refine P_iload_n (q := 36) dX4_flipGainingCells_35 rfl rfl ?_
        refine P_iload_n (q := 37) dX4_flipGainingCells_36 rfl rfl ?_
        refine P_cs1 (q := 40) dX4_flipGainingCells_37 rfl kX4_62 (t_bit r c (by omega)) rfl rfl ⟨by decide, by decide⟩ (Nat.le_of_ble_eq_true rfl) ⟨Nat.le_refl _, Nat.le_refl _⟩ ?_
        refine P_cv0 (q := 43) dX4_flipGainingCells_40 rfl kX4_112 (t_flip hB.1 g1 _ (one_lt hA hc hr')) rfl rfl (by decide) (by assumption) rfl ⟨by decide, by decide⟩ (Nat.le_of_ble_eq_true rfl) ⟨Nat.le_refl _, Nat.le_refl _⟩ ?_
        rw [up_up]
        refine P_iinc (q := 46) (L' := [_, _, _, _]) (v := nI (r + 1)) dX4_flipGainingCells_43 rfl (by decide) rfl (nI_1 r) rfl ?_
        refine P_goto (tgt := 17) dX4_flipGainingCells_46 (by decide) ?_
        exact ihr
set_option maxRecDepth 100000 in
set_option maxHeartbeats 4000000 in
theorem w_fg0 {σ : Sto} {A : St} {f : Nat → Int32} (hA : A.ok) (h1 : σ 1 = stO A 2) (h2 : σ 2 = pI .int 40 f) (hf : stF A f) : ∀ k c, c + k = A.C → ∀ x3 : Option Value, PW mX4_flipGainingCells 0 0 (fun v σ' => v = some (.int ((A.swp A.C).tu - A.tu)) ∧ σ' = va_up σ 1 (stO (A.swp A.C) 2)) 7 [some (.ref 1), some (.int A.tu), some (.int (nI c)), x3] [] 132 (va_up σ 1 (stO (A.swp c) 2)) 0 0 := by
  have hC := hA.1.2
  have hR := hA.2.1.2
  intro k
  induction k with
  | zero =>
    intro c hc x3
    have e : c = A.C := by omega
    subst e
    have hB := St.swp_like hA A.C (Nat.le_refl _)
    have g1 : va_up σ 1 (stO (A.swp A.C) 2) 1 = stO (A.swp A.C) 2 := up_at _ _ _
    refine P_iload_n (q := 8) dX4_flipGainingCells_7 rfl rfl ?_
    refine P_aload_n (q := 9) dX4_flipGainingCells_8 rfl rfl ?_
    refine P_get (q := 12) dX4_flipGainingCells_9 rfl fX4_9 (by decide) (by assumption) rfl ?_
    rw [hB.2.1]
    refine P_icmp_ge (q := 15) (tgt := 55) dX4_flipGainingCells_12 rfl (by decide) (fun c_12 => ?_) (fun c_12 => ?_)
    · rw [nI_leI (by omega) (by omega)] at c_12
      refine P_aload_n (q := 56) dX4_flipGainingCells_55 rfl rfl ?_
      refine P_get (q := 59) dX4_flipGainingCells_56 rfl fX4_39 (by decide) (by assumption) rfl ?_
      refine P_iload_n (q := 60) dX4_flipGainingCells_59 rfl rfl ?_
      refine P_isub (q := 61) dX4_flipGainingCells_60 rfl ?_
      refine P_iret dX4_flipGainingCells_61 rfl (rfl) ?_
      exact ⟨rfl, rfl⟩
    · exfalso; rw [nI_leI (by omega) (by omega)] at c_12; omega
  | succ k ih =>
    intro c hc x3
    have hB := St.swp_like hA c (by omega)
    have g1 : va_up σ 1 (stO (A.swp c) 2) 1 = stO (A.swp c) 2 := up_at _ _ _
    refine P_iload_n (q := 8) dX4_flipGainingCells_7 rfl rfl ?_
    refine P_aload_n (q := 9) dX4_flipGainingCells_8 rfl rfl ?_
    refine P_get (q := 12) dX4_flipGainingCells_9 rfl fX4_9 (by decide) (by assumption) rfl ?_
    rw [hB.2.1]
    refine P_icmp_ge (q := 15) (tgt := 55) dX4_flipGainingCells_12 rfl (by decide) (fun c_12 => ?_) (fun c_12 => ?_)
    · exfalso; rw [nI_leI (by omega) (by omega)] at c_12; omega
    · rw [nI_leI (by omega) (by omega)] at c_12
      refine P_iconst (q := 16) (v := nI 0) dX4_flipGainingCells_15 rfl (by decide +kernel) ?_
      refine P_istore_n (q := 17) (L' := [_, _, _, _]) dX4_flipGainingCells_16 rfl (by decide) rfl ?_
      exact w_fg1 hA h1 h2 hf (show c < A.C by omega) (fun x3 => ih (c + 1) (by omega) x3) A.R 0 (by omega)
set_option maxRecDepth 100000 in
set_option maxHeartbeats 4000000 in
theorem t_fg {σ : Sto} {A : St} {f : Nat → Int32} (hA : A.ok) (h1 : σ 1 = stO A 2) (h2 : σ 2 = pI .int 40 f) (hf : stF A f) : CD mX4_flipGainingCells [.ref 1] 132 σ (some (.int ((A.swp A.C).tu - A.tu))) (va_up σ 1 (stO (A.swp A.C) 2)) := by
  refine CP_of (by decide +kernel) (Nat.le_of_ble_eq_true rfl) ?_
  change PW _ _ _ _ 0 [_, _, _, _] [] _ _ _ _
  refine P_aload_n (q := 1) dX4_flipGainingCells_0 rfl rfl ?_
  refine P_get (q := 4) dX4_flipGainingCells_1 rfl fX4_39 (by decide) (by assumption) rfl ?_
  refine P_istore_n (q := 5) (L' := [_, _, _, _]) dX4_flipGainingCells_4 rfl (by decide) rfl ?_
  refine P_iconst (q := 6) (v := nI 0) dX4_flipGainingCells_5 rfl (by decide +kernel) ?_
  refine P_istore_n (q := 7) (L' := [_, _, _, _]) dX4_flipGainingCells_6 rfl (by decide) rfl ?_
  have h := w_fg0 hA h1 h2 hf A.C 0 (by omega) none
  rw [show va_up σ 1 (stO (A.swp 0) 2) = σ from up_self h1] at h
  exact h
/-- the patch of the cell k, by steps -/
def St.pIt (A : St) (k : Nat) : Nat → Nat
  | 0 => 2 ^ k
  | n + 1 => A.pIt k n ||| (A.bN (A.pIt k n) &&& A.lk k)
theorem St.pIt_lt {A : St} (hA : A.ok) {k : Nat} (hk : k < 40) : ∀ n, A.pIt k n < 2 ^ 40
  | 0 => Nat.pow_lt_pow_right (by decide) hk
  | n + 1 => or_lt (A.pIt_lt hA hk n) (and_lt (A.lk_lt hA k))
theorem St.pIt_fix {A : St} {k n : Nat} (h : A.pIt k (n + 1) = A.pIt k n) : ∀ m, A.pIt k (n + m) = A.pIt k n
  | 0 => rfl
  | m + 1 => by
    have ih := St.pIt_fix h m
    show A.pIt k (n + m) ||| (A.bN (A.pIt k (n + m)) &&& A.lk k) = _
    rw [ih]
    exact h
theorem lcmp_eq {a b : Nat} (ha : a < 2 ^ 63) (hb : b < 2 ^ 63) : lg_cmp (lN a) (lN b) = 0 ↔ a = b := by
  have e : lN a = lN b ↔ a = b := pk_lEQ ha hb
  unfold lg_cmp
  by_cases h : lN a > lN b
  · rw [if_pos h]
    constructor
    · intro q; exact absurd q (by decide)
    · intro q; rw [q] at h
      have h' : lN b < lN b := h
      rw [pk_lLT hb hb] at h'
      omega
  · rw [if_neg h]
    by_cases h' : lN a = lN b
    · simp [h', e.mp h']
    · rw [if_neg h']
      constructor
      · intro q; exact absurd q (by decide)
      · intro q; exact absurd (e.mpr q) h'

set_option maxRecDepth 100000 in
set_option maxHeartbeats 4000000 in
theorem w_patch {σ : Sto} {A : St} (hA : A.ok) (h1 : σ 1 = stO A 2) {k : Nat} (hk : k < 40) (y : Int64) : ∀ m j, j + m = 30 → ∀ b, b < 2 ^ 40 → (A.pIt k j = b → ∃ i, j = i + 1 ∧ A.pIt k i = b) → PW mX4_patchOf 0 0 (fun v σ' => v = some (.long (lN (A.pIt k 30))) ∧ σ' = σ) 15 [some (.ref 1), some (.long y), none, some (.long (lN (A.lk k))), none, some (.long (lN (A.pIt k j))), none, some (.long (lN b)), none, some (.int (nI j))] [] 132 σ 0 0 := by
  intro m
  induction m with
  | zero =>
    intro j hj b hb hbj
    have e : j = 30 := by omega
    subst e
    refine P_iload (q := 17) dX4_patchOf_15 rfl rfl ?_
    refine P_bipush (q := 19) (v := nI 30) dX4_patchOf_17 rfl (by decide +kernel) ?_
    refine P_icmp_ge (q := 22) (tgt := 53) dX4_patchOf_19 rfl (by decide) (fun c_19 => ?_) (fun c_19 => ?_)
    · rw [nI_leI (by omega) (by omega)] at c_19
      refine P_lload (q := 55) dX4_patchOf_53 rfl rfl ?_
      refine P_lret dX4_patchOf_55 rfl ?_
      exact ⟨rfl, rfl⟩
    · exfalso; rw [nI_leI (by omega) (by omega)] at c_19; omega
  | succ m ih =>
    intro j hj b hb hbj
    have hp := A.pIt_lt hA hk j
    have hl := A.lk_lt hA k
    have hn := A.bN_lt hA (A.pIt k j)
    refine P_iload (q := 17) dX4_patchOf_15 rfl rfl ?_
    refine P_bipush (q := 19) (v := nI 30) dX4_patchOf_17 rfl (by decide +kernel) ?_
    refine P_icmp_ge (q := 22) (tgt := 53) dX4_patchOf_19 rfl (by decide) (fun c_19 => ?_) (fun c_19 => ?_)
    · exfalso; rw [nI_leI (by omega) (by omega)] at c_19; omega
    · rw [nI_leI (by omega) (by omega)] at c_19
      refine P_lload (q := 24) dX4_patchOf_22 rfl rfl ?_
      refine P_lload (q := 26) dX4_patchOf_24 rfl rfl ?_
      refine P_lcmp (q := 27) dX4_patchOf_26 rfl ?_
      refine P_if_eq (q := 30) (tgt := 53) dX4_patchOf_27 rfl (by decide) (fun c_27 => ?_) (fun c_27 => ?_)
      · rw [lcmp_eq (by omega) (by omega)] at c_27
        refine P_lload (q := 55) dX4_patchOf_53 rfl rfl ?_
        refine P_lret dX4_patchOf_55 rfl ?_
        obtain ⟨i, rfl, hi⟩ := hbj c_27
        have h := St.pIt_fix (A := A) (k := k) (n := i) (by rw [hi]; exact c_27) (30 - i)
        rw [show i + (30 - i) = 30 by omega] at h
        exact ⟨rv_l (by rw [h, c_27, hi]), rfl⟩
      · rw [lcmp_eq (by omega) (by omega)] at c_27
        refine P_lload (q := 32) dX4_patchOf_30 rfl rfl ?_
        refine P_lstore (q := 34) (L' := [_, _, _, _, _, _, _, _, _, _]) dX4_patchOf_32 rfl (by decide) rfl ?_
        refine P_lload (q := 36) dX4_patchOf_34 rfl rfl ?_
        refine P_aload_n (q := 37) dX4_patchOf_36 rfl rfl ?_
        refine P_lload (q := 39) dX4_patchOf_37 rfl rfl ?_
        refine P_cv1 (q := 42) dX4_patchOf_39 rfl kX4_100 (t_beside hA h1 _ hp) rfl rfl (by decide) (by assumption) rfl ⟨by decide, by decide⟩ (Nat.le_of_ble_eq_true rfl) ⟨Nat.le_refl _, Nat.le_refl _⟩ ?_
        refine P_lload_n (q := 43) dX4_patchOf_42 rfl rfl ?_
        refine P_land (q := 44) dX4_patchOf_43 rfl ?_
        rw [lN_and (by omega) (by omega)]
        refine P_lor (q := 45) dX4_patchOf_44 rfl ?_
        rw [lN_or (by omega) (Nat.lt_of_le_of_lt Nat.and_le_left (by omega))]
        refine P_lstore (q := 47) (L' := [_, _, _, _, _, _, _, _, _, _]) dX4_patchOf_45 rfl (by decide) rfl ?_
        refine P_iinc (q := 50) (L' := [_, _, _, _, _, _, _, _, _, _]) (v := nI (j + 1)) dX4_patchOf_47 rfl (by decide) rfl (nI_1 j) rfl ?_
        refine P_goto (tgt := 15) dX4_patchOf_50 (by decide) ?_
        exact ih (j + 1) (by omega) _ hp (fun h => ⟨j, rfl, rfl⟩)
set_option maxRecDepth 100000 in
set_option maxHeartbeats 4000000 in
theorem t_patchOf {σ : Sto} {A : St} (hA : A.ok) (h1 : σ 1 = stO A 2) {k : Nat} (hk : k < 40) : CD mX4_patchOf [.ref 1, .long (lN (2 ^ k))] 132 σ (some (.long (lN (A.pIt k 30)))) σ := by
  refine CP_of (by decide +kernel) (Nat.le_of_ble_eq_true rfl) ?_
  change PW _ _ _ _ 0 [_, _, _, _, _, _, _, _, _, _] [] _ _ _ _
  refine P_aload_n (q := 1) dX4_patchOf_0 rfl rfl ?_
  refine P_lload_n (q := 2) dX4_patchOf_1 rfl rfl ?_
  refine P_cv1 (q := 5) dX4_patchOf_2 rfl kX4_103 (t_alike hA h1 (by omega)) rfl rfl (by decide) (by assumption) rfl ⟨by decide, by decide⟩ (Nat.le_of_ble_eq_true rfl) ⟨Nat.le_refl _, Nat.le_refl _⟩ ?_
  refine P_lstore_n (q := 6) (L' := [_, _, _, _, _, _, _, _, _, _]) dX4_patchOf_5 rfl (by decide) rfl ?_
  refine P_lload_n (q := 7) dX4_patchOf_6 rfl rfl ?_
  refine P_lstore (q := 9) (L' := [_, _, _, _, _, _, _, _, _, _]) dX4_patchOf_7 rfl (by decide) rfl ?_
  refine P_lconst (q := 10) (v := lN 0) dX4_patchOf_9 rfl (by decide +kernel) ?_
  refine P_lstore (q := 12) (L' := [_, _, _, _, _, _, _, _, _, _]) dX4_patchOf_10 rfl (by decide) rfl ?_
  refine P_iconst (q := 13) (v := nI 0) dX4_patchOf_12 rfl (by decide +kernel) ?_
  refine P_istore (q := 15) (L' := [_, _, _, _, _, _, _, _, _, _]) dX4_patchOf_13 rfl (by decide) rfl ?_
  exact w_patch hA h1 hk _ 30 0 (by omega) 0 (by decide) (fun h => absurd h (by show ¬ 2 ^ k = 0; have := Nat.two_pow_pos k; omega))
end
section
/-! THE STRIP: patches counted, copies, laying anew -/
def St.ptc (A : St) (p : Nat × Nat) (c : Nat) : Nat → Nat × Nat
  | 0 => p
  | r + 1 => if (A.ptc p c r).2.testBit (4 * c + r) then A.ptc p c r else ((A.ptc p c r).1 + 1, (A.ptc p c r).2 ||| A.pIt (4 * c + r) 30)
def St.ptp (A : St) : Nat → Nat × Nat
  | 0 => (0, 0)
  | c + 1 => A.ptc (A.ptp c) c A.R
theorem St.ptc_lt {A : St} (hA : A.ok) {p : Nat × Nat} {c : Nat} (hp : p.2 < 2 ^ 40) (hc : c < A.C) : ∀ r, r ≤ A.R → (A.ptc p c r).2 < 2 ^ 40
  | 0, _ => hp
  | r + 1, h => by
    have ih := St.ptc_lt hA hp hc r (by omega)
    have hC := hA.1.2
    have hR := hA.2.1.2
    rw [St.ptc]
    split
    · exact ih
    · exact or_lt ih (A.pIt_lt hA (by omega) 30)
theorem St.ptp_lt {A : St} (hA : A.ok) : ∀ c, c ≤ A.C → (A.ptp c).2 < 2 ^ 40
  | 0, _ => (show 0 < 2 ^ 40 by decide)
  | c + 1, h => St.ptc_lt hA (St.ptp_lt hA c (by omega)) (by omega) A.R (Nat.le_refl _)
set_option maxRecDepth 100000 in
set_option maxHeartbeats 4000000 in
theorem w_pt1 {σ : Sto} {A : St} (hA : A.ok) (h1 : σ 1 = stO A 2) {c : Nat} (hc : c < A.C) (K : ∀ x5 x6 x7 : Option Value, PW mX4_patches 0 0 (fun v σ' => v = some (.int (nI (A.ptp A.C).1)) ∧ σ' = σ) 7 [some (.ref 1), some (.int (nI (A.ptp (c + 1)).1)), some (.long (lN (A.ptp (c + 1)).2)), none, some (.int (nI (c + 1))), x5, x6, x7] [] 132 σ 0 0) : ∀ k r, r + k = A.R → ∀ x6 x7 : Option Value, PW mX4_patches 0 0 (fun v σ' => v = some (.int (nI (A.ptp A.C).1)) ∧ σ' = σ) 19 [some (.ref 1), some (.int (nI (A.ptc (A.ptp c) c r).1)), some (.long (lN (A.ptc (A.ptp c) c r).2)), none, some (.int (nI c)), some (.int (nI r)), x6, x7] [] 132 σ 0 0 := by
  have hC := hA.1.2
  have hR := hA.2.1.2
  intro k
  induction k with
  | zero =>
    intro r hr x6 x7
    have e : r = A.R := by omega
    subst e
    refine P_iload (q := 21) dX4_patches_19 rfl rfl ?_
    refine P_aload_n (q := 22) dX4_patches_21 rfl rfl ?_
    refine P_get (q := 25) dX4_patches_22 rfl fX4_15 (by decide) (by assumption) rfl ?_
    refine P_icmp_ge (q := 28) (tgt := 64) dX4_patches_25 rfl (by decide) (fun c_25 => ?_) (fun c_25 => ?_)
    · rw [nI_leI (by omega) (by omega)] at c_25
      refine P_iinc (q := 67) (L' := [_, _, _, _, _, _, _, _]) (v := nI (c + 1)) dX4_patches_64 rfl (by decide) rfl (nI_1 c) rfl ?_
      refine P_goto (tgt := 7) dX4_patches_67 (by decide) ?_
      exact K _ _ _
    · exfalso; rw [nI_leI (by omega) (by omega)] at c_25; omega
  | succ k ih =>
    intro r hr x6 x7
    have hr' : r < A.R := by omega
    have hs := St.ptc_lt hA (St.ptp_lt hA c (by omega)) hc r (by omega)
    have ihr := ih (r + 1) (by omega)
    rw [St.ptc] at ihr
    generalize A.ptc (A.ptp c) c r = p at hs ihr ⊢
    have hp := A.pIt_lt hA (k := 4 * c + r) (by omega) 30
    refine P_iload (q := 21) dX4_patches_19 rfl rfl ?_
    refine P_aload_n (q := 22) dX4_patches_21 rfl rfl ?_
    refine P_get (q := 25) dX4_patches_22 rfl fX4_15 (by decide) (by assumption) rfl ?_
    refine P_icmp_ge (q := 28) (tgt := 64) dX4_patches_25 rfl (by decide) (fun c_25 => ?_) (fun c_25 => ?_)
    · exfalso; rw [nI_leI (by omega) (by omega)] at c_25; omega
    · rw [nI_leI (by omega) (by omega)] at c_25
      refine P_iload (q := 30) dX4_patches_28 rfl rfl ?_
      refine P_iload (q := 32) dX4_patches_30 rfl rfl ?_
      refine P_cs1 (q := 35) dX4_patches_32 rfl kX4_62 (t_bit r c (by omega)) rfl rfl ⟨by decide, by decide⟩ (Nat.le_of_ble_eq_true rfl) ⟨Nat.le_refl _, Nat.le_refl _⟩ ?_
      refine P_lstore (q := 37) (L' := [_, _, _, _, _, _, _, _]) dX4_patches_35 rfl (by decide) rfl ?_
      refine P_lload_n (q := 38) dX4_patches_37 rfl rfl ?_
      refine P_lload (q := 40) dX4_patches_38 rfl rfl ?_
      refine P_land (q := 41) dX4_patches_40 rfl ?_
      refine P_lconst (q := 42) (v := lN 0) dX4_patches_41 rfl (by decide +kernel) ?_
      refine P_lcmp (q := 43) dX4_patches_42 rfl ?_
      refine P_if_ne (q := 46) (tgt := 58) dX4_patches_43 rfl (by decide) (fun c_43 => ?_) (fun c_43 => ?_)
      · have hb : p.2.testBit (4 * c + r) = true := by cases hq : p.2.testBit (4 * c + r) with | true => rfl | false => exact absurd ((bit_test (by omega) (by omega)).mpr hq) c_43
        rw [if_pos hb] at ihr
        refine P_iinc (q := 61) (L' := [_, _, _, _, _, _, _, _]) (v := nI (r + 1)) dX4_patches_58 rfl (by decide) rfl (nI_1 r) rfl ?_
        refine P_goto (tgt := 19) dX4_patches_61 (by decide) ?_
        exact ihr _ _
      · rw [bit_test (by omega) (by omega)] at c_43
        rw [if_neg (by rw [c_43]; decide)] at ihr
        refine P_lload_n (q := 47) dX4_patches_46 rfl rfl ?_
        refine P_aload_n (q := 48) dX4_patches_47 rfl rfl ?_
        refine P_lload (q := 50) dX4_patches_48 rfl rfl ?_
        refine P_cv1 (q := 53) dX4_patches_50 rfl kX4_106 (t_patchOf hA h1 (by omega)) rfl rfl (by decide) (by assumption) rfl ⟨by decide, by decide⟩ (Nat.le_of_ble_eq_true rfl) ⟨Nat.le_refl _, Nat.le_refl _⟩ ?_
        refine P_lor (q := 54) dX4_patches_53 rfl ?_
        rw [lN_or (by omega) (by omega)]
        refine P_lstore_n (q := 55) (L' := [_, _, _, _, _, _, _, _]) dX4_patches_54 rfl (by decide) rfl ?_
        refine P_iinc (q := 58) (L' := [_, _, _, _, _, _, _, _]) (v := nI (p.1 + 1)) dX4_patches_55 rfl (by decide) rfl (nI_1 _) rfl ?_
        refine P_iinc (q := 61) (L' := [_, _, _, _, _, _, _, _]) (v := nI (r + 1)) dX4_patches_58 rfl (by decide) rfl (nI_1 r) rfl ?_
        refine P_goto (tgt := 19) dX4_patches_61 (by decide) ?_
        exact ihr _ _
set_option maxRecDepth 100000 in
set_option maxHeartbeats 4000000 in
theorem w_pt0 {σ : Sto} {A : St} (hA : A.ok) (h1 : σ 1 = stO A 2) : ∀ k c, c + k = A.C → ∀ x5 x6 x7 : Option Value, PW mX4_patches 0 0 (fun v σ' => v = some (.int (nI (A.ptp A.C).1)) ∧ σ' = σ) 7 [some (.ref 1), some (.int (nI (A.ptp c).1)), some (.long (lN (A.ptp c).2)), none, some (.int (nI c)), x5, x6, x7] [] 132 σ 0 0 := by
  have hC := hA.1.2
  have hR := hA.2.1.2
  intro k
  induction k with
  | zero =>
    intro c hc x5 x6 x7
    have e : c = A.C := by omega
    subst e
    refine P_iload (q := 9) dX4_patches_7 rfl rfl ?_
    refine P_aload_n (q := 10) dX4_patches_9 rfl rfl ?_
    refine P_get (q := 13) dX4_patches_10 rfl fX4_9 (by decide) (by assumption) rfl ?_
    refine P_icmp_ge (q := 16) (tgt := 70) dX4_patches_13 rfl (by decide) (fun c_13 => ?_) (fun c_13 => ?_)
    · rw [nI_leI (by omega) (by omega)] at c_13
      refine P_iload_n (q := 71) dX4_patches_70 rfl rfl ?_
      refine P_iret dX4_patches_71 rfl (rfl) ?_
      exact ⟨rfl, rfl⟩
    · exfalso; rw [nI_leI (by omega) (by omega)] at c_13; omega
  | succ k ih =>
    intro c hc x5 x6 x7
    refine P_iload (q := 9) dX4_patches_7 rfl rfl ?_
    refine P_aload_n (q := 10) dX4_patches_9 rfl rfl ?_
    refine P_get (q := 13) dX4_patches_10 rfl fX4_9 (by decide) (by assumption) rfl ?_
    refine P_icmp_ge (q := 16) (tgt := 70) dX4_patches_13 rfl (by decide) (fun c_13 => ?_) (fun c_13 => ?_)
    · exfalso; rw [nI_leI (by omega) (by omega)] at c_13; omega
    · rw [nI_leI (by omega) (by omega)] at c_13
      refine P_iconst (q := 17) (v := nI 0) dX4_patches_16 rfl (by decide +kernel) ?_
      refine P_istore (q := 19) (L' := [_, _, _, _, _, _, _, _]) dX4_patches_17 rfl (by decide) rfl ?_
      exact w_pt1 hA h1 (show c < A.C by omega) (fun x5 x6 x7 => ih (c + 1) (by omega) x5 x6 x7) A.R 0 (by omega) _ _
set_option maxRecDepth 100000 in
set_option maxHeartbeats 4000000 in
theorem t_patches {σ : Sto} {A : St} (hA : A.ok) (h1 : σ 1 = stO A 2) : CD mX4_patches [.ref 1] 132 σ (some (.int (nI (A.ptp A.C).1))) σ := by
  refine CP_of (by decide +kernel) (Nat.le_of_ble_eq_true rfl) ?_
  change PW _ _ _ _ 0 [_, _, _, _, _, _, _, _] [] _ _ _ _
  refine P_iconst (q := 1) (v := nI 0) dX4_patches_0 rfl (by decide +kernel) ?_
  refine P_istore_n (q := 2) (L' := [_, _, _, _, _, _, _, _]) dX4_patches_1 rfl (by decide) rfl ?_
  refine P_lconst (q := 3) (v := lN 0) dX4_patches_2 rfl (by decide +kernel) ?_
  refine P_lstore_n (q := 4) (L' := [_, _, _, _, _, _, _, _]) dX4_patches_3 rfl (by decide) rfl ?_
  refine P_iconst (q := 5) (v := nI 0) dX4_patches_4 rfl (by decide +kernel) ?_
  refine P_istore (q := 7) (L' := [_, _, _, _, _, _, _, _]) dX4_patches_5 rfl (by decide) rfl ?_
  exact w_pt0 hA h1 A.C 0 (by omega) _ _ _
section PWA
variable {M : Mth} {mc ms : Nat} {Q : Option Value → Sto → Prop} {pc q n cs sl : Nat} {L : List (Option Value)} {S : List Value} {σ σ' : Sto}
theorem P_copyi {idx a0 a1 n0 n1 sp dp N : Nat} {f g : Nat → Int32} {x y z : Int32} (d : decode M.2.1 pc = .ok (.invokestatic idx, 3)) (hq : pc + 3 = q) (h1 : Cond.methodLink M.1.cls idx ⟨"java/lang/System", "arraycopy", "(Ljava/lang/Object;ILjava/lang/Object;II)V"⟩ ∈ lw_w) (h2 : Cond.native arraycopyName ∈ lw_w) (h3 : Cond.static arraycopyName ∈ lw_w) (h4 : Cond.initialized "java/lang/System" ∈ lw_w) (ha0 : a0 < n) (ha1 : a1 < n) (hσ0 : σ a0 = pI .int n0 f) (hσ1 : σ a1 = pI .int n1 g)
    (hx : x = nI sp) (hy : y = nI dp) (hz : z = nI N) (b1 : sp + N ≤ n0) (b2 : dp + N ≤ n1) (b3 : n0 < 2 ^ 31) (b4 : n1 < 2 ^ 31) (hd : 1 ≤ M.2.2.2.2) (hsum : (S.map fun v => v.category).sum ≤ 8) (hs : va_up σ a1 (pI .int n1 (va_cpy f g sp dp N)) = σ') (kk : PW M mc ms Q q L S n σ' cs sl) : PW M mc ms Q pc L (.int z :: .int y :: .ref a1 :: .int x :: .ref a0 :: S) n σ cs sl := by
  subst hq; subst hx; subst hy; subst hz
  intro p l e s m args below meth c D aC h0 H locs ls hC hh hz hW hS hL
  have e0 := pw_at (D := D) (aC := aC) (h0 := h0) ha0 hσ0
  have e1 := pw_at (D := D) (aC := aC) (h0 := h0) ha1 hσ1
  refine va_copyi hC.1 hC.2.1 (hC.2.2.1.trans hL.1.symm) hC.2.2.2.1 (hC.2.2.2.2.1 _ h1) (hC.2.2.2.2.1 _ h2) (hC.2.2.2.2.1 _ h3) (hC.2.2.2.2.1 _ h4) hC.2.2.2.2.2.1.1 hW.1 (pw_D h0 aC n σ) hS a0 a1 0 0 e0 e1 rfl rfl rfl (nI_pos (by omega)) (nI_pos (by omega)) (nI_pos (by omega)) (by rw [nI_clamp (by omega), nI_clamp (by omega)]; exact b1) (by rw [nI_clamp (by omega), nI_clamp (by omega)]; exact b2) (fun _ _ => rfl) (by show 1 ≤ M.2.2.2.2; exact hd) ?_ d (fun H1 locs1 hP _ hS1 => pw_back hs kk hC hh hz hL ?_ hP hS1)
  · show _ ≤ 37 * M.2.2.2.2
    rw [pw_map_cat, show nativeFrameWords "java/lang/System" "arraycopy" 5 + 11 = nativeFrameWords "java/lang/System" "arraycopy" 5 + 11 from rfl]
    have hw : nativeFrameWords "java/lang/System" "arraycopy" 5 + 11 ≤ 29 := by decide +kernel
    omega
  · rw [nI_clamp (by omega), nI_clamp (by omega), nI_clamp (by omega)]
    rfl
end PWA
theorem w_ac1 : Cond.native arraycopyName ∈ lw_w := lw_w_at (i := 345) (by decide +kernel) (by decide +kernel)
theorem w_ac2 : Cond.static arraycopyName ∈ lw_w := lw_w_at (i := 344) (by decide +kernel) (by decide +kernel)
theorem w_ac3 : Cond.initialized "java/lang/System" ∈ lw_w := lw_w_at (i := 75) (by decide +kernel) (by decide +kernel)
theorem nar_b {g : Nat} (h : g ≤ 1) : narrow .boolean (.int (nI g)) = .int (nI g) := by
  have : g = 0 ∨ g = 1 := by omega
  rcases this with rfl | rfl <;> rfl
theorem fit_b {g : Nat} (h : g ≤ 1) : fits .boolean (.int (nI g)) = true := by
  have : g = 0 ∨ g = 1 := by omega
  rcases this with rfl | rfl <;> rfl
set_option maxRecDepth 100000 in
set_option maxHeartbeats 4000000 in
theorem t_copyFrom {σ : Sto} {A B : St} {a b fa fb : Nat} {f g : Nat → Int32} (hB : B.ok) (ha : a < 132) (hb : b < 132) (hfa : fa < 132) (hfb : fb < 132) (hab : a ≠ b) (haf : fa ≠ b) (hbf : fb ≠ b) (hσa : σ a = stO B fa) (hσb : σ b = stO A fb) (hσfa : σ fa = pI .int 40 f) (hσfb : σ fb = pI .int 40 g) : CD mX4_copyFrom [.ref b, .ref a] 132 σ none (va_up (va_up σ b (stO B fb)) fb (pI .int 40 (va_cpy f g 0 0 40))) := by
  refine CP_of (by decide +kernel) (Nat.le_of_ble_eq_true rfl) ?_
  change PW _ _ _ _ 0 [_, _] [] _ _ _ _
  refine P_aload_n (q := 1) dX4_copyFrom_0 rfl rfl ?_
  refine P_aload_n (q := 2) dX4_copyFrom_1 rfl rfl ?_
  refine P_get (q := 5) dX4_copyFrom_2 rfl fX4_9 (ha) (hσa) rfl ?_
  refine P_put (q := 8) (fs' := [_, _, _, _, _, _, _, _, _]) dX4_copyFrom_5 rfl gX4_9 (hb) (hσb) (fun _ => rfl) (fun _ => rfl) (Nat.le_of_ble_eq_true rfl) rfl (rfl) ?_
  refine P_aload_n (q := 9) dX4_copyFrom_8 rfl rfl ?_
  refine P_aload_n (q := 10) dX4_copyFrom_9 rfl rfl ?_
  refine P_get (q := 13) dX4_copyFrom_10 rfl fX4_15 (ha) ((up_ne _ _ hab).trans hσa) rfl ?_
  refine P_put (q := 16) (fs' := [_, _, _, _, _, _, _, _, _]) dX4_copyFrom_13 rfl gX4_15 (hb) (up_at _ _ _) (fun _ => rfl) (fun _ => rfl) (Nat.le_of_ble_eq_true rfl) rfl (up_up _ _ _ _) ?_
  refine P_aload_n (q := 17) dX4_copyFrom_16 rfl rfl ?_
  refine P_aload_n (q := 18) dX4_copyFrom_17 rfl rfl ?_
  refine P_get (q := 21) dX4_copyFrom_18 rfl fX4_18 (ha) ((up_ne _ _ hab).trans hσa) rfl ?_
  refine P_put (q := 24) (fs' := [_, _, _, _, _, _, _, _, _]) dX4_copyFrom_21 rfl gX4_18 (hb) (up_at _ _ _) (fun _ => nar_b hB.2.2.1) (fun _ => fit_b hB.2.2.1) (Nat.le_of_ble_eq_true rfl) rfl (up_up _ _ _ _) ?_
  refine P_aload_n (q := 25) dX4_copyFrom_24 rfl rfl ?_
  refine P_aload_n (q := 26) dX4_copyFrom_25 rfl rfl ?_
  refine P_get (q := 29) dX4_copyFrom_26 rfl fX4_22 (ha) ((up_ne _ _ hab).trans hσa) rfl ?_
  refine P_put (q := 32) (fs' := [_, _, _, _, _, _, _, _, _]) dX4_copyFrom_29 rfl gX4_22 (hb) (up_at _ _ _) (fun _ => rfl) (fun _ => rfl) (Nat.le_of_ble_eq_true rfl) rfl (up_up _ _ _ _) ?_
  refine P_aload_n (q := 33) dX4_copyFrom_32 rfl rfl ?_
  refine P_aload_n (q := 34) dX4_copyFrom_33 rfl rfl ?_
  refine P_get (q := 37) dX4_copyFrom_34 rfl fX4_25 (ha) ((up_ne _ _ hab).trans hσa) rfl ?_
  refine P_put (q := 40) (fs' := [_, _, _, _, _, _, _, _, _]) dX4_copyFrom_37 rfl gX4_25 (hb) (up_at _ _ _) (fun _ => rfl) (fun _ => rfl) (Nat.le_of_ble_eq_true rfl) rfl (up_up _ _ _ _) ?_
  refine P_aload_n (q := 41) dX4_copyFrom_40 rfl rfl ?_
  refine P_aload_n (q := 42) dX4_copyFrom_41 rfl rfl ?_
  refine P_get (q := 45) dX4_copyFrom_42 rfl fX4_32 (ha) ((up_ne _ _ hab).trans hσa) rfl ?_
  refine P_put (q := 48) (fs' := [_, _, _, _, _, _, _, _, _]) dX4_copyFrom_45 rfl gX4_32 (hb) (up_at _ _ _) (fun _ => rfl) (fun _ => rfl) (Nat.le_of_ble_eq_true rfl) rfl (up_up _ _ _ _) ?_
  refine P_aload_n (q := 49) dX4_copyFrom_48 rfl rfl ?_
  refine P_aload_n (q := 50) dX4_copyFrom_49 rfl rfl ?_
  refine P_get (q := 53) dX4_copyFrom_50 rfl fX4_36 (ha) ((up_ne _ _ hab).trans hσa) rfl ?_
  refine P_put (q := 56) (fs' := [_, _, _, _, _, _, _, _, _]) dX4_copyFrom_53 rfl gX4_36 (hb) (up_at _ _ _) (fun _ => rfl) (fun _ => rfl) (Nat.le_of_ble_eq_true rfl) rfl (up_up _ _ _ _) ?_
  refine P_aload_n (q := 57) dX4_copyFrom_56 rfl rfl ?_
  refine P_aload_n (q := 58) dX4_copyFrom_57 rfl rfl ?_
  refine P_get (q := 61) dX4_copyFrom_58 rfl fX4_39 (ha) ((up_ne _ _ hab).trans hσa) rfl ?_
  refine P_put (q := 64) (fs' := [_, _, _, _, _, _, _, _, _]) dX4_copyFrom_61 rfl gX4_39 (hb) (up_at _ _ _) (fun _ => rfl) (fun _ => rfl) (Nat.le_of_ble_eq_true rfl) rfl (up_up _ _ _ _) ?_
  refine P_aload_n (q := 65) dX4_copyFrom_64 rfl rfl ?_
  refine P_get (q := 68) dX4_copyFrom_65 rfl fX4_42 (ha) ((up_ne _ _ hab).trans hσa) rfl ?_
  refine P_iconst (q := 69) (v := nI 0) dX4_copyFrom_68 rfl (by decide +kernel) ?_
  refine P_aload_n (q := 70) dX4_copyFrom_69 rfl rfl ?_
  refine P_get (q := 73) dX4_copyFrom_70 rfl fX4_42 (hb) (up_at _ _ _) rfl ?_
  refine P_iconst (q := 74) (v := nI 0) dX4_copyFrom_73 rfl (by decide +kernel) ?_
  refine P_aload_n (q := 75) dX4_copyFrom_74 rfl rfl ?_
  refine P_get (q := 78) dX4_copyFrom_75 rfl fX4_42 (hb) (up_at _ _ _) rfl ?_
  refine P_ilen (q := 79) 0 (fun _ => rfl) dX4_copyFrom_78 rfl (hfb) ((up_ne _ _ hbf).trans hσfb) ?_
  refine P_copyi (q := 82) (sp := 0) (dp := 0) (N := 40) dX4_copyFrom_79 rfl kX4_50 w_ac1 w_ac2 w_ac3 hfa hfb ((up_ne _ _ haf).trans hσfa) ((up_ne _ _ hbf).trans hσfb) rfl rfl rfl (by decide) (by decide) (by decide) (by decide) (by decide) (Nat.le_of_ble_eq_true rfl) rfl ?_
  refine P_vret dX4_copyFrom_82 rfl ?_
  exact ⟨rfl, rfl⟩
def St.lay (A : St) (c r g : Nat) : St := (c, r, g, A.al, A.ac, fun k => if k < c then 2 ^ r - 1 else 0, fun _ _ => 0, A.tu)
theorem upsN_cut {sp : Nat → Nat} {n : Nat} : ∀ m, n ≤ m → upsN (fun k => if k < n then sp k else 0) m = upsN sp n := by
  intro m hm
  have h : ∀ k, k ≤ n → upsN (fun k => if k < n then sp k else 0) k = upsN sp k := fun k hk => sumN_congr fun i hi => by
    show (if i < n then sp i else 0) * 16 ^ i = _
    rw [if_pos (by omega)]
  obtain ⟨d, rfl⟩ : ∃ d, m = n + d := ⟨m - n, by omega⟩
  clear hm
  induction d with
  | zero => exact h n (Nat.le_refl _)
  | succ d ih =>
    rw [← Nat.add_assoc, upsN_succ]
    rw [show (if n + d < n then sp (n + d) else 0) = 0 from if_neg (by omega), ih]
    omega
theorem St.lay_U {A : St} {c r g : Nat} (hc : c ≤ 10) : (A.lay c r g).U = mskN c r := upsN_cut 10 hc
theorem St.lay_ok {A : St} (hA : A.ok) {c r g : Nat} (h1 : 1 ≤ c) (h2 : c ≤ 10) (h3 : 1 ≤ r) (h4 : r ≤ 3) (h5 : g ≤ 1) : (A.lay c r g).ok := by
  refine ⟨⟨h1, h2⟩, ⟨h3, h4⟩, h5, hA.2.2.2.1, hA.2.2.2.2.1, fun k => ?_, fun k hk => ?_, fun _ _ => ⟨(show (-3 : Int) ≤ 0 by decide), (show (0 : Int) ≤ 3 by decide)⟩⟩
  · show (if k < c then 2 ^ r - 1 else 0) < 2 ^ r
    have := Nat.two_pow_pos r
    split <;> omega
  · show (if k < c then 2 ^ r - 1 else 0) = 0
    have hk' : c ≤ k := hk
    rw [if_neg (by omega)]
set_option maxRecDepth 100000 in
set_option maxHeartbeats 4000000 in
theorem t_remake {σ : Sto} {A : St} {f : Nat → Int32} (h1 : σ 1 = stO A 2) (h2 : σ 2 = pI .int 40 f) {c r g : Nat} (hc : c ≤ 10) (hr : r ≤ 3) (hg : g ≤ 1) : CD mX4_remake [.ref 1, .int (nI c), .int (nI r), .int (nI g)] 132 σ none (va_up (va_up σ 1 (stO (A.lay c r g) 2)) 2 (pI .int 40 (flV 40 (nI 0) f 40))) := by
  refine CP_of (by decide +kernel) (Nat.le_of_ble_eq_true rfl) ?_
  change PW _ _ _ _ 0 [_, _, _, _] [] _ _ _ _
  refine P_aload_n (q := 1) dX4_remake_0 rfl rfl ?_
  refine P_iload_n (q := 2) dX4_remake_1 rfl rfl ?_
  refine P_put (q := 5) (fs' := [_, _, _, _, _, _, _, _, _]) dX4_remake_2 rfl gX4_9 (by decide) (h1) (fun _ => rfl) (fun _ => rfl) (Nat.le_of_ble_eq_true rfl) rfl (rfl) ?_
  refine P_aload_n (q := 6) dX4_remake_5 rfl rfl ?_
  refine P_iload_n (q := 7) dX4_remake_6 rfl rfl ?_
  refine P_put (q := 10) (fs' := [_, _, _, _, _, _, _, _, _]) dX4_remake_7 rfl gX4_15 (by decide) (up_at _ _ _) (fun _ => rfl) (fun _ => rfl) (Nat.le_of_ble_eq_true rfl) rfl (up_up _ _ _ _) ?_
  refine P_aload_n (q := 11) dX4_remake_10 rfl rfl ?_
  refine P_iload_n (q := 12) dX4_remake_11 rfl rfl ?_
  refine P_put (q := 15) (fs' := [_, _, _, _, _, _, _, _, _]) dX4_remake_12 rfl gX4_18 (by decide) (up_at _ _ _) (fun _ => nar_b hg) (fun _ => fit_b hg) (Nat.le_of_ble_eq_true rfl) rfl (up_up _ _ _ _) ?_
  refine P_aload_n (q := 16) dX4_remake_15 rfl rfl ?_
  refine P_aload_n (q := 17) dX4_remake_16 rfl rfl ?_
  refine P_get (q := 20) dX4_remake_17 rfl fX4_9 (by decide) (up_at _ _ _) rfl ?_
  refine P_aload_n (q := 21) dX4_remake_20 rfl rfl ?_
  refine P_get (q := 24) dX4_remake_21 rfl fX4_15 (by decide) (up_at _ _ _) rfl ?_
  refine P_cs1 (q := 27) dX4_remake_24 rfl kX4_28 (t_allCells hc hr) rfl rfl ⟨by decide, by decide⟩ (Nat.le_of_ble_eq_true rfl) ⟨Nat.le_refl _, Nat.le_refl _⟩ ?_
  refine P_put (q := 30) (fs' := [_, _, _, _, _, _, _, _, _]) dX4_remake_27 rfl gX4_32 (by decide) (up_at _ _ _) (fun _ => rfl) (fun _ => rfl) (Nat.le_of_ble_eq_true rfl) rfl (up_up _ _ _ _) ?_
  refine P_aload_n (q := 31) dX4_remake_30 rfl rfl ?_
  refine P_aload_n (q := 32) dX4_remake_31 rfl rfl ?_
  refine P_get (q := 35) dX4_remake_32 rfl fX4_32 (by decide) (up_at _ _ _) rfl ?_
  refine P_put (q := 38) (fs' := [_, _, _, _, _, _, _, _, _]) dX4_remake_35 rfl gX4_36 (by decide) (up_at _ _ _) (fun _ => rfl) (fun _ => rfl) (Nat.le_of_ble_eq_true rfl) rfl (up_up _ _ _ _) ?_
  refine P_aload_n (q := 39) dX4_remake_38 rfl rfl ?_
  refine P_get (q := 42) dX4_remake_39 rfl fX4_42 (by decide) (up_at _ _ _) rfl ?_
  refine P_iconst (q := 43) (v := nI 0) dX4_remake_42 rfl (by decide +kernel) ?_
  refine P_cs0 (q := 46) dX4_remake_43 rfl kX4_56 (t_fill (f := f) _ (by decide) (by decide) ((up_ne _ _ (by decide)).trans h2)) rfl rfl ⟨by decide, by decide⟩ (Nat.le_of_ble_eq_true rfl) ⟨Nat.le_refl _, Nat.le_refl _⟩ ?_
  refine P_vret dX4_remake_46 rfl ?_
  exact ⟨rfl, by rw [show stO (A.lay c r g) 2 = pO 4 [.int (nI c), .int (nI r), .int (nI g), .int (iI A.al), .int (iI A.ac), .long (lN (mskN c r)), .long (lN (mskN c r)), .int A.tu, .ref 2] from by unfold stO; rw [A.lay_U hc]; rfl]⟩
end
