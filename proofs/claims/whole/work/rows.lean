section
-- ===== PART A: goes FIRST, ahead of the names: the tables' words, and 'selects' of the private methods out of them =====
/-- a private method of a class that the tables say can be made, by its rows of tables_1 -/
def lw_okq (q : MethodName × Nat) : Prop := (q.1.cls ≠ "java/lang/invoke/MethodHandle" ∧ q.1.cls ≠ "java/lang/invoke/VarHandle") ∧ Cond.instantiable q.1.cls q.2 ∈ tables_1 ∧ Cond.privateMethod q.1 ∈ tables_1 ∧ Cond.instanceMethod q.1 ∈ tables_1
theorem lw_p0 : lw_okq (⟨"CounterHouse", "hasBegun", "()Z"⟩, 14) := ⟨⟨by decide +kernel, by decide +kernel⟩, List.mem_of_getElem? (i := 10) (by decide +kernel), List.mem_of_getElem? (i := 166) (by decide +kernel), List.mem_of_getElem? (i := 167) (by decide +kernel)⟩
theorem lw_p1 : lw_okq (⟨"CounterHouse", "liveOf", "(I)I"⟩, 14) := ⟨⟨by decide +kernel, by decide +kernel⟩, List.mem_of_getElem? (i := 10) (by decide +kernel), List.mem_of_getElem? (i := 178) (by decide +kernel), List.mem_of_getElem? (i := 179) (by decide +kernel)⟩
theorem lw_p2 : lw_okq (⟨"CounterHouse", "horizon", "()I"⟩, 14) := ⟨⟨by decide +kernel, by decide +kernel⟩, List.mem_of_getElem? (i := 10) (by decide +kernel), List.mem_of_getElem? (i := 197) (by decide +kernel), List.mem_of_getElem? (i := 198) (by decide +kernel)⟩
theorem lw_p3 : lw_okq (⟨"CounterHouse", "latest", "()I"⟩, 14) := ⟨⟨by decide +kernel, by decide +kernel⟩, List.mem_of_getElem? (i := 10) (by decide +kernel), List.mem_of_getElem? (i := 201) (by decide +kernel), List.mem_of_getElem? (i := 202) (by decide +kernel)⟩
theorem lw_p4 : lw_okq (⟨"CounterHouse$Row", "isBehind", "(IIII)Z"⟩, 4) := ⟨⟨by decide +kernel, by decide +kernel⟩, List.mem_of_getElem? (i := 27) (by decide +kernel), List.mem_of_getElem? (i := 209) (by decide +kernel), List.mem_of_getElem? (i := 210) (by decide +kernel)⟩
theorem lw_p5 : lw_okq (⟨"CounterHouse$Row", "put", "(IIII)V"⟩, 4) := ⟨⟨by decide +kernel, by decide +kernel⟩, List.mem_of_getElem? (i := 27) (by decide +kernel), List.mem_of_getElem? (i := 213) (by decide +kernel), List.mem_of_getElem? (i := 214) (by decide +kernel)⟩
theorem lw_p6 : lw_okq (⟨"CounterHouse", "follow", "()V"⟩, 14) := ⟨⟨by decide +kernel, by decide +kernel⟩, List.mem_of_getElem? (i := 10) (by decide +kernel), List.mem_of_getElem? (i := 217) (by decide +kernel), List.mem_of_getElem? (i := 218) (by decide +kernel)⟩
theorem lw_p7 : lw_okq (⟨"CounterHouse", "settleBelow", "(I)V"⟩, 14) := ⟨⟨by decide +kernel, by decide +kernel⟩, List.mem_of_getElem? (i := 10) (by decide +kernel), List.mem_of_getElem? (i := 221) (by decide +kernel), List.mem_of_getElem? (i := 222) (by decide +kernel)⟩
theorem lw_p8 : lw_okq (⟨"CounterHouse", "settle", "(III)V"⟩, 14) := ⟨⟨by decide +kernel, by decide +kernel⟩, List.mem_of_getElem? (i := 10) (by decide +kernel), List.mem_of_getElem? (i := 225) (by decide +kernel), List.mem_of_getElem? (i := 226) (by decide +kernel)⟩
theorem lw_p9 : lw_okq (⟨"CounterHouse", "edge", "()I"⟩, 14) := ⟨⟨by decide +kernel, by decide +kernel⟩, List.mem_of_getElem? (i := 10) (by decide +kernel), List.mem_of_getElem? (i := 229) (by decide +kernel), List.mem_of_getElem? (i := 230) (by decide +kernel)⟩
theorem lw_p10 : lw_okq (⟨"CounterHouse", "nextGroupIsShut", "(I)Z"⟩, 14) := ⟨⟨by decide +kernel, by decide +kernel⟩, List.mem_of_getElem? (i := 10) (by decide +kernel), List.mem_of_getElem? (i := 236) (by decide +kernel), List.mem_of_getElem? (i := 237) (by decide +kernel)⟩
theorem lw_p11 : lw_okq (⟨"CounterHouse", "shutGroup", "()V"⟩, 14) := ⟨⟨by decide +kernel, by decide +kernel⟩, List.mem_of_getElem? (i := 10) (by decide +kernel), List.mem_of_getElem? (i := 244) (by decide +kernel), List.mem_of_getElem? (i := 245) (by decide +kernel)⟩
theorem lw_p12 : lw_okq (⟨"CounterHouse$LineSearch", "weigh", "(III)V"⟩, 5) := ⟨⟨by decide +kernel, by decide +kernel⟩, List.mem_of_getElem? (i := 86) (by decide +kernel), List.mem_of_getElem? (i := 265) (by decide +kernel), List.mem_of_getElem? (i := 266) (by decide +kernel)⟩
theorem lw_p13 : lw_okq (⟨"CounterHouse$LineSearch", "take", "(IIII)V"⟩, 5) := ⟨⟨by decide +kernel, by decide +kernel⟩, List.mem_of_getElem? (i := 86) (by decide +kernel), List.mem_of_getElem? (i := 278) (by decide +kernel), List.mem_of_getElem? (i := 279) (by decide +kernel)⟩
theorem lw_p14 : lw_okq (⟨"CounterHouse", "isGroup", "(I)Z"⟩, 14) := ⟨⟨by decide +kernel, by decide +kernel⟩, List.mem_of_getElem? (i := 10) (by decide +kernel), List.mem_of_getElem? (i := 303) (by decide +kernel), List.mem_of_getElem? (i := 304) (by decide +kernel)⟩
theorem lw_p15 : lw_okq (⟨"CounterHouse$Row", "nextOf", "(III)I"⟩, 4) := ⟨⟨by decide +kernel, by decide +kernel⟩, List.mem_of_getElem? (i := 27) (by decide +kernel), List.mem_of_getElem? (i := 332) (by decide +kernel), List.mem_of_getElem? (i := 333) (by decide +kernel)⟩
def lw_privs_1 : List (MethodName × Nat) := [(⟨"CounterHouse", "hasBegun", "()Z"⟩, 14), (⟨"CounterHouse", "liveOf", "(I)I"⟩, 14), (⟨"CounterHouse", "horizon", "()I"⟩, 14), (⟨"CounterHouse", "latest", "()I"⟩, 14), (⟨"CounterHouse$Row", "isBehind", "(IIII)Z"⟩, 4), (⟨"CounterHouse$Row", "put", "(IIII)V"⟩, 4), (⟨"CounterHouse", "follow", "()V"⟩, 14), (⟨"CounterHouse", "settleBelow", "(I)V"⟩, 14), (⟨"CounterHouse", "settle", "(III)V"⟩, 14), (⟨"CounterHouse", "edge", "()I"⟩, 14), (⟨"CounterHouse", "nextGroupIsShut", "(I)Z"⟩, 14), (⟨"CounterHouse", "shutGroup", "()V"⟩, 14), (⟨"CounterHouse$LineSearch", "weigh", "(III)V"⟩, 5), (⟨"CounterHouse$LineSearch", "take", "(IIII)V"⟩, 5), (⟨"CounterHouse", "isGroup", "(I)Z"⟩, 14), (⟨"CounterHouse$Row", "nextOf", "(III)I"⟩, 4)]
theorem lw_r1 : ∀ q ∈ lw_privs_1, lw_okq q := List.forall_mem_cons.mpr ⟨lw_p0, List.forall_mem_cons.mpr ⟨lw_p1, List.forall_mem_cons.mpr ⟨lw_p2, List.forall_mem_cons.mpr ⟨lw_p3, List.forall_mem_cons.mpr ⟨lw_p4, List.forall_mem_cons.mpr ⟨lw_p5, List.forall_mem_cons.mpr ⟨lw_p6, List.forall_mem_cons.mpr ⟨lw_p7, List.forall_mem_cons.mpr ⟨lw_p8, List.forall_mem_cons.mpr ⟨lw_p9, List.forall_mem_cons.mpr ⟨lw_p10, List.forall_mem_cons.mpr ⟨lw_p11, List.forall_mem_cons.mpr ⟨lw_p12, List.forall_mem_cons.mpr ⟨lw_p13, List.forall_mem_cons.mpr ⟨lw_p14, List.forall_mem_cons.mpr ⟨lw_p15, fun _ h => absurd h List.not_mem_nil⟩⟩⟩⟩⟩⟩⟩⟩⟩⟩⟩⟩⟩⟩⟩⟩
theorem lw_p16 : lw_okq (⟨"CounterHouse", "isCoincidence", "(I)Z"⟩, 14) := ⟨⟨by decide +kernel, by decide +kernel⟩, List.mem_of_getElem? (i := 10) (by decide +kernel), List.mem_of_getElem? (i := 336) (by decide +kernel), List.mem_of_getElem? (i := 337) (by decide +kernel)⟩
theorem lw_p17 : lw_okq (⟨"CounterHouse", "liveTime", "(I)I"⟩, 14) := ⟨⟨by decide +kernel, by decide +kernel⟩, List.mem_of_getElem? (i := 10) (by decide +kernel), List.mem_of_getElem? (i := 348) (by decide +kernel), List.mem_of_getElem? (i := 349) (by decide +kernel)⟩
theorem lw_p18 : lw_okq (⟨"CounterHouse", "span", "()I"⟩, 14) := ⟨⟨by decide +kernel, by decide +kernel⟩, List.mem_of_getElem? (i := 10) (by decide +kernel), List.mem_of_getElem? (i := 352) (by decide +kernel), List.mem_of_getElem? (i := 353) (by decide +kernel)⟩
theorem lw_p19 : lw_okq (⟨"CounterHouse", "coincidences", "()I"⟩, 14) := ⟨⟨by decide +kernel, by decide +kernel⟩, List.mem_of_getElem? (i := 10) (by decide +kernel), List.mem_of_getElem? (i := 387) (by decide +kernel), List.mem_of_getElem? (i := 388) (by decide +kernel)⟩
theorem lw_p20 : lw_okq (⟨"CounterHouseModel", "isBegun", "()Z"⟩, 28) := ⟨⟨by decide +kernel, by decide +kernel⟩, List.mem_of_getElem? (i := 396) (by decide +kernel), List.mem_of_getElem? (i := 498) (by decide +kernel), List.mem_of_getElem? (i := 499) (by decide +kernel)⟩
theorem lw_p21 : lw_okq (⟨"CounterHouseModel", "horizon", "()I"⟩, 28) := ⟨⟨by decide +kernel, by decide +kernel⟩, List.mem_of_getElem? (i := 396) (by decide +kernel), List.mem_of_getElem? (i := 510) (by decide +kernel), List.mem_of_getElem? (i := 511) (by decide +kernel)⟩
theorem lw_p22 : lw_okq (⟨"CounterHouseModel", "isBehind", "(IIII)Z"⟩, 28) := ⟨⟨by decide +kernel, by decide +kernel⟩, List.mem_of_getElem? (i := 396) (by decide +kernel), List.mem_of_getElem? (i := 514) (by decide +kernel), List.mem_of_getElem? (i := 515) (by decide +kernel)⟩
theorem lw_p23 : lw_okq (⟨"CounterHouseModel", "settled", "()I"⟩, 28) := ⟨⟨by decide +kernel, by decide +kernel⟩, List.mem_of_getElem? (i := 396) (by decide +kernel), List.mem_of_getElem? (i := 522) (by decide +kernel), List.mem_of_getElem? (i := 523) (by decide +kernel)⟩
theorem lw_p24 : lw_okq (⟨"CounterHouseModel", "keptOf", "(I)I"⟩, 28) := ⟨⟨by decide +kernel, by decide +kernel⟩, List.mem_of_getElem? (i := 396) (by decide +kernel), List.mem_of_getElem? (i := 534) (by decide +kernel), List.mem_of_getElem? (i := 535) (by decide +kernel)⟩
theorem lw_p25 : lw_okq (⟨"CounterHouseModel", "manyLive", "(IZ)I"⟩, 28) := ⟨⟨by decide +kernel, by decide +kernel⟩, List.mem_of_getElem? (i := 396) (by decide +kernel), List.mem_of_getElem? (i := 538) (by decide +kernel), List.mem_of_getElem? (i := 539) (by decide +kernel)⟩
theorem lw_p26 : lw_okq (⟨"CounterHouseModel", "findLive", "()V"⟩, 28) := ⟨⟨by decide +kernel, by decide +kernel⟩, List.mem_of_getElem? (i := 396) (by decide +kernel), List.mem_of_getElem? (i := 542) (by decide +kernel), List.mem_of_getElem? (i := 543) (by decide +kernel)⟩
theorem lw_p27 : lw_okq (⟨"CounterHouseModel", "isGroup", "(I)Z"⟩, 28) := ⟨⟨by decide +kernel, by decide +kernel⟩, List.mem_of_getElem? (i := 396) (by decide +kernel), List.mem_of_getElem? (i := 550) (by decide +kernel), List.mem_of_getElem? (i := 551) (by decide +kernel)⟩
theorem lw_p28 : lw_okq (⟨"CounterHouseModel", "findGroups", "(II)V"⟩, 28) := ⟨⟨by decide +kernel, by decide +kernel⟩, List.mem_of_getElem? (i := 396) (by decide +kernel), List.mem_of_getElem? (i := 554) (by decide +kernel), List.mem_of_getElem? (i := 555) (by decide +kernel)⟩
theorem lw_p29 : lw_okq (⟨"CounterHouseModel", "edge", "()I"⟩, 28) := ⟨⟨by decide +kernel, by decide +kernel⟩, List.mem_of_getElem? (i := 396) (by decide +kernel), List.mem_of_getElem? (i := 558) (by decide +kernel), List.mem_of_getElem? (i := 559) (by decide +kernel)⟩
theorem lw_p30 : lw_okq (⟨"CounterHouseModel", "comesByTime", "(II)V"⟩, 28) := ⟨⟨by decide +kernel, by decide +kernel⟩, List.mem_of_getElem? (i := 396) (by decide +kernel), List.mem_of_getElem? (i := 562) (by decide +kernel), List.mem_of_getElem? (i := 563) (by decide +kernel)⟩
theorem lw_p31 : lw_okq (⟨"CounterHouseModel", "isTimeBehind", "(III)Z"⟩, 28) := ⟨⟨by decide +kernel, by decide +kernel⟩, List.mem_of_getElem? (i := 396) (by decide +kernel), List.mem_of_getElem? (i := 566) (by decide +kernel), List.mem_of_getElem? (i := 567) (by decide +kernel)⟩
def lw_privs_2 : List (MethodName × Nat) := [(⟨"CounterHouse", "isCoincidence", "(I)Z"⟩, 14), (⟨"CounterHouse", "liveTime", "(I)I"⟩, 14), (⟨"CounterHouse", "span", "()I"⟩, 14), (⟨"CounterHouse", "coincidences", "()I"⟩, 14), (⟨"CounterHouseModel", "isBegun", "()Z"⟩, 28), (⟨"CounterHouseModel", "horizon", "()I"⟩, 28), (⟨"CounterHouseModel", "isBehind", "(IIII)Z"⟩, 28), (⟨"CounterHouseModel", "settled", "()I"⟩, 28), (⟨"CounterHouseModel", "keptOf", "(I)I"⟩, 28), (⟨"CounterHouseModel", "manyLive", "(IZ)I"⟩, 28), (⟨"CounterHouseModel", "findLive", "()V"⟩, 28), (⟨"CounterHouseModel", "isGroup", "(I)Z"⟩, 28), (⟨"CounterHouseModel", "findGroups", "(II)V"⟩, 28), (⟨"CounterHouseModel", "edge", "()I"⟩, 28), (⟨"CounterHouseModel", "comesByTime", "(II)V"⟩, 28), (⟨"CounterHouseModel", "isTimeBehind", "(III)Z"⟩, 28)]
theorem lw_r2 : ∀ q ∈ lw_privs_2, lw_okq q := List.forall_mem_cons.mpr ⟨lw_p16, List.forall_mem_cons.mpr ⟨lw_p17, List.forall_mem_cons.mpr ⟨lw_p18, List.forall_mem_cons.mpr ⟨lw_p19, List.forall_mem_cons.mpr ⟨lw_p20, List.forall_mem_cons.mpr ⟨lw_p21, List.forall_mem_cons.mpr ⟨lw_p22, List.forall_mem_cons.mpr ⟨lw_p23, List.forall_mem_cons.mpr ⟨lw_p24, List.forall_mem_cons.mpr ⟨lw_p25, List.forall_mem_cons.mpr ⟨lw_p26, List.forall_mem_cons.mpr ⟨lw_p27, List.forall_mem_cons.mpr ⟨lw_p28, List.forall_mem_cons.mpr ⟨lw_p29, List.forall_mem_cons.mpr ⟨lw_p30, List.forall_mem_cons.mpr ⟨lw_p31, fun _ h => absurd h List.not_mem_nil⟩⟩⟩⟩⟩⟩⟩⟩⟩⟩⟩⟩⟩⟩⟩⟩
theorem lw_p32 : lw_okq (⟨"CounterHouseModel", "setOf", "(I)I"⟩, 28) := ⟨⟨by decide +kernel, by decide +kernel⟩, List.mem_of_getElem? (i := 396) (by decide +kernel), List.mem_of_getElem? (i := 570) (by decide +kernel), List.mem_of_getElem? (i := 571) (by decide +kernel)⟩
theorem lw_p33 : lw_okq (⟨"CounterHouseModel", "manyIn", "(I)I"⟩, 28) := ⟨⟨by decide +kernel, by decide +kernel⟩, List.mem_of_getElem? (i := 396) (by decide +kernel), List.mem_of_getElem? (i := 574) (by decide +kernel), List.mem_of_getElem? (i := 575) (by decide +kernel)⟩
theorem lw_p34 : lw_okq (⟨"CounterHouseModel", "memberIn", "(II)I"⟩, 28) := ⟨⟨by decide +kernel, by decide +kernel⟩, List.mem_of_getElem? (i := 396) (by decide +kernel), List.mem_of_getElem? (i := 585) (by decide +kernel), List.mem_of_getElem? (i := 586) (by decide +kernel)⟩
theorem lw_p35 : lw_okq (⟨"CounterHouseModel", "coincidences", "(I)I"⟩, 28) := ⟨⟨by decide +kernel, by decide +kernel⟩, List.mem_of_getElem? (i := 396) (by decide +kernel), List.mem_of_getElem? (i := 601) (by decide +kernel), List.mem_of_getElem? (i := 602) (by decide +kernel)⟩
theorem lw_p36 : lw_okq (⟨"CounterHouseModel", "liveTime", "(I)I"⟩, 28) := ⟨⟨by decide +kernel, by decide +kernel⟩, List.mem_of_getElem? (i := 396) (by decide +kernel), List.mem_of_getElem? (i := 613) (by decide +kernel), List.mem_of_getElem? (i := 614) (by decide +kernel)⟩
theorem lw_p37 : lw_okq (⟨"CounterHouseModel", "span", "()I"⟩, 28) := ⟨⟨by decide +kernel, by decide +kernel⟩, List.mem_of_getElem? (i := 396) (by decide +kernel), List.mem_of_getElem? (i := 617) (by decide +kernel), List.mem_of_getElem? (i := 618) (by decide +kernel)⟩
theorem lw_p38 : lw_okq (⟨"CounterHouseModel", "findTrack", "(I)Z"⟩, 28) := ⟨⟨by decide +kernel, by decide +kernel⟩, List.mem_of_getElem? (i := 396) (by decide +kernel), List.mem_of_getElem? (i := 637) (by decide +kernel), List.mem_of_getElem? (i := 638) (by decide +kernel)⟩
theorem lw_p39 : lw_okq (⟨"CounterHouseModel", "tries", "(III)V"⟩, 28) := ⟨⟨by decide +kernel, by decide +kernel⟩, List.mem_of_getElem? (i := 396) (by decide +kernel), List.mem_of_getElem? (i := 641) (by decide +kernel), List.mem_of_getElem? (i := 642) (by decide +kernel)⟩
theorem lw_p40 : lw_okq (⟨"CounterHouseModel", "isAhead", "(I)Z"⟩, 28) := ⟨⟨by decide +kernel, by decide +kernel⟩, List.mem_of_getElem? (i := 396) (by decide +kernel), List.mem_of_getElem? (i := 645) (by decide +kernel), List.mem_of_getElem? (i := 646) (by decide +kernel)⟩
theorem lw_p41 : lw_okq (⟨"CounterHouseModel", "inGroups", "()I"⟩, 28) := ⟨⟨by decide +kernel, by decide +kernel⟩, List.mem_of_getElem? (i := 396) (by decide +kernel), List.mem_of_getElem? (i := 660) (by decide +kernel), List.mem_of_getElem? (i := 661) (by decide +kernel)⟩
theorem lw_p42 : lw_okq (⟨"CounterHouseModel", "tracks", "()I"⟩, 28) := ⟨⟨by decide +kernel, by decide +kernel⟩, List.mem_of_getElem? (i := 396) (by decide +kernel), List.mem_of_getElem? (i := 664) (by decide +kernel), List.mem_of_getElem? (i := 665) (by decide +kernel)⟩
def lw_privs_3 : List (MethodName × Nat) := [(⟨"CounterHouseModel", "setOf", "(I)I"⟩, 28), (⟨"CounterHouseModel", "manyIn", "(I)I"⟩, 28), (⟨"CounterHouseModel", "memberIn", "(II)I"⟩, 28), (⟨"CounterHouseModel", "coincidences", "(I)I"⟩, 28), (⟨"CounterHouseModel", "liveTime", "(I)I"⟩, 28), (⟨"CounterHouseModel", "span", "()I"⟩, 28), (⟨"CounterHouseModel", "findTrack", "(I)Z"⟩, 28), (⟨"CounterHouseModel", "tries", "(III)V"⟩, 28), (⟨"CounterHouseModel", "isAhead", "(I)Z"⟩, 28), (⟨"CounterHouseModel", "inGroups", "()I"⟩, 28), (⟨"CounterHouseModel", "tracks", "()I"⟩, 28)]
theorem lw_r3 : ∀ q ∈ lw_privs_3, lw_okq q := List.forall_mem_cons.mpr ⟨lw_p32, List.forall_mem_cons.mpr ⟨lw_p33, List.forall_mem_cons.mpr ⟨lw_p34, List.forall_mem_cons.mpr ⟨lw_p35, List.forall_mem_cons.mpr ⟨lw_p36, List.forall_mem_cons.mpr ⟨lw_p37, List.forall_mem_cons.mpr ⟨lw_p38, List.forall_mem_cons.mpr ⟨lw_p39, List.forall_mem_cons.mpr ⟨lw_p40, List.forall_mem_cons.mpr ⟨lw_p41, List.forall_mem_cons.mpr ⟨lw_p42, fun _ h => absurd h List.not_mem_nil⟩⟩⟩⟩⟩⟩⟩⟩⟩⟩⟩
def lw_privs : List (MethodName × Nat) := lw_privs_1 ++ (lw_privs_2 ++ (lw_privs_3))
def lw_tbl : List Cond := k2_sels lw_privs ++ tables_1
theorem lw_privs_ok : ∀ q ∈ lw_privs, lw_okq q := by
  show ∀ q ∈ lw_privs_1 ++ (lw_privs_2 ++ (lw_privs_3)), lw_okq q
  exact List.forall_mem_append.mpr ⟨lw_r1, List.forall_mem_append.mpr ⟨lw_r2, lw_r3⟩⟩
end
section
def RX0 : String := "CounterHouse$Groups"
def TX0 : u_T := fun k => match k with
  | 0 => ("CounterHouse$Groups", "first", "[I", true)
  | 1 => ("CounterHouse$Groups", "set", "[I", true)
  | 2 => ("CounterHouse$Groups", "trackStart", "[I", true)
  | 3 => ("CounterHouse$Groups", "trackSlope", "[I", true)
  | 4 => ("CounterHouse$Groups", "trackSet", "[I", true)
  | 5 => ("CounterHouse$Groups", "trackMisses", "[I", true)
  | _ => ("CounterHouse$Groups", "size", "I", false)
def tyX0 : Nat → FieldType := fun k => match k with
  | 0 => .array .int
  | 1 => .array .int
  | 2 => .array .int
  | 3 => .array .int
  | 4 => .array .int
  | 5 => .array .int
  | _ => .int
abbrev wsX00 : List Cond := u_ws RX0 TX0 7
theorem nmX0 : ∀ a, a < 7 → ∀ b, b < 7 → a ≠ b → (TX0 a).2.1 ≠ (TX0 b).2.1 := by decide +kernel
theorem tyX0_ok : ∀ k, k < 7 → parseFieldDescriptor (TX0 k).2.2.1 = some (tyX0 k) := by decide +kernel
abbrev cX0_init : ByteArray := prog_2_method_1_code
def yX0_init : MethodName := ⟨RX0, "<init>", "()V"⟩
abbrev cX0_add : ByteArray := prog_2_method_2_code
def yX0_add : MethodName := ⟨RX0, "add", "(IILCounterHouse$LineSearch;)V"⟩
abbrev cX0_pulses : ByteArray := prog_2_method_3_code
def yX0_pulses : MethodName := ⟨RX0, "pulses", "()I"⟩
abbrev cX0_hasTrack : ByteArray := prog_2_method_4_code
def yX0_hasTrack : MethodName := ⟨RX0, "hasTrack", "(I)Z"⟩
abbrev cX0_tracks : ByteArray := prog_2_method_5_code
def yX0_tracks : MethodName := ⟨RX0, "tracks", "()I"⟩
def RX1 : String := "CounterHouse$LineSearch"
def TX1 : u_T := fun k => match k with
  | 0 => ("CounterHouse$LineSearch", "strips", "[I", true)
  | 1 => ("CounterHouse$LineSearch", "start", "I", false)
  | 2 => ("CounterHouse$LineSearch", "slope", "I", false)
  | 3 => ("CounterHouse$LineSearch", "set", "I", false)
  | _ => ("CounterHouse$LineSearch", "misses", "I", false)
def tyX1 : Nat → FieldType := fun k => match k with
  | 0 => .array .int
  | 1 => .int
  | 2 => .int
  | 3 => .int
  | _ => .int
abbrev wsX10 : List Cond := u_ws RX1 TX1 5
theorem nmX1 : ∀ a, a < 5 → ∀ b, b < 5 → a ≠ b → (TX1 a).2.1 ≠ (TX1 b).2.1 := by decide +kernel
theorem tyX1_ok : ∀ k, k < 5 → parseFieldDescriptor (TX1 k).2.2.1 = some (tyX1 k) := by decide +kernel
abbrev cX1_init : ByteArray := prog_3_method_1_code
def yX1_init : MethodName := ⟨RX1, "<init>", "()V"⟩
abbrev cX1_run : ByteArray := prog_3_method_2_code
def yX1_run : MethodName := ⟨RX1, "run", "(II)V"⟩
abbrev cX1_weigh : ByteArray := prog_3_method_3_code
def yX1_weigh : MethodName := ⟨RX1, "weigh", "(III)V"⟩
abbrev cX1_take : ByteArray := prog_3_method_4_code
def yX1_take : MethodName := ⟨RX1, "take", "(IIII)V"⟩
def RX2 : String := "CounterHouse$Row"
def TX2 : u_T := fun k => match k with
  | 0 => ("CounterHouse$Row", "when", "[I", true)
  | 1 => ("CounterHouse$Row", "plane", "[I", true)
  | 2 => ("CounterHouse$Row", "strip", "[I", true)
  | _ => ("CounterHouse$Row", "size", "I", false)
def tyX2 : Nat → FieldType := fun k => match k with
  | 0 => .array .int
  | 1 => .array .int
  | 2 => .array .int
  | _ => .int
abbrev wsX20 : List Cond := u_ws RX2 TX2 4
theorem nmX2 : ∀ a, a < 4 → ∀ b, b < 4 → a ≠ b → (TX2 a).2.1 ≠ (TX2 b).2.1 := by decide +kernel
theorem tyX2_ok : ∀ k, k < 4 → parseFieldDescriptor (TX2 k).2.2.1 = some (tyX2 k) := by decide +kernel
abbrev cX2_init : ByteArray := prog_4_method_1_code
def yX2_init : MethodName := ⟨RX2, "<init>", "()V"⟩
abbrev cX2_insert : ByteArray := prog_4_method_2_code
def yX2_insert : MethodName := ⟨RX2, "insert", "(III)V"⟩
abbrev cX2_isBehind : ByteArray := prog_4_method_3_code
def yX2_isBehind : MethodName := ⟨RX2, "isBehind", "(IIII)Z"⟩
abbrev cX2_put : ByteArray := prog_4_method_4_code
def yX2_put : MethodName := ⟨RX2, "put", "(IIII)V"⟩
abbrev cX2_countOf : ByteArray := prog_4_method_5_code
def yX2_countOf : MethodName := ⟨RX2, "countOf", "(II)I"⟩
abbrev cX2_indexOf : ByteArray := prog_4_method_6_code
def yX2_indexOf : MethodName := ⟨RX2, "indexOf", "(III)I"⟩
abbrev cX2_endOfGroup : ByteArray := prog_4_method_7_code
def yX2_endOfGroup : MethodName := ⟨RX2, "endOfGroup", "(III)I"⟩
abbrev cX2_planesOf : ByteArray := prog_4_method_8_code
def yX2_planesOf : MethodName := ⟨RX2, "planesOf", "(II)I"⟩
abbrev cX2_putMemberStrips : ByteArray := prog_4_method_9_code
def yX2_putMemberStrips : MethodName := ⟨RX2, "putMemberStrips", "(II[I)V"⟩
abbrev cX2_fillShifted : ByteArray := prog_4_method_10_code
def yX2_fillShifted : MethodName := ⟨RX2, "fillShifted", "(LCounterHouse$Row;III)V"⟩
abbrev cX2_nextOf : ByteArray := prog_4_method_11_code
def yX2_nextOf : MethodName := ⟨RX2, "nextOf", "(III)I"⟩
def RX3 : String := "CounterHouse"
def TX3 : u_T := fun k => match k with
  | 0 => ("CounterHouse", "lag", "[I", true)
  | 1 => ("CounterHouse", "dead", "[I", true)
  | 2 => ("CounterHouse", "manner", "[I", true)
  | 3 => ("CounterHouse", "setting", "[I", true)
  | 4 => ("CounterHouse", "keptRow", "LCounterHouse$Row;", true)
  | 5 => ("CounterHouse", "liveRow", "LCounterHouse$Row;", true)
  | 6 => ("CounterHouse", "shiftedRow", "LCounterHouse$Row;", true)
  | 7 => ("CounterHouse", "groups", "LCounterHouse$Groups;", true)
  | 8 => ("CounterHouse", "search", "LCounterHouse$LineSearch;", true)
  | 9 => ("CounterHouse", "deadUntil", "[I", true)
  | 10 => ("CounterHouse", "settled", "I", false)
  | 11 => ("CounterHouse", "known", "I", false)
  | 12 => ("CounterHouse", "tooLate", "I", false)
  | _ => ("CounterHouse", "ended", "Z", false)
def tyX3 : Nat → FieldType := fun k => match k with
  | 0 => .array .int
  | 1 => .array .int
  | 2 => .array .int
  | 3 => .array .int
  | 4 => .object "CounterHouse$Row"
  | 5 => .object "CounterHouse$Row"
  | 6 => .object "CounterHouse$Row"
  | 7 => .object "CounterHouse$Groups"
  | 8 => .object "CounterHouse$LineSearch"
  | 9 => .array .int
  | 10 => .int
  | 11 => .int
  | 12 => .int
  | _ => .boolean
abbrev wsX30 : List Cond := u_ws RX3 TX3 14
theorem nmX3 : ∀ a, a < 14 → ∀ b, b < 14 → a ≠ b → (TX3 a).2.1 ≠ (TX3 b).2.1 := by decide +kernel
theorem tyX3_ok : ∀ k, k < 14 → parseFieldDescriptor (TX3 k).2.2.1 = some (tyX3 k) := by decide +kernel
abbrev cX3_init : ByteArray := prog_1_method_1_code
def yX3_init : MethodName := ⟨RX3, "<init>", "()V"⟩
abbrev cX3_plane : ByteArray := prog_1_method_2_code
def yX3_plane : MethodName := ⟨RX3, "plane", "(IIII)I"⟩
abbrev cX3_ofPlane : ByteArray := prog_1_method_3_code
def yX3_ofPlane : MethodName := ⟨RX3, "ofPlane", "(II)I"⟩
abbrev cX3_tune : ByteArray := prog_1_method_4_code
def yX3_tune : MethodName := ⟨RX3, "tune", "(II)I"⟩
abbrev cX3_pulse : ByteArray := prog_1_method_5_code
def yX3_pulse : MethodName := ⟨RX3, "pulse", "(III)I"⟩
abbrev cX3_end : ByteArray := prog_1_method_6_code
def yX3_end : MethodName := ⟨RX3, "end", "()I"⟩
abbrev cX3_anew : ByteArray := prog_1_method_7_code
def yX3_anew : MethodName := ⟨RX3, "anew", "()I"⟩
abbrev cX3_group : ByteArray := prog_1_method_8_code
def yX3_group : MethodName := ⟨RX3, "group", "(II)I"⟩
abbrev cX3_member : ByteArray := prog_1_method_9_code
def yX3_member : MethodName := ⟨RX3, "member", "(III)I"⟩
abbrev cX3_having : ByteArray := prog_1_method_10_code
def yX3_having : MethodName := ⟨RX3, "having", "(II)I"⟩
abbrev cX3_folds : ByteArray := prog_1_method_11_code
def yX3_folds : MethodName := ⟨RX3, "folds", "(I)I"⟩
abbrev cX3_shifted : ByteArray := prog_1_method_12_code
def yX3_shifted : MethodName := ⟨RX3, "shifted", "(II)I"⟩
abbrev cX3_twos : ByteArray := prog_1_method_13_code
def yX3_twos : MethodName := ⟨RX3, "twos", "(III)I"⟩
abbrev cX3_live : ByteArray := prog_1_method_14_code
def yX3_live : MethodName := ⟨RX3, "live", "(I)I"⟩
abbrev cX3_rate : ByteArray := prog_1_method_15_code
def yX3_rate : MethodName := ⟨RX3, "rate", "(II)J"⟩
abbrev cX3_expected : ByteArray := prog_1_method_16_code
def yX3_expected : MethodName := ⟨RX3, "expected", "(III)J"⟩
abbrev cX3_track : ByteArray := prog_1_method_17_code
def yX3_track : MethodName := ⟨RX3, "track", "(II)I"⟩
abbrev cX3_through : ByteArray := prog_1_method_18_code
def yX3_through : MethodName := ⟨RX3, "through", "(II)I"⟩
abbrev cX3_many : ByteArray := prog_1_method_19_code
def yX3_many : MethodName := ⟨RX3, "many", "(I)I"⟩
abbrev cX3_isWithin : ByteArray := prog_1_method_20_code
def yX3_isWithin : MethodName := ⟨RX3, "isWithin", "(III)Z"⟩
abbrev cX3_isPlane : ByteArray := prog_1_method_21_code
def yX3_isPlane : MethodName := ⟨RX3, "isPlane", "(I)Z"⟩
abbrev cX3_isStrip : ByteArray := prog_1_method_22_code
def yX3_isStrip : MethodName := ⟨RX3, "isStrip", "(I)Z"⟩
abbrev cX3_isGroup : ByteArray := prog_1_method_23_code
def yX3_isGroup : MethodName := ⟨RX3, "isGroup", "(I)Z"⟩
abbrev cX3_hasBegun : ByteArray := prog_1_method_24_code
def yX3_hasBegun : MethodName := ⟨RX3, "hasBegun", "()Z"⟩
abbrev cX3_horizon : ByteArray := prog_1_method_25_code
def yX3_horizon : MethodName := ⟨RX3, "horizon", "()I"⟩
abbrev cX3_latest : ByteArray := prog_1_method_26_code
def yX3_latest : MethodName := ⟨RX3, "latest", "()I"⟩
abbrev cX3_span : ByteArray := prog_1_method_27_code
def yX3_span : MethodName := ⟨RX3, "span", "()I"⟩
abbrev cX3_edge : ByteArray := prog_1_method_28_code
def yX3_edge : MethodName := ⟨RX3, "edge", "()I"⟩
abbrev cX3_follow : ByteArray := prog_1_method_29_code
def yX3_follow : MethodName := ⟨RX3, "follow", "()V"⟩
abbrev cX3_settleBelow : ByteArray := prog_1_method_30_code
def yX3_settleBelow : MethodName := ⟨RX3, "settleBelow", "(I)V"⟩
abbrev cX3_settle : ByteArray := prog_1_method_31_code
def yX3_settle : MethodName := ⟨RX3, "settle", "(III)V"⟩
abbrev cX3_nextGroupIsShut : ByteArray := prog_1_method_32_code
def yX3_nextGroupIsShut : MethodName := ⟨RX3, "nextGroupIsShut", "(I)Z"⟩
abbrev cX3_shutGroup : ByteArray := prog_1_method_33_code
def yX3_shutGroup : MethodName := ⟨RX3, "shutGroup", "()V"⟩
abbrev cX3_liveOf : ByteArray := prog_1_method_34_code
def yX3_liveOf : MethodName := ⟨RX3, "liveOf", "(I)I"⟩
abbrev cX3_isCoincidence : ByteArray := prog_1_method_35_code
def yX3_isCoincidence : MethodName := ⟨RX3, "isCoincidence", "(I)Z"⟩
abbrev cX3_coincidences : ByteArray := prog_1_method_36_code
def yX3_coincidences : MethodName := ⟨RX3, "coincidences", "()I"⟩
abbrev cX3_liveTime : ByteArray := prog_1_method_37_code
def yX3_liveTime : MethodName := ⟨RX3, "liveTime", "(I)I"⟩
abbrev cX3_inLeastTerms : ByteArray := prog_1_method_38_code
def yX3_inLeastTerms : MethodName := ⟨RX3, "inLeastTerms", "(JJI)J"⟩
abbrev cX3_greatestDivisor : ByteArray := prog_1_method_39_code
def yX3_greatestDivisor : MethodName := ⟨RX3, "greatestDivisor", "(JJ)J"⟩
def RX4 : String := "CounterHouseModel"
def TX4 : u_T := fun k => match k with
  | 0 => ("CounterHouseModel", "lag", "[I", true)
  | 1 => ("CounterHouseModel", "dead", "[I", true)
  | 2 => ("CounterHouseModel", "manner", "[I", true)
  | 3 => ("CounterHouseModel", "setting", "[I", true)
  | 4 => ("CounterHouseModel", "leastOf", "[I", true)
  | 5 => ("CounterHouseModel", "mostOf", "[I", true)
  | 6 => ("CounterHouseModel", "kept", "I", false)
  | 7 => ("CounterHouseModel", "planeOf", "[I", true)
  | 8 => ("CounterHouseModel", "momentOf", "[I", true)
  | 9 => ("CounterHouseModel", "stripOf", "[I", true)
  | 10 => ("CounterHouseModel", "late", "I", false)
  | 11 => ("CounterHouseModel", "isOver", "Z", false)
  | 12 => ("CounterHouseModel", "isLive", "[Z", true)
  | 13 => ("CounterHouseModel", "endOf", "[I", true)
  | 14 => ("CounterHouseModel", "known", "I", false)
  | 15 => ("CounterHouseModel", "timeOf", "[I", true)
  | 16 => ("CounterHouseModel", "pulseOf", "[I", true)
  | 17 => ("CounterHouseModel", "groupOf", "[I", true)
  | 18 => ("CounterHouseModel", "groups", "I", false)
  | 19 => ("CounterHouseModel", "shut", "I", false)
  | 20 => ("CounterHouseModel", "firstOf", "[I", true)
  | 21 => ("CounterHouseModel", "agrees", "I", false)
  | 22 => ("CounterHouseModel", "agreeSet", "I", false)
  | 23 => ("CounterHouseModel", "missed", "I", false)
  | 24 => ("CounterHouseModel", "bestA", "I", false)
  | 25 => ("CounterHouseModel", "bestB", "I", false)
  | 26 => ("CounterHouseModel", "bestAgrees", "I", false)
  | _ => ("CounterHouseModel", "bestMissed", "I", false)
def tyX4 : Nat → FieldType := fun k => match k with
  | 0 => .array .int
  | 1 => .array .int
  | 2 => .array .int
  | 3 => .array .int
  | 4 => .array .int
  | 5 => .array .int
  | 6 => .int
  | 7 => .array .int
  | 8 => .array .int
  | 9 => .array .int
  | 10 => .int
  | 11 => .boolean
  | 12 => .array .boolean
  | 13 => .array .int
  | 14 => .int
  | 15 => .array .int
  | 16 => .array .int
  | 17 => .array .int
  | 18 => .int
  | 19 => .int
  | 20 => .array .int
  | 21 => .int
  | 22 => .int
  | 23 => .int
  | 24 => .int
  | 25 => .int
  | 26 => .int
  | _ => .int
abbrev wsX40 : List Cond := u_ws RX4 TX4 28
theorem nmX4 : ∀ a, a < 28 → ∀ b, b < 28 → a ≠ b → (TX4 a).2.1 ≠ (TX4 b).2.1 := by decide +kernel
theorem tyX4_ok : ∀ k, k < 28 → parseFieldDescriptor (TX4 k).2.2.1 = some (tyX4 k) := by decide +kernel
abbrev cX4_init : ByteArray := prog_6_method_1_code
def yX4_init : MethodName := ⟨RX4, "<init>", "()V"⟩
abbrev cX4_within : ByteArray := prog_6_method_2_code
def yX4_within : MethodName := ⟨RX4, "within", "(III)Z"⟩
abbrev cX4_isPlane : ByteArray := prog_6_method_3_code
def yX4_isPlane : MethodName := ⟨RX4, "isPlane", "(I)Z"⟩
abbrev cX4_isBegun : ByteArray := prog_6_method_4_code
def yX4_isBegun : MethodName := ⟨RX4, "isBegun", "()Z"⟩
abbrev cX4_plane : ByteArray := prog_6_method_5_code
def yX4_plane : MethodName := ⟨RX4, "plane", "(IIII)I"⟩
abbrev cX4_tune : ByteArray := prog_6_method_6_code
def yX4_tune : MethodName := ⟨RX4, "tune", "(II)I"⟩
abbrev cX4_horizon : ByteArray := prog_6_method_7_code
def yX4_horizon : MethodName := ⟨RX4, "horizon", "()I"⟩
abbrev cX4_edge : ByteArray := prog_6_method_8_code
def yX4_edge : MethodName := ⟨RX4, "edge", "()I"⟩
abbrev cX4_isBehind : ByteArray := prog_6_method_9_code
def yX4_isBehind : MethodName := ⟨RX4, "isBehind", "(IIII)Z"⟩
abbrev cX4_pulse : ByteArray := prog_6_method_10_code
def yX4_pulse : MethodName := ⟨RX4, "pulse", "(III)I"⟩
abbrev cX4_settled : ByteArray := prog_6_method_11_code
def yX4_settled : MethodName := ⟨RX4, "settled", "()I"⟩
abbrev cX4_end : ByteArray := prog_6_method_12_code
def yX4_end : MethodName := ⟨RX4, "end", "()I"⟩
abbrev cX4_anew : ByteArray := prog_6_method_13_code
def yX4_anew : MethodName := ⟨RX4, "anew", "()I"⟩
abbrev cX4_findLive : ByteArray := prog_6_method_14_code
def yX4_findLive : MethodName := ⟨RX4, "findLive", "()V"⟩
abbrev cX4_manyLive : ByteArray := prog_6_method_15_code
def yX4_manyLive : MethodName := ⟨RX4, "manyLive", "(IZ)I"⟩
abbrev cX4_keptOf : ByteArray := prog_6_method_16_code
def yX4_keptOf : MethodName := ⟨RX4, "keptOf", "(I)I"⟩
abbrev cX4_ofPlane : ByteArray := prog_6_method_17_code
def yX4_ofPlane : MethodName := ⟨RX4, "ofPlane", "(II)I"⟩
abbrev cX4_isTimeBehind : ByteArray := prog_6_method_18_code
def yX4_isTimeBehind : MethodName := ⟨RX4, "isTimeBehind", "(III)Z"⟩
abbrev cX4_comesByTime : ByteArray := prog_6_method_19_code
def yX4_comesByTime : MethodName := ⟨RX4, "comesByTime", "(II)V"⟩
abbrev cX4_findGroups : ByteArray := prog_6_method_20_code
def yX4_findGroups : MethodName := ⟨RX4, "findGroups", "(II)V"⟩
abbrev cX4_manyIn : ByteArray := prog_6_method_21_code
def yX4_manyIn : MethodName := ⟨RX4, "manyIn", "(I)I"⟩
abbrev cX4_memberIn : ByteArray := prog_6_method_22_code
def yX4_memberIn : MethodName := ⟨RX4, "memberIn", "(II)I"⟩
abbrev cX4_setOf : ByteArray := prog_6_method_23_code
def yX4_setOf : MethodName := ⟨RX4, "setOf", "(I)I"⟩
abbrev cX4_size : ByteArray := prog_6_method_24_code
def yX4_size : MethodName := ⟨RX4, "size", "(I)I"⟩
abbrev cX4_isGroup : ByteArray := prog_6_method_25_code
def yX4_isGroup : MethodName := ⟨RX4, "isGroup", "(I)Z"⟩
abbrev cX4_group : ByteArray := prog_6_method_26_code
def yX4_group : MethodName := ⟨RX4, "group", "(II)I"⟩
abbrev cX4_member : ByteArray := prog_6_method_27_code
def yX4_member : MethodName := ⟨RX4, "member", "(III)I"⟩
abbrev cX4_having : ByteArray := prog_6_method_28_code
def yX4_having : MethodName := ⟨RX4, "having", "(II)I"⟩
abbrev cX4_folds : ByteArray := prog_6_method_29_code
def yX4_folds : MethodName := ⟨RX4, "folds", "(I)I"⟩
abbrev cX4_coincidences : ByteArray := prog_6_method_30_code
def yX4_coincidences : MethodName := ⟨RX4, "coincidences", "(I)I"⟩
abbrev cX4_shifted : ByteArray := prog_6_method_31_code
def yX4_shifted : MethodName := ⟨RX4, "shifted", "(II)I"⟩
abbrev cX4_twos : ByteArray := prog_6_method_32_code
def yX4_twos : MethodName := ⟨RX4, "twos", "(III)I"⟩
abbrev cX4_span : ByteArray := prog_6_method_33_code
def yX4_span : MethodName := ⟨RX4, "span", "()I"⟩
abbrev cX4_liveTime : ByteArray := prog_6_method_34_code
def yX4_liveTime : MethodName := ⟨RX4, "liveTime", "(I)I"⟩
abbrev cX4_live : ByteArray := prog_6_method_35_code
def yX4_live : MethodName := ⟨RX4, "live", "(I)I"⟩
abbrev cX4_inLeastTerms : ByteArray := prog_6_method_36_code
def yX4_inLeastTerms : MethodName := ⟨RX4, "inLeastTerms", "(JJI)J"⟩
abbrev cX4_rate : ByteArray := prog_6_method_37_code
def yX4_rate : MethodName := ⟨RX4, "rate", "(II)J"⟩
abbrev cX4_expected : ByteArray := prog_6_method_38_code
def yX4_expected : MethodName := ⟨RX4, "expected", "(III)J"⟩
abbrev cX4_tries : ByteArray := prog_6_method_39_code
def yX4_tries : MethodName := ⟨RX4, "tries", "(III)V"⟩
abbrev cX4_far : ByteArray := prog_6_method_40_code
def yX4_far : MethodName := ⟨RX4, "far", "(I)I"⟩
abbrev cX4_isAhead : ByteArray := prog_6_method_41_code
def yX4_isAhead : MethodName := ⟨RX4, "isAhead", "(I)Z"⟩
abbrev cX4_findTrack : ByteArray := prog_6_method_42_code
def yX4_findTrack : MethodName := ⟨RX4, "findTrack", "(I)Z"⟩
abbrev cX4_track : ByteArray := prog_6_method_43_code
def yX4_track : MethodName := ⟨RX4, "track", "(II)I"⟩
abbrev cX4_through : ByteArray := prog_6_method_44_code
def yX4_through : MethodName := ⟨RX4, "through", "(II)I"⟩
abbrev cX4_tracks : ByteArray := prog_6_method_45_code
def yX4_tracks : MethodName := ⟨RX4, "tracks", "()I"⟩
abbrev cX4_inGroups : ByteArray := prog_6_method_46_code
def yX4_inGroups : MethodName := ⟨RX4, "inGroups", "()I"⟩
abbrev cX4_many : ByteArray := prog_6_method_47_code
def yX4_many : MethodName := ⟨RX4, "many", "(I)I"⟩
def RJx8e188 : String := "java/lang/Cloneable"
def TJx8e188 : u_T := fun k => match k with
  | _ => ("", "", "", false)
def tyJx8e188 : Nat → FieldType := fun k => match k with
  | _ => .int
abbrev wsJx8e1880 : List Cond := u_ws RJx8e188 TJx8e188 0
def RJ6 : String := "java/lang/Integer"
def TJ6 : u_T := fun k => match k with
  | _ => ("", "", "", false)
def tyJ6 : Nat → FieldType := fun k => match k with
  | _ => .int
abbrev wsJ60 : List Cond := u_ws RJ6 TJ6 0
abbrev cJ6_bitCount_0f7a4 : ByteArray := prog_8_method_49_code
def yJ6_bitCount_0f7a4 : MethodName := ⟨RJ6, "bitCount", "(I)I"⟩
def RJ9 : String := "java/lang/Math"
def TJ9 : u_T := fun k => match k with
  | _ => ("", "", "", false)
def tyJ9 : Nat → FieldType := fun k => match k with
  | _ => .int
abbrev wsJ90 : List Cond := u_ws RJ9 TJ9 0
abbrev cJ9_abs_0f7a4 : ByteArray := prog_9_method_59_code
def yJ9_abs_0f7a4 : MethodName := ⟨RJ9, "abs", "(I)I"⟩
abbrev cJ9_max_7cf53 : ByteArray := prog_9_method_65_code
def yJ9_max_7cf53 : MethodName := ⟨RJ9, "max", "(II)I"⟩
def RJ7 : String := "java/util/Arrays"
def TJ7 : u_T := fun k => match k with
  | _ => ("", "", "", false)
def tyJ7 : Nat → FieldType := fun k => match k with
  | _ => .int
abbrev wsJ70 : List Cond := u_ws RJ7 TJ7 0
abbrev cJ7_fill_53178 : ByteArray := prog_10_method_103_code
def yJ7_fill_53178 : MethodName := ⟨RJ7, "fill", "([II)V"⟩
def RL : String := "CounterHouseLaw"
abbrev cL_law : ByteArray := code
def yL_law : MethodName := ⟨RL, "law", "([I)Z"⟩
abbrev vwCl : List vw_C := [(RX0, TX0, 7), (RX1, TX1, 5), (RX2, TX2, 4), (RX3, TX3, 14), (RX4, TX4, 28)]
end
section
theorem dX0_init_0 : decode cX0_init 0 = .ok (.aload_n 0, 1) := by decide +kernel
theorem dX0_init_1 : decode cX0_init 1 = .ok (.invokespecial 3, 3) := by decide +kernel
theorem dX0_init_4 : decode cX0_init 4 = .ok (.aload_n 0, 1) := by decide +kernel
theorem dX0_init_5 : decode cX0_init 5 = .ok (.sipush 241, 3) := by decide +kernel
theorem dX0_init_8 : decode cX0_init 8 = .ok (.newarray .int, 2) := by decide +kernel
theorem dX0_init_10 : decode cX0_init 10 = .ok (.putfield 9, 3) := by decide +kernel
theorem dX0_init_13 : decode cX0_init 13 = .ok (.aload_n 0, 1) := by decide +kernel
theorem dX0_init_14 : decode cX0_init 14 = .ok (.sipush 240, 3) := by decide +kernel
theorem dX0_init_17 : decode cX0_init 17 = .ok (.newarray .int, 2) := by decide +kernel
theorem dX0_init_19 : decode cX0_init 19 = .ok (.putfield 15, 3) := by decide +kernel
theorem dX0_init_22 : decode cX0_init 22 = .ok (.aload_n 0, 1) := by decide +kernel
theorem dX0_init_23 : decode cX0_init 23 = .ok (.sipush 240, 3) := by decide +kernel
theorem dX0_init_26 : decode cX0_init 26 = .ok (.newarray .int, 2) := by decide +kernel
theorem dX0_init_28 : decode cX0_init 28 = .ok (.putfield 18, 3) := by decide +kernel
theorem dX0_init_31 : decode cX0_init 31 = .ok (.aload_n 0, 1) := by decide +kernel
theorem dX0_init_32 : decode cX0_init 32 = .ok (.sipush 240, 3) := by decide +kernel
theorem dX0_init_35 : decode cX0_init 35 = .ok (.newarray .int, 2) := by decide +kernel
theorem dX0_init_37 : decode cX0_init 37 = .ok (.putfield 21, 3) := by decide +kernel
theorem dX0_init_40 : decode cX0_init 40 = .ok (.aload_n 0, 1) := by decide +kernel
theorem dX0_init_41 : decode cX0_init 41 = .ok (.sipush 240, 3) := by decide +kernel
theorem dX0_init_44 : decode cX0_init 44 = .ok (.newarray .int, 2) := by decide +kernel
theorem dX0_init_46 : decode cX0_init 46 = .ok (.putfield 24, 3) := by decide +kernel
theorem dX0_init_49 : decode cX0_init 49 = .ok (.aload_n 0, 1) := by decide +kernel
theorem dX0_init_50 : decode cX0_init 50 = .ok (.sipush 240, 3) := by decide +kernel
theorem dX0_init_53 : decode cX0_init 53 = .ok (.newarray .int, 2) := by decide +kernel
theorem dX0_init_55 : decode cX0_init 55 = .ok (.putfield 27, 3) := by decide +kernel
theorem dX0_init_58 : decode cX0_init 58 = .ok (.return_, 1) := by decide +kernel
theorem dX0_add_0 : decode cX0_add 0 = .ok (.aload_n 0, 1) := by decide +kernel
theorem dX0_add_1 : decode cX0_add 1 = .ok (.getfield 30, 3) := by decide +kernel
theorem dX0_add_4 : decode cX0_add 4 = .ok (.sipush 240, 3) := by decide +kernel
theorem dX0_add_7 : decode cX0_add 7 = .ok (.if_icmp .lt 4, 3) := by decide +kernel
theorem dX0_add_10 : decode cX0_add 10 = .ok (.return_, 1) := by decide +kernel
theorem dX0_add_11 : decode cX0_add 11 = .ok (.aload_n 0, 1) := by decide +kernel
theorem dX0_add_12 : decode cX0_add 12 = .ok (.getfield 15, 3) := by decide +kernel
theorem dX0_add_15 : decode cX0_add 15 = .ok (.aload_n 0, 1) := by decide +kernel
theorem dX0_add_16 : decode cX0_add 16 = .ok (.getfield 30, 3) := by decide +kernel
theorem dX0_add_19 : decode cX0_add 19 = .ok (.iload_n 2, 1) := by decide +kernel
theorem dX0_add_20 : decode cX0_add 20 = .ok (.iastore, 1) := by decide +kernel
theorem dX0_add_21 : decode cX0_add 21 = .ok (.aload_n 0, 1) := by decide +kernel
theorem dX0_add_22 : decode cX0_add 22 = .ok (.getfield 18, 3) := by decide +kernel
theorem dX0_add_25 : decode cX0_add 25 = .ok (.aload_n 0, 1) := by decide +kernel
theorem dX0_add_26 : decode cX0_add 26 = .ok (.getfield 30, 3) := by decide +kernel
theorem dX0_add_29 : decode cX0_add 29 = .ok (.aload_n 3, 1) := by decide +kernel
theorem dX0_add_30 : decode cX0_add 30 = .ok (.getfield 34, 3) := by decide +kernel
theorem dX0_add_33 : decode cX0_add 33 = .ok (.iastore, 1) := by decide +kernel
theorem dX0_add_34 : decode cX0_add 34 = .ok (.aload_n 0, 1) := by decide +kernel
theorem dX0_add_35 : decode cX0_add 35 = .ok (.getfield 21, 3) := by decide +kernel
theorem dX0_add_38 : decode cX0_add 38 = .ok (.aload_n 0, 1) := by decide +kernel
theorem dX0_add_39 : decode cX0_add 39 = .ok (.getfield 30, 3) := by decide +kernel
theorem dX0_add_42 : decode cX0_add 42 = .ok (.aload_n 3, 1) := by decide +kernel
theorem dX0_add_43 : decode cX0_add 43 = .ok (.getfield 39, 3) := by decide +kernel
theorem dX0_add_46 : decode cX0_add 46 = .ok (.iastore, 1) := by decide +kernel
theorem dX0_add_47 : decode cX0_add 47 = .ok (.aload_n 0, 1) := by decide +kernel
theorem dX0_add_48 : decode cX0_add 48 = .ok (.getfield 24, 3) := by decide +kernel
theorem dX0_add_51 : decode cX0_add 51 = .ok (.aload_n 0, 1) := by decide +kernel
theorem dX0_add_52 : decode cX0_add 52 = .ok (.getfield 30, 3) := by decide +kernel
theorem dX0_add_55 : decode cX0_add 55 = .ok (.aload_n 3, 1) := by decide +kernel
theorem dX0_add_56 : decode cX0_add 56 = .ok (.getfield 42, 3) := by decide +kernel
theorem dX0_add_59 : decode cX0_add 59 = .ok (.iastore, 1) := by decide +kernel
theorem dX0_add_60 : decode cX0_add 60 = .ok (.aload_n 0, 1) := by decide +kernel
theorem dX0_add_61 : decode cX0_add 61 = .ok (.getfield 27, 3) := by decide +kernel
theorem dX0_add_64 : decode cX0_add 64 = .ok (.aload_n 0, 1) := by decide +kernel
theorem dX0_add_65 : decode cX0_add 65 = .ok (.getfield 30, 3) := by decide +kernel
theorem dX0_add_68 : decode cX0_add 68 = .ok (.aload_n 3, 1) := by decide +kernel
theorem dX0_add_69 : decode cX0_add 69 = .ok (.getfield 44, 3) := by decide +kernel
theorem dX0_add_72 : decode cX0_add 72 = .ok (.iastore, 1) := by decide +kernel
theorem dX0_add_73 : decode cX0_add 73 = .ok (.aload_n 0, 1) := by decide +kernel
theorem dX0_add_74 : decode cX0_add 74 = .ok (.dup, 1) := by decide +kernel
theorem dX0_add_75 : decode cX0_add 75 = .ok (.getfield 30, 3) := by decide +kernel
theorem dX0_add_78 : decode cX0_add 78 = .ok (.iconst 1, 1) := by decide +kernel
theorem dX0_add_79 : decode cX0_add 79 = .ok (.iadd, 1) := by decide +kernel
theorem dX0_add_80 : decode cX0_add 80 = .ok (.putfield 30, 3) := by decide +kernel
theorem dX0_add_83 : decode cX0_add 83 = .ok (.aload_n 0, 1) := by decide +kernel
theorem dX0_add_84 : decode cX0_add 84 = .ok (.getfield 9, 3) := by decide +kernel
theorem dX0_add_87 : decode cX0_add 87 = .ok (.aload_n 0, 1) := by decide +kernel
theorem dX0_add_88 : decode cX0_add 88 = .ok (.getfield 30, 3) := by decide +kernel
theorem dX0_add_91 : decode cX0_add 91 = .ok (.iload_n 1, 1) := by decide +kernel
theorem dX0_add_92 : decode cX0_add 92 = .ok (.iastore, 1) := by decide +kernel
theorem dX0_add_93 : decode cX0_add 93 = .ok (.return_, 1) := by decide +kernel
theorem dX0_pulses_0 : decode cX0_pulses 0 = .ok (.aload_n 0, 1) := by decide +kernel
theorem dX0_pulses_1 : decode cX0_pulses 1 = .ok (.getfield 9, 3) := by decide +kernel
theorem dX0_pulses_4 : decode cX0_pulses 4 = .ok (.aload_n 0, 1) := by decide +kernel
theorem dX0_pulses_5 : decode cX0_pulses 5 = .ok (.getfield 30, 3) := by decide +kernel
theorem dX0_pulses_8 : decode cX0_pulses 8 = .ok (.iaload, 1) := by decide +kernel
theorem dX0_pulses_9 : decode cX0_pulses 9 = .ok (.ireturn, 1) := by decide +kernel
theorem dX0_hasTrack_0 : decode cX0_hasTrack 0 = .ok (.aload_n 0, 1) := by decide +kernel
theorem dX0_hasTrack_1 : decode cX0_hasTrack 1 = .ok (.getfield 24, 3) := by decide +kernel
theorem dX0_hasTrack_4 : decode cX0_hasTrack 4 = .ok (.iload_n 1, 1) := by decide +kernel
theorem dX0_hasTrack_5 : decode cX0_hasTrack 5 = .ok (.iaload, 1) := by decide +kernel
theorem dX0_hasTrack_6 : decode cX0_hasTrack 6 = .ok (.ifCond .eq 7, 3) := by decide +kernel
theorem dX0_hasTrack_9 : decode cX0_hasTrack 9 = .ok (.iconst 1, 1) := by decide +kernel
theorem dX0_hasTrack_10 : decode cX0_hasTrack 10 = .ok (.goto 4, 3) := by decide +kernel
theorem dX0_hasTrack_13 : decode cX0_hasTrack 13 = .ok (.iconst 0, 1) := by decide +kernel
theorem dX0_hasTrack_14 : decode cX0_hasTrack 14 = .ok (.ireturn, 1) := by decide +kernel
theorem dX0_tracks_0 : decode cX0_tracks 0 = .ok (.iconst 0, 1) := by decide +kernel
theorem dX0_tracks_1 : decode cX0_tracks 1 = .ok (.istore_n 1, 1) := by decide +kernel
theorem dX0_tracks_2 : decode cX0_tracks 2 = .ok (.iconst 0, 1) := by decide +kernel
theorem dX0_tracks_3 : decode cX0_tracks 3 = .ok (.istore_n 2, 1) := by decide +kernel
theorem dX0_tracks_4 : decode cX0_tracks 4 = .ok (.iload_n 2, 1) := by decide +kernel
theorem dX0_tracks_5 : decode cX0_tracks 5 = .ok (.aload_n 0, 1) := by decide +kernel
theorem dX0_tracks_6 : decode cX0_tracks 6 = .ok (.getfield 30, 3) := by decide +kernel
theorem dX0_tracks_9 : decode cX0_tracks 9 = .ok (.if_icmp .ge 20, 3) := by decide +kernel
theorem dX0_tracks_12 : decode cX0_tracks 12 = .ok (.aload_n 0, 1) := by decide +kernel
theorem dX0_tracks_13 : decode cX0_tracks 13 = .ok (.iload_n 2, 1) := by decide +kernel
theorem dX0_tracks_14 : decode cX0_tracks 14 = .ok (.invokevirtual 47, 3) := by decide +kernel
theorem dX0_tracks_17 : decode cX0_tracks 17 = .ok (.ifCond .eq 6, 3) := by decide +kernel
theorem dX0_tracks_20 : decode cX0_tracks 20 = .ok (.iinc 1 1, 3) := by decide +kernel
theorem dX0_tracks_23 : decode cX0_tracks 23 = .ok (.iinc 2 1, 3) := by decide +kernel
theorem dX0_tracks_26 : decode cX0_tracks 26 = .ok (.goto (-22), 3) := by decide +kernel
theorem dX0_tracks_29 : decode cX0_tracks 29 = .ok (.iload_n 1, 1) := by decide +kernel
theorem dX0_tracks_30 : decode cX0_tracks 30 = .ok (.ireturn, 1) := by decide +kernel
theorem dX1_init_0 : decode cX1_init 0 = .ok (.aload_n 0, 1) := by decide +kernel
theorem dX1_init_1 : decode cX1_init 1 = .ok (.invokespecial 3, 3) := by decide +kernel
theorem dX1_init_4 : decode cX1_init 4 = .ok (.aload_n 0, 1) := by decide +kernel
theorem dX1_init_5 : decode cX1_init 5 = .ok (.bipush 6, 2) := by decide +kernel
theorem dX1_init_7 : decode cX1_init 7 = .ok (.newarray .int, 2) := by decide +kernel
theorem dX1_init_9 : decode cX1_init 9 = .ok (.putfield 9, 3) := by decide +kernel
theorem dX1_init_12 : decode cX1_init 12 = .ok (.return_, 1) := by decide +kernel
theorem dX1_run_0 : decode cX1_run 0 = .ok (.aload_n 0, 1) := by decide +kernel
theorem dX1_run_1 : decode cX1_run 1 = .ok (.iconst 0, 1) := by decide +kernel
theorem dX1_run_2 : decode cX1_run 2 = .ok (.putfield 15, 3) := by decide +kernel
theorem dX1_run_5 : decode cX1_run 5 = .ok (.aload_n 0, 1) := by decide +kernel
theorem dX1_run_6 : decode cX1_run 6 = .ok (.iconst 0, 1) := by decide +kernel
theorem dX1_run_7 : decode cX1_run 7 = .ok (.putfield 19, 3) := by decide +kernel
theorem dX1_run_10 : decode cX1_run 10 = .ok (.getstatic 22, 3) := by decide +kernel
theorem dX1_run_13 : decode cX1_run 13 = .ok (.astore_n 3, 1) := by decide +kernel
theorem dX1_run_14 : decode cX1_run 14 = .ok (.aload_n 3, 1) := by decide +kernel
theorem dX1_run_15 : decode cX1_run 15 = .ok (.arraylength, 1) := by decide +kernel
theorem dX1_run_16 : decode cX1_run 16 = .ok (.istore 4, 2) := by decide +kernel
theorem dX1_run_18 : decode cX1_run 18 = .ok (.iconst 0, 1) := by decide +kernel
theorem dX1_run_19 : decode cX1_run 19 = .ok (.istore 5, 2) := by decide +kernel
theorem dX1_run_21 : decode cX1_run 21 = .ok (.iload 5, 2) := by decide +kernel
theorem dX1_run_23 : decode cX1_run 23 = .ok (.iload 4, 2) := by decide +kernel
theorem dX1_run_25 : decode cX1_run 25 = .ok (.if_icmp .ge 40, 3) := by decide +kernel
theorem dX1_run_28 : decode cX1_run 28 = .ok (.aload_n 3, 1) := by decide +kernel
theorem dX1_run_29 : decode cX1_run 29 = .ok (.iload 5, 2) := by decide +kernel
theorem dX1_run_31 : decode cX1_run 31 = .ok (.iaload, 1) := by decide +kernel
theorem dX1_run_32 : decode cX1_run 32 = .ok (.istore 6, 2) := by decide +kernel
theorem dX1_run_34 : decode cX1_run 34 = .ok (.iconst 0, 1) := by decide +kernel
theorem dX1_run_35 : decode cX1_run 35 = .ok (.istore 7, 2) := by decide +kernel
theorem dX1_run_37 : decode cX1_run 37 = .ok (.iload 7, 2) := by decide +kernel
theorem dX1_run_39 : decode cX1_run 39 = .ok (.bipush 16, 2) := by decide +kernel
theorem dX1_run_41 : decode cX1_run 41 = .ok (.if_icmp .ge 18, 3) := by decide +kernel
theorem dX1_run_44 : decode cX1_run 44 = .ok (.aload_n 0, 1) := by decide +kernel
theorem dX1_run_45 : decode cX1_run 45 = .ok (.iload 7, 2) := by decide +kernel
theorem dX1_run_47 : decode cX1_run 47 = .ok (.iload 6, 2) := by decide +kernel
theorem dX1_run_49 : decode cX1_run 49 = .ok (.iload_n 1, 1) := by decide +kernel
theorem dX1_run_50 : decode cX1_run 50 = .ok (.invokevirtual 25, 3) := by decide +kernel
theorem dX1_run_53 : decode cX1_run 53 = .ok (.iinc 7 1, 3) := by decide +kernel
theorem dX1_run_56 : decode cX1_run 56 = .ok (.goto (-19), 3) := by decide +kernel
theorem dX1_run_59 : decode cX1_run 59 = .ok (.iinc 5 1, 3) := by decide +kernel
theorem dX1_run_62 : decode cX1_run 62 = .ok (.goto (-41), 3) := by decide +kernel
theorem dX1_run_65 : decode cX1_run 65 = .ok (.aload_n 0, 1) := by decide +kernel
theorem dX1_run_66 : decode cX1_run 66 = .ok (.getfield 15, 3) := by decide +kernel
theorem dX1_run_69 : decode cX1_run 69 = .ok (.invokestatic 29, 3) := by decide +kernel
theorem dX1_run_72 : decode cX1_run 72 = .ok (.iload_n 2, 1) := by decide +kernel
theorem dX1_run_73 : decode cX1_run 73 = .ok (.if_icmp .ge 8, 3) := by decide +kernel
theorem dX1_run_76 : decode cX1_run 76 = .ok (.aload_n 0, 1) := by decide +kernel
theorem dX1_run_77 : decode cX1_run 77 = .ok (.iconst 0, 1) := by decide +kernel
theorem dX1_run_78 : decode cX1_run 78 = .ok (.putfield 15, 3) := by decide +kernel
theorem dX1_run_81 : decode cX1_run 81 = .ok (.return_, 1) := by decide +kernel
theorem dX1_weigh_0 : decode cX1_weigh 0 = .ok (.iconst 0, 1) := by decide +kernel
theorem dX1_weigh_1 : decode cX1_weigh 1 = .ok (.istore 4, 2) := by decide +kernel
theorem dX1_weigh_3 : decode cX1_weigh 3 = .ok (.iconst 0, 1) := by decide +kernel
theorem dX1_weigh_4 : decode cX1_weigh 4 = .ok (.istore 5, 2) := by decide +kernel
theorem dX1_weigh_6 : decode cX1_weigh 6 = .ok (.iconst 0, 1) := by decide +kernel
theorem dX1_weigh_7 : decode cX1_weigh 7 = .ok (.istore 6, 2) := by decide +kernel
theorem dX1_weigh_9 : decode cX1_weigh 9 = .ok (.iload 6, 2) := by decide +kernel
theorem dX1_weigh_11 : decode cX1_weigh 11 = .ok (.bipush 6, 2) := by decide +kernel
theorem dX1_weigh_13 : decode cX1_weigh 13 = .ok (.if_icmp .ge 68, 3) := by decide +kernel
theorem dX1_weigh_16 : decode cX1_weigh 16 = .ok (.aload_n 0, 1) := by decide +kernel
theorem dX1_weigh_17 : decode cX1_weigh 17 = .ok (.getfield 9, 3) := by decide +kernel
theorem dX1_weigh_20 : decode cX1_weigh 20 = .ok (.iload 6, 2) := by decide +kernel
theorem dX1_weigh_22 : decode cX1_weigh 22 = .ok (.iaload, 1) := by decide +kernel
theorem dX1_weigh_23 : decode cX1_weigh 23 = .ok (.bipush (-9), 2) := by decide +kernel
theorem dX1_weigh_25 : decode cX1_weigh 25 = .ok (.if_icmp .ne 6, 3) := by decide +kernel
theorem dX1_weigh_28 : decode cX1_weigh 28 = .ok (.goto 47, 3) := by decide +kernel
theorem dX1_weigh_31 : decode cX1_weigh 31 = .ok (.iload_n 1, 1) := by decide +kernel
theorem dX1_weigh_32 : decode cX1_weigh 32 = .ok (.iload_n 2, 1) := by decide +kernel
theorem dX1_weigh_33 : decode cX1_weigh 33 = .ok (.iload 6, 2) := by decide +kernel
theorem dX1_weigh_35 : decode cX1_weigh 35 = .ok (.imul, 1) := by decide +kernel
theorem dX1_weigh_36 : decode cX1_weigh 36 = .ok (.iadd, 1) := by decide +kernel
theorem dX1_weigh_37 : decode cX1_weigh 37 = .ok (.aload_n 0, 1) := by decide +kernel
theorem dX1_weigh_38 : decode cX1_weigh 38 = .ok (.getfield 9, 3) := by decide +kernel
theorem dX1_weigh_41 : decode cX1_weigh 41 = .ok (.iload 6, 2) := by decide +kernel
theorem dX1_weigh_43 : decode cX1_weigh 43 = .ok (.iaload, 1) := by decide +kernel
theorem dX1_weigh_44 : decode cX1_weigh 44 = .ok (.isub, 1) := by decide +kernel
theorem dX1_weigh_45 : decode cX1_weigh 45 = .ok (.invokestatic 35, 3) := by decide +kernel
theorem dX1_weigh_48 : decode cX1_weigh 48 = .ok (.istore 7, 2) := by decide +kernel
theorem dX1_weigh_50 : decode cX1_weigh 50 = .ok (.iload 7, 2) := by decide +kernel
theorem dX1_weigh_52 : decode cX1_weigh 52 = .ok (.iload_n 3, 1) := by decide +kernel
theorem dX1_weigh_53 : decode cX1_weigh 53 = .ok (.if_icmp .le 6, 3) := by decide +kernel
theorem dX1_weigh_56 : decode cX1_weigh 56 = .ok (.goto 19, 3) := by decide +kernel
theorem dX1_weigh_59 : decode cX1_weigh 59 = .ok (.iload 4, 2) := by decide +kernel
theorem dX1_weigh_61 : decode cX1_weigh 61 = .ok (.iconst 1, 1) := by decide +kernel
theorem dX1_weigh_62 : decode cX1_weigh 62 = .ok (.iload 6, 2) := by decide +kernel
theorem dX1_weigh_64 : decode cX1_weigh 64 = .ok (.ishl, 1) := by decide +kernel
theorem dX1_weigh_65 : decode cX1_weigh 65 = .ok (.ior, 1) := by decide +kernel
theorem dX1_weigh_66 : decode cX1_weigh 66 = .ok (.istore 4, 2) := by decide +kernel
theorem dX1_weigh_68 : decode cX1_weigh 68 = .ok (.iload 5, 2) := by decide +kernel
theorem dX1_weigh_70 : decode cX1_weigh 70 = .ok (.iload 7, 2) := by decide +kernel
theorem dX1_weigh_72 : decode cX1_weigh 72 = .ok (.iadd, 1) := by decide +kernel
theorem dX1_weigh_73 : decode cX1_weigh 73 = .ok (.istore 5, 2) := by decide +kernel
theorem dX1_weigh_75 : decode cX1_weigh 75 = .ok (.iinc 6 1, 3) := by decide +kernel
theorem dX1_weigh_78 : decode cX1_weigh 78 = .ok (.goto (-69), 3) := by decide +kernel
theorem dX1_weigh_81 : decode cX1_weigh 81 = .ok (.iload 4, 2) := by decide +kernel
theorem dX1_weigh_83 : decode cX1_weigh 83 = .ok (.invokestatic 29, 3) := by decide +kernel
theorem dX1_weigh_86 : decode cX1_weigh 86 = .ok (.aload_n 0, 1) := by decide +kernel
theorem dX1_weigh_87 : decode cX1_weigh 87 = .ok (.getfield 15, 3) := by decide +kernel
theorem dX1_weigh_90 : decode cX1_weigh 90 = .ok (.invokestatic 29, 3) := by decide +kernel
theorem dX1_weigh_93 : decode cX1_weigh 93 = .ok (.isub, 1) := by decide +kernel
theorem dX1_weigh_94 : decode cX1_weigh 94 = .ok (.istore 6, 2) := by decide +kernel
theorem dX1_weigh_96 : decode cX1_weigh 96 = .ok (.iload 6, 2) := by decide +kernel
theorem dX1_weigh_98 : decode cX1_weigh 98 = .ok (.ifCond .gt 17, 3) := by decide +kernel
theorem dX1_weigh_101 : decode cX1_weigh 101 = .ok (.iload 6, 2) := by decide +kernel
theorem dX1_weigh_103 : decode cX1_weigh 103 = .ok (.ifCond .ne 22, 3) := by decide +kernel
theorem dX1_weigh_106 : decode cX1_weigh 106 = .ok (.iload 5, 2) := by decide +kernel
theorem dX1_weigh_108 : decode cX1_weigh 108 = .ok (.aload_n 0, 1) := by decide +kernel
theorem dX1_weigh_109 : decode cX1_weigh 109 = .ok (.getfield 19, 3) := by decide +kernel
theorem dX1_weigh_112 : decode cX1_weigh 112 = .ok (.if_icmp .ge 13, 3) := by decide +kernel
theorem dX1_weigh_115 : decode cX1_weigh 115 = .ok (.aload_n 0, 1) := by decide +kernel
theorem dX1_weigh_116 : decode cX1_weigh 116 = .ok (.iload_n 1, 1) := by decide +kernel
theorem dX1_weigh_117 : decode cX1_weigh 117 = .ok (.iload_n 2, 1) := by decide +kernel
theorem dX1_weigh_118 : decode cX1_weigh 118 = .ok (.iload 4, 2) := by decide +kernel
theorem dX1_weigh_120 : decode cX1_weigh 120 = .ok (.iload 5, 2) := by decide +kernel
theorem dX1_weigh_122 : decode cX1_weigh 122 = .ok (.invokevirtual 40, 3) := by decide +kernel
theorem dX1_weigh_125 : decode cX1_weigh 125 = .ok (.return_, 1) := by decide +kernel
theorem dX1_take_0 : decode cX1_take 0 = .ok (.aload_n 0, 1) := by decide +kernel
theorem dX1_take_1 : decode cX1_take 1 = .ok (.iload_n 1, 1) := by decide +kernel
theorem dX1_take_2 : decode cX1_take 2 = .ok (.putfield 44, 3) := by decide +kernel
theorem dX1_take_5 : decode cX1_take 5 = .ok (.aload_n 0, 1) := by decide +kernel
theorem dX1_take_6 : decode cX1_take 6 = .ok (.iload_n 2, 1) := by decide +kernel
theorem dX1_take_7 : decode cX1_take 7 = .ok (.putfield 47, 3) := by decide +kernel
theorem dX1_take_10 : decode cX1_take 10 = .ok (.aload_n 0, 1) := by decide +kernel
theorem dX1_take_11 : decode cX1_take 11 = .ok (.iload_n 3, 1) := by decide +kernel
theorem dX1_take_12 : decode cX1_take 12 = .ok (.putfield 15, 3) := by decide +kernel
theorem dX1_take_15 : decode cX1_take 15 = .ok (.aload_n 0, 1) := by decide +kernel
theorem dX1_take_16 : decode cX1_take 16 = .ok (.iload 4, 2) := by decide +kernel
theorem dX1_take_18 : decode cX1_take 18 = .ok (.putfield 19, 3) := by decide +kernel
theorem dX1_take_21 : decode cX1_take 21 = .ok (.return_, 1) := by decide +kernel
theorem dX2_init_0 : decode cX2_init 0 = .ok (.aload_n 0, 1) := by decide +kernel
theorem dX2_init_1 : decode cX2_init 1 = .ok (.invokespecial 3, 3) := by decide +kernel
theorem dX2_init_4 : decode cX2_init 4 = .ok (.aload_n 0, 1) := by decide +kernel
theorem dX2_init_5 : decode cX2_init 5 = .ok (.sipush 240, 3) := by decide +kernel
theorem dX2_init_8 : decode cX2_init 8 = .ok (.newarray .int, 2) := by decide +kernel
theorem dX2_init_10 : decode cX2_init 10 = .ok (.putfield 9, 3) := by decide +kernel
theorem dX2_init_13 : decode cX2_init 13 = .ok (.aload_n 0, 1) := by decide +kernel
theorem dX2_init_14 : decode cX2_init 14 = .ok (.sipush 240, 3) := by decide +kernel
theorem dX2_init_17 : decode cX2_init 17 = .ok (.newarray .int, 2) := by decide +kernel
theorem dX2_init_19 : decode cX2_init 19 = .ok (.putfield 15, 3) := by decide +kernel
theorem dX2_init_22 : decode cX2_init 22 = .ok (.aload_n 0, 1) := by decide +kernel
theorem dX2_init_23 : decode cX2_init 23 = .ok (.sipush 240, 3) := by decide +kernel
theorem dX2_init_26 : decode cX2_init 26 = .ok (.newarray .int, 2) := by decide +kernel
theorem dX2_init_28 : decode cX2_init 28 = .ok (.putfield 18, 3) := by decide +kernel
theorem dX2_init_31 : decode cX2_init 31 = .ok (.return_, 1) := by decide +kernel
theorem dX2_insert_0 : decode cX2_insert 0 = .ok (.aload_n 0, 1) := by decide +kernel
theorem dX2_insert_1 : decode cX2_insert 1 = .ok (.getfield 21, 3) := by decide +kernel
theorem dX2_insert_4 : decode cX2_insert 4 = .ok (.sipush 240, 3) := by decide +kernel
theorem dX2_insert_7 : decode cX2_insert 7 = .ok (.if_icmp .lt 4, 3) := by decide +kernel
theorem dX2_insert_10 : decode cX2_insert 10 = .ok (.return_, 1) := by decide +kernel
theorem dX2_insert_11 : decode cX2_insert 11 = .ok (.aload_n 0, 1) := by decide +kernel
theorem dX2_insert_12 : decode cX2_insert 12 = .ok (.getfield 21, 3) := by decide +kernel
theorem dX2_insert_15 : decode cX2_insert 15 = .ok (.istore 4, 2) := by decide +kernel
theorem dX2_insert_17 : decode cX2_insert 17 = .ok (.iload 4, 2) := by decide +kernel
theorem dX2_insert_19 : decode cX2_insert 19 = .ok (.ifCond .le 56, 3) := by decide +kernel
theorem dX2_insert_22 : decode cX2_insert 22 = .ok (.aload_n 0, 1) := by decide +kernel
theorem dX2_insert_23 : decode cX2_insert 23 = .ok (.iload 4, 2) := by decide +kernel
theorem dX2_insert_25 : decode cX2_insert 25 = .ok (.iconst 1, 1) := by decide +kernel
theorem dX2_insert_26 : decode cX2_insert 26 = .ok (.isub, 1) := by decide +kernel
theorem dX2_insert_27 : decode cX2_insert 27 = .ok (.iload_n 1, 1) := by decide +kernel
theorem dX2_insert_28 : decode cX2_insert 28 = .ok (.iload_n 2, 1) := by decide +kernel
theorem dX2_insert_29 : decode cX2_insert 29 = .ok (.iload_n 3, 1) := by decide +kernel
theorem dX2_insert_30 : decode cX2_insert 30 = .ok (.invokevirtual 25, 3) := by decide +kernel
theorem dX2_insert_33 : decode cX2_insert 33 = .ok (.ifCond .eq 42, 3) := by decide +kernel
theorem dX2_insert_36 : decode cX2_insert 36 = .ok (.aload_n 0, 1) := by decide +kernel
theorem dX2_insert_37 : decode cX2_insert 37 = .ok (.iload 4, 2) := by decide +kernel
theorem dX2_insert_39 : decode cX2_insert 39 = .ok (.aload_n 0, 1) := by decide +kernel
theorem dX2_insert_40 : decode cX2_insert 40 = .ok (.getfield 9, 3) := by decide +kernel
theorem dX2_insert_43 : decode cX2_insert 43 = .ok (.iload 4, 2) := by decide +kernel
theorem dX2_insert_45 : decode cX2_insert 45 = .ok (.iconst 1, 1) := by decide +kernel
theorem dX2_insert_46 : decode cX2_insert 46 = .ok (.isub, 1) := by decide +kernel
theorem dX2_insert_47 : decode cX2_insert 47 = .ok (.iaload, 1) := by decide +kernel
theorem dX2_insert_48 : decode cX2_insert 48 = .ok (.aload_n 0, 1) := by decide +kernel
theorem dX2_insert_49 : decode cX2_insert 49 = .ok (.getfield 15, 3) := by decide +kernel
theorem dX2_insert_52 : decode cX2_insert 52 = .ok (.iload 4, 2) := by decide +kernel
theorem dX2_insert_54 : decode cX2_insert 54 = .ok (.iconst 1, 1) := by decide +kernel
theorem dX2_insert_55 : decode cX2_insert 55 = .ok (.isub, 1) := by decide +kernel
theorem dX2_insert_56 : decode cX2_insert 56 = .ok (.iaload, 1) := by decide +kernel
theorem dX2_insert_57 : decode cX2_insert 57 = .ok (.aload_n 0, 1) := by decide +kernel
theorem dX2_insert_58 : decode cX2_insert 58 = .ok (.getfield 18, 3) := by decide +kernel
theorem dX2_insert_61 : decode cX2_insert 61 = .ok (.iload 4, 2) := by decide +kernel
theorem dX2_insert_63 : decode cX2_insert 63 = .ok (.iconst 1, 1) := by decide +kernel
theorem dX2_insert_64 : decode cX2_insert 64 = .ok (.isub, 1) := by decide +kernel
theorem dX2_insert_65 : decode cX2_insert 65 = .ok (.iaload, 1) := by decide +kernel
theorem dX2_insert_66 : decode cX2_insert 66 = .ok (.invokevirtual 29, 3) := by decide +kernel
theorem dX2_insert_69 : decode cX2_insert 69 = .ok (.iinc 4 (-1), 3) := by decide +kernel
theorem dX2_insert_72 : decode cX2_insert 72 = .ok (.goto (-55), 3) := by decide +kernel
theorem dX2_insert_75 : decode cX2_insert 75 = .ok (.aload_n 0, 1) := by decide +kernel
theorem dX2_insert_76 : decode cX2_insert 76 = .ok (.iload 4, 2) := by decide +kernel
theorem dX2_insert_78 : decode cX2_insert 78 = .ok (.iload_n 1, 1) := by decide +kernel
theorem dX2_insert_79 : decode cX2_insert 79 = .ok (.iload_n 2, 1) := by decide +kernel
theorem dX2_insert_80 : decode cX2_insert 80 = .ok (.iload_n 3, 1) := by decide +kernel
theorem dX2_insert_81 : decode cX2_insert 81 = .ok (.invokevirtual 29, 3) := by decide +kernel
theorem dX2_insert_84 : decode cX2_insert 84 = .ok (.aload_n 0, 1) := by decide +kernel
theorem dX2_insert_85 : decode cX2_insert 85 = .ok (.dup, 1) := by decide +kernel
theorem dX2_insert_86 : decode cX2_insert 86 = .ok (.getfield 21, 3) := by decide +kernel
theorem dX2_insert_89 : decode cX2_insert 89 = .ok (.iconst 1, 1) := by decide +kernel
theorem dX2_insert_90 : decode cX2_insert 90 = .ok (.iadd, 1) := by decide +kernel
theorem dX2_insert_91 : decode cX2_insert 91 = .ok (.putfield 21, 3) := by decide +kernel
theorem dX2_insert_94 : decode cX2_insert 94 = .ok (.return_, 1) := by decide +kernel
theorem dX2_isBehind_0 : decode cX2_isBehind 0 = .ok (.aload_n 0, 1) := by decide +kernel
theorem dX2_isBehind_1 : decode cX2_isBehind 1 = .ok (.getfield 9, 3) := by decide +kernel
theorem dX2_isBehind_4 : decode cX2_isBehind 4 = .ok (.iload_n 1, 1) := by decide +kernel
theorem dX2_isBehind_5 : decode cX2_isBehind 5 = .ok (.iaload, 1) := by decide +kernel
theorem dX2_isBehind_6 : decode cX2_isBehind 6 = .ok (.iload_n 2, 1) := by decide +kernel
theorem dX2_isBehind_7 : decode cX2_isBehind 7 = .ok (.if_icmp .eq 19, 3) := by decide +kernel
theorem dX2_isBehind_10 : decode cX2_isBehind 10 = .ok (.aload_n 0, 1) := by decide +kernel
theorem dX2_isBehind_11 : decode cX2_isBehind 11 = .ok (.getfield 9, 3) := by decide +kernel
theorem dX2_isBehind_14 : decode cX2_isBehind 14 = .ok (.iload_n 1, 1) := by decide +kernel
theorem dX2_isBehind_15 : decode cX2_isBehind 15 = .ok (.iaload, 1) := by decide +kernel
theorem dX2_isBehind_16 : decode cX2_isBehind 16 = .ok (.iload_n 2, 1) := by decide +kernel
theorem dX2_isBehind_17 : decode cX2_isBehind 17 = .ok (.if_icmp .le 7, 3) := by decide +kernel
theorem dX2_isBehind_20 : decode cX2_isBehind 20 = .ok (.iconst 1, 1) := by decide +kernel
theorem dX2_isBehind_21 : decode cX2_isBehind 21 = .ok (.goto 4, 3) := by decide +kernel
theorem dX2_isBehind_24 : decode cX2_isBehind 24 = .ok (.iconst 0, 1) := by decide +kernel
theorem dX2_isBehind_25 : decode cX2_isBehind 25 = .ok (.ireturn, 1) := by decide +kernel
theorem dX2_isBehind_26 : decode cX2_isBehind 26 = .ok (.aload_n 0, 1) := by decide +kernel
theorem dX2_isBehind_27 : decode cX2_isBehind 27 = .ok (.getfield 15, 3) := by decide +kernel
theorem dX2_isBehind_30 : decode cX2_isBehind 30 = .ok (.iload_n 1, 1) := by decide +kernel
theorem dX2_isBehind_31 : decode cX2_isBehind 31 = .ok (.iaload, 1) := by decide +kernel
theorem dX2_isBehind_32 : decode cX2_isBehind 32 = .ok (.iload_n 3, 1) := by decide +kernel
theorem dX2_isBehind_33 : decode cX2_isBehind 33 = .ok (.if_icmp .eq 19, 3) := by decide +kernel
theorem dX2_isBehind_36 : decode cX2_isBehind 36 = .ok (.aload_n 0, 1) := by decide +kernel
theorem dX2_isBehind_37 : decode cX2_isBehind 37 = .ok (.getfield 15, 3) := by decide +kernel
theorem dX2_isBehind_40 : decode cX2_isBehind 40 = .ok (.iload_n 1, 1) := by decide +kernel
theorem dX2_isBehind_41 : decode cX2_isBehind 41 = .ok (.iaload, 1) := by decide +kernel
theorem dX2_isBehind_42 : decode cX2_isBehind 42 = .ok (.iload_n 3, 1) := by decide +kernel
theorem dX2_isBehind_43 : decode cX2_isBehind 43 = .ok (.if_icmp .le 7, 3) := by decide +kernel
theorem dX2_isBehind_46 : decode cX2_isBehind 46 = .ok (.iconst 1, 1) := by decide +kernel
theorem dX2_isBehind_47 : decode cX2_isBehind 47 = .ok (.goto 4, 3) := by decide +kernel
theorem dX2_isBehind_50 : decode cX2_isBehind 50 = .ok (.iconst 0, 1) := by decide +kernel
theorem dX2_isBehind_51 : decode cX2_isBehind 51 = .ok (.ireturn, 1) := by decide +kernel
theorem dX2_isBehind_52 : decode cX2_isBehind 52 = .ok (.aload_n 0, 1) := by decide +kernel
theorem dX2_isBehind_53 : decode cX2_isBehind 53 = .ok (.getfield 18, 3) := by decide +kernel
theorem dX2_isBehind_56 : decode cX2_isBehind 56 = .ok (.iload_n 1, 1) := by decide +kernel
theorem dX2_isBehind_57 : decode cX2_isBehind 57 = .ok (.iaload, 1) := by decide +kernel
theorem dX2_isBehind_58 : decode cX2_isBehind 58 = .ok (.iload 4, 2) := by decide +kernel
theorem dX2_isBehind_60 : decode cX2_isBehind 60 = .ok (.if_icmp .le 7, 3) := by decide +kernel
theorem dX2_isBehind_63 : decode cX2_isBehind 63 = .ok (.iconst 1, 1) := by decide +kernel
theorem dX2_isBehind_64 : decode cX2_isBehind 64 = .ok (.goto 4, 3) := by decide +kernel
theorem dX2_isBehind_67 : decode cX2_isBehind 67 = .ok (.iconst 0, 1) := by decide +kernel
theorem dX2_isBehind_68 : decode cX2_isBehind 68 = .ok (.ireturn, 1) := by decide +kernel
theorem dX2_put_0 : decode cX2_put 0 = .ok (.aload_n 0, 1) := by decide +kernel
theorem dX2_put_1 : decode cX2_put 1 = .ok (.getfield 9, 3) := by decide +kernel
theorem dX2_put_4 : decode cX2_put 4 = .ok (.iload_n 1, 1) := by decide +kernel
theorem dX2_put_5 : decode cX2_put 5 = .ok (.iload_n 2, 1) := by decide +kernel
theorem dX2_put_6 : decode cX2_put 6 = .ok (.iastore, 1) := by decide +kernel
theorem dX2_put_7 : decode cX2_put 7 = .ok (.aload_n 0, 1) := by decide +kernel
theorem dX2_put_8 : decode cX2_put 8 = .ok (.getfield 15, 3) := by decide +kernel
theorem dX2_put_11 : decode cX2_put 11 = .ok (.iload_n 1, 1) := by decide +kernel
theorem dX2_put_12 : decode cX2_put 12 = .ok (.iload_n 3, 1) := by decide +kernel
theorem dX2_put_13 : decode cX2_put 13 = .ok (.iastore, 1) := by decide +kernel
theorem dX2_put_14 : decode cX2_put 14 = .ok (.aload_n 0, 1) := by decide +kernel
theorem dX2_put_15 : decode cX2_put 15 = .ok (.getfield 18, 3) := by decide +kernel
theorem dX2_put_18 : decode cX2_put 18 = .ok (.iload_n 1, 1) := by decide +kernel
theorem dX2_put_19 : decode cX2_put 19 = .ok (.iload 4, 2) := by decide +kernel
theorem dX2_put_21 : decode cX2_put 21 = .ok (.iastore, 1) := by decide +kernel
theorem dX2_put_22 : decode cX2_put 22 = .ok (.return_, 1) := by decide +kernel
theorem dX2_countOf_0 : decode cX2_countOf 0 = .ok (.iconst 0, 1) := by decide +kernel
theorem dX2_countOf_1 : decode cX2_countOf 1 = .ok (.istore_n 3, 1) := by decide +kernel
theorem dX2_countOf_2 : decode cX2_countOf 2 = .ok (.iconst 0, 1) := by decide +kernel
theorem dX2_countOf_3 : decode cX2_countOf 3 = .ok (.istore 4, 2) := by decide +kernel
theorem dX2_countOf_5 : decode cX2_countOf 5 = .ok (.iload 4, 2) := by decide +kernel
theorem dX2_countOf_7 : decode cX2_countOf 7 = .ok (.iload_n 2, 1) := by decide +kernel
theorem dX2_countOf_8 : decode cX2_countOf 8 = .ok (.if_icmp .ge 23, 3) := by decide +kernel
theorem dX2_countOf_11 : decode cX2_countOf 11 = .ok (.aload_n 0, 1) := by decide +kernel
theorem dX2_countOf_12 : decode cX2_countOf 12 = .ok (.getfield 15, 3) := by decide +kernel
theorem dX2_countOf_15 : decode cX2_countOf 15 = .ok (.iload 4, 2) := by decide +kernel
theorem dX2_countOf_17 : decode cX2_countOf 17 = .ok (.iaload, 1) := by decide +kernel
theorem dX2_countOf_18 : decode cX2_countOf 18 = .ok (.iload_n 1, 1) := by decide +kernel
theorem dX2_countOf_19 : decode cX2_countOf 19 = .ok (.if_icmp .ne 6, 3) := by decide +kernel
theorem dX2_countOf_22 : decode cX2_countOf 22 = .ok (.iinc 3 1, 3) := by decide +kernel
theorem dX2_countOf_25 : decode cX2_countOf 25 = .ok (.iinc 4 1, 3) := by decide +kernel
theorem dX2_countOf_28 : decode cX2_countOf 28 = .ok (.goto (-23), 3) := by decide +kernel
theorem dX2_countOf_31 : decode cX2_countOf 31 = .ok (.iload_n 3, 1) := by decide +kernel
theorem dX2_countOf_32 : decode cX2_countOf 32 = .ok (.ireturn, 1) := by decide +kernel
theorem dX2_indexOf_0 : decode cX2_indexOf 0 = .ok (.iload_n 2, 1) := by decide +kernel
theorem dX2_indexOf_1 : decode cX2_indexOf 1 = .ok (.istore 4, 2) := by decide +kernel
theorem dX2_indexOf_3 : decode cX2_indexOf 3 = .ok (.iload 4, 2) := by decide +kernel
theorem dX2_indexOf_5 : decode cX2_indexOf 5 = .ok (.iload_n 3, 1) := by decide +kernel
theorem dX2_indexOf_6 : decode cX2_indexOf 6 = .ok (.if_icmp .ge 23, 3) := by decide +kernel
theorem dX2_indexOf_9 : decode cX2_indexOf 9 = .ok (.aload_n 0, 1) := by decide +kernel
theorem dX2_indexOf_10 : decode cX2_indexOf 10 = .ok (.getfield 15, 3) := by decide +kernel
theorem dX2_indexOf_13 : decode cX2_indexOf 13 = .ok (.iload 4, 2) := by decide +kernel
theorem dX2_indexOf_15 : decode cX2_indexOf 15 = .ok (.iaload, 1) := by decide +kernel
theorem dX2_indexOf_16 : decode cX2_indexOf 16 = .ok (.iload_n 1, 1) := by decide +kernel
theorem dX2_indexOf_17 : decode cX2_indexOf 17 = .ok (.if_icmp .ne 6, 3) := by decide +kernel
theorem dX2_indexOf_20 : decode cX2_indexOf 20 = .ok (.iload 4, 2) := by decide +kernel
theorem dX2_indexOf_22 : decode cX2_indexOf 22 = .ok (.ireturn, 1) := by decide +kernel
theorem dX2_indexOf_23 : decode cX2_indexOf 23 = .ok (.iinc 4 1, 3) := by decide +kernel
theorem dX2_indexOf_26 : decode cX2_indexOf 26 = .ok (.goto (-23), 3) := by decide +kernel
theorem dX2_indexOf_29 : decode cX2_indexOf 29 = .ok (.iconst (-1), 1) := by decide +kernel
theorem dX2_indexOf_30 : decode cX2_indexOf 30 = .ok (.ireturn, 1) := by decide +kernel
theorem dX2_endOfGroup_0 : decode cX2_endOfGroup 0 = .ok (.iload_n 1, 1) := by decide +kernel
theorem dX2_endOfGroup_1 : decode cX2_endOfGroup 1 = .ok (.iconst 1, 1) := by decide +kernel
theorem dX2_endOfGroup_2 : decode cX2_endOfGroup 2 = .ok (.iadd, 1) := by decide +kernel
theorem dX2_endOfGroup_3 : decode cX2_endOfGroup 3 = .ok (.istore 4, 2) := by decide +kernel
theorem dX2_endOfGroup_5 : decode cX2_endOfGroup 5 = .ok (.iload 4, 2) := by decide +kernel
theorem dX2_endOfGroup_7 : decode cX2_endOfGroup 7 = .ok (.iload_n 2, 1) := by decide +kernel
theorem dX2_endOfGroup_8 : decode cX2_endOfGroup 8 = .ok (.if_icmp .ge 27, 3) := by decide +kernel
theorem dX2_endOfGroup_11 : decode cX2_endOfGroup 11 = .ok (.aload_n 0, 1) := by decide +kernel
theorem dX2_endOfGroup_12 : decode cX2_endOfGroup 12 = .ok (.getfield 9, 3) := by decide +kernel
theorem dX2_endOfGroup_15 : decode cX2_endOfGroup 15 = .ok (.iload 4, 2) := by decide +kernel
theorem dX2_endOfGroup_17 : decode cX2_endOfGroup 17 = .ok (.iaload, 1) := by decide +kernel
theorem dX2_endOfGroup_18 : decode cX2_endOfGroup 18 = .ok (.aload_n 0, 1) := by decide +kernel
theorem dX2_endOfGroup_19 : decode cX2_endOfGroup 19 = .ok (.getfield 9, 3) := by decide +kernel
theorem dX2_endOfGroup_22 : decode cX2_endOfGroup 22 = .ok (.iload_n 1, 1) := by decide +kernel
theorem dX2_endOfGroup_23 : decode cX2_endOfGroup 23 = .ok (.iaload, 1) := by decide +kernel
theorem dX2_endOfGroup_24 : decode cX2_endOfGroup 24 = .ok (.iload_n 3, 1) := by decide +kernel
theorem dX2_endOfGroup_25 : decode cX2_endOfGroup 25 = .ok (.iadd, 1) := by decide +kernel
theorem dX2_endOfGroup_26 : decode cX2_endOfGroup 26 = .ok (.if_icmp .gt 9, 3) := by decide +kernel
theorem dX2_endOfGroup_29 : decode cX2_endOfGroup 29 = .ok (.iinc 4 1, 3) := by decide +kernel
theorem dX2_endOfGroup_32 : decode cX2_endOfGroup 32 = .ok (.goto (-27), 3) := by decide +kernel
theorem dX2_endOfGroup_35 : decode cX2_endOfGroup 35 = .ok (.iload 4, 2) := by decide +kernel
theorem dX2_endOfGroup_37 : decode cX2_endOfGroup 37 = .ok (.ireturn, 1) := by decide +kernel
theorem dX2_planesOf_0 : decode cX2_planesOf 0 = .ok (.iconst 0, 1) := by decide +kernel
theorem dX2_planesOf_1 : decode cX2_planesOf 1 = .ok (.istore_n 3, 1) := by decide +kernel
theorem dX2_planesOf_2 : decode cX2_planesOf 2 = .ok (.iload_n 1, 1) := by decide +kernel
theorem dX2_planesOf_3 : decode cX2_planesOf 3 = .ok (.istore 4, 2) := by decide +kernel
theorem dX2_planesOf_5 : decode cX2_planesOf 5 = .ok (.iload 4, 2) := by decide +kernel
theorem dX2_planesOf_7 : decode cX2_planesOf 7 = .ok (.iload_n 2, 1) := by decide +kernel
theorem dX2_planesOf_8 : decode cX2_planesOf 8 = .ok (.if_icmp .ge 21, 3) := by decide +kernel
theorem dX2_planesOf_11 : decode cX2_planesOf 11 = .ok (.iload_n 3, 1) := by decide +kernel
theorem dX2_planesOf_12 : decode cX2_planesOf 12 = .ok (.iconst 1, 1) := by decide +kernel
theorem dX2_planesOf_13 : decode cX2_planesOf 13 = .ok (.aload_n 0, 1) := by decide +kernel
theorem dX2_planesOf_14 : decode cX2_planesOf 14 = .ok (.getfield 15, 3) := by decide +kernel
theorem dX2_planesOf_17 : decode cX2_planesOf 17 = .ok (.iload 4, 2) := by decide +kernel
theorem dX2_planesOf_19 : decode cX2_planesOf 19 = .ok (.iaload, 1) := by decide +kernel
theorem dX2_planesOf_20 : decode cX2_planesOf 20 = .ok (.ishl, 1) := by decide +kernel
theorem dX2_planesOf_21 : decode cX2_planesOf 21 = .ok (.ior, 1) := by decide +kernel
theorem dX2_planesOf_22 : decode cX2_planesOf 22 = .ok (.istore_n 3, 1) := by decide +kernel
theorem dX2_planesOf_23 : decode cX2_planesOf 23 = .ok (.iinc 4 1, 3) := by decide +kernel
theorem dX2_planesOf_26 : decode cX2_planesOf 26 = .ok (.goto (-21), 3) := by decide +kernel
theorem dX2_planesOf_29 : decode cX2_planesOf 29 = .ok (.iload_n 3, 1) := by decide +kernel
theorem dX2_planesOf_30 : decode cX2_planesOf 30 = .ok (.ireturn, 1) := by decide +kernel
theorem dX2_putMemberStrips_0 : decode cX2_putMemberStrips 0 = .ok (.aload_n 3, 1) := by decide +kernel
theorem dX2_putMemberStrips_1 : decode cX2_putMemberStrips 1 = .ok (.bipush (-9), 2) := by decide +kernel
theorem dX2_putMemberStrips_3 : decode cX2_putMemberStrips 3 = .ok (.invokestatic 33, 3) := by decide +kernel
theorem dX2_putMemberStrips_6 : decode cX2_putMemberStrips 6 = .ok (.iload_n 2, 1) := by decide +kernel
theorem dX2_putMemberStrips_7 : decode cX2_putMemberStrips 7 = .ok (.iconst 1, 1) := by decide +kernel
theorem dX2_putMemberStrips_8 : decode cX2_putMemberStrips 8 = .ok (.isub, 1) := by decide +kernel
theorem dX2_putMemberStrips_9 : decode cX2_putMemberStrips 9 = .ok (.istore 4, 2) := by decide +kernel
theorem dX2_putMemberStrips_11 : decode cX2_putMemberStrips 11 = .ok (.iload 4, 2) := by decide +kernel
theorem dX2_putMemberStrips_13 : decode cX2_putMemberStrips 13 = .ok (.iload_n 1, 1) := by decide +kernel
theorem dX2_putMemberStrips_14 : decode cX2_putMemberStrips 14 = .ok (.if_icmp .lt 25, 3) := by decide +kernel
theorem dX2_putMemberStrips_17 : decode cX2_putMemberStrips 17 = .ok (.aload_n 3, 1) := by decide +kernel
theorem dX2_putMemberStrips_18 : decode cX2_putMemberStrips 18 = .ok (.aload_n 0, 1) := by decide +kernel
theorem dX2_putMemberStrips_19 : decode cX2_putMemberStrips 19 = .ok (.getfield 15, 3) := by decide +kernel
theorem dX2_putMemberStrips_22 : decode cX2_putMemberStrips 22 = .ok (.iload 4, 2) := by decide +kernel
theorem dX2_putMemberStrips_24 : decode cX2_putMemberStrips 24 = .ok (.iaload, 1) := by decide +kernel
theorem dX2_putMemberStrips_25 : decode cX2_putMemberStrips 25 = .ok (.aload_n 0, 1) := by decide +kernel
theorem dX2_putMemberStrips_26 : decode cX2_putMemberStrips 26 = .ok (.getfield 18, 3) := by decide +kernel
theorem dX2_putMemberStrips_29 : decode cX2_putMemberStrips 29 = .ok (.iload 4, 2) := by decide +kernel
theorem dX2_putMemberStrips_31 : decode cX2_putMemberStrips 31 = .ok (.iaload, 1) := by decide +kernel
theorem dX2_putMemberStrips_32 : decode cX2_putMemberStrips 32 = .ok (.iastore, 1) := by decide +kernel
theorem dX2_putMemberStrips_33 : decode cX2_putMemberStrips 33 = .ok (.iinc 4 (-1), 3) := by decide +kernel
theorem dX2_putMemberStrips_36 : decode cX2_putMemberStrips 36 = .ok (.goto (-25), 3) := by decide +kernel
theorem dX2_putMemberStrips_39 : decode cX2_putMemberStrips 39 = .ok (.return_, 1) := by decide +kernel
theorem dX2_fillShifted_0 : decode cX2_fillShifted 0 = .ok (.bipush 63, 2) := by decide +kernel
theorem dX2_fillShifted_2 : decode cX2_fillShifted 2 = .ok (.iload_n 3, 1) := by decide +kernel
theorem dX2_fillShifted_3 : decode cX2_fillShifted 3 = .ok (.iconst (-1), 1) := by decide +kernel
theorem dX2_fillShifted_4 : decode cX2_fillShifted 4 = .ok (.ixor, 1) := by decide +kernel
theorem dX2_fillShifted_5 : decode cX2_fillShifted 5 = .ok (.iand, 1) := by decide +kernel
theorem dX2_fillShifted_6 : decode cX2_fillShifted 6 = .ok (.istore 5, 2) := by decide +kernel
theorem dX2_fillShifted_8 : decode cX2_fillShifted 8 = .ok (.aload_n 1, 1) := by decide +kernel
theorem dX2_fillShifted_9 : decode cX2_fillShifted 9 = .ok (.iload 5, 2) := by decide +kernel
theorem dX2_fillShifted_11 : decode cX2_fillShifted 11 = .ok (.iconst 0, 1) := by decide +kernel
theorem dX2_fillShifted_12 : decode cX2_fillShifted 12 = .ok (.iload_n 2, 1) := by decide +kernel
theorem dX2_fillShifted_13 : decode cX2_fillShifted 13 = .ok (.invokevirtual 39, 3) := by decide +kernel
theorem dX2_fillShifted_16 : decode cX2_fillShifted 16 = .ok (.istore 6, 2) := by decide +kernel
theorem dX2_fillShifted_18 : decode cX2_fillShifted 18 = .ok (.aload_n 1, 1) := by decide +kernel
theorem dX2_fillShifted_19 : decode cX2_fillShifted 19 = .ok (.iload_n 3, 1) := by decide +kernel
theorem dX2_fillShifted_20 : decode cX2_fillShifted 20 = .ok (.iconst 0, 1) := by decide +kernel
theorem dX2_fillShifted_21 : decode cX2_fillShifted 21 = .ok (.iload_n 2, 1) := by decide +kernel
theorem dX2_fillShifted_22 : decode cX2_fillShifted 22 = .ok (.invokevirtual 39, 3) := by decide +kernel
theorem dX2_fillShifted_25 : decode cX2_fillShifted 25 = .ok (.istore 7, 2) := by decide +kernel
theorem dX2_fillShifted_27 : decode cX2_fillShifted 27 = .ok (.aload_n 0, 1) := by decide +kernel
theorem dX2_fillShifted_28 : decode cX2_fillShifted 28 = .ok (.iconst 0, 1) := by decide +kernel
theorem dX2_fillShifted_29 : decode cX2_fillShifted 29 = .ok (.putfield 21, 3) := by decide +kernel
theorem dX2_fillShifted_32 : decode cX2_fillShifted 32 = .ok (.aload_n 0, 1) := by decide +kernel
theorem dX2_fillShifted_33 : decode cX2_fillShifted 33 = .ok (.getfield 21, 3) := by decide +kernel
theorem dX2_fillShifted_36 : decode cX2_fillShifted 36 = .ok (.sipush 240, 3) := by decide +kernel
theorem dX2_fillShifted_39 : decode cX2_fillShifted 39 = .ok (.if_icmp .ge 149, 3) := by decide +kernel
theorem dX2_fillShifted_42 : decode cX2_fillShifted 42 = .ok (.iload 6, 2) := by decide +kernel
theorem dX2_fillShifted_44 : decode cX2_fillShifted 44 = .ok (.iload_n 2, 1) := by decide +kernel
theorem dX2_fillShifted_45 : decode cX2_fillShifted 45 = .ok (.if_icmp .lt 9, 3) := by decide +kernel
theorem dX2_fillShifted_48 : decode cX2_fillShifted 48 = .ok (.iload 7, 2) := by decide +kernel
theorem dX2_fillShifted_50 : decode cX2_fillShifted 50 = .ok (.iload_n 2, 1) := by decide +kernel
theorem dX2_fillShifted_51 : decode cX2_fillShifted 51 = .ok (.if_icmp .ge 137, 3) := by decide +kernel
theorem dX2_fillShifted_54 : decode cX2_fillShifted 54 = .ok (.iload 7, 2) := by decide +kernel
theorem dX2_fillShifted_56 : decode cX2_fillShifted 56 = .ok (.iload_n 2, 1) := by decide +kernel
theorem dX2_fillShifted_57 : decode cX2_fillShifted 57 = .ok (.if_icmp .ge 29, 3) := by decide +kernel
theorem dX2_fillShifted_60 : decode cX2_fillShifted 60 = .ok (.iload 6, 2) := by decide +kernel
theorem dX2_fillShifted_62 : decode cX2_fillShifted 62 = .ok (.iload_n 2, 1) := by decide +kernel
theorem dX2_fillShifted_63 : decode cX2_fillShifted 63 = .ok (.if_icmp .ge 68, 3) := by decide +kernel
theorem dX2_fillShifted_66 : decode cX2_fillShifted 66 = .ok (.aload_n 1, 1) := by decide +kernel
theorem dX2_fillShifted_67 : decode cX2_fillShifted 67 = .ok (.getfield 9, 3) := by decide +kernel
theorem dX2_fillShifted_70 : decode cX2_fillShifted 70 = .ok (.iload 6, 2) := by decide +kernel
theorem dX2_fillShifted_72 : decode cX2_fillShifted 72 = .ok (.iaload, 1) := by decide +kernel
theorem dX2_fillShifted_73 : decode cX2_fillShifted 73 = .ok (.aload_n 1, 1) := by decide +kernel
theorem dX2_fillShifted_74 : decode cX2_fillShifted 74 = .ok (.getfield 9, 3) := by decide +kernel
theorem dX2_fillShifted_77 : decode cX2_fillShifted 77 = .ok (.iload 7, 2) := by decide +kernel
theorem dX2_fillShifted_79 : decode cX2_fillShifted 79 = .ok (.iaload, 1) := by decide +kernel
theorem dX2_fillShifted_80 : decode cX2_fillShifted 80 = .ok (.iload 4, 2) := by decide +kernel
theorem dX2_fillShifted_82 : decode cX2_fillShifted 82 = .ok (.iadd, 1) := by decide +kernel
theorem dX2_fillShifted_83 : decode cX2_fillShifted 83 = .ok (.if_icmp .gt 48, 3) := by decide +kernel
theorem dX2_fillShifted_86 : decode cX2_fillShifted 86 = .ok (.aload_n 0, 1) := by decide +kernel
theorem dX2_fillShifted_87 : decode cX2_fillShifted 87 = .ok (.aload_n 0, 1) := by decide +kernel
theorem dX2_fillShifted_88 : decode cX2_fillShifted 88 = .ok (.getfield 21, 3) := by decide +kernel
theorem dX2_fillShifted_91 : decode cX2_fillShifted 91 = .ok (.aload_n 1, 1) := by decide +kernel
theorem dX2_fillShifted_92 : decode cX2_fillShifted 92 = .ok (.getfield 9, 3) := by decide +kernel
theorem dX2_fillShifted_95 : decode cX2_fillShifted 95 = .ok (.iload 6, 2) := by decide +kernel
theorem dX2_fillShifted_97 : decode cX2_fillShifted 97 = .ok (.iaload, 1) := by decide +kernel
theorem dX2_fillShifted_98 : decode cX2_fillShifted 98 = .ok (.aload_n 1, 1) := by decide +kernel
theorem dX2_fillShifted_99 : decode cX2_fillShifted 99 = .ok (.getfield 15, 3) := by decide +kernel
theorem dX2_fillShifted_102 : decode cX2_fillShifted 102 = .ok (.iload 6, 2) := by decide +kernel
theorem dX2_fillShifted_104 : decode cX2_fillShifted 104 = .ok (.iaload, 1) := by decide +kernel
theorem dX2_fillShifted_105 : decode cX2_fillShifted 105 = .ok (.aload_n 1, 1) := by decide +kernel
theorem dX2_fillShifted_106 : decode cX2_fillShifted 106 = .ok (.getfield 18, 3) := by decide +kernel
theorem dX2_fillShifted_109 : decode cX2_fillShifted 109 = .ok (.iload 6, 2) := by decide +kernel
theorem dX2_fillShifted_111 : decode cX2_fillShifted 111 = .ok (.iaload, 1) := by decide +kernel
theorem dX2_fillShifted_112 : decode cX2_fillShifted 112 = .ok (.invokevirtual 29, 3) := by decide +kernel
theorem dX2_fillShifted_115 : decode cX2_fillShifted 115 = .ok (.aload_n 1, 1) := by decide +kernel
theorem dX2_fillShifted_116 : decode cX2_fillShifted 116 = .ok (.iload 5, 2) := by decide +kernel
theorem dX2_fillShifted_118 : decode cX2_fillShifted 118 = .ok (.iload 6, 2) := by decide +kernel
theorem dX2_fillShifted_120 : decode cX2_fillShifted 120 = .ok (.iconst 1, 1) := by decide +kernel
theorem dX2_fillShifted_121 : decode cX2_fillShifted 121 = .ok (.iadd, 1) := by decide +kernel
theorem dX2_fillShifted_122 : decode cX2_fillShifted 122 = .ok (.iload_n 2, 1) := by decide +kernel
theorem dX2_fillShifted_123 : decode cX2_fillShifted 123 = .ok (.invokevirtual 39, 3) := by decide +kernel
theorem dX2_fillShifted_126 : decode cX2_fillShifted 126 = .ok (.istore 6, 2) := by decide +kernel
theorem dX2_fillShifted_128 : decode cX2_fillShifted 128 = .ok (.goto 47, 3) := by decide +kernel
theorem dX2_fillShifted_131 : decode cX2_fillShifted 131 = .ok (.aload_n 0, 1) := by decide +kernel
theorem dX2_fillShifted_132 : decode cX2_fillShifted 132 = .ok (.aload_n 0, 1) := by decide +kernel
theorem dX2_fillShifted_133 : decode cX2_fillShifted 133 = .ok (.getfield 21, 3) := by decide +kernel
theorem dX2_fillShifted_136 : decode cX2_fillShifted 136 = .ok (.aload_n 1, 1) := by decide +kernel
theorem dX2_fillShifted_137 : decode cX2_fillShifted 137 = .ok (.getfield 9, 3) := by decide +kernel
theorem dX2_fillShifted_140 : decode cX2_fillShifted 140 = .ok (.iload 7, 2) := by decide +kernel
theorem dX2_fillShifted_142 : decode cX2_fillShifted 142 = .ok (.iaload, 1) := by decide +kernel
theorem dX2_fillShifted_143 : decode cX2_fillShifted 143 = .ok (.iload 4, 2) := by decide +kernel
theorem dX2_fillShifted_145 : decode cX2_fillShifted 145 = .ok (.iadd, 1) := by decide +kernel
theorem dX2_fillShifted_146 : decode cX2_fillShifted 146 = .ok (.aload_n 1, 1) := by decide +kernel
theorem dX2_fillShifted_147 : decode cX2_fillShifted 147 = .ok (.getfield 15, 3) := by decide +kernel
theorem dX2_fillShifted_150 : decode cX2_fillShifted 150 = .ok (.iload 7, 2) := by decide +kernel
theorem dX2_fillShifted_152 : decode cX2_fillShifted 152 = .ok (.iaload, 1) := by decide +kernel
theorem dX2_fillShifted_153 : decode cX2_fillShifted 153 = .ok (.aload_n 1, 1) := by decide +kernel
theorem dX2_fillShifted_154 : decode cX2_fillShifted 154 = .ok (.getfield 18, 3) := by decide +kernel
theorem dX2_fillShifted_157 : decode cX2_fillShifted 157 = .ok (.iload 7, 2) := by decide +kernel
theorem dX2_fillShifted_159 : decode cX2_fillShifted 159 = .ok (.iaload, 1) := by decide +kernel
theorem dX2_fillShifted_160 : decode cX2_fillShifted 160 = .ok (.invokevirtual 29, 3) := by decide +kernel
theorem dX2_fillShifted_163 : decode cX2_fillShifted 163 = .ok (.aload_n 1, 1) := by decide +kernel
theorem dX2_fillShifted_164 : decode cX2_fillShifted 164 = .ok (.iload_n 3, 1) := by decide +kernel
theorem dX2_fillShifted_165 : decode cX2_fillShifted 165 = .ok (.iload 7, 2) := by decide +kernel
theorem dX2_fillShifted_167 : decode cX2_fillShifted 167 = .ok (.iconst 1, 1) := by decide +kernel
theorem dX2_fillShifted_168 : decode cX2_fillShifted 168 = .ok (.iadd, 1) := by decide +kernel
theorem dX2_fillShifted_169 : decode cX2_fillShifted 169 = .ok (.iload_n 2, 1) := by decide +kernel
theorem dX2_fillShifted_170 : decode cX2_fillShifted 170 = .ok (.invokevirtual 39, 3) := by decide +kernel
theorem dX2_fillShifted_173 : decode cX2_fillShifted 173 = .ok (.istore 7, 2) := by decide +kernel
theorem dX2_fillShifted_175 : decode cX2_fillShifted 175 = .ok (.aload_n 0, 1) := by decide +kernel
theorem dX2_fillShifted_176 : decode cX2_fillShifted 176 = .ok (.dup, 1) := by decide +kernel
theorem dX2_fillShifted_177 : decode cX2_fillShifted 177 = .ok (.getfield 21, 3) := by decide +kernel
theorem dX2_fillShifted_180 : decode cX2_fillShifted 180 = .ok (.iconst 1, 1) := by decide +kernel
theorem dX2_fillShifted_181 : decode cX2_fillShifted 181 = .ok (.iadd, 1) := by decide +kernel
theorem dX2_fillShifted_182 : decode cX2_fillShifted 182 = .ok (.putfield 21, 3) := by decide +kernel
theorem dX2_fillShifted_185 : decode cX2_fillShifted 185 = .ok (.goto (-153), 3) := by decide +kernel
theorem dX2_fillShifted_188 : decode cX2_fillShifted 188 = .ok (.return_, 1) := by decide +kernel
theorem dX2_nextOf_0 : decode cX2_nextOf 0 = .ok (.iload_n 2, 1) := by decide +kernel
theorem dX2_nextOf_1 : decode cX2_nextOf 1 = .ok (.istore 4, 2) := by decide +kernel
theorem dX2_nextOf_3 : decode cX2_nextOf 3 = .ok (.iload 4, 2) := by decide +kernel
theorem dX2_nextOf_5 : decode cX2_nextOf 5 = .ok (.iload_n 3, 1) := by decide +kernel
theorem dX2_nextOf_6 : decode cX2_nextOf 6 = .ok (.if_icmp .ge 23, 3) := by decide +kernel
theorem dX2_nextOf_9 : decode cX2_nextOf 9 = .ok (.iload_n 1, 1) := by decide +kernel
theorem dX2_nextOf_10 : decode cX2_nextOf 10 = .ok (.aload_n 0, 1) := by decide +kernel
theorem dX2_nextOf_11 : decode cX2_nextOf 11 = .ok (.getfield 15, 3) := by decide +kernel
theorem dX2_nextOf_14 : decode cX2_nextOf 14 = .ok (.iload 4, 2) := by decide +kernel
theorem dX2_nextOf_16 : decode cX2_nextOf 16 = .ok (.iaload, 1) := by decide +kernel
theorem dX2_nextOf_17 : decode cX2_nextOf 17 = .ok (.ishr, 1) := by decide +kernel
theorem dX2_nextOf_18 : decode cX2_nextOf 18 = .ok (.iconst 1, 1) := by decide +kernel
theorem dX2_nextOf_19 : decode cX2_nextOf 19 = .ok (.iand, 1) := by decide +kernel
theorem dX2_nextOf_20 : decode cX2_nextOf 20 = .ok (.ifCond .ne 9, 3) := by decide +kernel
theorem dX2_nextOf_23 : decode cX2_nextOf 23 = .ok (.iinc 4 1, 3) := by decide +kernel
theorem dX2_nextOf_26 : decode cX2_nextOf 26 = .ok (.goto (-23), 3) := by decide +kernel
theorem dX2_nextOf_29 : decode cX2_nextOf 29 = .ok (.iload 4, 2) := by decide +kernel
theorem dX2_nextOf_31 : decode cX2_nextOf 31 = .ok (.ireturn, 1) := by decide +kernel
theorem dX3_init_0 : decode cX3_init 0 = .ok (.aload_n 0, 1) := by decide +kernel
theorem dX3_init_1 : decode cX3_init 1 = .ok (.invokespecial 3, 3) := by decide +kernel
theorem dX3_init_4 : decode cX3_init 4 = .ok (.aload_n 0, 1) := by decide +kernel
theorem dX3_init_5 : decode cX3_init 5 = .ok (.bipush 6, 2) := by decide +kernel
theorem dX3_init_7 : decode cX3_init 7 = .ok (.newarray .int, 2) := by decide +kernel
theorem dX3_init_9 : decode cX3_init 9 = .ok (.putfield 11, 3) := by decide +kernel
theorem dX3_init_12 : decode cX3_init 12 = .ok (.aload_n 0, 1) := by decide +kernel
theorem dX3_init_13 : decode cX3_init 13 = .ok (.bipush 6, 2) := by decide +kernel
theorem dX3_init_15 : decode cX3_init 15 = .ok (.newarray .int, 2) := by decide +kernel
theorem dX3_init_17 : decode cX3_init 17 = .ok (.putfield 15, 3) := by decide +kernel
theorem dX3_init_20 : decode cX3_init 20 = .ok (.aload_n 0, 1) := by decide +kernel
theorem dX3_init_21 : decode cX3_init 21 = .ok (.bipush 6, 2) := by decide +kernel
theorem dX3_init_23 : decode cX3_init 23 = .ok (.newarray .int, 2) := by decide +kernel
theorem dX3_init_25 : decode cX3_init 25 = .ok (.putfield 18, 3) := by decide +kernel
theorem dX3_init_28 : decode cX3_init 28 = .ok (.aload_n 0, 1) := by decide +kernel
theorem dX3_init_29 : decode cX3_init 29 = .ok (.getstatic 21, 3) := by decide +kernel
theorem dX3_init_32 : decode cX3_init 32 = .ok (.invokevirtual 24, 3) := by decide +kernel
theorem dX3_init_35 : decode cX3_init 35 = .ok (.checkcast 25, 3) := by decide +kernel
theorem dX3_init_38 : decode cX3_init 38 = .ok (.putfield 29, 3) := by decide +kernel
theorem dX3_init_41 : decode cX3_init 41 = .ok (.aload_n 0, 1) := by decide +kernel
theorem dX3_init_42 : decode cX3_init 42 = .ok (.new 32, 3) := by decide +kernel
theorem dX3_init_45 : decode cX3_init 45 = .ok (.dup, 1) := by decide +kernel
theorem dX3_init_46 : decode cX3_init 46 = .ok (.invokespecial 34, 3) := by decide +kernel
theorem dX3_init_49 : decode cX3_init 49 = .ok (.putfield 35, 3) := by decide +kernel
theorem dX3_init_52 : decode cX3_init 52 = .ok (.aload_n 0, 1) := by decide +kernel
theorem dX3_init_53 : decode cX3_init 53 = .ok (.new 32, 3) := by decide +kernel
theorem dX3_init_56 : decode cX3_init 56 = .ok (.dup, 1) := by decide +kernel
theorem dX3_init_57 : decode cX3_init 57 = .ok (.invokespecial 34, 3) := by decide +kernel
theorem dX3_init_60 : decode cX3_init 60 = .ok (.putfield 39, 3) := by decide +kernel
theorem dX3_init_63 : decode cX3_init 63 = .ok (.aload_n 0, 1) := by decide +kernel
theorem dX3_init_64 : decode cX3_init 64 = .ok (.new 32, 3) := by decide +kernel
theorem dX3_init_67 : decode cX3_init 67 = .ok (.dup, 1) := by decide +kernel
theorem dX3_init_68 : decode cX3_init 68 = .ok (.invokespecial 34, 3) := by decide +kernel
theorem dX3_init_71 : decode cX3_init 71 = .ok (.putfield 42, 3) := by decide +kernel
theorem dX3_init_74 : decode cX3_init 74 = .ok (.aload_n 0, 1) := by decide +kernel
theorem dX3_init_75 : decode cX3_init 75 = .ok (.new 45, 3) := by decide +kernel
theorem dX3_init_78 : decode cX3_init 78 = .ok (.dup, 1) := by decide +kernel
theorem dX3_init_79 : decode cX3_init 79 = .ok (.invokespecial 47, 3) := by decide +kernel
theorem dX3_init_82 : decode cX3_init 82 = .ok (.putfield 48, 3) := by decide +kernel
theorem dX3_init_85 : decode cX3_init 85 = .ok (.aload_n 0, 1) := by decide +kernel
theorem dX3_init_86 : decode cX3_init 86 = .ok (.new 52, 3) := by decide +kernel
theorem dX3_init_89 : decode cX3_init 89 = .ok (.dup, 1) := by decide +kernel
theorem dX3_init_90 : decode cX3_init 90 = .ok (.invokespecial 54, 3) := by decide +kernel
theorem dX3_init_93 : decode cX3_init 93 = .ok (.putfield 55, 3) := by decide +kernel
theorem dX3_init_96 : decode cX3_init 96 = .ok (.aload_n 0, 1) := by decide +kernel
theorem dX3_init_97 : decode cX3_init 97 = .ok (.bipush 6, 2) := by decide +kernel
theorem dX3_init_99 : decode cX3_init 99 = .ok (.newarray .int, 2) := by decide +kernel
theorem dX3_init_101 : decode cX3_init 101 = .ok (.putfield 59, 3) := by decide +kernel
theorem dX3_init_104 : decode cX3_init 104 = .ok (.return_, 1) := by decide +kernel
theorem dX3_plane_0 : decode cX3_plane 0 = .ok (.iload_n 1, 1) := by decide +kernel
theorem dX3_plane_1 : decode cX3_plane 1 = .ok (.invokestatic 62, 3) := by decide +kernel
theorem dX3_plane_4 : decode cX3_plane 4 = .ok (.ifCond .ne 5, 3) := by decide +kernel
theorem dX3_plane_7 : decode cX3_plane 7 = .ok (.iconst (-1), 1) := by decide +kernel
theorem dX3_plane_8 : decode cX3_plane 8 = .ok (.ireturn, 1) := by decide +kernel
theorem dX3_plane_9 : decode cX3_plane 9 = .ok (.iload_n 2, 1) := by decide +kernel
theorem dX3_plane_10 : decode cX3_plane 10 = .ok (.iconst 0, 1) := by decide +kernel
theorem dX3_plane_11 : decode cX3_plane 11 = .ok (.bipush 30, 2) := by decide +kernel
theorem dX3_plane_13 : decode cX3_plane 13 = .ok (.invokestatic 66, 3) := by decide +kernel
theorem dX3_plane_16 : decode cX3_plane 16 = .ok (.ifCond .eq 13, 3) := by decide +kernel
theorem dX3_plane_19 : decode cX3_plane 19 = .ok (.iload_n 3, 1) := by decide +kernel
theorem dX3_plane_20 : decode cX3_plane 20 = .ok (.iconst 0, 1) := by decide +kernel
theorem dX3_plane_21 : decode cX3_plane 21 = .ok (.bipush 50, 2) := by decide +kernel
theorem dX3_plane_23 : decode cX3_plane 23 = .ok (.invokestatic 66, 3) := by decide +kernel
theorem dX3_plane_26 : decode cX3_plane 26 = .ok (.ifCond .ne 6, 3) := by decide +kernel
theorem dX3_plane_29 : decode cX3_plane 29 = .ok (.bipush (-2), 2) := by decide +kernel
theorem dX3_plane_31 : decode cX3_plane 31 = .ok (.ireturn, 1) := by decide +kernel
theorem dX3_plane_32 : decode cX3_plane 32 = .ok (.iload 4, 2) := by decide +kernel
theorem dX3_plane_34 : decode cX3_plane 34 = .ok (.iconst 0, 1) := by decide +kernel
theorem dX3_plane_35 : decode cX3_plane 35 = .ok (.iconst 1, 1) := by decide +kernel
theorem dX3_plane_36 : decode cX3_plane 36 = .ok (.invokestatic 66, 3) := by decide +kernel
theorem dX3_plane_39 : decode cX3_plane 39 = .ok (.ifCond .ne 6, 3) := by decide +kernel
theorem dX3_plane_42 : decode cX3_plane 42 = .ok (.bipush (-2), 2) := by decide +kernel
theorem dX3_plane_44 : decode cX3_plane 44 = .ok (.ireturn, 1) := by decide +kernel
theorem dX3_plane_45 : decode cX3_plane 45 = .ok (.aload_n 0, 1) := by decide +kernel
theorem dX3_plane_46 : decode cX3_plane 46 = .ok (.invokevirtual 70, 3) := by decide +kernel
theorem dX3_plane_49 : decode cX3_plane 49 = .ok (.ifCond .eq 6, 3) := by decide +kernel
theorem dX3_plane_52 : decode cX3_plane 52 = .ok (.bipush (-3), 2) := by decide +kernel
theorem dX3_plane_54 : decode cX3_plane 54 = .ok (.ireturn, 1) := by decide +kernel
theorem dX3_plane_55 : decode cX3_plane 55 = .ok (.aload_n 0, 1) := by decide +kernel
theorem dX3_plane_56 : decode cX3_plane 56 = .ok (.getfield 11, 3) := by decide +kernel
theorem dX3_plane_59 : decode cX3_plane 59 = .ok (.iload_n 1, 1) := by decide +kernel
theorem dX3_plane_60 : decode cX3_plane 60 = .ok (.iload_n 2, 1) := by decide +kernel
theorem dX3_plane_61 : decode cX3_plane 61 = .ok (.iastore, 1) := by decide +kernel
theorem dX3_plane_62 : decode cX3_plane 62 = .ok (.aload_n 0, 1) := by decide +kernel
theorem dX3_plane_63 : decode cX3_plane 63 = .ok (.getfield 15, 3) := by decide +kernel
theorem dX3_plane_66 : decode cX3_plane 66 = .ok (.iload_n 1, 1) := by decide +kernel
theorem dX3_plane_67 : decode cX3_plane 67 = .ok (.iload_n 3, 1) := by decide +kernel
theorem dX3_plane_68 : decode cX3_plane 68 = .ok (.iastore, 1) := by decide +kernel
theorem dX3_plane_69 : decode cX3_plane 69 = .ok (.aload_n 0, 1) := by decide +kernel
theorem dX3_plane_70 : decode cX3_plane 70 = .ok (.getfield 18, 3) := by decide +kernel
theorem dX3_plane_73 : decode cX3_plane 73 = .ok (.iload_n 1, 1) := by decide +kernel
theorem dX3_plane_74 : decode cX3_plane 74 = .ok (.iload 4, 2) := by decide +kernel
theorem dX3_plane_76 : decode cX3_plane 76 = .ok (.iastore, 1) := by decide +kernel
theorem dX3_plane_77 : decode cX3_plane 77 = .ok (.iconst 1, 1) := by decide +kernel
theorem dX3_plane_78 : decode cX3_plane 78 = .ok (.ireturn, 1) := by decide +kernel
theorem dX3_ofPlane_0 : decode cX3_ofPlane 0 = .ok (.iload_n 1, 1) := by decide +kernel
theorem dX3_ofPlane_1 : decode cX3_ofPlane 1 = .ok (.invokestatic 62, 3) := by decide +kernel
theorem dX3_ofPlane_4 : decode cX3_ofPlane 4 = .ok (.ifCond .ne 5, 3) := by decide +kernel
theorem dX3_ofPlane_7 : decode cX3_ofPlane 7 = .ok (.iconst (-1), 1) := by decide +kernel
theorem dX3_ofPlane_8 : decode cX3_ofPlane 8 = .ok (.ireturn, 1) := by decide +kernel
theorem dX3_ofPlane_9 : decode cX3_ofPlane 9 = .ok (.iload_n 2, 1) := by decide +kernel
theorem dX3_ofPlane_10 : decode cX3_ofPlane 10 = .ok (.tableswitch 100 0 5 #[38, 45, 52, 59, 75, 81], 38) := by decide +kernel
theorem dX3_ofPlane_48 : decode cX3_ofPlane 48 = .ok (.aload_n 0, 1) := by decide +kernel
theorem dX3_ofPlane_49 : decode cX3_ofPlane 49 = .ok (.getfield 11, 3) := by decide +kernel
theorem dX3_ofPlane_52 : decode cX3_ofPlane 52 = .ok (.iload_n 1, 1) := by decide +kernel
theorem dX3_ofPlane_53 : decode cX3_ofPlane 53 = .ok (.iaload, 1) := by decide +kernel
theorem dX3_ofPlane_54 : decode cX3_ofPlane 54 = .ok (.ireturn, 1) := by decide +kernel
theorem dX3_ofPlane_55 : decode cX3_ofPlane 55 = .ok (.aload_n 0, 1) := by decide +kernel
theorem dX3_ofPlane_56 : decode cX3_ofPlane 56 = .ok (.getfield 15, 3) := by decide +kernel
theorem dX3_ofPlane_59 : decode cX3_ofPlane 59 = .ok (.iload_n 1, 1) := by decide +kernel
theorem dX3_ofPlane_60 : decode cX3_ofPlane 60 = .ok (.iaload, 1) := by decide +kernel
theorem dX3_ofPlane_61 : decode cX3_ofPlane 61 = .ok (.ireturn, 1) := by decide +kernel
theorem dX3_ofPlane_62 : decode cX3_ofPlane 62 = .ok (.aload_n 0, 1) := by decide +kernel
theorem dX3_ofPlane_63 : decode cX3_ofPlane 63 = .ok (.getfield 18, 3) := by decide +kernel
theorem dX3_ofPlane_66 : decode cX3_ofPlane 66 = .ok (.iload_n 1, 1) := by decide +kernel
theorem dX3_ofPlane_67 : decode cX3_ofPlane 67 = .ok (.iaload, 1) := by decide +kernel
theorem dX3_ofPlane_68 : decode cX3_ofPlane 68 = .ok (.ireturn, 1) := by decide +kernel
theorem dX3_ofPlane_69 : decode cX3_ofPlane 69 = .ok (.aload_n 0, 1) := by decide +kernel
theorem dX3_ofPlane_70 : decode cX3_ofPlane 70 = .ok (.getfield 35, 3) := by decide +kernel
theorem dX3_ofPlane_73 : decode cX3_ofPlane 73 = .ok (.iload_n 1, 1) := by decide +kernel
theorem dX3_ofPlane_74 : decode cX3_ofPlane 74 = .ok (.aload_n 0, 1) := by decide +kernel
theorem dX3_ofPlane_75 : decode cX3_ofPlane 75 = .ok (.getfield 35, 3) := by decide +kernel
theorem dX3_ofPlane_78 : decode cX3_ofPlane 78 = .ok (.getfield 74, 3) := by decide +kernel
theorem dX3_ofPlane_81 : decode cX3_ofPlane 81 = .ok (.invokevirtual 78, 3) := by decide +kernel
theorem dX3_ofPlane_84 : decode cX3_ofPlane 84 = .ok (.ireturn, 1) := by decide +kernel
theorem dX3_ofPlane_85 : decode cX3_ofPlane 85 = .ok (.aload_n 0, 1) := by decide +kernel
theorem dX3_ofPlane_86 : decode cX3_ofPlane 86 = .ok (.iload_n 1, 1) := by decide +kernel
theorem dX3_ofPlane_87 : decode cX3_ofPlane 87 = .ok (.invokevirtual 82, 3) := by decide +kernel
theorem dX3_ofPlane_90 : decode cX3_ofPlane 90 = .ok (.ireturn, 1) := by decide +kernel
theorem dX3_ofPlane_91 : decode cX3_ofPlane 91 = .ok (.aload_n 0, 1) := by decide +kernel
theorem dX3_ofPlane_92 : decode cX3_ofPlane 92 = .ok (.getfield 35, 3) := by decide +kernel
theorem dX3_ofPlane_95 : decode cX3_ofPlane 95 = .ok (.iload_n 1, 1) := by decide +kernel
theorem dX3_ofPlane_96 : decode cX3_ofPlane 96 = .ok (.aload_n 0, 1) := by decide +kernel
theorem dX3_ofPlane_97 : decode cX3_ofPlane 97 = .ok (.getfield 86, 3) := by decide +kernel
theorem dX3_ofPlane_100 : decode cX3_ofPlane 100 = .ok (.invokevirtual 78, 3) := by decide +kernel
theorem dX3_ofPlane_103 : decode cX3_ofPlane 103 = .ok (.aload_n 0, 1) := by decide +kernel
theorem dX3_ofPlane_104 : decode cX3_ofPlane 104 = .ok (.iload_n 1, 1) := by decide +kernel
theorem dX3_ofPlane_105 : decode cX3_ofPlane 105 = .ok (.invokevirtual 82, 3) := by decide +kernel
theorem dX3_ofPlane_108 : decode cX3_ofPlane 108 = .ok (.isub, 1) := by decide +kernel
theorem dX3_ofPlane_109 : decode cX3_ofPlane 109 = .ok (.ireturn, 1) := by decide +kernel
theorem dX3_ofPlane_110 : decode cX3_ofPlane 110 = .ok (.bipush (-2), 2) := by decide +kernel
theorem dX3_ofPlane_112 : decode cX3_ofPlane 112 = .ok (.ireturn, 1) := by decide +kernel
theorem dX3_tune_0 : decode cX3_tune 0 = .ok (.iload_n 1, 1) := by decide +kernel
theorem dX3_tune_1 : decode cX3_tune 1 = .ok (.iconst 0, 1) := by decide +kernel
theorem dX3_tune_2 : decode cX3_tune 2 = .ok (.iconst 3, 1) := by decide +kernel
theorem dX3_tune_3 : decode cX3_tune 3 = .ok (.invokestatic 66, 3) := by decide +kernel
theorem dX3_tune_6 : decode cX3_tune 6 = .ok (.ifCond .ne 6, 3) := by decide +kernel
theorem dX3_tune_9 : decode cX3_tune 9 = .ok (.bipush (-2), 2) := by decide +kernel
theorem dX3_tune_11 : decode cX3_tune 11 = .ok (.ireturn, 1) := by decide +kernel
theorem dX3_tune_12 : decode cX3_tune 12 = .ok (.iload_n 2, 1) := by decide +kernel
theorem dX3_tune_13 : decode cX3_tune 13 = .ok (.getstatic 89, 3) := by decide +kernel
theorem dX3_tune_16 : decode cX3_tune 16 = .ok (.iload_n 1, 1) := by decide +kernel
theorem dX3_tune_17 : decode cX3_tune 17 = .ok (.iaload, 1) := by decide +kernel
theorem dX3_tune_18 : decode cX3_tune 18 = .ok (.getstatic 92, 3) := by decide +kernel
theorem dX3_tune_21 : decode cX3_tune 21 = .ok (.iload_n 1, 1) := by decide +kernel
theorem dX3_tune_22 : decode cX3_tune 22 = .ok (.iaload, 1) := by decide +kernel
theorem dX3_tune_23 : decode cX3_tune 23 = .ok (.invokestatic 66, 3) := by decide +kernel
theorem dX3_tune_26 : decode cX3_tune 26 = .ok (.ifCond .ne 6, 3) := by decide +kernel
theorem dX3_tune_29 : decode cX3_tune 29 = .ok (.bipush (-2), 2) := by decide +kernel
theorem dX3_tune_31 : decode cX3_tune 31 = .ok (.ireturn, 1) := by decide +kernel
theorem dX3_tune_32 : decode cX3_tune 32 = .ok (.aload_n 0, 1) := by decide +kernel
theorem dX3_tune_33 : decode cX3_tune 33 = .ok (.invokevirtual 70, 3) := by decide +kernel
theorem dX3_tune_36 : decode cX3_tune 36 = .ok (.ifCond .eq 6, 3) := by decide +kernel
theorem dX3_tune_39 : decode cX3_tune 39 = .ok (.bipush (-3), 2) := by decide +kernel
theorem dX3_tune_41 : decode cX3_tune 41 = .ok (.ireturn, 1) := by decide +kernel
theorem dX3_tune_42 : decode cX3_tune 42 = .ok (.aload_n 0, 1) := by decide +kernel
theorem dX3_tune_43 : decode cX3_tune 43 = .ok (.getfield 29, 3) := by decide +kernel
theorem dX3_tune_46 : decode cX3_tune 46 = .ok (.iload_n 1, 1) := by decide +kernel
theorem dX3_tune_47 : decode cX3_tune 47 = .ok (.iaload, 1) := by decide +kernel
theorem dX3_tune_48 : decode cX3_tune 48 = .ok (.istore_n 3, 1) := by decide +kernel
theorem dX3_tune_49 : decode cX3_tune 49 = .ok (.aload_n 0, 1) := by decide +kernel
theorem dX3_tune_50 : decode cX3_tune 50 = .ok (.getfield 29, 3) := by decide +kernel
theorem dX3_tune_53 : decode cX3_tune 53 = .ok (.iload_n 1, 1) := by decide +kernel
theorem dX3_tune_54 : decode cX3_tune 54 = .ok (.iload_n 2, 1) := by decide +kernel
theorem dX3_tune_55 : decode cX3_tune 55 = .ok (.iastore, 1) := by decide +kernel
theorem dX3_tune_56 : decode cX3_tune 56 = .ok (.iload_n 3, 1) := by decide +kernel
theorem dX3_tune_57 : decode cX3_tune 57 = .ok (.ireturn, 1) := by decide +kernel
theorem dX3_pulse_0 : decode cX3_pulse 0 = .ok (.iload_n 1, 1) := by decide +kernel
theorem dX3_pulse_1 : decode cX3_pulse 1 = .ok (.invokestatic 62, 3) := by decide +kernel
theorem dX3_pulse_4 : decode cX3_pulse 4 = .ok (.ifCond .ne 5, 3) := by decide +kernel
theorem dX3_pulse_7 : decode cX3_pulse 7 = .ok (.iconst (-1), 1) := by decide +kernel
theorem dX3_pulse_8 : decode cX3_pulse 8 = .ok (.ireturn, 1) := by decide +kernel
theorem dX3_pulse_9 : decode cX3_pulse 9 = .ok (.iload_n 2, 1) := by decide +kernel
theorem dX3_pulse_10 : decode cX3_pulse 10 = .ok (.iconst 0, 1) := by decide +kernel
theorem dX3_pulse_11 : decode cX3_pulse 11 = .ok (.sipush 9999, 3) := by decide +kernel
theorem dX3_pulse_14 : decode cX3_pulse 14 = .ok (.invokestatic 66, 3) := by decide +kernel
theorem dX3_pulse_17 : decode cX3_pulse 17 = .ok (.ifCond .eq 10, 3) := by decide +kernel
theorem dX3_pulse_20 : decode cX3_pulse 20 = .ok (.iload_n 3, 1) := by decide +kernel
theorem dX3_pulse_21 : decode cX3_pulse 21 = .ok (.invokestatic 95, 3) := by decide +kernel
theorem dX3_pulse_24 : decode cX3_pulse 24 = .ok (.ifCond .ne 6, 3) := by decide +kernel
theorem dX3_pulse_27 : decode cX3_pulse 27 = .ok (.bipush (-2), 2) := by decide +kernel
theorem dX3_pulse_29 : decode cX3_pulse 29 = .ok (.ireturn, 1) := by decide +kernel
theorem dX3_pulse_30 : decode cX3_pulse 30 = .ok (.aload_n 0, 1) := by decide +kernel
theorem dX3_pulse_31 : decode cX3_pulse 31 = .ok (.getfield 98, 3) := by decide +kernel
theorem dX3_pulse_34 : decode cX3_pulse 34 = .ok (.ifCond .eq 6, 3) := by decide +kernel
theorem dX3_pulse_37 : decode cX3_pulse 37 = .ok (.bipush (-3), 2) := by decide +kernel
theorem dX3_pulse_39 : decode cX3_pulse 39 = .ok (.ireturn, 1) := by decide +kernel
theorem dX3_pulse_40 : decode cX3_pulse 40 = .ok (.iload_n 2, 1) := by decide +kernel
theorem dX3_pulse_41 : decode cX3_pulse 41 = .ok (.aload_n 0, 1) := by decide +kernel
theorem dX3_pulse_42 : decode cX3_pulse 42 = .ok (.invokevirtual 102, 3) := by decide +kernel
theorem dX3_pulse_45 : decode cX3_pulse 45 = .ok (.if_icmp .ge 15, 3) := by decide +kernel
theorem dX3_pulse_48 : decode cX3_pulse 48 = .ok (.aload_n 0, 1) := by decide +kernel
theorem dX3_pulse_49 : decode cX3_pulse 49 = .ok (.dup, 1) := by decide +kernel
theorem dX3_pulse_50 : decode cX3_pulse 50 = .ok (.getfield 106, 3) := by decide +kernel
theorem dX3_pulse_53 : decode cX3_pulse 53 = .ok (.iconst 1, 1) := by decide +kernel
theorem dX3_pulse_54 : decode cX3_pulse 54 = .ok (.iadd, 1) := by decide +kernel
theorem dX3_pulse_55 : decode cX3_pulse 55 = .ok (.putfield 106, 3) := by decide +kernel
theorem dX3_pulse_58 : decode cX3_pulse 58 = .ok (.iconst 0, 1) := by decide +kernel
theorem dX3_pulse_59 : decode cX3_pulse 59 = .ok (.ireturn, 1) := by decide +kernel
theorem dX3_pulse_60 : decode cX3_pulse 60 = .ok (.aload_n 0, 1) := by decide +kernel
theorem dX3_pulse_61 : decode cX3_pulse 61 = .ok (.getfield 35, 3) := by decide +kernel
theorem dX3_pulse_64 : decode cX3_pulse 64 = .ok (.getfield 74, 3) := by decide +kernel
theorem dX3_pulse_67 : decode cX3_pulse 67 = .ok (.sipush 240, 3) := by decide +kernel
theorem dX3_pulse_70 : decode cX3_pulse 70 = .ok (.if_icmp .lt 6, 3) := by decide +kernel
theorem dX3_pulse_73 : decode cX3_pulse 73 = .ok (.bipush (-4), 2) := by decide +kernel
theorem dX3_pulse_75 : decode cX3_pulse 75 = .ok (.ireturn, 1) := by decide +kernel
theorem dX3_pulse_76 : decode cX3_pulse 76 = .ok (.aload_n 0, 1) := by decide +kernel
theorem dX3_pulse_77 : decode cX3_pulse 77 = .ok (.getfield 35, 3) := by decide +kernel
theorem dX3_pulse_80 : decode cX3_pulse 80 = .ok (.iload_n 2, 1) := by decide +kernel
theorem dX3_pulse_81 : decode cX3_pulse 81 = .ok (.iload_n 1, 1) := by decide +kernel
theorem dX3_pulse_82 : decode cX3_pulse 82 = .ok (.iload_n 3, 1) := by decide +kernel
theorem dX3_pulse_83 : decode cX3_pulse 83 = .ok (.invokevirtual 109, 3) := by decide +kernel
theorem dX3_pulse_86 : decode cX3_pulse 86 = .ok (.aload_n 0, 1) := by decide +kernel
theorem dX3_pulse_87 : decode cX3_pulse 87 = .ok (.invokevirtual 113, 3) := by decide +kernel
theorem dX3_pulse_90 : decode cX3_pulse 90 = .ok (.iconst 1, 1) := by decide +kernel
theorem dX3_pulse_91 : decode cX3_pulse 91 = .ok (.ireturn, 1) := by decide +kernel
theorem dX3_end_0 : decode cX3_end 0 = .ok (.aload_n 0, 1) := by decide +kernel
theorem dX3_end_1 : decode cX3_end 1 = .ok (.getfield 98, 3) := by decide +kernel
theorem dX3_end_4 : decode cX3_end 4 = .ok (.ifCond .eq 6, 3) := by decide +kernel
theorem dX3_end_7 : decode cX3_end 7 = .ok (.bipush (-3), 2) := by decide +kernel
theorem dX3_end_9 : decode cX3_end 9 = .ok (.ireturn, 1) := by decide +kernel
theorem dX3_end_10 : decode cX3_end 10 = .ok (.aload_n 0, 1) := by decide +kernel
theorem dX3_end_11 : decode cX3_end 11 = .ok (.getfield 86, 3) := by decide +kernel
theorem dX3_end_14 : decode cX3_end 14 = .ok (.istore_n 1, 1) := by decide +kernel
theorem dX3_end_15 : decode cX3_end 15 = .ok (.aload_n 0, 1) := by decide +kernel
theorem dX3_end_16 : decode cX3_end 16 = .ok (.iconst 1, 1) := by decide +kernel
theorem dX3_end_17 : decode cX3_end 17 = .ok (.putfield 98, 3) := by decide +kernel
theorem dX3_end_20 : decode cX3_end 20 = .ok (.aload_n 0, 1) := by decide +kernel
theorem dX3_end_21 : decode cX3_end 21 = .ok (.invokevirtual 113, 3) := by decide +kernel
theorem dX3_end_24 : decode cX3_end 24 = .ok (.aload_n 0, 1) := by decide +kernel
theorem dX3_end_25 : decode cX3_end 25 = .ok (.getfield 86, 3) := by decide +kernel
theorem dX3_end_28 : decode cX3_end 28 = .ok (.iload_n 1, 1) := by decide +kernel
theorem dX3_end_29 : decode cX3_end 29 = .ok (.isub, 1) := by decide +kernel
theorem dX3_end_30 : decode cX3_end 30 = .ok (.ireturn, 1) := by decide +kernel
theorem dX3_anew_0 : decode cX3_anew 0 = .ok (.aload_n 0, 1) := by decide +kernel
theorem dX3_anew_1 : decode cX3_anew 1 = .ok (.getfield 35, 3) := by decide +kernel
theorem dX3_anew_4 : decode cX3_anew 4 = .ok (.getfield 74, 3) := by decide +kernel
theorem dX3_anew_7 : decode cX3_anew 7 = .ok (.istore_n 1, 1) := by decide +kernel
theorem dX3_anew_8 : decode cX3_anew 8 = .ok (.aload_n 0, 1) := by decide +kernel
theorem dX3_anew_9 : decode cX3_anew 9 = .ok (.getfield 35, 3) := by decide +kernel
theorem dX3_anew_12 : decode cX3_anew 12 = .ok (.iconst 0, 1) := by decide +kernel
theorem dX3_anew_13 : decode cX3_anew 13 = .ok (.putfield 74, 3) := by decide +kernel
theorem dX3_anew_16 : decode cX3_anew 16 = .ok (.aload_n 0, 1) := by decide +kernel
theorem dX3_anew_17 : decode cX3_anew 17 = .ok (.getfield 39, 3) := by decide +kernel
theorem dX3_anew_20 : decode cX3_anew 20 = .ok (.iconst 0, 1) := by decide +kernel
theorem dX3_anew_21 : decode cX3_anew 21 = .ok (.putfield 74, 3) := by decide +kernel
theorem dX3_anew_24 : decode cX3_anew 24 = .ok (.aload_n 0, 1) := by decide +kernel
theorem dX3_anew_25 : decode cX3_anew 25 = .ok (.getfield 48, 3) := by decide +kernel
theorem dX3_anew_28 : decode cX3_anew 28 = .ok (.iconst 0, 1) := by decide +kernel
theorem dX3_anew_29 : decode cX3_anew 29 = .ok (.putfield 116, 3) := by decide +kernel
theorem dX3_anew_32 : decode cX3_anew 32 = .ok (.aload_n 0, 1) := by decide +kernel
theorem dX3_anew_33 : decode cX3_anew 33 = .ok (.getfield 59, 3) := by decide +kernel
theorem dX3_anew_36 : decode cX3_anew 36 = .ok (.iconst 0, 1) := by decide +kernel
theorem dX3_anew_37 : decode cX3_anew 37 = .ok (.invokestatic 117, 3) := by decide +kernel
theorem dX3_anew_40 : decode cX3_anew 40 = .ok (.aload_n 0, 1) := by decide +kernel
theorem dX3_anew_41 : decode cX3_anew 41 = .ok (.iconst 0, 1) := by decide +kernel
theorem dX3_anew_42 : decode cX3_anew 42 = .ok (.putfield 86, 3) := by decide +kernel
theorem dX3_anew_45 : decode cX3_anew 45 = .ok (.aload_n 0, 1) := by decide +kernel
theorem dX3_anew_46 : decode cX3_anew 46 = .ok (.iconst 0, 1) := by decide +kernel
theorem dX3_anew_47 : decode cX3_anew 47 = .ok (.putfield 123, 3) := by decide +kernel
theorem dX3_anew_50 : decode cX3_anew 50 = .ok (.aload_n 0, 1) := by decide +kernel
theorem dX3_anew_51 : decode cX3_anew 51 = .ok (.iconst 0, 1) := by decide +kernel
theorem dX3_anew_52 : decode cX3_anew 52 = .ok (.putfield 106, 3) := by decide +kernel
theorem dX3_anew_55 : decode cX3_anew 55 = .ok (.aload_n 0, 1) := by decide +kernel
theorem dX3_anew_56 : decode cX3_anew 56 = .ok (.iconst 0, 1) := by decide +kernel
theorem dX3_anew_57 : decode cX3_anew 57 = .ok (.putfield 98, 3) := by decide +kernel
theorem dX3_anew_60 : decode cX3_anew 60 = .ok (.iload_n 1, 1) := by decide +kernel
theorem dX3_anew_61 : decode cX3_anew 61 = .ok (.ireturn, 1) := by decide +kernel
theorem dX3_group_0 : decode cX3_group 0 = .ok (.aload_n 0, 1) := by decide +kernel
theorem dX3_group_1 : decode cX3_group 1 = .ok (.iload_n 1, 1) := by decide +kernel
theorem dX3_group_2 : decode cX3_group 2 = .ok (.invokevirtual 126, 3) := by decide +kernel
theorem dX3_group_5 : decode cX3_group 5 = .ok (.ifCond .ne 5, 3) := by decide +kernel
theorem dX3_group_8 : decode cX3_group 8 = .ok (.iconst (-1), 1) := by decide +kernel
theorem dX3_group_9 : decode cX3_group 9 = .ok (.ireturn, 1) := by decide +kernel
theorem dX3_group_10 : decode cX3_group 10 = .ok (.aload_n 0, 1) := by decide +kernel
theorem dX3_group_11 : decode cX3_group 11 = .ok (.getfield 48, 3) := by decide +kernel
theorem dX3_group_14 : decode cX3_group 14 = .ok (.getfield 129, 3) := by decide +kernel
theorem dX3_group_17 : decode cX3_group 17 = .ok (.iload_n 1, 1) := by decide +kernel
theorem dX3_group_18 : decode cX3_group 18 = .ok (.iaload, 1) := by decide +kernel
theorem dX3_group_19 : decode cX3_group 19 = .ok (.istore_n 3, 1) := by decide +kernel
theorem dX3_group_20 : decode cX3_group 20 = .ok (.aload_n 0, 1) := by decide +kernel
theorem dX3_group_21 : decode cX3_group 21 = .ok (.getfield 48, 3) := by decide +kernel
theorem dX3_group_24 : decode cX3_group 24 = .ok (.getfield 129, 3) := by decide +kernel
theorem dX3_group_27 : decode cX3_group 27 = .ok (.iload_n 1, 1) := by decide +kernel
theorem dX3_group_28 : decode cX3_group 28 = .ok (.iconst 1, 1) := by decide +kernel
theorem dX3_group_29 : decode cX3_group 29 = .ok (.iadd, 1) := by decide +kernel
theorem dX3_group_30 : decode cX3_group 30 = .ok (.iaload, 1) := by decide +kernel
theorem dX3_group_31 : decode cX3_group 31 = .ok (.istore 4, 2) := by decide +kernel
theorem dX3_group_33 : decode cX3_group 33 = .ok (.iload_n 2, 1) := by decide +kernel
theorem dX3_group_34 : decode cX3_group 34 = .ok (.tableswitch 103 0 4 #[34, 47, 57, 62, 80], 34) := by decide +kernel
theorem dX3_group_68 : decode cX3_group 68 = .ok (.aload_n 0, 1) := by decide +kernel
theorem dX3_group_69 : decode cX3_group 69 = .ok (.getfield 39, 3) := by decide +kernel
theorem dX3_group_72 : decode cX3_group 72 = .ok (.getfield 132, 3) := by decide +kernel
theorem dX3_group_75 : decode cX3_group 75 = .ok (.iload_n 3, 1) := by decide +kernel
theorem dX3_group_76 : decode cX3_group 76 = .ok (.iaload, 1) := by decide +kernel
theorem dX3_group_77 : decode cX3_group 77 = .ok (.bipush 100, 2) := by decide +kernel
theorem dX3_group_79 : decode cX3_group 79 = .ok (.iadd, 1) := by decide +kernel
theorem dX3_group_80 : decode cX3_group 80 = .ok (.ireturn, 1) := by decide +kernel
theorem dX3_group_81 : decode cX3_group 81 = .ok (.aload_n 0, 1) := by decide +kernel
theorem dX3_group_82 : decode cX3_group 82 = .ok (.getfield 48, 3) := by decide +kernel
theorem dX3_group_85 : decode cX3_group 85 = .ok (.getfield 135, 3) := by decide +kernel
theorem dX3_group_88 : decode cX3_group 88 = .ok (.iload_n 1, 1) := by decide +kernel
theorem dX3_group_89 : decode cX3_group 89 = .ok (.iaload, 1) := by decide +kernel
theorem dX3_group_90 : decode cX3_group 90 = .ok (.ireturn, 1) := by decide +kernel
theorem dX3_group_91 : decode cX3_group 91 = .ok (.iload 4, 2) := by decide +kernel
theorem dX3_group_93 : decode cX3_group 93 = .ok (.iload_n 3, 1) := by decide +kernel
theorem dX3_group_94 : decode cX3_group 94 = .ok (.isub, 1) := by decide +kernel
theorem dX3_group_95 : decode cX3_group 95 = .ok (.ireturn, 1) := by decide +kernel
theorem dX3_group_96 : decode cX3_group 96 = .ok (.iload 4, 2) := by decide +kernel
theorem dX3_group_98 : decode cX3_group 98 = .ok (.iload_n 3, 1) := by decide +kernel
theorem dX3_group_99 : decode cX3_group 99 = .ok (.isub, 1) := by decide +kernel
theorem dX3_group_100 : decode cX3_group 100 = .ok (.aload_n 0, 1) := by decide +kernel
theorem dX3_group_101 : decode cX3_group 101 = .ok (.getfield 48, 3) := by decide +kernel
theorem dX3_group_104 : decode cX3_group 104 = .ok (.getfield 135, 3) := by decide +kernel
theorem dX3_group_107 : decode cX3_group 107 = .ok (.iload_n 1, 1) := by decide +kernel
theorem dX3_group_108 : decode cX3_group 108 = .ok (.iaload, 1) := by decide +kernel
theorem dX3_group_109 : decode cX3_group 109 = .ok (.invokestatic 138, 3) := by decide +kernel
theorem dX3_group_112 : decode cX3_group 112 = .ok (.isub, 1) := by decide +kernel
theorem dX3_group_113 : decode cX3_group 113 = .ok (.ireturn, 1) := by decide +kernel
theorem dX3_group_114 : decode cX3_group 114 = .ok (.aload_n 0, 1) := by decide +kernel
theorem dX3_group_115 : decode cX3_group 115 = .ok (.getfield 39, 3) := by decide +kernel
theorem dX3_group_118 : decode cX3_group 118 = .ok (.getfield 132, 3) := by decide +kernel
theorem dX3_group_121 : decode cX3_group 121 = .ok (.iload 4, 2) := by decide +kernel
theorem dX3_group_123 : decode cX3_group 123 = .ok (.iconst 1, 1) := by decide +kernel
theorem dX3_group_124 : decode cX3_group 124 = .ok (.isub, 1) := by decide +kernel
theorem dX3_group_125 : decode cX3_group 125 = .ok (.iaload, 1) := by decide +kernel
theorem dX3_group_126 : decode cX3_group 126 = .ok (.aload_n 0, 1) := by decide +kernel
theorem dX3_group_127 : decode cX3_group 127 = .ok (.getfield 39, 3) := by decide +kernel
theorem dX3_group_130 : decode cX3_group 130 = .ok (.getfield 132, 3) := by decide +kernel
theorem dX3_group_133 : decode cX3_group 133 = .ok (.iload_n 3, 1) := by decide +kernel
theorem dX3_group_134 : decode cX3_group 134 = .ok (.iaload, 1) := by decide +kernel
theorem dX3_group_135 : decode cX3_group 135 = .ok (.isub, 1) := by decide +kernel
theorem dX3_group_136 : decode cX3_group 136 = .ok (.ireturn, 1) := by decide +kernel
theorem dX3_group_137 : decode cX3_group 137 = .ok (.bipush (-2), 2) := by decide +kernel
theorem dX3_group_139 : decode cX3_group 139 = .ok (.ireturn, 1) := by decide +kernel
theorem dX3_member_0 : decode cX3_member 0 = .ok (.aload_n 0, 1) := by decide +kernel
theorem dX3_member_1 : decode cX3_member 1 = .ok (.iload_n 1, 1) := by decide +kernel
theorem dX3_member_2 : decode cX3_member 2 = .ok (.invokevirtual 126, 3) := by decide +kernel
theorem dX3_member_5 : decode cX3_member 5 = .ok (.ifCond .eq 10, 3) := by decide +kernel
theorem dX3_member_8 : decode cX3_member 8 = .ok (.iload_n 2, 1) := by decide +kernel
theorem dX3_member_9 : decode cX3_member 9 = .ok (.invokestatic 62, 3) := by decide +kernel
theorem dX3_member_12 : decode cX3_member 12 = .ok (.ifCond .ne 5, 3) := by decide +kernel
theorem dX3_member_15 : decode cX3_member 15 = .ok (.iconst (-1), 1) := by decide +kernel
theorem dX3_member_16 : decode cX3_member 16 = .ok (.ireturn, 1) := by decide +kernel
theorem dX3_member_17 : decode cX3_member 17 = .ok (.iload_n 3, 1) := by decide +kernel
theorem dX3_member_18 : decode cX3_member 18 = .ok (.iconst 0, 1) := by decide +kernel
theorem dX3_member_19 : decode cX3_member 19 = .ok (.iconst 1, 1) := by decide +kernel
theorem dX3_member_20 : decode cX3_member 20 = .ok (.invokestatic 66, 3) := by decide +kernel
theorem dX3_member_23 : decode cX3_member 23 = .ok (.ifCond .ne 6, 3) := by decide +kernel
theorem dX3_member_26 : decode cX3_member 26 = .ok (.bipush (-2), 2) := by decide +kernel
theorem dX3_member_28 : decode cX3_member 28 = .ok (.ireturn, 1) := by decide +kernel
theorem dX3_member_29 : decode cX3_member 29 = .ok (.aload_n 0, 1) := by decide +kernel
theorem dX3_member_30 : decode cX3_member 30 = .ok (.getfield 39, 3) := by decide +kernel
theorem dX3_member_33 : decode cX3_member 33 = .ok (.iload_n 2, 1) := by decide +kernel
theorem dX3_member_34 : decode cX3_member 34 = .ok (.aload_n 0, 1) := by decide +kernel
theorem dX3_member_35 : decode cX3_member 35 = .ok (.getfield 48, 3) := by decide +kernel
theorem dX3_member_38 : decode cX3_member 38 = .ok (.getfield 129, 3) := by decide +kernel
theorem dX3_member_41 : decode cX3_member 41 = .ok (.iload_n 1, 1) := by decide +kernel
theorem dX3_member_42 : decode cX3_member 42 = .ok (.iaload, 1) := by decide +kernel
theorem dX3_member_43 : decode cX3_member 43 = .ok (.aload_n 0, 1) := by decide +kernel
theorem dX3_member_44 : decode cX3_member 44 = .ok (.getfield 48, 3) := by decide +kernel
theorem dX3_member_47 : decode cX3_member 47 = .ok (.getfield 129, 3) := by decide +kernel
theorem dX3_member_50 : decode cX3_member 50 = .ok (.iload_n 1, 1) := by decide +kernel
theorem dX3_member_51 : decode cX3_member 51 = .ok (.iconst 1, 1) := by decide +kernel
theorem dX3_member_52 : decode cX3_member 52 = .ok (.iadd, 1) := by decide +kernel
theorem dX3_member_53 : decode cX3_member 53 = .ok (.iaload, 1) := by decide +kernel
theorem dX3_member_54 : decode cX3_member 54 = .ok (.invokevirtual 143, 3) := by decide +kernel
theorem dX3_member_57 : decode cX3_member 57 = .ok (.istore 4, 2) := by decide +kernel
theorem dX3_member_59 : decode cX3_member 59 = .ok (.iload 4, 2) := by decide +kernel
theorem dX3_member_61 : decode cX3_member 61 = .ok (.ifCond .ge 6, 3) := by decide +kernel
theorem dX3_member_64 : decode cX3_member 64 = .ok (.bipush (-9), 2) := by decide +kernel
theorem dX3_member_66 : decode cX3_member 66 = .ok (.ireturn, 1) := by decide +kernel
theorem dX3_member_67 : decode cX3_member 67 = .ok (.iload_n 3, 1) := by decide +kernel
theorem dX3_member_68 : decode cX3_member 68 = .ok (.ifCond .ne 23, 3) := by decide +kernel
theorem dX3_member_71 : decode cX3_member 71 = .ok (.aload_n 0, 1) := by decide +kernel
theorem dX3_member_72 : decode cX3_member 72 = .ok (.getfield 39, 3) := by decide +kernel
theorem dX3_member_75 : decode cX3_member 75 = .ok (.getfield 132, 3) := by decide +kernel
theorem dX3_member_78 : decode cX3_member 78 = .ok (.iload 4, 2) := by decide +kernel
theorem dX3_member_80 : decode cX3_member 80 = .ok (.iaload, 1) := by decide +kernel
theorem dX3_member_81 : decode cX3_member 81 = .ok (.aload_n 0, 1) := by decide +kernel
theorem dX3_member_82 : decode cX3_member 82 = .ok (.getfield 11, 3) := by decide +kernel
theorem dX3_member_85 : decode cX3_member 85 = .ok (.iload_n 2, 1) := by decide +kernel
theorem dX3_member_86 : decode cX3_member 86 = .ok (.iaload, 1) := by decide +kernel
theorem dX3_member_87 : decode cX3_member 87 = .ok (.iadd, 1) := by decide +kernel
theorem dX3_member_88 : decode cX3_member 88 = .ok (.goto 13, 3) := by decide +kernel
theorem dX3_member_91 : decode cX3_member 91 = .ok (.aload_n 0, 1) := by decide +kernel
theorem dX3_member_92 : decode cX3_member 92 = .ok (.getfield 39, 3) := by decide +kernel
theorem dX3_member_95 : decode cX3_member 95 = .ok (.getfield 147, 3) := by decide +kernel
theorem dX3_member_98 : decode cX3_member 98 = .ok (.iload 4, 2) := by decide +kernel
theorem dX3_member_100 : decode cX3_member 100 = .ok (.iaload, 1) := by decide +kernel
theorem dX3_member_101 : decode cX3_member 101 = .ok (.ireturn, 1) := by decide +kernel
theorem dX3_having_0 : decode cX3_having 0 = .ok (.iload_n 1, 1) := by decide +kernel
theorem dX3_having_1 : decode cX3_having 1 = .ok (.iconst 0, 1) := by decide +kernel
theorem dX3_having_2 : decode cX3_having 2 = .ok (.bipush 63, 2) := by decide +kernel
theorem dX3_having_4 : decode cX3_having 4 = .ok (.invokestatic 66, 3) := by decide +kernel
theorem dX3_having_7 : decode cX3_having 7 = .ok (.ifCond .eq 12, 3) := by decide +kernel
theorem dX3_having_10 : decode cX3_having 10 = .ok (.iload_n 2, 1) := by decide +kernel
theorem dX3_having_11 : decode cX3_having 11 = .ok (.iconst 0, 1) := by decide +kernel
theorem dX3_having_12 : decode cX3_having 12 = .ok (.iconst 2, 1) := by decide +kernel
theorem dX3_having_13 : decode cX3_having 13 = .ok (.invokestatic 66, 3) := by decide +kernel
theorem dX3_having_16 : decode cX3_having 16 = .ok (.ifCond .ne 6, 3) := by decide +kernel
theorem dX3_having_19 : decode cX3_having 19 = .ok (.bipush (-2), 2) := by decide +kernel
theorem dX3_having_21 : decode cX3_having 21 = .ok (.ireturn, 1) := by decide +kernel
theorem dX3_having_22 : decode cX3_having 22 = .ok (.iconst 0, 1) := by decide +kernel
theorem dX3_having_23 : decode cX3_having 23 = .ok (.istore_n 3, 1) := by decide +kernel
theorem dX3_having_24 : decode cX3_having 24 = .ok (.iconst 0, 1) := by decide +kernel
theorem dX3_having_25 : decode cX3_having 25 = .ok (.istore 4, 2) := by decide +kernel
theorem dX3_having_27 : decode cX3_having 27 = .ok (.iload 4, 2) := by decide +kernel
theorem dX3_having_29 : decode cX3_having 29 = .ok (.aload_n 0, 1) := by decide +kernel
theorem dX3_having_30 : decode cX3_having 30 = .ok (.getfield 48, 3) := by decide +kernel
theorem dX3_having_33 : decode cX3_having 33 = .ok (.getfield 116, 3) := by decide +kernel
theorem dX3_having_36 : decode cX3_having 36 = .ok (.if_icmp .ge 79, 3) := by decide +kernel
theorem dX3_having_39 : decode cX3_having 39 = .ok (.aload_n 0, 1) := by decide +kernel
theorem dX3_having_40 : decode cX3_having 40 = .ok (.getfield 48, 3) := by decide +kernel
theorem dX3_having_43 : decode cX3_having 43 = .ok (.getfield 135, 3) := by decide +kernel
theorem dX3_having_46 : decode cX3_having 46 = .ok (.iload 4, 2) := by decide +kernel
theorem dX3_having_48 : decode cX3_having 48 = .ok (.iaload, 1) := by decide +kernel
theorem dX3_having_49 : decode cX3_having 49 = .ok (.iload_n 1, 1) := by decide +kernel
theorem dX3_having_50 : decode cX3_having 50 = .ok (.iand, 1) := by decide +kernel
theorem dX3_having_51 : decode cX3_having 51 = .ok (.istore 5, 2) := by decide +kernel
theorem dX3_having_53 : decode cX3_having 53 = .ok (.iload_n 2, 1) := by decide +kernel
theorem dX3_having_54 : decode cX3_having 54 = .ok (.ifCond .ne 25, 3) := by decide +kernel
theorem dX3_having_57 : decode cX3_having 57 = .ok (.aload_n 0, 1) := by decide +kernel
theorem dX3_having_58 : decode cX3_having 58 = .ok (.getfield 48, 3) := by decide +kernel
theorem dX3_having_61 : decode cX3_having 61 = .ok (.getfield 135, 3) := by decide +kernel
theorem dX3_having_64 : decode cX3_having 64 = .ok (.iload 4, 2) := by decide +kernel
theorem dX3_having_66 : decode cX3_having 66 = .ok (.iaload, 1) := by decide +kernel
theorem dX3_having_67 : decode cX3_having 67 = .ok (.iload_n 1, 1) := by decide +kernel
theorem dX3_having_68 : decode cX3_having 68 = .ok (.if_icmp .ne 7, 3) := by decide +kernel
theorem dX3_having_71 : decode cX3_having 71 = .ok (.iconst 1, 1) := by decide +kernel
theorem dX3_having_72 : decode cX3_having 72 = .ok (.goto 27, 3) := by decide +kernel
theorem dX3_having_75 : decode cX3_having 75 = .ok (.iconst 0, 1) := by decide +kernel
theorem dX3_having_76 : decode cX3_having 76 = .ok (.goto 23, 3) := by decide +kernel
theorem dX3_having_79 : decode cX3_having 79 = .ok (.iload 5, 2) := by decide +kernel
theorem dX3_having_81 : decode cX3_having 81 = .ok (.iload_n 2, 1) := by decide +kernel
theorem dX3_having_82 : decode cX3_having 82 = .ok (.iconst 1, 1) := by decide +kernel
theorem dX3_having_83 : decode cX3_having 83 = .ok (.if_icmp .ne 7, 3) := by decide +kernel
theorem dX3_having_86 : decode cX3_having 86 = .ok (.iload_n 1, 1) := by decide +kernel
theorem dX3_having_87 : decode cX3_having 87 = .ok (.goto 4, 3) := by decide +kernel
theorem dX3_having_90 : decode cX3_having 90 = .ok (.iconst 0, 1) := by decide +kernel
theorem dX3_having_91 : decode cX3_having 91 = .ok (.if_icmp .ne 7, 3) := by decide +kernel
theorem dX3_having_94 : decode cX3_having 94 = .ok (.iconst 1, 1) := by decide +kernel
theorem dX3_having_95 : decode cX3_having 95 = .ok (.goto 4, 3) := by decide +kernel
theorem dX3_having_98 : decode cX3_having 98 = .ok (.iconst 0, 1) := by decide +kernel
theorem dX3_having_99 : decode cX3_having 99 = .ok (.istore 6, 2) := by decide +kernel
theorem dX3_having_101 : decode cX3_having 101 = .ok (.iload 6, 2) := by decide +kernel
theorem dX3_having_103 : decode cX3_having 103 = .ok (.ifCond .eq 6, 3) := by decide +kernel
theorem dX3_having_106 : decode cX3_having 106 = .ok (.iinc 3 1, 3) := by decide +kernel
theorem dX3_having_109 : decode cX3_having 109 = .ok (.iinc 4 1, 3) := by decide +kernel
theorem dX3_having_112 : decode cX3_having 112 = .ok (.goto (-85), 3) := by decide +kernel
theorem dX3_having_115 : decode cX3_having 115 = .ok (.iload_n 3, 1) := by decide +kernel
theorem dX3_having_116 : decode cX3_having 116 = .ok (.ireturn, 1) := by decide +kernel
theorem dX3_folds_0 : decode cX3_folds 0 = .ok (.iload_n 1, 1) := by decide +kernel
theorem dX3_folds_1 : decode cX3_folds 1 = .ok (.iconst 1, 1) := by decide +kernel
theorem dX3_folds_2 : decode cX3_folds 2 = .ok (.bipush 6, 2) := by decide +kernel
theorem dX3_folds_4 : decode cX3_folds 4 = .ok (.invokestatic 66, 3) := by decide +kernel
theorem dX3_folds_7 : decode cX3_folds 7 = .ok (.ifCond .ne 6, 3) := by decide +kernel
theorem dX3_folds_10 : decode cX3_folds 10 = .ok (.bipush (-2), 2) := by decide +kernel
theorem dX3_folds_12 : decode cX3_folds 12 = .ok (.ireturn, 1) := by decide +kernel
theorem dX3_folds_13 : decode cX3_folds 13 = .ok (.iconst 0, 1) := by decide +kernel
theorem dX3_folds_14 : decode cX3_folds 14 = .ok (.istore_n 2, 1) := by decide +kernel
theorem dX3_folds_15 : decode cX3_folds 15 = .ok (.iconst 0, 1) := by decide +kernel
theorem dX3_folds_16 : decode cX3_folds 16 = .ok (.istore_n 3, 1) := by decide +kernel
theorem dX3_folds_17 : decode cX3_folds 17 = .ok (.iload_n 3, 1) := by decide +kernel
theorem dX3_folds_18 : decode cX3_folds 18 = .ok (.aload_n 0, 1) := by decide +kernel
theorem dX3_folds_19 : decode cX3_folds 19 = .ok (.getfield 48, 3) := by decide +kernel
theorem dX3_folds_22 : decode cX3_folds 22 = .ok (.getfield 116, 3) := by decide +kernel
theorem dX3_folds_25 : decode cX3_folds 25 = .ok (.if_icmp .ge 28, 3) := by decide +kernel
theorem dX3_folds_28 : decode cX3_folds 28 = .ok (.aload_n 0, 1) := by decide +kernel
theorem dX3_folds_29 : decode cX3_folds 29 = .ok (.getfield 48, 3) := by decide +kernel
theorem dX3_folds_32 : decode cX3_folds 32 = .ok (.getfield 135, 3) := by decide +kernel
theorem dX3_folds_35 : decode cX3_folds 35 = .ok (.iload_n 3, 1) := by decide +kernel
theorem dX3_folds_36 : decode cX3_folds 36 = .ok (.iaload, 1) := by decide +kernel
theorem dX3_folds_37 : decode cX3_folds 37 = .ok (.invokestatic 138, 3) := by decide +kernel
theorem dX3_folds_40 : decode cX3_folds 40 = .ok (.iload_n 1, 1) := by decide +kernel
theorem dX3_folds_41 : decode cX3_folds 41 = .ok (.if_icmp .ne 6, 3) := by decide +kernel
theorem dX3_folds_44 : decode cX3_folds 44 = .ok (.iinc 2 1, 3) := by decide +kernel
theorem dX3_folds_47 : decode cX3_folds 47 = .ok (.iinc 3 1, 3) := by decide +kernel
theorem dX3_folds_50 : decode cX3_folds 50 = .ok (.goto (-33), 3) := by decide +kernel
theorem dX3_folds_53 : decode cX3_folds 53 = .ok (.iload_n 2, 1) := by decide +kernel
theorem dX3_folds_54 : decode cX3_folds 54 = .ok (.ireturn, 1) := by decide +kernel
theorem dX3_shifted_0 : decode cX3_shifted 0 = .ok (.iload_n 1, 1) := by decide +kernel
theorem dX3_shifted_1 : decode cX3_shifted 1 = .ok (.iconst 0, 1) := by decide +kernel
theorem dX3_shifted_2 : decode cX3_shifted 2 = .ok (.bipush 63, 2) := by decide +kernel
theorem dX3_shifted_4 : decode cX3_shifted 4 = .ok (.invokestatic 66, 3) := by decide +kernel
theorem dX3_shifted_7 : decode cX3_shifted 7 = .ok (.ifCond .eq 14, 3) := by decide +kernel
theorem dX3_shifted_10 : decode cX3_shifted 10 = .ok (.iload_n 2, 1) := by decide +kernel
theorem dX3_shifted_11 : decode cX3_shifted 11 = .ok (.iconst 0, 1) := by decide +kernel
theorem dX3_shifted_12 : decode cX3_shifted 12 = .ok (.sipush 500, 3) := by decide +kernel
theorem dX3_shifted_15 : decode cX3_shifted 15 = .ok (.invokestatic 66, 3) := by decide +kernel
theorem dX3_shifted_18 : decode cX3_shifted 18 = .ok (.ifCond .ne 6, 3) := by decide +kernel
theorem dX3_shifted_21 : decode cX3_shifted 21 = .ok (.bipush (-2), 2) := by decide +kernel
theorem dX3_shifted_23 : decode cX3_shifted 23 = .ok (.ireturn, 1) := by decide +kernel
theorem dX3_shifted_24 : decode cX3_shifted 24 = .ok (.aload_n 0, 1) := by decide +kernel
theorem dX3_shifted_25 : decode cX3_shifted 25 = .ok (.getfield 98, 3) := by decide +kernel
theorem dX3_shifted_28 : decode cX3_shifted 28 = .ok (.ifCond .ne 6, 3) := by decide +kernel
theorem dX3_shifted_31 : decode cX3_shifted 31 = .ok (.bipush (-3), 2) := by decide +kernel
theorem dX3_shifted_33 : decode cX3_shifted 33 = .ok (.ireturn, 1) := by decide +kernel
theorem dX3_shifted_34 : decode cX3_shifted 34 = .ok (.aload_n 0, 1) := by decide +kernel
theorem dX3_shifted_35 : decode cX3_shifted 35 = .ok (.getfield 42, 3) := by decide +kernel
theorem dX3_shifted_38 : decode cX3_shifted 38 = .ok (.aload_n 0, 1) := by decide +kernel
theorem dX3_shifted_39 : decode cX3_shifted 39 = .ok (.getfield 39, 3) := by decide +kernel
theorem dX3_shifted_42 : decode cX3_shifted 42 = .ok (.aload_n 0, 1) := by decide +kernel
theorem dX3_shifted_43 : decode cX3_shifted 43 = .ok (.getfield 123, 3) := by decide +kernel
theorem dX3_shifted_46 : decode cX3_shifted 46 = .ok (.iload_n 1, 1) := by decide +kernel
theorem dX3_shifted_47 : decode cX3_shifted 47 = .ok (.iload_n 2, 1) := by decide +kernel
theorem dX3_shifted_48 : decode cX3_shifted 48 = .ok (.invokevirtual 150, 3) := by decide +kernel
theorem dX3_shifted_51 : decode cX3_shifted 51 = .ok (.iconst 0, 1) := by decide +kernel
theorem dX3_shifted_52 : decode cX3_shifted 52 = .ok (.istore_n 3, 1) := by decide +kernel
theorem dX3_shifted_53 : decode cX3_shifted 53 = .ok (.iconst 0, 1) := by decide +kernel
theorem dX3_shifted_54 : decode cX3_shifted 54 = .ok (.istore 4, 2) := by decide +kernel
theorem dX3_shifted_56 : decode cX3_shifted 56 = .ok (.iconst 0, 1) := by decide +kernel
theorem dX3_shifted_57 : decode cX3_shifted 57 = .ok (.istore 5, 2) := by decide +kernel
theorem dX3_shifted_59 : decode cX3_shifted 59 = .ok (.iload 5, 2) := by decide +kernel
theorem dX3_shifted_61 : decode cX3_shifted 61 = .ok (.sipush 240, 3) := by decide +kernel
theorem dX3_shifted_64 : decode cX3_shifted 64 = .ok (.if_icmp .ge 70, 3) := by decide +kernel
theorem dX3_shifted_67 : decode cX3_shifted 67 = .ok (.iload 4, 2) := by decide +kernel
theorem dX3_shifted_69 : decode cX3_shifted 69 = .ok (.aload_n 0, 1) := by decide +kernel
theorem dX3_shifted_70 : decode cX3_shifted 70 = .ok (.getfield 42, 3) := by decide +kernel
theorem dX3_shifted_73 : decode cX3_shifted 73 = .ok (.getfield 74, 3) := by decide +kernel
theorem dX3_shifted_76 : decode cX3_shifted 76 = .ok (.if_icmp .ge 58, 3) := by decide +kernel
theorem dX3_shifted_79 : decode cX3_shifted 79 = .ok (.aload_n 0, 1) := by decide +kernel
theorem dX3_shifted_80 : decode cX3_shifted 80 = .ok (.getfield 42, 3) := by decide +kernel
theorem dX3_shifted_83 : decode cX3_shifted 83 = .ok (.iload 4, 2) := by decide +kernel
theorem dX3_shifted_85 : decode cX3_shifted 85 = .ok (.aload_n 0, 1) := by decide +kernel
theorem dX3_shifted_86 : decode cX3_shifted 86 = .ok (.getfield 42, 3) := by decide +kernel
theorem dX3_shifted_89 : decode cX3_shifted 89 = .ok (.getfield 74, 3) := by decide +kernel
theorem dX3_shifted_92 : decode cX3_shifted 92 = .ok (.aload_n 0, 1) := by decide +kernel
theorem dX3_shifted_93 : decode cX3_shifted 93 = .ok (.getfield 29, 3) := by decide +kernel
theorem dX3_shifted_96 : decode cX3_shifted 96 = .ok (.iconst 1, 1) := by decide +kernel
theorem dX3_shifted_97 : decode cX3_shifted 97 = .ok (.iaload, 1) := by decide +kernel
theorem dX3_shifted_98 : decode cX3_shifted 98 = .ok (.invokevirtual 154, 3) := by decide +kernel
theorem dX3_shifted_101 : decode cX3_shifted 101 = .ok (.istore 6, 2) := by decide +kernel
theorem dX3_shifted_103 : decode cX3_shifted 103 = .ok (.aload_n 0, 1) := by decide +kernel
theorem dX3_shifted_104 : decode cX3_shifted 104 = .ok (.aload_n 0, 1) := by decide +kernel
theorem dX3_shifted_105 : decode cX3_shifted 105 = .ok (.getfield 42, 3) := by decide +kernel
theorem dX3_shifted_108 : decode cX3_shifted 108 = .ok (.iload 4, 2) := by decide +kernel
theorem dX3_shifted_110 : decode cX3_shifted 110 = .ok (.iload 6, 2) := by decide +kernel
theorem dX3_shifted_112 : decode cX3_shifted 112 = .ok (.invokevirtual 157, 3) := by decide +kernel
theorem dX3_shifted_115 : decode cX3_shifted 115 = .ok (.invokevirtual 160, 3) := by decide +kernel
theorem dX3_shifted_118 : decode cX3_shifted 118 = .ok (.ifCond .eq 6, 3) := by decide +kernel
theorem dX3_shifted_121 : decode cX3_shifted 121 = .ok (.iinc 3 1, 3) := by decide +kernel
theorem dX3_shifted_124 : decode cX3_shifted 124 = .ok (.iload 6, 2) := by decide +kernel
theorem dX3_shifted_126 : decode cX3_shifted 126 = .ok (.istore 4, 2) := by decide +kernel
theorem dX3_shifted_128 : decode cX3_shifted 128 = .ok (.iinc 5 1, 3) := by decide +kernel
theorem dX3_shifted_131 : decode cX3_shifted 131 = .ok (.goto (-72), 3) := by decide +kernel
theorem dX3_shifted_134 : decode cX3_shifted 134 = .ok (.iload_n 3, 1) := by decide +kernel
end
section
theorem dX3_shifted_135 : decode cX3_shifted 135 = .ok (.ireturn, 1) := by decide +kernel
theorem dX3_twos_0 : decode cX3_twos 0 = .ok (.iload_n 1, 1) := by decide +kernel
theorem dX3_twos_1 : decode cX3_twos 1 = .ok (.invokestatic 62, 3) := by decide +kernel
theorem dX3_twos_4 : decode cX3_twos 4 = .ok (.ifCond .eq 10, 3) := by decide +kernel
theorem dX3_twos_7 : decode cX3_twos 7 = .ok (.iload_n 2, 1) := by decide +kernel
theorem dX3_twos_8 : decode cX3_twos 8 = .ok (.invokestatic 62, 3) := by decide +kernel
theorem dX3_twos_11 : decode cX3_twos 11 = .ok (.ifCond .ne 5, 3) := by decide +kernel
theorem dX3_twos_14 : decode cX3_twos 14 = .ok (.iconst (-1), 1) := by decide +kernel
theorem dX3_twos_15 : decode cX3_twos 15 = .ok (.ireturn, 1) := by decide +kernel
theorem dX3_twos_16 : decode cX3_twos 16 = .ok (.iload_n 3, 1) := by decide +kernel
theorem dX3_twos_17 : decode cX3_twos 17 = .ok (.sipush (-200), 3) := by decide +kernel
theorem dX3_twos_20 : decode cX3_twos 20 = .ok (.sipush 200, 3) := by decide +kernel
theorem dX3_twos_23 : decode cX3_twos 23 = .ok (.invokestatic 66, 3) := by decide +kernel
theorem dX3_twos_26 : decode cX3_twos 26 = .ok (.ifCond .ne 6, 3) := by decide +kernel
theorem dX3_twos_29 : decode cX3_twos 29 = .ok (.bipush (-2), 2) := by decide +kernel
theorem dX3_twos_31 : decode cX3_twos 31 = .ok (.ireturn, 1) := by decide +kernel
theorem dX3_twos_32 : decode cX3_twos 32 = .ok (.iload_n 1, 1) := by decide +kernel
theorem dX3_twos_33 : decode cX3_twos 33 = .ok (.iload_n 2, 1) := by decide +kernel
theorem dX3_twos_34 : decode cX3_twos 34 = .ok (.if_icmp .ne 6, 3) := by decide +kernel
theorem dX3_twos_37 : decode cX3_twos 37 = .ok (.bipush (-3), 2) := by decide +kernel
theorem dX3_twos_39 : decode cX3_twos 39 = .ok (.ireturn, 1) := by decide +kernel
theorem dX3_twos_40 : decode cX3_twos 40 = .ok (.iconst 0, 1) := by decide +kernel
theorem dX3_twos_41 : decode cX3_twos 41 = .ok (.istore 4, 2) := by decide +kernel
theorem dX3_twos_43 : decode cX3_twos 43 = .ok (.iconst 0, 1) := by decide +kernel
theorem dX3_twos_44 : decode cX3_twos 44 = .ok (.istore 5, 2) := by decide +kernel
theorem dX3_twos_46 : decode cX3_twos 46 = .ok (.iconst 0, 1) := by decide +kernel
theorem dX3_twos_47 : decode cX3_twos 47 = .ok (.istore 6, 2) := by decide +kernel
theorem dX3_twos_49 : decode cX3_twos 49 = .ok (.iload 6, 2) := by decide +kernel
theorem dX3_twos_51 : decode cX3_twos 51 = .ok (.aload_n 0, 1) := by decide +kernel
theorem dX3_twos_52 : decode cX3_twos 52 = .ok (.getfield 123, 3) := by decide +kernel
theorem dX3_twos_55 : decode cX3_twos 55 = .ok (.if_icmp .ge 121, 3) := by decide +kernel
theorem dX3_twos_58 : decode cX3_twos 58 = .ok (.aload_n 0, 1) := by decide +kernel
theorem dX3_twos_59 : decode cX3_twos 59 = .ok (.getfield 39, 3) := by decide +kernel
theorem dX3_twos_62 : decode cX3_twos 62 = .ok (.getfield 163, 3) := by decide +kernel
theorem dX3_twos_65 : decode cX3_twos 65 = .ok (.iload 6, 2) := by decide +kernel
theorem dX3_twos_67 : decode cX3_twos 67 = .ok (.iaload, 1) := by decide +kernel
theorem dX3_twos_68 : decode cX3_twos 68 = .ok (.iload_n 1, 1) := by decide +kernel
theorem dX3_twos_69 : decode cX3_twos 69 = .ok (.if_icmp .eq 6, 3) := by decide +kernel
theorem dX3_twos_72 : decode cX3_twos 72 = .ok (.goto 98, 3) := by decide +kernel
theorem dX3_twos_75 : decode cX3_twos 75 = .ok (.aload_n 0, 1) := by decide +kernel
theorem dX3_twos_76 : decode cX3_twos 76 = .ok (.getfield 39, 3) := by decide +kernel
theorem dX3_twos_79 : decode cX3_twos 79 = .ok (.getfield 132, 3) := by decide +kernel
theorem dX3_twos_82 : decode cX3_twos 82 = .ok (.iload 6, 2) := by decide +kernel
theorem dX3_twos_84 : decode cX3_twos 84 = .ok (.iaload, 1) := by decide +kernel
theorem dX3_twos_85 : decode cX3_twos 85 = .ok (.iload_n 3, 1) := by decide +kernel
theorem dX3_twos_86 : decode cX3_twos 86 = .ok (.iadd, 1) := by decide +kernel
theorem dX3_twos_87 : decode cX3_twos 87 = .ok (.istore 7, 2) := by decide +kernel
theorem dX3_twos_89 : decode cX3_twos 89 = .ok (.iload 5, 2) := by decide +kernel
theorem dX3_twos_91 : decode cX3_twos 91 = .ok (.aload_n 0, 1) := by decide +kernel
theorem dX3_twos_92 : decode cX3_twos 92 = .ok (.getfield 123, 3) := by decide +kernel
theorem dX3_twos_95 : decode cX3_twos 95 = .ok (.if_icmp .ge 24, 3) := by decide +kernel
theorem dX3_twos_98 : decode cX3_twos 98 = .ok (.aload_n 0, 1) := by decide +kernel
theorem dX3_twos_99 : decode cX3_twos 99 = .ok (.getfield 39, 3) := by decide +kernel
theorem dX3_twos_102 : decode cX3_twos 102 = .ok (.getfield 132, 3) := by decide +kernel
theorem dX3_twos_105 : decode cX3_twos 105 = .ok (.iload 5, 2) := by decide +kernel
theorem dX3_twos_107 : decode cX3_twos 107 = .ok (.iaload, 1) := by decide +kernel
theorem dX3_twos_108 : decode cX3_twos 108 = .ok (.iload 7, 2) := by decide +kernel
theorem dX3_twos_110 : decode cX3_twos 110 = .ok (.if_icmp .ge 9, 3) := by decide +kernel
theorem dX3_twos_113 : decode cX3_twos 113 = .ok (.iinc 5 1, 3) := by decide +kernel
theorem dX3_twos_116 : decode cX3_twos 116 = .ok (.goto (-27), 3) := by decide +kernel
theorem dX3_twos_119 : decode cX3_twos 119 = .ok (.iload 5, 2) := by decide +kernel
theorem dX3_twos_121 : decode cX3_twos 121 = .ok (.istore 8, 2) := by decide +kernel
theorem dX3_twos_123 : decode cX3_twos 123 = .ok (.iload 8, 2) := by decide +kernel
theorem dX3_twos_125 : decode cX3_twos 125 = .ok (.aload_n 0, 1) := by decide +kernel
theorem dX3_twos_126 : decode cX3_twos 126 = .ok (.getfield 123, 3) := by decide +kernel
theorem dX3_twos_129 : decode cX3_twos 129 = .ok (.if_icmp .ge 41, 3) := by decide +kernel
theorem dX3_twos_132 : decode cX3_twos 132 = .ok (.aload_n 0, 1) := by decide +kernel
theorem dX3_twos_133 : decode cX3_twos 133 = .ok (.getfield 39, 3) := by decide +kernel
theorem dX3_twos_136 : decode cX3_twos 136 = .ok (.getfield 132, 3) := by decide +kernel
theorem dX3_twos_139 : decode cX3_twos 139 = .ok (.iload 8, 2) := by decide +kernel
theorem dX3_twos_141 : decode cX3_twos 141 = .ok (.iaload, 1) := by decide +kernel
theorem dX3_twos_142 : decode cX3_twos 142 = .ok (.iload 7, 2) := by decide +kernel
theorem dX3_twos_144 : decode cX3_twos 144 = .ok (.if_icmp .ne 26, 3) := by decide +kernel
theorem dX3_twos_147 : decode cX3_twos 147 = .ok (.aload_n 0, 1) := by decide +kernel
theorem dX3_twos_148 : decode cX3_twos 148 = .ok (.getfield 39, 3) := by decide +kernel
theorem dX3_twos_151 : decode cX3_twos 151 = .ok (.getfield 163, 3) := by decide +kernel
theorem dX3_twos_154 : decode cX3_twos 154 = .ok (.iload 8, 2) := by decide +kernel
theorem dX3_twos_156 : decode cX3_twos 156 = .ok (.iaload, 1) := by decide +kernel
theorem dX3_twos_157 : decode cX3_twos 157 = .ok (.iload_n 2, 1) := by decide +kernel
theorem dX3_twos_158 : decode cX3_twos 158 = .ok (.if_icmp .ne 6, 3) := by decide +kernel
theorem dX3_twos_161 : decode cX3_twos 161 = .ok (.iinc 4 1, 3) := by decide +kernel
theorem dX3_twos_164 : decode cX3_twos 164 = .ok (.iinc 8 1, 3) := by decide +kernel
theorem dX3_twos_167 : decode cX3_twos 167 = .ok (.goto (-44), 3) := by decide +kernel
theorem dX3_twos_170 : decode cX3_twos 170 = .ok (.iinc 6 1, 3) := by decide +kernel
theorem dX3_twos_173 : decode cX3_twos 173 = .ok (.goto (-124), 3) := by decide +kernel
theorem dX3_twos_176 : decode cX3_twos 176 = .ok (.iload 4, 2) := by decide +kernel
theorem dX3_twos_178 : decode cX3_twos 178 = .ok (.ireturn, 1) := by decide +kernel
theorem dX3_live_0 : decode cX3_live 0 = .ok (.iload_n 1, 1) := by decide +kernel
theorem dX3_live_1 : decode cX3_live 1 = .ok (.invokestatic 62, 3) := by decide +kernel
theorem dX3_live_4 : decode cX3_live 4 = .ok (.ifCond .ne 5, 3) := by decide +kernel
theorem dX3_live_7 : decode cX3_live 7 = .ok (.iconst (-1), 1) := by decide +kernel
theorem dX3_live_8 : decode cX3_live 8 = .ok (.ireturn, 1) := by decide +kernel
theorem dX3_live_9 : decode cX3_live 9 = .ok (.aload_n 0, 1) := by decide +kernel
theorem dX3_live_10 : decode cX3_live 10 = .ok (.getfield 98, 3) := by decide +kernel
theorem dX3_live_13 : decode cX3_live 13 = .ok (.ifCond .ne 6, 3) := by decide +kernel
theorem dX3_live_16 : decode cX3_live 16 = .ok (.bipush (-3), 2) := by decide +kernel
theorem dX3_live_18 : decode cX3_live 18 = .ok (.ireturn, 1) := by decide +kernel
theorem dX3_live_19 : decode cX3_live 19 = .ok (.aload_n 0, 1) := by decide +kernel
theorem dX3_live_20 : decode cX3_live 20 = .ok (.iload_n 1, 1) := by decide +kernel
theorem dX3_live_21 : decode cX3_live 21 = .ok (.invokevirtual 166, 3) := by decide +kernel
theorem dX3_live_24 : decode cX3_live 24 = .ok (.ireturn, 1) := by decide +kernel
theorem dX3_rate_0 : decode cX3_rate 0 = .ok (.iload_n 1, 1) := by decide +kernel
theorem dX3_rate_1 : decode cX3_rate 1 = .ok (.invokestatic 62, 3) := by decide +kernel
theorem dX3_rate_4 : decode cX3_rate 4 = .ok (.ifCond .eq 19, 3) := by decide +kernel
theorem dX3_rate_7 : decode cX3_rate 7 = .ok (.iload_n 2, 1) := by decide +kernel
theorem dX3_rate_8 : decode cX3_rate 8 = .ok (.iconst 0, 1) := by decide +kernel
theorem dX3_rate_9 : decode cX3_rate 9 = .ok (.iconst 1, 1) := by decide +kernel
theorem dX3_rate_10 : decode cX3_rate 10 = .ok (.invokestatic 66, 3) := by decide +kernel
theorem dX3_rate_13 : decode cX3_rate 13 = .ok (.ifCond .eq 10, 3) := by decide +kernel
theorem dX3_rate_16 : decode cX3_rate 16 = .ok (.aload_n 0, 1) := by decide +kernel
theorem dX3_rate_17 : decode cX3_rate 17 = .ok (.getfield 98, 3) := by decide +kernel
theorem dX3_rate_20 : decode cX3_rate 20 = .ok (.ifCond .ne 7, 3) := by decide +kernel
theorem dX3_rate_23 : decode cX3_rate 23 = .ok (.ldc2_w 169, 3) := by decide +kernel
theorem dX3_rate_26 : decode cX3_rate 26 = .ok (.lreturn, 1) := by decide +kernel
theorem dX3_rate_27 : decode cX3_rate 27 = .ok (.aload_n 0, 1) := by decide +kernel
theorem dX3_rate_28 : decode cX3_rate 28 = .ok (.iload_n 1, 1) := by decide +kernel
theorem dX3_rate_29 : decode cX3_rate 29 = .ok (.invokevirtual 82, 3) := by decide +kernel
theorem dX3_rate_32 : decode cX3_rate 32 = .ok (.i2l, 1) := by decide +kernel
theorem dX3_rate_33 : decode cX3_rate 33 = .ok (.aload_n 0, 1) := by decide +kernel
theorem dX3_rate_34 : decode cX3_rate 34 = .ok (.iload_n 1, 1) := by decide +kernel
theorem dX3_rate_35 : decode cX3_rate 35 = .ok (.invokevirtual 166, 3) := by decide +kernel
theorem dX3_rate_38 : decode cX3_rate 38 = .ok (.i2l, 1) := by decide +kernel
theorem dX3_rate_39 : decode cX3_rate 39 = .ok (.iload_n 2, 1) := by decide +kernel
theorem dX3_rate_40 : decode cX3_rate 40 = .ok (.invokestatic 171, 3) := by decide +kernel
theorem dX3_rate_43 : decode cX3_rate 43 = .ok (.lreturn, 1) := by decide +kernel
theorem dX3_expected_0 : decode cX3_expected 0 = .ok (.iload_n 1, 1) := by decide +kernel
theorem dX3_expected_1 : decode cX3_expected 1 = .ok (.invokestatic 62, 3) := by decide +kernel
theorem dX3_expected_4 : decode cX3_expected 4 = .ok (.ifCond .eq 19, 3) := by decide +kernel
theorem dX3_expected_7 : decode cX3_expected 7 = .ok (.iload_n 2, 1) := by decide +kernel
theorem dX3_expected_8 : decode cX3_expected 8 = .ok (.invokestatic 62, 3) := by decide +kernel
theorem dX3_expected_11 : decode cX3_expected 11 = .ok (.ifCond .eq 12, 3) := by decide +kernel
theorem dX3_expected_14 : decode cX3_expected 14 = .ok (.iload_n 3, 1) := by decide +kernel
theorem dX3_expected_15 : decode cX3_expected 15 = .ok (.iconst 0, 1) := by decide +kernel
theorem dX3_expected_16 : decode cX3_expected 16 = .ok (.iconst 1, 1) := by decide +kernel
theorem dX3_expected_17 : decode cX3_expected 17 = .ok (.invokestatic 66, 3) := by decide +kernel
theorem dX3_expected_20 : decode cX3_expected 20 = .ok (.ifCond .ne 7, 3) := by decide +kernel
theorem dX3_expected_23 : decode cX3_expected 23 = .ok (.ldc2_w 169, 3) := by decide +kernel
theorem dX3_expected_26 : decode cX3_expected 26 = .ok (.lreturn, 1) := by decide +kernel
theorem dX3_expected_27 : decode cX3_expected 27 = .ok (.iload_n 1, 1) := by decide +kernel
theorem dX3_expected_28 : decode cX3_expected 28 = .ok (.iload_n 2, 1) := by decide +kernel
theorem dX3_expected_29 : decode cX3_expected 29 = .ok (.if_icmp .eq 10, 3) := by decide +kernel
theorem dX3_expected_32 : decode cX3_expected 32 = .ok (.aload_n 0, 1) := by decide +kernel
theorem dX3_expected_33 : decode cX3_expected 33 = .ok (.getfield 98, 3) := by decide +kernel
theorem dX3_expected_36 : decode cX3_expected 36 = .ok (.ifCond .ne 7, 3) := by decide +kernel
theorem dX3_expected_39 : decode cX3_expected 39 = .ok (.ldc2_w 169, 3) := by decide +kernel
theorem dX3_expected_42 : decode cX3_expected 42 = .ok (.lreturn, 1) := by decide +kernel
theorem dX3_expected_43 : decode cX3_expected 43 = .ok (.aload_n 0, 1) := by decide +kernel
theorem dX3_expected_44 : decode cX3_expected 44 = .ok (.iload_n 1, 1) := by decide +kernel
theorem dX3_expected_45 : decode cX3_expected 45 = .ok (.invokevirtual 82, 3) := by decide +kernel
theorem dX3_expected_48 : decode cX3_expected 48 = .ok (.i2l, 1) := by decide +kernel
theorem dX3_expected_49 : decode cX3_expected 49 = .ok (.aload_n 0, 1) := by decide +kernel
theorem dX3_expected_50 : decode cX3_expected 50 = .ok (.iload_n 2, 1) := by decide +kernel
theorem dX3_expected_51 : decode cX3_expected 51 = .ok (.invokevirtual 82, 3) := by decide +kernel
theorem dX3_expected_54 : decode cX3_expected 54 = .ok (.i2l, 1) := by decide +kernel
theorem dX3_expected_55 : decode cX3_expected 55 = .ok (.lmul, 1) := by decide +kernel
theorem dX3_expected_56 : decode cX3_expected 56 = .ok (.iconst 2, 1) := by decide +kernel
theorem dX3_expected_57 : decode cX3_expected 57 = .ok (.aload_n 0, 1) := by decide +kernel
theorem dX3_expected_58 : decode cX3_expected 58 = .ok (.getfield 29, 3) := by decide +kernel
theorem dX3_expected_61 : decode cX3_expected 61 = .ok (.iconst 1, 1) := by decide +kernel
theorem dX3_expected_62 : decode cX3_expected 62 = .ok (.iaload, 1) := by decide +kernel
theorem dX3_expected_63 : decode cX3_expected 63 = .ok (.imul, 1) := by decide +kernel
theorem dX3_expected_64 : decode cX3_expected 64 = .ok (.iconst 1, 1) := by decide +kernel
theorem dX3_expected_65 : decode cX3_expected 65 = .ok (.iadd, 1) := by decide +kernel
theorem dX3_expected_66 : decode cX3_expected 66 = .ok (.i2l, 1) := by decide +kernel
theorem dX3_expected_67 : decode cX3_expected 67 = .ok (.lmul, 1) := by decide +kernel
theorem dX3_expected_68 : decode cX3_expected 68 = .ok (.lstore 4, 2) := by decide +kernel
theorem dX3_expected_70 : decode cX3_expected 70 = .ok (.lload 4, 2) := by decide +kernel
theorem dX3_expected_72 : decode cX3_expected 72 = .ok (.aload_n 0, 1) := by decide +kernel
theorem dX3_expected_73 : decode cX3_expected 73 = .ok (.invokevirtual 175, 3) := by decide +kernel
theorem dX3_expected_76 : decode cX3_expected 76 = .ok (.i2l, 1) := by decide +kernel
theorem dX3_expected_77 : decode cX3_expected 77 = .ok (.iload_n 3, 1) := by decide +kernel
theorem dX3_expected_78 : decode cX3_expected 78 = .ok (.invokestatic 171, 3) := by decide +kernel
theorem dX3_expected_81 : decode cX3_expected 81 = .ok (.lreturn, 1) := by decide +kernel
theorem dX3_track_0 : decode cX3_track 0 = .ok (.aload_n 0, 1) := by decide +kernel
theorem dX3_track_1 : decode cX3_track 1 = .ok (.iload_n 1, 1) := by decide +kernel
theorem dX3_track_2 : decode cX3_track 2 = .ok (.invokevirtual 126, 3) := by decide +kernel
theorem dX3_track_5 : decode cX3_track 5 = .ok (.ifCond .ne 5, 3) := by decide +kernel
theorem dX3_track_8 : decode cX3_track 8 = .ok (.iconst (-1), 1) := by decide +kernel
theorem dX3_track_9 : decode cX3_track 9 = .ok (.ireturn, 1) := by decide +kernel
theorem dX3_track_10 : decode cX3_track 10 = .ok (.iload_n 2, 1) := by decide +kernel
theorem dX3_track_11 : decode cX3_track 11 = .ok (.iconst 0, 1) := by decide +kernel
theorem dX3_track_12 : decode cX3_track 12 = .ok (.iconst 4, 1) := by decide +kernel
theorem dX3_track_13 : decode cX3_track 13 = .ok (.invokestatic 66, 3) := by decide +kernel
theorem dX3_track_16 : decode cX3_track 16 = .ok (.ifCond .ne 6, 3) := by decide +kernel
theorem dX3_track_19 : decode cX3_track 19 = .ok (.bipush (-2), 2) := by decide +kernel
theorem dX3_track_21 : decode cX3_track 21 = .ok (.ireturn, 1) := by decide +kernel
theorem dX3_track_22 : decode cX3_track 22 = .ok (.aload_n 0, 1) := by decide +kernel
theorem dX3_track_23 : decode cX3_track 23 = .ok (.getfield 48, 3) := by decide +kernel
theorem dX3_track_26 : decode cX3_track 26 = .ok (.iload_n 1, 1) := by decide +kernel
theorem dX3_track_27 : decode cX3_track 27 = .ok (.invokevirtual 178, 3) := by decide +kernel
theorem dX3_track_30 : decode cX3_track 30 = .ok (.ifCond .ne 6, 3) := by decide +kernel
theorem dX3_track_33 : decode cX3_track 33 = .ok (.bipush (-9), 2) := by decide +kernel
theorem dX3_track_35 : decode cX3_track 35 = .ok (.ireturn, 1) := by decide +kernel
theorem dX3_track_36 : decode cX3_track 36 = .ok (.iload_n 2, 1) := by decide +kernel
theorem dX3_track_37 : decode cX3_track 37 = .ok (.tableswitch 77 0 3 #[31, 41, 54, 67], 31) := by decide +kernel
theorem dX3_track_68 : decode cX3_track 68 = .ok (.aload_n 0, 1) := by decide +kernel
theorem dX3_track_69 : decode cX3_track 69 = .ok (.getfield 48, 3) := by decide +kernel
theorem dX3_track_72 : decode cX3_track 72 = .ok (.getfield 181, 3) := by decide +kernel
theorem dX3_track_75 : decode cX3_track 75 = .ok (.iload_n 1, 1) := by decide +kernel
theorem dX3_track_76 : decode cX3_track 76 = .ok (.iaload, 1) := by decide +kernel
theorem dX3_track_77 : decode cX3_track 77 = .ok (.ireturn, 1) := by decide +kernel
theorem dX3_track_78 : decode cX3_track 78 = .ok (.aload_n 0, 1) := by decide +kernel
theorem dX3_track_79 : decode cX3_track 79 = .ok (.getfield 48, 3) := by decide +kernel
theorem dX3_track_82 : decode cX3_track 82 = .ok (.getfield 184, 3) := by decide +kernel
theorem dX3_track_85 : decode cX3_track 85 = .ok (.iload_n 1, 1) := by decide +kernel
theorem dX3_track_86 : decode cX3_track 86 = .ok (.iaload, 1) := by decide +kernel
theorem dX3_track_87 : decode cX3_track 87 = .ok (.bipush 10, 2) := by decide +kernel
theorem dX3_track_89 : decode cX3_track 89 = .ok (.iadd, 1) := by decide +kernel
theorem dX3_track_90 : decode cX3_track 90 = .ok (.ireturn, 1) := by decide +kernel
theorem dX3_track_91 : decode cX3_track 91 = .ok (.aload_n 0, 1) := by decide +kernel
theorem dX3_track_92 : decode cX3_track 92 = .ok (.getfield 48, 3) := by decide +kernel
theorem dX3_track_95 : decode cX3_track 95 = .ok (.getfield 187, 3) := by decide +kernel
theorem dX3_track_98 : decode cX3_track 98 = .ok (.iload_n 1, 1) := by decide +kernel
theorem dX3_track_99 : decode cX3_track 99 = .ok (.iaload, 1) := by decide +kernel
theorem dX3_track_100 : decode cX3_track 100 = .ok (.invokestatic 138, 3) := by decide +kernel
theorem dX3_track_103 : decode cX3_track 103 = .ok (.ireturn, 1) := by decide +kernel
theorem dX3_track_104 : decode cX3_track 104 = .ok (.aload_n 0, 1) := by decide +kernel
theorem dX3_track_105 : decode cX3_track 105 = .ok (.getfield 48, 3) := by decide +kernel
theorem dX3_track_108 : decode cX3_track 108 = .ok (.getfield 187, 3) := by decide +kernel
theorem dX3_track_111 : decode cX3_track 111 = .ok (.iload_n 1, 1) := by decide +kernel
theorem dX3_track_112 : decode cX3_track 112 = .ok (.iaload, 1) := by decide +kernel
theorem dX3_track_113 : decode cX3_track 113 = .ok (.ireturn, 1) := by decide +kernel
theorem dX3_track_114 : decode cX3_track 114 = .ok (.aload_n 0, 1) := by decide +kernel
theorem dX3_track_115 : decode cX3_track 115 = .ok (.getfield 48, 3) := by decide +kernel
theorem dX3_track_118 : decode cX3_track 118 = .ok (.getfield 190, 3) := by decide +kernel
theorem dX3_track_121 : decode cX3_track 121 = .ok (.iload_n 1, 1) := by decide +kernel
theorem dX3_track_122 : decode cX3_track 122 = .ok (.iaload, 1) := by decide +kernel
theorem dX3_track_123 : decode cX3_track 123 = .ok (.ireturn, 1) := by decide +kernel
theorem dX3_through_0 : decode cX3_through 0 = .ok (.iload_n 1, 1) := by decide +kernel
theorem dX3_through_1 : decode cX3_through 1 = .ok (.invokestatic 62, 3) := by decide +kernel
theorem dX3_through_4 : decode cX3_through 4 = .ok (.ifCond .ne 5, 3) := by decide +kernel
theorem dX3_through_7 : decode cX3_through 7 = .ok (.iconst (-1), 1) := by decide +kernel
theorem dX3_through_8 : decode cX3_through 8 = .ok (.ireturn, 1) := by decide +kernel
theorem dX3_through_9 : decode cX3_through 9 = .ok (.iload_n 2, 1) := by decide +kernel
theorem dX3_through_10 : decode cX3_through 10 = .ok (.invokestatic 95, 3) := by decide +kernel
theorem dX3_through_13 : decode cX3_through 13 = .ok (.ifCond .ne 6, 3) := by decide +kernel
theorem dX3_through_16 : decode cX3_through 16 = .ok (.bipush (-2), 2) := by decide +kernel
theorem dX3_through_18 : decode cX3_through 18 = .ok (.ireturn, 1) := by decide +kernel
theorem dX3_through_19 : decode cX3_through 19 = .ok (.iconst 0, 1) := by decide +kernel
theorem dX3_through_20 : decode cX3_through 20 = .ok (.istore_n 3, 1) := by decide +kernel
theorem dX3_through_21 : decode cX3_through 21 = .ok (.iconst 0, 1) := by decide +kernel
theorem dX3_through_22 : decode cX3_through 22 = .ok (.istore 4, 2) := by decide +kernel
theorem dX3_through_24 : decode cX3_through 24 = .ok (.iload 4, 2) := by decide +kernel
theorem dX3_through_26 : decode cX3_through 26 = .ok (.aload_n 0, 1) := by decide +kernel
theorem dX3_through_27 : decode cX3_through 27 = .ok (.getfield 48, 3) := by decide +kernel
theorem dX3_through_30 : decode cX3_through 30 = .ok (.getfield 116, 3) := by decide +kernel
theorem dX3_through_33 : decode cX3_through 33 = .ok (.if_icmp .ge 55, 3) := by decide +kernel
theorem dX3_through_36 : decode cX3_through 36 = .ok (.aload_n 0, 1) := by decide +kernel
theorem dX3_through_37 : decode cX3_through 37 = .ok (.getfield 48, 3) := by decide +kernel
theorem dX3_through_40 : decode cX3_through 40 = .ok (.getfield 181, 3) := by decide +kernel
theorem dX3_through_43 : decode cX3_through 43 = .ok (.iload 4, 2) := by decide +kernel
theorem dX3_through_45 : decode cX3_through 45 = .ok (.iaload, 1) := by decide +kernel
theorem dX3_through_46 : decode cX3_through 46 = .ok (.aload_n 0, 1) := by decide +kernel
theorem dX3_through_47 : decode cX3_through 47 = .ok (.getfield 48, 3) := by decide +kernel
theorem dX3_through_50 : decode cX3_through 50 = .ok (.getfield 184, 3) := by decide +kernel
theorem dX3_through_53 : decode cX3_through 53 = .ok (.iload 4, 2) := by decide +kernel
theorem dX3_through_55 : decode cX3_through 55 = .ok (.iaload, 1) := by decide +kernel
theorem dX3_through_56 : decode cX3_through 56 = .ok (.iload_n 1, 1) := by decide +kernel
theorem dX3_through_57 : decode cX3_through 57 = .ok (.imul, 1) := by decide +kernel
theorem dX3_through_58 : decode cX3_through 58 = .ok (.iadd, 1) := by decide +kernel
theorem dX3_through_59 : decode cX3_through 59 = .ok (.istore 5, 2) := by decide +kernel
theorem dX3_through_61 : decode cX3_through 61 = .ok (.aload_n 0, 1) := by decide +kernel
theorem dX3_through_62 : decode cX3_through 62 = .ok (.getfield 48, 3) := by decide +kernel
theorem dX3_through_65 : decode cX3_through 65 = .ok (.iload 4, 2) := by decide +kernel
theorem dX3_through_67 : decode cX3_through 67 = .ok (.invokevirtual 178, 3) := by decide +kernel
theorem dX3_through_70 : decode cX3_through 70 = .ok (.ifCond .eq 12, 3) := by decide +kernel
theorem dX3_through_73 : decode cX3_through 73 = .ok (.iload 5, 2) := by decide +kernel
theorem dX3_through_75 : decode cX3_through 75 = .ok (.iload_n 2, 1) := by decide +kernel
theorem dX3_through_76 : decode cX3_through 76 = .ok (.if_icmp .ne 6, 3) := by decide +kernel
theorem dX3_through_79 : decode cX3_through 79 = .ok (.iinc 3 1, 3) := by decide +kernel
theorem dX3_through_82 : decode cX3_through 82 = .ok (.iinc 4 1, 3) := by decide +kernel
theorem dX3_through_85 : decode cX3_through 85 = .ok (.goto (-61), 3) := by decide +kernel
theorem dX3_through_88 : decode cX3_through 88 = .ok (.iload_n 3, 1) := by decide +kernel
theorem dX3_through_89 : decode cX3_through 89 = .ok (.ireturn, 1) := by decide +kernel
theorem dX3_many_0 : decode cX3_many 0 = .ok (.iload_n 1, 1) := by decide +kernel
theorem dX3_many_1 : decode cX3_many 1 = .ok (.tableswitch 171 0 12 #[67, 80, 85, 93, 98, 106, 119, 124, 132, 137, 145, 153, 162], 67) := by decide +kernel
theorem dX3_many_68 : decode cX3_many 68 = .ok (.aload_n 0, 1) := by decide +kernel
theorem dX3_many_69 : decode cX3_many 69 = .ok (.getfield 35, 3) := by decide +kernel
theorem dX3_many_72 : decode cX3_many 72 = .ok (.getfield 74, 3) := by decide +kernel
theorem dX3_many_75 : decode cX3_many 75 = .ok (.aload_n 0, 1) := by decide +kernel
theorem dX3_many_76 : decode cX3_many 76 = .ok (.getfield 106, 3) := by decide +kernel
theorem dX3_many_79 : decode cX3_many 79 = .ok (.iadd, 1) := by decide +kernel
theorem dX3_many_80 : decode cX3_many 80 = .ok (.ireturn, 1) := by decide +kernel
theorem dX3_many_81 : decode cX3_many 81 = .ok (.aload_n 0, 1) := by decide +kernel
theorem dX3_many_82 : decode cX3_many 82 = .ok (.getfield 106, 3) := by decide +kernel
theorem dX3_many_85 : decode cX3_many 85 = .ok (.ireturn, 1) := by decide +kernel
theorem dX3_many_86 : decode cX3_many 86 = .ok (.aload_n 0, 1) := by decide +kernel
theorem dX3_many_87 : decode cX3_many 87 = .ok (.getfield 35, 3) := by decide +kernel
theorem dX3_many_90 : decode cX3_many 90 = .ok (.getfield 74, 3) := by decide +kernel
theorem dX3_many_93 : decode cX3_many 93 = .ok (.ireturn, 1) := by decide +kernel
theorem dX3_many_94 : decode cX3_many 94 = .ok (.aload_n 0, 1) := by decide +kernel
theorem dX3_many_95 : decode cX3_many 95 = .ok (.getfield 86, 3) := by decide +kernel
theorem dX3_many_98 : decode cX3_many 98 = .ok (.ireturn, 1) := by decide +kernel
theorem dX3_many_99 : decode cX3_many 99 = .ok (.aload_n 0, 1) := by decide +kernel
theorem dX3_many_100 : decode cX3_many 100 = .ok (.getfield 39, 3) := by decide +kernel
theorem dX3_many_103 : decode cX3_many 103 = .ok (.getfield 74, 3) := by decide +kernel
theorem dX3_many_106 : decode cX3_many 106 = .ok (.ireturn, 1) := by decide +kernel
theorem dX3_many_107 : decode cX3_many 107 = .ok (.aload_n 0, 1) := by decide +kernel
theorem dX3_many_108 : decode cX3_many 108 = .ok (.getfield 86, 3) := by decide +kernel
theorem dX3_many_111 : decode cX3_many 111 = .ok (.aload_n 0, 1) := by decide +kernel
theorem dX3_many_112 : decode cX3_many 112 = .ok (.getfield 39, 3) := by decide +kernel
theorem dX3_many_115 : decode cX3_many 115 = .ok (.getfield 74, 3) := by decide +kernel
theorem dX3_many_118 : decode cX3_many 118 = .ok (.isub, 1) := by decide +kernel
theorem dX3_many_119 : decode cX3_many 119 = .ok (.ireturn, 1) := by decide +kernel
theorem dX3_many_120 : decode cX3_many 120 = .ok (.aload_n 0, 1) := by decide +kernel
theorem dX3_many_121 : decode cX3_many 121 = .ok (.getfield 123, 3) := by decide +kernel
theorem dX3_many_124 : decode cX3_many 124 = .ok (.ireturn, 1) := by decide +kernel
theorem dX3_many_125 : decode cX3_many 125 = .ok (.aload_n 0, 1) := by decide +kernel
theorem dX3_many_126 : decode cX3_many 126 = .ok (.getfield 48, 3) := by decide +kernel
theorem dX3_many_129 : decode cX3_many 129 = .ok (.getfield 116, 3) := by decide +kernel
theorem dX3_many_132 : decode cX3_many 132 = .ok (.ireturn, 1) := by decide +kernel
theorem dX3_many_133 : decode cX3_many 133 = .ok (.aload_n 0, 1) := by decide +kernel
theorem dX3_many_134 : decode cX3_many 134 = .ok (.invokevirtual 193, 3) := by decide +kernel
theorem dX3_many_137 : decode cX3_many 137 = .ok (.ireturn, 1) := by decide +kernel
theorem dX3_many_138 : decode cX3_many 138 = .ok (.aload_n 0, 1) := by decide +kernel
theorem dX3_many_139 : decode cX3_many 139 = .ok (.getfield 48, 3) := by decide +kernel
theorem dX3_many_142 : decode cX3_many 142 = .ok (.invokevirtual 196, 3) := by decide +kernel
theorem dX3_many_145 : decode cX3_many 145 = .ok (.ireturn, 1) := by decide +kernel
theorem dX3_many_146 : decode cX3_many 146 = .ok (.aload_n 0, 1) := by decide +kernel
theorem dX3_many_147 : decode cX3_many 147 = .ok (.getfield 48, 3) := by decide +kernel
theorem dX3_many_150 : decode cX3_many 150 = .ok (.invokevirtual 199, 3) := by decide +kernel
theorem dX3_many_153 : decode cX3_many 153 = .ok (.ireturn, 1) := by decide +kernel
theorem dX3_many_154 : decode cX3_many 154 = .ok (.aload_n 0, 1) := by decide +kernel
theorem dX3_many_155 : decode cX3_many 155 = .ok (.invokevirtual 102, 3) := by decide +kernel
theorem dX3_many_158 : decode cX3_many 158 = .ok (.sipush 2000, 3) := by decide +kernel
theorem dX3_many_161 : decode cX3_many 161 = .ok (.iadd, 1) := by decide +kernel
theorem dX3_many_162 : decode cX3_many 162 = .ok (.ireturn, 1) := by decide +kernel
theorem dX3_many_163 : decode cX3_many 163 = .ok (.aload_n 0, 1) := by decide +kernel
theorem dX3_many_164 : decode cX3_many 164 = .ok (.invokevirtual 202, 3) := by decide +kernel
theorem dX3_many_167 : decode cX3_many 167 = .ok (.sipush 2000, 3) := by decide +kernel
theorem dX3_many_170 : decode cX3_many 170 = .ok (.iadd, 1) := by decide +kernel
theorem dX3_many_171 : decode cX3_many 171 = .ok (.ireturn, 1) := by decide +kernel
theorem dX3_many_172 : decode cX3_many 172 = .ok (.bipush (-2), 2) := by decide +kernel
theorem dX3_many_174 : decode cX3_many 174 = .ok (.ireturn, 1) := by decide +kernel
theorem dX3_isWithin_0 : decode cX3_isWithin 0 = .ok (.iload_n 0, 1) := by decide +kernel
theorem dX3_isWithin_1 : decode cX3_isWithin 1 = .ok (.iload_n 1, 1) := by decide +kernel
theorem dX3_isWithin_2 : decode cX3_isWithin 2 = .ok (.if_icmp .lt 12, 3) := by decide +kernel
theorem dX3_isWithin_5 : decode cX3_isWithin 5 = .ok (.iload_n 0, 1) := by decide +kernel
theorem dX3_isWithin_6 : decode cX3_isWithin 6 = .ok (.iload_n 2, 1) := by decide +kernel
theorem dX3_isWithin_7 : decode cX3_isWithin 7 = .ok (.if_icmp .gt 7, 3) := by decide +kernel
theorem dX3_isWithin_10 : decode cX3_isWithin 10 = .ok (.iconst 1, 1) := by decide +kernel
theorem dX3_isWithin_11 : decode cX3_isWithin 11 = .ok (.goto 4, 3) := by decide +kernel
theorem dX3_isWithin_14 : decode cX3_isWithin 14 = .ok (.iconst 0, 1) := by decide +kernel
theorem dX3_isWithin_15 : decode cX3_isWithin 15 = .ok (.ireturn, 1) := by decide +kernel
theorem dX3_isPlane_0 : decode cX3_isPlane 0 = .ok (.iload_n 0, 1) := by decide +kernel
theorem dX3_isPlane_1 : decode cX3_isPlane 1 = .ok (.iconst 0, 1) := by decide +kernel
theorem dX3_isPlane_2 : decode cX3_isPlane 2 = .ok (.iconst 5, 1) := by decide +kernel
theorem dX3_isPlane_3 : decode cX3_isPlane 3 = .ok (.invokestatic 66, 3) := by decide +kernel
theorem dX3_isPlane_6 : decode cX3_isPlane 6 = .ok (.ireturn, 1) := by decide +kernel
theorem dX3_isStrip_0 : decode cX3_isStrip 0 = .ok (.iload_n 0, 1) := by decide +kernel
theorem dX3_isStrip_1 : decode cX3_isStrip 1 = .ok (.iconst 0, 1) := by decide +kernel
theorem dX3_isStrip_2 : decode cX3_isStrip 2 = .ok (.bipush 15, 2) := by decide +kernel
theorem dX3_isStrip_4 : decode cX3_isStrip 4 = .ok (.invokestatic 66, 3) := by decide +kernel
theorem dX3_isStrip_7 : decode cX3_isStrip 7 = .ok (.ireturn, 1) := by decide +kernel
theorem dX3_isGroup_0 : decode cX3_isGroup 0 = .ok (.iload_n 1, 1) := by decide +kernel
theorem dX3_isGroup_1 : decode cX3_isGroup 1 = .ok (.iconst 0, 1) := by decide +kernel
theorem dX3_isGroup_2 : decode cX3_isGroup 2 = .ok (.aload_n 0, 1) := by decide +kernel
theorem dX3_isGroup_3 : decode cX3_isGroup 3 = .ok (.getfield 48, 3) := by decide +kernel
theorem dX3_isGroup_6 : decode cX3_isGroup 6 = .ok (.getfield 116, 3) := by decide +kernel
theorem dX3_isGroup_9 : decode cX3_isGroup 9 = .ok (.iconst 1, 1) := by decide +kernel
theorem dX3_isGroup_10 : decode cX3_isGroup 10 = .ok (.isub, 1) := by decide +kernel
theorem dX3_isGroup_11 : decode cX3_isGroup 11 = .ok (.invokestatic 66, 3) := by decide +kernel
theorem dX3_isGroup_14 : decode cX3_isGroup 14 = .ok (.ireturn, 1) := by decide +kernel
theorem dX3_hasBegun_0 : decode cX3_hasBegun 0 = .ok (.aload_n 0, 1) := by decide +kernel
theorem dX3_hasBegun_1 : decode cX3_hasBegun 1 = .ok (.getfield 35, 3) := by decide +kernel
theorem dX3_hasBegun_4 : decode cX3_hasBegun 4 = .ok (.getfield 74, 3) := by decide +kernel
theorem dX3_hasBegun_7 : decode cX3_hasBegun 7 = .ok (.ifCond .gt 10, 3) := by decide +kernel
theorem dX3_hasBegun_10 : decode cX3_hasBegun 10 = .ok (.aload_n 0, 1) := by decide +kernel
theorem dX3_hasBegun_11 : decode cX3_hasBegun 11 = .ok (.getfield 98, 3) := by decide +kernel
theorem dX3_hasBegun_14 : decode cX3_hasBegun 14 = .ok (.ifCond .eq 7, 3) := by decide +kernel
theorem dX3_hasBegun_17 : decode cX3_hasBegun 17 = .ok (.iconst 1, 1) := by decide +kernel
theorem dX3_hasBegun_18 : decode cX3_hasBegun 18 = .ok (.goto 4, 3) := by decide +kernel
theorem dX3_hasBegun_21 : decode cX3_hasBegun 21 = .ok (.iconst 0, 1) := by decide +kernel
theorem dX3_hasBegun_22 : decode cX3_hasBegun 22 = .ok (.ireturn, 1) := by decide +kernel
theorem dX3_horizon_0 : decode cX3_horizon 0 = .ok (.aload_n 0, 1) := by decide +kernel
theorem dX3_horizon_1 : decode cX3_horizon 1 = .ok (.getfield 98, 3) := by decide +kernel
theorem dX3_horizon_4 : decode cX3_horizon 4 = .ok (.ifCond .eq 7, 3) := by decide +kernel
theorem dX3_horizon_7 : decode cX3_horizon 7 = .ok (.sipush 20000, 3) := by decide +kernel
theorem dX3_horizon_10 : decode cX3_horizon 10 = .ok (.ireturn, 1) := by decide +kernel
theorem dX3_horizon_11 : decode cX3_horizon 11 = .ok (.aload_n 0, 1) := by decide +kernel
theorem dX3_horizon_12 : decode cX3_horizon 12 = .ok (.getfield 35, 3) := by decide +kernel
theorem dX3_horizon_15 : decode cX3_horizon 15 = .ok (.getfield 74, 3) := by decide +kernel
theorem dX3_horizon_18 : decode cX3_horizon 18 = .ok (.ifCond .ne 7, 3) := by decide +kernel
theorem dX3_horizon_21 : decode cX3_horizon 21 = .ok (.sipush (-1000), 3) := by decide +kernel
theorem dX3_horizon_24 : decode cX3_horizon 24 = .ok (.ireturn, 1) := by decide +kernel
theorem dX3_horizon_25 : decode cX3_horizon 25 = .ok (.aload_n 0, 1) := by decide +kernel
theorem dX3_horizon_26 : decode cX3_horizon 26 = .ok (.invokevirtual 205, 3) := by decide +kernel
theorem dX3_horizon_29 : decode cX3_horizon 29 = .ok (.aload_n 0, 1) := by decide +kernel
theorem dX3_horizon_30 : decode cX3_horizon 30 = .ok (.getfield 29, 3) := by decide +kernel
theorem dX3_horizon_33 : decode cX3_horizon 33 = .ok (.iconst 0, 1) := by decide +kernel
theorem dX3_horizon_34 : decode cX3_horizon 34 = .ok (.iaload, 1) := by decide +kernel
theorem dX3_horizon_35 : decode cX3_horizon 35 = .ok (.isub, 1) := by decide +kernel
theorem dX3_horizon_36 : decode cX3_horizon 36 = .ok (.ireturn, 1) := by decide +kernel
theorem dX3_latest_0 : decode cX3_latest 0 = .ok (.aload_n 0, 1) := by decide +kernel
theorem dX3_latest_1 : decode cX3_latest 1 = .ok (.getfield 35, 3) := by decide +kernel
theorem dX3_latest_4 : decode cX3_latest 4 = .ok (.getfield 74, 3) := by decide +kernel
theorem dX3_latest_7 : decode cX3_latest 7 = .ok (.ifCond .le 23, 3) := by decide +kernel
theorem dX3_latest_10 : decode cX3_latest 10 = .ok (.aload_n 0, 1) := by decide +kernel
theorem dX3_latest_11 : decode cX3_latest 11 = .ok (.getfield 35, 3) := by decide +kernel
theorem dX3_latest_14 : decode cX3_latest 14 = .ok (.getfield 132, 3) := by decide +kernel
theorem dX3_latest_17 : decode cX3_latest 17 = .ok (.aload_n 0, 1) := by decide +kernel
theorem dX3_latest_18 : decode cX3_latest 18 = .ok (.getfield 35, 3) := by decide +kernel
theorem dX3_latest_21 : decode cX3_latest 21 = .ok (.getfield 74, 3) := by decide +kernel
theorem dX3_latest_24 : decode cX3_latest 24 = .ok (.iconst 1, 1) := by decide +kernel
theorem dX3_latest_25 : decode cX3_latest 25 = .ok (.isub, 1) := by decide +kernel
theorem dX3_latest_26 : decode cX3_latest 26 = .ok (.iaload, 1) := by decide +kernel
theorem dX3_latest_27 : decode cX3_latest 27 = .ok (.goto 4, 3) := by decide +kernel
theorem dX3_latest_30 : decode cX3_latest 30 = .ok (.iconst (-1), 1) := by decide +kernel
theorem dX3_latest_31 : decode cX3_latest 31 = .ok (.ireturn, 1) := by decide +kernel
theorem dX3_span_0 : decode cX3_span 0 = .ok (.aload_n 0, 1) := by decide +kernel
theorem dX3_span_1 : decode cX3_span 1 = .ok (.invokevirtual 205, 3) := by decide +kernel
theorem dX3_span_4 : decode cX3_span 4 = .ok (.iconst 1, 1) := by decide +kernel
theorem dX3_span_5 : decode cX3_span 5 = .ok (.iadd, 1) := by decide +kernel
theorem dX3_span_6 : decode cX3_span 6 = .ok (.ireturn, 1) := by decide +kernel
theorem dX3_edge_0 : decode cX3_edge 0 = .ok (.iconst 0, 1) := by decide +kernel
theorem dX3_edge_1 : decode cX3_edge 1 = .ok (.istore_n 1, 1) := by decide +kernel
theorem dX3_edge_2 : decode cX3_edge 2 = .ok (.iconst 0, 1) := by decide +kernel
theorem dX3_edge_3 : decode cX3_edge 3 = .ok (.istore_n 2, 1) := by decide +kernel
theorem dX3_edge_4 : decode cX3_edge 4 = .ok (.iload_n 2, 1) := by decide +kernel
theorem dX3_edge_5 : decode cX3_edge 5 = .ok (.bipush 6, 2) := by decide +kernel
theorem dX3_edge_7 : decode cX3_edge 7 = .ok (.if_icmp .ge 20, 3) := by decide +kernel
theorem dX3_edge_10 : decode cX3_edge 10 = .ok (.iload_n 1, 1) := by decide +kernel
theorem dX3_edge_11 : decode cX3_edge 11 = .ok (.aload_n 0, 1) := by decide +kernel
theorem dX3_edge_12 : decode cX3_edge 12 = .ok (.getfield 11, 3) := by decide +kernel
theorem dX3_edge_15 : decode cX3_edge 15 = .ok (.iload_n 2, 1) := by decide +kernel
theorem dX3_edge_16 : decode cX3_edge 16 = .ok (.iaload, 1) := by decide +kernel
theorem dX3_edge_17 : decode cX3_edge 17 = .ok (.invokestatic 208, 3) := by decide +kernel
theorem dX3_edge_20 : decode cX3_edge 20 = .ok (.istore_n 1, 1) := by decide +kernel
theorem dX3_edge_21 : decode cX3_edge 21 = .ok (.iinc 2 1, 3) := by decide +kernel
theorem dX3_edge_24 : decode cX3_edge 24 = .ok (.goto (-20), 3) := by decide +kernel
theorem dX3_edge_27 : decode cX3_edge 27 = .ok (.aload_n 0, 1) := by decide +kernel
theorem dX3_edge_28 : decode cX3_edge 28 = .ok (.invokevirtual 102, 3) := by decide +kernel
theorem dX3_edge_31 : decode cX3_edge 31 = .ok (.iload_n 1, 1) := by decide +kernel
theorem dX3_edge_32 : decode cX3_edge 32 = .ok (.isub, 1) := by decide +kernel
theorem dX3_edge_33 : decode cX3_edge 33 = .ok (.ireturn, 1) := by decide +kernel
theorem dX3_follow_0 : decode cX3_follow 0 = .ok (.aload_n 0, 1) := by decide +kernel
theorem dX3_follow_1 : decode cX3_follow 1 = .ok (.aload_n 0, 1) := by decide +kernel
theorem dX3_follow_2 : decode cX3_follow 2 = .ok (.invokevirtual 102, 3) := by decide +kernel
theorem dX3_follow_5 : decode cX3_follow 5 = .ok (.invokevirtual 213, 3) := by decide +kernel
theorem dX3_follow_8 : decode cX3_follow 8 = .ok (.aload_n 0, 1) := by decide +kernel
theorem dX3_follow_9 : decode cX3_follow 9 = .ok (.invokevirtual 202, 3) := by decide +kernel
theorem dX3_follow_12 : decode cX3_follow 12 = .ok (.istore_n 1, 1) := by decide +kernel
theorem dX3_follow_13 : decode cX3_follow 13 = .ok (.aload_n 0, 1) := by decide +kernel
theorem dX3_follow_14 : decode cX3_follow 14 = .ok (.getfield 123, 3) := by decide +kernel
theorem dX3_follow_17 : decode cX3_follow 17 = .ok (.aload_n 0, 1) := by decide +kernel
theorem dX3_follow_18 : decode cX3_follow 18 = .ok (.getfield 39, 3) := by decide +kernel
theorem dX3_follow_21 : decode cX3_follow 21 = .ok (.getfield 74, 3) := by decide +kernel
theorem dX3_follow_24 : decode cX3_follow 24 = .ok (.if_icmp .ge 32, 3) := by decide +kernel
theorem dX3_follow_27 : decode cX3_follow 27 = .ok (.aload_n 0, 1) := by decide +kernel
theorem dX3_follow_28 : decode cX3_follow 28 = .ok (.getfield 39, 3) := by decide +kernel
theorem dX3_follow_31 : decode cX3_follow 31 = .ok (.getfield 132, 3) := by decide +kernel
theorem dX3_follow_34 : decode cX3_follow 34 = .ok (.aload_n 0, 1) := by decide +kernel
theorem dX3_follow_35 : decode cX3_follow 35 = .ok (.getfield 123, 3) := by decide +kernel
theorem dX3_follow_38 : decode cX3_follow 38 = .ok (.iaload, 1) := by decide +kernel
theorem dX3_follow_39 : decode cX3_follow 39 = .ok (.iload_n 1, 1) := by decide +kernel
theorem dX3_follow_40 : decode cX3_follow 40 = .ok (.if_icmp .ge 16, 3) := by decide +kernel
theorem dX3_follow_43 : decode cX3_follow 43 = .ok (.aload_n 0, 1) := by decide +kernel
theorem dX3_follow_44 : decode cX3_follow 44 = .ok (.dup, 1) := by decide +kernel
theorem dX3_follow_45 : decode cX3_follow 45 = .ok (.getfield 123, 3) := by decide +kernel
theorem dX3_follow_48 : decode cX3_follow 48 = .ok (.iconst 1, 1) := by decide +kernel
theorem dX3_follow_49 : decode cX3_follow 49 = .ok (.iadd, 1) := by decide +kernel
theorem dX3_follow_50 : decode cX3_follow 50 = .ok (.putfield 123, 3) := by decide +kernel
theorem dX3_follow_53 : decode cX3_follow 53 = .ok (.goto (-40), 3) := by decide +kernel
theorem dX3_follow_56 : decode cX3_follow 56 = .ok (.iconst 0, 1) := by decide +kernel
theorem dX3_follow_57 : decode cX3_follow 57 = .ok (.istore_n 2, 1) := by decide +kernel
theorem dX3_follow_58 : decode cX3_follow 58 = .ok (.iload_n 2, 1) := by decide +kernel
theorem dX3_follow_59 : decode cX3_follow 59 = .ok (.sipush 240, 3) := by decide +kernel
theorem dX3_follow_62 : decode cX3_follow 62 = .ok (.if_icmp .ge 21, 3) := by decide +kernel
theorem dX3_follow_65 : decode cX3_follow 65 = .ok (.aload_n 0, 1) := by decide +kernel
theorem dX3_follow_66 : decode cX3_follow 66 = .ok (.iload_n 1, 1) := by decide +kernel
theorem dX3_follow_67 : decode cX3_follow 67 = .ok (.invokevirtual 217, 3) := by decide +kernel
theorem dX3_follow_70 : decode cX3_follow 70 = .ok (.ifCond .eq 13, 3) := by decide +kernel
theorem dX3_follow_73 : decode cX3_follow 73 = .ok (.aload_n 0, 1) := by decide +kernel
theorem dX3_follow_74 : decode cX3_follow 74 = .ok (.invokevirtual 220, 3) := by decide +kernel
theorem dX3_follow_77 : decode cX3_follow 77 = .ok (.iinc 2 1, 3) := by decide +kernel
theorem dX3_follow_80 : decode cX3_follow 80 = .ok (.goto (-22), 3) := by decide +kernel
theorem dX3_follow_83 : decode cX3_follow 83 = .ok (.return_, 1) := by decide +kernel
theorem dX3_settleBelow_0 : decode cX3_settleBelow 0 = .ok (.aload_n 0, 1) := by decide +kernel
theorem dX3_settleBelow_1 : decode cX3_settleBelow 1 = .ok (.getfield 86, 3) := by decide +kernel
theorem dX3_settleBelow_4 : decode cX3_settleBelow 4 = .ok (.aload_n 0, 1) := by decide +kernel
theorem dX3_settleBelow_5 : decode cX3_settleBelow 5 = .ok (.getfield 35, 3) := by decide +kernel
theorem dX3_settleBelow_8 : decode cX3_settleBelow 8 = .ok (.getfield 74, 3) := by decide +kernel
theorem dX3_settleBelow_11 : decode cX3_settleBelow 11 = .ok (.if_icmp .ge 72, 3) := by decide +kernel
theorem dX3_settleBelow_14 : decode cX3_settleBelow 14 = .ok (.aload_n 0, 1) := by decide +kernel
theorem dX3_settleBelow_15 : decode cX3_settleBelow 15 = .ok (.getfield 35, 3) := by decide +kernel
theorem dX3_settleBelow_18 : decode cX3_settleBelow 18 = .ok (.getfield 132, 3) := by decide +kernel
theorem dX3_settleBelow_21 : decode cX3_settleBelow 21 = .ok (.aload_n 0, 1) := by decide +kernel
theorem dX3_settleBelow_22 : decode cX3_settleBelow 22 = .ok (.getfield 86, 3) := by decide +kernel
theorem dX3_settleBelow_25 : decode cX3_settleBelow 25 = .ok (.iaload, 1) := by decide +kernel
theorem dX3_settleBelow_26 : decode cX3_settleBelow 26 = .ok (.iload_n 1, 1) := by decide +kernel
theorem dX3_settleBelow_27 : decode cX3_settleBelow 27 = .ok (.if_icmp .ge 56, 3) := by decide +kernel
theorem dX3_settleBelow_30 : decode cX3_settleBelow 30 = .ok (.aload_n 0, 1) := by decide +kernel
theorem dX3_settleBelow_31 : decode cX3_settleBelow 31 = .ok (.aload_n 0, 1) := by decide +kernel
theorem dX3_settleBelow_32 : decode cX3_settleBelow 32 = .ok (.getfield 35, 3) := by decide +kernel
theorem dX3_settleBelow_35 : decode cX3_settleBelow 35 = .ok (.getfield 132, 3) := by decide +kernel
theorem dX3_settleBelow_38 : decode cX3_settleBelow 38 = .ok (.aload_n 0, 1) := by decide +kernel
theorem dX3_settleBelow_39 : decode cX3_settleBelow 39 = .ok (.getfield 86, 3) := by decide +kernel
theorem dX3_settleBelow_42 : decode cX3_settleBelow 42 = .ok (.iaload, 1) := by decide +kernel
theorem dX3_settleBelow_43 : decode cX3_settleBelow 43 = .ok (.aload_n 0, 1) := by decide +kernel
theorem dX3_settleBelow_44 : decode cX3_settleBelow 44 = .ok (.getfield 35, 3) := by decide +kernel
theorem dX3_settleBelow_47 : decode cX3_settleBelow 47 = .ok (.getfield 163, 3) := by decide +kernel
theorem dX3_settleBelow_50 : decode cX3_settleBelow 50 = .ok (.aload_n 0, 1) := by decide +kernel
theorem dX3_settleBelow_51 : decode cX3_settleBelow 51 = .ok (.getfield 86, 3) := by decide +kernel
theorem dX3_settleBelow_54 : decode cX3_settleBelow 54 = .ok (.iaload, 1) := by decide +kernel
theorem dX3_settleBelow_55 : decode cX3_settleBelow 55 = .ok (.aload_n 0, 1) := by decide +kernel
theorem dX3_settleBelow_56 : decode cX3_settleBelow 56 = .ok (.getfield 35, 3) := by decide +kernel
theorem dX3_settleBelow_59 : decode cX3_settleBelow 59 = .ok (.getfield 147, 3) := by decide +kernel
theorem dX3_settleBelow_62 : decode cX3_settleBelow 62 = .ok (.aload_n 0, 1) := by decide +kernel
theorem dX3_settleBelow_63 : decode cX3_settleBelow 63 = .ok (.getfield 86, 3) := by decide +kernel
theorem dX3_settleBelow_66 : decode cX3_settleBelow 66 = .ok (.iaload, 1) := by decide +kernel
theorem dX3_settleBelow_67 : decode cX3_settleBelow 67 = .ok (.invokevirtual 223, 3) := by decide +kernel
theorem dX3_settleBelow_70 : decode cX3_settleBelow 70 = .ok (.aload_n 0, 1) := by decide +kernel
theorem dX3_settleBelow_71 : decode cX3_settleBelow 71 = .ok (.dup, 1) := by decide +kernel
theorem dX3_settleBelow_72 : decode cX3_settleBelow 72 = .ok (.getfield 86, 3) := by decide +kernel
theorem dX3_settleBelow_75 : decode cX3_settleBelow 75 = .ok (.iconst 1, 1) := by decide +kernel
theorem dX3_settleBelow_76 : decode cX3_settleBelow 76 = .ok (.iadd, 1) := by decide +kernel
theorem dX3_settleBelow_77 : decode cX3_settleBelow 77 = .ok (.putfield 86, 3) := by decide +kernel
theorem dX3_settleBelow_80 : decode cX3_settleBelow 80 = .ok (.goto (-80), 3) := by decide +kernel
theorem dX3_settleBelow_83 : decode cX3_settleBelow 83 = .ok (.return_, 1) := by decide +kernel
theorem dX3_settle_0 : decode cX3_settle 0 = .ok (.iload_n 1, 1) := by decide +kernel
theorem dX3_settle_1 : decode cX3_settle 1 = .ok (.aload_n 0, 1) := by decide +kernel
theorem dX3_settle_2 : decode cX3_settle 2 = .ok (.getfield 59, 3) := by decide +kernel
theorem dX3_settle_5 : decode cX3_settle 5 = .ok (.iload_n 2, 1) := by decide +kernel
theorem dX3_settle_6 : decode cX3_settle 6 = .ok (.iaload, 1) := by decide +kernel
theorem dX3_settle_7 : decode cX3_settle 7 = .ok (.if_icmp .lt 7, 3) := by decide +kernel
theorem dX3_settle_10 : decode cX3_settle 10 = .ok (.iconst 1, 1) := by decide +kernel
theorem dX3_settle_11 : decode cX3_settle 11 = .ok (.goto 4, 3) := by decide +kernel
theorem dX3_settle_14 : decode cX3_settle 14 = .ok (.iconst 0, 1) := by decide +kernel
theorem dX3_settle_15 : decode cX3_settle 15 = .ok (.istore 4, 2) := by decide +kernel
theorem dX3_settle_17 : decode cX3_settle 17 = .ok (.iload 4, 2) := by decide +kernel
theorem dX3_settle_19 : decode cX3_settle 19 = .ok (.ifCond .eq 20, 3) := by decide +kernel
theorem dX3_settle_22 : decode cX3_settle 22 = .ok (.aload_n 0, 1) := by decide +kernel
theorem dX3_settle_23 : decode cX3_settle 23 = .ok (.getfield 39, 3) := by decide +kernel
theorem dX3_settle_26 : decode cX3_settle 26 = .ok (.iload_n 1, 1) := by decide +kernel
theorem dX3_settle_27 : decode cX3_settle 27 = .ok (.aload_n 0, 1) := by decide +kernel
theorem dX3_settle_28 : decode cX3_settle 28 = .ok (.getfield 11, 3) := by decide +kernel
theorem dX3_settle_31 : decode cX3_settle 31 = .ok (.iload_n 2, 1) := by decide +kernel
theorem dX3_settle_32 : decode cX3_settle 32 = .ok (.iaload, 1) := by decide +kernel
theorem dX3_settle_33 : decode cX3_settle 33 = .ok (.isub, 1) := by decide +kernel
theorem dX3_settle_34 : decode cX3_settle 34 = .ok (.iload_n 2, 1) := by decide +kernel
theorem dX3_settle_35 : decode cX3_settle 35 = .ok (.iload_n 3, 1) := by decide +kernel
theorem dX3_settle_36 : decode cX3_settle 36 = .ok (.invokevirtual 109, 3) := by decide +kernel
theorem dX3_settle_39 : decode cX3_settle 39 = .ok (.iload 4, 2) := by decide +kernel
theorem dX3_settle_41 : decode cX3_settle 41 = .ok (.ifCond .ne 13, 3) := by decide +kernel
theorem dX3_settle_44 : decode cX3_settle 44 = .ok (.aload_n 0, 1) := by decide +kernel
theorem dX3_settle_45 : decode cX3_settle 45 = .ok (.getfield 18, 3) := by decide +kernel
theorem dX3_settle_48 : decode cX3_settle 48 = .ok (.iload_n 2, 1) := by decide +kernel
theorem dX3_settle_49 : decode cX3_settle 49 = .ok (.iaload, 1) := by decide +kernel
theorem dX3_settle_50 : decode cX3_settle 50 = .ok (.iconst 1, 1) := by decide +kernel
theorem dX3_settle_51 : decode cX3_settle 51 = .ok (.if_icmp .ne 17, 3) := by decide +kernel
theorem dX3_settle_54 : decode cX3_settle 54 = .ok (.aload_n 0, 1) := by decide +kernel
theorem dX3_settle_55 : decode cX3_settle 55 = .ok (.getfield 59, 3) := by decide +kernel
theorem dX3_settle_58 : decode cX3_settle 58 = .ok (.iload_n 2, 1) := by decide +kernel
theorem dX3_settle_59 : decode cX3_settle 59 = .ok (.iload_n 1, 1) := by decide +kernel
theorem dX3_settle_60 : decode cX3_settle 60 = .ok (.aload_n 0, 1) := by decide +kernel
theorem dX3_settle_61 : decode cX3_settle 61 = .ok (.getfield 15, 3) := by decide +kernel
theorem dX3_settle_64 : decode cX3_settle 64 = .ok (.iload_n 2, 1) := by decide +kernel
theorem dX3_settle_65 : decode cX3_settle 65 = .ok (.iaload, 1) := by decide +kernel
theorem dX3_settle_66 : decode cX3_settle 66 = .ok (.iadd, 1) := by decide +kernel
theorem dX3_settle_67 : decode cX3_settle 67 = .ok (.iastore, 1) := by decide +kernel
theorem dX3_settle_68 : decode cX3_settle 68 = .ok (.return_, 1) := by decide +kernel
theorem dX3_nextGroupIsShut_0 : decode cX3_nextGroupIsShut 0 = .ok (.aload_n 0, 1) := by decide +kernel
theorem dX3_nextGroupIsShut_1 : decode cX3_nextGroupIsShut 1 = .ok (.getfield 48, 3) := by decide +kernel
theorem dX3_nextGroupIsShut_4 : decode cX3_nextGroupIsShut 4 = .ok (.invokevirtual 196, 3) := by decide +kernel
theorem dX3_nextGroupIsShut_7 : decode cX3_nextGroupIsShut 7 = .ok (.istore_n 2, 1) := by decide +kernel
theorem dX3_nextGroupIsShut_8 : decode cX3_nextGroupIsShut 8 = .ok (.iload_n 2, 1) := by decide +kernel
theorem dX3_nextGroupIsShut_9 : decode cX3_nextGroupIsShut 9 = .ok (.aload_n 0, 1) := by decide +kernel
theorem dX3_nextGroupIsShut_10 : decode cX3_nextGroupIsShut 10 = .ok (.getfield 123, 3) := by decide +kernel
theorem dX3_nextGroupIsShut_13 : decode cX3_nextGroupIsShut 13 = .ok (.if_icmp .ge 27, 3) := by decide +kernel
theorem dX3_nextGroupIsShut_16 : decode cX3_nextGroupIsShut 16 = .ok (.aload_n 0, 1) := by decide +kernel
theorem dX3_nextGroupIsShut_17 : decode cX3_nextGroupIsShut 17 = .ok (.getfield 39, 3) := by decide +kernel
theorem dX3_nextGroupIsShut_20 : decode cX3_nextGroupIsShut 20 = .ok (.getfield 132, 3) := by decide +kernel
theorem dX3_nextGroupIsShut_23 : decode cX3_nextGroupIsShut 23 = .ok (.iload_n 2, 1) := by decide +kernel
theorem dX3_nextGroupIsShut_24 : decode cX3_nextGroupIsShut 24 = .ok (.iaload, 1) := by decide +kernel
theorem dX3_nextGroupIsShut_25 : decode cX3_nextGroupIsShut 25 = .ok (.aload_n 0, 1) := by decide +kernel
theorem dX3_nextGroupIsShut_26 : decode cX3_nextGroupIsShut 26 = .ok (.getfield 29, 3) := by decide +kernel
theorem dX3_nextGroupIsShut_29 : decode cX3_nextGroupIsShut 29 = .ok (.iconst 1, 1) := by decide +kernel
theorem dX3_nextGroupIsShut_30 : decode cX3_nextGroupIsShut 30 = .ok (.iaload, 1) := by decide +kernel
theorem dX3_nextGroupIsShut_31 : decode cX3_nextGroupIsShut 31 = .ok (.iadd, 1) := by decide +kernel
theorem dX3_nextGroupIsShut_32 : decode cX3_nextGroupIsShut 32 = .ok (.iload_n 1, 1) := by decide +kernel
theorem dX3_nextGroupIsShut_33 : decode cX3_nextGroupIsShut 33 = .ok (.if_icmp .ge 7, 3) := by decide +kernel
theorem dX3_nextGroupIsShut_36 : decode cX3_nextGroupIsShut 36 = .ok (.iconst 1, 1) := by decide +kernel
theorem dX3_nextGroupIsShut_37 : decode cX3_nextGroupIsShut 37 = .ok (.goto 4, 3) := by decide +kernel
theorem dX3_nextGroupIsShut_40 : decode cX3_nextGroupIsShut 40 = .ok (.iconst 0, 1) := by decide +kernel
theorem dX3_nextGroupIsShut_41 : decode cX3_nextGroupIsShut 41 = .ok (.ireturn, 1) := by decide +kernel
theorem dX3_shutGroup_0 : decode cX3_shutGroup 0 = .ok (.aload_n 0, 1) := by decide +kernel
theorem dX3_shutGroup_1 : decode cX3_shutGroup 1 = .ok (.getfield 48, 3) := by decide +kernel
theorem dX3_shutGroup_4 : decode cX3_shutGroup 4 = .ok (.invokevirtual 196, 3) := by decide +kernel
theorem dX3_shutGroup_7 : decode cX3_shutGroup 7 = .ok (.istore_n 1, 1) := by decide +kernel
theorem dX3_shutGroup_8 : decode cX3_shutGroup 8 = .ok (.aload_n 0, 1) := by decide +kernel
theorem dX3_shutGroup_9 : decode cX3_shutGroup 9 = .ok (.getfield 39, 3) := by decide +kernel
theorem dX3_shutGroup_12 : decode cX3_shutGroup 12 = .ok (.iload_n 1, 1) := by decide +kernel
theorem dX3_shutGroup_13 : decode cX3_shutGroup 13 = .ok (.aload_n 0, 1) := by decide +kernel
theorem dX3_shutGroup_14 : decode cX3_shutGroup 14 = .ok (.getfield 123, 3) := by decide +kernel
theorem dX3_shutGroup_17 : decode cX3_shutGroup 17 = .ok (.aload_n 0, 1) := by decide +kernel
theorem dX3_shutGroup_18 : decode cX3_shutGroup 18 = .ok (.getfield 29, 3) := by decide +kernel
theorem dX3_shutGroup_21 : decode cX3_shutGroup 21 = .ok (.iconst 1, 1) := by decide +kernel
theorem dX3_shutGroup_22 : decode cX3_shutGroup 22 = .ok (.iaload, 1) := by decide +kernel
theorem dX3_shutGroup_23 : decode cX3_shutGroup 23 = .ok (.invokevirtual 154, 3) := by decide +kernel
theorem dX3_shutGroup_26 : decode cX3_shutGroup 26 = .ok (.istore_n 2, 1) := by decide +kernel
theorem dX3_shutGroup_27 : decode cX3_shutGroup 27 = .ok (.aload_n 0, 1) := by decide +kernel
theorem dX3_shutGroup_28 : decode cX3_shutGroup 28 = .ok (.getfield 39, 3) := by decide +kernel
theorem dX3_shutGroup_31 : decode cX3_shutGroup 31 = .ok (.iload_n 1, 1) := by decide +kernel
theorem dX3_shutGroup_32 : decode cX3_shutGroup 32 = .ok (.iload_n 2, 1) := by decide +kernel
theorem dX3_shutGroup_33 : decode cX3_shutGroup 33 = .ok (.aload_n 0, 1) := by decide +kernel
theorem dX3_shutGroup_34 : decode cX3_shutGroup 34 = .ok (.getfield 55, 3) := by decide +kernel
theorem dX3_shutGroup_37 : decode cX3_shutGroup 37 = .ok (.getfield 226, 3) := by decide +kernel
theorem dX3_shutGroup_40 : decode cX3_shutGroup 40 = .ok (.invokevirtual 229, 3) := by decide +kernel
theorem dX3_shutGroup_43 : decode cX3_shutGroup 43 = .ok (.aload_n 0, 1) := by decide +kernel
theorem dX3_shutGroup_44 : decode cX3_shutGroup 44 = .ok (.getfield 55, 3) := by decide +kernel
theorem dX3_shutGroup_47 : decode cX3_shutGroup 47 = .ok (.aload_n 0, 1) := by decide +kernel
theorem dX3_shutGroup_48 : decode cX3_shutGroup 48 = .ok (.getfield 29, 3) := by decide +kernel
theorem dX3_shutGroup_51 : decode cX3_shutGroup 51 = .ok (.iconst 3, 1) := by decide +kernel
theorem dX3_shutGroup_52 : decode cX3_shutGroup 52 = .ok (.iaload, 1) := by decide +kernel
theorem dX3_shutGroup_53 : decode cX3_shutGroup 53 = .ok (.aload_n 0, 1) := by decide +kernel
theorem dX3_shutGroup_54 : decode cX3_shutGroup 54 = .ok (.getfield 29, 3) := by decide +kernel
theorem dX3_shutGroup_57 : decode cX3_shutGroup 57 = .ok (.iconst 2, 1) := by decide +kernel
theorem dX3_shutGroup_58 : decode cX3_shutGroup 58 = .ok (.iaload, 1) := by decide +kernel
theorem dX3_shutGroup_59 : decode cX3_shutGroup 59 = .ok (.invokevirtual 233, 3) := by decide +kernel
theorem dX3_shutGroup_62 : decode cX3_shutGroup 62 = .ok (.aload_n 0, 1) := by decide +kernel
theorem dX3_shutGroup_63 : decode cX3_shutGroup 63 = .ok (.getfield 48, 3) := by decide +kernel
theorem dX3_shutGroup_66 : decode cX3_shutGroup 66 = .ok (.iload_n 2, 1) := by decide +kernel
theorem dX3_shutGroup_67 : decode cX3_shutGroup 67 = .ok (.aload_n 0, 1) := by decide +kernel
theorem dX3_shutGroup_68 : decode cX3_shutGroup 68 = .ok (.getfield 39, 3) := by decide +kernel
theorem dX3_shutGroup_71 : decode cX3_shutGroup 71 = .ok (.iload_n 1, 1) := by decide +kernel
theorem dX3_shutGroup_72 : decode cX3_shutGroup 72 = .ok (.iload_n 2, 1) := by decide +kernel
theorem dX3_shutGroup_73 : decode cX3_shutGroup 73 = .ok (.invokevirtual 157, 3) := by decide +kernel
theorem dX3_shutGroup_76 : decode cX3_shutGroup 76 = .ok (.aload_n 0, 1) := by decide +kernel
theorem dX3_shutGroup_77 : decode cX3_shutGroup 77 = .ok (.getfield 55, 3) := by decide +kernel
theorem dX3_shutGroup_80 : decode cX3_shutGroup 80 = .ok (.invokevirtual 237, 3) := by decide +kernel
theorem dX3_shutGroup_83 : decode cX3_shutGroup 83 = .ok (.return_, 1) := by decide +kernel
theorem dX3_liveOf_0 : decode cX3_liveOf 0 = .ok (.aload_n 0, 1) := by decide +kernel
theorem dX3_liveOf_1 : decode cX3_liveOf 1 = .ok (.getfield 39, 3) := by decide +kernel
theorem dX3_liveOf_4 : decode cX3_liveOf 4 = .ok (.iload_n 1, 1) := by decide +kernel
theorem dX3_liveOf_5 : decode cX3_liveOf 5 = .ok (.aload_n 0, 1) := by decide +kernel
theorem dX3_liveOf_6 : decode cX3_liveOf 6 = .ok (.getfield 39, 3) := by decide +kernel
theorem dX3_liveOf_9 : decode cX3_liveOf 9 = .ok (.getfield 74, 3) := by decide +kernel
theorem dX3_liveOf_12 : decode cX3_liveOf 12 = .ok (.invokevirtual 78, 3) := by decide +kernel
theorem dX3_liveOf_15 : decode cX3_liveOf 15 = .ok (.ireturn, 1) := by decide +kernel
theorem dX3_isCoincidence_0 : decode cX3_isCoincidence 0 = .ok (.iload_n 1, 1) := by decide +kernel
theorem dX3_isCoincidence_1 : decode cX3_isCoincidence 1 = .ok (.invokestatic 138, 3) := by decide +kernel
theorem dX3_isCoincidence_4 : decode cX3_isCoincidence 4 = .ok (.aload_n 0, 1) := by decide +kernel
theorem dX3_isCoincidence_5 : decode cX3_isCoincidence 5 = .ok (.getfield 29, 3) := by decide +kernel
theorem dX3_isCoincidence_8 : decode cX3_isCoincidence 8 = .ok (.iconst 2, 1) := by decide +kernel
theorem dX3_isCoincidence_9 : decode cX3_isCoincidence 9 = .ok (.iaload, 1) := by decide +kernel
theorem dX3_isCoincidence_10 : decode cX3_isCoincidence 10 = .ok (.if_icmp .lt 7, 3) := by decide +kernel
theorem dX3_isCoincidence_13 : decode cX3_isCoincidence 13 = .ok (.iconst 1, 1) := by decide +kernel
theorem dX3_isCoincidence_14 : decode cX3_isCoincidence 14 = .ok (.goto 4, 3) := by decide +kernel
theorem dX3_isCoincidence_17 : decode cX3_isCoincidence 17 = .ok (.iconst 0, 1) := by decide +kernel
theorem dX3_isCoincidence_18 : decode cX3_isCoincidence 18 = .ok (.ireturn, 1) := by decide +kernel
theorem dX3_coincidences_0 : decode cX3_coincidences 0 = .ok (.iconst 0, 1) := by decide +kernel
theorem dX3_coincidences_1 : decode cX3_coincidences 1 = .ok (.istore_n 1, 1) := by decide +kernel
theorem dX3_coincidences_2 : decode cX3_coincidences 2 = .ok (.iconst 0, 1) := by decide +kernel
theorem dX3_coincidences_3 : decode cX3_coincidences 3 = .ok (.istore_n 2, 1) := by decide +kernel
theorem dX3_coincidences_4 : decode cX3_coincidences 4 = .ok (.iload_n 2, 1) := by decide +kernel
theorem dX3_coincidences_5 : decode cX3_coincidences 5 = .ok (.aload_n 0, 1) := by decide +kernel
theorem dX3_coincidences_6 : decode cX3_coincidences 6 = .ok (.getfield 48, 3) := by decide +kernel
theorem dX3_coincidences_9 : decode cX3_coincidences 9 = .ok (.getfield 116, 3) := by decide +kernel
theorem dX3_coincidences_12 : decode cX3_coincidences 12 = .ok (.if_icmp .ge 28, 3) := by decide +kernel
theorem dX3_coincidences_15 : decode cX3_coincidences 15 = .ok (.aload_n 0, 1) := by decide +kernel
theorem dX3_coincidences_16 : decode cX3_coincidences 16 = .ok (.aload_n 0, 1) := by decide +kernel
theorem dX3_coincidences_17 : decode cX3_coincidences 17 = .ok (.getfield 48, 3) := by decide +kernel
theorem dX3_coincidences_20 : decode cX3_coincidences 20 = .ok (.getfield 135, 3) := by decide +kernel
theorem dX3_coincidences_23 : decode cX3_coincidences 23 = .ok (.iload_n 2, 1) := by decide +kernel
theorem dX3_coincidences_24 : decode cX3_coincidences 24 = .ok (.iaload, 1) := by decide +kernel
theorem dX3_coincidences_25 : decode cX3_coincidences 25 = .ok (.invokevirtual 160, 3) := by decide +kernel
theorem dX3_coincidences_28 : decode cX3_coincidences 28 = .ok (.ifCond .eq 6, 3) := by decide +kernel
theorem dX3_coincidences_31 : decode cX3_coincidences 31 = .ok (.iinc 1 1, 3) := by decide +kernel
theorem dX3_coincidences_34 : decode cX3_coincidences 34 = .ok (.iinc 2 1, 3) := by decide +kernel
theorem dX3_coincidences_37 : decode cX3_coincidences 37 = .ok (.goto (-33), 3) := by decide +kernel
theorem dX3_coincidences_40 : decode cX3_coincidences 40 = .ok (.iload_n 1, 1) := by decide +kernel
theorem dX3_coincidences_41 : decode cX3_coincidences 41 = .ok (.ireturn, 1) := by decide +kernel
theorem dX3_liveTime_0 : decode cX3_liveTime 0 = .ok (.aload_n 0, 1) := by decide +kernel
theorem dX3_liveTime_1 : decode cX3_liveTime 1 = .ok (.getfield 18, 3) := by decide +kernel
theorem dX3_liveTime_4 : decode cX3_liveTime 4 = .ok (.iload_n 1, 1) := by decide +kernel
theorem dX3_liveTime_5 : decode cX3_liveTime 5 = .ok (.iaload, 1) := by decide +kernel
theorem dX3_liveTime_6 : decode cX3_liveTime 6 = .ok (.ifCond .ne 7, 3) := by decide +kernel
theorem dX3_liveTime_9 : decode cX3_liveTime 9 = .ok (.iconst 1, 1) := by decide +kernel
theorem dX3_liveTime_10 : decode cX3_liveTime 10 = .ok (.goto 4, 3) := by decide +kernel
theorem dX3_liveTime_13 : decode cX3_liveTime 13 = .ok (.iconst 0, 1) := by decide +kernel
theorem dX3_liveTime_14 : decode cX3_liveTime 14 = .ok (.istore_n 2, 1) := by decide +kernel
theorem dX3_liveTime_15 : decode cX3_liveTime 15 = .ok (.iload_n 2, 1) := by decide +kernel
theorem dX3_liveTime_16 : decode cX3_liveTime 16 = .ok (.ifCond .eq 10, 3) := by decide +kernel
theorem dX3_liveTime_19 : decode cX3_liveTime 19 = .ok (.aload_n 0, 1) := by decide +kernel
theorem dX3_liveTime_20 : decode cX3_liveTime 20 = .ok (.getfield 39, 3) := by decide +kernel
theorem dX3_liveTime_23 : decode cX3_liveTime 23 = .ok (.goto 7, 3) := by decide +kernel
theorem dX3_liveTime_26 : decode cX3_liveTime 26 = .ok (.aload_n 0, 1) := by decide +kernel
theorem dX3_liveTime_27 : decode cX3_liveTime 27 = .ok (.getfield 35, 3) := by decide +kernel
theorem dX3_liveTime_30 : decode cX3_liveTime 30 = .ok (.astore_n 3, 1) := by decide +kernel
theorem dX3_liveTime_31 : decode cX3_liveTime 31 = .ok (.iload_n 2, 1) := by decide +kernel
theorem dX3_liveTime_32 : decode cX3_liveTime 32 = .ok (.ifCond .eq 12, 3) := by decide +kernel
theorem dX3_liveTime_35 : decode cX3_liveTime 35 = .ok (.aload_n 0, 1) := by decide +kernel
theorem dX3_liveTime_36 : decode cX3_liveTime 36 = .ok (.getfield 11, 3) := by decide +kernel
theorem dX3_liveTime_39 : decode cX3_liveTime 39 = .ok (.iload_n 1, 1) := by decide +kernel
theorem dX3_liveTime_40 : decode cX3_liveTime 40 = .ok (.iaload, 1) := by decide +kernel
theorem dX3_liveTime_41 : decode cX3_liveTime 41 = .ok (.goto 4, 3) := by decide +kernel
theorem dX3_liveTime_44 : decode cX3_liveTime 44 = .ok (.iconst 0, 1) := by decide +kernel
theorem dX3_liveTime_45 : decode cX3_liveTime 45 = .ok (.istore 4, 2) := by decide +kernel
theorem dX3_liveTime_47 : decode cX3_liveTime 47 = .ok (.iconst 0, 1) := by decide +kernel
theorem dX3_liveTime_48 : decode cX3_liveTime 48 = .ok (.istore 5, 2) := by decide +kernel
theorem dX3_liveTime_50 : decode cX3_liveTime 50 = .ok (.iconst 0, 1) := by decide +kernel
theorem dX3_liveTime_51 : decode cX3_liveTime 51 = .ok (.istore 6, 2) := by decide +kernel
theorem dX3_liveTime_53 : decode cX3_liveTime 53 = .ok (.iconst 0, 1) := by decide +kernel
theorem dX3_liveTime_54 : decode cX3_liveTime 54 = .ok (.istore 7, 2) := by decide +kernel
theorem dX3_liveTime_56 : decode cX3_liveTime 56 = .ok (.iload 7, 2) := by decide +kernel
theorem dX3_liveTime_58 : decode cX3_liveTime 58 = .ok (.aload_n 3, 1) := by decide +kernel
theorem dX3_liveTime_59 : decode cX3_liveTime 59 = .ok (.getfield 74, 3) := by decide +kernel
theorem dX3_liveTime_62 : decode cX3_liveTime 62 = .ok (.if_icmp .ge 60, 3) := by decide +kernel
theorem dX3_liveTime_65 : decode cX3_liveTime 65 = .ok (.aload_n 3, 1) := by decide +kernel
theorem dX3_liveTime_66 : decode cX3_liveTime 66 = .ok (.getfield 163, 3) := by decide +kernel
theorem dX3_liveTime_69 : decode cX3_liveTime 69 = .ok (.iload 7, 2) := by decide +kernel
theorem dX3_liveTime_71 : decode cX3_liveTime 71 = .ok (.iaload, 1) := by decide +kernel
theorem dX3_liveTime_72 : decode cX3_liveTime 72 = .ok (.iload_n 1, 1) := by decide +kernel
theorem dX3_liveTime_73 : decode cX3_liveTime 73 = .ok (.if_icmp .eq 6, 3) := by decide +kernel
theorem dX3_liveTime_76 : decode cX3_liveTime 76 = .ok (.goto 40, 3) := by decide +kernel
theorem dX3_liveTime_79 : decode cX3_liveTime 79 = .ok (.aload_n 3, 1) := by decide +kernel
theorem dX3_liveTime_80 : decode cX3_liveTime 80 = .ok (.getfield 132, 3) := by decide +kernel
theorem dX3_liveTime_83 : decode cX3_liveTime 83 = .ok (.iload 7, 2) := by decide +kernel
theorem dX3_liveTime_85 : decode cX3_liveTime 85 = .ok (.iaload, 1) := by decide +kernel
theorem dX3_liveTime_86 : decode cX3_liveTime 86 = .ok (.iload 4, 2) := by decide +kernel
theorem dX3_liveTime_88 : decode cX3_liveTime 88 = .ok (.iadd, 1) := by decide +kernel
theorem dX3_liveTime_89 : decode cX3_liveTime 89 = .ok (.istore 8, 2) := by decide +kernel
theorem dX3_liveTime_91 : decode cX3_liveTime 91 = .ok (.iload 5, 2) := by decide +kernel
theorem dX3_liveTime_93 : decode cX3_liveTime 93 = .ok (.iconst 0, 1) := by decide +kernel
theorem dX3_liveTime_94 : decode cX3_liveTime 94 = .ok (.iload 8, 2) := by decide +kernel
theorem dX3_liveTime_96 : decode cX3_liveTime 96 = .ok (.iload 6, 2) := by decide +kernel
theorem dX3_liveTime_98 : decode cX3_liveTime 98 = .ok (.isub, 1) := by decide +kernel
theorem dX3_liveTime_99 : decode cX3_liveTime 99 = .ok (.invokestatic 208, 3) := by decide +kernel
theorem dX3_liveTime_102 : decode cX3_liveTime 102 = .ok (.iadd, 1) := by decide +kernel
theorem dX3_liveTime_103 : decode cX3_liveTime 103 = .ok (.istore 5, 2) := by decide +kernel
theorem dX3_liveTime_105 : decode cX3_liveTime 105 = .ok (.iload 8, 2) := by decide +kernel
theorem dX3_liveTime_107 : decode cX3_liveTime 107 = .ok (.aload_n 0, 1) := by decide +kernel
theorem dX3_liveTime_108 : decode cX3_liveTime 108 = .ok (.getfield 15, 3) := by decide +kernel
theorem dX3_liveTime_111 : decode cX3_liveTime 111 = .ok (.iload_n 1, 1) := by decide +kernel
theorem dX3_liveTime_112 : decode cX3_liveTime 112 = .ok (.iaload, 1) := by decide +kernel
theorem dX3_liveTime_113 : decode cX3_liveTime 113 = .ok (.iadd, 1) := by decide +kernel
theorem dX3_liveTime_114 : decode cX3_liveTime 114 = .ok (.istore 6, 2) := by decide +kernel
theorem dX3_liveTime_116 : decode cX3_liveTime 116 = .ok (.iinc 7 1, 3) := by decide +kernel
theorem dX3_liveTime_119 : decode cX3_liveTime 119 = .ok (.goto (-63), 3) := by decide +kernel
theorem dX3_liveTime_122 : decode cX3_liveTime 122 = .ok (.iload 5, 2) := by decide +kernel
theorem dX3_liveTime_124 : decode cX3_liveTime 124 = .ok (.iconst 0, 1) := by decide +kernel
theorem dX3_liveTime_125 : decode cX3_liveTime 125 = .ok (.aload_n 0, 1) := by decide +kernel
theorem dX3_liveTime_126 : decode cX3_liveTime 126 = .ok (.invokevirtual 175, 3) := by decide +kernel
theorem dX3_liveTime_129 : decode cX3_liveTime 129 = .ok (.iload 6, 2) := by decide +kernel
theorem dX3_liveTime_131 : decode cX3_liveTime 131 = .ok (.isub, 1) := by decide +kernel
theorem dX3_liveTime_132 : decode cX3_liveTime 132 = .ok (.invokestatic 208, 3) := by decide +kernel
theorem dX3_liveTime_135 : decode cX3_liveTime 135 = .ok (.iadd, 1) := by decide +kernel
theorem dX3_liveTime_136 : decode cX3_liveTime 136 = .ok (.ireturn, 1) := by decide +kernel
theorem dX3_inLeastTerms_0 : decode cX3_inLeastTerms 0 = .ok (.lload_n 0, 1) := by decide +kernel
theorem dX3_inLeastTerms_1 : decode cX3_inLeastTerms 1 = .ok (.lload_n 2, 1) := by decide +kernel
theorem dX3_inLeastTerms_2 : decode cX3_inLeastTerms 2 = .ok (.invokestatic 241, 3) := by decide +kernel
theorem dX3_inLeastTerms_5 : decode cX3_inLeastTerms 5 = .ok (.lstore 5, 2) := by decide +kernel
theorem dX3_inLeastTerms_7 : decode cX3_inLeastTerms 7 = .ok (.lload_n 2, 1) := by decide +kernel
theorem dX3_inLeastTerms_8 : decode cX3_inLeastTerms 8 = .ok (.lconst 0, 1) := by decide +kernel
theorem dX3_inLeastTerms_9 : decode cX3_inLeastTerms 9 = .ok (.lcmp, 1) := by decide +kernel
theorem dX3_inLeastTerms_10 : decode cX3_inLeastTerms 10 = .ok (.ifCond .le 10, 3) := by decide +kernel
theorem dX3_inLeastTerms_13 : decode cX3_inLeastTerms 13 = .ok (.lload 5, 2) := by decide +kernel
theorem dX3_inLeastTerms_15 : decode cX3_inLeastTerms 15 = .ok (.lconst 0, 1) := by decide +kernel
theorem dX3_inLeastTerms_16 : decode cX3_inLeastTerms 16 = .ok (.lcmp, 1) := by decide +kernel
theorem dX3_inLeastTerms_17 : decode cX3_inLeastTerms 17 = .ok (.ifCond .gt 7, 3) := by decide +kernel
theorem dX3_inLeastTerms_20 : decode cX3_inLeastTerms 20 = .ok (.ldc2_w 169, 3) := by decide +kernel
theorem dX3_inLeastTerms_23 : decode cX3_inLeastTerms 23 = .ok (.lreturn, 1) := by decide +kernel
theorem dX3_inLeastTerms_24 : decode cX3_inLeastTerms 24 = .ok (.iload 4, 2) := by decide +kernel
theorem dX3_inLeastTerms_26 : decode cX3_inLeastTerms 26 = .ok (.ifCond .ne 7, 3) := by decide +kernel
theorem dX3_inLeastTerms_29 : decode cX3_inLeastTerms 29 = .ok (.lload_n 0, 1) := by decide +kernel
theorem dX3_inLeastTerms_30 : decode cX3_inLeastTerms 30 = .ok (.goto 4, 3) := by decide +kernel
theorem dX3_inLeastTerms_33 : decode cX3_inLeastTerms 33 = .ok (.lload_n 2, 1) := by decide +kernel
theorem dX3_inLeastTerms_34 : decode cX3_inLeastTerms 34 = .ok (.lload 5, 2) := by decide +kernel
theorem dX3_inLeastTerms_36 : decode cX3_inLeastTerms 36 = .ok (.ldiv, 1) := by decide +kernel
theorem dX3_inLeastTerms_37 : decode cX3_inLeastTerms 37 = .ok (.lreturn, 1) := by decide +kernel
theorem dX3_greatestDivisor_0 : decode cX3_greatestDivisor 0 = .ok (.iconst 0, 1) := by decide +kernel
theorem dX3_greatestDivisor_1 : decode cX3_greatestDivisor 1 = .ok (.istore 4, 2) := by decide +kernel
theorem dX3_greatestDivisor_3 : decode cX3_greatestDivisor 3 = .ok (.iload 4, 2) := by decide +kernel
theorem dX3_greatestDivisor_5 : decode cX3_greatestDivisor 5 = .ok (.bipush 100, 2) := by decide +kernel
theorem dX3_greatestDivisor_7 : decode cX3_greatestDivisor 7 = .ok (.if_icmp .ge 25, 3) := by decide +kernel
theorem dX3_greatestDivisor_10 : decode cX3_greatestDivisor 10 = .ok (.lload_n 2, 1) := by decide +kernel
theorem dX3_greatestDivisor_11 : decode cX3_greatestDivisor 11 = .ok (.lconst 0, 1) := by decide +kernel
theorem dX3_greatestDivisor_12 : decode cX3_greatestDivisor 12 = .ok (.lcmp, 1) := by decide +kernel
theorem dX3_greatestDivisor_13 : decode cX3_greatestDivisor 13 = .ok (.ifCond .le 19, 3) := by decide +kernel
theorem dX3_greatestDivisor_16 : decode cX3_greatestDivisor 16 = .ok (.lload_n 0, 1) := by decide +kernel
theorem dX3_greatestDivisor_17 : decode cX3_greatestDivisor 17 = .ok (.lload_n 2, 1) := by decide +kernel
theorem dX3_greatestDivisor_18 : decode cX3_greatestDivisor 18 = .ok (.lrem, 1) := by decide +kernel
theorem dX3_greatestDivisor_19 : decode cX3_greatestDivisor 19 = .ok (.lstore 5, 2) := by decide +kernel
theorem dX3_greatestDivisor_21 : decode cX3_greatestDivisor 21 = .ok (.lload_n 2, 1) := by decide +kernel
theorem dX3_greatestDivisor_22 : decode cX3_greatestDivisor 22 = .ok (.lstore_n 0, 1) := by decide +kernel
theorem dX3_greatestDivisor_23 : decode cX3_greatestDivisor 23 = .ok (.lload 5, 2) := by decide +kernel
theorem dX3_greatestDivisor_25 : decode cX3_greatestDivisor 25 = .ok (.lstore_n 2, 1) := by decide +kernel
theorem dX3_greatestDivisor_26 : decode cX3_greatestDivisor 26 = .ok (.iinc 4 1, 3) := by decide +kernel
theorem dX3_greatestDivisor_29 : decode cX3_greatestDivisor 29 = .ok (.goto (-26), 3) := by decide +kernel
theorem dX3_greatestDivisor_32 : decode cX3_greatestDivisor 32 = .ok (.lload_n 0, 1) := by decide +kernel
theorem dX3_greatestDivisor_33 : decode cX3_greatestDivisor 33 = .ok (.lreturn, 1) := by decide +kernel
theorem dX4_init_0 : decode cX4_init 0 = .ok (.aload_n 0, 1) := by decide +kernel
theorem dX4_init_1 : decode cX4_init 1 = .ok (.invokespecial 1, 3) := by decide +kernel
theorem dX4_init_4 : decode cX4_init 4 = .ok (.aload_n 0, 1) := by decide +kernel
theorem dX4_init_5 : decode cX4_init 5 = .ok (.bipush 6, 2) := by decide +kernel
theorem dX4_init_7 : decode cX4_init 7 = .ok (.newarray .int, 2) := by decide +kernel
theorem dX4_init_9 : decode cX4_init 9 = .ok (.putfield 7, 3) := by decide +kernel
theorem dX4_init_12 : decode cX4_init 12 = .ok (.aload_n 0, 1) := by decide +kernel
theorem dX4_init_13 : decode cX4_init 13 = .ok (.bipush 6, 2) := by decide +kernel
theorem dX4_init_15 : decode cX4_init 15 = .ok (.newarray .int, 2) := by decide +kernel
theorem dX4_init_17 : decode cX4_init 17 = .ok (.putfield 13, 3) := by decide +kernel
theorem dX4_init_20 : decode cX4_init 20 = .ok (.aload_n 0, 1) := by decide +kernel
theorem dX4_init_21 : decode cX4_init 21 = .ok (.bipush 6, 2) := by decide +kernel
theorem dX4_init_23 : decode cX4_init 23 = .ok (.newarray .int, 2) := by decide +kernel
theorem dX4_init_25 : decode cX4_init 25 = .ok (.putfield 16, 3) := by decide +kernel
theorem dX4_init_28 : decode cX4_init 28 = .ok (.aload_n 0, 1) := by decide +kernel
theorem dX4_init_29 : decode cX4_init 29 = .ok (.iconst 4, 1) := by decide +kernel
theorem dX4_init_30 : decode cX4_init 30 = .ok (.newarray .int, 2) := by decide +kernel
theorem dX4_init_32 : decode cX4_init 32 = .ok (.dup, 1) := by decide +kernel
theorem dX4_init_33 : decode cX4_init 33 = .ok (.iconst 0, 1) := by decide +kernel
theorem dX4_init_34 : decode cX4_init 34 = .ok (.bipush 20, 2) := by decide +kernel
theorem dX4_init_36 : decode cX4_init 36 = .ok (.iastore, 1) := by decide +kernel
theorem dX4_init_37 : decode cX4_init 37 = .ok (.dup, 1) := by decide +kernel
theorem dX4_init_38 : decode cX4_init 38 = .ok (.iconst 1, 1) := by decide +kernel
theorem dX4_init_39 : decode cX4_init 39 = .ok (.iconst 5, 1) := by decide +kernel
theorem dX4_init_40 : decode cX4_init 40 = .ok (.iastore, 1) := by decide +kernel
theorem dX4_init_41 : decode cX4_init 41 = .ok (.dup, 1) := by decide +kernel
theorem dX4_init_42 : decode cX4_init 42 = .ok (.iconst 2, 1) := by decide +kernel
theorem dX4_init_43 : decode cX4_init 43 = .ok (.iconst 2, 1) := by decide +kernel
theorem dX4_init_44 : decode cX4_init 44 = .ok (.iastore, 1) := by decide +kernel
theorem dX4_init_45 : decode cX4_init 45 = .ok (.dup, 1) := by decide +kernel
theorem dX4_init_46 : decode cX4_init 46 = .ok (.iconst 3, 1) := by decide +kernel
theorem dX4_init_47 : decode cX4_init 47 = .ok (.iconst 1, 1) := by decide +kernel
theorem dX4_init_48 : decode cX4_init 48 = .ok (.iastore, 1) := by decide +kernel
theorem dX4_init_49 : decode cX4_init 49 = .ok (.putfield 19, 3) := by decide +kernel
theorem dX4_init_52 : decode cX4_init 52 = .ok (.aload_n 0, 1) := by decide +kernel
theorem dX4_init_53 : decode cX4_init 53 = .ok (.iconst 4, 1) := by decide +kernel
theorem dX4_init_54 : decode cX4_init 54 = .ok (.newarray .int, 2) := by decide +kernel
theorem dX4_init_56 : decode cX4_init 56 = .ok (.dup, 1) := by decide +kernel
theorem dX4_init_57 : decode cX4_init 57 = .ok (.iconst 0, 1) := by decide +kernel
theorem dX4_init_58 : decode cX4_init 58 = .ok (.iconst 0, 1) := by decide +kernel
theorem dX4_init_59 : decode cX4_init 59 = .ok (.iastore, 1) := by decide +kernel
theorem dX4_init_60 : decode cX4_init 60 = .ok (.dup, 1) := by decide +kernel
theorem dX4_init_61 : decode cX4_init 61 = .ok (.iconst 1, 1) := by decide +kernel
theorem dX4_init_62 : decode cX4_init 62 = .ok (.iconst 0, 1) := by decide +kernel
theorem dX4_init_63 : decode cX4_init 63 = .ok (.iastore, 1) := by decide +kernel
theorem dX4_init_64 : decode cX4_init 64 = .ok (.dup, 1) := by decide +kernel
theorem dX4_init_65 : decode cX4_init 65 = .ok (.iconst 2, 1) := by decide +kernel
theorem dX4_init_66 : decode cX4_init 66 = .ok (.iconst 2, 1) := by decide +kernel
theorem dX4_init_67 : decode cX4_init 67 = .ok (.iastore, 1) := by decide +kernel
theorem dX4_init_68 : decode cX4_init 68 = .ok (.dup, 1) := by decide +kernel
theorem dX4_init_69 : decode cX4_init 69 = .ok (.iconst 3, 1) := by decide +kernel
theorem dX4_init_70 : decode cX4_init 70 = .ok (.iconst 0, 1) := by decide +kernel
theorem dX4_init_71 : decode cX4_init 71 = .ok (.iastore, 1) := by decide +kernel
theorem dX4_init_72 : decode cX4_init 72 = .ok (.putfield 22, 3) := by decide +kernel
theorem dX4_init_75 : decode cX4_init 75 = .ok (.aload_n 0, 1) := by decide +kernel
theorem dX4_init_76 : decode cX4_init 76 = .ok (.iconst 4, 1) := by decide +kernel
theorem dX4_init_77 : decode cX4_init 77 = .ok (.newarray .int, 2) := by decide +kernel
theorem dX4_init_79 : decode cX4_init 79 = .ok (.dup, 1) := by decide +kernel
theorem dX4_init_80 : decode cX4_init 80 = .ok (.iconst 0, 1) := by decide +kernel
theorem dX4_init_81 : decode cX4_init 81 = .ok (.bipush 100, 2) := by decide +kernel
theorem dX4_init_83 : decode cX4_init 83 = .ok (.iastore, 1) := by decide +kernel
theorem dX4_init_84 : decode cX4_init 84 = .ok (.dup, 1) := by decide +kernel
theorem dX4_init_85 : decode cX4_init 85 = .ok (.iconst 1, 1) := by decide +kernel
theorem dX4_init_86 : decode cX4_init 86 = .ok (.bipush 40, 2) := by decide +kernel
theorem dX4_init_88 : decode cX4_init 88 = .ok (.iastore, 1) := by decide +kernel
theorem dX4_init_89 : decode cX4_init 89 = .ok (.dup, 1) := by decide +kernel
theorem dX4_init_90 : decode cX4_init 90 = .ok (.iconst 2, 1) := by decide +kernel
theorem dX4_init_91 : decode cX4_init 91 = .ok (.bipush 6, 2) := by decide +kernel
theorem dX4_init_93 : decode cX4_init 93 = .ok (.iastore, 1) := by decide +kernel
theorem dX4_init_94 : decode cX4_init 94 = .ok (.dup, 1) := by decide +kernel
theorem dX4_init_95 : decode cX4_init 95 = .ok (.iconst 3, 1) := by decide +kernel
theorem dX4_init_96 : decode cX4_init 96 = .ok (.iconst 3, 1) := by decide +kernel
theorem dX4_init_97 : decode cX4_init 97 = .ok (.iastore, 1) := by decide +kernel
theorem dX4_init_98 : decode cX4_init 98 = .ok (.putfield 25, 3) := by decide +kernel
theorem dX4_init_101 : decode cX4_init 101 = .ok (.aload_n 0, 1) := by decide +kernel
theorem dX4_init_102 : decode cX4_init 102 = .ok (.sipush 241, 3) := by decide +kernel
theorem dX4_init_105 : decode cX4_init 105 = .ok (.newarray .int, 2) := by decide +kernel
theorem dX4_init_107 : decode cX4_init 107 = .ok (.putfield 28, 3) := by decide +kernel
theorem dX4_init_110 : decode cX4_init 110 = .ok (.aload_n 0, 1) := by decide +kernel
theorem dX4_init_111 : decode cX4_init 111 = .ok (.sipush 241, 3) := by decide +kernel
theorem dX4_init_114 : decode cX4_init 114 = .ok (.newarray .int, 2) := by decide +kernel
theorem dX4_init_116 : decode cX4_init 116 = .ok (.putfield 31, 3) := by decide +kernel
theorem dX4_init_119 : decode cX4_init 119 = .ok (.aload_n 0, 1) := by decide +kernel
theorem dX4_init_120 : decode cX4_init 120 = .ok (.sipush 241, 3) := by decide +kernel
theorem dX4_init_123 : decode cX4_init 123 = .ok (.newarray .int, 2) := by decide +kernel
theorem dX4_init_125 : decode cX4_init 125 = .ok (.putfield 34, 3) := by decide +kernel
theorem dX4_init_128 : decode cX4_init 128 = .ok (.aload_n 0, 1) := by decide +kernel
theorem dX4_init_129 : decode cX4_init 129 = .ok (.sipush 240, 3) := by decide +kernel
theorem dX4_init_132 : decode cX4_init 132 = .ok (.newarray .boolean, 2) := by decide +kernel
theorem dX4_init_134 : decode cX4_init 134 = .ok (.putfield 37, 3) := by decide +kernel
theorem dX4_init_137 : decode cX4_init 137 = .ok (.aload_n 0, 1) := by decide +kernel
theorem dX4_init_138 : decode cX4_init 138 = .ok (.bipush 6, 2) := by decide +kernel
theorem dX4_init_140 : decode cX4_init 140 = .ok (.newarray .int, 2) := by decide +kernel
theorem dX4_init_142 : decode cX4_init 142 = .ok (.putfield 41, 3) := by decide +kernel
theorem dX4_init_145 : decode cX4_init 145 = .ok (.aload_n 0, 1) := by decide +kernel
theorem dX4_init_146 : decode cX4_init 146 = .ok (.sipush 240, 3) := by decide +kernel
theorem dX4_init_149 : decode cX4_init 149 = .ok (.newarray .int, 2) := by decide +kernel
theorem dX4_init_151 : decode cX4_init 151 = .ok (.putfield 44, 3) := by decide +kernel
theorem dX4_init_154 : decode cX4_init 154 = .ok (.aload_n 0, 1) := by decide +kernel
theorem dX4_init_155 : decode cX4_init 155 = .ok (.sipush 240, 3) := by decide +kernel
theorem dX4_init_158 : decode cX4_init 158 = .ok (.newarray .int, 2) := by decide +kernel
theorem dX4_init_160 : decode cX4_init 160 = .ok (.putfield 47, 3) := by decide +kernel
theorem dX4_init_163 : decode cX4_init 163 = .ok (.aload_n 0, 1) := by decide +kernel
theorem dX4_init_164 : decode cX4_init 164 = .ok (.sipush 240, 3) := by decide +kernel
theorem dX4_init_167 : decode cX4_init 167 = .ok (.newarray .int, 2) := by decide +kernel
theorem dX4_init_169 : decode cX4_init 169 = .ok (.putfield 50, 3) := by decide +kernel
theorem dX4_init_172 : decode cX4_init 172 = .ok (.aload_n 0, 1) := by decide +kernel
theorem dX4_init_173 : decode cX4_init 173 = .ok (.sipush 240, 3) := by decide +kernel
theorem dX4_init_176 : decode cX4_init 176 = .ok (.newarray .int, 2) := by decide +kernel
theorem dX4_init_178 : decode cX4_init 178 = .ok (.putfield 53, 3) := by decide +kernel
theorem dX4_init_181 : decode cX4_init 181 = .ok (.return_, 1) := by decide +kernel
theorem dX4_within_0 : decode cX4_within 0 = .ok (.iload_n 0, 1) := by decide +kernel
theorem dX4_within_1 : decode cX4_within 1 = .ok (.iload_n 1, 1) := by decide +kernel
theorem dX4_within_2 : decode cX4_within 2 = .ok (.if_icmp .lt 12, 3) := by decide +kernel
theorem dX4_within_5 : decode cX4_within 5 = .ok (.iload_n 0, 1) := by decide +kernel
theorem dX4_within_6 : decode cX4_within 6 = .ok (.iload_n 2, 1) := by decide +kernel
theorem dX4_within_7 : decode cX4_within 7 = .ok (.if_icmp .gt 7, 3) := by decide +kernel
theorem dX4_within_10 : decode cX4_within 10 = .ok (.iconst 1, 1) := by decide +kernel
theorem dX4_within_11 : decode cX4_within 11 = .ok (.goto 4, 3) := by decide +kernel
theorem dX4_within_14 : decode cX4_within 14 = .ok (.iconst 0, 1) := by decide +kernel
theorem dX4_within_15 : decode cX4_within 15 = .ok (.ireturn, 1) := by decide +kernel
theorem dX4_isPlane_0 : decode cX4_isPlane 0 = .ok (.iload_n 0, 1) := by decide +kernel
theorem dX4_isPlane_1 : decode cX4_isPlane 1 = .ok (.iconst 0, 1) := by decide +kernel
theorem dX4_isPlane_2 : decode cX4_isPlane 2 = .ok (.iconst 5, 1) := by decide +kernel
theorem dX4_isPlane_3 : decode cX4_isPlane 3 = .ok (.invokestatic 56, 3) := by decide +kernel
theorem dX4_isPlane_6 : decode cX4_isPlane 6 = .ok (.ireturn, 1) := by decide +kernel
theorem dX4_isBegun_0 : decode cX4_isBegun 0 = .ok (.aload_n 0, 1) := by decide +kernel
theorem dX4_isBegun_1 : decode cX4_isBegun 1 = .ok (.getfield 60, 3) := by decide +kernel
theorem dX4_isBegun_4 : decode cX4_isBegun 4 = .ok (.ifCond .gt 10, 3) := by decide +kernel
theorem dX4_isBegun_7 : decode cX4_isBegun 7 = .ok (.aload_n 0, 1) := by decide +kernel
theorem dX4_isBegun_8 : decode cX4_isBegun 8 = .ok (.getfield 64, 3) := by decide +kernel
theorem dX4_isBegun_11 : decode cX4_isBegun 11 = .ok (.ifCond .eq 7, 3) := by decide +kernel
theorem dX4_isBegun_14 : decode cX4_isBegun 14 = .ok (.iconst 1, 1) := by decide +kernel
theorem dX4_isBegun_15 : decode cX4_isBegun 15 = .ok (.goto 4, 3) := by decide +kernel
theorem dX4_isBegun_18 : decode cX4_isBegun 18 = .ok (.iconst 0, 1) := by decide +kernel
theorem dX4_isBegun_19 : decode cX4_isBegun 19 = .ok (.ireturn, 1) := by decide +kernel
theorem dX4_plane_0 : decode cX4_plane 0 = .ok (.iload_n 1, 1) := by decide +kernel
theorem dX4_plane_1 : decode cX4_plane 1 = .ok (.invokestatic 68, 3) := by decide +kernel
theorem dX4_plane_4 : decode cX4_plane 4 = .ok (.ifCond .ne 5, 3) := by decide +kernel
theorem dX4_plane_7 : decode cX4_plane 7 = .ok (.iconst (-1), 1) := by decide +kernel
theorem dX4_plane_8 : decode cX4_plane 8 = .ok (.ireturn, 1) := by decide +kernel
theorem dX4_plane_9 : decode cX4_plane 9 = .ok (.iload_n 2, 1) := by decide +kernel
theorem dX4_plane_10 : decode cX4_plane 10 = .ok (.iconst 0, 1) := by decide +kernel
theorem dX4_plane_11 : decode cX4_plane 11 = .ok (.bipush 30, 2) := by decide +kernel
theorem dX4_plane_13 : decode cX4_plane 13 = .ok (.invokestatic 56, 3) := by decide +kernel
theorem dX4_plane_16 : decode cX4_plane 16 = .ok (.ifCond .eq 23, 3) := by decide +kernel
theorem dX4_plane_19 : decode cX4_plane 19 = .ok (.iload_n 3, 1) := by decide +kernel
theorem dX4_plane_20 : decode cX4_plane 20 = .ok (.iconst 0, 1) := by decide +kernel
theorem dX4_plane_21 : decode cX4_plane 21 = .ok (.bipush 50, 2) := by decide +kernel
theorem dX4_plane_23 : decode cX4_plane 23 = .ok (.invokestatic 56, 3) := by decide +kernel
theorem dX4_plane_26 : decode cX4_plane 26 = .ok (.ifCond .eq 13, 3) := by decide +kernel
theorem dX4_plane_29 : decode cX4_plane 29 = .ok (.iload 4, 2) := by decide +kernel
theorem dX4_plane_31 : decode cX4_plane 31 = .ok (.iconst 0, 1) := by decide +kernel
theorem dX4_plane_32 : decode cX4_plane 32 = .ok (.iconst 1, 1) := by decide +kernel
theorem dX4_plane_33 : decode cX4_plane 33 = .ok (.invokestatic 56, 3) := by decide +kernel
theorem dX4_plane_36 : decode cX4_plane 36 = .ok (.ifCond .ne 6, 3) := by decide +kernel
theorem dX4_plane_39 : decode cX4_plane 39 = .ok (.bipush (-2), 2) := by decide +kernel
theorem dX4_plane_41 : decode cX4_plane 41 = .ok (.ireturn, 1) := by decide +kernel
theorem dX4_plane_42 : decode cX4_plane 42 = .ok (.aload_n 0, 1) := by decide +kernel
theorem dX4_plane_43 : decode cX4_plane 43 = .ok (.invokevirtual 72, 3) := by decide +kernel
theorem dX4_plane_46 : decode cX4_plane 46 = .ok (.ifCond .eq 6, 3) := by decide +kernel
theorem dX4_plane_49 : decode cX4_plane 49 = .ok (.bipush (-3), 2) := by decide +kernel
theorem dX4_plane_51 : decode cX4_plane 51 = .ok (.ireturn, 1) := by decide +kernel
theorem dX4_plane_52 : decode cX4_plane 52 = .ok (.aload_n 0, 1) := by decide +kernel
theorem dX4_plane_53 : decode cX4_plane 53 = .ok (.getfield 7, 3) := by decide +kernel
theorem dX4_plane_56 : decode cX4_plane 56 = .ok (.iload_n 1, 1) := by decide +kernel
theorem dX4_plane_57 : decode cX4_plane 57 = .ok (.iload_n 2, 1) := by decide +kernel
theorem dX4_plane_58 : decode cX4_plane 58 = .ok (.iastore, 1) := by decide +kernel
theorem dX4_plane_59 : decode cX4_plane 59 = .ok (.aload_n 0, 1) := by decide +kernel
theorem dX4_plane_60 : decode cX4_plane 60 = .ok (.getfield 13, 3) := by decide +kernel
theorem dX4_plane_63 : decode cX4_plane 63 = .ok (.iload_n 1, 1) := by decide +kernel
theorem dX4_plane_64 : decode cX4_plane 64 = .ok (.iload_n 3, 1) := by decide +kernel
theorem dX4_plane_65 : decode cX4_plane 65 = .ok (.iastore, 1) := by decide +kernel
theorem dX4_plane_66 : decode cX4_plane 66 = .ok (.aload_n 0, 1) := by decide +kernel
theorem dX4_plane_67 : decode cX4_plane 67 = .ok (.getfield 16, 3) := by decide +kernel
theorem dX4_plane_70 : decode cX4_plane 70 = .ok (.iload_n 1, 1) := by decide +kernel
theorem dX4_plane_71 : decode cX4_plane 71 = .ok (.iload 4, 2) := by decide +kernel
theorem dX4_plane_73 : decode cX4_plane 73 = .ok (.iastore, 1) := by decide +kernel
theorem dX4_plane_74 : decode cX4_plane 74 = .ok (.iconst 1, 1) := by decide +kernel
theorem dX4_plane_75 : decode cX4_plane 75 = .ok (.ireturn, 1) := by decide +kernel
theorem dX4_tune_0 : decode cX4_tune 0 = .ok (.iload_n 1, 1) := by decide +kernel
theorem dX4_tune_1 : decode cX4_tune 1 = .ok (.iconst 0, 1) := by decide +kernel
theorem dX4_tune_2 : decode cX4_tune 2 = .ok (.iconst 3, 1) := by decide +kernel
theorem dX4_tune_3 : decode cX4_tune 3 = .ok (.invokestatic 56, 3) := by decide +kernel
theorem dX4_tune_6 : decode cX4_tune 6 = .ok (.ifCond .eq 22, 3) := by decide +kernel
theorem dX4_tune_9 : decode cX4_tune 9 = .ok (.iload_n 2, 1) := by decide +kernel
theorem dX4_tune_10 : decode cX4_tune 10 = .ok (.aload_n 0, 1) := by decide +kernel
theorem dX4_tune_11 : decode cX4_tune 11 = .ok (.getfield 22, 3) := by decide +kernel
theorem dX4_tune_14 : decode cX4_tune 14 = .ok (.iload_n 1, 1) := by decide +kernel
theorem dX4_tune_15 : decode cX4_tune 15 = .ok (.iaload, 1) := by decide +kernel
theorem dX4_tune_16 : decode cX4_tune 16 = .ok (.aload_n 0, 1) := by decide +kernel
theorem dX4_tune_17 : decode cX4_tune 17 = .ok (.getfield 25, 3) := by decide +kernel
theorem dX4_tune_20 : decode cX4_tune 20 = .ok (.iload_n 1, 1) := by decide +kernel
theorem dX4_tune_21 : decode cX4_tune 21 = .ok (.iaload, 1) := by decide +kernel
theorem dX4_tune_22 : decode cX4_tune 22 = .ok (.invokestatic 56, 3) := by decide +kernel
theorem dX4_tune_25 : decode cX4_tune 25 = .ok (.ifCond .ne 6, 3) := by decide +kernel
theorem dX4_tune_28 : decode cX4_tune 28 = .ok (.bipush (-2), 2) := by decide +kernel
theorem dX4_tune_30 : decode cX4_tune 30 = .ok (.ireturn, 1) := by decide +kernel
theorem dX4_tune_31 : decode cX4_tune 31 = .ok (.aload_n 0, 1) := by decide +kernel
theorem dX4_tune_32 : decode cX4_tune 32 = .ok (.invokevirtual 72, 3) := by decide +kernel
theorem dX4_tune_35 : decode cX4_tune 35 = .ok (.ifCond .eq 6, 3) := by decide +kernel
theorem dX4_tune_38 : decode cX4_tune 38 = .ok (.bipush (-3), 2) := by decide +kernel
theorem dX4_tune_40 : decode cX4_tune 40 = .ok (.ireturn, 1) := by decide +kernel
theorem dX4_tune_41 : decode cX4_tune 41 = .ok (.aload_n 0, 1) := by decide +kernel
theorem dX4_tune_42 : decode cX4_tune 42 = .ok (.getfield 19, 3) := by decide +kernel
theorem dX4_tune_45 : decode cX4_tune 45 = .ok (.iload_n 1, 1) := by decide +kernel
theorem dX4_tune_46 : decode cX4_tune 46 = .ok (.iaload, 1) := by decide +kernel
theorem dX4_tune_47 : decode cX4_tune 47 = .ok (.istore_n 3, 1) := by decide +kernel
theorem dX4_tune_48 : decode cX4_tune 48 = .ok (.aload_n 0, 1) := by decide +kernel
theorem dX4_tune_49 : decode cX4_tune 49 = .ok (.getfield 19, 3) := by decide +kernel
theorem dX4_tune_52 : decode cX4_tune 52 = .ok (.iload_n 1, 1) := by decide +kernel
theorem dX4_tune_53 : decode cX4_tune 53 = .ok (.iload_n 2, 1) := by decide +kernel
theorem dX4_tune_54 : decode cX4_tune 54 = .ok (.iastore, 1) := by decide +kernel
theorem dX4_tune_55 : decode cX4_tune 55 = .ok (.iload_n 3, 1) := by decide +kernel
theorem dX4_tune_56 : decode cX4_tune 56 = .ok (.ireturn, 1) := by decide +kernel
theorem dX4_horizon_0 : decode cX4_horizon 0 = .ok (.aload_n 0, 1) := by decide +kernel
theorem dX4_horizon_1 : decode cX4_horizon 1 = .ok (.getfield 64, 3) := by decide +kernel
theorem dX4_horizon_4 : decode cX4_horizon 4 = .ok (.ifCond .eq 9, 3) := by decide +kernel
theorem dX4_horizon_7 : decode cX4_horizon 7 = .ok (.sipush 20000, 3) := by decide +kernel
theorem dX4_horizon_10 : decode cX4_horizon 10 = .ok (.goto 34, 3) := by decide +kernel
theorem dX4_horizon_13 : decode cX4_horizon 13 = .ok (.aload_n 0, 1) := by decide +kernel
theorem dX4_horizon_14 : decode cX4_horizon 14 = .ok (.getfield 60, 3) := by decide +kernel
theorem dX4_horizon_17 : decode cX4_horizon 17 = .ok (.ifCond .ne 9, 3) := by decide +kernel
theorem dX4_horizon_20 : decode cX4_horizon 20 = .ok (.sipush (-1000), 3) := by decide +kernel
theorem dX4_horizon_23 : decode cX4_horizon 23 = .ok (.goto 21, 3) := by decide +kernel
theorem dX4_horizon_26 : decode cX4_horizon 26 = .ok (.aload_n 0, 1) := by decide +kernel
theorem dX4_horizon_27 : decode cX4_horizon 27 = .ok (.getfield 31, 3) := by decide +kernel
theorem dX4_horizon_30 : decode cX4_horizon 30 = .ok (.aload_n 0, 1) := by decide +kernel
theorem dX4_horizon_31 : decode cX4_horizon 31 = .ok (.getfield 60, 3) := by decide +kernel
theorem dX4_horizon_34 : decode cX4_horizon 34 = .ok (.iconst 1, 1) := by decide +kernel
theorem dX4_horizon_35 : decode cX4_horizon 35 = .ok (.isub, 1) := by decide +kernel
theorem dX4_horizon_36 : decode cX4_horizon 36 = .ok (.iaload, 1) := by decide +kernel
theorem dX4_horizon_37 : decode cX4_horizon 37 = .ok (.aload_n 0, 1) := by decide +kernel
theorem dX4_horizon_38 : decode cX4_horizon 38 = .ok (.getfield 19, 3) := by decide +kernel
theorem dX4_horizon_41 : decode cX4_horizon 41 = .ok (.iconst 0, 1) := by decide +kernel
theorem dX4_horizon_42 : decode cX4_horizon 42 = .ok (.iaload, 1) := by decide +kernel
theorem dX4_horizon_43 : decode cX4_horizon 43 = .ok (.isub, 1) := by decide +kernel
theorem dX4_horizon_44 : decode cX4_horizon 44 = .ok (.ireturn, 1) := by decide +kernel
theorem dX4_edge_0 : decode cX4_edge 0 = .ok (.iconst 0, 1) := by decide +kernel
theorem dX4_edge_1 : decode cX4_edge 1 = .ok (.istore_n 1, 1) := by decide +kernel
theorem dX4_edge_2 : decode cX4_edge 2 = .ok (.iconst 0, 1) := by decide +kernel
theorem dX4_edge_3 : decode cX4_edge 3 = .ok (.istore_n 2, 1) := by decide +kernel
theorem dX4_edge_4 : decode cX4_edge 4 = .ok (.iload_n 2, 1) := by decide +kernel
theorem dX4_edge_5 : decode cX4_edge 5 = .ok (.bipush 6, 2) := by decide +kernel
theorem dX4_edge_7 : decode cX4_edge 7 = .ok (.if_icmp .ge 30, 3) := by decide +kernel
theorem dX4_edge_10 : decode cX4_edge 10 = .ok (.aload_n 0, 1) := by decide +kernel
theorem dX4_edge_11 : decode cX4_edge 11 = .ok (.getfield 7, 3) := by decide +kernel
theorem dX4_edge_14 : decode cX4_edge 14 = .ok (.iload_n 2, 1) := by decide +kernel
theorem dX4_edge_15 : decode cX4_edge 15 = .ok (.iaload, 1) := by decide +kernel
theorem dX4_edge_16 : decode cX4_edge 16 = .ok (.iload_n 1, 1) := by decide +kernel
theorem dX4_edge_17 : decode cX4_edge 17 = .ok (.if_icmp .le 12, 3) := by decide +kernel
theorem dX4_edge_20 : decode cX4_edge 20 = .ok (.aload_n 0, 1) := by decide +kernel
theorem dX4_edge_21 : decode cX4_edge 21 = .ok (.getfield 7, 3) := by decide +kernel
theorem dX4_edge_24 : decode cX4_edge 24 = .ok (.iload_n 2, 1) := by decide +kernel
theorem dX4_edge_25 : decode cX4_edge 25 = .ok (.iaload, 1) := by decide +kernel
theorem dX4_edge_26 : decode cX4_edge 26 = .ok (.goto 4, 3) := by decide +kernel
theorem dX4_edge_29 : decode cX4_edge 29 = .ok (.iload_n 1, 1) := by decide +kernel
theorem dX4_edge_30 : decode cX4_edge 30 = .ok (.istore_n 1, 1) := by decide +kernel
theorem dX4_edge_31 : decode cX4_edge 31 = .ok (.iinc 2 1, 3) := by decide +kernel
theorem dX4_edge_34 : decode cX4_edge 34 = .ok (.goto (-30), 3) := by decide +kernel
theorem dX4_edge_37 : decode cX4_edge 37 = .ok (.aload_n 0, 1) := by decide +kernel
theorem dX4_edge_38 : decode cX4_edge 38 = .ok (.invokevirtual 76, 3) := by decide +kernel
theorem dX4_edge_41 : decode cX4_edge 41 = .ok (.iload_n 1, 1) := by decide +kernel
theorem dX4_edge_42 : decode cX4_edge 42 = .ok (.isub, 1) := by decide +kernel
theorem dX4_edge_43 : decode cX4_edge 43 = .ok (.ireturn, 1) := by decide +kernel
theorem dX4_isBehind_0 : decode cX4_isBehind 0 = .ok (.aload_n 0, 1) := by decide +kernel
theorem dX4_isBehind_1 : decode cX4_isBehind 1 = .ok (.getfield 31, 3) := by decide +kernel
theorem dX4_isBehind_4 : decode cX4_isBehind 4 = .ok (.iload_n 1, 1) := by decide +kernel
theorem dX4_isBehind_5 : decode cX4_isBehind 5 = .ok (.iaload, 1) := by decide +kernel
theorem dX4_isBehind_6 : decode cX4_isBehind 6 = .ok (.iload_n 3, 1) := by decide +kernel
theorem dX4_isBehind_7 : decode cX4_isBehind 7 = .ok (.if_icmp .eq 19, 3) := by decide +kernel
theorem dX4_isBehind_10 : decode cX4_isBehind 10 = .ok (.aload_n 0, 1) := by decide +kernel
theorem dX4_isBehind_11 : decode cX4_isBehind 11 = .ok (.getfield 31, 3) := by decide +kernel
theorem dX4_isBehind_14 : decode cX4_isBehind 14 = .ok (.iload_n 1, 1) := by decide +kernel
theorem dX4_isBehind_15 : decode cX4_isBehind 15 = .ok (.iaload, 1) := by decide +kernel
theorem dX4_isBehind_16 : decode cX4_isBehind 16 = .ok (.iload_n 3, 1) := by decide +kernel
theorem dX4_isBehind_17 : decode cX4_isBehind 17 = .ok (.if_icmp .le 7, 3) := by decide +kernel
theorem dX4_isBehind_20 : decode cX4_isBehind 20 = .ok (.iconst 1, 1) := by decide +kernel
theorem dX4_isBehind_21 : decode cX4_isBehind 21 = .ok (.goto 4, 3) := by decide +kernel
theorem dX4_isBehind_24 : decode cX4_isBehind 24 = .ok (.iconst 0, 1) := by decide +kernel
theorem dX4_isBehind_25 : decode cX4_isBehind 25 = .ok (.ireturn, 1) := by decide +kernel
theorem dX4_isBehind_26 : decode cX4_isBehind 26 = .ok (.aload_n 0, 1) := by decide +kernel
theorem dX4_isBehind_27 : decode cX4_isBehind 27 = .ok (.getfield 28, 3) := by decide +kernel
theorem dX4_isBehind_30 : decode cX4_isBehind 30 = .ok (.iload_n 1, 1) := by decide +kernel
theorem dX4_isBehind_31 : decode cX4_isBehind 31 = .ok (.iaload, 1) := by decide +kernel
theorem dX4_isBehind_32 : decode cX4_isBehind 32 = .ok (.iload_n 2, 1) := by decide +kernel
theorem dX4_isBehind_33 : decode cX4_isBehind 33 = .ok (.if_icmp .eq 21, 3) := by decide +kernel
theorem dX4_isBehind_36 : decode cX4_isBehind 36 = .ok (.aload_n 0, 1) := by decide +kernel
theorem dX4_isBehind_37 : decode cX4_isBehind 37 = .ok (.getfield 28, 3) := by decide +kernel
theorem dX4_isBehind_40 : decode cX4_isBehind 40 = .ok (.iload_n 1, 1) := by decide +kernel
theorem dX4_isBehind_41 : decode cX4_isBehind 41 = .ok (.iaload, 1) := by decide +kernel
theorem dX4_isBehind_42 : decode cX4_isBehind 42 = .ok (.iload_n 2, 1) := by decide +kernel
theorem dX4_isBehind_43 : decode cX4_isBehind 43 = .ok (.if_icmp .le 7, 3) := by decide +kernel
theorem dX4_isBehind_46 : decode cX4_isBehind 46 = .ok (.iconst 1, 1) := by decide +kernel
theorem dX4_isBehind_47 : decode cX4_isBehind 47 = .ok (.goto 23, 3) := by decide +kernel
theorem dX4_isBehind_50 : decode cX4_isBehind 50 = .ok (.iconst 0, 1) := by decide +kernel
theorem dX4_isBehind_51 : decode cX4_isBehind 51 = .ok (.goto 19, 3) := by decide +kernel
theorem dX4_isBehind_54 : decode cX4_isBehind 54 = .ok (.aload_n 0, 1) := by decide +kernel
theorem dX4_isBehind_55 : decode cX4_isBehind 55 = .ok (.getfield 34, 3) := by decide +kernel
theorem dX4_isBehind_58 : decode cX4_isBehind 58 = .ok (.iload_n 1, 1) := by decide +kernel
theorem dX4_isBehind_59 : decode cX4_isBehind 59 = .ok (.iaload, 1) := by decide +kernel
theorem dX4_isBehind_60 : decode cX4_isBehind 60 = .ok (.iload 4, 2) := by decide +kernel
theorem dX4_isBehind_62 : decode cX4_isBehind 62 = .ok (.if_icmp .le 7, 3) := by decide +kernel
theorem dX4_isBehind_65 : decode cX4_isBehind 65 = .ok (.iconst 1, 1) := by decide +kernel
theorem dX4_isBehind_66 : decode cX4_isBehind 66 = .ok (.goto 4, 3) := by decide +kernel
theorem dX4_isBehind_69 : decode cX4_isBehind 69 = .ok (.iconst 0, 1) := by decide +kernel
theorem dX4_isBehind_70 : decode cX4_isBehind 70 = .ok (.ireturn, 1) := by decide +kernel
theorem dX4_pulse_0 : decode cX4_pulse 0 = .ok (.iload_n 1, 1) := by decide +kernel
theorem dX4_pulse_1 : decode cX4_pulse 1 = .ok (.invokestatic 68, 3) := by decide +kernel
theorem dX4_pulse_4 : decode cX4_pulse 4 = .ok (.ifCond .ne 5, 3) := by decide +kernel
theorem dX4_pulse_7 : decode cX4_pulse 7 = .ok (.iconst (-1), 1) := by decide +kernel
theorem dX4_pulse_8 : decode cX4_pulse 8 = .ok (.ireturn, 1) := by decide +kernel
theorem dX4_pulse_9 : decode cX4_pulse 9 = .ok (.iload_n 2, 1) := by decide +kernel
theorem dX4_pulse_10 : decode cX4_pulse 10 = .ok (.iconst 0, 1) := by decide +kernel
theorem dX4_pulse_11 : decode cX4_pulse 11 = .ok (.sipush 9999, 3) := by decide +kernel
theorem dX4_pulse_14 : decode cX4_pulse 14 = .ok (.invokestatic 56, 3) := by decide +kernel
theorem dX4_pulse_17 : decode cX4_pulse 17 = .ok (.ifCond .eq 13, 3) := by decide +kernel
theorem dX4_pulse_20 : decode cX4_pulse 20 = .ok (.iload_n 3, 1) := by decide +kernel
theorem dX4_pulse_21 : decode cX4_pulse 21 = .ok (.iconst 0, 1) := by decide +kernel
theorem dX4_pulse_22 : decode cX4_pulse 22 = .ok (.bipush 15, 2) := by decide +kernel
theorem dX4_pulse_24 : decode cX4_pulse 24 = .ok (.invokestatic 56, 3) := by decide +kernel
theorem dX4_pulse_27 : decode cX4_pulse 27 = .ok (.ifCond .ne 6, 3) := by decide +kernel
theorem dX4_pulse_30 : decode cX4_pulse 30 = .ok (.bipush (-2), 2) := by decide +kernel
theorem dX4_pulse_32 : decode cX4_pulse 32 = .ok (.ireturn, 1) := by decide +kernel
theorem dX4_pulse_33 : decode cX4_pulse 33 = .ok (.aload_n 0, 1) := by decide +kernel
theorem dX4_pulse_34 : decode cX4_pulse 34 = .ok (.getfield 64, 3) := by decide +kernel
theorem dX4_pulse_37 : decode cX4_pulse 37 = .ok (.ifCond .eq 6, 3) := by decide +kernel
theorem dX4_pulse_40 : decode cX4_pulse 40 = .ok (.bipush (-3), 2) := by decide +kernel
theorem dX4_pulse_42 : decode cX4_pulse 42 = .ok (.ireturn, 1) := by decide +kernel
theorem dX4_pulse_43 : decode cX4_pulse 43 = .ok (.iload_n 2, 1) := by decide +kernel
theorem dX4_pulse_44 : decode cX4_pulse 44 = .ok (.aload_n 0, 1) := by decide +kernel
theorem dX4_pulse_45 : decode cX4_pulse 45 = .ok (.invokevirtual 76, 3) := by decide +kernel
theorem dX4_pulse_48 : decode cX4_pulse 48 = .ok (.if_icmp .ge 15, 3) := by decide +kernel
theorem dX4_pulse_51 : decode cX4_pulse 51 = .ok (.aload_n 0, 1) := by decide +kernel
theorem dX4_pulse_52 : decode cX4_pulse 52 = .ok (.dup, 1) := by decide +kernel
theorem dX4_pulse_53 : decode cX4_pulse 53 = .ok (.getfield 80, 3) := by decide +kernel
theorem dX4_pulse_56 : decode cX4_pulse 56 = .ok (.iconst 1, 1) := by decide +kernel
theorem dX4_pulse_57 : decode cX4_pulse 57 = .ok (.iadd, 1) := by decide +kernel
theorem dX4_pulse_58 : decode cX4_pulse 58 = .ok (.putfield 80, 3) := by decide +kernel
theorem dX4_pulse_61 : decode cX4_pulse 61 = .ok (.iconst 0, 1) := by decide +kernel
theorem dX4_pulse_62 : decode cX4_pulse 62 = .ok (.ireturn, 1) := by decide +kernel
theorem dX4_pulse_63 : decode cX4_pulse 63 = .ok (.aload_n 0, 1) := by decide +kernel
theorem dX4_pulse_64 : decode cX4_pulse 64 = .ok (.getfield 60, 3) := by decide +kernel
theorem dX4_pulse_67 : decode cX4_pulse 67 = .ok (.sipush 240, 3) := by decide +kernel
theorem dX4_pulse_70 : decode cX4_pulse 70 = .ok (.if_icmp .ne 6, 3) := by decide +kernel
theorem dX4_pulse_73 : decode cX4_pulse 73 = .ok (.bipush (-4), 2) := by decide +kernel
theorem dX4_pulse_75 : decode cX4_pulse 75 = .ok (.ireturn, 1) := by decide +kernel
theorem dX4_pulse_76 : decode cX4_pulse 76 = .ok (.aload_n 0, 1) := by decide +kernel
theorem dX4_pulse_77 : decode cX4_pulse 77 = .ok (.getfield 60, 3) := by decide +kernel
theorem dX4_pulse_80 : decode cX4_pulse 80 = .ok (.istore 4, 2) := by decide +kernel
theorem dX4_pulse_82 : decode cX4_pulse 82 = .ok (.iload 4, 2) := by decide +kernel
theorem dX4_pulse_84 : decode cX4_pulse 84 = .ok (.ifCond .le 71, 3) := by decide +kernel
theorem dX4_pulse_87 : decode cX4_pulse 87 = .ok (.aload_n 0, 1) := by decide +kernel
theorem dX4_pulse_88 : decode cX4_pulse 88 = .ok (.iload 4, 2) := by decide +kernel
theorem dX4_pulse_90 : decode cX4_pulse 90 = .ok (.iconst 1, 1) := by decide +kernel
theorem dX4_pulse_91 : decode cX4_pulse 91 = .ok (.isub, 1) := by decide +kernel
theorem dX4_pulse_92 : decode cX4_pulse 92 = .ok (.iload_n 1, 1) := by decide +kernel
theorem dX4_pulse_93 : decode cX4_pulse 93 = .ok (.iload_n 2, 1) := by decide +kernel
theorem dX4_pulse_94 : decode cX4_pulse 94 = .ok (.iload_n 3, 1) := by decide +kernel
end
section
theorem dX4_pulse_95 : decode cX4_pulse 95 = .ok (.invokevirtual 83, 3) := by decide +kernel
theorem dX4_pulse_98 : decode cX4_pulse 98 = .ok (.ifCond .eq 57, 3) := by decide +kernel
theorem dX4_pulse_101 : decode cX4_pulse 101 = .ok (.aload_n 0, 1) := by decide +kernel
theorem dX4_pulse_102 : decode cX4_pulse 102 = .ok (.getfield 28, 3) := by decide +kernel
theorem dX4_pulse_105 : decode cX4_pulse 105 = .ok (.iload 4, 2) := by decide +kernel
theorem dX4_pulse_107 : decode cX4_pulse 107 = .ok (.aload_n 0, 1) := by decide +kernel
theorem dX4_pulse_108 : decode cX4_pulse 108 = .ok (.getfield 28, 3) := by decide +kernel
theorem dX4_pulse_111 : decode cX4_pulse 111 = .ok (.iload 4, 2) := by decide +kernel
theorem dX4_pulse_113 : decode cX4_pulse 113 = .ok (.iconst 1, 1) := by decide +kernel
theorem dX4_pulse_114 : decode cX4_pulse 114 = .ok (.isub, 1) := by decide +kernel
theorem dX4_pulse_115 : decode cX4_pulse 115 = .ok (.iaload, 1) := by decide +kernel
theorem dX4_pulse_116 : decode cX4_pulse 116 = .ok (.iastore, 1) := by decide +kernel
theorem dX4_pulse_117 : decode cX4_pulse 117 = .ok (.aload_n 0, 1) := by decide +kernel
theorem dX4_pulse_118 : decode cX4_pulse 118 = .ok (.getfield 31, 3) := by decide +kernel
theorem dX4_pulse_121 : decode cX4_pulse 121 = .ok (.iload 4, 2) := by decide +kernel
theorem dX4_pulse_123 : decode cX4_pulse 123 = .ok (.aload_n 0, 1) := by decide +kernel
theorem dX4_pulse_124 : decode cX4_pulse 124 = .ok (.getfield 31, 3) := by decide +kernel
theorem dX4_pulse_127 : decode cX4_pulse 127 = .ok (.iload 4, 2) := by decide +kernel
theorem dX4_pulse_129 : decode cX4_pulse 129 = .ok (.iconst 1, 1) := by decide +kernel
theorem dX4_pulse_130 : decode cX4_pulse 130 = .ok (.isub, 1) := by decide +kernel
theorem dX4_pulse_131 : decode cX4_pulse 131 = .ok (.iaload, 1) := by decide +kernel
theorem dX4_pulse_132 : decode cX4_pulse 132 = .ok (.iastore, 1) := by decide +kernel
theorem dX4_pulse_133 : decode cX4_pulse 133 = .ok (.aload_n 0, 1) := by decide +kernel
theorem dX4_pulse_134 : decode cX4_pulse 134 = .ok (.getfield 34, 3) := by decide +kernel
theorem dX4_pulse_137 : decode cX4_pulse 137 = .ok (.iload 4, 2) := by decide +kernel
theorem dX4_pulse_139 : decode cX4_pulse 139 = .ok (.aload_n 0, 1) := by decide +kernel
theorem dX4_pulse_140 : decode cX4_pulse 140 = .ok (.getfield 34, 3) := by decide +kernel
theorem dX4_pulse_143 : decode cX4_pulse 143 = .ok (.iload 4, 2) := by decide +kernel
theorem dX4_pulse_145 : decode cX4_pulse 145 = .ok (.iconst 1, 1) := by decide +kernel
theorem dX4_pulse_146 : decode cX4_pulse 146 = .ok (.isub, 1) := by decide +kernel
theorem dX4_pulse_147 : decode cX4_pulse 147 = .ok (.iaload, 1) := by decide +kernel
theorem dX4_pulse_148 : decode cX4_pulse 148 = .ok (.iastore, 1) := by decide +kernel
theorem dX4_pulse_149 : decode cX4_pulse 149 = .ok (.iinc 4 (-1), 3) := by decide +kernel
theorem dX4_pulse_152 : decode cX4_pulse 152 = .ok (.goto (-70), 3) := by decide +kernel
theorem dX4_pulse_155 : decode cX4_pulse 155 = .ok (.aload_n 0, 1) := by decide +kernel
theorem dX4_pulse_156 : decode cX4_pulse 156 = .ok (.getfield 28, 3) := by decide +kernel
theorem dX4_pulse_159 : decode cX4_pulse 159 = .ok (.iload 4, 2) := by decide +kernel
theorem dX4_pulse_161 : decode cX4_pulse 161 = .ok (.iload_n 1, 1) := by decide +kernel
theorem dX4_pulse_162 : decode cX4_pulse 162 = .ok (.iastore, 1) := by decide +kernel
theorem dX4_pulse_163 : decode cX4_pulse 163 = .ok (.aload_n 0, 1) := by decide +kernel
theorem dX4_pulse_164 : decode cX4_pulse 164 = .ok (.getfield 31, 3) := by decide +kernel
theorem dX4_pulse_167 : decode cX4_pulse 167 = .ok (.iload 4, 2) := by decide +kernel
theorem dX4_pulse_169 : decode cX4_pulse 169 = .ok (.iload_n 2, 1) := by decide +kernel
theorem dX4_pulse_170 : decode cX4_pulse 170 = .ok (.iastore, 1) := by decide +kernel
theorem dX4_pulse_171 : decode cX4_pulse 171 = .ok (.aload_n 0, 1) := by decide +kernel
theorem dX4_pulse_172 : decode cX4_pulse 172 = .ok (.getfield 34, 3) := by decide +kernel
theorem dX4_pulse_175 : decode cX4_pulse 175 = .ok (.iload 4, 2) := by decide +kernel
theorem dX4_pulse_177 : decode cX4_pulse 177 = .ok (.iload_n 3, 1) := by decide +kernel
theorem dX4_pulse_178 : decode cX4_pulse 178 = .ok (.iastore, 1) := by decide +kernel
theorem dX4_pulse_179 : decode cX4_pulse 179 = .ok (.aload_n 0, 1) := by decide +kernel
theorem dX4_pulse_180 : decode cX4_pulse 180 = .ok (.dup, 1) := by decide +kernel
theorem dX4_pulse_181 : decode cX4_pulse 181 = .ok (.getfield 60, 3) := by decide +kernel
theorem dX4_pulse_184 : decode cX4_pulse 184 = .ok (.iconst 1, 1) := by decide +kernel
theorem dX4_pulse_185 : decode cX4_pulse 185 = .ok (.iadd, 1) := by decide +kernel
theorem dX4_pulse_186 : decode cX4_pulse 186 = .ok (.putfield 60, 3) := by decide +kernel
theorem dX4_pulse_189 : decode cX4_pulse 189 = .ok (.iconst 1, 1) := by decide +kernel
theorem dX4_pulse_190 : decode cX4_pulse 190 = .ok (.ireturn, 1) := by decide +kernel
theorem dX4_settled_0 : decode cX4_settled 0 = .ok (.iconst 0, 1) := by decide +kernel
theorem dX4_settled_1 : decode cX4_settled 1 = .ok (.istore_n 1, 1) := by decide +kernel
theorem dX4_settled_2 : decode cX4_settled 2 = .ok (.iconst 0, 1) := by decide +kernel
theorem dX4_settled_3 : decode cX4_settled 3 = .ok (.istore_n 2, 1) := by decide +kernel
theorem dX4_settled_4 : decode cX4_settled 4 = .ok (.iload_n 2, 1) := by decide +kernel
theorem dX4_settled_5 : decode cX4_settled 5 = .ok (.aload_n 0, 1) := by decide +kernel
theorem dX4_settled_6 : decode cX4_settled 6 = .ok (.getfield 60, 3) := by decide +kernel
theorem dX4_settled_9 : decode cX4_settled 9 = .ok (.if_icmp .ge 30, 3) := by decide +kernel
theorem dX4_settled_12 : decode cX4_settled 12 = .ok (.iload_n 1, 1) := by decide +kernel
theorem dX4_settled_13 : decode cX4_settled 13 = .ok (.aload_n 0, 1) := by decide +kernel
theorem dX4_settled_14 : decode cX4_settled 14 = .ok (.getfield 31, 3) := by decide +kernel
theorem dX4_settled_17 : decode cX4_settled 17 = .ok (.iload_n 2, 1) := by decide +kernel
theorem dX4_settled_18 : decode cX4_settled 18 = .ok (.iaload, 1) := by decide +kernel
theorem dX4_settled_19 : decode cX4_settled 19 = .ok (.aload_n 0, 1) := by decide +kernel
theorem dX4_settled_20 : decode cX4_settled 20 = .ok (.invokevirtual 76, 3) := by decide +kernel
theorem dX4_settled_23 : decode cX4_settled 23 = .ok (.if_icmp .ge 7, 3) := by decide +kernel
theorem dX4_settled_26 : decode cX4_settled 26 = .ok (.iconst 1, 1) := by decide +kernel
theorem dX4_settled_27 : decode cX4_settled 27 = .ok (.goto 4, 3) := by decide +kernel
theorem dX4_settled_30 : decode cX4_settled 30 = .ok (.iconst 0, 1) := by decide +kernel
theorem dX4_settled_31 : decode cX4_settled 31 = .ok (.iadd, 1) := by decide +kernel
theorem dX4_settled_32 : decode cX4_settled 32 = .ok (.istore_n 1, 1) := by decide +kernel
theorem dX4_settled_33 : decode cX4_settled 33 = .ok (.iinc 2 1, 3) := by decide +kernel
theorem dX4_settled_36 : decode cX4_settled 36 = .ok (.goto (-32), 3) := by decide +kernel
theorem dX4_settled_39 : decode cX4_settled 39 = .ok (.iload_n 1, 1) := by decide +kernel
theorem dX4_settled_40 : decode cX4_settled 40 = .ok (.ireturn, 1) := by decide +kernel
theorem dX4_end_0 : decode cX4_end 0 = .ok (.aload_n 0, 1) := by decide +kernel
theorem dX4_end_1 : decode cX4_end 1 = .ok (.getfield 64, 3) := by decide +kernel
theorem dX4_end_4 : decode cX4_end 4 = .ok (.ifCond .eq 6, 3) := by decide +kernel
theorem dX4_end_7 : decode cX4_end 7 = .ok (.bipush (-3), 2) := by decide +kernel
theorem dX4_end_9 : decode cX4_end 9 = .ok (.ireturn, 1) := by decide +kernel
theorem dX4_end_10 : decode cX4_end 10 = .ok (.aload_n 0, 1) := by decide +kernel
theorem dX4_end_11 : decode cX4_end 11 = .ok (.invokevirtual 87, 3) := by decide +kernel
theorem dX4_end_14 : decode cX4_end 14 = .ok (.istore_n 1, 1) := by decide +kernel
theorem dX4_end_15 : decode cX4_end 15 = .ok (.aload_n 0, 1) := by decide +kernel
theorem dX4_end_16 : decode cX4_end 16 = .ok (.iconst 1, 1) := by decide +kernel
theorem dX4_end_17 : decode cX4_end 17 = .ok (.putfield 64, 3) := by decide +kernel
theorem dX4_end_20 : decode cX4_end 20 = .ok (.aload_n 0, 1) := by decide +kernel
theorem dX4_end_21 : decode cX4_end 21 = .ok (.invokevirtual 87, 3) := by decide +kernel
theorem dX4_end_24 : decode cX4_end 24 = .ok (.iload_n 1, 1) := by decide +kernel
theorem dX4_end_25 : decode cX4_end 25 = .ok (.isub, 1) := by decide +kernel
theorem dX4_end_26 : decode cX4_end 26 = .ok (.ireturn, 1) := by decide +kernel
theorem dX4_anew_0 : decode cX4_anew 0 = .ok (.aload_n 0, 1) := by decide +kernel
theorem dX4_anew_1 : decode cX4_anew 1 = .ok (.getfield 60, 3) := by decide +kernel
theorem dX4_anew_4 : decode cX4_anew 4 = .ok (.istore_n 1, 1) := by decide +kernel
theorem dX4_anew_5 : decode cX4_anew 5 = .ok (.aload_n 0, 1) := by decide +kernel
theorem dX4_anew_6 : decode cX4_anew 6 = .ok (.iconst 0, 1) := by decide +kernel
theorem dX4_anew_7 : decode cX4_anew 7 = .ok (.putfield 60, 3) := by decide +kernel
theorem dX4_anew_10 : decode cX4_anew 10 = .ok (.aload_n 0, 1) := by decide +kernel
theorem dX4_anew_11 : decode cX4_anew 11 = .ok (.iconst 0, 1) := by decide +kernel
theorem dX4_anew_12 : decode cX4_anew 12 = .ok (.putfield 80, 3) := by decide +kernel
theorem dX4_anew_15 : decode cX4_anew 15 = .ok (.aload_n 0, 1) := by decide +kernel
theorem dX4_anew_16 : decode cX4_anew 16 = .ok (.iconst 0, 1) := by decide +kernel
theorem dX4_anew_17 : decode cX4_anew 17 = .ok (.putfield 64, 3) := by decide +kernel
theorem dX4_anew_20 : decode cX4_anew 20 = .ok (.iload_n 1, 1) := by decide +kernel
theorem dX4_anew_21 : decode cX4_anew 21 = .ok (.ireturn, 1) := by decide +kernel
theorem dX4_findLive_0 : decode cX4_findLive 0 = .ok (.iconst 0, 1) := by decide +kernel
theorem dX4_findLive_1 : decode cX4_findLive 1 = .ok (.istore_n 1, 1) := by decide +kernel
theorem dX4_findLive_2 : decode cX4_findLive 2 = .ok (.iload_n 1, 1) := by decide +kernel
theorem dX4_findLive_3 : decode cX4_findLive 3 = .ok (.bipush 6, 2) := by decide +kernel
theorem dX4_findLive_5 : decode cX4_findLive 5 = .ok (.if_icmp .ge 16, 3) := by decide +kernel
theorem dX4_findLive_8 : decode cX4_findLive 8 = .ok (.aload_n 0, 1) := by decide +kernel
theorem dX4_findLive_9 : decode cX4_findLive 9 = .ok (.getfield 41, 3) := by decide +kernel
theorem dX4_findLive_12 : decode cX4_findLive 12 = .ok (.iload_n 1, 1) := by decide +kernel
theorem dX4_findLive_13 : decode cX4_findLive 13 = .ok (.iconst 0, 1) := by decide +kernel
theorem dX4_findLive_14 : decode cX4_findLive 14 = .ok (.iastore, 1) := by decide +kernel
theorem dX4_findLive_15 : decode cX4_findLive 15 = .ok (.iinc 1 1, 3) := by decide +kernel
theorem dX4_findLive_18 : decode cX4_findLive 18 = .ok (.goto (-16), 3) := by decide +kernel
theorem dX4_findLive_21 : decode cX4_findLive 21 = .ok (.aload_n 0, 1) := by decide +kernel
theorem dX4_findLive_22 : decode cX4_findLive 22 = .ok (.invokevirtual 87, 3) := by decide +kernel
theorem dX4_findLive_25 : decode cX4_findLive 25 = .ok (.istore_n 1, 1) := by decide +kernel
theorem dX4_findLive_26 : decode cX4_findLive 26 = .ok (.iconst 0, 1) := by decide +kernel
theorem dX4_findLive_27 : decode cX4_findLive 27 = .ok (.istore_n 2, 1) := by decide +kernel
theorem dX4_findLive_28 : decode cX4_findLive 28 = .ok (.iload_n 2, 1) := by decide +kernel
theorem dX4_findLive_29 : decode cX4_findLive 29 = .ok (.iload_n 1, 1) := by decide +kernel
theorem dX4_findLive_30 : decode cX4_findLive 30 = .ok (.if_icmp .ge 89, 3) := by decide +kernel
theorem dX4_findLive_33 : decode cX4_findLive 33 = .ok (.aload_n 0, 1) := by decide +kernel
theorem dX4_findLive_34 : decode cX4_findLive 34 = .ok (.getfield 28, 3) := by decide +kernel
theorem dX4_findLive_37 : decode cX4_findLive 37 = .ok (.iload_n 2, 1) := by decide +kernel
theorem dX4_findLive_38 : decode cX4_findLive 38 = .ok (.iaload, 1) := by decide +kernel
theorem dX4_findLive_39 : decode cX4_findLive 39 = .ok (.istore_n 3, 1) := by decide +kernel
theorem dX4_findLive_40 : decode cX4_findLive 40 = .ok (.aload_n 0, 1) := by decide +kernel
theorem dX4_findLive_41 : decode cX4_findLive 41 = .ok (.getfield 37, 3) := by decide +kernel
theorem dX4_findLive_44 : decode cX4_findLive 44 = .ok (.iload_n 2, 1) := by decide +kernel
theorem dX4_findLive_45 : decode cX4_findLive 45 = .ok (.aload_n 0, 1) := by decide +kernel
theorem dX4_findLive_46 : decode cX4_findLive 46 = .ok (.getfield 31, 3) := by decide +kernel
theorem dX4_findLive_49 : decode cX4_findLive 49 = .ok (.iload_n 2, 1) := by decide +kernel
theorem dX4_findLive_50 : decode cX4_findLive 50 = .ok (.iaload, 1) := by decide +kernel
theorem dX4_findLive_51 : decode cX4_findLive 51 = .ok (.aload_n 0, 1) := by decide +kernel
theorem dX4_findLive_52 : decode cX4_findLive 52 = .ok (.getfield 41, 3) := by decide +kernel
theorem dX4_findLive_55 : decode cX4_findLive 55 = .ok (.iload_n 3, 1) := by decide +kernel
theorem dX4_findLive_56 : decode cX4_findLive 56 = .ok (.iaload, 1) := by decide +kernel
theorem dX4_findLive_57 : decode cX4_findLive 57 = .ok (.if_icmp .lt 7, 3) := by decide +kernel
theorem dX4_findLive_60 : decode cX4_findLive 60 = .ok (.iconst 1, 1) := by decide +kernel
theorem dX4_findLive_61 : decode cX4_findLive 61 = .ok (.goto 4, 3) := by decide +kernel
theorem dX4_findLive_64 : decode cX4_findLive 64 = .ok (.iconst 0, 1) := by decide +kernel
theorem dX4_findLive_65 : decode cX4_findLive 65 = .ok (.bastore, 1) := by decide +kernel
theorem dX4_findLive_66 : decode cX4_findLive 66 = .ok (.aload_n 0, 1) := by decide +kernel
theorem dX4_findLive_67 : decode cX4_findLive 67 = .ok (.getfield 41, 3) := by decide +kernel
theorem dX4_findLive_70 : decode cX4_findLive 70 = .ok (.iload_n 3, 1) := by decide +kernel
theorem dX4_findLive_71 : decode cX4_findLive 71 = .ok (.aload_n 0, 1) := by decide +kernel
theorem dX4_findLive_72 : decode cX4_findLive 72 = .ok (.getfield 37, 3) := by decide +kernel
theorem dX4_findLive_75 : decode cX4_findLive 75 = .ok (.iload_n 2, 1) := by decide +kernel
theorem dX4_findLive_76 : decode cX4_findLive 76 = .ok (.baload, 1) := by decide +kernel
theorem dX4_findLive_77 : decode cX4_findLive 77 = .ok (.ifCond .ne 13, 3) := by decide +kernel
theorem dX4_findLive_80 : decode cX4_findLive 80 = .ok (.aload_n 0, 1) := by decide +kernel
theorem dX4_findLive_81 : decode cX4_findLive 81 = .ok (.getfield 16, 3) := by decide +kernel
theorem dX4_findLive_84 : decode cX4_findLive 84 = .ok (.iload_n 3, 1) := by decide +kernel
theorem dX4_findLive_85 : decode cX4_findLive 85 = .ok (.iaload, 1) := by decide +kernel
theorem dX4_findLive_86 : decode cX4_findLive 86 = .ok (.iconst 1, 1) := by decide +kernel
theorem dX4_findLive_87 : decode cX4_findLive 87 = .ok (.if_icmp .ne 19, 3) := by decide +kernel
theorem dX4_findLive_90 : decode cX4_findLive 90 = .ok (.aload_n 0, 1) := by decide +kernel
theorem dX4_findLive_91 : decode cX4_findLive 91 = .ok (.getfield 31, 3) := by decide +kernel
theorem dX4_findLive_94 : decode cX4_findLive 94 = .ok (.iload_n 2, 1) := by decide +kernel
theorem dX4_findLive_95 : decode cX4_findLive 95 = .ok (.iaload, 1) := by decide +kernel
theorem dX4_findLive_96 : decode cX4_findLive 96 = .ok (.aload_n 0, 1) := by decide +kernel
theorem dX4_findLive_97 : decode cX4_findLive 97 = .ok (.getfield 13, 3) := by decide +kernel
theorem dX4_findLive_100 : decode cX4_findLive 100 = .ok (.iload_n 3, 1) := by decide +kernel
theorem dX4_findLive_101 : decode cX4_findLive 101 = .ok (.iaload, 1) := by decide +kernel
theorem dX4_findLive_102 : decode cX4_findLive 102 = .ok (.iadd, 1) := by decide +kernel
theorem dX4_findLive_103 : decode cX4_findLive 103 = .ok (.goto 9, 3) := by decide +kernel
theorem dX4_findLive_106 : decode cX4_findLive 106 = .ok (.aload_n 0, 1) := by decide +kernel
theorem dX4_findLive_107 : decode cX4_findLive 107 = .ok (.getfield 41, 3) := by decide +kernel
theorem dX4_findLive_110 : decode cX4_findLive 110 = .ok (.iload_n 3, 1) := by decide +kernel
theorem dX4_findLive_111 : decode cX4_findLive 111 = .ok (.iaload, 1) := by decide +kernel
theorem dX4_findLive_112 : decode cX4_findLive 112 = .ok (.iastore, 1) := by decide +kernel
theorem dX4_findLive_113 : decode cX4_findLive 113 = .ok (.iinc 2 1, 3) := by decide +kernel
theorem dX4_findLive_116 : decode cX4_findLive 116 = .ok (.goto (-88), 3) := by decide +kernel
theorem dX4_findLive_119 : decode cX4_findLive 119 = .ok (.return_, 1) := by decide +kernel
theorem dX4_manyLive_0 : decode cX4_manyLive 0 = .ok (.aload_n 0, 1) := by decide +kernel
theorem dX4_manyLive_1 : decode cX4_manyLive 1 = .ok (.invokevirtual 90, 3) := by decide +kernel
theorem dX4_manyLive_4 : decode cX4_manyLive 4 = .ok (.iconst 0, 1) := by decide +kernel
theorem dX4_manyLive_5 : decode cX4_manyLive 5 = .ok (.istore_n 3, 1) := by decide +kernel
theorem dX4_manyLive_6 : decode cX4_manyLive 6 = .ok (.aload_n 0, 1) := by decide +kernel
theorem dX4_manyLive_7 : decode cX4_manyLive 7 = .ok (.invokevirtual 87, 3) := by decide +kernel
theorem dX4_manyLive_10 : decode cX4_manyLive 10 = .ok (.istore 4, 2) := by decide +kernel
theorem dX4_manyLive_12 : decode cX4_manyLive 12 = .ok (.iconst 0, 1) := by decide +kernel
theorem dX4_manyLive_13 : decode cX4_manyLive 13 = .ok (.istore 5, 2) := by decide +kernel
theorem dX4_manyLive_15 : decode cX4_manyLive 15 = .ok (.iload 5, 2) := by decide +kernel
theorem dX4_manyLive_17 : decode cX4_manyLive 17 = .ok (.iload 4, 2) := by decide +kernel
theorem dX4_manyLive_19 : decode cX4_manyLive 19 = .ok (.if_icmp .ge 45, 3) := by decide +kernel
theorem dX4_manyLive_22 : decode cX4_manyLive 22 = .ok (.iload_n 3, 1) := by decide +kernel
theorem dX4_manyLive_23 : decode cX4_manyLive 23 = .ok (.iload_n 1, 1) := by decide +kernel
theorem dX4_manyLive_24 : decode cX4_manyLive 24 = .ok (.bipush (-9), 2) := by decide +kernel
theorem dX4_manyLive_26 : decode cX4_manyLive 26 = .ok (.if_icmp .eq 14, 3) := by decide +kernel
theorem dX4_manyLive_29 : decode cX4_manyLive 29 = .ok (.aload_n 0, 1) := by decide +kernel
theorem dX4_manyLive_30 : decode cX4_manyLive 30 = .ok (.getfield 28, 3) := by decide +kernel
theorem dX4_manyLive_33 : decode cX4_manyLive 33 = .ok (.iload 5, 2) := by decide +kernel
theorem dX4_manyLive_35 : decode cX4_manyLive 35 = .ok (.iaload, 1) := by decide +kernel
theorem dX4_manyLive_36 : decode cX4_manyLive 36 = .ok (.iload_n 1, 1) := by decide +kernel
theorem dX4_manyLive_37 : decode cX4_manyLive 37 = .ok (.if_icmp .ne 18, 3) := by decide +kernel
theorem dX4_manyLive_40 : decode cX4_manyLive 40 = .ok (.aload_n 0, 1) := by decide +kernel
theorem dX4_manyLive_41 : decode cX4_manyLive 41 = .ok (.getfield 37, 3) := by decide +kernel
theorem dX4_manyLive_44 : decode cX4_manyLive 44 = .ok (.iload 5, 2) := by decide +kernel
theorem dX4_manyLive_46 : decode cX4_manyLive 46 = .ok (.baload, 1) := by decide +kernel
theorem dX4_manyLive_47 : decode cX4_manyLive 47 = .ok (.iload_n 2, 1) := by decide +kernel
theorem dX4_manyLive_48 : decode cX4_manyLive 48 = .ok (.if_icmp .ne 7, 3) := by decide +kernel
theorem dX4_manyLive_51 : decode cX4_manyLive 51 = .ok (.iconst 1, 1) := by decide +kernel
theorem dX4_manyLive_52 : decode cX4_manyLive 52 = .ok (.goto 4, 3) := by decide +kernel
theorem dX4_manyLive_55 : decode cX4_manyLive 55 = .ok (.iconst 0, 1) := by decide +kernel
theorem dX4_manyLive_56 : decode cX4_manyLive 56 = .ok (.iadd, 1) := by decide +kernel
theorem dX4_manyLive_57 : decode cX4_manyLive 57 = .ok (.istore_n 3, 1) := by decide +kernel
theorem dX4_manyLive_58 : decode cX4_manyLive 58 = .ok (.iinc 5 1, 3) := by decide +kernel
theorem dX4_manyLive_61 : decode cX4_manyLive 61 = .ok (.goto (-46), 3) := by decide +kernel
theorem dX4_manyLive_64 : decode cX4_manyLive 64 = .ok (.iload_n 3, 1) := by decide +kernel
theorem dX4_manyLive_65 : decode cX4_manyLive 65 = .ok (.ireturn, 1) := by decide +kernel
theorem dX4_keptOf_0 : decode cX4_keptOf 0 = .ok (.iconst 0, 1) := by decide +kernel
theorem dX4_keptOf_1 : decode cX4_keptOf 1 = .ok (.istore_n 2, 1) := by decide +kernel
theorem dX4_keptOf_2 : decode cX4_keptOf 2 = .ok (.iconst 0, 1) := by decide +kernel
theorem dX4_keptOf_3 : decode cX4_keptOf 3 = .ok (.istore_n 3, 1) := by decide +kernel
theorem dX4_keptOf_4 : decode cX4_keptOf 4 = .ok (.iload_n 3, 1) := by decide +kernel
theorem dX4_keptOf_5 : decode cX4_keptOf 5 = .ok (.aload_n 0, 1) := by decide +kernel
theorem dX4_keptOf_6 : decode cX4_keptOf 6 = .ok (.getfield 60, 3) := by decide +kernel
theorem dX4_keptOf_9 : decode cX4_keptOf 9 = .ok (.if_icmp .ge 27, 3) := by decide +kernel
theorem dX4_keptOf_12 : decode cX4_keptOf 12 = .ok (.iload_n 2, 1) := by decide +kernel
theorem dX4_keptOf_13 : decode cX4_keptOf 13 = .ok (.aload_n 0, 1) := by decide +kernel
theorem dX4_keptOf_14 : decode cX4_keptOf 14 = .ok (.getfield 28, 3) := by decide +kernel
theorem dX4_keptOf_17 : decode cX4_keptOf 17 = .ok (.iload_n 3, 1) := by decide +kernel
theorem dX4_keptOf_18 : decode cX4_keptOf 18 = .ok (.iaload, 1) := by decide +kernel
theorem dX4_keptOf_19 : decode cX4_keptOf 19 = .ok (.iload_n 1, 1) := by decide +kernel
theorem dX4_keptOf_20 : decode cX4_keptOf 20 = .ok (.if_icmp .ne 7, 3) := by decide +kernel
theorem dX4_keptOf_23 : decode cX4_keptOf 23 = .ok (.iconst 1, 1) := by decide +kernel
theorem dX4_keptOf_24 : decode cX4_keptOf 24 = .ok (.goto 4, 3) := by decide +kernel
theorem dX4_keptOf_27 : decode cX4_keptOf 27 = .ok (.iconst 0, 1) := by decide +kernel
theorem dX4_keptOf_28 : decode cX4_keptOf 28 = .ok (.iadd, 1) := by decide +kernel
theorem dX4_keptOf_29 : decode cX4_keptOf 29 = .ok (.istore_n 2, 1) := by decide +kernel
theorem dX4_keptOf_30 : decode cX4_keptOf 30 = .ok (.iinc 3 1, 3) := by decide +kernel
theorem dX4_keptOf_33 : decode cX4_keptOf 33 = .ok (.goto (-29), 3) := by decide +kernel
theorem dX4_keptOf_36 : decode cX4_keptOf 36 = .ok (.iload_n 2, 1) := by decide +kernel
theorem dX4_keptOf_37 : decode cX4_keptOf 37 = .ok (.ireturn, 1) := by decide +kernel
theorem dX4_ofPlane_0 : decode cX4_ofPlane 0 = .ok (.iload_n 1, 1) := by decide +kernel
theorem dX4_ofPlane_1 : decode cX4_ofPlane 1 = .ok (.invokestatic 68, 3) := by decide +kernel
theorem dX4_ofPlane_4 : decode cX4_ofPlane 4 = .ok (.ifCond .ne 5, 3) := by decide +kernel
theorem dX4_ofPlane_7 : decode cX4_ofPlane 7 = .ok (.iconst (-1), 1) := by decide +kernel
theorem dX4_ofPlane_8 : decode cX4_ofPlane 8 = .ok (.ireturn, 1) := by decide +kernel
theorem dX4_ofPlane_9 : decode cX4_ofPlane 9 = .ok (.iload_n 2, 1) := by decide +kernel
theorem dX4_ofPlane_10 : decode cX4_ofPlane 10 = .ok (.tableswitch 79 0 5 #[38, 45, 52, 59, 65, 72], 38) := by decide +kernel
theorem dX4_ofPlane_48 : decode cX4_ofPlane 48 = .ok (.aload_n 0, 1) := by decide +kernel
theorem dX4_ofPlane_49 : decode cX4_ofPlane 49 = .ok (.getfield 7, 3) := by decide +kernel
theorem dX4_ofPlane_52 : decode cX4_ofPlane 52 = .ok (.iload_n 1, 1) := by decide +kernel
theorem dX4_ofPlane_53 : decode cX4_ofPlane 53 = .ok (.iaload, 1) := by decide +kernel
theorem dX4_ofPlane_54 : decode cX4_ofPlane 54 = .ok (.ireturn, 1) := by decide +kernel
theorem dX4_ofPlane_55 : decode cX4_ofPlane 55 = .ok (.aload_n 0, 1) := by decide +kernel
theorem dX4_ofPlane_56 : decode cX4_ofPlane 56 = .ok (.getfield 13, 3) := by decide +kernel
theorem dX4_ofPlane_59 : decode cX4_ofPlane 59 = .ok (.iload_n 1, 1) := by decide +kernel
theorem dX4_ofPlane_60 : decode cX4_ofPlane 60 = .ok (.iaload, 1) := by decide +kernel
theorem dX4_ofPlane_61 : decode cX4_ofPlane 61 = .ok (.ireturn, 1) := by decide +kernel
theorem dX4_ofPlane_62 : decode cX4_ofPlane 62 = .ok (.aload_n 0, 1) := by decide +kernel
theorem dX4_ofPlane_63 : decode cX4_ofPlane 63 = .ok (.getfield 16, 3) := by decide +kernel
theorem dX4_ofPlane_66 : decode cX4_ofPlane 66 = .ok (.iload_n 1, 1) := by decide +kernel
theorem dX4_ofPlane_67 : decode cX4_ofPlane 67 = .ok (.iaload, 1) := by decide +kernel
theorem dX4_ofPlane_68 : decode cX4_ofPlane 68 = .ok (.ireturn, 1) := by decide +kernel
theorem dX4_ofPlane_69 : decode cX4_ofPlane 69 = .ok (.aload_n 0, 1) := by decide +kernel
theorem dX4_ofPlane_70 : decode cX4_ofPlane 70 = .ok (.iload_n 1, 1) := by decide +kernel
theorem dX4_ofPlane_71 : decode cX4_ofPlane 71 = .ok (.invokevirtual 93, 3) := by decide +kernel
theorem dX4_ofPlane_74 : decode cX4_ofPlane 74 = .ok (.ireturn, 1) := by decide +kernel
theorem dX4_ofPlane_75 : decode cX4_ofPlane 75 = .ok (.aload_n 0, 1) := by decide +kernel
theorem dX4_ofPlane_76 : decode cX4_ofPlane 76 = .ok (.iload_n 1, 1) := by decide +kernel
theorem dX4_ofPlane_77 : decode cX4_ofPlane 77 = .ok (.iconst 1, 1) := by decide +kernel
theorem dX4_ofPlane_78 : decode cX4_ofPlane 78 = .ok (.invokevirtual 97, 3) := by decide +kernel
theorem dX4_ofPlane_81 : decode cX4_ofPlane 81 = .ok (.ireturn, 1) := by decide +kernel
theorem dX4_ofPlane_82 : decode cX4_ofPlane 82 = .ok (.aload_n 0, 1) := by decide +kernel
theorem dX4_ofPlane_83 : decode cX4_ofPlane 83 = .ok (.iload_n 1, 1) := by decide +kernel
theorem dX4_ofPlane_84 : decode cX4_ofPlane 84 = .ok (.iconst 0, 1) := by decide +kernel
theorem dX4_ofPlane_85 : decode cX4_ofPlane 85 = .ok (.invokevirtual 97, 3) := by decide +kernel
theorem dX4_ofPlane_88 : decode cX4_ofPlane 88 = .ok (.ireturn, 1) := by decide +kernel
theorem dX4_ofPlane_89 : decode cX4_ofPlane 89 = .ok (.bipush (-2), 2) := by decide +kernel
theorem dX4_ofPlane_91 : decode cX4_ofPlane 91 = .ok (.ireturn, 1) := by decide +kernel
theorem dX4_isTimeBehind_0 : decode cX4_isTimeBehind 0 = .ok (.aload_n 0, 1) := by decide +kernel
theorem dX4_isTimeBehind_1 : decode cX4_isTimeBehind 1 = .ok (.getfield 44, 3) := by decide +kernel
theorem dX4_isTimeBehind_4 : decode cX4_isTimeBehind 4 = .ok (.iload_n 1, 1) := by decide +kernel
theorem dX4_isTimeBehind_5 : decode cX4_isTimeBehind 5 = .ok (.iaload, 1) := by decide +kernel
theorem dX4_isTimeBehind_6 : decode cX4_isTimeBehind 6 = .ok (.iload_n 2, 1) := by decide +kernel
theorem dX4_isTimeBehind_7 : decode cX4_isTimeBehind 7 = .ok (.if_icmp .eq 19, 3) := by decide +kernel
theorem dX4_isTimeBehind_10 : decode cX4_isTimeBehind 10 = .ok (.aload_n 0, 1) := by decide +kernel
theorem dX4_isTimeBehind_11 : decode cX4_isTimeBehind 11 = .ok (.getfield 44, 3) := by decide +kernel
theorem dX4_isTimeBehind_14 : decode cX4_isTimeBehind 14 = .ok (.iload_n 1, 1) := by decide +kernel
theorem dX4_isTimeBehind_15 : decode cX4_isTimeBehind 15 = .ok (.iaload, 1) := by decide +kernel
theorem dX4_isTimeBehind_16 : decode cX4_isTimeBehind 16 = .ok (.iload_n 2, 1) := by decide +kernel
theorem dX4_isTimeBehind_17 : decode cX4_isTimeBehind 17 = .ok (.if_icmp .le 7, 3) := by decide +kernel
theorem dX4_isTimeBehind_20 : decode cX4_isTimeBehind 20 = .ok (.iconst 1, 1) := by decide +kernel
theorem dX4_isTimeBehind_21 : decode cX4_isTimeBehind 21 = .ok (.goto 4, 3) := by decide +kernel
theorem dX4_isTimeBehind_24 : decode cX4_isTimeBehind 24 = .ok (.iconst 0, 1) := by decide +kernel
theorem dX4_isTimeBehind_25 : decode cX4_isTimeBehind 25 = .ok (.ireturn, 1) := by decide +kernel
theorem dX4_isTimeBehind_26 : decode cX4_isTimeBehind 26 = .ok (.aload_n 0, 1) := by decide +kernel
theorem dX4_isTimeBehind_27 : decode cX4_isTimeBehind 27 = .ok (.getfield 47, 3) := by decide +kernel
theorem dX4_isTimeBehind_30 : decode cX4_isTimeBehind 30 = .ok (.iload_n 1, 1) := by decide +kernel
theorem dX4_isTimeBehind_31 : decode cX4_isTimeBehind 31 = .ok (.iaload, 1) := by decide +kernel
theorem dX4_isTimeBehind_32 : decode cX4_isTimeBehind 32 = .ok (.istore 4, 2) := by decide +kernel
theorem dX4_isTimeBehind_34 : decode cX4_isTimeBehind 34 = .ok (.aload_n 0, 1) := by decide +kernel
theorem dX4_isTimeBehind_35 : decode cX4_isTimeBehind 35 = .ok (.getfield 28, 3) := by decide +kernel
theorem dX4_isTimeBehind_38 : decode cX4_isTimeBehind 38 = .ok (.iload 4, 2) := by decide +kernel
theorem dX4_isTimeBehind_40 : decode cX4_isTimeBehind 40 = .ok (.iaload, 1) := by decide +kernel
theorem dX4_isTimeBehind_41 : decode cX4_isTimeBehind 41 = .ok (.aload_n 0, 1) := by decide +kernel
theorem dX4_isTimeBehind_42 : decode cX4_isTimeBehind 42 = .ok (.getfield 28, 3) := by decide +kernel
theorem dX4_isTimeBehind_45 : decode cX4_isTimeBehind 45 = .ok (.iload_n 3, 1) := by decide +kernel
theorem dX4_isTimeBehind_46 : decode cX4_isTimeBehind 46 = .ok (.iaload, 1) := by decide +kernel
theorem dX4_isTimeBehind_47 : decode cX4_isTimeBehind 47 = .ok (.if_icmp .eq 27, 3) := by decide +kernel
theorem dX4_isTimeBehind_50 : decode cX4_isTimeBehind 50 = .ok (.aload_n 0, 1) := by decide +kernel
theorem dX4_isTimeBehind_51 : decode cX4_isTimeBehind 51 = .ok (.getfield 28, 3) := by decide +kernel
theorem dX4_isTimeBehind_54 : decode cX4_isTimeBehind 54 = .ok (.iload 4, 2) := by decide +kernel
theorem dX4_isTimeBehind_56 : decode cX4_isTimeBehind 56 = .ok (.iaload, 1) := by decide +kernel
theorem dX4_isTimeBehind_57 : decode cX4_isTimeBehind 57 = .ok (.aload_n 0, 1) := by decide +kernel
theorem dX4_isTimeBehind_58 : decode cX4_isTimeBehind 58 = .ok (.getfield 28, 3) := by decide +kernel
theorem dX4_isTimeBehind_61 : decode cX4_isTimeBehind 61 = .ok (.iload_n 3, 1) := by decide +kernel
theorem dX4_isTimeBehind_62 : decode cX4_isTimeBehind 62 = .ok (.iaload, 1) := by decide +kernel
theorem dX4_isTimeBehind_63 : decode cX4_isTimeBehind 63 = .ok (.if_icmp .le 7, 3) := by decide +kernel
theorem dX4_isTimeBehind_66 : decode cX4_isTimeBehind 66 = .ok (.iconst 1, 1) := by decide +kernel
theorem dX4_isTimeBehind_67 : decode cX4_isTimeBehind 67 = .ok (.goto 28, 3) := by decide +kernel
theorem dX4_isTimeBehind_70 : decode cX4_isTimeBehind 70 = .ok (.iconst 0, 1) := by decide +kernel
theorem dX4_isTimeBehind_71 : decode cX4_isTimeBehind 71 = .ok (.goto 24, 3) := by decide +kernel
theorem dX4_isTimeBehind_74 : decode cX4_isTimeBehind 74 = .ok (.aload_n 0, 1) := by decide +kernel
theorem dX4_isTimeBehind_75 : decode cX4_isTimeBehind 75 = .ok (.getfield 34, 3) := by decide +kernel
theorem dX4_isTimeBehind_78 : decode cX4_isTimeBehind 78 = .ok (.iload 4, 2) := by decide +kernel
theorem dX4_isTimeBehind_80 : decode cX4_isTimeBehind 80 = .ok (.iaload, 1) := by decide +kernel
theorem dX4_isTimeBehind_81 : decode cX4_isTimeBehind 81 = .ok (.aload_n 0, 1) := by decide +kernel
theorem dX4_isTimeBehind_82 : decode cX4_isTimeBehind 82 = .ok (.getfield 34, 3) := by decide +kernel
theorem dX4_isTimeBehind_85 : decode cX4_isTimeBehind 85 = .ok (.iload_n 3, 1) := by decide +kernel
theorem dX4_isTimeBehind_86 : decode cX4_isTimeBehind 86 = .ok (.iaload, 1) := by decide +kernel
theorem dX4_isTimeBehind_87 : decode cX4_isTimeBehind 87 = .ok (.if_icmp .le 7, 3) := by decide +kernel
theorem dX4_isTimeBehind_90 : decode cX4_isTimeBehind 90 = .ok (.iconst 1, 1) := by decide +kernel
theorem dX4_isTimeBehind_91 : decode cX4_isTimeBehind 91 = .ok (.goto 4, 3) := by decide +kernel
theorem dX4_isTimeBehind_94 : decode cX4_isTimeBehind 94 = .ok (.iconst 0, 1) := by decide +kernel
theorem dX4_isTimeBehind_95 : decode cX4_isTimeBehind 95 = .ok (.ireturn, 1) := by decide +kernel
theorem dX4_comesByTime_0 : decode cX4_comesByTime 0 = .ok (.aload_n 0, 1) := by decide +kernel
theorem dX4_comesByTime_1 : decode cX4_comesByTime 1 = .ok (.getfield 101, 3) := by decide +kernel
theorem dX4_comesByTime_4 : decode cX4_comesByTime 4 = .ok (.istore_n 3, 1) := by decide +kernel
theorem dX4_comesByTime_5 : decode cX4_comesByTime 5 = .ok (.iload_n 3, 1) := by decide +kernel
theorem dX4_comesByTime_6 : decode cX4_comesByTime 6 = .ok (.ifCond .le 49, 3) := by decide +kernel
theorem dX4_comesByTime_9 : decode cX4_comesByTime 9 = .ok (.aload_n 0, 1) := by decide +kernel
theorem dX4_comesByTime_10 : decode cX4_comesByTime 10 = .ok (.iload_n 3, 1) := by decide +kernel
theorem dX4_comesByTime_11 : decode cX4_comesByTime 11 = .ok (.iconst 1, 1) := by decide +kernel
theorem dX4_comesByTime_12 : decode cX4_comesByTime 12 = .ok (.isub, 1) := by decide +kernel
theorem dX4_comesByTime_13 : decode cX4_comesByTime 13 = .ok (.iload_n 1, 1) := by decide +kernel
theorem dX4_comesByTime_14 : decode cX4_comesByTime 14 = .ok (.iload_n 2, 1) := by decide +kernel
theorem dX4_comesByTime_15 : decode cX4_comesByTime 15 = .ok (.invokevirtual 104, 3) := by decide +kernel
theorem dX4_comesByTime_18 : decode cX4_comesByTime 18 = .ok (.ifCond .eq 37, 3) := by decide +kernel
theorem dX4_comesByTime_21 : decode cX4_comesByTime 21 = .ok (.aload_n 0, 1) := by decide +kernel
theorem dX4_comesByTime_22 : decode cX4_comesByTime 22 = .ok (.getfield 44, 3) := by decide +kernel
theorem dX4_comesByTime_25 : decode cX4_comesByTime 25 = .ok (.iload_n 3, 1) := by decide +kernel
theorem dX4_comesByTime_26 : decode cX4_comesByTime 26 = .ok (.aload_n 0, 1) := by decide +kernel
theorem dX4_comesByTime_27 : decode cX4_comesByTime 27 = .ok (.getfield 44, 3) := by decide +kernel
theorem dX4_comesByTime_30 : decode cX4_comesByTime 30 = .ok (.iload_n 3, 1) := by decide +kernel
theorem dX4_comesByTime_31 : decode cX4_comesByTime 31 = .ok (.iconst 1, 1) := by decide +kernel
theorem dX4_comesByTime_32 : decode cX4_comesByTime 32 = .ok (.isub, 1) := by decide +kernel
theorem dX4_comesByTime_33 : decode cX4_comesByTime 33 = .ok (.iaload, 1) := by decide +kernel
theorem dX4_comesByTime_34 : decode cX4_comesByTime 34 = .ok (.iastore, 1) := by decide +kernel
theorem dX4_comesByTime_35 : decode cX4_comesByTime 35 = .ok (.aload_n 0, 1) := by decide +kernel
theorem dX4_comesByTime_36 : decode cX4_comesByTime 36 = .ok (.getfield 47, 3) := by decide +kernel
theorem dX4_comesByTime_39 : decode cX4_comesByTime 39 = .ok (.iload_n 3, 1) := by decide +kernel
theorem dX4_comesByTime_40 : decode cX4_comesByTime 40 = .ok (.aload_n 0, 1) := by decide +kernel
theorem dX4_comesByTime_41 : decode cX4_comesByTime 41 = .ok (.getfield 47, 3) := by decide +kernel
theorem dX4_comesByTime_44 : decode cX4_comesByTime 44 = .ok (.iload_n 3, 1) := by decide +kernel
theorem dX4_comesByTime_45 : decode cX4_comesByTime 45 = .ok (.iconst 1, 1) := by decide +kernel
theorem dX4_comesByTime_46 : decode cX4_comesByTime 46 = .ok (.isub, 1) := by decide +kernel
theorem dX4_comesByTime_47 : decode cX4_comesByTime 47 = .ok (.iaload, 1) := by decide +kernel
theorem dX4_comesByTime_48 : decode cX4_comesByTime 48 = .ok (.iastore, 1) := by decide +kernel
theorem dX4_comesByTime_49 : decode cX4_comesByTime 49 = .ok (.iinc 3 (-1), 3) := by decide +kernel
theorem dX4_comesByTime_52 : decode cX4_comesByTime 52 = .ok (.goto (-47), 3) := by decide +kernel
theorem dX4_comesByTime_55 : decode cX4_comesByTime 55 = .ok (.aload_n 0, 1) := by decide +kernel
theorem dX4_comesByTime_56 : decode cX4_comesByTime 56 = .ok (.getfield 44, 3) := by decide +kernel
theorem dX4_comesByTime_59 : decode cX4_comesByTime 59 = .ok (.iload_n 3, 1) := by decide +kernel
theorem dX4_comesByTime_60 : decode cX4_comesByTime 60 = .ok (.iload_n 1, 1) := by decide +kernel
theorem dX4_comesByTime_61 : decode cX4_comesByTime 61 = .ok (.iastore, 1) := by decide +kernel
theorem dX4_comesByTime_62 : decode cX4_comesByTime 62 = .ok (.aload_n 0, 1) := by decide +kernel
theorem dX4_comesByTime_63 : decode cX4_comesByTime 63 = .ok (.getfield 47, 3) := by decide +kernel
theorem dX4_comesByTime_66 : decode cX4_comesByTime 66 = .ok (.iload_n 3, 1) := by decide +kernel
theorem dX4_comesByTime_67 : decode cX4_comesByTime 67 = .ok (.iload_n 2, 1) := by decide +kernel
theorem dX4_comesByTime_68 : decode cX4_comesByTime 68 = .ok (.iastore, 1) := by decide +kernel
theorem dX4_comesByTime_69 : decode cX4_comesByTime 69 = .ok (.aload_n 0, 1) := by decide +kernel
theorem dX4_comesByTime_70 : decode cX4_comesByTime 70 = .ok (.dup, 1) := by decide +kernel
theorem dX4_comesByTime_71 : decode cX4_comesByTime 71 = .ok (.getfield 101, 3) := by decide +kernel
theorem dX4_comesByTime_74 : decode cX4_comesByTime 74 = .ok (.iconst 1, 1) := by decide +kernel
theorem dX4_comesByTime_75 : decode cX4_comesByTime 75 = .ok (.iadd, 1) := by decide +kernel
theorem dX4_comesByTime_76 : decode cX4_comesByTime 76 = .ok (.putfield 101, 3) := by decide +kernel
theorem dX4_comesByTime_79 : decode cX4_comesByTime 79 = .ok (.return_, 1) := by decide +kernel
theorem dX4_findGroups_0 : decode cX4_findGroups 0 = .ok (.aload_n 0, 1) := by decide +kernel
theorem dX4_findGroups_1 : decode cX4_findGroups 1 = .ok (.invokevirtual 90, 3) := by decide +kernel
theorem dX4_findGroups_4 : decode cX4_findGroups 4 = .ok (.aload_n 0, 1) := by decide +kernel
theorem dX4_findGroups_5 : decode cX4_findGroups 5 = .ok (.iconst 0, 1) := by decide +kernel
theorem dX4_findGroups_6 : decode cX4_findGroups 6 = .ok (.putfield 101, 3) := by decide +kernel
theorem dX4_findGroups_9 : decode cX4_findGroups 9 = .ok (.aload_n 0, 1) := by decide +kernel
theorem dX4_findGroups_10 : decode cX4_findGroups 10 = .ok (.invokevirtual 87, 3) := by decide +kernel
theorem dX4_findGroups_13 : decode cX4_findGroups 13 = .ok (.istore_n 3, 1) := by decide +kernel
theorem dX4_findGroups_14 : decode cX4_findGroups 14 = .ok (.iconst 0, 1) := by decide +kernel
theorem dX4_findGroups_15 : decode cX4_findGroups 15 = .ok (.istore 4, 2) := by decide +kernel
theorem dX4_findGroups_17 : decode cX4_findGroups 17 = .ok (.iload 4, 2) := by decide +kernel
theorem dX4_findGroups_19 : decode cX4_findGroups 19 = .ok (.iload_n 3, 1) := by decide +kernel
theorem dX4_findGroups_20 : decode cX4_findGroups 20 = .ok (.if_icmp .ge 79, 3) := by decide +kernel
theorem dX4_findGroups_23 : decode cX4_findGroups 23 = .ok (.aload_n 0, 1) := by decide +kernel
theorem dX4_findGroups_24 : decode cX4_findGroups 24 = .ok (.getfield 31, 3) := by decide +kernel
theorem dX4_findGroups_27 : decode cX4_findGroups 27 = .ok (.iload 4, 2) := by decide +kernel
theorem dX4_findGroups_29 : decode cX4_findGroups 29 = .ok (.iaload, 1) := by decide +kernel
theorem dX4_findGroups_30 : decode cX4_findGroups 30 = .ok (.aload_n 0, 1) := by decide +kernel
theorem dX4_findGroups_31 : decode cX4_findGroups 31 = .ok (.getfield 7, 3) := by decide +kernel
theorem dX4_findGroups_34 : decode cX4_findGroups 34 = .ok (.aload_n 0, 1) := by decide +kernel
theorem dX4_findGroups_35 : decode cX4_findGroups 35 = .ok (.getfield 28, 3) := by decide +kernel
theorem dX4_findGroups_38 : decode cX4_findGroups 38 = .ok (.iload 4, 2) := by decide +kernel
theorem dX4_findGroups_40 : decode cX4_findGroups 40 = .ok (.iaload, 1) := by decide +kernel
theorem dX4_findGroups_41 : decode cX4_findGroups 41 = .ok (.iaload, 1) := by decide +kernel
theorem dX4_findGroups_42 : decode cX4_findGroups 42 = .ok (.isub, 1) := by decide +kernel
theorem dX4_findGroups_43 : decode cX4_findGroups 43 = .ok (.istore 5, 2) := by decide +kernel
theorem dX4_findGroups_45 : decode cX4_findGroups 45 = .ok (.aload_n 0, 1) := by decide +kernel
theorem dX4_findGroups_46 : decode cX4_findGroups 46 = .ok (.getfield 37, 3) := by decide +kernel
theorem dX4_findGroups_49 : decode cX4_findGroups 49 = .ok (.iload 4, 2) := by decide +kernel
theorem dX4_findGroups_51 : decode cX4_findGroups 51 = .ok (.baload, 1) := by decide +kernel
theorem dX4_findGroups_52 : decode cX4_findGroups 52 = .ok (.ifCond .eq 41, 3) := by decide +kernel
theorem dX4_findGroups_55 : decode cX4_findGroups 55 = .ok (.iload 5, 2) := by decide +kernel
theorem dX4_findGroups_57 : decode cX4_findGroups 57 = .ok (.aload_n 0, 1) := by decide +kernel
theorem dX4_findGroups_58 : decode cX4_findGroups 58 = .ok (.invokevirtual 107, 3) := by decide +kernel
theorem dX4_findGroups_61 : decode cX4_findGroups 61 = .ok (.if_icmp .ge 32, 3) := by decide +kernel
theorem dX4_findGroups_64 : decode cX4_findGroups 64 = .ok (.aload_n 0, 1) := by decide +kernel
theorem dX4_findGroups_65 : decode cX4_findGroups 65 = .ok (.iload 5, 2) := by decide +kernel
theorem dX4_findGroups_67 : decode cX4_findGroups 67 = .ok (.iload_n 1, 1) := by decide +kernel
theorem dX4_findGroups_68 : decode cX4_findGroups 68 = .ok (.aload_n 0, 1) := by decide +kernel
theorem dX4_findGroups_69 : decode cX4_findGroups 69 = .ok (.getfield 28, 3) := by decide +kernel
theorem dX4_findGroups_72 : decode cX4_findGroups 72 = .ok (.iload 4, 2) := by decide +kernel
theorem dX4_findGroups_74 : decode cX4_findGroups 74 = .ok (.iaload, 1) := by decide +kernel
theorem dX4_findGroups_75 : decode cX4_findGroups 75 = .ok (.ishr, 1) := by decide +kernel
theorem dX4_findGroups_76 : decode cX4_findGroups 76 = .ok (.iconst 1, 1) := by decide +kernel
theorem dX4_findGroups_77 : decode cX4_findGroups 77 = .ok (.iand, 1) := by decide +kernel
theorem dX4_findGroups_78 : decode cX4_findGroups 78 = .ok (.iconst 1, 1) := by decide +kernel
theorem dX4_findGroups_79 : decode cX4_findGroups 79 = .ok (.if_icmp .ne 7, 3) := by decide +kernel
theorem dX4_findGroups_82 : decode cX4_findGroups 82 = .ok (.iload_n 2, 1) := by decide +kernel
theorem dX4_findGroups_83 : decode cX4_findGroups 83 = .ok (.goto 4, 3) := by decide +kernel
theorem dX4_findGroups_86 : decode cX4_findGroups 86 = .ok (.iconst 0, 1) := by decide +kernel
theorem dX4_findGroups_87 : decode cX4_findGroups 87 = .ok (.iadd, 1) := by decide +kernel
theorem dX4_findGroups_88 : decode cX4_findGroups 88 = .ok (.iload 4, 2) := by decide +kernel
theorem dX4_findGroups_90 : decode cX4_findGroups 90 = .ok (.invokevirtual 110, 3) := by decide +kernel
theorem dX4_findGroups_93 : decode cX4_findGroups 93 = .ok (.iinc 4 1, 3) := by decide +kernel
theorem dX4_findGroups_96 : decode cX4_findGroups 96 = .ok (.goto (-79), 3) := by decide +kernel
theorem dX4_findGroups_99 : decode cX4_findGroups 99 = .ok (.aload_n 0, 1) := by decide +kernel
theorem dX4_findGroups_100 : decode cX4_findGroups 100 = .ok (.iconst 0, 1) := by decide +kernel
theorem dX4_findGroups_101 : decode cX4_findGroups 101 = .ok (.putfield 114, 3) := by decide +kernel
theorem dX4_findGroups_104 : decode cX4_findGroups 104 = .ok (.aload_n 0, 1) := by decide +kernel
theorem dX4_findGroups_105 : decode cX4_findGroups 105 = .ok (.iconst 0, 1) := by decide +kernel
theorem dX4_findGroups_106 : decode cX4_findGroups 106 = .ok (.putfield 117, 3) := by decide +kernel
theorem dX4_findGroups_109 : decode cX4_findGroups 109 = .ok (.iconst 0, 1) := by decide +kernel
theorem dX4_findGroups_110 : decode cX4_findGroups 110 = .ok (.istore 4, 2) := by decide +kernel
theorem dX4_findGroups_112 : decode cX4_findGroups 112 = .ok (.iload 4, 2) := by decide +kernel
theorem dX4_findGroups_114 : decode cX4_findGroups 114 = .ok (.aload_n 0, 1) := by decide +kernel
theorem dX4_findGroups_115 : decode cX4_findGroups 115 = .ok (.getfield 101, 3) := by decide +kernel
theorem dX4_findGroups_118 : decode cX4_findGroups 118 = .ok (.if_icmp .ge 118, 3) := by decide +kernel
theorem dX4_findGroups_121 : decode cX4_findGroups 121 = .ok (.aload_n 0, 1) := by decide +kernel
theorem dX4_findGroups_122 : decode cX4_findGroups 122 = .ok (.getfield 114, 3) := by decide +kernel
theorem dX4_findGroups_125 : decode cX4_findGroups 125 = .ok (.ifCond .eq 36, 3) := by decide +kernel
theorem dX4_findGroups_128 : decode cX4_findGroups 128 = .ok (.aload_n 0, 1) := by decide +kernel
theorem dX4_findGroups_129 : decode cX4_findGroups 129 = .ok (.getfield 44, 3) := by decide +kernel
theorem dX4_findGroups_132 : decode cX4_findGroups 132 = .ok (.iload 4, 2) := by decide +kernel
theorem dX4_findGroups_134 : decode cX4_findGroups 134 = .ok (.iaload, 1) := by decide +kernel
theorem dX4_findGroups_135 : decode cX4_findGroups 135 = .ok (.aload_n 0, 1) := by decide +kernel
theorem dX4_findGroups_136 : decode cX4_findGroups 136 = .ok (.getfield 44, 3) := by decide +kernel
theorem dX4_findGroups_139 : decode cX4_findGroups 139 = .ok (.aload_n 0, 1) := by decide +kernel
theorem dX4_findGroups_140 : decode cX4_findGroups 140 = .ok (.getfield 53, 3) := by decide +kernel
theorem dX4_findGroups_143 : decode cX4_findGroups 143 = .ok (.aload_n 0, 1) := by decide +kernel
theorem dX4_findGroups_144 : decode cX4_findGroups 144 = .ok (.getfield 114, 3) := by decide +kernel
theorem dX4_findGroups_147 : decode cX4_findGroups 147 = .ok (.iconst 1, 1) := by decide +kernel
theorem dX4_findGroups_148 : decode cX4_findGroups 148 = .ok (.isub, 1) := by decide +kernel
theorem dX4_findGroups_149 : decode cX4_findGroups 149 = .ok (.iaload, 1) := by decide +kernel
theorem dX4_findGroups_150 : decode cX4_findGroups 150 = .ok (.iaload, 1) := by decide +kernel
theorem dX4_findGroups_151 : decode cX4_findGroups 151 = .ok (.aload_n 0, 1) := by decide +kernel
theorem dX4_findGroups_152 : decode cX4_findGroups 152 = .ok (.getfield 19, 3) := by decide +kernel
theorem dX4_findGroups_155 : decode cX4_findGroups 155 = .ok (.iconst 1, 1) := by decide +kernel
theorem dX4_findGroups_156 : decode cX4_findGroups 156 = .ok (.iaload, 1) := by decide +kernel
theorem dX4_findGroups_157 : decode cX4_findGroups 157 = .ok (.iadd, 1) := by decide +kernel
theorem dX4_findGroups_158 : decode cX4_findGroups 158 = .ok (.if_icmp .le 59, 3) := by decide +kernel
theorem dX4_findGroups_161 : decode cX4_findGroups 161 = .ok (.aload_n 0, 1) := by decide +kernel
theorem dX4_findGroups_162 : decode cX4_findGroups 162 = .ok (.getfield 53, 3) := by decide +kernel
theorem dX4_findGroups_165 : decode cX4_findGroups 165 = .ok (.aload_n 0, 1) := by decide +kernel
theorem dX4_findGroups_166 : decode cX4_findGroups 166 = .ok (.getfield 114, 3) := by decide +kernel
theorem dX4_findGroups_169 : decode cX4_findGroups 169 = .ok (.iload 4, 2) := by decide +kernel
theorem dX4_findGroups_171 : decode cX4_findGroups 171 = .ok (.iastore, 1) := by decide +kernel
theorem dX4_findGroups_172 : decode cX4_findGroups 172 = .ok (.aload_n 0, 1) := by decide +kernel
theorem dX4_findGroups_173 : decode cX4_findGroups 173 = .ok (.dup, 1) := by decide +kernel
theorem dX4_findGroups_174 : decode cX4_findGroups 174 = .ok (.getfield 114, 3) := by decide +kernel
theorem dX4_findGroups_177 : decode cX4_findGroups 177 = .ok (.iconst 1, 1) := by decide +kernel
theorem dX4_findGroups_178 : decode cX4_findGroups 178 = .ok (.iadd, 1) := by decide +kernel
theorem dX4_findGroups_179 : decode cX4_findGroups 179 = .ok (.putfield 114, 3) := by decide +kernel
theorem dX4_findGroups_182 : decode cX4_findGroups 182 = .ok (.aload_n 0, 1) := by decide +kernel
theorem dX4_findGroups_183 : decode cX4_findGroups 183 = .ok (.dup, 1) := by decide +kernel
theorem dX4_findGroups_184 : decode cX4_findGroups 184 = .ok (.getfield 117, 3) := by decide +kernel
theorem dX4_findGroups_187 : decode cX4_findGroups 187 = .ok (.aload_n 0, 1) := by decide +kernel
theorem dX4_findGroups_188 : decode cX4_findGroups 188 = .ok (.getfield 44, 3) := by decide +kernel
theorem dX4_findGroups_191 : decode cX4_findGroups 191 = .ok (.iload 4, 2) := by decide +kernel
theorem dX4_findGroups_193 : decode cX4_findGroups 193 = .ok (.iaload, 1) := by decide +kernel
theorem dX4_findGroups_194 : decode cX4_findGroups 194 = .ok (.aload_n 0, 1) := by decide +kernel
theorem dX4_findGroups_195 : decode cX4_findGroups 195 = .ok (.getfield 19, 3) := by decide +kernel
theorem dX4_findGroups_198 : decode cX4_findGroups 198 = .ok (.iconst 1, 1) := by decide +kernel
theorem dX4_findGroups_199 : decode cX4_findGroups 199 = .ok (.iaload, 1) := by decide +kernel
theorem dX4_findGroups_200 : decode cX4_findGroups 200 = .ok (.iadd, 1) := by decide +kernel
theorem dX4_findGroups_201 : decode cX4_findGroups 201 = .ok (.aload_n 0, 1) := by decide +kernel
theorem dX4_findGroups_202 : decode cX4_findGroups 202 = .ok (.invokevirtual 107, 3) := by decide +kernel
theorem dX4_findGroups_205 : decode cX4_findGroups 205 = .ok (.if_icmp .ge 7, 3) := by decide +kernel
theorem dX4_findGroups_208 : decode cX4_findGroups 208 = .ok (.iconst 1, 1) := by decide +kernel
theorem dX4_findGroups_209 : decode cX4_findGroups 209 = .ok (.goto 4, 3) := by decide +kernel
theorem dX4_findGroups_212 : decode cX4_findGroups 212 = .ok (.iconst 0, 1) := by decide +kernel
theorem dX4_findGroups_213 : decode cX4_findGroups 213 = .ok (.iadd, 1) := by decide +kernel
theorem dX4_findGroups_214 : decode cX4_findGroups 214 = .ok (.putfield 117, 3) := by decide +kernel
theorem dX4_findGroups_217 : decode cX4_findGroups 217 = .ok (.aload_n 0, 1) := by decide +kernel
theorem dX4_findGroups_218 : decode cX4_findGroups 218 = .ok (.getfield 50, 3) := by decide +kernel
theorem dX4_findGroups_221 : decode cX4_findGroups 221 = .ok (.iload 4, 2) := by decide +kernel
theorem dX4_findGroups_223 : decode cX4_findGroups 223 = .ok (.aload_n 0, 1) := by decide +kernel
theorem dX4_findGroups_224 : decode cX4_findGroups 224 = .ok (.getfield 114, 3) := by decide +kernel
theorem dX4_findGroups_227 : decode cX4_findGroups 227 = .ok (.iconst 1, 1) := by decide +kernel
theorem dX4_findGroups_228 : decode cX4_findGroups 228 = .ok (.isub, 1) := by decide +kernel
theorem dX4_findGroups_229 : decode cX4_findGroups 229 = .ok (.iastore, 1) := by decide +kernel
theorem dX4_findGroups_230 : decode cX4_findGroups 230 = .ok (.iinc 4 1, 3) := by decide +kernel
theorem dX4_findGroups_233 : decode cX4_findGroups 233 = .ok (.goto (-121), 3) := by decide +kernel
theorem dX4_findGroups_236 : decode cX4_findGroups 236 = .ok (.return_, 1) := by decide +kernel
theorem dX4_manyIn_0 : decode cX4_manyIn 0 = .ok (.iconst 0, 1) := by decide +kernel
theorem dX4_manyIn_1 : decode cX4_manyIn 1 = .ok (.istore_n 2, 1) := by decide +kernel
theorem dX4_manyIn_2 : decode cX4_manyIn 2 = .ok (.iconst 0, 1) := by decide +kernel
theorem dX4_manyIn_3 : decode cX4_manyIn 3 = .ok (.istore_n 3, 1) := by decide +kernel
theorem dX4_manyIn_4 : decode cX4_manyIn 4 = .ok (.iload_n 3, 1) := by decide +kernel
theorem dX4_manyIn_5 : decode cX4_manyIn 5 = .ok (.aload_n 0, 1) := by decide +kernel
theorem dX4_manyIn_6 : decode cX4_manyIn 6 = .ok (.getfield 101, 3) := by decide +kernel
theorem dX4_manyIn_9 : decode cX4_manyIn 9 = .ok (.if_icmp .ge 27, 3) := by decide +kernel
theorem dX4_manyIn_12 : decode cX4_manyIn 12 = .ok (.iload_n 2, 1) := by decide +kernel
theorem dX4_manyIn_13 : decode cX4_manyIn 13 = .ok (.aload_n 0, 1) := by decide +kernel
theorem dX4_manyIn_14 : decode cX4_manyIn 14 = .ok (.getfield 50, 3) := by decide +kernel
theorem dX4_manyIn_17 : decode cX4_manyIn 17 = .ok (.iload_n 3, 1) := by decide +kernel
theorem dX4_manyIn_18 : decode cX4_manyIn 18 = .ok (.iaload, 1) := by decide +kernel
theorem dX4_manyIn_19 : decode cX4_manyIn 19 = .ok (.iload_n 1, 1) := by decide +kernel
theorem dX4_manyIn_20 : decode cX4_manyIn 20 = .ok (.if_icmp .ne 7, 3) := by decide +kernel
theorem dX4_manyIn_23 : decode cX4_manyIn 23 = .ok (.iconst 1, 1) := by decide +kernel
theorem dX4_manyIn_24 : decode cX4_manyIn 24 = .ok (.goto 4, 3) := by decide +kernel
theorem dX4_manyIn_27 : decode cX4_manyIn 27 = .ok (.iconst 0, 1) := by decide +kernel
theorem dX4_manyIn_28 : decode cX4_manyIn 28 = .ok (.iadd, 1) := by decide +kernel
theorem dX4_manyIn_29 : decode cX4_manyIn 29 = .ok (.istore_n 2, 1) := by decide +kernel
theorem dX4_manyIn_30 : decode cX4_manyIn 30 = .ok (.iinc 3 1, 3) := by decide +kernel
theorem dX4_manyIn_33 : decode cX4_manyIn 33 = .ok (.goto (-29), 3) := by decide +kernel
theorem dX4_manyIn_36 : decode cX4_manyIn 36 = .ok (.iload_n 2, 1) := by decide +kernel
theorem dX4_manyIn_37 : decode cX4_manyIn 37 = .ok (.ireturn, 1) := by decide +kernel
theorem dX4_memberIn_0 : decode cX4_memberIn 0 = .ok (.aload_n 0, 1) := by decide +kernel
theorem dX4_memberIn_1 : decode cX4_memberIn 1 = .ok (.getfield 53, 3) := by decide +kernel
theorem dX4_memberIn_4 : decode cX4_memberIn 4 = .ok (.iload_n 1, 1) := by decide +kernel
theorem dX4_memberIn_5 : decode cX4_memberIn 5 = .ok (.iaload, 1) := by decide +kernel
theorem dX4_memberIn_6 : decode cX4_memberIn 6 = .ok (.istore_n 3, 1) := by decide +kernel
theorem dX4_memberIn_7 : decode cX4_memberIn 7 = .ok (.iload_n 3, 1) := by decide +kernel
theorem dX4_memberIn_8 : decode cX4_memberIn 8 = .ok (.aload_n 0, 1) := by decide +kernel
theorem dX4_memberIn_9 : decode cX4_memberIn 9 = .ok (.getfield 101, 3) := by decide +kernel
theorem dX4_memberIn_12 : decode cX4_memberIn 12 = .ok (.if_icmp .ge 36, 3) := by decide +kernel
theorem dX4_memberIn_15 : decode cX4_memberIn 15 = .ok (.aload_n 0, 1) := by decide +kernel
theorem dX4_memberIn_16 : decode cX4_memberIn 16 = .ok (.getfield 50, 3) := by decide +kernel
theorem dX4_memberIn_19 : decode cX4_memberIn 19 = .ok (.iload_n 3, 1) := by decide +kernel
theorem dX4_memberIn_20 : decode cX4_memberIn 20 = .ok (.iaload, 1) := by decide +kernel
theorem dX4_memberIn_21 : decode cX4_memberIn 21 = .ok (.iload_n 1, 1) := by decide +kernel
theorem dX4_memberIn_22 : decode cX4_memberIn 22 = .ok (.if_icmp .ne 26, 3) := by decide +kernel
theorem dX4_memberIn_25 : decode cX4_memberIn 25 = .ok (.aload_n 0, 1) := by decide +kernel
theorem dX4_memberIn_26 : decode cX4_memberIn 26 = .ok (.getfield 28, 3) := by decide +kernel
theorem dX4_memberIn_29 : decode cX4_memberIn 29 = .ok (.aload_n 0, 1) := by decide +kernel
theorem dX4_memberIn_30 : decode cX4_memberIn 30 = .ok (.getfield 47, 3) := by decide +kernel
theorem dX4_memberIn_33 : decode cX4_memberIn 33 = .ok (.iload_n 3, 1) := by decide +kernel
theorem dX4_memberIn_34 : decode cX4_memberIn 34 = .ok (.iaload, 1) := by decide +kernel
theorem dX4_memberIn_35 : decode cX4_memberIn 35 = .ok (.iaload, 1) := by decide +kernel
theorem dX4_memberIn_36 : decode cX4_memberIn 36 = .ok (.iload_n 2, 1) := by decide +kernel
theorem dX4_memberIn_37 : decode cX4_memberIn 37 = .ok (.if_icmp .ne 5, 3) := by decide +kernel
theorem dX4_memberIn_40 : decode cX4_memberIn 40 = .ok (.iload_n 3, 1) := by decide +kernel
theorem dX4_memberIn_41 : decode cX4_memberIn 41 = .ok (.ireturn, 1) := by decide +kernel
theorem dX4_memberIn_42 : decode cX4_memberIn 42 = .ok (.iinc 3 1, 3) := by decide +kernel
theorem dX4_memberIn_45 : decode cX4_memberIn 45 = .ok (.goto (-38), 3) := by decide +kernel
theorem dX4_memberIn_48 : decode cX4_memberIn 48 = .ok (.bipush (-9), 2) := by decide +kernel
theorem dX4_memberIn_50 : decode cX4_memberIn 50 = .ok (.ireturn, 1) := by decide +kernel
theorem dX4_setOf_0 : decode cX4_setOf 0 = .ok (.iconst 0, 1) := by decide +kernel
theorem dX4_setOf_1 : decode cX4_setOf 1 = .ok (.istore_n 2, 1) := by decide +kernel
theorem dX4_setOf_2 : decode cX4_setOf 2 = .ok (.iconst 0, 1) := by decide +kernel
theorem dX4_setOf_3 : decode cX4_setOf 3 = .ok (.istore_n 3, 1) := by decide +kernel
theorem dX4_setOf_4 : decode cX4_setOf 4 = .ok (.iload_n 3, 1) := by decide +kernel
theorem dX4_setOf_5 : decode cX4_setOf 5 = .ok (.aload_n 0, 1) := by decide +kernel
theorem dX4_setOf_6 : decode cX4_setOf 6 = .ok (.getfield 101, 3) := by decide +kernel
theorem dX4_setOf_9 : decode cX4_setOf 9 = .ok (.if_icmp .ge 39, 3) := by decide +kernel
theorem dX4_setOf_12 : decode cX4_setOf 12 = .ok (.iload_n 2, 1) := by decide +kernel
theorem dX4_setOf_13 : decode cX4_setOf 13 = .ok (.aload_n 0, 1) := by decide +kernel
theorem dX4_setOf_14 : decode cX4_setOf 14 = .ok (.getfield 50, 3) := by decide +kernel
theorem dX4_setOf_17 : decode cX4_setOf 17 = .ok (.iload_n 3, 1) := by decide +kernel
theorem dX4_setOf_18 : decode cX4_setOf 18 = .ok (.iaload, 1) := by decide +kernel
theorem dX4_setOf_19 : decode cX4_setOf 19 = .ok (.iload_n 1, 1) := by decide +kernel
theorem dX4_setOf_20 : decode cX4_setOf 20 = .ok (.if_icmp .ne 19, 3) := by decide +kernel
theorem dX4_setOf_23 : decode cX4_setOf 23 = .ok (.iconst 1, 1) := by decide +kernel
theorem dX4_setOf_24 : decode cX4_setOf 24 = .ok (.aload_n 0, 1) := by decide +kernel
theorem dX4_setOf_25 : decode cX4_setOf 25 = .ok (.getfield 28, 3) := by decide +kernel
theorem dX4_setOf_28 : decode cX4_setOf 28 = .ok (.aload_n 0, 1) := by decide +kernel
theorem dX4_setOf_29 : decode cX4_setOf 29 = .ok (.getfield 47, 3) := by decide +kernel
theorem dX4_setOf_32 : decode cX4_setOf 32 = .ok (.iload_n 3, 1) := by decide +kernel
theorem dX4_setOf_33 : decode cX4_setOf 33 = .ok (.iaload, 1) := by decide +kernel
theorem dX4_setOf_34 : decode cX4_setOf 34 = .ok (.iaload, 1) := by decide +kernel
theorem dX4_setOf_35 : decode cX4_setOf 35 = .ok (.ishl, 1) := by decide +kernel
theorem dX4_setOf_36 : decode cX4_setOf 36 = .ok (.goto 4, 3) := by decide +kernel
theorem dX4_setOf_39 : decode cX4_setOf 39 = .ok (.iconst 0, 1) := by decide +kernel
theorem dX4_setOf_40 : decode cX4_setOf 40 = .ok (.ior, 1) := by decide +kernel
theorem dX4_setOf_41 : decode cX4_setOf 41 = .ok (.istore_n 2, 1) := by decide +kernel
theorem dX4_setOf_42 : decode cX4_setOf 42 = .ok (.iinc 3 1, 3) := by decide +kernel
theorem dX4_setOf_45 : decode cX4_setOf 45 = .ok (.goto (-41), 3) := by decide +kernel
theorem dX4_setOf_48 : decode cX4_setOf 48 = .ok (.iload_n 2, 1) := by decide +kernel
theorem dX4_setOf_49 : decode cX4_setOf 49 = .ok (.ireturn, 1) := by decide +kernel
theorem dX4_size_0 : decode cX4_size 0 = .ok (.iconst 0, 1) := by decide +kernel
theorem dX4_size_1 : decode cX4_size 1 = .ok (.istore_n 1, 1) := by decide +kernel
theorem dX4_size_2 : decode cX4_size 2 = .ok (.iconst 0, 1) := by decide +kernel
theorem dX4_size_3 : decode cX4_size 3 = .ok (.istore_n 2, 1) := by decide +kernel
theorem dX4_size_4 : decode cX4_size 4 = .ok (.iload_n 2, 1) := by decide +kernel
theorem dX4_size_5 : decode cX4_size 5 = .ok (.bipush 6, 2) := by decide +kernel
theorem dX4_size_7 : decode cX4_size 7 = .ok (.if_icmp .ge 17, 3) := by decide +kernel
theorem dX4_size_10 : decode cX4_size 10 = .ok (.iload_n 1, 1) := by decide +kernel
theorem dX4_size_11 : decode cX4_size 11 = .ok (.iload_n 0, 1) := by decide +kernel
theorem dX4_size_12 : decode cX4_size 12 = .ok (.iload_n 2, 1) := by decide +kernel
theorem dX4_size_13 : decode cX4_size 13 = .ok (.ishr, 1) := by decide +kernel
theorem dX4_size_14 : decode cX4_size 14 = .ok (.iconst 1, 1) := by decide +kernel
theorem dX4_size_15 : decode cX4_size 15 = .ok (.iand, 1) := by decide +kernel
theorem dX4_size_16 : decode cX4_size 16 = .ok (.iadd, 1) := by decide +kernel
theorem dX4_size_17 : decode cX4_size 17 = .ok (.istore_n 1, 1) := by decide +kernel
theorem dX4_size_18 : decode cX4_size 18 = .ok (.iinc 2 1, 3) := by decide +kernel
theorem dX4_size_21 : decode cX4_size 21 = .ok (.goto (-17), 3) := by decide +kernel
theorem dX4_size_24 : decode cX4_size 24 = .ok (.iload_n 1, 1) := by decide +kernel
theorem dX4_size_25 : decode cX4_size 25 = .ok (.ireturn, 1) := by decide +kernel
theorem dX4_isGroup_0 : decode cX4_isGroup 0 = .ok (.aload_n 0, 1) := by decide +kernel
theorem dX4_isGroup_1 : decode cX4_isGroup 1 = .ok (.iconst 0, 1) := by decide +kernel
theorem dX4_isGroup_2 : decode cX4_isGroup 2 = .ok (.iconst 0, 1) := by decide +kernel
theorem dX4_isGroup_3 : decode cX4_isGroup 3 = .ok (.invokevirtual 120, 3) := by decide +kernel
theorem dX4_isGroup_6 : decode cX4_isGroup 6 = .ok (.iload_n 1, 1) := by decide +kernel
theorem dX4_isGroup_7 : decode cX4_isGroup 7 = .ok (.iconst 0, 1) := by decide +kernel
theorem dX4_isGroup_8 : decode cX4_isGroup 8 = .ok (.aload_n 0, 1) := by decide +kernel
theorem dX4_isGroup_9 : decode cX4_isGroup 9 = .ok (.getfield 117, 3) := by decide +kernel
theorem dX4_isGroup_12 : decode cX4_isGroup 12 = .ok (.iconst 1, 1) := by decide +kernel
theorem dX4_isGroup_13 : decode cX4_isGroup 13 = .ok (.isub, 1) := by decide +kernel
theorem dX4_isGroup_14 : decode cX4_isGroup 14 = .ok (.invokestatic 56, 3) := by decide +kernel
theorem dX4_isGroup_17 : decode cX4_isGroup 17 = .ok (.ireturn, 1) := by decide +kernel
theorem dX4_group_0 : decode cX4_group 0 = .ok (.aload_n 0, 1) := by decide +kernel
theorem dX4_group_1 : decode cX4_group 1 = .ok (.iload_n 1, 1) := by decide +kernel
theorem dX4_group_2 : decode cX4_group 2 = .ok (.invokevirtual 123, 3) := by decide +kernel
theorem dX4_group_5 : decode cX4_group 5 = .ok (.ifCond .ne 5, 3) := by decide +kernel
theorem dX4_group_8 : decode cX4_group 8 = .ok (.iconst (-1), 1) := by decide +kernel
theorem dX4_group_9 : decode cX4_group 9 = .ok (.ireturn, 1) := by decide +kernel
theorem dX4_group_10 : decode cX4_group 10 = .ok (.aload_n 0, 1) := by decide +kernel
theorem dX4_group_11 : decode cX4_group 11 = .ok (.getfield 53, 3) := by decide +kernel
theorem dX4_group_14 : decode cX4_group 14 = .ok (.iload_n 1, 1) := by decide +kernel
theorem dX4_group_15 : decode cX4_group 15 = .ok (.iaload, 1) := by decide +kernel
theorem dX4_group_16 : decode cX4_group 16 = .ok (.istore_n 3, 1) := by decide +kernel
theorem dX4_group_17 : decode cX4_group 17 = .ok (.iload_n 2, 1) := by decide +kernel
theorem dX4_group_18 : decode cX4_group 18 = .ok (.tableswitch 93 0 4 #[34, 44, 50, 56, 71], 34) := by decide +kernel
theorem dX4_group_52 : decode cX4_group 52 = .ok (.aload_n 0, 1) := by decide +kernel
theorem dX4_group_53 : decode cX4_group 53 = .ok (.getfield 44, 3) := by decide +kernel
theorem dX4_group_56 : decode cX4_group 56 = .ok (.iload_n 3, 1) := by decide +kernel
theorem dX4_group_57 : decode cX4_group 57 = .ok (.iaload, 1) := by decide +kernel
theorem dX4_group_58 : decode cX4_group 58 = .ok (.bipush 100, 2) := by decide +kernel
theorem dX4_group_60 : decode cX4_group 60 = .ok (.iadd, 1) := by decide +kernel
theorem dX4_group_61 : decode cX4_group 61 = .ok (.ireturn, 1) := by decide +kernel
theorem dX4_group_62 : decode cX4_group 62 = .ok (.aload_n 0, 1) := by decide +kernel
theorem dX4_group_63 : decode cX4_group 63 = .ok (.iload_n 1, 1) := by decide +kernel
theorem dX4_group_64 : decode cX4_group 64 = .ok (.invokevirtual 126, 3) := by decide +kernel
theorem dX4_group_67 : decode cX4_group 67 = .ok (.ireturn, 1) := by decide +kernel
theorem dX4_group_68 : decode cX4_group 68 = .ok (.aload_n 0, 1) := by decide +kernel
theorem dX4_group_69 : decode cX4_group 69 = .ok (.iload_n 1, 1) := by decide +kernel
theorem dX4_group_70 : decode cX4_group 70 = .ok (.invokevirtual 129, 3) := by decide +kernel
theorem dX4_group_73 : decode cX4_group 73 = .ok (.ireturn, 1) := by decide +kernel
theorem dX4_group_74 : decode cX4_group 74 = .ok (.aload_n 0, 1) := by decide +kernel
theorem dX4_group_75 : decode cX4_group 75 = .ok (.iload_n 1, 1) := by decide +kernel
theorem dX4_group_76 : decode cX4_group 76 = .ok (.invokevirtual 129, 3) := by decide +kernel
theorem dX4_group_79 : decode cX4_group 79 = .ok (.aload_n 0, 1) := by decide +kernel
theorem dX4_group_80 : decode cX4_group 80 = .ok (.iload_n 1, 1) := by decide +kernel
theorem dX4_group_81 : decode cX4_group 81 = .ok (.invokevirtual 126, 3) := by decide +kernel
theorem dX4_group_84 : decode cX4_group 84 = .ok (.invokestatic 132, 3) := by decide +kernel
theorem dX4_group_87 : decode cX4_group 87 = .ok (.isub, 1) := by decide +kernel
theorem dX4_group_88 : decode cX4_group 88 = .ok (.ireturn, 1) := by decide +kernel
theorem dX4_group_89 : decode cX4_group 89 = .ok (.aload_n 0, 1) := by decide +kernel
theorem dX4_group_90 : decode cX4_group 90 = .ok (.getfield 44, 3) := by decide +kernel
theorem dX4_group_93 : decode cX4_group 93 = .ok (.iload_n 3, 1) := by decide +kernel
theorem dX4_group_94 : decode cX4_group 94 = .ok (.aload_n 0, 1) := by decide +kernel
theorem dX4_group_95 : decode cX4_group 95 = .ok (.iload_n 1, 1) := by decide +kernel
theorem dX4_group_96 : decode cX4_group 96 = .ok (.invokevirtual 129, 3) := by decide +kernel
theorem dX4_group_99 : decode cX4_group 99 = .ok (.iadd, 1) := by decide +kernel
theorem dX4_group_100 : decode cX4_group 100 = .ok (.iconst 1, 1) := by decide +kernel
theorem dX4_group_101 : decode cX4_group 101 = .ok (.isub, 1) := by decide +kernel
theorem dX4_group_102 : decode cX4_group 102 = .ok (.iaload, 1) := by decide +kernel
theorem dX4_group_103 : decode cX4_group 103 = .ok (.aload_n 0, 1) := by decide +kernel
theorem dX4_group_104 : decode cX4_group 104 = .ok (.getfield 44, 3) := by decide +kernel
theorem dX4_group_107 : decode cX4_group 107 = .ok (.iload_n 3, 1) := by decide +kernel
theorem dX4_group_108 : decode cX4_group 108 = .ok (.iaload, 1) := by decide +kernel
theorem dX4_group_109 : decode cX4_group 109 = .ok (.isub, 1) := by decide +kernel
theorem dX4_group_110 : decode cX4_group 110 = .ok (.ireturn, 1) := by decide +kernel
theorem dX4_group_111 : decode cX4_group 111 = .ok (.bipush (-2), 2) := by decide +kernel
theorem dX4_group_113 : decode cX4_group 113 = .ok (.ireturn, 1) := by decide +kernel
theorem dX4_member_0 : decode cX4_member 0 = .ok (.aload_n 0, 1) := by decide +kernel
theorem dX4_member_1 : decode cX4_member 1 = .ok (.iload_n 1, 1) := by decide +kernel
theorem dX4_member_2 : decode cX4_member 2 = .ok (.invokevirtual 123, 3) := by decide +kernel
theorem dX4_member_5 : decode cX4_member 5 = .ok (.ifCond .eq 10, 3) := by decide +kernel
theorem dX4_member_8 : decode cX4_member 8 = .ok (.iload_n 2, 1) := by decide +kernel
theorem dX4_member_9 : decode cX4_member 9 = .ok (.invokestatic 68, 3) := by decide +kernel
theorem dX4_member_12 : decode cX4_member 12 = .ok (.ifCond .ne 5, 3) := by decide +kernel
theorem dX4_member_15 : decode cX4_member 15 = .ok (.iconst (-1), 1) := by decide +kernel
theorem dX4_member_16 : decode cX4_member 16 = .ok (.ireturn, 1) := by decide +kernel
theorem dX4_member_17 : decode cX4_member 17 = .ok (.iload_n 3, 1) := by decide +kernel
theorem dX4_member_18 : decode cX4_member 18 = .ok (.iconst 0, 1) := by decide +kernel
theorem dX4_member_19 : decode cX4_member 19 = .ok (.iconst 1, 1) := by decide +kernel
theorem dX4_member_20 : decode cX4_member 20 = .ok (.invokestatic 56, 3) := by decide +kernel
theorem dX4_member_23 : decode cX4_member 23 = .ok (.ifCond .ne 6, 3) := by decide +kernel
theorem dX4_member_26 : decode cX4_member 26 = .ok (.bipush (-2), 2) := by decide +kernel
theorem dX4_member_28 : decode cX4_member 28 = .ok (.ireturn, 1) := by decide +kernel
theorem dX4_member_29 : decode cX4_member 29 = .ok (.aload_n 0, 1) := by decide +kernel
theorem dX4_member_30 : decode cX4_member 30 = .ok (.iload_n 1, 1) := by decide +kernel
theorem dX4_member_31 : decode cX4_member 31 = .ok (.iload_n 2, 1) := by decide +kernel
theorem dX4_member_32 : decode cX4_member 32 = .ok (.invokevirtual 135, 3) := by decide +kernel
theorem dX4_member_35 : decode cX4_member 35 = .ok (.istore 4, 2) := by decide +kernel
theorem dX4_member_37 : decode cX4_member 37 = .ok (.iload 4, 2) := by decide +kernel
theorem dX4_member_39 : decode cX4_member 39 = .ok (.bipush (-9), 2) := by decide +kernel
theorem dX4_member_41 : decode cX4_member 41 = .ok (.if_icmp .ne 8, 3) := by decide +kernel
theorem dX4_member_44 : decode cX4_member 44 = .ok (.bipush (-9), 2) := by decide +kernel
theorem dX4_member_46 : decode cX4_member 46 = .ok (.goto 34, 3) := by decide +kernel
theorem dX4_member_49 : decode cX4_member 49 = .ok (.iload_n 3, 1) := by decide +kernel
theorem dX4_member_50 : decode cX4_member 50 = .ok (.ifCond .ne 18, 3) := by decide +kernel
theorem dX4_member_53 : decode cX4_member 53 = .ok (.aload_n 0, 1) := by decide +kernel
theorem dX4_member_54 : decode cX4_member 54 = .ok (.getfield 31, 3) := by decide +kernel
theorem dX4_member_57 : decode cX4_member 57 = .ok (.aload_n 0, 1) := by decide +kernel
theorem dX4_member_58 : decode cX4_member 58 = .ok (.getfield 47, 3) := by decide +kernel
theorem dX4_member_61 : decode cX4_member 61 = .ok (.iload 4, 2) := by decide +kernel
theorem dX4_member_63 : decode cX4_member 63 = .ok (.iaload, 1) := by decide +kernel
theorem dX4_member_64 : decode cX4_member 64 = .ok (.iaload, 1) := by decide +kernel
theorem dX4_member_65 : decode cX4_member 65 = .ok (.goto 15, 3) := by decide +kernel
theorem dX4_member_68 : decode cX4_member 68 = .ok (.aload_n 0, 1) := by decide +kernel
theorem dX4_member_69 : decode cX4_member 69 = .ok (.getfield 34, 3) := by decide +kernel
theorem dX4_member_72 : decode cX4_member 72 = .ok (.aload_n 0, 1) := by decide +kernel
theorem dX4_member_73 : decode cX4_member 73 = .ok (.getfield 47, 3) := by decide +kernel
theorem dX4_member_76 : decode cX4_member 76 = .ok (.iload 4, 2) := by decide +kernel
theorem dX4_member_78 : decode cX4_member 78 = .ok (.iaload, 1) := by decide +kernel
theorem dX4_member_79 : decode cX4_member 79 = .ok (.iaload, 1) := by decide +kernel
theorem dX4_member_80 : decode cX4_member 80 = .ok (.ireturn, 1) := by decide +kernel
theorem dX4_having_0 : decode cX4_having 0 = .ok (.iload_n 1, 1) := by decide +kernel
theorem dX4_having_1 : decode cX4_having 1 = .ok (.iconst 0, 1) := by decide +kernel
theorem dX4_having_2 : decode cX4_having 2 = .ok (.bipush 63, 2) := by decide +kernel
theorem dX4_having_4 : decode cX4_having 4 = .ok (.invokestatic 56, 3) := by decide +kernel
theorem dX4_having_7 : decode cX4_having 7 = .ok (.ifCond .eq 12, 3) := by decide +kernel
theorem dX4_having_10 : decode cX4_having 10 = .ok (.iload_n 2, 1) := by decide +kernel
theorem dX4_having_11 : decode cX4_having 11 = .ok (.iconst 0, 1) := by decide +kernel
theorem dX4_having_12 : decode cX4_having 12 = .ok (.iconst 2, 1) := by decide +kernel
theorem dX4_having_13 : decode cX4_having 13 = .ok (.invokestatic 56, 3) := by decide +kernel
theorem dX4_having_16 : decode cX4_having 16 = .ok (.ifCond .ne 6, 3) := by decide +kernel
theorem dX4_having_19 : decode cX4_having 19 = .ok (.bipush (-2), 2) := by decide +kernel
theorem dX4_having_21 : decode cX4_having 21 = .ok (.ireturn, 1) := by decide +kernel
theorem dX4_having_22 : decode cX4_having 22 = .ok (.aload_n 0, 1) := by decide +kernel
theorem dX4_having_23 : decode cX4_having 23 = .ok (.iconst 0, 1) := by decide +kernel
theorem dX4_having_24 : decode cX4_having 24 = .ok (.iconst 0, 1) := by decide +kernel
theorem dX4_having_25 : decode cX4_having 25 = .ok (.invokevirtual 120, 3) := by decide +kernel
theorem dX4_having_28 : decode cX4_having 28 = .ok (.iconst 0, 1) := by decide +kernel
theorem dX4_having_29 : decode cX4_having 29 = .ok (.istore_n 3, 1) := by decide +kernel
theorem dX4_having_30 : decode cX4_having 30 = .ok (.iconst 0, 1) := by decide +kernel
theorem dX4_having_31 : decode cX4_having 31 = .ok (.istore 4, 2) := by decide +kernel
theorem dX4_having_33 : decode cX4_having 33 = .ok (.iload 4, 2) := by decide +kernel
theorem dX4_having_35 : decode cX4_having 35 = .ok (.aload_n 0, 1) := by decide +kernel
theorem dX4_having_36 : decode cX4_having 36 = .ok (.getfield 117, 3) := by decide +kernel
theorem dX4_having_39 : decode cX4_having 39 = .ok (.if_icmp .ge 83, 3) := by decide +kernel
theorem dX4_having_42 : decode cX4_having 42 = .ok (.aload_n 0, 1) := by decide +kernel
theorem dX4_having_43 : decode cX4_having 43 = .ok (.iload 4, 2) := by decide +kernel
theorem dX4_having_45 : decode cX4_having 45 = .ok (.invokevirtual 126, 3) := by decide +kernel
theorem dX4_having_48 : decode cX4_having 48 = .ok (.istore 5, 2) := by decide +kernel
theorem dX4_having_50 : decode cX4_having 50 = .ok (.iload_n 2, 1) := by decide +kernel
theorem dX4_having_51 : decode cX4_having 51 = .ok (.ifCond .ne 17, 3) := by decide +kernel
theorem dX4_having_54 : decode cX4_having 54 = .ok (.iload 5, 2) := by decide +kernel
theorem dX4_having_56 : decode cX4_having 56 = .ok (.iload_n 1, 1) := by decide +kernel
theorem dX4_having_57 : decode cX4_having 57 = .ok (.if_icmp .ne 7, 3) := by decide +kernel
theorem dX4_having_60 : decode cX4_having 60 = .ok (.iconst 1, 1) := by decide +kernel
theorem dX4_having_61 : decode cX4_having 61 = .ok (.goto 40, 3) := by decide +kernel
theorem dX4_having_64 : decode cX4_having 64 = .ok (.iconst 0, 1) := by decide +kernel
theorem dX4_having_65 : decode cX4_having 65 = .ok (.goto 36, 3) := by decide +kernel
theorem dX4_having_68 : decode cX4_having 68 = .ok (.iload_n 2, 1) := by decide +kernel
theorem dX4_having_69 : decode cX4_having 69 = .ok (.iconst 1, 1) := by decide +kernel
theorem dX4_having_70 : decode cX4_having 70 = .ok (.if_icmp .ne 19, 3) := by decide +kernel
theorem dX4_having_73 : decode cX4_having 73 = .ok (.iload 5, 2) := by decide +kernel
theorem dX4_having_75 : decode cX4_having 75 = .ok (.iload_n 1, 1) := by decide +kernel
theorem dX4_having_76 : decode cX4_having 76 = .ok (.iand, 1) := by decide +kernel
theorem dX4_having_77 : decode cX4_having 77 = .ok (.iload_n 1, 1) := by decide +kernel
theorem dX4_having_78 : decode cX4_having 78 = .ok (.if_icmp .ne 7, 3) := by decide +kernel
theorem dX4_having_81 : decode cX4_having 81 = .ok (.iconst 1, 1) := by decide +kernel
theorem dX4_having_82 : decode cX4_having 82 = .ok (.goto 19, 3) := by decide +kernel
theorem dX4_having_85 : decode cX4_having 85 = .ok (.iconst 0, 1) := by decide +kernel
theorem dX4_having_86 : decode cX4_having 86 = .ok (.goto 15, 3) := by decide +kernel
theorem dX4_having_89 : decode cX4_having 89 = .ok (.iload 5, 2) := by decide +kernel
theorem dX4_having_91 : decode cX4_having 91 = .ok (.iload_n 1, 1) := by decide +kernel
theorem dX4_having_92 : decode cX4_having 92 = .ok (.iand, 1) := by decide +kernel
theorem dX4_having_93 : decode cX4_having 93 = .ok (.ifCond .ne 7, 3) := by decide +kernel
theorem dX4_having_96 : decode cX4_having 96 = .ok (.iconst 1, 1) := by decide +kernel
theorem dX4_having_97 : decode cX4_having 97 = .ok (.goto 4, 3) := by decide +kernel
theorem dX4_having_100 : decode cX4_having 100 = .ok (.iconst 0, 1) := by decide +kernel
theorem dX4_having_101 : decode cX4_having 101 = .ok (.istore 6, 2) := by decide +kernel
theorem dX4_having_103 : decode cX4_having 103 = .ok (.iload_n 3, 1) := by decide +kernel
theorem dX4_having_104 : decode cX4_having 104 = .ok (.iload 6, 2) := by decide +kernel
theorem dX4_having_106 : decode cX4_having 106 = .ok (.ifCond .eq 7, 3) := by decide +kernel
theorem dX4_having_109 : decode cX4_having 109 = .ok (.iconst 1, 1) := by decide +kernel
theorem dX4_having_110 : decode cX4_having 110 = .ok (.goto 4, 3) := by decide +kernel
theorem dX4_having_113 : decode cX4_having 113 = .ok (.iconst 0, 1) := by decide +kernel
theorem dX4_having_114 : decode cX4_having 114 = .ok (.iadd, 1) := by decide +kernel
theorem dX4_having_115 : decode cX4_having 115 = .ok (.istore_n 3, 1) := by decide +kernel
theorem dX4_having_116 : decode cX4_having 116 = .ok (.iinc 4 1, 3) := by decide +kernel
theorem dX4_having_119 : decode cX4_having 119 = .ok (.goto (-86), 3) := by decide +kernel
theorem dX4_having_122 : decode cX4_having 122 = .ok (.iload_n 3, 1) := by decide +kernel
theorem dX4_having_123 : decode cX4_having 123 = .ok (.ireturn, 1) := by decide +kernel
theorem dX4_folds_0 : decode cX4_folds 0 = .ok (.iload_n 1, 1) := by decide +kernel
theorem dX4_folds_1 : decode cX4_folds 1 = .ok (.iconst 1, 1) := by decide +kernel
theorem dX4_folds_2 : decode cX4_folds 2 = .ok (.bipush 6, 2) := by decide +kernel
theorem dX4_folds_4 : decode cX4_folds 4 = .ok (.invokestatic 56, 3) := by decide +kernel
theorem dX4_folds_7 : decode cX4_folds 7 = .ok (.ifCond .ne 6, 3) := by decide +kernel
theorem dX4_folds_10 : decode cX4_folds 10 = .ok (.bipush (-2), 2) := by decide +kernel
theorem dX4_folds_12 : decode cX4_folds 12 = .ok (.ireturn, 1) := by decide +kernel
theorem dX4_folds_13 : decode cX4_folds 13 = .ok (.aload_n 0, 1) := by decide +kernel
theorem dX4_folds_14 : decode cX4_folds 14 = .ok (.iconst 0, 1) := by decide +kernel
theorem dX4_folds_15 : decode cX4_folds 15 = .ok (.iconst 0, 1) := by decide +kernel
theorem dX4_folds_16 : decode cX4_folds 16 = .ok (.invokevirtual 120, 3) := by decide +kernel
theorem dX4_folds_19 : decode cX4_folds 19 = .ok (.iconst 0, 1) := by decide +kernel
theorem dX4_folds_20 : decode cX4_folds 20 = .ok (.istore_n 2, 1) := by decide +kernel
theorem dX4_folds_21 : decode cX4_folds 21 = .ok (.iconst 0, 1) := by decide +kernel
theorem dX4_folds_22 : decode cX4_folds 22 = .ok (.istore_n 3, 1) := by decide +kernel
theorem dX4_folds_23 : decode cX4_folds 23 = .ok (.iload_n 3, 1) := by decide +kernel
theorem dX4_folds_24 : decode cX4_folds 24 = .ok (.aload_n 0, 1) := by decide +kernel
theorem dX4_folds_25 : decode cX4_folds 25 = .ok (.getfield 117, 3) := by decide +kernel
theorem dX4_folds_28 : decode cX4_folds 28 = .ok (.if_icmp .ge 29, 3) := by decide +kernel
theorem dX4_folds_31 : decode cX4_folds 31 = .ok (.iload_n 2, 1) := by decide +kernel
theorem dX4_folds_32 : decode cX4_folds 32 = .ok (.aload_n 0, 1) := by decide +kernel
theorem dX4_folds_33 : decode cX4_folds 33 = .ok (.iload_n 3, 1) := by decide +kernel
theorem dX4_folds_34 : decode cX4_folds 34 = .ok (.invokevirtual 126, 3) := by decide +kernel
theorem dX4_folds_37 : decode cX4_folds 37 = .ok (.invokestatic 132, 3) := by decide +kernel
theorem dX4_folds_40 : decode cX4_folds 40 = .ok (.iload_n 1, 1) := by decide +kernel
theorem dX4_folds_41 : decode cX4_folds 41 = .ok (.if_icmp .ne 7, 3) := by decide +kernel
theorem dX4_folds_44 : decode cX4_folds 44 = .ok (.iconst 1, 1) := by decide +kernel
theorem dX4_folds_45 : decode cX4_folds 45 = .ok (.goto 4, 3) := by decide +kernel
theorem dX4_folds_48 : decode cX4_folds 48 = .ok (.iconst 0, 1) := by decide +kernel
theorem dX4_folds_49 : decode cX4_folds 49 = .ok (.iadd, 1) := by decide +kernel
theorem dX4_folds_50 : decode cX4_folds 50 = .ok (.istore_n 2, 1) := by decide +kernel
theorem dX4_folds_51 : decode cX4_folds 51 = .ok (.iinc 3 1, 3) := by decide +kernel
theorem dX4_folds_54 : decode cX4_folds 54 = .ok (.goto (-31), 3) := by decide +kernel
theorem dX4_folds_57 : decode cX4_folds 57 = .ok (.iload_n 2, 1) := by decide +kernel
theorem dX4_folds_58 : decode cX4_folds 58 = .ok (.ireturn, 1) := by decide +kernel
theorem dX4_coincidences_0 : decode cX4_coincidences 0 = .ok (.iconst 0, 1) := by decide +kernel
theorem dX4_coincidences_1 : decode cX4_coincidences 1 = .ok (.istore_n 2, 1) := by decide +kernel
theorem dX4_coincidences_2 : decode cX4_coincidences 2 = .ok (.iconst 0, 1) := by decide +kernel
theorem dX4_coincidences_3 : decode cX4_coincidences 3 = .ok (.istore_n 3, 1) := by decide +kernel
theorem dX4_coincidences_4 : decode cX4_coincidences 4 = .ok (.iload_n 3, 1) := by decide +kernel
theorem dX4_coincidences_5 : decode cX4_coincidences 5 = .ok (.iload_n 1, 1) := by decide +kernel
theorem dX4_coincidences_6 : decode cX4_coincidences 6 = .ok (.if_icmp .ge 34, 3) := by decide +kernel
theorem dX4_coincidences_9 : decode cX4_coincidences 9 = .ok (.iload_n 2, 1) := by decide +kernel
theorem dX4_coincidences_10 : decode cX4_coincidences 10 = .ok (.aload_n 0, 1) := by decide +kernel
theorem dX4_coincidences_11 : decode cX4_coincidences 11 = .ok (.iload_n 3, 1) := by decide +kernel
theorem dX4_coincidences_12 : decode cX4_coincidences 12 = .ok (.invokevirtual 126, 3) := by decide +kernel
theorem dX4_coincidences_15 : decode cX4_coincidences 15 = .ok (.invokestatic 132, 3) := by decide +kernel
theorem dX4_coincidences_18 : decode cX4_coincidences 18 = .ok (.aload_n 0, 1) := by decide +kernel
theorem dX4_coincidences_19 : decode cX4_coincidences 19 = .ok (.getfield 19, 3) := by decide +kernel
theorem dX4_coincidences_22 : decode cX4_coincidences 22 = .ok (.iconst 2, 1) := by decide +kernel
theorem dX4_coincidences_23 : decode cX4_coincidences 23 = .ok (.iaload, 1) := by decide +kernel
theorem dX4_coincidences_24 : decode cX4_coincidences 24 = .ok (.if_icmp .lt 7, 3) := by decide +kernel
theorem dX4_coincidences_27 : decode cX4_coincidences 27 = .ok (.iconst 1, 1) := by decide +kernel
theorem dX4_coincidences_28 : decode cX4_coincidences 28 = .ok (.goto 4, 3) := by decide +kernel
theorem dX4_coincidences_31 : decode cX4_coincidences 31 = .ok (.iconst 0, 1) := by decide +kernel
theorem dX4_coincidences_32 : decode cX4_coincidences 32 = .ok (.iadd, 1) := by decide +kernel
theorem dX4_coincidences_33 : decode cX4_coincidences 33 = .ok (.istore_n 2, 1) := by decide +kernel
theorem dX4_coincidences_34 : decode cX4_coincidences 34 = .ok (.iinc 3 1, 3) := by decide +kernel
theorem dX4_coincidences_37 : decode cX4_coincidences 37 = .ok (.goto (-33), 3) := by decide +kernel
theorem dX4_coincidences_40 : decode cX4_coincidences 40 = .ok (.iload_n 2, 1) := by decide +kernel
theorem dX4_coincidences_41 : decode cX4_coincidences 41 = .ok (.ireturn, 1) := by decide +kernel
theorem dX4_shifted_0 : decode cX4_shifted 0 = .ok (.iload_n 1, 1) := by decide +kernel
theorem dX4_shifted_1 : decode cX4_shifted 1 = .ok (.iconst 0, 1) := by decide +kernel
theorem dX4_shifted_2 : decode cX4_shifted 2 = .ok (.bipush 63, 2) := by decide +kernel
theorem dX4_shifted_4 : decode cX4_shifted 4 = .ok (.invokestatic 56, 3) := by decide +kernel
theorem dX4_shifted_7 : decode cX4_shifted 7 = .ok (.ifCond .eq 14, 3) := by decide +kernel
theorem dX4_shifted_10 : decode cX4_shifted 10 = .ok (.iload_n 2, 1) := by decide +kernel
theorem dX4_shifted_11 : decode cX4_shifted 11 = .ok (.iconst 0, 1) := by decide +kernel
theorem dX4_shifted_12 : decode cX4_shifted 12 = .ok (.sipush 500, 3) := by decide +kernel
theorem dX4_shifted_15 : decode cX4_shifted 15 = .ok (.invokestatic 56, 3) := by decide +kernel
theorem dX4_shifted_18 : decode cX4_shifted 18 = .ok (.ifCond .ne 6, 3) := by decide +kernel
theorem dX4_shifted_21 : decode cX4_shifted 21 = .ok (.bipush (-2), 2) := by decide +kernel
theorem dX4_shifted_23 : decode cX4_shifted 23 = .ok (.ireturn, 1) := by decide +kernel
theorem dX4_shifted_24 : decode cX4_shifted 24 = .ok (.aload_n 0, 1) := by decide +kernel
theorem dX4_shifted_25 : decode cX4_shifted 25 = .ok (.getfield 64, 3) := by decide +kernel
theorem dX4_shifted_28 : decode cX4_shifted 28 = .ok (.ifCond .ne 6, 3) := by decide +kernel
theorem dX4_shifted_31 : decode cX4_shifted 31 = .ok (.bipush (-3), 2) := by decide +kernel
theorem dX4_shifted_33 : decode cX4_shifted 33 = .ok (.ireturn, 1) := by decide +kernel
theorem dX4_shifted_34 : decode cX4_shifted 34 = .ok (.aload_n 0, 1) := by decide +kernel
theorem dX4_shifted_35 : decode cX4_shifted 35 = .ok (.iload_n 1, 1) := by decide +kernel
theorem dX4_shifted_36 : decode cX4_shifted 36 = .ok (.iload_n 2, 1) := by decide +kernel
theorem dX4_shifted_37 : decode cX4_shifted 37 = .ok (.invokevirtual 120, 3) := by decide +kernel
theorem dX4_shifted_40 : decode cX4_shifted 40 = .ok (.aload_n 0, 1) := by decide +kernel
theorem dX4_shifted_41 : decode cX4_shifted 41 = .ok (.aload_n 0, 1) := by decide +kernel
theorem dX4_shifted_42 : decode cX4_shifted 42 = .ok (.getfield 114, 3) := by decide +kernel
theorem dX4_shifted_45 : decode cX4_shifted 45 = .ok (.invokevirtual 139, 3) := by decide +kernel
theorem dX4_shifted_48 : decode cX4_shifted 48 = .ok (.ireturn, 1) := by decide +kernel
theorem dX4_twos_0 : decode cX4_twos 0 = .ok (.iload_n 1, 1) := by decide +kernel
theorem dX4_twos_1 : decode cX4_twos 1 = .ok (.invokestatic 68, 3) := by decide +kernel
theorem dX4_twos_4 : decode cX4_twos 4 = .ok (.ifCond .eq 10, 3) := by decide +kernel
theorem dX4_twos_7 : decode cX4_twos 7 = .ok (.iload_n 2, 1) := by decide +kernel
theorem dX4_twos_8 : decode cX4_twos 8 = .ok (.invokestatic 68, 3) := by decide +kernel
theorem dX4_twos_11 : decode cX4_twos 11 = .ok (.ifCond .ne 5, 3) := by decide +kernel
theorem dX4_twos_14 : decode cX4_twos 14 = .ok (.iconst (-1), 1) := by decide +kernel
theorem dX4_twos_15 : decode cX4_twos 15 = .ok (.ireturn, 1) := by decide +kernel
theorem dX4_twos_16 : decode cX4_twos 16 = .ok (.iload_n 3, 1) := by decide +kernel
theorem dX4_twos_17 : decode cX4_twos 17 = .ok (.sipush (-200), 3) := by decide +kernel
theorem dX4_twos_20 : decode cX4_twos 20 = .ok (.sipush 200, 3) := by decide +kernel
theorem dX4_twos_23 : decode cX4_twos 23 = .ok (.invokestatic 56, 3) := by decide +kernel
theorem dX4_twos_26 : decode cX4_twos 26 = .ok (.ifCond .ne 6, 3) := by decide +kernel
theorem dX4_twos_29 : decode cX4_twos 29 = .ok (.bipush (-2), 2) := by decide +kernel
theorem dX4_twos_31 : decode cX4_twos 31 = .ok (.ireturn, 1) := by decide +kernel
theorem dX4_twos_32 : decode cX4_twos 32 = .ok (.iload_n 1, 1) := by decide +kernel
theorem dX4_twos_33 : decode cX4_twos 33 = .ok (.iload_n 2, 1) := by decide +kernel
theorem dX4_twos_34 : decode cX4_twos 34 = .ok (.if_icmp .ne 6, 3) := by decide +kernel
theorem dX4_twos_37 : decode cX4_twos 37 = .ok (.bipush (-3), 2) := by decide +kernel
theorem dX4_twos_39 : decode cX4_twos 39 = .ok (.ireturn, 1) := by decide +kernel
theorem dX4_twos_40 : decode cX4_twos 40 = .ok (.aload_n 0, 1) := by decide +kernel
theorem dX4_twos_41 : decode cX4_twos 41 = .ok (.iconst 0, 1) := by decide +kernel
theorem dX4_twos_42 : decode cX4_twos 42 = .ok (.iconst 0, 1) := by decide +kernel
theorem dX4_twos_43 : decode cX4_twos 43 = .ok (.invokevirtual 120, 3) := by decide +kernel
theorem dX4_twos_46 : decode cX4_twos 46 = .ok (.iconst 0, 1) := by decide +kernel
theorem dX4_twos_47 : decode cX4_twos 47 = .ok (.istore 4, 2) := by decide +kernel
theorem dX4_twos_49 : decode cX4_twos 49 = .ok (.iconst 0, 1) := by decide +kernel
theorem dX4_twos_50 : decode cX4_twos 50 = .ok (.istore 5, 2) := by decide +kernel
theorem dX4_twos_52 : decode cX4_twos 52 = .ok (.iload 5, 2) := by decide +kernel
theorem dX4_twos_54 : decode cX4_twos 54 = .ok (.aload_n 0, 1) := by decide +kernel
theorem dX4_twos_55 : decode cX4_twos 55 = .ok (.getfield 101, 3) := by decide +kernel
theorem dX4_twos_58 : decode cX4_twos 58 = .ok (.if_icmp .ge 100, 3) := by decide +kernel
theorem dX4_twos_61 : decode cX4_twos 61 = .ok (.iconst 0, 1) := by decide +kernel
theorem dX4_twos_62 : decode cX4_twos 62 = .ok (.istore 6, 2) := by decide +kernel
theorem dX4_twos_64 : decode cX4_twos 64 = .ok (.iload 6, 2) := by decide +kernel
theorem dX4_twos_66 : decode cX4_twos 66 = .ok (.aload_n 0, 1) := by decide +kernel
theorem dX4_twos_67 : decode cX4_twos 67 = .ok (.getfield 101, 3) := by decide +kernel
theorem dX4_twos_70 : decode cX4_twos 70 = .ok (.if_icmp .ge 82, 3) := by decide +kernel
theorem dX4_twos_73 : decode cX4_twos 73 = .ok (.aload_n 0, 1) := by decide +kernel
theorem dX4_twos_74 : decode cX4_twos 74 = .ok (.getfield 28, 3) := by decide +kernel
theorem dX4_twos_77 : decode cX4_twos 77 = .ok (.aload_n 0, 1) := by decide +kernel
theorem dX4_twos_78 : decode cX4_twos 78 = .ok (.getfield 47, 3) := by decide +kernel
theorem dX4_twos_81 : decode cX4_twos 81 = .ok (.iload 5, 2) := by decide +kernel
theorem dX4_twos_83 : decode cX4_twos 83 = .ok (.iaload, 1) := by decide +kernel
theorem dX4_twos_84 : decode cX4_twos 84 = .ok (.iaload, 1) := by decide +kernel
theorem dX4_twos_85 : decode cX4_twos 85 = .ok (.iload_n 1, 1) := by decide +kernel
theorem dX4_twos_86 : decode cX4_twos 86 = .ok (.if_icmp .ne 23, 3) := by decide +kernel
theorem dX4_twos_89 : decode cX4_twos 89 = .ok (.aload_n 0, 1) := by decide +kernel
theorem dX4_twos_90 : decode cX4_twos 90 = .ok (.getfield 28, 3) := by decide +kernel
theorem dX4_twos_93 : decode cX4_twos 93 = .ok (.aload_n 0, 1) := by decide +kernel
theorem dX4_twos_94 : decode cX4_twos 94 = .ok (.getfield 47, 3) := by decide +kernel
theorem dX4_twos_97 : decode cX4_twos 97 = .ok (.iload 6, 2) := by decide +kernel
theorem dX4_twos_99 : decode cX4_twos 99 = .ok (.iaload, 1) := by decide +kernel
theorem dX4_twos_100 : decode cX4_twos 100 = .ok (.iaload, 1) := by decide +kernel
theorem dX4_twos_101 : decode cX4_twos 101 = .ok (.iload_n 2, 1) := by decide +kernel
theorem dX4_twos_102 : decode cX4_twos 102 = .ok (.if_icmp .ne 7, 3) := by decide +kernel
theorem dX4_twos_105 : decode cX4_twos 105 = .ok (.iconst 1, 1) := by decide +kernel
theorem dX4_twos_106 : decode cX4_twos 106 = .ok (.goto 4, 3) := by decide +kernel
theorem dX4_twos_109 : decode cX4_twos 109 = .ok (.iconst 0, 1) := by decide +kernel
theorem dX4_twos_110 : decode cX4_twos 110 = .ok (.istore 7, 2) := by decide +kernel
theorem dX4_twos_112 : decode cX4_twos 112 = .ok (.iload 4, 2) := by decide +kernel
theorem dX4_twos_114 : decode cX4_twos 114 = .ok (.iload 7, 2) := by decide +kernel
theorem dX4_twos_116 : decode cX4_twos 116 = .ok (.ifCond .eq 26, 3) := by decide +kernel
theorem dX4_twos_119 : decode cX4_twos 119 = .ok (.aload_n 0, 1) := by decide +kernel
theorem dX4_twos_120 : decode cX4_twos 120 = .ok (.getfield 44, 3) := by decide +kernel
theorem dX4_twos_123 : decode cX4_twos 123 = .ok (.iload 6, 2) := by decide +kernel
theorem dX4_twos_125 : decode cX4_twos 125 = .ok (.iaload, 1) := by decide +kernel
theorem dX4_twos_126 : decode cX4_twos 126 = .ok (.aload_n 0, 1) := by decide +kernel
theorem dX4_twos_127 : decode cX4_twos 127 = .ok (.getfield 44, 3) := by decide +kernel
theorem dX4_twos_130 : decode cX4_twos 130 = .ok (.iload 5, 2) := by decide +kernel
theorem dX4_twos_132 : decode cX4_twos 132 = .ok (.iaload, 1) := by decide +kernel
theorem dX4_twos_133 : decode cX4_twos 133 = .ok (.isub, 1) := by decide +kernel
theorem dX4_twos_134 : decode cX4_twos 134 = .ok (.iload_n 3, 1) := by decide +kernel
theorem dX4_twos_135 : decode cX4_twos 135 = .ok (.if_icmp .ne 7, 3) := by decide +kernel
theorem dX4_twos_138 : decode cX4_twos 138 = .ok (.iconst 1, 1) := by decide +kernel
theorem dX4_twos_139 : decode cX4_twos 139 = .ok (.goto 4, 3) := by decide +kernel
theorem dX4_twos_142 : decode cX4_twos 142 = .ok (.iconst 0, 1) := by decide +kernel
theorem dX4_twos_143 : decode cX4_twos 143 = .ok (.iadd, 1) := by decide +kernel
theorem dX4_twos_144 : decode cX4_twos 144 = .ok (.istore 4, 2) := by decide +kernel
theorem dX4_twos_146 : decode cX4_twos 146 = .ok (.iinc 6 1, 3) := by decide +kernel
theorem dX4_twos_149 : decode cX4_twos 149 = .ok (.goto (-85), 3) := by decide +kernel
theorem dX4_twos_152 : decode cX4_twos 152 = .ok (.iinc 5 1, 3) := by decide +kernel
theorem dX4_twos_155 : decode cX4_twos 155 = .ok (.goto (-103), 3) := by decide +kernel
theorem dX4_twos_158 : decode cX4_twos 158 = .ok (.iload 4, 2) := by decide +kernel
theorem dX4_twos_160 : decode cX4_twos 160 = .ok (.ireturn, 1) := by decide +kernel
theorem dX4_span_0 : decode cX4_span 0 = .ok (.aload_n 0, 1) := by decide +kernel
theorem dX4_span_1 : decode cX4_span 1 = .ok (.getfield 60, 3) := by decide +kernel
theorem dX4_span_4 : decode cX4_span 4 = .ok (.ifCond .ne 7, 3) := by decide +kernel
theorem dX4_span_7 : decode cX4_span 7 = .ok (.iconst 0, 1) := by decide +kernel
theorem dX4_span_8 : decode cX4_span 8 = .ok (.goto 16, 3) := by decide +kernel
theorem dX4_span_11 : decode cX4_span 11 = .ok (.aload_n 0, 1) := by decide +kernel
theorem dX4_span_12 : decode cX4_span 12 = .ok (.getfield 31, 3) := by decide +kernel
theorem dX4_span_15 : decode cX4_span 15 = .ok (.aload_n 0, 1) := by decide +kernel
theorem dX4_span_16 : decode cX4_span 16 = .ok (.getfield 60, 3) := by decide +kernel
theorem dX4_span_19 : decode cX4_span 19 = .ok (.iconst 1, 1) := by decide +kernel
theorem dX4_span_20 : decode cX4_span 20 = .ok (.isub, 1) := by decide +kernel
theorem dX4_span_21 : decode cX4_span 21 = .ok (.iaload, 1) := by decide +kernel
theorem dX4_span_22 : decode cX4_span 22 = .ok (.iconst 1, 1) := by decide +kernel
theorem dX4_span_23 : decode cX4_span 23 = .ok (.iadd, 1) := by decide +kernel
theorem dX4_span_24 : decode cX4_span 24 = .ok (.ireturn, 1) := by decide +kernel
theorem dX4_liveTime_0 : decode cX4_liveTime 0 = .ok (.aload_n 0, 1) := by decide +kernel
theorem dX4_liveTime_1 : decode cX4_liveTime 1 = .ok (.invokevirtual 90, 3) := by decide +kernel
theorem dX4_liveTime_4 : decode cX4_liveTime 4 = .ok (.aload_n 0, 1) := by decide +kernel
theorem dX4_liveTime_5 : decode cX4_liveTime 5 = .ok (.invokevirtual 142, 3) := by decide +kernel
theorem dX4_liveTime_8 : decode cX4_liveTime 8 = .ok (.istore_n 2, 1) := by decide +kernel
theorem dX4_liveTime_9 : decode cX4_liveTime 9 = .ok (.iconst 0, 1) := by decide +kernel
theorem dX4_liveTime_10 : decode cX4_liveTime 10 = .ok (.istore_n 3, 1) := by decide +kernel
theorem dX4_liveTime_11 : decode cX4_liveTime 11 = .ok (.iconst 0, 1) := by decide +kernel
theorem dX4_liveTime_12 : decode cX4_liveTime 12 = .ok (.istore 4, 2) := by decide +kernel
theorem dX4_liveTime_14 : decode cX4_liveTime 14 = .ok (.iload 4, 2) := by decide +kernel
theorem dX4_liveTime_16 : decode cX4_liveTime 16 = .ok (.aload_n 0, 1) := by decide +kernel
theorem dX4_liveTime_17 : decode cX4_liveTime 17 = .ok (.getfield 60, 3) := by decide +kernel
theorem dX4_liveTime_20 : decode cX4_liveTime 20 = .ok (.if_icmp .ge 132, 3) := by decide +kernel
theorem dX4_liveTime_23 : decode cX4_liveTime 23 = .ok (.aload_n 0, 1) := by decide +kernel
theorem dX4_liveTime_24 : decode cX4_liveTime 24 = .ok (.getfield 28, 3) := by decide +kernel
theorem dX4_liveTime_27 : decode cX4_liveTime 27 = .ok (.iload 4, 2) := by decide +kernel
theorem dX4_liveTime_29 : decode cX4_liveTime 29 = .ok (.iaload, 1) := by decide +kernel
theorem dX4_liveTime_30 : decode cX4_liveTime 30 = .ok (.iload_n 1, 1) := by decide +kernel
theorem dX4_liveTime_31 : decode cX4_liveTime 31 = .ok (.if_icmp .ne 115, 3) := by decide +kernel
theorem dX4_liveTime_34 : decode cX4_liveTime 34 = .ok (.aload_n 0, 1) := by decide +kernel
theorem dX4_liveTime_35 : decode cX4_liveTime 35 = .ok (.getfield 16, 3) := by decide +kernel
theorem dX4_liveTime_38 : decode cX4_liveTime 38 = .ok (.iload_n 1, 1) := by decide +kernel
theorem dX4_liveTime_39 : decode cX4_liveTime 39 = .ok (.iaload, 1) := by decide +kernel
theorem dX4_liveTime_40 : decode cX4_liveTime 40 = .ok (.iconst 1, 1) := by decide +kernel
theorem dX4_liveTime_41 : decode cX4_liveTime 41 = .ok (.if_icmp .eq 13, 3) := by decide +kernel
theorem dX4_liveTime_44 : decode cX4_liveTime 44 = .ok (.aload_n 0, 1) := by decide +kernel
theorem dX4_liveTime_45 : decode cX4_liveTime 45 = .ok (.getfield 37, 3) := by decide +kernel
theorem dX4_liveTime_48 : decode cX4_liveTime 48 = .ok (.iload 4, 2) := by decide +kernel
theorem dX4_liveTime_50 : decode cX4_liveTime 50 = .ok (.baload, 1) := by decide +kernel
theorem dX4_liveTime_51 : decode cX4_liveTime 51 = .ok (.ifCond .eq 95, 3) := by decide +kernel
theorem dX4_liveTime_54 : decode cX4_liveTime 54 = .ok (.aload_n 0, 1) := by decide +kernel
theorem dX4_liveTime_55 : decode cX4_liveTime 55 = .ok (.getfield 31, 3) := by decide +kernel
theorem dX4_liveTime_58 : decode cX4_liveTime 58 = .ok (.iload 4, 2) := by decide +kernel
theorem dX4_liveTime_60 : decode cX4_liveTime 60 = .ok (.iaload, 1) := by decide +kernel
theorem dX4_liveTime_61 : decode cX4_liveTime 61 = .ok (.iload_n 3, 1) := by decide +kernel
theorem dX4_liveTime_62 : decode cX4_liveTime 62 = .ok (.if_icmp .le 13, 3) := by decide +kernel
theorem dX4_liveTime_65 : decode cX4_liveTime 65 = .ok (.aload_n 0, 1) := by decide +kernel
theorem dX4_liveTime_66 : decode cX4_liveTime 66 = .ok (.getfield 31, 3) := by decide +kernel
theorem dX4_liveTime_69 : decode cX4_liveTime 69 = .ok (.iload 4, 2) := by decide +kernel
theorem dX4_liveTime_71 : decode cX4_liveTime 71 = .ok (.iaload, 1) := by decide +kernel
theorem dX4_liveTime_72 : decode cX4_liveTime 72 = .ok (.goto 4, 3) := by decide +kernel
theorem dX4_liveTime_75 : decode cX4_liveTime 75 = .ok (.iload_n 3, 1) := by decide +kernel
theorem dX4_liveTime_76 : decode cX4_liveTime 76 = .ok (.istore 5, 2) := by decide +kernel
theorem dX4_liveTime_78 : decode cX4_liveTime 78 = .ok (.aload_n 0, 1) := by decide +kernel
theorem dX4_liveTime_79 : decode cX4_liveTime 79 = .ok (.getfield 31, 3) := by decide +kernel
theorem dX4_liveTime_82 : decode cX4_liveTime 82 = .ok (.iload 4, 2) := by decide +kernel
theorem dX4_liveTime_84 : decode cX4_liveTime 84 = .ok (.iaload, 1) := by decide +kernel
theorem dX4_liveTime_85 : decode cX4_liveTime 85 = .ok (.aload_n 0, 1) := by decide +kernel
theorem dX4_liveTime_86 : decode cX4_liveTime 86 = .ok (.getfield 13, 3) := by decide +kernel
theorem dX4_liveTime_89 : decode cX4_liveTime 89 = .ok (.iload_n 1, 1) := by decide +kernel
theorem dX4_liveTime_90 : decode cX4_liveTime 90 = .ok (.iaload, 1) := by decide +kernel
theorem dX4_liveTime_91 : decode cX4_liveTime 91 = .ok (.iadd, 1) := by decide +kernel
theorem dX4_liveTime_92 : decode cX4_liveTime 92 = .ok (.istore 6, 2) := by decide +kernel
theorem dX4_liveTime_94 : decode cX4_liveTime 94 = .ok (.iload 6, 2) := by decide +kernel
theorem dX4_liveTime_96 : decode cX4_liveTime 96 = .ok (.iload_n 3, 1) := by decide +kernel
theorem dX4_liveTime_97 : decode cX4_liveTime 97 = .ok (.if_icmp .le 8, 3) := by decide +kernel
theorem dX4_liveTime_100 : decode cX4_liveTime 100 = .ok (.iload 6, 2) := by decide +kernel
theorem dX4_liveTime_102 : decode cX4_liveTime 102 = .ok (.goto 4, 3) := by decide +kernel
theorem dX4_liveTime_105 : decode cX4_liveTime 105 = .ok (.iload_n 3, 1) := by decide +kernel
theorem dX4_liveTime_106 : decode cX4_liveTime 106 = .ok (.istore_n 3, 1) := by decide +kernel
theorem dX4_liveTime_107 : decode cX4_liveTime 107 = .ok (.iload 6, 2) := by decide +kernel
theorem dX4_liveTime_109 : decode cX4_liveTime 109 = .ok (.aload_n 0, 1) := by decide +kernel
theorem dX4_liveTime_110 : decode cX4_liveTime 110 = .ok (.invokevirtual 142, 3) := by decide +kernel
theorem dX4_liveTime_113 : decode cX4_liveTime 113 = .ok (.if_icmp .le 10, 3) := by decide +kernel
theorem dX4_liveTime_116 : decode cX4_liveTime 116 = .ok (.aload_n 0, 1) := by decide +kernel
theorem dX4_liveTime_117 : decode cX4_liveTime 117 = .ok (.invokevirtual 142, 3) := by decide +kernel
theorem dX4_liveTime_120 : decode cX4_liveTime 120 = .ok (.goto 5, 3) := by decide +kernel
theorem dX4_liveTime_123 : decode cX4_liveTime 123 = .ok (.iload 6, 2) := by decide +kernel
theorem dX4_liveTime_125 : decode cX4_liveTime 125 = .ok (.istore 6, 2) := by decide +kernel
theorem dX4_liveTime_127 : decode cX4_liveTime 127 = .ok (.iload_n 2, 1) := by decide +kernel
theorem dX4_liveTime_128 : decode cX4_liveTime 128 = .ok (.iload 6, 2) := by decide +kernel
theorem dX4_liveTime_130 : decode cX4_liveTime 130 = .ok (.iload 5, 2) := by decide +kernel
theorem dX4_liveTime_132 : decode cX4_liveTime 132 = .ok (.if_icmp .le 11, 3) := by decide +kernel
theorem dX4_liveTime_135 : decode cX4_liveTime 135 = .ok (.iload 6, 2) := by decide +kernel
theorem dX4_liveTime_137 : decode cX4_liveTime 137 = .ok (.iload 5, 2) := by decide +kernel
theorem dX4_liveTime_139 : decode cX4_liveTime 139 = .ok (.isub, 1) := by decide +kernel
theorem dX4_liveTime_140 : decode cX4_liveTime 140 = .ok (.goto 4, 3) := by decide +kernel
theorem dX4_liveTime_143 : decode cX4_liveTime 143 = .ok (.iconst 0, 1) := by decide +kernel
theorem dX4_liveTime_144 : decode cX4_liveTime 144 = .ok (.isub, 1) := by decide +kernel
theorem dX4_liveTime_145 : decode cX4_liveTime 145 = .ok (.istore_n 2, 1) := by decide +kernel
theorem dX4_liveTime_146 : decode cX4_liveTime 146 = .ok (.iinc 4 1, 3) := by decide +kernel
theorem dX4_liveTime_149 : decode cX4_liveTime 149 = .ok (.goto (-135), 3) := by decide +kernel
theorem dX4_liveTime_152 : decode cX4_liveTime 152 = .ok (.iload_n 2, 1) := by decide +kernel
theorem dX4_liveTime_153 : decode cX4_liveTime 153 = .ok (.ireturn, 1) := by decide +kernel
theorem dX4_live_0 : decode cX4_live 0 = .ok (.iload_n 1, 1) := by decide +kernel
theorem dX4_live_1 : decode cX4_live 1 = .ok (.invokestatic 68, 3) := by decide +kernel
theorem dX4_live_4 : decode cX4_live 4 = .ok (.ifCond .ne 5, 3) := by decide +kernel
theorem dX4_live_7 : decode cX4_live 7 = .ok (.iconst (-1), 1) := by decide +kernel
theorem dX4_live_8 : decode cX4_live 8 = .ok (.ireturn, 1) := by decide +kernel
theorem dX4_live_9 : decode cX4_live 9 = .ok (.aload_n 0, 1) := by decide +kernel
theorem dX4_live_10 : decode cX4_live 10 = .ok (.getfield 64, 3) := by decide +kernel
theorem dX4_live_13 : decode cX4_live 13 = .ok (.ifCond .eq 11, 3) := by decide +kernel
theorem dX4_live_16 : decode cX4_live 16 = .ok (.aload_n 0, 1) := by decide +kernel
theorem dX4_live_17 : decode cX4_live 17 = .ok (.iload_n 1, 1) := by decide +kernel
theorem dX4_live_18 : decode cX4_live 18 = .ok (.invokevirtual 145, 3) := by decide +kernel
theorem dX4_live_21 : decode cX4_live 21 = .ok (.goto 5, 3) := by decide +kernel
theorem dX4_live_24 : decode cX4_live 24 = .ok (.bipush (-3), 2) := by decide +kernel
theorem dX4_live_26 : decode cX4_live 26 = .ok (.ireturn, 1) := by decide +kernel
theorem dX4_inLeastTerms_0 : decode cX4_inLeastTerms 0 = .ok (.lload_n 0, 1) := by decide +kernel
theorem dX4_inLeastTerms_1 : decode cX4_inLeastTerms 1 = .ok (.lstore 5, 2) := by decide +kernel
theorem dX4_inLeastTerms_3 : decode cX4_inLeastTerms 3 = .ok (.lload_n 2, 1) := by decide +kernel
theorem dX4_inLeastTerms_4 : decode cX4_inLeastTerms 4 = .ok (.lstore 7, 2) := by decide +kernel
theorem dX4_inLeastTerms_6 : decode cX4_inLeastTerms 6 = .ok (.lload 7, 2) := by decide +kernel
theorem dX4_inLeastTerms_8 : decode cX4_inLeastTerms 8 = .ok (.lconst 0, 1) := by decide +kernel
theorem dX4_inLeastTerms_9 : decode cX4_inLeastTerms 9 = .ok (.lcmp, 1) := by decide +kernel
theorem dX4_inLeastTerms_10 : decode cX4_inLeastTerms 10 = .ok (.ifCond .eq 21, 3) := by decide +kernel
theorem dX4_inLeastTerms_13 : decode cX4_inLeastTerms 13 = .ok (.lload 5, 2) := by decide +kernel
theorem dX4_inLeastTerms_15 : decode cX4_inLeastTerms 15 = .ok (.lload 7, 2) := by decide +kernel
theorem dX4_inLeastTerms_17 : decode cX4_inLeastTerms 17 = .ok (.lrem, 1) := by decide +kernel
theorem dX4_inLeastTerms_18 : decode cX4_inLeastTerms 18 = .ok (.lstore 9, 2) := by decide +kernel
theorem dX4_inLeastTerms_20 : decode cX4_inLeastTerms 20 = .ok (.lload 7, 2) := by decide +kernel
theorem dX4_inLeastTerms_22 : decode cX4_inLeastTerms 22 = .ok (.lstore 5, 2) := by decide +kernel
theorem dX4_inLeastTerms_24 : decode cX4_inLeastTerms 24 = .ok (.lload 9, 2) := by decide +kernel
theorem dX4_inLeastTerms_26 : decode cX4_inLeastTerms 26 = .ok (.lstore 7, 2) := by decide +kernel
theorem dX4_inLeastTerms_28 : decode cX4_inLeastTerms 28 = .ok (.goto (-22), 3) := by decide +kernel
theorem dX4_inLeastTerms_31 : decode cX4_inLeastTerms 31 = .ok (.iload 4, 2) := by decide +kernel
theorem dX4_inLeastTerms_33 : decode cX4_inLeastTerms 33 = .ok (.ifCond .ne 10, 3) := by decide +kernel
theorem dX4_inLeastTerms_36 : decode cX4_inLeastTerms 36 = .ok (.lload_n 0, 1) := by decide +kernel
theorem dX4_inLeastTerms_37 : decode cX4_inLeastTerms 37 = .ok (.lload 5, 2) := by decide +kernel
theorem dX4_inLeastTerms_39 : decode cX4_inLeastTerms 39 = .ok (.ldiv, 1) := by decide +kernel
theorem dX4_inLeastTerms_40 : decode cX4_inLeastTerms 40 = .ok (.goto 7, 3) := by decide +kernel
theorem dX4_inLeastTerms_43 : decode cX4_inLeastTerms 43 = .ok (.lload_n 2, 1) := by decide +kernel
theorem dX4_inLeastTerms_44 : decode cX4_inLeastTerms 44 = .ok (.lload 5, 2) := by decide +kernel
theorem dX4_inLeastTerms_46 : decode cX4_inLeastTerms 46 = .ok (.ldiv, 1) := by decide +kernel
theorem dX4_inLeastTerms_47 : decode cX4_inLeastTerms 47 = .ok (.lreturn, 1) := by decide +kernel
theorem dX4_rate_0 : decode cX4_rate 0 = .ok (.iload_n 1, 1) := by decide +kernel
theorem dX4_rate_1 : decode cX4_rate 1 = .ok (.invokestatic 68, 3) := by decide +kernel
theorem dX4_rate_4 : decode cX4_rate 4 = .ok (.ifCond .eq 27, 3) := by decide +kernel
theorem dX4_rate_7 : decode cX4_rate 7 = .ok (.iload_n 2, 1) := by decide +kernel
theorem dX4_rate_8 : decode cX4_rate 8 = .ok (.iconst 0, 1) := by decide +kernel
theorem dX4_rate_9 : decode cX4_rate 9 = .ok (.iconst 1, 1) := by decide +kernel
theorem dX4_rate_10 : decode cX4_rate 10 = .ok (.invokestatic 56, 3) := by decide +kernel
theorem dX4_rate_13 : decode cX4_rate 13 = .ok (.ifCond .eq 18, 3) := by decide +kernel
theorem dX4_rate_16 : decode cX4_rate 16 = .ok (.aload_n 0, 1) := by decide +kernel
theorem dX4_rate_17 : decode cX4_rate 17 = .ok (.getfield 64, 3) := by decide +kernel
theorem dX4_rate_20 : decode cX4_rate 20 = .ok (.ifCond .eq 11, 3) := by decide +kernel
theorem dX4_rate_23 : decode cX4_rate 23 = .ok (.aload_n 0, 1) := by decide +kernel
theorem dX4_rate_24 : decode cX4_rate 24 = .ok (.iload_n 1, 1) := by decide +kernel
theorem dX4_rate_25 : decode cX4_rate 25 = .ok (.invokevirtual 145, 3) := by decide +kernel
theorem dX4_rate_28 : decode cX4_rate 28 = .ok (.ifCond .ne 7, 3) := by decide +kernel
theorem dX4_rate_31 : decode cX4_rate 31 = .ok (.ldc2_w 148, 3) := by decide +kernel
theorem dX4_rate_34 : decode cX4_rate 34 = .ok (.lreturn, 1) := by decide +kernel
theorem dX4_rate_35 : decode cX4_rate 35 = .ok (.aload_n 0, 1) := by decide +kernel
theorem dX4_rate_36 : decode cX4_rate 36 = .ok (.iload_n 1, 1) := by decide +kernel
theorem dX4_rate_37 : decode cX4_rate 37 = .ok (.iconst 1, 1) := by decide +kernel
theorem dX4_rate_38 : decode cX4_rate 38 = .ok (.invokevirtual 97, 3) := by decide +kernel
theorem dX4_rate_41 : decode cX4_rate 41 = .ok (.i2l, 1) := by decide +kernel
theorem dX4_rate_42 : decode cX4_rate 42 = .ok (.aload_n 0, 1) := by decide +kernel
theorem dX4_rate_43 : decode cX4_rate 43 = .ok (.iload_n 1, 1) := by decide +kernel
theorem dX4_rate_44 : decode cX4_rate 44 = .ok (.invokevirtual 145, 3) := by decide +kernel
theorem dX4_rate_47 : decode cX4_rate 47 = .ok (.i2l, 1) := by decide +kernel
theorem dX4_rate_48 : decode cX4_rate 48 = .ok (.iload_n 2, 1) := by decide +kernel
theorem dX4_rate_49 : decode cX4_rate 49 = .ok (.invokestatic 150, 3) := by decide +kernel
end
section
theorem dX4_rate_52 : decode cX4_rate 52 = .ok (.lreturn, 1) := by decide +kernel
theorem dX4_expected_0 : decode cX4_expected 0 = .ok (.iload_n 1, 1) := by decide +kernel
theorem dX4_expected_1 : decode cX4_expected 1 = .ok (.invokestatic 68, 3) := by decide +kernel
theorem dX4_expected_4 : decode cX4_expected 4 = .ok (.ifCond .eq 38, 3) := by decide +kernel
theorem dX4_expected_7 : decode cX4_expected 7 = .ok (.iload_n 2, 1) := by decide +kernel
theorem dX4_expected_8 : decode cX4_expected 8 = .ok (.invokestatic 68, 3) := by decide +kernel
theorem dX4_expected_11 : decode cX4_expected 11 = .ok (.ifCond .eq 31, 3) := by decide +kernel
theorem dX4_expected_14 : decode cX4_expected 14 = .ok (.iload_n 3, 1) := by decide +kernel
theorem dX4_expected_15 : decode cX4_expected 15 = .ok (.iconst 0, 1) := by decide +kernel
theorem dX4_expected_16 : decode cX4_expected 16 = .ok (.iconst 1, 1) := by decide +kernel
theorem dX4_expected_17 : decode cX4_expected 17 = .ok (.invokestatic 56, 3) := by decide +kernel
theorem dX4_expected_20 : decode cX4_expected 20 = .ok (.ifCond .eq 22, 3) := by decide +kernel
theorem dX4_expected_23 : decode cX4_expected 23 = .ok (.iload_n 1, 1) := by decide +kernel
theorem dX4_expected_24 : decode cX4_expected 24 = .ok (.iload_n 2, 1) := by decide +kernel
theorem dX4_expected_25 : decode cX4_expected 25 = .ok (.if_icmp .eq 17, 3) := by decide +kernel
theorem dX4_expected_28 : decode cX4_expected 28 = .ok (.aload_n 0, 1) := by decide +kernel
theorem dX4_expected_29 : decode cX4_expected 29 = .ok (.getfield 64, 3) := by decide +kernel
theorem dX4_expected_32 : decode cX4_expected 32 = .ok (.ifCond .eq 10, 3) := by decide +kernel
theorem dX4_expected_35 : decode cX4_expected 35 = .ok (.aload_n 0, 1) := by decide +kernel
theorem dX4_expected_36 : decode cX4_expected 36 = .ok (.invokevirtual 142, 3) := by decide +kernel
theorem dX4_expected_39 : decode cX4_expected 39 = .ok (.ifCond .ne 7, 3) := by decide +kernel
theorem dX4_expected_42 : decode cX4_expected 42 = .ok (.ldc2_w 148, 3) := by decide +kernel
theorem dX4_expected_45 : decode cX4_expected 45 = .ok (.lreturn, 1) := by decide +kernel
theorem dX4_expected_46 : decode cX4_expected 46 = .ok (.aload_n 0, 1) := by decide +kernel
theorem dX4_expected_47 : decode cX4_expected 47 = .ok (.iload_n 1, 1) := by decide +kernel
theorem dX4_expected_48 : decode cX4_expected 48 = .ok (.iconst 1, 1) := by decide +kernel
theorem dX4_expected_49 : decode cX4_expected 49 = .ok (.invokevirtual 97, 3) := by decide +kernel
theorem dX4_expected_52 : decode cX4_expected 52 = .ok (.i2l, 1) := by decide +kernel
theorem dX4_expected_53 : decode cX4_expected 53 = .ok (.aload_n 0, 1) := by decide +kernel
theorem dX4_expected_54 : decode cX4_expected 54 = .ok (.iload_n 2, 1) := by decide +kernel
theorem dX4_expected_55 : decode cX4_expected 55 = .ok (.iconst 1, 1) := by decide +kernel
theorem dX4_expected_56 : decode cX4_expected 56 = .ok (.invokevirtual 97, 3) := by decide +kernel
theorem dX4_expected_59 : decode cX4_expected 59 = .ok (.i2l, 1) := by decide +kernel
theorem dX4_expected_60 : decode cX4_expected 60 = .ok (.lmul, 1) := by decide +kernel
theorem dX4_expected_61 : decode cX4_expected 61 = .ok (.lstore 4, 2) := by decide +kernel
theorem dX4_expected_63 : decode cX4_expected 63 = .ok (.lload 4, 2) := by decide +kernel
theorem dX4_expected_65 : decode cX4_expected 65 = .ok (.iconst 2, 1) := by decide +kernel
theorem dX4_expected_66 : decode cX4_expected 66 = .ok (.aload_n 0, 1) := by decide +kernel
theorem dX4_expected_67 : decode cX4_expected 67 = .ok (.getfield 19, 3) := by decide +kernel
theorem dX4_expected_70 : decode cX4_expected 70 = .ok (.iconst 1, 1) := by decide +kernel
theorem dX4_expected_71 : decode cX4_expected 71 = .ok (.iaload, 1) := by decide +kernel
theorem dX4_expected_72 : decode cX4_expected 72 = .ok (.imul, 1) := by decide +kernel
theorem dX4_expected_73 : decode cX4_expected 73 = .ok (.iconst 1, 1) := by decide +kernel
theorem dX4_expected_74 : decode cX4_expected 74 = .ok (.iadd, 1) := by decide +kernel
theorem dX4_expected_75 : decode cX4_expected 75 = .ok (.i2l, 1) := by decide +kernel
theorem dX4_expected_76 : decode cX4_expected 76 = .ok (.lmul, 1) := by decide +kernel
theorem dX4_expected_77 : decode cX4_expected 77 = .ok (.aload_n 0, 1) := by decide +kernel
theorem dX4_expected_78 : decode cX4_expected 78 = .ok (.invokevirtual 142, 3) := by decide +kernel
theorem dX4_expected_81 : decode cX4_expected 81 = .ok (.i2l, 1) := by decide +kernel
theorem dX4_expected_82 : decode cX4_expected 82 = .ok (.iload_n 3, 1) := by decide +kernel
theorem dX4_expected_83 : decode cX4_expected 83 = .ok (.invokestatic 150, 3) := by decide +kernel
theorem dX4_expected_86 : decode cX4_expected 86 = .ok (.lreturn, 1) := by decide +kernel
theorem dX4_tries_0 : decode cX4_tries 0 = .ok (.aload_n 0, 1) := by decide +kernel
theorem dX4_tries_1 : decode cX4_tries 1 = .ok (.iconst 0, 1) := by decide +kernel
theorem dX4_tries_2 : decode cX4_tries 2 = .ok (.putfield 154, 3) := by decide +kernel
theorem dX4_tries_5 : decode cX4_tries 5 = .ok (.aload_n 0, 1) := by decide +kernel
theorem dX4_tries_6 : decode cX4_tries 6 = .ok (.iconst 0, 1) := by decide +kernel
theorem dX4_tries_7 : decode cX4_tries 7 = .ok (.putfield 157, 3) := by decide +kernel
theorem dX4_tries_10 : decode cX4_tries 10 = .ok (.aload_n 0, 1) := by decide +kernel
theorem dX4_tries_11 : decode cX4_tries 11 = .ok (.iconst 0, 1) := by decide +kernel
theorem dX4_tries_12 : decode cX4_tries 12 = .ok (.putfield 160, 3) := by decide +kernel
theorem dX4_tries_15 : decode cX4_tries 15 = .ok (.iconst 0, 1) := by decide +kernel
theorem dX4_tries_16 : decode cX4_tries 16 = .ok (.istore 4, 2) := by decide +kernel
theorem dX4_tries_18 : decode cX4_tries 18 = .ok (.iload 4, 2) := by decide +kernel
theorem dX4_tries_20 : decode cX4_tries 20 = .ok (.bipush 6, 2) := by decide +kernel
theorem dX4_tries_22 : decode cX4_tries 22 = .ok (.if_icmp .ge 117, 3) := by decide +kernel
theorem dX4_tries_25 : decode cX4_tries 25 = .ok (.aload_n 0, 1) := by decide +kernel
theorem dX4_tries_26 : decode cX4_tries 26 = .ok (.iload_n 1, 1) := by decide +kernel
theorem dX4_tries_27 : decode cX4_tries 27 = .ok (.iload 4, 2) := by decide +kernel
theorem dX4_tries_29 : decode cX4_tries 29 = .ok (.invokevirtual 135, 3) := by decide +kernel
theorem dX4_tries_32 : decode cX4_tries 32 = .ok (.istore 5, 2) := by decide +kernel
theorem dX4_tries_34 : decode cX4_tries 34 = .ok (.iload 5, 2) := by decide +kernel
theorem dX4_tries_36 : decode cX4_tries 36 = .ok (.bipush (-9), 2) := by decide +kernel
theorem dX4_tries_38 : decode cX4_tries 38 = .ok (.if_icmp .ne 7, 3) := by decide +kernel
theorem dX4_tries_41 : decode cX4_tries 41 = .ok (.iconst 0, 1) := by decide +kernel
theorem dX4_tries_42 : decode cX4_tries 42 = .ok (.goto 22, 3) := by decide +kernel
theorem dX4_tries_45 : decode cX4_tries 45 = .ok (.aload_n 0, 1) := by decide +kernel
theorem dX4_tries_46 : decode cX4_tries 46 = .ok (.getfield 34, 3) := by decide +kernel
theorem dX4_tries_49 : decode cX4_tries 49 = .ok (.aload_n 0, 1) := by decide +kernel
theorem dX4_tries_50 : decode cX4_tries 50 = .ok (.getfield 47, 3) := by decide +kernel
theorem dX4_tries_53 : decode cX4_tries 53 = .ok (.iload 5, 2) := by decide +kernel
theorem dX4_tries_55 : decode cX4_tries 55 = .ok (.iaload, 1) := by decide +kernel
theorem dX4_tries_56 : decode cX4_tries 56 = .ok (.iaload, 1) := by decide +kernel
theorem dX4_tries_57 : decode cX4_tries 57 = .ok (.iload_n 2, 1) := by decide +kernel
theorem dX4_tries_58 : decode cX4_tries 58 = .ok (.isub, 1) := by decide +kernel
theorem dX4_tries_59 : decode cX4_tries 59 = .ok (.iload_n 3, 1) := by decide +kernel
theorem dX4_tries_60 : decode cX4_tries 60 = .ok (.iload 4, 2) := by decide +kernel
theorem dX4_tries_62 : decode cX4_tries 62 = .ok (.imul, 1) := by decide +kernel
theorem dX4_tries_63 : decode cX4_tries 63 = .ok (.isub, 1) := by decide +kernel
theorem dX4_tries_64 : decode cX4_tries 64 = .ok (.istore 6, 2) := by decide +kernel
theorem dX4_tries_66 : decode cX4_tries 66 = .ok (.iload 6, 2) := by decide +kernel
theorem dX4_tries_68 : decode cX4_tries 68 = .ok (.ifCond .ge 9, 3) := by decide +kernel
theorem dX4_tries_71 : decode cX4_tries 71 = .ok (.iload 6, 2) := by decide +kernel
theorem dX4_tries_73 : decode cX4_tries 73 = .ok (.ineg, 1) := by decide +kernel
theorem dX4_tries_74 : decode cX4_tries 74 = .ok (.goto 5, 3) := by decide +kernel
theorem dX4_tries_77 : decode cX4_tries 77 = .ok (.iload 6, 2) := by decide +kernel
theorem dX4_tries_79 : decode cX4_tries 79 = .ok (.istore 6, 2) := by decide +kernel
theorem dX4_tries_81 : decode cX4_tries 81 = .ok (.iload 5, 2) := by decide +kernel
theorem dX4_tries_83 : decode cX4_tries 83 = .ok (.bipush (-9), 2) := by decide +kernel
theorem dX4_tries_85 : decode cX4_tries 85 = .ok (.if_icmp .eq 48, 3) := by decide +kernel
theorem dX4_tries_88 : decode cX4_tries 88 = .ok (.iload 6, 2) := by decide +kernel
theorem dX4_tries_90 : decode cX4_tries 90 = .ok (.aload_n 0, 1) := by decide +kernel
theorem dX4_tries_91 : decode cX4_tries 91 = .ok (.getfield 19, 3) := by decide +kernel
theorem dX4_tries_94 : decode cX4_tries 94 = .ok (.iconst 3, 1) := by decide +kernel
theorem dX4_tries_95 : decode cX4_tries 95 = .ok (.iaload, 1) := by decide +kernel
theorem dX4_tries_96 : decode cX4_tries 96 = .ok (.if_icmp .gt 37, 3) := by decide +kernel
theorem dX4_tries_99 : decode cX4_tries 99 = .ok (.aload_n 0, 1) := by decide +kernel
theorem dX4_tries_100 : decode cX4_tries 100 = .ok (.dup, 1) := by decide +kernel
theorem dX4_tries_101 : decode cX4_tries 101 = .ok (.getfield 154, 3) := by decide +kernel
theorem dX4_tries_104 : decode cX4_tries 104 = .ok (.iconst 1, 1) := by decide +kernel
theorem dX4_tries_105 : decode cX4_tries 105 = .ok (.iadd, 1) := by decide +kernel
theorem dX4_tries_106 : decode cX4_tries 106 = .ok (.putfield 154, 3) := by decide +kernel
theorem dX4_tries_109 : decode cX4_tries 109 = .ok (.aload_n 0, 1) := by decide +kernel
theorem dX4_tries_110 : decode cX4_tries 110 = .ok (.dup, 1) := by decide +kernel
theorem dX4_tries_111 : decode cX4_tries 111 = .ok (.getfield 157, 3) := by decide +kernel
theorem dX4_tries_114 : decode cX4_tries 114 = .ok (.iconst 1, 1) := by decide +kernel
theorem dX4_tries_115 : decode cX4_tries 115 = .ok (.iload 4, 2) := by decide +kernel
theorem dX4_tries_117 : decode cX4_tries 117 = .ok (.ishl, 1) := by decide +kernel
theorem dX4_tries_118 : decode cX4_tries 118 = .ok (.ior, 1) := by decide +kernel
theorem dX4_tries_119 : decode cX4_tries 119 = .ok (.putfield 157, 3) := by decide +kernel
theorem dX4_tries_122 : decode cX4_tries 122 = .ok (.aload_n 0, 1) := by decide +kernel
theorem dX4_tries_123 : decode cX4_tries 123 = .ok (.dup, 1) := by decide +kernel
theorem dX4_tries_124 : decode cX4_tries 124 = .ok (.getfield 160, 3) := by decide +kernel
theorem dX4_tries_127 : decode cX4_tries 127 = .ok (.iload 6, 2) := by decide +kernel
theorem dX4_tries_129 : decode cX4_tries 129 = .ok (.iadd, 1) := by decide +kernel
theorem dX4_tries_130 : decode cX4_tries 130 = .ok (.putfield 160, 3) := by decide +kernel
theorem dX4_tries_133 : decode cX4_tries 133 = .ok (.iinc 4 1, 3) := by decide +kernel
theorem dX4_tries_136 : decode cX4_tries 136 = .ok (.goto (-118), 3) := by decide +kernel
theorem dX4_tries_139 : decode cX4_tries 139 = .ok (.return_, 1) := by decide +kernel
theorem dX4_far_0 : decode cX4_far 0 = .ok (.iload_n 0, 1) := by decide +kernel
theorem dX4_far_1 : decode cX4_far 1 = .ok (.ifCond .ge 8, 3) := by decide +kernel
theorem dX4_far_4 : decode cX4_far 4 = .ok (.iload_n 0, 1) := by decide +kernel
theorem dX4_far_5 : decode cX4_far 5 = .ok (.ineg, 1) := by decide +kernel
theorem dX4_far_6 : decode cX4_far 6 = .ok (.goto 4, 3) := by decide +kernel
theorem dX4_far_9 : decode cX4_far 9 = .ok (.iload_n 0, 1) := by decide +kernel
theorem dX4_far_10 : decode cX4_far 10 = .ok (.ireturn, 1) := by decide +kernel
theorem dX4_isAhead_0 : decode cX4_isAhead 0 = .ok (.aload_n 0, 1) := by decide +kernel
theorem dX4_isAhead_1 : decode cX4_isAhead 1 = .ok (.getfield 154, 3) := by decide +kernel
theorem dX4_isAhead_4 : decode cX4_isAhead 4 = .ok (.aload_n 0, 1) := by decide +kernel
theorem dX4_isAhead_5 : decode cX4_isAhead 5 = .ok (.getfield 163, 3) := by decide +kernel
theorem dX4_isAhead_8 : decode cX4_isAhead 8 = .ok (.if_icmp .eq 20, 3) := by decide +kernel
theorem dX4_isAhead_11 : decode cX4_isAhead 11 = .ok (.aload_n 0, 1) := by decide +kernel
theorem dX4_isAhead_12 : decode cX4_isAhead 12 = .ok (.getfield 154, 3) := by decide +kernel
theorem dX4_isAhead_15 : decode cX4_isAhead 15 = .ok (.aload_n 0, 1) := by decide +kernel
theorem dX4_isAhead_16 : decode cX4_isAhead 16 = .ok (.getfield 163, 3) := by decide +kernel
theorem dX4_isAhead_19 : decode cX4_isAhead 19 = .ok (.if_icmp .le 7, 3) := by decide +kernel
theorem dX4_isAhead_22 : decode cX4_isAhead 22 = .ok (.iconst 1, 1) := by decide +kernel
theorem dX4_isAhead_23 : decode cX4_isAhead 23 = .ok (.goto 4, 3) := by decide +kernel
theorem dX4_isAhead_26 : decode cX4_isAhead 26 = .ok (.iconst 0, 1) := by decide +kernel
theorem dX4_isAhead_27 : decode cX4_isAhead 27 = .ok (.ireturn, 1) := by decide +kernel
theorem dX4_isAhead_28 : decode cX4_isAhead 28 = .ok (.aload_n 0, 1) := by decide +kernel
theorem dX4_isAhead_29 : decode cX4_isAhead 29 = .ok (.getfield 160, 3) := by decide +kernel
theorem dX4_isAhead_32 : decode cX4_isAhead 32 = .ok (.aload_n 0, 1) := by decide +kernel
theorem dX4_isAhead_33 : decode cX4_isAhead 33 = .ok (.getfield 166, 3) := by decide +kernel
theorem dX4_isAhead_36 : decode cX4_isAhead 36 = .ok (.if_icmp .eq 20, 3) := by decide +kernel
theorem dX4_isAhead_39 : decode cX4_isAhead 39 = .ok (.aload_n 0, 1) := by decide +kernel
theorem dX4_isAhead_40 : decode cX4_isAhead 40 = .ok (.getfield 160, 3) := by decide +kernel
theorem dX4_isAhead_43 : decode cX4_isAhead 43 = .ok (.aload_n 0, 1) := by decide +kernel
theorem dX4_isAhead_44 : decode cX4_isAhead 44 = .ok (.getfield 166, 3) := by decide +kernel
theorem dX4_isAhead_47 : decode cX4_isAhead 47 = .ok (.if_icmp .ge 7, 3) := by decide +kernel
theorem dX4_isAhead_50 : decode cX4_isAhead 50 = .ok (.iconst 1, 1) := by decide +kernel
theorem dX4_isAhead_51 : decode cX4_isAhead 51 = .ok (.goto 4, 3) := by decide +kernel
theorem dX4_isAhead_54 : decode cX4_isAhead 54 = .ok (.iconst 0, 1) := by decide +kernel
theorem dX4_isAhead_55 : decode cX4_isAhead 55 = .ok (.ireturn, 1) := by decide +kernel
theorem dX4_isAhead_56 : decode cX4_isAhead 56 = .ok (.iload_n 1, 1) := by decide +kernel
theorem dX4_isAhead_57 : decode cX4_isAhead 57 = .ok (.invokestatic 169, 3) := by decide +kernel
theorem dX4_isAhead_60 : decode cX4_isAhead 60 = .ok (.aload_n 0, 1) := by decide +kernel
theorem dX4_isAhead_61 : decode cX4_isAhead 61 = .ok (.getfield 172, 3) := by decide +kernel
theorem dX4_isAhead_64 : decode cX4_isAhead 64 = .ok (.invokestatic 169, 3) := by decide +kernel
theorem dX4_isAhead_67 : decode cX4_isAhead 67 = .ok (.if_icmp .eq 25, 3) := by decide +kernel
theorem dX4_isAhead_70 : decode cX4_isAhead 70 = .ok (.iload_n 1, 1) := by decide +kernel
theorem dX4_isAhead_71 : decode cX4_isAhead 71 = .ok (.invokestatic 169, 3) := by decide +kernel
theorem dX4_isAhead_74 : decode cX4_isAhead 74 = .ok (.aload_n 0, 1) := by decide +kernel
theorem dX4_isAhead_75 : decode cX4_isAhead 75 = .ok (.getfield 172, 3) := by decide +kernel
theorem dX4_isAhead_78 : decode cX4_isAhead 78 = .ok (.invokestatic 169, 3) := by decide +kernel
theorem dX4_isAhead_81 : decode cX4_isAhead 81 = .ok (.if_icmp .ge 7, 3) := by decide +kernel
theorem dX4_isAhead_84 : decode cX4_isAhead 84 = .ok (.iconst 1, 1) := by decide +kernel
theorem dX4_isAhead_85 : decode cX4_isAhead 85 = .ok (.goto 20, 3) := by decide +kernel
theorem dX4_isAhead_88 : decode cX4_isAhead 88 = .ok (.iconst 0, 1) := by decide +kernel
theorem dX4_isAhead_89 : decode cX4_isAhead 89 = .ok (.goto 16, 3) := by decide +kernel
theorem dX4_isAhead_92 : decode cX4_isAhead 92 = .ok (.iload_n 1, 1) := by decide +kernel
theorem dX4_isAhead_93 : decode cX4_isAhead 93 = .ok (.aload_n 0, 1) := by decide +kernel
theorem dX4_isAhead_94 : decode cX4_isAhead 94 = .ok (.getfield 172, 3) := by decide +kernel
theorem dX4_isAhead_97 : decode cX4_isAhead 97 = .ok (.if_icmp .ge 7, 3) := by decide +kernel
theorem dX4_isAhead_100 : decode cX4_isAhead 100 = .ok (.iconst 1, 1) := by decide +kernel
theorem dX4_isAhead_101 : decode cX4_isAhead 101 = .ok (.goto 4, 3) := by decide +kernel
theorem dX4_isAhead_104 : decode cX4_isAhead 104 = .ok (.iconst 0, 1) := by decide +kernel
theorem dX4_isAhead_105 : decode cX4_isAhead 105 = .ok (.ireturn, 1) := by decide +kernel
theorem dX4_findTrack_0 : decode cX4_findTrack 0 = .ok (.aload_n 0, 1) := by decide +kernel
theorem dX4_findTrack_1 : decode cX4_findTrack 1 = .ok (.iconst (-1), 1) := by decide +kernel
theorem dX4_findTrack_2 : decode cX4_findTrack 2 = .ok (.putfield 163, 3) := by decide +kernel
theorem dX4_findTrack_5 : decode cX4_findTrack 5 = .ok (.iconst 0, 1) := by decide +kernel
theorem dX4_findTrack_6 : decode cX4_findTrack 6 = .ok (.istore_n 2, 1) := by decide +kernel
theorem dX4_findTrack_7 : decode cX4_findTrack 7 = .ok (.iload_n 2, 1) := by decide +kernel
theorem dX4_findTrack_8 : decode cX4_findTrack 8 = .ok (.bipush 15, 2) := by decide +kernel
theorem dX4_findTrack_10 : decode cX4_findTrack 10 = .ok (.if_icmp .gt 64, 3) := by decide +kernel
theorem dX4_findTrack_13 : decode cX4_findTrack 13 = .ok (.bipush (-3), 2) := by decide +kernel
theorem dX4_findTrack_15 : decode cX4_findTrack 15 = .ok (.istore_n 3, 1) := by decide +kernel
theorem dX4_findTrack_16 : decode cX4_findTrack 16 = .ok (.iload_n 3, 1) := by decide +kernel
theorem dX4_findTrack_17 : decode cX4_findTrack 17 = .ok (.iconst 3, 1) := by decide +kernel
theorem dX4_findTrack_18 : decode cX4_findTrack 18 = .ok (.if_icmp .gt 50, 3) := by decide +kernel
theorem dX4_findTrack_21 : decode cX4_findTrack 21 = .ok (.aload_n 0, 1) := by decide +kernel
theorem dX4_findTrack_22 : decode cX4_findTrack 22 = .ok (.iload_n 1, 1) := by decide +kernel
theorem dX4_findTrack_23 : decode cX4_findTrack 23 = .ok (.iload_n 2, 1) := by decide +kernel
theorem dX4_findTrack_24 : decode cX4_findTrack 24 = .ok (.iload_n 3, 1) := by decide +kernel
theorem dX4_findTrack_25 : decode cX4_findTrack 25 = .ok (.invokevirtual 175, 3) := by decide +kernel
theorem dX4_findTrack_28 : decode cX4_findTrack 28 = .ok (.aload_n 0, 1) := by decide +kernel
theorem dX4_findTrack_29 : decode cX4_findTrack 29 = .ok (.iload_n 3, 1) := by decide +kernel
theorem dX4_findTrack_30 : decode cX4_findTrack 30 = .ok (.invokevirtual 179, 3) := by decide +kernel
theorem dX4_findTrack_33 : decode cX4_findTrack 33 = .ok (.ifCond .eq 29, 3) := by decide +kernel
theorem dX4_findTrack_36 : decode cX4_findTrack 36 = .ok (.aload_n 0, 1) := by decide +kernel
theorem dX4_findTrack_37 : decode cX4_findTrack 37 = .ok (.iload_n 2, 1) := by decide +kernel
theorem dX4_findTrack_38 : decode cX4_findTrack 38 = .ok (.putfield 182, 3) := by decide +kernel
theorem dX4_findTrack_41 : decode cX4_findTrack 41 = .ok (.aload_n 0, 1) := by decide +kernel
theorem dX4_findTrack_42 : decode cX4_findTrack 42 = .ok (.iload_n 3, 1) := by decide +kernel
theorem dX4_findTrack_43 : decode cX4_findTrack 43 = .ok (.putfield 172, 3) := by decide +kernel
theorem dX4_findTrack_46 : decode cX4_findTrack 46 = .ok (.aload_n 0, 1) := by decide +kernel
theorem dX4_findTrack_47 : decode cX4_findTrack 47 = .ok (.aload_n 0, 1) := by decide +kernel
theorem dX4_findTrack_48 : decode cX4_findTrack 48 = .ok (.getfield 154, 3) := by decide +kernel
theorem dX4_findTrack_51 : decode cX4_findTrack 51 = .ok (.putfield 163, 3) := by decide +kernel
theorem dX4_findTrack_54 : decode cX4_findTrack 54 = .ok (.aload_n 0, 1) := by decide +kernel
theorem dX4_findTrack_55 : decode cX4_findTrack 55 = .ok (.aload_n 0, 1) := by decide +kernel
theorem dX4_findTrack_56 : decode cX4_findTrack 56 = .ok (.getfield 160, 3) := by decide +kernel
theorem dX4_findTrack_59 : decode cX4_findTrack 59 = .ok (.putfield 166, 3) := by decide +kernel
theorem dX4_findTrack_62 : decode cX4_findTrack 62 = .ok (.iinc 3 1, 3) := by decide +kernel
theorem dX4_findTrack_65 : decode cX4_findTrack 65 = .ok (.goto (-49), 3) := by decide +kernel
theorem dX4_findTrack_68 : decode cX4_findTrack 68 = .ok (.iinc 2 1, 3) := by decide +kernel
theorem dX4_findTrack_71 : decode cX4_findTrack 71 = .ok (.goto (-64), 3) := by decide +kernel
theorem dX4_findTrack_74 : decode cX4_findTrack 74 = .ok (.aload_n 0, 1) := by decide +kernel
theorem dX4_findTrack_75 : decode cX4_findTrack 75 = .ok (.getfield 163, 3) := by decide +kernel
theorem dX4_findTrack_78 : decode cX4_findTrack 78 = .ok (.aload_n 0, 1) := by decide +kernel
theorem dX4_findTrack_79 : decode cX4_findTrack 79 = .ok (.getfield 19, 3) := by decide +kernel
theorem dX4_findTrack_82 : decode cX4_findTrack 82 = .ok (.iconst 2, 1) := by decide +kernel
theorem dX4_findTrack_83 : decode cX4_findTrack 83 = .ok (.iaload, 1) := by decide +kernel
theorem dX4_findTrack_84 : decode cX4_findTrack 84 = .ok (.if_icmp .lt 7, 3) := by decide +kernel
theorem dX4_findTrack_87 : decode cX4_findTrack 87 = .ok (.iconst 1, 1) := by decide +kernel
theorem dX4_findTrack_88 : decode cX4_findTrack 88 = .ok (.goto 4, 3) := by decide +kernel
theorem dX4_findTrack_91 : decode cX4_findTrack 91 = .ok (.iconst 0, 1) := by decide +kernel
theorem dX4_findTrack_92 : decode cX4_findTrack 92 = .ok (.ireturn, 1) := by decide +kernel
theorem dX4_track_0 : decode cX4_track 0 = .ok (.aload_n 0, 1) := by decide +kernel
theorem dX4_track_1 : decode cX4_track 1 = .ok (.iload_n 1, 1) := by decide +kernel
theorem dX4_track_2 : decode cX4_track 2 = .ok (.invokevirtual 123, 3) := by decide +kernel
theorem dX4_track_5 : decode cX4_track 5 = .ok (.ifCond .ne 5, 3) := by decide +kernel
theorem dX4_track_8 : decode cX4_track 8 = .ok (.iconst (-1), 1) := by decide +kernel
theorem dX4_track_9 : decode cX4_track 9 = .ok (.ireturn, 1) := by decide +kernel
theorem dX4_track_10 : decode cX4_track 10 = .ok (.iload_n 2, 1) := by decide +kernel
theorem dX4_track_11 : decode cX4_track 11 = .ok (.iconst 0, 1) := by decide +kernel
theorem dX4_track_12 : decode cX4_track 12 = .ok (.iconst 4, 1) := by decide +kernel
theorem dX4_track_13 : decode cX4_track 13 = .ok (.invokestatic 56, 3) := by decide +kernel
theorem dX4_track_16 : decode cX4_track 16 = .ok (.ifCond .ne 6, 3) := by decide +kernel
theorem dX4_track_19 : decode cX4_track 19 = .ok (.bipush (-2), 2) := by decide +kernel
theorem dX4_track_21 : decode cX4_track 21 = .ok (.ireturn, 1) := by decide +kernel
theorem dX4_track_22 : decode cX4_track 22 = .ok (.aload_n 0, 1) := by decide +kernel
theorem dX4_track_23 : decode cX4_track 23 = .ok (.iload_n 1, 1) := by decide +kernel
theorem dX4_track_24 : decode cX4_track 24 = .ok (.invokevirtual 185, 3) := by decide +kernel
theorem dX4_track_27 : decode cX4_track 27 = .ok (.ifCond .ne 6, 3) := by decide +kernel
theorem dX4_track_30 : decode cX4_track 30 = .ok (.bipush (-9), 2) := by decide +kernel
theorem dX4_track_32 : decode cX4_track 32 = .ok (.ireturn, 1) := by decide +kernel
theorem dX4_track_33 : decode cX4_track 33 = .ok (.aload_n 0, 1) := by decide +kernel
theorem dX4_track_34 : decode cX4_track 34 = .ok (.iload_n 1, 1) := by decide +kernel
theorem dX4_track_35 : decode cX4_track 35 = .ok (.aload_n 0, 1) := by decide +kernel
theorem dX4_track_36 : decode cX4_track 36 = .ok (.getfield 182, 3) := by decide +kernel
theorem dX4_track_39 : decode cX4_track 39 = .ok (.aload_n 0, 1) := by decide +kernel
theorem dX4_track_40 : decode cX4_track 40 = .ok (.getfield 172, 3) := by decide +kernel
theorem dX4_track_43 : decode cX4_track 43 = .ok (.invokevirtual 175, 3) := by decide +kernel
theorem dX4_track_46 : decode cX4_track 46 = .ok (.iload_n 2, 1) := by decide +kernel
theorem dX4_track_47 : decode cX4_track 47 = .ok (.tableswitch 52 0 3 #[29, 34, 42, 47], 29) := by decide +kernel
theorem dX4_track_76 : decode cX4_track 76 = .ok (.aload_n 0, 1) := by decide +kernel
theorem dX4_track_77 : decode cX4_track 77 = .ok (.getfield 182, 3) := by decide +kernel
theorem dX4_track_80 : decode cX4_track 80 = .ok (.ireturn, 1) := by decide +kernel
theorem dX4_track_81 : decode cX4_track 81 = .ok (.aload_n 0, 1) := by decide +kernel
theorem dX4_track_82 : decode cX4_track 82 = .ok (.getfield 172, 3) := by decide +kernel
theorem dX4_track_85 : decode cX4_track 85 = .ok (.bipush 10, 2) := by decide +kernel
theorem dX4_track_87 : decode cX4_track 87 = .ok (.iadd, 1) := by decide +kernel
theorem dX4_track_88 : decode cX4_track 88 = .ok (.ireturn, 1) := by decide +kernel
theorem dX4_track_89 : decode cX4_track 89 = .ok (.aload_n 0, 1) := by decide +kernel
theorem dX4_track_90 : decode cX4_track 90 = .ok (.getfield 154, 3) := by decide +kernel
theorem dX4_track_93 : decode cX4_track 93 = .ok (.ireturn, 1) := by decide +kernel
theorem dX4_track_94 : decode cX4_track 94 = .ok (.aload_n 0, 1) := by decide +kernel
theorem dX4_track_95 : decode cX4_track 95 = .ok (.getfield 157, 3) := by decide +kernel
theorem dX4_track_98 : decode cX4_track 98 = .ok (.ireturn, 1) := by decide +kernel
theorem dX4_track_99 : decode cX4_track 99 = .ok (.aload_n 0, 1) := by decide +kernel
theorem dX4_track_100 : decode cX4_track 100 = .ok (.getfield 160, 3) := by decide +kernel
theorem dX4_track_103 : decode cX4_track 103 = .ok (.ireturn, 1) := by decide +kernel
theorem dX4_through_0 : decode cX4_through 0 = .ok (.iload_n 1, 1) := by decide +kernel
theorem dX4_through_1 : decode cX4_through 1 = .ok (.invokestatic 68, 3) := by decide +kernel
theorem dX4_through_4 : decode cX4_through 4 = .ok (.ifCond .ne 5, 3) := by decide +kernel
theorem dX4_through_7 : decode cX4_through 7 = .ok (.iconst (-1), 1) := by decide +kernel
theorem dX4_through_8 : decode cX4_through 8 = .ok (.ireturn, 1) := by decide +kernel
theorem dX4_through_9 : decode cX4_through 9 = .ok (.iload_n 2, 1) := by decide +kernel
theorem dX4_through_10 : decode cX4_through 10 = .ok (.iconst 0, 1) := by decide +kernel
theorem dX4_through_11 : decode cX4_through 11 = .ok (.bipush 15, 2) := by decide +kernel
theorem dX4_through_13 : decode cX4_through 13 = .ok (.invokestatic 56, 3) := by decide +kernel
theorem dX4_through_16 : decode cX4_through 16 = .ok (.ifCond .ne 6, 3) := by decide +kernel
theorem dX4_through_19 : decode cX4_through 19 = .ok (.bipush (-2), 2) := by decide +kernel
theorem dX4_through_21 : decode cX4_through 21 = .ok (.ireturn, 1) := by decide +kernel
theorem dX4_through_22 : decode cX4_through 22 = .ok (.aload_n 0, 1) := by decide +kernel
theorem dX4_through_23 : decode cX4_through 23 = .ok (.iconst 0, 1) := by decide +kernel
theorem dX4_through_24 : decode cX4_through 24 = .ok (.iconst 0, 1) := by decide +kernel
theorem dX4_through_25 : decode cX4_through 25 = .ok (.invokevirtual 120, 3) := by decide +kernel
theorem dX4_through_28 : decode cX4_through 28 = .ok (.iconst 0, 1) := by decide +kernel
theorem dX4_through_29 : decode cX4_through 29 = .ok (.istore_n 3, 1) := by decide +kernel
theorem dX4_through_30 : decode cX4_through 30 = .ok (.iconst 0, 1) := by decide +kernel
theorem dX4_through_31 : decode cX4_through 31 = .ok (.istore 4, 2) := by decide +kernel
theorem dX4_through_33 : decode cX4_through 33 = .ok (.iload 4, 2) := by decide +kernel
theorem dX4_through_35 : decode cX4_through 35 = .ok (.aload_n 0, 1) := by decide +kernel
theorem dX4_through_36 : decode cX4_through 36 = .ok (.getfield 117, 3) := by decide +kernel
theorem dX4_through_39 : decode cX4_through 39 = .ok (.if_icmp .ge 41, 3) := by decide +kernel
theorem dX4_through_42 : decode cX4_through 42 = .ok (.iload_n 3, 1) := by decide +kernel
theorem dX4_through_43 : decode cX4_through 43 = .ok (.aload_n 0, 1) := by decide +kernel
theorem dX4_through_44 : decode cX4_through 44 = .ok (.iload 4, 2) := by decide +kernel
theorem dX4_through_46 : decode cX4_through 46 = .ok (.invokevirtual 185, 3) := by decide +kernel
theorem dX4_through_49 : decode cX4_through 49 = .ok (.ifCond .eq 22, 3) := by decide +kernel
theorem dX4_through_52 : decode cX4_through 52 = .ok (.aload_n 0, 1) := by decide +kernel
theorem dX4_through_53 : decode cX4_through 53 = .ok (.getfield 182, 3) := by decide +kernel
theorem dX4_through_56 : decode cX4_through 56 = .ok (.aload_n 0, 1) := by decide +kernel
theorem dX4_through_57 : decode cX4_through 57 = .ok (.getfield 172, 3) := by decide +kernel
theorem dX4_through_60 : decode cX4_through 60 = .ok (.iload_n 1, 1) := by decide +kernel
theorem dX4_through_61 : decode cX4_through 61 = .ok (.imul, 1) := by decide +kernel
theorem dX4_through_62 : decode cX4_through 62 = .ok (.iadd, 1) := by decide +kernel
theorem dX4_through_63 : decode cX4_through 63 = .ok (.iload_n 2, 1) := by decide +kernel
theorem dX4_through_64 : decode cX4_through 64 = .ok (.if_icmp .ne 7, 3) := by decide +kernel
theorem dX4_through_67 : decode cX4_through 67 = .ok (.iconst 1, 1) := by decide +kernel
theorem dX4_through_68 : decode cX4_through 68 = .ok (.goto 4, 3) := by decide +kernel
theorem dX4_through_71 : decode cX4_through 71 = .ok (.iconst 0, 1) := by decide +kernel
theorem dX4_through_72 : decode cX4_through 72 = .ok (.iadd, 1) := by decide +kernel
theorem dX4_through_73 : decode cX4_through 73 = .ok (.istore_n 3, 1) := by decide +kernel
theorem dX4_through_74 : decode cX4_through 74 = .ok (.iinc 4 1, 3) := by decide +kernel
theorem dX4_through_77 : decode cX4_through 77 = .ok (.goto (-44), 3) := by decide +kernel
theorem dX4_through_80 : decode cX4_through 80 = .ok (.iload_n 3, 1) := by decide +kernel
theorem dX4_through_81 : decode cX4_through 81 = .ok (.ireturn, 1) := by decide +kernel
theorem dX4_tracks_0 : decode cX4_tracks 0 = .ok (.iconst 0, 1) := by decide +kernel
theorem dX4_tracks_1 : decode cX4_tracks 1 = .ok (.istore_n 1, 1) := by decide +kernel
theorem dX4_tracks_2 : decode cX4_tracks 2 = .ok (.iconst 0, 1) := by decide +kernel
theorem dX4_tracks_3 : decode cX4_tracks 3 = .ok (.istore_n 2, 1) := by decide +kernel
theorem dX4_tracks_4 : decode cX4_tracks 4 = .ok (.iload_n 2, 1) := by decide +kernel
theorem dX4_tracks_5 : decode cX4_tracks 5 = .ok (.aload_n 0, 1) := by decide +kernel
theorem dX4_tracks_6 : decode cX4_tracks 6 = .ok (.getfield 117, 3) := by decide +kernel
theorem dX4_tracks_9 : decode cX4_tracks 9 = .ok (.if_icmp .ge 25, 3) := by decide +kernel
theorem dX4_tracks_12 : decode cX4_tracks 12 = .ok (.iload_n 1, 1) := by decide +kernel
theorem dX4_tracks_13 : decode cX4_tracks 13 = .ok (.aload_n 0, 1) := by decide +kernel
theorem dX4_tracks_14 : decode cX4_tracks 14 = .ok (.iload_n 2, 1) := by decide +kernel
theorem dX4_tracks_15 : decode cX4_tracks 15 = .ok (.invokevirtual 185, 3) := by decide +kernel
theorem dX4_tracks_18 : decode cX4_tracks 18 = .ok (.ifCond .eq 7, 3) := by decide +kernel
theorem dX4_tracks_21 : decode cX4_tracks 21 = .ok (.iconst 1, 1) := by decide +kernel
theorem dX4_tracks_22 : decode cX4_tracks 22 = .ok (.goto 4, 3) := by decide +kernel
theorem dX4_tracks_25 : decode cX4_tracks 25 = .ok (.iconst 0, 1) := by decide +kernel
theorem dX4_tracks_26 : decode cX4_tracks 26 = .ok (.iadd, 1) := by decide +kernel
theorem dX4_tracks_27 : decode cX4_tracks 27 = .ok (.istore_n 1, 1) := by decide +kernel
theorem dX4_tracks_28 : decode cX4_tracks 28 = .ok (.iinc 2 1, 3) := by decide +kernel
theorem dX4_tracks_31 : decode cX4_tracks 31 = .ok (.goto (-27), 3) := by decide +kernel
theorem dX4_tracks_34 : decode cX4_tracks 34 = .ok (.iload_n 1, 1) := by decide +kernel
theorem dX4_tracks_35 : decode cX4_tracks 35 = .ok (.ireturn, 1) := by decide +kernel
theorem dX4_inGroups_0 : decode cX4_inGroups 0 = .ok (.iconst 0, 1) := by decide +kernel
theorem dX4_inGroups_1 : decode cX4_inGroups 1 = .ok (.istore_n 1, 1) := by decide +kernel
theorem dX4_inGroups_2 : decode cX4_inGroups 2 = .ok (.iconst 0, 1) := by decide +kernel
theorem dX4_inGroups_3 : decode cX4_inGroups 3 = .ok (.istore_n 2, 1) := by decide +kernel
theorem dX4_inGroups_4 : decode cX4_inGroups 4 = .ok (.iload_n 2, 1) := by decide +kernel
theorem dX4_inGroups_5 : decode cX4_inGroups 5 = .ok (.aload_n 0, 1) := by decide +kernel
theorem dX4_inGroups_6 : decode cX4_inGroups 6 = .ok (.getfield 101, 3) := by decide +kernel
theorem dX4_inGroups_9 : decode cX4_inGroups 9 = .ok (.if_icmp .ge 30, 3) := by decide +kernel
theorem dX4_inGroups_12 : decode cX4_inGroups 12 = .ok (.iload_n 1, 1) := by decide +kernel
theorem dX4_inGroups_13 : decode cX4_inGroups 13 = .ok (.aload_n 0, 1) := by decide +kernel
theorem dX4_inGroups_14 : decode cX4_inGroups 14 = .ok (.getfield 50, 3) := by decide +kernel
theorem dX4_inGroups_17 : decode cX4_inGroups 17 = .ok (.iload_n 2, 1) := by decide +kernel
theorem dX4_inGroups_18 : decode cX4_inGroups 18 = .ok (.iaload, 1) := by decide +kernel
theorem dX4_inGroups_19 : decode cX4_inGroups 19 = .ok (.aload_n 0, 1) := by decide +kernel
theorem dX4_inGroups_20 : decode cX4_inGroups 20 = .ok (.getfield 117, 3) := by decide +kernel
theorem dX4_inGroups_23 : decode cX4_inGroups 23 = .ok (.if_icmp .ge 7, 3) := by decide +kernel
theorem dX4_inGroups_26 : decode cX4_inGroups 26 = .ok (.iconst 1, 1) := by decide +kernel
theorem dX4_inGroups_27 : decode cX4_inGroups 27 = .ok (.goto 4, 3) := by decide +kernel
theorem dX4_inGroups_30 : decode cX4_inGroups 30 = .ok (.iconst 0, 1) := by decide +kernel
theorem dX4_inGroups_31 : decode cX4_inGroups 31 = .ok (.iadd, 1) := by decide +kernel
theorem dX4_inGroups_32 : decode cX4_inGroups 32 = .ok (.istore_n 1, 1) := by decide +kernel
theorem dX4_inGroups_33 : decode cX4_inGroups 33 = .ok (.iinc 2 1, 3) := by decide +kernel
theorem dX4_inGroups_36 : decode cX4_inGroups 36 = .ok (.goto (-32), 3) := by decide +kernel
theorem dX4_inGroups_39 : decode cX4_inGroups 39 = .ok (.iload_n 1, 1) := by decide +kernel
theorem dX4_inGroups_40 : decode cX4_inGroups 40 = .ok (.ireturn, 1) := by decide +kernel
theorem dX4_many_0 : decode cX4_many 0 = .ok (.aload_n 0, 1) := by decide +kernel
theorem dX4_many_1 : decode cX4_many 1 = .ok (.iconst 0, 1) := by decide +kernel
theorem dX4_many_2 : decode cX4_many 2 = .ok (.iconst 0, 1) := by decide +kernel
theorem dX4_many_3 : decode cX4_many 3 = .ok (.invokevirtual 120, 3) := by decide +kernel
theorem dX4_many_6 : decode cX4_many 6 = .ok (.iload_n 1, 1) := by decide +kernel
theorem dX4_many_7 : decode cX4_many 7 = .ok (.tableswitch 153 0 12 #[65, 75, 80, 85, 90, 98, 106, 111, 116, 125, 130, 135, 144], 65) := by decide +kernel
theorem dX4_many_72 : decode cX4_many 72 = .ok (.aload_n 0, 1) := by decide +kernel
theorem dX4_many_73 : decode cX4_many 73 = .ok (.getfield 60, 3) := by decide +kernel
theorem dX4_many_76 : decode cX4_many 76 = .ok (.aload_n 0, 1) := by decide +kernel
theorem dX4_many_77 : decode cX4_many 77 = .ok (.getfield 80, 3) := by decide +kernel
theorem dX4_many_80 : decode cX4_many 80 = .ok (.iadd, 1) := by decide +kernel
theorem dX4_many_81 : decode cX4_many 81 = .ok (.ireturn, 1) := by decide +kernel
theorem dX4_many_82 : decode cX4_many 82 = .ok (.aload_n 0, 1) := by decide +kernel
theorem dX4_many_83 : decode cX4_many 83 = .ok (.getfield 80, 3) := by decide +kernel
theorem dX4_many_86 : decode cX4_many 86 = .ok (.ireturn, 1) := by decide +kernel
theorem dX4_many_87 : decode cX4_many 87 = .ok (.aload_n 0, 1) := by decide +kernel
theorem dX4_many_88 : decode cX4_many 88 = .ok (.getfield 60, 3) := by decide +kernel
theorem dX4_many_91 : decode cX4_many 91 = .ok (.ireturn, 1) := by decide +kernel
theorem dX4_many_92 : decode cX4_many 92 = .ok (.aload_n 0, 1) := by decide +kernel
theorem dX4_many_93 : decode cX4_many 93 = .ok (.invokevirtual 87, 3) := by decide +kernel
theorem dX4_many_96 : decode cX4_many 96 = .ok (.ireturn, 1) := by decide +kernel
theorem dX4_many_97 : decode cX4_many 97 = .ok (.aload_n 0, 1) := by decide +kernel
theorem dX4_many_98 : decode cX4_many 98 = .ok (.bipush (-9), 2) := by decide +kernel
theorem dX4_many_100 : decode cX4_many 100 = .ok (.iconst 1, 1) := by decide +kernel
theorem dX4_many_101 : decode cX4_many 101 = .ok (.invokevirtual 97, 3) := by decide +kernel
theorem dX4_many_104 : decode cX4_many 104 = .ok (.ireturn, 1) := by decide +kernel
theorem dX4_many_105 : decode cX4_many 105 = .ok (.aload_n 0, 1) := by decide +kernel
theorem dX4_many_106 : decode cX4_many 106 = .ok (.bipush (-9), 2) := by decide +kernel
theorem dX4_many_108 : decode cX4_many 108 = .ok (.iconst 0, 1) := by decide +kernel
theorem dX4_many_109 : decode cX4_many 109 = .ok (.invokevirtual 97, 3) := by decide +kernel
theorem dX4_many_112 : decode cX4_many 112 = .ok (.ireturn, 1) := by decide +kernel
theorem dX4_many_113 : decode cX4_many 113 = .ok (.aload_n 0, 1) := by decide +kernel
theorem dX4_many_114 : decode cX4_many 114 = .ok (.getfield 101, 3) := by decide +kernel
theorem dX4_many_117 : decode cX4_many 117 = .ok (.ireturn, 1) := by decide +kernel
theorem dX4_many_118 : decode cX4_many 118 = .ok (.aload_n 0, 1) := by decide +kernel
theorem dX4_many_119 : decode cX4_many 119 = .ok (.getfield 117, 3) := by decide +kernel
theorem dX4_many_122 : decode cX4_many 122 = .ok (.ireturn, 1) := by decide +kernel
theorem dX4_many_123 : decode cX4_many 123 = .ok (.aload_n 0, 1) := by decide +kernel
theorem dX4_many_124 : decode cX4_many 124 = .ok (.aload_n 0, 1) := by decide +kernel
theorem dX4_many_125 : decode cX4_many 125 = .ok (.getfield 117, 3) := by decide +kernel
theorem dX4_many_128 : decode cX4_many 128 = .ok (.invokevirtual 139, 3) := by decide +kernel
theorem dX4_many_131 : decode cX4_many 131 = .ok (.ireturn, 1) := by decide +kernel
theorem dX4_many_132 : decode cX4_many 132 = .ok (.aload_n 0, 1) := by decide +kernel
theorem dX4_many_133 : decode cX4_many 133 = .ok (.invokevirtual 188, 3) := by decide +kernel
theorem dX4_many_136 : decode cX4_many 136 = .ok (.ireturn, 1) := by decide +kernel
theorem dX4_many_137 : decode cX4_many 137 = .ok (.aload_n 0, 1) := by decide +kernel
theorem dX4_many_138 : decode cX4_many 138 = .ok (.invokevirtual 191, 3) := by decide +kernel
theorem dX4_many_141 : decode cX4_many 141 = .ok (.ireturn, 1) := by decide +kernel
theorem dX4_many_142 : decode cX4_many 142 = .ok (.aload_n 0, 1) := by decide +kernel
theorem dX4_many_143 : decode cX4_many 143 = .ok (.invokevirtual 76, 3) := by decide +kernel
theorem dX4_many_146 : decode cX4_many 146 = .ok (.sipush 2000, 3) := by decide +kernel
theorem dX4_many_149 : decode cX4_many 149 = .ok (.iadd, 1) := by decide +kernel
theorem dX4_many_150 : decode cX4_many 150 = .ok (.ireturn, 1) := by decide +kernel
theorem dX4_many_151 : decode cX4_many 151 = .ok (.aload_n 0, 1) := by decide +kernel
theorem dX4_many_152 : decode cX4_many 152 = .ok (.invokevirtual 107, 3) := by decide +kernel
theorem dX4_many_155 : decode cX4_many 155 = .ok (.sipush 2000, 3) := by decide +kernel
theorem dX4_many_158 : decode cX4_many 158 = .ok (.iadd, 1) := by decide +kernel
theorem dX4_many_159 : decode cX4_many 159 = .ok (.ireturn, 1) := by decide +kernel
theorem dX4_many_160 : decode cX4_many 160 = .ok (.bipush (-2), 2) := by decide +kernel
theorem dX4_many_162 : decode cX4_many 162 = .ok (.ireturn, 1) := by decide +kernel
theorem dJ6_bitCount_0f7a4_0 : decode cJ6_bitCount_0f7a4 0 = .ok (.iload_n 0, 1) := by decide +kernel
theorem dJ6_bitCount_0f7a4_1 : decode cJ6_bitCount_0f7a4 1 = .ok (.iload_n 0, 1) := by decide +kernel
theorem dJ6_bitCount_0f7a4_2 : decode cJ6_bitCount_0f7a4 2 = .ok (.iconst 1, 1) := by decide +kernel
theorem dJ6_bitCount_0f7a4_3 : decode cJ6_bitCount_0f7a4 3 = .ok (.iushr, 1) := by decide +kernel
theorem dJ6_bitCount_0f7a4_4 : decode cJ6_bitCount_0f7a4 4 = .ok (.ldc_w 265, 3) := by decide +kernel
theorem dJ6_bitCount_0f7a4_7 : decode cJ6_bitCount_0f7a4 7 = .ok (.iand, 1) := by decide +kernel
theorem dJ6_bitCount_0f7a4_8 : decode cJ6_bitCount_0f7a4 8 = .ok (.isub, 1) := by decide +kernel
theorem dJ6_bitCount_0f7a4_9 : decode cJ6_bitCount_0f7a4 9 = .ok (.istore_n 0, 1) := by decide +kernel
theorem dJ6_bitCount_0f7a4_10 : decode cJ6_bitCount_0f7a4 10 = .ok (.iload_n 0, 1) := by decide +kernel
theorem dJ6_bitCount_0f7a4_11 : decode cJ6_bitCount_0f7a4 11 = .ok (.ldc_w 266, 3) := by decide +kernel
theorem dJ6_bitCount_0f7a4_14 : decode cJ6_bitCount_0f7a4 14 = .ok (.iand, 1) := by decide +kernel
theorem dJ6_bitCount_0f7a4_15 : decode cJ6_bitCount_0f7a4 15 = .ok (.iload_n 0, 1) := by decide +kernel
theorem dJ6_bitCount_0f7a4_16 : decode cJ6_bitCount_0f7a4 16 = .ok (.iconst 2, 1) := by decide +kernel
theorem dJ6_bitCount_0f7a4_17 : decode cJ6_bitCount_0f7a4 17 = .ok (.iushr, 1) := by decide +kernel
theorem dJ6_bitCount_0f7a4_18 : decode cJ6_bitCount_0f7a4 18 = .ok (.ldc_w 266, 3) := by decide +kernel
theorem dJ6_bitCount_0f7a4_21 : decode cJ6_bitCount_0f7a4 21 = .ok (.iand, 1) := by decide +kernel
theorem dJ6_bitCount_0f7a4_22 : decode cJ6_bitCount_0f7a4 22 = .ok (.iadd, 1) := by decide +kernel
theorem dJ6_bitCount_0f7a4_23 : decode cJ6_bitCount_0f7a4 23 = .ok (.istore_n 0, 1) := by decide +kernel
theorem dJ6_bitCount_0f7a4_24 : decode cJ6_bitCount_0f7a4 24 = .ok (.iload_n 0, 1) := by decide +kernel
theorem dJ6_bitCount_0f7a4_25 : decode cJ6_bitCount_0f7a4 25 = .ok (.iload_n 0, 1) := by decide +kernel
theorem dJ6_bitCount_0f7a4_26 : decode cJ6_bitCount_0f7a4 26 = .ok (.iconst 4, 1) := by decide +kernel
theorem dJ6_bitCount_0f7a4_27 : decode cJ6_bitCount_0f7a4 27 = .ok (.iushr, 1) := by decide +kernel
theorem dJ6_bitCount_0f7a4_28 : decode cJ6_bitCount_0f7a4 28 = .ok (.iadd, 1) := by decide +kernel
theorem dJ6_bitCount_0f7a4_29 : decode cJ6_bitCount_0f7a4 29 = .ok (.ldc_w 267, 3) := by decide +kernel
theorem dJ6_bitCount_0f7a4_32 : decode cJ6_bitCount_0f7a4 32 = .ok (.iand, 1) := by decide +kernel
theorem dJ6_bitCount_0f7a4_33 : decode cJ6_bitCount_0f7a4 33 = .ok (.istore_n 0, 1) := by decide +kernel
theorem dJ6_bitCount_0f7a4_34 : decode cJ6_bitCount_0f7a4 34 = .ok (.iload_n 0, 1) := by decide +kernel
theorem dJ6_bitCount_0f7a4_35 : decode cJ6_bitCount_0f7a4 35 = .ok (.iload_n 0, 1) := by decide +kernel
theorem dJ6_bitCount_0f7a4_36 : decode cJ6_bitCount_0f7a4 36 = .ok (.bipush 8, 2) := by decide +kernel
theorem dJ6_bitCount_0f7a4_38 : decode cJ6_bitCount_0f7a4 38 = .ok (.iushr, 1) := by decide +kernel
theorem dJ6_bitCount_0f7a4_39 : decode cJ6_bitCount_0f7a4 39 = .ok (.iadd, 1) := by decide +kernel
theorem dJ6_bitCount_0f7a4_40 : decode cJ6_bitCount_0f7a4 40 = .ok (.istore_n 0, 1) := by decide +kernel
theorem dJ6_bitCount_0f7a4_41 : decode cJ6_bitCount_0f7a4 41 = .ok (.iload_n 0, 1) := by decide +kernel
theorem dJ6_bitCount_0f7a4_42 : decode cJ6_bitCount_0f7a4 42 = .ok (.iload_n 0, 1) := by decide +kernel
theorem dJ6_bitCount_0f7a4_43 : decode cJ6_bitCount_0f7a4 43 = .ok (.bipush 16, 2) := by decide +kernel
theorem dJ6_bitCount_0f7a4_45 : decode cJ6_bitCount_0f7a4 45 = .ok (.iushr, 1) := by decide +kernel
theorem dJ6_bitCount_0f7a4_46 : decode cJ6_bitCount_0f7a4 46 = .ok (.iadd, 1) := by decide +kernel
theorem dJ6_bitCount_0f7a4_47 : decode cJ6_bitCount_0f7a4 47 = .ok (.istore_n 0, 1) := by decide +kernel
theorem dJ6_bitCount_0f7a4_48 : decode cJ6_bitCount_0f7a4 48 = .ok (.iload_n 0, 1) := by decide +kernel
theorem dJ6_bitCount_0f7a4_49 : decode cJ6_bitCount_0f7a4 49 = .ok (.bipush 63, 2) := by decide +kernel
theorem dJ6_bitCount_0f7a4_51 : decode cJ6_bitCount_0f7a4 51 = .ok (.iand, 1) := by decide +kernel
theorem dJ6_bitCount_0f7a4_52 : decode cJ6_bitCount_0f7a4 52 = .ok (.ireturn, 1) := by decide +kernel
theorem dJ9_abs_0f7a4_0 : decode cJ9_abs_0f7a4 0 = .ok (.iload_n 0, 1) := by decide +kernel
theorem dJ9_abs_0f7a4_1 : decode cJ9_abs_0f7a4 1 = .ok (.ifCond .ge 8, 3) := by decide +kernel
theorem dJ9_abs_0f7a4_4 : decode cJ9_abs_0f7a4 4 = .ok (.iload_n 0, 1) := by decide +kernel
theorem dJ9_abs_0f7a4_5 : decode cJ9_abs_0f7a4 5 = .ok (.ineg, 1) := by decide +kernel
theorem dJ9_abs_0f7a4_6 : decode cJ9_abs_0f7a4 6 = .ok (.goto 4, 3) := by decide +kernel
theorem dJ9_abs_0f7a4_9 : decode cJ9_abs_0f7a4 9 = .ok (.iload_n 0, 1) := by decide +kernel
theorem dJ9_abs_0f7a4_10 : decode cJ9_abs_0f7a4 10 = .ok (.ireturn, 1) := by decide +kernel
theorem dJ9_max_7cf53_0 : decode cJ9_max_7cf53 0 = .ok (.iload_n 0, 1) := by decide +kernel
theorem dJ9_max_7cf53_1 : decode cJ9_max_7cf53 1 = .ok (.iload_n 1, 1) := by decide +kernel
theorem dJ9_max_7cf53_2 : decode cJ9_max_7cf53 2 = .ok (.if_icmp .lt 7, 3) := by decide +kernel
theorem dJ9_max_7cf53_5 : decode cJ9_max_7cf53 5 = .ok (.iload_n 0, 1) := by decide +kernel
theorem dJ9_max_7cf53_6 : decode cJ9_max_7cf53 6 = .ok (.goto 4, 3) := by decide +kernel
theorem dJ9_max_7cf53_9 : decode cJ9_max_7cf53 9 = .ok (.iload_n 1, 1) := by decide +kernel
theorem dJ9_max_7cf53_10 : decode cJ9_max_7cf53 10 = .ok (.ireturn, 1) := by decide +kernel
theorem dJ7_fill_53178_0 : decode cJ7_fill_53178 0 = .ok (.iconst 0, 1) := by decide +kernel
theorem dJ7_fill_53178_1 : decode cJ7_fill_53178 1 = .ok (.istore_n 2, 1) := by decide +kernel
theorem dJ7_fill_53178_2 : decode cJ7_fill_53178 2 = .ok (.aload_n 0, 1) := by decide +kernel
theorem dJ7_fill_53178_3 : decode cJ7_fill_53178 3 = .ok (.arraylength, 1) := by decide +kernel
theorem dJ7_fill_53178_4 : decode cJ7_fill_53178 4 = .ok (.istore_n 3, 1) := by decide +kernel
theorem dJ7_fill_53178_5 : decode cJ7_fill_53178 5 = .ok (.iload_n 2, 1) := by decide +kernel
theorem dJ7_fill_53178_6 : decode cJ7_fill_53178 6 = .ok (.iload_n 3, 1) := by decide +kernel
theorem dJ7_fill_53178_7 : decode cJ7_fill_53178 7 = .ok (.if_icmp .ge 13, 3) := by decide +kernel
theorem dJ7_fill_53178_10 : decode cJ7_fill_53178 10 = .ok (.aload_n 0, 1) := by decide +kernel
theorem dJ7_fill_53178_11 : decode cJ7_fill_53178 11 = .ok (.iload_n 2, 1) := by decide +kernel
theorem dJ7_fill_53178_12 : decode cJ7_fill_53178 12 = .ok (.iload_n 1, 1) := by decide +kernel
theorem dJ7_fill_53178_13 : decode cJ7_fill_53178 13 = .ok (.iastore, 1) := by decide +kernel
theorem dJ7_fill_53178_14 : decode cJ7_fill_53178 14 = .ok (.iinc 2 1, 3) := by decide +kernel
theorem dJ7_fill_53178_17 : decode cJ7_fill_53178 17 = .ok (.goto (-12), 3) := by decide +kernel
theorem dJ7_fill_53178_20 : decode cJ7_fill_53178 20 = .ok (.return_, 1) := by decide +kernel
theorem dL_law_0 : decode cL_law 0 = .ok (.new 7, 3) := by decide +kernel
theorem dL_law_3 : decode cL_law 3 = .ok (.dup, 1) := by decide +kernel
theorem dL_law_4 : decode cL_law 4 = .ok (.invokespecial 9, 3) := by decide +kernel
theorem dL_law_7 : decode cL_law 7 = .ok (.astore_n 1, 1) := by decide +kernel
theorem dL_law_8 : decode cL_law 8 = .ok (.new 10, 3) := by decide +kernel
theorem dL_law_11 : decode cL_law 11 = .ok (.dup, 1) := by decide +kernel
theorem dL_law_12 : decode cL_law 12 = .ok (.invokespecial 12, 3) := by decide +kernel
theorem dL_law_15 : decode cL_law 15 = .ok (.astore_n 2, 1) := by decide +kernel
theorem dL_law_16 : decode cL_law 16 = .ok (.iconst 0, 1) := by decide +kernel
theorem dL_law_17 : decode cL_law 17 = .ok (.istore_n 3, 1) := by decide +kernel
theorem dL_law_18 : decode cL_law 18 = .ok (.iload_n 3, 1) := by decide +kernel
theorem dL_law_19 : decode cL_law 19 = .ok (.aload_n 0, 1) := by decide +kernel
theorem dL_law_20 : decode cL_law 20 = .ok (.arraylength, 1) := by decide +kernel
theorem dL_law_21 : decode cL_law 21 = .ok (.iconst 5, 1) := by decide +kernel
theorem dL_law_22 : decode cL_law 22 = .ok (.isub, 1) := by decide +kernel
theorem dL_law_23 : decode cL_law 23 = .ok (.if_icmp .gt 689, 3) := by decide +kernel
theorem dL_law_26 : decode cL_law 26 = .ok (.aload_n 0, 1) := by decide +kernel
theorem dL_law_27 : decode cL_law 27 = .ok (.iload_n 3, 1) := by decide +kernel
theorem dL_law_28 : decode cL_law 28 = .ok (.iaload, 1) := by decide +kernel
theorem dL_law_29 : decode cL_law 29 = .ok (.bipush 31, 2) := by decide +kernel
theorem dL_law_31 : decode cL_law 31 = .ok (.iand, 1) := by decide +kernel
theorem dL_law_32 : decode cL_law 32 = .ok (.tableswitch 674 0 17 #[88, 141, 174, 207, 250, 263, 276, 309, 352, 385, 408, 441, 484, 507, 541, 585, 618, 651], 88) := by decide +kernel
theorem dL_law_120 : decode cL_law 120 = .ok (.aload_n 1, 1) := by decide +kernel
theorem dL_law_121 : decode cL_law 121 = .ok (.aload_n 0, 1) := by decide +kernel
theorem dL_law_122 : decode cL_law 122 = .ok (.iload_n 3, 1) := by decide +kernel
theorem dL_law_123 : decode cL_law 123 = .ok (.iconst 1, 1) := by decide +kernel
theorem dL_law_124 : decode cL_law 124 = .ok (.iadd, 1) := by decide +kernel
theorem dL_law_125 : decode cL_law 125 = .ok (.iaload, 1) := by decide +kernel
theorem dL_law_126 : decode cL_law 126 = .ok (.aload_n 0, 1) := by decide +kernel
theorem dL_law_127 : decode cL_law 127 = .ok (.iload_n 3, 1) := by decide +kernel
theorem dL_law_128 : decode cL_law 128 = .ok (.iconst 2, 1) := by decide +kernel
theorem dL_law_129 : decode cL_law 129 = .ok (.iadd, 1) := by decide +kernel
theorem dL_law_130 : decode cL_law 130 = .ok (.iaload, 1) := by decide +kernel
theorem dL_law_131 : decode cL_law 131 = .ok (.aload_n 0, 1) := by decide +kernel
theorem dL_law_132 : decode cL_law 132 = .ok (.iload_n 3, 1) := by decide +kernel
theorem dL_law_133 : decode cL_law 133 = .ok (.iconst 3, 1) := by decide +kernel
theorem dL_law_134 : decode cL_law 134 = .ok (.iadd, 1) := by decide +kernel
theorem dL_law_135 : decode cL_law 135 = .ok (.iaload, 1) := by decide +kernel
theorem dL_law_136 : decode cL_law 136 = .ok (.aload_n 0, 1) := by decide +kernel
theorem dL_law_137 : decode cL_law 137 = .ok (.iload_n 3, 1) := by decide +kernel
theorem dL_law_138 : decode cL_law 138 = .ok (.iconst 4, 1) := by decide +kernel
theorem dL_law_139 : decode cL_law 139 = .ok (.iadd, 1) := by decide +kernel
theorem dL_law_140 : decode cL_law 140 = .ok (.iaload, 1) := by decide +kernel
theorem dL_law_141 : decode cL_law 141 = .ok (.invokevirtual 13, 3) := by decide +kernel
theorem dL_law_144 : decode cL_law 144 = .ok (.aload_n 2, 1) := by decide +kernel
theorem dL_law_145 : decode cL_law 145 = .ok (.aload_n 0, 1) := by decide +kernel
theorem dL_law_146 : decode cL_law 146 = .ok (.iload_n 3, 1) := by decide +kernel
theorem dL_law_147 : decode cL_law 147 = .ok (.iconst 1, 1) := by decide +kernel
theorem dL_law_148 : decode cL_law 148 = .ok (.iadd, 1) := by decide +kernel
theorem dL_law_149 : decode cL_law 149 = .ok (.iaload, 1) := by decide +kernel
theorem dL_law_150 : decode cL_law 150 = .ok (.aload_n 0, 1) := by decide +kernel
theorem dL_law_151 : decode cL_law 151 = .ok (.iload_n 3, 1) := by decide +kernel
theorem dL_law_152 : decode cL_law 152 = .ok (.iconst 2, 1) := by decide +kernel
theorem dL_law_153 : decode cL_law 153 = .ok (.iadd, 1) := by decide +kernel
theorem dL_law_154 : decode cL_law 154 = .ok (.iaload, 1) := by decide +kernel
theorem dL_law_155 : decode cL_law 155 = .ok (.aload_n 0, 1) := by decide +kernel
theorem dL_law_156 : decode cL_law 156 = .ok (.iload_n 3, 1) := by decide +kernel
theorem dL_law_157 : decode cL_law 157 = .ok (.iconst 3, 1) := by decide +kernel
theorem dL_law_158 : decode cL_law 158 = .ok (.iadd, 1) := by decide +kernel
theorem dL_law_159 : decode cL_law 159 = .ok (.iaload, 1) := by decide +kernel
theorem dL_law_160 : decode cL_law 160 = .ok (.aload_n 0, 1) := by decide +kernel
theorem dL_law_161 : decode cL_law 161 = .ok (.iload_n 3, 1) := by decide +kernel
theorem dL_law_162 : decode cL_law 162 = .ok (.iconst 4, 1) := by decide +kernel
theorem dL_law_163 : decode cL_law 163 = .ok (.iadd, 1) := by decide +kernel
theorem dL_law_164 : decode cL_law 164 = .ok (.iaload, 1) := by decide +kernel
theorem dL_law_165 : decode cL_law 165 = .ok (.invokevirtual 17, 3) := by decide +kernel
theorem dL_law_168 : decode cL_law 168 = .ok (.if_icmp .eq 538, 3) := by decide +kernel
theorem dL_law_171 : decode cL_law 171 = .ok (.iconst 0, 1) := by decide +kernel
theorem dL_law_172 : decode cL_law 172 = .ok (.ireturn, 1) := by decide +kernel
theorem dL_law_173 : decode cL_law 173 = .ok (.aload_n 1, 1) := by decide +kernel
theorem dL_law_174 : decode cL_law 174 = .ok (.aload_n 0, 1) := by decide +kernel
theorem dL_law_175 : decode cL_law 175 = .ok (.iload_n 3, 1) := by decide +kernel
theorem dL_law_176 : decode cL_law 176 = .ok (.iconst 1, 1) := by decide +kernel
theorem dL_law_177 : decode cL_law 177 = .ok (.iadd, 1) := by decide +kernel
theorem dL_law_178 : decode cL_law 178 = .ok (.iaload, 1) := by decide +kernel
theorem dL_law_179 : decode cL_law 179 = .ok (.aload_n 0, 1) := by decide +kernel
theorem dL_law_180 : decode cL_law 180 = .ok (.iload_n 3, 1) := by decide +kernel
theorem dL_law_181 : decode cL_law 181 = .ok (.iconst 2, 1) := by decide +kernel
theorem dL_law_182 : decode cL_law 182 = .ok (.iadd, 1) := by decide +kernel
theorem dL_law_183 : decode cL_law 183 = .ok (.iaload, 1) := by decide +kernel
theorem dL_law_184 : decode cL_law 184 = .ok (.invokevirtual 18, 3) := by decide +kernel
theorem dL_law_187 : decode cL_law 187 = .ok (.aload_n 2, 1) := by decide +kernel
theorem dL_law_188 : decode cL_law 188 = .ok (.aload_n 0, 1) := by decide +kernel
theorem dL_law_189 : decode cL_law 189 = .ok (.iload_n 3, 1) := by decide +kernel
theorem dL_law_190 : decode cL_law 190 = .ok (.iconst 1, 1) := by decide +kernel
theorem dL_law_191 : decode cL_law 191 = .ok (.iadd, 1) := by decide +kernel
theorem dL_law_192 : decode cL_law 192 = .ok (.iaload, 1) := by decide +kernel
theorem dL_law_193 : decode cL_law 193 = .ok (.aload_n 0, 1) := by decide +kernel
theorem dL_law_194 : decode cL_law 194 = .ok (.iload_n 3, 1) := by decide +kernel
theorem dL_law_195 : decode cL_law 195 = .ok (.iconst 2, 1) := by decide +kernel
theorem dL_law_196 : decode cL_law 196 = .ok (.iadd, 1) := by decide +kernel
theorem dL_law_197 : decode cL_law 197 = .ok (.iaload, 1) := by decide +kernel
theorem dL_law_198 : decode cL_law 198 = .ok (.invokevirtual 22, 3) := by decide +kernel
theorem dL_law_201 : decode cL_law 201 = .ok (.if_icmp .eq 505, 3) := by decide +kernel
theorem dL_law_204 : decode cL_law 204 = .ok (.iconst 0, 1) := by decide +kernel
theorem dL_law_205 : decode cL_law 205 = .ok (.ireturn, 1) := by decide +kernel
theorem dL_law_206 : decode cL_law 206 = .ok (.aload_n 1, 1) := by decide +kernel
theorem dL_law_207 : decode cL_law 207 = .ok (.aload_n 0, 1) := by decide +kernel
theorem dL_law_208 : decode cL_law 208 = .ok (.iload_n 3, 1) := by decide +kernel
theorem dL_law_209 : decode cL_law 209 = .ok (.iconst 1, 1) := by decide +kernel
theorem dL_law_210 : decode cL_law 210 = .ok (.iadd, 1) := by decide +kernel
theorem dL_law_211 : decode cL_law 211 = .ok (.iaload, 1) := by decide +kernel
theorem dL_law_212 : decode cL_law 212 = .ok (.aload_n 0, 1) := by decide +kernel
theorem dL_law_213 : decode cL_law 213 = .ok (.iload_n 3, 1) := by decide +kernel
theorem dL_law_214 : decode cL_law 214 = .ok (.iconst 2, 1) := by decide +kernel
theorem dL_law_215 : decode cL_law 215 = .ok (.iadd, 1) := by decide +kernel
theorem dL_law_216 : decode cL_law 216 = .ok (.iaload, 1) := by decide +kernel
theorem dL_law_217 : decode cL_law 217 = .ok (.invokevirtual 23, 3) := by decide +kernel
theorem dL_law_220 : decode cL_law 220 = .ok (.aload_n 2, 1) := by decide +kernel
theorem dL_law_221 : decode cL_law 221 = .ok (.aload_n 0, 1) := by decide +kernel
theorem dL_law_222 : decode cL_law 222 = .ok (.iload_n 3, 1) := by decide +kernel
theorem dL_law_223 : decode cL_law 223 = .ok (.iconst 1, 1) := by decide +kernel
theorem dL_law_224 : decode cL_law 224 = .ok (.iadd, 1) := by decide +kernel
theorem dL_law_225 : decode cL_law 225 = .ok (.iaload, 1) := by decide +kernel
theorem dL_law_226 : decode cL_law 226 = .ok (.aload_n 0, 1) := by decide +kernel
theorem dL_law_227 : decode cL_law 227 = .ok (.iload_n 3, 1) := by decide +kernel
theorem dL_law_228 : decode cL_law 228 = .ok (.iconst 2, 1) := by decide +kernel
theorem dL_law_229 : decode cL_law 229 = .ok (.iadd, 1) := by decide +kernel
theorem dL_law_230 : decode cL_law 230 = .ok (.iaload, 1) := by decide +kernel
theorem dL_law_231 : decode cL_law 231 = .ok (.invokevirtual 26, 3) := by decide +kernel
theorem dL_law_234 : decode cL_law 234 = .ok (.if_icmp .eq 472, 3) := by decide +kernel
theorem dL_law_237 : decode cL_law 237 = .ok (.iconst 0, 1) := by decide +kernel
theorem dL_law_238 : decode cL_law 238 = .ok (.ireturn, 1) := by decide +kernel
theorem dL_law_239 : decode cL_law 239 = .ok (.aload_n 1, 1) := by decide +kernel
theorem dL_law_240 : decode cL_law 240 = .ok (.aload_n 0, 1) := by decide +kernel
theorem dL_law_241 : decode cL_law 241 = .ok (.iload_n 3, 1) := by decide +kernel
theorem dL_law_242 : decode cL_law 242 = .ok (.iconst 1, 1) := by decide +kernel
theorem dL_law_243 : decode cL_law 243 = .ok (.iadd, 1) := by decide +kernel
theorem dL_law_244 : decode cL_law 244 = .ok (.iaload, 1) := by decide +kernel
theorem dL_law_245 : decode cL_law 245 = .ok (.aload_n 0, 1) := by decide +kernel
theorem dL_law_246 : decode cL_law 246 = .ok (.iload_n 3, 1) := by decide +kernel
theorem dL_law_247 : decode cL_law 247 = .ok (.iconst 2, 1) := by decide +kernel
theorem dL_law_248 : decode cL_law 248 = .ok (.iadd, 1) := by decide +kernel
theorem dL_law_249 : decode cL_law 249 = .ok (.iaload, 1) := by decide +kernel
theorem dL_law_250 : decode cL_law 250 = .ok (.aload_n 0, 1) := by decide +kernel
theorem dL_law_251 : decode cL_law 251 = .ok (.iload_n 3, 1) := by decide +kernel
theorem dL_law_252 : decode cL_law 252 = .ok (.iconst 3, 1) := by decide +kernel
theorem dL_law_253 : decode cL_law 253 = .ok (.iadd, 1) := by decide +kernel
theorem dL_law_254 : decode cL_law 254 = .ok (.iaload, 1) := by decide +kernel
theorem dL_law_255 : decode cL_law 255 = .ok (.invokevirtual 27, 3) := by decide +kernel
theorem dL_law_258 : decode cL_law 258 = .ok (.aload_n 2, 1) := by decide +kernel
theorem dL_law_259 : decode cL_law 259 = .ok (.aload_n 0, 1) := by decide +kernel
theorem dL_law_260 : decode cL_law 260 = .ok (.iload_n 3, 1) := by decide +kernel
theorem dL_law_261 : decode cL_law 261 = .ok (.iconst 1, 1) := by decide +kernel
theorem dL_law_262 : decode cL_law 262 = .ok (.iadd, 1) := by decide +kernel
theorem dL_law_263 : decode cL_law 263 = .ok (.iaload, 1) := by decide +kernel
theorem dL_law_264 : decode cL_law 264 = .ok (.aload_n 0, 1) := by decide +kernel
theorem dL_law_265 : decode cL_law 265 = .ok (.iload_n 3, 1) := by decide +kernel
theorem dL_law_266 : decode cL_law 266 = .ok (.iconst 2, 1) := by decide +kernel
theorem dL_law_267 : decode cL_law 267 = .ok (.iadd, 1) := by decide +kernel
theorem dL_law_268 : decode cL_law 268 = .ok (.iaload, 1) := by decide +kernel
theorem dL_law_269 : decode cL_law 269 = .ok (.aload_n 0, 1) := by decide +kernel
theorem dL_law_270 : decode cL_law 270 = .ok (.iload_n 3, 1) := by decide +kernel
theorem dL_law_271 : decode cL_law 271 = .ok (.iconst 3, 1) := by decide +kernel
theorem dL_law_272 : decode cL_law 272 = .ok (.iadd, 1) := by decide +kernel
theorem dL_law_273 : decode cL_law 273 = .ok (.iaload, 1) := by decide +kernel
theorem dL_law_274 : decode cL_law 274 = .ok (.invokevirtual 31, 3) := by decide +kernel
theorem dL_law_277 : decode cL_law 277 = .ok (.if_icmp .eq 429, 3) := by decide +kernel
theorem dL_law_280 : decode cL_law 280 = .ok (.iconst 0, 1) := by decide +kernel
theorem dL_law_281 : decode cL_law 281 = .ok (.ireturn, 1) := by decide +kernel
theorem dL_law_282 : decode cL_law 282 = .ok (.aload_n 1, 1) := by decide +kernel
theorem dL_law_283 : decode cL_law 283 = .ok (.invokevirtual 32, 3) := by decide +kernel
theorem dL_law_286 : decode cL_law 286 = .ok (.aload_n 2, 1) := by decide +kernel
theorem dL_law_287 : decode cL_law 287 = .ok (.invokevirtual 36, 3) := by decide +kernel
theorem dL_law_290 : decode cL_law 290 = .ok (.if_icmp .eq 416, 3) := by decide +kernel
theorem dL_law_293 : decode cL_law 293 = .ok (.iconst 0, 1) := by decide +kernel
theorem dL_law_294 : decode cL_law 294 = .ok (.ireturn, 1) := by decide +kernel
theorem dL_law_295 : decode cL_law 295 = .ok (.aload_n 1, 1) := by decide +kernel
theorem dL_law_296 : decode cL_law 296 = .ok (.invokevirtual 37, 3) := by decide +kernel
theorem dL_law_299 : decode cL_law 299 = .ok (.aload_n 2, 1) := by decide +kernel
theorem dL_law_300 : decode cL_law 300 = .ok (.invokevirtual 40, 3) := by decide +kernel
theorem dL_law_303 : decode cL_law 303 = .ok (.if_icmp .eq 403, 3) := by decide +kernel
theorem dL_law_306 : decode cL_law 306 = .ok (.iconst 0, 1) := by decide +kernel
theorem dL_law_307 : decode cL_law 307 = .ok (.ireturn, 1) := by decide +kernel
theorem dL_law_308 : decode cL_law 308 = .ok (.aload_n 1, 1) := by decide +kernel
theorem dL_law_309 : decode cL_law 309 = .ok (.aload_n 0, 1) := by decide +kernel
theorem dL_law_310 : decode cL_law 310 = .ok (.iload_n 3, 1) := by decide +kernel
theorem dL_law_311 : decode cL_law 311 = .ok (.iconst 1, 1) := by decide +kernel
theorem dL_law_312 : decode cL_law 312 = .ok (.iadd, 1) := by decide +kernel
theorem dL_law_313 : decode cL_law 313 = .ok (.iaload, 1) := by decide +kernel
theorem dL_law_314 : decode cL_law 314 = .ok (.aload_n 0, 1) := by decide +kernel
theorem dL_law_315 : decode cL_law 315 = .ok (.iload_n 3, 1) := by decide +kernel
theorem dL_law_316 : decode cL_law 316 = .ok (.iconst 2, 1) := by decide +kernel
theorem dL_law_317 : decode cL_law 317 = .ok (.iadd, 1) := by decide +kernel
theorem dL_law_318 : decode cL_law 318 = .ok (.iaload, 1) := by decide +kernel
theorem dL_law_319 : decode cL_law 319 = .ok (.invokevirtual 41, 3) := by decide +kernel
theorem dL_law_322 : decode cL_law 322 = .ok (.aload_n 2, 1) := by decide +kernel
theorem dL_law_323 : decode cL_law 323 = .ok (.aload_n 0, 1) := by decide +kernel
theorem dL_law_324 : decode cL_law 324 = .ok (.iload_n 3, 1) := by decide +kernel
theorem dL_law_325 : decode cL_law 325 = .ok (.iconst 1, 1) := by decide +kernel
theorem dL_law_326 : decode cL_law 326 = .ok (.iadd, 1) := by decide +kernel
theorem dL_law_327 : decode cL_law 327 = .ok (.iaload, 1) := by decide +kernel
theorem dL_law_328 : decode cL_law 328 = .ok (.aload_n 0, 1) := by decide +kernel
theorem dL_law_329 : decode cL_law 329 = .ok (.iload_n 3, 1) := by decide +kernel
theorem dL_law_330 : decode cL_law 330 = .ok (.iconst 2, 1) := by decide +kernel
theorem dL_law_331 : decode cL_law 331 = .ok (.iadd, 1) := by decide +kernel
theorem dL_law_332 : decode cL_law 332 = .ok (.iaload, 1) := by decide +kernel
theorem dL_law_333 : decode cL_law 333 = .ok (.invokevirtual 44, 3) := by decide +kernel
theorem dL_law_336 : decode cL_law 336 = .ok (.if_icmp .eq 370, 3) := by decide +kernel
theorem dL_law_339 : decode cL_law 339 = .ok (.iconst 0, 1) := by decide +kernel
theorem dL_law_340 : decode cL_law 340 = .ok (.ireturn, 1) := by decide +kernel
theorem dL_law_341 : decode cL_law 341 = .ok (.aload_n 1, 1) := by decide +kernel
theorem dL_law_342 : decode cL_law 342 = .ok (.aload_n 0, 1) := by decide +kernel
theorem dL_law_343 : decode cL_law 343 = .ok (.iload_n 3, 1) := by decide +kernel
theorem dL_law_344 : decode cL_law 344 = .ok (.iconst 1, 1) := by decide +kernel
theorem dL_law_345 : decode cL_law 345 = .ok (.iadd, 1) := by decide +kernel
theorem dL_law_346 : decode cL_law 346 = .ok (.iaload, 1) := by decide +kernel
theorem dL_law_347 : decode cL_law 347 = .ok (.aload_n 0, 1) := by decide +kernel
theorem dL_law_348 : decode cL_law 348 = .ok (.iload_n 3, 1) := by decide +kernel
theorem dL_law_349 : decode cL_law 349 = .ok (.iconst 2, 1) := by decide +kernel
theorem dL_law_350 : decode cL_law 350 = .ok (.iadd, 1) := by decide +kernel
theorem dL_law_351 : decode cL_law 351 = .ok (.iaload, 1) := by decide +kernel
theorem dL_law_352 : decode cL_law 352 = .ok (.aload_n 0, 1) := by decide +kernel
theorem dL_law_353 : decode cL_law 353 = .ok (.iload_n 3, 1) := by decide +kernel
theorem dL_law_354 : decode cL_law 354 = .ok (.iconst 3, 1) := by decide +kernel
theorem dL_law_355 : decode cL_law 355 = .ok (.iadd, 1) := by decide +kernel
theorem dL_law_356 : decode cL_law 356 = .ok (.iaload, 1) := by decide +kernel
theorem dL_law_357 : decode cL_law 357 = .ok (.invokevirtual 45, 3) := by decide +kernel
theorem dL_law_360 : decode cL_law 360 = .ok (.aload_n 2, 1) := by decide +kernel
theorem dL_law_361 : decode cL_law 361 = .ok (.aload_n 0, 1) := by decide +kernel
theorem dL_law_362 : decode cL_law 362 = .ok (.iload_n 3, 1) := by decide +kernel
theorem dL_law_363 : decode cL_law 363 = .ok (.iconst 1, 1) := by decide +kernel
theorem dL_law_364 : decode cL_law 364 = .ok (.iadd, 1) := by decide +kernel
theorem dL_law_365 : decode cL_law 365 = .ok (.iaload, 1) := by decide +kernel
theorem dL_law_366 : decode cL_law 366 = .ok (.aload_n 0, 1) := by decide +kernel
theorem dL_law_367 : decode cL_law 367 = .ok (.iload_n 3, 1) := by decide +kernel
theorem dL_law_368 : decode cL_law 368 = .ok (.iconst 2, 1) := by decide +kernel
theorem dL_law_369 : decode cL_law 369 = .ok (.iadd, 1) := by decide +kernel
theorem dL_law_370 : decode cL_law 370 = .ok (.iaload, 1) := by decide +kernel
theorem dL_law_371 : decode cL_law 371 = .ok (.aload_n 0, 1) := by decide +kernel
theorem dL_law_372 : decode cL_law 372 = .ok (.iload_n 3, 1) := by decide +kernel
theorem dL_law_373 : decode cL_law 373 = .ok (.iconst 3, 1) := by decide +kernel
theorem dL_law_374 : decode cL_law 374 = .ok (.iadd, 1) := by decide +kernel
theorem dL_law_375 : decode cL_law 375 = .ok (.iaload, 1) := by decide +kernel
theorem dL_law_376 : decode cL_law 376 = .ok (.invokevirtual 48, 3) := by decide +kernel
theorem dL_law_379 : decode cL_law 379 = .ok (.if_icmp .eq 327, 3) := by decide +kernel
theorem dL_law_382 : decode cL_law 382 = .ok (.iconst 0, 1) := by decide +kernel
theorem dL_law_383 : decode cL_law 383 = .ok (.ireturn, 1) := by decide +kernel
theorem dL_law_384 : decode cL_law 384 = .ok (.aload_n 1, 1) := by decide +kernel
theorem dL_law_385 : decode cL_law 385 = .ok (.aload_n 0, 1) := by decide +kernel
theorem dL_law_386 : decode cL_law 386 = .ok (.iload_n 3, 1) := by decide +kernel
theorem dL_law_387 : decode cL_law 387 = .ok (.iconst 1, 1) := by decide +kernel
theorem dL_law_388 : decode cL_law 388 = .ok (.iadd, 1) := by decide +kernel
theorem dL_law_389 : decode cL_law 389 = .ok (.iaload, 1) := by decide +kernel
theorem dL_law_390 : decode cL_law 390 = .ok (.aload_n 0, 1) := by decide +kernel
theorem dL_law_391 : decode cL_law 391 = .ok (.iload_n 3, 1) := by decide +kernel
theorem dL_law_392 : decode cL_law 392 = .ok (.iconst 2, 1) := by decide +kernel
theorem dL_law_393 : decode cL_law 393 = .ok (.iadd, 1) := by decide +kernel
theorem dL_law_394 : decode cL_law 394 = .ok (.iaload, 1) := by decide +kernel
theorem dL_law_395 : decode cL_law 395 = .ok (.invokevirtual 49, 3) := by decide +kernel
theorem dL_law_398 : decode cL_law 398 = .ok (.aload_n 2, 1) := by decide +kernel
theorem dL_law_399 : decode cL_law 399 = .ok (.aload_n 0, 1) := by decide +kernel
theorem dL_law_400 : decode cL_law 400 = .ok (.iload_n 3, 1) := by decide +kernel
theorem dL_law_401 : decode cL_law 401 = .ok (.iconst 1, 1) := by decide +kernel
theorem dL_law_402 : decode cL_law 402 = .ok (.iadd, 1) := by decide +kernel
theorem dL_law_403 : decode cL_law 403 = .ok (.iaload, 1) := by decide +kernel
theorem dL_law_404 : decode cL_law 404 = .ok (.aload_n 0, 1) := by decide +kernel
theorem dL_law_405 : decode cL_law 405 = .ok (.iload_n 3, 1) := by decide +kernel
theorem dL_law_406 : decode cL_law 406 = .ok (.iconst 2, 1) := by decide +kernel
theorem dL_law_407 : decode cL_law 407 = .ok (.iadd, 1) := by decide +kernel
theorem dL_law_408 : decode cL_law 408 = .ok (.iaload, 1) := by decide +kernel
theorem dL_law_409 : decode cL_law 409 = .ok (.invokevirtual 52, 3) := by decide +kernel
theorem dL_law_412 : decode cL_law 412 = .ok (.if_icmp .eq 294, 3) := by decide +kernel
theorem dL_law_415 : decode cL_law 415 = .ok (.iconst 0, 1) := by decide +kernel
theorem dL_law_416 : decode cL_law 416 = .ok (.ireturn, 1) := by decide +kernel
theorem dL_law_417 : decode cL_law 417 = .ok (.aload_n 1, 1) := by decide +kernel
theorem dL_law_418 : decode cL_law 418 = .ok (.aload_n 0, 1) := by decide +kernel
theorem dL_law_419 : decode cL_law 419 = .ok (.iload_n 3, 1) := by decide +kernel
theorem dL_law_420 : decode cL_law 420 = .ok (.iconst 1, 1) := by decide +kernel
theorem dL_law_421 : decode cL_law 421 = .ok (.iadd, 1) := by decide +kernel
theorem dL_law_422 : decode cL_law 422 = .ok (.iaload, 1) := by decide +kernel
theorem dL_law_423 : decode cL_law 423 = .ok (.invokevirtual 53, 3) := by decide +kernel
theorem dL_law_426 : decode cL_law 426 = .ok (.aload_n 2, 1) := by decide +kernel
theorem dL_law_427 : decode cL_law 427 = .ok (.aload_n 0, 1) := by decide +kernel
theorem dL_law_428 : decode cL_law 428 = .ok (.iload_n 3, 1) := by decide +kernel
theorem dL_law_429 : decode cL_law 429 = .ok (.iconst 1, 1) := by decide +kernel
theorem dL_law_430 : decode cL_law 430 = .ok (.iadd, 1) := by decide +kernel
theorem dL_law_431 : decode cL_law 431 = .ok (.iaload, 1) := by decide +kernel
theorem dL_law_432 : decode cL_law 432 = .ok (.invokevirtual 57, 3) := by decide +kernel
theorem dL_law_435 : decode cL_law 435 = .ok (.if_icmp .eq 271, 3) := by decide +kernel
theorem dL_law_438 : decode cL_law 438 = .ok (.iconst 0, 1) := by decide +kernel
theorem dL_law_439 : decode cL_law 439 = .ok (.ireturn, 1) := by decide +kernel
theorem dL_law_440 : decode cL_law 440 = .ok (.aload_n 1, 1) := by decide +kernel
theorem dL_law_441 : decode cL_law 441 = .ok (.aload_n 0, 1) := by decide +kernel
theorem dL_law_442 : decode cL_law 442 = .ok (.iload_n 3, 1) := by decide +kernel
theorem dL_law_443 : decode cL_law 443 = .ok (.iconst 1, 1) := by decide +kernel
theorem dL_law_444 : decode cL_law 444 = .ok (.iadd, 1) := by decide +kernel
theorem dL_law_445 : decode cL_law 445 = .ok (.iaload, 1) := by decide +kernel
theorem dL_law_446 : decode cL_law 446 = .ok (.aload_n 0, 1) := by decide +kernel
theorem dL_law_447 : decode cL_law 447 = .ok (.iload_n 3, 1) := by decide +kernel
theorem dL_law_448 : decode cL_law 448 = .ok (.iconst 2, 1) := by decide +kernel
theorem dL_law_449 : decode cL_law 449 = .ok (.iadd, 1) := by decide +kernel
theorem dL_law_450 : decode cL_law 450 = .ok (.iaload, 1) := by decide +kernel
theorem dL_law_451 : decode cL_law 451 = .ok (.invokevirtual 58, 3) := by decide +kernel
theorem dL_law_454 : decode cL_law 454 = .ok (.aload_n 2, 1) := by decide +kernel
theorem dL_law_455 : decode cL_law 455 = .ok (.aload_n 0, 1) := by decide +kernel
theorem dL_law_456 : decode cL_law 456 = .ok (.iload_n 3, 1) := by decide +kernel
theorem dL_law_457 : decode cL_law 457 = .ok (.iconst 1, 1) := by decide +kernel
theorem dL_law_458 : decode cL_law 458 = .ok (.iadd, 1) := by decide +kernel
theorem dL_law_459 : decode cL_law 459 = .ok (.iaload, 1) := by decide +kernel
theorem dL_law_460 : decode cL_law 460 = .ok (.aload_n 0, 1) := by decide +kernel
theorem dL_law_461 : decode cL_law 461 = .ok (.iload_n 3, 1) := by decide +kernel
theorem dL_law_462 : decode cL_law 462 = .ok (.iconst 2, 1) := by decide +kernel
theorem dL_law_463 : decode cL_law 463 = .ok (.iadd, 1) := by decide +kernel
theorem dL_law_464 : decode cL_law 464 = .ok (.iaload, 1) := by decide +kernel
theorem dL_law_465 : decode cL_law 465 = .ok (.invokevirtual 61, 3) := by decide +kernel
theorem dL_law_468 : decode cL_law 468 = .ok (.if_icmp .eq 238, 3) := by decide +kernel
theorem dL_law_471 : decode cL_law 471 = .ok (.iconst 0, 1) := by decide +kernel
theorem dL_law_472 : decode cL_law 472 = .ok (.ireturn, 1) := by decide +kernel
theorem dL_law_473 : decode cL_law 473 = .ok (.aload_n 1, 1) := by decide +kernel
theorem dL_law_474 : decode cL_law 474 = .ok (.aload_n 0, 1) := by decide +kernel
theorem dL_law_475 : decode cL_law 475 = .ok (.iload_n 3, 1) := by decide +kernel
theorem dL_law_476 : decode cL_law 476 = .ok (.iconst 1, 1) := by decide +kernel
theorem dL_law_477 : decode cL_law 477 = .ok (.iadd, 1) := by decide +kernel
theorem dL_law_478 : decode cL_law 478 = .ok (.iaload, 1) := by decide +kernel
theorem dL_law_479 : decode cL_law 479 = .ok (.aload_n 0, 1) := by decide +kernel
theorem dL_law_480 : decode cL_law 480 = .ok (.iload_n 3, 1) := by decide +kernel
theorem dL_law_481 : decode cL_law 481 = .ok (.iconst 2, 1) := by decide +kernel
theorem dL_law_482 : decode cL_law 482 = .ok (.iadd, 1) := by decide +kernel
theorem dL_law_483 : decode cL_law 483 = .ok (.iaload, 1) := by decide +kernel
theorem dL_law_484 : decode cL_law 484 = .ok (.aload_n 0, 1) := by decide +kernel
theorem dL_law_485 : decode cL_law 485 = .ok (.iload_n 3, 1) := by decide +kernel
theorem dL_law_486 : decode cL_law 486 = .ok (.iconst 3, 1) := by decide +kernel
theorem dL_law_487 : decode cL_law 487 = .ok (.iadd, 1) := by decide +kernel
theorem dL_law_488 : decode cL_law 488 = .ok (.iaload, 1) := by decide +kernel
theorem dL_law_489 : decode cL_law 489 = .ok (.invokevirtual 62, 3) := by decide +kernel
theorem dL_law_492 : decode cL_law 492 = .ok (.aload_n 2, 1) := by decide +kernel
theorem dL_law_493 : decode cL_law 493 = .ok (.aload_n 0, 1) := by decide +kernel
theorem dL_law_494 : decode cL_law 494 = .ok (.iload_n 3, 1) := by decide +kernel
theorem dL_law_495 : decode cL_law 495 = .ok (.iconst 1, 1) := by decide +kernel
theorem dL_law_496 : decode cL_law 496 = .ok (.iadd, 1) := by decide +kernel
theorem dL_law_497 : decode cL_law 497 = .ok (.iaload, 1) := by decide +kernel
theorem dL_law_498 : decode cL_law 498 = .ok (.aload_n 0, 1) := by decide +kernel
theorem dL_law_499 : decode cL_law 499 = .ok (.iload_n 3, 1) := by decide +kernel
theorem dL_law_500 : decode cL_law 500 = .ok (.iconst 2, 1) := by decide +kernel
theorem dL_law_501 : decode cL_law 501 = .ok (.iadd, 1) := by decide +kernel
theorem dL_law_502 : decode cL_law 502 = .ok (.iaload, 1) := by decide +kernel
theorem dL_law_503 : decode cL_law 503 = .ok (.aload_n 0, 1) := by decide +kernel
theorem dL_law_504 : decode cL_law 504 = .ok (.iload_n 3, 1) := by decide +kernel
theorem dL_law_505 : decode cL_law 505 = .ok (.iconst 3, 1) := by decide +kernel
theorem dL_law_506 : decode cL_law 506 = .ok (.iadd, 1) := by decide +kernel
theorem dL_law_507 : decode cL_law 507 = .ok (.iaload, 1) := by decide +kernel
theorem dL_law_508 : decode cL_law 508 = .ok (.invokevirtual 65, 3) := by decide +kernel
theorem dL_law_511 : decode cL_law 511 = .ok (.if_icmp .eq 195, 3) := by decide +kernel
theorem dL_law_514 : decode cL_law 514 = .ok (.iconst 0, 1) := by decide +kernel
theorem dL_law_515 : decode cL_law 515 = .ok (.ireturn, 1) := by decide +kernel
theorem dL_law_516 : decode cL_law 516 = .ok (.aload_n 1, 1) := by decide +kernel
theorem dL_law_517 : decode cL_law 517 = .ok (.aload_n 0, 1) := by decide +kernel
theorem dL_law_518 : decode cL_law 518 = .ok (.iload_n 3, 1) := by decide +kernel
theorem dL_law_519 : decode cL_law 519 = .ok (.iconst 1, 1) := by decide +kernel
theorem dL_law_520 : decode cL_law 520 = .ok (.iadd, 1) := by decide +kernel
theorem dL_law_521 : decode cL_law 521 = .ok (.iaload, 1) := by decide +kernel
theorem dL_law_522 : decode cL_law 522 = .ok (.invokevirtual 66, 3) := by decide +kernel
theorem dL_law_525 : decode cL_law 525 = .ok (.aload_n 2, 1) := by decide +kernel
theorem dL_law_526 : decode cL_law 526 = .ok (.aload_n 0, 1) := by decide +kernel
theorem dL_law_527 : decode cL_law 527 = .ok (.iload_n 3, 1) := by decide +kernel
theorem dL_law_528 : decode cL_law 528 = .ok (.iconst 1, 1) := by decide +kernel
theorem dL_law_529 : decode cL_law 529 = .ok (.iadd, 1) := by decide +kernel
theorem dL_law_530 : decode cL_law 530 = .ok (.iaload, 1) := by decide +kernel
theorem dL_law_531 : decode cL_law 531 = .ok (.invokevirtual 69, 3) := by decide +kernel
theorem dL_law_534 : decode cL_law 534 = .ok (.if_icmp .eq 172, 3) := by decide +kernel
theorem dL_law_537 : decode cL_law 537 = .ok (.iconst 0, 1) := by decide +kernel
theorem dL_law_538 : decode cL_law 538 = .ok (.ireturn, 1) := by decide +kernel
theorem dL_law_539 : decode cL_law 539 = .ok (.aload_n 1, 1) := by decide +kernel
theorem dL_law_540 : decode cL_law 540 = .ok (.aload_n 0, 1) := by decide +kernel
theorem dL_law_541 : decode cL_law 541 = .ok (.iload_n 3, 1) := by decide +kernel
theorem dL_law_542 : decode cL_law 542 = .ok (.iconst 1, 1) := by decide +kernel
theorem dL_law_543 : decode cL_law 543 = .ok (.iadd, 1) := by decide +kernel
theorem dL_law_544 : decode cL_law 544 = .ok (.iaload, 1) := by decide +kernel
theorem dL_law_545 : decode cL_law 545 = .ok (.aload_n 0, 1) := by decide +kernel
theorem dL_law_546 : decode cL_law 546 = .ok (.iload_n 3, 1) := by decide +kernel
theorem dL_law_547 : decode cL_law 547 = .ok (.iconst 2, 1) := by decide +kernel
theorem dL_law_548 : decode cL_law 548 = .ok (.iadd, 1) := by decide +kernel
theorem dL_law_549 : decode cL_law 549 = .ok (.iaload, 1) := by decide +kernel
theorem dL_law_550 : decode cL_law 550 = .ok (.invokevirtual 70, 3) := by decide +kernel
theorem dL_law_553 : decode cL_law 553 = .ok (.aload_n 2, 1) := by decide +kernel
theorem dL_law_554 : decode cL_law 554 = .ok (.aload_n 0, 1) := by decide +kernel
theorem dL_law_555 : decode cL_law 555 = .ok (.iload_n 3, 1) := by decide +kernel
theorem dL_law_556 : decode cL_law 556 = .ok (.iconst 1, 1) := by decide +kernel
theorem dL_law_557 : decode cL_law 557 = .ok (.iadd, 1) := by decide +kernel
theorem dL_law_558 : decode cL_law 558 = .ok (.iaload, 1) := by decide +kernel
theorem dL_law_559 : decode cL_law 559 = .ok (.aload_n 0, 1) := by decide +kernel
theorem dL_law_560 : decode cL_law 560 = .ok (.iload_n 3, 1) := by decide +kernel
theorem dL_law_561 : decode cL_law 561 = .ok (.iconst 2, 1) := by decide +kernel
theorem dL_law_562 : decode cL_law 562 = .ok (.iadd, 1) := by decide +kernel
theorem dL_law_563 : decode cL_law 563 = .ok (.iaload, 1) := by decide +kernel
theorem dL_law_564 : decode cL_law 564 = .ok (.invokevirtual 74, 3) := by decide +kernel
theorem dL_law_567 : decode cL_law 567 = .ok (.lcmp, 1) := by decide +kernel
theorem dL_law_568 : decode cL_law 568 = .ok (.ifCond .eq 138, 3) := by decide +kernel
theorem dL_law_571 : decode cL_law 571 = .ok (.iconst 0, 1) := by decide +kernel
theorem dL_law_572 : decode cL_law 572 = .ok (.ireturn, 1) := by decide +kernel
theorem dL_law_573 : decode cL_law 573 = .ok (.aload_n 1, 1) := by decide +kernel
theorem dL_law_574 : decode cL_law 574 = .ok (.aload_n 0, 1) := by decide +kernel
theorem dL_law_575 : decode cL_law 575 = .ok (.iload_n 3, 1) := by decide +kernel
theorem dL_law_576 : decode cL_law 576 = .ok (.iconst 1, 1) := by decide +kernel
theorem dL_law_577 : decode cL_law 577 = .ok (.iadd, 1) := by decide +kernel
theorem dL_law_578 : decode cL_law 578 = .ok (.iaload, 1) := by decide +kernel
theorem dL_law_579 : decode cL_law 579 = .ok (.aload_n 0, 1) := by decide +kernel
theorem dL_law_580 : decode cL_law 580 = .ok (.iload_n 3, 1) := by decide +kernel
theorem dL_law_581 : decode cL_law 581 = .ok (.iconst 2, 1) := by decide +kernel
theorem dL_law_582 : decode cL_law 582 = .ok (.iadd, 1) := by decide +kernel
theorem dL_law_583 : decode cL_law 583 = .ok (.iaload, 1) := by decide +kernel
theorem dL_law_584 : decode cL_law 584 = .ok (.aload_n 0, 1) := by decide +kernel
theorem dL_law_585 : decode cL_law 585 = .ok (.iload_n 3, 1) := by decide +kernel
theorem dL_law_586 : decode cL_law 586 = .ok (.iconst 3, 1) := by decide +kernel
theorem dL_law_587 : decode cL_law 587 = .ok (.iadd, 1) := by decide +kernel
theorem dL_law_588 : decode cL_law 588 = .ok (.iaload, 1) := by decide +kernel
theorem dL_law_589 : decode cL_law 589 = .ok (.invokevirtual 75, 3) := by decide +kernel
theorem dL_law_592 : decode cL_law 592 = .ok (.aload_n 2, 1) := by decide +kernel
theorem dL_law_593 : decode cL_law 593 = .ok (.aload_n 0, 1) := by decide +kernel
theorem dL_law_594 : decode cL_law 594 = .ok (.iload_n 3, 1) := by decide +kernel
theorem dL_law_595 : decode cL_law 595 = .ok (.iconst 1, 1) := by decide +kernel
theorem dL_law_596 : decode cL_law 596 = .ok (.iadd, 1) := by decide +kernel
theorem dL_law_597 : decode cL_law 597 = .ok (.iaload, 1) := by decide +kernel
theorem dL_law_598 : decode cL_law 598 = .ok (.aload_n 0, 1) := by decide +kernel
theorem dL_law_599 : decode cL_law 599 = .ok (.iload_n 3, 1) := by decide +kernel
theorem dL_law_600 : decode cL_law 600 = .ok (.iconst 2, 1) := by decide +kernel
theorem dL_law_601 : decode cL_law 601 = .ok (.iadd, 1) := by decide +kernel
theorem dL_law_602 : decode cL_law 602 = .ok (.iaload, 1) := by decide +kernel
theorem dL_law_603 : decode cL_law 603 = .ok (.aload_n 0, 1) := by decide +kernel
theorem dL_law_604 : decode cL_law 604 = .ok (.iload_n 3, 1) := by decide +kernel
theorem dL_law_605 : decode cL_law 605 = .ok (.iconst 3, 1) := by decide +kernel
theorem dL_law_606 : decode cL_law 606 = .ok (.iadd, 1) := by decide +kernel
theorem dL_law_607 : decode cL_law 607 = .ok (.iaload, 1) := by decide +kernel
theorem dL_law_608 : decode cL_law 608 = .ok (.invokevirtual 79, 3) := by decide +kernel
theorem dL_law_611 : decode cL_law 611 = .ok (.lcmp, 1) := by decide +kernel
theorem dL_law_612 : decode cL_law 612 = .ok (.ifCond .eq 94, 3) := by decide +kernel
theorem dL_law_615 : decode cL_law 615 = .ok (.iconst 0, 1) := by decide +kernel
theorem dL_law_616 : decode cL_law 616 = .ok (.ireturn, 1) := by decide +kernel
theorem dL_law_617 : decode cL_law 617 = .ok (.aload_n 1, 1) := by decide +kernel
theorem dL_law_618 : decode cL_law 618 = .ok (.aload_n 0, 1) := by decide +kernel
theorem dL_law_619 : decode cL_law 619 = .ok (.iload_n 3, 1) := by decide +kernel
theorem dL_law_620 : decode cL_law 620 = .ok (.iconst 1, 1) := by decide +kernel
theorem dL_law_621 : decode cL_law 621 = .ok (.iadd, 1) := by decide +kernel
theorem dL_law_622 : decode cL_law 622 = .ok (.iaload, 1) := by decide +kernel
theorem dL_law_623 : decode cL_law 623 = .ok (.aload_n 0, 1) := by decide +kernel
theorem dL_law_624 : decode cL_law 624 = .ok (.iload_n 3, 1) := by decide +kernel
theorem dL_law_625 : decode cL_law 625 = .ok (.iconst 2, 1) := by decide +kernel
theorem dL_law_626 : decode cL_law 626 = .ok (.iadd, 1) := by decide +kernel
theorem dL_law_627 : decode cL_law 627 = .ok (.iaload, 1) := by decide +kernel
theorem dL_law_628 : decode cL_law 628 = .ok (.invokevirtual 80, 3) := by decide +kernel
theorem dL_law_631 : decode cL_law 631 = .ok (.aload_n 2, 1) := by decide +kernel
theorem dL_law_632 : decode cL_law 632 = .ok (.aload_n 0, 1) := by decide +kernel
theorem dL_law_633 : decode cL_law 633 = .ok (.iload_n 3, 1) := by decide +kernel
theorem dL_law_634 : decode cL_law 634 = .ok (.iconst 1, 1) := by decide +kernel
theorem dL_law_635 : decode cL_law 635 = .ok (.iadd, 1) := by decide +kernel
theorem dL_law_636 : decode cL_law 636 = .ok (.iaload, 1) := by decide +kernel
theorem dL_law_637 : decode cL_law 637 = .ok (.aload_n 0, 1) := by decide +kernel
theorem dL_law_638 : decode cL_law 638 = .ok (.iload_n 3, 1) := by decide +kernel
theorem dL_law_639 : decode cL_law 639 = .ok (.iconst 2, 1) := by decide +kernel
theorem dL_law_640 : decode cL_law 640 = .ok (.iadd, 1) := by decide +kernel
theorem dL_law_641 : decode cL_law 641 = .ok (.iaload, 1) := by decide +kernel
theorem dL_law_642 : decode cL_law 642 = .ok (.invokevirtual 83, 3) := by decide +kernel
theorem dL_law_645 : decode cL_law 645 = .ok (.if_icmp .eq 61, 3) := by decide +kernel
theorem dL_law_648 : decode cL_law 648 = .ok (.iconst 0, 1) := by decide +kernel
theorem dL_law_649 : decode cL_law 649 = .ok (.ireturn, 1) := by decide +kernel
theorem dL_law_650 : decode cL_law 650 = .ok (.aload_n 1, 1) := by decide +kernel
theorem dL_law_651 : decode cL_law 651 = .ok (.aload_n 0, 1) := by decide +kernel
theorem dL_law_652 : decode cL_law 652 = .ok (.iload_n 3, 1) := by decide +kernel
theorem dL_law_653 : decode cL_law 653 = .ok (.iconst 1, 1) := by decide +kernel
theorem dL_law_654 : decode cL_law 654 = .ok (.iadd, 1) := by decide +kernel
theorem dL_law_655 : decode cL_law 655 = .ok (.iaload, 1) := by decide +kernel
theorem dL_law_656 : decode cL_law 656 = .ok (.aload_n 0, 1) := by decide +kernel
theorem dL_law_657 : decode cL_law 657 = .ok (.iload_n 3, 1) := by decide +kernel
theorem dL_law_658 : decode cL_law 658 = .ok (.iconst 2, 1) := by decide +kernel
theorem dL_law_659 : decode cL_law 659 = .ok (.iadd, 1) := by decide +kernel
theorem dL_law_660 : decode cL_law 660 = .ok (.iaload, 1) := by decide +kernel
theorem dL_law_661 : decode cL_law 661 = .ok (.invokevirtual 84, 3) := by decide +kernel
theorem dL_law_664 : decode cL_law 664 = .ok (.aload_n 2, 1) := by decide +kernel
theorem dL_law_665 : decode cL_law 665 = .ok (.aload_n 0, 1) := by decide +kernel
theorem dL_law_666 : decode cL_law 666 = .ok (.iload_n 3, 1) := by decide +kernel
theorem dL_law_667 : decode cL_law 667 = .ok (.iconst 1, 1) := by decide +kernel
theorem dL_law_668 : decode cL_law 668 = .ok (.iadd, 1) := by decide +kernel
theorem dL_law_669 : decode cL_law 669 = .ok (.iaload, 1) := by decide +kernel
theorem dL_law_670 : decode cL_law 670 = .ok (.aload_n 0, 1) := by decide +kernel
theorem dL_law_671 : decode cL_law 671 = .ok (.iload_n 3, 1) := by decide +kernel
theorem dL_law_672 : decode cL_law 672 = .ok (.iconst 2, 1) := by decide +kernel
theorem dL_law_673 : decode cL_law 673 = .ok (.iadd, 1) := by decide +kernel
theorem dL_law_674 : decode cL_law 674 = .ok (.iaload, 1) := by decide +kernel
theorem dL_law_675 : decode cL_law 675 = .ok (.invokevirtual 87, 3) := by decide +kernel
theorem dL_law_678 : decode cL_law 678 = .ok (.if_icmp .eq 28, 3) := by decide +kernel
theorem dL_law_681 : decode cL_law 681 = .ok (.iconst 0, 1) := by decide +kernel
theorem dL_law_682 : decode cL_law 682 = .ok (.ireturn, 1) := by decide +kernel
theorem dL_law_683 : decode cL_law 683 = .ok (.aload_n 1, 1) := by decide +kernel
theorem dL_law_684 : decode cL_law 684 = .ok (.aload_n 0, 1) := by decide +kernel
theorem dL_law_685 : decode cL_law 685 = .ok (.iload_n 3, 1) := by decide +kernel
theorem dL_law_686 : decode cL_law 686 = .ok (.iconst 1, 1) := by decide +kernel
theorem dL_law_687 : decode cL_law 687 = .ok (.iadd, 1) := by decide +kernel
theorem dL_law_688 : decode cL_law 688 = .ok (.iaload, 1) := by decide +kernel
theorem dL_law_689 : decode cL_law 689 = .ok (.invokevirtual 88, 3) := by decide +kernel
theorem dL_law_692 : decode cL_law 692 = .ok (.aload_n 2, 1) := by decide +kernel
theorem dL_law_693 : decode cL_law 693 = .ok (.aload_n 0, 1) := by decide +kernel
theorem dL_law_694 : decode cL_law 694 = .ok (.iload_n 3, 1) := by decide +kernel
theorem dL_law_695 : decode cL_law 695 = .ok (.iconst 1, 1) := by decide +kernel
theorem dL_law_696 : decode cL_law 696 = .ok (.iadd, 1) := by decide +kernel
theorem dL_law_697 : decode cL_law 697 = .ok (.iaload, 1) := by decide +kernel
theorem dL_law_698 : decode cL_law 698 = .ok (.invokevirtual 91, 3) := by decide +kernel
theorem dL_law_701 : decode cL_law 701 = .ok (.if_icmp .eq 5, 3) := by decide +kernel
theorem dL_law_704 : decode cL_law 704 = .ok (.iconst 0, 1) := by decide +kernel
theorem dL_law_705 : decode cL_law 705 = .ok (.ireturn, 1) := by decide +kernel
theorem dL_law_706 : decode cL_law 706 = .ok (.iinc 3 5, 3) := by decide +kernel
theorem dL_law_709 : decode cL_law 709 = .ok (.goto (-691), 3) := by decide +kernel
theorem dL_law_712 : decode cL_law 712 = .ok (.iconst 1, 1) := by decide +kernel
theorem dL_law_713 : decode cL_law 713 = .ok (.ireturn, 1) := by decide +kernel
end
section
/-! ===== whole numbers: a machine's int or long is named by an Int ===== -/
def zI (x : Int) : Int32 := Int32.ofInt x
def zL (x : Int) : Int64 := Int64.ofInt x
def za (f : Nat → Int) : Nat → Int32 := fun j => zI (f j)
def zu (f : Nat → Int) (i x : Int) : Nat → Int := fun j => if j = i.toNat then x else f j
abbrev zE (x y : Int) : Prop := zI x = zI y
abbrev zLt (x y : Int) : Prop := zI x < zI y
abbrev zLe (x y : Int) : Prop := zI x ≤ zI y
abbrev zIn (i : Int) (n : Nat) : Prop := 0 ≤ i ∧ i < (n : Int)
def zR (x : Int) : Prop := -2147483648 ≤ x ∧ x < 2147483648
def zg {α : Type} (c : Prop) [Decidable c] (k : Option α) : Option α := if c then k else none
def zl {α : Type} (e : Int) (f : Int → Option α) : Option α := f e
def zand (x y : Int) : Int := (zI x &&& zI y).toInt
def zor (x y : Int) : Int := (zI x ||| zI y).toInt
def zxor (x y : Int) : Int := (zI x ^^^ zI y).toInt
def zshl (x y : Int) : Int := (zI x <<< (zI y &&& 31)).toInt
def zshr (x y : Int) : Int := (zI x >>> (zI y &&& 31)).toInt
def zushr (x y : Int) : Int := ((zI x).toUInt32 >>> ((zI y).toUInt32 &&& Int32.toUInt32 31)).toInt32.toInt
def zldiv (x y : Int) : Int := (zL x / zL y).toInt
def zlrem (x y : Int) : Int := (zL x - zL x / zL y * zL y).toInt
def zlcmp (x y : Int) : Int := (lg_cmp (zL x) (zL y)).toInt
def zi2l (x : Int) : Int := (zI x).toInt
abbrev zLE (x y : Int) : Prop := zL x = zL y
theorem zg_some {α : Type} {c : Prop} [Decidable c] {k : Option α} {o : α} (h : zg c k = some o) : c ∧ k = some o := by
  unfold zg at h
  split at h
  · exact ⟨by assumption, h⟩
  · cases h
theorem zg_pos {α : Type} {c : Prop} [Decidable c] {k : Option α} (h : c) : zg c k = k := if_pos h
theorem zl_some {α : Type} {e : Int} {f : Int → Option α} {o : α} (h : zl e f = some o) : ∃ v, e = v ∧ f v = some o := ⟨e, rfl, h⟩
theorem zbind {α β : Type} {o : Option α} {f : α → Option β} {b : β} (h : o.bind f = some b) : ∃ a, o = some a ∧ f a = some b := by
  cases o with
  | none => cases h
  | some a => exact ⟨a, rfl, h⟩
theorem zI_toInt (x : Int32) : zI x.toInt = x := by simp [zI]
theorem zL_toInt (x : Int64) : zL x.toInt = x := by simp [zL]
theorem zI_add (x y : Int) : zI x + zI y = zI (x + y) := by simp [zI, Int32.ofInt_add]
theorem zI_sub (x y : Int) : zI x - zI y = zI (x - y) := by simp [zI, Int32.ofInt_sub]
theorem zI_mul (x y : Int) : zI x * zI y = zI (x * y) := by simp [zI, Int32.ofInt_mul]
theorem zI_neg (x : Int) : -zI x = zI (-x) := by simp [zI, Int32.ofInt_neg]
theorem zL_add (x y : Int) : zL x + zL y = zL (x + y) := by simp [zL, Int64.ofInt_add]
theorem zL_sub (x y : Int) : zL x - zL y = zL (x - y) := by simp [zL, Int64.ofInt_sub]
theorem zL_mul (x y : Int) : zL x * zL y = zL (x * y) := by simp [zL, Int64.ofInt_mul]
theorem zI_nat (n : Nat) : zI (n : Int) = nI n := by
  show Int32.ofInt (n : Int) = Int32.ofNat n
  first | exact Int32.ofInt_eq_ofNat | simp | rfl
theorem zI_clamp {i : Int} {n : Nat} (hn : n < 2147483648) (h : zIn i n) : (zI i).toNatClampNeg = i.toNat := by
  obtain ⟨h1, h2⟩ := h
  obtain ⟨k, rfl⟩ := Int.eq_ofNat_of_zero_le h1
  rw [zI_nat, nI_clamp (by omega)]
  simp
theorem zI_in {i : Int} {n : Nat} (hn : n < 2147483648) (h : zIn i n) : vp_in (zI i) n := by
  obtain ⟨h1, h2⟩ := h
  obtain ⟨k, rfl⟩ := Int.eq_ofNat_of_zero_le h1
  rw [zI_nat]
  exact nI_in (by omega) hn
theorem zI_get {x : Int} (h : zR x) : (zI x).toInt = x := by
  obtain ⟨h1, h2⟩ := h
  unfold zI
  rw [Int32.toInt_ofInt]
  have e : Int32.size = 4294967296 := rfl
  first
    | exact Int.bmod_eq_of_le (by omega) (by omega)
    | (rw [Int.bmod_def]; omega)
theorem zE_iff {x y : Int} (hx : zR x) (hy : zR y) : zE x y ↔ x = y := by
  unfold zE
  rw [← Int32.toInt_inj, zI_get hx, zI_get hy]
theorem zLt_iff {x y : Int} (hx : zR x) (hy : zR y) : zLt x y ↔ x < y := by
  unfold zLt
  rw [Int32.lt_iff_toInt_lt, zI_get hx, zI_get hy]
theorem zLe_iff {x y : Int} (hx : zR x) (hy : zR y) : zLe x y ↔ x ≤ y := by
  unfold zLe
  rw [Int32.le_iff_toInt_le, zI_get hx, zI_get hy]
theorem za_upd (f : Nat → Int) (i x : Int) {n : Nat} (hn : n < 2147483648) (h : zIn i n) : upd (za f) (zI i).toNatClampNeg (zI x) = za (zu f i x) := by
  rw [zI_clamp hn h]
  funext j
  unfold upd za zu
  split <;> rfl
/-- the tables' words that stay through a call -/
def zTb : List Cond := lw_tbl.filter goodWord
theorem zgood : GoodIn zTb zTb := fun w hw => ⟨hw, good_of_word (List.mem_filter.mp hw).2⟩
theorem zin {w : Cond} {i : Nat} (h : lw_tbl[i]? = some w) (hg : goodWord w = true) : w ∈ zTb := List.mem_filter.mpr ⟨List.mem_of_getElem? h, hg⟩
/-! ===== worlds: what a method's callers hand over and get back ===== -/
abbrev zTY (cI cZ : ClassId) : List (ClassId × FieldType) := [(cI, .int), (cZ, .boolean)]
def zW (y : MethodName) (b : ByteArray) (n : Nat) (r : Option FieldType) : List Cond := .code y b n r :: zTb
def zPre (D : va_G) (cI cZ : ClassId) (ws : va_W) (sz : Nat) (U : State) : Prop := U.heap.size = sz ∧ va_P D vwCl ws U.heap ∧ va_K D vwCl (zTY cI cZ) U ∧ va_D (fun _ => True) ws
theorem zPre_blind {av : List Value} {D : va_G} {cI cZ : ClassId} {ws : va_W} {sz : Nat} : FrameBlind (va_Pc av (zPre D cI cZ ws sz)) := fun a U g mk q => by
  obtain ⟨q0, q1, qP, qK, qD⟩ := q
  exact ⟨q0, q1, qP, va_K.moved (u := U) (U := U.calling g mk a) (Vm.Alike.refl U.vm) qK, qD⟩
theorem zPre_ok {D : va_G} {cI cZ : ClassId} {A : Nat → Prop} {ws : va_W} {s : State} {H : Heap} (hP : va_P D vwCl ws H) (hK : va_K D vwCl (zTY cI cZ) s) (hD : va_D A ws) : ∀ U : State, U.heap = H → s.WarmedH U.vm → zPre D cI cZ ws H.size U :=
  fun U hU hW => ⟨by rw [hU], by rw [hU]; exact hP, va_K.moved hW.alike hK, hD.weaken (fun _ _ _ _ => trivial)⟩
/-- the addresses of a world stay, whatever its cells hold -/
theorem zD {A : Nat → Prop} {ws ws' : va_W} (h : va_D A ws) (e : ws'.map Prod.fst = ws.map Prod.fst) : va_D A ws' := by
  have key : ∀ (k : Nat) (q : Nat × va_E), ws'[k]? = some q → ∃ q' : Nat × va_E, ws[k]? = some q' ∧ q'.1 = q.1 := by
    intro k q hq
    have h1 : (ws'.map Prod.fst)[k]? = some q.1 := by rw [List.getElem?_map, hq]; rfl
    rw [e, List.getElem?_map] at h1
    cases hc : ws[k]? with
    | none => rw [hc] at h1; cases h1
    | some q' => rw [hc] at h1; exact ⟨q', rfl, Option.some.inj h1⟩
  refine ⟨fun i j x y hx hy hxy => ?_, fun k q hq => ?_⟩
  · obtain ⟨x', h1, h2⟩ := key i x hx
    obtain ⟨y', h3, h4⟩ := key j y hy
    exact h.1 i j x' y' h1 h3 (by rw [h2, h4, hxy])
  · obtain ⟨q', h1, h2⟩ := key k q hq
    rw [← h2]
    exact h.2 k q' h1
/-- a world with some of its cells anew -/
def zrep : va_W → List Nat → va_W → va_W
  | ws, i :: is, c :: cs => zrep (ws.set i c) is cs
  | ws, _, _ => ws
theorem zrep_at {D : va_G} {H1 : Heap} : ∀ (is : List Nat) (ws w1 : va_W), (∀ (k : Nat) (q : Nat × va_E), ws[k]? = some q → k ∉ is → va_at D vwCl q H1) → va_P D vwCl w1 H1 → is.length ≤ w1.length → va_P D vwCl (zrep ws is w1) H1 := by
  intro is
  induction is with
  | nil =>
    intro ws w1 h _ _ k q hq
    have e : zrep ws [] w1 = ws := by cases w1 <;> rfl
    rw [e] at hq
    exact h k q hq List.not_mem_nil
  | cons i is ih =>
    intro ws w1 h hw hl
    cases w1 with
    | nil => exact absurd hl (by simp)
    | cons c cs =>
      refine ih (ws.set i c) cs (fun k q hq hk => ?_) (fun k q hq => hw (k + 1) q (by simpa using hq)) (by simpa using hl)
      rw [List.getElem?_set] at hq
      by_cases hik : i = k
      · subst hik
        rw [if_pos rfl] at hq
        split at hq
        · cases hq
          exact hw 0 c rfl
        · cases hq
      · rw [if_neg hik] at hq
        exact h k q hq (by simp only [List.mem_cons, not_or]; exact ⟨fun e => hik e.symm, hk⟩)
/-- behind a call: the caller's world, the callee's cells in their places -/
theorem zjoin {A0 : Nat → Prop} {D : va_G} {ws wc w1 : va_W} {H H1 : Heap} (hP : va_P D vwCl ws H) (hD : va_D A0 ws) (isC : List Nat) (hC : isC.map (fun i => ws[i]?) = wc.map some)
    (hk : ∀ q : Nat, q < H.size → ¬ va_A wc H.size q → H1[q]? = H[q]?) (hP1 : va_P D vwCl w1 H1) (hl : isC.length ≤ w1.length) : va_P D vwCl (zrep ws isC w1) H1 := by
  refine zrep_at isC ws w1 (fun k q hq hn => ?_) hP1 hl
  have hlt := (hP k q hq).lt
  refine (hP k q hq).kept (hk q.1 hlt (fun h => ?_))
  rcases h with ⟨k2, e, h⟩ | h
  · have h1 : (isC.map (fun i => ws[i]?))[k2]? = some (some (q.1, e)) := by rw [hC, List.getElem?_map, h]; rfl
    rw [List.getElem?_map] at h1
    cases hi : isC[k2]? with
    | none => rw [hi] at h1; cases h1
    | some i =>
      rw [hi] at h1
      have h2 := hD.1 k i q (q.1, e) hq (Option.some.inj h1) rfl
      subst h2
      exact hn (List.mem_of_getElem? hi)
  · omega
/-- the four arrays that nobody writes -/
def zS0 : Nat → Int := fun j => [0, -1, 1, -2, 2, -3, 3].getD j 0
def zS1 : Nat → Int := fun j => [0, 0, 2, 0].getD j 0
def zS2 : Nat → Int := fun j => [100, 40, 6, 3].getD j 0
def zS3 : Nat → Int := fun j => [20, 5, 2, 1].getD j 0
def zT0 : Nat → Value := fun j => .int (zI (zS0 j))
def zT1 : Nat → Value := fun j => .int (zI (zS1 j))
def zT2 : Nat → Value := fun j => .int (zI (zS2 j))
def zT3 : Nat → Value := fun j => .int (zI (zS3 j))
/-- more turns than any loop takes -/
def zF : Nat := 100000
def zSt1 (C n : String) (N : Nat) (f : Nat → Value) (A : Nat → Prop) (U : State) (H : Heap) : Prop := ∃ t : Nat, va_Z C n "[I" (.ref t) A U H ∧ va_T .int t N f A U H
def zSt (A : Nat → Prop) (U : State) (H : Heap) : Prop := zSt1 "CounterHouse$LineSearch" "SLOPES" 7 zT0 A U H ∧ zSt1 "CounterHouse" "LEAST_OF_SETTING" 4 zT1 A U H ∧ zSt1 "CounterHouse" "MOST_OF_SETTING" 4 zT2 A U H
theorem zSt1_go {C n : String} {N : Nat} {f : Nat → Value} {A B : Nat → Prop} {s U : State} {H : Heap} {locs : List Loc} (h : zSt1 C n N f A s s.heap) (hS : va_S A s.heap H locs) (hU : U.heap = H) (hW : s.WarmedH U.vm) (hAB : ∀ q, B q → A q) : zSt1 C n N f B U U.heap := by
  obtain ⟨t, h1, h2⟩ := h
  rw [hU]
  exact ⟨t, va_Z.moved hW.alike ((h1.kept hS.2.1).narrow hAB), va_T.moved hW.alike ((h2.kept hS.2.1).narrow hAB)⟩
theorem zSt_go {A B : Nat → Prop} {s U : State} {H : Heap} {locs : List Loc} (h : zSt A s s.heap) (hS : va_S A s.heap H locs) (hU : U.heap = H) (hW : s.WarmedH U.vm) (hAB : ∀ q, B q → A q) : zSt B U U.heap :=
  ⟨zSt1_go h.1 hS hU hW hAB, zSt1_go h.2.1 hS hU hW hAB, zSt1_go h.2.2 hS hU hW hAB⟩
def zPreS (D : va_G) (cI cZ : ClassId) (ws : va_W) (sz : Nat) (U : State) : Prop := zPre D cI cZ ws sz U ∧ zSt (va_A ws sz) U U.heap
theorem zPreS_blind {av : List Value} {D : va_G} {cI cZ : ClassId} {ws : va_W} {sz : Nat} : FrameBlind (va_Pc av (zPreS D cI cZ ws sz)) := fun a U g mk q => by
  obtain ⟨q0, ⟨q1, qP, qK, qD⟩, ⟨⟨t1, a1, b1⟩, ⟨t2, a2, b2⟩, ⟨t3, a3, b3⟩⟩⟩ := q
  have hal : U.vm.Alike (U.calling g mk a).vm := Vm.Alike.refl U.vm
  exact ⟨q0, ⟨q1, qP, va_K.moved (u := U) (U := U.calling g mk a) hal qK, qD⟩, ⟨⟨t1, va_Z.moved hal a1, va_T.moved hal b1⟩, ⟨t2, va_Z.moved hal a2, va_T.moved hal b2⟩, ⟨t3, va_Z.moved hal a3, va_T.moved hal b3⟩⟩⟩
theorem zPreS_ok {D : va_G} {cI cZ : ClassId} {A A' : Nat → Prop} {ws : va_W} {s : State} {H : Heap} {locs : List Loc} (hP : va_P D vwCl ws H) (hK : va_K D vwCl (zTY cI cZ) s) (hD : va_D A' ws) (hZ : zSt A s s.heap) (hS : va_S A s.heap H locs) (hF : ∀ q, va_A ws H.size q → A q) : ∀ U : State, U.heap = H → s.WarmedH U.vm → zPreS D cI cZ ws H.size U := fun U hU hW => by
  refine ⟨zPre_ok hP hK hD U hU hW, ?_⟩
  have h := zSt_go hZ hS hU hW hF
  exact h
/-! ===== a method's standing facts, and the rows over whole numbers ===== -/
def zC (p : Program) (s : State) (m : MethodId) (args : Array Value) (c : Code) (D : va_G) (cI cZ : ClassId) (A : Nat → Prop) (cc : ByteArray) (nL : Nat) (own : String) : Prop :=
  p.tables.exec = Jvm.exec ∧ c.code = cc ∧ c.maxLocals = nL ∧ s.vm.findClass own = some m.cls ∧ (∀ w ∈ zTb, w.before args s = true) ∧ va_K D vwCl (zTY cI cZ) s ∧ (∀ q, s.heap.size ≤ q → A q)
section ZR
variable {p : Program} {l : Launch} {e : Env} {R : Room} {s : State} {m : MethodId} {args : Array Value} {below : List Frame} {meth : Method} {c : Code} {H : Heap} {locs : List Loc} {cells slots : Nat} {Q : State → Prop}
variable {cc : ByteArray} {pc nL : Nat} {ls : Array Slot} {rest : List Value} {D : va_G} {cI cZ : ClassId} {A : Nat → Prop} {own : String} {ws : va_W} {a : Nat} {x y : Int}
theorem z_iconst (C0 : zC p s m args c D cI cZ A cc nL own) {n : Int} (hdg : decode cc pc = .ok (.iconst n, 1)) (k : W p l e R s m args below meth c H locs cells slots Q (F0 m (pc + 1) ls (.int (zI n) :: rest))) : W p l e R s m args below meth c H locs cells slots Q (F0 m pc ls rest) := lv_iconst C0.1 C0.2.1 hdg rfl k
theorem z_bipush (C0 : zC p s m args c D cI cZ A cc nL own) {n : Int} (hdg : decode cc pc = .ok (.bipush n, 2)) (hv : (Int8.ofInt n).toInt32 = zI n) (k : W p l e R s m args below meth c H locs cells slots Q (F0 m (pc + 2) ls (.int (zI n) :: rest))) : W p l e R s m args below meth c H locs cells slots Q (F0 m pc ls rest) := lv_bipush C0.1 C0.2.1 hdg hv k
theorem z_sipush (C0 : zC p s m args c D cI cZ A cc nL own) {n : Int} (hdg : decode cc pc = .ok (.sipush n, 3)) (hv : (Int16.ofInt n).toInt32 = zI n) (k : W p l e R s m args below meth c H locs cells slots Q (F0 m (pc + 3) ls (.int (zI n) :: rest))) : W p l e R s m args below meth c H locs cells slots Q (F0 m pc ls rest) := lv_sipush C0.1 C0.2.1 hdg hv k
theorem z_iload_n (C0 : zC p s m args c D cI cZ A cc nL own) {k : Fin 4} {i : Nat} (hdg : decode cc pc = .ok (.iload_n k, 1)) (hi : (k : Nat) = i) (hl : ls[i]? = some (.val (.int (zI x)))) (kk : W p l e R s m args below meth c H locs cells slots Q (F0 m (pc + 1) ls (.int (zI x) :: rest))) : W p l e R s m args below meth c H locs cells slots Q (F0 m pc ls rest) := lv_iload_n C0.1 C0.2.1 hdg hi hl kk
theorem z_iload (C0 : zC p s m args c D cI cZ A cc nL own) {i : Nat} (hdg : decode cc pc = .ok (.iload i, 2)) (hl : ls[i]? = some (.val (.int (zI x)))) (kk : W p l e R s m args below meth c H locs cells slots Q (F0 m (pc + 2) ls (.int (zI x) :: rest))) : W p l e R s m args below meth c H locs cells slots Q (F0 m pc ls rest) := lv_iload C0.1 C0.2.1 hdg hl kk
theorem z_lload_n (C0 : zC p s m args c D cI cZ A cc nL own) {k : Fin 4} {i : Nat} (hdg : decode cc pc = .ok (.lload_n k, 1)) (hi : (k : Nat) = i) (hl : ls[i]? = some (.val (.long (zL x)))) (kk : W p l e R s m args below meth c H locs cells slots Q (F0 m (pc + 1) ls (.long (zL x) :: rest))) : W p l e R s m args below meth c H locs cells slots Q (F0 m pc ls rest) := lv_lload_n C0.1 C0.2.1 hdg hi hl kk
theorem z_lload (C0 : zC p s m args c D cI cZ A cc nL own) {i : Nat} (hdg : decode cc pc = .ok (.lload i, 2)) (hl : ls[i]? = some (.val (.long (zL x)))) (kk : W p l e R s m args below meth c H locs cells slots Q (F0 m (pc + 2) ls (.long (zL x) :: rest))) : W p l e R s m args below meth c H locs cells slots Q (F0 m pc ls rest) := lv_lload C0.1 C0.2.1 hdg hl kk
theorem z_aload_n (C0 : zC p s m args c D cI cZ A cc nL own) {k : Fin 4} {i : Nat} (hdg : decode cc pc = .ok (.aload_n k, 1)) (hi : (k : Nat) = i) (hl : ls[i]? = some (.val (.ref a))) (kk : W p l e R s m args below meth c H locs cells slots Q (F0 m (pc + 1) ls (.ref a :: rest))) : W p l e R s m args below meth c H locs cells slots Q (F0 m pc ls rest) := lv_aload_n C0.1 C0.2.1 hdg hi hl kk
theorem z_aload (C0 : zC p s m args c D cI cZ A cc nL own) {i : Nat} (hdg : decode cc pc = .ok (.aload i, 2)) (hl : ls[i]? = some (.val (.ref a))) (kk : W p l e R s m args below meth c H locs cells slots Q (F0 m (pc + 2) ls (.ref a :: rest))) : W p l e R s m args below meth c H locs cells slots Q (F0 m pc ls rest) := lv_aload C0.1 C0.2.1 hdg hl kk
theorem z_istore_n (C0 : zC p s m args c D cI cZ A cc nL own) {k : Fin 4} {i : Nat} {lv : List (Nat × Value)} (lv' : List (Nat × Value)) (hdg : decode cc pc = .ok (.istore_n k, 1)) (hi : (k : Nat) = i) (h : lv_has ls nL lv) (hn : i < nL) (hl : (i, Value.int (zI x)) :: lv.filter (fun q => !(q.1 == i) && !(q.1 + 1 == i && q.2.category == 2)) = lv') (kk : ∀ ls' : Array Slot, lv_has ls' nL lv' → W p l e R s m args below meth c H locs cells slots Q (F0 m (pc + 1) ls' rest)) : W p l e R s m args below meth c H locs cells slots Q (F0 m pc ls (.int (zI x) :: rest)) := lv_istore_n C0.1 C0.2.1 hdg hi h hn hl kk
theorem z_istore (C0 : zC p s m args c D cI cZ A cc nL own) {i : Nat} {lv : List (Nat × Value)} (lv' : List (Nat × Value)) (hdg : decode cc pc = .ok (.istore i, 2)) (h : lv_has ls nL lv) (hn : i < nL) (hl : (i, Value.int (zI x)) :: lv.filter (fun q => !(q.1 == i) && !(q.1 + 1 == i && q.2.category == 2)) = lv') (kk : ∀ ls' : Array Slot, lv_has ls' nL lv' → W p l e R s m args below meth c H locs cells slots Q (F0 m (pc + 2) ls' rest)) : W p l e R s m args below meth c H locs cells slots Q (F0 m pc ls (.int (zI x) :: rest)) := lv_istore C0.1 C0.2.1 hdg h hn hl kk
theorem z_lstore_n (C0 : zC p s m args c D cI cZ A cc nL own) {k : Fin 4} {i : Nat} {lv : List (Nat × Value)} (lv' : List (Nat × Value)) (hdg : decode cc pc = .ok (.lstore_n k, 1)) (hi : (k : Nat) = i) (h : lv_has ls nL lv) (hn : i + 1 < nL) (hl : (i, Value.long (zL x)) :: lv.filter (fun q => !(q.1 == i) && (!(q.1 == i + 1) && !(q.1 + 1 == i && q.2.category == 2))) = lv') (kk : ∀ ls' : Array Slot, lv_has ls' nL lv' → W p l e R s m args below meth c H locs cells slots Q (F0 m (pc + 1) ls' rest)) : W p l e R s m args below meth c H locs cells slots Q (F0 m pc ls (.long (zL x) :: rest)) := lv_lstore_n C0.1 C0.2.1 hdg hi h hn hl kk
theorem z_lstore (C0 : zC p s m args c D cI cZ A cc nL own) {i : Nat} {lv : List (Nat × Value)} (lv' : List (Nat × Value)) (hdg : decode cc pc = .ok (.lstore i, 2)) (h : lv_has ls nL lv) (hn : i + 1 < nL) (hl : (i, Value.long (zL x)) :: lv.filter (fun q => !(q.1 == i) && (!(q.1 == i + 1) && !(q.1 + 1 == i && q.2.category == 2))) = lv') (kk : ∀ ls' : Array Slot, lv_has ls' nL lv' → W p l e R s m args below meth c H locs cells slots Q (F0 m (pc + 2) ls' rest)) : W p l e R s m args below meth c H locs cells slots Q (F0 m pc ls (.long (zL x) :: rest)) := lv_lstore C0.1 C0.2.1 hdg h hn hl kk
theorem z_astore_n (C0 : zC p s m args c D cI cZ A cc nL own) {k : Fin 4} {i : Nat} {lv : List (Nat × Value)} (lv' : List (Nat × Value)) (hdg : decode cc pc = .ok (.astore_n k, 1)) (hi : (k : Nat) = i) (h : lv_has ls nL lv) (hn : i < nL) (hl : (i, Value.ref a) :: lv.filter (fun q => !(q.1 == i) && !(q.1 + 1 == i && q.2.category == 2)) = lv') (kk : ∀ ls' : Array Slot, lv_has ls' nL lv' → W p l e R s m args below meth c H locs cells slots Q (F0 m (pc + 1) ls' rest)) : W p l e R s m args below meth c H locs cells slots Q (F0 m pc ls (.ref a :: rest)) := lv_astore_n C0.1 C0.2.1 hdg hi h hn hl kk
theorem z_astore (C0 : zC p s m args c D cI cZ A cc nL own) {i : Nat} {lv : List (Nat × Value)} (lv' : List (Nat × Value)) (hdg : decode cc pc = .ok (.astore i, 2)) (h : lv_has ls nL lv) (hn : i < nL) (hl : (i, Value.ref a) :: lv.filter (fun q => !(q.1 == i) && !(q.1 + 1 == i && q.2.category == 2)) = lv') (kk : ∀ ls' : Array Slot, lv_has ls' nL lv' → W p l e R s m args below meth c H locs cells slots Q (F0 m (pc + 2) ls' rest)) : W p l e R s m args below meth c H locs cells slots Q (F0 m pc ls (.ref a :: rest)) := lv_astore C0.1 C0.2.1 hdg h hn hl kk
theorem z_iinc (C0 : zC p s m args c D cI cZ A cc nL own) {i : Nat} {n : Int} {lv : List (Nat × Value)} (lv' : List (Nat × Value)) (hdg : decode cc pc = .ok (.iinc i n, 3)) (h : lv_has ls nL lv) (k : Nat) (hk : lv[k]? = some (i, .int (zI x))) (hn : i < nL) (hl : (i, Value.int (zI (x + n))) :: lv.filter (fun q => !(q.1 == i) && !(q.1 + 1 == i && q.2.category == 2)) = lv') (kk : ∀ ls' : Array Slot, lv_has ls' nL lv' → W p l e R s m args below meth c H locs cells slots Q (F0 m (pc + 3) ls' rest)) : W p l e R s m args below meth c H locs cells slots Q (F0 m pc ls rest) := lv_iinc C0.1 C0.2.1 hdg h hk (zI_add x n) hn hl kk
theorem z_iadd (C0 : zC p s m args c D cI cZ A cc nL own) (hdg : decode cc pc = .ok (.iadd, 1)) (k : W p l e R s m args below meth c H locs cells slots Q (F0 m (pc + 1) ls (.int (zI (x + y)) :: rest))) : W p l e R s m args below meth c H locs cells slots Q (F0 m pc ls (.int (zI y) :: .int (zI x) :: rest)) := lv_iadd C0.1 C0.2.1 hdg (by rw [zI_add]; exact k)
theorem z_isub (C0 : zC p s m args c D cI cZ A cc nL own) (hdg : decode cc pc = .ok (.isub, 1)) (k : W p l e R s m args below meth c H locs cells slots Q (F0 m (pc + 1) ls (.int (zI (x - y)) :: rest))) : W p l e R s m args below meth c H locs cells slots Q (F0 m pc ls (.int (zI y) :: .int (zI x) :: rest)) := lv_isub C0.1 C0.2.1 hdg (by rw [zI_sub]; exact k)
theorem z_imul (C0 : zC p s m args c D cI cZ A cc nL own) (hdg : decode cc pc = .ok (.imul, 1)) (k : W p l e R s m args below meth c H locs cells slots Q (F0 m (pc + 1) ls (.int (zI (x * y)) :: rest))) : W p l e R s m args below meth c H locs cells slots Q (F0 m pc ls (.int (zI y) :: .int (zI x) :: rest)) := lv_imul C0.1 C0.2.1 hdg (by rw [zI_mul]; exact k)
theorem z_ineg (C0 : zC p s m args c D cI cZ A cc nL own) (hdg : decode cc pc = .ok (.ineg, 1)) (k : W p l e R s m args below meth c H locs cells slots Q (F0 m (pc + 1) ls (.int (zI (-x)) :: rest))) : W p l e R s m args below meth c H locs cells slots Q (F0 m pc ls (.int (zI x) :: rest)) := lv_ineg C0.1 C0.2.1 hdg (by rw [zI_neg]; exact k)
theorem z_iand (C0 : zC p s m args c D cI cZ A cc nL own) (hdg : decode cc pc = .ok (.iand, 1)) (k : W p l e R s m args below meth c H locs cells slots Q (F0 m (pc + 1) ls (.int (zI (zand x y)) :: rest))) : W p l e R s m args below meth c H locs cells slots Q (F0 m pc ls (.int (zI y) :: .int (zI x) :: rest)) := lv_iand C0.1 C0.2.1 hdg (by unfold zand at k; rw [zI_toInt] at k; exact k)
theorem z_ior (C0 : zC p s m args c D cI cZ A cc nL own) (hdg : decode cc pc = .ok (.ior, 1)) (k : W p l e R s m args below meth c H locs cells slots Q (F0 m (pc + 1) ls (.int (zI (zor x y)) :: rest))) : W p l e R s m args below meth c H locs cells slots Q (F0 m pc ls (.int (zI y) :: .int (zI x) :: rest)) := lv_ior C0.1 C0.2.1 hdg (by unfold zor at k; rw [zI_toInt] at k; exact k)
theorem z_ixor (C0 : zC p s m args c D cI cZ A cc nL own) (hdg : decode cc pc = .ok (.ixor, 1)) (k : W p l e R s m args below meth c H locs cells slots Q (F0 m (pc + 1) ls (.int (zI (zxor x y)) :: rest))) : W p l e R s m args below meth c H locs cells slots Q (F0 m pc ls (.int (zI y) :: .int (zI x) :: rest)) := lv_ixor C0.1 C0.2.1 hdg (by unfold zxor at k; rw [zI_toInt] at k; exact k)
theorem z_ishl (C0 : zC p s m args c D cI cZ A cc nL own) (hdg : decode cc pc = .ok (.ishl, 1)) (k : W p l e R s m args below meth c H locs cells slots Q (F0 m (pc + 1) ls (.int (zI (zshl x y)) :: rest))) : W p l e R s m args below meth c H locs cells slots Q (F0 m pc ls (.int (zI y) :: .int (zI x) :: rest)) := lv_ishl C0.1 C0.2.1 hdg (by unfold zshl at k; rw [zI_toInt] at k; exact k)
theorem z_ishr (C0 : zC p s m args c D cI cZ A cc nL own) (hdg : decode cc pc = .ok (.ishr, 1)) (k : W p l e R s m args below meth c H locs cells slots Q (F0 m (pc + 1) ls (.int (zI (zshr x y)) :: rest))) : W p l e R s m args below meth c H locs cells slots Q (F0 m pc ls (.int (zI y) :: .int (zI x) :: rest)) := lv_ishr C0.1 C0.2.1 hdg (by unfold zshr at k; rw [zI_toInt] at k; exact k)
theorem z_iushr (C0 : zC p s m args c D cI cZ A cc nL own) (hdg : decode cc pc = .ok (.iushr, 1)) (k : W p l e R s m args below meth c H locs cells slots Q (F0 m (pc + 1) ls (.int (zI (zushr x y)) :: rest))) : W p l e R s m args below meth c H locs cells slots Q (F0 m pc ls (.int (zI y) :: .int (zI x) :: rest)) := lv_iushr C0.1 C0.2.1 hdg (by unfold zushr; rw [zI_toInt]) k
theorem z_i2l (C0 : zC p s m args c D cI cZ A cc nL own) (hdg : decode cc pc = .ok (.i2l, 1)) (k : W p l e R s m args below meth c H locs cells slots Q (F0 m (pc + 1) ls (.long (zL (zi2l x)) :: rest))) : W p l e R s m args below meth c H locs cells slots Q (F0 m pc ls (.int (zI x) :: rest)) := lv_i2l C0.1 C0.2.1 hdg (by apply Int64.toInt_inj.mp; rw [Int32.toInt_toInt64]; unfold zi2l; unfold zL; rw [Int64.toInt_ofInt]; have h1 := Int32.le_toInt (zI x); have h2 := Int32.toInt_lt (zI x); symm; first | exact Int.bmod_eq_of_le (by have e : Int64.size = 18446744073709551616 := rfl; omega) (by have e : Int64.size = 18446744073709551616 := rfl; omega) | (rw [Int.bmod_def]; have e : Int64.size = 18446744073709551616 := rfl; omega)) k
theorem z_ladd (C0 : zC p s m args c D cI cZ A cc nL own) (hdg : decode cc pc = .ok (.ladd, 1)) (k : W p l e R s m args below meth c H locs cells slots Q (F0 m (pc + 1) ls (.long (zL (x + y)) :: rest))) : W p l e R s m args below meth c H locs cells slots Q (F0 m pc ls (.long (zL y) :: .long (zL x) :: rest)) := lv_ladd C0.1 C0.2.1 hdg (by rw [zL_add]; exact k)
theorem z_lmul (C0 : zC p s m args c D cI cZ A cc nL own) (hdg : decode cc pc = .ok (.lmul, 1)) (k : W p l e R s m args below meth c H locs cells slots Q (F0 m (pc + 1) ls (.long (zL (x * y)) :: rest))) : W p l e R s m args below meth c H locs cells slots Q (F0 m pc ls (.long (zL y) :: .long (zL x) :: rest)) := lv_lmul C0.1 C0.2.1 hdg (by rw [zL_mul]; exact k)
theorem z_ldiv (C0 : zC p s m args c D cI cZ A cc nL own) (hy : ¬ zLE y 0) (hdg : decode cc pc = .ok (.ldiv, 1)) (k : W p l e R s m args below meth c H locs cells slots Q (F0 m (pc + 1) ls (.long (zL (zldiv x y)) :: rest))) : W p l e R s m args below meth c H locs cells slots Q (F0 m pc ls (.long (zL y) :: .long (zL x) :: rest)) := lv_ldiv C0.1 C0.2.1 hdg hy (by unfold zldiv at k; rw [zL_toInt] at k; exact k)
theorem z_lrem (C0 : zC p s m args c D cI cZ A cc nL own) (hy : ¬ zLE y 0) (hdg : decode cc pc = .ok (.lrem, 1)) (k : W p l e R s m args below meth c H locs cells slots Q (F0 m (pc + 1) ls (.long (zL (zlrem x y)) :: rest))) : W p l e R s m args below meth c H locs cells slots Q (F0 m pc ls (.long (zL y) :: .long (zL x) :: rest)) := lv_lrem C0.1 C0.2.1 hdg hy (by unfold zlrem at k; rw [zL_toInt] at k; exact k)
theorem z_lcmp (C0 : zC p s m args c D cI cZ A cc nL own) (hdg : decode cc pc = .ok (.lcmp, 1)) (k : W p l e R s m args below meth c H locs cells slots Q (F0 m (pc + 1) ls (.int (zI (zlcmp x y)) :: rest))) : W p l e R s m args below meth c H locs cells slots Q (F0 m pc ls (.long (zL y) :: .long (zL x) :: rest)) := W.lcmp C0.1 C0.2.1 hdg (by unfold zlcmp at k; rw [zI_toInt] at k; exact k)
theorem z_lconst (C0 : zC p s m args c D cI cZ A cc nL own) {n : Fin 2} (v : Int) (hdg : decode cc pc = .ok (.lconst n, 1)) (hv : Int64.ofNat (n : Nat) = zL v) (k : W p l e R s m args below meth c H locs cells slots Q (F0 m (pc + 1) ls (.long (zL v) :: rest))) : W p l e R s m args below meth c H locs cells slots Q (F0 m pc ls rest) := lv_lconst C0.1 C0.2.1 hdg hv k
theorem z_dup (C0 : zC p s m args c D cI cZ A cc nL own) {va : Value} (hdg : decode cc pc = .ok (.dup, 1)) (hva : va.category = 1) (k : W p l e R s m args below meth c H locs cells slots Q (F0 m (pc + 1) ls (va :: va :: rest))) : W p l e R s m args below meth c H locs cells slots Q (F0 m pc ls (va :: rest)) := lv_dup C0.1 C0.2.1 hdg hva k
theorem z_goto (C0 : zC p s m args c D cI cZ A cc nL own) {off : Int} (tgt : Nat) (hdg : decode cc pc = .ok (.goto off, 3)) (ht : (pc : Int) + off = (tgt : Int)) (k : W p l e R s m args below meth c H locs cells slots Q (F0 m tgt ls rest)) : W p l e R s m args below meth c H locs cells slots Q (F0 m pc ls rest) := lv_goto C0.1 C0.2.1 hdg ht k
theorem zI_zero : zI 0 = 0 := rfl
theorem z_ifeq (C0 : zC p s m args c D cI cZ A cc nL own) {off : Int} (tgt : Nat) (hdg : decode cc pc = .ok (.ifCond .eq off, 3)) (ht : (pc : Int) + off = (tgt : Int)) (kt : zE x 0 → W p l e R s m args below meth c H locs cells slots Q (F0 m tgt ls rest)) (kf : ¬ zE x 0 → W p l e R s m args below meth c H locs cells slots Q (F0 m (pc + 3) ls rest)) : W p l e R s m args below meth c H locs cells slots Q (F0 m pc ls (.int (zI x) :: rest)) := lv_if_eq C0.1 C0.2.1 hdg ht kt kf
theorem z_ifne (C0 : zC p s m args c D cI cZ A cc nL own) {off : Int} (tgt : Nat) (hdg : decode cc pc = .ok (.ifCond .ne off, 3)) (ht : (pc : Int) + off = (tgt : Int)) (kt : ¬ zE x 0 → W p l e R s m args below meth c H locs cells slots Q (F0 m tgt ls rest)) (kf : zE x 0 → W p l e R s m args below meth c H locs cells slots Q (F0 m (pc + 3) ls rest)) : W p l e R s m args below meth c H locs cells slots Q (F0 m pc ls (.int (zI x) :: rest)) := lv_if_ne C0.1 C0.2.1 hdg ht kt kf
theorem z_iflt (C0 : zC p s m args c D cI cZ A cc nL own) {off : Int} (tgt : Nat) (hdg : decode cc pc = .ok (.ifCond .lt off, 3)) (ht : (pc : Int) + off = (tgt : Int)) (kt : zLt x 0 → W p l e R s m args below meth c H locs cells slots Q (F0 m tgt ls rest)) (kf : ¬ zLt x 0 → W p l e R s m args below meth c H locs cells slots Q (F0 m (pc + 3) ls rest)) : W p l e R s m args below meth c H locs cells slots Q (F0 m pc ls (.int (zI x) :: rest)) := lv_if_lt C0.1 C0.2.1 hdg ht kt kf
theorem z_ifge (C0 : zC p s m args c D cI cZ A cc nL own) {off : Int} (tgt : Nat) (hdg : decode cc pc = .ok (.ifCond .ge off, 3)) (ht : (pc : Int) + off = (tgt : Int)) (kt : zLe 0 x → W p l e R s m args below meth c H locs cells slots Q (F0 m tgt ls rest)) (kf : ¬ zLe 0 x → W p l e R s m args below meth c H locs cells slots Q (F0 m (pc + 3) ls rest)) : W p l e R s m args below meth c H locs cells slots Q (F0 m pc ls (.int (zI x) :: rest)) := lv_if_ge C0.1 C0.2.1 hdg ht kt kf
theorem z_ifgt (C0 : zC p s m args c D cI cZ A cc nL own) {off : Int} (tgt : Nat) (hdg : decode cc pc = .ok (.ifCond .gt off, 3)) (ht : (pc : Int) + off = (tgt : Int)) (kt : zLt 0 x → W p l e R s m args below meth c H locs cells slots Q (F0 m tgt ls rest)) (kf : ¬ zLt 0 x → W p l e R s m args below meth c H locs cells slots Q (F0 m (pc + 3) ls rest)) : W p l e R s m args below meth c H locs cells slots Q (F0 m pc ls (.int (zI x) :: rest)) := lv_if_gt C0.1 C0.2.1 hdg ht kt kf
theorem z_ifle (C0 : zC p s m args c D cI cZ A cc nL own) {off : Int} (tgt : Nat) (hdg : decode cc pc = .ok (.ifCond .le off, 3)) (ht : (pc : Int) + off = (tgt : Int)) (kt : zLe x 0 → W p l e R s m args below meth c H locs cells slots Q (F0 m tgt ls rest)) (kf : ¬ zLe x 0 → W p l e R s m args below meth c H locs cells slots Q (F0 m (pc + 3) ls rest)) : W p l e R s m args below meth c H locs cells slots Q (F0 m pc ls (.int (zI x) :: rest)) := lv_if_le C0.1 C0.2.1 hdg ht kt kf
theorem z_icmpeq (C0 : zC p s m args c D cI cZ A cc nL own) {off : Int} (tgt : Nat) (hdg : decode cc pc = .ok (.if_icmp .eq off, 3)) (ht : (pc : Int) + off = (tgt : Int)) (kt : zE x y → W p l e R s m args below meth c H locs cells slots Q (F0 m tgt ls rest)) (kf : ¬ zE x y → W p l e R s m args below meth c H locs cells slots Q (F0 m (pc + 3) ls rest)) : W p l e R s m args below meth c H locs cells slots Q (F0 m pc ls (.int (zI y) :: .int (zI x) :: rest)) := lv_icmp_eq C0.1 C0.2.1 hdg ht kt kf
theorem z_icmpne (C0 : zC p s m args c D cI cZ A cc nL own) {off : Int} (tgt : Nat) (hdg : decode cc pc = .ok (.if_icmp .ne off, 3)) (ht : (pc : Int) + off = (tgt : Int)) (kt : ¬ zE x y → W p l e R s m args below meth c H locs cells slots Q (F0 m tgt ls rest)) (kf : zE x y → W p l e R s m args below meth c H locs cells slots Q (F0 m (pc + 3) ls rest)) : W p l e R s m args below meth c H locs cells slots Q (F0 m pc ls (.int (zI y) :: .int (zI x) :: rest)) := lv_icmp_ne C0.1 C0.2.1 hdg ht kt kf
theorem z_icmplt (C0 : zC p s m args c D cI cZ A cc nL own) {off : Int} (tgt : Nat) (hdg : decode cc pc = .ok (.if_icmp .lt off, 3)) (ht : (pc : Int) + off = (tgt : Int)) (kt : zLt x y → W p l e R s m args below meth c H locs cells slots Q (F0 m tgt ls rest)) (kf : ¬ zLt x y → W p l e R s m args below meth c H locs cells slots Q (F0 m (pc + 3) ls rest)) : W p l e R s m args below meth c H locs cells slots Q (F0 m pc ls (.int (zI y) :: .int (zI x) :: rest)) := lv_icmp_lt C0.1 C0.2.1 hdg ht kt kf
theorem z_icmpge (C0 : zC p s m args c D cI cZ A cc nL own) {off : Int} (tgt : Nat) (hdg : decode cc pc = .ok (.if_icmp .ge off, 3)) (ht : (pc : Int) + off = (tgt : Int)) (kt : zLe y x → W p l e R s m args below meth c H locs cells slots Q (F0 m tgt ls rest)) (kf : ¬ zLe y x → W p l e R s m args below meth c H locs cells slots Q (F0 m (pc + 3) ls rest)) : W p l e R s m args below meth c H locs cells slots Q (F0 m pc ls (.int (zI y) :: .int (zI x) :: rest)) := lv_icmp_ge C0.1 C0.2.1 hdg ht kt kf
theorem z_icmpgt (C0 : zC p s m args c D cI cZ A cc nL own) {off : Int} (tgt : Nat) (hdg : decode cc pc = .ok (.if_icmp .gt off, 3)) (ht : (pc : Int) + off = (tgt : Int)) (kt : zLt y x → W p l e R s m args below meth c H locs cells slots Q (F0 m tgt ls rest)) (kf : ¬ zLt y x → W p l e R s m args below meth c H locs cells slots Q (F0 m (pc + 3) ls rest)) : W p l e R s m args below meth c H locs cells slots Q (F0 m pc ls (.int (zI y) :: .int (zI x) :: rest)) := lv_icmp_gt C0.1 C0.2.1 hdg ht kt kf
theorem z_icmple (C0 : zC p s m args c D cI cZ A cc nL own) {off : Int} (tgt : Nat) (hdg : decode cc pc = .ok (.if_icmp .le off, 3)) (ht : (pc : Int) + off = (tgt : Int)) (kt : zLe x y → W p l e R s m args below meth c H locs cells slots Q (F0 m tgt ls rest)) (kf : ¬ zLe x y → W p l e R s m args below meth c H locs cells slots Q (F0 m (pc + 3) ls rest)) : W p l e R s m args below meth c H locs cells slots Q (F0 m pc ls (.int (zI y) :: .int (zI x) :: rest)) := lv_icmp_le C0.1 C0.2.1 hdg ht kt kf
theorem z_iald (C0 : zC p s m args c D cI cZ A cc nL own) (hP : va_P D vwCl ws H) (q0 : Nat) {n : Nat} {f : Nat → Int} (ha : ws[q0]? = some (a, .inl (cI, n, .inl (za f)))) (hn : n < 2147483648) (hin : zIn x n) (hdg : decode cc pc = .ok (.iaload, 1)) (kk : W p l e R s m args below meth c H locs cells slots Q (F0 m (pc + 1) ls (.int (zI (f x.toNat)) :: rest))) : W p l e R s m args below meth c H locs cells slots Q (F0 m pc ls (.int (zI x) :: .ref a :: rest)) :=
  va_iald C0.1 C0.2.1 C0.2.2.2.2.2.1 hP q0 0 ha rfl (zI_in hn hin) hdg (by rw [zI_clamp hn hin]; exact kk)
theorem z_zald (C0 : zC p s m args c D cI cZ A cc nL own) (hP : va_P D vwCl ws H) (q0 : Nat) {n : Nat} {f : Nat → Int} (ha : ws[q0]? = some (a, .inl (cZ, n, .inl (za f)))) (hn : n < 2147483648) (hin : zIn x n) (hdg : decode cc pc = .ok (.baload, 1)) (kk : W p l e R s m args below meth c H locs cells slots Q (F0 m (pc + 1) ls (.int (zI (f x.toNat)) :: rest))) : W p l e R s m args below meth c H locs cells slots Q (F0 m pc ls (.int (zI x) :: .ref a :: rest)) :=
  va_zald C0.1 C0.2.1 C0.2.2.2.2.2.1 hP q0 1 ha rfl (zI_in hn hin) hdg (by rw [zI_clamp hn hin]; exact kk)
theorem z_iast (C0 : zC p s m args c D cI cZ A cc nL own) (hP : va_P D vwCl ws H) (hD : va_D A ws) (hS : va_S A s.heap H locs) (q0 : Nat) {n : Nat} {f : Nat → Int} (ha : ws[q0]? = some (a, .inl (cI, n, .inl (za f)))) (hn : n < 2147483648) (hin : zIn x n) (hdg : decode cc pc = .ok (.iastore, 1)) (kk : ∀ (H1 : Heap) (locs1 : List Loc), va_P D vwCl (ws.set q0 (a, .inl (cI, n, .inl (za (zu f x y))))) H1 → va_S A s.heap H1 locs1 → W p l e R s m args below meth c H1 locs1 cells slots Q (F0 m (pc + 1) ls rest)) : W p l e R s m args below meth c H locs cells slots Q (F0 m pc ls (.int (zI y) :: .int (zI x) :: .ref a :: rest)) :=
  va_iast C0.1 C0.2.1 C0.2.2.2.2.2.1 hP hD hS q0 0 ha rfl (zI_in hn hin) hdg (fun H1 l1 h1 _ h3 => kk H1 l1 (by rw [← za_upd f x y hn hin]; exact h1) h3)
theorem znar {x : Int} (h : x = 0 ∨ x = 1) : narrow .boolean (.int (zI x)) = .int (zI x) := by rcases h with rfl | rfl <;> decide +kernel
theorem zfit {x : Int} (h : x = 0 ∨ x = 1) : fits .boolean (.int (zI x)) = true := by rcases h with rfl | rfl <;> decide +kernel
theorem z_zast (C0 : zC p s m args c D cI cZ A cc nL own) (hP : va_P D vwCl ws H) (hD : va_D A ws) (hS : va_S A s.heap H locs) (q0 : Nat) {n : Nat} {f : Nat → Int} (ha : ws[q0]? = some (a, .inl (cZ, n, .inl (za f)))) (hn : n < 2147483648) (hin : zIn x n) (hz : y = 0 ∨ y = 1) (hdg : decode cc pc = .ok (.bastore, 1)) (kk : ∀ (H1 : Heap) (locs1 : List Loc), va_P D vwCl (ws.set q0 (a, .inl (cZ, n, .inl (za (zu f x y))))) H1 → va_S A s.heap H1 locs1 → W p l e R s m args below meth c H1 locs1 cells slots Q (F0 m (pc + 1) ls rest)) : W p l e R s m args below meth c H locs cells slots Q (F0 m pc ls (.int (zI y) :: .int (zI x) :: .ref a :: rest)) :=
  va_zast C0.1 C0.2.1 C0.2.2.2.2.2.1 hP hD hS q0 1 ha rfl (zI_in hn hin) hdg (fun H1 l1 h1 _ h3 => kk H1 l1 (by
    have e : vp_nar .boolean (zI y) = zI y := by unfold vp_nar; rw [znar hz]
    rw [e, za_upd f x y hn hin] at h1
    exact h1) h3)
theorem z_alen (C0 : zC p s m args c D cI cZ A cc nL own) (hP : va_P D vwCl ws H) (q0 : Nat) {n : Nat} {f : (Nat → Int32) ⊕ (Nat → Int64) ⊕ (Nat → UInt32) ⊕ (Nat → UInt64) ⊕ (Nat → Option Nat)} (ha : ws[q0]? = some (a, .inl (cI, n, f))) (hdg : decode cc pc = .ok (.arraylength, 1)) (kk : W p l e R s m args below meth c H locs cells slots Q (F0 m (pc + 1) ls (.int (zI (n : Int)) :: rest))) : W p l e R s m args below meth c H locs cells slots Q (F0 m pc ls (.ref a :: rest)) :=
  va_alen C0.1 C0.2.1 C0.2.2.2.2.2.1 hP q0 0 ha rfl (zI_nat n).symm hdg kk
theorem z_tlen (C0 : zC p s m args c D cI cZ A cc nL own) {n : Nat} {f : Nat → Value} (hT : va_T .int a n f A s s.heap) (hS : va_S A s.heap H locs) (hdg : decode cc pc = .ok (.arraylength, 1)) (kk : W p l e R s m args below meth c H locs cells slots Q (F0 m (pc + 1) ls (.int (zI (n : Int)) :: rest))) : W p l e R s m args below meth c H locs cells slots Q (F0 m pc ls (.ref a :: rest)) :=
  va_tlen C0.1 C0.2.1 hT hS (zI_nat n).symm hdg kk
theorem z_tald (C0 : zC p s m args c D cI cZ A cc nL own) {n : Nat} {f : Nat → Int} (hT : va_T .int a n (fun j => .int (zI (f j))) A s s.heap) (hS : va_S A s.heap H locs) (hn : n < 2147483648) (hin : zIn x n) (hdg : decode cc pc = .ok (.iaload, 1)) (kk : W p l e R s m args below meth c H locs cells slots Q (F0 m (pc + 1) ls (.int (zI (f x.toNat)) :: rest))) : W p l e R s m args below meth c H locs cells slots Q (F0 m pc ls (.int (zI x) :: .ref a :: rest)) :=
  va_ti C0.1 C0.2.1 hT hS (zI_in hn hin) (v := .int (zI (f x.toNat))) (by rw [zI_clamp hn hin]) hdg kk
def zmax (x y : Int) : Int := if zLt x y then y else x
def zabs (x : Int) : Int := if zLe 0 x then x else 0 - x
theorem z_max (C0 : zC p s m args c D cI cZ A cc nL own) {index : Nat} (hls : ls.size = nL) (h1 : Cond.methodLink own index Lib.Math.max.name ∈ zTb) (h2 : Cond.static Lib.Math.max.name ∈ zTb) (h3 : Cond.initialized "java/lang/Math" ∈ zTb) (h4 : Cond.code Lib.Math.max.name Lib.Math.max.code 2 (some .int) ∈ zTb) (hframes : 1 ≤ R.frames) (hlocals : (rest.map fun v => v.category).sum + 13 ≤ R.locals) (hc : cells ≤ R.cells) (hs : slots ≤ R.slots) (hdg : decode cc pc = .ok (.invokestatic index, 3)) (kk : W p l e R s m args below meth c H locs cells slots Q (F0 m (pc + 3) ls (.int (zI (zmax x y)) :: rest))) : W p l e R s m args below meth c H locs cells slots Q (F0 m pc ls (.int (zI y) :: .int (zI x) :: rest)) := by
  refine va_mmax C0.1 C0.2.1 (C0.2.2.1.trans hls.symm) C0.2.2.2.1 (C0.2.2.2.2.1 _ h1) (C0.2.2.2.2.1 _ h2) (C0.2.2.2.2.1 _ h3) (C0.2.2.2.2.1 _ h4) hframes hlocals hc hs hdg ?_
  have e : (if zI x < zI y then zI y else zI x) = zI (zmax x y) := by
    unfold zmax
    split <;> rfl
  rw [e]
  exact kk
theorem z_abs (C0 : zC p s m args c D cI cZ A cc nL own) {index : Nat} (hls : ls.size = nL) (h1 : Cond.methodLink own index Lib.Math.abs.name ∈ zTb) (h2 : Cond.static Lib.Math.abs.name ∈ zTb) (h3 : Cond.initialized "java/lang/Math" ∈ zTb) (h4 : Cond.code Lib.Math.abs.name Lib.Math.abs.code 1 (some .int) ∈ zTb) (hframes : 1 ≤ R.frames) (hlocals : (rest.map fun v => v.category).sum + 13 ≤ R.locals) (hc : cells ≤ R.cells) (hs : slots ≤ R.slots) (hdg : decode cc pc = .ok (.invokestatic index, 3)) (kk : W p l e R s m args below meth c H locs cells slots Q (F0 m (pc + 3) ls (.int (zI (zabs x)) :: rest))) : W p l e R s m args below meth c H locs cells slots Q (F0 m pc ls (.int (zI x) :: rest)) := by
  refine va_mabs C0.1 C0.2.1 (C0.2.2.1.trans hls.symm) C0.2.2.2.1 (C0.2.2.2.2.1 _ h1) (C0.2.2.2.2.1 _ h2) (C0.2.2.2.2.1 _ h3) (C0.2.2.2.2.1 _ h4) hframes hlocals hc hs hdg ?_
  have e : (if 0 ≤ zI x then zI x else 0 - zI x) = zI (zabs x) := by
    unfold zabs
    by_cases h : zLe 0 x
    · rw [if_pos h, if_pos (show (0 : Int32) ≤ zI x from h)]
    · rw [if_neg h, if_neg (show ¬ (0 : Int32) ≤ zI x from h)]
      exact zI_sub 0 x
  rw [e]
  exact kk
/-! ends -/
theorem z_iret {r : Int} {w1 : va_W} (C0 : zC p s m args c D cI cZ A cc nL own) (hr : meth.sig.returnType = some .int) (hlk : meth.locks = false) (hP : va_P D vwCl w1 H) (hS : va_S A s.heap H locs) (hdg : decode cc pc = .ok (.ireturn, 1)) : W p l e R s m args below meth c H locs cells slots (MQ below (va_Qi (fun r' (_ : Unit) => r' = zI r) (fun _ t => va_P D vwCl w1 t.heap) A) args s cells slots A) (F0 m pc ls [.int (zI r)]) :=
  W.iret C0.1 C0.2.1 hr (fun t ht _ => ⟨⟨_, (), rfl, rfl, by show va_P D vwCl w1 t.heap; rw [ht]; exact hP⟩, hS.F ht⟩) hS.2.2 hdg hlk
theorem z_zret {r : Int} {w1 : va_W} (C0 : zC p s m args c D cI cZ A cc nL own) (hr : meth.sig.returnType = some .boolean) (hlk : meth.locks = false) (hz : r = 0 ∨ r = 1) (hP : va_P D vwCl w1 H) (hS : va_S A s.heap H locs) (hdg : decode cc pc = .ok (.ireturn, 1)) : W p l e R s m args below meth c H locs cells slots (MQ below (va_Qi (fun r' (_ : Unit) => r' = zI r) (fun _ t => va_P D vwCl w1 t.heap) A) args s cells slots A) (F0 m pc ls [.int (zI r)]) :=
  W.zret C0.1 C0.2.1 hr (znar hz) (fun t ht _ => ⟨⟨_, (), rfl, rfl, by show va_P D vwCl w1 t.heap; rw [ht]; exact hP⟩, hS.F ht⟩) hS.2.2 hdg hlk
theorem z_lret {r : Int} {w1 : va_W} (C0 : zC p s m args c D cI cZ A cc nL own) (hr : meth.sig.returnType = some .long) (hlk : meth.locks = false) (hP : va_P D vwCl w1 H) (hS : va_S A s.heap H locs) (hdg : decode cc pc = .ok (.lreturn, 1)) : W p l e R s m args below meth c H locs cells slots (MQ below (va_Ql (fun r' (_ : Unit) => r' = zL r) (fun _ t => va_P D vwCl w1 t.heap) A) args s cells slots A) (F0 m pc ls [.long (zL r)]) :=
  W.lret C0.1 C0.2.1 hr (fun t ht _ => ⟨⟨_, (), rfl, rfl, by show va_P D vwCl w1 t.heap; rw [ht]; exact hP⟩, hS.F ht⟩) hS.2.2 hdg hlk
theorem z_vret {w1 : va_W} (C0 : zC p s m args c D cI cZ A cc nL own) (hr : meth.sig.returnType = none) (hlk : meth.locks = false) (hP : va_P D vwCl w1 H) (hS : va_S A s.heap H locs) (hdg : decode cc pc = .ok (.return_, 1)) : W p l e R s m args below meth c H locs cells slots (MQ below (va_Qv (fun (_ : Unit) => True) (fun _ t => va_P D vwCl w1 t.heap) A) args s cells slots A) (F0 m pc ls []) :=
  W.vret C0.1 C0.2.1 hr (fun t ht _ => ⟨⟨(), rfl, trivial, by show va_P D vwCl w1 t.heap; rw [ht]; exact hP⟩, hS.F ht⟩) hS.2.2 hdg hlk
theorem zif_pos {α : Type} {c : Prop} {hd : Decidable c} {a b o : Option α} (h : ite c a b = o) (hc : c) : a = o := by rw [← h, if_pos hc]
theorem zif_neg {α : Type} {c : Prop} {hd : Decidable c} {a b o : Option α} (h : ite c a b = o) (hc : ¬ c) : b = o := by rw [← h, if_neg hc]
theorem z_name {v : Int} (h : x = v) (k : W p l e R s m args below meth c H locs cells slots Q (F0 m pc ls (.int (zI v) :: rest))) : W p l e R s m args below meth c H locs cells slots Q (F0 m pc ls (.int (zI x) :: rest)) := by subst h; exact k
theorem z_nameL {v : Int} (h : x = v) (k : W p l e R s m args below meth c H locs cells slots Q (F0 m pc ls (.long (zL v) :: rest))) : W p l e R s m args below meth c H locs cells slots Q (F0 m pc ls (.long (zL x) :: rest)) := by subst h; exact k
theorem z_ldcw (C0 : zC p s m args c D cI cZ A cc nL own) {index : Nat} (hw : Cond.constant own index (zI x) ∈ zTb) (hdg : decode cc pc = .ok (.ldc_w index, 3)) (k : W p l e R s m args below meth c H locs cells slots Q (F0 m (pc + 3) ls (.int (zI x) :: rest))) : W p l e R s m args below meth c H locs cells slots Q (F0 m pc ls rest) := lv_ldcw C0.1 C0.2.1 C0.2.2.2.1 (C0.2.2.2.2.1 _ hw) hdg k
theorem z_ldc (C0 : zC p s m args c D cI cZ A cc nL own) {index : Nat} (hw : Cond.constant own index (zI x) ∈ zTb) (hdg : decode cc pc = .ok (.ldc index, 2)) (k : W p l e R s m args below meth c H locs cells slots Q (F0 m (pc + 2) ls (.int (zI x) :: rest))) : W p l e R s m args below meth c H locs cells slots Q (F0 m pc ls rest) := lv_ldc C0.1 C0.2.1 C0.2.2.2.1 (C0.2.2.2.2.1 _ hw) hdg k
theorem z_ldc2 (C0 : zC p s m args c D cI cZ A cc nL own) {index : Nat} (hw : Cond.constantLong own index (zL x) ∈ zTb) (hdg : decode cc pc = .ok (.ldc2_w index, 3)) (k : W p l e R s m args below meth c H locs cells slots Q (F0 m (pc + 3) ls (.long (zL x) :: rest))) : W p l e R s m args below meth c H locs cells slots Q (F0 m pc ls rest) := lv_ldc2 C0.1 C0.2.1 C0.2.2.2.1 (C0.2.2.2.2.1 _ hw) hdg k
theorem z_gets (C0 : zC p s m args c D cI cZ A cc nL own) {C n : String} {index t : Nat} (hZ : va_Z C n "[I" (.ref t) A s s.heap) (hS : va_S A s.heap H locs) (hw : Cond.fieldLink own index C n "[I" ∈ zTb) (hdg : decode cc pc = .ok (.getstatic index, 3)) (kk : W p l e R s m args below meth c H locs cells slots Q (F0 m (pc + 3) ls (.ref t :: rest))) : W p l e R s m args below meth c H locs cells slots Q (F0 m pc ls rest) := va_gets C0.1 C0.2.1 hZ hS C0.2.2.2.1 (C0.2.2.2.2.1 _ hw) (fun _ h => h) hdg kk
theorem z_tabIn (C0 : zC p s m args c D cI cZ A cc nL own) {k : Int} (hk : zE x k) {dflt lo hi : Int} {offs : Array Int} {len : Nat} {off : Int} (tgt : Nat) (hdg : decode cc pc = .ok (.tableswitch dflt lo hi offs, len)) (h1 : ¬ (zI k).toInt < lo) (h2 : ¬ hi < (zI k).toInt) (ho : offs[((zI k).toInt - lo).toNat]? = some off) (ht : (pc : Int) + off = (tgt : Int)) (kk : W p l e R s m args below meth c H locs cells slots Q (F0 m tgt ls rest)) : W p l e R s m args below meth c H locs cells slots Q (F0 m pc ls (.int (zI x) :: rest)) := by
  rw [show zI x = zI k from hk]
  exact lv_tableIn C0.1 C0.2.1 hdg h1 h2 ho ht kk
theorem z_tabOut (C0 : zC p s m args c D cI cZ A cc nL own) {dflt lo hi : Int} {offs : Array Int} {len : Nat} (tgt : Nat) (hdg : decode cc pc = .ok (.tableswitch dflt lo hi offs, len)) (h : (zI x).toInt < lo ∨ hi < (zI x).toInt) (ht : (pc : Int) + dflt = (tgt : Int)) (kk : W p l e R s m args below meth c H locs cells slots Q (F0 m tgt ls rest)) : W p l e R s m args below meth c H locs cells slots Q (F0 m pc ls (.int (zI x) :: rest)) := lv_tableOut C0.1 C0.2.1 hdg h ht kk
theorem zsw (n : Nat) (h : ∀ k : Nat, k ≤ n → ¬ zE x (k : Int)) : (zI x).toInt < 0 ∨ (n : Int) < (zI x).toInt := by
  apply Classical.byContradiction
  intro hc
  have h1 : 0 ≤ (zI x).toInt := by omega
  obtain ⟨k, hk⟩ := Int.eq_ofNat_of_zero_le h1
  refine h k (by omega) ?_
  show zI x = zI (k : Int)
  rw [← hk, zI_toInt]
/-! entries -/
theorem z_enter_i {y : MethodName} {cc : ByteArray} {maxL : Nat} {rm : Room} {av : List Value} {D : va_G} {cI cZ : ClassId} {ws w1 : va_W} {sz : Nat} {own : String} {r : Int} (hy : plainName y.cls = true) (hown : y.cls = own) (hmax : (lg_sl av).length ≤ maxL)
    (body : ∀ (p : Program) (e : Env) (s : State) (m : MethodId) (args : Array Value) (below : List Frame) (meth : Method) (c : Code) (A : Nat → Prop) (Q : State → Prop), zC p s m args c D cI cZ A cc maxL own → va_P D vwCl ws s.heap → va_D A ws → va_S A s.heap s.heap [] → (∀ {pc : Nat} {H : Heap} {locs : List Loc} {ls : Array Slot}, va_P D vwCl w1 H → va_S A s.heap H locs → decode cc pc = .ok (.ireturn, 1) → W p l e rm s m args below meth c H locs 0 0 Q (F0 m pc ls [.int (zI r)])) → ∀ ls : Array Slot, lv_has ls maxL (lv_args 0 av) → W p l e rm s m args below meth c s.heap [] 0 0 Q (F0 m 0 ls [])) :
    Met l y (zW y cc maxL (some .int)) rm (va_Pc av (zPre D cI cZ ws sz)) (va_Qi (fun r' (_ : Unit) => r' = zI r) (fun _ t => va_P D vwCl w1 t.heap) (va_A ws sz)) 0 0 (va_A ws sz) := by
  refine Met.ofW (cc := cc) (maxL := maxL) (ret := some .int) hy rfl ?_
  intro p e s m args below meth c s₁ B0 hml hv
  obtain ⟨rfl, hsz, hP, hK, hD0⟩ := hv
  have hts := atoms_spec (ws := zW y cc maxL (some .int)) B0.pre
  have hown' : s.vm.findClass own = some m.cls := hown ▸ findClass_of_methodNamed B0.named
  subst hsz
  rw [lg_entry_eq]
  have C0 : zC p s m av.toArray c D cI cZ (va_A ws s.heap.size) cc maxL own := ⟨B0.exec, B0.bytes, hml, hown', fun w hw => hts w (List.mem_cons_of_mem _ hw), hK, fun q h => Or.inr h⟩
  exact body p e s m _ below meth c _ _ C0 hP hD0.self va_S.rf (fun hP hS hd => z_iret C0 B0.returns B0.notSynchronized hP hS hd) _ (lv_entry av hmax)
theorem z_enter_z {y : MethodName} {cc : ByteArray} {maxL : Nat} {rm : Room} {av : List Value} {D : va_G} {cI cZ : ClassId} {ws w1 : va_W} {sz : Nat} {own : String} {r : Int} (hy : plainName y.cls = true) (hown : y.cls = own) (hmax : (lg_sl av).length ≤ maxL)
    (body : ∀ (p : Program) (e : Env) (s : State) (m : MethodId) (args : Array Value) (below : List Frame) (meth : Method) (c : Code) (A : Nat → Prop) (Q : State → Prop), zC p s m args c D cI cZ A cc maxL own → va_P D vwCl ws s.heap → va_D A ws → va_S A s.heap s.heap [] → (∀ {pc : Nat} {H : Heap} {locs : List Loc} {ls : Array Slot}, (r = 0 ∨ r = 1) → va_P D vwCl w1 H → va_S A s.heap H locs → decode cc pc = .ok (.ireturn, 1) → W p l e rm s m args below meth c H locs 0 0 Q (F0 m pc ls [.int (zI r)])) → ∀ ls : Array Slot, lv_has ls maxL (lv_args 0 av) → W p l e rm s m args below meth c s.heap [] 0 0 Q (F0 m 0 ls [])) :
    Met l y (zW y cc maxL (some .boolean)) rm (va_Pc av (zPre D cI cZ ws sz)) (va_Qi (fun r' (_ : Unit) => r' = zI r) (fun _ t => va_P D vwCl w1 t.heap) (va_A ws sz)) 0 0 (va_A ws sz) := by
  refine Met.ofW (cc := cc) (maxL := maxL) (ret := some .boolean) hy rfl ?_
  intro p e s m args below meth c s₁ B0 hml hv
  obtain ⟨rfl, hsz, hP, hK, hD0⟩ := hv
  have hts := atoms_spec (ws := zW y cc maxL (some .boolean)) B0.pre
  have hown' : s.vm.findClass own = some m.cls := hown ▸ findClass_of_methodNamed B0.named
  subst hsz
  rw [lg_entry_eq]
  have C0 : zC p s m av.toArray c D cI cZ (va_A ws s.heap.size) cc maxL own := ⟨B0.exec, B0.bytes, hml, hown', fun w hw => hts w (List.mem_cons_of_mem _ hw), hK, fun q h => Or.inr h⟩
  exact body p e s m _ below meth c _ _ C0 hP hD0.self va_S.rf (fun hz hP hS hd => z_zret C0 B0.returns B0.notSynchronized hz hP hS hd) _ (lv_entry av hmax)
theorem z_enter_l {y : MethodName} {cc : ByteArray} {maxL : Nat} {rm : Room} {av : List Value} {D : va_G} {cI cZ : ClassId} {ws w1 : va_W} {sz : Nat} {own : String} {r : Int} (hy : plainName y.cls = true) (hown : y.cls = own) (hmax : (lg_sl av).length ≤ maxL)
    (body : ∀ (p : Program) (e : Env) (s : State) (m : MethodId) (args : Array Value) (below : List Frame) (meth : Method) (c : Code) (A : Nat → Prop) (Q : State → Prop), zC p s m args c D cI cZ A cc maxL own → va_P D vwCl ws s.heap → va_D A ws → va_S A s.heap s.heap [] → (∀ {pc : Nat} {H : Heap} {locs : List Loc} {ls : Array Slot}, va_P D vwCl w1 H → va_S A s.heap H locs → decode cc pc = .ok (.lreturn, 1) → W p l e rm s m args below meth c H locs 0 0 Q (F0 m pc ls [.long (zL r)])) → ∀ ls : Array Slot, lv_has ls maxL (lv_args 0 av) → W p l e rm s m args below meth c s.heap [] 0 0 Q (F0 m 0 ls [])) :
    Met l y (zW y cc maxL (some .long)) rm (va_Pc av (zPre D cI cZ ws sz)) (va_Ql (fun r' (_ : Unit) => r' = zL r) (fun _ t => va_P D vwCl w1 t.heap) (va_A ws sz)) 0 0 (va_A ws sz) := by
  refine Met.ofW (cc := cc) (maxL := maxL) (ret := some .long) hy rfl ?_
  intro p e s m args below meth c s₁ B0 hml hv
  obtain ⟨rfl, hsz, hP, hK, hD0⟩ := hv
  have hts := atoms_spec (ws := zW y cc maxL (some .long)) B0.pre
  have hown' : s.vm.findClass own = some m.cls := hown ▸ findClass_of_methodNamed B0.named
  subst hsz
  rw [lg_entry_eq]
  have C0 : zC p s m av.toArray c D cI cZ (va_A ws s.heap.size) cc maxL own := ⟨B0.exec, B0.bytes, hml, hown', fun w hw => hts w (List.mem_cons_of_mem _ hw), hK, fun q h => Or.inr h⟩
  exact body p e s m _ below meth c _ _ C0 hP hD0.self va_S.rf (fun hP hS hd => z_lret C0 B0.returns B0.notSynchronized hP hS hd) _ (lv_entry av hmax)
theorem z_enter_v {y : MethodName} {cc : ByteArray} {maxL : Nat} {rm : Room} {av : List Value} {D : va_G} {cI cZ : ClassId} {ws w1 : va_W} {sz : Nat} {own : String} (hy : plainName y.cls = true) (hown : y.cls = own) (hmax : (lg_sl av).length ≤ maxL)
    (body : ∀ (p : Program) (e : Env) (s : State) (m : MethodId) (args : Array Value) (below : List Frame) (meth : Method) (c : Code) (A : Nat → Prop) (Q : State → Prop), zC p s m args c D cI cZ A cc maxL own → va_P D vwCl ws s.heap → va_D A ws → va_S A s.heap s.heap [] → (∀ {pc : Nat} {H : Heap} {locs : List Loc} {ls : Array Slot}, va_P D vwCl w1 H → va_S A s.heap H locs → decode cc pc = .ok (.return_, 1) → W p l e rm s m args below meth c H locs 0 0 Q (F0 m pc ls [])) → ∀ ls : Array Slot, lv_has ls maxL (lv_args 0 av) → W p l e rm s m args below meth c s.heap [] 0 0 Q (F0 m 0 ls [])) :
    Met l y (zW y cc maxL (none)) rm (va_Pc av (zPre D cI cZ ws sz)) (va_Qv (fun (_ : Unit) => True) (fun _ t => va_P D vwCl w1 t.heap) (va_A ws sz)) 0 0 (va_A ws sz) := by
  refine Met.ofW (cc := cc) (maxL := maxL) (ret := none) hy rfl ?_
  intro p e s m args below meth c s₁ B0 hml hv
  obtain ⟨rfl, hsz, hP, hK, hD0⟩ := hv
  have hts := atoms_spec (ws := zW y cc maxL (none)) B0.pre
  have hown' : s.vm.findClass own = some m.cls := hown ▸ findClass_of_methodNamed B0.named
  subst hsz
  rw [lg_entry_eq]
  have C0 : zC p s m av.toArray c D cI cZ (va_A ws s.heap.size) cc maxL own := ⟨B0.exec, B0.bytes, hml, hown', fun w hw => hts w (List.mem_cons_of_mem _ hw), hK, fun q h => Or.inr h⟩
  exact body p e s m _ below meth c _ _ C0 hP hD0.self va_S.rf (fun hP hS hd => z_vret C0 B0.returns B0.notSynchronized hP hS hd) _ (lv_entry av hmax)
theorem z_enterS_i {y : MethodName} {cc : ByteArray} {maxL : Nat} {rm : Room} {av : List Value} {D : va_G} {cI cZ : ClassId} {ws w1 : va_W} {sz : Nat} {own : String} {r : Int} (hy : plainName y.cls = true) (hown : y.cls = own) (hmax : (lg_sl av).length ≤ maxL)
    (body : ∀ (p : Program) (e : Env) (s : State) (m : MethodId) (args : Array Value) (below : List Frame) (meth : Method) (c : Code) (A : Nat → Prop) (Q : State → Prop), zC p s m args c D cI cZ A cc maxL own → va_P D vwCl ws s.heap → va_D A ws → va_S A s.heap s.heap [] → zSt A s s.heap → (∀ {pc : Nat} {H : Heap} {locs : List Loc} {ls : Array Slot}, va_P D vwCl w1 H → va_S A s.heap H locs → decode cc pc = .ok (.ireturn, 1) → W p l e rm s m args below meth c H locs 0 0 Q (F0 m pc ls [.int (zI r)])) → ∀ ls : Array Slot, lv_has ls maxL (lv_args 0 av) → W p l e rm s m args below meth c s.heap [] 0 0 Q (F0 m 0 ls [])) :
    Met l y (zW y cc maxL (some .int)) rm (va_Pc av (zPreS D cI cZ ws sz)) (va_Qi (fun r' (_ : Unit) => r' = zI r) (fun _ t => va_P D vwCl w1 t.heap) (va_A ws sz)) 0 0 (va_A ws sz) := by
  refine Met.ofW (cc := cc) (maxL := maxL) (ret := some .int) hy rfl ?_
  intro p e s m args below meth c s₁ B0 hml hv
  obtain ⟨rfl, ⟨hsz, hP, hK, hD0⟩, hZ⟩ := hv
  have hts := atoms_spec (ws := zW y cc maxL (some .int)) B0.pre
  have hown' : s.vm.findClass own = some m.cls := hown ▸ findClass_of_methodNamed B0.named
  subst hsz
  rw [lg_entry_eq]
  have C0 : zC p s m av.toArray c D cI cZ (va_A ws s.heap.size) cc maxL own := ⟨B0.exec, B0.bytes, hml, hown', fun w hw => hts w (List.mem_cons_of_mem _ hw), hK, fun q h => Or.inr h⟩
  exact body p e s m _ below meth c _ _ C0 hP hD0.self va_S.rf hZ (fun hP hS hd => z_iret C0 B0.returns B0.notSynchronized hP hS hd) _ (lv_entry av hmax)
theorem z_enterS_v {y : MethodName} {cc : ByteArray} {maxL : Nat} {rm : Room} {av : List Value} {D : va_G} {cI cZ : ClassId} {ws w1 : va_W} {sz : Nat} {own : String} (hy : plainName y.cls = true) (hown : y.cls = own) (hmax : (lg_sl av).length ≤ maxL)
    (body : ∀ (p : Program) (e : Env) (s : State) (m : MethodId) (args : Array Value) (below : List Frame) (meth : Method) (c : Code) (A : Nat → Prop) (Q : State → Prop), zC p s m args c D cI cZ A cc maxL own → va_P D vwCl ws s.heap → va_D A ws → va_S A s.heap s.heap [] → zSt A s s.heap → (∀ {pc : Nat} {H : Heap} {locs : List Loc} {ls : Array Slot}, va_P D vwCl w1 H → va_S A s.heap H locs → decode cc pc = .ok (.return_, 1) → W p l e rm s m args below meth c H locs 0 0 Q (F0 m pc ls [])) → ∀ ls : Array Slot, lv_has ls maxL (lv_args 0 av) → W p l e rm s m args below meth c s.heap [] 0 0 Q (F0 m 0 ls [])) :
    Met l y (zW y cc maxL (none)) rm (va_Pc av (zPreS D cI cZ ws sz)) (va_Qv (fun (_ : Unit) => True) (fun _ t => va_P D vwCl w1 t.heap) (va_A ws sz)) 0 0 (va_A ws sz) := by
  refine Met.ofW (cc := cc) (maxL := maxL) (ret := none) hy rfl ?_
  intro p e s m args below meth c s₁ B0 hml hv
  obtain ⟨rfl, ⟨hsz, hP, hK, hD0⟩, hZ⟩ := hv
  have hts := atoms_spec (ws := zW y cc maxL (none)) B0.pre
  have hown' : s.vm.findClass own = some m.cls := hown ▸ findClass_of_methodNamed B0.named
  subst hsz
  rw [lg_entry_eq]
  have C0 : zC p s m av.toArray c D cI cZ (va_A ws s.heap.size) cc maxL own := ⟨B0.exec, B0.bytes, hml, hown', fun w hw => hts w (List.mem_cons_of_mem _ hw), hK, fun q h => Or.inr h⟩
  exact body p e s m _ below meth c _ _ C0 hP hD0.self va_S.rf hZ (fun hP hS hd => z_vret C0 B0.returns B0.notSynchronized hP hS hd) _ (lv_entry av hmax)
/-! calls -/
theorem zgoodc {ws : List Cond} (h : ∀ w ∈ ws, w ∈ zTb) : GoodIn zTb ws := fun w hw => zgood w (h w hw)
theorem z_cwV {own C : String} {index maxL n : Nat} {y : MethodName} {bytes : ByteArray} {ret : Option FieldType} {rm R : Room} {s : State} {args : Array Value} (h1 : Cond.methodLink own index y ∈ zTb) (h2 : Cond.instanceMethod y ∈ zTb) (h3 : Cond.selects C y y ∈ zTb) (h4 : Cond.initialized C ∈ zTb) (h5 : Cond.code y bytes maxL ret ∈ zTb) (hc : rm.cells = 0) (hs : rm.slots = 0)
    (hd : y.cls = C ∧ y.cls ≠ "java/lang/invoke/MethodHandle" ∧ y.cls ≠ "java/lang/invoke/VarHandle" ∧ (parseMethodDescriptor y.desc).map (fun d => d.parameters.length) = some n) (hR : rm.frames + 1 ≤ R.frames ∧ 8 + (maxL + 11) + rm.locals ≤ R.locals) (ht : ∀ w ∈ zTb, w.before args s = true) :
    CallW R s args own C index y bytes maxL ret (zW y bytes maxL ret) rm 0 0 n :=
  cwV n ht (zgoodc (fun w hw => by
    rcases List.mem_append.mp hw with h | h
    · simp only [List.mem_cons, List.not_mem_nil, or_false] at h
      rcases h with rfl | rfl | rfl | rfl <;> assumption
    · rcases List.mem_cons.mp h with rfl | h
      · exact h5
      · exact h)) rfl hc hs hd hR
theorem z_cwS {own : String} {index maxL n : Nat} {y : MethodName} {bytes : ByteArray} {ret : Option FieldType} {rm R : Room} {s : State} {args : Array Value} (h1 : Cond.methodLink own index y ∈ zTb) (h2 : Cond.static y ∈ zTb) (h4 : Cond.initialized y.cls ∈ zTb) (h5 : Cond.code y bytes maxL ret ∈ zTb) (hc : rm.cells = 0) (hs : rm.slots = 0)
    (hd : y.cls ≠ "java/lang/invoke/MethodHandle" ∧ y.cls ≠ "java/lang/invoke/VarHandle" ∧ (parseMethodDescriptor y.desc).map (fun d => d.parameters.length) = some n) (hR : rm.frames + 1 ≤ R.frames ∧ 8 + (maxL + 11) + rm.locals ≤ R.locals) (ht : ∀ w ∈ zTb, w.before args s = true) :
    CallB R s args own index y bytes maxL ret (zW y bytes maxL ret) rm 0 0 n ∧ (Cond.static y).before args s = true :=
  va_cwS n ht (zgoodc (fun w hw => by
    rcases List.mem_append.mp hw with h | h
    · simp only [List.mem_cons, List.not_mem_nil, or_false] at h
      rcases h with rfl | rfl | rfl <;> assumption
    · rcases List.mem_cons.mp h with rfl | h
      · exact h5
      · exact h)) rfl hc hs hd hR
theorem zsubP {wc : va_W} (hP : va_P D vwCl ws H) {isC : List Nat} (hC : isC.map (fun i => ws[i]?) = wc.map some) : va_P D vwCl wc H := by
  intro k q hq
  have h1 : (isC.map (fun i => ws[i]?))[k]? = some (some q) := by rw [hC, List.getElem?_map, hq]; rfl
  rw [List.getElem?_map] at h1
  cases hi : isC[k]? with
  | none => rw [hi] at h1; cases h1
  | some i => rw [hi] at h1; exact hP i q (Option.some.inj h1)
theorem z_callVi {y : MethodName} {bytes : ByteArray} {maxL n index : Nat} {ret : Option FieldType} {rm : Room} {r : Int} {wc w1 ws' : va_W} {C : String} {b : Nat} {As st0 : List Value} {fs : List Value} {T : u_T} {N : Nat} (C0 : zC p s m args c D cI cZ A cc nL own) (hP : va_P D vwCl ws H) (hD : va_D A ws) (hS : va_S A s.heap H locs) (isC : List Nat) (hC : isC.map (fun i => ws[i]?) = wc.map some)
    (hM : Met l y (zW y bytes maxL ret) rm (va_Pc (.ref b :: As) (zPre D cI cZ wc H.size)) (va_Qi (fun r' (_ : Unit) => r' = zI r) (fun _ t => va_P D vwCl w1 t.heap) (va_A wc H.size)) 0 0 (va_A wc H.size)) (cw : CallW R s args own C index y bytes maxL ret (zW y bytes maxL ret) rm 0 0 n) (hn : va_nd isC = true) (ci : Nat) (he : wc[0]? = some (b, .inr (ci, fs))) (hci : vwCl[ci]? = some (C, T, N))
    (hst : st0 = As.reverse ++ .ref b :: rest) (hlen : As.length = n) (hls : ls.size = nL) (hroom : (rest.map fun v => v.category).sum ≤ 8) (hdg : decode cc pc = .ok (.invokevirtual index, 3)) (hcs : cells ≤ R.cells ∧ slots ≤ R.slots) (hw : zrep ws isC w1 = ws') (hl1 : isC.length ≤ w1.length)
    (kk : ∀ (H1 : Heap) (locs1 : List Loc), va_P D vwCl ws' H1 → va_S A s.heap H1 locs1 → W p l e R s m args below meth c H1 locs1 cells slots Q (F0 m (pc + 3) ls (.int (zI r) :: rest))) : W p l e R s m args below meth c H locs cells slots Q (F0 m pc ls st0) := by
  have hPc := zsubP hP hC
  have hDc : va_D A wc := hD.sub isC hn hC
  have hF := va_free hD hS C0.2.2.2.2.2.2 isC hC
  refine va_calli (va_runV ⟨C0.1, C0.2.1, C0.2.2.1, C0.2.2.2.1, C0.2.2.2.2.1⟩ hM cw ⟨zPre_blind, va_recv (q0 := 0) C0.2.2.2.2.2.1 hPc hci he, fun U hU hW => ⟨rfl, zPre_ok hPc C0.2.2.2.2.2.1 hDc U hU hW⟩⟩ rfl hlen hls hst (lv_room hroom) hdg hcs) hS (fun q _ h => hF q h) hF (fun r' u t H1 locs1 ht hvm hr hB hz1 hk1 hS1 => ?_)
  subst hr
  rw [ht] at hB
  subst hw
  exact kk H1 locs1 (zjoin hP hD isC hC hk1 hB hl1) hS1
theorem z_callVl {y : MethodName} {bytes : ByteArray} {maxL n index : Nat} {ret : Option FieldType} {rm : Room} {r : Int} {wc w1 ws' : va_W} {C : String} {b : Nat} {As st0 : List Value} {fs : List Value} {T : u_T} {N : Nat} (C0 : zC p s m args c D cI cZ A cc nL own) (hP : va_P D vwCl ws H) (hD : va_D A ws) (hS : va_S A s.heap H locs) (isC : List Nat) (hC : isC.map (fun i => ws[i]?) = wc.map some)
    (hM : Met l y (zW y bytes maxL ret) rm (va_Pc (.ref b :: As) (zPre D cI cZ wc H.size)) (va_Ql (fun r' (_ : Unit) => r' = zL r) (fun _ t => va_P D vwCl w1 t.heap) (va_A wc H.size)) 0 0 (va_A wc H.size)) (cw : CallW R s args own C index y bytes maxL ret (zW y bytes maxL ret) rm 0 0 n) (hn : va_nd isC = true) (ci : Nat) (he : wc[0]? = some (b, .inr (ci, fs))) (hci : vwCl[ci]? = some (C, T, N))
    (hst : st0 = As.reverse ++ .ref b :: rest) (hlen : As.length = n) (hls : ls.size = nL) (hroom : (rest.map fun v => v.category).sum ≤ 8) (hdg : decode cc pc = .ok (.invokevirtual index, 3)) (hcs : cells ≤ R.cells ∧ slots ≤ R.slots) (hw : zrep ws isC w1 = ws') (hl1 : isC.length ≤ w1.length)
    (kk : ∀ (H1 : Heap) (locs1 : List Loc), va_P D vwCl ws' H1 → va_S A s.heap H1 locs1 → W p l e R s m args below meth c H1 locs1 cells slots Q (F0 m (pc + 3) ls (.long (zL r) :: rest))) : W p l e R s m args below meth c H locs cells slots Q (F0 m pc ls st0) := by
  have hPc := zsubP hP hC
  have hDc : va_D A wc := hD.sub isC hn hC
  have hF := va_free hD hS C0.2.2.2.2.2.2 isC hC
  refine va_calll (va_runV ⟨C0.1, C0.2.1, C0.2.2.1, C0.2.2.2.1, C0.2.2.2.2.1⟩ hM cw ⟨zPre_blind, va_recv (q0 := 0) C0.2.2.2.2.2.1 hPc hci he, fun U hU hW => ⟨rfl, zPre_ok hPc C0.2.2.2.2.2.1 hDc U hU hW⟩⟩ rfl hlen hls hst (lv_room hroom) hdg hcs) hS (fun q _ h => hF q h) hF (fun r' u t H1 locs1 ht hvm hr hB hz1 hk1 hS1 => ?_)
  subst hr
  rw [ht] at hB
  subst hw
  exact kk H1 locs1 (zjoin hP hD isC hC hk1 hB hl1) hS1
theorem z_callVv {y : MethodName} {bytes : ByteArray} {maxL n index : Nat} {ret : Option FieldType} {rm : Room} {wc w1 ws' : va_W} {C : String} {b : Nat} {As st0 : List Value} {fs : List Value} {T : u_T} {N : Nat} (C0 : zC p s m args c D cI cZ A cc nL own) (hP : va_P D vwCl ws H) (hD : va_D A ws) (hS : va_S A s.heap H locs) (isC : List Nat) (hC : isC.map (fun i => ws[i]?) = wc.map some)
    (hM : Met l y (zW y bytes maxL ret) rm (va_Pc (.ref b :: As) (zPre D cI cZ wc H.size)) (va_Qv (fun (_ : Unit) => True) (fun _ t => va_P D vwCl w1 t.heap) (va_A wc H.size)) 0 0 (va_A wc H.size)) (cw : CallW R s args own C index y bytes maxL ret (zW y bytes maxL ret) rm 0 0 n) (hn : va_nd isC = true) (ci : Nat) (he : wc[0]? = some (b, .inr (ci, fs))) (hci : vwCl[ci]? = some (C, T, N))
    (hst : st0 = As.reverse ++ .ref b :: rest) (hlen : As.length = n) (hls : ls.size = nL) (hroom : (rest.map fun v => v.category).sum ≤ 8) (hdg : decode cc pc = .ok (.invokevirtual index, 3)) (hcs : cells ≤ R.cells ∧ slots ≤ R.slots) (hw : zrep ws isC w1 = ws') (hl1 : isC.length ≤ w1.length)
    (kk : ∀ (H1 : Heap) (locs1 : List Loc), va_P D vwCl ws' H1 → va_S A s.heap H1 locs1 → W p l e R s m args below meth c H1 locs1 cells slots Q (F0 m (pc + 3) ls rest)) : W p l e R s m args below meth c H locs cells slots Q (F0 m pc ls st0) := by
  have hPc := zsubP hP hC
  have hDc : va_D A wc := hD.sub isC hn hC
  have hF := va_free hD hS C0.2.2.2.2.2.2 isC hC
  refine va_callv (va_runV ⟨C0.1, C0.2.1, C0.2.2.1, C0.2.2.2.1, C0.2.2.2.2.1⟩ hM cw ⟨zPre_blind, va_recv (q0 := 0) C0.2.2.2.2.2.1 hPc hci he, fun U hU hW => ⟨rfl, zPre_ok hPc C0.2.2.2.2.2.1 hDc U hU hW⟩⟩ rfl hlen hls hst (lv_room hroom) hdg hcs) hS (fun q _ h => hF q h) hF (fun u t H1 locs1 ht hvm hr hB hz1 hk1 hS1 => ?_)
  rw [ht] at hB
  subst hw
  exact kk H1 locs1 (zjoin hP hD isC hC hk1 hB hl1) hS1
theorem z_callViS {y : MethodName} {bytes : ByteArray} {maxL n index : Nat} {ret : Option FieldType} {rm : Room} {r : Int} {wc w1 ws' : va_W} {C : String} {b : Nat} {As st0 : List Value} {fs : List Value} {T : u_T} {N : Nat} (C0 : zC p s m args c D cI cZ A cc nL own) (hP : va_P D vwCl ws H) (hD : va_D A ws) (hS : va_S A s.heap H locs) (hZ : zSt A s s.heap) (isC : List Nat) (hC : isC.map (fun i => ws[i]?) = wc.map some)
    (hM : Met l y (zW y bytes maxL ret) rm (va_Pc (.ref b :: As) (zPreS D cI cZ wc H.size)) (va_Qi (fun r' (_ : Unit) => r' = zI r) (fun _ t => va_P D vwCl w1 t.heap) (va_A wc H.size)) 0 0 (va_A wc H.size)) (cw : CallW R s args own C index y bytes maxL ret (zW y bytes maxL ret) rm 0 0 n) (hn : va_nd isC = true) (ci : Nat) (he : wc[0]? = some (b, .inr (ci, fs))) (hci : vwCl[ci]? = some (C, T, N))
    (hst : st0 = As.reverse ++ .ref b :: rest) (hlen : As.length = n) (hls : ls.size = nL) (hroom : (rest.map fun v => v.category).sum ≤ 8) (hdg : decode cc pc = .ok (.invokevirtual index, 3)) (hcs : cells ≤ R.cells ∧ slots ≤ R.slots) (hw : zrep ws isC w1 = ws') (hl1 : isC.length ≤ w1.length)
    (kk : ∀ (H1 : Heap) (locs1 : List Loc), va_P D vwCl ws' H1 → va_S A s.heap H1 locs1 → W p l e R s m args below meth c H1 locs1 cells slots Q (F0 m (pc + 3) ls (.int (zI r) :: rest))) : W p l e R s m args below meth c H locs cells slots Q (F0 m pc ls st0) := by
  have hPc := zsubP hP hC
  have hDc : va_D A wc := hD.sub isC hn hC
  have hF := va_free hD hS C0.2.2.2.2.2.2 isC hC
  refine va_calli (va_runV ⟨C0.1, C0.2.1, C0.2.2.1, C0.2.2.2.1, C0.2.2.2.2.1⟩ hM cw ⟨zPreS_blind, va_recv (q0 := 0) C0.2.2.2.2.2.1 hPc hci he, fun U hU hW => ⟨rfl, zPreS_ok hPc C0.2.2.2.2.2.1 hDc hZ hS hF U hU hW⟩⟩ rfl hlen hls hst (lv_room hroom) hdg hcs) hS (fun q _ h => hF q h) hF (fun r' u t H1 locs1 ht hvm hr hB hz1 hk1 hS1 => ?_)
  subst hr
  rw [ht] at hB
  subst hw
  exact kk H1 locs1 (zjoin hP hD isC hC hk1 hB hl1) hS1
theorem z_callVvS {y : MethodName} {bytes : ByteArray} {maxL n index : Nat} {ret : Option FieldType} {rm : Room} {wc w1 ws' : va_W} {C : String} {b : Nat} {As st0 : List Value} {fs : List Value} {T : u_T} {N : Nat} (C0 : zC p s m args c D cI cZ A cc nL own) (hP : va_P D vwCl ws H) (hD : va_D A ws) (hS : va_S A s.heap H locs) (hZ : zSt A s s.heap) (isC : List Nat) (hC : isC.map (fun i => ws[i]?) = wc.map some)
    (hM : Met l y (zW y bytes maxL ret) rm (va_Pc (.ref b :: As) (zPreS D cI cZ wc H.size)) (va_Qv (fun (_ : Unit) => True) (fun _ t => va_P D vwCl w1 t.heap) (va_A wc H.size)) 0 0 (va_A wc H.size)) (cw : CallW R s args own C index y bytes maxL ret (zW y bytes maxL ret) rm 0 0 n) (hn : va_nd isC = true) (ci : Nat) (he : wc[0]? = some (b, .inr (ci, fs))) (hci : vwCl[ci]? = some (C, T, N))
    (hst : st0 = As.reverse ++ .ref b :: rest) (hlen : As.length = n) (hls : ls.size = nL) (hroom : (rest.map fun v => v.category).sum ≤ 8) (hdg : decode cc pc = .ok (.invokevirtual index, 3)) (hcs : cells ≤ R.cells ∧ slots ≤ R.slots) (hw : zrep ws isC w1 = ws') (hl1 : isC.length ≤ w1.length)
    (kk : ∀ (H1 : Heap) (locs1 : List Loc), va_P D vwCl ws' H1 → va_S A s.heap H1 locs1 → W p l e R s m args below meth c H1 locs1 cells slots Q (F0 m (pc + 3) ls rest)) : W p l e R s m args below meth c H locs cells slots Q (F0 m pc ls st0) := by
  have hPc := zsubP hP hC
  have hDc : va_D A wc := hD.sub isC hn hC
  have hF := va_free hD hS C0.2.2.2.2.2.2 isC hC
  refine va_callv (va_runV ⟨C0.1, C0.2.1, C0.2.2.1, C0.2.2.2.1, C0.2.2.2.2.1⟩ hM cw ⟨zPreS_blind, va_recv (q0 := 0) C0.2.2.2.2.2.1 hPc hci he, fun U hU hW => ⟨rfl, zPreS_ok hPc C0.2.2.2.2.2.1 hDc hZ hS hF U hU hW⟩⟩ rfl hlen hls hst (lv_room hroom) hdg hcs) hS (fun q _ h => hF q h) hF (fun u t H1 locs1 ht hvm hr hB hz1 hk1 hS1 => ?_)
  rw [ht] at hB
  subst hw
  exact kk H1 locs1 (zjoin hP hD isC hC hk1 hB hl1) hS1
theorem z_callSi {y : MethodName} {bytes : ByteArray} {maxL n index : Nat} {ret : Option FieldType} {rm : Room} {r : Int} {wc w1 ws' : va_W} {As st0 : List Value} (C0 : zC p s m args c D cI cZ A cc nL own) (hP : va_P D vwCl ws H) (hD : va_D A ws) (hS : va_S A s.heap H locs) (isC : List Nat) (hC : isC.map (fun i => ws[i]?) = wc.map some)
    (hM : Met l y (zW y bytes maxL ret) rm (va_Pc As (zPre D cI cZ wc H.size)) (va_Qi (fun r' (_ : Unit) => r' = zI r) (fun _ t => va_P D vwCl w1 t.heap) (va_A wc H.size)) 0 0 (va_A wc H.size)) (cw : CallB R s args own index y bytes maxL ret (zW y bytes maxL ret) rm 0 0 n ∧ (Cond.static y).before args s = true) (hn : va_nd isC = true)
    (hst : st0 = As.reverse ++ rest) (hlen : As.length = n) (hls : ls.size = nL) (hroom : (rest.map fun v => v.category).sum ≤ 8) (hdg : decode cc pc = .ok (.invokestatic index, 3)) (hcs : cells ≤ R.cells ∧ slots ≤ R.slots) (hw : zrep ws isC w1 = ws') (hl1 : isC.length ≤ w1.length)
    (kk : ∀ (H1 : Heap) (locs1 : List Loc), va_P D vwCl ws' H1 → va_S A s.heap H1 locs1 → W p l e R s m args below meth c H1 locs1 cells slots Q (F0 m (pc + 3) ls (.int (zI r) :: rest))) : W p l e R s m args below meth c H locs cells slots Q (F0 m pc ls st0) := by
  have hPc := zsubP hP hC
  have hDc : va_D A wc := hD.sub isC hn hC
  have hF := va_free hD hS C0.2.2.2.2.2.2 isC hC
  refine va_calli (va_runS ⟨C0.1, C0.2.1, C0.2.2.1, C0.2.2.2.1, C0.2.2.2.2.1⟩ hM cw ⟨zPre_blind, fun U hU hW => ⟨rfl, zPre_ok hPc C0.2.2.2.2.2.1 hDc U hU hW⟩⟩ rfl hlen hls hst (lv_room hroom) hdg hcs) hS (fun q _ h => hF q h) hF (fun r' u t H1 locs1 ht hvm hr hB hz1 hk1 hS1 => ?_)
  subst hr
  rw [ht] at hB
  subst hw
  exact kk H1 locs1 (zjoin hP hD isC hC hk1 hB hl1) hS1
theorem z_callSl {y : MethodName} {bytes : ByteArray} {maxL n index : Nat} {ret : Option FieldType} {rm : Room} {r : Int} {wc w1 ws' : va_W} {As st0 : List Value} (C0 : zC p s m args c D cI cZ A cc nL own) (hP : va_P D vwCl ws H) (hD : va_D A ws) (hS : va_S A s.heap H locs) (isC : List Nat) (hC : isC.map (fun i => ws[i]?) = wc.map some)
    (hM : Met l y (zW y bytes maxL ret) rm (va_Pc As (zPre D cI cZ wc H.size)) (va_Ql (fun r' (_ : Unit) => r' = zL r) (fun _ t => va_P D vwCl w1 t.heap) (va_A wc H.size)) 0 0 (va_A wc H.size)) (cw : CallB R s args own index y bytes maxL ret (zW y bytes maxL ret) rm 0 0 n ∧ (Cond.static y).before args s = true) (hn : va_nd isC = true)
    (hst : st0 = As.reverse ++ rest) (hlen : As.length = n) (hls : ls.size = nL) (hroom : (rest.map fun v => v.category).sum ≤ 8) (hdg : decode cc pc = .ok (.invokestatic index, 3)) (hcs : cells ≤ R.cells ∧ slots ≤ R.slots) (hw : zrep ws isC w1 = ws') (hl1 : isC.length ≤ w1.length)
    (kk : ∀ (H1 : Heap) (locs1 : List Loc), va_P D vwCl ws' H1 → va_S A s.heap H1 locs1 → W p l e R s m args below meth c H1 locs1 cells slots Q (F0 m (pc + 3) ls (.long (zL r) :: rest))) : W p l e R s m args below meth c H locs cells slots Q (F0 m pc ls st0) := by
  have hPc := zsubP hP hC
  have hDc : va_D A wc := hD.sub isC hn hC
  have hF := va_free hD hS C0.2.2.2.2.2.2 isC hC
  refine va_calll (va_runS ⟨C0.1, C0.2.1, C0.2.2.1, C0.2.2.2.1, C0.2.2.2.2.1⟩ hM cw ⟨zPre_blind, fun U hU hW => ⟨rfl, zPre_ok hPc C0.2.2.2.2.2.1 hDc U hU hW⟩⟩ rfl hlen hls hst (lv_room hroom) hdg hcs) hS (fun q _ h => hF q h) hF (fun r' u t H1 locs1 ht hvm hr hB hz1 hk1 hS1 => ?_)
  subst hr
  rw [ht] at hB
  subst hw
  exact kk H1 locs1 (zjoin hP hD isC hC hk1 hB hl1) hS1
theorem z_callSv {y : MethodName} {bytes : ByteArray} {maxL n index : Nat} {ret : Option FieldType} {rm : Room} {wc w1 ws' : va_W} {As st0 : List Value} (C0 : zC p s m args c D cI cZ A cc nL own) (hP : va_P D vwCl ws H) (hD : va_D A ws) (hS : va_S A s.heap H locs) (isC : List Nat) (hC : isC.map (fun i => ws[i]?) = wc.map some)
    (hM : Met l y (zW y bytes maxL ret) rm (va_Pc As (zPre D cI cZ wc H.size)) (va_Qv (fun (_ : Unit) => True) (fun _ t => va_P D vwCl w1 t.heap) (va_A wc H.size)) 0 0 (va_A wc H.size)) (cw : CallB R s args own index y bytes maxL ret (zW y bytes maxL ret) rm 0 0 n ∧ (Cond.static y).before args s = true) (hn : va_nd isC = true)
    (hst : st0 = As.reverse ++ rest) (hlen : As.length = n) (hls : ls.size = nL) (hroom : (rest.map fun v => v.category).sum ≤ 8) (hdg : decode cc pc = .ok (.invokestatic index, 3)) (hcs : cells ≤ R.cells ∧ slots ≤ R.slots) (hw : zrep ws isC w1 = ws') (hl1 : isC.length ≤ w1.length)
    (kk : ∀ (H1 : Heap) (locs1 : List Loc), va_P D vwCl ws' H1 → va_S A s.heap H1 locs1 → W p l e R s m args below meth c H1 locs1 cells slots Q (F0 m (pc + 3) ls rest)) : W p l e R s m args below meth c H locs cells slots Q (F0 m pc ls st0) := by
  have hPc := zsubP hP hC
  have hDc : va_D A wc := hD.sub isC hn hC
  have hF := va_free hD hS C0.2.2.2.2.2.2 isC hC
  refine va_callv (va_runS ⟨C0.1, C0.2.1, C0.2.2.1, C0.2.2.2.1, C0.2.2.2.2.1⟩ hM cw ⟨zPre_blind, fun U hU hW => ⟨rfl, zPre_ok hPc C0.2.2.2.2.2.1 hDc U hU hW⟩⟩ rfl hlen hls hst (lv_room hroom) hdg hcs) hS (fun q _ h => hF q h) hF (fun u t H1 locs1 ht hvm hr hB hz1 hk1 hS1 => ?_)
  rw [ht] at hB
  subst hw
  exact kk H1 locs1 (zjoin hP hD isC hC hk1 hB hl1) hS1
theorem z_callFi {y : MethodName} {bytes : ByteArray} {maxL n index : Nat} {ret : Option FieldType} {rm : Room} {r : Int} {w1 : va_W} {C : String} {b : Nat} {As st0 : List Value} {fs : List Value} {T : u_T} {N : Nat} (C0 : zC p s m args c D cI cZ A cc nL own) (hP : va_P D vwCl ws H) (hD : va_D A ws) (hS : va_S A s.heap H locs) 
    (hM : Met l y (zW y bytes maxL ret) rm (va_Pc (.ref b :: As) (zPre D cI cZ ws H.size)) (va_Qi (fun r' (_ : Unit) => r' = zI r) (fun _ t => va_P D vwCl w1 t.heap) (va_A ws H.size)) 0 0 (va_A ws H.size)) (cw : CallW R s args own C index y bytes maxL ret (zW y bytes maxL ret) rm 0 0 n) (ci : Nat) (he : ws[0]? = some (b, .inr (ci, fs))) (hci : vwCl[ci]? = some (C, T, N))
    (hst : st0 = As.reverse ++ .ref b :: rest) (hlen : As.length = n) (hls : ls.size = nL) (hroom : (rest.map fun v => v.category).sum ≤ 8) (hdg : decode cc pc = .ok (.invokevirtual index, 3)) (hcs : cells ≤ R.cells ∧ slots ≤ R.slots)
    (kk : ∀ (H1 : Heap) (locs1 : List Loc), va_P D vwCl w1 H1 → va_S A s.heap H1 locs1 → W p l e R s m args below meth c H1 locs1 cells slots Q (F0 m (pc + 3) ls (.int (zI r) :: rest))) : W p l e R s m args below meth c H locs cells slots Q (F0 m pc ls st0) := by
  have hF : ∀ q, va_A ws H.size q → A q := fun q h => by
    rcases h with ⟨k, e, h⟩ | h
    · exact hD.2 k (q, e) h
    · exact C0.2.2.2.2.2.2 q (Nat.le_trans hS.1 h)
  refine va_calli (va_runV ⟨C0.1, C0.2.1, C0.2.2.1, C0.2.2.2.1, C0.2.2.2.2.1⟩ hM cw ⟨zPre_blind, va_recv (q0 := 0) C0.2.2.2.2.2.1 hP hci he, fun U hU hW => ⟨rfl, zPre_ok hP C0.2.2.2.2.2.1 hD U hU hW⟩⟩ rfl hlen hls hst (lv_room hroom) hdg hcs) hS (fun q _ h => hF q h) hF (fun r' u t H1 locs1 ht hvm hr hB hz1 hk1 hS1 => ?_)
  subst hr
  rw [ht] at hB
  exact kk H1 locs1 hB hS1
theorem z_callFl {y : MethodName} {bytes : ByteArray} {maxL n index : Nat} {ret : Option FieldType} {rm : Room} {r : Int} {w1 : va_W} {C : String} {b : Nat} {As st0 : List Value} {fs : List Value} {T : u_T} {N : Nat} (C0 : zC p s m args c D cI cZ A cc nL own) (hP : va_P D vwCl ws H) (hD : va_D A ws) (hS : va_S A s.heap H locs) 
    (hM : Met l y (zW y bytes maxL ret) rm (va_Pc (.ref b :: As) (zPre D cI cZ ws H.size)) (va_Ql (fun r' (_ : Unit) => r' = zL r) (fun _ t => va_P D vwCl w1 t.heap) (va_A ws H.size)) 0 0 (va_A ws H.size)) (cw : CallW R s args own C index y bytes maxL ret (zW y bytes maxL ret) rm 0 0 n) (ci : Nat) (he : ws[0]? = some (b, .inr (ci, fs))) (hci : vwCl[ci]? = some (C, T, N))
    (hst : st0 = As.reverse ++ .ref b :: rest) (hlen : As.length = n) (hls : ls.size = nL) (hroom : (rest.map fun v => v.category).sum ≤ 8) (hdg : decode cc pc = .ok (.invokevirtual index, 3)) (hcs : cells ≤ R.cells ∧ slots ≤ R.slots)
    (kk : ∀ (H1 : Heap) (locs1 : List Loc), va_P D vwCl w1 H1 → va_S A s.heap H1 locs1 → W p l e R s m args below meth c H1 locs1 cells slots Q (F0 m (pc + 3) ls (.long (zL r) :: rest))) : W p l e R s m args below meth c H locs cells slots Q (F0 m pc ls st0) := by
  have hF : ∀ q, va_A ws H.size q → A q := fun q h => by
    rcases h with ⟨k, e, h⟩ | h
    · exact hD.2 k (q, e) h
    · exact C0.2.2.2.2.2.2 q (Nat.le_trans hS.1 h)
  refine va_calll (va_runV ⟨C0.1, C0.2.1, C0.2.2.1, C0.2.2.2.1, C0.2.2.2.2.1⟩ hM cw ⟨zPre_blind, va_recv (q0 := 0) C0.2.2.2.2.2.1 hP hci he, fun U hU hW => ⟨rfl, zPre_ok hP C0.2.2.2.2.2.1 hD U hU hW⟩⟩ rfl hlen hls hst (lv_room hroom) hdg hcs) hS (fun q _ h => hF q h) hF (fun r' u t H1 locs1 ht hvm hr hB hz1 hk1 hS1 => ?_)
  subst hr
  rw [ht] at hB
  exact kk H1 locs1 hB hS1
theorem z_callFv {y : MethodName} {bytes : ByteArray} {maxL n index : Nat} {ret : Option FieldType} {rm : Room} {w1 : va_W} {C : String} {b : Nat} {As st0 : List Value} {fs : List Value} {T : u_T} {N : Nat} (C0 : zC p s m args c D cI cZ A cc nL own) (hP : va_P D vwCl ws H) (hD : va_D A ws) (hS : va_S A s.heap H locs) 
    (hM : Met l y (zW y bytes maxL ret) rm (va_Pc (.ref b :: As) (zPre D cI cZ ws H.size)) (va_Qv (fun (_ : Unit) => True) (fun _ t => va_P D vwCl w1 t.heap) (va_A ws H.size)) 0 0 (va_A ws H.size)) (cw : CallW R s args own C index y bytes maxL ret (zW y bytes maxL ret) rm 0 0 n) (ci : Nat) (he : ws[0]? = some (b, .inr (ci, fs))) (hci : vwCl[ci]? = some (C, T, N))
    (hst : st0 = As.reverse ++ .ref b :: rest) (hlen : As.length = n) (hls : ls.size = nL) (hroom : (rest.map fun v => v.category).sum ≤ 8) (hdg : decode cc pc = .ok (.invokevirtual index, 3)) (hcs : cells ≤ R.cells ∧ slots ≤ R.slots)
    (kk : ∀ (H1 : Heap) (locs1 : List Loc), va_P D vwCl w1 H1 → va_S A s.heap H1 locs1 → W p l e R s m args below meth c H1 locs1 cells slots Q (F0 m (pc + 3) ls rest)) : W p l e R s m args below meth c H locs cells slots Q (F0 m pc ls st0) := by
  have hF : ∀ q, va_A ws H.size q → A q := fun q h => by
    rcases h with ⟨k, e, h⟩ | h
    · exact hD.2 k (q, e) h
    · exact C0.2.2.2.2.2.2 q (Nat.le_trans hS.1 h)
  refine va_callv (va_runV ⟨C0.1, C0.2.1, C0.2.2.1, C0.2.2.2.1, C0.2.2.2.2.1⟩ hM cw ⟨zPre_blind, va_recv (q0 := 0) C0.2.2.2.2.2.1 hP hci he, fun U hU hW => ⟨rfl, zPre_ok hP C0.2.2.2.2.2.1 hD U hU hW⟩⟩ rfl hlen hls hst (lv_room hroom) hdg hcs) hS (fun q _ h => hF q h) hF (fun u t H1 locs1 ht hvm hr hB hz1 hk1 hS1 => ?_)
  rw [ht] at hB
  exact kk H1 locs1 hB hS1
theorem z_callFiS {y : MethodName} {bytes : ByteArray} {maxL n index : Nat} {ret : Option FieldType} {rm : Room} {r : Int} {w1 : va_W} {C : String} {b : Nat} {As st0 : List Value} {fs : List Value} {T : u_T} {N : Nat} (C0 : zC p s m args c D cI cZ A cc nL own) (hP : va_P D vwCl ws H) (hD : va_D A ws) (hS : va_S A s.heap H locs) (hZ : zSt A s s.heap) 
    (hM : Met l y (zW y bytes maxL ret) rm (va_Pc (.ref b :: As) (zPreS D cI cZ ws H.size)) (va_Qi (fun r' (_ : Unit) => r' = zI r) (fun _ t => va_P D vwCl w1 t.heap) (va_A ws H.size)) 0 0 (va_A ws H.size)) (cw : CallW R s args own C index y bytes maxL ret (zW y bytes maxL ret) rm 0 0 n) (ci : Nat) (he : ws[0]? = some (b, .inr (ci, fs))) (hci : vwCl[ci]? = some (C, T, N))
    (hst : st0 = As.reverse ++ .ref b :: rest) (hlen : As.length = n) (hls : ls.size = nL) (hroom : (rest.map fun v => v.category).sum ≤ 8) (hdg : decode cc pc = .ok (.invokevirtual index, 3)) (hcs : cells ≤ R.cells ∧ slots ≤ R.slots)
    (kk : ∀ (H1 : Heap) (locs1 : List Loc), va_P D vwCl w1 H1 → va_S A s.heap H1 locs1 → W p l e R s m args below meth c H1 locs1 cells slots Q (F0 m (pc + 3) ls (.int (zI r) :: rest))) : W p l e R s m args below meth c H locs cells slots Q (F0 m pc ls st0) := by
  have hF : ∀ q, va_A ws H.size q → A q := fun q h => by
    rcases h with ⟨k, e, h⟩ | h
    · exact hD.2 k (q, e) h
    · exact C0.2.2.2.2.2.2 q (Nat.le_trans hS.1 h)
  refine va_calli (va_runV ⟨C0.1, C0.2.1, C0.2.2.1, C0.2.2.2.1, C0.2.2.2.2.1⟩ hM cw ⟨zPreS_blind, va_recv (q0 := 0) C0.2.2.2.2.2.1 hP hci he, fun U hU hW => ⟨rfl, zPreS_ok hP C0.2.2.2.2.2.1 hD hZ hS hF U hU hW⟩⟩ rfl hlen hls hst (lv_room hroom) hdg hcs) hS (fun q _ h => hF q h) hF (fun r' u t H1 locs1 ht hvm hr hB hz1 hk1 hS1 => ?_)
  subst hr
  rw [ht] at hB
  exact kk H1 locs1 hB hS1
theorem z_callFvS {y : MethodName} {bytes : ByteArray} {maxL n index : Nat} {ret : Option FieldType} {rm : Room} {w1 : va_W} {C : String} {b : Nat} {As st0 : List Value} {fs : List Value} {T : u_T} {N : Nat} (C0 : zC p s m args c D cI cZ A cc nL own) (hP : va_P D vwCl ws H) (hD : va_D A ws) (hS : va_S A s.heap H locs) (hZ : zSt A s s.heap) 
    (hM : Met l y (zW y bytes maxL ret) rm (va_Pc (.ref b :: As) (zPreS D cI cZ ws H.size)) (va_Qv (fun (_ : Unit) => True) (fun _ t => va_P D vwCl w1 t.heap) (va_A ws H.size)) 0 0 (va_A ws H.size)) (cw : CallW R s args own C index y bytes maxL ret (zW y bytes maxL ret) rm 0 0 n) (ci : Nat) (he : ws[0]? = some (b, .inr (ci, fs))) (hci : vwCl[ci]? = some (C, T, N))
    (hst : st0 = As.reverse ++ .ref b :: rest) (hlen : As.length = n) (hls : ls.size = nL) (hroom : (rest.map fun v => v.category).sum ≤ 8) (hdg : decode cc pc = .ok (.invokevirtual index, 3)) (hcs : cells ≤ R.cells ∧ slots ≤ R.slots)
    (kk : ∀ (H1 : Heap) (locs1 : List Loc), va_P D vwCl w1 H1 → va_S A s.heap H1 locs1 → W p l e R s m args below meth c H1 locs1 cells slots Q (F0 m (pc + 3) ls rest)) : W p l e R s m args below meth c H locs cells slots Q (F0 m pc ls st0) := by
  have hF : ∀ q, va_A ws H.size q → A q := fun q h => by
    rcases h with ⟨k, e, h⟩ | h
    · exact hD.2 k (q, e) h
    · exact C0.2.2.2.2.2.2 q (Nat.le_trans hS.1 h)
  refine va_callv (va_runV ⟨C0.1, C0.2.1, C0.2.2.1, C0.2.2.2.1, C0.2.2.2.2.1⟩ hM cw ⟨zPreS_blind, va_recv (q0 := 0) C0.2.2.2.2.2.1 hP hci he, fun U hU hW => ⟨rfl, zPreS_ok hP C0.2.2.2.2.2.1 hD hZ hS hF U hU hW⟩⟩ rfl hlen hls hst (lv_room hroom) hdg hcs) hS (fun q _ h => hF q h) hF (fun u t H1 locs1 ht hvm hr hB hz1 hk1 hS1 => ?_)
  rw [ht] at hB
  exact kk H1 locs1 hB hS1
end ZR
end
section
/-! ===== new cells: rows, constructors' entries and calls; worlds of two parts ===== -/
theorem zP_left {D : va_G} {a b : va_W} {H : Heap} (h : va_P D vwCl (a ++ b) H) : va_P D vwCl a H := fun k q hk => h k q (by rw [List.getElem?_append_left (List.getElem?_eq_some_iff.mp hk).1]; exact hk)
theorem zP_right {D : va_G} {a b : va_W} {H : Heap} (h : va_P D vwCl (a ++ b) H) : va_P D vwCl b H := fun k q hk => h (a.length + k) q (by rw [List.getElem?_append_right (by omega)]; simpa using hk)
theorem zD_left {A : Nat → Prop} {a b : va_W} (h : va_D A (a ++ b)) : va_D A a :=
  ⟨fun i j x y hx hy e => h.1 i j x y (by rw [List.getElem?_append_left (List.getElem?_eq_some_iff.mp hx).1]; exact hx) (by rw [List.getElem?_append_left (List.getElem?_eq_some_iff.mp hy).1]; exact hy) e, fun k q hk => h.2 k q (by rw [List.getElem?_append_left (List.getElem?_eq_some_iff.mp hk).1]; exact hk)⟩
theorem zD_right {A : Nat → Prop} {a b : va_W} (h : va_D A (a ++ b)) : va_D A b :=
  ⟨fun i j x y hx hy e => by
    have := h.1 (a.length + i) (a.length + j) x y (by rw [List.getElem?_append_right (by omega)]; simpa using hx) (by rw [List.getElem?_append_right (by omega)]; simpa using hy) e
    omega, fun k q hk => h.2 (a.length + k) q (by rw [List.getElem?_append_right (by omega)]; simpa using hk)⟩
theorem zD_apart {A : Nat → Prop} {a b : va_W} (h : va_D A (a ++ b)) {i j : Nat} {x y : Nat × va_E} (hx : a[i]? = some x) (hy : b[j]? = some y) : x.1 ≠ y.1 := by
  intro e
  have hl := (List.getElem?_eq_some_iff.mp hx).1
  have := h.1 i (a.length + j) x y (by rw [List.getElem?_append_left hl]; exact hx) (by rw [List.getElem?_append_right (by omega)]; simpa using hy) e
  omega
/-- the other part of a world stays through a call that is handed the one part -/
theorem zkeepL {A : Nat → Prop} {D : va_G} {a b : va_W} {H H1 : Heap} (hP : va_P D vwCl (a ++ b) H) (hD : va_D A (a ++ b)) (hk : ∀ q : Nat, q < H.size → ¬ va_A b H.size q → H1[q]? = H[q]?) : va_P D vwCl a H1 := by
  intro k q hq
  have h1 := zP_left hP k q hq
  refine h1.kept (hk q.1 h1.lt (fun h => ?_))
  rcases h with ⟨k2, e, h⟩ | h
  · exact zD_apart hD hq h rfl
  · have := h1.lt
    omega
theorem zkeepR {A : Nat → Prop} {D : va_G} {a b : va_W} {H H1 : Heap} (hP : va_P D vwCl (a ++ b) H) (hD : va_D A (a ++ b)) (hk : ∀ q : Nat, q < H.size → ¬ va_A a H.size q → H1[q]? = H[q]?) : va_P D vwCl b H1 := by
  intro k q hq
  have h1 := zP_right hP k q hq
  refine h1.kept (hk q.1 h1.lt (fun h => ?_))
  rcases h with ⟨k2, e, h⟩ | h
  · exact zD_apart hD h hq rfl
  · have := h1.lt
    omega
theorem zjoinR {A : Nat → Prop} {D : va_G} {a b b1 : va_W} {H H1 : Heap} (hP : va_P D vwCl (a ++ b) H) (hD : va_D A (a ++ b)) (hk : ∀ q : Nat, q < H.size → ¬ va_A b H.size q → H1[q]? = H[q]?) (hF : ∀ q, va_A b H.size q → A q) (hP1 : va_P D vwCl b1 H1) (hD1 : va_D (va_A b H.size) b1) : va_P D vwCl (a ++ b1) H1 ∧ va_D A (a ++ b1) := by
  refine ⟨va_P.app (zkeepL hP hD hk) hP1, va_D.app (zD_left hD) (hD1.weaken (fun k q _ h => hF q.1 h)) (fun i j x y hx hy e => ?_)⟩
  have hlt := (zP_left hP i x hx).lt
  rcases hD1.2 j y hy with ⟨k2, e2, h⟩ | h
  · exact zD_apart hD hx h e
  · omega
theorem zF_of {A : Nat → Prop} {ws : va_W} {H0 H : Heap} {locs : List Loc} (hD : va_D A ws) (hS : va_S A H0 H locs) (hA : ∀ q, H0.size ≤ q → A q) : ∀ q, va_A ws H.size q → A q := fun q h => by
  rcases h with ⟨k, e, h⟩ | h
  · exact hD.2 k (q, e) h
  · exact hA q (Nat.le_trans hS.1 h)
/-- the array that the constructor copies -/
def zCl (A : Nat → Prop) (U : State) (H : Heap) : Prop := ∃ (t : Nat) (cell : Cell) (cC : ClassId), va_Z "CounterHouse" "SETTING_AT_FIRST" "[I" (.ref t) A U H ∧ H[t]? = some cell ∧ cell.vm.isStatics = false ∧ cell.vm ≠ .unknown ∧ cell.slots = (arrV cell.cls 4 (fun j => .int (za zS3 j))).slots ∧ U.vm.findClass "[I" = some cell.cls ∧ U.vm.findClass "java/lang/Cloneable" = some cC ∧ U.vm.assignable cell.cls cC = true ∧ ¬ A t
theorem zCl_moved {A : Nat → Prop} {u U : State} {H : Heap} (hvm : u.vm.Alike U.vm) (h : zCl A u H) : zCl A U H := by
  obtain ⟨t, cell, cC, h1, h2, h3, h4, h5, h6, h7, h8, h9⟩ := h
  exact ⟨t, cell, cC, va_Z.moved hvm h1, h2, h3, h4, h5, by rw [hvm.findClass]; exact h6, by rw [hvm.findClass]; exact h7, by rw [hvm.assignable]; exact h8, h9⟩
theorem zCl_go {A B : Nat → Prop} {s U : State} {H : Heap} {locs : List Loc} (h : zCl A s s.heap) (hS : va_S A s.heap H locs) (hU : U.heap = H) (hW : s.WarmedH U.vm) (hAB : ∀ q, B q → A q) : zCl B U U.heap := by
  refine zCl_moved hW.alike ?_
  obtain ⟨t, cell, cC, h1, h2, h3, h4, h5, h6, h7, h8, h9⟩ := h
  rw [hU]
  exact ⟨t, cell, cC, (h1.kept hS.2.1).narrow hAB, by rw [hS.2.1 t (Array.getElem?_eq_some_iff.mp h2).1 h9]; exact h2, h3, h4, h5, h6, h7, h8, fun z => h9 (hAB t z)⟩
def zPreC (D : va_G) (cI cZ : ClassId) (ws : va_W) (sz : Nat) (U : State) : Prop := zPre D cI cZ ws sz U ∧ zCl (va_A ws sz) U U.heap
theorem zPreC_blind {av : List Value} {D : va_G} {cI cZ : ClassId} {ws : va_W} {sz : Nat} : FrameBlind (va_Pc av (zPreC D cI cZ ws sz)) := fun a U g mk q => by
  obtain ⟨q0, ⟨q1, qP, qK, qD⟩, hc⟩ := q
  have hal : U.vm.Alike (U.calling g mk a).vm := Vm.Alike.refl U.vm
  exact ⟨q0, ⟨q1, qP, va_K.moved (u := U) (U := U.calling g mk a) hal qK, qD⟩, zCl_moved (u := U) (U := U.calling g mk a) hal hc⟩
section ZC
variable {p : Program} {l : Launch} {e : Env} {R : Room} {s : State} {m : MethodId} {args : Array Value} {below : List Frame} {meth : Method} {c : Code} {H : Heap} {locs : List Loc} {cells slots : Nat} {Q : State → Prop}
variable {cc : ByteArray} {pc nL : Nat} {ls : Array Slot} {rest : List Value} {D : va_G} {cI cZ : ClassId} {A : Nat → Prop} {own : String} {ws : va_W} {a : Nat} {x y : Int}
theorem z_objinit (C0 : zC p s m args c D cI cZ A cc nL own) (hls : ls.size = nL) {idx : Nat} (h1 : Cond.methodLink own idx Lib.objectInit ∈ zTb) (h2 : Cond.instanceMethod Lib.objectInit ∈ zTb) (h3 : Cond.code Lib.objectInit ⟨#[0xb1]⟩ 1 none ∈ zTb) (hdg : decode cc pc = .ok (.invokespecial idx, 3)) (hf : 1 ≤ R.frames) (hl : (rest.map fun v => v.category).sum + 12 ≤ R.locals)
    (k : W p l e R s m args below meth c H locs cells slots Q (F0 m (pc + 3) ls rest)) : W p l e R s m args below meth c H locs cells slots Q (F0 m pc ls (.ref a :: rest)) :=
  W.objInit C0.1 C0.2.1 C0.2.2.2.1 (C0.2.2.2.2.1 _ h1) (C0.2.2.2.2.1 _ h2) (C0.2.2.2.2.1 _ h3) rfl (by rw [C0.2.2.1]; exact hls) rfl hdg hf (by show 2 * 0 + _ + 12 ≤ _; omega) k
theorem z_newi (C0 : zC p s m args c D cI cZ A cc nL own) (hP : va_P D vwCl ws H) (hD : va_D A ws) (hS : va_S A s.heap H locs) (N : Nat) (hN : N < 2147483648) (harr : Cond.arrayClass .int ∈ zTb) (hcells : cells + 1 ≤ R.cells) (hslots : slots + N ≤ R.slots) (hb : N * componentBytes .int ≤ 536870912) (hdg : decode cc pc = .ok (.newarray .int, 2))
    (kk : ∀ (q : Nat) (H1 : Heap), va_P D vwCl (ws ++ [(q, .inl (cI, N, .inl (za (fun _ => 0))))]) H1 → va_D A (ws ++ [(q, .inl (cI, N, .inl (za (fun _ => 0))))]) → va_S A s.heap H1 locs → W p l e R s m args below meth c H1 locs (cells + 1) (slots + N) Q (F0 m (pc + 2) ls (.ref q :: rest))) : W p l e R s m args below meth c H locs cells slots Q (F0 m pc ls (.int (zI (N : Int)) :: rest)) := by
  refine va_newa (atype := .int) (ty := .int) (a0 := (N, .inl (za (fun _ => 0)))) C0.1 C0.2.1 (C0.2.2.2.2.1 _ harr) rfl C0.2.2.2.2.2.1 hP hD hS C0.2.2.2.2.2.2 (fun _ => rfl) (by rw [zI_nat]; exact nI_pos (by omega)) (by rw [zI_nat]; exact nI_clamp (by omega)) hb hcells hslots hdg (fun q cA H1 hK1 hP1 hD1 hS1 => ?_)
  have e1 := va_nm_int (hK1.2 2 _ rfl).2
  have e2 := va_nm_int (hK1.2 0 _ rfl).2
  have e3 : cA = cI := Option.some.inj (e1.symm.trans e2)
  subst e3
  exact kk q H1 hP1 hD1 hS1
theorem z_newb (C0 : zC p s m args c D cI cZ A cc nL own) (hP : va_P D vwCl ws H) (hD : va_D A ws) (hS : va_S A s.heap H locs) (N : Nat) (hN : N < 2147483648) (harr : Cond.arrayClass .boolean ∈ zTb) (hcells : cells + 1 ≤ R.cells) (hslots : slots + N ≤ R.slots) (hb : N * componentBytes .boolean ≤ 536870912) (hdg : decode cc pc = .ok (.newarray .boolean, 2))
    (kk : ∀ (q : Nat) (H1 : Heap), va_P D vwCl (ws ++ [(q, .inl (cZ, N, .inl (za (fun _ => 0))))]) H1 → va_D A (ws ++ [(q, .inl (cZ, N, .inl (za (fun _ => 0))))]) → va_S A s.heap H1 locs → W p l e R s m args below meth c H1 locs (cells + 1) (slots + N) Q (F0 m (pc + 2) ls (.ref q :: rest))) : W p l e R s m args below meth c H locs cells slots Q (F0 m pc ls (.int (zI (N : Int)) :: rest)) := by
  refine va_newa (atype := .boolean) (ty := .boolean) (a0 := (N, .inl (za (fun _ => 0)))) C0.1 C0.2.1 (C0.2.2.2.2.1 _ harr) rfl C0.2.2.2.2.2.1 hP hD hS C0.2.2.2.2.2.2 (fun _ => rfl) (by rw [zI_nat]; exact nI_pos (by omega)) (by rw [zI_nat]; exact nI_clamp (by omega)) hb hcells hslots hdg (fun q cA H1 hK1 hP1 hD1 hS1 => ?_)
  have e1 := va_nm_boolean (hK1.2 2 _ rfl).2
  have e2 := va_nm_boolean (hK1.2 1 _ rfl).2
  have e3 : cA = cZ := Option.some.inj (e1.symm.trans e2)
  subst e3
  exact kk q H1 hP1 hD1 hS1
theorem z_clone (C0 : zC p s m args c D cI cZ A cc nL own) (hls : ls.size = nL) (hP : va_P D vwCl ws H) (hD : va_D A ws) (hS : va_S A s.heap H locs) {cell : Cell} {cC : ClassId} (g1 : s.heap[a]? = some cell) (g2 : cell.vm.isStatics = false) (g3 : cell.vm ≠ .unknown) (g4 : cell.slots = (arrV cell.cls 4 (fun j => .int (za zS3 j))).slots) (g5 : s.vm.findClass "[I" = some cell.cls) (g6 : s.vm.findClass "java/lang/Cloneable" = some cC) (g7 : s.vm.assignable cell.cls cC = true) (g8 : ¬ A a)
    {index : Nat} (h1 : Cond.methodLink own index ⟨"[I", "clone", "()Ljava/lang/Object;"⟩ ∈ zTb) (h2 : Cond.sameMethod "[I" "java/lang/Object" "clone" "()Ljava/lang/Object;" ∈ zTb) (h3 : Cond.native ⟨"java/lang/Object", "clone", "()Ljava/lang/Object;"⟩ ∈ zTb) (h4 : Cond.instanceMethod ⟨"java/lang/Object", "clone", "()Ljava/lang/Object;"⟩ ∈ zTb) (h5 : Cond.selects "[I" ⟨"[I", "clone", "()Ljava/lang/Object;"⟩ ⟨"java/lang/Object", "clone", "()Ljava/lang/Object;"⟩ ∈ zTb)
    (hframes : 1 ≤ R.frames) (hlocals : (rest.map fun v => v.category).sum + 14 ≤ R.locals) (hcells : cells + 1 ≤ R.cells) (hslots : slots + 4 ≤ R.slots) (hdg : decode cc pc = .ok (.invokevirtual index, 3))
    (kk : ∀ (q : Nat) (H1 : Heap), va_P D vwCl (ws ++ [(q, .inl (cI, 4, .inl (za zS3)))]) H1 → va_D A (ws ++ [(q, .inl (cI, 4, .inl (za zS3)))]) → va_S A s.heap H1 locs → W p l e R s m args below meth c H1 locs (cells + 1) (slots + 4) Q (F0 m (pc + 3) ls (.ref q :: rest))) : W p l e R s m args below meth c H locs cells slots Q (F0 m pc ls (.ref a :: rest)) := by
  have hK := C0.2.2.2.2.2.1
  have hsz : cell.slots.size = 4 := by rw [g4]; exact arrV_size _ _ _
  have hcI : cell.cls = cI := Option.some.inj (g5.symm.trans (va_nm_int (hK.2 0 _ rfl).2))
  have hcellE : ({ cls := cell.cls, slots := cell.slots } : Cell) = vp_cell cI (4, .inl (za zS3)) := by
    rw [vp_cell_i, ← hcI]
    rw [g4]
    rfl
  intro T hT X
  have hHt : H[a]? = some cell := by rw [hS.2.1 a (Array.getElem?_eq_some_iff.mp g1).1 g8]; exact g1
  obtain ⟨-, kA, hkA, comp, hkind⟩ := State.isArrayOf_alike X.warmed.alike ((hK.2 0 _ rfl).1 0 (fun _ => .null))
  obtain ⟨-, kS, hkS, compS, hkindS⟩ := (hK.2 0 _ rfl).1 0 (fun _ => .null)
  obtain ⟨vm', X', st⟩ := X.cloneArray C0.1 C0.2.2.2.1 (C0.2.2.2.2.1 _ h1) (C0.2.2.2.2.1 _ h2) (C0.2.2.2.2.1 _ h3) (C0.2.2.2.2.1 _ h4) (C0.2.2.2.2.1 _ h5) (a := a) (cell := cell) (by rw [hT]; exact hHt) (fun k h => by rw [h] at g2; cases g2) g3 g5 g6 g7
    (fun i v hv => by
      have hk' : T.vm.classes[cell.cls]? = some kA := by rw [hcI]; exact hkA
      have hf : fits .int v = true := va_fit (cA := cell.cls) (n := 4) (F := fun j => .int (za zS3 j)) (ty := .int) (fun _ _ => rfl) i v (by rw [← g4]; exact hv)
      simpa [State.fitsSlot, State.slotType?, hk', hkind] using hf)
    (g := F0 m pc ls (.ref a :: rest)) rfl (by rw [C0.2.2.1]; exact hls) rfl (by rw [C0.2.1]; exact hdg) hframes (by show 2 * 0 + _ + 14 ≤ _; omega) hcells (by rw [hsz]; exact hslots) (hloader := by rw [hcI]; exact Vm.clonesLoader_of_array hkS hkindS)
  rw [hcellE, hsz] at X'
  generalize hH1 : H.push (vp_cell cI (4, .inl (za zS3))) = H1
  have z1 : H1.size = H.size + 1 := by rw [← hH1, Array.size_push]
  have e1 : H1[H.size]? = some (vp_cell cI (4, .inl (za zS3))) := by rw [← hH1, Array.getElem?_push_size]
  have o1 : ∀ q : Nat, q < H.size → H1[q]? = H[q]? := fun q hq => by rw [← hH1, Array.getElem?_push, if_neg (Nat.ne_of_lt hq)]
  have hk : ∀ (k : Nat) (y : Nat × va_E), ws[k]? = some y → H1[y.1]? = H[y.1]? := fun k y hy => o1 y.1 ((hP k y hy).lt)
  obtain ⟨t, b1, b2⟩ := kk H.size H1 ((hP.kept hk).app (fun k y hy => by
      have hz : k < 1 := (List.getElem?_eq_some_iff.mp hy).1
      rw [show k = 0 by omega] at hy
      cases hy
      exact e1)) (hD.push hP rfl (C0.2.2.2.2.2.2 _ hS.1)) ⟨Nat.le_trans hS.1 (by omega), fun y h1 h2 => (o1 y (Nat.lt_of_lt_of_le h1 hS.1)).trans (hS.2.1 y h1 h2), hS.2.2⟩
    ((T.setVm vm').pushCell (vp_cell cI (4, .inl (za zS3)))) (by rw [← hH1, ← hT]; rfl) X'
  refine ⟨t, st t ?_, b2⟩
  rw [hcellE, hT]
  exact b1
theorem z_cast (C0 : zC p s m args c D cI cZ A cc nL own) {index : Nat} (hw : Cond.classLink own index "[I" ∈ zTb) (hP : va_P D vwCl ws H) (q0 : Nat) {f : vp_A} (ha : ws[q0]? = some (a, .inl (cI, f))) (hdg : decode cc pc = .ok (.checkcast index, 3)) (k : W p l e R s m args below meth c H locs cells slots Q (F0 m (pc + 3) ls (.ref a :: rest))) : W p l e R s m args below meth c H locs cells slots Q (F0 m pc ls (.ref a :: rest)) :=
  va_castA C0.1 C0.2.1 C0.2.2.2.1 (C0.2.2.2.2.1 _ hw) hP q0 ha (va_nm_int (C0.2.2.2.2.2.1.2 0 _ rfl).2) hdg k
theorem z_enter_c {y : MethodName} {maxL mc ms : Nat} {rm : Room} {av : List Value} {sz : Nat} {B : (Nat → Prop) → Heap → Prop} (hy : plainName y.cls = true) (hown : y.cls = own) (hnm : y.name = "<init>") (hmax : (lg_sl av).length ≤ maxL)
    (body : ∀ (p : Program) (e : Env) (s : State) (m : MethodId) (args : Array Value) (below : List Frame) (meth : Method) (c : Code) (A : Nat → Prop) (Q : State → Prop), zC p s m args c D cI cZ A cc maxL own → meth.name = "<init>" → va_P D vwCl ws s.heap → va_D A ws → va_S A s.heap s.heap [] → (∀ {pc : Nat} {H : Heap} {locs : List Loc} {ls : Array Slot}, B A H → va_S A s.heap H locs → decode cc pc = .ok (.return_, 1) → W p l e rm s m args below meth c H locs mc ms Q (F0 m pc ls [])) → ∀ ls : Array Slot, lv_has ls maxL (lv_args 0 av) → W p l e rm s m args below meth c s.heap [] 0 0 Q (F0 m 0 ls [])) :
    Met l y (zW y cc maxL none) rm (va_Pc av (zPre D cI cZ ws sz)) (va_Qv (fun (_ : Unit) => True) (fun _ t => B (va_A ws sz) t.heap) (va_A ws sz)) mc ms (va_A ws sz) := by
  refine Met.ofW (cc := cc) (maxL := maxL) (ret := none) hy rfl ?_
  intro p e s m args below meth c s₁ B0 hml hv
  obtain ⟨rfl, hsz, hP, hK, hD0⟩ := hv
  have hts := atoms_spec (ws := zW y cc maxL none) B0.pre
  have hown' : s.vm.findClass own = some m.cls := hown ▸ findClass_of_methodNamed B0.named
  have hin : meth.name = "<init>" := (name_of_methodNamed B0.named B0.method).1.trans hnm
  subst hsz
  rw [lg_entry_eq]
  have C0 : zC p s m av.toArray c D cI cZ (va_A ws s.heap.size) cc maxL own := ⟨B0.exec, B0.bytes, hml, hown', fun w hw => hts w (List.mem_cons_of_mem _ hw), hK, fun q h => Or.inr h⟩
  exact body p e s m _ below meth c _ _ C0 hin hP hD0.self va_S.rf (fun hB hS hd => W.vret C0.1 C0.2.1 B0.returns (fun t ht _ => ⟨⟨(), rfl, trivial, by show B _ t.heap; rw [ht]; exact hB⟩, hS.F ht⟩) hS.2.2 hd B0.notSynchronized) _ (lv_entry av hmax)
theorem z_enterC_c {y : MethodName} {maxL mc ms : Nat} {rm : Room} {av : List Value} {sz : Nat} {B : (Nat → Prop) → Heap → Prop} (hy : plainName y.cls = true) (hown : y.cls = own) (hnm : y.name = "<init>") (hmax : (lg_sl av).length ≤ maxL)
    (body : ∀ (p : Program) (e : Env) (s : State) (m : MethodId) (args : Array Value) (below : List Frame) (meth : Method) (c : Code) (A : Nat → Prop) (Q : State → Prop), zC p s m args c D cI cZ A cc maxL own → meth.name = "<init>" → va_P D vwCl ws s.heap → va_D A ws → va_S A s.heap s.heap [] → zCl A s s.heap → (∀ {pc : Nat} {H : Heap} {locs : List Loc} {ls : Array Slot}, B A H → va_S A s.heap H locs → decode cc pc = .ok (.return_, 1) → W p l e rm s m args below meth c H locs mc ms Q (F0 m pc ls [])) → ∀ ls : Array Slot, lv_has ls maxL (lv_args 0 av) → W p l e rm s m args below meth c s.heap [] 0 0 Q (F0 m 0 ls [])) :
    Met l y (zW y cc maxL none) rm (va_Pc av (zPreC D cI cZ ws sz)) (va_Qv (fun (_ : Unit) => True) (fun _ t => B (va_A ws sz) t.heap) (va_A ws sz)) mc ms (va_A ws sz) := by
  refine Met.ofW (cc := cc) (maxL := maxL) (ret := none) hy rfl ?_
  intro p e s m args below meth c s₁ B0 hml hv
  obtain ⟨rfl, ⟨hsz, hP, hK, hD0⟩, hcl⟩ := hv
  have hts := atoms_spec (ws := zW y cc maxL none) B0.pre
  have hown' : s.vm.findClass own = some m.cls := hown ▸ findClass_of_methodNamed B0.named
  have hin : meth.name = "<init>" := (name_of_methodNamed B0.named B0.method).1.trans hnm
  subst hsz
  rw [lg_entry_eq]
  have C0 : zC p s m av.toArray c D cI cZ (va_A ws s.heap.size) cc maxL own := ⟨B0.exec, B0.bytes, hml, hown', fun w hw => hts w (List.mem_cons_of_mem _ hw), hK, fun q h => Or.inr h⟩
  exact body p e s m _ below meth c _ _ C0 hin hP hD0.self va_S.rf hcl (fun hB hS hd => W.vret C0.1 C0.2.1 B0.returns (fun t ht _ => ⟨⟨(), rfl, trivial, by show B _ t.heap; rw [ht]; exact hB⟩, hS.F ht⟩) hS.2.2 hd B0.notSynchronized) _ (lv_entry av hmax)
theorem z_cwI {index maxL mc ms : Nat} {y : MethodName} {bytes : ByteArray} {rm : Room} (h1 : Cond.methodLink own index y ∈ zTb) (h2 : Cond.instanceMethod y ∈ zTb) (h4 : Cond.initialized y.cls ∈ zTb) (h5 : Cond.code y bytes maxL none ∈ zTb) (hc : rm.cells = mc) (hs : rm.slots = ms) (hy : y.name = "<init>")
    (hd : y.cls ≠ "java/lang/invoke/MethodHandle" ∧ y.cls ≠ "java/lang/invoke/VarHandle" ∧ (parseMethodDescriptor y.desc).map (fun d => d.parameters.length) = some 0) (hR : rm.frames + 1 ≤ R.frames ∧ 8 + (maxL + 11) + rm.locals ≤ R.locals) (ht : ∀ w ∈ zTb, w.before args s = true) :
    CallB R s args own index y bytes maxL none (zW y bytes maxL none) rm mc ms 0 ∧ y.name = "<init>" ∧ (Cond.instanceMethod y).before args s = true :=
  cwI 0 ht (zgoodc (fun w hw => by
    rcases List.mem_cons.mp hw with rfl | h
    · exact h5
    · exact h)) rfl hc hs (ht _ h4) (ht _ h1) (ht _ h2) hy hd hR
/-- a constructor's call: the new object is the world's last cell -/
theorem z_callI {wr wc : va_W} {y : MethodName} {bytes : ByteArray} {maxL mc ms index : Nat} {rm : Room} {b : Nat} {wf : (Nat → Nat) → va_W} (C0 : zC p s m args c D cI cZ A cc nL own) (hP : va_P D vwCl (wr ++ wc) H) (hD : va_D A (wr ++ wc)) (hS : va_S A s.heap H locs)
    (hM : Met l y (zW y bytes maxL none) rm (va_Pc [.ref b] (zPre D cI cZ wc H.size)) (va_Qv (fun (_ : Unit) => True) (fun _ t => ∃ h : Nat → Nat, h 0 = b ∧ va_P D vwCl (wf h) t.heap ∧ va_D (va_A wc H.size) (wf h)) (va_A wc H.size)) mc ms (va_A wc H.size)) (cw : CallB R s args own index y bytes maxL none (zW y bytes maxL none) rm mc ms 0 ∧ y.name = "<init>" ∧ (Cond.instanceMethod y).before args s = true)
    (hls : ls.size = nL) (hroom : (rest.map fun v => v.category).sum ≤ 8) (hdg : decode cc pc = .ok (.invokespecial index, 3)) (hcs : cells + mc ≤ R.cells ∧ slots + ms ≤ R.slots)
    (kk : ∀ (h : Nat → Nat) (H1 : Heap) (locs1 : List Loc), h 0 = b → va_P D vwCl (wr ++ wf h) H1 → va_D A (wr ++ wf h) → va_S A s.heap H1 locs1 → W p l e R s m args below meth c H1 locs1 (cells + mc) (slots + ms) Q (F0 m (pc + 3) ls rest)) : W p l e R s m args below meth c H locs cells slots Q (F0 m pc ls (.ref b :: rest)) := by
  have hF := zF_of (zD_right hD) hS C0.2.2.2.2.2.2
  refine va_callv (va_runI (As := []) ⟨C0.1, C0.2.1, C0.2.2.1, C0.2.2.2.1, C0.2.2.2.2.1⟩ hM cw ⟨zPre_blind, fun U hU hW => ⟨rfl, zPre_ok (zP_right hP) C0.2.2.2.2.2.1 (zD_right hD) U hU hW⟩⟩ rfl rfl hls rfl (lv_room hroom) hdg hcs) hS (fun q _ h => hF q h) hF (fun u t H1 locs1 ht hvm hr hB hz1 hk1 hS1 => ?_)
  obtain ⟨h, h0, hP1, hD1⟩ := hB
  rw [ht] at hP1
  obtain ⟨g1, g2⟩ := zjoinR hP hD hk1 hF hP1 hD1
  exact kk h H1 locs1 h0 g1 g2 hS1
theorem z_callIC {wr wc : va_W} {y : MethodName} {bytes : ByteArray} {maxL mc ms index : Nat} {rm : Room} {b : Nat} {wf : (Nat → Nat) → va_W} (C0 : zC p s m args c D cI cZ A cc nL own) (hP : va_P D vwCl (wr ++ wc) H) (hD : va_D A (wr ++ wc)) (hS : va_S A s.heap H locs) (hcl : zCl A s s.heap)
    (hM : Met l y (zW y bytes maxL none) rm (va_Pc [.ref b] (zPreC D cI cZ wc H.size)) (va_Qv (fun (_ : Unit) => True) (fun _ t => ∃ h : Nat → Nat, h 0 = b ∧ va_P D vwCl (wf h) t.heap ∧ va_D (va_A wc H.size) (wf h)) (va_A wc H.size)) mc ms (va_A wc H.size)) (cw : CallB R s args own index y bytes maxL none (zW y bytes maxL none) rm mc ms 0 ∧ y.name = "<init>" ∧ (Cond.instanceMethod y).before args s = true)
    (hls : ls.size = nL) (hroom : (rest.map fun v => v.category).sum ≤ 8) (hdg : decode cc pc = .ok (.invokespecial index, 3)) (hcs : cells + mc ≤ R.cells ∧ slots + ms ≤ R.slots)
    (kk : ∀ (h : Nat → Nat) (H1 : Heap) (locs1 : List Loc), h 0 = b → va_P D vwCl (wr ++ wf h) H1 → va_D A (wr ++ wf h) → va_S A s.heap H1 locs1 → W p l e R s m args below meth c H1 locs1 (cells + mc) (slots + ms) Q (F0 m (pc + 3) ls rest)) : W p l e R s m args below meth c H locs cells slots Q (F0 m pc ls (.ref b :: rest)) := by
  have hF := zF_of (zD_right hD) hS C0.2.2.2.2.2.2
  refine va_callv (va_runI (As := []) ⟨C0.1, C0.2.1, C0.2.2.1, C0.2.2.2.1, C0.2.2.2.2.1⟩ hM cw ⟨zPreC_blind, fun U hU hW => ⟨rfl, zPre_ok (zP_right hP) C0.2.2.2.2.2.1 (zD_right hD) U hU hW, zCl_go hcl hS hU hW hF⟩⟩ rfl rfl hls rfl (lv_room hroom) hdg hcs) hS (fun q _ h => hF q h) hF (fun u t H1 locs1 ht hvm hr hB hz1 hk1 hS1 => ?_)
  obtain ⟨h, h0, hP1, hD1⟩ := hB
  rw [ht] at hP1
  obtain ⟨g1, g2⟩ := zjoinR hP hD hk1 hF hP1 hD1
  exact kk h H1 locs1 h0 g1 g2 hS1
end ZC
end
section
abbrev zRowT : Type := (Nat → Int) × (Nat → Int) × (Nat → Int) × Int
def zr_when (t : zRowT) : (Nat → Int) := t.1
def zr_plane (t : zRowT) : (Nat → Int) := t.2.1
def zr_strip (t : zRowT) : (Nat → Int) := t.2.2.1
def zr_size (t : zRowT) : Int := t.2.2.2
def zk_R (whenV : (Nat → Int)) (planeV : (Nat → Int)) (stripV : (Nat → Int)) (sizeV : Int) : zRowT := (whenV, planeV, stripV, sizeV)
def zrs_when (t : zRowT) (v : (Nat → Int)) : zRowT := (v, t.2.1, t.2.2.1, t.2.2.2)
def zrs_plane (t : zRowT) (v : (Nat → Int)) : zRowT := (t.1, v, t.2.2.1, t.2.2.2)
def zrs_strip (t : zRowT) (v : (Nat → Int)) : zRowT := (t.1, t.2.1, v, t.2.2.2)
def zrs_size (t : zRowT) (v : Int) : zRowT := (t.1, t.2.1, t.2.2.1, v)
theorem zk_R_eta (t : zRowT) : zk_R (zr_when t) (zr_plane t) (zr_strip t) (zr_size t) = t := rfl
abbrev zGrT : Type := (Nat → Int) × (Nat → Int) × (Nat → Int) × (Nat → Int) × (Nat → Int) × (Nat → Int) × Int
def zg_first (t : zGrT) : (Nat → Int) := t.1
def zg_set (t : zGrT) : (Nat → Int) := t.2.1
def zg_trackStart (t : zGrT) : (Nat → Int) := t.2.2.1
def zg_trackSlope (t : zGrT) : (Nat → Int) := t.2.2.2.1
def zg_trackSet (t : zGrT) : (Nat → Int) := t.2.2.2.2.1
def zg_trackMisses (t : zGrT) : (Nat → Int) := t.2.2.2.2.2.1
def zg_size (t : zGrT) : Int := t.2.2.2.2.2.2
def zk_G (firstV : (Nat → Int)) (setV : (Nat → Int)) (trackStartV : (Nat → Int)) (trackSlopeV : (Nat → Int)) (trackSetV : (Nat → Int)) (trackMissesV : (Nat → Int)) (sizeV : Int) : zGrT := (firstV, setV, trackStartV, trackSlopeV, trackSetV, trackMissesV, sizeV)
def zgs_first (t : zGrT) (v : (Nat → Int)) : zGrT := (v, t.2.1, t.2.2.1, t.2.2.2.1, t.2.2.2.2.1, t.2.2.2.2.2.1, t.2.2.2.2.2.2)
def zgs_set (t : zGrT) (v : (Nat → Int)) : zGrT := (t.1, v, t.2.2.1, t.2.2.2.1, t.2.2.2.2.1, t.2.2.2.2.2.1, t.2.2.2.2.2.2)
def zgs_trackStart (t : zGrT) (v : (Nat → Int)) : zGrT := (t.1, t.2.1, v, t.2.2.2.1, t.2.2.2.2.1, t.2.2.2.2.2.1, t.2.2.2.2.2.2)
def zgs_trackSlope (t : zGrT) (v : (Nat → Int)) : zGrT := (t.1, t.2.1, t.2.2.1, v, t.2.2.2.2.1, t.2.2.2.2.2.1, t.2.2.2.2.2.2)
def zgs_trackSet (t : zGrT) (v : (Nat → Int)) : zGrT := (t.1, t.2.1, t.2.2.1, t.2.2.2.1, v, t.2.2.2.2.2.1, t.2.2.2.2.2.2)
def zgs_trackMisses (t : zGrT) (v : (Nat → Int)) : zGrT := (t.1, t.2.1, t.2.2.1, t.2.2.2.1, t.2.2.2.2.1, v, t.2.2.2.2.2.2)
def zgs_size (t : zGrT) (v : Int) : zGrT := (t.1, t.2.1, t.2.2.1, t.2.2.2.1, t.2.2.2.2.1, t.2.2.2.2.2.1, v)
theorem zk_G_eta (t : zGrT) : zk_G (zg_first t) (zg_set t) (zg_trackStart t) (zg_trackSlope t) (zg_trackSet t) (zg_trackMisses t) (zg_size t) = t := rfl
abbrev zLsT : Type := (Nat → Int) × Int × Int × Int × Int
def zs_strips (t : zLsT) : (Nat → Int) := t.1
def zs_start (t : zLsT) : Int := t.2.1
def zs_slope (t : zLsT) : Int := t.2.2.1
def zs_set (t : zLsT) : Int := t.2.2.2.1
def zs_misses (t : zLsT) : Int := t.2.2.2.2
def zk_S (stripsV : (Nat → Int)) (startV : Int) (slopeV : Int) (setV : Int) (missesV : Int) : zLsT := (stripsV, startV, slopeV, setV, missesV)
def zss_strips (t : zLsT) (v : (Nat → Int)) : zLsT := (v, t.2.1, t.2.2.1, t.2.2.2.1, t.2.2.2.2)
def zss_start (t : zLsT) (v : Int) : zLsT := (t.1, v, t.2.2.1, t.2.2.2.1, t.2.2.2.2)
def zss_slope (t : zLsT) (v : Int) : zLsT := (t.1, t.2.1, v, t.2.2.2.1, t.2.2.2.2)
def zss_set (t : zLsT) (v : Int) : zLsT := (t.1, t.2.1, t.2.2.1, v, t.2.2.2.2)
def zss_misses (t : zLsT) (v : Int) : zLsT := (t.1, t.2.1, t.2.2.1, t.2.2.2.1, v)
theorem zk_S_eta (t : zLsT) : zk_S (zs_strips t) (zs_start t) (zs_slope t) (zs_set t) (zs_misses t) = t := rfl
abbrev zXT : Type := (Nat → Int) × (Nat → Int) × (Nat → Int) × (Nat → Int) × zRowT × zRowT × zRowT × zGrT × zLsT × (Nat → Int) × Int × Int × Int × Int
def zx_lag (t : zXT) : (Nat → Int) := t.1
def zx_dead (t : zXT) : (Nat → Int) := t.2.1
def zx_manner (t : zXT) : (Nat → Int) := t.2.2.1
def zx_setting (t : zXT) : (Nat → Int) := t.2.2.2.1
def zx_keptRow (t : zXT) : zRowT := t.2.2.2.2.1
def zx_liveRow (t : zXT) : zRowT := t.2.2.2.2.2.1
def zx_shiftedRow (t : zXT) : zRowT := t.2.2.2.2.2.2.1
def zx_groups (t : zXT) : zGrT := t.2.2.2.2.2.2.2.1
def zx_search (t : zXT) : zLsT := t.2.2.2.2.2.2.2.2.1
def zx_deadUntil (t : zXT) : (Nat → Int) := t.2.2.2.2.2.2.2.2.2.1
def zx_settled (t : zXT) : Int := t.2.2.2.2.2.2.2.2.2.2.1
def zx_known (t : zXT) : Int := t.2.2.2.2.2.2.2.2.2.2.2.1
def zx_tooLate (t : zXT) : Int := t.2.2.2.2.2.2.2.2.2.2.2.2.1
def zx_ended (t : zXT) : Int := t.2.2.2.2.2.2.2.2.2.2.2.2.2
def zk_X (lagV : (Nat → Int)) (deadV : (Nat → Int)) (mannerV : (Nat → Int)) (settingV : (Nat → Int)) (keptRowV : zRowT) (liveRowV : zRowT) (shiftedRowV : zRowT) (groupsV : zGrT) (searchV : zLsT) (deadUntilV : (Nat → Int)) (settledV : Int) (knownV : Int) (tooLateV : Int) (endedV : Int) : zXT := (lagV, deadV, mannerV, settingV, keptRowV, liveRowV, shiftedRowV, groupsV, searchV, deadUntilV, settledV, knownV, tooLateV, endedV)
def zxs_lag (t : zXT) (v : (Nat → Int)) : zXT := (v, t.2.1, t.2.2.1, t.2.2.2.1, t.2.2.2.2.1, t.2.2.2.2.2.1, t.2.2.2.2.2.2.1, t.2.2.2.2.2.2.2.1, t.2.2.2.2.2.2.2.2.1, t.2.2.2.2.2.2.2.2.2.1, t.2.2.2.2.2.2.2.2.2.2.1, t.2.2.2.2.2.2.2.2.2.2.2.1, t.2.2.2.2.2.2.2.2.2.2.2.2.1, t.2.2.2.2.2.2.2.2.2.2.2.2.2)
def zxs_dead (t : zXT) (v : (Nat → Int)) : zXT := (t.1, v, t.2.2.1, t.2.2.2.1, t.2.2.2.2.1, t.2.2.2.2.2.1, t.2.2.2.2.2.2.1, t.2.2.2.2.2.2.2.1, t.2.2.2.2.2.2.2.2.1, t.2.2.2.2.2.2.2.2.2.1, t.2.2.2.2.2.2.2.2.2.2.1, t.2.2.2.2.2.2.2.2.2.2.2.1, t.2.2.2.2.2.2.2.2.2.2.2.2.1, t.2.2.2.2.2.2.2.2.2.2.2.2.2)
def zxs_manner (t : zXT) (v : (Nat → Int)) : zXT := (t.1, t.2.1, v, t.2.2.2.1, t.2.2.2.2.1, t.2.2.2.2.2.1, t.2.2.2.2.2.2.1, t.2.2.2.2.2.2.2.1, t.2.2.2.2.2.2.2.2.1, t.2.2.2.2.2.2.2.2.2.1, t.2.2.2.2.2.2.2.2.2.2.1, t.2.2.2.2.2.2.2.2.2.2.2.1, t.2.2.2.2.2.2.2.2.2.2.2.2.1, t.2.2.2.2.2.2.2.2.2.2.2.2.2)
def zxs_setting (t : zXT) (v : (Nat → Int)) : zXT := (t.1, t.2.1, t.2.2.1, v, t.2.2.2.2.1, t.2.2.2.2.2.1, t.2.2.2.2.2.2.1, t.2.2.2.2.2.2.2.1, t.2.2.2.2.2.2.2.2.1, t.2.2.2.2.2.2.2.2.2.1, t.2.2.2.2.2.2.2.2.2.2.1, t.2.2.2.2.2.2.2.2.2.2.2.1, t.2.2.2.2.2.2.2.2.2.2.2.2.1, t.2.2.2.2.2.2.2.2.2.2.2.2.2)
def zxs_keptRow (t : zXT) (v : zRowT) : zXT := (t.1, t.2.1, t.2.2.1, t.2.2.2.1, v, t.2.2.2.2.2.1, t.2.2.2.2.2.2.1, t.2.2.2.2.2.2.2.1, t.2.2.2.2.2.2.2.2.1, t.2.2.2.2.2.2.2.2.2.1, t.2.2.2.2.2.2.2.2.2.2.1, t.2.2.2.2.2.2.2.2.2.2.2.1, t.2.2.2.2.2.2.2.2.2.2.2.2.1, t.2.2.2.2.2.2.2.2.2.2.2.2.2)
def zxs_liveRow (t : zXT) (v : zRowT) : zXT := (t.1, t.2.1, t.2.2.1, t.2.2.2.1, t.2.2.2.2.1, v, t.2.2.2.2.2.2.1, t.2.2.2.2.2.2.2.1, t.2.2.2.2.2.2.2.2.1, t.2.2.2.2.2.2.2.2.2.1, t.2.2.2.2.2.2.2.2.2.2.1, t.2.2.2.2.2.2.2.2.2.2.2.1, t.2.2.2.2.2.2.2.2.2.2.2.2.1, t.2.2.2.2.2.2.2.2.2.2.2.2.2)
def zxs_shiftedRow (t : zXT) (v : zRowT) : zXT := (t.1, t.2.1, t.2.2.1, t.2.2.2.1, t.2.2.2.2.1, t.2.2.2.2.2.1, v, t.2.2.2.2.2.2.2.1, t.2.2.2.2.2.2.2.2.1, t.2.2.2.2.2.2.2.2.2.1, t.2.2.2.2.2.2.2.2.2.2.1, t.2.2.2.2.2.2.2.2.2.2.2.1, t.2.2.2.2.2.2.2.2.2.2.2.2.1, t.2.2.2.2.2.2.2.2.2.2.2.2.2)
def zxs_groups (t : zXT) (v : zGrT) : zXT := (t.1, t.2.1, t.2.2.1, t.2.2.2.1, t.2.2.2.2.1, t.2.2.2.2.2.1, t.2.2.2.2.2.2.1, v, t.2.2.2.2.2.2.2.2.1, t.2.2.2.2.2.2.2.2.2.1, t.2.2.2.2.2.2.2.2.2.2.1, t.2.2.2.2.2.2.2.2.2.2.2.1, t.2.2.2.2.2.2.2.2.2.2.2.2.1, t.2.2.2.2.2.2.2.2.2.2.2.2.2)
def zxs_search (t : zXT) (v : zLsT) : zXT := (t.1, t.2.1, t.2.2.1, t.2.2.2.1, t.2.2.2.2.1, t.2.2.2.2.2.1, t.2.2.2.2.2.2.1, t.2.2.2.2.2.2.2.1, v, t.2.2.2.2.2.2.2.2.2.1, t.2.2.2.2.2.2.2.2.2.2.1, t.2.2.2.2.2.2.2.2.2.2.2.1, t.2.2.2.2.2.2.2.2.2.2.2.2.1, t.2.2.2.2.2.2.2.2.2.2.2.2.2)
def zxs_deadUntil (t : zXT) (v : (Nat → Int)) : zXT := (t.1, t.2.1, t.2.2.1, t.2.2.2.1, t.2.2.2.2.1, t.2.2.2.2.2.1, t.2.2.2.2.2.2.1, t.2.2.2.2.2.2.2.1, t.2.2.2.2.2.2.2.2.1, v, t.2.2.2.2.2.2.2.2.2.2.1, t.2.2.2.2.2.2.2.2.2.2.2.1, t.2.2.2.2.2.2.2.2.2.2.2.2.1, t.2.2.2.2.2.2.2.2.2.2.2.2.2)
def zxs_settled (t : zXT) (v : Int) : zXT := (t.1, t.2.1, t.2.2.1, t.2.2.2.1, t.2.2.2.2.1, t.2.2.2.2.2.1, t.2.2.2.2.2.2.1, t.2.2.2.2.2.2.2.1, t.2.2.2.2.2.2.2.2.1, t.2.2.2.2.2.2.2.2.2.1, v, t.2.2.2.2.2.2.2.2.2.2.2.1, t.2.2.2.2.2.2.2.2.2.2.2.2.1, t.2.2.2.2.2.2.2.2.2.2.2.2.2)
def zxs_known (t : zXT) (v : Int) : zXT := (t.1, t.2.1, t.2.2.1, t.2.2.2.1, t.2.2.2.2.1, t.2.2.2.2.2.1, t.2.2.2.2.2.2.1, t.2.2.2.2.2.2.2.1, t.2.2.2.2.2.2.2.2.1, t.2.2.2.2.2.2.2.2.2.1, t.2.2.2.2.2.2.2.2.2.2.1, v, t.2.2.2.2.2.2.2.2.2.2.2.2.1, t.2.2.2.2.2.2.2.2.2.2.2.2.2)
def zxs_tooLate (t : zXT) (v : Int) : zXT := (t.1, t.2.1, t.2.2.1, t.2.2.2.1, t.2.2.2.2.1, t.2.2.2.2.2.1, t.2.2.2.2.2.2.1, t.2.2.2.2.2.2.2.1, t.2.2.2.2.2.2.2.2.1, t.2.2.2.2.2.2.2.2.2.1, t.2.2.2.2.2.2.2.2.2.2.1, t.2.2.2.2.2.2.2.2.2.2.2.1, v, t.2.2.2.2.2.2.2.2.2.2.2.2.2)
def zxs_ended (t : zXT) (v : Int) : zXT := (t.1, t.2.1, t.2.2.1, t.2.2.2.1, t.2.2.2.2.1, t.2.2.2.2.2.1, t.2.2.2.2.2.2.1, t.2.2.2.2.2.2.2.1, t.2.2.2.2.2.2.2.2.1, t.2.2.2.2.2.2.2.2.2.1, t.2.2.2.2.2.2.2.2.2.2.1, t.2.2.2.2.2.2.2.2.2.2.2.1, t.2.2.2.2.2.2.2.2.2.2.2.2.1, v)
theorem zk_X_eta (t : zXT) : zk_X (zx_lag t) (zx_dead t) (zx_manner t) (zx_setting t) (zx_keptRow t) (zx_liveRow t) (zx_shiftedRow t) (zx_groups t) (zx_search t) (zx_deadUntil t) (zx_settled t) (zx_known t) (zx_tooLate t) (zx_ended t) = t := rfl
abbrev zMT : Type := (Nat → Int) × (Nat → Int) × (Nat → Int) × (Nat → Int) × (Nat → Int) × (Nat → Int) × Int × (Nat → Int) × (Nat → Int) × (Nat → Int) × Int × Int × (Nat → Int) × (Nat → Int) × Int × (Nat → Int) × (Nat → Int) × (Nat → Int) × Int × Int × (Nat → Int) × Int × Int × Int × Int × Int × Int × Int
def zm_lag (t : zMT) : (Nat → Int) := t.1
def zm_dead (t : zMT) : (Nat → Int) := t.2.1
def zm_manner (t : zMT) : (Nat → Int) := t.2.2.1
def zm_setting (t : zMT) : (Nat → Int) := t.2.2.2.1
def zm_leastOf (t : zMT) : (Nat → Int) := t.2.2.2.2.1
def zm_mostOf (t : zMT) : (Nat → Int) := t.2.2.2.2.2.1
def zm_kept (t : zMT) : Int := t.2.2.2.2.2.2.1
def zm_planeOf (t : zMT) : (Nat → Int) := t.2.2.2.2.2.2.2.1
def zm_momentOf (t : zMT) : (Nat → Int) := t.2.2.2.2.2.2.2.2.1
def zm_stripOf (t : zMT) : (Nat → Int) := t.2.2.2.2.2.2.2.2.2.1
def zm_late (t : zMT) : Int := t.2.2.2.2.2.2.2.2.2.2.1
def zm_isOver (t : zMT) : Int := t.2.2.2.2.2.2.2.2.2.2.2.1
def zm_isLive (t : zMT) : (Nat → Int) := t.2.2.2.2.2.2.2.2.2.2.2.2.1
def zm_endOf (t : zMT) : (Nat → Int) := t.2.2.2.2.2.2.2.2.2.2.2.2.2.1
def zm_known (t : zMT) : Int := t.2.2.2.2.2.2.2.2.2.2.2.2.2.2.1
def zm_timeOf (t : zMT) : (Nat → Int) := t.2.2.2.2.2.2.2.2.2.2.2.2.2.2.2.1
def zm_pulseOf (t : zMT) : (Nat → Int) := t.2.2.2.2.2.2.2.2.2.2.2.2.2.2.2.2.1
def zm_groupOf (t : zMT) : (Nat → Int) := t.2.2.2.2.2.2.2.2.2.2.2.2.2.2.2.2.2.1
def zm_groups (t : zMT) : Int := t.2.2.2.2.2.2.2.2.2.2.2.2.2.2.2.2.2.2.1
def zm_shut (t : zMT) : Int := t.2.2.2.2.2.2.2.2.2.2.2.2.2.2.2.2.2.2.2.1
def zm_firstOf (t : zMT) : (Nat → Int) := t.2.2.2.2.2.2.2.2.2.2.2.2.2.2.2.2.2.2.2.2.1
def zm_agrees (t : zMT) : Int := t.2.2.2.2.2.2.2.2.2.2.2.2.2.2.2.2.2.2.2.2.2.1
def zm_agreeSet (t : zMT) : Int := t.2.2.2.2.2.2.2.2.2.2.2.2.2.2.2.2.2.2.2.2.2.2.1
def zm_missed (t : zMT) : Int := t.2.2.2.2.2.2.2.2.2.2.2.2.2.2.2.2.2.2.2.2.2.2.2.1
def zm_bestA (t : zMT) : Int := t.2.2.2.2.2.2.2.2.2.2.2.2.2.2.2.2.2.2.2.2.2.2.2.2.1
def zm_bestB (t : zMT) : Int := t.2.2.2.2.2.2.2.2.2.2.2.2.2.2.2.2.2.2.2.2.2.2.2.2.2.1
def zm_bestAgrees (t : zMT) : Int := t.2.2.2.2.2.2.2.2.2.2.2.2.2.2.2.2.2.2.2.2.2.2.2.2.2.2.1
def zm_bestMissed (t : zMT) : Int := t.2.2.2.2.2.2.2.2.2.2.2.2.2.2.2.2.2.2.2.2.2.2.2.2.2.2.2
def zk_M (lagV : (Nat → Int)) (deadV : (Nat → Int)) (mannerV : (Nat → Int)) (settingV : (Nat → Int)) (leastOfV : (Nat → Int)) (mostOfV : (Nat → Int)) (keptV : Int) (planeOfV : (Nat → Int)) (momentOfV : (Nat → Int)) (stripOfV : (Nat → Int)) (lateV : Int) (isOverV : Int) (isLiveV : (Nat → Int)) (endOfV : (Nat → Int)) (knownV : Int) (timeOfV : (Nat → Int)) (pulseOfV : (Nat → Int)) (groupOfV : (Nat → Int)) (groupsV : Int) (shutV : Int) (firstOfV : (Nat → Int)) (agreesV : Int) (agreeSetV : Int) (missedV : Int) (bestAV : Int) (bestBV : Int) (bestAgreesV : Int) (bestMissedV : Int) : zMT := (lagV, deadV, mannerV, settingV, leastOfV, mostOfV, keptV, planeOfV, momentOfV, stripOfV, lateV, isOverV, isLiveV, endOfV, knownV, timeOfV, pulseOfV, groupOfV, groupsV, shutV, firstOfV, agreesV, agreeSetV, missedV, bestAV, bestBV, bestAgreesV, bestMissedV)
def zms_lag (t : zMT) (v : (Nat → Int)) : zMT := (v, t.2.1, t.2.2.1, t.2.2.2.1, t.2.2.2.2.1, t.2.2.2.2.2.1, t.2.2.2.2.2.2.1, t.2.2.2.2.2.2.2.1, t.2.2.2.2.2.2.2.2.1, t.2.2.2.2.2.2.2.2.2.1, t.2.2.2.2.2.2.2.2.2.2.1, t.2.2.2.2.2.2.2.2.2.2.2.1, t.2.2.2.2.2.2.2.2.2.2.2.2.1, t.2.2.2.2.2.2.2.2.2.2.2.2.2.1, t.2.2.2.2.2.2.2.2.2.2.2.2.2.2.1, t.2.2.2.2.2.2.2.2.2.2.2.2.2.2.2.1, t.2.2.2.2.2.2.2.2.2.2.2.2.2.2.2.2.1, t.2.2.2.2.2.2.2.2.2.2.2.2.2.2.2.2.2.1, t.2.2.2.2.2.2.2.2.2.2.2.2.2.2.2.2.2.2.1, t.2.2.2.2.2.2.2.2.2.2.2.2.2.2.2.2.2.2.2.1, t.2.2.2.2.2.2.2.2.2.2.2.2.2.2.2.2.2.2.2.2.1, t.2.2.2.2.2.2.2.2.2.2.2.2.2.2.2.2.2.2.2.2.2.1, t.2.2.2.2.2.2.2.2.2.2.2.2.2.2.2.2.2.2.2.2.2.2.1, t.2.2.2.2.2.2.2.2.2.2.2.2.2.2.2.2.2.2.2.2.2.2.2.1, t.2.2.2.2.2.2.2.2.2.2.2.2.2.2.2.2.2.2.2.2.2.2.2.2.1, t.2.2.2.2.2.2.2.2.2.2.2.2.2.2.2.2.2.2.2.2.2.2.2.2.2.1, t.2.2.2.2.2.2.2.2.2.2.2.2.2.2.2.2.2.2.2.2.2.2.2.2.2.2.1, t.2.2.2.2.2.2.2.2.2.2.2.2.2.2.2.2.2.2.2.2.2.2.2.2.2.2.2)
def zms_dead (t : zMT) (v : (Nat → Int)) : zMT := (t.1, v, t.2.2.1, t.2.2.2.1, t.2.2.2.2.1, t.2.2.2.2.2.1, t.2.2.2.2.2.2.1, t.2.2.2.2.2.2.2.1, t.2.2.2.2.2.2.2.2.1, t.2.2.2.2.2.2.2.2.2.1, t.2.2.2.2.2.2.2.2.2.2.1, t.2.2.2.2.2.2.2.2.2.2.2.1, t.2.2.2.2.2.2.2.2.2.2.2.2.1, t.2.2.2.2.2.2.2.2.2.2.2.2.2.1, t.2.2.2.2.2.2.2.2.2.2.2.2.2.2.1, t.2.2.2.2.2.2.2.2.2.2.2.2.2.2.2.1, t.2.2.2.2.2.2.2.2.2.2.2.2.2.2.2.2.1, t.2.2.2.2.2.2.2.2.2.2.2.2.2.2.2.2.2.1, t.2.2.2.2.2.2.2.2.2.2.2.2.2.2.2.2.2.2.1, t.2.2.2.2.2.2.2.2.2.2.2.2.2.2.2.2.2.2.2.1, t.2.2.2.2.2.2.2.2.2.2.2.2.2.2.2.2.2.2.2.2.1, t.2.2.2.2.2.2.2.2.2.2.2.2.2.2.2.2.2.2.2.2.2.1, t.2.2.2.2.2.2.2.2.2.2.2.2.2.2.2.2.2.2.2.2.2.2.1, t.2.2.2.2.2.2.2.2.2.2.2.2.2.2.2.2.2.2.2.2.2.2.2.1, t.2.2.2.2.2.2.2.2.2.2.2.2.2.2.2.2.2.2.2.2.2.2.2.2.1, t.2.2.2.2.2.2.2.2.2.2.2.2.2.2.2.2.2.2.2.2.2.2.2.2.2.1, t.2.2.2.2.2.2.2.2.2.2.2.2.2.2.2.2.2.2.2.2.2.2.2.2.2.2.1, t.2.2.2.2.2.2.2.2.2.2.2.2.2.2.2.2.2.2.2.2.2.2.2.2.2.2.2)
def zms_manner (t : zMT) (v : (Nat → Int)) : zMT := (t.1, t.2.1, v, t.2.2.2.1, t.2.2.2.2.1, t.2.2.2.2.2.1, t.2.2.2.2.2.2.1, t.2.2.2.2.2.2.2.1, t.2.2.2.2.2.2.2.2.1, t.2.2.2.2.2.2.2.2.2.1, t.2.2.2.2.2.2.2.2.2.2.1, t.2.2.2.2.2.2.2.2.2.2.2.1, t.2.2.2.2.2.2.2.2.2.2.2.2.1, t.2.2.2.2.2.2.2.2.2.2.2.2.2.1, t.2.2.2.2.2.2.2.2.2.2.2.2.2.2.1, t.2.2.2.2.2.2.2.2.2.2.2.2.2.2.2.1, t.2.2.2.2.2.2.2.2.2.2.2.2.2.2.2.2.1, t.2.2.2.2.2.2.2.2.2.2.2.2.2.2.2.2.2.1, t.2.2.2.2.2.2.2.2.2.2.2.2.2.2.2.2.2.2.1, t.2.2.2.2.2.2.2.2.2.2.2.2.2.2.2.2.2.2.2.1, t.2.2.2.2.2.2.2.2.2.2.2.2.2.2.2.2.2.2.2.2.1, t.2.2.2.2.2.2.2.2.2.2.2.2.2.2.2.2.2.2.2.2.2.1, t.2.2.2.2.2.2.2.2.2.2.2.2.2.2.2.2.2.2.2.2.2.2.1, t.2.2.2.2.2.2.2.2.2.2.2.2.2.2.2.2.2.2.2.2.2.2.2.1, t.2.2.2.2.2.2.2.2.2.2.2.2.2.2.2.2.2.2.2.2.2.2.2.2.1, t.2.2.2.2.2.2.2.2.2.2.2.2.2.2.2.2.2.2.2.2.2.2.2.2.2.1, t.2.2.2.2.2.2.2.2.2.2.2.2.2.2.2.2.2.2.2.2.2.2.2.2.2.2.1, t.2.2.2.2.2.2.2.2.2.2.2.2.2.2.2.2.2.2.2.2.2.2.2.2.2.2.2)
def zms_setting (t : zMT) (v : (Nat → Int)) : zMT := (t.1, t.2.1, t.2.2.1, v, t.2.2.2.2.1, t.2.2.2.2.2.1, t.2.2.2.2.2.2.1, t.2.2.2.2.2.2.2.1, t.2.2.2.2.2.2.2.2.1, t.2.2.2.2.2.2.2.2.2.1, t.2.2.2.2.2.2.2.2.2.2.1, t.2.2.2.2.2.2.2.2.2.2.2.1, t.2.2.2.2.2.2.2.2.2.2.2.2.1, t.2.2.2.2.2.2.2.2.2.2.2.2.2.1, t.2.2.2.2.2.2.2.2.2.2.2.2.2.2.1, t.2.2.2.2.2.2.2.2.2.2.2.2.2.2.2.1, t.2.2.2.2.2.2.2.2.2.2.2.2.2.2.2.2.1, t.2.2.2.2.2.2.2.2.2.2.2.2.2.2.2.2.2.1, t.2.2.2.2.2.2.2.2.2.2.2.2.2.2.2.2.2.2.1, t.2.2.2.2.2.2.2.2.2.2.2.2.2.2.2.2.2.2.2.1, t.2.2.2.2.2.2.2.2.2.2.2.2.2.2.2.2.2.2.2.2.1, t.2.2.2.2.2.2.2.2.2.2.2.2.2.2.2.2.2.2.2.2.2.1, t.2.2.2.2.2.2.2.2.2.2.2.2.2.2.2.2.2.2.2.2.2.2.1, t.2.2.2.2.2.2.2.2.2.2.2.2.2.2.2.2.2.2.2.2.2.2.2.1, t.2.2.2.2.2.2.2.2.2.2.2.2.2.2.2.2.2.2.2.2.2.2.2.2.1, t.2.2.2.2.2.2.2.2.2.2.2.2.2.2.2.2.2.2.2.2.2.2.2.2.2.1, t.2.2.2.2.2.2.2.2.2.2.2.2.2.2.2.2.2.2.2.2.2.2.2.2.2.2.1, t.2.2.2.2.2.2.2.2.2.2.2.2.2.2.2.2.2.2.2.2.2.2.2.2.2.2.2)
def zms_leastOf (t : zMT) (v : (Nat → Int)) : zMT := (t.1, t.2.1, t.2.2.1, t.2.2.2.1, v, t.2.2.2.2.2.1, t.2.2.2.2.2.2.1, t.2.2.2.2.2.2.2.1, t.2.2.2.2.2.2.2.2.1, t.2.2.2.2.2.2.2.2.2.1, t.2.2.2.2.2.2.2.2.2.2.1, t.2.2.2.2.2.2.2.2.2.2.2.1, t.2.2.2.2.2.2.2.2.2.2.2.2.1, t.2.2.2.2.2.2.2.2.2.2.2.2.2.1, t.2.2.2.2.2.2.2.2.2.2.2.2.2.2.1, t.2.2.2.2.2.2.2.2.2.2.2.2.2.2.2.1, t.2.2.2.2.2.2.2.2.2.2.2.2.2.2.2.2.1, t.2.2.2.2.2.2.2.2.2.2.2.2.2.2.2.2.2.1, t.2.2.2.2.2.2.2.2.2.2.2.2.2.2.2.2.2.2.1, t.2.2.2.2.2.2.2.2.2.2.2.2.2.2.2.2.2.2.2.1, t.2.2.2.2.2.2.2.2.2.2.2.2.2.2.2.2.2.2.2.2.1, t.2.2.2.2.2.2.2.2.2.2.2.2.2.2.2.2.2.2.2.2.2.1, t.2.2.2.2.2.2.2.2.2.2.2.2.2.2.2.2.2.2.2.2.2.2.1, t.2.2.2.2.2.2.2.2.2.2.2.2.2.2.2.2.2.2.2.2.2.2.2.1, t.2.2.2.2.2.2.2.2.2.2.2.2.2.2.2.2.2.2.2.2.2.2.2.2.1, t.2.2.2.2.2.2.2.2.2.2.2.2.2.2.2.2.2.2.2.2.2.2.2.2.2.1, t.2.2.2.2.2.2.2.2.2.2.2.2.2.2.2.2.2.2.2.2.2.2.2.2.2.2.1, t.2.2.2.2.2.2.2.2.2.2.2.2.2.2.2.2.2.2.2.2.2.2.2.2.2.2.2)
def zms_mostOf (t : zMT) (v : (Nat → Int)) : zMT := (t.1, t.2.1, t.2.2.1, t.2.2.2.1, t.2.2.2.2.1, v, t.2.2.2.2.2.2.1, t.2.2.2.2.2.2.2.1, t.2.2.2.2.2.2.2.2.1, t.2.2.2.2.2.2.2.2.2.1, t.2.2.2.2.2.2.2.2.2.2.1, t.2.2.2.2.2.2.2.2.2.2.2.1, t.2.2.2.2.2.2.2.2.2.2.2.2.1, t.2.2.2.2.2.2.2.2.2.2.2.2.2.1, t.2.2.2.2.2.2.2.2.2.2.2.2.2.2.1, t.2.2.2.2.2.2.2.2.2.2.2.2.2.2.2.1, t.2.2.2.2.2.2.2.2.2.2.2.2.2.2.2.2.1, t.2.2.2.2.2.2.2.2.2.2.2.2.2.2.2.2.2.1, t.2.2.2.2.2.2.2.2.2.2.2.2.2.2.2.2.2.2.1, t.2.2.2.2.2.2.2.2.2.2.2.2.2.2.2.2.2.2.2.1, t.2.2.2.2.2.2.2.2.2.2.2.2.2.2.2.2.2.2.2.2.1, t.2.2.2.2.2.2.2.2.2.2.2.2.2.2.2.2.2.2.2.2.2.1, t.2.2.2.2.2.2.2.2.2.2.2.2.2.2.2.2.2.2.2.2.2.2.1, t.2.2.2.2.2.2.2.2.2.2.2.2.2.2.2.2.2.2.2.2.2.2.2.1, t.2.2.2.2.2.2.2.2.2.2.2.2.2.2.2.2.2.2.2.2.2.2.2.2.1, t.2.2.2.2.2.2.2.2.2.2.2.2.2.2.2.2.2.2.2.2.2.2.2.2.2.1, t.2.2.2.2.2.2.2.2.2.2.2.2.2.2.2.2.2.2.2.2.2.2.2.2.2.2.1, t.2.2.2.2.2.2.2.2.2.2.2.2.2.2.2.2.2.2.2.2.2.2.2.2.2.2.2)
def zms_kept (t : zMT) (v : Int) : zMT := (t.1, t.2.1, t.2.2.1, t.2.2.2.1, t.2.2.2.2.1, t.2.2.2.2.2.1, v, t.2.2.2.2.2.2.2.1, t.2.2.2.2.2.2.2.2.1, t.2.2.2.2.2.2.2.2.2.1, t.2.2.2.2.2.2.2.2.2.2.1, t.2.2.2.2.2.2.2.2.2.2.2.1, t.2.2.2.2.2.2.2.2.2.2.2.2.1, t.2.2.2.2.2.2.2.2.2.2.2.2.2.1, t.2.2.2.2.2.2.2.2.2.2.2.2.2.2.1, t.2.2.2.2.2.2.2.2.2.2.2.2.2.2.2.1, t.2.2.2.2.2.2.2.2.2.2.2.2.2.2.2.2.1, t.2.2.2.2.2.2.2.2.2.2.2.2.2.2.2.2.2.1, t.2.2.2.2.2.2.2.2.2.2.2.2.2.2.2.2.2.2.1, t.2.2.2.2.2.2.2.2.2.2.2.2.2.2.2.2.2.2.2.1, t.2.2.2.2.2.2.2.2.2.2.2.2.2.2.2.2.2.2.2.2.1, t.2.2.2.2.2.2.2.2.2.2.2.2.2.2.2.2.2.2.2.2.2.1, t.2.2.2.2.2.2.2.2.2.2.2.2.2.2.2.2.2.2.2.2.2.2.1, t.2.2.2.2.2.2.2.2.2.2.2.2.2.2.2.2.2.2.2.2.2.2.2.1, t.2.2.2.2.2.2.2.2.2.2.2.2.2.2.2.2.2.2.2.2.2.2.2.2.1, t.2.2.2.2.2.2.2.2.2.2.2.2.2.2.2.2.2.2.2.2.2.2.2.2.2.1, t.2.2.2.2.2.2.2.2.2.2.2.2.2.2.2.2.2.2.2.2.2.2.2.2.2.2.1, t.2.2.2.2.2.2.2.2.2.2.2.2.2.2.2.2.2.2.2.2.2.2.2.2.2.2.2)
def zms_planeOf (t : zMT) (v : (Nat → Int)) : zMT := (t.1, t.2.1, t.2.2.1, t.2.2.2.1, t.2.2.2.2.1, t.2.2.2.2.2.1, t.2.2.2.2.2.2.1, v, t.2.2.2.2.2.2.2.2.1, t.2.2.2.2.2.2.2.2.2.1, t.2.2.2.2.2.2.2.2.2.2.1, t.2.2.2.2.2.2.2.2.2.2.2.1, t.2.2.2.2.2.2.2.2.2.2.2.2.1, t.2.2.2.2.2.2.2.2.2.2.2.2.2.1, t.2.2.2.2.2.2.2.2.2.2.2.2.2.2.1, t.2.2.2.2.2.2.2.2.2.2.2.2.2.2.2.1, t.2.2.2.2.2.2.2.2.2.2.2.2.2.2.2.2.1, t.2.2.2.2.2.2.2.2.2.2.2.2.2.2.2.2.2.1, t.2.2.2.2.2.2.2.2.2.2.2.2.2.2.2.2.2.2.1, t.2.2.2.2.2.2.2.2.2.2.2.2.2.2.2.2.2.2.2.1, t.2.2.2.2.2.2.2.2.2.2.2.2.2.2.2.2.2.2.2.2.1, t.2.2.2.2.2.2.2.2.2.2.2.2.2.2.2.2.2.2.2.2.2.1, t.2.2.2.2.2.2.2.2.2.2.2.2.2.2.2.2.2.2.2.2.2.2.1, t.2.2.2.2.2.2.2.2.2.2.2.2.2.2.2.2.2.2.2.2.2.2.2.1, t.2.2.2.2.2.2.2.2.2.2.2.2.2.2.2.2.2.2.2.2.2.2.2.2.1, t.2.2.2.2.2.2.2.2.2.2.2.2.2.2.2.2.2.2.2.2.2.2.2.2.2.1, t.2.2.2.2.2.2.2.2.2.2.2.2.2.2.2.2.2.2.2.2.2.2.2.2.2.2.1, t.2.2.2.2.2.2.2.2.2.2.2.2.2.2.2.2.2.2.2.2.2.2.2.2.2.2.2)
def zms_momentOf (t : zMT) (v : (Nat → Int)) : zMT := (t.1, t.2.1, t.2.2.1, t.2.2.2.1, t.2.2.2.2.1, t.2.2.2.2.2.1, t.2.2.2.2.2.2.1, t.2.2.2.2.2.2.2.1, v, t.2.2.2.2.2.2.2.2.2.1, t.2.2.2.2.2.2.2.2.2.2.1, t.2.2.2.2.2.2.2.2.2.2.2.1, t.2.2.2.2.2.2.2.2.2.2.2.2.1, t.2.2.2.2.2.2.2.2.2.2.2.2.2.1, t.2.2.2.2.2.2.2.2.2.2.2.2.2.2.1, t.2.2.2.2.2.2.2.2.2.2.2.2.2.2.2.1, t.2.2.2.2.2.2.2.2.2.2.2.2.2.2.2.2.1, t.2.2.2.2.2.2.2.2.2.2.2.2.2.2.2.2.2.1, t.2.2.2.2.2.2.2.2.2.2.2.2.2.2.2.2.2.2.1, t.2.2.2.2.2.2.2.2.2.2.2.2.2.2.2.2.2.2.2.1, t.2.2.2.2.2.2.2.2.2.2.2.2.2.2.2.2.2.2.2.2.1, t.2.2.2.2.2.2.2.2.2.2.2.2.2.2.2.2.2.2.2.2.2.1, t.2.2.2.2.2.2.2.2.2.2.2.2.2.2.2.2.2.2.2.2.2.2.1, t.2.2.2.2.2.2.2.2.2.2.2.2.2.2.2.2.2.2.2.2.2.2.2.1, t.2.2.2.2.2.2.2.2.2.2.2.2.2.2.2.2.2.2.2.2.2.2.2.2.1, t.2.2.2.2.2.2.2.2.2.2.2.2.2.2.2.2.2.2.2.2.2.2.2.2.2.1, t.2.2.2.2.2.2.2.2.2.2.2.2.2.2.2.2.2.2.2.2.2.2.2.2.2.2.1, t.2.2.2.2.2.2.2.2.2.2.2.2.2.2.2.2.2.2.2.2.2.2.2.2.2.2.2)
def zms_stripOf (t : zMT) (v : (Nat → Int)) : zMT := (t.1, t.2.1, t.2.2.1, t.2.2.2.1, t.2.2.2.2.1, t.2.2.2.2.2.1, t.2.2.2.2.2.2.1, t.2.2.2.2.2.2.2.1, t.2.2.2.2.2.2.2.2.1, v, t.2.2.2.2.2.2.2.2.2.2.1, t.2.2.2.2.2.2.2.2.2.2.2.1, t.2.2.2.2.2.2.2.2.2.2.2.2.1, t.2.2.2.2.2.2.2.2.2.2.2.2.2.1, t.2.2.2.2.2.2.2.2.2.2.2.2.2.2.1, t.2.2.2.2.2.2.2.2.2.2.2.2.2.2.2.1, t.2.2.2.2.2.2.2.2.2.2.2.2.2.2.2.2.1, t.2.2.2.2.2.2.2.2.2.2.2.2.2.2.2.2.2.1, t.2.2.2.2.2.2.2.2.2.2.2.2.2.2.2.2.2.2.1, t.2.2.2.2.2.2.2.2.2.2.2.2.2.2.2.2.2.2.2.1, t.2.2.2.2.2.2.2.2.2.2.2.2.2.2.2.2.2.2.2.2.1, t.2.2.2.2.2.2.2.2.2.2.2.2.2.2.2.2.2.2.2.2.2.1, t.2.2.2.2.2.2.2.2.2.2.2.2.2.2.2.2.2.2.2.2.2.2.1, t.2.2.2.2.2.2.2.2.2.2.2.2.2.2.2.2.2.2.2.2.2.2.2.1, t.2.2.2.2.2.2.2.2.2.2.2.2.2.2.2.2.2.2.2.2.2.2.2.2.1, t.2.2.2.2.2.2.2.2.2.2.2.2.2.2.2.2.2.2.2.2.2.2.2.2.2.1, t.2.2.2.2.2.2.2.2.2.2.2.2.2.2.2.2.2.2.2.2.2.2.2.2.2.2.1, t.2.2.2.2.2.2.2.2.2.2.2.2.2.2.2.2.2.2.2.2.2.2.2.2.2.2.2)
def zms_late (t : zMT) (v : Int) : zMT := (t.1, t.2.1, t.2.2.1, t.2.2.2.1, t.2.2.2.2.1, t.2.2.2.2.2.1, t.2.2.2.2.2.2.1, t.2.2.2.2.2.2.2.1, t.2.2.2.2.2.2.2.2.1, t.2.2.2.2.2.2.2.2.2.1, v, t.2.2.2.2.2.2.2.2.2.2.2.1, t.2.2.2.2.2.2.2.2.2.2.2.2.1, t.2.2.2.2.2.2.2.2.2.2.2.2.2.1, t.2.2.2.2.2.2.2.2.2.2.2.2.2.2.1, t.2.2.2.2.2.2.2.2.2.2.2.2.2.2.2.1, t.2.2.2.2.2.2.2.2.2.2.2.2.2.2.2.2.1, t.2.2.2.2.2.2.2.2.2.2.2.2.2.2.2.2.2.1, t.2.2.2.2.2.2.2.2.2.2.2.2.2.2.2.2.2.2.1, t.2.2.2.2.2.2.2.2.2.2.2.2.2.2.2.2.2.2.2.1, t.2.2.2.2.2.2.2.2.2.2.2.2.2.2.2.2.2.2.2.2.1, t.2.2.2.2.2.2.2.2.2.2.2.2.2.2.2.2.2.2.2.2.2.1, t.2.2.2.2.2.2.2.2.2.2.2.2.2.2.2.2.2.2.2.2.2.2.1, t.2.2.2.2.2.2.2.2.2.2.2.2.2.2.2.2.2.2.2.2.2.2.2.1, t.2.2.2.2.2.2.2.2.2.2.2.2.2.2.2.2.2.2.2.2.2.2.2.2.1, t.2.2.2.2.2.2.2.2.2.2.2.2.2.2.2.2.2.2.2.2.2.2.2.2.2.1, t.2.2.2.2.2.2.2.2.2.2.2.2.2.2.2.2.2.2.2.2.2.2.2.2.2.2.1, t.2.2.2.2.2.2.2.2.2.2.2.2.2.2.2.2.2.2.2.2.2.2.2.2.2.2.2)
def zms_isOver (t : zMT) (v : Int) : zMT := (t.1, t.2.1, t.2.2.1, t.2.2.2.1, t.2.2.2.2.1, t.2.2.2.2.2.1, t.2.2.2.2.2.2.1, t.2.2.2.2.2.2.2.1, t.2.2.2.2.2.2.2.2.1, t.2.2.2.2.2.2.2.2.2.1, t.2.2.2.2.2.2.2.2.2.2.1, v, t.2.2.2.2.2.2.2.2.2.2.2.2.1, t.2.2.2.2.2.2.2.2.2.2.2.2.2.1, t.2.2.2.2.2.2.2.2.2.2.2.2.2.2.1, t.2.2.2.2.2.2.2.2.2.2.2.2.2.2.2.1, t.2.2.2.2.2.2.2.2.2.2.2.2.2.2.2.2.1, t.2.2.2.2.2.2.2.2.2.2.2.2.2.2.2.2.2.1, t.2.2.2.2.2.2.2.2.2.2.2.2.2.2.2.2.2.2.1, t.2.2.2.2.2.2.2.2.2.2.2.2.2.2.2.2.2.2.2.1, t.2.2.2.2.2.2.2.2.2.2.2.2.2.2.2.2.2.2.2.2.1, t.2.2.2.2.2.2.2.2.2.2.2.2.2.2.2.2.2.2.2.2.2.1, t.2.2.2.2.2.2.2.2.2.2.2.2.2.2.2.2.2.2.2.2.2.2.1, t.2.2.2.2.2.2.2.2.2.2.2.2.2.2.2.2.2.2.2.2.2.2.2.1, t.2.2.2.2.2.2.2.2.2.2.2.2.2.2.2.2.2.2.2.2.2.2.2.2.1, t.2.2.2.2.2.2.2.2.2.2.2.2.2.2.2.2.2.2.2.2.2.2.2.2.2.1, t.2.2.2.2.2.2.2.2.2.2.2.2.2.2.2.2.2.2.2.2.2.2.2.2.2.2.1, t.2.2.2.2.2.2.2.2.2.2.2.2.2.2.2.2.2.2.2.2.2.2.2.2.2.2.2)
def zms_isLive (t : zMT) (v : (Nat → Int)) : zMT := (t.1, t.2.1, t.2.2.1, t.2.2.2.1, t.2.2.2.2.1, t.2.2.2.2.2.1, t.2.2.2.2.2.2.1, t.2.2.2.2.2.2.2.1, t.2.2.2.2.2.2.2.2.1, t.2.2.2.2.2.2.2.2.2.1, t.2.2.2.2.2.2.2.2.2.2.1, t.2.2.2.2.2.2.2.2.2.2.2.1, v, t.2.2.2.2.2.2.2.2.2.2.2.2.2.1, t.2.2.2.2.2.2.2.2.2.2.2.2.2.2.1, t.2.2.2.2.2.2.2.2.2.2.2.2.2.2.2.1, t.2.2.2.2.2.2.2.2.2.2.2.2.2.2.2.2.1, t.2.2.2.2.2.2.2.2.2.2.2.2.2.2.2.2.2.1, t.2.2.2.2.2.2.2.2.2.2.2.2.2.2.2.2.2.2.1, t.2.2.2.2.2.2.2.2.2.2.2.2.2.2.2.2.2.2.2.1, t.2.2.2.2.2.2.2.2.2.2.2.2.2.2.2.2.2.2.2.2.1, t.2.2.2.2.2.2.2.2.2.2.2.2.2.2.2.2.2.2.2.2.2.1, t.2.2.2.2.2.2.2.2.2.2.2.2.2.2.2.2.2.2.2.2.2.2.1, t.2.2.2.2.2.2.2.2.2.2.2.2.2.2.2.2.2.2.2.2.2.2.2.1, t.2.2.2.2.2.2.2.2.2.2.2.2.2.2.2.2.2.2.2.2.2.2.2.2.1, t.2.2.2.2.2.2.2.2.2.2.2.2.2.2.2.2.2.2.2.2.2.2.2.2.2.1, t.2.2.2.2.2.2.2.2.2.2.2.2.2.2.2.2.2.2.2.2.2.2.2.2.2.2.1, t.2.2.2.2.2.2.2.2.2.2.2.2.2.2.2.2.2.2.2.2.2.2.2.2.2.2.2)
def zms_endOf (t : zMT) (v : (Nat → Int)) : zMT := (t.1, t.2.1, t.2.2.1, t.2.2.2.1, t.2.2.2.2.1, t.2.2.2.2.2.1, t.2.2.2.2.2.2.1, t.2.2.2.2.2.2.2.1, t.2.2.2.2.2.2.2.2.1, t.2.2.2.2.2.2.2.2.2.1, t.2.2.2.2.2.2.2.2.2.2.1, t.2.2.2.2.2.2.2.2.2.2.2.1, t.2.2.2.2.2.2.2.2.2.2.2.2.1, v, t.2.2.2.2.2.2.2.2.2.2.2.2.2.2.1, t.2.2.2.2.2.2.2.2.2.2.2.2.2.2.2.1, t.2.2.2.2.2.2.2.2.2.2.2.2.2.2.2.2.1, t.2.2.2.2.2.2.2.2.2.2.2.2.2.2.2.2.2.1, t.2.2.2.2.2.2.2.2.2.2.2.2.2.2.2.2.2.2.1, t.2.2.2.2.2.2.2.2.2.2.2.2.2.2.2.2.2.2.2.1, t.2.2.2.2.2.2.2.2.2.2.2.2.2.2.2.2.2.2.2.2.1, t.2.2.2.2.2.2.2.2.2.2.2.2.2.2.2.2.2.2.2.2.2.1, t.2.2.2.2.2.2.2.2.2.2.2.2.2.2.2.2.2.2.2.2.2.2.1, t.2.2.2.2.2.2.2.2.2.2.2.2.2.2.2.2.2.2.2.2.2.2.2.1, t.2.2.2.2.2.2.2.2.2.2.2.2.2.2.2.2.2.2.2.2.2.2.2.2.1, t.2.2.2.2.2.2.2.2.2.2.2.2.2.2.2.2.2.2.2.2.2.2.2.2.2.1, t.2.2.2.2.2.2.2.2.2.2.2.2.2.2.2.2.2.2.2.2.2.2.2.2.2.2.1, t.2.2.2.2.2.2.2.2.2.2.2.2.2.2.2.2.2.2.2.2.2.2.2.2.2.2.2)
def zms_known (t : zMT) (v : Int) : zMT := (t.1, t.2.1, t.2.2.1, t.2.2.2.1, t.2.2.2.2.1, t.2.2.2.2.2.1, t.2.2.2.2.2.2.1, t.2.2.2.2.2.2.2.1, t.2.2.2.2.2.2.2.2.1, t.2.2.2.2.2.2.2.2.2.1, t.2.2.2.2.2.2.2.2.2.2.1, t.2.2.2.2.2.2.2.2.2.2.2.1, t.2.2.2.2.2.2.2.2.2.2.2.2.1, t.2.2.2.2.2.2.2.2.2.2.2.2.2.1, v, t.2.2.2.2.2.2.2.2.2.2.2.2.2.2.2.1, t.2.2.2.2.2.2.2.2.2.2.2.2.2.2.2.2.1, t.2.2.2.2.2.2.2.2.2.2.2.2.2.2.2.2.2.1, t.2.2.2.2.2.2.2.2.2.2.2.2.2.2.2.2.2.2.1, t.2.2.2.2.2.2.2.2.2.2.2.2.2.2.2.2.2.2.2.1, t.2.2.2.2.2.2.2.2.2.2.2.2.2.2.2.2.2.2.2.2.1, t.2.2.2.2.2.2.2.2.2.2.2.2.2.2.2.2.2.2.2.2.2.1, t.2.2.2.2.2.2.2.2.2.2.2.2.2.2.2.2.2.2.2.2.2.2.1, t.2.2.2.2.2.2.2.2.2.2.2.2.2.2.2.2.2.2.2.2.2.2.2.1, t.2.2.2.2.2.2.2.2.2.2.2.2.2.2.2.2.2.2.2.2.2.2.2.2.1, t.2.2.2.2.2.2.2.2.2.2.2.2.2.2.2.2.2.2.2.2.2.2.2.2.2.1, t.2.2.2.2.2.2.2.2.2.2.2.2.2.2.2.2.2.2.2.2.2.2.2.2.2.2.1, t.2.2.2.2.2.2.2.2.2.2.2.2.2.2.2.2.2.2.2.2.2.2.2.2.2.2.2)
def zms_timeOf (t : zMT) (v : (Nat → Int)) : zMT := (t.1, t.2.1, t.2.2.1, t.2.2.2.1, t.2.2.2.2.1, t.2.2.2.2.2.1, t.2.2.2.2.2.2.1, t.2.2.2.2.2.2.2.1, t.2.2.2.2.2.2.2.2.1, t.2.2.2.2.2.2.2.2.2.1, t.2.2.2.2.2.2.2.2.2.2.1, t.2.2.2.2.2.2.2.2.2.2.2.1, t.2.2.2.2.2.2.2.2.2.2.2.2.1, t.2.2.2.2.2.2.2.2.2.2.2.2.2.1, t.2.2.2.2.2.2.2.2.2.2.2.2.2.2.1, v, t.2.2.2.2.2.2.2.2.2.2.2.2.2.2.2.2.1, t.2.2.2.2.2.2.2.2.2.2.2.2.2.2.2.2.2.1, t.2.2.2.2.2.2.2.2.2.2.2.2.2.2.2.2.2.2.1, t.2.2.2.2.2.2.2.2.2.2.2.2.2.2.2.2.2.2.2.1, t.2.2.2.2.2.2.2.2.2.2.2.2.2.2.2.2.2.2.2.2.1, t.2.2.2.2.2.2.2.2.2.2.2.2.2.2.2.2.2.2.2.2.2.1, t.2.2.2.2.2.2.2.2.2.2.2.2.2.2.2.2.2.2.2.2.2.2.1, t.2.2.2.2.2.2.2.2.2.2.2.2.2.2.2.2.2.2.2.2.2.2.2.1, t.2.2.2.2.2.2.2.2.2.2.2.2.2.2.2.2.2.2.2.2.2.2.2.2.1, t.2.2.2.2.2.2.2.2.2.2.2.2.2.2.2.2.2.2.2.2.2.2.2.2.2.1, t.2.2.2.2.2.2.2.2.2.2.2.2.2.2.2.2.2.2.2.2.2.2.2.2.2.2.1, t.2.2.2.2.2.2.2.2.2.2.2.2.2.2.2.2.2.2.2.2.2.2.2.2.2.2.2)
def zms_pulseOf (t : zMT) (v : (Nat → Int)) : zMT := (t.1, t.2.1, t.2.2.1, t.2.2.2.1, t.2.2.2.2.1, t.2.2.2.2.2.1, t.2.2.2.2.2.2.1, t.2.2.2.2.2.2.2.1, t.2.2.2.2.2.2.2.2.1, t.2.2.2.2.2.2.2.2.2.1, t.2.2.2.2.2.2.2.2.2.2.1, t.2.2.2.2.2.2.2.2.2.2.2.1, t.2.2.2.2.2.2.2.2.2.2.2.2.1, t.2.2.2.2.2.2.2.2.2.2.2.2.2.1, t.2.2.2.2.2.2.2.2.2.2.2.2.2.2.1, t.2.2.2.2.2.2.2.2.2.2.2.2.2.2.2.1, v, t.2.2.2.2.2.2.2.2.2.2.2.2.2.2.2.2.2.1, t.2.2.2.2.2.2.2.2.2.2.2.2.2.2.2.2.2.2.1, t.2.2.2.2.2.2.2.2.2.2.2.2.2.2.2.2.2.2.2.1, t.2.2.2.2.2.2.2.2.2.2.2.2.2.2.2.2.2.2.2.2.1, t.2.2.2.2.2.2.2.2.2.2.2.2.2.2.2.2.2.2.2.2.2.1, t.2.2.2.2.2.2.2.2.2.2.2.2.2.2.2.2.2.2.2.2.2.2.1, t.2.2.2.2.2.2.2.2.2.2.2.2.2.2.2.2.2.2.2.2.2.2.2.1, t.2.2.2.2.2.2.2.2.2.2.2.2.2.2.2.2.2.2.2.2.2.2.2.2.1, t.2.2.2.2.2.2.2.2.2.2.2.2.2.2.2.2.2.2.2.2.2.2.2.2.2.1, t.2.2.2.2.2.2.2.2.2.2.2.2.2.2.2.2.2.2.2.2.2.2.2.2.2.2.1, t.2.2.2.2.2.2.2.2.2.2.2.2.2.2.2.2.2.2.2.2.2.2.2.2.2.2.2)
def zms_groupOf (t : zMT) (v : (Nat → Int)) : zMT := (t.1, t.2.1, t.2.2.1, t.2.2.2.1, t.2.2.2.2.1, t.2.2.2.2.2.1, t.2.2.2.2.2.2.1, t.2.2.2.2.2.2.2.1, t.2.2.2.2.2.2.2.2.1, t.2.2.2.2.2.2.2.2.2.1, t.2.2.2.2.2.2.2.2.2.2.1, t.2.2.2.2.2.2.2.2.2.2.2.1, t.2.2.2.2.2.2.2.2.2.2.2.2.1, t.2.2.2.2.2.2.2.2.2.2.2.2.2.1, t.2.2.2.2.2.2.2.2.2.2.2.2.2.2.1, t.2.2.2.2.2.2.2.2.2.2.2.2.2.2.2.1, t.2.2.2.2.2.2.2.2.2.2.2.2.2.2.2.2.1, v, t.2.2.2.2.2.2.2.2.2.2.2.2.2.2.2.2.2.2.1, t.2.2.2.2.2.2.2.2.2.2.2.2.2.2.2.2.2.2.2.1, t.2.2.2.2.2.2.2.2.2.2.2.2.2.2.2.2.2.2.2.2.1, t.2.2.2.2.2.2.2.2.2.2.2.2.2.2.2.2.2.2.2.2.2.1, t.2.2.2.2.2.2.2.2.2.2.2.2.2.2.2.2.2.2.2.2.2.2.1, t.2.2.2.2.2.2.2.2.2.2.2.2.2.2.2.2.2.2.2.2.2.2.2.1, t.2.2.2.2.2.2.2.2.2.2.2.2.2.2.2.2.2.2.2.2.2.2.2.2.1, t.2.2.2.2.2.2.2.2.2.2.2.2.2.2.2.2.2.2.2.2.2.2.2.2.2.1, t.2.2.2.2.2.2.2.2.2.2.2.2.2.2.2.2.2.2.2.2.2.2.2.2.2.2.1, t.2.2.2.2.2.2.2.2.2.2.2.2.2.2.2.2.2.2.2.2.2.2.2.2.2.2.2)
def zms_groups (t : zMT) (v : Int) : zMT := (t.1, t.2.1, t.2.2.1, t.2.2.2.1, t.2.2.2.2.1, t.2.2.2.2.2.1, t.2.2.2.2.2.2.1, t.2.2.2.2.2.2.2.1, t.2.2.2.2.2.2.2.2.1, t.2.2.2.2.2.2.2.2.2.1, t.2.2.2.2.2.2.2.2.2.2.1, t.2.2.2.2.2.2.2.2.2.2.2.1, t.2.2.2.2.2.2.2.2.2.2.2.2.1, t.2.2.2.2.2.2.2.2.2.2.2.2.2.1, t.2.2.2.2.2.2.2.2.2.2.2.2.2.2.1, t.2.2.2.2.2.2.2.2.2.2.2.2.2.2.2.1, t.2.2.2.2.2.2.2.2.2.2.2.2.2.2.2.2.1, t.2.2.2.2.2.2.2.2.2.2.2.2.2.2.2.2.2.1, v, t.2.2.2.2.2.2.2.2.2.2.2.2.2.2.2.2.2.2.2.1, t.2.2.2.2.2.2.2.2.2.2.2.2.2.2.2.2.2.2.2.2.1, t.2.2.2.2.2.2.2.2.2.2.2.2.2.2.2.2.2.2.2.2.2.1, t.2.2.2.2.2.2.2.2.2.2.2.2.2.2.2.2.2.2.2.2.2.2.1, t.2.2.2.2.2.2.2.2.2.2.2.2.2.2.2.2.2.2.2.2.2.2.2.1, t.2.2.2.2.2.2.2.2.2.2.2.2.2.2.2.2.2.2.2.2.2.2.2.2.1, t.2.2.2.2.2.2.2.2.2.2.2.2.2.2.2.2.2.2.2.2.2.2.2.2.2.1, t.2.2.2.2.2.2.2.2.2.2.2.2.2.2.2.2.2.2.2.2.2.2.2.2.2.2.1, t.2.2.2.2.2.2.2.2.2.2.2.2.2.2.2.2.2.2.2.2.2.2.2.2.2.2.2)
def zms_shut (t : zMT) (v : Int) : zMT := (t.1, t.2.1, t.2.2.1, t.2.2.2.1, t.2.2.2.2.1, t.2.2.2.2.2.1, t.2.2.2.2.2.2.1, t.2.2.2.2.2.2.2.1, t.2.2.2.2.2.2.2.2.1, t.2.2.2.2.2.2.2.2.2.1, t.2.2.2.2.2.2.2.2.2.2.1, t.2.2.2.2.2.2.2.2.2.2.2.1, t.2.2.2.2.2.2.2.2.2.2.2.2.1, t.2.2.2.2.2.2.2.2.2.2.2.2.2.1, t.2.2.2.2.2.2.2.2.2.2.2.2.2.2.1, t.2.2.2.2.2.2.2.2.2.2.2.2.2.2.2.1, t.2.2.2.2.2.2.2.2.2.2.2.2.2.2.2.2.1, t.2.2.2.2.2.2.2.2.2.2.2.2.2.2.2.2.2.1, t.2.2.2.2.2.2.2.2.2.2.2.2.2.2.2.2.2.2.1, v, t.2.2.2.2.2.2.2.2.2.2.2.2.2.2.2.2.2.2.2.2.1, t.2.2.2.2.2.2.2.2.2.2.2.2.2.2.2.2.2.2.2.2.2.1, t.2.2.2.2.2.2.2.2.2.2.2.2.2.2.2.2.2.2.2.2.2.2.1, t.2.2.2.2.2.2.2.2.2.2.2.2.2.2.2.2.2.2.2.2.2.2.2.1, t.2.2.2.2.2.2.2.2.2.2.2.2.2.2.2.2.2.2.2.2.2.2.2.2.1, t.2.2.2.2.2.2.2.2.2.2.2.2.2.2.2.2.2.2.2.2.2.2.2.2.2.1, t.2.2.2.2.2.2.2.2.2.2.2.2.2.2.2.2.2.2.2.2.2.2.2.2.2.2.1, t.2.2.2.2.2.2.2.2.2.2.2.2.2.2.2.2.2.2.2.2.2.2.2.2.2.2.2)
def zms_firstOf (t : zMT) (v : (Nat → Int)) : zMT := (t.1, t.2.1, t.2.2.1, t.2.2.2.1, t.2.2.2.2.1, t.2.2.2.2.2.1, t.2.2.2.2.2.2.1, t.2.2.2.2.2.2.2.1, t.2.2.2.2.2.2.2.2.1, t.2.2.2.2.2.2.2.2.2.1, t.2.2.2.2.2.2.2.2.2.2.1, t.2.2.2.2.2.2.2.2.2.2.2.1, t.2.2.2.2.2.2.2.2.2.2.2.2.1, t.2.2.2.2.2.2.2.2.2.2.2.2.2.1, t.2.2.2.2.2.2.2.2.2.2.2.2.2.2.1, t.2.2.2.2.2.2.2.2.2.2.2.2.2.2.2.1, t.2.2.2.2.2.2.2.2.2.2.2.2.2.2.2.2.1, t.2.2.2.2.2.2.2.2.2.2.2.2.2.2.2.2.2.1, t.2.2.2.2.2.2.2.2.2.2.2.2.2.2.2.2.2.2.1, t.2.2.2.2.2.2.2.2.2.2.2.2.2.2.2.2.2.2.2.1, v, t.2.2.2.2.2.2.2.2.2.2.2.2.2.2.2.2.2.2.2.2.2.1, t.2.2.2.2.2.2.2.2.2.2.2.2.2.2.2.2.2.2.2.2.2.2.1, t.2.2.2.2.2.2.2.2.2.2.2.2.2.2.2.2.2.2.2.2.2.2.2.1, t.2.2.2.2.2.2.2.2.2.2.2.2.2.2.2.2.2.2.2.2.2.2.2.2.1, t.2.2.2.2.2.2.2.2.2.2.2.2.2.2.2.2.2.2.2.2.2.2.2.2.2.1, t.2.2.2.2.2.2.2.2.2.2.2.2.2.2.2.2.2.2.2.2.2.2.2.2.2.2.1, t.2.2.2.2.2.2.2.2.2.2.2.2.2.2.2.2.2.2.2.2.2.2.2.2.2.2.2)
def zms_agrees (t : zMT) (v : Int) : zMT := (t.1, t.2.1, t.2.2.1, t.2.2.2.1, t.2.2.2.2.1, t.2.2.2.2.2.1, t.2.2.2.2.2.2.1, t.2.2.2.2.2.2.2.1, t.2.2.2.2.2.2.2.2.1, t.2.2.2.2.2.2.2.2.2.1, t.2.2.2.2.2.2.2.2.2.2.1, t.2.2.2.2.2.2.2.2.2.2.2.1, t.2.2.2.2.2.2.2.2.2.2.2.2.1, t.2.2.2.2.2.2.2.2.2.2.2.2.2.1, t.2.2.2.2.2.2.2.2.2.2.2.2.2.2.1, t.2.2.2.2.2.2.2.2.2.2.2.2.2.2.2.1, t.2.2.2.2.2.2.2.2.2.2.2.2.2.2.2.2.1, t.2.2.2.2.2.2.2.2.2.2.2.2.2.2.2.2.2.1, t.2.2.2.2.2.2.2.2.2.2.2.2.2.2.2.2.2.2.1, t.2.2.2.2.2.2.2.2.2.2.2.2.2.2.2.2.2.2.2.1, t.2.2.2.2.2.2.2.2.2.2.2.2.2.2.2.2.2.2.2.2.1, v, t.2.2.2.2.2.2.2.2.2.2.2.2.2.2.2.2.2.2.2.2.2.2.1, t.2.2.2.2.2.2.2.2.2.2.2.2.2.2.2.2.2.2.2.2.2.2.2.1, t.2.2.2.2.2.2.2.2.2.2.2.2.2.2.2.2.2.2.2.2.2.2.2.2.1, t.2.2.2.2.2.2.2.2.2.2.2.2.2.2.2.2.2.2.2.2.2.2.2.2.2.1, t.2.2.2.2.2.2.2.2.2.2.2.2.2.2.2.2.2.2.2.2.2.2.2.2.2.2.1, t.2.2.2.2.2.2.2.2.2.2.2.2.2.2.2.2.2.2.2.2.2.2.2.2.2.2.2)
def zms_agreeSet (t : zMT) (v : Int) : zMT := (t.1, t.2.1, t.2.2.1, t.2.2.2.1, t.2.2.2.2.1, t.2.2.2.2.2.1, t.2.2.2.2.2.2.1, t.2.2.2.2.2.2.2.1, t.2.2.2.2.2.2.2.2.1, t.2.2.2.2.2.2.2.2.2.1, t.2.2.2.2.2.2.2.2.2.2.1, t.2.2.2.2.2.2.2.2.2.2.2.1, t.2.2.2.2.2.2.2.2.2.2.2.2.1, t.2.2.2.2.2.2.2.2.2.2.2.2.2.1, t.2.2.2.2.2.2.2.2.2.2.2.2.2.2.1, t.2.2.2.2.2.2.2.2.2.2.2.2.2.2.2.1, t.2.2.2.2.2.2.2.2.2.2.2.2.2.2.2.2.1, t.2.2.2.2.2.2.2.2.2.2.2.2.2.2.2.2.2.1, t.2.2.2.2.2.2.2.2.2.2.2.2.2.2.2.2.2.2.1, t.2.2.2.2.2.2.2.2.2.2.2.2.2.2.2.2.2.2.2.1, t.2.2.2.2.2.2.2.2.2.2.2.2.2.2.2.2.2.2.2.2.1, t.2.2.2.2.2.2.2.2.2.2.2.2.2.2.2.2.2.2.2.2.2.1, v, t.2.2.2.2.2.2.2.2.2.2.2.2.2.2.2.2.2.2.2.2.2.2.2.1, t.2.2.2.2.2.2.2.2.2.2.2.2.2.2.2.2.2.2.2.2.2.2.2.2.1, t.2.2.2.2.2.2.2.2.2.2.2.2.2.2.2.2.2.2.2.2.2.2.2.2.2.1, t.2.2.2.2.2.2.2.2.2.2.2.2.2.2.2.2.2.2.2.2.2.2.2.2.2.2.1, t.2.2.2.2.2.2.2.2.2.2.2.2.2.2.2.2.2.2.2.2.2.2.2.2.2.2.2)
def zms_missed (t : zMT) (v : Int) : zMT := (t.1, t.2.1, t.2.2.1, t.2.2.2.1, t.2.2.2.2.1, t.2.2.2.2.2.1, t.2.2.2.2.2.2.1, t.2.2.2.2.2.2.2.1, t.2.2.2.2.2.2.2.2.1, t.2.2.2.2.2.2.2.2.2.1, t.2.2.2.2.2.2.2.2.2.2.1, t.2.2.2.2.2.2.2.2.2.2.2.1, t.2.2.2.2.2.2.2.2.2.2.2.2.1, t.2.2.2.2.2.2.2.2.2.2.2.2.2.1, t.2.2.2.2.2.2.2.2.2.2.2.2.2.2.1, t.2.2.2.2.2.2.2.2.2.2.2.2.2.2.2.1, t.2.2.2.2.2.2.2.2.2.2.2.2.2.2.2.2.1, t.2.2.2.2.2.2.2.2.2.2.2.2.2.2.2.2.2.1, t.2.2.2.2.2.2.2.2.2.2.2.2.2.2.2.2.2.2.1, t.2.2.2.2.2.2.2.2.2.2.2.2.2.2.2.2.2.2.2.1, t.2.2.2.2.2.2.2.2.2.2.2.2.2.2.2.2.2.2.2.2.1, t.2.2.2.2.2.2.2.2.2.2.2.2.2.2.2.2.2.2.2.2.2.1, t.2.2.2.2.2.2.2.2.2.2.2.2.2.2.2.2.2.2.2.2.2.2.1, v, t.2.2.2.2.2.2.2.2.2.2.2.2.2.2.2.2.2.2.2.2.2.2.2.2.1, t.2.2.2.2.2.2.2.2.2.2.2.2.2.2.2.2.2.2.2.2.2.2.2.2.2.1, t.2.2.2.2.2.2.2.2.2.2.2.2.2.2.2.2.2.2.2.2.2.2.2.2.2.2.1, t.2.2.2.2.2.2.2.2.2.2.2.2.2.2.2.2.2.2.2.2.2.2.2.2.2.2.2)
def zms_bestA (t : zMT) (v : Int) : zMT := (t.1, t.2.1, t.2.2.1, t.2.2.2.1, t.2.2.2.2.1, t.2.2.2.2.2.1, t.2.2.2.2.2.2.1, t.2.2.2.2.2.2.2.1, t.2.2.2.2.2.2.2.2.1, t.2.2.2.2.2.2.2.2.2.1, t.2.2.2.2.2.2.2.2.2.2.1, t.2.2.2.2.2.2.2.2.2.2.2.1, t.2.2.2.2.2.2.2.2.2.2.2.2.1, t.2.2.2.2.2.2.2.2.2.2.2.2.2.1, t.2.2.2.2.2.2.2.2.2.2.2.2.2.2.1, t.2.2.2.2.2.2.2.2.2.2.2.2.2.2.2.1, t.2.2.2.2.2.2.2.2.2.2.2.2.2.2.2.2.1, t.2.2.2.2.2.2.2.2.2.2.2.2.2.2.2.2.2.1, t.2.2.2.2.2.2.2.2.2.2.2.2.2.2.2.2.2.2.1, t.2.2.2.2.2.2.2.2.2.2.2.2.2.2.2.2.2.2.2.1, t.2.2.2.2.2.2.2.2.2.2.2.2.2.2.2.2.2.2.2.2.1, t.2.2.2.2.2.2.2.2.2.2.2.2.2.2.2.2.2.2.2.2.2.1, t.2.2.2.2.2.2.2.2.2.2.2.2.2.2.2.2.2.2.2.2.2.2.1, t.2.2.2.2.2.2.2.2.2.2.2.2.2.2.2.2.2.2.2.2.2.2.2.1, v, t.2.2.2.2.2.2.2.2.2.2.2.2.2.2.2.2.2.2.2.2.2.2.2.2.2.1, t.2.2.2.2.2.2.2.2.2.2.2.2.2.2.2.2.2.2.2.2.2.2.2.2.2.2.1, t.2.2.2.2.2.2.2.2.2.2.2.2.2.2.2.2.2.2.2.2.2.2.2.2.2.2.2)
def zms_bestB (t : zMT) (v : Int) : zMT := (t.1, t.2.1, t.2.2.1, t.2.2.2.1, t.2.2.2.2.1, t.2.2.2.2.2.1, t.2.2.2.2.2.2.1, t.2.2.2.2.2.2.2.1, t.2.2.2.2.2.2.2.2.1, t.2.2.2.2.2.2.2.2.2.1, t.2.2.2.2.2.2.2.2.2.2.1, t.2.2.2.2.2.2.2.2.2.2.2.1, t.2.2.2.2.2.2.2.2.2.2.2.2.1, t.2.2.2.2.2.2.2.2.2.2.2.2.2.1, t.2.2.2.2.2.2.2.2.2.2.2.2.2.2.1, t.2.2.2.2.2.2.2.2.2.2.2.2.2.2.2.1, t.2.2.2.2.2.2.2.2.2.2.2.2.2.2.2.2.1, t.2.2.2.2.2.2.2.2.2.2.2.2.2.2.2.2.2.1, t.2.2.2.2.2.2.2.2.2.2.2.2.2.2.2.2.2.2.1, t.2.2.2.2.2.2.2.2.2.2.2.2.2.2.2.2.2.2.2.1, t.2.2.2.2.2.2.2.2.2.2.2.2.2.2.2.2.2.2.2.2.1, t.2.2.2.2.2.2.2.2.2.2.2.2.2.2.2.2.2.2.2.2.2.1, t.2.2.2.2.2.2.2.2.2.2.2.2.2.2.2.2.2.2.2.2.2.2.1, t.2.2.2.2.2.2.2.2.2.2.2.2.2.2.2.2.2.2.2.2.2.2.2.1, t.2.2.2.2.2.2.2.2.2.2.2.2.2.2.2.2.2.2.2.2.2.2.2.2.1, v, t.2.2.2.2.2.2.2.2.2.2.2.2.2.2.2.2.2.2.2.2.2.2.2.2.2.2.1, t.2.2.2.2.2.2.2.2.2.2.2.2.2.2.2.2.2.2.2.2.2.2.2.2.2.2.2)
def zms_bestAgrees (t : zMT) (v : Int) : zMT := (t.1, t.2.1, t.2.2.1, t.2.2.2.1, t.2.2.2.2.1, t.2.2.2.2.2.1, t.2.2.2.2.2.2.1, t.2.2.2.2.2.2.2.1, t.2.2.2.2.2.2.2.2.1, t.2.2.2.2.2.2.2.2.2.1, t.2.2.2.2.2.2.2.2.2.2.1, t.2.2.2.2.2.2.2.2.2.2.2.1, t.2.2.2.2.2.2.2.2.2.2.2.2.1, t.2.2.2.2.2.2.2.2.2.2.2.2.2.1, t.2.2.2.2.2.2.2.2.2.2.2.2.2.2.1, t.2.2.2.2.2.2.2.2.2.2.2.2.2.2.2.1, t.2.2.2.2.2.2.2.2.2.2.2.2.2.2.2.2.1, t.2.2.2.2.2.2.2.2.2.2.2.2.2.2.2.2.2.1, t.2.2.2.2.2.2.2.2.2.2.2.2.2.2.2.2.2.2.1, t.2.2.2.2.2.2.2.2.2.2.2.2.2.2.2.2.2.2.2.1, t.2.2.2.2.2.2.2.2.2.2.2.2.2.2.2.2.2.2.2.2.1, t.2.2.2.2.2.2.2.2.2.2.2.2.2.2.2.2.2.2.2.2.2.1, t.2.2.2.2.2.2.2.2.2.2.2.2.2.2.2.2.2.2.2.2.2.2.1, t.2.2.2.2.2.2.2.2.2.2.2.2.2.2.2.2.2.2.2.2.2.2.2.1, t.2.2.2.2.2.2.2.2.2.2.2.2.2.2.2.2.2.2.2.2.2.2.2.2.1, t.2.2.2.2.2.2.2.2.2.2.2.2.2.2.2.2.2.2.2.2.2.2.2.2.2.1, v, t.2.2.2.2.2.2.2.2.2.2.2.2.2.2.2.2.2.2.2.2.2.2.2.2.2.2.2)
def zms_bestMissed (t : zMT) (v : Int) : zMT := (t.1, t.2.1, t.2.2.1, t.2.2.2.1, t.2.2.2.2.1, t.2.2.2.2.2.1, t.2.2.2.2.2.2.1, t.2.2.2.2.2.2.2.1, t.2.2.2.2.2.2.2.2.1, t.2.2.2.2.2.2.2.2.2.1, t.2.2.2.2.2.2.2.2.2.2.1, t.2.2.2.2.2.2.2.2.2.2.2.1, t.2.2.2.2.2.2.2.2.2.2.2.2.1, t.2.2.2.2.2.2.2.2.2.2.2.2.2.1, t.2.2.2.2.2.2.2.2.2.2.2.2.2.2.1, t.2.2.2.2.2.2.2.2.2.2.2.2.2.2.2.1, t.2.2.2.2.2.2.2.2.2.2.2.2.2.2.2.2.1, t.2.2.2.2.2.2.2.2.2.2.2.2.2.2.2.2.2.1, t.2.2.2.2.2.2.2.2.2.2.2.2.2.2.2.2.2.2.1, t.2.2.2.2.2.2.2.2.2.2.2.2.2.2.2.2.2.2.2.1, t.2.2.2.2.2.2.2.2.2.2.2.2.2.2.2.2.2.2.2.2.1, t.2.2.2.2.2.2.2.2.2.2.2.2.2.2.2.2.2.2.2.2.2.1, t.2.2.2.2.2.2.2.2.2.2.2.2.2.2.2.2.2.2.2.2.2.2.1, t.2.2.2.2.2.2.2.2.2.2.2.2.2.2.2.2.2.2.2.2.2.2.2.1, t.2.2.2.2.2.2.2.2.2.2.2.2.2.2.2.2.2.2.2.2.2.2.2.2.1, t.2.2.2.2.2.2.2.2.2.2.2.2.2.2.2.2.2.2.2.2.2.2.2.2.2.1, t.2.2.2.2.2.2.2.2.2.2.2.2.2.2.2.2.2.2.2.2.2.2.2.2.2.2.1, v)
theorem zk_M_eta (t : zMT) : zk_M (zm_lag t) (zm_dead t) (zm_manner t) (zm_setting t) (zm_leastOf t) (zm_mostOf t) (zm_kept t) (zm_planeOf t) (zm_momentOf t) (zm_stripOf t) (zm_late t) (zm_isOver t) (zm_isLive t) (zm_endOf t) (zm_known t) (zm_timeOf t) (zm_pulseOf t) (zm_groupOf t) (zm_groups t) (zm_shut t) (zm_firstOf t) (zm_agrees t) (zm_agreeSet t) (zm_missed t) (zm_bestA t) (zm_bestB t) (zm_bestAgrees t) (zm_bestMissed t) = t := rfl
def wR (a0 a1 a2 a3 : Nat) (cI : ClassId) (whenV : (Nat → Int)) (planeV : (Nat → Int)) (stripV : (Nat → Int)) (sizeV : Int) : va_W := [(a0, .inr (2, [.ref a1, .ref a2, .ref a3, .int (zI sizeV)])), (a1, .inl (cI, 240, .inl (za whenV))), (a2, .inl (cI, 240, .inl (za planeV))), (a3, .inl (cI, 240, .inl (za stripV)))]
def wG (a0 a1 a2 a3 a4 a5 a6 : Nat) (cI : ClassId) (firstV : (Nat → Int)) (setV : (Nat → Int)) (trackStartV : (Nat → Int)) (trackSlopeV : (Nat → Int)) (trackSetV : (Nat → Int)) (trackMissesV : (Nat → Int)) (sizeV : Int) : va_W := [(a0, .inr (0, [.ref a1, .ref a2, .ref a3, .ref a4, .ref a5, .ref a6, .int (zI sizeV)])), (a1, .inl (cI, 241, .inl (za firstV))), (a2, .inl (cI, 240, .inl (za setV))), (a3, .inl (cI, 240, .inl (za trackStartV))), (a4, .inl (cI, 240, .inl (za trackSlopeV))), (a5, .inl (cI, 240, .inl (za trackSetV))), (a6, .inl (cI, 240, .inl (za trackMissesV)))]
def wS (a0 a1 : Nat) (cI : ClassId) (stripsV : (Nat → Int)) (startV : Int) (slopeV : Int) (setV : Int) (missesV : Int) : va_W := [(a0, .inr (1, [.ref a1, .int (zI startV), .int (zI slopeV), .int (zI setV), .int (zI missesV)])), (a1, .inl (cI, 6, .inl (za stripsV)))]
def wX (h : Nat → Nat) (cI : ClassId) (lagV : (Nat → Int)) (deadV : (Nat → Int)) (mannerV : (Nat → Int)) (settingV : (Nat → Int)) (keptRowV : zRowT) (liveRowV : zRowT) (shiftedRowV : zRowT) (groupsV : zGrT) (searchV : zLsT) (deadUntilV : (Nat → Int)) (settledV : Int) (knownV : Int) (tooLateV : Int) (endedV : Int) : va_W := [((h 0), .inr (3, [.ref (h 1), .ref (h 2), .ref (h 3), .ref (h 4), .ref (h 5), .ref (h 9), .ref (h 13), .ref (h 17), .ref (h 24), .ref (h 26), .int (zI settledV), .int (zI knownV), .int (zI tooLateV), .int (zI endedV)])), ((h 1), .inl (cI, 6, .inl (za lagV))), ((h 2), .inl (cI, 6, .inl (za deadV))), ((h 3), .inl (cI, 6, .inl (za mannerV))), ((h 4), .inl (cI, 4, .inl (za settingV))), ((h 5), .inr (2, [.ref (h 6), .ref (h 7), .ref (h 8), .int (zI (zr_size keptRowV))])), ((h 6), .inl (cI, 240, .inl (za (zr_when keptRowV)))), ((h 7), .inl (cI, 240, .inl (za (zr_plane keptRowV)))), ((h 8), .inl (cI, 240, .inl (za (zr_strip keptRowV)))), ((h 9), .inr (2, [.ref (h 10), .ref (h 11), .ref (h 12), .int (zI (zr_size liveRowV))])), ((h 10), .inl (cI, 240, .inl (za (zr_when liveRowV)))), ((h 11), .inl (cI, 240, .inl (za (zr_plane liveRowV)))), ((h 12), .inl (cI, 240, .inl (za (zr_strip liveRowV)))), ((h 13), .inr (2, [.ref (h 14), .ref (h 15), .ref (h 16), .int (zI (zr_size shiftedRowV))])), ((h 14), .inl (cI, 240, .inl (za (zr_when shiftedRowV)))), ((h 15), .inl (cI, 240, .inl (za (zr_plane shiftedRowV)))), ((h 16), .inl (cI, 240, .inl (za (zr_strip shiftedRowV)))), ((h 17), .inr (0, [.ref (h 18), .ref (h 19), .ref (h 20), .ref (h 21), .ref (h 22), .ref (h 23), .int (zI (zg_size groupsV))])), ((h 18), .inl (cI, 241, .inl (za (zg_first groupsV)))), ((h 19), .inl (cI, 240, .inl (za (zg_set groupsV)))), ((h 20), .inl (cI, 240, .inl (za (zg_trackStart groupsV)))), ((h 21), .inl (cI, 240, .inl (za (zg_trackSlope groupsV)))), ((h 22), .inl (cI, 240, .inl (za (zg_trackSet groupsV)))), ((h 23), .inl (cI, 240, .inl (za (zg_trackMisses groupsV)))), ((h 24), .inr (1, [.ref (h 25), .int (zI (zs_start searchV)), .int (zI (zs_slope searchV)), .int (zI (zs_set searchV)), .int (zI (zs_misses searchV))])), ((h 25), .inl (cI, 6, .inl (za (zs_strips searchV)))), ((h 26), .inl (cI, 6, .inl (za deadUntilV)))]
def wM (h : Nat → Nat) (cI : ClassId) (cZ : ClassId) (lagV : (Nat → Int)) (deadV : (Nat → Int)) (mannerV : (Nat → Int)) (settingV : (Nat → Int)) (leastOfV : (Nat → Int)) (mostOfV : (Nat → Int)) (keptV : Int) (planeOfV : (Nat → Int)) (momentOfV : (Nat → Int)) (stripOfV : (Nat → Int)) (lateV : Int) (isOverV : Int) (isLiveV : (Nat → Int)) (endOfV : (Nat → Int)) (knownV : Int) (timeOfV : (Nat → Int)) (pulseOfV : (Nat → Int)) (groupOfV : (Nat → Int)) (groupsV : Int) (shutV : Int) (firstOfV : (Nat → Int)) (agreesV : Int) (agreeSetV : Int) (missedV : Int) (bestAV : Int) (bestBV : Int) (bestAgreesV : Int) (bestMissedV : Int) : va_W := [((h 0), .inr (4, [.ref (h 1), .ref (h 2), .ref (h 3), .ref (h 4), .ref (h 5), .ref (h 6), .int (zI keptV), .ref (h 7), .ref (h 8), .ref (h 9), .int (zI lateV), .int (zI isOverV), .ref (h 10), .ref (h 11), .int (zI knownV), .ref (h 12), .ref (h 13), .ref (h 14), .int (zI groupsV), .int (zI shutV), .ref (h 15), .int (zI agreesV), .int (zI agreeSetV), .int (zI missedV), .int (zI bestAV), .int (zI bestBV), .int (zI bestAgreesV), .int (zI bestMissedV)])), ((h 1), .inl (cI, 6, .inl (za lagV))), ((h 2), .inl (cI, 6, .inl (za deadV))), ((h 3), .inl (cI, 6, .inl (za mannerV))), ((h 4), .inl (cI, 4, .inl (za settingV))), ((h 5), .inl (cI, 4, .inl (za leastOfV))), ((h 6), .inl (cI, 4, .inl (za mostOfV))), ((h 7), .inl (cI, 241, .inl (za planeOfV))), ((h 8), .inl (cI, 241, .inl (za momentOfV))), ((h 9), .inl (cI, 241, .inl (za stripOfV))), ((h 10), .inl (cZ, 240, .inl (za isLiveV))), ((h 11), .inl (cI, 6, .inl (za endOfV))), ((h 12), .inl (cI, 240, .inl (za timeOfV))), ((h 13), .inl (cI, 240, .inl (za pulseOfV))), ((h 14), .inl (cI, 240, .inl (za groupOfV))), ((h 15), .inl (cI, 240, .inl (za firstOfV)))]
end
section
abbrev rmX0_add : Room := { frames := 0, cells := 0, slots := 0, locals := 0 }
abbrev rmX0_pulses : Room := { frames := 0, cells := 0, slots := 0, locals := 0 }
abbrev rmX0_hasTrack : Room := { frames := 0, cells := 0, slots := 0, locals := 0 }
abbrev rmX0_tracks : Room := { frames := 1, cells := 0, slots := 0, locals := 21 }
abbrev rmJ6_bitCount_0f7a4 : Room := { frames := 0, cells := 0, slots := 0, locals := 0 }
abbrev rmX1_take : Room := { frames := 0, cells := 0, slots := 0, locals := 0 }
abbrev rmX1_weigh : Room := { frames := 1, cells := 0, slots := 0, locals := 24 }
abbrev rmX1_run : Room := { frames := 2, cells := 0, slots := 0, locals := 51 }
abbrev rmX2_isBehind : Room := { frames := 0, cells := 0, slots := 0, locals := 0 }
abbrev rmX2_put : Room := { frames := 0, cells := 0, slots := 0, locals := 0 }
abbrev rmX2_insert : Room := { frames := 1, cells := 0, slots := 0, locals := 24 }
abbrev rmX2_countOf : Room := { frames := 0, cells := 0, slots := 0, locals := 0 }
abbrev rmX2_indexOf : Room := { frames := 0, cells := 0, slots := 0, locals := 0 }
abbrev rmX2_endOfGroup : Room := { frames := 0, cells := 0, slots := 0, locals := 0 }
abbrev rmX2_planesOf : Room := { frames := 0, cells := 0, slots := 0, locals := 0 }
abbrev rmJ7_fill_53178 : Room := { frames := 0, cells := 0, slots := 0, locals := 0 }
abbrev rmX2_putMemberStrips : Room := { frames := 1, cells := 0, slots := 0, locals := 23 }
abbrev rmX2_nextOf : Room := { frames := 0, cells := 0, slots := 0, locals := 0 }
abbrev rmX2_fillShifted : Room := { frames := 1, cells := 0, slots := 0, locals := 24 }
abbrev rmX3_isWithin : Room := { frames := 0, cells := 0, slots := 0, locals := 0 }
abbrev rmX3_isPlane : Room := { frames := 1, cells := 0, slots := 0, locals := 22 }
abbrev rmX3_hasBegun : Room := { frames := 0, cells := 0, slots := 0, locals := 0 }
abbrev rmX3_plane : Room := { frames := 2, cells := 0, slots := 0, locals := 42 }
abbrev rmX3_liveOf : Room := { frames := 1, cells := 0, slots := 0, locals := 24 }
abbrev rmX3_ofPlane : Room := { frames := 2, cells := 0, slots := 0, locals := 45 }
abbrev rmX3_tune : Room := { frames := 1, cells := 0, slots := 0, locals := 22 }
abbrev rmX3_isStrip : Room := { frames := 1, cells := 0, slots := 0, locals := 22 }
abbrev rmX3_latest : Room := { frames := 0, cells := 0, slots := 0, locals := 0 }
abbrev rmX3_horizon : Room := { frames := 1, cells := 0, slots := 0, locals := 20 }
abbrev rmX3_settle : Room := { frames := 2, cells := 0, slots := 0, locals := 48 }
abbrev rmX3_settleBelow : Room := { frames := 3, cells := 0, slots := 0, locals := 72 }
abbrev rmX3_edge : Room := { frames := 2, cells := 0, slots := 0, locals := 40 }
abbrev rmX3_nextGroupIsShut : Room := { frames := 1, cells := 0, slots := 0, locals := 20 }
abbrev rmX3_shutGroup : Room := { frames := 3, cells := 0, slots := 0, locals := 78 }
abbrev rmX3_follow : Room := { frames := 4, cells := 0, slots := 0, locals := 100 }
abbrev rmX3_pulse : Room := { frames := 5, cells := 0, slots := 0, locals := 122 }
abbrev rmX3_end : Room := { frames := 5, cells := 0, slots := 0, locals := 122 }
abbrev rmX3_anew : Room := { frames := 1, cells := 0, slots := 0, locals := 23 }
abbrev rmX3_isGroup : Room := { frames := 1, cells := 0, slots := 0, locals := 22 }
abbrev rmX3_group : Room := { frames := 2, cells := 0, slots := 0, locals := 43 }
abbrev rmX3_member : Room := { frames := 2, cells := 0, slots := 0, locals := 43 }
abbrev rmX3_having : Room := { frames := 1, cells := 0, slots := 0, locals := 22 }
abbrev rmX3_folds : Room := { frames := 1, cells := 0, slots := 0, locals := 22 }
abbrev rmX3_isCoincidence : Room := { frames := 1, cells := 0, slots := 0, locals := 20 }
abbrev rmX3_shifted : Room := { frames := 2, cells := 0, slots := 0, locals := 51 }
abbrev rmX3_twos : Room := { frames := 2, cells := 0, slots := 0, locals := 42 }
abbrev rmX3_span : Room := { frames := 1, cells := 0, slots := 0, locals := 20 }
abbrev rmX3_liveTime : Room := { frames := 2, cells := 0, slots := 0, locals := 40 }
abbrev rmX3_live : Room := { frames := 3, cells := 0, slots := 0, locals := 68 }
abbrev rmX3_greatestDivisor : Room := { frames := 0, cells := 0, slots := 0, locals := 0 }
abbrev rmX3_inLeastTerms : Room := { frames := 1, cells := 0, slots := 0, locals := 26 }
abbrev rmX3_rate : Room := { frames := 3, cells := 0, slots := 0, locals := 68 }
abbrev rmX3_expected : Room := { frames := 2, cells := 0, slots := 0, locals := 52 }
abbrev rmX3_track : Room := { frames := 2, cells := 0, slots := 0, locals := 43 }
abbrev rmX3_through : Room := { frames := 2, cells := 0, slots := 0, locals := 42 }
abbrev rmX3_coincidences : Room := { frames := 2, cells := 0, slots := 0, locals := 41 }
abbrev rmX3_many : Room := { frames := 3, cells := 0, slots := 0, locals := 63 }
abbrev rmX4_within : Room := { frames := 0, cells := 0, slots := 0, locals := 0 }
abbrev rmX4_isPlane : Room := { frames := 1, cells := 0, slots := 0, locals := 22 }
abbrev rmX4_isBegun : Room := { frames := 0, cells := 0, slots := 0, locals := 0 }
abbrev rmX4_plane : Room := { frames := 2, cells := 0, slots := 0, locals := 42 }
abbrev rmX4_tune : Room := { frames := 1, cells := 0, slots := 0, locals := 22 }
abbrev rmX4_horizon : Room := { frames := 0, cells := 0, slots := 0, locals := 0 }
abbrev rmX4_edge : Room := { frames := 1, cells := 0, slots := 0, locals := 20 }
abbrev rmX4_isBehind : Room := { frames := 0, cells := 0, slots := 0, locals := 0 }
abbrev rmX4_pulse : Room := { frames := 2, cells := 0, slots := 0, locals := 42 }
abbrev rmX4_settled : Room := { frames := 1, cells := 0, slots := 0, locals := 20 }
abbrev rmX4_end : Room := { frames := 2, cells := 0, slots := 0, locals := 42 }
abbrev rmX4_anew : Room := { frames := 0, cells := 0, slots := 0, locals := 0 }
abbrev rmX4_findLive : Room := { frames := 2, cells := 0, slots := 0, locals := 42 }
abbrev rmX4_manyLive : Room := { frames := 3, cells := 0, slots := 0, locals := 65 }
abbrev rmX4_keptOf : Room := { frames := 0, cells := 0, slots := 0, locals := 0 }
abbrev rmX4_ofPlane : Room := { frames := 4, cells := 0, slots := 0, locals := 90 }
abbrev rmX4_isTimeBehind : Room := { frames := 0, cells := 0, slots := 0, locals := 0 }
abbrev rmX4_comesByTime : Room := { frames := 1, cells := 0, slots := 0, locals := 24 }
abbrev rmX4_findGroups : Room := { frames := 3, cells := 0, slots := 0, locals := 65 }
abbrev rmX4_manyIn : Room := { frames := 0, cells := 0, slots := 0, locals := 0 }
abbrev rmX4_memberIn : Room := { frames := 0, cells := 0, slots := 0, locals := 0 }
abbrev rmX4_setOf : Room := { frames := 0, cells := 0, slots := 0, locals := 0 }
abbrev rmX4_size : Room := { frames := 0, cells := 0, slots := 0, locals := 0 }
abbrev rmX4_isGroup : Room := { frames := 4, cells := 0, slots := 0, locals := 90 }
abbrev rmX4_group : Room := { frames := 5, cells := 0, slots := 0, locals := 111 }
abbrev rmX4_member : Room := { frames := 5, cells := 0, slots := 0, locals := 111 }
abbrev rmX4_having : Room := { frames := 4, cells := 0, slots := 0, locals := 90 }
abbrev rmX4_folds : Room := { frames := 4, cells := 0, slots := 0, locals := 90 }
abbrev rmX4_coincidences : Room := { frames := 1, cells := 0, slots := 0, locals := 23 }
abbrev rmX4_shifted : Room := { frames := 4, cells := 0, slots := 0, locals := 90 }
abbrev rmX4_twos : Room := { frames := 4, cells := 0, slots := 0, locals := 90 }
abbrev rmX4_span : Room := { frames := 0, cells := 0, slots := 0, locals := 0 }
abbrev rmX4_liveTime : Room := { frames := 3, cells := 0, slots := 0, locals := 65 }
abbrev rmX4_live : Room := { frames := 4, cells := 0, slots := 0, locals := 91 }
abbrev rmX4_inLeastTerms : Room := { frames := 0, cells := 0, slots := 0, locals := 0 }
abbrev rmX4_rate : Room := { frames := 4, cells := 0, slots := 0, locals := 91 }
abbrev rmX4_expected : Room := { frames := 4, cells := 0, slots := 0, locals := 90 }
abbrev rmX4_tries : Room := { frames := 1, cells := 0, slots := 0, locals := 23 }
abbrev rmX4_far : Room := { frames := 0, cells := 0, slots := 0, locals := 0 }
abbrev rmX4_isAhead : Room := { frames := 1, cells := 0, slots := 0, locals := 20 }
abbrev rmX4_findTrack : Room := { frames := 2, cells := 0, slots := 0, locals := 49 }
abbrev rmX4_track : Room := { frames := 5, cells := 0, slots := 0, locals := 111 }
abbrev rmX4_through : Room := { frames := 4, cells := 0, slots := 0, locals := 90 }
abbrev rmX4_tracks : Room := { frames := 3, cells := 0, slots := 0, locals := 72 }
abbrev rmX4_inGroups : Room := { frames := 0, cells := 0, slots := 0, locals := 0 }
abbrev rmX4_many : Room := { frames := 4, cells := 0, slots := 0, locals := 94 }
abbrev rmX0_init : Room := { frames := 1, cells := 6, slots := 1441, locals := 20 }
abbrev rmX1_init : Room := { frames := 1, cells := 1, slots := 6, locals := 20 }
abbrev rmX2_init : Room := { frames := 1, cells := 3, slots := 720, locals := 20 }
abbrev rmX3_init : Room := { frames := 2, cells := 26, slots := 3659, locals := 40 }
abbrev rmX4_init : Room := { frames := 1, cells := 15, slots := 1959, locals := 20 }
theorem zw0 : Cond.fieldLink RX0 30 "CounterHouse$Groups" "size" "I" ∈ zTb := zin (i := 111) (by decide +kernel) (by decide +kernel)
theorem zw1 : Cond.fieldLink RX0 15 "CounterHouse$Groups" "set" "[I" ∈ zTb := zin (i := 101) (by decide +kernel) (by decide +kernel)
theorem zw2 : Cond.fieldLink RX0 18 "CounterHouse$Groups" "trackStart" "[I" ∈ zTb := zin (i := 103) (by decide +kernel) (by decide +kernel)
theorem zw3 : Cond.fieldLink RX0 34 "CounterHouse$LineSearch" "start" "I" ∈ zTb := zin (i := 136) (by decide +kernel) (by decide +kernel)
theorem zw4 : Cond.fieldLink RX0 21 "CounterHouse$Groups" "trackSlope" "[I" ∈ zTb := zin (i := 105) (by decide +kernel) (by decide +kernel)
theorem zw5 : Cond.fieldLink RX0 39 "CounterHouse$LineSearch" "slope" "I" ∈ zTb := zin (i := 138) (by decide +kernel) (by decide +kernel)
theorem zw6 : Cond.fieldLink RX0 24 "CounterHouse$Groups" "trackSet" "[I" ∈ zTb := zin (i := 107) (by decide +kernel) (by decide +kernel)
theorem zw7 : Cond.fieldLink RX0 42 "CounterHouse$LineSearch" "set" "I" ∈ zTb := zin (i := 141) (by decide +kernel) (by decide +kernel)
theorem zw8 : Cond.fieldLink RX0 27 "CounterHouse$Groups" "trackMisses" "[I" ∈ zTb := zin (i := 109) (by decide +kernel) (by decide +kernel)
theorem zw9 : Cond.fieldLink RX0 44 "CounterHouse$LineSearch" "misses" "I" ∈ zTb := zin (i := 143) (by decide +kernel) (by decide +kernel)
theorem zw10 : Cond.fieldLink RX0 9 "CounterHouse$Groups" "first" "[I" ∈ zTb := zin (i := 99) (by decide +kernel) (by decide +kernel)
theorem zw11 : Cond.methodLink RX0 47 yX0_hasTrack ∈ zTb := zin (i := 437) (by decide +kernel) (by decide +kernel)
theorem zw12 : Cond.instanceMethod yX0_hasTrack ∈ zTb := zin (i := 418) (by decide +kernel) (by decide +kernel)
theorem zw13 : Cond.selects RX0 yX0_hasTrack yX0_hasTrack ∈ zTb := zin (i := 419) (by decide +kernel) (by decide +kernel)
theorem zw14 : Cond.initialized RX0 ∈ zTb := zin (i := 46) (by decide +kernel) (by decide +kernel)
theorem zw15 : Cond.code yX0_hasTrack cX0_hasTrack 2 (some .boolean) ∈ zTb := zin (i := 420) (by decide +kernel) (by decide +kernel)
theorem zw16 : Cond.constant RJ6 265 (zI 1431655765) ∈ zTb := zin (i := 317) (by decide +kernel) (by decide +kernel)
theorem zw17 : Cond.constant RJ6 266 (zI 858993459) ∈ zTb := zin (i := 318) (by decide +kernel) (by decide +kernel)
theorem zw18 : Cond.constant RJ6 267 (zI 252645135) ∈ zTb := zin (i := 319) (by decide +kernel) (by decide +kernel)
theorem zw19 : Cond.fieldLink RX1 44 "CounterHouse$LineSearch" "start" "I" ∈ zTb := zin (i := 137) (by decide +kernel) (by decide +kernel)
theorem zw20 : Cond.fieldLink RX1 47 "CounterHouse$LineSearch" "slope" "I" ∈ zTb := zin (i := 139) (by decide +kernel) (by decide +kernel)
theorem zw21 : Cond.fieldLink RX1 15 "CounterHouse$LineSearch" "set" "I" ∈ zTb := zin (i := 140) (by decide +kernel) (by decide +kernel)
theorem zw22 : Cond.fieldLink RX1 19 "CounterHouse$LineSearch" "misses" "I" ∈ zTb := zin (i := 142) (by decide +kernel) (by decide +kernel)
theorem zw23 : Cond.fieldLink RX1 9 "CounterHouse$LineSearch" "strips" "[I" ∈ zTb := zin (i := 134) (by decide +kernel) (by decide +kernel)
theorem zw24 : Cond.methodLink RX1 35 Lib.Math.abs.name ∈ zTb := zin (i := 311) (by decide +kernel) (by decide +kernel)
theorem zw25 : Cond.static Lib.Math.abs.name ∈ zTb := zin (i := 312) (by decide +kernel) (by decide +kernel)
theorem zw26 : Cond.initialized "java/lang/Math" ∈ zTb := zin (i := 49) (by decide +kernel) (by decide +kernel)
theorem zw27 : Cond.code Lib.Math.abs.name Lib.Math.abs.code 1 (some .int) ∈ zTb := zin (i := 313) (by decide +kernel) (by decide +kernel)
theorem zw28 : Cond.methodLink RX1 29 yJ6_bitCount_0f7a4 ∈ zTb := zin (i := 314) (by decide +kernel) (by decide +kernel)
theorem zw29 : Cond.static yJ6_bitCount_0f7a4 ∈ zTb := zin (i := 315) (by decide +kernel) (by decide +kernel)
theorem zw30 : Cond.initialized RJ6 ∈ zTb := zin (i := 51) (by decide +kernel) (by decide +kernel)
theorem zw31 : Cond.code yJ6_bitCount_0f7a4 cJ6_bitCount_0f7a4 1 (some .int) ∈ zTb := zin (i := 316) (by decide +kernel) (by decide +kernel)
theorem zw32 : Cond.methodLink RX1 40 yX1_take ∈ zTb := zin (i := 320) (by decide +kernel) (by decide +kernel)
theorem zw33 : Cond.instanceMethod yX1_take ∈ zTb := zin (i := 322) (by decide +kernel) (by decide +kernel)
theorem zw34 : Cond.selects RX1 yX1_take yX1_take ∈ zTb := zin (i := 13) (by decide +kernel) (by decide +kernel)
theorem zw35 : Cond.initialized RX1 ∈ zTb := zin (i := 47) (by decide +kernel) (by decide +kernel)
theorem zw36 : Cond.code yX1_take cX1_take 5 none ∈ zTb := zin (i := 323) (by decide +kernel) (by decide +kernel)
theorem zw37 : Cond.fieldLink RX1 22 "CounterHouse$LineSearch" "SLOPES" "[I" ∈ zTb := zin (i := 305) (by decide +kernel) (by decide +kernel)
theorem zw38 : Cond.methodLink RX1 25 yX1_weigh ∈ zTb := zin (i := 307) (by decide +kernel) (by decide +kernel)
theorem zw39 : Cond.instanceMethod yX1_weigh ∈ zTb := zin (i := 309) (by decide +kernel) (by decide +kernel)
theorem zw40 : Cond.selects RX1 yX1_weigh yX1_weigh ∈ zTb := zin (i := 12) (by decide +kernel) (by decide +kernel)
theorem zw41 : Cond.code yX1_weigh cX1_weigh 8 none ∈ zTb := zin (i := 310) (by decide +kernel) (by decide +kernel)
theorem zw42 : Cond.fieldLink RX2 9 "CounterHouse$Row" "when" "[I" ∈ zTb := zin (i := 75) (by decide +kernel) (by decide +kernel)
theorem zw43 : Cond.fieldLink RX2 15 "CounterHouse$Row" "plane" "[I" ∈ zTb := zin (i := 77) (by decide +kernel) (by decide +kernel)
theorem zw44 : Cond.fieldLink RX2 18 "CounterHouse$Row" "strip" "[I" ∈ zTb := zin (i := 79) (by decide +kernel) (by decide +kernel)
theorem zw45 : Cond.fieldLink RX2 21 "CounterHouse$Row" "size" "I" ∈ zTb := zin (i := 81) (by decide +kernel) (by decide +kernel)
theorem zw46 : Cond.methodLink RX2 25 yX2_isBehind ∈ zTb := zin (i := 251) (by decide +kernel) (by decide +kernel)
theorem zw47 : Cond.instanceMethod yX2_isBehind ∈ zTb := zin (i := 253) (by decide +kernel) (by decide +kernel)
theorem zw48 : Cond.selects RX2 yX2_isBehind yX2_isBehind ∈ zTb := zin (i := 4) (by decide +kernel) (by decide +kernel)
theorem zw49 : Cond.initialized RX2 ∈ zTb := zin (i := 45) (by decide +kernel) (by decide +kernel)
theorem zw50 : Cond.code yX2_isBehind cX2_isBehind 5 (some .boolean) ∈ zTb := zin (i := 254) (by decide +kernel) (by decide +kernel)
theorem zw51 : Cond.methodLink RX2 29 yX2_put ∈ zTb := zin (i := 255) (by decide +kernel) (by decide +kernel)
theorem zw52 : Cond.instanceMethod yX2_put ∈ zTb := zin (i := 257) (by decide +kernel) (by decide +kernel)
theorem zw53 : Cond.selects RX2 yX2_put yX2_put ∈ zTb := zin (i := 5) (by decide +kernel) (by decide +kernel)
theorem zw54 : Cond.code yX2_put cX2_put 5 none ∈ zTb := zin (i := 258) (by decide +kernel) (by decide +kernel)
theorem zw55 : Cond.methodLink RX2 33 yJ7_fill_53178 ∈ zTb := zin (i := 298) (by decide +kernel) (by decide +kernel)
theorem zw56 : Cond.static yJ7_fill_53178 ∈ zTb := zin (i := 299) (by decide +kernel) (by decide +kernel)
theorem zw57 : Cond.initialized RJ7 ∈ zTb := zin (i := 50) (by decide +kernel) (by decide +kernel)
theorem zw58 : Cond.code yJ7_fill_53178 cJ7_fill_53178 4 none ∈ zTb := zin (i := 300) (by decide +kernel) (by decide +kernel)
theorem zw59 : Cond.methodLink RX2 39 yX2_nextOf ∈ zTb := zin (i := 374) (by decide +kernel) (by decide +kernel)
theorem zw60 : Cond.instanceMethod yX2_nextOf ∈ zTb := zin (i := 376) (by decide +kernel) (by decide +kernel)
theorem zw61 : Cond.selects RX2 yX2_nextOf yX2_nextOf ∈ zTb := zin (i := 15) (by decide +kernel) (by decide +kernel)
theorem zw62 : Cond.code yX2_nextOf cX2_nextOf 5 (some .int) ∈ zTb := zin (i := 377) (by decide +kernel) (by decide +kernel)
theorem zw63 : Cond.methodLink RX3 66 yX3_isWithin ∈ zTb := zin (i := 205) (by decide +kernel) (by decide +kernel)
theorem zw64 : Cond.static yX3_isWithin ∈ zTb := zin (i := 206) (by decide +kernel) (by decide +kernel)
theorem zw65 : Cond.initialized RX3 ∈ zTb := zin (i := 44) (by decide +kernel) (by decide +kernel)
theorem zw66 : Cond.code yX3_isWithin cX3_isWithin 3 (some .boolean) ∈ zTb := zin (i := 207) (by decide +kernel) (by decide +kernel)
theorem zw67 : Cond.fieldLink RX3 35 "CounterHouse" "keptRow" "LCounterHouse$Row;" ∈ zTb := zin (i := 159) (by decide +kernel) (by decide +kernel)
theorem zw68 : Cond.fieldLink RX3 74 "CounterHouse$Row" "size" "I" ∈ zTb := zin (i := 82) (by decide +kernel) (by decide +kernel)
theorem zw69 : Cond.fieldLink RX3 98 "CounterHouse" "ended" "Z" ∈ zTb := zin (i := 168) (by decide +kernel) (by decide +kernel)
theorem zw70 : Cond.methodLink RX3 62 yX3_isPlane ∈ zTb := zin (i := 202) (by decide +kernel) (by decide +kernel)
theorem zw71 : Cond.static yX3_isPlane ∈ zTb := zin (i := 203) (by decide +kernel) (by decide +kernel)
theorem zw72 : Cond.code yX3_isPlane cX3_isPlane 1 (some .boolean) ∈ zTb := zin (i := 204) (by decide +kernel) (by decide +kernel)
theorem zw73 : Cond.methodLink RX3 70 yX3_hasBegun ∈ zTb := zin (i := 208) (by decide +kernel) (by decide +kernel)
theorem zw74 : Cond.instanceMethod yX3_hasBegun ∈ zTb := zin (i := 210) (by decide +kernel) (by decide +kernel)
theorem zw75 : Cond.selects RX3 yX3_hasBegun yX3_hasBegun ∈ zTb := zin (i := 0) (by decide +kernel) (by decide +kernel)
theorem zw76 : Cond.code yX3_hasBegun cX3_hasBegun 1 (some .boolean) ∈ zTb := zin (i := 211) (by decide +kernel) (by decide +kernel)
theorem zw77 : Cond.fieldLink RX3 11 "CounterHouse" "lag" "[I" ∈ zTb := zin (i := 155) (by decide +kernel) (by decide +kernel)
theorem zw78 : Cond.fieldLink RX3 15 "CounterHouse" "dead" "[I" ∈ zTb := zin (i := 156) (by decide +kernel) (by decide +kernel)
theorem zw79 : Cond.fieldLink RX3 18 "CounterHouse" "manner" "[I" ∈ zTb := zin (i := 157) (by decide +kernel) (by decide +kernel)
theorem zw80 : Cond.fieldLink RX3 39 "CounterHouse" "liveRow" "LCounterHouse$Row;" ∈ zTb := zin (i := 160) (by decide +kernel) (by decide +kernel)
theorem zw81 : Cond.methodLink RX3 78 yX2_countOf ∈ zTb := zin (i := 216) (by decide +kernel) (by decide +kernel)
theorem zw82 : Cond.instanceMethod yX2_countOf ∈ zTb := zin (i := 217) (by decide +kernel) (by decide +kernel)
theorem zw83 : Cond.selects RX2 yX2_countOf yX2_countOf ∈ zTb := zin (i := 218) (by decide +kernel) (by decide +kernel)
theorem zw84 : Cond.code yX2_countOf cX2_countOf 5 (some .int) ∈ zTb := zin (i := 219) (by decide +kernel) (by decide +kernel)
theorem zw85 : Cond.methodLink RX3 82 yX3_liveOf ∈ zTb := zin (i := 220) (by decide +kernel) (by decide +kernel)
theorem zw86 : Cond.instanceMethod yX3_liveOf ∈ zTb := zin (i := 222) (by decide +kernel) (by decide +kernel)
theorem zw87 : Cond.selects RX3 yX3_liveOf yX3_liveOf ∈ zTb := zin (i := 1) (by decide +kernel) (by decide +kernel)
theorem zw88 : Cond.code yX3_liveOf cX3_liveOf 2 (some .int) ∈ zTb := zin (i := 223) (by decide +kernel) (by decide +kernel)
theorem zw89 : Cond.fieldLink RX3 86 "CounterHouse" "settled" "I" ∈ zTb := zin (i := 165) (by decide +kernel) (by decide +kernel)
theorem zw90 : Cond.fieldLink RX3 89 "CounterHouse" "LEAST_OF_SETTING" "[I" ∈ zTb := zin (i := 228) (by decide +kernel) (by decide +kernel)
theorem zw91 : Cond.fieldLink RX3 92 "CounterHouse" "MOST_OF_SETTING" "[I" ∈ zTb := zin (i := 230) (by decide +kernel) (by decide +kernel)
theorem zw92 : Cond.fieldLink RX3 29 "CounterHouse" "setting" "[I" ∈ zTb := zin (i := 158) (by decide +kernel) (by decide +kernel)
theorem zw93 : Cond.fieldLink RX3 132 "CounterHouse$Row" "when" "[I" ∈ zTb := zin (i := 76) (by decide +kernel) (by decide +kernel)
theorem zw94 : Cond.methodLink RX3 205 yX3_latest ∈ zTb := zin (i := 243) (by decide +kernel) (by decide +kernel)
theorem zw95 : Cond.instanceMethod yX3_latest ∈ zTb := zin (i := 245) (by decide +kernel) (by decide +kernel)
theorem zw96 : Cond.selects RX3 yX3_latest yX3_latest ∈ zTb := zin (i := 3) (by decide +kernel) (by decide +kernel)
theorem zw97 : Cond.code yX3_latest cX3_latest 1 (some .int) ∈ zTb := zin (i := 246) (by decide +kernel) (by decide +kernel)
theorem zw98 : Cond.fieldLink RX3 59 "CounterHouse" "deadUntil" "[I" ∈ zTb := zin (i := 164) (by decide +kernel) (by decide +kernel)
theorem zw99 : Cond.methodLink RX3 109 yX2_insert ∈ zTb := zin (i := 247) (by decide +kernel) (by decide +kernel)
theorem zw100 : Cond.instanceMethod yX2_insert ∈ zTb := zin (i := 248) (by decide +kernel) (by decide +kernel)
theorem zw101 : Cond.selects RX2 yX2_insert yX2_insert ∈ zTb := zin (i := 249) (by decide +kernel) (by decide +kernel)
theorem zw102 : Cond.code yX2_insert cX2_insert 5 none ∈ zTb := zin (i := 250) (by decide +kernel) (by decide +kernel)
theorem zw103 : Cond.fieldLink RX3 163 "CounterHouse$Row" "plane" "[I" ∈ zTb := zin (i := 78) (by decide +kernel) (by decide +kernel)
theorem zw104 : Cond.fieldLink RX3 147 "CounterHouse$Row" "strip" "[I" ∈ zTb := zin (i := 80) (by decide +kernel) (by decide +kernel)
theorem zw105 : Cond.methodLink RX3 223 yX3_settle ∈ zTb := zin (i := 267) (by decide +kernel) (by decide +kernel)
theorem zw106 : Cond.instanceMethod yX3_settle ∈ zTb := zin (i := 269) (by decide +kernel) (by decide +kernel)
theorem zw107 : Cond.selects RX3 yX3_settle yX3_settle ∈ zTb := zin (i := 8) (by decide +kernel) (by decide +kernel)
theorem zw108 : Cond.code yX3_settle cX3_settle 5 none ∈ zTb := zin (i := 270) (by decide +kernel) (by decide +kernel)
theorem zw109 : Cond.methodLink RX3 208 Lib.Math.max.name ∈ zTb := zin (i := 275) (by decide +kernel) (by decide +kernel)
theorem zw110 : Cond.static Lib.Math.max.name ∈ zTb := zin (i := 276) (by decide +kernel) (by decide +kernel)
theorem zw111 : Cond.code Lib.Math.max.name Lib.Math.max.code 2 (some .int) ∈ zTb := zin (i := 277) (by decide +kernel) (by decide +kernel)
theorem zw112 : Cond.methodLink RX3 102 yX3_horizon ∈ zTb := zin (i := 239) (by decide +kernel) (by decide +kernel)
theorem zw113 : Cond.instanceMethod yX3_horizon ∈ zTb := zin (i := 241) (by decide +kernel) (by decide +kernel)
theorem zw114 : Cond.selects RX3 yX3_horizon yX3_horizon ∈ zTb := zin (i := 2) (by decide +kernel) (by decide +kernel)
theorem zw115 : Cond.code yX3_horizon cX3_horizon 1 (some .int) ∈ zTb := zin (i := 242) (by decide +kernel) (by decide +kernel)
theorem zw116 : Cond.fieldLink RX3 48 "CounterHouse" "groups" "LCounterHouse$Groups;" ∈ zTb := zin (i := 162) (by decide +kernel) (by decide +kernel)
theorem zw117 : Cond.methodLink RX3 196 yX0_pulses ∈ zTb := zin (i := 282) (by decide +kernel) (by decide +kernel)
theorem zw118 : Cond.instanceMethod yX0_pulses ∈ zTb := zin (i := 283) (by decide +kernel) (by decide +kernel)
theorem zw119 : Cond.selects RX0 yX0_pulses yX0_pulses ∈ zTb := zin (i := 284) (by decide +kernel) (by decide +kernel)
theorem zw120 : Cond.code yX0_pulses cX0_pulses 1 (some .int) ∈ zTb := zin (i := 285) (by decide +kernel) (by decide +kernel)
theorem zw121 : Cond.fieldLink RX3 123 "CounterHouse" "known" "I" ∈ zTb := zin (i := 166) (by decide +kernel) (by decide +kernel)
theorem zw122 : Cond.methodLink RX3 154 yX2_endOfGroup ∈ zTb := zin (i := 290) (by decide +kernel) (by decide +kernel)
theorem zw123 : Cond.instanceMethod yX2_endOfGroup ∈ zTb := zin (i := 291) (by decide +kernel) (by decide +kernel)
theorem zw124 : Cond.selects RX2 yX2_endOfGroup yX2_endOfGroup ∈ zTb := zin (i := 292) (by decide +kernel) (by decide +kernel)
theorem zw125 : Cond.code yX2_endOfGroup cX2_endOfGroup 5 (some .int) ∈ zTb := zin (i := 293) (by decide +kernel) (by decide +kernel)
theorem zw126 : Cond.fieldLink RX3 55 "CounterHouse" "search" "LCounterHouse$LineSearch;" ∈ zTb := zin (i := 163) (by decide +kernel) (by decide +kernel)
theorem zw127 : Cond.fieldLink RX3 226 "CounterHouse$LineSearch" "strips" "[I" ∈ zTb := zin (i := 135) (by decide +kernel) (by decide +kernel)
theorem zw128 : Cond.methodLink RX3 229 yX2_putMemberStrips ∈ zTb := zin (i := 294) (by decide +kernel) (by decide +kernel)
theorem zw129 : Cond.instanceMethod yX2_putMemberStrips ∈ zTb := zin (i := 295) (by decide +kernel) (by decide +kernel)
theorem zw130 : Cond.selects RX2 yX2_putMemberStrips yX2_putMemberStrips ∈ zTb := zin (i := 296) (by decide +kernel) (by decide +kernel)
theorem zw131 : Cond.code yX2_putMemberStrips cX2_putMemberStrips 5 none ∈ zTb := zin (i := 297) (by decide +kernel) (by decide +kernel)
theorem zw132 : Cond.methodLink RX3 233 yX1_run ∈ zTb := zin (i := 301) (by decide +kernel) (by decide +kernel)
theorem zw133 : Cond.instanceMethod yX1_run ∈ zTb := zin (i := 302) (by decide +kernel) (by decide +kernel)
theorem zw134 : Cond.selects RX1 yX1_run yX1_run ∈ zTb := zin (i := 303) (by decide +kernel) (by decide +kernel)
theorem zw135 : Cond.code yX1_run cX1_run 8 none ∈ zTb := zin (i := 304) (by decide +kernel) (by decide +kernel)
theorem zw136 : Cond.methodLink RX3 157 yX2_planesOf ∈ zTb := zin (i := 324) (by decide +kernel) (by decide +kernel)
theorem zw137 : Cond.instanceMethod yX2_planesOf ∈ zTb := zin (i := 325) (by decide +kernel) (by decide +kernel)
theorem zw138 : Cond.selects RX2 yX2_planesOf yX2_planesOf ∈ zTb := zin (i := 326) (by decide +kernel) (by decide +kernel)
theorem zw139 : Cond.code yX2_planesOf cX2_planesOf 5 (some .int) ∈ zTb := zin (i := 327) (by decide +kernel) (by decide +kernel)
theorem zw140 : Cond.methodLink RX3 237 yX0_add ∈ zTb := zin (i := 328) (by decide +kernel) (by decide +kernel)
theorem zw141 : Cond.instanceMethod yX0_add ∈ zTb := zin (i := 329) (by decide +kernel) (by decide +kernel)
theorem zw142 : Cond.selects RX0 yX0_add yX0_add ∈ zTb := zin (i := 330) (by decide +kernel) (by decide +kernel)
theorem zw143 : Cond.code yX0_add cX0_add 4 none ∈ zTb := zin (i := 331) (by decide +kernel) (by decide +kernel)
theorem zw144 : Cond.methodLink RX3 213 yX3_settleBelow ∈ zTb := zin (i := 263) (by decide +kernel) (by decide +kernel)
theorem zw145 : Cond.instanceMethod yX3_settleBelow ∈ zTb := zin (i := 265) (by decide +kernel) (by decide +kernel)
theorem zw146 : Cond.selects RX3 yX3_settleBelow yX3_settleBelow ∈ zTb := zin (i := 7) (by decide +kernel) (by decide +kernel)
theorem zw147 : Cond.code yX3_settleBelow cX3_settleBelow 2 none ∈ zTb := zin (i := 266) (by decide +kernel) (by decide +kernel)
theorem zw148 : Cond.methodLink RX3 202 yX3_edge ∈ zTb := zin (i := 271) (by decide +kernel) (by decide +kernel)
theorem zw149 : Cond.instanceMethod yX3_edge ∈ zTb := zin (i := 273) (by decide +kernel) (by decide +kernel)
theorem zw150 : Cond.selects RX3 yX3_edge yX3_edge ∈ zTb := zin (i := 9) (by decide +kernel) (by decide +kernel)
theorem zw151 : Cond.code yX3_edge cX3_edge 3 (some .int) ∈ zTb := zin (i := 274) (by decide +kernel) (by decide +kernel)
theorem zw152 : Cond.methodLink RX3 217 yX3_nextGroupIsShut ∈ zTb := zin (i := 278) (by decide +kernel) (by decide +kernel)
theorem zw153 : Cond.instanceMethod yX3_nextGroupIsShut ∈ zTb := zin (i := 280) (by decide +kernel) (by decide +kernel)
theorem zw154 : Cond.selects RX3 yX3_nextGroupIsShut yX3_nextGroupIsShut ∈ zTb := zin (i := 10) (by decide +kernel) (by decide +kernel)
theorem zw155 : Cond.code yX3_nextGroupIsShut cX3_nextGroupIsShut 3 (some .boolean) ∈ zTb := zin (i := 281) (by decide +kernel) (by decide +kernel)
theorem zw156 : Cond.methodLink RX3 220 yX3_shutGroup ∈ zTb := zin (i := 286) (by decide +kernel) (by decide +kernel)
theorem zw157 : Cond.instanceMethod yX3_shutGroup ∈ zTb := zin (i := 288) (by decide +kernel) (by decide +kernel)
theorem zw158 : Cond.selects RX3 yX3_shutGroup yX3_shutGroup ∈ zTb := zin (i := 11) (by decide +kernel) (by decide +kernel)
theorem zw159 : Cond.code yX3_shutGroup cX3_shutGroup 3 none ∈ zTb := zin (i := 289) (by decide +kernel) (by decide +kernel)
theorem zw160 : Cond.methodLink RX3 95 yX3_isStrip ∈ zTb := zin (i := 236) (by decide +kernel) (by decide +kernel)
theorem zw161 : Cond.static yX3_isStrip ∈ zTb := zin (i := 237) (by decide +kernel) (by decide +kernel)
theorem zw162 : Cond.code yX3_isStrip cX3_isStrip 1 (some .boolean) ∈ zTb := zin (i := 238) (by decide +kernel) (by decide +kernel)
theorem zw163 : Cond.methodLink RX3 113 yX3_follow ∈ zTb := zin (i := 259) (by decide +kernel) (by decide +kernel)
theorem zw164 : Cond.instanceMethod yX3_follow ∈ zTb := zin (i := 261) (by decide +kernel) (by decide +kernel)
theorem zw165 : Cond.selects RX3 yX3_follow yX3_follow ∈ zTb := zin (i := 6) (by decide +kernel) (by decide +kernel)
theorem zw166 : Cond.code yX3_follow cX3_follow 3 none ∈ zTb := zin (i := 262) (by decide +kernel) (by decide +kernel)
theorem zw167 : Cond.fieldLink RX3 106 "CounterHouse" "tooLate" "I" ∈ zTb := zin (i := 167) (by decide +kernel) (by decide +kernel)
theorem zw168 : Cond.fieldLink RX3 116 "CounterHouse$Groups" "size" "I" ∈ zTb := zin (i := 112) (by decide +kernel) (by decide +kernel)
theorem zw169 : Cond.methodLink RX3 117 yJ7_fill_53178 ∈ zTb := zin (i := 340) (by decide +kernel) (by decide +kernel)
theorem zw170 : Cond.methodLink RX3 126 yX3_isGroup ∈ zTb := zin (i := 345) (by decide +kernel) (by decide +kernel)
theorem zw171 : Cond.instanceMethod yX3_isGroup ∈ zTb := zin (i := 347) (by decide +kernel) (by decide +kernel)
theorem zw172 : Cond.selects RX3 yX3_isGroup yX3_isGroup ∈ zTb := zin (i := 14) (by decide +kernel) (by decide +kernel)
theorem zw173 : Cond.code yX3_isGroup cX3_isGroup 2 (some .boolean) ∈ zTb := zin (i := 348) (by decide +kernel) (by decide +kernel)
theorem zw174 : Cond.fieldLink RX3 129 "CounterHouse$Groups" "first" "[I" ∈ zTb := zin (i := 100) (by decide +kernel) (by decide +kernel)
theorem zw175 : Cond.fieldLink RX3 135 "CounterHouse$Groups" "set" "[I" ∈ zTb := zin (i := 102) (by decide +kernel) (by decide +kernel)
theorem zw176 : Cond.methodLink RX3 138 yJ6_bitCount_0f7a4 ∈ zTb := zin (i := 349) (by decide +kernel) (by decide +kernel)
theorem zw177 : Cond.methodLink RX3 143 yX2_indexOf ∈ zTb := zin (i := 354) (by decide +kernel) (by decide +kernel)
theorem zw178 : Cond.instanceMethod yX2_indexOf ∈ zTb := zin (i := 355) (by decide +kernel) (by decide +kernel)
theorem zw179 : Cond.selects RX2 yX2_indexOf yX2_indexOf ∈ zTb := zin (i := 356) (by decide +kernel) (by decide +kernel)
theorem zw180 : Cond.code yX2_indexOf cX2_indexOf 5 (some .int) ∈ zTb := zin (i := 357) (by decide +kernel) (by decide +kernel)
theorem zw181 : Cond.fieldLink RX3 42 "CounterHouse" "shiftedRow" "LCounterHouse$Row;" ∈ zTb := zin (i := 161) (by decide +kernel) (by decide +kernel)
theorem zw182 : Cond.methodLink RX3 150 yX2_fillShifted ∈ zTb := zin (i := 370) (by decide +kernel) (by decide +kernel)
theorem zw183 : Cond.instanceMethod yX2_fillShifted ∈ zTb := zin (i := 371) (by decide +kernel) (by decide +kernel)
theorem zw184 : Cond.selects RX2 yX2_fillShifted yX2_fillShifted ∈ zTb := zin (i := 372) (by decide +kernel) (by decide +kernel)
theorem zw185 : Cond.code yX2_fillShifted cX2_fillShifted 8 none ∈ zTb := zin (i := 373) (by decide +kernel) (by decide +kernel)
theorem zw186 : Cond.methodLink RX3 160 yX3_isCoincidence ∈ zTb := zin (i := 378) (by decide +kernel) (by decide +kernel)
theorem zw187 : Cond.instanceMethod yX3_isCoincidence ∈ zTb := zin (i := 380) (by decide +kernel) (by decide +kernel)
theorem zw188 : Cond.selects RX3 yX3_isCoincidence yX3_isCoincidence ∈ zTb := zin (i := 16) (by decide +kernel) (by decide +kernel)
theorem zw189 : Cond.code yX3_isCoincidence cX3_isCoincidence 2 (some .boolean) ∈ zTb := zin (i := 381) (by decide +kernel) (by decide +kernel)
theorem zw190 : Cond.methodLink RX3 175 yX3_span ∈ zTb := zin (i := 394) (by decide +kernel) (by decide +kernel)
theorem zw191 : Cond.instanceMethod yX3_span ∈ zTb := zin (i := 396) (by decide +kernel) (by decide +kernel)
theorem zw192 : Cond.selects RX3 yX3_span yX3_span ∈ zTb := zin (i := 18) (by decide +kernel) (by decide +kernel)
theorem zw193 : Cond.code yX3_span cX3_span 1 (some .int) ∈ zTb := zin (i := 397) (by decide +kernel) (by decide +kernel)
theorem zw194 : Cond.methodLink RX3 166 yX3_liveTime ∈ zTb := zin (i := 390) (by decide +kernel) (by decide +kernel)
theorem zw195 : Cond.instanceMethod yX3_liveTime ∈ zTb := zin (i := 392) (by decide +kernel) (by decide +kernel)
theorem zw196 : Cond.selects RX3 yX3_liveTime yX3_liveTime ∈ zTb := zin (i := 17) (by decide +kernel) (by decide +kernel)
theorem zw197 : Cond.code yX3_liveTime cX3_liveTime 9 (some .int) ∈ zTb := zin (i := 393) (by decide +kernel) (by decide +kernel)
theorem zw198 : Cond.methodLink RX3 241 yX3_greatestDivisor ∈ zTb := zin (i := 406) (by decide +kernel) (by decide +kernel)
theorem zw199 : Cond.static yX3_greatestDivisor ∈ zTb := zin (i := 407) (by decide +kernel) (by decide +kernel)
theorem zw200 : Cond.code yX3_greatestDivisor cX3_greatestDivisor 7 (some .long) ∈ zTb := zin (i := 408) (by decide +kernel) (by decide +kernel)
theorem zw201 : Cond.constantLong RX3 169 (zL (-9223372036854775808)) ∈ zTb := zin (i := 402) (by decide +kernel) (by decide +kernel)
theorem zw202 : Cond.methodLink RX3 171 yX3_inLeastTerms ∈ zTb := zin (i := 403) (by decide +kernel) (by decide +kernel)
theorem zw203 : Cond.static yX3_inLeastTerms ∈ zTb := zin (i := 404) (by decide +kernel) (by decide +kernel)
theorem zw204 : Cond.code yX3_inLeastTerms cX3_inLeastTerms 7 (some .long) ∈ zTb := zin (i := 405) (by decide +kernel) (by decide +kernel)
theorem zw205 : Cond.methodLink RX3 178 yX0_hasTrack ∈ zTb := zin (i := 417) (by decide +kernel) (by decide +kernel)
theorem zw206 : Cond.fieldLink RX3 181 "CounterHouse$Groups" "trackStart" "[I" ∈ zTb := zin (i := 104) (by decide +kernel) (by decide +kernel)
theorem zw207 : Cond.fieldLink RX3 184 "CounterHouse$Groups" "trackSlope" "[I" ∈ zTb := zin (i := 106) (by decide +kernel) (by decide +kernel)
theorem zw208 : Cond.fieldLink RX3 187 "CounterHouse$Groups" "trackSet" "[I" ∈ zTb := zin (i := 108) (by decide +kernel) (by decide +kernel)
theorem zw209 : Cond.fieldLink RX3 190 "CounterHouse$Groups" "trackMisses" "[I" ∈ zTb := zin (i := 110) (by decide +kernel) (by decide +kernel)
theorem zw210 : Cond.methodLink RX3 193 yX3_coincidences ∈ zTb := zin (i := 429) (by decide +kernel) (by decide +kernel)
theorem zw211 : Cond.instanceMethod yX3_coincidences ∈ zTb := zin (i := 431) (by decide +kernel) (by decide +kernel)
theorem zw212 : Cond.selects RX3 yX3_coincidences yX3_coincidences ∈ zTb := zin (i := 19) (by decide +kernel) (by decide +kernel)
theorem zw213 : Cond.code yX3_coincidences cX3_coincidences 3 (some .int) ∈ zTb := zin (i := 432) (by decide +kernel) (by decide +kernel)
theorem zw214 : Cond.methodLink RX3 199 yX0_tracks ∈ zTb := zin (i := 433) (by decide +kernel) (by decide +kernel)
theorem zw215 : Cond.instanceMethod yX0_tracks ∈ zTb := zin (i := 434) (by decide +kernel) (by decide +kernel)
theorem zw216 : Cond.selects RX0 yX0_tracks yX0_tracks ∈ zTb := zin (i := 435) (by decide +kernel) (by decide +kernel)
theorem zw217 : Cond.code yX0_tracks cX0_tracks 3 (some .int) ∈ zTb := zin (i := 436) (by decide +kernel) (by decide +kernel)
theorem zw218 : Cond.methodLink RX4 56 yX4_within ∈ zTb := zin (i := 537) (by decide +kernel) (by decide +kernel)
theorem zw219 : Cond.static yX4_within ∈ zTb := zin (i := 538) (by decide +kernel) (by decide +kernel)
theorem zw220 : Cond.initialized RX4 ∈ zTb := zin (i := 48) (by decide +kernel) (by decide +kernel)
theorem zw221 : Cond.code yX4_within cX4_within 3 (some .boolean) ∈ zTb := zin (i := 539) (by decide +kernel) (by decide +kernel)
theorem zw222 : Cond.fieldLink RX4 60 "CounterHouseModel" "kept" "I" ∈ zTb := zin (i := 450) (by decide +kernel) (by decide +kernel)
theorem zw223 : Cond.fieldLink RX4 64 "CounterHouseModel" "isOver" "Z" ∈ zTb := zin (i := 455) (by decide +kernel) (by decide +kernel)
theorem zw224 : Cond.methodLink RX4 68 yX4_isPlane ∈ zTb := zin (i := 534) (by decide +kernel) (by decide +kernel)
theorem zw225 : Cond.static yX4_isPlane ∈ zTb := zin (i := 535) (by decide +kernel) (by decide +kernel)
theorem zw226 : Cond.code yX4_isPlane cX4_isPlane 1 (some .boolean) ∈ zTb := zin (i := 536) (by decide +kernel) (by decide +kernel)
theorem zw227 : Cond.methodLink RX4 72 yX4_isBegun ∈ zTb := zin (i := 540) (by decide +kernel) (by decide +kernel)
theorem zw228 : Cond.instanceMethod yX4_isBegun ∈ zTb := zin (i := 542) (by decide +kernel) (by decide +kernel)
theorem zw229 : Cond.selects RX4 yX4_isBegun yX4_isBegun ∈ zTb := zin (i := 20) (by decide +kernel) (by decide +kernel)
theorem zw230 : Cond.code yX4_isBegun cX4_isBegun 1 (some .boolean) ∈ zTb := zin (i := 543) (by decide +kernel) (by decide +kernel)
theorem zw231 : Cond.fieldLink RX4 7 "CounterHouseModel" "lag" "[I" ∈ zTb := zin (i := 444) (by decide +kernel) (by decide +kernel)
theorem zw232 : Cond.fieldLink RX4 13 "CounterHouseModel" "dead" "[I" ∈ zTb := zin (i := 445) (by decide +kernel) (by decide +kernel)
theorem zw233 : Cond.fieldLink RX4 16 "CounterHouseModel" "manner" "[I" ∈ zTb := zin (i := 446) (by decide +kernel) (by decide +kernel)
theorem zw234 : Cond.fieldLink RX4 22 "CounterHouseModel" "leastOf" "[I" ∈ zTb := zin (i := 448) (by decide +kernel) (by decide +kernel)
theorem zw235 : Cond.fieldLink RX4 25 "CounterHouseModel" "mostOf" "[I" ∈ zTb := zin (i := 449) (by decide +kernel) (by decide +kernel)
theorem zw236 : Cond.fieldLink RX4 19 "CounterHouseModel" "setting" "[I" ∈ zTb := zin (i := 447) (by decide +kernel) (by decide +kernel)
theorem zw237 : Cond.fieldLink RX4 31 "CounterHouseModel" "momentOf" "[I" ∈ zTb := zin (i := 452) (by decide +kernel) (by decide +kernel)
theorem zw238 : Cond.methodLink RX4 76 yX4_horizon ∈ zTb := zin (i := 552) (by decide +kernel) (by decide +kernel)
theorem zw239 : Cond.instanceMethod yX4_horizon ∈ zTb := zin (i := 554) (by decide +kernel) (by decide +kernel)
theorem zw240 : Cond.selects RX4 yX4_horizon yX4_horizon ∈ zTb := zin (i := 21) (by decide +kernel) (by decide +kernel)
theorem zw241 : Cond.code yX4_horizon cX4_horizon 1 (some .int) ∈ zTb := zin (i := 555) (by decide +kernel) (by decide +kernel)
theorem zw242 : Cond.fieldLink RX4 28 "CounterHouseModel" "planeOf" "[I" ∈ zTb := zin (i := 451) (by decide +kernel) (by decide +kernel)
theorem zw243 : Cond.fieldLink RX4 34 "CounterHouseModel" "stripOf" "[I" ∈ zTb := zin (i := 453) (by decide +kernel) (by decide +kernel)
theorem zw244 : Cond.methodLink RX4 83 yX4_isBehind ∈ zTb := zin (i := 556) (by decide +kernel) (by decide +kernel)
theorem zw245 : Cond.instanceMethod yX4_isBehind ∈ zTb := zin (i := 558) (by decide +kernel) (by decide +kernel)
theorem zw246 : Cond.selects RX4 yX4_isBehind yX4_isBehind ∈ zTb := zin (i := 22) (by decide +kernel) (by decide +kernel)
theorem zw247 : Cond.code yX4_isBehind cX4_isBehind 5 (some .boolean) ∈ zTb := zin (i := 559) (by decide +kernel) (by decide +kernel)
theorem zw248 : Cond.fieldLink RX4 80 "CounterHouseModel" "late" "I" ∈ zTb := zin (i := 454) (by decide +kernel) (by decide +kernel)
theorem zw249 : Cond.methodLink RX4 87 yX4_settled ∈ zTb := zin (i := 564) (by decide +kernel) (by decide +kernel)
theorem zw250 : Cond.instanceMethod yX4_settled ∈ zTb := zin (i := 566) (by decide +kernel) (by decide +kernel)
theorem zw251 : Cond.selects RX4 yX4_settled yX4_settled ∈ zTb := zin (i := 23) (by decide +kernel) (by decide +kernel)
theorem zw252 : Cond.code yX4_settled cX4_settled 3 (some .int) ∈ zTb := zin (i := 567) (by decide +kernel) (by decide +kernel)
theorem zw253 : Cond.fieldLink RX4 41 "CounterHouseModel" "endOf" "[I" ∈ zTb := zin (i := 457) (by decide +kernel) (by decide +kernel)
theorem zw254 : Cond.fieldLink RX4 37 "CounterHouseModel" "isLive" "[Z" ∈ zTb := zin (i := 456) (by decide +kernel) (by decide +kernel)
theorem zw255 : Cond.methodLink RX4 90 yX4_findLive ∈ zTb := zin (i := 584) (by decide +kernel) (by decide +kernel)
theorem zw256 : Cond.instanceMethod yX4_findLive ∈ zTb := zin (i := 586) (by decide +kernel) (by decide +kernel)
theorem zw257 : Cond.selects RX4 yX4_findLive yX4_findLive ∈ zTb := zin (i := 26) (by decide +kernel) (by decide +kernel)
theorem zw258 : Cond.code yX4_findLive cX4_findLive 4 none ∈ zTb := zin (i := 587) (by decide +kernel) (by decide +kernel)
theorem zw259 : Cond.methodLink RX4 93 yX4_keptOf ∈ zTb := zin (i := 576) (by decide +kernel) (by decide +kernel)
theorem zw260 : Cond.instanceMethod yX4_keptOf ∈ zTb := zin (i := 578) (by decide +kernel) (by decide +kernel)
theorem zw261 : Cond.selects RX4 yX4_keptOf yX4_keptOf ∈ zTb := zin (i := 24) (by decide +kernel) (by decide +kernel)
theorem zw262 : Cond.code yX4_keptOf cX4_keptOf 4 (some .int) ∈ zTb := zin (i := 579) (by decide +kernel) (by decide +kernel)
theorem zw263 : Cond.methodLink RX4 97 yX4_manyLive ∈ zTb := zin (i := 580) (by decide +kernel) (by decide +kernel)
theorem zw264 : Cond.instanceMethod yX4_manyLive ∈ zTb := zin (i := 582) (by decide +kernel) (by decide +kernel)
theorem zw265 : Cond.selects RX4 yX4_manyLive yX4_manyLive ∈ zTb := zin (i := 25) (by decide +kernel) (by decide +kernel)
theorem zw266 : Cond.code yX4_manyLive cX4_manyLive 6 (some .int) ∈ zTb := zin (i := 583) (by decide +kernel) (by decide +kernel)
theorem zw267 : Cond.fieldLink RX4 44 "CounterHouseModel" "timeOf" "[I" ∈ zTb := zin (i := 459) (by decide +kernel) (by decide +kernel)
theorem zw268 : Cond.fieldLink RX4 47 "CounterHouseModel" "pulseOf" "[I" ∈ zTb := zin (i := 460) (by decide +kernel) (by decide +kernel)
theorem zw269 : Cond.fieldLink RX4 101 "CounterHouseModel" "known" "I" ∈ zTb := zin (i := 458) (by decide +kernel) (by decide +kernel)
theorem zw270 : Cond.methodLink RX4 104 yX4_isTimeBehind ∈ zTb := zin (i := 608) (by decide +kernel) (by decide +kernel)
theorem zw271 : Cond.instanceMethod yX4_isTimeBehind ∈ zTb := zin (i := 610) (by decide +kernel) (by decide +kernel)
theorem zw272 : Cond.selects RX4 yX4_isTimeBehind yX4_isTimeBehind ∈ zTb := zin (i := 31) (by decide +kernel) (by decide +kernel)
theorem zw273 : Cond.code yX4_isTimeBehind cX4_isTimeBehind 5 (some .boolean) ∈ zTb := zin (i := 611) (by decide +kernel) (by decide +kernel)
theorem zw274 : Cond.methodLink RX4 107 yX4_edge ∈ zTb := zin (i := 600) (by decide +kernel) (by decide +kernel)
theorem zw275 : Cond.instanceMethod yX4_edge ∈ zTb := zin (i := 602) (by decide +kernel) (by decide +kernel)
theorem zw276 : Cond.selects RX4 yX4_edge yX4_edge ∈ zTb := zin (i := 29) (by decide +kernel) (by decide +kernel)
theorem zw277 : Cond.code yX4_edge cX4_edge 3 (some .int) ∈ zTb := zin (i := 603) (by decide +kernel) (by decide +kernel)
theorem zw278 : Cond.methodLink RX4 110 yX4_comesByTime ∈ zTb := zin (i := 604) (by decide +kernel) (by decide +kernel)
theorem zw279 : Cond.instanceMethod yX4_comesByTime ∈ zTb := zin (i := 606) (by decide +kernel) (by decide +kernel)
theorem zw280 : Cond.selects RX4 yX4_comesByTime yX4_comesByTime ∈ zTb := zin (i := 30) (by decide +kernel) (by decide +kernel)
theorem zw281 : Cond.code yX4_comesByTime cX4_comesByTime 4 none ∈ zTb := zin (i := 607) (by decide +kernel) (by decide +kernel)
theorem zw282 : Cond.fieldLink RX4 114 "CounterHouseModel" "groups" "I" ∈ zTb := zin (i := 462) (by decide +kernel) (by decide +kernel)
theorem zw283 : Cond.fieldLink RX4 117 "CounterHouseModel" "shut" "I" ∈ zTb := zin (i := 463) (by decide +kernel) (by decide +kernel)
theorem zw284 : Cond.fieldLink RX4 53 "CounterHouseModel" "firstOf" "[I" ∈ zTb := zin (i := 464) (by decide +kernel) (by decide +kernel)
theorem zw285 : Cond.fieldLink RX4 50 "CounterHouseModel" "groupOf" "[I" ∈ zTb := zin (i := 461) (by decide +kernel) (by decide +kernel)
theorem zw286 : Cond.methodLink RX4 120 yX4_findGroups ∈ zTb := zin (i := 596) (by decide +kernel) (by decide +kernel)
theorem zw287 : Cond.instanceMethod yX4_findGroups ∈ zTb := zin (i := 598) (by decide +kernel) (by decide +kernel)
theorem zw288 : Cond.selects RX4 yX4_findGroups yX4_findGroups ∈ zTb := zin (i := 28) (by decide +kernel) (by decide +kernel)
theorem zw289 : Cond.code yX4_findGroups cX4_findGroups 6 none ∈ zTb := zin (i := 599) (by decide +kernel) (by decide +kernel)
theorem zw290 : Cond.methodLink RX4 123 yX4_isGroup ∈ zTb := zin (i := 592) (by decide +kernel) (by decide +kernel)
theorem zw291 : Cond.instanceMethod yX4_isGroup ∈ zTb := zin (i := 594) (by decide +kernel) (by decide +kernel)
theorem zw292 : Cond.selects RX4 yX4_isGroup yX4_isGroup ∈ zTb := zin (i := 27) (by decide +kernel) (by decide +kernel)
theorem zw293 : Cond.code yX4_isGroup cX4_isGroup 2 (some .boolean) ∈ zTb := zin (i := 595) (by decide +kernel) (by decide +kernel)
theorem zw294 : Cond.methodLink RX4 126 yX4_setOf ∈ zTb := zin (i := 612) (by decide +kernel) (by decide +kernel)
theorem zw295 : Cond.instanceMethod yX4_setOf ∈ zTb := zin (i := 614) (by decide +kernel) (by decide +kernel)
theorem zw296 : Cond.selects RX4 yX4_setOf yX4_setOf ∈ zTb := zin (i := 32) (by decide +kernel) (by decide +kernel)
theorem zw297 : Cond.code yX4_setOf cX4_setOf 4 (some .int) ∈ zTb := zin (i := 615) (by decide +kernel) (by decide +kernel)
theorem zw298 : Cond.methodLink RX4 129 yX4_manyIn ∈ zTb := zin (i := 616) (by decide +kernel) (by decide +kernel)
theorem zw299 : Cond.instanceMethod yX4_manyIn ∈ zTb := zin (i := 618) (by decide +kernel) (by decide +kernel)
theorem zw300 : Cond.selects RX4 yX4_manyIn yX4_manyIn ∈ zTb := zin (i := 33) (by decide +kernel) (by decide +kernel)
theorem zw301 : Cond.code yX4_manyIn cX4_manyIn 4 (some .int) ∈ zTb := zin (i := 619) (by decide +kernel) (by decide +kernel)
theorem zw302 : Cond.methodLink RX4 132 yX4_size ∈ zTb := zin (i := 620) (by decide +kernel) (by decide +kernel)
theorem zw303 : Cond.static yX4_size ∈ zTb := zin (i := 621) (by decide +kernel) (by decide +kernel)
theorem zw304 : Cond.code yX4_size cX4_size 3 (some .int) ∈ zTb := zin (i := 622) (by decide +kernel) (by decide +kernel)
theorem zw305 : Cond.methodLink RX4 135 yX4_memberIn ∈ zTb := zin (i := 627) (by decide +kernel) (by decide +kernel)
theorem zw306 : Cond.instanceMethod yX4_memberIn ∈ zTb := zin (i := 629) (by decide +kernel) (by decide +kernel)
theorem zw307 : Cond.selects RX4 yX4_memberIn yX4_memberIn ∈ zTb := zin (i := 34) (by decide +kernel) (by decide +kernel)
theorem zw308 : Cond.code yX4_memberIn cX4_memberIn 4 (some .int) ∈ zTb := zin (i := 630) (by decide +kernel) (by decide +kernel)
theorem zw309 : Cond.methodLink RX4 139 yX4_coincidences ∈ zTb := zin (i := 643) (by decide +kernel) (by decide +kernel)
theorem zw310 : Cond.instanceMethod yX4_coincidences ∈ zTb := zin (i := 645) (by decide +kernel) (by decide +kernel)
theorem zw311 : Cond.selects RX4 yX4_coincidences yX4_coincidences ∈ zTb := zin (i := 35) (by decide +kernel) (by decide +kernel)
theorem zw312 : Cond.code yX4_coincidences cX4_coincidences 4 (some .int) ∈ zTb := zin (i := 646) (by decide +kernel) (by decide +kernel)
theorem zw313 : Cond.methodLink RX4 142 yX4_span ∈ zTb := zin (i := 659) (by decide +kernel) (by decide +kernel)
theorem zw314 : Cond.instanceMethod yX4_span ∈ zTb := zin (i := 661) (by decide +kernel) (by decide +kernel)
theorem zw315 : Cond.selects RX4 yX4_span yX4_span ∈ zTb := zin (i := 37) (by decide +kernel) (by decide +kernel)
theorem zw316 : Cond.code yX4_span cX4_span 1 (some .int) ∈ zTb := zin (i := 662) (by decide +kernel) (by decide +kernel)
theorem zw317 : Cond.methodLink RX4 145 yX4_liveTime ∈ zTb := zin (i := 655) (by decide +kernel) (by decide +kernel)
theorem zw318 : Cond.instanceMethod yX4_liveTime ∈ zTb := zin (i := 657) (by decide +kernel) (by decide +kernel)
theorem zw319 : Cond.selects RX4 yX4_liveTime yX4_liveTime ∈ zTb := zin (i := 36) (by decide +kernel) (by decide +kernel)
theorem zw320 : Cond.code yX4_liveTime cX4_liveTime 7 (some .int) ∈ zTb := zin (i := 658) (by decide +kernel) (by decide +kernel)
theorem zw321 : Cond.constantLong RX4 148 (zL (-9223372036854775808)) ∈ zTb := zin (i := 667) (by decide +kernel) (by decide +kernel)
theorem zw322 : Cond.methodLink RX4 150 yX4_inLeastTerms ∈ zTb := zin (i := 668) (by decide +kernel) (by decide +kernel)
theorem zw323 : Cond.static yX4_inLeastTerms ∈ zTb := zin (i := 669) (by decide +kernel) (by decide +kernel)
theorem zw324 : Cond.code yX4_inLeastTerms cX4_inLeastTerms 11 (some .long) ∈ zTb := zin (i := 670) (by decide +kernel) (by decide +kernel)
theorem zw325 : Cond.fieldLink RX4 154 "CounterHouseModel" "agrees" "I" ∈ zTb := zin (i := 465) (by decide +kernel) (by decide +kernel)
theorem zw326 : Cond.fieldLink RX4 157 "CounterHouseModel" "agreeSet" "I" ∈ zTb := zin (i := 466) (by decide +kernel) (by decide +kernel)
theorem zw327 : Cond.fieldLink RX4 160 "CounterHouseModel" "missed" "I" ∈ zTb := zin (i := 467) (by decide +kernel) (by decide +kernel)
theorem zw328 : Cond.fieldLink RX4 163 "CounterHouseModel" "bestAgrees" "I" ∈ zTb := zin (i := 470) (by decide +kernel) (by decide +kernel)
theorem zw329 : Cond.fieldLink RX4 166 "CounterHouseModel" "bestMissed" "I" ∈ zTb := zin (i := 471) (by decide +kernel) (by decide +kernel)
theorem zw330 : Cond.methodLink RX4 169 yX4_far ∈ zTb := zin (i := 691) (by decide +kernel) (by decide +kernel)
theorem zw331 : Cond.static yX4_far ∈ zTb := zin (i := 692) (by decide +kernel) (by decide +kernel)
theorem zw332 : Cond.code yX4_far cX4_far 1 (some .int) ∈ zTb := zin (i := 693) (by decide +kernel) (by decide +kernel)
theorem zw333 : Cond.fieldLink RX4 172 "CounterHouseModel" "bestB" "I" ∈ zTb := zin (i := 469) (by decide +kernel) (by decide +kernel)
theorem zw334 : Cond.methodLink RX4 175 yX4_tries ∈ zTb := zin (i := 683) (by decide +kernel) (by decide +kernel)
theorem zw335 : Cond.instanceMethod yX4_tries ∈ zTb := zin (i := 685) (by decide +kernel) (by decide +kernel)
theorem zw336 : Cond.selects RX4 yX4_tries yX4_tries ∈ zTb := zin (i := 39) (by decide +kernel) (by decide +kernel)
theorem zw337 : Cond.code yX4_tries cX4_tries 7 none ∈ zTb := zin (i := 686) (by decide +kernel) (by decide +kernel)
theorem zw338 : Cond.methodLink RX4 179 yX4_isAhead ∈ zTb := zin (i := 687) (by decide +kernel) (by decide +kernel)
theorem zw339 : Cond.instanceMethod yX4_isAhead ∈ zTb := zin (i := 689) (by decide +kernel) (by decide +kernel)
theorem zw340 : Cond.selects RX4 yX4_isAhead yX4_isAhead ∈ zTb := zin (i := 40) (by decide +kernel) (by decide +kernel)
theorem zw341 : Cond.code yX4_isAhead cX4_isAhead 2 (some .boolean) ∈ zTb := zin (i := 690) (by decide +kernel) (by decide +kernel)
theorem zw342 : Cond.fieldLink RX4 182 "CounterHouseModel" "bestA" "I" ∈ zTb := zin (i := 468) (by decide +kernel) (by decide +kernel)
theorem zw343 : Cond.methodLink RX4 185 yX4_findTrack ∈ zTb := zin (i := 679) (by decide +kernel) (by decide +kernel)
theorem zw344 : Cond.instanceMethod yX4_findTrack ∈ zTb := zin (i := 681) (by decide +kernel) (by decide +kernel)
theorem zw345 : Cond.selects RX4 yX4_findTrack yX4_findTrack ∈ zTb := zin (i := 38) (by decide +kernel) (by decide +kernel)
theorem zw346 : Cond.code yX4_findTrack cX4_findTrack 4 (some .boolean) ∈ zTb := zin (i := 682) (by decide +kernel) (by decide +kernel)
theorem zw347 : Cond.methodLink RX4 188 yX4_inGroups ∈ zTb := zin (i := 702) (by decide +kernel) (by decide +kernel)
theorem zw348 : Cond.instanceMethod yX4_inGroups ∈ zTb := zin (i := 704) (by decide +kernel) (by decide +kernel)
theorem zw349 : Cond.selects RX4 yX4_inGroups yX4_inGroups ∈ zTb := zin (i := 41) (by decide +kernel) (by decide +kernel)
theorem zw350 : Cond.code yX4_inGroups cX4_inGroups 3 (some .int) ∈ zTb := zin (i := 705) (by decide +kernel) (by decide +kernel)
theorem zw351 : Cond.methodLink RX4 191 yX4_tracks ∈ zTb := zin (i := 706) (by decide +kernel) (by decide +kernel)
theorem zw352 : Cond.instanceMethod yX4_tracks ∈ zTb := zin (i := 708) (by decide +kernel) (by decide +kernel)
theorem zw353 : Cond.selects RX4 yX4_tracks yX4_tracks ∈ zTb := zin (i := 42) (by decide +kernel) (by decide +kernel)
theorem zw354 : Cond.code yX4_tracks cX4_tracks 3 (some .int) ∈ zTb := zin (i := 709) (by decide +kernel) (by decide +kernel)
theorem zw355 : Cond.methodLink RX0 3 Lib.objectInit ∈ zTb := zin (i := 98) (by decide +kernel) (by decide +kernel)
theorem zw356 : Cond.instanceMethod Lib.objectInit ∈ zTb := zin (i := 58) (by decide +kernel) (by decide +kernel)
theorem zw357 : Cond.code Lib.objectInit ⟨#[0xb1]⟩ 1 none ∈ zTb := zin (i := 59) (by decide +kernel) (by decide +kernel)
theorem zw358 : Cond.arrayClass .int ∈ zTb := zin (i := 92) (by decide +kernel) (by decide +kernel)
theorem zw359 : Cond.methodLink RX1 3 Lib.objectInit ∈ zTb := zin (i := 133) (by decide +kernel) (by decide +kernel)
theorem zw360 : Cond.methodLink RX2 3 Lib.objectInit ∈ zTb := zin (i := 74) (by decide +kernel) (by decide +kernel)
theorem zw361 : Cond.methodLink RX3 3 Lib.objectInit ∈ zTb := zin (i := 57) (by decide +kernel) (by decide +kernel)
theorem zw362 : Cond.fieldLink RX3 21 "CounterHouse" "SETTING_AT_FIRST" "[I" ∈ zTb := zin (i := 60) (by decide +kernel) (by decide +kernel)
theorem zw363 : Cond.methodLink RX3 24 ⟨"[I", "clone", "()Ljava/lang/Object;"⟩ ∈ zTb := zin (i := 62) (by decide +kernel) (by decide +kernel)
theorem zw364 : Cond.sameMethod "[I" "java/lang/Object" "clone" "()Ljava/lang/Object;" ∈ zTb := zin (i := 63) (by decide +kernel) (by decide +kernel)
theorem zw365 : Cond.native ⟨"java/lang/Object", "clone", "()Ljava/lang/Object;"⟩ ∈ zTb := zin (i := 64) (by decide +kernel) (by decide +kernel)
theorem zw366 : Cond.instanceMethod ⟨"java/lang/Object", "clone", "()Ljava/lang/Object;"⟩ ∈ zTb := zin (i := 65) (by decide +kernel) (by decide +kernel)
theorem zw367 : Cond.selects "[I" ⟨"[I", "clone", "()Ljava/lang/Object;"⟩ ⟨"java/lang/Object", "clone", "()Ljava/lang/Object;"⟩ ∈ zTb := zin (i := 66) (by decide +kernel) (by decide +kernel)
theorem zw368 : Cond.classLink RX3 25 "[I" ∈ zTb := zin (i := 68) (by decide +kernel) (by decide +kernel)
theorem zw369 : Cond.classLink RX3 32 RX2 ∈ zTb := zin (i := 69) (by decide +kernel) (by decide +kernel)
theorem zw370 : Cond.instantiable RX2 4 ∈ zTb := zin (i := 70) (by decide +kernel) (by decide +kernel)
theorem zw371 : Cond.methodLink RX3 34 yX2_init ∈ zTb := zin (i := 71) (by decide +kernel) (by decide +kernel)
theorem zw372 : Cond.instanceMethod yX2_init ∈ zTb := zin (i := 72) (by decide +kernel) (by decide +kernel)
theorem zw373 : Cond.code yX2_init cX2_init 1 none ∈ zTb := zin (i := 73) (by decide +kernel) (by decide +kernel)
theorem zw374 : Cond.classLink RX3 45 RX0 ∈ zTb := zin (i := 93) (by decide +kernel) (by decide +kernel)
theorem zw375 : Cond.instantiable RX0 7 ∈ zTb := zin (i := 94) (by decide +kernel) (by decide +kernel)
theorem zw376 : Cond.methodLink RX3 47 yX0_init ∈ zTb := zin (i := 95) (by decide +kernel) (by decide +kernel)
theorem zw377 : Cond.instanceMethod yX0_init ∈ zTb := zin (i := 96) (by decide +kernel) (by decide +kernel)
theorem zw378 : Cond.code yX0_init cX0_init 1 none ∈ zTb := zin (i := 97) (by decide +kernel) (by decide +kernel)
theorem zw379 : Cond.classLink RX3 52 RX1 ∈ zTb := zin (i := 128) (by decide +kernel) (by decide +kernel)
theorem zw380 : Cond.instantiable RX1 5 ∈ zTb := zin (i := 129) (by decide +kernel) (by decide +kernel)
theorem zw381 : Cond.methodLink RX3 54 yX1_init ∈ zTb := zin (i := 130) (by decide +kernel) (by decide +kernel)
theorem zw382 : Cond.instanceMethod yX1_init ∈ zTb := zin (i := 131) (by decide +kernel) (by decide +kernel)
theorem zw383 : Cond.code yX1_init cX1_init 1 none ∈ zTb := zin (i := 132) (by decide +kernel) (by decide +kernel)
theorem zw384 : Cond.methodLink RX4 1 Lib.objectInit ∈ zTb := zin (i := 443) (by decide +kernel) (by decide +kernel)
theorem zw385 : Cond.arrayClass .boolean ∈ zTb := zin (i := 529) (by decide +kernel) (by decide +kernel)
theorem zinX0 : ∀ w ∈ wsX00, w ∈ zTb := by decide +kernel
theorem zinX1 : ∀ w ∈ wsX10, w ∈ zTb := by decide +kernel
theorem zinX2 : ∀ w ∈ wsX20, w ∈ zTb := by decide +kernel
theorem zinX3 : ∀ w ∈ wsX30, w ∈ zTb := by decide +kernel
theorem zinX4 : ∀ w ∈ wsX40, w ∈ zTb := by decide +kernel
section ZW
variable {p : Program} {l : Launch} {e : Env} {R : Room} {s : State} {m : MethodId} {args : Array Value} {below : List Frame} {meth : Method} {c : Code} {H : Heap} {locs : List Loc} {cells slots : Nat} {Q : State → Prop}
variable {cc : ByteArray} {pc nL : Nat} {ls : Array Slot} {rest : List Value} {D : va_G} {cI cZ : ClassId} {A : Nat → Prop} {ws : va_W} {a : Nat} {x : Int}
theorem zgX0_30 (C0 : zC p s m args c D cI cZ A cc nL RX0) (hP : va_P D vwCl ws H) (q0 : Nat) {fs : List Value} (he : ws[q0]? = some (a, .inr (0, fs))) (v : Value) (hv : fs[6]? = some v) (hdg : decode cc pc = .ok (.getfield 30, 3)) (kk : W p l e R s m args below meth c H locs cells slots Q (F0 m (pc + 3) ls (v :: rest))) : W p l e R s m args below meth c H locs cells slots Q (F0 m pc ls (.ref a :: rest)) := va_get (C := RX0) (T := TX0) (N := 7) C0.1 C0.2.1 C0.2.2.2.2.1 zinX0 C0.2.2.2.1 C0.2.2.2.2.2.1 hP q0 he rfl 6 (by decide) (C0.2.2.2.2.1 _ zw0) (fun _ h => h) hv hdg kk
theorem zgX0_15 (C0 : zC p s m args c D cI cZ A cc nL RX0) (hP : va_P D vwCl ws H) (q0 : Nat) {fs : List Value} (he : ws[q0]? = some (a, .inr (0, fs))) (v : Value) (hv : fs[1]? = some v) (hdg : decode cc pc = .ok (.getfield 15, 3)) (kk : W p l e R s m args below meth c H locs cells slots Q (F0 m (pc + 3) ls (v :: rest))) : W p l e R s m args below meth c H locs cells slots Q (F0 m pc ls (.ref a :: rest)) := va_get (C := RX0) (T := TX0) (N := 7) C0.1 C0.2.1 C0.2.2.2.2.1 zinX0 C0.2.2.2.1 C0.2.2.2.2.2.1 hP q0 he rfl 1 (by decide) (C0.2.2.2.2.1 _ zw1) (fun _ h => h) hv hdg kk
theorem zgX0_18 (C0 : zC p s m args c D cI cZ A cc nL RX0) (hP : va_P D vwCl ws H) (q0 : Nat) {fs : List Value} (he : ws[q0]? = some (a, .inr (0, fs))) (v : Value) (hv : fs[2]? = some v) (hdg : decode cc pc = .ok (.getfield 18, 3)) (kk : W p l e R s m args below meth c H locs cells slots Q (F0 m (pc + 3) ls (v :: rest))) : W p l e R s m args below meth c H locs cells slots Q (F0 m pc ls (.ref a :: rest)) := va_get (C := RX0) (T := TX0) (N := 7) C0.1 C0.2.1 C0.2.2.2.2.1 zinX0 C0.2.2.2.1 C0.2.2.2.2.2.1 hP q0 he rfl 2 (by decide) (C0.2.2.2.2.1 _ zw2) (fun _ h => h) hv hdg kk
theorem zgX0_34 (C0 : zC p s m args c D cI cZ A cc nL RX0) (hP : va_P D vwCl ws H) (q0 : Nat) {fs : List Value} (he : ws[q0]? = some (a, .inr (1, fs))) (v : Value) (hv : fs[1]? = some v) (hdg : decode cc pc = .ok (.getfield 34, 3)) (kk : W p l e R s m args below meth c H locs cells slots Q (F0 m (pc + 3) ls (v :: rest))) : W p l e R s m args below meth c H locs cells slots Q (F0 m pc ls (.ref a :: rest)) := va_get (C := RX1) (T := TX1) (N := 5) C0.1 C0.2.1 C0.2.2.2.2.1 zinX1 C0.2.2.2.1 C0.2.2.2.2.2.1 hP q0 he rfl 1 (by decide) (C0.2.2.2.2.1 _ zw3) (fun _ h => h) hv hdg kk
theorem zgX0_21 (C0 : zC p s m args c D cI cZ A cc nL RX0) (hP : va_P D vwCl ws H) (q0 : Nat) {fs : List Value} (he : ws[q0]? = some (a, .inr (0, fs))) (v : Value) (hv : fs[3]? = some v) (hdg : decode cc pc = .ok (.getfield 21, 3)) (kk : W p l e R s m args below meth c H locs cells slots Q (F0 m (pc + 3) ls (v :: rest))) : W p l e R s m args below meth c H locs cells slots Q (F0 m pc ls (.ref a :: rest)) := va_get (C := RX0) (T := TX0) (N := 7) C0.1 C0.2.1 C0.2.2.2.2.1 zinX0 C0.2.2.2.1 C0.2.2.2.2.2.1 hP q0 he rfl 3 (by decide) (C0.2.2.2.2.1 _ zw4) (fun _ h => h) hv hdg kk
theorem zgX0_39 (C0 : zC p s m args c D cI cZ A cc nL RX0) (hP : va_P D vwCl ws H) (q0 : Nat) {fs : List Value} (he : ws[q0]? = some (a, .inr (1, fs))) (v : Value) (hv : fs[2]? = some v) (hdg : decode cc pc = .ok (.getfield 39, 3)) (kk : W p l e R s m args below meth c H locs cells slots Q (F0 m (pc + 3) ls (v :: rest))) : W p l e R s m args below meth c H locs cells slots Q (F0 m pc ls (.ref a :: rest)) := va_get (C := RX1) (T := TX1) (N := 5) C0.1 C0.2.1 C0.2.2.2.2.1 zinX1 C0.2.2.2.1 C0.2.2.2.2.2.1 hP q0 he rfl 2 (by decide) (C0.2.2.2.2.1 _ zw5) (fun _ h => h) hv hdg kk
theorem zgX0_24 (C0 : zC p s m args c D cI cZ A cc nL RX0) (hP : va_P D vwCl ws H) (q0 : Nat) {fs : List Value} (he : ws[q0]? = some (a, .inr (0, fs))) (v : Value) (hv : fs[4]? = some v) (hdg : decode cc pc = .ok (.getfield 24, 3)) (kk : W p l e R s m args below meth c H locs cells slots Q (F0 m (pc + 3) ls (v :: rest))) : W p l e R s m args below meth c H locs cells slots Q (F0 m pc ls (.ref a :: rest)) := va_get (C := RX0) (T := TX0) (N := 7) C0.1 C0.2.1 C0.2.2.2.2.1 zinX0 C0.2.2.2.1 C0.2.2.2.2.2.1 hP q0 he rfl 4 (by decide) (C0.2.2.2.2.1 _ zw6) (fun _ h => h) hv hdg kk
theorem zgX0_42 (C0 : zC p s m args c D cI cZ A cc nL RX0) (hP : va_P D vwCl ws H) (q0 : Nat) {fs : List Value} (he : ws[q0]? = some (a, .inr (1, fs))) (v : Value) (hv : fs[3]? = some v) (hdg : decode cc pc = .ok (.getfield 42, 3)) (kk : W p l e R s m args below meth c H locs cells slots Q (F0 m (pc + 3) ls (v :: rest))) : W p l e R s m args below meth c H locs cells slots Q (F0 m pc ls (.ref a :: rest)) := va_get (C := RX1) (T := TX1) (N := 5) C0.1 C0.2.1 C0.2.2.2.2.1 zinX1 C0.2.2.2.1 C0.2.2.2.2.2.1 hP q0 he rfl 3 (by decide) (C0.2.2.2.2.1 _ zw7) (fun _ h => h) hv hdg kk
theorem zgX0_27 (C0 : zC p s m args c D cI cZ A cc nL RX0) (hP : va_P D vwCl ws H) (q0 : Nat) {fs : List Value} (he : ws[q0]? = some (a, .inr (0, fs))) (v : Value) (hv : fs[5]? = some v) (hdg : decode cc pc = .ok (.getfield 27, 3)) (kk : W p l e R s m args below meth c H locs cells slots Q (F0 m (pc + 3) ls (v :: rest))) : W p l e R s m args below meth c H locs cells slots Q (F0 m pc ls (.ref a :: rest)) := va_get (C := RX0) (T := TX0) (N := 7) C0.1 C0.2.1 C0.2.2.2.2.1 zinX0 C0.2.2.2.1 C0.2.2.2.2.2.1 hP q0 he rfl 5 (by decide) (C0.2.2.2.2.1 _ zw8) (fun _ h => h) hv hdg kk
theorem zgX0_44 (C0 : zC p s m args c D cI cZ A cc nL RX0) (hP : va_P D vwCl ws H) (q0 : Nat) {fs : List Value} (he : ws[q0]? = some (a, .inr (1, fs))) (v : Value) (hv : fs[4]? = some v) (hdg : decode cc pc = .ok (.getfield 44, 3)) (kk : W p l e R s m args below meth c H locs cells slots Q (F0 m (pc + 3) ls (v :: rest))) : W p l e R s m args below meth c H locs cells slots Q (F0 m pc ls (.ref a :: rest)) := va_get (C := RX1) (T := TX1) (N := 5) C0.1 C0.2.1 C0.2.2.2.2.1 zinX1 C0.2.2.2.1 C0.2.2.2.2.2.1 hP q0 he rfl 4 (by decide) (C0.2.2.2.2.1 _ zw9) (fun _ h => h) hv hdg kk
theorem zpX0_30 (C0 : zC p s m args c D cI cZ A cc nL RX0) (hP : va_P D vwCl ws H) (hD : va_D A ws) (hS : va_S A s.heap H locs) (q0 : Nat) {fs : List Value} (he : ws[q0]? = some (a, .inr (0, fs))) (hl : 6 < fs.length) (hdg : decode cc pc = .ok (.putfield 30, 3)) (kk : ∀ (H1 : Heap) (locs1 : List Loc), va_P D vwCl (ws.set q0 (a, .inr (0, fs.set 6 (.int (zI x))))) H1 → va_S A s.heap H1 locs1 → W p l e R s m args below meth c H1 locs1 cells slots Q (F0 m (pc + 3) ls rest)) : W p l e R s m args below meth c H locs cells slots Q (F0 m pc ls (.int (zI x) :: .ref a :: rest)) := va_put (C := RX0) (T := TX0) (N := 7) (ty := .int) C0.1 C0.2.1 C0.2.2.2.2.1 zinX0 tyX0 tyX0_ok nmX0 C0.2.2.2.1 C0.2.2.2.2.2.1 hP hD hS q0 he rfl 6 (by decide) (C0.2.2.2.2.1 _ zw0) (fun _ h => h) rfl (by decide +kernel) rfl rfl hl hdg (fun H1 l1 h1 _ h3 => kk H1 l1 h1 h3)
theorem zgX0_9 (C0 : zC p s m args c D cI cZ A cc nL RX0) (hP : va_P D vwCl ws H) (q0 : Nat) {fs : List Value} (he : ws[q0]? = some (a, .inr (0, fs))) (v : Value) (hv : fs[0]? = some v) (hdg : decode cc pc = .ok (.getfield 9, 3)) (kk : W p l e R s m args below meth c H locs cells slots Q (F0 m (pc + 3) ls (v :: rest))) : W p l e R s m args below meth c H locs cells slots Q (F0 m pc ls (.ref a :: rest)) := va_get (C := RX0) (T := TX0) (N := 7) C0.1 C0.2.1 C0.2.2.2.2.1 zinX0 C0.2.2.2.1 C0.2.2.2.2.2.1 hP q0 he rfl 0 (by decide) (C0.2.2.2.2.1 _ zw10) (fun _ h => h) hv hdg kk
theorem zkX0_47 {R : Room} {s : State} {args : Array Value} (hR : rmX0_hasTrack.frames + 1 ≤ R.frames ∧ 8 + (2 + 11) + rmX0_hasTrack.locals ≤ R.locals) (ht : ∀ w ∈ zTb, w.before args s = true) : CallW R s args RX0 RX0 47 yX0_hasTrack cX0_hasTrack 2 (some .boolean) (zW yX0_hasTrack cX0_hasTrack 2 (some .boolean)) rmX0_hasTrack 0 0 1 := z_cwV zw11 zw12 zw13 zw14 zw15 rfl rfl (by decide +kernel) hR ht
theorem zpX1_44 (C0 : zC p s m args c D cI cZ A cc nL RX1) (hP : va_P D vwCl ws H) (hD : va_D A ws) (hS : va_S A s.heap H locs) (q0 : Nat) {fs : List Value} (he : ws[q0]? = some (a, .inr (1, fs))) (hl : 1 < fs.length) (hdg : decode cc pc = .ok (.putfield 44, 3)) (kk : ∀ (H1 : Heap) (locs1 : List Loc), va_P D vwCl (ws.set q0 (a, .inr (1, fs.set 1 (.int (zI x))))) H1 → va_S A s.heap H1 locs1 → W p l e R s m args below meth c H1 locs1 cells slots Q (F0 m (pc + 3) ls rest)) : W p l e R s m args below meth c H locs cells slots Q (F0 m pc ls (.int (zI x) :: .ref a :: rest)) := va_put (C := RX1) (T := TX1) (N := 5) (ty := .int) C0.1 C0.2.1 C0.2.2.2.2.1 zinX1 tyX1 tyX1_ok nmX1 C0.2.2.2.1 C0.2.2.2.2.2.1 hP hD hS q0 he rfl 1 (by decide) (C0.2.2.2.2.1 _ zw19) (fun _ h => h) rfl (by decide +kernel) rfl rfl hl hdg (fun H1 l1 h1 _ h3 => kk H1 l1 h1 h3)
theorem zpX1_47 (C0 : zC p s m args c D cI cZ A cc nL RX1) (hP : va_P D vwCl ws H) (hD : va_D A ws) (hS : va_S A s.heap H locs) (q0 : Nat) {fs : List Value} (he : ws[q0]? = some (a, .inr (1, fs))) (hl : 2 < fs.length) (hdg : decode cc pc = .ok (.putfield 47, 3)) (kk : ∀ (H1 : Heap) (locs1 : List Loc), va_P D vwCl (ws.set q0 (a, .inr (1, fs.set 2 (.int (zI x))))) H1 → va_S A s.heap H1 locs1 → W p l e R s m args below meth c H1 locs1 cells slots Q (F0 m (pc + 3) ls rest)) : W p l e R s m args below meth c H locs cells slots Q (F0 m pc ls (.int (zI x) :: .ref a :: rest)) := va_put (C := RX1) (T := TX1) (N := 5) (ty := .int) C0.1 C0.2.1 C0.2.2.2.2.1 zinX1 tyX1 tyX1_ok nmX1 C0.2.2.2.1 C0.2.2.2.2.2.1 hP hD hS q0 he rfl 2 (by decide) (C0.2.2.2.2.1 _ zw20) (fun _ h => h) rfl (by decide +kernel) rfl rfl hl hdg (fun H1 l1 h1 _ h3 => kk H1 l1 h1 h3)
theorem zpX1_15 (C0 : zC p s m args c D cI cZ A cc nL RX1) (hP : va_P D vwCl ws H) (hD : va_D A ws) (hS : va_S A s.heap H locs) (q0 : Nat) {fs : List Value} (he : ws[q0]? = some (a, .inr (1, fs))) (hl : 3 < fs.length) (hdg : decode cc pc = .ok (.putfield 15, 3)) (kk : ∀ (H1 : Heap) (locs1 : List Loc), va_P D vwCl (ws.set q0 (a, .inr (1, fs.set 3 (.int (zI x))))) H1 → va_S A s.heap H1 locs1 → W p l e R s m args below meth c H1 locs1 cells slots Q (F0 m (pc + 3) ls rest)) : W p l e R s m args below meth c H locs cells slots Q (F0 m pc ls (.int (zI x) :: .ref a :: rest)) := va_put (C := RX1) (T := TX1) (N := 5) (ty := .int) C0.1 C0.2.1 C0.2.2.2.2.1 zinX1 tyX1 tyX1_ok nmX1 C0.2.2.2.1 C0.2.2.2.2.2.1 hP hD hS q0 he rfl 3 (by decide) (C0.2.2.2.2.1 _ zw21) (fun _ h => h) rfl (by decide +kernel) rfl rfl hl hdg (fun H1 l1 h1 _ h3 => kk H1 l1 h1 h3)
theorem zpX1_19 (C0 : zC p s m args c D cI cZ A cc nL RX1) (hP : va_P D vwCl ws H) (hD : va_D A ws) (hS : va_S A s.heap H locs) (q0 : Nat) {fs : List Value} (he : ws[q0]? = some (a, .inr (1, fs))) (hl : 4 < fs.length) (hdg : decode cc pc = .ok (.putfield 19, 3)) (kk : ∀ (H1 : Heap) (locs1 : List Loc), va_P D vwCl (ws.set q0 (a, .inr (1, fs.set 4 (.int (zI x))))) H1 → va_S A s.heap H1 locs1 → W p l e R s m args below meth c H1 locs1 cells slots Q (F0 m (pc + 3) ls rest)) : W p l e R s m args below meth c H locs cells slots Q (F0 m pc ls (.int (zI x) :: .ref a :: rest)) := va_put (C := RX1) (T := TX1) (N := 5) (ty := .int) C0.1 C0.2.1 C0.2.2.2.2.1 zinX1 tyX1 tyX1_ok nmX1 C0.2.2.2.1 C0.2.2.2.2.2.1 hP hD hS q0 he rfl 4 (by decide) (C0.2.2.2.2.1 _ zw22) (fun _ h => h) rfl (by decide +kernel) rfl rfl hl hdg (fun H1 l1 h1 _ h3 => kk H1 l1 h1 h3)
theorem zgX1_9 (C0 : zC p s m args c D cI cZ A cc nL RX1) (hP : va_P D vwCl ws H) (q0 : Nat) {fs : List Value} (he : ws[q0]? = some (a, .inr (1, fs))) (v : Value) (hv : fs[0]? = some v) (hdg : decode cc pc = .ok (.getfield 9, 3)) (kk : W p l e R s m args below meth c H locs cells slots Q (F0 m (pc + 3) ls (v :: rest))) : W p l e R s m args below meth c H locs cells slots Q (F0 m pc ls (.ref a :: rest)) := va_get (C := RX1) (T := TX1) (N := 5) C0.1 C0.2.1 C0.2.2.2.2.1 zinX1 C0.2.2.2.1 C0.2.2.2.2.2.1 hP q0 he rfl 0 (by decide) (C0.2.2.2.2.1 _ zw23) (fun _ h => h) hv hdg kk
theorem zkX1_29 {R : Room} {s : State} {args : Array Value} (hR : rmJ6_bitCount_0f7a4.frames + 1 ≤ R.frames ∧ 8 + (1 + 11) + rmJ6_bitCount_0f7a4.locals ≤ R.locals) (ht : ∀ w ∈ zTb, w.before args s = true) : CallB R s args RX1 29 yJ6_bitCount_0f7a4 cJ6_bitCount_0f7a4 1 (some .int) (zW yJ6_bitCount_0f7a4 cJ6_bitCount_0f7a4 1 (some .int)) rmJ6_bitCount_0f7a4 0 0 1 ∧ (Cond.static yJ6_bitCount_0f7a4).before args s = true := z_cwS zw28 zw29 zw30 zw31 rfl rfl (by decide +kernel) hR ht
theorem zgX1_15 (C0 : zC p s m args c D cI cZ A cc nL RX1) (hP : va_P D vwCl ws H) (q0 : Nat) {fs : List Value} (he : ws[q0]? = some (a, .inr (1, fs))) (v : Value) (hv : fs[3]? = some v) (hdg : decode cc pc = .ok (.getfield 15, 3)) (kk : W p l e R s m args below meth c H locs cells slots Q (F0 m (pc + 3) ls (v :: rest))) : W p l e R s m args below meth c H locs cells slots Q (F0 m pc ls (.ref a :: rest)) := va_get (C := RX1) (T := TX1) (N := 5) C0.1 C0.2.1 C0.2.2.2.2.1 zinX1 C0.2.2.2.1 C0.2.2.2.2.2.1 hP q0 he rfl 3 (by decide) (C0.2.2.2.2.1 _ zw21) (fun _ h => h) hv hdg kk
theorem zkX1_40 {R : Room} {s : State} {args : Array Value} (hR : rmX1_take.frames + 1 ≤ R.frames ∧ 8 + (5 + 11) + rmX1_take.locals ≤ R.locals) (ht : ∀ w ∈ zTb, w.before args s = true) : CallW R s args RX1 RX1 40 yX1_take cX1_take 5 none (zW yX1_take cX1_take 5 none) rmX1_take 0 0 4 := z_cwV zw32 zw33 zw34 zw35 zw36 rfl rfl (by decide +kernel) hR ht
theorem zgX1_19 (C0 : zC p s m args c D cI cZ A cc nL RX1) (hP : va_P D vwCl ws H) (q0 : Nat) {fs : List Value} (he : ws[q0]? = some (a, .inr (1, fs))) (v : Value) (hv : fs[4]? = some v) (hdg : decode cc pc = .ok (.getfield 19, 3)) (kk : W p l e R s m args below meth c H locs cells slots Q (F0 m (pc + 3) ls (v :: rest))) : W p l e R s m args below meth c H locs cells slots Q (F0 m pc ls (.ref a :: rest)) := va_get (C := RX1) (T := TX1) (N := 5) C0.1 C0.2.1 C0.2.2.2.2.1 zinX1 C0.2.2.2.1 C0.2.2.2.2.2.1 hP q0 he rfl 4 (by decide) (C0.2.2.2.2.1 _ zw22) (fun _ h => h) hv hdg kk
theorem zkX1_25 {R : Room} {s : State} {args : Array Value} (hR : rmX1_weigh.frames + 1 ≤ R.frames ∧ 8 + (8 + 11) + rmX1_weigh.locals ≤ R.locals) (ht : ∀ w ∈ zTb, w.before args s = true) : CallW R s args RX1 RX1 25 yX1_weigh cX1_weigh 8 none (zW yX1_weigh cX1_weigh 8 none) rmX1_weigh 0 0 3 := z_cwV zw38 zw39 zw40 zw35 zw41 rfl rfl (by decide +kernel) hR ht
theorem zgX2_9 (C0 : zC p s m args c D cI cZ A cc nL RX2) (hP : va_P D vwCl ws H) (q0 : Nat) {fs : List Value} (he : ws[q0]? = some (a, .inr (2, fs))) (v : Value) (hv : fs[0]? = some v) (hdg : decode cc pc = .ok (.getfield 9, 3)) (kk : W p l e R s m args below meth c H locs cells slots Q (F0 m (pc + 3) ls (v :: rest))) : W p l e R s m args below meth c H locs cells slots Q (F0 m pc ls (.ref a :: rest)) := va_get (C := RX2) (T := TX2) (N := 4) C0.1 C0.2.1 C0.2.2.2.2.1 zinX2 C0.2.2.2.1 C0.2.2.2.2.2.1 hP q0 he rfl 0 (by decide) (C0.2.2.2.2.1 _ zw42) (fun _ h => h) hv hdg kk
theorem zgX2_15 (C0 : zC p s m args c D cI cZ A cc nL RX2) (hP : va_P D vwCl ws H) (q0 : Nat) {fs : List Value} (he : ws[q0]? = some (a, .inr (2, fs))) (v : Value) (hv : fs[1]? = some v) (hdg : decode cc pc = .ok (.getfield 15, 3)) (kk : W p l e R s m args below meth c H locs cells slots Q (F0 m (pc + 3) ls (v :: rest))) : W p l e R s m args below meth c H locs cells slots Q (F0 m pc ls (.ref a :: rest)) := va_get (C := RX2) (T := TX2) (N := 4) C0.1 C0.2.1 C0.2.2.2.2.1 zinX2 C0.2.2.2.1 C0.2.2.2.2.2.1 hP q0 he rfl 1 (by decide) (C0.2.2.2.2.1 _ zw43) (fun _ h => h) hv hdg kk
theorem zgX2_18 (C0 : zC p s m args c D cI cZ A cc nL RX2) (hP : va_P D vwCl ws H) (q0 : Nat) {fs : List Value} (he : ws[q0]? = some (a, .inr (2, fs))) (v : Value) (hv : fs[2]? = some v) (hdg : decode cc pc = .ok (.getfield 18, 3)) (kk : W p l e R s m args below meth c H locs cells slots Q (F0 m (pc + 3) ls (v :: rest))) : W p l e R s m args below meth c H locs cells slots Q (F0 m pc ls (.ref a :: rest)) := va_get (C := RX2) (T := TX2) (N := 4) C0.1 C0.2.1 C0.2.2.2.2.1 zinX2 C0.2.2.2.1 C0.2.2.2.2.2.1 hP q0 he rfl 2 (by decide) (C0.2.2.2.2.1 _ zw44) (fun _ h => h) hv hdg kk
theorem zgX2_21 (C0 : zC p s m args c D cI cZ A cc nL RX2) (hP : va_P D vwCl ws H) (q0 : Nat) {fs : List Value} (he : ws[q0]? = some (a, .inr (2, fs))) (v : Value) (hv : fs[3]? = some v) (hdg : decode cc pc = .ok (.getfield 21, 3)) (kk : W p l e R s m args below meth c H locs cells slots Q (F0 m (pc + 3) ls (v :: rest))) : W p l e R s m args below meth c H locs cells slots Q (F0 m pc ls (.ref a :: rest)) := va_get (C := RX2) (T := TX2) (N := 4) C0.1 C0.2.1 C0.2.2.2.2.1 zinX2 C0.2.2.2.1 C0.2.2.2.2.2.1 hP q0 he rfl 3 (by decide) (C0.2.2.2.2.1 _ zw45) (fun _ h => h) hv hdg kk
theorem zkX2_25 {R : Room} {s : State} {args : Array Value} (hR : rmX2_isBehind.frames + 1 ≤ R.frames ∧ 8 + (5 + 11) + rmX2_isBehind.locals ≤ R.locals) (ht : ∀ w ∈ zTb, w.before args s = true) : CallW R s args RX2 RX2 25 yX2_isBehind cX2_isBehind 5 (some .boolean) (zW yX2_isBehind cX2_isBehind 5 (some .boolean)) rmX2_isBehind 0 0 4 := z_cwV zw46 zw47 zw48 zw49 zw50 rfl rfl (by decide +kernel) hR ht
theorem zkX2_29 {R : Room} {s : State} {args : Array Value} (hR : rmX2_put.frames + 1 ≤ R.frames ∧ 8 + (5 + 11) + rmX2_put.locals ≤ R.locals) (ht : ∀ w ∈ zTb, w.before args s = true) : CallW R s args RX2 RX2 29 yX2_put cX2_put 5 none (zW yX2_put cX2_put 5 none) rmX2_put 0 0 4 := z_cwV zw51 zw52 zw53 zw49 zw54 rfl rfl (by decide +kernel) hR ht
theorem zpX2_21 (C0 : zC p s m args c D cI cZ A cc nL RX2) (hP : va_P D vwCl ws H) (hD : va_D A ws) (hS : va_S A s.heap H locs) (q0 : Nat) {fs : List Value} (he : ws[q0]? = some (a, .inr (2, fs))) (hl : 3 < fs.length) (hdg : decode cc pc = .ok (.putfield 21, 3)) (kk : ∀ (H1 : Heap) (locs1 : List Loc), va_P D vwCl (ws.set q0 (a, .inr (2, fs.set 3 (.int (zI x))))) H1 → va_S A s.heap H1 locs1 → W p l e R s m args below meth c H1 locs1 cells slots Q (F0 m (pc + 3) ls rest)) : W p l e R s m args below meth c H locs cells slots Q (F0 m pc ls (.int (zI x) :: .ref a :: rest)) := va_put (C := RX2) (T := TX2) (N := 4) (ty := .int) C0.1 C0.2.1 C0.2.2.2.2.1 zinX2 tyX2 tyX2_ok nmX2 C0.2.2.2.1 C0.2.2.2.2.2.1 hP hD hS q0 he rfl 3 (by decide) (C0.2.2.2.2.1 _ zw45) (fun _ h => h) rfl (by decide +kernel) rfl rfl hl hdg (fun H1 l1 h1 _ h3 => kk H1 l1 h1 h3)
theorem zkX2_33 {R : Room} {s : State} {args : Array Value} (hR : rmJ7_fill_53178.frames + 1 ≤ R.frames ∧ 8 + (4 + 11) + rmJ7_fill_53178.locals ≤ R.locals) (ht : ∀ w ∈ zTb, w.before args s = true) : CallB R s args RX2 33 yJ7_fill_53178 cJ7_fill_53178 4 none (zW yJ7_fill_53178 cJ7_fill_53178 4 none) rmJ7_fill_53178 0 0 2 ∧ (Cond.static yJ7_fill_53178).before args s = true := z_cwS zw55 zw56 zw57 zw58 rfl rfl (by decide +kernel) hR ht
theorem zkX2_39 {R : Room} {s : State} {args : Array Value} (hR : rmX2_nextOf.frames + 1 ≤ R.frames ∧ 8 + (5 + 11) + rmX2_nextOf.locals ≤ R.locals) (ht : ∀ w ∈ zTb, w.before args s = true) : CallW R s args RX2 RX2 39 yX2_nextOf cX2_nextOf 5 (some .int) (zW yX2_nextOf cX2_nextOf 5 (some .int)) rmX2_nextOf 0 0 3 := z_cwV zw59 zw60 zw61 zw49 zw62 rfl rfl (by decide +kernel) hR ht
theorem zkX3_66 {R : Room} {s : State} {args : Array Value} (hR : rmX3_isWithin.frames + 1 ≤ R.frames ∧ 8 + (3 + 11) + rmX3_isWithin.locals ≤ R.locals) (ht : ∀ w ∈ zTb, w.before args s = true) : CallB R s args RX3 66 yX3_isWithin cX3_isWithin 3 (some .boolean) (zW yX3_isWithin cX3_isWithin 3 (some .boolean)) rmX3_isWithin 0 0 3 ∧ (Cond.static yX3_isWithin).before args s = true := z_cwS zw63 zw64 zw65 zw66 rfl rfl (by decide +kernel) hR ht
theorem zgX3_35 (C0 : zC p s m args c D cI cZ A cc nL RX3) (hP : va_P D vwCl ws H) (q0 : Nat) {fs : List Value} (he : ws[q0]? = some (a, .inr (3, fs))) (v : Value) (hv : fs[4]? = some v) (hdg : decode cc pc = .ok (.getfield 35, 3)) (kk : W p l e R s m args below meth c H locs cells slots Q (F0 m (pc + 3) ls (v :: rest))) : W p l e R s m args below meth c H locs cells slots Q (F0 m pc ls (.ref a :: rest)) := va_get (C := RX3) (T := TX3) (N := 14) C0.1 C0.2.1 C0.2.2.2.2.1 zinX3 C0.2.2.2.1 C0.2.2.2.2.2.1 hP q0 he rfl 4 (by decide) (C0.2.2.2.2.1 _ zw67) (fun _ h => h) hv hdg kk
theorem zgX3_74 (C0 : zC p s m args c D cI cZ A cc nL RX3) (hP : va_P D vwCl ws H) (q0 : Nat) {fs : List Value} (he : ws[q0]? = some (a, .inr (2, fs))) (v : Value) (hv : fs[3]? = some v) (hdg : decode cc pc = .ok (.getfield 74, 3)) (kk : W p l e R s m args below meth c H locs cells slots Q (F0 m (pc + 3) ls (v :: rest))) : W p l e R s m args below meth c H locs cells slots Q (F0 m pc ls (.ref a :: rest)) := va_get (C := RX2) (T := TX2) (N := 4) C0.1 C0.2.1 C0.2.2.2.2.1 zinX2 C0.2.2.2.1 C0.2.2.2.2.2.1 hP q0 he rfl 3 (by decide) (C0.2.2.2.2.1 _ zw68) (fun _ h => h) hv hdg kk
theorem zgX3_98 (C0 : zC p s m args c D cI cZ A cc nL RX3) (hP : va_P D vwCl ws H) (q0 : Nat) {fs : List Value} (he : ws[q0]? = some (a, .inr (3, fs))) (v : Value) (hv : fs[13]? = some v) (hdg : decode cc pc = .ok (.getfield 98, 3)) (kk : W p l e R s m args below meth c H locs cells slots Q (F0 m (pc + 3) ls (v :: rest))) : W p l e R s m args below meth c H locs cells slots Q (F0 m pc ls (.ref a :: rest)) := va_get (C := RX3) (T := TX3) (N := 14) C0.1 C0.2.1 C0.2.2.2.2.1 zinX3 C0.2.2.2.1 C0.2.2.2.2.2.1 hP q0 he rfl 13 (by decide) (C0.2.2.2.2.1 _ zw69) (fun _ h => h) hv hdg kk
theorem zkX3_62 {R : Room} {s : State} {args : Array Value} (hR : rmX3_isPlane.frames + 1 ≤ R.frames ∧ 8 + (1 + 11) + rmX3_isPlane.locals ≤ R.locals) (ht : ∀ w ∈ zTb, w.before args s = true) : CallB R s args RX3 62 yX3_isPlane cX3_isPlane 1 (some .boolean) (zW yX3_isPlane cX3_isPlane 1 (some .boolean)) rmX3_isPlane 0 0 1 ∧ (Cond.static yX3_isPlane).before args s = true := z_cwS zw70 zw71 zw65 zw72 rfl rfl (by decide +kernel) hR ht
theorem zkX3_70 {R : Room} {s : State} {args : Array Value} (hR : rmX3_hasBegun.frames + 1 ≤ R.frames ∧ 8 + (1 + 11) + rmX3_hasBegun.locals ≤ R.locals) (ht : ∀ w ∈ zTb, w.before args s = true) : CallW R s args RX3 RX3 70 yX3_hasBegun cX3_hasBegun 1 (some .boolean) (zW yX3_hasBegun cX3_hasBegun 1 (some .boolean)) rmX3_hasBegun 0 0 0 := z_cwV zw73 zw74 zw75 zw65 zw76 rfl rfl (by decide +kernel) hR ht
theorem zgX3_11 (C0 : zC p s m args c D cI cZ A cc nL RX3) (hP : va_P D vwCl ws H) (q0 : Nat) {fs : List Value} (he : ws[q0]? = some (a, .inr (3, fs))) (v : Value) (hv : fs[0]? = some v) (hdg : decode cc pc = .ok (.getfield 11, 3)) (kk : W p l e R s m args below meth c H locs cells slots Q (F0 m (pc + 3) ls (v :: rest))) : W p l e R s m args below meth c H locs cells slots Q (F0 m pc ls (.ref a :: rest)) := va_get (C := RX3) (T := TX3) (N := 14) C0.1 C0.2.1 C0.2.2.2.2.1 zinX3 C0.2.2.2.1 C0.2.2.2.2.2.1 hP q0 he rfl 0 (by decide) (C0.2.2.2.2.1 _ zw77) (fun _ h => h) hv hdg kk
theorem zgX3_15 (C0 : zC p s m args c D cI cZ A cc nL RX3) (hP : va_P D vwCl ws H) (q0 : Nat) {fs : List Value} (he : ws[q0]? = some (a, .inr (3, fs))) (v : Value) (hv : fs[1]? = some v) (hdg : decode cc pc = .ok (.getfield 15, 3)) (kk : W p l e R s m args below meth c H locs cells slots Q (F0 m (pc + 3) ls (v :: rest))) : W p l e R s m args below meth c H locs cells slots Q (F0 m pc ls (.ref a :: rest)) := va_get (C := RX3) (T := TX3) (N := 14) C0.1 C0.2.1 C0.2.2.2.2.1 zinX3 C0.2.2.2.1 C0.2.2.2.2.2.1 hP q0 he rfl 1 (by decide) (C0.2.2.2.2.1 _ zw78) (fun _ h => h) hv hdg kk
theorem zgX3_18 (C0 : zC p s m args c D cI cZ A cc nL RX3) (hP : va_P D vwCl ws H) (q0 : Nat) {fs : List Value} (he : ws[q0]? = some (a, .inr (3, fs))) (v : Value) (hv : fs[2]? = some v) (hdg : decode cc pc = .ok (.getfield 18, 3)) (kk : W p l e R s m args below meth c H locs cells slots Q (F0 m (pc + 3) ls (v :: rest))) : W p l e R s m args below meth c H locs cells slots Q (F0 m pc ls (.ref a :: rest)) := va_get (C := RX3) (T := TX3) (N := 14) C0.1 C0.2.1 C0.2.2.2.2.1 zinX3 C0.2.2.2.1 C0.2.2.2.2.2.1 hP q0 he rfl 2 (by decide) (C0.2.2.2.2.1 _ zw79) (fun _ h => h) hv hdg kk
theorem zgX3_39 (C0 : zC p s m args c D cI cZ A cc nL RX3) (hP : va_P D vwCl ws H) (q0 : Nat) {fs : List Value} (he : ws[q0]? = some (a, .inr (3, fs))) (v : Value) (hv : fs[5]? = some v) (hdg : decode cc pc = .ok (.getfield 39, 3)) (kk : W p l e R s m args below meth c H locs cells slots Q (F0 m (pc + 3) ls (v :: rest))) : W p l e R s m args below meth c H locs cells slots Q (F0 m pc ls (.ref a :: rest)) := va_get (C := RX3) (T := TX3) (N := 14) C0.1 C0.2.1 C0.2.2.2.2.1 zinX3 C0.2.2.2.1 C0.2.2.2.2.2.1 hP q0 he rfl 5 (by decide) (C0.2.2.2.2.1 _ zw80) (fun _ h => h) hv hdg kk
theorem zkX3_78 {R : Room} {s : State} {args : Array Value} (hR : rmX2_countOf.frames + 1 ≤ R.frames ∧ 8 + (5 + 11) + rmX2_countOf.locals ≤ R.locals) (ht : ∀ w ∈ zTb, w.before args s = true) : CallW R s args RX3 RX2 78 yX2_countOf cX2_countOf 5 (some .int) (zW yX2_countOf cX2_countOf 5 (some .int)) rmX2_countOf 0 0 2 := z_cwV zw81 zw82 zw83 zw49 zw84 rfl rfl (by decide +kernel) hR ht
theorem zkX3_82 {R : Room} {s : State} {args : Array Value} (hR : rmX3_liveOf.frames + 1 ≤ R.frames ∧ 8 + (2 + 11) + rmX3_liveOf.locals ≤ R.locals) (ht : ∀ w ∈ zTb, w.before args s = true) : CallW R s args RX3 RX3 82 yX3_liveOf cX3_liveOf 2 (some .int) (zW yX3_liveOf cX3_liveOf 2 (some .int)) rmX3_liveOf 0 0 1 := z_cwV zw85 zw86 zw87 zw65 zw88 rfl rfl (by decide +kernel) hR ht
theorem zgX3_86 (C0 : zC p s m args c D cI cZ A cc nL RX3) (hP : va_P D vwCl ws H) (q0 : Nat) {fs : List Value} (he : ws[q0]? = some (a, .inr (3, fs))) (v : Value) (hv : fs[10]? = some v) (hdg : decode cc pc = .ok (.getfield 86, 3)) (kk : W p l e R s m args below meth c H locs cells slots Q (F0 m (pc + 3) ls (v :: rest))) : W p l e R s m args below meth c H locs cells slots Q (F0 m pc ls (.ref a :: rest)) := va_get (C := RX3) (T := TX3) (N := 14) C0.1 C0.2.1 C0.2.2.2.2.1 zinX3 C0.2.2.2.1 C0.2.2.2.2.2.1 hP q0 he rfl 10 (by decide) (C0.2.2.2.2.1 _ zw89) (fun _ h => h) hv hdg kk
theorem zgX3_29 (C0 : zC p s m args c D cI cZ A cc nL RX3) (hP : va_P D vwCl ws H) (q0 : Nat) {fs : List Value} (he : ws[q0]? = some (a, .inr (3, fs))) (v : Value) (hv : fs[3]? = some v) (hdg : decode cc pc = .ok (.getfield 29, 3)) (kk : W p l e R s m args below meth c H locs cells slots Q (F0 m (pc + 3) ls (v :: rest))) : W p l e R s m args below meth c H locs cells slots Q (F0 m pc ls (.ref a :: rest)) := va_get (C := RX3) (T := TX3) (N := 14) C0.1 C0.2.1 C0.2.2.2.2.1 zinX3 C0.2.2.2.1 C0.2.2.2.2.2.1 hP q0 he rfl 3 (by decide) (C0.2.2.2.2.1 _ zw92) (fun _ h => h) hv hdg kk
theorem zgX3_132 (C0 : zC p s m args c D cI cZ A cc nL RX3) (hP : va_P D vwCl ws H) (q0 : Nat) {fs : List Value} (he : ws[q0]? = some (a, .inr (2, fs))) (v : Value) (hv : fs[0]? = some v) (hdg : decode cc pc = .ok (.getfield 132, 3)) (kk : W p l e R s m args below meth c H locs cells slots Q (F0 m (pc + 3) ls (v :: rest))) : W p l e R s m args below meth c H locs cells slots Q (F0 m pc ls (.ref a :: rest)) := va_get (C := RX2) (T := TX2) (N := 4) C0.1 C0.2.1 C0.2.2.2.2.1 zinX2 C0.2.2.2.1 C0.2.2.2.2.2.1 hP q0 he rfl 0 (by decide) (C0.2.2.2.2.1 _ zw93) (fun _ h => h) hv hdg kk
theorem zkX3_205 {R : Room} {s : State} {args : Array Value} (hR : rmX3_latest.frames + 1 ≤ R.frames ∧ 8 + (1 + 11) + rmX3_latest.locals ≤ R.locals) (ht : ∀ w ∈ zTb, w.before args s = true) : CallW R s args RX3 RX3 205 yX3_latest cX3_latest 1 (some .int) (zW yX3_latest cX3_latest 1 (some .int)) rmX3_latest 0 0 0 := z_cwV zw94 zw95 zw96 zw65 zw97 rfl rfl (by decide +kernel) hR ht
theorem zgX3_59 (C0 : zC p s m args c D cI cZ A cc nL RX3) (hP : va_P D vwCl ws H) (q0 : Nat) {fs : List Value} (he : ws[q0]? = some (a, .inr (3, fs))) (v : Value) (hv : fs[9]? = some v) (hdg : decode cc pc = .ok (.getfield 59, 3)) (kk : W p l e R s m args below meth c H locs cells slots Q (F0 m (pc + 3) ls (v :: rest))) : W p l e R s m args below meth c H locs cells slots Q (F0 m pc ls (.ref a :: rest)) := va_get (C := RX3) (T := TX3) (N := 14) C0.1 C0.2.1 C0.2.2.2.2.1 zinX3 C0.2.2.2.1 C0.2.2.2.2.2.1 hP q0 he rfl 9 (by decide) (C0.2.2.2.2.1 _ zw98) (fun _ h => h) hv hdg kk
theorem zkX3_109 {R : Room} {s : State} {args : Array Value} (hR : rmX2_insert.frames + 1 ≤ R.frames ∧ 8 + (5 + 11) + rmX2_insert.locals ≤ R.locals) (ht : ∀ w ∈ zTb, w.before args s = true) : CallW R s args RX3 RX2 109 yX2_insert cX2_insert 5 none (zW yX2_insert cX2_insert 5 none) rmX2_insert 0 0 3 := z_cwV zw99 zw100 zw101 zw49 zw102 rfl rfl (by decide +kernel) hR ht
theorem zgX3_163 (C0 : zC p s m args c D cI cZ A cc nL RX3) (hP : va_P D vwCl ws H) (q0 : Nat) {fs : List Value} (he : ws[q0]? = some (a, .inr (2, fs))) (v : Value) (hv : fs[1]? = some v) (hdg : decode cc pc = .ok (.getfield 163, 3)) (kk : W p l e R s m args below meth c H locs cells slots Q (F0 m (pc + 3) ls (v :: rest))) : W p l e R s m args below meth c H locs cells slots Q (F0 m pc ls (.ref a :: rest)) := va_get (C := RX2) (T := TX2) (N := 4) C0.1 C0.2.1 C0.2.2.2.2.1 zinX2 C0.2.2.2.1 C0.2.2.2.2.2.1 hP q0 he rfl 1 (by decide) (C0.2.2.2.2.1 _ zw103) (fun _ h => h) hv hdg kk
theorem zgX3_147 (C0 : zC p s m args c D cI cZ A cc nL RX3) (hP : va_P D vwCl ws H) (q0 : Nat) {fs : List Value} (he : ws[q0]? = some (a, .inr (2, fs))) (v : Value) (hv : fs[2]? = some v) (hdg : decode cc pc = .ok (.getfield 147, 3)) (kk : W p l e R s m args below meth c H locs cells slots Q (F0 m (pc + 3) ls (v :: rest))) : W p l e R s m args below meth c H locs cells slots Q (F0 m pc ls (.ref a :: rest)) := va_get (C := RX2) (T := TX2) (N := 4) C0.1 C0.2.1 C0.2.2.2.2.1 zinX2 C0.2.2.2.1 C0.2.2.2.2.2.1 hP q0 he rfl 2 (by decide) (C0.2.2.2.2.1 _ zw104) (fun _ h => h) hv hdg kk
theorem zkX3_223 {R : Room} {s : State} {args : Array Value} (hR : rmX3_settle.frames + 1 ≤ R.frames ∧ 8 + (5 + 11) + rmX3_settle.locals ≤ R.locals) (ht : ∀ w ∈ zTb, w.before args s = true) : CallW R s args RX3 RX3 223 yX3_settle cX3_settle 5 none (zW yX3_settle cX3_settle 5 none) rmX3_settle 0 0 3 := z_cwV zw105 zw106 zw107 zw65 zw108 rfl rfl (by decide +kernel) hR ht
theorem zpX3_86 (C0 : zC p s m args c D cI cZ A cc nL RX3) (hP : va_P D vwCl ws H) (hD : va_D A ws) (hS : va_S A s.heap H locs) (q0 : Nat) {fs : List Value} (he : ws[q0]? = some (a, .inr (3, fs))) (hl : 10 < fs.length) (hdg : decode cc pc = .ok (.putfield 86, 3)) (kk : ∀ (H1 : Heap) (locs1 : List Loc), va_P D vwCl (ws.set q0 (a, .inr (3, fs.set 10 (.int (zI x))))) H1 → va_S A s.heap H1 locs1 → W p l e R s m args below meth c H1 locs1 cells slots Q (F0 m (pc + 3) ls rest)) : W p l e R s m args below meth c H locs cells slots Q (F0 m pc ls (.int (zI x) :: .ref a :: rest)) := va_put (C := RX3) (T := TX3) (N := 14) (ty := .int) C0.1 C0.2.1 C0.2.2.2.2.1 zinX3 tyX3 tyX3_ok nmX3 C0.2.2.2.1 C0.2.2.2.2.2.1 hP hD hS q0 he rfl 10 (by decide) (C0.2.2.2.2.1 _ zw89) (fun _ h => h) rfl (by decide +kernel) rfl rfl hl hdg (fun H1 l1 h1 _ h3 => kk H1 l1 h1 h3)
theorem zkX3_102 {R : Room} {s : State} {args : Array Value} (hR : rmX3_horizon.frames + 1 ≤ R.frames ∧ 8 + (1 + 11) + rmX3_horizon.locals ≤ R.locals) (ht : ∀ w ∈ zTb, w.before args s = true) : CallW R s args RX3 RX3 102 yX3_horizon cX3_horizon 1 (some .int) (zW yX3_horizon cX3_horizon 1 (some .int)) rmX3_horizon 0 0 0 := z_cwV zw112 zw113 zw114 zw65 zw115 rfl rfl (by decide +kernel) hR ht
theorem zgX3_48 (C0 : zC p s m args c D cI cZ A cc nL RX3) (hP : va_P D vwCl ws H) (q0 : Nat) {fs : List Value} (he : ws[q0]? = some (a, .inr (3, fs))) (v : Value) (hv : fs[7]? = some v) (hdg : decode cc pc = .ok (.getfield 48, 3)) (kk : W p l e R s m args below meth c H locs cells slots Q (F0 m (pc + 3) ls (v :: rest))) : W p l e R s m args below meth c H locs cells slots Q (F0 m pc ls (.ref a :: rest)) := va_get (C := RX3) (T := TX3) (N := 14) C0.1 C0.2.1 C0.2.2.2.2.1 zinX3 C0.2.2.2.1 C0.2.2.2.2.2.1 hP q0 he rfl 7 (by decide) (C0.2.2.2.2.1 _ zw116) (fun _ h => h) hv hdg kk
theorem zkX3_196 {R : Room} {s : State} {args : Array Value} (hR : rmX0_pulses.frames + 1 ≤ R.frames ∧ 8 + (1 + 11) + rmX0_pulses.locals ≤ R.locals) (ht : ∀ w ∈ zTb, w.before args s = true) : CallW R s args RX3 RX0 196 yX0_pulses cX0_pulses 1 (some .int) (zW yX0_pulses cX0_pulses 1 (some .int)) rmX0_pulses 0 0 0 := z_cwV zw117 zw118 zw119 zw14 zw120 rfl rfl (by decide +kernel) hR ht
theorem zgX3_123 (C0 : zC p s m args c D cI cZ A cc nL RX3) (hP : va_P D vwCl ws H) (q0 : Nat) {fs : List Value} (he : ws[q0]? = some (a, .inr (3, fs))) (v : Value) (hv : fs[11]? = some v) (hdg : decode cc pc = .ok (.getfield 123, 3)) (kk : W p l e R s m args below meth c H locs cells slots Q (F0 m (pc + 3) ls (v :: rest))) : W p l e R s m args below meth c H locs cells slots Q (F0 m pc ls (.ref a :: rest)) := va_get (C := RX3) (T := TX3) (N := 14) C0.1 C0.2.1 C0.2.2.2.2.1 zinX3 C0.2.2.2.1 C0.2.2.2.2.2.1 hP q0 he rfl 11 (by decide) (C0.2.2.2.2.1 _ zw121) (fun _ h => h) hv hdg kk
theorem zkX3_154 {R : Room} {s : State} {args : Array Value} (hR : rmX2_endOfGroup.frames + 1 ≤ R.frames ∧ 8 + (5 + 11) + rmX2_endOfGroup.locals ≤ R.locals) (ht : ∀ w ∈ zTb, w.before args s = true) : CallW R s args RX3 RX2 154 yX2_endOfGroup cX2_endOfGroup 5 (some .int) (zW yX2_endOfGroup cX2_endOfGroup 5 (some .int)) rmX2_endOfGroup 0 0 3 := z_cwV zw122 zw123 zw124 zw49 zw125 rfl rfl (by decide +kernel) hR ht
theorem zgX3_55 (C0 : zC p s m args c D cI cZ A cc nL RX3) (hP : va_P D vwCl ws H) (q0 : Nat) {fs : List Value} (he : ws[q0]? = some (a, .inr (3, fs))) (v : Value) (hv : fs[8]? = some v) (hdg : decode cc pc = .ok (.getfield 55, 3)) (kk : W p l e R s m args below meth c H locs cells slots Q (F0 m (pc + 3) ls (v :: rest))) : W p l e R s m args below meth c H locs cells slots Q (F0 m pc ls (.ref a :: rest)) := va_get (C := RX3) (T := TX3) (N := 14) C0.1 C0.2.1 C0.2.2.2.2.1 zinX3 C0.2.2.2.1 C0.2.2.2.2.2.1 hP q0 he rfl 8 (by decide) (C0.2.2.2.2.1 _ zw126) (fun _ h => h) hv hdg kk
theorem zgX3_226 (C0 : zC p s m args c D cI cZ A cc nL RX3) (hP : va_P D vwCl ws H) (q0 : Nat) {fs : List Value} (he : ws[q0]? = some (a, .inr (1, fs))) (v : Value) (hv : fs[0]? = some v) (hdg : decode cc pc = .ok (.getfield 226, 3)) (kk : W p l e R s m args below meth c H locs cells slots Q (F0 m (pc + 3) ls (v :: rest))) : W p l e R s m args below meth c H locs cells slots Q (F0 m pc ls (.ref a :: rest)) := va_get (C := RX1) (T := TX1) (N := 5) C0.1 C0.2.1 C0.2.2.2.2.1 zinX1 C0.2.2.2.1 C0.2.2.2.2.2.1 hP q0 he rfl 0 (by decide) (C0.2.2.2.2.1 _ zw127) (fun _ h => h) hv hdg kk
theorem zkX3_229 {R : Room} {s : State} {args : Array Value} (hR : rmX2_putMemberStrips.frames + 1 ≤ R.frames ∧ 8 + (5 + 11) + rmX2_putMemberStrips.locals ≤ R.locals) (ht : ∀ w ∈ zTb, w.before args s = true) : CallW R s args RX3 RX2 229 yX2_putMemberStrips cX2_putMemberStrips 5 none (zW yX2_putMemberStrips cX2_putMemberStrips 5 none) rmX2_putMemberStrips 0 0 3 := z_cwV zw128 zw129 zw130 zw49 zw131 rfl rfl (by decide +kernel) hR ht
theorem zkX3_233 {R : Room} {s : State} {args : Array Value} (hR : rmX1_run.frames + 1 ≤ R.frames ∧ 8 + (8 + 11) + rmX1_run.locals ≤ R.locals) (ht : ∀ w ∈ zTb, w.before args s = true) : CallW R s args RX3 RX1 233 yX1_run cX1_run 8 none (zW yX1_run cX1_run 8 none) rmX1_run 0 0 2 := z_cwV zw132 zw133 zw134 zw35 zw135 rfl rfl (by decide +kernel) hR ht
theorem zkX3_157 {R : Room} {s : State} {args : Array Value} (hR : rmX2_planesOf.frames + 1 ≤ R.frames ∧ 8 + (5 + 11) + rmX2_planesOf.locals ≤ R.locals) (ht : ∀ w ∈ zTb, w.before args s = true) : CallW R s args RX3 RX2 157 yX2_planesOf cX2_planesOf 5 (some .int) (zW yX2_planesOf cX2_planesOf 5 (some .int)) rmX2_planesOf 0 0 2 := z_cwV zw136 zw137 zw138 zw49 zw139 rfl rfl (by decide +kernel) hR ht
theorem zkX3_237 {R : Room} {s : State} {args : Array Value} (hR : rmX0_add.frames + 1 ≤ R.frames ∧ 8 + (4 + 11) + rmX0_add.locals ≤ R.locals) (ht : ∀ w ∈ zTb, w.before args s = true) : CallW R s args RX3 RX0 237 yX0_add cX0_add 4 none (zW yX0_add cX0_add 4 none) rmX0_add 0 0 3 := z_cwV zw140 zw141 zw142 zw14 zw143 rfl rfl (by decide +kernel) hR ht
theorem zkX3_213 {R : Room} {s : State} {args : Array Value} (hR : rmX3_settleBelow.frames + 1 ≤ R.frames ∧ 8 + (2 + 11) + rmX3_settleBelow.locals ≤ R.locals) (ht : ∀ w ∈ zTb, w.before args s = true) : CallW R s args RX3 RX3 213 yX3_settleBelow cX3_settleBelow 2 none (zW yX3_settleBelow cX3_settleBelow 2 none) rmX3_settleBelow 0 0 1 := z_cwV zw144 zw145 zw146 zw65 zw147 rfl rfl (by decide +kernel) hR ht
theorem zkX3_202 {R : Room} {s : State} {args : Array Value} (hR : rmX3_edge.frames + 1 ≤ R.frames ∧ 8 + (3 + 11) + rmX3_edge.locals ≤ R.locals) (ht : ∀ w ∈ zTb, w.before args s = true) : CallW R s args RX3 RX3 202 yX3_edge cX3_edge 3 (some .int) (zW yX3_edge cX3_edge 3 (some .int)) rmX3_edge 0 0 0 := z_cwV zw148 zw149 zw150 zw65 zw151 rfl rfl (by decide +kernel) hR ht
theorem zpX3_123 (C0 : zC p s m args c D cI cZ A cc nL RX3) (hP : va_P D vwCl ws H) (hD : va_D A ws) (hS : va_S A s.heap H locs) (q0 : Nat) {fs : List Value} (he : ws[q0]? = some (a, .inr (3, fs))) (hl : 11 < fs.length) (hdg : decode cc pc = .ok (.putfield 123, 3)) (kk : ∀ (H1 : Heap) (locs1 : List Loc), va_P D vwCl (ws.set q0 (a, .inr (3, fs.set 11 (.int (zI x))))) H1 → va_S A s.heap H1 locs1 → W p l e R s m args below meth c H1 locs1 cells slots Q (F0 m (pc + 3) ls rest)) : W p l e R s m args below meth c H locs cells slots Q (F0 m pc ls (.int (zI x) :: .ref a :: rest)) := va_put (C := RX3) (T := TX3) (N := 14) (ty := .int) C0.1 C0.2.1 C0.2.2.2.2.1 zinX3 tyX3 tyX3_ok nmX3 C0.2.2.2.1 C0.2.2.2.2.2.1 hP hD hS q0 he rfl 11 (by decide) (C0.2.2.2.2.1 _ zw121) (fun _ h => h) rfl (by decide +kernel) rfl rfl hl hdg (fun H1 l1 h1 _ h3 => kk H1 l1 h1 h3)
theorem zkX3_217 {R : Room} {s : State} {args : Array Value} (hR : rmX3_nextGroupIsShut.frames + 1 ≤ R.frames ∧ 8 + (3 + 11) + rmX3_nextGroupIsShut.locals ≤ R.locals) (ht : ∀ w ∈ zTb, w.before args s = true) : CallW R s args RX3 RX3 217 yX3_nextGroupIsShut cX3_nextGroupIsShut 3 (some .boolean) (zW yX3_nextGroupIsShut cX3_nextGroupIsShut 3 (some .boolean)) rmX3_nextGroupIsShut 0 0 1 := z_cwV zw152 zw153 zw154 zw65 zw155 rfl rfl (by decide +kernel) hR ht
theorem zkX3_220 {R : Room} {s : State} {args : Array Value} (hR : rmX3_shutGroup.frames + 1 ≤ R.frames ∧ 8 + (3 + 11) + rmX3_shutGroup.locals ≤ R.locals) (ht : ∀ w ∈ zTb, w.before args s = true) : CallW R s args RX3 RX3 220 yX3_shutGroup cX3_shutGroup 3 none (zW yX3_shutGroup cX3_shutGroup 3 none) rmX3_shutGroup 0 0 0 := z_cwV zw156 zw157 zw158 zw65 zw159 rfl rfl (by decide +kernel) hR ht
theorem zkX3_95 {R : Room} {s : State} {args : Array Value} (hR : rmX3_isStrip.frames + 1 ≤ R.frames ∧ 8 + (1 + 11) + rmX3_isStrip.locals ≤ R.locals) (ht : ∀ w ∈ zTb, w.before args s = true) : CallB R s args RX3 95 yX3_isStrip cX3_isStrip 1 (some .boolean) (zW yX3_isStrip cX3_isStrip 1 (some .boolean)) rmX3_isStrip 0 0 1 ∧ (Cond.static yX3_isStrip).before args s = true := z_cwS zw160 zw161 zw65 zw162 rfl rfl (by decide +kernel) hR ht
theorem zkX3_113 {R : Room} {s : State} {args : Array Value} (hR : rmX3_follow.frames + 1 ≤ R.frames ∧ 8 + (3 + 11) + rmX3_follow.locals ≤ R.locals) (ht : ∀ w ∈ zTb, w.before args s = true) : CallW R s args RX3 RX3 113 yX3_follow cX3_follow 3 none (zW yX3_follow cX3_follow 3 none) rmX3_follow 0 0 0 := z_cwV zw163 zw164 zw165 zw65 zw166 rfl rfl (by decide +kernel) hR ht
theorem zgX3_106 (C0 : zC p s m args c D cI cZ A cc nL RX3) (hP : va_P D vwCl ws H) (q0 : Nat) {fs : List Value} (he : ws[q0]? = some (a, .inr (3, fs))) (v : Value) (hv : fs[12]? = some v) (hdg : decode cc pc = .ok (.getfield 106, 3)) (kk : W p l e R s m args below meth c H locs cells slots Q (F0 m (pc + 3) ls (v :: rest))) : W p l e R s m args below meth c H locs cells slots Q (F0 m pc ls (.ref a :: rest)) := va_get (C := RX3) (T := TX3) (N := 14) C0.1 C0.2.1 C0.2.2.2.2.1 zinX3 C0.2.2.2.1 C0.2.2.2.2.2.1 hP q0 he rfl 12 (by decide) (C0.2.2.2.2.1 _ zw167) (fun _ h => h) hv hdg kk
theorem zpX3_106 (C0 : zC p s m args c D cI cZ A cc nL RX3) (hP : va_P D vwCl ws H) (hD : va_D A ws) (hS : va_S A s.heap H locs) (q0 : Nat) {fs : List Value} (he : ws[q0]? = some (a, .inr (3, fs))) (hl : 12 < fs.length) (hdg : decode cc pc = .ok (.putfield 106, 3)) (kk : ∀ (H1 : Heap) (locs1 : List Loc), va_P D vwCl (ws.set q0 (a, .inr (3, fs.set 12 (.int (zI x))))) H1 → va_S A s.heap H1 locs1 → W p l e R s m args below meth c H1 locs1 cells slots Q (F0 m (pc + 3) ls rest)) : W p l e R s m args below meth c H locs cells slots Q (F0 m pc ls (.int (zI x) :: .ref a :: rest)) := va_put (C := RX3) (T := TX3) (N := 14) (ty := .int) C0.1 C0.2.1 C0.2.2.2.2.1 zinX3 tyX3 tyX3_ok nmX3 C0.2.2.2.1 C0.2.2.2.2.2.1 hP hD hS q0 he rfl 12 (by decide) (C0.2.2.2.2.1 _ zw167) (fun _ h => h) rfl (by decide +kernel) rfl rfl hl hdg (fun H1 l1 h1 _ h3 => kk H1 l1 h1 h3)
theorem zpX3_98 (C0 : zC p s m args c D cI cZ A cc nL RX3) (hP : va_P D vwCl ws H) (hD : va_D A ws) (hS : va_S A s.heap H locs) (q0 : Nat) {fs : List Value} (he : ws[q0]? = some (a, .inr (3, fs))) (hz : x = 0 ∨ x = 1) (hl : 13 < fs.length) (hdg : decode cc pc = .ok (.putfield 98, 3)) (kk : ∀ (H1 : Heap) (locs1 : List Loc), va_P D vwCl (ws.set q0 (a, .inr (3, fs.set 13 (.int (zI x))))) H1 → va_S A s.heap H1 locs1 → W p l e R s m args below meth c H1 locs1 cells slots Q (F0 m (pc + 3) ls rest)) : W p l e R s m args below meth c H locs cells slots Q (F0 m pc ls (.int (zI x) :: .ref a :: rest)) := va_put (C := RX3) (T := TX3) (N := 14) (ty := .boolean) C0.1 C0.2.1 C0.2.2.2.2.1 zinX3 tyX3 tyX3_ok nmX3 C0.2.2.2.1 C0.2.2.2.2.2.1 hP hD hS q0 he rfl 13 (by decide) (C0.2.2.2.2.1 _ zw69) (fun _ h => h) rfl (by decide +kernel) (znar hz) (zfit hz) hl hdg (fun H1 l1 h1 _ h3 => kk H1 l1 h1 h3)
theorem zpX3_74 (C0 : zC p s m args c D cI cZ A cc nL RX3) (hP : va_P D vwCl ws H) (hD : va_D A ws) (hS : va_S A s.heap H locs) (q0 : Nat) {fs : List Value} (he : ws[q0]? = some (a, .inr (2, fs))) (hl : 3 < fs.length) (hdg : decode cc pc = .ok (.putfield 74, 3)) (kk : ∀ (H1 : Heap) (locs1 : List Loc), va_P D vwCl (ws.set q0 (a, .inr (2, fs.set 3 (.int (zI x))))) H1 → va_S A s.heap H1 locs1 → W p l e R s m args below meth c H1 locs1 cells slots Q (F0 m (pc + 3) ls rest)) : W p l e R s m args below meth c H locs cells slots Q (F0 m pc ls (.int (zI x) :: .ref a :: rest)) := va_put (C := RX2) (T := TX2) (N := 4) (ty := .int) C0.1 C0.2.1 C0.2.2.2.2.1 zinX2 tyX2 tyX2_ok nmX2 C0.2.2.2.1 C0.2.2.2.2.2.1 hP hD hS q0 he rfl 3 (by decide) (C0.2.2.2.2.1 _ zw68) (fun _ h => h) rfl (by decide +kernel) rfl rfl hl hdg (fun H1 l1 h1 _ h3 => kk H1 l1 h1 h3)
theorem zpX3_116 (C0 : zC p s m args c D cI cZ A cc nL RX3) (hP : va_P D vwCl ws H) (hD : va_D A ws) (hS : va_S A s.heap H locs) (q0 : Nat) {fs : List Value} (he : ws[q0]? = some (a, .inr (0, fs))) (hl : 6 < fs.length) (hdg : decode cc pc = .ok (.putfield 116, 3)) (kk : ∀ (H1 : Heap) (locs1 : List Loc), va_P D vwCl (ws.set q0 (a, .inr (0, fs.set 6 (.int (zI x))))) H1 → va_S A s.heap H1 locs1 → W p l e R s m args below meth c H1 locs1 cells slots Q (F0 m (pc + 3) ls rest)) : W p l e R s m args below meth c H locs cells slots Q (F0 m pc ls (.int (zI x) :: .ref a :: rest)) := va_put (C := RX0) (T := TX0) (N := 7) (ty := .int) C0.1 C0.2.1 C0.2.2.2.2.1 zinX0 tyX0 tyX0_ok nmX0 C0.2.2.2.1 C0.2.2.2.2.2.1 hP hD hS q0 he rfl 6 (by decide) (C0.2.2.2.2.1 _ zw168) (fun _ h => h) rfl (by decide +kernel) rfl rfl hl hdg (fun H1 l1 h1 _ h3 => kk H1 l1 h1 h3)
theorem zkX3_117 {R : Room} {s : State} {args : Array Value} (hR : rmJ7_fill_53178.frames + 1 ≤ R.frames ∧ 8 + (4 + 11) + rmJ7_fill_53178.locals ≤ R.locals) (ht : ∀ w ∈ zTb, w.before args s = true) : CallB R s args RX3 117 yJ7_fill_53178 cJ7_fill_53178 4 none (zW yJ7_fill_53178 cJ7_fill_53178 4 none) rmJ7_fill_53178 0 0 2 ∧ (Cond.static yJ7_fill_53178).before args s = true := z_cwS zw169 zw56 zw57 zw58 rfl rfl (by decide +kernel) hR ht
theorem zgX3_116 (C0 : zC p s m args c D cI cZ A cc nL RX3) (hP : va_P D vwCl ws H) (q0 : Nat) {fs : List Value} (he : ws[q0]? = some (a, .inr (0, fs))) (v : Value) (hv : fs[6]? = some v) (hdg : decode cc pc = .ok (.getfield 116, 3)) (kk : W p l e R s m args below meth c H locs cells slots Q (F0 m (pc + 3) ls (v :: rest))) : W p l e R s m args below meth c H locs cells slots Q (F0 m pc ls (.ref a :: rest)) := va_get (C := RX0) (T := TX0) (N := 7) C0.1 C0.2.1 C0.2.2.2.2.1 zinX0 C0.2.2.2.1 C0.2.2.2.2.2.1 hP q0 he rfl 6 (by decide) (C0.2.2.2.2.1 _ zw168) (fun _ h => h) hv hdg kk
theorem zkX3_126 {R : Room} {s : State} {args : Array Value} (hR : rmX3_isGroup.frames + 1 ≤ R.frames ∧ 8 + (2 + 11) + rmX3_isGroup.locals ≤ R.locals) (ht : ∀ w ∈ zTb, w.before args s = true) : CallW R s args RX3 RX3 126 yX3_isGroup cX3_isGroup 2 (some .boolean) (zW yX3_isGroup cX3_isGroup 2 (some .boolean)) rmX3_isGroup 0 0 1 := z_cwV zw170 zw171 zw172 zw65 zw173 rfl rfl (by decide +kernel) hR ht
theorem zgX3_129 (C0 : zC p s m args c D cI cZ A cc nL RX3) (hP : va_P D vwCl ws H) (q0 : Nat) {fs : List Value} (he : ws[q0]? = some (a, .inr (0, fs))) (v : Value) (hv : fs[0]? = some v) (hdg : decode cc pc = .ok (.getfield 129, 3)) (kk : W p l e R s m args below meth c H locs cells slots Q (F0 m (pc + 3) ls (v :: rest))) : W p l e R s m args below meth c H locs cells slots Q (F0 m pc ls (.ref a :: rest)) := va_get (C := RX0) (T := TX0) (N := 7) C0.1 C0.2.1 C0.2.2.2.2.1 zinX0 C0.2.2.2.1 C0.2.2.2.2.2.1 hP q0 he rfl 0 (by decide) (C0.2.2.2.2.1 _ zw174) (fun _ h => h) hv hdg kk
theorem zgX3_135 (C0 : zC p s m args c D cI cZ A cc nL RX3) (hP : va_P D vwCl ws H) (q0 : Nat) {fs : List Value} (he : ws[q0]? = some (a, .inr (0, fs))) (v : Value) (hv : fs[1]? = some v) (hdg : decode cc pc = .ok (.getfield 135, 3)) (kk : W p l e R s m args below meth c H locs cells slots Q (F0 m (pc + 3) ls (v :: rest))) : W p l e R s m args below meth c H locs cells slots Q (F0 m pc ls (.ref a :: rest)) := va_get (C := RX0) (T := TX0) (N := 7) C0.1 C0.2.1 C0.2.2.2.2.1 zinX0 C0.2.2.2.1 C0.2.2.2.2.2.1 hP q0 he rfl 1 (by decide) (C0.2.2.2.2.1 _ zw175) (fun _ h => h) hv hdg kk
theorem zkX3_138 {R : Room} {s : State} {args : Array Value} (hR : rmJ6_bitCount_0f7a4.frames + 1 ≤ R.frames ∧ 8 + (1 + 11) + rmJ6_bitCount_0f7a4.locals ≤ R.locals) (ht : ∀ w ∈ zTb, w.before args s = true) : CallB R s args RX3 138 yJ6_bitCount_0f7a4 cJ6_bitCount_0f7a4 1 (some .int) (zW yJ6_bitCount_0f7a4 cJ6_bitCount_0f7a4 1 (some .int)) rmJ6_bitCount_0f7a4 0 0 1 ∧ (Cond.static yJ6_bitCount_0f7a4).before args s = true := z_cwS zw176 zw29 zw30 zw31 rfl rfl (by decide +kernel) hR ht
theorem zkX3_143 {R : Room} {s : State} {args : Array Value} (hR : rmX2_indexOf.frames + 1 ≤ R.frames ∧ 8 + (5 + 11) + rmX2_indexOf.locals ≤ R.locals) (ht : ∀ w ∈ zTb, w.before args s = true) : CallW R s args RX3 RX2 143 yX2_indexOf cX2_indexOf 5 (some .int) (zW yX2_indexOf cX2_indexOf 5 (some .int)) rmX2_indexOf 0 0 3 := z_cwV zw177 zw178 zw179 zw49 zw180 rfl rfl (by decide +kernel) hR ht
theorem zgX3_42 (C0 : zC p s m args c D cI cZ A cc nL RX3) (hP : va_P D vwCl ws H) (q0 : Nat) {fs : List Value} (he : ws[q0]? = some (a, .inr (3, fs))) (v : Value) (hv : fs[6]? = some v) (hdg : decode cc pc = .ok (.getfield 42, 3)) (kk : W p l e R s m args below meth c H locs cells slots Q (F0 m (pc + 3) ls (v :: rest))) : W p l e R s m args below meth c H locs cells slots Q (F0 m pc ls (.ref a :: rest)) := va_get (C := RX3) (T := TX3) (N := 14) C0.1 C0.2.1 C0.2.2.2.2.1 zinX3 C0.2.2.2.1 C0.2.2.2.2.2.1 hP q0 he rfl 6 (by decide) (C0.2.2.2.2.1 _ zw181) (fun _ h => h) hv hdg kk
theorem zkX3_150 {R : Room} {s : State} {args : Array Value} (hR : rmX2_fillShifted.frames + 1 ≤ R.frames ∧ 8 + (8 + 11) + rmX2_fillShifted.locals ≤ R.locals) (ht : ∀ w ∈ zTb, w.before args s = true) : CallW R s args RX3 RX2 150 yX2_fillShifted cX2_fillShifted 8 none (zW yX2_fillShifted cX2_fillShifted 8 none) rmX2_fillShifted 0 0 4 := z_cwV zw182 zw183 zw184 zw49 zw185 rfl rfl (by decide +kernel) hR ht
theorem zkX3_160 {R : Room} {s : State} {args : Array Value} (hR : rmX3_isCoincidence.frames + 1 ≤ R.frames ∧ 8 + (2 + 11) + rmX3_isCoincidence.locals ≤ R.locals) (ht : ∀ w ∈ zTb, w.before args s = true) : CallW R s args RX3 RX3 160 yX3_isCoincidence cX3_isCoincidence 2 (some .boolean) (zW yX3_isCoincidence cX3_isCoincidence 2 (some .boolean)) rmX3_isCoincidence 0 0 1 := z_cwV zw186 zw187 zw188 zw65 zw189 rfl rfl (by decide +kernel) hR ht
theorem zkX3_175 {R : Room} {s : State} {args : Array Value} (hR : rmX3_span.frames + 1 ≤ R.frames ∧ 8 + (1 + 11) + rmX3_span.locals ≤ R.locals) (ht : ∀ w ∈ zTb, w.before args s = true) : CallW R s args RX3 RX3 175 yX3_span cX3_span 1 (some .int) (zW yX3_span cX3_span 1 (some .int)) rmX3_span 0 0 0 := z_cwV zw190 zw191 zw192 zw65 zw193 rfl rfl (by decide +kernel) hR ht
theorem zkX3_166 {R : Room} {s : State} {args : Array Value} (hR : rmX3_liveTime.frames + 1 ≤ R.frames ∧ 8 + (9 + 11) + rmX3_liveTime.locals ≤ R.locals) (ht : ∀ w ∈ zTb, w.before args s = true) : CallW R s args RX3 RX3 166 yX3_liveTime cX3_liveTime 9 (some .int) (zW yX3_liveTime cX3_liveTime 9 (some .int)) rmX3_liveTime 0 0 1 := z_cwV zw194 zw195 zw196 zw65 zw197 rfl rfl (by decide +kernel) hR ht
theorem zkX3_241 {R : Room} {s : State} {args : Array Value} (hR : rmX3_greatestDivisor.frames + 1 ≤ R.frames ∧ 8 + (7 + 11) + rmX3_greatestDivisor.locals ≤ R.locals) (ht : ∀ w ∈ zTb, w.before args s = true) : CallB R s args RX3 241 yX3_greatestDivisor cX3_greatestDivisor 7 (some .long) (zW yX3_greatestDivisor cX3_greatestDivisor 7 (some .long)) rmX3_greatestDivisor 0 0 2 ∧ (Cond.static yX3_greatestDivisor).before args s = true := z_cwS zw198 zw199 zw65 zw200 rfl rfl (by decide +kernel) hR ht
theorem zkX3_171 {R : Room} {s : State} {args : Array Value} (hR : rmX3_inLeastTerms.frames + 1 ≤ R.frames ∧ 8 + (7 + 11) + rmX3_inLeastTerms.locals ≤ R.locals) (ht : ∀ w ∈ zTb, w.before args s = true) : CallB R s args RX3 171 yX3_inLeastTerms cX3_inLeastTerms 7 (some .long) (zW yX3_inLeastTerms cX3_inLeastTerms 7 (some .long)) rmX3_inLeastTerms 0 0 3 ∧ (Cond.static yX3_inLeastTerms).before args s = true := z_cwS zw202 zw203 zw65 zw204 rfl rfl (by decide +kernel) hR ht
theorem zkX3_178 {R : Room} {s : State} {args : Array Value} (hR : rmX0_hasTrack.frames + 1 ≤ R.frames ∧ 8 + (2 + 11) + rmX0_hasTrack.locals ≤ R.locals) (ht : ∀ w ∈ zTb, w.before args s = true) : CallW R s args RX3 RX0 178 yX0_hasTrack cX0_hasTrack 2 (some .boolean) (zW yX0_hasTrack cX0_hasTrack 2 (some .boolean)) rmX0_hasTrack 0 0 1 := z_cwV zw205 zw12 zw13 zw14 zw15 rfl rfl (by decide +kernel) hR ht
theorem zgX3_181 (C0 : zC p s m args c D cI cZ A cc nL RX3) (hP : va_P D vwCl ws H) (q0 : Nat) {fs : List Value} (he : ws[q0]? = some (a, .inr (0, fs))) (v : Value) (hv : fs[2]? = some v) (hdg : decode cc pc = .ok (.getfield 181, 3)) (kk : W p l e R s m args below meth c H locs cells slots Q (F0 m (pc + 3) ls (v :: rest))) : W p l e R s m args below meth c H locs cells slots Q (F0 m pc ls (.ref a :: rest)) := va_get (C := RX0) (T := TX0) (N := 7) C0.1 C0.2.1 C0.2.2.2.2.1 zinX0 C0.2.2.2.1 C0.2.2.2.2.2.1 hP q0 he rfl 2 (by decide) (C0.2.2.2.2.1 _ zw206) (fun _ h => h) hv hdg kk
theorem zgX3_184 (C0 : zC p s m args c D cI cZ A cc nL RX3) (hP : va_P D vwCl ws H) (q0 : Nat) {fs : List Value} (he : ws[q0]? = some (a, .inr (0, fs))) (v : Value) (hv : fs[3]? = some v) (hdg : decode cc pc = .ok (.getfield 184, 3)) (kk : W p l e R s m args below meth c H locs cells slots Q (F0 m (pc + 3) ls (v :: rest))) : W p l e R s m args below meth c H locs cells slots Q (F0 m pc ls (.ref a :: rest)) := va_get (C := RX0) (T := TX0) (N := 7) C0.1 C0.2.1 C0.2.2.2.2.1 zinX0 C0.2.2.2.1 C0.2.2.2.2.2.1 hP q0 he rfl 3 (by decide) (C0.2.2.2.2.1 _ zw207) (fun _ h => h) hv hdg kk
theorem zgX3_187 (C0 : zC p s m args c D cI cZ A cc nL RX3) (hP : va_P D vwCl ws H) (q0 : Nat) {fs : List Value} (he : ws[q0]? = some (a, .inr (0, fs))) (v : Value) (hv : fs[4]? = some v) (hdg : decode cc pc = .ok (.getfield 187, 3)) (kk : W p l e R s m args below meth c H locs cells slots Q (F0 m (pc + 3) ls (v :: rest))) : W p l e R s m args below meth c H locs cells slots Q (F0 m pc ls (.ref a :: rest)) := va_get (C := RX0) (T := TX0) (N := 7) C0.1 C0.2.1 C0.2.2.2.2.1 zinX0 C0.2.2.2.1 C0.2.2.2.2.2.1 hP q0 he rfl 4 (by decide) (C0.2.2.2.2.1 _ zw208) (fun _ h => h) hv hdg kk
theorem zgX3_190 (C0 : zC p s m args c D cI cZ A cc nL RX3) (hP : va_P D vwCl ws H) (q0 : Nat) {fs : List Value} (he : ws[q0]? = some (a, .inr (0, fs))) (v : Value) (hv : fs[5]? = some v) (hdg : decode cc pc = .ok (.getfield 190, 3)) (kk : W p l e R s m args below meth c H locs cells slots Q (F0 m (pc + 3) ls (v :: rest))) : W p l e R s m args below meth c H locs cells slots Q (F0 m pc ls (.ref a :: rest)) := va_get (C := RX0) (T := TX0) (N := 7) C0.1 C0.2.1 C0.2.2.2.2.1 zinX0 C0.2.2.2.1 C0.2.2.2.2.2.1 hP q0 he rfl 5 (by decide) (C0.2.2.2.2.1 _ zw209) (fun _ h => h) hv hdg kk
theorem zkX3_193 {R : Room} {s : State} {args : Array Value} (hR : rmX3_coincidences.frames + 1 ≤ R.frames ∧ 8 + (3 + 11) + rmX3_coincidences.locals ≤ R.locals) (ht : ∀ w ∈ zTb, w.before args s = true) : CallW R s args RX3 RX3 193 yX3_coincidences cX3_coincidences 3 (some .int) (zW yX3_coincidences cX3_coincidences 3 (some .int)) rmX3_coincidences 0 0 0 := z_cwV zw210 zw211 zw212 zw65 zw213 rfl rfl (by decide +kernel) hR ht
theorem zkX3_199 {R : Room} {s : State} {args : Array Value} (hR : rmX0_tracks.frames + 1 ≤ R.frames ∧ 8 + (3 + 11) + rmX0_tracks.locals ≤ R.locals) (ht : ∀ w ∈ zTb, w.before args s = true) : CallW R s args RX3 RX0 199 yX0_tracks cX0_tracks 3 (some .int) (zW yX0_tracks cX0_tracks 3 (some .int)) rmX0_tracks 0 0 0 := z_cwV zw214 zw215 zw216 zw14 zw217 rfl rfl (by decide +kernel) hR ht
theorem zkX4_56 {R : Room} {s : State} {args : Array Value} (hR : rmX4_within.frames + 1 ≤ R.frames ∧ 8 + (3 + 11) + rmX4_within.locals ≤ R.locals) (ht : ∀ w ∈ zTb, w.before args s = true) : CallB R s args RX4 56 yX4_within cX4_within 3 (some .boolean) (zW yX4_within cX4_within 3 (some .boolean)) rmX4_within 0 0 3 ∧ (Cond.static yX4_within).before args s = true := z_cwS zw218 zw219 zw220 zw221 rfl rfl (by decide +kernel) hR ht
theorem zgX4_60 (C0 : zC p s m args c D cI cZ A cc nL RX4) (hP : va_P D vwCl ws H) (q0 : Nat) {fs : List Value} (he : ws[q0]? = some (a, .inr (4, fs))) (v : Value) (hv : fs[6]? = some v) (hdg : decode cc pc = .ok (.getfield 60, 3)) (kk : W p l e R s m args below meth c H locs cells slots Q (F0 m (pc + 3) ls (v :: rest))) : W p l e R s m args below meth c H locs cells slots Q (F0 m pc ls (.ref a :: rest)) := va_get (C := RX4) (T := TX4) (N := 28) C0.1 C0.2.1 C0.2.2.2.2.1 zinX4 C0.2.2.2.1 C0.2.2.2.2.2.1 hP q0 he rfl 6 (by decide) (C0.2.2.2.2.1 _ zw222) (fun _ h => h) hv hdg kk
theorem zgX4_64 (C0 : zC p s m args c D cI cZ A cc nL RX4) (hP : va_P D vwCl ws H) (q0 : Nat) {fs : List Value} (he : ws[q0]? = some (a, .inr (4, fs))) (v : Value) (hv : fs[11]? = some v) (hdg : decode cc pc = .ok (.getfield 64, 3)) (kk : W p l e R s m args below meth c H locs cells slots Q (F0 m (pc + 3) ls (v :: rest))) : W p l e R s m args below meth c H locs cells slots Q (F0 m pc ls (.ref a :: rest)) := va_get (C := RX4) (T := TX4) (N := 28) C0.1 C0.2.1 C0.2.2.2.2.1 zinX4 C0.2.2.2.1 C0.2.2.2.2.2.1 hP q0 he rfl 11 (by decide) (C0.2.2.2.2.1 _ zw223) (fun _ h => h) hv hdg kk
theorem zkX4_68 {R : Room} {s : State} {args : Array Value} (hR : rmX4_isPlane.frames + 1 ≤ R.frames ∧ 8 + (1 + 11) + rmX4_isPlane.locals ≤ R.locals) (ht : ∀ w ∈ zTb, w.before args s = true) : CallB R s args RX4 68 yX4_isPlane cX4_isPlane 1 (some .boolean) (zW yX4_isPlane cX4_isPlane 1 (some .boolean)) rmX4_isPlane 0 0 1 ∧ (Cond.static yX4_isPlane).before args s = true := z_cwS zw224 zw225 zw220 zw226 rfl rfl (by decide +kernel) hR ht
theorem zkX4_72 {R : Room} {s : State} {args : Array Value} (hR : rmX4_isBegun.frames + 1 ≤ R.frames ∧ 8 + (1 + 11) + rmX4_isBegun.locals ≤ R.locals) (ht : ∀ w ∈ zTb, w.before args s = true) : CallW R s args RX4 RX4 72 yX4_isBegun cX4_isBegun 1 (some .boolean) (zW yX4_isBegun cX4_isBegun 1 (some .boolean)) rmX4_isBegun 0 0 0 := z_cwV zw227 zw228 zw229 zw220 zw230 rfl rfl (by decide +kernel) hR ht
theorem zgX4_7 (C0 : zC p s m args c D cI cZ A cc nL RX4) (hP : va_P D vwCl ws H) (q0 : Nat) {fs : List Value} (he : ws[q0]? = some (a, .inr (4, fs))) (v : Value) (hv : fs[0]? = some v) (hdg : decode cc pc = .ok (.getfield 7, 3)) (kk : W p l e R s m args below meth c H locs cells slots Q (F0 m (pc + 3) ls (v :: rest))) : W p l e R s m args below meth c H locs cells slots Q (F0 m pc ls (.ref a :: rest)) := va_get (C := RX4) (T := TX4) (N := 28) C0.1 C0.2.1 C0.2.2.2.2.1 zinX4 C0.2.2.2.1 C0.2.2.2.2.2.1 hP q0 he rfl 0 (by decide) (C0.2.2.2.2.1 _ zw231) (fun _ h => h) hv hdg kk
theorem zgX4_13 (C0 : zC p s m args c D cI cZ A cc nL RX4) (hP : va_P D vwCl ws H) (q0 : Nat) {fs : List Value} (he : ws[q0]? = some (a, .inr (4, fs))) (v : Value) (hv : fs[1]? = some v) (hdg : decode cc pc = .ok (.getfield 13, 3)) (kk : W p l e R s m args below meth c H locs cells slots Q (F0 m (pc + 3) ls (v :: rest))) : W p l e R s m args below meth c H locs cells slots Q (F0 m pc ls (.ref a :: rest)) := va_get (C := RX4) (T := TX4) (N := 28) C0.1 C0.2.1 C0.2.2.2.2.1 zinX4 C0.2.2.2.1 C0.2.2.2.2.2.1 hP q0 he rfl 1 (by decide) (C0.2.2.2.2.1 _ zw232) (fun _ h => h) hv hdg kk
theorem zgX4_16 (C0 : zC p s m args c D cI cZ A cc nL RX4) (hP : va_P D vwCl ws H) (q0 : Nat) {fs : List Value} (he : ws[q0]? = some (a, .inr (4, fs))) (v : Value) (hv : fs[2]? = some v) (hdg : decode cc pc = .ok (.getfield 16, 3)) (kk : W p l e R s m args below meth c H locs cells slots Q (F0 m (pc + 3) ls (v :: rest))) : W p l e R s m args below meth c H locs cells slots Q (F0 m pc ls (.ref a :: rest)) := va_get (C := RX4) (T := TX4) (N := 28) C0.1 C0.2.1 C0.2.2.2.2.1 zinX4 C0.2.2.2.1 C0.2.2.2.2.2.1 hP q0 he rfl 2 (by decide) (C0.2.2.2.2.1 _ zw233) (fun _ h => h) hv hdg kk
theorem zgX4_22 (C0 : zC p s m args c D cI cZ A cc nL RX4) (hP : va_P D vwCl ws H) (q0 : Nat) {fs : List Value} (he : ws[q0]? = some (a, .inr (4, fs))) (v : Value) (hv : fs[4]? = some v) (hdg : decode cc pc = .ok (.getfield 22, 3)) (kk : W p l e R s m args below meth c H locs cells slots Q (F0 m (pc + 3) ls (v :: rest))) : W p l e R s m args below meth c H locs cells slots Q (F0 m pc ls (.ref a :: rest)) := va_get (C := RX4) (T := TX4) (N := 28) C0.1 C0.2.1 C0.2.2.2.2.1 zinX4 C0.2.2.2.1 C0.2.2.2.2.2.1 hP q0 he rfl 4 (by decide) (C0.2.2.2.2.1 _ zw234) (fun _ h => h) hv hdg kk
theorem zgX4_25 (C0 : zC p s m args c D cI cZ A cc nL RX4) (hP : va_P D vwCl ws H) (q0 : Nat) {fs : List Value} (he : ws[q0]? = some (a, .inr (4, fs))) (v : Value) (hv : fs[5]? = some v) (hdg : decode cc pc = .ok (.getfield 25, 3)) (kk : W p l e R s m args below meth c H locs cells slots Q (F0 m (pc + 3) ls (v :: rest))) : W p l e R s m args below meth c H locs cells slots Q (F0 m pc ls (.ref a :: rest)) := va_get (C := RX4) (T := TX4) (N := 28) C0.1 C0.2.1 C0.2.2.2.2.1 zinX4 C0.2.2.2.1 C0.2.2.2.2.2.1 hP q0 he rfl 5 (by decide) (C0.2.2.2.2.1 _ zw235) (fun _ h => h) hv hdg kk
theorem zgX4_19 (C0 : zC p s m args c D cI cZ A cc nL RX4) (hP : va_P D vwCl ws H) (q0 : Nat) {fs : List Value} (he : ws[q0]? = some (a, .inr (4, fs))) (v : Value) (hv : fs[3]? = some v) (hdg : decode cc pc = .ok (.getfield 19, 3)) (kk : W p l e R s m args below meth c H locs cells slots Q (F0 m (pc + 3) ls (v :: rest))) : W p l e R s m args below meth c H locs cells slots Q (F0 m pc ls (.ref a :: rest)) := va_get (C := RX4) (T := TX4) (N := 28) C0.1 C0.2.1 C0.2.2.2.2.1 zinX4 C0.2.2.2.1 C0.2.2.2.2.2.1 hP q0 he rfl 3 (by decide) (C0.2.2.2.2.1 _ zw236) (fun _ h => h) hv hdg kk
theorem zgX4_31 (C0 : zC p s m args c D cI cZ A cc nL RX4) (hP : va_P D vwCl ws H) (q0 : Nat) {fs : List Value} (he : ws[q0]? = some (a, .inr (4, fs))) (v : Value) (hv : fs[8]? = some v) (hdg : decode cc pc = .ok (.getfield 31, 3)) (kk : W p l e R s m args below meth c H locs cells slots Q (F0 m (pc + 3) ls (v :: rest))) : W p l e R s m args below meth c H locs cells slots Q (F0 m pc ls (.ref a :: rest)) := va_get (C := RX4) (T := TX4) (N := 28) C0.1 C0.2.1 C0.2.2.2.2.1 zinX4 C0.2.2.2.1 C0.2.2.2.2.2.1 hP q0 he rfl 8 (by decide) (C0.2.2.2.2.1 _ zw237) (fun _ h => h) hv hdg kk
theorem zkX4_76 {R : Room} {s : State} {args : Array Value} (hR : rmX4_horizon.frames + 1 ≤ R.frames ∧ 8 + (1 + 11) + rmX4_horizon.locals ≤ R.locals) (ht : ∀ w ∈ zTb, w.before args s = true) : CallW R s args RX4 RX4 76 yX4_horizon cX4_horizon 1 (some .int) (zW yX4_horizon cX4_horizon 1 (some .int)) rmX4_horizon 0 0 0 := z_cwV zw238 zw239 zw240 zw220 zw241 rfl rfl (by decide +kernel) hR ht
theorem zgX4_28 (C0 : zC p s m args c D cI cZ A cc nL RX4) (hP : va_P D vwCl ws H) (q0 : Nat) {fs : List Value} (he : ws[q0]? = some (a, .inr (4, fs))) (v : Value) (hv : fs[7]? = some v) (hdg : decode cc pc = .ok (.getfield 28, 3)) (kk : W p l e R s m args below meth c H locs cells slots Q (F0 m (pc + 3) ls (v :: rest))) : W p l e R s m args below meth c H locs cells slots Q (F0 m pc ls (.ref a :: rest)) := va_get (C := RX4) (T := TX4) (N := 28) C0.1 C0.2.1 C0.2.2.2.2.1 zinX4 C0.2.2.2.1 C0.2.2.2.2.2.1 hP q0 he rfl 7 (by decide) (C0.2.2.2.2.1 _ zw242) (fun _ h => h) hv hdg kk
theorem zgX4_34 (C0 : zC p s m args c D cI cZ A cc nL RX4) (hP : va_P D vwCl ws H) (q0 : Nat) {fs : List Value} (he : ws[q0]? = some (a, .inr (4, fs))) (v : Value) (hv : fs[9]? = some v) (hdg : decode cc pc = .ok (.getfield 34, 3)) (kk : W p l e R s m args below meth c H locs cells slots Q (F0 m (pc + 3) ls (v :: rest))) : W p l e R s m args below meth c H locs cells slots Q (F0 m pc ls (.ref a :: rest)) := va_get (C := RX4) (T := TX4) (N := 28) C0.1 C0.2.1 C0.2.2.2.2.1 zinX4 C0.2.2.2.1 C0.2.2.2.2.2.1 hP q0 he rfl 9 (by decide) (C0.2.2.2.2.1 _ zw243) (fun _ h => h) hv hdg kk
theorem zkX4_83 {R : Room} {s : State} {args : Array Value} (hR : rmX4_isBehind.frames + 1 ≤ R.frames ∧ 8 + (5 + 11) + rmX4_isBehind.locals ≤ R.locals) (ht : ∀ w ∈ zTb, w.before args s = true) : CallW R s args RX4 RX4 83 yX4_isBehind cX4_isBehind 5 (some .boolean) (zW yX4_isBehind cX4_isBehind 5 (some .boolean)) rmX4_isBehind 0 0 4 := z_cwV zw244 zw245 zw246 zw220 zw247 rfl rfl (by decide +kernel) hR ht
theorem zpX4_60 (C0 : zC p s m args c D cI cZ A cc nL RX4) (hP : va_P D vwCl ws H) (hD : va_D A ws) (hS : va_S A s.heap H locs) (q0 : Nat) {fs : List Value} (he : ws[q0]? = some (a, .inr (4, fs))) (hl : 6 < fs.length) (hdg : decode cc pc = .ok (.putfield 60, 3)) (kk : ∀ (H1 : Heap) (locs1 : List Loc), va_P D vwCl (ws.set q0 (a, .inr (4, fs.set 6 (.int (zI x))))) H1 → va_S A s.heap H1 locs1 → W p l e R s m args below meth c H1 locs1 cells slots Q (F0 m (pc + 3) ls rest)) : W p l e R s m args below meth c H locs cells slots Q (F0 m pc ls (.int (zI x) :: .ref a :: rest)) := va_put (C := RX4) (T := TX4) (N := 28) (ty := .int) C0.1 C0.2.1 C0.2.2.2.2.1 zinX4 tyX4 tyX4_ok nmX4 C0.2.2.2.1 C0.2.2.2.2.2.1 hP hD hS q0 he rfl 6 (by decide) (C0.2.2.2.2.1 _ zw222) (fun _ h => h) rfl (by decide +kernel) rfl rfl hl hdg (fun H1 l1 h1 _ h3 => kk H1 l1 h1 h3)
theorem zgX4_80 (C0 : zC p s m args c D cI cZ A cc nL RX4) (hP : va_P D vwCl ws H) (q0 : Nat) {fs : List Value} (he : ws[q0]? = some (a, .inr (4, fs))) (v : Value) (hv : fs[10]? = some v) (hdg : decode cc pc = .ok (.getfield 80, 3)) (kk : W p l e R s m args below meth c H locs cells slots Q (F0 m (pc + 3) ls (v :: rest))) : W p l e R s m args below meth c H locs cells slots Q (F0 m pc ls (.ref a :: rest)) := va_get (C := RX4) (T := TX4) (N := 28) C0.1 C0.2.1 C0.2.2.2.2.1 zinX4 C0.2.2.2.1 C0.2.2.2.2.2.1 hP q0 he rfl 10 (by decide) (C0.2.2.2.2.1 _ zw248) (fun _ h => h) hv hdg kk
theorem zpX4_80 (C0 : zC p s m args c D cI cZ A cc nL RX4) (hP : va_P D vwCl ws H) (hD : va_D A ws) (hS : va_S A s.heap H locs) (q0 : Nat) {fs : List Value} (he : ws[q0]? = some (a, .inr (4, fs))) (hl : 10 < fs.length) (hdg : decode cc pc = .ok (.putfield 80, 3)) (kk : ∀ (H1 : Heap) (locs1 : List Loc), va_P D vwCl (ws.set q0 (a, .inr (4, fs.set 10 (.int (zI x))))) H1 → va_S A s.heap H1 locs1 → W p l e R s m args below meth c H1 locs1 cells slots Q (F0 m (pc + 3) ls rest)) : W p l e R s m args below meth c H locs cells slots Q (F0 m pc ls (.int (zI x) :: .ref a :: rest)) := va_put (C := RX4) (T := TX4) (N := 28) (ty := .int) C0.1 C0.2.1 C0.2.2.2.2.1 zinX4 tyX4 tyX4_ok nmX4 C0.2.2.2.1 C0.2.2.2.2.2.1 hP hD hS q0 he rfl 10 (by decide) (C0.2.2.2.2.1 _ zw248) (fun _ h => h) rfl (by decide +kernel) rfl rfl hl hdg (fun H1 l1 h1 _ h3 => kk H1 l1 h1 h3)
theorem zkX4_87 {R : Room} {s : State} {args : Array Value} (hR : rmX4_settled.frames + 1 ≤ R.frames ∧ 8 + (3 + 11) + rmX4_settled.locals ≤ R.locals) (ht : ∀ w ∈ zTb, w.before args s = true) : CallW R s args RX4 RX4 87 yX4_settled cX4_settled 3 (some .int) (zW yX4_settled cX4_settled 3 (some .int)) rmX4_settled 0 0 0 := z_cwV zw249 zw250 zw251 zw220 zw252 rfl rfl (by decide +kernel) hR ht
theorem zpX4_64 (C0 : zC p s m args c D cI cZ A cc nL RX4) (hP : va_P D vwCl ws H) (hD : va_D A ws) (hS : va_S A s.heap H locs) (q0 : Nat) {fs : List Value} (he : ws[q0]? = some (a, .inr (4, fs))) (hz : x = 0 ∨ x = 1) (hl : 11 < fs.length) (hdg : decode cc pc = .ok (.putfield 64, 3)) (kk : ∀ (H1 : Heap) (locs1 : List Loc), va_P D vwCl (ws.set q0 (a, .inr (4, fs.set 11 (.int (zI x))))) H1 → va_S A s.heap H1 locs1 → W p l e R s m args below meth c H1 locs1 cells slots Q (F0 m (pc + 3) ls rest)) : W p l e R s m args below meth c H locs cells slots Q (F0 m pc ls (.int (zI x) :: .ref a :: rest)) := va_put (C := RX4) (T := TX4) (N := 28) (ty := .boolean) C0.1 C0.2.1 C0.2.2.2.2.1 zinX4 tyX4 tyX4_ok nmX4 C0.2.2.2.1 C0.2.2.2.2.2.1 hP hD hS q0 he rfl 11 (by decide) (C0.2.2.2.2.1 _ zw223) (fun _ h => h) rfl (by decide +kernel) (znar hz) (zfit hz) hl hdg (fun H1 l1 h1 _ h3 => kk H1 l1 h1 h3)
theorem zgX4_41 (C0 : zC p s m args c D cI cZ A cc nL RX4) (hP : va_P D vwCl ws H) (q0 : Nat) {fs : List Value} (he : ws[q0]? = some (a, .inr (4, fs))) (v : Value) (hv : fs[13]? = some v) (hdg : decode cc pc = .ok (.getfield 41, 3)) (kk : W p l e R s m args below meth c H locs cells slots Q (F0 m (pc + 3) ls (v :: rest))) : W p l e R s m args below meth c H locs cells slots Q (F0 m pc ls (.ref a :: rest)) := va_get (C := RX4) (T := TX4) (N := 28) C0.1 C0.2.1 C0.2.2.2.2.1 zinX4 C0.2.2.2.1 C0.2.2.2.2.2.1 hP q0 he rfl 13 (by decide) (C0.2.2.2.2.1 _ zw253) (fun _ h => h) hv hdg kk
theorem zgX4_37 (C0 : zC p s m args c D cI cZ A cc nL RX4) (hP : va_P D vwCl ws H) (q0 : Nat) {fs : List Value} (he : ws[q0]? = some (a, .inr (4, fs))) (v : Value) (hv : fs[12]? = some v) (hdg : decode cc pc = .ok (.getfield 37, 3)) (kk : W p l e R s m args below meth c H locs cells slots Q (F0 m (pc + 3) ls (v :: rest))) : W p l e R s m args below meth c H locs cells slots Q (F0 m pc ls (.ref a :: rest)) := va_get (C := RX4) (T := TX4) (N := 28) C0.1 C0.2.1 C0.2.2.2.2.1 zinX4 C0.2.2.2.1 C0.2.2.2.2.2.1 hP q0 he rfl 12 (by decide) (C0.2.2.2.2.1 _ zw254) (fun _ h => h) hv hdg kk
theorem zkX4_90 {R : Room} {s : State} {args : Array Value} (hR : rmX4_findLive.frames + 1 ≤ R.frames ∧ 8 + (4 + 11) + rmX4_findLive.locals ≤ R.locals) (ht : ∀ w ∈ zTb, w.before args s = true) : CallW R s args RX4 RX4 90 yX4_findLive cX4_findLive 4 none (zW yX4_findLive cX4_findLive 4 none) rmX4_findLive 0 0 0 := z_cwV zw255 zw256 zw257 zw220 zw258 rfl rfl (by decide +kernel) hR ht
theorem zkX4_93 {R : Room} {s : State} {args : Array Value} (hR : rmX4_keptOf.frames + 1 ≤ R.frames ∧ 8 + (4 + 11) + rmX4_keptOf.locals ≤ R.locals) (ht : ∀ w ∈ zTb, w.before args s = true) : CallW R s args RX4 RX4 93 yX4_keptOf cX4_keptOf 4 (some .int) (zW yX4_keptOf cX4_keptOf 4 (some .int)) rmX4_keptOf 0 0 1 := z_cwV zw259 zw260 zw261 zw220 zw262 rfl rfl (by decide +kernel) hR ht
theorem zkX4_97 {R : Room} {s : State} {args : Array Value} (hR : rmX4_manyLive.frames + 1 ≤ R.frames ∧ 8 + (6 + 11) + rmX4_manyLive.locals ≤ R.locals) (ht : ∀ w ∈ zTb, w.before args s = true) : CallW R s args RX4 RX4 97 yX4_manyLive cX4_manyLive 6 (some .int) (zW yX4_manyLive cX4_manyLive 6 (some .int)) rmX4_manyLive 0 0 2 := z_cwV zw263 zw264 zw265 zw220 zw266 rfl rfl (by decide +kernel) hR ht
theorem zgX4_44 (C0 : zC p s m args c D cI cZ A cc nL RX4) (hP : va_P D vwCl ws H) (q0 : Nat) {fs : List Value} (he : ws[q0]? = some (a, .inr (4, fs))) (v : Value) (hv : fs[15]? = some v) (hdg : decode cc pc = .ok (.getfield 44, 3)) (kk : W p l e R s m args below meth c H locs cells slots Q (F0 m (pc + 3) ls (v :: rest))) : W p l e R s m args below meth c H locs cells slots Q (F0 m pc ls (.ref a :: rest)) := va_get (C := RX4) (T := TX4) (N := 28) C0.1 C0.2.1 C0.2.2.2.2.1 zinX4 C0.2.2.2.1 C0.2.2.2.2.2.1 hP q0 he rfl 15 (by decide) (C0.2.2.2.2.1 _ zw267) (fun _ h => h) hv hdg kk
theorem zgX4_47 (C0 : zC p s m args c D cI cZ A cc nL RX4) (hP : va_P D vwCl ws H) (q0 : Nat) {fs : List Value} (he : ws[q0]? = some (a, .inr (4, fs))) (v : Value) (hv : fs[16]? = some v) (hdg : decode cc pc = .ok (.getfield 47, 3)) (kk : W p l e R s m args below meth c H locs cells slots Q (F0 m (pc + 3) ls (v :: rest))) : W p l e R s m args below meth c H locs cells slots Q (F0 m pc ls (.ref a :: rest)) := va_get (C := RX4) (T := TX4) (N := 28) C0.1 C0.2.1 C0.2.2.2.2.1 zinX4 C0.2.2.2.1 C0.2.2.2.2.2.1 hP q0 he rfl 16 (by decide) (C0.2.2.2.2.1 _ zw268) (fun _ h => h) hv hdg kk
theorem zgX4_101 (C0 : zC p s m args c D cI cZ A cc nL RX4) (hP : va_P D vwCl ws H) (q0 : Nat) {fs : List Value} (he : ws[q0]? = some (a, .inr (4, fs))) (v : Value) (hv : fs[14]? = some v) (hdg : decode cc pc = .ok (.getfield 101, 3)) (kk : W p l e R s m args below meth c H locs cells slots Q (F0 m (pc + 3) ls (v :: rest))) : W p l e R s m args below meth c H locs cells slots Q (F0 m pc ls (.ref a :: rest)) := va_get (C := RX4) (T := TX4) (N := 28) C0.1 C0.2.1 C0.2.2.2.2.1 zinX4 C0.2.2.2.1 C0.2.2.2.2.2.1 hP q0 he rfl 14 (by decide) (C0.2.2.2.2.1 _ zw269) (fun _ h => h) hv hdg kk
theorem zkX4_104 {R : Room} {s : State} {args : Array Value} (hR : rmX4_isTimeBehind.frames + 1 ≤ R.frames ∧ 8 + (5 + 11) + rmX4_isTimeBehind.locals ≤ R.locals) (ht : ∀ w ∈ zTb, w.before args s = true) : CallW R s args RX4 RX4 104 yX4_isTimeBehind cX4_isTimeBehind 5 (some .boolean) (zW yX4_isTimeBehind cX4_isTimeBehind 5 (some .boolean)) rmX4_isTimeBehind 0 0 3 := z_cwV zw270 zw271 zw272 zw220 zw273 rfl rfl (by decide +kernel) hR ht
theorem zpX4_101 (C0 : zC p s m args c D cI cZ A cc nL RX4) (hP : va_P D vwCl ws H) (hD : va_D A ws) (hS : va_S A s.heap H locs) (q0 : Nat) {fs : List Value} (he : ws[q0]? = some (a, .inr (4, fs))) (hl : 14 < fs.length) (hdg : decode cc pc = .ok (.putfield 101, 3)) (kk : ∀ (H1 : Heap) (locs1 : List Loc), va_P D vwCl (ws.set q0 (a, .inr (4, fs.set 14 (.int (zI x))))) H1 → va_S A s.heap H1 locs1 → W p l e R s m args below meth c H1 locs1 cells slots Q (F0 m (pc + 3) ls rest)) : W p l e R s m args below meth c H locs cells slots Q (F0 m pc ls (.int (zI x) :: .ref a :: rest)) := va_put (C := RX4) (T := TX4) (N := 28) (ty := .int) C0.1 C0.2.1 C0.2.2.2.2.1 zinX4 tyX4 tyX4_ok nmX4 C0.2.2.2.1 C0.2.2.2.2.2.1 hP hD hS q0 he rfl 14 (by decide) (C0.2.2.2.2.1 _ zw269) (fun _ h => h) rfl (by decide +kernel) rfl rfl hl hdg (fun H1 l1 h1 _ h3 => kk H1 l1 h1 h3)
theorem zkX4_107 {R : Room} {s : State} {args : Array Value} (hR : rmX4_edge.frames + 1 ≤ R.frames ∧ 8 + (3 + 11) + rmX4_edge.locals ≤ R.locals) (ht : ∀ w ∈ zTb, w.before args s = true) : CallW R s args RX4 RX4 107 yX4_edge cX4_edge 3 (some .int) (zW yX4_edge cX4_edge 3 (some .int)) rmX4_edge 0 0 0 := z_cwV zw274 zw275 zw276 zw220 zw277 rfl rfl (by decide +kernel) hR ht
theorem zkX4_110 {R : Room} {s : State} {args : Array Value} (hR : rmX4_comesByTime.frames + 1 ≤ R.frames ∧ 8 + (4 + 11) + rmX4_comesByTime.locals ≤ R.locals) (ht : ∀ w ∈ zTb, w.before args s = true) : CallW R s args RX4 RX4 110 yX4_comesByTime cX4_comesByTime 4 none (zW yX4_comesByTime cX4_comesByTime 4 none) rmX4_comesByTime 0 0 2 := z_cwV zw278 zw279 zw280 zw220 zw281 rfl rfl (by decide +kernel) hR ht
theorem zpX4_114 (C0 : zC p s m args c D cI cZ A cc nL RX4) (hP : va_P D vwCl ws H) (hD : va_D A ws) (hS : va_S A s.heap H locs) (q0 : Nat) {fs : List Value} (he : ws[q0]? = some (a, .inr (4, fs))) (hl : 18 < fs.length) (hdg : decode cc pc = .ok (.putfield 114, 3)) (kk : ∀ (H1 : Heap) (locs1 : List Loc), va_P D vwCl (ws.set q0 (a, .inr (4, fs.set 18 (.int (zI x))))) H1 → va_S A s.heap H1 locs1 → W p l e R s m args below meth c H1 locs1 cells slots Q (F0 m (pc + 3) ls rest)) : W p l e R s m args below meth c H locs cells slots Q (F0 m pc ls (.int (zI x) :: .ref a :: rest)) := va_put (C := RX4) (T := TX4) (N := 28) (ty := .int) C0.1 C0.2.1 C0.2.2.2.2.1 zinX4 tyX4 tyX4_ok nmX4 C0.2.2.2.1 C0.2.2.2.2.2.1 hP hD hS q0 he rfl 18 (by decide) (C0.2.2.2.2.1 _ zw282) (fun _ h => h) rfl (by decide +kernel) rfl rfl hl hdg (fun H1 l1 h1 _ h3 => kk H1 l1 h1 h3)
theorem zpX4_117 (C0 : zC p s m args c D cI cZ A cc nL RX4) (hP : va_P D vwCl ws H) (hD : va_D A ws) (hS : va_S A s.heap H locs) (q0 : Nat) {fs : List Value} (he : ws[q0]? = some (a, .inr (4, fs))) (hl : 19 < fs.length) (hdg : decode cc pc = .ok (.putfield 117, 3)) (kk : ∀ (H1 : Heap) (locs1 : List Loc), va_P D vwCl (ws.set q0 (a, .inr (4, fs.set 19 (.int (zI x))))) H1 → va_S A s.heap H1 locs1 → W p l e R s m args below meth c H1 locs1 cells slots Q (F0 m (pc + 3) ls rest)) : W p l e R s m args below meth c H locs cells slots Q (F0 m pc ls (.int (zI x) :: .ref a :: rest)) := va_put (C := RX4) (T := TX4) (N := 28) (ty := .int) C0.1 C0.2.1 C0.2.2.2.2.1 zinX4 tyX4 tyX4_ok nmX4 C0.2.2.2.1 C0.2.2.2.2.2.1 hP hD hS q0 he rfl 19 (by decide) (C0.2.2.2.2.1 _ zw283) (fun _ h => h) rfl (by decide +kernel) rfl rfl hl hdg (fun H1 l1 h1 _ h3 => kk H1 l1 h1 h3)
theorem zgX4_114 (C0 : zC p s m args c D cI cZ A cc nL RX4) (hP : va_P D vwCl ws H) (q0 : Nat) {fs : List Value} (he : ws[q0]? = some (a, .inr (4, fs))) (v : Value) (hv : fs[18]? = some v) (hdg : decode cc pc = .ok (.getfield 114, 3)) (kk : W p l e R s m args below meth c H locs cells slots Q (F0 m (pc + 3) ls (v :: rest))) : W p l e R s m args below meth c H locs cells slots Q (F0 m pc ls (.ref a :: rest)) := va_get (C := RX4) (T := TX4) (N := 28) C0.1 C0.2.1 C0.2.2.2.2.1 zinX4 C0.2.2.2.1 C0.2.2.2.2.2.1 hP q0 he rfl 18 (by decide) (C0.2.2.2.2.1 _ zw282) (fun _ h => h) hv hdg kk
theorem zgX4_53 (C0 : zC p s m args c D cI cZ A cc nL RX4) (hP : va_P D vwCl ws H) (q0 : Nat) {fs : List Value} (he : ws[q0]? = some (a, .inr (4, fs))) (v : Value) (hv : fs[20]? = some v) (hdg : decode cc pc = .ok (.getfield 53, 3)) (kk : W p l e R s m args below meth c H locs cells slots Q (F0 m (pc + 3) ls (v :: rest))) : W p l e R s m args below meth c H locs cells slots Q (F0 m pc ls (.ref a :: rest)) := va_get (C := RX4) (T := TX4) (N := 28) C0.1 C0.2.1 C0.2.2.2.2.1 zinX4 C0.2.2.2.1 C0.2.2.2.2.2.1 hP q0 he rfl 20 (by decide) (C0.2.2.2.2.1 _ zw284) (fun _ h => h) hv hdg kk
theorem zgX4_117 (C0 : zC p s m args c D cI cZ A cc nL RX4) (hP : va_P D vwCl ws H) (q0 : Nat) {fs : List Value} (he : ws[q0]? = some (a, .inr (4, fs))) (v : Value) (hv : fs[19]? = some v) (hdg : decode cc pc = .ok (.getfield 117, 3)) (kk : W p l e R s m args below meth c H locs cells slots Q (F0 m (pc + 3) ls (v :: rest))) : W p l e R s m args below meth c H locs cells slots Q (F0 m pc ls (.ref a :: rest)) := va_get (C := RX4) (T := TX4) (N := 28) C0.1 C0.2.1 C0.2.2.2.2.1 zinX4 C0.2.2.2.1 C0.2.2.2.2.2.1 hP q0 he rfl 19 (by decide) (C0.2.2.2.2.1 _ zw283) (fun _ h => h) hv hdg kk
theorem zgX4_50 (C0 : zC p s m args c D cI cZ A cc nL RX4) (hP : va_P D vwCl ws H) (q0 : Nat) {fs : List Value} (he : ws[q0]? = some (a, .inr (4, fs))) (v : Value) (hv : fs[17]? = some v) (hdg : decode cc pc = .ok (.getfield 50, 3)) (kk : W p l e R s m args below meth c H locs cells slots Q (F0 m (pc + 3) ls (v :: rest))) : W p l e R s m args below meth c H locs cells slots Q (F0 m pc ls (.ref a :: rest)) := va_get (C := RX4) (T := TX4) (N := 28) C0.1 C0.2.1 C0.2.2.2.2.1 zinX4 C0.2.2.2.1 C0.2.2.2.2.2.1 hP q0 he rfl 17 (by decide) (C0.2.2.2.2.1 _ zw285) (fun _ h => h) hv hdg kk
theorem zkX4_120 {R : Room} {s : State} {args : Array Value} (hR : rmX4_findGroups.frames + 1 ≤ R.frames ∧ 8 + (6 + 11) + rmX4_findGroups.locals ≤ R.locals) (ht : ∀ w ∈ zTb, w.before args s = true) : CallW R s args RX4 RX4 120 yX4_findGroups cX4_findGroups 6 none (zW yX4_findGroups cX4_findGroups 6 none) rmX4_findGroups 0 0 2 := z_cwV zw286 zw287 zw288 zw220 zw289 rfl rfl (by decide +kernel) hR ht
theorem zkX4_123 {R : Room} {s : State} {args : Array Value} (hR : rmX4_isGroup.frames + 1 ≤ R.frames ∧ 8 + (2 + 11) + rmX4_isGroup.locals ≤ R.locals) (ht : ∀ w ∈ zTb, w.before args s = true) : CallW R s args RX4 RX4 123 yX4_isGroup cX4_isGroup 2 (some .boolean) (zW yX4_isGroup cX4_isGroup 2 (some .boolean)) rmX4_isGroup 0 0 1 := z_cwV zw290 zw291 zw292 zw220 zw293 rfl rfl (by decide +kernel) hR ht
theorem zkX4_126 {R : Room} {s : State} {args : Array Value} (hR : rmX4_setOf.frames + 1 ≤ R.frames ∧ 8 + (4 + 11) + rmX4_setOf.locals ≤ R.locals) (ht : ∀ w ∈ zTb, w.before args s = true) : CallW R s args RX4 RX4 126 yX4_setOf cX4_setOf 4 (some .int) (zW yX4_setOf cX4_setOf 4 (some .int)) rmX4_setOf 0 0 1 := z_cwV zw294 zw295 zw296 zw220 zw297 rfl rfl (by decide +kernel) hR ht
theorem zkX4_129 {R : Room} {s : State} {args : Array Value} (hR : rmX4_manyIn.frames + 1 ≤ R.frames ∧ 8 + (4 + 11) + rmX4_manyIn.locals ≤ R.locals) (ht : ∀ w ∈ zTb, w.before args s = true) : CallW R s args RX4 RX4 129 yX4_manyIn cX4_manyIn 4 (some .int) (zW yX4_manyIn cX4_manyIn 4 (some .int)) rmX4_manyIn 0 0 1 := z_cwV zw298 zw299 zw300 zw220 zw301 rfl rfl (by decide +kernel) hR ht
theorem zkX4_132 {R : Room} {s : State} {args : Array Value} (hR : rmX4_size.frames + 1 ≤ R.frames ∧ 8 + (3 + 11) + rmX4_size.locals ≤ R.locals) (ht : ∀ w ∈ zTb, w.before args s = true) : CallB R s args RX4 132 yX4_size cX4_size 3 (some .int) (zW yX4_size cX4_size 3 (some .int)) rmX4_size 0 0 1 ∧ (Cond.static yX4_size).before args s = true := z_cwS zw302 zw303 zw220 zw304 rfl rfl (by decide +kernel) hR ht
theorem zkX4_135 {R : Room} {s : State} {args : Array Value} (hR : rmX4_memberIn.frames + 1 ≤ R.frames ∧ 8 + (4 + 11) + rmX4_memberIn.locals ≤ R.locals) (ht : ∀ w ∈ zTb, w.before args s = true) : CallW R s args RX4 RX4 135 yX4_memberIn cX4_memberIn 4 (some .int) (zW yX4_memberIn cX4_memberIn 4 (some .int)) rmX4_memberIn 0 0 2 := z_cwV zw305 zw306 zw307 zw220 zw308 rfl rfl (by decide +kernel) hR ht
theorem zkX4_139 {R : Room} {s : State} {args : Array Value} (hR : rmX4_coincidences.frames + 1 ≤ R.frames ∧ 8 + (4 + 11) + rmX4_coincidences.locals ≤ R.locals) (ht : ∀ w ∈ zTb, w.before args s = true) : CallW R s args RX4 RX4 139 yX4_coincidences cX4_coincidences 4 (some .int) (zW yX4_coincidences cX4_coincidences 4 (some .int)) rmX4_coincidences 0 0 1 := z_cwV zw309 zw310 zw311 zw220 zw312 rfl rfl (by decide +kernel) hR ht
theorem zkX4_142 {R : Room} {s : State} {args : Array Value} (hR : rmX4_span.frames + 1 ≤ R.frames ∧ 8 + (1 + 11) + rmX4_span.locals ≤ R.locals) (ht : ∀ w ∈ zTb, w.before args s = true) : CallW R s args RX4 RX4 142 yX4_span cX4_span 1 (some .int) (zW yX4_span cX4_span 1 (some .int)) rmX4_span 0 0 0 := z_cwV zw313 zw314 zw315 zw220 zw316 rfl rfl (by decide +kernel) hR ht
theorem zkX4_145 {R : Room} {s : State} {args : Array Value} (hR : rmX4_liveTime.frames + 1 ≤ R.frames ∧ 8 + (7 + 11) + rmX4_liveTime.locals ≤ R.locals) (ht : ∀ w ∈ zTb, w.before args s = true) : CallW R s args RX4 RX4 145 yX4_liveTime cX4_liveTime 7 (some .int) (zW yX4_liveTime cX4_liveTime 7 (some .int)) rmX4_liveTime 0 0 1 := z_cwV zw317 zw318 zw319 zw220 zw320 rfl rfl (by decide +kernel) hR ht
theorem zkX4_150 {R : Room} {s : State} {args : Array Value} (hR : rmX4_inLeastTerms.frames + 1 ≤ R.frames ∧ 8 + (11 + 11) + rmX4_inLeastTerms.locals ≤ R.locals) (ht : ∀ w ∈ zTb, w.before args s = true) : CallB R s args RX4 150 yX4_inLeastTerms cX4_inLeastTerms 11 (some .long) (zW yX4_inLeastTerms cX4_inLeastTerms 11 (some .long)) rmX4_inLeastTerms 0 0 3 ∧ (Cond.static yX4_inLeastTerms).before args s = true := z_cwS zw322 zw323 zw220 zw324 rfl rfl (by decide +kernel) hR ht
theorem zpX4_154 (C0 : zC p s m args c D cI cZ A cc nL RX4) (hP : va_P D vwCl ws H) (hD : va_D A ws) (hS : va_S A s.heap H locs) (q0 : Nat) {fs : List Value} (he : ws[q0]? = some (a, .inr (4, fs))) (hl : 21 < fs.length) (hdg : decode cc pc = .ok (.putfield 154, 3)) (kk : ∀ (H1 : Heap) (locs1 : List Loc), va_P D vwCl (ws.set q0 (a, .inr (4, fs.set 21 (.int (zI x))))) H1 → va_S A s.heap H1 locs1 → W p l e R s m args below meth c H1 locs1 cells slots Q (F0 m (pc + 3) ls rest)) : W p l e R s m args below meth c H locs cells slots Q (F0 m pc ls (.int (zI x) :: .ref a :: rest)) := va_put (C := RX4) (T := TX4) (N := 28) (ty := .int) C0.1 C0.2.1 C0.2.2.2.2.1 zinX4 tyX4 tyX4_ok nmX4 C0.2.2.2.1 C0.2.2.2.2.2.1 hP hD hS q0 he rfl 21 (by decide) (C0.2.2.2.2.1 _ zw325) (fun _ h => h) rfl (by decide +kernel) rfl rfl hl hdg (fun H1 l1 h1 _ h3 => kk H1 l1 h1 h3)
theorem zpX4_157 (C0 : zC p s m args c D cI cZ A cc nL RX4) (hP : va_P D vwCl ws H) (hD : va_D A ws) (hS : va_S A s.heap H locs) (q0 : Nat) {fs : List Value} (he : ws[q0]? = some (a, .inr (4, fs))) (hl : 22 < fs.length) (hdg : decode cc pc = .ok (.putfield 157, 3)) (kk : ∀ (H1 : Heap) (locs1 : List Loc), va_P D vwCl (ws.set q0 (a, .inr (4, fs.set 22 (.int (zI x))))) H1 → va_S A s.heap H1 locs1 → W p l e R s m args below meth c H1 locs1 cells slots Q (F0 m (pc + 3) ls rest)) : W p l e R s m args below meth c H locs cells slots Q (F0 m pc ls (.int (zI x) :: .ref a :: rest)) := va_put (C := RX4) (T := TX4) (N := 28) (ty := .int) C0.1 C0.2.1 C0.2.2.2.2.1 zinX4 tyX4 tyX4_ok nmX4 C0.2.2.2.1 C0.2.2.2.2.2.1 hP hD hS q0 he rfl 22 (by decide) (C0.2.2.2.2.1 _ zw326) (fun _ h => h) rfl (by decide +kernel) rfl rfl hl hdg (fun H1 l1 h1 _ h3 => kk H1 l1 h1 h3)
theorem zpX4_160 (C0 : zC p s m args c D cI cZ A cc nL RX4) (hP : va_P D vwCl ws H) (hD : va_D A ws) (hS : va_S A s.heap H locs) (q0 : Nat) {fs : List Value} (he : ws[q0]? = some (a, .inr (4, fs))) (hl : 23 < fs.length) (hdg : decode cc pc = .ok (.putfield 160, 3)) (kk : ∀ (H1 : Heap) (locs1 : List Loc), va_P D vwCl (ws.set q0 (a, .inr (4, fs.set 23 (.int (zI x))))) H1 → va_S A s.heap H1 locs1 → W p l e R s m args below meth c H1 locs1 cells slots Q (F0 m (pc + 3) ls rest)) : W p l e R s m args below meth c H locs cells slots Q (F0 m pc ls (.int (zI x) :: .ref a :: rest)) := va_put (C := RX4) (T := TX4) (N := 28) (ty := .int) C0.1 C0.2.1 C0.2.2.2.2.1 zinX4 tyX4 tyX4_ok nmX4 C0.2.2.2.1 C0.2.2.2.2.2.1 hP hD hS q0 he rfl 23 (by decide) (C0.2.2.2.2.1 _ zw327) (fun _ h => h) rfl (by decide +kernel) rfl rfl hl hdg (fun H1 l1 h1 _ h3 => kk H1 l1 h1 h3)
theorem zgX4_154 (C0 : zC p s m args c D cI cZ A cc nL RX4) (hP : va_P D vwCl ws H) (q0 : Nat) {fs : List Value} (he : ws[q0]? = some (a, .inr (4, fs))) (v : Value) (hv : fs[21]? = some v) (hdg : decode cc pc = .ok (.getfield 154, 3)) (kk : W p l e R s m args below meth c H locs cells slots Q (F0 m (pc + 3) ls (v :: rest))) : W p l e R s m args below meth c H locs cells slots Q (F0 m pc ls (.ref a :: rest)) := va_get (C := RX4) (T := TX4) (N := 28) C0.1 C0.2.1 C0.2.2.2.2.1 zinX4 C0.2.2.2.1 C0.2.2.2.2.2.1 hP q0 he rfl 21 (by decide) (C0.2.2.2.2.1 _ zw325) (fun _ h => h) hv hdg kk
theorem zgX4_157 (C0 : zC p s m args c D cI cZ A cc nL RX4) (hP : va_P D vwCl ws H) (q0 : Nat) {fs : List Value} (he : ws[q0]? = some (a, .inr (4, fs))) (v : Value) (hv : fs[22]? = some v) (hdg : decode cc pc = .ok (.getfield 157, 3)) (kk : W p l e R s m args below meth c H locs cells slots Q (F0 m (pc + 3) ls (v :: rest))) : W p l e R s m args below meth c H locs cells slots Q (F0 m pc ls (.ref a :: rest)) := va_get (C := RX4) (T := TX4) (N := 28) C0.1 C0.2.1 C0.2.2.2.2.1 zinX4 C0.2.2.2.1 C0.2.2.2.2.2.1 hP q0 he rfl 22 (by decide) (C0.2.2.2.2.1 _ zw326) (fun _ h => h) hv hdg kk
theorem zgX4_160 (C0 : zC p s m args c D cI cZ A cc nL RX4) (hP : va_P D vwCl ws H) (q0 : Nat) {fs : List Value} (he : ws[q0]? = some (a, .inr (4, fs))) (v : Value) (hv : fs[23]? = some v) (hdg : decode cc pc = .ok (.getfield 160, 3)) (kk : W p l e R s m args below meth c H locs cells slots Q (F0 m (pc + 3) ls (v :: rest))) : W p l e R s m args below meth c H locs cells slots Q (F0 m pc ls (.ref a :: rest)) := va_get (C := RX4) (T := TX4) (N := 28) C0.1 C0.2.1 C0.2.2.2.2.1 zinX4 C0.2.2.2.1 C0.2.2.2.2.2.1 hP q0 he rfl 23 (by decide) (C0.2.2.2.2.1 _ zw327) (fun _ h => h) hv hdg kk
theorem zgX4_163 (C0 : zC p s m args c D cI cZ A cc nL RX4) (hP : va_P D vwCl ws H) (q0 : Nat) {fs : List Value} (he : ws[q0]? = some (a, .inr (4, fs))) (v : Value) (hv : fs[26]? = some v) (hdg : decode cc pc = .ok (.getfield 163, 3)) (kk : W p l e R s m args below meth c H locs cells slots Q (F0 m (pc + 3) ls (v :: rest))) : W p l e R s m args below meth c H locs cells slots Q (F0 m pc ls (.ref a :: rest)) := va_get (C := RX4) (T := TX4) (N := 28) C0.1 C0.2.1 C0.2.2.2.2.1 zinX4 C0.2.2.2.1 C0.2.2.2.2.2.1 hP q0 he rfl 26 (by decide) (C0.2.2.2.2.1 _ zw328) (fun _ h => h) hv hdg kk
theorem zgX4_166 (C0 : zC p s m args c D cI cZ A cc nL RX4) (hP : va_P D vwCl ws H) (q0 : Nat) {fs : List Value} (he : ws[q0]? = some (a, .inr (4, fs))) (v : Value) (hv : fs[27]? = some v) (hdg : decode cc pc = .ok (.getfield 166, 3)) (kk : W p l e R s m args below meth c H locs cells slots Q (F0 m (pc + 3) ls (v :: rest))) : W p l e R s m args below meth c H locs cells slots Q (F0 m pc ls (.ref a :: rest)) := va_get (C := RX4) (T := TX4) (N := 28) C0.1 C0.2.1 C0.2.2.2.2.1 zinX4 C0.2.2.2.1 C0.2.2.2.2.2.1 hP q0 he rfl 27 (by decide) (C0.2.2.2.2.1 _ zw329) (fun _ h => h) hv hdg kk
theorem zkX4_169 {R : Room} {s : State} {args : Array Value} (hR : rmX4_far.frames + 1 ≤ R.frames ∧ 8 + (1 + 11) + rmX4_far.locals ≤ R.locals) (ht : ∀ w ∈ zTb, w.before args s = true) : CallB R s args RX4 169 yX4_far cX4_far 1 (some .int) (zW yX4_far cX4_far 1 (some .int)) rmX4_far 0 0 1 ∧ (Cond.static yX4_far).before args s = true := z_cwS zw330 zw331 zw220 zw332 rfl rfl (by decide +kernel) hR ht
theorem zgX4_172 (C0 : zC p s m args c D cI cZ A cc nL RX4) (hP : va_P D vwCl ws H) (q0 : Nat) {fs : List Value} (he : ws[q0]? = some (a, .inr (4, fs))) (v : Value) (hv : fs[25]? = some v) (hdg : decode cc pc = .ok (.getfield 172, 3)) (kk : W p l e R s m args below meth c H locs cells slots Q (F0 m (pc + 3) ls (v :: rest))) : W p l e R s m args below meth c H locs cells slots Q (F0 m pc ls (.ref a :: rest)) := va_get (C := RX4) (T := TX4) (N := 28) C0.1 C0.2.1 C0.2.2.2.2.1 zinX4 C0.2.2.2.1 C0.2.2.2.2.2.1 hP q0 he rfl 25 (by decide) (C0.2.2.2.2.1 _ zw333) (fun _ h => h) hv hdg kk
theorem zpX4_163 (C0 : zC p s m args c D cI cZ A cc nL RX4) (hP : va_P D vwCl ws H) (hD : va_D A ws) (hS : va_S A s.heap H locs) (q0 : Nat) {fs : List Value} (he : ws[q0]? = some (a, .inr (4, fs))) (hl : 26 < fs.length) (hdg : decode cc pc = .ok (.putfield 163, 3)) (kk : ∀ (H1 : Heap) (locs1 : List Loc), va_P D vwCl (ws.set q0 (a, .inr (4, fs.set 26 (.int (zI x))))) H1 → va_S A s.heap H1 locs1 → W p l e R s m args below meth c H1 locs1 cells slots Q (F0 m (pc + 3) ls rest)) : W p l e R s m args below meth c H locs cells slots Q (F0 m pc ls (.int (zI x) :: .ref a :: rest)) := va_put (C := RX4) (T := TX4) (N := 28) (ty := .int) C0.1 C0.2.1 C0.2.2.2.2.1 zinX4 tyX4 tyX4_ok nmX4 C0.2.2.2.1 C0.2.2.2.2.2.1 hP hD hS q0 he rfl 26 (by decide) (C0.2.2.2.2.1 _ zw328) (fun _ h => h) rfl (by decide +kernel) rfl rfl hl hdg (fun H1 l1 h1 _ h3 => kk H1 l1 h1 h3)
theorem zkX4_175 {R : Room} {s : State} {args : Array Value} (hR : rmX4_tries.frames + 1 ≤ R.frames ∧ 8 + (7 + 11) + rmX4_tries.locals ≤ R.locals) (ht : ∀ w ∈ zTb, w.before args s = true) : CallW R s args RX4 RX4 175 yX4_tries cX4_tries 7 none (zW yX4_tries cX4_tries 7 none) rmX4_tries 0 0 3 := z_cwV zw334 zw335 zw336 zw220 zw337 rfl rfl (by decide +kernel) hR ht
theorem zkX4_179 {R : Room} {s : State} {args : Array Value} (hR : rmX4_isAhead.frames + 1 ≤ R.frames ∧ 8 + (2 + 11) + rmX4_isAhead.locals ≤ R.locals) (ht : ∀ w ∈ zTb, w.before args s = true) : CallW R s args RX4 RX4 179 yX4_isAhead cX4_isAhead 2 (some .boolean) (zW yX4_isAhead cX4_isAhead 2 (some .boolean)) rmX4_isAhead 0 0 1 := z_cwV zw338 zw339 zw340 zw220 zw341 rfl rfl (by decide +kernel) hR ht
theorem zpX4_182 (C0 : zC p s m args c D cI cZ A cc nL RX4) (hP : va_P D vwCl ws H) (hD : va_D A ws) (hS : va_S A s.heap H locs) (q0 : Nat) {fs : List Value} (he : ws[q0]? = some (a, .inr (4, fs))) (hl : 24 < fs.length) (hdg : decode cc pc = .ok (.putfield 182, 3)) (kk : ∀ (H1 : Heap) (locs1 : List Loc), va_P D vwCl (ws.set q0 (a, .inr (4, fs.set 24 (.int (zI x))))) H1 → va_S A s.heap H1 locs1 → W p l e R s m args below meth c H1 locs1 cells slots Q (F0 m (pc + 3) ls rest)) : W p l e R s m args below meth c H locs cells slots Q (F0 m pc ls (.int (zI x) :: .ref a :: rest)) := va_put (C := RX4) (T := TX4) (N := 28) (ty := .int) C0.1 C0.2.1 C0.2.2.2.2.1 zinX4 tyX4 tyX4_ok nmX4 C0.2.2.2.1 C0.2.2.2.2.2.1 hP hD hS q0 he rfl 24 (by decide) (C0.2.2.2.2.1 _ zw342) (fun _ h => h) rfl (by decide +kernel) rfl rfl hl hdg (fun H1 l1 h1 _ h3 => kk H1 l1 h1 h3)
theorem zpX4_172 (C0 : zC p s m args c D cI cZ A cc nL RX4) (hP : va_P D vwCl ws H) (hD : va_D A ws) (hS : va_S A s.heap H locs) (q0 : Nat) {fs : List Value} (he : ws[q0]? = some (a, .inr (4, fs))) (hl : 25 < fs.length) (hdg : decode cc pc = .ok (.putfield 172, 3)) (kk : ∀ (H1 : Heap) (locs1 : List Loc), va_P D vwCl (ws.set q0 (a, .inr (4, fs.set 25 (.int (zI x))))) H1 → va_S A s.heap H1 locs1 → W p l e R s m args below meth c H1 locs1 cells slots Q (F0 m (pc + 3) ls rest)) : W p l e R s m args below meth c H locs cells slots Q (F0 m pc ls (.int (zI x) :: .ref a :: rest)) := va_put (C := RX4) (T := TX4) (N := 28) (ty := .int) C0.1 C0.2.1 C0.2.2.2.2.1 zinX4 tyX4 tyX4_ok nmX4 C0.2.2.2.1 C0.2.2.2.2.2.1 hP hD hS q0 he rfl 25 (by decide) (C0.2.2.2.2.1 _ zw333) (fun _ h => h) rfl (by decide +kernel) rfl rfl hl hdg (fun H1 l1 h1 _ h3 => kk H1 l1 h1 h3)
theorem zpX4_166 (C0 : zC p s m args c D cI cZ A cc nL RX4) (hP : va_P D vwCl ws H) (hD : va_D A ws) (hS : va_S A s.heap H locs) (q0 : Nat) {fs : List Value} (he : ws[q0]? = some (a, .inr (4, fs))) (hl : 27 < fs.length) (hdg : decode cc pc = .ok (.putfield 166, 3)) (kk : ∀ (H1 : Heap) (locs1 : List Loc), va_P D vwCl (ws.set q0 (a, .inr (4, fs.set 27 (.int (zI x))))) H1 → va_S A s.heap H1 locs1 → W p l e R s m args below meth c H1 locs1 cells slots Q (F0 m (pc + 3) ls rest)) : W p l e R s m args below meth c H locs cells slots Q (F0 m pc ls (.int (zI x) :: .ref a :: rest)) := va_put (C := RX4) (T := TX4) (N := 28) (ty := .int) C0.1 C0.2.1 C0.2.2.2.2.1 zinX4 tyX4 tyX4_ok nmX4 C0.2.2.2.1 C0.2.2.2.2.2.1 hP hD hS q0 he rfl 27 (by decide) (C0.2.2.2.2.1 _ zw329) (fun _ h => h) rfl (by decide +kernel) rfl rfl hl hdg (fun H1 l1 h1 _ h3 => kk H1 l1 h1 h3)
theorem zkX4_185 {R : Room} {s : State} {args : Array Value} (hR : rmX4_findTrack.frames + 1 ≤ R.frames ∧ 8 + (4 + 11) + rmX4_findTrack.locals ≤ R.locals) (ht : ∀ w ∈ zTb, w.before args s = true) : CallW R s args RX4 RX4 185 yX4_findTrack cX4_findTrack 4 (some .boolean) (zW yX4_findTrack cX4_findTrack 4 (some .boolean)) rmX4_findTrack 0 0 1 := z_cwV zw343 zw344 zw345 zw220 zw346 rfl rfl (by decide +kernel) hR ht
theorem zgX4_182 (C0 : zC p s m args c D cI cZ A cc nL RX4) (hP : va_P D vwCl ws H) (q0 : Nat) {fs : List Value} (he : ws[q0]? = some (a, .inr (4, fs))) (v : Value) (hv : fs[24]? = some v) (hdg : decode cc pc = .ok (.getfield 182, 3)) (kk : W p l e R s m args below meth c H locs cells slots Q (F0 m (pc + 3) ls (v :: rest))) : W p l e R s m args below meth c H locs cells slots Q (F0 m pc ls (.ref a :: rest)) := va_get (C := RX4) (T := TX4) (N := 28) C0.1 C0.2.1 C0.2.2.2.2.1 zinX4 C0.2.2.2.1 C0.2.2.2.2.2.1 hP q0 he rfl 24 (by decide) (C0.2.2.2.2.1 _ zw342) (fun _ h => h) hv hdg kk
theorem zkX4_188 {R : Room} {s : State} {args : Array Value} (hR : rmX4_inGroups.frames + 1 ≤ R.frames ∧ 8 + (3 + 11) + rmX4_inGroups.locals ≤ R.locals) (ht : ∀ w ∈ zTb, w.before args s = true) : CallW R s args RX4 RX4 188 yX4_inGroups cX4_inGroups 3 (some .int) (zW yX4_inGroups cX4_inGroups 3 (some .int)) rmX4_inGroups 0 0 0 := z_cwV zw347 zw348 zw349 zw220 zw350 rfl rfl (by decide +kernel) hR ht
theorem zkX4_191 {R : Room} {s : State} {args : Array Value} (hR : rmX4_tracks.frames + 1 ≤ R.frames ∧ 8 + (3 + 11) + rmX4_tracks.locals ≤ R.locals) (ht : ∀ w ∈ zTb, w.before args s = true) : CallW R s args RX4 RX4 191 yX4_tracks cX4_tracks 3 (some .int) (zW yX4_tracks cX4_tracks 3 (some .int)) rmX4_tracks 0 0 0 := z_cwV zw351 zw352 zw353 zw220 zw354 rfl rfl (by decide +kernel) hR ht
theorem zqX0_9 (C0 : zC p s m args c D cI cZ A cc nL RX0) (hin : meth.name = "<init>") (hP : va_P D vwCl ws H) (hD : va_D A ws) (hS : va_S A s.heap H locs) (q0 : Nat) {fs : List Value} (he : ws[q0]? = some (a, .inr (0, fs))) (hl : 0 < fs.length) {r : Nat} (hdg : decode cc pc = .ok (.putfield 9, 3)) (kk : ∀ (H1 : Heap) (locs1 : List Loc), va_P D vwCl (ws.set q0 (a, .inr (0, fs.set 0 (.ref r)))) H1 → va_S A s.heap H1 locs1 → W p l e R s m args below meth c H1 locs1 cells slots Q (F0 m (pc + 3) ls rest)) : W p l e R s m args below meth c H locs cells slots Q (F0 m pc ls (.ref r :: .ref a :: rest)) := va_putF (C := RX0) (T := TX0) (N := 7) (ty := .array .int) C0.1 C0.2.1 C0.2.2.2.2.1 zinX0 tyX0 tyX0_ok nmX0 C0.2.2.2.1 C0.2.2.2.2.2.1 hP hD hS q0 he rfl 0 (by decide) (C0.2.2.2.2.1 _ zw10) (fun _ h => h) rfl hin rfl (by decide +kernel) rfl rfl hl hdg (fun H1 l1 h1 _ h3 => kk H1 l1 h1 h3)
theorem zqX0_15 (C0 : zC p s m args c D cI cZ A cc nL RX0) (hin : meth.name = "<init>") (hP : va_P D vwCl ws H) (hD : va_D A ws) (hS : va_S A s.heap H locs) (q0 : Nat) {fs : List Value} (he : ws[q0]? = some (a, .inr (0, fs))) (hl : 1 < fs.length) {r : Nat} (hdg : decode cc pc = .ok (.putfield 15, 3)) (kk : ∀ (H1 : Heap) (locs1 : List Loc), va_P D vwCl (ws.set q0 (a, .inr (0, fs.set 1 (.ref r)))) H1 → va_S A s.heap H1 locs1 → W p l e R s m args below meth c H1 locs1 cells slots Q (F0 m (pc + 3) ls rest)) : W p l e R s m args below meth c H locs cells slots Q (F0 m pc ls (.ref r :: .ref a :: rest)) := va_putF (C := RX0) (T := TX0) (N := 7) (ty := .array .int) C0.1 C0.2.1 C0.2.2.2.2.1 zinX0 tyX0 tyX0_ok nmX0 C0.2.2.2.1 C0.2.2.2.2.2.1 hP hD hS q0 he rfl 1 (by decide) (C0.2.2.2.2.1 _ zw1) (fun _ h => h) rfl hin rfl (by decide +kernel) rfl rfl hl hdg (fun H1 l1 h1 _ h3 => kk H1 l1 h1 h3)
theorem zqX0_18 (C0 : zC p s m args c D cI cZ A cc nL RX0) (hin : meth.name = "<init>") (hP : va_P D vwCl ws H) (hD : va_D A ws) (hS : va_S A s.heap H locs) (q0 : Nat) {fs : List Value} (he : ws[q0]? = some (a, .inr (0, fs))) (hl : 2 < fs.length) {r : Nat} (hdg : decode cc pc = .ok (.putfield 18, 3)) (kk : ∀ (H1 : Heap) (locs1 : List Loc), va_P D vwCl (ws.set q0 (a, .inr (0, fs.set 2 (.ref r)))) H1 → va_S A s.heap H1 locs1 → W p l e R s m args below meth c H1 locs1 cells slots Q (F0 m (pc + 3) ls rest)) : W p l e R s m args below meth c H locs cells slots Q (F0 m pc ls (.ref r :: .ref a :: rest)) := va_putF (C := RX0) (T := TX0) (N := 7) (ty := .array .int) C0.1 C0.2.1 C0.2.2.2.2.1 zinX0 tyX0 tyX0_ok nmX0 C0.2.2.2.1 C0.2.2.2.2.2.1 hP hD hS q0 he rfl 2 (by decide) (C0.2.2.2.2.1 _ zw2) (fun _ h => h) rfl hin rfl (by decide +kernel) rfl rfl hl hdg (fun H1 l1 h1 _ h3 => kk H1 l1 h1 h3)
theorem zqX0_21 (C0 : zC p s m args c D cI cZ A cc nL RX0) (hin : meth.name = "<init>") (hP : va_P D vwCl ws H) (hD : va_D A ws) (hS : va_S A s.heap H locs) (q0 : Nat) {fs : List Value} (he : ws[q0]? = some (a, .inr (0, fs))) (hl : 3 < fs.length) {r : Nat} (hdg : decode cc pc = .ok (.putfield 21, 3)) (kk : ∀ (H1 : Heap) (locs1 : List Loc), va_P D vwCl (ws.set q0 (a, .inr (0, fs.set 3 (.ref r)))) H1 → va_S A s.heap H1 locs1 → W p l e R s m args below meth c H1 locs1 cells slots Q (F0 m (pc + 3) ls rest)) : W p l e R s m args below meth c H locs cells slots Q (F0 m pc ls (.ref r :: .ref a :: rest)) := va_putF (C := RX0) (T := TX0) (N := 7) (ty := .array .int) C0.1 C0.2.1 C0.2.2.2.2.1 zinX0 tyX0 tyX0_ok nmX0 C0.2.2.2.1 C0.2.2.2.2.2.1 hP hD hS q0 he rfl 3 (by decide) (C0.2.2.2.2.1 _ zw4) (fun _ h => h) rfl hin rfl (by decide +kernel) rfl rfl hl hdg (fun H1 l1 h1 _ h3 => kk H1 l1 h1 h3)
theorem zqX0_24 (C0 : zC p s m args c D cI cZ A cc nL RX0) (hin : meth.name = "<init>") (hP : va_P D vwCl ws H) (hD : va_D A ws) (hS : va_S A s.heap H locs) (q0 : Nat) {fs : List Value} (he : ws[q0]? = some (a, .inr (0, fs))) (hl : 4 < fs.length) {r : Nat} (hdg : decode cc pc = .ok (.putfield 24, 3)) (kk : ∀ (H1 : Heap) (locs1 : List Loc), va_P D vwCl (ws.set q0 (a, .inr (0, fs.set 4 (.ref r)))) H1 → va_S A s.heap H1 locs1 → W p l e R s m args below meth c H1 locs1 cells slots Q (F0 m (pc + 3) ls rest)) : W p l e R s m args below meth c H locs cells slots Q (F0 m pc ls (.ref r :: .ref a :: rest)) := va_putF (C := RX0) (T := TX0) (N := 7) (ty := .array .int) C0.1 C0.2.1 C0.2.2.2.2.1 zinX0 tyX0 tyX0_ok nmX0 C0.2.2.2.1 C0.2.2.2.2.2.1 hP hD hS q0 he rfl 4 (by decide) (C0.2.2.2.2.1 _ zw6) (fun _ h => h) rfl hin rfl (by decide +kernel) rfl rfl hl hdg (fun H1 l1 h1 _ h3 => kk H1 l1 h1 h3)
theorem zqX0_27 (C0 : zC p s m args c D cI cZ A cc nL RX0) (hin : meth.name = "<init>") (hP : va_P D vwCl ws H) (hD : va_D A ws) (hS : va_S A s.heap H locs) (q0 : Nat) {fs : List Value} (he : ws[q0]? = some (a, .inr (0, fs))) (hl : 5 < fs.length) {r : Nat} (hdg : decode cc pc = .ok (.putfield 27, 3)) (kk : ∀ (H1 : Heap) (locs1 : List Loc), va_P D vwCl (ws.set q0 (a, .inr (0, fs.set 5 (.ref r)))) H1 → va_S A s.heap H1 locs1 → W p l e R s m args below meth c H1 locs1 cells slots Q (F0 m (pc + 3) ls rest)) : W p l e R s m args below meth c H locs cells slots Q (F0 m pc ls (.ref r :: .ref a :: rest)) := va_putF (C := RX0) (T := TX0) (N := 7) (ty := .array .int) C0.1 C0.2.1 C0.2.2.2.2.1 zinX0 tyX0 tyX0_ok nmX0 C0.2.2.2.1 C0.2.2.2.2.2.1 hP hD hS q0 he rfl 5 (by decide) (C0.2.2.2.2.1 _ zw8) (fun _ h => h) rfl hin rfl (by decide +kernel) rfl rfl hl hdg (fun H1 l1 h1 _ h3 => kk H1 l1 h1 h3)
theorem zqX1_9 (C0 : zC p s m args c D cI cZ A cc nL RX1) (hin : meth.name = "<init>") (hP : va_P D vwCl ws H) (hD : va_D A ws) (hS : va_S A s.heap H locs) (q0 : Nat) {fs : List Value} (he : ws[q0]? = some (a, .inr (1, fs))) (hl : 0 < fs.length) {r : Nat} (hdg : decode cc pc = .ok (.putfield 9, 3)) (kk : ∀ (H1 : Heap) (locs1 : List Loc), va_P D vwCl (ws.set q0 (a, .inr (1, fs.set 0 (.ref r)))) H1 → va_S A s.heap H1 locs1 → W p l e R s m args below meth c H1 locs1 cells slots Q (F0 m (pc + 3) ls rest)) : W p l e R s m args below meth c H locs cells slots Q (F0 m pc ls (.ref r :: .ref a :: rest)) := va_putF (C := RX1) (T := TX1) (N := 5) (ty := .array .int) C0.1 C0.2.1 C0.2.2.2.2.1 zinX1 tyX1 tyX1_ok nmX1 C0.2.2.2.1 C0.2.2.2.2.2.1 hP hD hS q0 he rfl 0 (by decide) (C0.2.2.2.2.1 _ zw23) (fun _ h => h) rfl hin rfl (by decide +kernel) rfl rfl hl hdg (fun H1 l1 h1 _ h3 => kk H1 l1 h1 h3)
theorem zqX2_9 (C0 : zC p s m args c D cI cZ A cc nL RX2) (hin : meth.name = "<init>") (hP : va_P D vwCl ws H) (hD : va_D A ws) (hS : va_S A s.heap H locs) (q0 : Nat) {fs : List Value} (he : ws[q0]? = some (a, .inr (2, fs))) (hl : 0 < fs.length) {r : Nat} (hdg : decode cc pc = .ok (.putfield 9, 3)) (kk : ∀ (H1 : Heap) (locs1 : List Loc), va_P D vwCl (ws.set q0 (a, .inr (2, fs.set 0 (.ref r)))) H1 → va_S A s.heap H1 locs1 → W p l e R s m args below meth c H1 locs1 cells slots Q (F0 m (pc + 3) ls rest)) : W p l e R s m args below meth c H locs cells slots Q (F0 m pc ls (.ref r :: .ref a :: rest)) := va_putF (C := RX2) (T := TX2) (N := 4) (ty := .array .int) C0.1 C0.2.1 C0.2.2.2.2.1 zinX2 tyX2 tyX2_ok nmX2 C0.2.2.2.1 C0.2.2.2.2.2.1 hP hD hS q0 he rfl 0 (by decide) (C0.2.2.2.2.1 _ zw42) (fun _ h => h) rfl hin rfl (by decide +kernel) rfl rfl hl hdg (fun H1 l1 h1 _ h3 => kk H1 l1 h1 h3)
theorem zqX2_15 (C0 : zC p s m args c D cI cZ A cc nL RX2) (hin : meth.name = "<init>") (hP : va_P D vwCl ws H) (hD : va_D A ws) (hS : va_S A s.heap H locs) (q0 : Nat) {fs : List Value} (he : ws[q0]? = some (a, .inr (2, fs))) (hl : 1 < fs.length) {r : Nat} (hdg : decode cc pc = .ok (.putfield 15, 3)) (kk : ∀ (H1 : Heap) (locs1 : List Loc), va_P D vwCl (ws.set q0 (a, .inr (2, fs.set 1 (.ref r)))) H1 → va_S A s.heap H1 locs1 → W p l e R s m args below meth c H1 locs1 cells slots Q (F0 m (pc + 3) ls rest)) : W p l e R s m args below meth c H locs cells slots Q (F0 m pc ls (.ref r :: .ref a :: rest)) := va_putF (C := RX2) (T := TX2) (N := 4) (ty := .array .int) C0.1 C0.2.1 C0.2.2.2.2.1 zinX2 tyX2 tyX2_ok nmX2 C0.2.2.2.1 C0.2.2.2.2.2.1 hP hD hS q0 he rfl 1 (by decide) (C0.2.2.2.2.1 _ zw43) (fun _ h => h) rfl hin rfl (by decide +kernel) rfl rfl hl hdg (fun H1 l1 h1 _ h3 => kk H1 l1 h1 h3)
theorem zqX2_18 (C0 : zC p s m args c D cI cZ A cc nL RX2) (hin : meth.name = "<init>") (hP : va_P D vwCl ws H) (hD : va_D A ws) (hS : va_S A s.heap H locs) (q0 : Nat) {fs : List Value} (he : ws[q0]? = some (a, .inr (2, fs))) (hl : 2 < fs.length) {r : Nat} (hdg : decode cc pc = .ok (.putfield 18, 3)) (kk : ∀ (H1 : Heap) (locs1 : List Loc), va_P D vwCl (ws.set q0 (a, .inr (2, fs.set 2 (.ref r)))) H1 → va_S A s.heap H1 locs1 → W p l e R s m args below meth c H1 locs1 cells slots Q (F0 m (pc + 3) ls rest)) : W p l e R s m args below meth c H locs cells slots Q (F0 m pc ls (.ref r :: .ref a :: rest)) := va_putF (C := RX2) (T := TX2) (N := 4) (ty := .array .int) C0.1 C0.2.1 C0.2.2.2.2.1 zinX2 tyX2 tyX2_ok nmX2 C0.2.2.2.1 C0.2.2.2.2.2.1 hP hD hS q0 he rfl 2 (by decide) (C0.2.2.2.2.1 _ zw44) (fun _ h => h) rfl hin rfl (by decide +kernel) rfl rfl hl hdg (fun H1 l1 h1 _ h3 => kk H1 l1 h1 h3)
theorem zqX3_11 (C0 : zC p s m args c D cI cZ A cc nL RX3) (hin : meth.name = "<init>") (hP : va_P D vwCl ws H) (hD : va_D A ws) (hS : va_S A s.heap H locs) (q0 : Nat) {fs : List Value} (he : ws[q0]? = some (a, .inr (3, fs))) (hl : 0 < fs.length) {r : Nat} (hdg : decode cc pc = .ok (.putfield 11, 3)) (kk : ∀ (H1 : Heap) (locs1 : List Loc), va_P D vwCl (ws.set q0 (a, .inr (3, fs.set 0 (.ref r)))) H1 → va_S A s.heap H1 locs1 → W p l e R s m args below meth c H1 locs1 cells slots Q (F0 m (pc + 3) ls rest)) : W p l e R s m args below meth c H locs cells slots Q (F0 m pc ls (.ref r :: .ref a :: rest)) := va_putF (C := RX3) (T := TX3) (N := 14) (ty := .array .int) C0.1 C0.2.1 C0.2.2.2.2.1 zinX3 tyX3 tyX3_ok nmX3 C0.2.2.2.1 C0.2.2.2.2.2.1 hP hD hS q0 he rfl 0 (by decide) (C0.2.2.2.2.1 _ zw77) (fun _ h => h) rfl hin rfl (by decide +kernel) rfl rfl hl hdg (fun H1 l1 h1 _ h3 => kk H1 l1 h1 h3)
theorem zqX3_15 (C0 : zC p s m args c D cI cZ A cc nL RX3) (hin : meth.name = "<init>") (hP : va_P D vwCl ws H) (hD : va_D A ws) (hS : va_S A s.heap H locs) (q0 : Nat) {fs : List Value} (he : ws[q0]? = some (a, .inr (3, fs))) (hl : 1 < fs.length) {r : Nat} (hdg : decode cc pc = .ok (.putfield 15, 3)) (kk : ∀ (H1 : Heap) (locs1 : List Loc), va_P D vwCl (ws.set q0 (a, .inr (3, fs.set 1 (.ref r)))) H1 → va_S A s.heap H1 locs1 → W p l e R s m args below meth c H1 locs1 cells slots Q (F0 m (pc + 3) ls rest)) : W p l e R s m args below meth c H locs cells slots Q (F0 m pc ls (.ref r :: .ref a :: rest)) := va_putF (C := RX3) (T := TX3) (N := 14) (ty := .array .int) C0.1 C0.2.1 C0.2.2.2.2.1 zinX3 tyX3 tyX3_ok nmX3 C0.2.2.2.1 C0.2.2.2.2.2.1 hP hD hS q0 he rfl 1 (by decide) (C0.2.2.2.2.1 _ zw78) (fun _ h => h) rfl hin rfl (by decide +kernel) rfl rfl hl hdg (fun H1 l1 h1 _ h3 => kk H1 l1 h1 h3)
theorem zqX3_18 (C0 : zC p s m args c D cI cZ A cc nL RX3) (hin : meth.name = "<init>") (hP : va_P D vwCl ws H) (hD : va_D A ws) (hS : va_S A s.heap H locs) (q0 : Nat) {fs : List Value} (he : ws[q0]? = some (a, .inr (3, fs))) (hl : 2 < fs.length) {r : Nat} (hdg : decode cc pc = .ok (.putfield 18, 3)) (kk : ∀ (H1 : Heap) (locs1 : List Loc), va_P D vwCl (ws.set q0 (a, .inr (3, fs.set 2 (.ref r)))) H1 → va_S A s.heap H1 locs1 → W p l e R s m args below meth c H1 locs1 cells slots Q (F0 m (pc + 3) ls rest)) : W p l e R s m args below meth c H locs cells slots Q (F0 m pc ls (.ref r :: .ref a :: rest)) := va_putF (C := RX3) (T := TX3) (N := 14) (ty := .array .int) C0.1 C0.2.1 C0.2.2.2.2.1 zinX3 tyX3 tyX3_ok nmX3 C0.2.2.2.1 C0.2.2.2.2.2.1 hP hD hS q0 he rfl 2 (by decide) (C0.2.2.2.2.1 _ zw79) (fun _ h => h) rfl hin rfl (by decide +kernel) rfl rfl hl hdg (fun H1 l1 h1 _ h3 => kk H1 l1 h1 h3)
theorem zqX3_29 (C0 : zC p s m args c D cI cZ A cc nL RX3) (hin : meth.name = "<init>") (hP : va_P D vwCl ws H) (hD : va_D A ws) (hS : va_S A s.heap H locs) (q0 : Nat) {fs : List Value} (he : ws[q0]? = some (a, .inr (3, fs))) (hl : 3 < fs.length) {r : Nat} (hdg : decode cc pc = .ok (.putfield 29, 3)) (kk : ∀ (H1 : Heap) (locs1 : List Loc), va_P D vwCl (ws.set q0 (a, .inr (3, fs.set 3 (.ref r)))) H1 → va_S A s.heap H1 locs1 → W p l e R s m args below meth c H1 locs1 cells slots Q (F0 m (pc + 3) ls rest)) : W p l e R s m args below meth c H locs cells slots Q (F0 m pc ls (.ref r :: .ref a :: rest)) := va_putF (C := RX3) (T := TX3) (N := 14) (ty := .array .int) C0.1 C0.2.1 C0.2.2.2.2.1 zinX3 tyX3 tyX3_ok nmX3 C0.2.2.2.1 C0.2.2.2.2.2.1 hP hD hS q0 he rfl 3 (by decide) (C0.2.2.2.2.1 _ zw92) (fun _ h => h) rfl hin rfl (by decide +kernel) rfl rfl hl hdg (fun H1 l1 h1 _ h3 => kk H1 l1 h1 h3)
theorem znX3_32 (C0 : zC p s m args c D cI cZ A cc nL RX3) (hP : va_P D vwCl ws H) (hD : va_D A ws) (hS : va_S A s.heap H locs) (hcells : cells + 1 ≤ R.cells) (hslots : slots + 4 ≤ R.slots) (hdg : decode cc pc = .ok (.new 32, 3)) (kk : ∀ (q : Nat) (H1 : Heap), va_P D vwCl (ws ++ [(q, .inr (2, [.null, .null, .null, .int (zI 0)]))]) H1 → va_D A (ws ++ [(q, .inr (2, [.null, .null, .null, .int (zI 0)]))]) → va_S A s.heap H1 locs → W p l e R s m args below meth c H1 locs (cells + 1) (slots + 4) Q (F0 m (pc + 3) ls (.ref q :: rest))) : W p l e R s m args below meth c H locs cells slots Q (F0 m pc ls rest) := va_new (C := RX2) (T := TX2) (N := 4) (fs := [.null, .null, .null, .int (zI 0)]) C0.1 C0.2.1 C0.2.2.2.2.1 zinX2 tyX2 tyX2_ok C0.2.2.2.1 (C0.2.2.2.2.1 _ zw369) (C0.2.2.2.2.1 _ zw370) (C0.2.2.2.2.1 _ zw49) C0.2.2.2.2.2.1 hP hD hS C0.2.2.2.2.2.2 rfl (fun j hj => by rcases (show j = 0 ∨ j = 1 ∨ j = 2 ∨ j = 3 by omega) with rfl | rfl | rfl | rfl <;> rfl) hcells hslots hdg kk
theorem zqX3_35 (C0 : zC p s m args c D cI cZ A cc nL RX3) (hin : meth.name = "<init>") (hP : va_P D vwCl ws H) (hD : va_D A ws) (hS : va_S A s.heap H locs) (q0 : Nat) {fs : List Value} (he : ws[q0]? = some (a, .inr (3, fs))) (hl : 4 < fs.length) {r : Nat} (hdg : decode cc pc = .ok (.putfield 35, 3)) (kk : ∀ (H1 : Heap) (locs1 : List Loc), va_P D vwCl (ws.set q0 (a, .inr (3, fs.set 4 (.ref r)))) H1 → va_S A s.heap H1 locs1 → W p l e R s m args below meth c H1 locs1 cells slots Q (F0 m (pc + 3) ls rest)) : W p l e R s m args below meth c H locs cells slots Q (F0 m pc ls (.ref r :: .ref a :: rest)) := va_putF (C := RX3) (T := TX3) (N := 14) (ty := .object "CounterHouse$Row") C0.1 C0.2.1 C0.2.2.2.2.1 zinX3 tyX3 tyX3_ok nmX3 C0.2.2.2.1 C0.2.2.2.2.2.1 hP hD hS q0 he rfl 4 (by decide) (C0.2.2.2.2.1 _ zw67) (fun _ h => h) rfl hin rfl (by decide +kernel) rfl rfl hl hdg (fun H1 l1 h1 _ h3 => kk H1 l1 h1 h3)
theorem zqX3_39 (C0 : zC p s m args c D cI cZ A cc nL RX3) (hin : meth.name = "<init>") (hP : va_P D vwCl ws H) (hD : va_D A ws) (hS : va_S A s.heap H locs) (q0 : Nat) {fs : List Value} (he : ws[q0]? = some (a, .inr (3, fs))) (hl : 5 < fs.length) {r : Nat} (hdg : decode cc pc = .ok (.putfield 39, 3)) (kk : ∀ (H1 : Heap) (locs1 : List Loc), va_P D vwCl (ws.set q0 (a, .inr (3, fs.set 5 (.ref r)))) H1 → va_S A s.heap H1 locs1 → W p l e R s m args below meth c H1 locs1 cells slots Q (F0 m (pc + 3) ls rest)) : W p l e R s m args below meth c H locs cells slots Q (F0 m pc ls (.ref r :: .ref a :: rest)) := va_putF (C := RX3) (T := TX3) (N := 14) (ty := .object "CounterHouse$Row") C0.1 C0.2.1 C0.2.2.2.2.1 zinX3 tyX3 tyX3_ok nmX3 C0.2.2.2.1 C0.2.2.2.2.2.1 hP hD hS q0 he rfl 5 (by decide) (C0.2.2.2.2.1 _ zw80) (fun _ h => h) rfl hin rfl (by decide +kernel) rfl rfl hl hdg (fun H1 l1 h1 _ h3 => kk H1 l1 h1 h3)
theorem zqX3_42 (C0 : zC p s m args c D cI cZ A cc nL RX3) (hin : meth.name = "<init>") (hP : va_P D vwCl ws H) (hD : va_D A ws) (hS : va_S A s.heap H locs) (q0 : Nat) {fs : List Value} (he : ws[q0]? = some (a, .inr (3, fs))) (hl : 6 < fs.length) {r : Nat} (hdg : decode cc pc = .ok (.putfield 42, 3)) (kk : ∀ (H1 : Heap) (locs1 : List Loc), va_P D vwCl (ws.set q0 (a, .inr (3, fs.set 6 (.ref r)))) H1 → va_S A s.heap H1 locs1 → W p l e R s m args below meth c H1 locs1 cells slots Q (F0 m (pc + 3) ls rest)) : W p l e R s m args below meth c H locs cells slots Q (F0 m pc ls (.ref r :: .ref a :: rest)) := va_putF (C := RX3) (T := TX3) (N := 14) (ty := .object "CounterHouse$Row") C0.1 C0.2.1 C0.2.2.2.2.1 zinX3 tyX3 tyX3_ok nmX3 C0.2.2.2.1 C0.2.2.2.2.2.1 hP hD hS q0 he rfl 6 (by decide) (C0.2.2.2.2.1 _ zw181) (fun _ h => h) rfl hin rfl (by decide +kernel) rfl rfl hl hdg (fun H1 l1 h1 _ h3 => kk H1 l1 h1 h3)
theorem znX3_45 (C0 : zC p s m args c D cI cZ A cc nL RX3) (hP : va_P D vwCl ws H) (hD : va_D A ws) (hS : va_S A s.heap H locs) (hcells : cells + 1 ≤ R.cells) (hslots : slots + 7 ≤ R.slots) (hdg : decode cc pc = .ok (.new 45, 3)) (kk : ∀ (q : Nat) (H1 : Heap), va_P D vwCl (ws ++ [(q, .inr (0, [.null, .null, .null, .null, .null, .null, .int (zI 0)]))]) H1 → va_D A (ws ++ [(q, .inr (0, [.null, .null, .null, .null, .null, .null, .int (zI 0)]))]) → va_S A s.heap H1 locs → W p l e R s m args below meth c H1 locs (cells + 1) (slots + 7) Q (F0 m (pc + 3) ls (.ref q :: rest))) : W p l e R s m args below meth c H locs cells slots Q (F0 m pc ls rest) := va_new (C := RX0) (T := TX0) (N := 7) (fs := [.null, .null, .null, .null, .null, .null, .int (zI 0)]) C0.1 C0.2.1 C0.2.2.2.2.1 zinX0 tyX0 tyX0_ok C0.2.2.2.1 (C0.2.2.2.2.1 _ zw374) (C0.2.2.2.2.1 _ zw375) (C0.2.2.2.2.1 _ zw14) C0.2.2.2.2.2.1 hP hD hS C0.2.2.2.2.2.2 rfl (fun j hj => by rcases (show j = 0 ∨ j = 1 ∨ j = 2 ∨ j = 3 ∨ j = 4 ∨ j = 5 ∨ j = 6 by omega) with rfl | rfl | rfl | rfl | rfl | rfl | rfl <;> rfl) hcells hslots hdg kk
theorem zqX3_48 (C0 : zC p s m args c D cI cZ A cc nL RX3) (hin : meth.name = "<init>") (hP : va_P D vwCl ws H) (hD : va_D A ws) (hS : va_S A s.heap H locs) (q0 : Nat) {fs : List Value} (he : ws[q0]? = some (a, .inr (3, fs))) (hl : 7 < fs.length) {r : Nat} (hdg : decode cc pc = .ok (.putfield 48, 3)) (kk : ∀ (H1 : Heap) (locs1 : List Loc), va_P D vwCl (ws.set q0 (a, .inr (3, fs.set 7 (.ref r)))) H1 → va_S A s.heap H1 locs1 → W p l e R s m args below meth c H1 locs1 cells slots Q (F0 m (pc + 3) ls rest)) : W p l e R s m args below meth c H locs cells slots Q (F0 m pc ls (.ref r :: .ref a :: rest)) := va_putF (C := RX3) (T := TX3) (N := 14) (ty := .object "CounterHouse$Groups") C0.1 C0.2.1 C0.2.2.2.2.1 zinX3 tyX3 tyX3_ok nmX3 C0.2.2.2.1 C0.2.2.2.2.2.1 hP hD hS q0 he rfl 7 (by decide) (C0.2.2.2.2.1 _ zw116) (fun _ h => h) rfl hin rfl (by decide +kernel) rfl rfl hl hdg (fun H1 l1 h1 _ h3 => kk H1 l1 h1 h3)
theorem znX3_52 (C0 : zC p s m args c D cI cZ A cc nL RX3) (hP : va_P D vwCl ws H) (hD : va_D A ws) (hS : va_S A s.heap H locs) (hcells : cells + 1 ≤ R.cells) (hslots : slots + 5 ≤ R.slots) (hdg : decode cc pc = .ok (.new 52, 3)) (kk : ∀ (q : Nat) (H1 : Heap), va_P D vwCl (ws ++ [(q, .inr (1, [.null, .int (zI 0), .int (zI 0), .int (zI 0), .int (zI 0)]))]) H1 → va_D A (ws ++ [(q, .inr (1, [.null, .int (zI 0), .int (zI 0), .int (zI 0), .int (zI 0)]))]) → va_S A s.heap H1 locs → W p l e R s m args below meth c H1 locs (cells + 1) (slots + 5) Q (F0 m (pc + 3) ls (.ref q :: rest))) : W p l e R s m args below meth c H locs cells slots Q (F0 m pc ls rest) := va_new (C := RX1) (T := TX1) (N := 5) (fs := [.null, .int (zI 0), .int (zI 0), .int (zI 0), .int (zI 0)]) C0.1 C0.2.1 C0.2.2.2.2.1 zinX1 tyX1 tyX1_ok C0.2.2.2.1 (C0.2.2.2.2.1 _ zw379) (C0.2.2.2.2.1 _ zw380) (C0.2.2.2.2.1 _ zw35) C0.2.2.2.2.2.1 hP hD hS C0.2.2.2.2.2.2 rfl (fun j hj => by rcases (show j = 0 ∨ j = 1 ∨ j = 2 ∨ j = 3 ∨ j = 4 by omega) with rfl | rfl | rfl | rfl | rfl <;> rfl) hcells hslots hdg kk
theorem zqX3_55 (C0 : zC p s m args c D cI cZ A cc nL RX3) (hin : meth.name = "<init>") (hP : va_P D vwCl ws H) (hD : va_D A ws) (hS : va_S A s.heap H locs) (q0 : Nat) {fs : List Value} (he : ws[q0]? = some (a, .inr (3, fs))) (hl : 8 < fs.length) {r : Nat} (hdg : decode cc pc = .ok (.putfield 55, 3)) (kk : ∀ (H1 : Heap) (locs1 : List Loc), va_P D vwCl (ws.set q0 (a, .inr (3, fs.set 8 (.ref r)))) H1 → va_S A s.heap H1 locs1 → W p l e R s m args below meth c H1 locs1 cells slots Q (F0 m (pc + 3) ls rest)) : W p l e R s m args below meth c H locs cells slots Q (F0 m pc ls (.ref r :: .ref a :: rest)) := va_putF (C := RX3) (T := TX3) (N := 14) (ty := .object "CounterHouse$LineSearch") C0.1 C0.2.1 C0.2.2.2.2.1 zinX3 tyX3 tyX3_ok nmX3 C0.2.2.2.1 C0.2.2.2.2.2.1 hP hD hS q0 he rfl 8 (by decide) (C0.2.2.2.2.1 _ zw126) (fun _ h => h) rfl hin rfl (by decide +kernel) rfl rfl hl hdg (fun H1 l1 h1 _ h3 => kk H1 l1 h1 h3)
theorem zqX3_59 (C0 : zC p s m args c D cI cZ A cc nL RX3) (hin : meth.name = "<init>") (hP : va_P D vwCl ws H) (hD : va_D A ws) (hS : va_S A s.heap H locs) (q0 : Nat) {fs : List Value} (he : ws[q0]? = some (a, .inr (3, fs))) (hl : 9 < fs.length) {r : Nat} (hdg : decode cc pc = .ok (.putfield 59, 3)) (kk : ∀ (H1 : Heap) (locs1 : List Loc), va_P D vwCl (ws.set q0 (a, .inr (3, fs.set 9 (.ref r)))) H1 → va_S A s.heap H1 locs1 → W p l e R s m args below meth c H1 locs1 cells slots Q (F0 m (pc + 3) ls rest)) : W p l e R s m args below meth c H locs cells slots Q (F0 m pc ls (.ref r :: .ref a :: rest)) := va_putF (C := RX3) (T := TX3) (N := 14) (ty := .array .int) C0.1 C0.2.1 C0.2.2.2.2.1 zinX3 tyX3 tyX3_ok nmX3 C0.2.2.2.1 C0.2.2.2.2.2.1 hP hD hS q0 he rfl 9 (by decide) (C0.2.2.2.2.1 _ zw98) (fun _ h => h) rfl hin rfl (by decide +kernel) rfl rfl hl hdg (fun H1 l1 h1 _ h3 => kk H1 l1 h1 h3)
theorem zqX4_7 (C0 : zC p s m args c D cI cZ A cc nL RX4) (hin : meth.name = "<init>") (hP : va_P D vwCl ws H) (hD : va_D A ws) (hS : va_S A s.heap H locs) (q0 : Nat) {fs : List Value} (he : ws[q0]? = some (a, .inr (4, fs))) (hl : 0 < fs.length) {r : Nat} (hdg : decode cc pc = .ok (.putfield 7, 3)) (kk : ∀ (H1 : Heap) (locs1 : List Loc), va_P D vwCl (ws.set q0 (a, .inr (4, fs.set 0 (.ref r)))) H1 → va_S A s.heap H1 locs1 → W p l e R s m args below meth c H1 locs1 cells slots Q (F0 m (pc + 3) ls rest)) : W p l e R s m args below meth c H locs cells slots Q (F0 m pc ls (.ref r :: .ref a :: rest)) := va_putF (C := RX4) (T := TX4) (N := 28) (ty := .array .int) C0.1 C0.2.1 C0.2.2.2.2.1 zinX4 tyX4 tyX4_ok nmX4 C0.2.2.2.1 C0.2.2.2.2.2.1 hP hD hS q0 he rfl 0 (by decide) (C0.2.2.2.2.1 _ zw231) (fun _ h => h) rfl hin rfl (by decide +kernel) rfl rfl hl hdg (fun H1 l1 h1 _ h3 => kk H1 l1 h1 h3)
theorem zqX4_13 (C0 : zC p s m args c D cI cZ A cc nL RX4) (hin : meth.name = "<init>") (hP : va_P D vwCl ws H) (hD : va_D A ws) (hS : va_S A s.heap H locs) (q0 : Nat) {fs : List Value} (he : ws[q0]? = some (a, .inr (4, fs))) (hl : 1 < fs.length) {r : Nat} (hdg : decode cc pc = .ok (.putfield 13, 3)) (kk : ∀ (H1 : Heap) (locs1 : List Loc), va_P D vwCl (ws.set q0 (a, .inr (4, fs.set 1 (.ref r)))) H1 → va_S A s.heap H1 locs1 → W p l e R s m args below meth c H1 locs1 cells slots Q (F0 m (pc + 3) ls rest)) : W p l e R s m args below meth c H locs cells slots Q (F0 m pc ls (.ref r :: .ref a :: rest)) := va_putF (C := RX4) (T := TX4) (N := 28) (ty := .array .int) C0.1 C0.2.1 C0.2.2.2.2.1 zinX4 tyX4 tyX4_ok nmX4 C0.2.2.2.1 C0.2.2.2.2.2.1 hP hD hS q0 he rfl 1 (by decide) (C0.2.2.2.2.1 _ zw232) (fun _ h => h) rfl hin rfl (by decide +kernel) rfl rfl hl hdg (fun H1 l1 h1 _ h3 => kk H1 l1 h1 h3)
theorem zqX4_16 (C0 : zC p s m args c D cI cZ A cc nL RX4) (hin : meth.name = "<init>") (hP : va_P D vwCl ws H) (hD : va_D A ws) (hS : va_S A s.heap H locs) (q0 : Nat) {fs : List Value} (he : ws[q0]? = some (a, .inr (4, fs))) (hl : 2 < fs.length) {r : Nat} (hdg : decode cc pc = .ok (.putfield 16, 3)) (kk : ∀ (H1 : Heap) (locs1 : List Loc), va_P D vwCl (ws.set q0 (a, .inr (4, fs.set 2 (.ref r)))) H1 → va_S A s.heap H1 locs1 → W p l e R s m args below meth c H1 locs1 cells slots Q (F0 m (pc + 3) ls rest)) : W p l e R s m args below meth c H locs cells slots Q (F0 m pc ls (.ref r :: .ref a :: rest)) := va_putF (C := RX4) (T := TX4) (N := 28) (ty := .array .int) C0.1 C0.2.1 C0.2.2.2.2.1 zinX4 tyX4 tyX4_ok nmX4 C0.2.2.2.1 C0.2.2.2.2.2.1 hP hD hS q0 he rfl 2 (by decide) (C0.2.2.2.2.1 _ zw233) (fun _ h => h) rfl hin rfl (by decide +kernel) rfl rfl hl hdg (fun H1 l1 h1 _ h3 => kk H1 l1 h1 h3)
theorem zqX4_19 (C0 : zC p s m args c D cI cZ A cc nL RX4) (hin : meth.name = "<init>") (hP : va_P D vwCl ws H) (hD : va_D A ws) (hS : va_S A s.heap H locs) (q0 : Nat) {fs : List Value} (he : ws[q0]? = some (a, .inr (4, fs))) (hl : 3 < fs.length) {r : Nat} (hdg : decode cc pc = .ok (.putfield 19, 3)) (kk : ∀ (H1 : Heap) (locs1 : List Loc), va_P D vwCl (ws.set q0 (a, .inr (4, fs.set 3 (.ref r)))) H1 → va_S A s.heap H1 locs1 → W p l e R s m args below meth c H1 locs1 cells slots Q (F0 m (pc + 3) ls rest)) : W p l e R s m args below meth c H locs cells slots Q (F0 m pc ls (.ref r :: .ref a :: rest)) := va_putF (C := RX4) (T := TX4) (N := 28) (ty := .array .int) C0.1 C0.2.1 C0.2.2.2.2.1 zinX4 tyX4 tyX4_ok nmX4 C0.2.2.2.1 C0.2.2.2.2.2.1 hP hD hS q0 he rfl 3 (by decide) (C0.2.2.2.2.1 _ zw236) (fun _ h => h) rfl hin rfl (by decide +kernel) rfl rfl hl hdg (fun H1 l1 h1 _ h3 => kk H1 l1 h1 h3)
theorem zqX4_22 (C0 : zC p s m args c D cI cZ A cc nL RX4) (hin : meth.name = "<init>") (hP : va_P D vwCl ws H) (hD : va_D A ws) (hS : va_S A s.heap H locs) (q0 : Nat) {fs : List Value} (he : ws[q0]? = some (a, .inr (4, fs))) (hl : 4 < fs.length) {r : Nat} (hdg : decode cc pc = .ok (.putfield 22, 3)) (kk : ∀ (H1 : Heap) (locs1 : List Loc), va_P D vwCl (ws.set q0 (a, .inr (4, fs.set 4 (.ref r)))) H1 → va_S A s.heap H1 locs1 → W p l e R s m args below meth c H1 locs1 cells slots Q (F0 m (pc + 3) ls rest)) : W p l e R s m args below meth c H locs cells slots Q (F0 m pc ls (.ref r :: .ref a :: rest)) := va_putF (C := RX4) (T := TX4) (N := 28) (ty := .array .int) C0.1 C0.2.1 C0.2.2.2.2.1 zinX4 tyX4 tyX4_ok nmX4 C0.2.2.2.1 C0.2.2.2.2.2.1 hP hD hS q0 he rfl 4 (by decide) (C0.2.2.2.2.1 _ zw234) (fun _ h => h) rfl hin rfl (by decide +kernel) rfl rfl hl hdg (fun H1 l1 h1 _ h3 => kk H1 l1 h1 h3)
theorem zqX4_25 (C0 : zC p s m args c D cI cZ A cc nL RX4) (hin : meth.name = "<init>") (hP : va_P D vwCl ws H) (hD : va_D A ws) (hS : va_S A s.heap H locs) (q0 : Nat) {fs : List Value} (he : ws[q0]? = some (a, .inr (4, fs))) (hl : 5 < fs.length) {r : Nat} (hdg : decode cc pc = .ok (.putfield 25, 3)) (kk : ∀ (H1 : Heap) (locs1 : List Loc), va_P D vwCl (ws.set q0 (a, .inr (4, fs.set 5 (.ref r)))) H1 → va_S A s.heap H1 locs1 → W p l e R s m args below meth c H1 locs1 cells slots Q (F0 m (pc + 3) ls rest)) : W p l e R s m args below meth c H locs cells slots Q (F0 m pc ls (.ref r :: .ref a :: rest)) := va_putF (C := RX4) (T := TX4) (N := 28) (ty := .array .int) C0.1 C0.2.1 C0.2.2.2.2.1 zinX4 tyX4 tyX4_ok nmX4 C0.2.2.2.1 C0.2.2.2.2.2.1 hP hD hS q0 he rfl 5 (by decide) (C0.2.2.2.2.1 _ zw235) (fun _ h => h) rfl hin rfl (by decide +kernel) rfl rfl hl hdg (fun H1 l1 h1 _ h3 => kk H1 l1 h1 h3)
theorem zqX4_28 (C0 : zC p s m args c D cI cZ A cc nL RX4) (hin : meth.name = "<init>") (hP : va_P D vwCl ws H) (hD : va_D A ws) (hS : va_S A s.heap H locs) (q0 : Nat) {fs : List Value} (he : ws[q0]? = some (a, .inr (4, fs))) (hl : 7 < fs.length) {r : Nat} (hdg : decode cc pc = .ok (.putfield 28, 3)) (kk : ∀ (H1 : Heap) (locs1 : List Loc), va_P D vwCl (ws.set q0 (a, .inr (4, fs.set 7 (.ref r)))) H1 → va_S A s.heap H1 locs1 → W p l e R s m args below meth c H1 locs1 cells slots Q (F0 m (pc + 3) ls rest)) : W p l e R s m args below meth c H locs cells slots Q (F0 m pc ls (.ref r :: .ref a :: rest)) := va_putF (C := RX4) (T := TX4) (N := 28) (ty := .array .int) C0.1 C0.2.1 C0.2.2.2.2.1 zinX4 tyX4 tyX4_ok nmX4 C0.2.2.2.1 C0.2.2.2.2.2.1 hP hD hS q0 he rfl 7 (by decide) (C0.2.2.2.2.1 _ zw242) (fun _ h => h) rfl hin rfl (by decide +kernel) rfl rfl hl hdg (fun H1 l1 h1 _ h3 => kk H1 l1 h1 h3)
theorem zqX4_31 (C0 : zC p s m args c D cI cZ A cc nL RX4) (hin : meth.name = "<init>") (hP : va_P D vwCl ws H) (hD : va_D A ws) (hS : va_S A s.heap H locs) (q0 : Nat) {fs : List Value} (he : ws[q0]? = some (a, .inr (4, fs))) (hl : 8 < fs.length) {r : Nat} (hdg : decode cc pc = .ok (.putfield 31, 3)) (kk : ∀ (H1 : Heap) (locs1 : List Loc), va_P D vwCl (ws.set q0 (a, .inr (4, fs.set 8 (.ref r)))) H1 → va_S A s.heap H1 locs1 → W p l e R s m args below meth c H1 locs1 cells slots Q (F0 m (pc + 3) ls rest)) : W p l e R s m args below meth c H locs cells slots Q (F0 m pc ls (.ref r :: .ref a :: rest)) := va_putF (C := RX4) (T := TX4) (N := 28) (ty := .array .int) C0.1 C0.2.1 C0.2.2.2.2.1 zinX4 tyX4 tyX4_ok nmX4 C0.2.2.2.1 C0.2.2.2.2.2.1 hP hD hS q0 he rfl 8 (by decide) (C0.2.2.2.2.1 _ zw237) (fun _ h => h) rfl hin rfl (by decide +kernel) rfl rfl hl hdg (fun H1 l1 h1 _ h3 => kk H1 l1 h1 h3)
theorem zqX4_34 (C0 : zC p s m args c D cI cZ A cc nL RX4) (hin : meth.name = "<init>") (hP : va_P D vwCl ws H) (hD : va_D A ws) (hS : va_S A s.heap H locs) (q0 : Nat) {fs : List Value} (he : ws[q0]? = some (a, .inr (4, fs))) (hl : 9 < fs.length) {r : Nat} (hdg : decode cc pc = .ok (.putfield 34, 3)) (kk : ∀ (H1 : Heap) (locs1 : List Loc), va_P D vwCl (ws.set q0 (a, .inr (4, fs.set 9 (.ref r)))) H1 → va_S A s.heap H1 locs1 → W p l e R s m args below meth c H1 locs1 cells slots Q (F0 m (pc + 3) ls rest)) : W p l e R s m args below meth c H locs cells slots Q (F0 m pc ls (.ref r :: .ref a :: rest)) := va_putF (C := RX4) (T := TX4) (N := 28) (ty := .array .int) C0.1 C0.2.1 C0.2.2.2.2.1 zinX4 tyX4 tyX4_ok nmX4 C0.2.2.2.1 C0.2.2.2.2.2.1 hP hD hS q0 he rfl 9 (by decide) (C0.2.2.2.2.1 _ zw243) (fun _ h => h) rfl hin rfl (by decide +kernel) rfl rfl hl hdg (fun H1 l1 h1 _ h3 => kk H1 l1 h1 h3)
theorem zqX4_37 (C0 : zC p s m args c D cI cZ A cc nL RX4) (hin : meth.name = "<init>") (hP : va_P D vwCl ws H) (hD : va_D A ws) (hS : va_S A s.heap H locs) (q0 : Nat) {fs : List Value} (he : ws[q0]? = some (a, .inr (4, fs))) (hl : 12 < fs.length) {r : Nat} (hdg : decode cc pc = .ok (.putfield 37, 3)) (kk : ∀ (H1 : Heap) (locs1 : List Loc), va_P D vwCl (ws.set q0 (a, .inr (4, fs.set 12 (.ref r)))) H1 → va_S A s.heap H1 locs1 → W p l e R s m args below meth c H1 locs1 cells slots Q (F0 m (pc + 3) ls rest)) : W p l e R s m args below meth c H locs cells slots Q (F0 m pc ls (.ref r :: .ref a :: rest)) := va_putF (C := RX4) (T := TX4) (N := 28) (ty := .array .boolean) C0.1 C0.2.1 C0.2.2.2.2.1 zinX4 tyX4 tyX4_ok nmX4 C0.2.2.2.1 C0.2.2.2.2.2.1 hP hD hS q0 he rfl 12 (by decide) (C0.2.2.2.2.1 _ zw254) (fun _ h => h) rfl hin rfl (by decide +kernel) rfl rfl hl hdg (fun H1 l1 h1 _ h3 => kk H1 l1 h1 h3)
theorem zqX4_41 (C0 : zC p s m args c D cI cZ A cc nL RX4) (hin : meth.name = "<init>") (hP : va_P D vwCl ws H) (hD : va_D A ws) (hS : va_S A s.heap H locs) (q0 : Nat) {fs : List Value} (he : ws[q0]? = some (a, .inr (4, fs))) (hl : 13 < fs.length) {r : Nat} (hdg : decode cc pc = .ok (.putfield 41, 3)) (kk : ∀ (H1 : Heap) (locs1 : List Loc), va_P D vwCl (ws.set q0 (a, .inr (4, fs.set 13 (.ref r)))) H1 → va_S A s.heap H1 locs1 → W p l e R s m args below meth c H1 locs1 cells slots Q (F0 m (pc + 3) ls rest)) : W p l e R s m args below meth c H locs cells slots Q (F0 m pc ls (.ref r :: .ref a :: rest)) := va_putF (C := RX4) (T := TX4) (N := 28) (ty := .array .int) C0.1 C0.2.1 C0.2.2.2.2.1 zinX4 tyX4 tyX4_ok nmX4 C0.2.2.2.1 C0.2.2.2.2.2.1 hP hD hS q0 he rfl 13 (by decide) (C0.2.2.2.2.1 _ zw253) (fun _ h => h) rfl hin rfl (by decide +kernel) rfl rfl hl hdg (fun H1 l1 h1 _ h3 => kk H1 l1 h1 h3)
theorem zqX4_44 (C0 : zC p s m args c D cI cZ A cc nL RX4) (hin : meth.name = "<init>") (hP : va_P D vwCl ws H) (hD : va_D A ws) (hS : va_S A s.heap H locs) (q0 : Nat) {fs : List Value} (he : ws[q0]? = some (a, .inr (4, fs))) (hl : 15 < fs.length) {r : Nat} (hdg : decode cc pc = .ok (.putfield 44, 3)) (kk : ∀ (H1 : Heap) (locs1 : List Loc), va_P D vwCl (ws.set q0 (a, .inr (4, fs.set 15 (.ref r)))) H1 → va_S A s.heap H1 locs1 → W p l e R s m args below meth c H1 locs1 cells slots Q (F0 m (pc + 3) ls rest)) : W p l e R s m args below meth c H locs cells slots Q (F0 m pc ls (.ref r :: .ref a :: rest)) := va_putF (C := RX4) (T := TX4) (N := 28) (ty := .array .int) C0.1 C0.2.1 C0.2.2.2.2.1 zinX4 tyX4 tyX4_ok nmX4 C0.2.2.2.1 C0.2.2.2.2.2.1 hP hD hS q0 he rfl 15 (by decide) (C0.2.2.2.2.1 _ zw267) (fun _ h => h) rfl hin rfl (by decide +kernel) rfl rfl hl hdg (fun H1 l1 h1 _ h3 => kk H1 l1 h1 h3)
theorem zqX4_47 (C0 : zC p s m args c D cI cZ A cc nL RX4) (hin : meth.name = "<init>") (hP : va_P D vwCl ws H) (hD : va_D A ws) (hS : va_S A s.heap H locs) (q0 : Nat) {fs : List Value} (he : ws[q0]? = some (a, .inr (4, fs))) (hl : 16 < fs.length) {r : Nat} (hdg : decode cc pc = .ok (.putfield 47, 3)) (kk : ∀ (H1 : Heap) (locs1 : List Loc), va_P D vwCl (ws.set q0 (a, .inr (4, fs.set 16 (.ref r)))) H1 → va_S A s.heap H1 locs1 → W p l e R s m args below meth c H1 locs1 cells slots Q (F0 m (pc + 3) ls rest)) : W p l e R s m args below meth c H locs cells slots Q (F0 m pc ls (.ref r :: .ref a :: rest)) := va_putF (C := RX4) (T := TX4) (N := 28) (ty := .array .int) C0.1 C0.2.1 C0.2.2.2.2.1 zinX4 tyX4 tyX4_ok nmX4 C0.2.2.2.1 C0.2.2.2.2.2.1 hP hD hS q0 he rfl 16 (by decide) (C0.2.2.2.2.1 _ zw268) (fun _ h => h) rfl hin rfl (by decide +kernel) rfl rfl hl hdg (fun H1 l1 h1 _ h3 => kk H1 l1 h1 h3)
theorem zqX4_50 (C0 : zC p s m args c D cI cZ A cc nL RX4) (hin : meth.name = "<init>") (hP : va_P D vwCl ws H) (hD : va_D A ws) (hS : va_S A s.heap H locs) (q0 : Nat) {fs : List Value} (he : ws[q0]? = some (a, .inr (4, fs))) (hl : 17 < fs.length) {r : Nat} (hdg : decode cc pc = .ok (.putfield 50, 3)) (kk : ∀ (H1 : Heap) (locs1 : List Loc), va_P D vwCl (ws.set q0 (a, .inr (4, fs.set 17 (.ref r)))) H1 → va_S A s.heap H1 locs1 → W p l e R s m args below meth c H1 locs1 cells slots Q (F0 m (pc + 3) ls rest)) : W p l e R s m args below meth c H locs cells slots Q (F0 m pc ls (.ref r :: .ref a :: rest)) := va_putF (C := RX4) (T := TX4) (N := 28) (ty := .array .int) C0.1 C0.2.1 C0.2.2.2.2.1 zinX4 tyX4 tyX4_ok nmX4 C0.2.2.2.1 C0.2.2.2.2.2.1 hP hD hS q0 he rfl 17 (by decide) (C0.2.2.2.2.1 _ zw285) (fun _ h => h) rfl hin rfl (by decide +kernel) rfl rfl hl hdg (fun H1 l1 h1 _ h3 => kk H1 l1 h1 h3)
theorem zqX4_53 (C0 : zC p s m args c D cI cZ A cc nL RX4) (hin : meth.name = "<init>") (hP : va_P D vwCl ws H) (hD : va_D A ws) (hS : va_S A s.heap H locs) (q0 : Nat) {fs : List Value} (he : ws[q0]? = some (a, .inr (4, fs))) (hl : 20 < fs.length) {r : Nat} (hdg : decode cc pc = .ok (.putfield 53, 3)) (kk : ∀ (H1 : Heap) (locs1 : List Loc), va_P D vwCl (ws.set q0 (a, .inr (4, fs.set 20 (.ref r)))) H1 → va_S A s.heap H1 locs1 → W p l e R s m args below meth c H1 locs1 cells slots Q (F0 m (pc + 3) ls rest)) : W p l e R s m args below meth c H locs cells slots Q (F0 m pc ls (.ref r :: .ref a :: rest)) := va_putF (C := RX4) (T := TX4) (N := 28) (ty := .array .int) C0.1 C0.2.1 C0.2.2.2.2.1 zinX4 tyX4 tyX4_ok nmX4 C0.2.2.2.1 C0.2.2.2.2.2.1 hP hD hS q0 he rfl 20 (by decide) (C0.2.2.2.2.1 _ zw284) (fun _ h => h) rfl hin rfl (by decide +kernel) rfl rfl hl hdg (fun H1 l1 h1 _ h3 => kk H1 l1 h1 h3)
end ZW
end
section
set_option maxHeartbeats 4000000 in
set_option maxRecDepth 100000 in
theorem zmX0_init (l : Launch) (D : va_G) (cI cZ : ClassId) (a0 : Nat) (sz : Nat) : Met l yX0_init (zW yX0_init cX0_init 1 none) rmX0_init (va_Pc [.ref a0] (zPre D cI cZ [(a0, .inr (0, [.null, .null, .null, .null, .null, .null, .int (zI 0)]))] sz)) (va_Qv (fun (_ : Unit) => True) (fun _ t => ∃ h : Nat → Nat, h 0 = a0 ∧ va_P D vwCl (wG (h 0) (h 1) (h 2) (h 3) (h 4) (h 5) (h 6) cI (fun _ => 0) (fun _ => 0) (fun _ => 0) (fun _ => 0) (fun _ => 0) (fun _ => 0) 0) t.heap ∧ va_D (va_A [(a0, .inr (0, [.null, .null, .null, .null, .null, .null, .int (zI 0)]))] sz) (wG (h 0) (h 1) (h 2) (h 3) (h 4) (h 5) (h 6) cI (fun _ => 0) (fun _ => 0) (fun _ => 0) (fun _ => 0) (fun _ => 0) (fun _ => 0) 0)) (va_A [(a0, .inr (0, [.null, .null, .null, .null, .null, .null, .int (zI 0)]))] sz)) 6 1441 (va_A [(a0, .inr (0, [.null, .null, .null, .null, .null, .null, .int (zI 0)]))] sz) := by
  refine z_enter_c (own := RX0) (B := fun A H => ∃ h : Nat → Nat, h 0 = a0 ∧ va_P D vwCl (wG (h 0) (h 1) (h 2) (h 3) (h 4) (h 5) (h 6) cI (fun _ => 0) (fun _ => 0) (fun _ => 0) (fun _ => 0) (fun _ => 0) (fun _ => 0) 0) H ∧ va_D A (wG (h 0) (h 1) (h 2) (h 3) (h 4) (h 5) (h 6) cI (fun _ => 0) (fun _ => 0) (fun _ => 0) (fun _ => 0) (fun _ => 0) (fun _ => 0) 0)) (by decide +kernel) rfl rfl (Nat.le_of_ble_eq_true rfl) ?_
  intro p e s m args below meth c A Q C0 hin hP hD hS hret ls hl
  have hl : lv_has ls 1 [(0, .ref a0)] := hl
  refine z_aload_n C0 dX0_init_0 rfl (lv_at hl 0 rfl) ?_
  refine z_objinit C0 hl.1 zw355 zw356 zw357 dX0_init_1 (by decide) (Nat.le_of_ble_eq_true rfl) ?_
  refine z_aload_n C0 dX0_init_4 rfl (lv_at hl 0 rfl) ?_
  refine z_sipush C0 dX0_init_5 (by decide +kernel) ?_
  refine z_newi C0 hP (zD hD rfl) hS 241 (by decide) zw358 (Nat.le_of_ble_eq_true rfl) (Nat.le_of_ble_eq_true rfl) (by decide) dX0_init_8 (fun q1 H hP hD hS => ?_)
  have hP : va_P D vwCl [(a0, .inr (0, [.null, .null, .null, .null, .null, .null, .int (zI 0)])), (q1, .inl (cI, 241, .inl (za (fun _ => 0))))] _ := hP
  have hD : va_D A [(a0, .inr (0, [.null, .null, .null, .null, .null, .null, .int (zI 0)])), (q1, .inl (cI, 241, .inl (za (fun _ => 0))))] := hD
  refine zqX0_9 C0 hin hP (zD hD rfl) hS 0 rfl (Nat.le_of_ble_eq_true rfl) dX0_init_10 (fun H locs hP hS => ?_)
  have hP : va_P D vwCl [(a0, .inr (0, [.ref q1, .null, .null, .null, .null, .null, .int (zI 0)])), (q1, .inl (cI, 241, .inl (za (fun _ => 0))))] _ := hP
  refine z_aload_n C0 dX0_init_13 rfl (lv_at hl 0 rfl) ?_
  refine z_sipush C0 dX0_init_14 (by decide +kernel) ?_
  refine z_newi C0 hP (zD hD rfl) hS 240 (by decide) zw358 (Nat.le_of_ble_eq_true rfl) (Nat.le_of_ble_eq_true rfl) (by decide) dX0_init_17 (fun q2 H hP hD hS => ?_)
  have hP : va_P D vwCl [(a0, .inr (0, [.ref q1, .null, .null, .null, .null, .null, .int (zI 0)])), (q1, .inl (cI, 241, .inl (za (fun _ => 0)))), (q2, .inl (cI, 240, .inl (za (fun _ => 0))))] _ := hP
  have hD : va_D A [(a0, .inr (0, [.ref q1, .null, .null, .null, .null, .null, .int (zI 0)])), (q1, .inl (cI, 241, .inl (za (fun _ => 0)))), (q2, .inl (cI, 240, .inl (za (fun _ => 0))))] := hD
  refine zqX0_15 C0 hin hP (zD hD rfl) hS 0 rfl (Nat.le_of_ble_eq_true rfl) dX0_init_19 (fun H locs hP hS => ?_)
  have hP : va_P D vwCl [(a0, .inr (0, [.ref q1, .ref q2, .null, .null, .null, .null, .int (zI 0)])), (q1, .inl (cI, 241, .inl (za (fun _ => 0)))), (q2, .inl (cI, 240, .inl (za (fun _ => 0))))] _ := hP
  refine z_aload_n C0 dX0_init_22 rfl (lv_at hl 0 rfl) ?_
  refine z_sipush C0 dX0_init_23 (by decide +kernel) ?_
  refine z_newi C0 hP (zD hD rfl) hS 240 (by decide) zw358 (Nat.le_of_ble_eq_true rfl) (Nat.le_of_ble_eq_true rfl) (by decide) dX0_init_26 (fun q3 H hP hD hS => ?_)
  have hP : va_P D vwCl [(a0, .inr (0, [.ref q1, .ref q2, .null, .null, .null, .null, .int (zI 0)])), (q1, .inl (cI, 241, .inl (za (fun _ => 0)))), (q2, .inl (cI, 240, .inl (za (fun _ => 0)))), (q3, .inl (cI, 240, .inl (za (fun _ => 0))))] _ := hP
  have hD : va_D A [(a0, .inr (0, [.ref q1, .ref q2, .null, .null, .null, .null, .int (zI 0)])), (q1, .inl (cI, 241, .inl (za (fun _ => 0)))), (q2, .inl (cI, 240, .inl (za (fun _ => 0)))), (q3, .inl (cI, 240, .inl (za (fun _ => 0))))] := hD
  refine zqX0_18 C0 hin hP (zD hD rfl) hS 0 rfl (Nat.le_of_ble_eq_true rfl) dX0_init_28 (fun H locs hP hS => ?_)
  have hP : va_P D vwCl [(a0, .inr (0, [.ref q1, .ref q2, .ref q3, .null, .null, .null, .int (zI 0)])), (q1, .inl (cI, 241, .inl (za (fun _ => 0)))), (q2, .inl (cI, 240, .inl (za (fun _ => 0)))), (q3, .inl (cI, 240, .inl (za (fun _ => 0))))] _ := hP
  refine z_aload_n C0 dX0_init_31 rfl (lv_at hl 0 rfl) ?_
  refine z_sipush C0 dX0_init_32 (by decide +kernel) ?_
  refine z_newi C0 hP (zD hD rfl) hS 240 (by decide) zw358 (Nat.le_of_ble_eq_true rfl) (Nat.le_of_ble_eq_true rfl) (by decide) dX0_init_35 (fun q4 H hP hD hS => ?_)
  have hP : va_P D vwCl [(a0, .inr (0, [.ref q1, .ref q2, .ref q3, .null, .null, .null, .int (zI 0)])), (q1, .inl (cI, 241, .inl (za (fun _ => 0)))), (q2, .inl (cI, 240, .inl (za (fun _ => 0)))), (q3, .inl (cI, 240, .inl (za (fun _ => 0)))), (q4, .inl (cI, 240, .inl (za (fun _ => 0))))] _ := hP
  have hD : va_D A [(a0, .inr (0, [.ref q1, .ref q2, .ref q3, .null, .null, .null, .int (zI 0)])), (q1, .inl (cI, 241, .inl (za (fun _ => 0)))), (q2, .inl (cI, 240, .inl (za (fun _ => 0)))), (q3, .inl (cI, 240, .inl (za (fun _ => 0)))), (q4, .inl (cI, 240, .inl (za (fun _ => 0))))] := hD
  refine zqX0_21 C0 hin hP (zD hD rfl) hS 0 rfl (Nat.le_of_ble_eq_true rfl) dX0_init_37 (fun H locs hP hS => ?_)
  have hP : va_P D vwCl [(a0, .inr (0, [.ref q1, .ref q2, .ref q3, .ref q4, .null, .null, .int (zI 0)])), (q1, .inl (cI, 241, .inl (za (fun _ => 0)))), (q2, .inl (cI, 240, .inl (za (fun _ => 0)))), (q3, .inl (cI, 240, .inl (za (fun _ => 0)))), (q4, .inl (cI, 240, .inl (za (fun _ => 0))))] _ := hP
  refine z_aload_n C0 dX0_init_40 rfl (lv_at hl 0 rfl) ?_
  refine z_sipush C0 dX0_init_41 (by decide +kernel) ?_
  refine z_newi C0 hP (zD hD rfl) hS 240 (by decide) zw358 (Nat.le_of_ble_eq_true rfl) (Nat.le_of_ble_eq_true rfl) (by decide) dX0_init_44 (fun q5 H hP hD hS => ?_)
  have hP : va_P D vwCl [(a0, .inr (0, [.ref q1, .ref q2, .ref q3, .ref q4, .null, .null, .int (zI 0)])), (q1, .inl (cI, 241, .inl (za (fun _ => 0)))), (q2, .inl (cI, 240, .inl (za (fun _ => 0)))), (q3, .inl (cI, 240, .inl (za (fun _ => 0)))), (q4, .inl (cI, 240, .inl (za (fun _ => 0)))), (q5, .inl (cI, 240, .inl (za (fun _ => 0))))] _ := hP
  have hD : va_D A [(a0, .inr (0, [.ref q1, .ref q2, .ref q3, .ref q4, .null, .null, .int (zI 0)])), (q1, .inl (cI, 241, .inl (za (fun _ => 0)))), (q2, .inl (cI, 240, .inl (za (fun _ => 0)))), (q3, .inl (cI, 240, .inl (za (fun _ => 0)))), (q4, .inl (cI, 240, .inl (za (fun _ => 0)))), (q5, .inl (cI, 240, .inl (za (fun _ => 0))))] := hD
  refine zqX0_24 C0 hin hP (zD hD rfl) hS 0 rfl (Nat.le_of_ble_eq_true rfl) dX0_init_46 (fun H locs hP hS => ?_)
  have hP : va_P D vwCl [(a0, .inr (0, [.ref q1, .ref q2, .ref q3, .ref q4, .ref q5, .null, .int (zI 0)])), (q1, .inl (cI, 241, .inl (za (fun _ => 0)))), (q2, .inl (cI, 240, .inl (za (fun _ => 0)))), (q3, .inl (cI, 240, .inl (za (fun _ => 0)))), (q4, .inl (cI, 240, .inl (za (fun _ => 0)))), (q5, .inl (cI, 240, .inl (za (fun _ => 0))))] _ := hP
  refine z_aload_n C0 dX0_init_49 rfl (lv_at hl 0 rfl) ?_
  refine z_sipush C0 dX0_init_50 (by decide +kernel) ?_
  refine z_newi C0 hP (zD hD rfl) hS 240 (by decide) zw358 (Nat.le_of_ble_eq_true rfl) (Nat.le_of_ble_eq_true rfl) (by decide) dX0_init_53 (fun q6 H hP hD hS => ?_)
  have hP : va_P D vwCl [(a0, .inr (0, [.ref q1, .ref q2, .ref q3, .ref q4, .ref q5, .null, .int (zI 0)])), (q1, .inl (cI, 241, .inl (za (fun _ => 0)))), (q2, .inl (cI, 240, .inl (za (fun _ => 0)))), (q3, .inl (cI, 240, .inl (za (fun _ => 0)))), (q4, .inl (cI, 240, .inl (za (fun _ => 0)))), (q5, .inl (cI, 240, .inl (za (fun _ => 0)))), (q6, .inl (cI, 240, .inl (za (fun _ => 0))))] _ := hP
  have hD : va_D A [(a0, .inr (0, [.ref q1, .ref q2, .ref q3, .ref q4, .ref q5, .null, .int (zI 0)])), (q1, .inl (cI, 241, .inl (za (fun _ => 0)))), (q2, .inl (cI, 240, .inl (za (fun _ => 0)))), (q3, .inl (cI, 240, .inl (za (fun _ => 0)))), (q4, .inl (cI, 240, .inl (za (fun _ => 0)))), (q5, .inl (cI, 240, .inl (za (fun _ => 0)))), (q6, .inl (cI, 240, .inl (za (fun _ => 0))))] := hD
  refine zqX0_27 C0 hin hP (zD hD rfl) hS 0 rfl (Nat.le_of_ble_eq_true rfl) dX0_init_55 (fun H locs hP hS => ?_)
  have hP : va_P D vwCl [(a0, .inr (0, [.ref q1, .ref q2, .ref q3, .ref q4, .ref q5, .ref q6, .int (zI 0)])), (q1, .inl (cI, 241, .inl (za (fun _ => 0)))), (q2, .inl (cI, 240, .inl (za (fun _ => 0)))), (q3, .inl (cI, 240, .inl (za (fun _ => 0)))), (q4, .inl (cI, 240, .inl (za (fun _ => 0)))), (q5, .inl (cI, 240, .inl (za (fun _ => 0)))), (q6, .inl (cI, 240, .inl (za (fun _ => 0))))] _ := hP
  exact hret ⟨fun j => [a0, q1, q2, q3, q4, q5, q6].getD j 0, rfl, hP, zD hD rfl⟩ hS dX0_init_58
set_option maxHeartbeats 4000000 in
set_option maxRecDepth 100000 in
theorem zmX1_init (l : Launch) (D : va_G) (cI cZ : ClassId) (a0 : Nat) (sz : Nat) : Met l yX1_init (zW yX1_init cX1_init 1 none) rmX1_init (va_Pc [.ref a0] (zPre D cI cZ [(a0, .inr (1, [.null, .int (zI 0), .int (zI 0), .int (zI 0), .int (zI 0)]))] sz)) (va_Qv (fun (_ : Unit) => True) (fun _ t => ∃ h : Nat → Nat, h 0 = a0 ∧ va_P D vwCl (wS (h 0) (h 1) cI (fun _ => 0) 0 0 0 0) t.heap ∧ va_D (va_A [(a0, .inr (1, [.null, .int (zI 0), .int (zI 0), .int (zI 0), .int (zI 0)]))] sz) (wS (h 0) (h 1) cI (fun _ => 0) 0 0 0 0)) (va_A [(a0, .inr (1, [.null, .int (zI 0), .int (zI 0), .int (zI 0), .int (zI 0)]))] sz)) 1 6 (va_A [(a0, .inr (1, [.null, .int (zI 0), .int (zI 0), .int (zI 0), .int (zI 0)]))] sz) := by
  refine z_enter_c (own := RX1) (B := fun A H => ∃ h : Nat → Nat, h 0 = a0 ∧ va_P D vwCl (wS (h 0) (h 1) cI (fun _ => 0) 0 0 0 0) H ∧ va_D A (wS (h 0) (h 1) cI (fun _ => 0) 0 0 0 0)) (by decide +kernel) rfl rfl (Nat.le_of_ble_eq_true rfl) ?_
  intro p e s m args below meth c A Q C0 hin hP hD hS hret ls hl
  have hl : lv_has ls 1 [(0, .ref a0)] := hl
  refine z_aload_n C0 dX1_init_0 rfl (lv_at hl 0 rfl) ?_
  refine z_objinit C0 hl.1 zw359 zw356 zw357 dX1_init_1 (by decide) (Nat.le_of_ble_eq_true rfl) ?_
  refine z_aload_n C0 dX1_init_4 rfl (lv_at hl 0 rfl) ?_
  refine z_bipush C0 dX1_init_5 (by decide +kernel) ?_
  refine z_newi C0 hP (zD hD rfl) hS 6 (by decide) zw358 (Nat.le_of_ble_eq_true rfl) (Nat.le_of_ble_eq_true rfl) (by decide) dX1_init_7 (fun q1 H hP hD hS => ?_)
  have hP : va_P D vwCl [(a0, .inr (1, [.null, .int (zI 0), .int (zI 0), .int (zI 0), .int (zI 0)])), (q1, .inl (cI, 6, .inl (za (fun _ => 0))))] _ := hP
  have hD : va_D A [(a0, .inr (1, [.null, .int (zI 0), .int (zI 0), .int (zI 0), .int (zI 0)])), (q1, .inl (cI, 6, .inl (za (fun _ => 0))))] := hD
  refine zqX1_9 C0 hin hP (zD hD rfl) hS 0 rfl (Nat.le_of_ble_eq_true rfl) dX1_init_9 (fun H locs hP hS => ?_)
  have hP : va_P D vwCl [(a0, .inr (1, [.ref q1, .int (zI 0), .int (zI 0), .int (zI 0), .int (zI 0)])), (q1, .inl (cI, 6, .inl (za (fun _ => 0))))] _ := hP
  exact hret ⟨fun j => [a0, q1].getD j 0, rfl, hP, zD hD rfl⟩ hS dX1_init_12
set_option maxHeartbeats 4000000 in
set_option maxRecDepth 100000 in
theorem zmX2_init (l : Launch) (D : va_G) (cI cZ : ClassId) (a0 : Nat) (sz : Nat) : Met l yX2_init (zW yX2_init cX2_init 1 none) rmX2_init (va_Pc [.ref a0] (zPre D cI cZ [(a0, .inr (2, [.null, .null, .null, .int (zI 0)]))] sz)) (va_Qv (fun (_ : Unit) => True) (fun _ t => ∃ h : Nat → Nat, h 0 = a0 ∧ va_P D vwCl (wR (h 0) (h 1) (h 2) (h 3) cI (fun _ => 0) (fun _ => 0) (fun _ => 0) 0) t.heap ∧ va_D (va_A [(a0, .inr (2, [.null, .null, .null, .int (zI 0)]))] sz) (wR (h 0) (h 1) (h 2) (h 3) cI (fun _ => 0) (fun _ => 0) (fun _ => 0) 0)) (va_A [(a0, .inr (2, [.null, .null, .null, .int (zI 0)]))] sz)) 3 720 (va_A [(a0, .inr (2, [.null, .null, .null, .int (zI 0)]))] sz) := by
  refine z_enter_c (own := RX2) (B := fun A H => ∃ h : Nat → Nat, h 0 = a0 ∧ va_P D vwCl (wR (h 0) (h 1) (h 2) (h 3) cI (fun _ => 0) (fun _ => 0) (fun _ => 0) 0) H ∧ va_D A (wR (h 0) (h 1) (h 2) (h 3) cI (fun _ => 0) (fun _ => 0) (fun _ => 0) 0)) (by decide +kernel) rfl rfl (Nat.le_of_ble_eq_true rfl) ?_
  intro p e s m args below meth c A Q C0 hin hP hD hS hret ls hl
  have hl : lv_has ls 1 [(0, .ref a0)] := hl
  refine z_aload_n C0 dX2_init_0 rfl (lv_at hl 0 rfl) ?_
  refine z_objinit C0 hl.1 zw360 zw356 zw357 dX2_init_1 (by decide) (Nat.le_of_ble_eq_true rfl) ?_
  refine z_aload_n C0 dX2_init_4 rfl (lv_at hl 0 rfl) ?_
  refine z_sipush C0 dX2_init_5 (by decide +kernel) ?_
  refine z_newi C0 hP (zD hD rfl) hS 240 (by decide) zw358 (Nat.le_of_ble_eq_true rfl) (Nat.le_of_ble_eq_true rfl) (by decide) dX2_init_8 (fun q1 H hP hD hS => ?_)
  have hP : va_P D vwCl [(a0, .inr (2, [.null, .null, .null, .int (zI 0)])), (q1, .inl (cI, 240, .inl (za (fun _ => 0))))] _ := hP
  have hD : va_D A [(a0, .inr (2, [.null, .null, .null, .int (zI 0)])), (q1, .inl (cI, 240, .inl (za (fun _ => 0))))] := hD
  refine zqX2_9 C0 hin hP (zD hD rfl) hS 0 rfl (Nat.le_of_ble_eq_true rfl) dX2_init_10 (fun H locs hP hS => ?_)
  have hP : va_P D vwCl [(a0, .inr (2, [.ref q1, .null, .null, .int (zI 0)])), (q1, .inl (cI, 240, .inl (za (fun _ => 0))))] _ := hP
  refine z_aload_n C0 dX2_init_13 rfl (lv_at hl 0 rfl) ?_
  refine z_sipush C0 dX2_init_14 (by decide +kernel) ?_
  refine z_newi C0 hP (zD hD rfl) hS 240 (by decide) zw358 (Nat.le_of_ble_eq_true rfl) (Nat.le_of_ble_eq_true rfl) (by decide) dX2_init_17 (fun q2 H hP hD hS => ?_)
  have hP : va_P D vwCl [(a0, .inr (2, [.ref q1, .null, .null, .int (zI 0)])), (q1, .inl (cI, 240, .inl (za (fun _ => 0)))), (q2, .inl (cI, 240, .inl (za (fun _ => 0))))] _ := hP
  have hD : va_D A [(a0, .inr (2, [.ref q1, .null, .null, .int (zI 0)])), (q1, .inl (cI, 240, .inl (za (fun _ => 0)))), (q2, .inl (cI, 240, .inl (za (fun _ => 0))))] := hD
  refine zqX2_15 C0 hin hP (zD hD rfl) hS 0 rfl (Nat.le_of_ble_eq_true rfl) dX2_init_19 (fun H locs hP hS => ?_)
  have hP : va_P D vwCl [(a0, .inr (2, [.ref q1, .ref q2, .null, .int (zI 0)])), (q1, .inl (cI, 240, .inl (za (fun _ => 0)))), (q2, .inl (cI, 240, .inl (za (fun _ => 0))))] _ := hP
  refine z_aload_n C0 dX2_init_22 rfl (lv_at hl 0 rfl) ?_
  refine z_sipush C0 dX2_init_23 (by decide +kernel) ?_
  refine z_newi C0 hP (zD hD rfl) hS 240 (by decide) zw358 (Nat.le_of_ble_eq_true rfl) (Nat.le_of_ble_eq_true rfl) (by decide) dX2_init_26 (fun q3 H hP hD hS => ?_)
  have hP : va_P D vwCl [(a0, .inr (2, [.ref q1, .ref q2, .null, .int (zI 0)])), (q1, .inl (cI, 240, .inl (za (fun _ => 0)))), (q2, .inl (cI, 240, .inl (za (fun _ => 0)))), (q3, .inl (cI, 240, .inl (za (fun _ => 0))))] _ := hP
  have hD : va_D A [(a0, .inr (2, [.ref q1, .ref q2, .null, .int (zI 0)])), (q1, .inl (cI, 240, .inl (za (fun _ => 0)))), (q2, .inl (cI, 240, .inl (za (fun _ => 0)))), (q3, .inl (cI, 240, .inl (za (fun _ => 0))))] := hD
  refine zqX2_18 C0 hin hP (zD hD rfl) hS 0 rfl (Nat.le_of_ble_eq_true rfl) dX2_init_28 (fun H locs hP hS => ?_)
  have hP : va_P D vwCl [(a0, .inr (2, [.ref q1, .ref q2, .ref q3, .int (zI 0)])), (q1, .inl (cI, 240, .inl (za (fun _ => 0)))), (q2, .inl (cI, 240, .inl (za (fun _ => 0)))), (q3, .inl (cI, 240, .inl (za (fun _ => 0))))] _ := hP
  exact hret ⟨fun j => [a0, q1, q2, q3].getD j 0, rfl, hP, zD hD rfl⟩ hS dX2_init_31
set_option maxHeartbeats 4000000 in
set_option maxRecDepth 100000 in
theorem zmX3_init (l : Launch) (D : va_G) (cI cZ : ClassId) (a0 : Nat) (sz : Nat) : Met l yX3_init (zW yX3_init cX3_init 1 none) rmX3_init (va_Pc [.ref a0] (zPreC D cI cZ [(a0, .inr (3, [.null, .null, .null, .null, .null, .null, .null, .null, .null, .null, .int (zI 0), .int (zI 0), .int (zI 0), .int (zI 0)]))] sz)) (va_Qv (fun (_ : Unit) => True) (fun _ t => ∃ h : Nat → Nat, h 0 = a0 ∧ va_P D vwCl (wX h cI (fun _ => 0) (fun _ => 0) (fun _ => 0) zS3 (zk_R (fun _ => 0) (fun _ => 0) (fun _ => 0) 0) (zk_R (fun _ => 0) (fun _ => 0) (fun _ => 0) 0) (zk_R (fun _ => 0) (fun _ => 0) (fun _ => 0) 0) (zk_G (fun _ => 0) (fun _ => 0) (fun _ => 0) (fun _ => 0) (fun _ => 0) (fun _ => 0) 0) (zk_S (fun _ => 0) 0 0 0 0) (fun _ => 0) 0 0 0 0) t.heap ∧ va_D (va_A [(a0, .inr (3, [.null, .null, .null, .null, .null, .null, .null, .null, .null, .null, .int (zI 0), .int (zI 0), .int (zI 0), .int (zI 0)]))] sz) (wX h cI (fun _ => 0) (fun _ => 0) (fun _ => 0) zS3 (zk_R (fun _ => 0) (fun _ => 0) (fun _ => 0) 0) (zk_R (fun _ => 0) (fun _ => 0) (fun _ => 0) 0) (zk_R (fun _ => 0) (fun _ => 0) (fun _ => 0) 0) (zk_G (fun _ => 0) (fun _ => 0) (fun _ => 0) (fun _ => 0) (fun _ => 0) (fun _ => 0) 0) (zk_S (fun _ => 0) 0 0 0 0) (fun _ => 0) 0 0 0 0)) (va_A [(a0, .inr (3, [.null, .null, .null, .null, .null, .null, .null, .null, .null, .null, .int (zI 0), .int (zI 0), .int (zI 0), .int (zI 0)]))] sz)) 26 3659 (va_A [(a0, .inr (3, [.null, .null, .null, .null, .null, .null, .null, .null, .null, .null, .int (zI 0), .int (zI 0), .int (zI 0), .int (zI 0)]))] sz) := by
  refine z_enterC_c (own := RX3) (B := fun A H => ∃ h : Nat → Nat, h 0 = a0 ∧ va_P D vwCl (wX h cI (fun _ => 0) (fun _ => 0) (fun _ => 0) zS3 (zk_R (fun _ => 0) (fun _ => 0) (fun _ => 0) 0) (zk_R (fun _ => 0) (fun _ => 0) (fun _ => 0) 0) (zk_R (fun _ => 0) (fun _ => 0) (fun _ => 0) 0) (zk_G (fun _ => 0) (fun _ => 0) (fun _ => 0) (fun _ => 0) (fun _ => 0) (fun _ => 0) 0) (zk_S (fun _ => 0) 0 0 0 0) (fun _ => 0) 0 0 0 0) H ∧ va_D A (wX h cI (fun _ => 0) (fun _ => 0) (fun _ => 0) zS3 (zk_R (fun _ => 0) (fun _ => 0) (fun _ => 0) 0) (zk_R (fun _ => 0) (fun _ => 0) (fun _ => 0) 0) (zk_R (fun _ => 0) (fun _ => 0) (fun _ => 0) 0) (zk_G (fun _ => 0) (fun _ => 0) (fun _ => 0) (fun _ => 0) (fun _ => 0) (fun _ => 0) 0) (zk_S (fun _ => 0) 0 0 0 0) (fun _ => 0) 0 0 0 0)) (by decide +kernel) rfl rfl (Nat.le_of_ble_eq_true rfl) ?_
  intro p e s m args below meth c A Q C0 hin hP hD hS hcl hret ls hl
  have hl : lv_has ls 1 [(0, .ref a0)] := hl
  refine z_aload_n C0 dX3_init_0 rfl (lv_at hl 0 rfl) ?_
  refine z_objinit C0 hl.1 zw361 zw356 zw357 dX3_init_1 (by decide) (Nat.le_of_ble_eq_true rfl) ?_
  refine z_aload_n C0 dX3_init_4 rfl (lv_at hl 0 rfl) ?_
  refine z_bipush C0 dX3_init_5 (by decide +kernel) ?_
  refine z_newi C0 hP (zD hD rfl) hS 6 (by decide) zw358 (Nat.le_of_ble_eq_true rfl) (Nat.le_of_ble_eq_true rfl) (by decide) dX3_init_7 (fun q1 H hP hD hS => ?_)
  have hP : va_P D vwCl [(a0, .inr (3, [.null, .null, .null, .null, .null, .null, .null, .null, .null, .null, .int (zI 0), .int (zI 0), .int (zI 0), .int (zI 0)])), (q1, .inl (cI, 6, .inl (za (fun _ => 0))))] _ := hP
  have hD : va_D A [(a0, .inr (3, [.null, .null, .null, .null, .null, .null, .null, .null, .null, .null, .int (zI 0), .int (zI 0), .int (zI 0), .int (zI 0)])), (q1, .inl (cI, 6, .inl (za (fun _ => 0))))] := hD
  refine zqX3_11 C0 hin hP (zD hD rfl) hS 0 rfl (Nat.le_of_ble_eq_true rfl) dX3_init_9 (fun H locs hP hS => ?_)
  have hP : va_P D vwCl [(a0, .inr (3, [.ref q1, .null, .null, .null, .null, .null, .null, .null, .null, .null, .int (zI 0), .int (zI 0), .int (zI 0), .int (zI 0)])), (q1, .inl (cI, 6, .inl (za (fun _ => 0))))] _ := hP
  refine z_aload_n C0 dX3_init_12 rfl (lv_at hl 0 rfl) ?_
  refine z_bipush C0 dX3_init_13 (by decide +kernel) ?_
  refine z_newi C0 hP (zD hD rfl) hS 6 (by decide) zw358 (Nat.le_of_ble_eq_true rfl) (Nat.le_of_ble_eq_true rfl) (by decide) dX3_init_15 (fun q2 H hP hD hS => ?_)
  have hP : va_P D vwCl [(a0, .inr (3, [.ref q1, .null, .null, .null, .null, .null, .null, .null, .null, .null, .int (zI 0), .int (zI 0), .int (zI 0), .int (zI 0)])), (q1, .inl (cI, 6, .inl (za (fun _ => 0)))), (q2, .inl (cI, 6, .inl (za (fun _ => 0))))] _ := hP
  have hD : va_D A [(a0, .inr (3, [.ref q1, .null, .null, .null, .null, .null, .null, .null, .null, .null, .int (zI 0), .int (zI 0), .int (zI 0), .int (zI 0)])), (q1, .inl (cI, 6, .inl (za (fun _ => 0)))), (q2, .inl (cI, 6, .inl (za (fun _ => 0))))] := hD
  refine zqX3_15 C0 hin hP (zD hD rfl) hS 0 rfl (Nat.le_of_ble_eq_true rfl) dX3_init_17 (fun H locs hP hS => ?_)
  have hP : va_P D vwCl [(a0, .inr (3, [.ref q1, .ref q2, .null, .null, .null, .null, .null, .null, .null, .null, .int (zI 0), .int (zI 0), .int (zI 0), .int (zI 0)])), (q1, .inl (cI, 6, .inl (za (fun _ => 0)))), (q2, .inl (cI, 6, .inl (za (fun _ => 0))))] _ := hP
  refine z_aload_n C0 dX3_init_20 rfl (lv_at hl 0 rfl) ?_
  refine z_bipush C0 dX3_init_21 (by decide +kernel) ?_
  refine z_newi C0 hP (zD hD rfl) hS 6 (by decide) zw358 (Nat.le_of_ble_eq_true rfl) (Nat.le_of_ble_eq_true rfl) (by decide) dX3_init_23 (fun q3 H hP hD hS => ?_)
  have hP : va_P D vwCl [(a0, .inr (3, [.ref q1, .ref q2, .null, .null, .null, .null, .null, .null, .null, .null, .int (zI 0), .int (zI 0), .int (zI 0), .int (zI 0)])), (q1, .inl (cI, 6, .inl (za (fun _ => 0)))), (q2, .inl (cI, 6, .inl (za (fun _ => 0)))), (q3, .inl (cI, 6, .inl (za (fun _ => 0))))] _ := hP
  have hD : va_D A [(a0, .inr (3, [.ref q1, .ref q2, .null, .null, .null, .null, .null, .null, .null, .null, .int (zI 0), .int (zI 0), .int (zI 0), .int (zI 0)])), (q1, .inl (cI, 6, .inl (za (fun _ => 0)))), (q2, .inl (cI, 6, .inl (za (fun _ => 0)))), (q3, .inl (cI, 6, .inl (za (fun _ => 0))))] := hD
  refine zqX3_18 C0 hin hP (zD hD rfl) hS 0 rfl (Nat.le_of_ble_eq_true rfl) dX3_init_25 (fun H locs hP hS => ?_)
  have hP : va_P D vwCl [(a0, .inr (3, [.ref q1, .ref q2, .ref q3, .null, .null, .null, .null, .null, .null, .null, .int (zI 0), .int (zI 0), .int (zI 0), .int (zI 0)])), (q1, .inl (cI, 6, .inl (za (fun _ => 0)))), (q2, .inl (cI, 6, .inl (za (fun _ => 0)))), (q3, .inl (cI, 6, .inl (za (fun _ => 0))))] _ := hP
  refine z_aload_n C0 dX3_init_28 rfl (lv_at hl 0 rfl) ?_
  obtain ⟨t0, cell0, cC0, e1, e2, e3, e4, e5, e6, e7, e8, e9⟩ := hcl
  refine z_gets C0 e1 hS zw362 dX3_init_29 ?_
  refine z_clone C0 hl.1 hP (zD hD rfl) hS e2 e3 e4 e5 e6 e7 e8 e9 zw363 zw364 zw365 zw366 zw367 (by decide) (Nat.le_of_ble_eq_true rfl) (Nat.le_of_ble_eq_true rfl) (Nat.le_of_ble_eq_true rfl) dX3_init_32 (fun q4 H hP hD hS => ?_)
  have hP : va_P D vwCl [(a0, .inr (3, [.ref q1, .ref q2, .ref q3, .null, .null, .null, .null, .null, .null, .null, .int (zI 0), .int (zI 0), .int (zI 0), .int (zI 0)])), (q1, .inl (cI, 6, .inl (za (fun _ => 0)))), (q2, .inl (cI, 6, .inl (za (fun _ => 0)))), (q3, .inl (cI, 6, .inl (za (fun _ => 0)))), (q4, .inl (cI, 4, .inl (za zS3)))] _ := hP
  have hD : va_D A [(a0, .inr (3, [.ref q1, .ref q2, .ref q3, .null, .null, .null, .null, .null, .null, .null, .int (zI 0), .int (zI 0), .int (zI 0), .int (zI 0)])), (q1, .inl (cI, 6, .inl (za (fun _ => 0)))), (q2, .inl (cI, 6, .inl (za (fun _ => 0)))), (q3, .inl (cI, 6, .inl (za (fun _ => 0)))), (q4, .inl (cI, 4, .inl (za zS3)))] := hD
  refine z_cast C0 zw368 hP 4 rfl dX3_init_35 ?_
  refine zqX3_29 C0 hin hP (zD hD rfl) hS 0 rfl (Nat.le_of_ble_eq_true rfl) dX3_init_38 (fun H locs hP hS => ?_)
  have hP : va_P D vwCl [(a0, .inr (3, [.ref q1, .ref q2, .ref q3, .ref q4, .null, .null, .null, .null, .null, .null, .int (zI 0), .int (zI 0), .int (zI 0), .int (zI 0)])), (q1, .inl (cI, 6, .inl (za (fun _ => 0)))), (q2, .inl (cI, 6, .inl (za (fun _ => 0)))), (q3, .inl (cI, 6, .inl (za (fun _ => 0)))), (q4, .inl (cI, 4, .inl (za zS3)))] _ := hP
  refine z_aload_n C0 dX3_init_41 rfl (lv_at hl 0 rfl) ?_
  refine znX3_32 C0 hP (zD hD rfl) hS (Nat.le_of_ble_eq_true rfl) (Nat.le_of_ble_eq_true rfl) dX3_init_42 (fun q5 H hP hD hS => ?_)
  refine z_dup C0 dX3_init_45 rfl ?_
  refine z_callI (rest := [.ref q5, .ref a0]) (wr := [(a0, .inr (3, [.ref q1, .ref q2, .ref q3, .ref q4, .null, .null, .null, .null, .null, .null, .int (zI 0), .int (zI 0), .int (zI 0), .int (zI 0)])), (q1, .inl (cI, 6, .inl (za (fun _ => 0)))), (q2, .inl (cI, 6, .inl (za (fun _ => 0)))), (q3, .inl (cI, 6, .inl (za (fun _ => 0)))), (q4, .inl (cI, 4, .inl (za zS3)))]) (wc := [(q5, .inr (2, [.null, .null, .null, .int (zI 0)]))]) (wf := fun h => (wR (h 0) (h 1) (h 2) (h 3) cI (fun _ => 0) (fun _ => 0) (fun _ => 0) 0)) C0 hP (zD hD rfl) hS (zmX2_init l D cI cZ q5 _) (z_cwI zw371 zw372 zw49 zw373 rfl rfl rfl (by decide +kernel) ⟨by decide, by decide⟩ C0.2.2.2.2.1) hl.1 (Nat.le_of_ble_eq_true rfl) dX3_init_46 ⟨Nat.le_of_ble_eq_true rfl, Nat.le_of_ble_eq_true rfl⟩ (fun h6 H_h6 locs h6e hP_h6 hD_h6 hS_h6 => ?_)
  subst h6e
  have hP : va_P D vwCl [(a0, .inr (3, [.ref q1, .ref q2, .ref q3, .ref q4, .null, .null, .null, .null, .null, .null, .int (zI 0), .int (zI 0), .int (zI 0), .int (zI 0)])), (q1, .inl (cI, 6, .inl (za (fun _ => 0)))), (q2, .inl (cI, 6, .inl (za (fun _ => 0)))), (q3, .inl (cI, 6, .inl (za (fun _ => 0)))), (q4, .inl (cI, 4, .inl (za zS3))), ((h6 0), .inr (2, [.ref (h6 1), .ref (h6 2), .ref (h6 3), .int (zI 0)])), ((h6 1), .inl (cI, 240, .inl (za (fun _ => 0)))), ((h6 2), .inl (cI, 240, .inl (za (fun _ => 0)))), ((h6 3), .inl (cI, 240, .inl (za (fun _ => 0))))] H_h6 := hP_h6
  have hD : va_D A [(a0, .inr (3, [.ref q1, .ref q2, .ref q3, .ref q4, .null, .null, .null, .null, .null, .null, .int (zI 0), .int (zI 0), .int (zI 0), .int (zI 0)])), (q1, .inl (cI, 6, .inl (za (fun _ => 0)))), (q2, .inl (cI, 6, .inl (za (fun _ => 0)))), (q3, .inl (cI, 6, .inl (za (fun _ => 0)))), (q4, .inl (cI, 4, .inl (za zS3))), ((h6 0), .inr (2, [.ref (h6 1), .ref (h6 2), .ref (h6 3), .int (zI 0)])), ((h6 1), .inl (cI, 240, .inl (za (fun _ => 0)))), ((h6 2), .inl (cI, 240, .inl (za (fun _ => 0)))), ((h6 3), .inl (cI, 240, .inl (za (fun _ => 0))))] := hD_h6
  have hS := hS_h6
  refine zqX3_35 C0 hin hP (zD hD rfl) hS 0 rfl (Nat.le_of_ble_eq_true rfl) dX3_init_49 (fun H locs hP hS => ?_)
  have hP : va_P D vwCl [(a0, .inr (3, [.ref q1, .ref q2, .ref q3, .ref q4, .ref (h6 0), .null, .null, .null, .null, .null, .int (zI 0), .int (zI 0), .int (zI 0), .int (zI 0)])), (q1, .inl (cI, 6, .inl (za (fun _ => 0)))), (q2, .inl (cI, 6, .inl (za (fun _ => 0)))), (q3, .inl (cI, 6, .inl (za (fun _ => 0)))), (q4, .inl (cI, 4, .inl (za zS3))), ((h6 0), .inr (2, [.ref (h6 1), .ref (h6 2), .ref (h6 3), .int (zI 0)])), ((h6 1), .inl (cI, 240, .inl (za (fun _ => 0)))), ((h6 2), .inl (cI, 240, .inl (za (fun _ => 0)))), ((h6 3), .inl (cI, 240, .inl (za (fun _ => 0))))] _ := hP
  refine z_aload_n C0 dX3_init_52 rfl (lv_at hl 0 rfl) ?_
  refine znX3_32 C0 hP (zD hD rfl) hS (Nat.le_of_ble_eq_true rfl) (Nat.le_of_ble_eq_true rfl) dX3_init_53 (fun q7 H hP hD hS => ?_)
  refine z_dup C0 dX3_init_56 rfl ?_
  refine z_callI (rest := [.ref q7, .ref a0]) (wr := [(a0, .inr (3, [.ref q1, .ref q2, .ref q3, .ref q4, .ref (h6 0), .null, .null, .null, .null, .null, .int (zI 0), .int (zI 0), .int (zI 0), .int (zI 0)])), (q1, .inl (cI, 6, .inl (za (fun _ => 0)))), (q2, .inl (cI, 6, .inl (za (fun _ => 0)))), (q3, .inl (cI, 6, .inl (za (fun _ => 0)))), (q4, .inl (cI, 4, .inl (za zS3))), ((h6 0), .inr (2, [.ref (h6 1), .ref (h6 2), .ref (h6 3), .int (zI 0)])), ((h6 1), .inl (cI, 240, .inl (za (fun _ => 0)))), ((h6 2), .inl (cI, 240, .inl (za (fun _ => 0)))), ((h6 3), .inl (cI, 240, .inl (za (fun _ => 0))))]) (wc := [(q7, .inr (2, [.null, .null, .null, .int (zI 0)]))]) (wf := fun h => (wR (h 0) (h 1) (h 2) (h 3) cI (fun _ => 0) (fun _ => 0) (fun _ => 0) 0)) C0 hP (zD hD rfl) hS (zmX2_init l D cI cZ q7 _) (z_cwI zw371 zw372 zw49 zw373 rfl rfl rfl (by decide +kernel) ⟨by decide, by decide⟩ C0.2.2.2.2.1) hl.1 (Nat.le_of_ble_eq_true rfl) dX3_init_57 ⟨Nat.le_of_ble_eq_true rfl, Nat.le_of_ble_eq_true rfl⟩ (fun h8 H_h8 locs h8e hP_h8 hD_h8 hS_h8 => ?_)
  subst h8e
  have hP : va_P D vwCl [(a0, .inr (3, [.ref q1, .ref q2, .ref q3, .ref q4, .ref (h6 0), .null, .null, .null, .null, .null, .int (zI 0), .int (zI 0), .int (zI 0), .int (zI 0)])), (q1, .inl (cI, 6, .inl (za (fun _ => 0)))), (q2, .inl (cI, 6, .inl (za (fun _ => 0)))), (q3, .inl (cI, 6, .inl (za (fun _ => 0)))), (q4, .inl (cI, 4, .inl (za zS3))), ((h6 0), .inr (2, [.ref (h6 1), .ref (h6 2), .ref (h6 3), .int (zI 0)])), ((h6 1), .inl (cI, 240, .inl (za (fun _ => 0)))), ((h6 2), .inl (cI, 240, .inl (za (fun _ => 0)))), ((h6 3), .inl (cI, 240, .inl (za (fun _ => 0)))), ((h8 0), .inr (2, [.ref (h8 1), .ref (h8 2), .ref (h8 3), .int (zI 0)])), ((h8 1), .inl (cI, 240, .inl (za (fun _ => 0)))), ((h8 2), .inl (cI, 240, .inl (za (fun _ => 0)))), ((h8 3), .inl (cI, 240, .inl (za (fun _ => 0))))] H_h8 := hP_h8
  have hD : va_D A [(a0, .inr (3, [.ref q1, .ref q2, .ref q3, .ref q4, .ref (h6 0), .null, .null, .null, .null, .null, .int (zI 0), .int (zI 0), .int (zI 0), .int (zI 0)])), (q1, .inl (cI, 6, .inl (za (fun _ => 0)))), (q2, .inl (cI, 6, .inl (za (fun _ => 0)))), (q3, .inl (cI, 6, .inl (za (fun _ => 0)))), (q4, .inl (cI, 4, .inl (za zS3))), ((h6 0), .inr (2, [.ref (h6 1), .ref (h6 2), .ref (h6 3), .int (zI 0)])), ((h6 1), .inl (cI, 240, .inl (za (fun _ => 0)))), ((h6 2), .inl (cI, 240, .inl (za (fun _ => 0)))), ((h6 3), .inl (cI, 240, .inl (za (fun _ => 0)))), ((h8 0), .inr (2, [.ref (h8 1), .ref (h8 2), .ref (h8 3), .int (zI 0)])), ((h8 1), .inl (cI, 240, .inl (za (fun _ => 0)))), ((h8 2), .inl (cI, 240, .inl (za (fun _ => 0)))), ((h8 3), .inl (cI, 240, .inl (za (fun _ => 0))))] := hD_h8
  have hS := hS_h8
  refine zqX3_39 C0 hin hP (zD hD rfl) hS 0 rfl (Nat.le_of_ble_eq_true rfl) dX3_init_60 (fun H locs hP hS => ?_)
  have hP : va_P D vwCl [(a0, .inr (3, [.ref q1, .ref q2, .ref q3, .ref q4, .ref (h6 0), .ref (h8 0), .null, .null, .null, .null, .int (zI 0), .int (zI 0), .int (zI 0), .int (zI 0)])), (q1, .inl (cI, 6, .inl (za (fun _ => 0)))), (q2, .inl (cI, 6, .inl (za (fun _ => 0)))), (q3, .inl (cI, 6, .inl (za (fun _ => 0)))), (q4, .inl (cI, 4, .inl (za zS3))), ((h6 0), .inr (2, [.ref (h6 1), .ref (h6 2), .ref (h6 3), .int (zI 0)])), ((h6 1), .inl (cI, 240, .inl (za (fun _ => 0)))), ((h6 2), .inl (cI, 240, .inl (za (fun _ => 0)))), ((h6 3), .inl (cI, 240, .inl (za (fun _ => 0)))), ((h8 0), .inr (2, [.ref (h8 1), .ref (h8 2), .ref (h8 3), .int (zI 0)])), ((h8 1), .inl (cI, 240, .inl (za (fun _ => 0)))), ((h8 2), .inl (cI, 240, .inl (za (fun _ => 0)))), ((h8 3), .inl (cI, 240, .inl (za (fun _ => 0))))] _ := hP
  refine z_aload_n C0 dX3_init_63 rfl (lv_at hl 0 rfl) ?_
  refine znX3_32 C0 hP (zD hD rfl) hS (Nat.le_of_ble_eq_true rfl) (Nat.le_of_ble_eq_true rfl) dX3_init_64 (fun q9 H hP hD hS => ?_)
  refine z_dup C0 dX3_init_67 rfl ?_
  refine z_callI (rest := [.ref q9, .ref a0]) (wr := [(a0, .inr (3, [.ref q1, .ref q2, .ref q3, .ref q4, .ref (h6 0), .ref (h8 0), .null, .null, .null, .null, .int (zI 0), .int (zI 0), .int (zI 0), .int (zI 0)])), (q1, .inl (cI, 6, .inl (za (fun _ => 0)))), (q2, .inl (cI, 6, .inl (za (fun _ => 0)))), (q3, .inl (cI, 6, .inl (za (fun _ => 0)))), (q4, .inl (cI, 4, .inl (za zS3))), ((h6 0), .inr (2, [.ref (h6 1), .ref (h6 2), .ref (h6 3), .int (zI 0)])), ((h6 1), .inl (cI, 240, .inl (za (fun _ => 0)))), ((h6 2), .inl (cI, 240, .inl (za (fun _ => 0)))), ((h6 3), .inl (cI, 240, .inl (za (fun _ => 0)))), ((h8 0), .inr (2, [.ref (h8 1), .ref (h8 2), .ref (h8 3), .int (zI 0)])), ((h8 1), .inl (cI, 240, .inl (za (fun _ => 0)))), ((h8 2), .inl (cI, 240, .inl (za (fun _ => 0)))), ((h8 3), .inl (cI, 240, .inl (za (fun _ => 0))))]) (wc := [(q9, .inr (2, [.null, .null, .null, .int (zI 0)]))]) (wf := fun h => (wR (h 0) (h 1) (h 2) (h 3) cI (fun _ => 0) (fun _ => 0) (fun _ => 0) 0)) C0 hP (zD hD rfl) hS (zmX2_init l D cI cZ q9 _) (z_cwI zw371 zw372 zw49 zw373 rfl rfl rfl (by decide +kernel) ⟨by decide, by decide⟩ C0.2.2.2.2.1) hl.1 (Nat.le_of_ble_eq_true rfl) dX3_init_68 ⟨Nat.le_of_ble_eq_true rfl, Nat.le_of_ble_eq_true rfl⟩ (fun h10 H_h10 locs h10e hP_h10 hD_h10 hS_h10 => ?_)
  subst h10e
  have hP : va_P D vwCl [(a0, .inr (3, [.ref q1, .ref q2, .ref q3, .ref q4, .ref (h6 0), .ref (h8 0), .null, .null, .null, .null, .int (zI 0), .int (zI 0), .int (zI 0), .int (zI 0)])), (q1, .inl (cI, 6, .inl (za (fun _ => 0)))), (q2, .inl (cI, 6, .inl (za (fun _ => 0)))), (q3, .inl (cI, 6, .inl (za (fun _ => 0)))), (q4, .inl (cI, 4, .inl (za zS3))), ((h6 0), .inr (2, [.ref (h6 1), .ref (h6 2), .ref (h6 3), .int (zI 0)])), ((h6 1), .inl (cI, 240, .inl (za (fun _ => 0)))), ((h6 2), .inl (cI, 240, .inl (za (fun _ => 0)))), ((h6 3), .inl (cI, 240, .inl (za (fun _ => 0)))), ((h8 0), .inr (2, [.ref (h8 1), .ref (h8 2), .ref (h8 3), .int (zI 0)])), ((h8 1), .inl (cI, 240, .inl (za (fun _ => 0)))), ((h8 2), .inl (cI, 240, .inl (za (fun _ => 0)))), ((h8 3), .inl (cI, 240, .inl (za (fun _ => 0)))), ((h10 0), .inr (2, [.ref (h10 1), .ref (h10 2), .ref (h10 3), .int (zI 0)])), ((h10 1), .inl (cI, 240, .inl (za (fun _ => 0)))), ((h10 2), .inl (cI, 240, .inl (za (fun _ => 0)))), ((h10 3), .inl (cI, 240, .inl (za (fun _ => 0))))] H_h10 := hP_h10
  have hD : va_D A [(a0, .inr (3, [.ref q1, .ref q2, .ref q3, .ref q4, .ref (h6 0), .ref (h8 0), .null, .null, .null, .null, .int (zI 0), .int (zI 0), .int (zI 0), .int (zI 0)])), (q1, .inl (cI, 6, .inl (za (fun _ => 0)))), (q2, .inl (cI, 6, .inl (za (fun _ => 0)))), (q3, .inl (cI, 6, .inl (za (fun _ => 0)))), (q4, .inl (cI, 4, .inl (za zS3))), ((h6 0), .inr (2, [.ref (h6 1), .ref (h6 2), .ref (h6 3), .int (zI 0)])), ((h6 1), .inl (cI, 240, .inl (za (fun _ => 0)))), ((h6 2), .inl (cI, 240, .inl (za (fun _ => 0)))), ((h6 3), .inl (cI, 240, .inl (za (fun _ => 0)))), ((h8 0), .inr (2, [.ref (h8 1), .ref (h8 2), .ref (h8 3), .int (zI 0)])), ((h8 1), .inl (cI, 240, .inl (za (fun _ => 0)))), ((h8 2), .inl (cI, 240, .inl (za (fun _ => 0)))), ((h8 3), .inl (cI, 240, .inl (za (fun _ => 0)))), ((h10 0), .inr (2, [.ref (h10 1), .ref (h10 2), .ref (h10 3), .int (zI 0)])), ((h10 1), .inl (cI, 240, .inl (za (fun _ => 0)))), ((h10 2), .inl (cI, 240, .inl (za (fun _ => 0)))), ((h10 3), .inl (cI, 240, .inl (za (fun _ => 0))))] := hD_h10
  have hS := hS_h10
  refine zqX3_42 C0 hin hP (zD hD rfl) hS 0 rfl (Nat.le_of_ble_eq_true rfl) dX3_init_71 (fun H locs hP hS => ?_)
  have hP : va_P D vwCl [(a0, .inr (3, [.ref q1, .ref q2, .ref q3, .ref q4, .ref (h6 0), .ref (h8 0), .ref (h10 0), .null, .null, .null, .int (zI 0), .int (zI 0), .int (zI 0), .int (zI 0)])), (q1, .inl (cI, 6, .inl (za (fun _ => 0)))), (q2, .inl (cI, 6, .inl (za (fun _ => 0)))), (q3, .inl (cI, 6, .inl (za (fun _ => 0)))), (q4, .inl (cI, 4, .inl (za zS3))), ((h6 0), .inr (2, [.ref (h6 1), .ref (h6 2), .ref (h6 3), .int (zI 0)])), ((h6 1), .inl (cI, 240, .inl (za (fun _ => 0)))), ((h6 2), .inl (cI, 240, .inl (za (fun _ => 0)))), ((h6 3), .inl (cI, 240, .inl (za (fun _ => 0)))), ((h8 0), .inr (2, [.ref (h8 1), .ref (h8 2), .ref (h8 3), .int (zI 0)])), ((h8 1), .inl (cI, 240, .inl (za (fun _ => 0)))), ((h8 2), .inl (cI, 240, .inl (za (fun _ => 0)))), ((h8 3), .inl (cI, 240, .inl (za (fun _ => 0)))), ((h10 0), .inr (2, [.ref (h10 1), .ref (h10 2), .ref (h10 3), .int (zI 0)])), ((h10 1), .inl (cI, 240, .inl (za (fun _ => 0)))), ((h10 2), .inl (cI, 240, .inl (za (fun _ => 0)))), ((h10 3), .inl (cI, 240, .inl (za (fun _ => 0))))] _ := hP
  refine z_aload_n C0 dX3_init_74 rfl (lv_at hl 0 rfl) ?_
  refine znX3_45 C0 hP (zD hD rfl) hS (Nat.le_of_ble_eq_true rfl) (Nat.le_of_ble_eq_true rfl) dX3_init_75 (fun q11 H hP hD hS => ?_)
  refine z_dup C0 dX3_init_78 rfl ?_
  refine z_callI (rest := [.ref q11, .ref a0]) (wr := [(a0, .inr (3, [.ref q1, .ref q2, .ref q3, .ref q4, .ref (h6 0), .ref (h8 0), .ref (h10 0), .null, .null, .null, .int (zI 0), .int (zI 0), .int (zI 0), .int (zI 0)])), (q1, .inl (cI, 6, .inl (za (fun _ => 0)))), (q2, .inl (cI, 6, .inl (za (fun _ => 0)))), (q3, .inl (cI, 6, .inl (za (fun _ => 0)))), (q4, .inl (cI, 4, .inl (za zS3))), ((h6 0), .inr (2, [.ref (h6 1), .ref (h6 2), .ref (h6 3), .int (zI 0)])), ((h6 1), .inl (cI, 240, .inl (za (fun _ => 0)))), ((h6 2), .inl (cI, 240, .inl (za (fun _ => 0)))), ((h6 3), .inl (cI, 240, .inl (za (fun _ => 0)))), ((h8 0), .inr (2, [.ref (h8 1), .ref (h8 2), .ref (h8 3), .int (zI 0)])), ((h8 1), .inl (cI, 240, .inl (za (fun _ => 0)))), ((h8 2), .inl (cI, 240, .inl (za (fun _ => 0)))), ((h8 3), .inl (cI, 240, .inl (za (fun _ => 0)))), ((h10 0), .inr (2, [.ref (h10 1), .ref (h10 2), .ref (h10 3), .int (zI 0)])), ((h10 1), .inl (cI, 240, .inl (za (fun _ => 0)))), ((h10 2), .inl (cI, 240, .inl (za (fun _ => 0)))), ((h10 3), .inl (cI, 240, .inl (za (fun _ => 0))))]) (wc := [(q11, .inr (0, [.null, .null, .null, .null, .null, .null, .int (zI 0)]))]) (wf := fun h => (wG (h 0) (h 1) (h 2) (h 3) (h 4) (h 5) (h 6) cI (fun _ => 0) (fun _ => 0) (fun _ => 0) (fun _ => 0) (fun _ => 0) (fun _ => 0) 0)) C0 hP (zD hD rfl) hS (zmX0_init l D cI cZ q11 _) (z_cwI zw376 zw377 zw14 zw378 rfl rfl rfl (by decide +kernel) ⟨by decide, by decide⟩ C0.2.2.2.2.1) hl.1 (Nat.le_of_ble_eq_true rfl) dX3_init_79 ⟨Nat.le_of_ble_eq_true rfl, Nat.le_of_ble_eq_true rfl⟩ (fun h12 H_h12 locs h12e hP_h12 hD_h12 hS_h12 => ?_)
  subst h12e
  have hP : va_P D vwCl [(a0, .inr (3, [.ref q1, .ref q2, .ref q3, .ref q4, .ref (h6 0), .ref (h8 0), .ref (h10 0), .null, .null, .null, .int (zI 0), .int (zI 0), .int (zI 0), .int (zI 0)])), (q1, .inl (cI, 6, .inl (za (fun _ => 0)))), (q2, .inl (cI, 6, .inl (za (fun _ => 0)))), (q3, .inl (cI, 6, .inl (za (fun _ => 0)))), (q4, .inl (cI, 4, .inl (za zS3))), ((h6 0), .inr (2, [.ref (h6 1), .ref (h6 2), .ref (h6 3), .int (zI 0)])), ((h6 1), .inl (cI, 240, .inl (za (fun _ => 0)))), ((h6 2), .inl (cI, 240, .inl (za (fun _ => 0)))), ((h6 3), .inl (cI, 240, .inl (za (fun _ => 0)))), ((h8 0), .inr (2, [.ref (h8 1), .ref (h8 2), .ref (h8 3), .int (zI 0)])), ((h8 1), .inl (cI, 240, .inl (za (fun _ => 0)))), ((h8 2), .inl (cI, 240, .inl (za (fun _ => 0)))), ((h8 3), .inl (cI, 240, .inl (za (fun _ => 0)))), ((h10 0), .inr (2, [.ref (h10 1), .ref (h10 2), .ref (h10 3), .int (zI 0)])), ((h10 1), .inl (cI, 240, .inl (za (fun _ => 0)))), ((h10 2), .inl (cI, 240, .inl (za (fun _ => 0)))), ((h10 3), .inl (cI, 240, .inl (za (fun _ => 0)))), ((h12 0), .inr (0, [.ref (h12 1), .ref (h12 2), .ref (h12 3), .ref (h12 4), .ref (h12 5), .ref (h12 6), .int (zI 0)])), ((h12 1), .inl (cI, 241, .inl (za (fun _ => 0)))), ((h12 2), .inl (cI, 240, .inl (za (fun _ => 0)))), ((h12 3), .inl (cI, 240, .inl (za (fun _ => 0)))), ((h12 4), .inl (cI, 240, .inl (za (fun _ => 0)))), ((h12 5), .inl (cI, 240, .inl (za (fun _ => 0)))), ((h12 6), .inl (cI, 240, .inl (za (fun _ => 0))))] H_h12 := hP_h12
  have hD : va_D A [(a0, .inr (3, [.ref q1, .ref q2, .ref q3, .ref q4, .ref (h6 0), .ref (h8 0), .ref (h10 0), .null, .null, .null, .int (zI 0), .int (zI 0), .int (zI 0), .int (zI 0)])), (q1, .inl (cI, 6, .inl (za (fun _ => 0)))), (q2, .inl (cI, 6, .inl (za (fun _ => 0)))), (q3, .inl (cI, 6, .inl (za (fun _ => 0)))), (q4, .inl (cI, 4, .inl (za zS3))), ((h6 0), .inr (2, [.ref (h6 1), .ref (h6 2), .ref (h6 3), .int (zI 0)])), ((h6 1), .inl (cI, 240, .inl (za (fun _ => 0)))), ((h6 2), .inl (cI, 240, .inl (za (fun _ => 0)))), ((h6 3), .inl (cI, 240, .inl (za (fun _ => 0)))), ((h8 0), .inr (2, [.ref (h8 1), .ref (h8 2), .ref (h8 3), .int (zI 0)])), ((h8 1), .inl (cI, 240, .inl (za (fun _ => 0)))), ((h8 2), .inl (cI, 240, .inl (za (fun _ => 0)))), ((h8 3), .inl (cI, 240, .inl (za (fun _ => 0)))), ((h10 0), .inr (2, [.ref (h10 1), .ref (h10 2), .ref (h10 3), .int (zI 0)])), ((h10 1), .inl (cI, 240, .inl (za (fun _ => 0)))), ((h10 2), .inl (cI, 240, .inl (za (fun _ => 0)))), ((h10 3), .inl (cI, 240, .inl (za (fun _ => 0)))), ((h12 0), .inr (0, [.ref (h12 1), .ref (h12 2), .ref (h12 3), .ref (h12 4), .ref (h12 5), .ref (h12 6), .int (zI 0)])), ((h12 1), .inl (cI, 241, .inl (za (fun _ => 0)))), ((h12 2), .inl (cI, 240, .inl (za (fun _ => 0)))), ((h12 3), .inl (cI, 240, .inl (za (fun _ => 0)))), ((h12 4), .inl (cI, 240, .inl (za (fun _ => 0)))), ((h12 5), .inl (cI, 240, .inl (za (fun _ => 0)))), ((h12 6), .inl (cI, 240, .inl (za (fun _ => 0))))] := hD_h12
  have hS := hS_h12
  refine zqX3_48 C0 hin hP (zD hD rfl) hS 0 rfl (Nat.le_of_ble_eq_true rfl) dX3_init_82 (fun H locs hP hS => ?_)
  have hP : va_P D vwCl [(a0, .inr (3, [.ref q1, .ref q2, .ref q3, .ref q4, .ref (h6 0), .ref (h8 0), .ref (h10 0), .ref (h12 0), .null, .null, .int (zI 0), .int (zI 0), .int (zI 0), .int (zI 0)])), (q1, .inl (cI, 6, .inl (za (fun _ => 0)))), (q2, .inl (cI, 6, .inl (za (fun _ => 0)))), (q3, .inl (cI, 6, .inl (za (fun _ => 0)))), (q4, .inl (cI, 4, .inl (za zS3))), ((h6 0), .inr (2, [.ref (h6 1), .ref (h6 2), .ref (h6 3), .int (zI 0)])), ((h6 1), .inl (cI, 240, .inl (za (fun _ => 0)))), ((h6 2), .inl (cI, 240, .inl (za (fun _ => 0)))), ((h6 3), .inl (cI, 240, .inl (za (fun _ => 0)))), ((h8 0), .inr (2, [.ref (h8 1), .ref (h8 2), .ref (h8 3), .int (zI 0)])), ((h8 1), .inl (cI, 240, .inl (za (fun _ => 0)))), ((h8 2), .inl (cI, 240, .inl (za (fun _ => 0)))), ((h8 3), .inl (cI, 240, .inl (za (fun _ => 0)))), ((h10 0), .inr (2, [.ref (h10 1), .ref (h10 2), .ref (h10 3), .int (zI 0)])), ((h10 1), .inl (cI, 240, .inl (za (fun _ => 0)))), ((h10 2), .inl (cI, 240, .inl (za (fun _ => 0)))), ((h10 3), .inl (cI, 240, .inl (za (fun _ => 0)))), ((h12 0), .inr (0, [.ref (h12 1), .ref (h12 2), .ref (h12 3), .ref (h12 4), .ref (h12 5), .ref (h12 6), .int (zI 0)])), ((h12 1), .inl (cI, 241, .inl (za (fun _ => 0)))), ((h12 2), .inl (cI, 240, .inl (za (fun _ => 0)))), ((h12 3), .inl (cI, 240, .inl (za (fun _ => 0)))), ((h12 4), .inl (cI, 240, .inl (za (fun _ => 0)))), ((h12 5), .inl (cI, 240, .inl (za (fun _ => 0)))), ((h12 6), .inl (cI, 240, .inl (za (fun _ => 0))))] _ := hP
  refine z_aload_n C0 dX3_init_85 rfl (lv_at hl 0 rfl) ?_
  refine znX3_52 C0 hP (zD hD rfl) hS (Nat.le_of_ble_eq_true rfl) (Nat.le_of_ble_eq_true rfl) dX3_init_86 (fun q13 H hP hD hS => ?_)
  refine z_dup C0 dX3_init_89 rfl ?_
  refine z_callI (rest := [.ref q13, .ref a0]) (wr := [(a0, .inr (3, [.ref q1, .ref q2, .ref q3, .ref q4, .ref (h6 0), .ref (h8 0), .ref (h10 0), .ref (h12 0), .null, .null, .int (zI 0), .int (zI 0), .int (zI 0), .int (zI 0)])), (q1, .inl (cI, 6, .inl (za (fun _ => 0)))), (q2, .inl (cI, 6, .inl (za (fun _ => 0)))), (q3, .inl (cI, 6, .inl (za (fun _ => 0)))), (q4, .inl (cI, 4, .inl (za zS3))), ((h6 0), .inr (2, [.ref (h6 1), .ref (h6 2), .ref (h6 3), .int (zI 0)])), ((h6 1), .inl (cI, 240, .inl (za (fun _ => 0)))), ((h6 2), .inl (cI, 240, .inl (za (fun _ => 0)))), ((h6 3), .inl (cI, 240, .inl (za (fun _ => 0)))), ((h8 0), .inr (2, [.ref (h8 1), .ref (h8 2), .ref (h8 3), .int (zI 0)])), ((h8 1), .inl (cI, 240, .inl (za (fun _ => 0)))), ((h8 2), .inl (cI, 240, .inl (za (fun _ => 0)))), ((h8 3), .inl (cI, 240, .inl (za (fun _ => 0)))), ((h10 0), .inr (2, [.ref (h10 1), .ref (h10 2), .ref (h10 3), .int (zI 0)])), ((h10 1), .inl (cI, 240, .inl (za (fun _ => 0)))), ((h10 2), .inl (cI, 240, .inl (za (fun _ => 0)))), ((h10 3), .inl (cI, 240, .inl (za (fun _ => 0)))), ((h12 0), .inr (0, [.ref (h12 1), .ref (h12 2), .ref (h12 3), .ref (h12 4), .ref (h12 5), .ref (h12 6), .int (zI 0)])), ((h12 1), .inl (cI, 241, .inl (za (fun _ => 0)))), ((h12 2), .inl (cI, 240, .inl (za (fun _ => 0)))), ((h12 3), .inl (cI, 240, .inl (za (fun _ => 0)))), ((h12 4), .inl (cI, 240, .inl (za (fun _ => 0)))), ((h12 5), .inl (cI, 240, .inl (za (fun _ => 0)))), ((h12 6), .inl (cI, 240, .inl (za (fun _ => 0))))]) (wc := [(q13, .inr (1, [.null, .int (zI 0), .int (zI 0), .int (zI 0), .int (zI 0)]))]) (wf := fun h => (wS (h 0) (h 1) cI (fun _ => 0) 0 0 0 0)) C0 hP (zD hD rfl) hS (zmX1_init l D cI cZ q13 _) (z_cwI zw381 zw382 zw35 zw383 rfl rfl rfl (by decide +kernel) ⟨by decide, by decide⟩ C0.2.2.2.2.1) hl.1 (Nat.le_of_ble_eq_true rfl) dX3_init_90 ⟨Nat.le_of_ble_eq_true rfl, Nat.le_of_ble_eq_true rfl⟩ (fun h14 H_h14 locs h14e hP_h14 hD_h14 hS_h14 => ?_)
  subst h14e
  have hP : va_P D vwCl [(a0, .inr (3, [.ref q1, .ref q2, .ref q3, .ref q4, .ref (h6 0), .ref (h8 0), .ref (h10 0), .ref (h12 0), .null, .null, .int (zI 0), .int (zI 0), .int (zI 0), .int (zI 0)])), (q1, .inl (cI, 6, .inl (za (fun _ => 0)))), (q2, .inl (cI, 6, .inl (za (fun _ => 0)))), (q3, .inl (cI, 6, .inl (za (fun _ => 0)))), (q4, .inl (cI, 4, .inl (za zS3))), ((h6 0), .inr (2, [.ref (h6 1), .ref (h6 2), .ref (h6 3), .int (zI 0)])), ((h6 1), .inl (cI, 240, .inl (za (fun _ => 0)))), ((h6 2), .inl (cI, 240, .inl (za (fun _ => 0)))), ((h6 3), .inl (cI, 240, .inl (za (fun _ => 0)))), ((h8 0), .inr (2, [.ref (h8 1), .ref (h8 2), .ref (h8 3), .int (zI 0)])), ((h8 1), .inl (cI, 240, .inl (za (fun _ => 0)))), ((h8 2), .inl (cI, 240, .inl (za (fun _ => 0)))), ((h8 3), .inl (cI, 240, .inl (za (fun _ => 0)))), ((h10 0), .inr (2, [.ref (h10 1), .ref (h10 2), .ref (h10 3), .int (zI 0)])), ((h10 1), .inl (cI, 240, .inl (za (fun _ => 0)))), ((h10 2), .inl (cI, 240, .inl (za (fun _ => 0)))), ((h10 3), .inl (cI, 240, .inl (za (fun _ => 0)))), ((h12 0), .inr (0, [.ref (h12 1), .ref (h12 2), .ref (h12 3), .ref (h12 4), .ref (h12 5), .ref (h12 6), .int (zI 0)])), ((h12 1), .inl (cI, 241, .inl (za (fun _ => 0)))), ((h12 2), .inl (cI, 240, .inl (za (fun _ => 0)))), ((h12 3), .inl (cI, 240, .inl (za (fun _ => 0)))), ((h12 4), .inl (cI, 240, .inl (za (fun _ => 0)))), ((h12 5), .inl (cI, 240, .inl (za (fun _ => 0)))), ((h12 6), .inl (cI, 240, .inl (za (fun _ => 0)))), ((h14 0), .inr (1, [.ref (h14 1), .int (zI 0), .int (zI 0), .int (zI 0), .int (zI 0)])), ((h14 1), .inl (cI, 6, .inl (za (fun _ => 0))))] H_h14 := hP_h14
  have hD : va_D A [(a0, .inr (3, [.ref q1, .ref q2, .ref q3, .ref q4, .ref (h6 0), .ref (h8 0), .ref (h10 0), .ref (h12 0), .null, .null, .int (zI 0), .int (zI 0), .int (zI 0), .int (zI 0)])), (q1, .inl (cI, 6, .inl (za (fun _ => 0)))), (q2, .inl (cI, 6, .inl (za (fun _ => 0)))), (q3, .inl (cI, 6, .inl (za (fun _ => 0)))), (q4, .inl (cI, 4, .inl (za zS3))), ((h6 0), .inr (2, [.ref (h6 1), .ref (h6 2), .ref (h6 3), .int (zI 0)])), ((h6 1), .inl (cI, 240, .inl (za (fun _ => 0)))), ((h6 2), .inl (cI, 240, .inl (za (fun _ => 0)))), ((h6 3), .inl (cI, 240, .inl (za (fun _ => 0)))), ((h8 0), .inr (2, [.ref (h8 1), .ref (h8 2), .ref (h8 3), .int (zI 0)])), ((h8 1), .inl (cI, 240, .inl (za (fun _ => 0)))), ((h8 2), .inl (cI, 240, .inl (za (fun _ => 0)))), ((h8 3), .inl (cI, 240, .inl (za (fun _ => 0)))), ((h10 0), .inr (2, [.ref (h10 1), .ref (h10 2), .ref (h10 3), .int (zI 0)])), ((h10 1), .inl (cI, 240, .inl (za (fun _ => 0)))), ((h10 2), .inl (cI, 240, .inl (za (fun _ => 0)))), ((h10 3), .inl (cI, 240, .inl (za (fun _ => 0)))), ((h12 0), .inr (0, [.ref (h12 1), .ref (h12 2), .ref (h12 3), .ref (h12 4), .ref (h12 5), .ref (h12 6), .int (zI 0)])), ((h12 1), .inl (cI, 241, .inl (za (fun _ => 0)))), ((h12 2), .inl (cI, 240, .inl (za (fun _ => 0)))), ((h12 3), .inl (cI, 240, .inl (za (fun _ => 0)))), ((h12 4), .inl (cI, 240, .inl (za (fun _ => 0)))), ((h12 5), .inl (cI, 240, .inl (za (fun _ => 0)))), ((h12 6), .inl (cI, 240, .inl (za (fun _ => 0)))), ((h14 0), .inr (1, [.ref (h14 1), .int (zI 0), .int (zI 0), .int (zI 0), .int (zI 0)])), ((h14 1), .inl (cI, 6, .inl (za (fun _ => 0))))] := hD_h14
  have hS := hS_h14
  refine zqX3_55 C0 hin hP (zD hD rfl) hS 0 rfl (Nat.le_of_ble_eq_true rfl) dX3_init_93 (fun H locs hP hS => ?_)
  have hP : va_P D vwCl [(a0, .inr (3, [.ref q1, .ref q2, .ref q3, .ref q4, .ref (h6 0), .ref (h8 0), .ref (h10 0), .ref (h12 0), .ref (h14 0), .null, .int (zI 0), .int (zI 0), .int (zI 0), .int (zI 0)])), (q1, .inl (cI, 6, .inl (za (fun _ => 0)))), (q2, .inl (cI, 6, .inl (za (fun _ => 0)))), (q3, .inl (cI, 6, .inl (za (fun _ => 0)))), (q4, .inl (cI, 4, .inl (za zS3))), ((h6 0), .inr (2, [.ref (h6 1), .ref (h6 2), .ref (h6 3), .int (zI 0)])), ((h6 1), .inl (cI, 240, .inl (za (fun _ => 0)))), ((h6 2), .inl (cI, 240, .inl (za (fun _ => 0)))), ((h6 3), .inl (cI, 240, .inl (za (fun _ => 0)))), ((h8 0), .inr (2, [.ref (h8 1), .ref (h8 2), .ref (h8 3), .int (zI 0)])), ((h8 1), .inl (cI, 240, .inl (za (fun _ => 0)))), ((h8 2), .inl (cI, 240, .inl (za (fun _ => 0)))), ((h8 3), .inl (cI, 240, .inl (za (fun _ => 0)))), ((h10 0), .inr (2, [.ref (h10 1), .ref (h10 2), .ref (h10 3), .int (zI 0)])), ((h10 1), .inl (cI, 240, .inl (za (fun _ => 0)))), ((h10 2), .inl (cI, 240, .inl (za (fun _ => 0)))), ((h10 3), .inl (cI, 240, .inl (za (fun _ => 0)))), ((h12 0), .inr (0, [.ref (h12 1), .ref (h12 2), .ref (h12 3), .ref (h12 4), .ref (h12 5), .ref (h12 6), .int (zI 0)])), ((h12 1), .inl (cI, 241, .inl (za (fun _ => 0)))), ((h12 2), .inl (cI, 240, .inl (za (fun _ => 0)))), ((h12 3), .inl (cI, 240, .inl (za (fun _ => 0)))), ((h12 4), .inl (cI, 240, .inl (za (fun _ => 0)))), ((h12 5), .inl (cI, 240, .inl (za (fun _ => 0)))), ((h12 6), .inl (cI, 240, .inl (za (fun _ => 0)))), ((h14 0), .inr (1, [.ref (h14 1), .int (zI 0), .int (zI 0), .int (zI 0), .int (zI 0)])), ((h14 1), .inl (cI, 6, .inl (za (fun _ => 0))))] _ := hP
  refine z_aload_n C0 dX3_init_96 rfl (lv_at hl 0 rfl) ?_
  refine z_bipush C0 dX3_init_97 (by decide +kernel) ?_
  refine z_newi C0 hP (zD hD rfl) hS 6 (by decide) zw358 (Nat.le_of_ble_eq_true rfl) (Nat.le_of_ble_eq_true rfl) (by decide) dX3_init_99 (fun q15 H hP hD hS => ?_)
  have hP : va_P D vwCl [(a0, .inr (3, [.ref q1, .ref q2, .ref q3, .ref q4, .ref (h6 0), .ref (h8 0), .ref (h10 0), .ref (h12 0), .ref (h14 0), .null, .int (zI 0), .int (zI 0), .int (zI 0), .int (zI 0)])), (q1, .inl (cI, 6, .inl (za (fun _ => 0)))), (q2, .inl (cI, 6, .inl (za (fun _ => 0)))), (q3, .inl (cI, 6, .inl (za (fun _ => 0)))), (q4, .inl (cI, 4, .inl (za zS3))), ((h6 0), .inr (2, [.ref (h6 1), .ref (h6 2), .ref (h6 3), .int (zI 0)])), ((h6 1), .inl (cI, 240, .inl (za (fun _ => 0)))), ((h6 2), .inl (cI, 240, .inl (za (fun _ => 0)))), ((h6 3), .inl (cI, 240, .inl (za (fun _ => 0)))), ((h8 0), .inr (2, [.ref (h8 1), .ref (h8 2), .ref (h8 3), .int (zI 0)])), ((h8 1), .inl (cI, 240, .inl (za (fun _ => 0)))), ((h8 2), .inl (cI, 240, .inl (za (fun _ => 0)))), ((h8 3), .inl (cI, 240, .inl (za (fun _ => 0)))), ((h10 0), .inr (2, [.ref (h10 1), .ref (h10 2), .ref (h10 3), .int (zI 0)])), ((h10 1), .inl (cI, 240, .inl (za (fun _ => 0)))), ((h10 2), .inl (cI, 240, .inl (za (fun _ => 0)))), ((h10 3), .inl (cI, 240, .inl (za (fun _ => 0)))), ((h12 0), .inr (0, [.ref (h12 1), .ref (h12 2), .ref (h12 3), .ref (h12 4), .ref (h12 5), .ref (h12 6), .int (zI 0)])), ((h12 1), .inl (cI, 241, .inl (za (fun _ => 0)))), ((h12 2), .inl (cI, 240, .inl (za (fun _ => 0)))), ((h12 3), .inl (cI, 240, .inl (za (fun _ => 0)))), ((h12 4), .inl (cI, 240, .inl (za (fun _ => 0)))), ((h12 5), .inl (cI, 240, .inl (za (fun _ => 0)))), ((h12 6), .inl (cI, 240, .inl (za (fun _ => 0)))), ((h14 0), .inr (1, [.ref (h14 1), .int (zI 0), .int (zI 0), .int (zI 0), .int (zI 0)])), ((h14 1), .inl (cI, 6, .inl (za (fun _ => 0)))), (q15, .inl (cI, 6, .inl (za (fun _ => 0))))] _ := hP
  have hD : va_D A [(a0, .inr (3, [.ref q1, .ref q2, .ref q3, .ref q4, .ref (h6 0), .ref (h8 0), .ref (h10 0), .ref (h12 0), .ref (h14 0), .null, .int (zI 0), .int (zI 0), .int (zI 0), .int (zI 0)])), (q1, .inl (cI, 6, .inl (za (fun _ => 0)))), (q2, .inl (cI, 6, .inl (za (fun _ => 0)))), (q3, .inl (cI, 6, .inl (za (fun _ => 0)))), (q4, .inl (cI, 4, .inl (za zS3))), ((h6 0), .inr (2, [.ref (h6 1), .ref (h6 2), .ref (h6 3), .int (zI 0)])), ((h6 1), .inl (cI, 240, .inl (za (fun _ => 0)))), ((h6 2), .inl (cI, 240, .inl (za (fun _ => 0)))), ((h6 3), .inl (cI, 240, .inl (za (fun _ => 0)))), ((h8 0), .inr (2, [.ref (h8 1), .ref (h8 2), .ref (h8 3), .int (zI 0)])), ((h8 1), .inl (cI, 240, .inl (za (fun _ => 0)))), ((h8 2), .inl (cI, 240, .inl (za (fun _ => 0)))), ((h8 3), .inl (cI, 240, .inl (za (fun _ => 0)))), ((h10 0), .inr (2, [.ref (h10 1), .ref (h10 2), .ref (h10 3), .int (zI 0)])), ((h10 1), .inl (cI, 240, .inl (za (fun _ => 0)))), ((h10 2), .inl (cI, 240, .inl (za (fun _ => 0)))), ((h10 3), .inl (cI, 240, .inl (za (fun _ => 0)))), ((h12 0), .inr (0, [.ref (h12 1), .ref (h12 2), .ref (h12 3), .ref (h12 4), .ref (h12 5), .ref (h12 6), .int (zI 0)])), ((h12 1), .inl (cI, 241, .inl (za (fun _ => 0)))), ((h12 2), .inl (cI, 240, .inl (za (fun _ => 0)))), ((h12 3), .inl (cI, 240, .inl (za (fun _ => 0)))), ((h12 4), .inl (cI, 240, .inl (za (fun _ => 0)))), ((h12 5), .inl (cI, 240, .inl (za (fun _ => 0)))), ((h12 6), .inl (cI, 240, .inl (za (fun _ => 0)))), ((h14 0), .inr (1, [.ref (h14 1), .int (zI 0), .int (zI 0), .int (zI 0), .int (zI 0)])), ((h14 1), .inl (cI, 6, .inl (za (fun _ => 0)))), (q15, .inl (cI, 6, .inl (za (fun _ => 0))))] := hD
  refine zqX3_59 C0 hin hP (zD hD rfl) hS 0 rfl (Nat.le_of_ble_eq_true rfl) dX3_init_101 (fun H locs hP hS => ?_)
  have hP : va_P D vwCl [(a0, .inr (3, [.ref q1, .ref q2, .ref q3, .ref q4, .ref (h6 0), .ref (h8 0), .ref (h10 0), .ref (h12 0), .ref (h14 0), .ref q15, .int (zI 0), .int (zI 0), .int (zI 0), .int (zI 0)])), (q1, .inl (cI, 6, .inl (za (fun _ => 0)))), (q2, .inl (cI, 6, .inl (za (fun _ => 0)))), (q3, .inl (cI, 6, .inl (za (fun _ => 0)))), (q4, .inl (cI, 4, .inl (za zS3))), ((h6 0), .inr (2, [.ref (h6 1), .ref (h6 2), .ref (h6 3), .int (zI 0)])), ((h6 1), .inl (cI, 240, .inl (za (fun _ => 0)))), ((h6 2), .inl (cI, 240, .inl (za (fun _ => 0)))), ((h6 3), .inl (cI, 240, .inl (za (fun _ => 0)))), ((h8 0), .inr (2, [.ref (h8 1), .ref (h8 2), .ref (h8 3), .int (zI 0)])), ((h8 1), .inl (cI, 240, .inl (za (fun _ => 0)))), ((h8 2), .inl (cI, 240, .inl (za (fun _ => 0)))), ((h8 3), .inl (cI, 240, .inl (za (fun _ => 0)))), ((h10 0), .inr (2, [.ref (h10 1), .ref (h10 2), .ref (h10 3), .int (zI 0)])), ((h10 1), .inl (cI, 240, .inl (za (fun _ => 0)))), ((h10 2), .inl (cI, 240, .inl (za (fun _ => 0)))), ((h10 3), .inl (cI, 240, .inl (za (fun _ => 0)))), ((h12 0), .inr (0, [.ref (h12 1), .ref (h12 2), .ref (h12 3), .ref (h12 4), .ref (h12 5), .ref (h12 6), .int (zI 0)])), ((h12 1), .inl (cI, 241, .inl (za (fun _ => 0)))), ((h12 2), .inl (cI, 240, .inl (za (fun _ => 0)))), ((h12 3), .inl (cI, 240, .inl (za (fun _ => 0)))), ((h12 4), .inl (cI, 240, .inl (za (fun _ => 0)))), ((h12 5), .inl (cI, 240, .inl (za (fun _ => 0)))), ((h12 6), .inl (cI, 240, .inl (za (fun _ => 0)))), ((h14 0), .inr (1, [.ref (h14 1), .int (zI 0), .int (zI 0), .int (zI 0), .int (zI 0)])), ((h14 1), .inl (cI, 6, .inl (za (fun _ => 0)))), (q15, .inl (cI, 6, .inl (za (fun _ => 0))))] _ := hP
  exact hret ⟨fun j => [a0, q1, q2, q3, q4, (h6 0), (h6 1), (h6 2), (h6 3), (h8 0), (h8 1), (h8 2), (h8 3), (h10 0), (h10 1), (h10 2), (h10 3), (h12 0), (h12 1), (h12 2), (h12 3), (h12 4), (h12 5), (h12 6), (h14 0), (h14 1), q15].getD j 0, rfl, hP, zD hD rfl⟩ hS dX3_init_104
set_option maxHeartbeats 4000000 in
set_option maxRecDepth 100000 in
theorem zmX4_init (l : Launch) (D : va_G) (cI cZ : ClassId) (a0 : Nat) (sz : Nat) : Met l yX4_init (zW yX4_init cX4_init 1 none) rmX4_init (va_Pc [.ref a0] (zPre D cI cZ [(a0, .inr (4, [.null, .null, .null, .null, .null, .null, .int (zI 0), .null, .null, .null, .int (zI 0), .int (zI 0), .null, .null, .int (zI 0), .null, .null, .null, .int (zI 0), .int (zI 0), .null, .int (zI 0), .int (zI 0), .int (zI 0), .int (zI 0), .int (zI 0), .int (zI 0), .int (zI 0)]))] sz)) (va_Qv (fun (_ : Unit) => True) (fun _ t => ∃ h : Nat → Nat, h 0 = a0 ∧ va_P D vwCl (wM h cI cZ (fun _ => 0) (fun _ => 0) (fun _ => 0) (zu (zu (zu (zu (fun _ => 0) 0 20) 1 5) 2 2) 3 1) (zu (zu (zu (zu (fun _ => 0) 0 0) 1 0) 2 2) 3 0) (zu (zu (zu (zu (fun _ => 0) 0 100) 1 40) 2 6) 3 3) 0 (fun _ => 0) (fun _ => 0) (fun _ => 0) 0 0 (fun _ => 0) (fun _ => 0) 0 (fun _ => 0) (fun _ => 0) (fun _ => 0) 0 0 (fun _ => 0) 0 0 0 0 0 0 0) t.heap ∧ va_D (va_A [(a0, .inr (4, [.null, .null, .null, .null, .null, .null, .int (zI 0), .null, .null, .null, .int (zI 0), .int (zI 0), .null, .null, .int (zI 0), .null, .null, .null, .int (zI 0), .int (zI 0), .null, .int (zI 0), .int (zI 0), .int (zI 0), .int (zI 0), .int (zI 0), .int (zI 0), .int (zI 0)]))] sz) (wM h cI cZ (fun _ => 0) (fun _ => 0) (fun _ => 0) (zu (zu (zu (zu (fun _ => 0) 0 20) 1 5) 2 2) 3 1) (zu (zu (zu (zu (fun _ => 0) 0 0) 1 0) 2 2) 3 0) (zu (zu (zu (zu (fun _ => 0) 0 100) 1 40) 2 6) 3 3) 0 (fun _ => 0) (fun _ => 0) (fun _ => 0) 0 0 (fun _ => 0) (fun _ => 0) 0 (fun _ => 0) (fun _ => 0) (fun _ => 0) 0 0 (fun _ => 0) 0 0 0 0 0 0 0)) (va_A [(a0, .inr (4, [.null, .null, .null, .null, .null, .null, .int (zI 0), .null, .null, .null, .int (zI 0), .int (zI 0), .null, .null, .int (zI 0), .null, .null, .null, .int (zI 0), .int (zI 0), .null, .int (zI 0), .int (zI 0), .int (zI 0), .int (zI 0), .int (zI 0), .int (zI 0), .int (zI 0)]))] sz)) 15 1959 (va_A [(a0, .inr (4, [.null, .null, .null, .null, .null, .null, .int (zI 0), .null, .null, .null, .int (zI 0), .int (zI 0), .null, .null, .int (zI 0), .null, .null, .null, .int (zI 0), .int (zI 0), .null, .int (zI 0), .int (zI 0), .int (zI 0), .int (zI 0), .int (zI 0), .int (zI 0), .int (zI 0)]))] sz) := by
  refine z_enter_c (own := RX4) (B := fun A H => ∃ h : Nat → Nat, h 0 = a0 ∧ va_P D vwCl (wM h cI cZ (fun _ => 0) (fun _ => 0) (fun _ => 0) (zu (zu (zu (zu (fun _ => 0) 0 20) 1 5) 2 2) 3 1) (zu (zu (zu (zu (fun _ => 0) 0 0) 1 0) 2 2) 3 0) (zu (zu (zu (zu (fun _ => 0) 0 100) 1 40) 2 6) 3 3) 0 (fun _ => 0) (fun _ => 0) (fun _ => 0) 0 0 (fun _ => 0) (fun _ => 0) 0 (fun _ => 0) (fun _ => 0) (fun _ => 0) 0 0 (fun _ => 0) 0 0 0 0 0 0 0) H ∧ va_D A (wM h cI cZ (fun _ => 0) (fun _ => 0) (fun _ => 0) (zu (zu (zu (zu (fun _ => 0) 0 20) 1 5) 2 2) 3 1) (zu (zu (zu (zu (fun _ => 0) 0 0) 1 0) 2 2) 3 0) (zu (zu (zu (zu (fun _ => 0) 0 100) 1 40) 2 6) 3 3) 0 (fun _ => 0) (fun _ => 0) (fun _ => 0) 0 0 (fun _ => 0) (fun _ => 0) 0 (fun _ => 0) (fun _ => 0) (fun _ => 0) 0 0 (fun _ => 0) 0 0 0 0 0 0 0)) (by decide +kernel) rfl rfl (Nat.le_of_ble_eq_true rfl) ?_
  intro p e s m args below meth c A Q C0 hin hP hD hS hret ls hl
  have hl : lv_has ls 1 [(0, .ref a0)] := hl
  refine z_aload_n C0 dX4_init_0 rfl (lv_at hl 0 rfl) ?_
  refine z_objinit C0 hl.1 zw384 zw356 zw357 dX4_init_1 (by decide) (Nat.le_of_ble_eq_true rfl) ?_
  refine z_aload_n C0 dX4_init_4 rfl (lv_at hl 0 rfl) ?_
  refine z_bipush C0 dX4_init_5 (by decide +kernel) ?_
  refine z_newi C0 hP (zD hD rfl) hS 6 (by decide) zw358 (Nat.le_of_ble_eq_true rfl) (Nat.le_of_ble_eq_true rfl) (by decide) dX4_init_7 (fun q1 H hP hD hS => ?_)
  have hP : va_P D vwCl [(a0, .inr (4, [.null, .null, .null, .null, .null, .null, .int (zI 0), .null, .null, .null, .int (zI 0), .int (zI 0), .null, .null, .int (zI 0), .null, .null, .null, .int (zI 0), .int (zI 0), .null, .int (zI 0), .int (zI 0), .int (zI 0), .int (zI 0), .int (zI 0), .int (zI 0), .int (zI 0)])), (q1, .inl (cI, 6, .inl (za (fun _ => 0))))] _ := hP
  have hD : va_D A [(a0, .inr (4, [.null, .null, .null, .null, .null, .null, .int (zI 0), .null, .null, .null, .int (zI 0), .int (zI 0), .null, .null, .int (zI 0), .null, .null, .null, .int (zI 0), .int (zI 0), .null, .int (zI 0), .int (zI 0), .int (zI 0), .int (zI 0), .int (zI 0), .int (zI 0), .int (zI 0)])), (q1, .inl (cI, 6, .inl (za (fun _ => 0))))] := hD
  refine zqX4_7 C0 hin hP (zD hD rfl) hS 0 rfl (Nat.le_of_ble_eq_true rfl) dX4_init_9 (fun H locs hP hS => ?_)
  have hP : va_P D vwCl [(a0, .inr (4, [.ref q1, .null, .null, .null, .null, .null, .int (zI 0), .null, .null, .null, .int (zI 0), .int (zI 0), .null, .null, .int (zI 0), .null, .null, .null, .int (zI 0), .int (zI 0), .null, .int (zI 0), .int (zI 0), .int (zI 0), .int (zI 0), .int (zI 0), .int (zI 0), .int (zI 0)])), (q1, .inl (cI, 6, .inl (za (fun _ => 0))))] _ := hP
  refine z_aload_n C0 dX4_init_12 rfl (lv_at hl 0 rfl) ?_
  refine z_bipush C0 dX4_init_13 (by decide +kernel) ?_
  refine z_newi C0 hP (zD hD rfl) hS 6 (by decide) zw358 (Nat.le_of_ble_eq_true rfl) (Nat.le_of_ble_eq_true rfl) (by decide) dX4_init_15 (fun q2 H hP hD hS => ?_)
  have hP : va_P D vwCl [(a0, .inr (4, [.ref q1, .null, .null, .null, .null, .null, .int (zI 0), .null, .null, .null, .int (zI 0), .int (zI 0), .null, .null, .int (zI 0), .null, .null, .null, .int (zI 0), .int (zI 0), .null, .int (zI 0), .int (zI 0), .int (zI 0), .int (zI 0), .int (zI 0), .int (zI 0), .int (zI 0)])), (q1, .inl (cI, 6, .inl (za (fun _ => 0)))), (q2, .inl (cI, 6, .inl (za (fun _ => 0))))] _ := hP
  have hD : va_D A [(a0, .inr (4, [.ref q1, .null, .null, .null, .null, .null, .int (zI 0), .null, .null, .null, .int (zI 0), .int (zI 0), .null, .null, .int (zI 0), .null, .null, .null, .int (zI 0), .int (zI 0), .null, .int (zI 0), .int (zI 0), .int (zI 0), .int (zI 0), .int (zI 0), .int (zI 0), .int (zI 0)])), (q1, .inl (cI, 6, .inl (za (fun _ => 0)))), (q2, .inl (cI, 6, .inl (za (fun _ => 0))))] := hD
  refine zqX4_13 C0 hin hP (zD hD rfl) hS 0 rfl (Nat.le_of_ble_eq_true rfl) dX4_init_17 (fun H locs hP hS => ?_)
  have hP : va_P D vwCl [(a0, .inr (4, [.ref q1, .ref q2, .null, .null, .null, .null, .int (zI 0), .null, .null, .null, .int (zI 0), .int (zI 0), .null, .null, .int (zI 0), .null, .null, .null, .int (zI 0), .int (zI 0), .null, .int (zI 0), .int (zI 0), .int (zI 0), .int (zI 0), .int (zI 0), .int (zI 0), .int (zI 0)])), (q1, .inl (cI, 6, .inl (za (fun _ => 0)))), (q2, .inl (cI, 6, .inl (za (fun _ => 0))))] _ := hP
  refine z_aload_n C0 dX4_init_20 rfl (lv_at hl 0 rfl) ?_
  refine z_bipush C0 dX4_init_21 (by decide +kernel) ?_
  refine z_newi C0 hP (zD hD rfl) hS 6 (by decide) zw358 (Nat.le_of_ble_eq_true rfl) (Nat.le_of_ble_eq_true rfl) (by decide) dX4_init_23 (fun q3 H hP hD hS => ?_)
  have hP : va_P D vwCl [(a0, .inr (4, [.ref q1, .ref q2, .null, .null, .null, .null, .int (zI 0), .null, .null, .null, .int (zI 0), .int (zI 0), .null, .null, .int (zI 0), .null, .null, .null, .int (zI 0), .int (zI 0), .null, .int (zI 0), .int (zI 0), .int (zI 0), .int (zI 0), .int (zI 0), .int (zI 0), .int (zI 0)])), (q1, .inl (cI, 6, .inl (za (fun _ => 0)))), (q2, .inl (cI, 6, .inl (za (fun _ => 0)))), (q3, .inl (cI, 6, .inl (za (fun _ => 0))))] _ := hP
  have hD : va_D A [(a0, .inr (4, [.ref q1, .ref q2, .null, .null, .null, .null, .int (zI 0), .null, .null, .null, .int (zI 0), .int (zI 0), .null, .null, .int (zI 0), .null, .null, .null, .int (zI 0), .int (zI 0), .null, .int (zI 0), .int (zI 0), .int (zI 0), .int (zI 0), .int (zI 0), .int (zI 0), .int (zI 0)])), (q1, .inl (cI, 6, .inl (za (fun _ => 0)))), (q2, .inl (cI, 6, .inl (za (fun _ => 0)))), (q3, .inl (cI, 6, .inl (za (fun _ => 0))))] := hD
  refine zqX4_16 C0 hin hP (zD hD rfl) hS 0 rfl (Nat.le_of_ble_eq_true rfl) dX4_init_25 (fun H locs hP hS => ?_)
  have hP : va_P D vwCl [(a0, .inr (4, [.ref q1, .ref q2, .ref q3, .null, .null, .null, .int (zI 0), .null, .null, .null, .int (zI 0), .int (zI 0), .null, .null, .int (zI 0), .null, .null, .null, .int (zI 0), .int (zI 0), .null, .int (zI 0), .int (zI 0), .int (zI 0), .int (zI 0), .int (zI 0), .int (zI 0), .int (zI 0)])), (q1, .inl (cI, 6, .inl (za (fun _ => 0)))), (q2, .inl (cI, 6, .inl (za (fun _ => 0)))), (q3, .inl (cI, 6, .inl (za (fun _ => 0))))] _ := hP
  refine z_aload_n C0 dX4_init_28 rfl (lv_at hl 0 rfl) ?_
  refine z_iconst C0 dX4_init_29 ?_
  refine z_newi C0 hP (zD hD rfl) hS 4 (by decide) zw358 (Nat.le_of_ble_eq_true rfl) (Nat.le_of_ble_eq_true rfl) (by decide) dX4_init_30 (fun q4 H hP hD hS => ?_)
  have hP : va_P D vwCl [(a0, .inr (4, [.ref q1, .ref q2, .ref q3, .null, .null, .null, .int (zI 0), .null, .null, .null, .int (zI 0), .int (zI 0), .null, .null, .int (zI 0), .null, .null, .null, .int (zI 0), .int (zI 0), .null, .int (zI 0), .int (zI 0), .int (zI 0), .int (zI 0), .int (zI 0), .int (zI 0), .int (zI 0)])), (q1, .inl (cI, 6, .inl (za (fun _ => 0)))), (q2, .inl (cI, 6, .inl (za (fun _ => 0)))), (q3, .inl (cI, 6, .inl (za (fun _ => 0)))), (q4, .inl (cI, 4, .inl (za (fun _ => 0))))] _ := hP
  have hD : va_D A [(a0, .inr (4, [.ref q1, .ref q2, .ref q3, .null, .null, .null, .int (zI 0), .null, .null, .null, .int (zI 0), .int (zI 0), .null, .null, .int (zI 0), .null, .null, .null, .int (zI 0), .int (zI 0), .null, .int (zI 0), .int (zI 0), .int (zI 0), .int (zI 0), .int (zI 0), .int (zI 0), .int (zI 0)])), (q1, .inl (cI, 6, .inl (za (fun _ => 0)))), (q2, .inl (cI, 6, .inl (za (fun _ => 0)))), (q3, .inl (cI, 6, .inl (za (fun _ => 0)))), (q4, .inl (cI, 4, .inl (za (fun _ => 0))))] := hD
  refine z_dup C0 dX4_init_32 rfl ?_
  refine z_iconst C0 dX4_init_33 ?_
  refine z_bipush C0 dX4_init_34 (by decide +kernel) ?_
  refine z_iast C0 hP (zD hD rfl) hS 4 rfl (Nat.le_of_ble_eq_true rfl) (by decide) dX4_init_36 (fun H locs hP hS => ?_)
  have hP : va_P D vwCl [(a0, .inr (4, [.ref q1, .ref q2, .ref q3, .null, .null, .null, .int (zI 0), .null, .null, .null, .int (zI 0), .int (zI 0), .null, .null, .int (zI 0), .null, .null, .null, .int (zI 0), .int (zI 0), .null, .int (zI 0), .int (zI 0), .int (zI 0), .int (zI 0), .int (zI 0), .int (zI 0), .int (zI 0)])), (q1, .inl (cI, 6, .inl (za (fun _ => 0)))), (q2, .inl (cI, 6, .inl (za (fun _ => 0)))), (q3, .inl (cI, 6, .inl (za (fun _ => 0)))), (q4, .inl (cI, 4, .inl (za (zu (fun _ => 0) 0 20))))] _ := hP
  refine z_dup C0 dX4_init_37 rfl ?_
  refine z_iconst C0 dX4_init_38 ?_
  refine z_iconst C0 dX4_init_39 ?_
  refine z_iast C0 hP (zD hD rfl) hS 4 rfl (Nat.le_of_ble_eq_true rfl) (by decide) dX4_init_40 (fun H locs hP hS => ?_)
  have hP : va_P D vwCl [(a0, .inr (4, [.ref q1, .ref q2, .ref q3, .null, .null, .null, .int (zI 0), .null, .null, .null, .int (zI 0), .int (zI 0), .null, .null, .int (zI 0), .null, .null, .null, .int (zI 0), .int (zI 0), .null, .int (zI 0), .int (zI 0), .int (zI 0), .int (zI 0), .int (zI 0), .int (zI 0), .int (zI 0)])), (q1, .inl (cI, 6, .inl (za (fun _ => 0)))), (q2, .inl (cI, 6, .inl (za (fun _ => 0)))), (q3, .inl (cI, 6, .inl (za (fun _ => 0)))), (q4, .inl (cI, 4, .inl (za (zu (zu (fun _ => 0) 0 20) 1 5))))] _ := hP
  refine z_dup C0 dX4_init_41 rfl ?_
  refine z_iconst C0 dX4_init_42 ?_
  refine z_iconst C0 dX4_init_43 ?_
  refine z_iast C0 hP (zD hD rfl) hS 4 rfl (Nat.le_of_ble_eq_true rfl) (by decide) dX4_init_44 (fun H locs hP hS => ?_)
  have hP : va_P D vwCl [(a0, .inr (4, [.ref q1, .ref q2, .ref q3, .null, .null, .null, .int (zI 0), .null, .null, .null, .int (zI 0), .int (zI 0), .null, .null, .int (zI 0), .null, .null, .null, .int (zI 0), .int (zI 0), .null, .int (zI 0), .int (zI 0), .int (zI 0), .int (zI 0), .int (zI 0), .int (zI 0), .int (zI 0)])), (q1, .inl (cI, 6, .inl (za (fun _ => 0)))), (q2, .inl (cI, 6, .inl (za (fun _ => 0)))), (q3, .inl (cI, 6, .inl (za (fun _ => 0)))), (q4, .inl (cI, 4, .inl (za (zu (zu (zu (fun _ => 0) 0 20) 1 5) 2 2))))] _ := hP
  refine z_dup C0 dX4_init_45 rfl ?_
  refine z_iconst C0 dX4_init_46 ?_
  refine z_iconst C0 dX4_init_47 ?_
  refine z_iast C0 hP (zD hD rfl) hS 4 rfl (Nat.le_of_ble_eq_true rfl) (by decide) dX4_init_48 (fun H locs hP hS => ?_)
  have hP : va_P D vwCl [(a0, .inr (4, [.ref q1, .ref q2, .ref q3, .null, .null, .null, .int (zI 0), .null, .null, .null, .int (zI 0), .int (zI 0), .null, .null, .int (zI 0), .null, .null, .null, .int (zI 0), .int (zI 0), .null, .int (zI 0), .int (zI 0), .int (zI 0), .int (zI 0), .int (zI 0), .int (zI 0), .int (zI 0)])), (q1, .inl (cI, 6, .inl (za (fun _ => 0)))), (q2, .inl (cI, 6, .inl (za (fun _ => 0)))), (q3, .inl (cI, 6, .inl (za (fun _ => 0)))), (q4, .inl (cI, 4, .inl (za (zu (zu (zu (zu (fun _ => 0) 0 20) 1 5) 2 2) 3 1))))] _ := hP
  refine zqX4_19 C0 hin hP (zD hD rfl) hS 0 rfl (Nat.le_of_ble_eq_true rfl) dX4_init_49 (fun H locs hP hS => ?_)
  have hP : va_P D vwCl [(a0, .inr (4, [.ref q1, .ref q2, .ref q3, .ref q4, .null, .null, .int (zI 0), .null, .null, .null, .int (zI 0), .int (zI 0), .null, .null, .int (zI 0), .null, .null, .null, .int (zI 0), .int (zI 0), .null, .int (zI 0), .int (zI 0), .int (zI 0), .int (zI 0), .int (zI 0), .int (zI 0), .int (zI 0)])), (q1, .inl (cI, 6, .inl (za (fun _ => 0)))), (q2, .inl (cI, 6, .inl (za (fun _ => 0)))), (q3, .inl (cI, 6, .inl (za (fun _ => 0)))), (q4, .inl (cI, 4, .inl (za (zu (zu (zu (zu (fun _ => 0) 0 20) 1 5) 2 2) 3 1))))] _ := hP
  refine z_aload_n C0 dX4_init_52 rfl (lv_at hl 0 rfl) ?_
  refine z_iconst C0 dX4_init_53 ?_
  refine z_newi C0 hP (zD hD rfl) hS 4 (by decide) zw358 (Nat.le_of_ble_eq_true rfl) (Nat.le_of_ble_eq_true rfl) (by decide) dX4_init_54 (fun q5 H hP hD hS => ?_)
  have hP : va_P D vwCl [(a0, .inr (4, [.ref q1, .ref q2, .ref q3, .ref q4, .null, .null, .int (zI 0), .null, .null, .null, .int (zI 0), .int (zI 0), .null, .null, .int (zI 0), .null, .null, .null, .int (zI 0), .int (zI 0), .null, .int (zI 0), .int (zI 0), .int (zI 0), .int (zI 0), .int (zI 0), .int (zI 0), .int (zI 0)])), (q1, .inl (cI, 6, .inl (za (fun _ => 0)))), (q2, .inl (cI, 6, .inl (za (fun _ => 0)))), (q3, .inl (cI, 6, .inl (za (fun _ => 0)))), (q4, .inl (cI, 4, .inl (za (zu (zu (zu (zu (fun _ => 0) 0 20) 1 5) 2 2) 3 1)))), (q5, .inl (cI, 4, .inl (za (fun _ => 0))))] _ := hP
  have hD : va_D A [(a0, .inr (4, [.ref q1, .ref q2, .ref q3, .ref q4, .null, .null, .int (zI 0), .null, .null, .null, .int (zI 0), .int (zI 0), .null, .null, .int (zI 0), .null, .null, .null, .int (zI 0), .int (zI 0), .null, .int (zI 0), .int (zI 0), .int (zI 0), .int (zI 0), .int (zI 0), .int (zI 0), .int (zI 0)])), (q1, .inl (cI, 6, .inl (za (fun _ => 0)))), (q2, .inl (cI, 6, .inl (za (fun _ => 0)))), (q3, .inl (cI, 6, .inl (za (fun _ => 0)))), (q4, .inl (cI, 4, .inl (za (zu (zu (zu (zu (fun _ => 0) 0 20) 1 5) 2 2) 3 1)))), (q5, .inl (cI, 4, .inl (za (fun _ => 0))))] := hD
  refine z_dup C0 dX4_init_56 rfl ?_
  refine z_iconst C0 dX4_init_57 ?_
  refine z_iconst C0 dX4_init_58 ?_
  refine z_iast C0 hP (zD hD rfl) hS 5 rfl (Nat.le_of_ble_eq_true rfl) (by decide) dX4_init_59 (fun H locs hP hS => ?_)
  have hP : va_P D vwCl [(a0, .inr (4, [.ref q1, .ref q2, .ref q3, .ref q4, .null, .null, .int (zI 0), .null, .null, .null, .int (zI 0), .int (zI 0), .null, .null, .int (zI 0), .null, .null, .null, .int (zI 0), .int (zI 0), .null, .int (zI 0), .int (zI 0), .int (zI 0), .int (zI 0), .int (zI 0), .int (zI 0), .int (zI 0)])), (q1, .inl (cI, 6, .inl (za (fun _ => 0)))), (q2, .inl (cI, 6, .inl (za (fun _ => 0)))), (q3, .inl (cI, 6, .inl (za (fun _ => 0)))), (q4, .inl (cI, 4, .inl (za (zu (zu (zu (zu (fun _ => 0) 0 20) 1 5) 2 2) 3 1)))), (q5, .inl (cI, 4, .inl (za (zu (fun _ => 0) 0 0))))] _ := hP
  refine z_dup C0 dX4_init_60 rfl ?_
  refine z_iconst C0 dX4_init_61 ?_
  refine z_iconst C0 dX4_init_62 ?_
  refine z_iast C0 hP (zD hD rfl) hS 5 rfl (Nat.le_of_ble_eq_true rfl) (by decide) dX4_init_63 (fun H locs hP hS => ?_)
  have hP : va_P D vwCl [(a0, .inr (4, [.ref q1, .ref q2, .ref q3, .ref q4, .null, .null, .int (zI 0), .null, .null, .null, .int (zI 0), .int (zI 0), .null, .null, .int (zI 0), .null, .null, .null, .int (zI 0), .int (zI 0), .null, .int (zI 0), .int (zI 0), .int (zI 0), .int (zI 0), .int (zI 0), .int (zI 0), .int (zI 0)])), (q1, .inl (cI, 6, .inl (za (fun _ => 0)))), (q2, .inl (cI, 6, .inl (za (fun _ => 0)))), (q3, .inl (cI, 6, .inl (za (fun _ => 0)))), (q4, .inl (cI, 4, .inl (za (zu (zu (zu (zu (fun _ => 0) 0 20) 1 5) 2 2) 3 1)))), (q5, .inl (cI, 4, .inl (za (zu (zu (fun _ => 0) 0 0) 1 0))))] _ := hP
  refine z_dup C0 dX4_init_64 rfl ?_
  refine z_iconst C0 dX4_init_65 ?_
  refine z_iconst C0 dX4_init_66 ?_
  refine z_iast C0 hP (zD hD rfl) hS 5 rfl (Nat.le_of_ble_eq_true rfl) (by decide) dX4_init_67 (fun H locs hP hS => ?_)
  have hP : va_P D vwCl [(a0, .inr (4, [.ref q1, .ref q2, .ref q3, .ref q4, .null, .null, .int (zI 0), .null, .null, .null, .int (zI 0), .int (zI 0), .null, .null, .int (zI 0), .null, .null, .null, .int (zI 0), .int (zI 0), .null, .int (zI 0), .int (zI 0), .int (zI 0), .int (zI 0), .int (zI 0), .int (zI 0), .int (zI 0)])), (q1, .inl (cI, 6, .inl (za (fun _ => 0)))), (q2, .inl (cI, 6, .inl (za (fun _ => 0)))), (q3, .inl (cI, 6, .inl (za (fun _ => 0)))), (q4, .inl (cI, 4, .inl (za (zu (zu (zu (zu (fun _ => 0) 0 20) 1 5) 2 2) 3 1)))), (q5, .inl (cI, 4, .inl (za (zu (zu (zu (fun _ => 0) 0 0) 1 0) 2 2))))] _ := hP
  refine z_dup C0 dX4_init_68 rfl ?_
  refine z_iconst C0 dX4_init_69 ?_
  refine z_iconst C0 dX4_init_70 ?_
  refine z_iast C0 hP (zD hD rfl) hS 5 rfl (Nat.le_of_ble_eq_true rfl) (by decide) dX4_init_71 (fun H locs hP hS => ?_)
  have hP : va_P D vwCl [(a0, .inr (4, [.ref q1, .ref q2, .ref q3, .ref q4, .null, .null, .int (zI 0), .null, .null, .null, .int (zI 0), .int (zI 0), .null, .null, .int (zI 0), .null, .null, .null, .int (zI 0), .int (zI 0), .null, .int (zI 0), .int (zI 0), .int (zI 0), .int (zI 0), .int (zI 0), .int (zI 0), .int (zI 0)])), (q1, .inl (cI, 6, .inl (za (fun _ => 0)))), (q2, .inl (cI, 6, .inl (za (fun _ => 0)))), (q3, .inl (cI, 6, .inl (za (fun _ => 0)))), (q4, .inl (cI, 4, .inl (za (zu (zu (zu (zu (fun _ => 0) 0 20) 1 5) 2 2) 3 1)))), (q5, .inl (cI, 4, .inl (za (zu (zu (zu (zu (fun _ => 0) 0 0) 1 0) 2 2) 3 0))))] _ := hP
  refine zqX4_22 C0 hin hP (zD hD rfl) hS 0 rfl (Nat.le_of_ble_eq_true rfl) dX4_init_72 (fun H locs hP hS => ?_)
  have hP : va_P D vwCl [(a0, .inr (4, [.ref q1, .ref q2, .ref q3, .ref q4, .ref q5, .null, .int (zI 0), .null, .null, .null, .int (zI 0), .int (zI 0), .null, .null, .int (zI 0), .null, .null, .null, .int (zI 0), .int (zI 0), .null, .int (zI 0), .int (zI 0), .int (zI 0), .int (zI 0), .int (zI 0), .int (zI 0), .int (zI 0)])), (q1, .inl (cI, 6, .inl (za (fun _ => 0)))), (q2, .inl (cI, 6, .inl (za (fun _ => 0)))), (q3, .inl (cI, 6, .inl (za (fun _ => 0)))), (q4, .inl (cI, 4, .inl (za (zu (zu (zu (zu (fun _ => 0) 0 20) 1 5) 2 2) 3 1)))), (q5, .inl (cI, 4, .inl (za (zu (zu (zu (zu (fun _ => 0) 0 0) 1 0) 2 2) 3 0))))] _ := hP
  refine z_aload_n C0 dX4_init_75 rfl (lv_at hl 0 rfl) ?_
  refine z_iconst C0 dX4_init_76 ?_
  refine z_newi C0 hP (zD hD rfl) hS 4 (by decide) zw358 (Nat.le_of_ble_eq_true rfl) (Nat.le_of_ble_eq_true rfl) (by decide) dX4_init_77 (fun q6 H hP hD hS => ?_)
  have hP : va_P D vwCl [(a0, .inr (4, [.ref q1, .ref q2, .ref q3, .ref q4, .ref q5, .null, .int (zI 0), .null, .null, .null, .int (zI 0), .int (zI 0), .null, .null, .int (zI 0), .null, .null, .null, .int (zI 0), .int (zI 0), .null, .int (zI 0), .int (zI 0), .int (zI 0), .int (zI 0), .int (zI 0), .int (zI 0), .int (zI 0)])), (q1, .inl (cI, 6, .inl (za (fun _ => 0)))), (q2, .inl (cI, 6, .inl (za (fun _ => 0)))), (q3, .inl (cI, 6, .inl (za (fun _ => 0)))), (q4, .inl (cI, 4, .inl (za (zu (zu (zu (zu (fun _ => 0) 0 20) 1 5) 2 2) 3 1)))), (q5, .inl (cI, 4, .inl (za (zu (zu (zu (zu (fun _ => 0) 0 0) 1 0) 2 2) 3 0)))), (q6, .inl (cI, 4, .inl (za (fun _ => 0))))] _ := hP
  have hD : va_D A [(a0, .inr (4, [.ref q1, .ref q2, .ref q3, .ref q4, .ref q5, .null, .int (zI 0), .null, .null, .null, .int (zI 0), .int (zI 0), .null, .null, .int (zI 0), .null, .null, .null, .int (zI 0), .int (zI 0), .null, .int (zI 0), .int (zI 0), .int (zI 0), .int (zI 0), .int (zI 0), .int (zI 0), .int (zI 0)])), (q1, .inl (cI, 6, .inl (za (fun _ => 0)))), (q2, .inl (cI, 6, .inl (za (fun _ => 0)))), (q3, .inl (cI, 6, .inl (za (fun _ => 0)))), (q4, .inl (cI, 4, .inl (za (zu (zu (zu (zu (fun _ => 0) 0 20) 1 5) 2 2) 3 1)))), (q5, .inl (cI, 4, .inl (za (zu (zu (zu (zu (fun _ => 0) 0 0) 1 0) 2 2) 3 0)))), (q6, .inl (cI, 4, .inl (za (fun _ => 0))))] := hD
  refine z_dup C0 dX4_init_79 rfl ?_
  refine z_iconst C0 dX4_init_80 ?_
  refine z_bipush C0 dX4_init_81 (by decide +kernel) ?_
  refine z_iast C0 hP (zD hD rfl) hS 6 rfl (Nat.le_of_ble_eq_true rfl) (by decide) dX4_init_83 (fun H locs hP hS => ?_)
  have hP : va_P D vwCl [(a0, .inr (4, [.ref q1, .ref q2, .ref q3, .ref q4, .ref q5, .null, .int (zI 0), .null, .null, .null, .int (zI 0), .int (zI 0), .null, .null, .int (zI 0), .null, .null, .null, .int (zI 0), .int (zI 0), .null, .int (zI 0), .int (zI 0), .int (zI 0), .int (zI 0), .int (zI 0), .int (zI 0), .int (zI 0)])), (q1, .inl (cI, 6, .inl (za (fun _ => 0)))), (q2, .inl (cI, 6, .inl (za (fun _ => 0)))), (q3, .inl (cI, 6, .inl (za (fun _ => 0)))), (q4, .inl (cI, 4, .inl (za (zu (zu (zu (zu (fun _ => 0) 0 20) 1 5) 2 2) 3 1)))), (q5, .inl (cI, 4, .inl (za (zu (zu (zu (zu (fun _ => 0) 0 0) 1 0) 2 2) 3 0)))), (q6, .inl (cI, 4, .inl (za (zu (fun _ => 0) 0 100))))] _ := hP
  refine z_dup C0 dX4_init_84 rfl ?_
  refine z_iconst C0 dX4_init_85 ?_
  refine z_bipush C0 dX4_init_86 (by decide +kernel) ?_
  refine z_iast C0 hP (zD hD rfl) hS 6 rfl (Nat.le_of_ble_eq_true rfl) (by decide) dX4_init_88 (fun H locs hP hS => ?_)
  have hP : va_P D vwCl [(a0, .inr (4, [.ref q1, .ref q2, .ref q3, .ref q4, .ref q5, .null, .int (zI 0), .null, .null, .null, .int (zI 0), .int (zI 0), .null, .null, .int (zI 0), .null, .null, .null, .int (zI 0), .int (zI 0), .null, .int (zI 0), .int (zI 0), .int (zI 0), .int (zI 0), .int (zI 0), .int (zI 0), .int (zI 0)])), (q1, .inl (cI, 6, .inl (za (fun _ => 0)))), (q2, .inl (cI, 6, .inl (za (fun _ => 0)))), (q3, .inl (cI, 6, .inl (za (fun _ => 0)))), (q4, .inl (cI, 4, .inl (za (zu (zu (zu (zu (fun _ => 0) 0 20) 1 5) 2 2) 3 1)))), (q5, .inl (cI, 4, .inl (za (zu (zu (zu (zu (fun _ => 0) 0 0) 1 0) 2 2) 3 0)))), (q6, .inl (cI, 4, .inl (za (zu (zu (fun _ => 0) 0 100) 1 40))))] _ := hP
  refine z_dup C0 dX4_init_89 rfl ?_
  refine z_iconst C0 dX4_init_90 ?_
  refine z_bipush C0 dX4_init_91 (by decide +kernel) ?_
  refine z_iast C0 hP (zD hD rfl) hS 6 rfl (Nat.le_of_ble_eq_true rfl) (by decide) dX4_init_93 (fun H locs hP hS => ?_)
  have hP : va_P D vwCl [(a0, .inr (4, [.ref q1, .ref q2, .ref q3, .ref q4, .ref q5, .null, .int (zI 0), .null, .null, .null, .int (zI 0), .int (zI 0), .null, .null, .int (zI 0), .null, .null, .null, .int (zI 0), .int (zI 0), .null, .int (zI 0), .int (zI 0), .int (zI 0), .int (zI 0), .int (zI 0), .int (zI 0), .int (zI 0)])), (q1, .inl (cI, 6, .inl (za (fun _ => 0)))), (q2, .inl (cI, 6, .inl (za (fun _ => 0)))), (q3, .inl (cI, 6, .inl (za (fun _ => 0)))), (q4, .inl (cI, 4, .inl (za (zu (zu (zu (zu (fun _ => 0) 0 20) 1 5) 2 2) 3 1)))), (q5, .inl (cI, 4, .inl (za (zu (zu (zu (zu (fun _ => 0) 0 0) 1 0) 2 2) 3 0)))), (q6, .inl (cI, 4, .inl (za (zu (zu (zu (fun _ => 0) 0 100) 1 40) 2 6))))] _ := hP
  refine z_dup C0 dX4_init_94 rfl ?_
  refine z_iconst C0 dX4_init_95 ?_
  refine z_iconst C0 dX4_init_96 ?_
  refine z_iast C0 hP (zD hD rfl) hS 6 rfl (Nat.le_of_ble_eq_true rfl) (by decide) dX4_init_97 (fun H locs hP hS => ?_)
  have hP : va_P D vwCl [(a0, .inr (4, [.ref q1, .ref q2, .ref q3, .ref q4, .ref q5, .null, .int (zI 0), .null, .null, .null, .int (zI 0), .int (zI 0), .null, .null, .int (zI 0), .null, .null, .null, .int (zI 0), .int (zI 0), .null, .int (zI 0), .int (zI 0), .int (zI 0), .int (zI 0), .int (zI 0), .int (zI 0), .int (zI 0)])), (q1, .inl (cI, 6, .inl (za (fun _ => 0)))), (q2, .inl (cI, 6, .inl (za (fun _ => 0)))), (q3, .inl (cI, 6, .inl (za (fun _ => 0)))), (q4, .inl (cI, 4, .inl (za (zu (zu (zu (zu (fun _ => 0) 0 20) 1 5) 2 2) 3 1)))), (q5, .inl (cI, 4, .inl (za (zu (zu (zu (zu (fun _ => 0) 0 0) 1 0) 2 2) 3 0)))), (q6, .inl (cI, 4, .inl (za (zu (zu (zu (zu (fun _ => 0) 0 100) 1 40) 2 6) 3 3))))] _ := hP
  refine zqX4_25 C0 hin hP (zD hD rfl) hS 0 rfl (Nat.le_of_ble_eq_true rfl) dX4_init_98 (fun H locs hP hS => ?_)
  have hP : va_P D vwCl [(a0, .inr (4, [.ref q1, .ref q2, .ref q3, .ref q4, .ref q5, .ref q6, .int (zI 0), .null, .null, .null, .int (zI 0), .int (zI 0), .null, .null, .int (zI 0), .null, .null, .null, .int (zI 0), .int (zI 0), .null, .int (zI 0), .int (zI 0), .int (zI 0), .int (zI 0), .int (zI 0), .int (zI 0), .int (zI 0)])), (q1, .inl (cI, 6, .inl (za (fun _ => 0)))), (q2, .inl (cI, 6, .inl (za (fun _ => 0)))), (q3, .inl (cI, 6, .inl (za (fun _ => 0)))), (q4, .inl (cI, 4, .inl (za (zu (zu (zu (zu (fun _ => 0) 0 20) 1 5) 2 2) 3 1)))), (q5, .inl (cI, 4, .inl (za (zu (zu (zu (zu (fun _ => 0) 0 0) 1 0) 2 2) 3 0)))), (q6, .inl (cI, 4, .inl (za (zu (zu (zu (zu (fun _ => 0) 0 100) 1 40) 2 6) 3 3))))] _ := hP
  refine z_aload_n C0 dX4_init_101 rfl (lv_at hl 0 rfl) ?_
  refine z_sipush C0 dX4_init_102 (by decide +kernel) ?_
  refine z_newi C0 hP (zD hD rfl) hS 241 (by decide) zw358 (Nat.le_of_ble_eq_true rfl) (Nat.le_of_ble_eq_true rfl) (by decide) dX4_init_105 (fun q7 H hP hD hS => ?_)
  have hP : va_P D vwCl [(a0, .inr (4, [.ref q1, .ref q2, .ref q3, .ref q4, .ref q5, .ref q6, .int (zI 0), .null, .null, .null, .int (zI 0), .int (zI 0), .null, .null, .int (zI 0), .null, .null, .null, .int (zI 0), .int (zI 0), .null, .int (zI 0), .int (zI 0), .int (zI 0), .int (zI 0), .int (zI 0), .int (zI 0), .int (zI 0)])), (q1, .inl (cI, 6, .inl (za (fun _ => 0)))), (q2, .inl (cI, 6, .inl (za (fun _ => 0)))), (q3, .inl (cI, 6, .inl (za (fun _ => 0)))), (q4, .inl (cI, 4, .inl (za (zu (zu (zu (zu (fun _ => 0) 0 20) 1 5) 2 2) 3 1)))), (q5, .inl (cI, 4, .inl (za (zu (zu (zu (zu (fun _ => 0) 0 0) 1 0) 2 2) 3 0)))), (q6, .inl (cI, 4, .inl (za (zu (zu (zu (zu (fun _ => 0) 0 100) 1 40) 2 6) 3 3)))), (q7, .inl (cI, 241, .inl (za (fun _ => 0))))] _ := hP
  have hD : va_D A [(a0, .inr (4, [.ref q1, .ref q2, .ref q3, .ref q4, .ref q5, .ref q6, .int (zI 0), .null, .null, .null, .int (zI 0), .int (zI 0), .null, .null, .int (zI 0), .null, .null, .null, .int (zI 0), .int (zI 0), .null, .int (zI 0), .int (zI 0), .int (zI 0), .int (zI 0), .int (zI 0), .int (zI 0), .int (zI 0)])), (q1, .inl (cI, 6, .inl (za (fun _ => 0)))), (q2, .inl (cI, 6, .inl (za (fun _ => 0)))), (q3, .inl (cI, 6, .inl (za (fun _ => 0)))), (q4, .inl (cI, 4, .inl (za (zu (zu (zu (zu (fun _ => 0) 0 20) 1 5) 2 2) 3 1)))), (q5, .inl (cI, 4, .inl (za (zu (zu (zu (zu (fun _ => 0) 0 0) 1 0) 2 2) 3 0)))), (q6, .inl (cI, 4, .inl (za (zu (zu (zu (zu (fun _ => 0) 0 100) 1 40) 2 6) 3 3)))), (q7, .inl (cI, 241, .inl (za (fun _ => 0))))] := hD
  refine zqX4_28 C0 hin hP (zD hD rfl) hS 0 rfl (Nat.le_of_ble_eq_true rfl) dX4_init_107 (fun H locs hP hS => ?_)
  have hP : va_P D vwCl [(a0, .inr (4, [.ref q1, .ref q2, .ref q3, .ref q4, .ref q5, .ref q6, .int (zI 0), .ref q7, .null, .null, .int (zI 0), .int (zI 0), .null, .null, .int (zI 0), .null, .null, .null, .int (zI 0), .int (zI 0), .null, .int (zI 0), .int (zI 0), .int (zI 0), .int (zI 0), .int (zI 0), .int (zI 0), .int (zI 0)])), (q1, .inl (cI, 6, .inl (za (fun _ => 0)))), (q2, .inl (cI, 6, .inl (za (fun _ => 0)))), (q3, .inl (cI, 6, .inl (za (fun _ => 0)))), (q4, .inl (cI, 4, .inl (za (zu (zu (zu (zu (fun _ => 0) 0 20) 1 5) 2 2) 3 1)))), (q5, .inl (cI, 4, .inl (za (zu (zu (zu (zu (fun _ => 0) 0 0) 1 0) 2 2) 3 0)))), (q6, .inl (cI, 4, .inl (za (zu (zu (zu (zu (fun _ => 0) 0 100) 1 40) 2 6) 3 3)))), (q7, .inl (cI, 241, .inl (za (fun _ => 0))))] _ := hP
  refine z_aload_n C0 dX4_init_110 rfl (lv_at hl 0 rfl) ?_
  refine z_sipush C0 dX4_init_111 (by decide +kernel) ?_
  refine z_newi C0 hP (zD hD rfl) hS 241 (by decide) zw358 (Nat.le_of_ble_eq_true rfl) (Nat.le_of_ble_eq_true rfl) (by decide) dX4_init_114 (fun q8 H hP hD hS => ?_)
  have hP : va_P D vwCl [(a0, .inr (4, [.ref q1, .ref q2, .ref q3, .ref q4, .ref q5, .ref q6, .int (zI 0), .ref q7, .null, .null, .int (zI 0), .int (zI 0), .null, .null, .int (zI 0), .null, .null, .null, .int (zI 0), .int (zI 0), .null, .int (zI 0), .int (zI 0), .int (zI 0), .int (zI 0), .int (zI 0), .int (zI 0), .int (zI 0)])), (q1, .inl (cI, 6, .inl (za (fun _ => 0)))), (q2, .inl (cI, 6, .inl (za (fun _ => 0)))), (q3, .inl (cI, 6, .inl (za (fun _ => 0)))), (q4, .inl (cI, 4, .inl (za (zu (zu (zu (zu (fun _ => 0) 0 20) 1 5) 2 2) 3 1)))), (q5, .inl (cI, 4, .inl (za (zu (zu (zu (zu (fun _ => 0) 0 0) 1 0) 2 2) 3 0)))), (q6, .inl (cI, 4, .inl (za (zu (zu (zu (zu (fun _ => 0) 0 100) 1 40) 2 6) 3 3)))), (q7, .inl (cI, 241, .inl (za (fun _ => 0)))), (q8, .inl (cI, 241, .inl (za (fun _ => 0))))] _ := hP
  have hD : va_D A [(a0, .inr (4, [.ref q1, .ref q2, .ref q3, .ref q4, .ref q5, .ref q6, .int (zI 0), .ref q7, .null, .null, .int (zI 0), .int (zI 0), .null, .null, .int (zI 0), .null, .null, .null, .int (zI 0), .int (zI 0), .null, .int (zI 0), .int (zI 0), .int (zI 0), .int (zI 0), .int (zI 0), .int (zI 0), .int (zI 0)])), (q1, .inl (cI, 6, .inl (za (fun _ => 0)))), (q2, .inl (cI, 6, .inl (za (fun _ => 0)))), (q3, .inl (cI, 6, .inl (za (fun _ => 0)))), (q4, .inl (cI, 4, .inl (za (zu (zu (zu (zu (fun _ => 0) 0 20) 1 5) 2 2) 3 1)))), (q5, .inl (cI, 4, .inl (za (zu (zu (zu (zu (fun _ => 0) 0 0) 1 0) 2 2) 3 0)))), (q6, .inl (cI, 4, .inl (za (zu (zu (zu (zu (fun _ => 0) 0 100) 1 40) 2 6) 3 3)))), (q7, .inl (cI, 241, .inl (za (fun _ => 0)))), (q8, .inl (cI, 241, .inl (za (fun _ => 0))))] := hD
  refine zqX4_31 C0 hin hP (zD hD rfl) hS 0 rfl (Nat.le_of_ble_eq_true rfl) dX4_init_116 (fun H locs hP hS => ?_)
  have hP : va_P D vwCl [(a0, .inr (4, [.ref q1, .ref q2, .ref q3, .ref q4, .ref q5, .ref q6, .int (zI 0), .ref q7, .ref q8, .null, .int (zI 0), .int (zI 0), .null, .null, .int (zI 0), .null, .null, .null, .int (zI 0), .int (zI 0), .null, .int (zI 0), .int (zI 0), .int (zI 0), .int (zI 0), .int (zI 0), .int (zI 0), .int (zI 0)])), (q1, .inl (cI, 6, .inl (za (fun _ => 0)))), (q2, .inl (cI, 6, .inl (za (fun _ => 0)))), (q3, .inl (cI, 6, .inl (za (fun _ => 0)))), (q4, .inl (cI, 4, .inl (za (zu (zu (zu (zu (fun _ => 0) 0 20) 1 5) 2 2) 3 1)))), (q5, .inl (cI, 4, .inl (za (zu (zu (zu (zu (fun _ => 0) 0 0) 1 0) 2 2) 3 0)))), (q6, .inl (cI, 4, .inl (za (zu (zu (zu (zu (fun _ => 0) 0 100) 1 40) 2 6) 3 3)))), (q7, .inl (cI, 241, .inl (za (fun _ => 0)))), (q8, .inl (cI, 241, .inl (za (fun _ => 0))))] _ := hP
  refine z_aload_n C0 dX4_init_119 rfl (lv_at hl 0 rfl) ?_
  refine z_sipush C0 dX4_init_120 (by decide +kernel) ?_
  refine z_newi C0 hP (zD hD rfl) hS 241 (by decide) zw358 (Nat.le_of_ble_eq_true rfl) (Nat.le_of_ble_eq_true rfl) (by decide) dX4_init_123 (fun q9 H hP hD hS => ?_)
  have hP : va_P D vwCl [(a0, .inr (4, [.ref q1, .ref q2, .ref q3, .ref q4, .ref q5, .ref q6, .int (zI 0), .ref q7, .ref q8, .null, .int (zI 0), .int (zI 0), .null, .null, .int (zI 0), .null, .null, .null, .int (zI 0), .int (zI 0), .null, .int (zI 0), .int (zI 0), .int (zI 0), .int (zI 0), .int (zI 0), .int (zI 0), .int (zI 0)])), (q1, .inl (cI, 6, .inl (za (fun _ => 0)))), (q2, .inl (cI, 6, .inl (za (fun _ => 0)))), (q3, .inl (cI, 6, .inl (za (fun _ => 0)))), (q4, .inl (cI, 4, .inl (za (zu (zu (zu (zu (fun _ => 0) 0 20) 1 5) 2 2) 3 1)))), (q5, .inl (cI, 4, .inl (za (zu (zu (zu (zu (fun _ => 0) 0 0) 1 0) 2 2) 3 0)))), (q6, .inl (cI, 4, .inl (za (zu (zu (zu (zu (fun _ => 0) 0 100) 1 40) 2 6) 3 3)))), (q7, .inl (cI, 241, .inl (za (fun _ => 0)))), (q8, .inl (cI, 241, .inl (za (fun _ => 0)))), (q9, .inl (cI, 241, .inl (za (fun _ => 0))))] _ := hP
  have hD : va_D A [(a0, .inr (4, [.ref q1, .ref q2, .ref q3, .ref q4, .ref q5, .ref q6, .int (zI 0), .ref q7, .ref q8, .null, .int (zI 0), .int (zI 0), .null, .null, .int (zI 0), .null, .null, .null, .int (zI 0), .int (zI 0), .null, .int (zI 0), .int (zI 0), .int (zI 0), .int (zI 0), .int (zI 0), .int (zI 0), .int (zI 0)])), (q1, .inl (cI, 6, .inl (za (fun _ => 0)))), (q2, .inl (cI, 6, .inl (za (fun _ => 0)))), (q3, .inl (cI, 6, .inl (za (fun _ => 0)))), (q4, .inl (cI, 4, .inl (za (zu (zu (zu (zu (fun _ => 0) 0 20) 1 5) 2 2) 3 1)))), (q5, .inl (cI, 4, .inl (za (zu (zu (zu (zu (fun _ => 0) 0 0) 1 0) 2 2) 3 0)))), (q6, .inl (cI, 4, .inl (za (zu (zu (zu (zu (fun _ => 0) 0 100) 1 40) 2 6) 3 3)))), (q7, .inl (cI, 241, .inl (za (fun _ => 0)))), (q8, .inl (cI, 241, .inl (za (fun _ => 0)))), (q9, .inl (cI, 241, .inl (za (fun _ => 0))))] := hD
  refine zqX4_34 C0 hin hP (zD hD rfl) hS 0 rfl (Nat.le_of_ble_eq_true rfl) dX4_init_125 (fun H locs hP hS => ?_)
  have hP : va_P D vwCl [(a0, .inr (4, [.ref q1, .ref q2, .ref q3, .ref q4, .ref q5, .ref q6, .int (zI 0), .ref q7, .ref q8, .ref q9, .int (zI 0), .int (zI 0), .null, .null, .int (zI 0), .null, .null, .null, .int (zI 0), .int (zI 0), .null, .int (zI 0), .int (zI 0), .int (zI 0), .int (zI 0), .int (zI 0), .int (zI 0), .int (zI 0)])), (q1, .inl (cI, 6, .inl (za (fun _ => 0)))), (q2, .inl (cI, 6, .inl (za (fun _ => 0)))), (q3, .inl (cI, 6, .inl (za (fun _ => 0)))), (q4, .inl (cI, 4, .inl (za (zu (zu (zu (zu (fun _ => 0) 0 20) 1 5) 2 2) 3 1)))), (q5, .inl (cI, 4, .inl (za (zu (zu (zu (zu (fun _ => 0) 0 0) 1 0) 2 2) 3 0)))), (q6, .inl (cI, 4, .inl (za (zu (zu (zu (zu (fun _ => 0) 0 100) 1 40) 2 6) 3 3)))), (q7, .inl (cI, 241, .inl (za (fun _ => 0)))), (q8, .inl (cI, 241, .inl (za (fun _ => 0)))), (q9, .inl (cI, 241, .inl (za (fun _ => 0))))] _ := hP
  refine z_aload_n C0 dX4_init_128 rfl (lv_at hl 0 rfl) ?_
  refine z_sipush C0 dX4_init_129 (by decide +kernel) ?_
  refine z_newb C0 hP (zD hD rfl) hS 240 (by decide) zw385 (Nat.le_of_ble_eq_true rfl) (Nat.le_of_ble_eq_true rfl) (by decide) dX4_init_132 (fun q10 H hP hD hS => ?_)
  have hP : va_P D vwCl [(a0, .inr (4, [.ref q1, .ref q2, .ref q3, .ref q4, .ref q5, .ref q6, .int (zI 0), .ref q7, .ref q8, .ref q9, .int (zI 0), .int (zI 0), .null, .null, .int (zI 0), .null, .null, .null, .int (zI 0), .int (zI 0), .null, .int (zI 0), .int (zI 0), .int (zI 0), .int (zI 0), .int (zI 0), .int (zI 0), .int (zI 0)])), (q1, .inl (cI, 6, .inl (za (fun _ => 0)))), (q2, .inl (cI, 6, .inl (za (fun _ => 0)))), (q3, .inl (cI, 6, .inl (za (fun _ => 0)))), (q4, .inl (cI, 4, .inl (za (zu (zu (zu (zu (fun _ => 0) 0 20) 1 5) 2 2) 3 1)))), (q5, .inl (cI, 4, .inl (za (zu (zu (zu (zu (fun _ => 0) 0 0) 1 0) 2 2) 3 0)))), (q6, .inl (cI, 4, .inl (za (zu (zu (zu (zu (fun _ => 0) 0 100) 1 40) 2 6) 3 3)))), (q7, .inl (cI, 241, .inl (za (fun _ => 0)))), (q8, .inl (cI, 241, .inl (za (fun _ => 0)))), (q9, .inl (cI, 241, .inl (za (fun _ => 0)))), (q10, .inl (cZ, 240, .inl (za (fun _ => 0))))] _ := hP
  have hD : va_D A [(a0, .inr (4, [.ref q1, .ref q2, .ref q3, .ref q4, .ref q5, .ref q6, .int (zI 0), .ref q7, .ref q8, .ref q9, .int (zI 0), .int (zI 0), .null, .null, .int (zI 0), .null, .null, .null, .int (zI 0), .int (zI 0), .null, .int (zI 0), .int (zI 0), .int (zI 0), .int (zI 0), .int (zI 0), .int (zI 0), .int (zI 0)])), (q1, .inl (cI, 6, .inl (za (fun _ => 0)))), (q2, .inl (cI, 6, .inl (za (fun _ => 0)))), (q3, .inl (cI, 6, .inl (za (fun _ => 0)))), (q4, .inl (cI, 4, .inl (za (zu (zu (zu (zu (fun _ => 0) 0 20) 1 5) 2 2) 3 1)))), (q5, .inl (cI, 4, .inl (za (zu (zu (zu (zu (fun _ => 0) 0 0) 1 0) 2 2) 3 0)))), (q6, .inl (cI, 4, .inl (za (zu (zu (zu (zu (fun _ => 0) 0 100) 1 40) 2 6) 3 3)))), (q7, .inl (cI, 241, .inl (za (fun _ => 0)))), (q8, .inl (cI, 241, .inl (za (fun _ => 0)))), (q9, .inl (cI, 241, .inl (za (fun _ => 0)))), (q10, .inl (cZ, 240, .inl (za (fun _ => 0))))] := hD
  refine zqX4_37 C0 hin hP (zD hD rfl) hS 0 rfl (Nat.le_of_ble_eq_true rfl) dX4_init_134 (fun H locs hP hS => ?_)
  have hP : va_P D vwCl [(a0, .inr (4, [.ref q1, .ref q2, .ref q3, .ref q4, .ref q5, .ref q6, .int (zI 0), .ref q7, .ref q8, .ref q9, .int (zI 0), .int (zI 0), .ref q10, .null, .int (zI 0), .null, .null, .null, .int (zI 0), .int (zI 0), .null, .int (zI 0), .int (zI 0), .int (zI 0), .int (zI 0), .int (zI 0), .int (zI 0), .int (zI 0)])), (q1, .inl (cI, 6, .inl (za (fun _ => 0)))), (q2, .inl (cI, 6, .inl (za (fun _ => 0)))), (q3, .inl (cI, 6, .inl (za (fun _ => 0)))), (q4, .inl (cI, 4, .inl (za (zu (zu (zu (zu (fun _ => 0) 0 20) 1 5) 2 2) 3 1)))), (q5, .inl (cI, 4, .inl (za (zu (zu (zu (zu (fun _ => 0) 0 0) 1 0) 2 2) 3 0)))), (q6, .inl (cI, 4, .inl (za (zu (zu (zu (zu (fun _ => 0) 0 100) 1 40) 2 6) 3 3)))), (q7, .inl (cI, 241, .inl (za (fun _ => 0)))), (q8, .inl (cI, 241, .inl (za (fun _ => 0)))), (q9, .inl (cI, 241, .inl (za (fun _ => 0)))), (q10, .inl (cZ, 240, .inl (za (fun _ => 0))))] _ := hP
  refine z_aload_n C0 dX4_init_137 rfl (lv_at hl 0 rfl) ?_
  refine z_bipush C0 dX4_init_138 (by decide +kernel) ?_
  refine z_newi C0 hP (zD hD rfl) hS 6 (by decide) zw358 (Nat.le_of_ble_eq_true rfl) (Nat.le_of_ble_eq_true rfl) (by decide) dX4_init_140 (fun q11 H hP hD hS => ?_)
  have hP : va_P D vwCl [(a0, .inr (4, [.ref q1, .ref q2, .ref q3, .ref q4, .ref q5, .ref q6, .int (zI 0), .ref q7, .ref q8, .ref q9, .int (zI 0), .int (zI 0), .ref q10, .null, .int (zI 0), .null, .null, .null, .int (zI 0), .int (zI 0), .null, .int (zI 0), .int (zI 0), .int (zI 0), .int (zI 0), .int (zI 0), .int (zI 0), .int (zI 0)])), (q1, .inl (cI, 6, .inl (za (fun _ => 0)))), (q2, .inl (cI, 6, .inl (za (fun _ => 0)))), (q3, .inl (cI, 6, .inl (za (fun _ => 0)))), (q4, .inl (cI, 4, .inl (za (zu (zu (zu (zu (fun _ => 0) 0 20) 1 5) 2 2) 3 1)))), (q5, .inl (cI, 4, .inl (za (zu (zu (zu (zu (fun _ => 0) 0 0) 1 0) 2 2) 3 0)))), (q6, .inl (cI, 4, .inl (za (zu (zu (zu (zu (fun _ => 0) 0 100) 1 40) 2 6) 3 3)))), (q7, .inl (cI, 241, .inl (za (fun _ => 0)))), (q8, .inl (cI, 241, .inl (za (fun _ => 0)))), (q9, .inl (cI, 241, .inl (za (fun _ => 0)))), (q10, .inl (cZ, 240, .inl (za (fun _ => 0)))), (q11, .inl (cI, 6, .inl (za (fun _ => 0))))] _ := hP
  have hD : va_D A [(a0, .inr (4, [.ref q1, .ref q2, .ref q3, .ref q4, .ref q5, .ref q6, .int (zI 0), .ref q7, .ref q8, .ref q9, .int (zI 0), .int (zI 0), .ref q10, .null, .int (zI 0), .null, .null, .null, .int (zI 0), .int (zI 0), .null, .int (zI 0), .int (zI 0), .int (zI 0), .int (zI 0), .int (zI 0), .int (zI 0), .int (zI 0)])), (q1, .inl (cI, 6, .inl (za (fun _ => 0)))), (q2, .inl (cI, 6, .inl (za (fun _ => 0)))), (q3, .inl (cI, 6, .inl (za (fun _ => 0)))), (q4, .inl (cI, 4, .inl (za (zu (zu (zu (zu (fun _ => 0) 0 20) 1 5) 2 2) 3 1)))), (q5, .inl (cI, 4, .inl (za (zu (zu (zu (zu (fun _ => 0) 0 0) 1 0) 2 2) 3 0)))), (q6, .inl (cI, 4, .inl (za (zu (zu (zu (zu (fun _ => 0) 0 100) 1 40) 2 6) 3 3)))), (q7, .inl (cI, 241, .inl (za (fun _ => 0)))), (q8, .inl (cI, 241, .inl (za (fun _ => 0)))), (q9, .inl (cI, 241, .inl (za (fun _ => 0)))), (q10, .inl (cZ, 240, .inl (za (fun _ => 0)))), (q11, .inl (cI, 6, .inl (za (fun _ => 0))))] := hD
  refine zqX4_41 C0 hin hP (zD hD rfl) hS 0 rfl (Nat.le_of_ble_eq_true rfl) dX4_init_142 (fun H locs hP hS => ?_)
  have hP : va_P D vwCl [(a0, .inr (4, [.ref q1, .ref q2, .ref q3, .ref q4, .ref q5, .ref q6, .int (zI 0), .ref q7, .ref q8, .ref q9, .int (zI 0), .int (zI 0), .ref q10, .ref q11, .int (zI 0), .null, .null, .null, .int (zI 0), .int (zI 0), .null, .int (zI 0), .int (zI 0), .int (zI 0), .int (zI 0), .int (zI 0), .int (zI 0), .int (zI 0)])), (q1, .inl (cI, 6, .inl (za (fun _ => 0)))), (q2, .inl (cI, 6, .inl (za (fun _ => 0)))), (q3, .inl (cI, 6, .inl (za (fun _ => 0)))), (q4, .inl (cI, 4, .inl (za (zu (zu (zu (zu (fun _ => 0) 0 20) 1 5) 2 2) 3 1)))), (q5, .inl (cI, 4, .inl (za (zu (zu (zu (zu (fun _ => 0) 0 0) 1 0) 2 2) 3 0)))), (q6, .inl (cI, 4, .inl (za (zu (zu (zu (zu (fun _ => 0) 0 100) 1 40) 2 6) 3 3)))), (q7, .inl (cI, 241, .inl (za (fun _ => 0)))), (q8, .inl (cI, 241, .inl (za (fun _ => 0)))), (q9, .inl (cI, 241, .inl (za (fun _ => 0)))), (q10, .inl (cZ, 240, .inl (za (fun _ => 0)))), (q11, .inl (cI, 6, .inl (za (fun _ => 0))))] _ := hP
  refine z_aload_n C0 dX4_init_145 rfl (lv_at hl 0 rfl) ?_
  refine z_sipush C0 dX4_init_146 (by decide +kernel) ?_
  refine z_newi C0 hP (zD hD rfl) hS 240 (by decide) zw358 (Nat.le_of_ble_eq_true rfl) (Nat.le_of_ble_eq_true rfl) (by decide) dX4_init_149 (fun q12 H hP hD hS => ?_)
  have hP : va_P D vwCl [(a0, .inr (4, [.ref q1, .ref q2, .ref q3, .ref q4, .ref q5, .ref q6, .int (zI 0), .ref q7, .ref q8, .ref q9, .int (zI 0), .int (zI 0), .ref q10, .ref q11, .int (zI 0), .null, .null, .null, .int (zI 0), .int (zI 0), .null, .int (zI 0), .int (zI 0), .int (zI 0), .int (zI 0), .int (zI 0), .int (zI 0), .int (zI 0)])), (q1, .inl (cI, 6, .inl (za (fun _ => 0)))), (q2, .inl (cI, 6, .inl (za (fun _ => 0)))), (q3, .inl (cI, 6, .inl (za (fun _ => 0)))), (q4, .inl (cI, 4, .inl (za (zu (zu (zu (zu (fun _ => 0) 0 20) 1 5) 2 2) 3 1)))), (q5, .inl (cI, 4, .inl (za (zu (zu (zu (zu (fun _ => 0) 0 0) 1 0) 2 2) 3 0)))), (q6, .inl (cI, 4, .inl (za (zu (zu (zu (zu (fun _ => 0) 0 100) 1 40) 2 6) 3 3)))), (q7, .inl (cI, 241, .inl (za (fun _ => 0)))), (q8, .inl (cI, 241, .inl (za (fun _ => 0)))), (q9, .inl (cI, 241, .inl (za (fun _ => 0)))), (q10, .inl (cZ, 240, .inl (za (fun _ => 0)))), (q11, .inl (cI, 6, .inl (za (fun _ => 0)))), (q12, .inl (cI, 240, .inl (za (fun _ => 0))))] _ := hP
  have hD : va_D A [(a0, .inr (4, [.ref q1, .ref q2, .ref q3, .ref q4, .ref q5, .ref q6, .int (zI 0), .ref q7, .ref q8, .ref q9, .int (zI 0), .int (zI 0), .ref q10, .ref q11, .int (zI 0), .null, .null, .null, .int (zI 0), .int (zI 0), .null, .int (zI 0), .int (zI 0), .int (zI 0), .int (zI 0), .int (zI 0), .int (zI 0), .int (zI 0)])), (q1, .inl (cI, 6, .inl (za (fun _ => 0)))), (q2, .inl (cI, 6, .inl (za (fun _ => 0)))), (q3, .inl (cI, 6, .inl (za (fun _ => 0)))), (q4, .inl (cI, 4, .inl (za (zu (zu (zu (zu (fun _ => 0) 0 20) 1 5) 2 2) 3 1)))), (q5, .inl (cI, 4, .inl (za (zu (zu (zu (zu (fun _ => 0) 0 0) 1 0) 2 2) 3 0)))), (q6, .inl (cI, 4, .inl (za (zu (zu (zu (zu (fun _ => 0) 0 100) 1 40) 2 6) 3 3)))), (q7, .inl (cI, 241, .inl (za (fun _ => 0)))), (q8, .inl (cI, 241, .inl (za (fun _ => 0)))), (q9, .inl (cI, 241, .inl (za (fun _ => 0)))), (q10, .inl (cZ, 240, .inl (za (fun _ => 0)))), (q11, .inl (cI, 6, .inl (za (fun _ => 0)))), (q12, .inl (cI, 240, .inl (za (fun _ => 0))))] := hD
  refine zqX4_44 C0 hin hP (zD hD rfl) hS 0 rfl (Nat.le_of_ble_eq_true rfl) dX4_init_151 (fun H locs hP hS => ?_)
  have hP : va_P D vwCl [(a0, .inr (4, [.ref q1, .ref q2, .ref q3, .ref q4, .ref q5, .ref q6, .int (zI 0), .ref q7, .ref q8, .ref q9, .int (zI 0), .int (zI 0), .ref q10, .ref q11, .int (zI 0), .ref q12, .null, .null, .int (zI 0), .int (zI 0), .null, .int (zI 0), .int (zI 0), .int (zI 0), .int (zI 0), .int (zI 0), .int (zI 0), .int (zI 0)])), (q1, .inl (cI, 6, .inl (za (fun _ => 0)))), (q2, .inl (cI, 6, .inl (za (fun _ => 0)))), (q3, .inl (cI, 6, .inl (za (fun _ => 0)))), (q4, .inl (cI, 4, .inl (za (zu (zu (zu (zu (fun _ => 0) 0 20) 1 5) 2 2) 3 1)))), (q5, .inl (cI, 4, .inl (za (zu (zu (zu (zu (fun _ => 0) 0 0) 1 0) 2 2) 3 0)))), (q6, .inl (cI, 4, .inl (za (zu (zu (zu (zu (fun _ => 0) 0 100) 1 40) 2 6) 3 3)))), (q7, .inl (cI, 241, .inl (za (fun _ => 0)))), (q8, .inl (cI, 241, .inl (za (fun _ => 0)))), (q9, .inl (cI, 241, .inl (za (fun _ => 0)))), (q10, .inl (cZ, 240, .inl (za (fun _ => 0)))), (q11, .inl (cI, 6, .inl (za (fun _ => 0)))), (q12, .inl (cI, 240, .inl (za (fun _ => 0))))] _ := hP
  refine z_aload_n C0 dX4_init_154 rfl (lv_at hl 0 rfl) ?_
  refine z_sipush C0 dX4_init_155 (by decide +kernel) ?_
  refine z_newi C0 hP (zD hD rfl) hS 240 (by decide) zw358 (Nat.le_of_ble_eq_true rfl) (Nat.le_of_ble_eq_true rfl) (by decide) dX4_init_158 (fun q13 H hP hD hS => ?_)
  have hP : va_P D vwCl [(a0, .inr (4, [.ref q1, .ref q2, .ref q3, .ref q4, .ref q5, .ref q6, .int (zI 0), .ref q7, .ref q8, .ref q9, .int (zI 0), .int (zI 0), .ref q10, .ref q11, .int (zI 0), .ref q12, .null, .null, .int (zI 0), .int (zI 0), .null, .int (zI 0), .int (zI 0), .int (zI 0), .int (zI 0), .int (zI 0), .int (zI 0), .int (zI 0)])), (q1, .inl (cI, 6, .inl (za (fun _ => 0)))), (q2, .inl (cI, 6, .inl (za (fun _ => 0)))), (q3, .inl (cI, 6, .inl (za (fun _ => 0)))), (q4, .inl (cI, 4, .inl (za (zu (zu (zu (zu (fun _ => 0) 0 20) 1 5) 2 2) 3 1)))), (q5, .inl (cI, 4, .inl (za (zu (zu (zu (zu (fun _ => 0) 0 0) 1 0) 2 2) 3 0)))), (q6, .inl (cI, 4, .inl (za (zu (zu (zu (zu (fun _ => 0) 0 100) 1 40) 2 6) 3 3)))), (q7, .inl (cI, 241, .inl (za (fun _ => 0)))), (q8, .inl (cI, 241, .inl (za (fun _ => 0)))), (q9, .inl (cI, 241, .inl (za (fun _ => 0)))), (q10, .inl (cZ, 240, .inl (za (fun _ => 0)))), (q11, .inl (cI, 6, .inl (za (fun _ => 0)))), (q12, .inl (cI, 240, .inl (za (fun _ => 0)))), (q13, .inl (cI, 240, .inl (za (fun _ => 0))))] _ := hP
  have hD : va_D A [(a0, .inr (4, [.ref q1, .ref q2, .ref q3, .ref q4, .ref q5, .ref q6, .int (zI 0), .ref q7, .ref q8, .ref q9, .int (zI 0), .int (zI 0), .ref q10, .ref q11, .int (zI 0), .ref q12, .null, .null, .int (zI 0), .int (zI 0), .null, .int (zI 0), .int (zI 0), .int (zI 0), .int (zI 0), .int (zI 0), .int (zI 0), .int (zI 0)])), (q1, .inl (cI, 6, .inl (za (fun _ => 0)))), (q2, .inl (cI, 6, .inl (za (fun _ => 0)))), (q3, .inl (cI, 6, .inl (za (fun _ => 0)))), (q4, .inl (cI, 4, .inl (za (zu (zu (zu (zu (fun _ => 0) 0 20) 1 5) 2 2) 3 1)))), (q5, .inl (cI, 4, .inl (za (zu (zu (zu (zu (fun _ => 0) 0 0) 1 0) 2 2) 3 0)))), (q6, .inl (cI, 4, .inl (za (zu (zu (zu (zu (fun _ => 0) 0 100) 1 40) 2 6) 3 3)))), (q7, .inl (cI, 241, .inl (za (fun _ => 0)))), (q8, .inl (cI, 241, .inl (za (fun _ => 0)))), (q9, .inl (cI, 241, .inl (za (fun _ => 0)))), (q10, .inl (cZ, 240, .inl (za (fun _ => 0)))), (q11, .inl (cI, 6, .inl (za (fun _ => 0)))), (q12, .inl (cI, 240, .inl (za (fun _ => 0)))), (q13, .inl (cI, 240, .inl (za (fun _ => 0))))] := hD
  refine zqX4_47 C0 hin hP (zD hD rfl) hS 0 rfl (Nat.le_of_ble_eq_true rfl) dX4_init_160 (fun H locs hP hS => ?_)
  have hP : va_P D vwCl [(a0, .inr (4, [.ref q1, .ref q2, .ref q3, .ref q4, .ref q5, .ref q6, .int (zI 0), .ref q7, .ref q8, .ref q9, .int (zI 0), .int (zI 0), .ref q10, .ref q11, .int (zI 0), .ref q12, .ref q13, .null, .int (zI 0), .int (zI 0), .null, .int (zI 0), .int (zI 0), .int (zI 0), .int (zI 0), .int (zI 0), .int (zI 0), .int (zI 0)])), (q1, .inl (cI, 6, .inl (za (fun _ => 0)))), (q2, .inl (cI, 6, .inl (za (fun _ => 0)))), (q3, .inl (cI, 6, .inl (za (fun _ => 0)))), (q4, .inl (cI, 4, .inl (za (zu (zu (zu (zu (fun _ => 0) 0 20) 1 5) 2 2) 3 1)))), (q5, .inl (cI, 4, .inl (za (zu (zu (zu (zu (fun _ => 0) 0 0) 1 0) 2 2) 3 0)))), (q6, .inl (cI, 4, .inl (za (zu (zu (zu (zu (fun _ => 0) 0 100) 1 40) 2 6) 3 3)))), (q7, .inl (cI, 241, .inl (za (fun _ => 0)))), (q8, .inl (cI, 241, .inl (za (fun _ => 0)))), (q9, .inl (cI, 241, .inl (za (fun _ => 0)))), (q10, .inl (cZ, 240, .inl (za (fun _ => 0)))), (q11, .inl (cI, 6, .inl (za (fun _ => 0)))), (q12, .inl (cI, 240, .inl (za (fun _ => 0)))), (q13, .inl (cI, 240, .inl (za (fun _ => 0))))] _ := hP
  refine z_aload_n C0 dX4_init_163 rfl (lv_at hl 0 rfl) ?_
  refine z_sipush C0 dX4_init_164 (by decide +kernel) ?_
  refine z_newi C0 hP (zD hD rfl) hS 240 (by decide) zw358 (Nat.le_of_ble_eq_true rfl) (Nat.le_of_ble_eq_true rfl) (by decide) dX4_init_167 (fun q14 H hP hD hS => ?_)
  have hP : va_P D vwCl [(a0, .inr (4, [.ref q1, .ref q2, .ref q3, .ref q4, .ref q5, .ref q6, .int (zI 0), .ref q7, .ref q8, .ref q9, .int (zI 0), .int (zI 0), .ref q10, .ref q11, .int (zI 0), .ref q12, .ref q13, .null, .int (zI 0), .int (zI 0), .null, .int (zI 0), .int (zI 0), .int (zI 0), .int (zI 0), .int (zI 0), .int (zI 0), .int (zI 0)])), (q1, .inl (cI, 6, .inl (za (fun _ => 0)))), (q2, .inl (cI, 6, .inl (za (fun _ => 0)))), (q3, .inl (cI, 6, .inl (za (fun _ => 0)))), (q4, .inl (cI, 4, .inl (za (zu (zu (zu (zu (fun _ => 0) 0 20) 1 5) 2 2) 3 1)))), (q5, .inl (cI, 4, .inl (za (zu (zu (zu (zu (fun _ => 0) 0 0) 1 0) 2 2) 3 0)))), (q6, .inl (cI, 4, .inl (za (zu (zu (zu (zu (fun _ => 0) 0 100) 1 40) 2 6) 3 3)))), (q7, .inl (cI, 241, .inl (za (fun _ => 0)))), (q8, .inl (cI, 241, .inl (za (fun _ => 0)))), (q9, .inl (cI, 241, .inl (za (fun _ => 0)))), (q10, .inl (cZ, 240, .inl (za (fun _ => 0)))), (q11, .inl (cI, 6, .inl (za (fun _ => 0)))), (q12, .inl (cI, 240, .inl (za (fun _ => 0)))), (q13, .inl (cI, 240, .inl (za (fun _ => 0)))), (q14, .inl (cI, 240, .inl (za (fun _ => 0))))] _ := hP
  have hD : va_D A [(a0, .inr (4, [.ref q1, .ref q2, .ref q3, .ref q4, .ref q5, .ref q6, .int (zI 0), .ref q7, .ref q8, .ref q9, .int (zI 0), .int (zI 0), .ref q10, .ref q11, .int (zI 0), .ref q12, .ref q13, .null, .int (zI 0), .int (zI 0), .null, .int (zI 0), .int (zI 0), .int (zI 0), .int (zI 0), .int (zI 0), .int (zI 0), .int (zI 0)])), (q1, .inl (cI, 6, .inl (za (fun _ => 0)))), (q2, .inl (cI, 6, .inl (za (fun _ => 0)))), (q3, .inl (cI, 6, .inl (za (fun _ => 0)))), (q4, .inl (cI, 4, .inl (za (zu (zu (zu (zu (fun _ => 0) 0 20) 1 5) 2 2) 3 1)))), (q5, .inl (cI, 4, .inl (za (zu (zu (zu (zu (fun _ => 0) 0 0) 1 0) 2 2) 3 0)))), (q6, .inl (cI, 4, .inl (za (zu (zu (zu (zu (fun _ => 0) 0 100) 1 40) 2 6) 3 3)))), (q7, .inl (cI, 241, .inl (za (fun _ => 0)))), (q8, .inl (cI, 241, .inl (za (fun _ => 0)))), (q9, .inl (cI, 241, .inl (za (fun _ => 0)))), (q10, .inl (cZ, 240, .inl (za (fun _ => 0)))), (q11, .inl (cI, 6, .inl (za (fun _ => 0)))), (q12, .inl (cI, 240, .inl (za (fun _ => 0)))), (q13, .inl (cI, 240, .inl (za (fun _ => 0)))), (q14, .inl (cI, 240, .inl (za (fun _ => 0))))] := hD
  refine zqX4_50 C0 hin hP (zD hD rfl) hS 0 rfl (Nat.le_of_ble_eq_true rfl) dX4_init_169 (fun H locs hP hS => ?_)
  have hP : va_P D vwCl [(a0, .inr (4, [.ref q1, .ref q2, .ref q3, .ref q4, .ref q5, .ref q6, .int (zI 0), .ref q7, .ref q8, .ref q9, .int (zI 0), .int (zI 0), .ref q10, .ref q11, .int (zI 0), .ref q12, .ref q13, .ref q14, .int (zI 0), .int (zI 0), .null, .int (zI 0), .int (zI 0), .int (zI 0), .int (zI 0), .int (zI 0), .int (zI 0), .int (zI 0)])), (q1, .inl (cI, 6, .inl (za (fun _ => 0)))), (q2, .inl (cI, 6, .inl (za (fun _ => 0)))), (q3, .inl (cI, 6, .inl (za (fun _ => 0)))), (q4, .inl (cI, 4, .inl (za (zu (zu (zu (zu (fun _ => 0) 0 20) 1 5) 2 2) 3 1)))), (q5, .inl (cI, 4, .inl (za (zu (zu (zu (zu (fun _ => 0) 0 0) 1 0) 2 2) 3 0)))), (q6, .inl (cI, 4, .inl (za (zu (zu (zu (zu (fun _ => 0) 0 100) 1 40) 2 6) 3 3)))), (q7, .inl (cI, 241, .inl (za (fun _ => 0)))), (q8, .inl (cI, 241, .inl (za (fun _ => 0)))), (q9, .inl (cI, 241, .inl (za (fun _ => 0)))), (q10, .inl (cZ, 240, .inl (za (fun _ => 0)))), (q11, .inl (cI, 6, .inl (za (fun _ => 0)))), (q12, .inl (cI, 240, .inl (za (fun _ => 0)))), (q13, .inl (cI, 240, .inl (za (fun _ => 0)))), (q14, .inl (cI, 240, .inl (za (fun _ => 0))))] _ := hP
  refine z_aload_n C0 dX4_init_172 rfl (lv_at hl 0 rfl) ?_
  refine z_sipush C0 dX4_init_173 (by decide +kernel) ?_
  refine z_newi C0 hP (zD hD rfl) hS 240 (by decide) zw358 (Nat.le_of_ble_eq_true rfl) (Nat.le_of_ble_eq_true rfl) (by decide) dX4_init_176 (fun q15 H hP hD hS => ?_)
  have hP : va_P D vwCl [(a0, .inr (4, [.ref q1, .ref q2, .ref q3, .ref q4, .ref q5, .ref q6, .int (zI 0), .ref q7, .ref q8, .ref q9, .int (zI 0), .int (zI 0), .ref q10, .ref q11, .int (zI 0), .ref q12, .ref q13, .ref q14, .int (zI 0), .int (zI 0), .null, .int (zI 0), .int (zI 0), .int (zI 0), .int (zI 0), .int (zI 0), .int (zI 0), .int (zI 0)])), (q1, .inl (cI, 6, .inl (za (fun _ => 0)))), (q2, .inl (cI, 6, .inl (za (fun _ => 0)))), (q3, .inl (cI, 6, .inl (za (fun _ => 0)))), (q4, .inl (cI, 4, .inl (za (zu (zu (zu (zu (fun _ => 0) 0 20) 1 5) 2 2) 3 1)))), (q5, .inl (cI, 4, .inl (za (zu (zu (zu (zu (fun _ => 0) 0 0) 1 0) 2 2) 3 0)))), (q6, .inl (cI, 4, .inl (za (zu (zu (zu (zu (fun _ => 0) 0 100) 1 40) 2 6) 3 3)))), (q7, .inl (cI, 241, .inl (za (fun _ => 0)))), (q8, .inl (cI, 241, .inl (za (fun _ => 0)))), (q9, .inl (cI, 241, .inl (za (fun _ => 0)))), (q10, .inl (cZ, 240, .inl (za (fun _ => 0)))), (q11, .inl (cI, 6, .inl (za (fun _ => 0)))), (q12, .inl (cI, 240, .inl (za (fun _ => 0)))), (q13, .inl (cI, 240, .inl (za (fun _ => 0)))), (q14, .inl (cI, 240, .inl (za (fun _ => 0)))), (q15, .inl (cI, 240, .inl (za (fun _ => 0))))] _ := hP
  have hD : va_D A [(a0, .inr (4, [.ref q1, .ref q2, .ref q3, .ref q4, .ref q5, .ref q6, .int (zI 0), .ref q7, .ref q8, .ref q9, .int (zI 0), .int (zI 0), .ref q10, .ref q11, .int (zI 0), .ref q12, .ref q13, .ref q14, .int (zI 0), .int (zI 0), .null, .int (zI 0), .int (zI 0), .int (zI 0), .int (zI 0), .int (zI 0), .int (zI 0), .int (zI 0)])), (q1, .inl (cI, 6, .inl (za (fun _ => 0)))), (q2, .inl (cI, 6, .inl (za (fun _ => 0)))), (q3, .inl (cI, 6, .inl (za (fun _ => 0)))), (q4, .inl (cI, 4, .inl (za (zu (zu (zu (zu (fun _ => 0) 0 20) 1 5) 2 2) 3 1)))), (q5, .inl (cI, 4, .inl (za (zu (zu (zu (zu (fun _ => 0) 0 0) 1 0) 2 2) 3 0)))), (q6, .inl (cI, 4, .inl (za (zu (zu (zu (zu (fun _ => 0) 0 100) 1 40) 2 6) 3 3)))), (q7, .inl (cI, 241, .inl (za (fun _ => 0)))), (q8, .inl (cI, 241, .inl (za (fun _ => 0)))), (q9, .inl (cI, 241, .inl (za (fun _ => 0)))), (q10, .inl (cZ, 240, .inl (za (fun _ => 0)))), (q11, .inl (cI, 6, .inl (za (fun _ => 0)))), (q12, .inl (cI, 240, .inl (za (fun _ => 0)))), (q13, .inl (cI, 240, .inl (za (fun _ => 0)))), (q14, .inl (cI, 240, .inl (za (fun _ => 0)))), (q15, .inl (cI, 240, .inl (za (fun _ => 0))))] := hD
  refine zqX4_53 C0 hin hP (zD hD rfl) hS 0 rfl (Nat.le_of_ble_eq_true rfl) dX4_init_178 (fun H locs hP hS => ?_)
  have hP : va_P D vwCl [(a0, .inr (4, [.ref q1, .ref q2, .ref q3, .ref q4, .ref q5, .ref q6, .int (zI 0), .ref q7, .ref q8, .ref q9, .int (zI 0), .int (zI 0), .ref q10, .ref q11, .int (zI 0), .ref q12, .ref q13, .ref q14, .int (zI 0), .int (zI 0), .ref q15, .int (zI 0), .int (zI 0), .int (zI 0), .int (zI 0), .int (zI 0), .int (zI 0), .int (zI 0)])), (q1, .inl (cI, 6, .inl (za (fun _ => 0)))), (q2, .inl (cI, 6, .inl (za (fun _ => 0)))), (q3, .inl (cI, 6, .inl (za (fun _ => 0)))), (q4, .inl (cI, 4, .inl (za (zu (zu (zu (zu (fun _ => 0) 0 20) 1 5) 2 2) 3 1)))), (q5, .inl (cI, 4, .inl (za (zu (zu (zu (zu (fun _ => 0) 0 0) 1 0) 2 2) 3 0)))), (q6, .inl (cI, 4, .inl (za (zu (zu (zu (zu (fun _ => 0) 0 100) 1 40) 2 6) 3 3)))), (q7, .inl (cI, 241, .inl (za (fun _ => 0)))), (q8, .inl (cI, 241, .inl (za (fun _ => 0)))), (q9, .inl (cI, 241, .inl (za (fun _ => 0)))), (q10, .inl (cZ, 240, .inl (za (fun _ => 0)))), (q11, .inl (cI, 6, .inl (za (fun _ => 0)))), (q12, .inl (cI, 240, .inl (za (fun _ => 0)))), (q13, .inl (cI, 240, .inl (za (fun _ => 0)))), (q14, .inl (cI, 240, .inl (za (fun _ => 0)))), (q15, .inl (cI, 240, .inl (za (fun _ => 0))))] _ := hP
  exact hret ⟨fun j => [a0, q1, q2, q3, q4, q5, q6, q7, q8, q9, q10, q11, q12, q13, q14, q15].getD j 0, rfl, hP, zD hD rfl⟩ hS dX4_init_181
end
