/-- a private method of a class that the tables say can be made, by its rows of tables_1 -/
def lw_okq (q : MethodName × Nat) : Prop := (q.1.cls ≠ "java/lang/invoke/MethodHandle" ∧ q.1.cls ≠ "java/lang/invoke/VarHandle") ∧ Cond.instantiable q.1.cls q.2 ∈ tables_1 ∧ Cond.privateMethod q.1 ∈ tables_1 ∧ Cond.instanceMethod q.1 ∈ tables_1
theorem lw_p0 : lw_okq (⟨"BridgeHouse$Arch", "wear", "()I"⟩, 6) := ⟨⟨by decide +kernel, by decide +kernel⟩, List.mem_of_getElem? (i := 34) (by decide +kernel), List.mem_of_getElem? (i := 330) (by decide +kernel), List.mem_of_getElem? (i := 331) (by decide +kernel)⟩
theorem lw_p1 : lw_okq (⟨"BridgeHouse$Arch", "scour", "(II)I"⟩, 6) := ⟨⟨by decide +kernel, by decide +kernel⟩, List.mem_of_getElem? (i := 34) (by decide +kernel), List.mem_of_getElem? (i := 334) (by decide +kernel), List.mem_of_getElem? (i := 335) (by decide +kernel)⟩
theorem lw_p2 : lw_okq (⟨"BridgeHouse", "yearOfFall", "(I)I"⟩, 10) := ⟨⟨by decide +kernel, by decide +kernel⟩, List.mem_of_getElem? (i := 19) (by decide +kernel), List.mem_of_getElem? (i := 338) (by decide +kernel), List.mem_of_getElem? (i := 339) (by decide +kernel)⟩
theorem lw_p3 : lw_okq (⟨"BridgeHouse$GiftText", "toNextWord", "()V"⟩, 8) := ⟨⟨by decide +kernel, by decide +kernel⟩, List.mem_of_getElem? (i := 97) (by decide +kernel), List.mem_of_getElem? (i := 436) (by decide +kernel), List.mem_of_getElem? (i := 437) (by decide +kernel)⟩
theorem lw_p4 : lw_okq (⟨"BridgeHouse$GiftText", "number", "()I"⟩, 8) := ⟨⟨by decide +kernel, by decide +kernel⟩, List.mem_of_getElem? (i := 97) (by decide +kernel), List.mem_of_getElem? (i := 440) (by decide +kernel), List.mem_of_getElem? (i := 441) (by decide +kernel)⟩
theorem lw_p5 : lw_okq (⟨"BridgeHouse$GiftText", "isWord", "(Ljava/lang/String;)Z"⟩, 8) := ⟨⟨by decide +kernel, by decide +kernel⟩, List.mem_of_getElem? (i := 97) (by decide +kernel), List.mem_of_getElem? (i := 447) (by decide +kernel), List.mem_of_getElem? (i := 448) (by decide +kernel)⟩
theorem lw_p6 : lw_okq (⟨"BridgeHouse$GiftText", "isEndRead", "(I)Z"⟩, 8) := ⟨⟨by decide +kernel, by decide +kernel⟩, List.mem_of_getElem? (i := 97) (by decide +kernel), List.mem_of_getElem? (i := 499) (by decide +kernel), List.mem_of_getElem? (i := 500) (by decide +kernel)⟩
theorem lw_p7 : lw_okq (⟨"BridgeHouse$GiftText", "areYearsRead", "(I)Z"⟩, 8) := ⟨⟨by decide +kernel, by decide +kernel⟩, List.mem_of_getElem? (i := 97) (by decide +kernel), List.mem_of_getElem? (i := 508) (by decide +kernel), List.mem_of_getElem? (i := 509) (by decide +kernel)⟩
theorem lw_p8 : lw_okq (⟨"BridgeHouse", "bringGift", "(LBridgeHouse$Purse;)V"⟩, 10) := ⟨⟨by decide +kernel, by decide +kernel⟩, List.mem_of_getElem? (i := 19) (by decide +kernel), List.mem_of_getElem? (i := 519) (by decide +kernel), List.mem_of_getElem? (i := 520) (by decide +kernel)⟩
theorem lw_p9 : lw_okq (⟨"BridgeHouse", "isEnd", "(I)Z"⟩, 10) := ⟨⟨by decide +kernel, by decide +kernel⟩, List.mem_of_getElem? (i := 19) (by decide +kernel), List.mem_of_getElem? (i := 548) (by decide +kernel), List.mem_of_getElem? (i := 549) (by decide +kernel)⟩
theorem lw_p10 : lw_okq (⟨"BridgeHouse$Purse", "serves", "(I)Z"⟩, 9) := ⟨⟨by decide +kernel, by decide +kernel⟩, List.mem_of_getElem? (i := 142) (by decide +kernel), List.mem_of_getElem? (i := 561) (by decide +kernel), List.mem_of_getElem? (i := 562) (by decide +kernel)⟩
theorem lw_p11 : lw_okq (⟨"BridgeHouse", "takeCoins", "(II)I"⟩, 10) := ⟨⟨by decide +kernel, by decide +kernel⟩, List.mem_of_getElem? (i := 19) (by decide +kernel), List.mem_of_getElem? (i := 577) (by decide +kernel), List.mem_of_getElem? (i := 578) (by decide +kernel)⟩
theorem lw_p12 : lw_okq (⟨"BridgeHouse$Purse", "breadth", "()I"⟩, 9) := ⟨⟨by decide +kernel, by decide +kernel⟩, List.mem_of_getElem? (i := 142) (by decide +kernel), List.mem_of_getElem? (i := 589) (by decide +kernel), List.mem_of_getElem? (i := 590) (by decide +kernel)⟩
theorem lw_p13 : lw_okq (⟨"BridgeHouse$Arch", "gain", "()I"⟩, 6) := ⟨⟨by decide +kernel, by decide +kernel⟩, List.mem_of_getElem? (i := 34) (by decide +kernel), List.mem_of_getElem? (i := 609) (by decide +kernel), List.mem_of_getElem? (i := 610) (by decide +kernel)⟩
theorem lw_p14 : lw_okq (⟨"BridgeHouse", "workFor", "(II)I"⟩, 10) := ⟨⟨by decide +kernel, by decide +kernel⟩, List.mem_of_getElem? (i := 19) (by decide +kernel), List.mem_of_getElem? (i := 613) (by decide +kernel), List.mem_of_getElem? (i := 614) (by decide +kernel)⟩
theorem lw_p15 : lw_okq (⟨"BridgeHouse", "lapsePurses", "()V"⟩, 10) := ⟨⟨by decide +kernel, by decide +kernel⟩, List.mem_of_getElem? (i := 19) (by decide +kernel), List.mem_of_getElem? (i := 626) (by decide +kernel), List.mem_of_getElem? (i := 627) (by decide +kernel)⟩
def lw_privs_1 : List (MethodName × Nat) := [(⟨"BridgeHouse$Arch", "wear", "()I"⟩, 6), (⟨"BridgeHouse$Arch", "scour", "(II)I"⟩, 6), (⟨"BridgeHouse", "yearOfFall", "(I)I"⟩, 10), (⟨"BridgeHouse$GiftText", "toNextWord", "()V"⟩, 8), (⟨"BridgeHouse$GiftText", "number", "()I"⟩, 8), (⟨"BridgeHouse$GiftText", "isWord", "(Ljava/lang/String;)Z"⟩, 8), (⟨"BridgeHouse$GiftText", "isEndRead", "(I)Z"⟩, 8), (⟨"BridgeHouse$GiftText", "areYearsRead", "(I)Z"⟩, 8), (⟨"BridgeHouse", "bringGift", "(LBridgeHouse$Purse;)V"⟩, 10), (⟨"BridgeHouse", "isEnd", "(I)Z"⟩, 10), (⟨"BridgeHouse$Purse", "serves", "(I)Z"⟩, 9), (⟨"BridgeHouse", "takeCoins", "(II)I"⟩, 10), (⟨"BridgeHouse$Purse", "breadth", "()I"⟩, 9), (⟨"BridgeHouse$Arch", "gain", "()I"⟩, 6), (⟨"BridgeHouse", "workFor", "(II)I"⟩, 10), (⟨"BridgeHouse", "lapsePurses", "()V"⟩, 10)]
theorem lw_r1 : ∀ q ∈ lw_privs_1, lw_okq q := List.forall_mem_cons.mpr ⟨lw_p0, List.forall_mem_cons.mpr ⟨lw_p1, List.forall_mem_cons.mpr ⟨lw_p2, List.forall_mem_cons.mpr ⟨lw_p3, List.forall_mem_cons.mpr ⟨lw_p4, List.forall_mem_cons.mpr ⟨lw_p5, List.forall_mem_cons.mpr ⟨lw_p6, List.forall_mem_cons.mpr ⟨lw_p7, List.forall_mem_cons.mpr ⟨lw_p8, List.forall_mem_cons.mpr ⟨lw_p9, List.forall_mem_cons.mpr ⟨lw_p10, List.forall_mem_cons.mpr ⟨lw_p11, List.forall_mem_cons.mpr ⟨lw_p12, List.forall_mem_cons.mpr ⟨lw_p13, List.forall_mem_cons.mpr ⟨lw_p14, List.forall_mem_cons.mpr ⟨lw_p15, fun _ h => absurd h List.not_mem_nil⟩⟩⟩⟩⟩⟩⟩⟩⟩⟩⟩⟩⟩⟩⟩⟩
theorem lw_p16 : lw_okq (⟨"BridgeHouse", "bringGiftsOfYear", "()V"⟩, 10) := ⟨⟨by decide +kernel, by decide +kernel⟩, List.mem_of_getElem? (i := 19) (by decide +kernel), List.mem_of_getElem? (i := 634) (by decide +kernel), List.mem_of_getElem? (i := 635) (by decide +kernel)⟩
theorem lw_p17 : lw_okq (⟨"BridgeHouse", "bringTolls", "()V"⟩, 10) := ⟨⟨by decide +kernel, by decide +kernel⟩, List.mem_of_getElem? (i := 19) (by decide +kernel), List.mem_of_getElem? (i := 642) (by decide +kernel), List.mem_of_getElem? (i := 643) (by decide +kernel)⟩
theorem lw_p18 : lw_okq (⟨"BridgeHouse", "bringRents", "()V"⟩, 10) := ⟨⟨by decide +kernel, by decide +kernel⟩, List.mem_of_getElem? (i := 19) (by decide +kernel), List.mem_of_getElem? (i := 651) (by decide +kernel), List.mem_of_getElem? (i := 652) (by decide +kernel)⟩
theorem lw_p19 : lw_okq (⟨"BridgeHouse", "keepUp", "()V"⟩, 10) := ⟨⟨by decide +kernel, by decide +kernel⟩, List.mem_of_getElem? (i := 19) (by decide +kernel), List.mem_of_getElem? (i := 659) (by decide +kernel), List.mem_of_getElem? (i := 660) (by decide +kernel)⟩
theorem lw_p20 : lw_okq (⟨"BridgeHouse", "sheetsThere", "()I"⟩, 10) := ⟨⟨by decide +kernel, by decide +kernel⟩, List.mem_of_getElem? (i := 19) (by decide +kernel), List.mem_of_getElem? (i := 703) (by decide +kernel), List.mem_of_getElem? (i := 704) (by decide +kernel)⟩
theorem lw_p21 : lw_okq (⟨"BridgeHouseModel", "isArch", "(I)Z"⟩, 41) := ⟨⟨by decide +kernel, by decide +kernel⟩, List.mem_of_getElem? (i := 707) (by decide +kernel), List.mem_of_getElem? (i := 851) (by decide +kernel), List.mem_of_getElem? (i := 852) (by decide +kernel)⟩
theorem lw_p22 : lw_okq (⟨"BridgeHouseModel", "asItIs", "()V"⟩, 41) := ⟨⟨by decide +kernel, by decide +kernel⟩, List.mem_of_getElem? (i := 707) (by decide +kernel), List.mem_of_getElem? (i := 860) (by decide +kernel), List.mem_of_getElem? (i := 861) (by decide +kernel)⟩
theorem lw_p23 : lw_okq (⟨"BridgeHouseModel", "findLosses", "(I)V"⟩, 41) := ⟨⟨by decide +kernel, by decide +kernel⟩, List.mem_of_getElem? (i := 707) (by decide +kernel), List.mem_of_getElem? (i := 864) (by decide +kernel), List.mem_of_getElem? (i := 865) (by decide +kernel)⟩
theorem lw_p24 : lw_okq (⟨"BridgeHouseModel", "numberOf", "(II)I"⟩, 41) := ⟨⟨by decide +kernel, by decide +kernel⟩, List.mem_of_getElem? (i := 707) (by decide +kernel), List.mem_of_getElem? (i := 868) (by decide +kernel), List.mem_of_getElem? (i := 869) (by decide +kernel)⟩
theorem lw_p25 : lw_okq (⟨"BridgeHouseModel", "toldOf", "(I)I"⟩, 41) := ⟨⟨by decide +kernel, by decide +kernel⟩, List.mem_of_getElem? (i := 707) (by decide +kernel), List.mem_of_getElem? (i := 872) (by decide +kernel), List.mem_of_getElem? (i := 873) (by decide +kernel)⟩
theorem lw_p26 : lw_okq (⟨"BridgeHouseModel", "lose", "()V"⟩, 41) := ⟨⟨by decide +kernel, by decide +kernel⟩, List.mem_of_getElem? (i := 707) (by decide +kernel), List.mem_of_getElem? (i := 877) (by decide +kernel), List.mem_of_getElem? (i := 878) (by decide +kernel)⟩
theorem lw_p27 : lw_okq (⟨"BridgeHouseModel", "spentAt", "(I)I"⟩, 41) := ⟨⟨by decide +kernel, by decide +kernel⟩, List.mem_of_getElem? (i := 707) (by decide +kernel), List.mem_of_getElem? (i := 881) (by decide +kernel), List.mem_of_getElem? (i := 882) (by decide +kernel)⟩
theorem lw_p28 : lw_okq (⟨"BridgeHouseModel", "four", "(I)V"⟩, 41) := ⟨⟨by decide +kernel, by decide +kernel⟩, List.mem_of_getElem? (i := 707) (by decide +kernel), List.mem_of_getElem? (i := 915) (by decide +kernel), List.mem_of_getElem? (i := 916) (by decide +kernel)⟩
theorem lw_p29 : lw_okq (⟨"BridgeHouseModel", "readGift", "()I"⟩, 41) := ⟨⟨by decide +kernel, by decide +kernel⟩, List.mem_of_getElem? (i := 707) (by decide +kernel), List.mem_of_getElem? (i := 927) (by decide +kernel), List.mem_of_getElem? (i := 928) (by decide +kernel)⟩
theorem lw_p30 : lw_okq (⟨"BridgeHouseModel", "next", "()V"⟩, 41) := ⟨⟨by decide +kernel, by decide +kernel⟩, List.mem_of_getElem? (i := 707) (by decide +kernel), List.mem_of_getElem? (i := 931) (by decide +kernel), List.mem_of_getElem? (i := 932) (by decide +kernel)⟩
theorem lw_p31 : lw_okq (⟨"BridgeHouseModel", "number", "()I"⟩, 41) := ⟨⟨by decide +kernel, by decide +kernel⟩, List.mem_of_getElem? (i := 707) (by decide +kernel), List.mem_of_getElem? (i := 935) (by decide +kernel), List.mem_of_getElem? (i := 936) (by decide +kernel)⟩
def lw_privs_2 : List (MethodName × Nat) := [(⟨"BridgeHouse", "bringGiftsOfYear", "()V"⟩, 10), (⟨"BridgeHouse", "bringTolls", "()V"⟩, 10), (⟨"BridgeHouse", "bringRents", "()V"⟩, 10), (⟨"BridgeHouse", "keepUp", "()V"⟩, 10), (⟨"BridgeHouse", "sheetsThere", "()I"⟩, 10), (⟨"BridgeHouseModel", "isArch", "(I)Z"⟩, 41), (⟨"BridgeHouseModel", "asItIs", "()V"⟩, 41), (⟨"BridgeHouseModel", "findLosses", "(I)V"⟩, 41), (⟨"BridgeHouseModel", "numberOf", "(II)I"⟩, 41), (⟨"BridgeHouseModel", "toldOf", "(I)I"⟩, 41), (⟨"BridgeHouseModel", "lose", "()V"⟩, 41), (⟨"BridgeHouseModel", "spentAt", "(I)I"⟩, 41), (⟨"BridgeHouseModel", "four", "(I)V"⟩, 41), (⟨"BridgeHouseModel", "readGift", "()I"⟩, 41), (⟨"BridgeHouseModel", "next", "()V"⟩, 41), (⟨"BridgeHouseModel", "number", "()I"⟩, 41)]
theorem lw_r2 : ∀ q ∈ lw_privs_2, lw_okq q := List.forall_mem_cons.mpr ⟨lw_p16, List.forall_mem_cons.mpr ⟨lw_p17, List.forall_mem_cons.mpr ⟨lw_p18, List.forall_mem_cons.mpr ⟨lw_p19, List.forall_mem_cons.mpr ⟨lw_p20, List.forall_mem_cons.mpr ⟨lw_p21, List.forall_mem_cons.mpr ⟨lw_p22, List.forall_mem_cons.mpr ⟨lw_p23, List.forall_mem_cons.mpr ⟨lw_p24, List.forall_mem_cons.mpr ⟨lw_p25, List.forall_mem_cons.mpr ⟨lw_p26, List.forall_mem_cons.mpr ⟨lw_p27, List.forall_mem_cons.mpr ⟨lw_p28, List.forall_mem_cons.mpr ⟨lw_p29, List.forall_mem_cons.mpr ⟨lw_p30, List.forall_mem_cons.mpr ⟨lw_p31, fun _ h => absurd h List.not_mem_nil⟩⟩⟩⟩⟩⟩⟩⟩⟩⟩⟩⟩⟩⟩⟩⟩
theorem lw_p32 : lw_okq (⟨"BridgeHouseModel", "here", "()I"⟩, 41) := ⟨⟨by decide +kernel, by decide +kernel⟩, List.mem_of_getElem? (i := 707) (by decide +kernel), List.mem_of_getElem? (i := 940) (by decide +kernel), List.mem_of_getElem? (i := 941) (by decide +kernel)⟩
theorem lw_p33 : lw_okq (⟨"BridgeHouseModel", "isWord", "(JI)Z"⟩, 41) := ⟨⟨by decide +kernel, by decide +kernel⟩, List.mem_of_getElem? (i := 707) (by decide +kernel), List.mem_of_getElem? (i := 945) (by decide +kernel), List.mem_of_getElem? (i := 946) (by decide +kernel)⟩
theorem lw_p34 : lw_okq (⟨"BridgeHouseModel", "endOf", "()I"⟩, 41) := ⟨⟨by decide +kernel, by decide +kernel⟩, List.mem_of_getElem? (i := 707) (by decide +kernel), List.mem_of_getElem? (i := 950) (by decide +kernel), List.mem_of_getElem? (i := 951) (by decide +kernel)⟩
theorem lw_p35 : lw_okq (⟨"BridgeHouseModel", "comes", "(III)V"⟩, 41) := ⟨⟨by decide +kernel, by decide +kernel⟩, List.mem_of_getElem? (i := 707) (by decide +kernel), List.mem_of_getElem? (i := 962) (by decide +kernel), List.mem_of_getElem? (i := 963) (by decide +kernel)⟩
theorem lw_p36 : lw_okq (⟨"BridgeHouseModel", "told", "(II)V"⟩, 41) := ⟨⟨by decide +kernel, by decide +kernel⟩, List.mem_of_getElem? (i := 707) (by decide +kernel), List.mem_of_getElem? (i := 966) (by decide +kernel), List.mem_of_getElem? (i := 967) (by decide +kernel)⟩
theorem lw_p37 : lw_okq (⟨"BridgeHouseModel", "isPurse", "(I)Z"⟩, 41) := ⟨⟨by decide +kernel, by decide +kernel⟩, List.mem_of_getElem? (i := 707) (by decide +kernel), List.mem_of_getElem? (i := 974) (by decide +kernel), List.mem_of_getElem? (i := 975) (by decide +kernel)⟩
theorem lw_p38 : lw_okq (⟨"BridgeHouseModel", "isOpen", "(I)Z"⟩, 41) := ⟨⟨by decide +kernel, by decide +kernel⟩, List.mem_of_getElem? (i := 707) (by decide +kernel), List.mem_of_getElem? (i := 978) (by decide +kernel), List.mem_of_getElem? (i := 979) (by decide +kernel)⟩
theorem lw_p39 : lw_okq (⟨"BridgeHouseModel", "isEnd", "(I)Z"⟩, 41) := ⟨⟨by decide +kernel, by decide +kernel⟩, List.mem_of_getElem? (i := 707) (by decide +kernel), List.mem_of_getElem? (i := 986) (by decide +kernel), List.mem_of_getElem? (i := 987) (by decide +kernel)⟩
theorem lw_p40 : lw_okq (⟨"BridgeHouseModel", "fundsOf", "(I)I"⟩, 41) := ⟨⟨by decide +kernel, by decide +kernel⟩, List.mem_of_getElem? (i := 707) (by decide +kernel), List.mem_of_getElem? (i := 990) (by decide +kernel), List.mem_of_getElem? (i := 991) (by decide +kernel)⟩
theorem lw_p41 : lw_okq (⟨"BridgeHouseModel", "serves", "(II)Z"⟩, 41) := ⟨⟨by decide +kernel, by decide +kernel⟩, List.mem_of_getElem? (i := 707) (by decide +kernel), List.mem_of_getElem? (i := 994) (by decide +kernel), List.mem_of_getElem? (i := 995) (by decide +kernel)⟩
theorem lw_p42 : lw_okq (⟨"BridgeHouseModel", "taken", "(II)V"⟩, 41) := ⟨⟨by decide +kernel, by decide +kernel⟩, List.mem_of_getElem? (i := 707) (by decide +kernel), List.mem_of_getElem? (i := 1006) (by decide +kernel), List.mem_of_getElem? (i := 1007) (by decide +kernel)⟩
theorem lw_p43 : lw_okq (⟨"BridgeHouseModel", "isSooner", "(II)Z"⟩, 41) := ⟨⟨by decide +kernel, by decide +kernel⟩, List.mem_of_getElem? (i := 707) (by decide +kernel), List.mem_of_getElem? (i := 1010) (by decide +kernel), List.mem_of_getElem? (i := 1011) (by decide +kernel)⟩
theorem lw_p44 : lw_okq (⟨"BridgeHouseModel", "turnOf", "(I)I"⟩, 41) := ⟨⟨by decide +kernel, by decide +kernel⟩, List.mem_of_getElem? (i := 707) (by decide +kernel), List.mem_of_getElem? (i := 1014) (by decide +kernel), List.mem_of_getElem? (i := 1015) (by decide +kernel)⟩
theorem lw_p45 : lw_okq (⟨"BridgeHouseModel", "write", "(III)V"⟩, 41) := ⟨⟨by decide +kernel, by decide +kernel⟩, List.mem_of_getElem? (i := 707) (by decide +kernel), List.mem_of_getElem? (i := 1018) (by decide +kernel), List.mem_of_getElem? (i := 1019) (by decide +kernel)⟩
theorem lw_p46 : lw_okq (⟨"BridgeHouseModel", "worked", "(III)I"⟩, 41) := ⟨⟨by decide +kernel, by decide +kernel⟩, List.mem_of_getElem? (i := 707) (by decide +kernel), List.mem_of_getElem? (i := 1026) (by decide +kernel), List.mem_of_getElem? (i := 1027) (by decide +kernel)⟩
theorem lw_p47 : lw_okq (⟨"BridgeHouseModel", "gain", "(I)I"⟩, 41) := ⟨⟨by decide +kernel, by decide +kernel⟩, List.mem_of_getElem? (i := 707) (by decide +kernel), List.mem_of_getElem? (i := 1030) (by decide +kernel), List.mem_of_getElem? (i := 1031) (by decide +kernel)⟩
def lw_privs_3 : List (MethodName × Nat) := [(⟨"BridgeHouseModel", "here", "()I"⟩, 41), (⟨"BridgeHouseModel", "isWord", "(JI)Z"⟩, 41), (⟨"BridgeHouseModel", "endOf", "()I"⟩, 41), (⟨"BridgeHouseModel", "comes", "(III)V"⟩, 41), (⟨"BridgeHouseModel", "told", "(II)V"⟩, 41), (⟨"BridgeHouseModel", "isPurse", "(I)Z"⟩, 41), (⟨"BridgeHouseModel", "isOpen", "(I)Z"⟩, 41), (⟨"BridgeHouseModel", "isEnd", "(I)Z"⟩, 41), (⟨"BridgeHouseModel", "fundsOf", "(I)I"⟩, 41), (⟨"BridgeHouseModel", "serves", "(II)Z"⟩, 41), (⟨"BridgeHouseModel", "taken", "(II)V"⟩, 41), (⟨"BridgeHouseModel", "isSooner", "(II)Z"⟩, 41), (⟨"BridgeHouseModel", "turnOf", "(I)I"⟩, 41), (⟨"BridgeHouseModel", "write", "(III)V"⟩, 41), (⟨"BridgeHouseModel", "worked", "(III)I"⟩, 41), (⟨"BridgeHouseModel", "gain", "(I)I"⟩, 41)]
theorem lw_r3 : ∀ q ∈ lw_privs_3, lw_okq q := List.forall_mem_cons.mpr ⟨lw_p32, List.forall_mem_cons.mpr ⟨lw_p33, List.forall_mem_cons.mpr ⟨lw_p34, List.forall_mem_cons.mpr ⟨lw_p35, List.forall_mem_cons.mpr ⟨lw_p36, List.forall_mem_cons.mpr ⟨lw_p37, List.forall_mem_cons.mpr ⟨lw_p38, List.forall_mem_cons.mpr ⟨lw_p39, List.forall_mem_cons.mpr ⟨lw_p40, List.forall_mem_cons.mpr ⟨lw_p41, List.forall_mem_cons.mpr ⟨lw_p42, List.forall_mem_cons.mpr ⟨lw_p43, List.forall_mem_cons.mpr ⟨lw_p44, List.forall_mem_cons.mpr ⟨lw_p45, List.forall_mem_cons.mpr ⟨lw_p46, List.forall_mem_cons.mpr ⟨lw_p47, fun _ h => absurd h List.not_mem_nil⟩⟩⟩⟩⟩⟩⟩⟩⟩⟩⟩⟩⟩⟩⟩⟩
theorem lw_p48 : lw_okq (⟨"BridgeHouseModel", "goOn", "()V"⟩, 41) := ⟨⟨by decide +kernel, by decide +kernel⟩, List.mem_of_getElem? (i := 707) (by decide +kernel), List.mem_of_getElem? (i := 1038) (by decide +kernel), List.mem_of_getElem? (i := 1039) (by decide +kernel)⟩
theorem lw_p49 : lw_okq (⟨"BridgeHouseModel", "keep", "()V"⟩, 41) := ⟨⟨by decide +kernel, by decide +kernel⟩, List.mem_of_getElem? (i := 707) (by decide +kernel), List.mem_of_getElem? (i := 1042) (by decide +kernel), List.mem_of_getElem? (i := 1043) (by decide +kernel)⟩
def lw_privs_4 : List (MethodName × Nat) := [(⟨"BridgeHouseModel", "goOn", "()V"⟩, 41), (⟨"BridgeHouseModel", "keep", "()V"⟩, 41)]
theorem lw_r4 : ∀ q ∈ lw_privs_4, lw_okq q := List.forall_mem_cons.mpr ⟨lw_p48, List.forall_mem_cons.mpr ⟨lw_p49, fun _ h => absurd h List.not_mem_nil⟩⟩
def lw_privs : List (MethodName × Nat) := lw_privs_1 ++ (lw_privs_2 ++ (lw_privs_3 ++ (lw_privs_4)))
def lw_tbl : List Cond := k2_sels lw_privs ++ tables_1
theorem lw_privs_ok : ∀ q ∈ lw_privs, lw_okq q := by
  show ∀ q ∈ lw_privs_1 ++ (lw_privs_2 ++ (lw_privs_3 ++ (lw_privs_4))), lw_okq q
  exact List.forall_mem_append.mpr ⟨lw_r1, List.forall_mem_append.mpr ⟨lw_r2, List.forall_mem_append.mpr ⟨lw_r3, lw_r4⟩⟩⟩
/-! ===== BEGIN words of one list among another's, by their places ===== -/
/-! ===== END ===== -/

/-! ===== BEGIN printed: names, fields, word lists, decode rows ===== -/
def RX0 : String := "BridgeHouse$Arch"
def TX0 : u_T := fun k => match k with
  | 0 => ("BridgeHouse$Arch", "kind", "I", false)
  | 1 => ("BridgeHouse$Arch", "strength", "I", false)
  | 2 => ("BridgeHouse$Arch", "houses", "I", false)
  | 3 => ("BridgeHouse$Arch", "wheel", "I", false)
  | 4 => ("BridgeHouse$Arch", "paid", "I", false)
  | _ => ("BridgeHouse$Arch", "isChosen", "Z", false)
def tyX0 : Nat → FieldType := fun k => match k with
  | 0 => .int
  | 1 => .int
  | 2 => .int
  | 3 => .int
  | 4 => .int
  | _ => .boolean
abbrev wsX00 : List Cond := u_ws RX0 TX0 6
theorem nmX0 : ∀ a, a < 6 → ∀ b, b < 6 → a ≠ b → (TX0 a).2.1 ≠ (TX0 b).2.1 := by decide +kernel
theorem tyX0_ok : ∀ k, k < 6 → parseFieldDescriptor (TX0 k).2.2.1 = some (tyX0 k) := by decide +kernel
abbrev cX0_init : ByteArray := prog_2_method_1_code
def yX0_init : MethodName := ⟨RX0, "<init>", "()V"⟩
abbrev cX0_isFallen : ByteArray := prog_2_method_2_code
def yX0_isFallen : MethodName := ⟨RX0, "isFallen", "()Z"⟩
abbrev cX0_isKind : ByteArray := prog_2_method_3_code
def yX0_isKind : MethodName := ⟨RX0, "isKind", "(I)Z"⟩
abbrev cX0_loss : ByteArray := prog_2_method_4_code
def yX0_loss : MethodName := ⟨RX0, "loss", "(II)I"⟩
abbrev cX0_wear : ByteArray := prog_2_method_5_code
def yX0_wear : MethodName := ⟨RX0, "wear", "()I"⟩
abbrev cX0_scour : ByteArray := prog_2_method_6_code
def yX0_scour : MethodName := ⟨RX0, "scour", "(II)I"⟩
abbrev cX0_weaken : ByteArray := prog_2_method_7_code
def yX0_weaken : MethodName := ⟨RX0, "weaken", "(I)V"⟩
abbrev cX0_gain : ByteArray := prog_2_method_8_code
def yX0_gain : MethodName := ⟨RX0, "gain", "()I"⟩
abbrev cX0_coinsUpTo : ByteArray := prog_2_method_9_code
def yX0_coinsUpTo : MethodName := ⟨RX0, "coinsUpTo", "(I)I"⟩
abbrev cX0_mend : ByteArray := prog_2_method_10_code
def yX0_mend : MethodName := ⟨RX0, "mend", "(I)V"⟩
abbrev cX0_becomeLike : ByteArray := prog_2_method_11_code
def yX0_becomeLike : MethodName := ⟨RX0, "becomeLike", "(LBridgeHouse$Arch;)V"⟩
def RX1 : String := "BridgeHouse$Book"
def TX1 : u_T := fun k => match k with
  | 0 => ("BridgeHouse$Book", "cells", "[I", true)
  | 1 => ("BridgeHouse$Book", "oldest", "I", false)
  | _ => ("BridgeHouse$Book", "size", "I", false)
def tyX1 : Nat → FieldType := fun k => match k with
  | 0 => .array .int
  | 1 => .int
  | _ => .int
abbrev wsX10 : List Cond := u_ws RX1 TX1 3
theorem nmX1 : ∀ a, a < 3 → ∀ b, b < 3 → a ≠ b → (TX1 a).2.1 ≠ (TX1 b).2.1 := by decide +kernel
theorem tyX1_ok : ∀ k, k < 3 → parseFieldDescriptor (TX1 k).2.2.1 = some (tyX1 k) := by decide +kernel
abbrev cX1_init : ByteArray := prog_3_method_1_code
def yX1_init : MethodName := ⟨RX1, "<init>", "()V"⟩
abbrev cX1_write : ByteArray := prog_3_method_2_code
def yX1_write : MethodName := ⟨RX1, "write", "(IIII)V"⟩
abbrev cX1_read : ByteArray := prog_3_method_3_code
def yX1_read : MethodName := ⟨RX1, "read", "(II)I"⟩
def RX2 : String := "BridgeHouse$Bridge"
def TX2 : u_T := fun k => match k with
  | 0 => ("BridgeHouse$Bridge", "arches", "[LBridgeHouse$Arch;", true)
  | _ => ("BridgeHouse$Bridge", "size", "I", false)
def tyX2 : Nat → FieldType := fun k => match k with
  | 0 => .array (.object "BridgeHouse$Arch")
  | _ => .int
abbrev wsX20 : List Cond := u_ws RX2 TX2 2
theorem nmX2 : ∀ a, a < 2 → ∀ b, b < 2 → a ≠ b → (TX2 a).2.1 ≠ (TX2 b).2.1 := by decide +kernel
theorem tyX2_ok : ∀ k, k < 2 → parseFieldDescriptor (TX2 k).2.2.1 = some (tyX2 k) := by decide +kernel
abbrev cX2_init : ByteArray := prog_4_method_1_code
def yX2_init : MethodName := ⟨RX2, "<init>", "()V"⟩
abbrev cX2_has : ByteArray := prog_4_method_2_code
def yX2_has : MethodName := ⟨RX2, "has", "(I)Z"⟩
abbrev cX2_build : ByteArray := prog_4_method_3_code
def yX2_build : MethodName := ⟨RX2, "build", "(I)I"⟩
abbrev cX2_fallen : ByteArray := prog_4_method_4_code
def yX2_fallen : MethodName := ⟨RX2, "fallen", "()I"⟩
abbrev cX2_houses : ByteArray := prog_4_method_5_code
def yX2_houses : MethodName := ⟨RX2, "houses", "()I"⟩
abbrev cX2_hasDraw : ByteArray := prog_4_method_6_code
def yX2_hasDraw : MethodName := ⟨RX2, "hasDraw", "()Z"⟩
abbrev cX2_blocked : ByteArray := prog_4_method_7_code
def yX2_blocked : MethodName := ⟨RX2, "blocked", "()I"⟩
abbrev cX2_sufferYear : ByteArray := prog_4_method_8_code
def yX2_sufferYear : MethodName := ⟨RX2, "sufferYear", "(I)V"⟩
abbrev cX2_becomeLike : ByteArray := prog_4_method_9_code
def yX2_becomeLike : MethodName := ⟨RX2, "becomeLike", "(LBridgeHouse$Bridge;)V"⟩
abbrev cX2_forgetChosen : ByteArray := prog_4_method_10_code
def yX2_forgetChosen : MethodName := ⟨RX2, "forgetChosen", "()V"⟩
abbrev cX2_weakestBelow : ByteArray := prog_4_method_11_code
def yX2_weakestBelow : MethodName := ⟨RX2, "weakestBelow", "(I)I"⟩
def RX3 : String := "BridgeHouse$Chest"
def TX3 : u_T := fun k => match k with
  | 0 => ("BridgeHouse$Chest", "purses", "[LBridgeHouse$Purse;", true)
  | _ => ("BridgeHouse$Chest", "size", "I", false)
def tyX3 : Nat → FieldType := fun k => match k with
  | 0 => .array (.object "BridgeHouse$Purse")
  | _ => .int
abbrev wsX30 : List Cond := u_ws RX3 TX3 2
theorem nmX3 : ∀ a, a < 2 → ∀ b, b < 2 → a ≠ b → (TX3 a).2.1 ≠ (TX3 b).2.1 := by decide +kernel
theorem tyX3_ok : ∀ k, k < 2 → parseFieldDescriptor (TX3 k).2.2.1 = some (tyX3 k) := by decide +kernel
abbrev cX3_init : ByteArray := prog_5_method_1_code
def yX3_init : MethodName := ⟨RX3, "<init>", "()V"⟩
abbrev cX3_has : ByteArray := prog_5_method_2_code
def yX3_has : MethodName := ⟨RX3, "has", "(I)Z"⟩
abbrev cX3_make : ByteArray := prog_5_method_3_code
def yX3_make : MethodName := ⟨RX3, "make", "(LBridgeHouse$GiftText;)I"⟩
abbrev cX3_allCoins : ByteArray := prog_5_method_4_code
def yX3_allCoins : MethodName := ⟨RX3, "allCoins", "()I"⟩
abbrev cX3_coinsFor : ByteArray := prog_5_method_5_code
def yX3_coinsFor : MethodName := ⟨RX3, "coinsFor", "(II)I"⟩
abbrev cX3_nextToPay : ByteArray := prog_5_method_6_code
def yX3_nextToPay : MethodName := ⟨RX3, "nextToPay", "(II)I"⟩
def RX4 : String := "BridgeHouse$GiftText"
def TX4 : u_T := fun k => match k with
  | 0 => ("BridgeHouse$GiftText", "tape", "LBridgeHouse$Tape;", true)
  | 1 => ("BridgeHouse$GiftText", "start", "I", false)
  | 2 => ("BridgeHouse$GiftText", "stop", "I", false)
  | 3 => ("BridgeHouse$GiftText", "given", "I", false)
  | 4 => ("BridgeHouse$GiftText", "end", "I", false)
  | 5 => ("BridgeHouse$GiftText", "from", "I", false)
  | 6 => ("BridgeHouse$GiftText", "till", "I", false)
  | _ => ("BridgeHouse$GiftText", "yearly", "I", false)
def tyX4 : Nat → FieldType := fun k => match k with
  | 0 => .object "BridgeHouse$Tape"
  | 1 => .int
  | 2 => .int
  | 3 => .int
  | 4 => .int
  | 5 => .int
  | 6 => .int
  | _ => .int
abbrev wsX40 : List Cond := u_ws RX4 TX4 8
theorem nmX4 : ∀ a, a < 8 → ∀ b, b < 8 → a ≠ b → (TX4 a).2.1 ≠ (TX4 b).2.1 := by decide +kernel
theorem tyX4_ok : ∀ k, k < 8 → parseFieldDescriptor (TX4 k).2.2.1 = some (tyX4 k) := by decide +kernel
abbrev cX4_init : ByteArray := prog_6_method_1_code
def yX4_init : MethodName := ⟨RX4, "<init>", "(LBridgeHouse$Tape;)V"⟩
abbrev cX4_isGift : ByteArray := prog_6_method_2_code
def yX4_isGift : MethodName := ⟨RX4, "isGift", "(II)Z"⟩
abbrev cX4_isEndRead : ByteArray := prog_6_method_3_code
def yX4_isEndRead : MethodName := ⟨RX4, "isEndRead", "(I)Z"⟩
abbrev cX4_areYearsRead : ByteArray := prog_6_method_4_code
def yX4_areYearsRead : MethodName := ⟨RX4, "areYearsRead", "(I)Z"⟩
abbrev cX4_toNextWord : ByteArray := prog_6_method_5_code
def yX4_toNextWord : MethodName := ⟨RX4, "toNextWord", "()V"⟩
abbrev cX4_isWord : ByteArray := prog_6_method_6_code
def yX4_isWord : MethodName := ⟨RX4, "isWord", "(Ljava/lang/String;)Z"⟩
abbrev cX4_number : ByteArray := prog_6_method_7_code
def yX4_number : MethodName := ⟨RX4, "number", "()I"⟩
def RX5 : String := "BridgeHouse$Purse"
def TX5 : u_T := fun k => match k with
  | 0 => ("BridgeHouse$Purse", "paid", "[I", true)
  | 1 => ("BridgeHouse$Purse", "end", "I", false)
  | 2 => ("BridgeHouse$Purse", "from", "I", false)
  | 3 => ("BridgeHouse$Purse", "till", "I", false)
  | 4 => ("BridgeHouse$Purse", "given", "I", false)
  | 5 => ("BridgeHouse$Purse", "yearly", "I", false)
  | 6 => ("BridgeHouse$Purse", "coins", "I", false)
  | 7 => ("BridgeHouse$Purse", "came", "I", false)
  | _ => ("BridgeHouse$Purse", "lapsed", "I", false)
def tyX5 : Nat → FieldType := fun k => match k with
  | 0 => .array .int
  | 1 => .int
  | 2 => .int
  | 3 => .int
  | 4 => .int
  | 5 => .int
  | 6 => .int
  | 7 => .int
  | _ => .int
abbrev wsX50 : List Cond := u_ws RX5 TX5 9
theorem nmX5 : ∀ a, a < 9 → ∀ b, b < 9 → a ≠ b → (TX5 a).2.1 ≠ (TX5 b).2.1 := by decide +kernel
theorem tyX5_ok : ∀ k, k < 9 → parseFieldDescriptor (TX5 k).2.2.1 = some (tyX5 k) := by decide +kernel
abbrev cX5_init : ByteArray := prog_7_method_1_code
def yX5_init : MethodName := ⟨RX5, "<init>", "()V"⟩
abbrev cX5_isOpen : ByteArray := prog_7_method_2_code
def yX5_isOpen : MethodName := ⟨RX5, "isOpen", "(I)Z"⟩
abbrev cX5_isDue : ByteArray := prog_7_method_3_code
def yX5_isDue : MethodName := ⟨RX5, "isDue", "(I)Z"⟩
abbrev cX5_canPay : ByteArray := prog_7_method_4_code
def yX5_canPay : MethodName := ⟨RX5, "canPay", "(II)Z"⟩
abbrev cX5_serves : ByteArray := prog_7_method_5_code
def yX5_serves : MethodName := ⟨RX5, "serves", "(I)Z"⟩
abbrev cX5_breadth : ByteArray := prog_7_method_6_code
def yX5_breadth : MethodName := ⟨RX5, "breadth", "()I"⟩
abbrev cX5_paysAheadOf : ByteArray := prog_7_method_7_code
def yX5_paysAheadOf : MethodName := ⟨RX5, "paysAheadOf", "(LBridgeHouse$Purse;)Z"⟩
abbrev cX5_receive : ByteArray := prog_7_method_8_code
def yX5_receive : MethodName := ⟨RX5, "receive", "(I)V"⟩
abbrev cX5_pay : ByteArray := prog_7_method_9_code
def yX5_pay : MethodName := ⟨RX5, "pay", "(II)V"⟩
abbrev cX5_lapse : ByteArray := prog_7_method_10_code
def yX5_lapse : MethodName := ⟨RX5, "lapse", "()I"⟩
def RX6 : String := "BridgeHouse$Rolls"
def TX6 : u_T := fun k => match k with
  | _ => ("BridgeHouse$Rolls", "cells", "[I", true)
def tyX6 : Nat → FieldType := fun k => match k with
  | _ => .array .int
abbrev wsX60 : List Cond := u_ws RX6 TX6 1
theorem nmX6 : ∀ a, a < 1 → ∀ b, b < 1 → a ≠ b → (TX6 a).2.1 ≠ (TX6 b).2.1 := by decide +kernel
theorem tyX6_ok : ∀ k, k < 1 → parseFieldDescriptor (TX6 k).2.2.1 = some (tyX6 k) := by decide +kernel
abbrev cX6_init : ByteArray := prog_8_method_1_code
def yX6_init : MethodName := ⟨RX6, "<init>", "()V"⟩
abbrev cX6_add : ByteArray := prog_8_method_2_code
def yX6_add : MethodName := ⟨RX6, "add", "(III)V"⟩
abbrev cX6_read : ByteArray := prog_8_method_3_code
def yX6_read : MethodName := ⟨RX6, "read", "(II)I"⟩
def RX7 : String := "BridgeHouse$Sheet"
def TX7 : u_T := fun k => match k with
  | 0 => ("BridgeHouse$Sheet", "places", "[I", true)
  | 1 => ("BridgeHouse$Sheet", "isMissing", "Z", false)
  | 2 => ("BridgeHouse$Sheet", "width", "I", false)
  | _ => ("BridgeHouse$Sheet", "size", "I", false)
def tyX7 : Nat → FieldType := fun k => match k with
  | 0 => .array .int
  | 1 => .boolean
  | 2 => .int
  | _ => .int
abbrev wsX70 : List Cond := u_ws RX7 TX7 4
theorem nmX7 : ∀ a, a < 4 → ∀ b, b < 4 → a ≠ b → (TX7 a).2.1 ≠ (TX7 b).2.1 := by decide +kernel
theorem tyX7_ok : ∀ k, k < 4 → parseFieldDescriptor (TX7 k).2.2.1 = some (tyX7 k) := by decide +kernel
abbrev cX7_init : ByteArray := prog_9_method_1_code
def yX7_init : MethodName := ⟨RX7, "<init>", "()V"⟩
abbrev cX7_begin : ByteArray := prog_9_method_2_code
def yX7_begin : MethodName := ⟨RX7, "begin", "(II)V"⟩
abbrev cX7_mostInPlace : ByteArray := prog_9_method_3_code
def yX7_mostInPlace : MethodName := ⟨RX7, "mostInPlace", "()I"⟩
abbrev cX7_write : ByteArray := prog_9_method_4_code
def yX7_write : MethodName := ⟨RX7, "write", "(II)I"⟩
abbrev cX7_hasPlaces : ByteArray := prog_9_method_5_code
def yX7_hasPlaces : MethodName := ⟨RX7, "hasPlaces", "(II)Z"⟩
abbrev cX7_inYear : ByteArray := prog_9_method_6_code
def yX7_inYear : MethodName := ⟨RX7, "inYear", "(I)I"⟩
def RX8 : String := "BridgeHouse$Tape"
def TX8 : u_T := fun k => match k with
  | 0 => ("BridgeHouse$Tape", "bytes", "[B", true)
  | _ => ("BridgeHouse$Tape", "size", "I", false)
def tyX8 : Nat → FieldType := fun k => match k with
  | 0 => .array .byte
  | _ => .int
abbrev wsX80 : List Cond := u_ws RX8 TX8 2
theorem nmX8 : ∀ a, a < 2 → ∀ b, b < 2 → a ≠ b → (TX8 a).2.1 ≠ (TX8 b).2.1 := by decide +kernel
theorem tyX8_ok : ∀ k, k < 2 → parseFieldDescriptor (TX8 k).2.2.1 = some (tyX8 k) := by decide +kernel
abbrev cX8_init : ByteArray := prog_10_method_1_code
def yX8_init : MethodName := ⟨RX8, "<init>", "()V"⟩
abbrev cX8_addNumber : ByteArray := prog_10_method_2_code
def yX8_addNumber : MethodName := ⟨RX8, "addNumber", "(I)V"⟩
def RX9 : String := "BridgeHouse"
def TX9 : u_T := fun k => match k with
  | 0 => ("BridgeHouse", "bridge", "LBridgeHouse$Bridge;", true)
  | 1 => ("BridgeHouse", "ahead", "LBridgeHouse$Bridge;", true)
  | 2 => ("BridgeHouse", "sheets", "[LBridgeHouse$Sheet;", true)
  | 3 => ("BridgeHouse", "tape", "LBridgeHouse$Tape;", true)
  | 4 => ("BridgeHouse", "text", "LBridgeHouse$GiftText;", true)
  | 5 => ("BridgeHouse", "chest", "LBridgeHouse$Chest;", true)
  | 6 => ("BridgeHouse", "book", "LBridgeHouse$Book;", true)
  | 7 => ("BridgeHouse", "rolls", "LBridgeHouse$Rolls;", true)
  | 8 => ("BridgeHouse", "rules", "[I", true)
  | _ => ("BridgeHouse", "year", "I", false)
def tyX9 : Nat → FieldType := fun k => match k with
  | 0 => .object "BridgeHouse$Bridge"
  | 1 => .object "BridgeHouse$Bridge"
  | 2 => .array (.object "BridgeHouse$Sheet")
  | 3 => .object "BridgeHouse$Tape"
  | 4 => .object "BridgeHouse$GiftText"
  | 5 => .object "BridgeHouse$Chest"
  | 6 => .object "BridgeHouse$Book"
  | 7 => .object "BridgeHouse$Rolls"
  | 8 => .array .int
  | _ => .int
abbrev wsX90 : List Cond := u_ws RX9 TX9 10
theorem nmX9 : ∀ a, a < 10 → ∀ b, b < 10 → a ≠ b → (TX9 a).2.1 ≠ (TX9 b).2.1 := by decide +kernel
theorem tyX9_ok : ∀ k, k < 10 → parseFieldDescriptor (TX9 k).2.2.1 = some (tyX9 k) := by decide +kernel
abbrev cX9_init : ByteArray := prog_1_method_1_code
def yX9_init : MethodName := ⟨RX9, "<init>", "()V"⟩
abbrev cX9_arch : ByteArray := prog_1_method_2_code
def yX9_arch : MethodName := ⟨RX9, "arch", "(I)I"⟩
abbrev cX9_set : ByteArray := prog_1_method_3_code
def yX9_set : MethodName := ⟨RX9, "set", "(III)I"⟩
abbrev cX9_about : ByteArray := prog_1_method_4_code
def yX9_about : MethodName := ⟨RX9, "about", "(II)I"⟩
abbrev cX9_isOf : ByteArray := prog_1_method_5_code
def yX9_isOf : MethodName := ⟨RX9, "isOf", "(II)I"⟩
abbrev cX9_sheet : ByteArray := prog_1_method_6_code
def yX9_sheet : MethodName := ⟨RX9, "sheet", "(III)I"⟩
abbrev cX9_enter : ByteArray := prog_1_method_7_code
def yX9_enter : MethodName := ⟨RX9, "enter", "(III)I"⟩
abbrev cX9_copy : ByteArray := prog_1_method_8_code
def yX9_copy : MethodName := ⟨RX9, "copy", "(IIIII)I"⟩
abbrev cX9_lose : ByteArray := prog_1_method_9_code
def yX9_lose : MethodName := ⟨RX9, "lose", "(I)I"⟩
abbrev cX9_feed : ByteArray := prog_1_method_10_code
def yX9_feed : MethodName := ⟨RX9, "feed", "(III)I"⟩
abbrev cX9_trim : ByteArray := prog_1_method_11_code
def yX9_trim : MethodName := ⟨RX9, "trim", "(I)I"⟩
abbrev cX9_gift : ByteArray := prog_1_method_12_code
def yX9_gift : MethodName := ⟨RX9, "gift", "()I"⟩
abbrev cX9_purse : ByteArray := prog_1_method_13_code
def yX9_purse : MethodName := ⟨RX9, "purse", "(II)I"⟩
abbrev cX9_funds : ByteArray := prog_1_method_14_code
def yX9_funds : MethodName := ⟨RX9, "funds", "(I)I"⟩
abbrev cX9_rule : ByteArray := prog_1_method_15_code
def yX9_rule : MethodName := ⟨RX9, "rule", "(II)I"⟩
abbrev cX9_spend : ByteArray := prog_1_method_16_code
def yX9_spend : MethodName := ⟨RX9, "spend", "(II)I"⟩
abbrev cX9_work : ByteArray := prog_1_method_17_code
def yX9_work : MethodName := ⟨RX9, "work", "(II)I"⟩
abbrev cX9_years : ByteArray := prog_1_method_18_code
def yX9_years : MethodName := ⟨RX9, "years", "(I)I"⟩
abbrev cX9_row : ByteArray := prog_1_method_19_code
def yX9_row : MethodName := ⟨RX9, "row", "(II)I"⟩
abbrev cX9_roll : ByteArray := prog_1_method_20_code
def yX9_roll : MethodName := ⟨RX9, "roll", "(II)I"⟩
abbrev cX9_sum : ByteArray := prog_1_method_21_code
def yX9_sum : MethodName := ⟨RX9, "sum", "()I"⟩
abbrev cX9_spent : ByteArray := prog_1_method_22_code
def yX9_spent : MethodName := ⟨RX9, "spent", "(II)I"⟩
abbrev cX9_count : ByteArray := prog_1_method_23_code
def yX9_count : MethodName := ⟨RX9, "count", "(I)I"⟩
abbrev cX9_isWithin : ByteArray := prog_1_method_24_code
def yX9_isWithin : MethodName := ⟨RX9, "isWithin", "(III)Z"⟩
abbrev cX9_isSheet : ByteArray := prog_1_method_25_code
def yX9_isSheet : MethodName := ⟨RX9, "isSheet", "(I)Z"⟩
abbrev cX9_isEnd : ByteArray := prog_1_method_26_code
def yX9_isEnd : MethodName := ⟨RX9, "isEnd", "(I)Z"⟩
abbrev cX9_mostOfRule : ByteArray := prog_1_method_27_code
def yX9_mostOfRule : MethodName := ⟨RX9, "mostOfRule", "(I)I"⟩
abbrev cX9_sheetsThere : ByteArray := prog_1_method_28_code
def yX9_sheetsThere : MethodName := ⟨RX9, "sheetsThere", "()I"⟩
abbrev cX9_yearOfFall : ByteArray := prog_1_method_29_code
def yX9_yearOfFall : MethodName := ⟨RX9, "yearOfFall", "(I)I"⟩
abbrev cX9_bringGift : ByteArray := prog_1_method_30_code
def yX9_bringGift : MethodName := ⟨RX9, "bringGift", "(LBridgeHouse$Purse;)V"⟩
abbrev cX9_takeCoins : ByteArray := prog_1_method_31_code
def yX9_takeCoins : MethodName := ⟨RX9, "takeCoins", "(II)I"⟩
abbrev cX9_workFor : ByteArray := prog_1_method_32_code
def yX9_workFor : MethodName := ⟨RX9, "workFor", "(II)I"⟩
abbrev cX9_lapsePurses : ByteArray := prog_1_method_33_code
def yX9_lapsePurses : MethodName := ⟨RX9, "lapsePurses", "()V"⟩
abbrev cX9_bringGiftsOfYear : ByteArray := prog_1_method_34_code
def yX9_bringGiftsOfYear : MethodName := ⟨RX9, "bringGiftsOfYear", "()V"⟩
abbrev cX9_bringTolls : ByteArray := prog_1_method_35_code
def yX9_bringTolls : MethodName := ⟨RX9, "bringTolls", "()V"⟩
abbrev cX9_bringRents : ByteArray := prog_1_method_36_code
def yX9_bringRents : MethodName := ⟨RX9, "bringRents", "()V"⟩
abbrev cX9_keepUp : ByteArray := prog_1_method_37_code
def yX9_keepUp : MethodName := ⟨RX9, "keepUp", "()V"⟩
def RX10 : String := "BridgeHouseModel"
def TX10 : u_T := fun k => match k with
  | 0 => ("BridgeHouseModel", "year", "I", false)
  | 1 => ("BridgeHouseModel", "arches", "I", false)
  | 2 => ("BridgeHouseModel", "kinds", "[I", true)
  | 3 => ("BridgeHouseModel", "strength", "[I", true)
  | 4 => ("BridgeHouseModel", "houses", "[I", true)
  | 5 => ("BridgeHouseModel", "wheel", "[I", true)
  | 6 => ("BridgeHouseModel", "rules", "[I", true)
  | 7 => ("BridgeHouseModel", "isThere", "[Z", true)
  | 8 => ("BridgeHouseModel", "width", "[I", true)
  | 9 => ("BridgeHouseModel", "places", "[I", true)
  | 10 => ("BridgeHouseModel", "numbers", "[I", true)
  | 11 => ("BridgeHouseModel", "tape", "[I", true)
  | 12 => ("BridgeHouseModel", "taped", "I", false)
  | 13 => ("BridgeHouseModel", "purses", "I", false)
  | 14 => ("BridgeHouseModel", "pEnd", "[I", true)
  | 15 => ("BridgeHouseModel", "pFrom", "[I", true)
  | 16 => ("BridgeHouseModel", "pTill", "[I", true)
  | 17 => ("BridgeHouseModel", "pYearly", "[I", true)
  | 18 => ("BridgeHouseModel", "pGives", "[I", true)
  | 19 => ("BridgeHouseModel", "coins", "[I", true)
  | 20 => ("BridgeHouseModel", "cameAll", "[I", true)
  | 21 => ("BridgeHouseModel", "lapsedAll", "[I", true)
  | 22 => ("BridgeHouseModel", "spentOf", "[I", true)
  | 23 => ("BridgeHouseModel", "book", "[I", true)
  | 24 => ("BridgeHouseModel", "firstRow", "I", false)
  | 25 => ("BridgeHouseModel", "rowMany", "I", false)
  | 26 => ("BridgeHouseModel", "rolls", "[I", true)
  | 27 => ("BridgeHouseModel", "s", "[I", true)
  | 28 => ("BridgeHouseModel", "hs", "[I", true)
  | 29 => ("BridgeHouseModel", "ws", "[I", true)
  | 30 => ("BridgeHouseModel", "losses", "[I", true)
  | 31 => ("BridgeHouseModel", "carried", "[I", true)
  | 32 => ("BridgeHouseModel", "read", "I", false)
  | 33 => ("BridgeHouseModel", "from1", "I", false)
  | 34 => ("BridgeHouseModel", "long1", "I", false)
  | 35 => ("BridgeHouseModel", "gCoins", "I", false)
  | 36 => ("BridgeHouseModel", "gEnd", "I", false)
  | 37 => ("BridgeHouseModel", "gFrom", "I", false)
  | 38 => ("BridgeHouseModel", "gTill", "I", false)
  | 39 => ("BridgeHouseModel", "gYearly", "I", false)
  | _ => ("BridgeHouseModel", "chosen", "[Z", true)
def tyX10 : Nat → FieldType := fun k => match k with
  | 0 => .int
  | 1 => .int
  | 2 => .array .int
  | 3 => .array .int
  | 4 => .array .int
  | 5 => .array .int
  | 6 => .array .int
  | 7 => .array .boolean
  | 8 => .array .int
  | 9 => .array .int
  | 10 => .array .int
  | 11 => .array .int
  | 12 => .int
  | 13 => .int
  | 14 => .array .int
  | 15 => .array .int
  | 16 => .array .int
  | 17 => .array .int
  | 18 => .array .int
  | 19 => .array .int
  | 20 => .array .int
  | 21 => .array .int
  | 22 => .array .int
  | 23 => .array .int
  | 24 => .int
  | 25 => .int
  | 26 => .array .int
  | 27 => .array .int
  | 28 => .array .int
  | 29 => .array .int
  | 30 => .array .int
  | 31 => .array .int
  | 32 => .int
  | 33 => .int
  | 34 => .int
  | 35 => .int
  | 36 => .int
  | 37 => .int
  | 38 => .int
  | 39 => .int
  | _ => .array .boolean
abbrev wsX100 : List Cond := u_ws RX10 TX10 41
theorem nmX10 : ∀ a, a < 41 → ∀ b, b < 41 → a ≠ b → (TX10 a).2.1 ≠ (TX10 b).2.1 := by decide +kernel
theorem tyX10_ok : ∀ k, k < 41 → parseFieldDescriptor (TX10 k).2.2.1 = some (tyX10 k) := by decide +kernel
abbrev cX10_init : ByteArray := prog_12_method_1_code
def yX10_init : MethodName := ⟨RX10, "<init>", "()V"⟩
abbrev cX10_isIn : ByteArray := prog_12_method_2_code
def yX10_isIn : MethodName := ⟨RX10, "isIn", "(III)Z"⟩
abbrev cX10_isArch : ByteArray := prog_12_method_3_code
def yX10_isArch : MethodName := ⟨RX10, "isArch", "(I)Z"⟩
abbrev cX10_told : ByteArray := prog_12_method_4_code
def yX10_told : MethodName := ⟨RX10, "told", "(II)V"⟩
abbrev cX10_arch : ByteArray := prog_12_method_5_code
def yX10_arch : MethodName := ⟨RX10, "arch", "(I)I"⟩
abbrev cX10_set : ByteArray := prog_12_method_6_code
def yX10_set : MethodName := ⟨RX10, "set", "(III)I"⟩
abbrev cX10_numberOf : ByteArray := prog_12_method_7_code
def yX10_numberOf : MethodName := ⟨RX10, "numberOf", "(II)I"⟩
abbrev cX10_asItIs : ByteArray := prog_12_method_8_code
def yX10_asItIs : MethodName := ⟨RX10, "asItIs", "()V"⟩
abbrev cX10_findLosses : ByteArray := prog_12_method_9_code
def yX10_findLosses : MethodName := ⟨RX10, "findLosses", "(I)V"⟩
abbrev cX10_lose : ByteArray := prog_12_method_10_code
def yX10_lose : MethodName := ⟨RX10, "lose", "()V"⟩
abbrev cX10_toldOf : ByteArray := prog_12_method_11_code
def yX10_toldOf : MethodName := ⟨RX10, "toldOf", "(I)I"⟩
abbrev cX10_spentAt : ByteArray := prog_12_method_12_code
def yX10_spentAt : MethodName := ⟨RX10, "spentAt", "(I)I"⟩
abbrev cX10_about : ByteArray := prog_12_method_13_code
def yX10_about : MethodName := ⟨RX10, "about", "(II)I"⟩
abbrev cX10_isOf : ByteArray := prog_12_method_14_code
def yX10_isOf : MethodName := ⟨RX10, "isOf", "(II)I"⟩
abbrev cX10_isSheet : ByteArray := prog_12_method_15_code
def yX10_isSheet : MethodName := ⟨RX10, "isSheet", "(I)Z"⟩
abbrev cX10_sheet : ByteArray := prog_12_method_16_code
def yX10_sheet : MethodName := ⟨RX10, "sheet", "(III)I"⟩
abbrev cX10_enter : ByteArray := prog_12_method_17_code
def yX10_enter : MethodName := ⟨RX10, "enter", "(III)I"⟩
abbrev cX10_copy : ByteArray := prog_12_method_18_code
def yX10_copy : MethodName := ⟨RX10, "copy", "(IIIII)I"⟩
abbrev cX10_lose_ : ByteArray := prog_12_method_19_code
def yX10_lose_ : MethodName := ⟨RX10, "lose", "(I)I"⟩
abbrev cX10_four : ByteArray := prog_12_method_20_code
def yX10_four : MethodName := ⟨RX10, "four", "(I)V"⟩
abbrev cX10_feed : ByteArray := prog_12_method_21_code
def yX10_feed : MethodName := ⟨RX10, "feed", "(III)I"⟩
abbrev cX10_trim : ByteArray := prog_12_method_22_code
def yX10_trim : MethodName := ⟨RX10, "trim", "(I)I"⟩
abbrev cX10_next : ByteArray := prog_12_method_23_code
def yX10_next : MethodName := ⟨RX10, "next", "()V"⟩
abbrev cX10_here : ByteArray := prog_12_method_24_code
def yX10_here : MethodName := ⟨RX10, "here", "()I"⟩
abbrev cX10_isWord : ByteArray := prog_12_method_25_code
def yX10_isWord : MethodName := ⟨RX10, "isWord", "(JI)Z"⟩
abbrev cX10_number : ByteArray := prog_12_method_26_code
def yX10_number : MethodName := ⟨RX10, "number", "()I"⟩
abbrev cX10_endOf : ByteArray := prog_12_method_27_code
def yX10_endOf : MethodName := ⟨RX10, "endOf", "()I"⟩
abbrev cX10_readGift : ByteArray := prog_12_method_28_code
def yX10_readGift : MethodName := ⟨RX10, "readGift", "()I"⟩
abbrev cX10_comes : ByteArray := prog_12_method_29_code
def yX10_comes : MethodName := ⟨RX10, "comes", "(III)V"⟩
abbrev cX10_gift : ByteArray := prog_12_method_30_code
def yX10_gift : MethodName := ⟨RX10, "gift", "()I"⟩
abbrev cX10_isPurse : ByteArray := prog_12_method_31_code
def yX10_isPurse : MethodName := ⟨RX10, "isPurse", "(I)Z"⟩
abbrev cX10_isOpen : ByteArray := prog_12_method_32_code
def yX10_isOpen : MethodName := ⟨RX10, "isOpen", "(I)Z"⟩
abbrev cX10_purse : ByteArray := prog_12_method_33_code
def yX10_purse : MethodName := ⟨RX10, "purse", "(II)I"⟩
abbrev cX10_isEnd : ByteArray := prog_12_method_34_code
def yX10_isEnd : MethodName := ⟨RX10, "isEnd", "(I)Z"⟩
abbrev cX10_serves : ByteArray := prog_12_method_35_code
def yX10_serves : MethodName := ⟨RX10, "serves", "(II)Z"⟩
abbrev cX10_fundsOf : ByteArray := prog_12_method_36_code
def yX10_fundsOf : MethodName := ⟨RX10, "fundsOf", "(I)I"⟩
abbrev cX10_funds : ByteArray := prog_12_method_37_code
def yX10_funds : MethodName := ⟨RX10, "funds", "(I)I"⟩
abbrev cX10_turnOf : ByteArray := prog_12_method_38_code
def yX10_turnOf : MethodName := ⟨RX10, "turnOf", "(I)I"⟩
abbrev cX10_isSooner : ByteArray := prog_12_method_39_code
def yX10_isSooner : MethodName := ⟨RX10, "isSooner", "(II)Z"⟩
abbrev cX10_write : ByteArray := prog_12_method_40_code
def yX10_write : MethodName := ⟨RX10, "write", "(III)V"⟩
abbrev cX10_taken : ByteArray := prog_12_method_41_code
def yX10_taken : MethodName := ⟨RX10, "taken", "(II)V"⟩
abbrev cX10_rule : ByteArray := prog_12_method_42_code
def yX10_rule : MethodName := ⟨RX10, "rule", "(II)I"⟩
abbrev cX10_spend : ByteArray := prog_12_method_43_code
def yX10_spend : MethodName := ⟨RX10, "spend", "(II)I"⟩
abbrev cX10_gain : ByteArray := prog_12_method_44_code
def yX10_gain : MethodName := ⟨RX10, "gain", "(I)I"⟩
abbrev cX10_worked : ByteArray := prog_12_method_45_code
def yX10_worked : MethodName := ⟨RX10, "worked", "(III)I"⟩
abbrev cX10_work : ByteArray := prog_12_method_46_code
def yX10_work : MethodName := ⟨RX10, "work", "(II)I"⟩
abbrev cX10_keep : ByteArray := prog_12_method_47_code
def yX10_keep : MethodName := ⟨RX10, "keep", "()V"⟩
abbrev cX10_goOn : ByteArray := prog_12_method_48_code
def yX10_goOn : MethodName := ⟨RX10, "goOn", "()V"⟩
abbrev cX10_years : ByteArray := prog_12_method_49_code
def yX10_years : MethodName := ⟨RX10, "years", "(I)I"⟩
abbrev cX10_row : ByteArray := prog_12_method_50_code
def yX10_row : MethodName := ⟨RX10, "row", "(II)I"⟩
abbrev cX10_roll : ByteArray := prog_12_method_51_code
def yX10_roll : MethodName := ⟨RX10, "roll", "(II)I"⟩
abbrev cX10_sum : ByteArray := prog_12_method_52_code
def yX10_sum : MethodName := ⟨RX10, "sum", "()I"⟩
abbrev cX10_spent : ByteArray := prog_12_method_53_code
def yX10_spent : MethodName := ⟨RX10, "spent", "(II)I"⟩
abbrev cX10_count : ByteArray := prog_12_method_54_code
def yX10_count : MethodName := ⟨RX10, "count", "(I)I"⟩
def RJ9 : String := "java/lang/Math"
def TJ9 : u_T := fun k => match k with
  | _ => ("", "", "", false)
def tyJ9 : Nat → FieldType := fun k => match k with
  | _ => .int
theorem nmJ9 : ∀ a, a < 0 → ∀ b, b < 0 → a ≠ b → (TJ9 a).2.1 ≠ (TJ9 b).2.1 := by decide +kernel
theorem tyJ9_ok : ∀ k, k < 0 → parseFieldDescriptor (TJ9 k).2.2.1 = some (tyJ9 k) := by decide +kernel
abbrev cJ9_max_7cf53 : ByteArray := prog_13_method_65_code
def yJ9_max_7cf53 : MethodName := ⟨RJ9, "max", "(II)I"⟩
abbrev cJ9_min_7cf53 : ByteArray := prog_13_method_69_code
def yJ9_min_7cf53 : MethodName := ⟨RJ9, "min", "(II)I"⟩
def RJ0 : String := "java/lang/String"
def TJ0 : u_T := fun k => match k with
  | _ => ("", "", "", false)
def tyJ0 : Nat → FieldType := fun k => match k with
  | _ => .int
theorem nmJ0 : ∀ a, a < 0 → ∀ b, b < 0 → a ≠ b → (TJ0 a).2.1 ≠ (TJ0 b).2.1 := by decide +kernel
theorem tyJ0_ok : ∀ k, k < 0 → parseFieldDescriptor (TJ0 k).2.2.1 = some (tyJ0 k) := by decide +kernel
abbrev cJ0_length_8abf5 : ByteArray := prog_14_method_54_code
def yJ0_length_8abf5 : MethodName := ⟨RJ0, "length", "()I"⟩
abbrev cJ0_charAt_5068e : ByteArray := prog_14_method_56_code
def yJ0_charAt_5068e : MethodName := ⟨RJ0, "charAt", "(I)C"⟩
abbrev cJ0_coder_7d493 : ByteArray := prog_14_method_152_code
def yJ0_coder_7d493 : MethodName := ⟨RJ0, "coder", "()B"⟩
abbrev cJ0_isLatin1_aae02 : ByteArray := prog_14_method_154_code
def yJ0_isLatin1_aae02 : MethodName := ⟨RJ0, "isLatin1", "()Z"⟩
abbrev cJ0_checkIndex_df160 : ByteArray := prog_14_method_155_code
def yJ0_checkIndex_df160 : MethodName := ⟨RJ0, "checkIndex", "(II)V"⟩
def RJ1 : String := "java/lang/StringLatin1"
def TJ1 : u_T := fun k => match k with
  | _ => ("", "", "", false)
def tyJ1 : Nat → FieldType := fun k => match k with
  | _ => .int
theorem nmJ1 : ∀ a, a < 0 → ∀ b, b < 0 → a ≠ b → (TJ1 a).2.1 ≠ (TJ1 b).2.1 := by decide +kernel
theorem tyJ1_ok : ∀ k, k < 0 → parseFieldDescriptor (TJ1 k).2.2.1 = some (tyJ1 k) := by decide +kernel
abbrev cJ1_charAt_3b067 : ByteArray := prog_15_method_2_code
def yJ1_charAt_3b067 : MethodName := ⟨RJ1, "charAt", "([BI)C"⟩
def RJ2 : String := "java/lang/StringUTF16"
def TJ2 : u_T := fun k => match k with
  | _ => ("", "", "", false)
def tyJ2 : Nat → FieldType := fun k => match k with
  | _ => .int
theorem nmJ2 : ∀ a, a < 0 → ∀ b, b < 0 → a ≠ b → (TJ2 a).2.1 ≠ (TJ2 b).2.1 := by decide +kernel
theorem tyJ2_ok : ∀ k, k < 0 → parseFieldDescriptor (TJ2 k).2.2.1 = some (tyJ2 k) := by decide +kernel
abbrev cJ2_getChar_3b067 : ByteArray := prog_16_method_5_code
def yJ2_getChar_3b067 : MethodName := ⟨RJ2, "getChar", "([BI)C"⟩
abbrev cJ2_length_9d52b : ByteArray := prog_16_method_6_code
def yJ2_length_9d52b : MethodName := ⟨RJ2, "length", "([B)I"⟩
abbrev cJ2_charAt_3b067 : ByteArray := prog_16_method_83_code
def yJ2_charAt_3b067 : MethodName := ⟨RJ2, "charAt", "([BI)C"⟩
abbrev cJ2_checkIndex_2214a : ByteArray := prog_16_method_91_code
def yJ2_checkIndex_2214a : MethodName := ⟨RJ2, "checkIndex", "(I[B)V"⟩
def RJ10 : String := "java/lang/System"
def TJ10 : u_T := fun k => match k with
  | _ => ("", "", "", false)
def tyJ10 : Nat → FieldType := fun k => match k with
  | _ => .int
theorem nmJ10 : ∀ a, a < 0 → ∀ b, b < 0 → a ≠ b → (TJ10 a).2.1 ≠ (TJ10 b).2.1 := by decide +kernel
theorem tyJ10_ok : ∀ k, k < 0 → parseFieldDescriptor (TJ10 k).2.2.1 = some (tyJ10 k) := by decide +kernel
def RJ3 : String := "jdk/internal/util/Preconditions"
def TJ3 : u_T := fun k => match k with
  | _ => ("", "", "", false)
def tyJ3 : Nat → FieldType := fun k => match k with
  | _ => .int
theorem nmJ3 : ∀ a, a < 0 → ∀ b, b < 0 → a ≠ b → (TJ3 a).2.1 ≠ (TJ3 b).2.1 := by decide +kernel
theorem tyJ3_ok : ∀ k, k < 0 → parseFieldDescriptor (TJ3 k).2.2.1 = some (tyJ3 k) := by decide +kernel
abbrev cJ3_checkIndex_8e157 : ByteArray := prog_18_method_11_code
def yJ3_checkIndex_8e157 : MethodName := ⟨RJ3, "checkIndex", "(IILjava/util/function/BiFunction;)I"⟩
def RL : String := "BridgeHouseLaw"
abbrev cL_law : ByteArray := code
def yL_law : MethodName := ⟨RL, "law", "([I)Z"⟩
abbrev vwCl : List vw_C := [(RX0, TX0, 6), (RX1, TX1, 3), (RX2, TX2, 2), (RX3, TX3, 2), (RX4, TX4, 8), (RX5, TX5, 9), (RX6, TX6, 1), (RX7, TX7, 4), (RX8, TX8, 2), (RX9, TX9, 10), (RX10, TX10, 41)]
