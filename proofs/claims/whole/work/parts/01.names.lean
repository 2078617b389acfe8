-- ===== PART A: goes FIRST, ahead of the names: the tables' words, and 'selects' of the private methods out of them =====
/-- a private method of a class that the tables say can be made, by its rows of tables_1 -/
def lw_okq (q : MethodName × Nat) : Prop := (q.1.cls ≠ "java/lang/invoke/MethodHandle" ∧ q.1.cls ≠ "java/lang/invoke/VarHandle") ∧ Cond.instantiable q.1.cls q.2 ∈ tables_1 ∧ Cond.privateMethod q.1 ∈ tables_1 ∧ Cond.instanceMethod q.1 ∈ tables_1
theorem lw_p0 : lw_okq (⟨"WireOfLand", "stopWire", "(LWireOfLand$Stops;III)I"⟩, 8) := ⟨⟨by decide +kernel, by decide +kernel⟩, List.mem_of_getElem? (i := 23) (by decide +kernel), List.mem_of_getElem? (i := 425) (by decide +kernel), List.mem_of_getElem? (i := 426) (by decide +kernel)⟩
theorem lw_p1 : lw_okq (⟨"WireOfLand", "isWire", "(I)Z"⟩, 8) := ⟨⟨by decide +kernel, by decide +kernel⟩, List.mem_of_getElem? (i := 23) (by decide +kernel), List.mem_of_getElem? (i := 429) (by decide +kernel), List.mem_of_getElem? (i := 430) (by decide +kernel)⟩
theorem lw_p2 : lw_okq (⟨"WireOfLand$Post", "endWires", "(I)V"⟩, 6) := ⟨⟨by decide +kernel, by decide +kernel⟩, List.mem_of_getElem? (i := 185) (by decide +kernel), List.mem_of_getElem? (i := 567) (by decide +kernel), List.mem_of_getElem? (i := 568) (by decide +kernel)⟩
theorem lw_p3 : lw_okq (⟨"WireOfLand$Post", "giveWaiting", "()V"⟩, 6) := ⟨⟨by decide +kernel, by decide +kernel⟩, List.mem_of_getElem? (i := 185) (by decide +kernel), List.mem_of_getElem? (i := 579) (by decide +kernel), List.mem_of_getElem? (i := 580) (by decide +kernel)⟩
theorem lw_p4 : lw_okq (⟨"WireOfLand$Post", "findNext", "(LWireOfLand$Message;I)V"⟩, 6) := ⟨⟨by decide +kernel, by decide +kernel⟩, List.mem_of_getElem? (i := 185) (by decide +kernel), List.mem_of_getElem? (i := 596) (by decide +kernel), List.mem_of_getElem? (i := 597) (by decide +kernel)⟩
theorem lw_p5 : lw_okq (⟨"WireOfLand$Net", "shorten", "(II)Z"⟩, 10) := ⟨⟨by decide +kernel, by decide +kernel⟩, List.mem_of_getElem? (i := 31) (by decide +kernel), List.mem_of_getElem? (i := 623) (by decide +kernel), List.mem_of_getElem? (i := 624) (by decide +kernel)⟩
theorem lw_p6 : lw_okq (⟨"WireOfLand$Post", "sendOn", "(I)V"⟩, 6) := ⟨⟨by decide +kernel, by decide +kernel⟩, List.mem_of_getElem? (i := 185) (by decide +kernel), List.mem_of_getElem? (i := 627) (by decide +kernel), List.mem_of_getElem? (i := 628) (by decide +kernel)⟩
theorem lw_p7 : lw_okq (⟨"WireOfLand$Post", "sendFrom", "(II)V"⟩, 6) := ⟨⟨by decide +kernel, by decide +kernel⟩, List.mem_of_getElem? (i := 185) (by decide +kernel), List.mem_of_getElem? (i := 636) (by decide +kernel), List.mem_of_getElem? (i := 637) (by decide +kernel)⟩
theorem lw_p8 : lw_okq (⟨"WireOfLand$Post", "isTaken", "(II)Z"⟩, 6) := ⟨⟨by decide +kernel, by decide +kernel⟩, List.mem_of_getElem? (i := 185) (by decide +kernel), List.mem_of_getElem? (i := 640) (by decide +kernel), List.mem_of_getElem? (i := 641) (by decide +kernel)⟩
theorem lw_p9 : lw_okq (⟨"WireOfLand", "isMessage", "(I)Z"⟩, 8) := ⟨⟨by decide +kernel, by decide +kernel⟩, List.mem_of_getElem? (i := 23) (by decide +kernel), List.mem_of_getElem? (i := 668) (by decide +kernel), List.mem_of_getElem? (i := 669) (by decide +kernel)⟩
theorem lw_p10 : lw_okq (⟨"WireOfLand$Net", "soonestBut", "(I)I"⟩, 10) := ⟨⟨by decide +kernel, by decide +kernel⟩, List.mem_of_getElem? (i := 31) (by decide +kernel), List.mem_of_getElem? (i := 698) (by decide +kernel), List.mem_of_getElem? (i := 699) (by decide +kernel)⟩
theorem lw_p11 : lw_okq (⟨"WireOfLand$Net", "goOnFrom", "(IIILWireOfLand$Orders;)V"⟩, 10) := ⟨⟨by decide +kernel, by decide +kernel⟩, List.mem_of_getElem? (i := 31) (by decide +kernel), List.mem_of_getElem? (i := 702) (by decide +kernel), List.mem_of_getElem? (i := 703) (by decide +kernel)⟩
theorem lw_p12 : lw_okq (⟨"WireOfLand$Net", "startFrom", "(IIIILWireOfLand$Orders;)I"⟩, 10) := ⟨⟨by decide +kernel, by decide +kernel⟩, List.mem_of_getElem? (i := 31) (by decide +kernel), List.mem_of_getElem? (i := 706) (by decide +kernel), List.mem_of_getElem? (i := 707) (by decide +kernel)⟩
theorem lw_p13 : lw_okq (⟨"WireOfLand$Net", "notAhead", "(IIILWireOfLand$Orders;)I"⟩, 10) := ⟨⟨by decide +kernel, by decide +kernel⟩, List.mem_of_getElem? (i := 31) (by decide +kernel), List.mem_of_getElem? (i := 710) (by decide +kernel), List.mem_of_getElem? (i := 711) (by decide +kernel)⟩
theorem lw_p14 : lw_okq (⟨"WireOfLand$Net", "opening", "(II)I"⟩, 10) := ⟨⟨by decide +kernel, by decide +kernel⟩, List.mem_of_getElem? (i := 31) (by decide +kernel), List.mem_of_getElem? (i := 714) (by decide +kernel), List.mem_of_getElem? (i := 715) (by decide +kernel)⟩
theorem lw_p15 : lw_okq (⟨"WireOfLand$Text", "goOn", "()V"⟩, 6) := ⟨⟨by decide +kernel, by decide +kernel⟩, List.mem_of_getElem? (i := 215) (by decide +kernel), List.mem_of_getElem? (i := 774) (by decide +kernel), List.mem_of_getElem? (i := 775) (by decide +kernel)⟩
def lw_privs_1 : List (MethodName × Nat) := [(⟨"WireOfLand", "stopWire", "(LWireOfLand$Stops;III)I"⟩, 8), (⟨"WireOfLand", "isWire", "(I)Z"⟩, 8), (⟨"WireOfLand$Post", "endWires", "(I)V"⟩, 6), (⟨"WireOfLand$Post", "giveWaiting", "()V"⟩, 6), (⟨"WireOfLand$Post", "findNext", "(LWireOfLand$Message;I)V"⟩, 6), (⟨"WireOfLand$Net", "shorten", "(II)Z"⟩, 10), (⟨"WireOfLand$Post", "sendOn", "(I)V"⟩, 6), (⟨"WireOfLand$Post", "sendFrom", "(II)V"⟩, 6), (⟨"WireOfLand$Post", "isTaken", "(II)Z"⟩, 6), (⟨"WireOfLand", "isMessage", "(I)Z"⟩, 8), (⟨"WireOfLand$Net", "soonestBut", "(I)I"⟩, 10), (⟨"WireOfLand$Net", "goOnFrom", "(IIILWireOfLand$Orders;)V"⟩, 10), (⟨"WireOfLand$Net", "startFrom", "(IIIILWireOfLand$Orders;)I"⟩, 10), (⟨"WireOfLand$Net", "notAhead", "(IIILWireOfLand$Orders;)I"⟩, 10), (⟨"WireOfLand$Net", "opening", "(II)I"⟩, 10), (⟨"WireOfLand$Text", "goOn", "()V"⟩, 6)]
theorem lw_r1 : ∀ q ∈ lw_privs_1, lw_okq q := List.forall_mem_cons.mpr ⟨lw_p0, List.forall_mem_cons.mpr ⟨lw_p1, List.forall_mem_cons.mpr ⟨lw_p2, List.forall_mem_cons.mpr ⟨lw_p3, List.forall_mem_cons.mpr ⟨lw_p4, List.forall_mem_cons.mpr ⟨lw_p5, List.forall_mem_cons.mpr ⟨lw_p6, List.forall_mem_cons.mpr ⟨lw_p7, List.forall_mem_cons.mpr ⟨lw_p8, List.forall_mem_cons.mpr ⟨lw_p9, List.forall_mem_cons.mpr ⟨lw_p10, List.forall_mem_cons.mpr ⟨lw_p11, List.forall_mem_cons.mpr ⟨lw_p12, List.forall_mem_cons.mpr ⟨lw_p13, List.forall_mem_cons.mpr ⟨lw_p14, List.forall_mem_cons.mpr ⟨lw_p15, fun _ h => absurd h List.not_mem_nil⟩⟩⟩⟩⟩⟩⟩⟩⟩⟩⟩⟩⟩⟩⟩⟩
theorem lw_p16 : lw_okq (⟨"WireOfLand$Text", "readsLine", "(LWireOfLand$Orders;)Z"⟩, 6) := ⟨⟨by decide +kernel, by decide +kernel⟩, List.mem_of_getElem? (i := 215) (by decide +kernel), List.mem_of_getElem? (i := 785) (by decide +kernel), List.mem_of_getElem? (i := 786) (by decide +kernel)⟩
theorem lw_p17 : lw_okq (⟨"WireOfLand$Text", "passes", "(Ljava/lang/String;)Z"⟩, 6) := ⟨⟨by decide +kernel, by decide +kernel⟩, List.mem_of_getElem? (i := 215) (by decide +kernel), List.mem_of_getElem? (i := 790) (by decide +kernel), List.mem_of_getElem? (i := 791) (by decide +kernel)⟩
theorem lw_p18 : lw_okq (⟨"WireOfLand$Text", "readsRank", "(LWireOfLand$Orders;)Z"⟩, 6) := ⟨⟨by decide +kernel, by decide +kernel⟩, List.mem_of_getElem? (i := 215) (by decide +kernel), List.mem_of_getElem? (i := 842) (by decide +kernel), List.mem_of_getElem? (i := 843) (by decide +kernel)⟩
theorem lw_p19 : lw_okq (⟨"WireOfLand$Text", "passesKind", "()Z"⟩, 6) := ⟨⟨by decide +kernel, by decide +kernel⟩, List.mem_of_getElem? (i := 215) (by decide +kernel), List.mem_of_getElem? (i := 846) (by decide +kernel), List.mem_of_getElem? (i := 847) (by decide +kernel)⟩
theorem lw_p20 : lw_okq (⟨"WireOfLand$Text", "passesNumber", "(I)Z"⟩, 6) := ⟨⟨by decide +kernel, by decide +kernel⟩, List.mem_of_getElem? (i := 215) (by decide +kernel), List.mem_of_getElem? (i := 855) (by decide +kernel), List.mem_of_getElem? (i := 856) (by decide +kernel)⟩
theorem lw_p21 : lw_okq (⟨"WireOfLand$Text", "readsPay", "(LWireOfLand$Orders;)Z"⟩, 6) := ⟨⟨by decide +kernel, by decide +kernel⟩, List.mem_of_getElem? (i := 215) (by decide +kernel), List.mem_of_getElem? (i := 860) (by decide +kernel), List.mem_of_getElem? (i := 861) (by decide +kernel)⟩
theorem lw_p22 : lw_okq (⟨"WireOfLand$Text", "readsNight", "(LWireOfLand$Orders;)Z"⟩, 6) := ⟨⟨by decide +kernel, by decide +kernel⟩, List.mem_of_getElem? (i := 215) (by decide +kernel), List.mem_of_getElem? (i := 865) (by decide +kernel), List.mem_of_getElem? (i := 866) (by decide +kernel)⟩
theorem lw_p23 : lw_okq (⟨"WireOfLand$Text", "readsRepeat", "(LWireOfLand$Orders;)Z"⟩, 6) := ⟨⟨by decide +kernel, by decide +kernel⟩, List.mem_of_getElem? (i := 215) (by decide +kernel), List.mem_of_getElem? (i := 871) (by decide +kernel), List.mem_of_getElem? (i := 872) (by decide +kernel)⟩
theorem lw_p24 : lw_okq (⟨"WireOfLand$Text", "readsLeast", "(LWireOfLand$Orders;)Z"⟩, 6) := ⟨⟨by decide +kernel, by decide +kernel⟩, List.mem_of_getElem? (i := 215) (by decide +kernel), List.mem_of_getElem? (i := 876) (by decide +kernel), List.mem_of_getElem? (i := 877) (by decide +kernel)⟩
theorem lw_p25 : lw_okq (⟨"WireOfLand$Text", "readsBack", "(LWireOfLand$Orders;)Z"⟩, 6) := ⟨⟨by decide +kernel, by decide +kernel⟩, List.mem_of_getElem? (i := 215) (by decide +kernel), List.mem_of_getElem? (i := 881) (by decide +kernel), List.mem_of_getElem? (i := 882) (by decide +kernel)⟩
theorem lw_p26 : lw_okq (⟨"WireOfLand$Book", "likelierThan", "(I)I"⟩, 7) := ⟨⟨by decide +kernel, by decide +kernel⟩, List.mem_of_getElem? (i := 242) (by decide +kernel), List.mem_of_getElem? (i := 964) (by decide +kernel), List.mem_of_getElem? (i := 965) (by decide +kernel)⟩
theorem lw_p27 : lw_okq (⟨"WireOfLand", "isRow", "(I)Z"⟩, 8) := ⟨⟨by decide +kernel, by decide +kernel⟩, List.mem_of_getElem? (i := 23) (by decide +kernel), List.mem_of_getElem? (i := 981) (by decide +kernel), List.mem_of_getElem? (i := 982) (by decide +kernel)⟩
theorem lw_p28 : lw_okq (⟨"WireOfLand$Tapes", "suspectsOf", "(I)I"⟩, 5) := ⟨⟨by decide +kernel, by decide +kernel⟩, List.mem_of_getElem? (i := 274) (by decide +kernel), List.mem_of_getElem? (i := 1013) (by decide +kernel), List.mem_of_getElem? (i := 1014) (by decide +kernel)⟩
theorem lw_p29 : lw_okq (⟨"WireOfLand$Tapes", "explainsAll", "(I)Z"⟩, 5) := ⟨⟨by decide +kernel, by decide +kernel⟩, List.mem_of_getElem? (i := 274) (by decide +kernel), List.mem_of_getElem? (i := 1027) (by decide +kernel), List.mem_of_getElem? (i := 1028) (by decide +kernel)⟩
theorem lw_p30 : lw_okq (⟨"WireOfLand$Shifts", "isEnough", "(III)Z"⟩, 6) := ⟨⟨by decide +kernel, by decide +kernel⟩, List.mem_of_getElem? (i := 302) (by decide +kernel), List.mem_of_getElem? (i := 1055) (by decide +kernel), List.mem_of_getElem? (i := 1056) (by decide +kernel)⟩
theorem lw_p31 : lw_okq (⟨"WireOfLand$Shifts", "leastOfTwo", "()I"⟩, 6) := ⟨⟨by decide +kernel, by decide +kernel⟩, List.mem_of_getElem? (i := 302) (by decide +kernel), List.mem_of_getElem? (i := 1064) (by decide +kernel), List.mem_of_getElem? (i := 1065) (by decide +kernel)⟩
def lw_privs_2 : List (MethodName × Nat) := [(⟨"WireOfLand$Text", "readsLine", "(LWireOfLand$Orders;)Z"⟩, 6), (⟨"WireOfLand$Text", "passes", "(Ljava/lang/String;)Z"⟩, 6), (⟨"WireOfLand$Text", "readsRank", "(LWireOfLand$Orders;)Z"⟩, 6), (⟨"WireOfLand$Text", "passesKind", "()Z"⟩, 6), (⟨"WireOfLand$Text", "passesNumber", "(I)Z"⟩, 6), (⟨"WireOfLand$Text", "readsPay", "(LWireOfLand$Orders;)Z"⟩, 6), (⟨"WireOfLand$Text", "readsNight", "(LWireOfLand$Orders;)Z"⟩, 6), (⟨"WireOfLand$Text", "readsRepeat", "(LWireOfLand$Orders;)Z"⟩, 6), (⟨"WireOfLand$Text", "readsLeast", "(LWireOfLand$Orders;)Z"⟩, 6), (⟨"WireOfLand$Text", "readsBack", "(LWireOfLand$Orders;)Z"⟩, 6), (⟨"WireOfLand$Book", "likelierThan", "(I)I"⟩, 7), (⟨"WireOfLand", "isRow", "(I)Z"⟩, 8), (⟨"WireOfLand$Tapes", "suspectsOf", "(I)I"⟩, 5), (⟨"WireOfLand$Tapes", "explainsAll", "(I)Z"⟩, 5), (⟨"WireOfLand$Shifts", "isEnough", "(III)Z"⟩, 6), (⟨"WireOfLand$Shifts", "leastOfTwo", "()I"⟩, 6)]
theorem lw_r2 : ∀ q ∈ lw_privs_2, lw_okq q := List.forall_mem_cons.mpr ⟨lw_p16, List.forall_mem_cons.mpr ⟨lw_p17, List.forall_mem_cons.mpr ⟨lw_p18, List.forall_mem_cons.mpr ⟨lw_p19, List.forall_mem_cons.mpr ⟨lw_p20, List.forall_mem_cons.mpr ⟨lw_p21, List.forall_mem_cons.mpr ⟨lw_p22, List.forall_mem_cons.mpr ⟨lw_p23, List.forall_mem_cons.mpr ⟨lw_p24, List.forall_mem_cons.mpr ⟨lw_p25, List.forall_mem_cons.mpr ⟨lw_p26, List.forall_mem_cons.mpr ⟨lw_p27, List.forall_mem_cons.mpr ⟨lw_p28, List.forall_mem_cons.mpr ⟨lw_p29, List.forall_mem_cons.mpr ⟨lw_p30, List.forall_mem_cons.mpr ⟨lw_p31, fun _ h => absurd h List.not_mem_nil⟩⟩⟩⟩⟩⟩⟩⟩⟩⟩⟩⟩⟩⟩⟩⟩
theorem lw_p32 : lw_okq (⟨"WireOfLand$Shifts", "leastOfThree", "()I"⟩, 6) := ⟨⟨by decide +kernel, by decide +kernel⟩, List.mem_of_getElem? (i := 302) (by decide +kernel), List.mem_of_getElem? (i := 1068) (by decide +kernel), List.mem_of_getElem? (i := 1069) (by decide +kernel)⟩
theorem lw_p33 : lw_okq (⟨"WireOfLand$Shifts", "planWith", "(III)V"⟩, 6) := ⟨⟨by decide +kernel, by decide +kernel⟩, List.mem_of_getElem? (i := 302) (by decide +kernel), List.mem_of_getElem? (i := 1072) (by decide +kernel), List.mem_of_getElem? (i := 1073) (by decide +kernel)⟩
theorem lw_p34 : lw_okq (⟨"WireOfLand$Boys", "goOn", "(IIII)V"⟩, 9) := ⟨⟨by decide +kernel, by decide +kernel⟩, List.mem_of_getElem? (i := 331) (by decide +kernel), List.mem_of_getElem? (i := 1102) (by decide +kernel), List.mem_of_getElem? (i := 1103) (by decide +kernel)⟩
theorem lw_p35 : lw_okq (⟨"WireOfLandModel", "joins", "(II)I"⟩, 56) := ⟨⟨by decide +kernel, by decide +kernel⟩, List.mem_of_getElem? (i := 1119) (by decide +kernel), List.mem_of_getElem? (i := 1308) (by decide +kernel), List.mem_of_getElem? (i := 1309) (by decide +kernel)⟩
theorem lw_p36 : lw_okq (⟨"WireOfLandModel", "isWire", "(I)Z"⟩, 56) := ⟨⟨by decide +kernel, by decide +kernel⟩, List.mem_of_getElem? (i := 1119) (by decide +kernel), List.mem_of_getElem? (i := 1316) (by decide +kernel), List.mem_of_getElem? (i := 1317) (by decide +kernel)⟩
theorem lw_p37 : lw_okq (⟨"WireOfLandModel", "isOpen", "(II)Z"⟩, 56) := ⟨⟨by decide +kernel, by decide +kernel⟩, List.mem_of_getElem? (i := 1119) (by decide +kernel), List.mem_of_getElem? (i := 1328) (by decide +kernel), List.mem_of_getElem? (i := 1329) (by decide +kernel)⟩
theorem lw_p38 : lw_okq (⟨"WireOfLandModel", "ordersOf", "(II)I"⟩, 56) := ⟨⟨by decide +kernel, by decide +kernel⟩, List.mem_of_getElem? (i := 1119) (by decide +kernel), List.mem_of_getElem? (i := 1332) (by decide +kernel), List.mem_of_getElem? (i := 1333) (by decide +kernel)⟩
theorem lw_p39 : lw_okq (⟨"WireOfLandModel", "lastOf", "(IIII)I"⟩, 56) := ⟨⟨by decide +kernel, by decide +kernel⟩, List.mem_of_getElem? (i := 1119) (by decide +kernel), List.mem_of_getElem? (i := 1336) (by decide +kernel), List.mem_of_getElem? (i := 1337) (by decide +kernel)⟩
theorem lw_p40 : lw_okq (⟨"WireOfLandModel", "goMinute", "(I)V"⟩, 56) := ⟨⟨by decide +kernel, by decide +kernel⟩, List.mem_of_getElem? (i := 1119) (by decide +kernel), List.mem_of_getElem? (i := 1344) (by decide +kernel), List.mem_of_getElem? (i := 1345) (by decide +kernel)⟩
theorem lw_p41 : lw_okq (⟨"WireOfLandModel", "isUp", "(II)Z"⟩, 56) := ⟨⟨by decide +kernel, by decide +kernel⟩, List.mem_of_getElem? (i := 1119) (by decide +kernel), List.mem_of_getElem? (i := 1348) (by decide +kernel), List.mem_of_getElem? (i := 1349) (by decide +kernel)⟩
theorem lw_p42 : lw_okq (⟨"WireOfLandModel", "otherEnd", "(II)I"⟩, 56) := ⟨⟨by decide +kernel, by decide +kernel⟩, List.mem_of_getElem? (i := 1119) (by decide +kernel), List.mem_of_getElem? (i := 1352) (by decide +kernel), List.mem_of_getElem? (i := 1353) (by decide +kernel)⟩
theorem lw_p43 : lw_okq (⟨"WireOfLandModel", "sendFrom", "(III)V"⟩, 56) := ⟨⟨by decide +kernel, by decide +kernel⟩, List.mem_of_getElem? (i := 1119) (by decide +kernel), List.mem_of_getElem? (i := 1356) (by decide +kernel), List.mem_of_getElem? (i := 1357) (by decide +kernel)⟩
theorem lw_p44 : lw_okq (⟨"WireOfLandModel", "isBusy", "(II)Z"⟩, 56) := ⟨⟨by decide +kernel, by decide +kernel⟩, List.mem_of_getElem? (i := 1119) (by decide +kernel), List.mem_of_getElem? (i := 1360) (by decide +kernel), List.mem_of_getElem? (i := 1361) (by decide +kernel)⟩
theorem lw_p45 : lw_okq (⟨"WireOfLandModel", "firstOf", "(III)I"⟩, 56) := ⟨⟨by decide +kernel, by decide +kernel⟩, List.mem_of_getElem? (i := 1119) (by decide +kernel), List.mem_of_getElem? (i := 1364) (by decide +kernel), List.mem_of_getElem? (i := 1365) (by decide +kernel)⟩
theorem lw_p46 : lw_okq (⟨"WireOfLandModel", "nextFor", "(II)I"⟩, 56) := ⟨⟨by decide +kernel, by decide +kernel⟩, List.mem_of_getElem? (i := 1119) (by decide +kernel), List.mem_of_getElem? (i := 1368) (by decide +kernel), List.mem_of_getElem? (i := 1369) (by decide +kernel)⟩
theorem lw_p47 : lw_okq (⟨"WireOfLandModel", "wordsOf", "(III)I"⟩, 56) := ⟨⟨by decide +kernel, by decide +kernel⟩, List.mem_of_getElem? (i := 1119) (by decide +kernel), List.mem_of_getElem? (i := 1372) (by decide +kernel), List.mem_of_getElem? (i := 1373) (by decide +kernel)⟩
def lw_privs_3 : List (MethodName × Nat) := [(⟨"WireOfLand$Shifts", "leastOfThree", "()I"⟩, 6), (⟨"WireOfLand$Shifts", "planWith", "(III)V"⟩, 6), (⟨"WireOfLand$Boys", "goOn", "(IIII)V"⟩, 9), (⟨"WireOfLandModel", "joins", "(II)I"⟩, 56), (⟨"WireOfLandModel", "isWire", "(I)Z"⟩, 56), (⟨"WireOfLandModel", "isOpen", "(II)Z"⟩, 56), (⟨"WireOfLandModel", "ordersOf", "(II)I"⟩, 56), (⟨"WireOfLandModel", "lastOf", "(IIII)I"⟩, 56), (⟨"WireOfLandModel", "goMinute", "(I)V"⟩, 56), (⟨"WireOfLandModel", "isUp", "(II)Z"⟩, 56), (⟨"WireOfLandModel", "otherEnd", "(II)I"⟩, 56), (⟨"WireOfLandModel", "sendFrom", "(III)V"⟩, 56), (⟨"WireOfLandModel", "isBusy", "(II)Z"⟩, 56), (⟨"WireOfLandModel", "firstOf", "(III)I"⟩, 56), (⟨"WireOfLandModel", "nextFor", "(II)I"⟩, 56), (⟨"WireOfLandModel", "wordsOf", "(III)I"⟩, 56)]
theorem lw_r3 : ∀ q ∈ lw_privs_3, lw_okq q := List.forall_mem_cons.mpr ⟨lw_p32, List.forall_mem_cons.mpr ⟨lw_p33, List.forall_mem_cons.mpr ⟨lw_p34, List.forall_mem_cons.mpr ⟨lw_p35, List.forall_mem_cons.mpr ⟨lw_p36, List.forall_mem_cons.mpr ⟨lw_p37, List.forall_mem_cons.mpr ⟨lw_p38, List.forall_mem_cons.mpr ⟨lw_p39, List.forall_mem_cons.mpr ⟨lw_p40, List.forall_mem_cons.mpr ⟨lw_p41, List.forall_mem_cons.mpr ⟨lw_p42, List.forall_mem_cons.mpr ⟨lw_p43, List.forall_mem_cons.mpr ⟨lw_p44, List.forall_mem_cons.mpr ⟨lw_p45, List.forall_mem_cons.mpr ⟨lw_p46, List.forall_mem_cons.mpr ⟨lw_p47, fun _ h => absurd h List.not_mem_nil⟩⟩⟩⟩⟩⟩⟩⟩⟩⟩⟩⟩⟩⟩⟩⟩
theorem lw_p48 : lw_okq (⟨"WireOfLandModel", "isTwice", "(II)Z"⟩, 56) := ⟨⟨by decide +kernel, by decide +kernel⟩, List.mem_of_getElem? (i := 1119) (by decide +kernel), List.mem_of_getElem? (i := 1376) (by decide +kernel), List.mem_of_getElem? (i := 1377) (by decide +kernel)⟩
theorem lw_p49 : lw_okq (⟨"WireOfLandModel", "nextOf", "(IIII)I"⟩, 56) := ⟨⟨by decide +kernel, by decide +kernel⟩, List.mem_of_getElem? (i := 1119) (by decide +kernel), List.mem_of_getElem? (i := 1380) (by decide +kernel), List.mem_of_getElem? (i := 1381) (by decide +kernel)⟩
theorem lw_p50 : lw_okq (⟨"WireOfLandModel", "takes", "(II)I"⟩, 56) := ⟨⟨by decide +kernel, by decide +kernel⟩, List.mem_of_getElem? (i := 1119) (by decide +kernel), List.mem_of_getElem? (i := 1385) (by decide +kernel), List.mem_of_getElem? (i := 1386) (by decide +kernel)⟩
theorem lw_p51 : lw_okq (⟨"WireOfLandModel", "isAt", "(II)Z"⟩, 56) := ⟨⟨by decide +kernel, by decide +kernel⟩, List.mem_of_getElem? (i := 1119) (by decide +kernel), List.mem_of_getElem? (i := 1389) (by decide +kernel), List.mem_of_getElem? (i := 1390) (by decide +kernel)⟩
theorem lw_p52 : lw_okq (⟨"WireOfLandModel", "isNight", "(II)Z"⟩, 56) := ⟨⟨by decide +kernel, by decide +kernel⟩, List.mem_of_getElem? (i := 1119) (by decide +kernel), List.mem_of_getElem? (i := 1393) (by decide +kernel), List.mem_of_getElem? (i := 1394) (by decide +kernel)⟩
theorem lw_p53 : lw_okq (⟨"WireOfLandModel", "isNightHour", "(II)Z"⟩, 56) := ⟨⟨by decide +kernel, by decide +kernel⟩, List.mem_of_getElem? (i := 1119) (by decide +kernel), List.mem_of_getElem? (i := 1397) (by decide +kernel), List.mem_of_getElem? (i := 1398) (by decide +kernel)⟩
theorem lw_p54 : lw_okq (⟨"WireOfLandModel", "rankOf", "(II)I"⟩, 56) := ⟨⟨by decide +kernel, by decide +kernel⟩, List.mem_of_getElem? (i := 1119) (by decide +kernel), List.mem_of_getElem? (i := 1401) (by decide +kernel), List.mem_of_getElem? (i := 1402) (by decide +kernel)⟩
theorem lw_p55 : lw_okq (⟨"WireOfLandModel", "isMessage", "(I)Z"⟩, 56) := ⟨⟨by decide +kernel, by decide +kernel⟩, List.mem_of_getElem? (i := 1119) (by decide +kernel), List.mem_of_getElem? (i := 1409) (by decide +kernel), List.mem_of_getElem? (i := 1410) (by decide +kernel)⟩
theorem lw_p56 : lw_okq (⟨"WireOfLandModel", "setsOut", "(IIIIII)I"⟩, 56) := ⟨⟨by decide +kernel, by decide +kernel⟩, List.mem_of_getElem? (i := 1119) (by decide +kernel), List.mem_of_getElem? (i := 1425) (by decide +kernel), List.mem_of_getElem? (i := 1426) (by decide +kernel)⟩
theorem lw_p57 : lw_okq (⟨"WireOfLandModel", "given", "()I"⟩, 56) := ⟨⟨by decide +kernel, by decide +kernel⟩, List.mem_of_getElem? (i := 1119) (by decide +kernel), List.mem_of_getElem? (i := 1433) (by decide +kernel), List.mem_of_getElem? (i := 1434) (by decide +kernel)⟩
theorem lw_p58 : lw_okq (⟨"WireOfLandModel", "isRead", "()Z"⟩, 56) := ⟨⟨by decide +kernel, by decide +kernel⟩, List.mem_of_getElem? (i := 1119) (by decide +kernel), List.mem_of_getElem? (i := 1450) (by decide +kernel), List.mem_of_getElem? (i := 1451) (by decide +kernel)⟩
theorem lw_p59 : lw_okq (⟨"WireOfLandModel", "isLine", "(I)Z"⟩, 56) := ⟨⟨by decide +kernel, by decide +kernel⟩, List.mem_of_getElem? (i := 1119) (by decide +kernel), List.mem_of_getElem? (i := 1454) (by decide +kernel), List.mem_of_getElem? (i := 1455) (by decide +kernel)⟩
theorem lw_p60 : lw_okq (⟨"WireOfLandModel", "nextToken", "()V"⟩, 56) := ⟨⟨by decide +kernel, by decide +kernel⟩, List.mem_of_getElem? (i := 1119) (by decide +kernel), List.mem_of_getElem? (i := 1458) (by decide +kernel), List.mem_of_getElem? (i := 1459) (by decide +kernel)⟩
theorem lw_p61 : lw_okq (⟨"WireOfLandModel", "isKind", "(I)Z"⟩, 56) := ⟨⟨by decide +kernel, by decide +kernel⟩, List.mem_of_getElem? (i := 1119) (by decide +kernel), List.mem_of_getElem? (i := 1474) (by decide +kernel), List.mem_of_getElem? (i := 1475) (by decide +kernel)⟩
theorem lw_p62 : lw_okq (⟨"WireOfLandModel", "fails", "()Z"⟩, 56) := ⟨⟨by decide +kernel, by decide +kernel⟩, List.mem_of_getElem? (i := 1119) (by decide +kernel), List.mem_of_getElem? (i := 1483) (by decide +kernel), List.mem_of_getElem? (i := 1484) (by decide +kernel)⟩
theorem lw_p63 : lw_okq (⟨"WireOfLandModel", "isNumber", "(II)Z"⟩, 56) := ⟨⟨by decide +kernel, by decide +kernel⟩, List.mem_of_getElem? (i := 1119) (by decide +kernel), List.mem_of_getElem? (i := 1487) (by decide +kernel), List.mem_of_getElem? (i := 1488) (by decide +kernel)⟩
def lw_privs_4 : List (MethodName × Nat) := [(⟨"WireOfLandModel", "isTwice", "(II)Z"⟩, 56), (⟨"WireOfLandModel", "nextOf", "(IIII)I"⟩, 56), (⟨"WireOfLandModel", "takes", "(II)I"⟩, 56), (⟨"WireOfLandModel", "isAt", "(II)Z"⟩, 56), (⟨"WireOfLandModel", "isNight", "(II)Z"⟩, 56), (⟨"WireOfLandModel", "isNightHour", "(II)Z"⟩, 56), (⟨"WireOfLandModel", "rankOf", "(II)I"⟩, 56), (⟨"WireOfLandModel", "isMessage", "(I)Z"⟩, 56), (⟨"WireOfLandModel", "setsOut", "(IIIIII)I"⟩, 56), (⟨"WireOfLandModel", "given", "()I"⟩, 56), (⟨"WireOfLandModel", "isRead", "()Z"⟩, 56), (⟨"WireOfLandModel", "isLine", "(I)Z"⟩, 56), (⟨"WireOfLandModel", "nextToken", "()V"⟩, 56), (⟨"WireOfLandModel", "isKind", "(I)Z"⟩, 56), (⟨"WireOfLandModel", "fails", "()Z"⟩, 56), (⟨"WireOfLandModel", "isNumber", "(II)Z"⟩, 56)]
theorem lw_r4 : ∀ q ∈ lw_privs_4, lw_okq q := List.forall_mem_cons.mpr ⟨lw_p48, List.forall_mem_cons.mpr ⟨lw_p49, List.forall_mem_cons.mpr ⟨lw_p50, List.forall_mem_cons.mpr ⟨lw_p51, List.forall_mem_cons.mpr ⟨lw_p52, List.forall_mem_cons.mpr ⟨lw_p53, List.forall_mem_cons.mpr ⟨lw_p54, List.forall_mem_cons.mpr ⟨lw_p55, List.forall_mem_cons.mpr ⟨lw_p56, List.forall_mem_cons.mpr ⟨lw_p57, List.forall_mem_cons.mpr ⟨lw_p58, List.forall_mem_cons.mpr ⟨lw_p59, List.forall_mem_cons.mpr ⟨lw_p60, List.forall_mem_cons.mpr ⟨lw_p61, List.forall_mem_cons.mpr ⟨lw_p62, List.forall_mem_cons.mpr ⟨lw_p63, fun _ h => absurd h List.not_mem_nil⟩⟩⟩⟩⟩⟩⟩⟩⟩⟩⟩⟩⟩⟩⟩⟩
theorem lw_p64 : lw_okq (⟨"WireOfLandModel", "isWord", "(J)Z"⟩, 56) := ⟨⟨by decide +kernel, by decide +kernel⟩, List.mem_of_getElem? (i := 1119) (by decide +kernel), List.mem_of_getElem? (i := 1492) (by decide +kernel), List.mem_of_getElem? (i := 1493) (by decide +kernel)⟩
theorem lw_p65 : lw_okq (⟨"WireOfLandModel", "findSteps", "()V"⟩, 56) := ⟨⟨by decide +kernel, by decide +kernel⟩, List.mem_of_getElem? (i := 1119) (by decide +kernel), List.mem_of_getElem? (i := 1500) (by decide +kernel), List.mem_of_getElem? (i := 1501) (by decide +kernel)⟩
theorem lw_p66 : lw_okq (⟨"WireOfLandModel", "isSpelled", "(JI)Z"⟩, 56) := ⟨⟨by decide +kernel, by decide +kernel⟩, List.mem_of_getElem? (i := 1119) (by decide +kernel), List.mem_of_getElem? (i := 1528) (by decide +kernel), List.mem_of_getElem? (i := 1529) (by decide +kernel)⟩
theorem lw_p67 : lw_okq (⟨"WireOfLandModel", "farFrom", "(II)I"⟩, 56) := ⟨⟨by decide +kernel, by decide +kernel⟩, List.mem_of_getElem? (i := 1119) (by decide +kernel), List.mem_of_getElem? (i := 1536) (by decide +kernel), List.mem_of_getElem? (i := 1537) (by decide +kernel)⟩
theorem lw_p68 : lw_okq (⟨"WireOfLandModel", "addSigns", "([III)I"⟩, 56) := ⟨⟨by decide +kernel, by decide +kernel⟩, List.mem_of_getElem? (i := 1119) (by decide +kernel), List.mem_of_getElem? (i := 1540) (by decide +kernel), List.mem_of_getElem? (i := 1541) (by decide +kernel)⟩
theorem lw_p69 : lw_okq (⟨"WireOfLandModel", "isRow", "(I)Z"⟩, 56) := ⟨⟨by decide +kernel, by decide +kernel⟩, List.mem_of_getElem? (i := 1119) (by decide +kernel), List.mem_of_getElem? (i := 1556) (by decide +kernel), List.mem_of_getElem? (i := 1557) (by decide +kernel)⟩
theorem lw_p70 : lw_okq (⟨"WireOfLandModel", "firstWrong", "(I)I"⟩, 56) := ⟨⟨by decide +kernel, by decide +kernel⟩, List.mem_of_getElem? (i := 1119) (by decide +kernel), List.mem_of_getElem? (i := 1568) (by decide +kernel), List.mem_of_getElem? (i := 1569) (by decide +kernel)⟩
theorem lw_p71 : lw_okq (⟨"WireOfLandModel", "doesQuarrel", "(I)Z"⟩, 56) := ⟨⟨by decide +kernel, by decide +kernel⟩, List.mem_of_getElem? (i := 1119) (by decide +kernel), List.mem_of_getElem? (i := 1572) (by decide +kernel), List.mem_of_getElem? (i := 1573) (by decide +kernel)⟩
theorem lw_p72 : lw_okq (⟨"WireOfLandModel", "lastRight", "(II)I"⟩, 56) := ⟨⟨by decide +kernel, by decide +kernel⟩, List.mem_of_getElem? (i := 1119) (by decide +kernel), List.mem_of_getElem? (i := 1576) (by decide +kernel), List.mem_of_getElem? (i := 1577) (by decide +kernel)⟩
theorem lw_p73 : lw_okq (⟨"WireOfLandModel", "areBlamed", "(I)Z"⟩, 56) := ⟨⟨by decide +kernel, by decide +kernel⟩, List.mem_of_getElem? (i := 1119) (by decide +kernel), List.mem_of_getElem? (i := 1587) (by decide +kernel), List.mem_of_getElem? (i := 1588) (by decide +kernel)⟩
theorem lw_p74 : lw_okq (⟨"WireOfLandModel", "mostWaits", "(III)I"⟩, 56) := ⟨⟨by decide +kernel, by decide +kernel⟩, List.mem_of_getElem? (i := 1119) (by decide +kernel), List.mem_of_getElem? (i := 1603) (by decide +kernel), List.mem_of_getElem? (i := 1604) (by decide +kernel)⟩
theorem lw_p75 : lw_okq (⟨"WireOfLandModel", "findRound", "()V"⟩, 56) := ⟨⟨by decide +kernel, by decide +kernel⟩, List.mem_of_getElem? (i := 1119) (by decide +kernel), List.mem_of_getElem? (i := 1623) (by decide +kernel), List.mem_of_getElem? (i := 1624) (by decide +kernel)⟩
theorem lw_p76 : lw_okq (⟨"WireOfLandModel", "lookAtRound", "()V"⟩, 56) := ⟨⟨by decide +kernel, by decide +kernel⟩, List.mem_of_getElem? (i := 1119) (by decide +kernel), List.mem_of_getElem? (i := 1627) (by decide +kernel), List.mem_of_getElem? (i := 1628) (by decide +kernel)⟩
def lw_privs_5 : List (MethodName × Nat) := [(⟨"WireOfLandModel", "isWord", "(J)Z"⟩, 56), (⟨"WireOfLandModel", "findSteps", "()V"⟩, 56), (⟨"WireOfLandModel", "isSpelled", "(JI)Z"⟩, 56), (⟨"WireOfLandModel", "farFrom", "(II)I"⟩, 56), (⟨"WireOfLandModel", "addSigns", "([III)I"⟩, 56), (⟨"WireOfLandModel", "isRow", "(I)Z"⟩, 56), (⟨"WireOfLandModel", "firstWrong", "(I)I"⟩, 56), (⟨"WireOfLandModel", "doesQuarrel", "(I)Z"⟩, 56), (⟨"WireOfLandModel", "lastRight", "(II)I"⟩, 56), (⟨"WireOfLandModel", "areBlamed", "(I)Z"⟩, 56), (⟨"WireOfLandModel", "mostWaits", "(III)I"⟩, 56), (⟨"WireOfLandModel", "findRound", "()V"⟩, 56), (⟨"WireOfLandModel", "lookAtRound", "()V"⟩, 56)]
theorem lw_r5 : ∀ q ∈ lw_privs_5, lw_okq q := List.forall_mem_cons.mpr ⟨lw_p64, List.forall_mem_cons.mpr ⟨lw_p65, List.forall_mem_cons.mpr ⟨lw_p66, List.forall_mem_cons.mpr ⟨lw_p67, List.forall_mem_cons.mpr ⟨lw_p68, List.forall_mem_cons.mpr ⟨lw_p69, List.forall_mem_cons.mpr ⟨lw_p70, List.forall_mem_cons.mpr ⟨lw_p71, List.forall_mem_cons.mpr ⟨lw_p72, List.forall_mem_cons.mpr ⟨lw_p73, List.forall_mem_cons.mpr ⟨lw_p74, List.forall_mem_cons.mpr ⟨lw_p75, List.forall_mem_cons.mpr ⟨lw_p76, fun _ h => absurd h List.not_mem_nil⟩⟩⟩⟩⟩⟩⟩⟩⟩⟩⟩⟩⟩
def lw_privs : List (MethodName × Nat) := lw_privs_1 ++ (lw_privs_2 ++ (lw_privs_3 ++ (lw_privs_4 ++ (lw_privs_5))))
def lw_tbl : List Cond := k2_sels lw_privs ++ tables_1
theorem lw_privs_ok : ∀ q ∈ lw_privs, lw_okq q := by
  show ∀ q ∈ lw_privs_1 ++ (lw_privs_2 ++ (lw_privs_3 ++ (lw_privs_4 ++ (lw_privs_5)))), lw_okq q
  exact List.forall_mem_append.mpr ⟨lw_r1, List.forall_mem_append.mpr ⟨lw_r2, List.forall_mem_append.mpr ⟨lw_r3, List.forall_mem_append.mpr ⟨lw_r4, lw_r5⟩⟩⟩⟩
def RX0 : String := "WireOfLand$Book"
def TX0 : u_T := fun k => match k with
  | 0 => ("WireOfLand$Book", "words", "[J", true)
  | 1 => ("WireOfLand$Book", "sizes", "[I", true)
  | 2 => ("WireOfLand$Book", "asked", "[B", true)
  | 3 => ("WireOfLand$Book", "own", "[B", true)
  | 4 => ("WireOfLand$Book", "changes", "[I", true)
  | 5 => ("WireOfLand$Book", "distances", "[I", true)
  | _ => ("WireOfLand$Book", "askedLength", "I", false)
def tyX0 : Nat → FieldType := fun k => match k with
  | 0 => .array .long
  | 1 => .array .int
  | 2 => .array .byte
  | 3 => .array .byte
  | 4 => .array .int
  | 5 => .array .int
  | _ => .int
theorem nmX0 : ∀ a, a < 7 → ∀ b, b < 7 → a ≠ b → (TX0 a).2.1 ≠ (TX0 b).2.1 := by decide +kernel
theorem tyX0_ok : ∀ k, k < 7 → parseFieldDescriptor (TX0 k).2.2.1 = some (tyX0 k) := by decide +kernel
abbrev cX0_init : ByteArray := prog_2_method_1_code
def yX0_init : MethodName := ⟨RX0, "<init>", "()V"⟩
abbrev cX0_size : ByteArray := prog_2_method_2_code
def yX0_size : MethodName := ⟨RX0, "size", "()I"⟩
abbrev cX0_ask : ByteArray := prog_2_method_3_code
def yX0_ask : MethodName := ⟨RX0, "ask", "(JI)V"⟩
abbrev cX0_spell : ByteArray := prog_2_method_4_code
def yX0_spell : MethodName := ⟨RX0, "spell", "(JI[B)I"⟩
abbrev cX0_distance : ByteArray := prog_2_method_5_code
def yX0_distance : MethodName := ⟨RX0, "distance", "(I)I"⟩
abbrev cX0_byLikelihood : ByteArray := prog_2_method_6_code
def yX0_byLikelihood : MethodName := ⟨RX0, "byLikelihood", "(I)I"⟩
abbrev cX0_likelierThan : ByteArray := prog_2_method_7_code
def yX0_likelierThan : MethodName := ⟨RX0, "likelierThan", "(I)I"⟩
def RX1 : String := "WireOfLand$Boys"
def TX1 : u_T := fun k => match k with
  | 0 => ("WireOfLand$Boys", "xs", "[I", true)
  | 1 => ("WireOfLand$Boys", "ys", "[I", true)
  | 2 => ("WireOfLand$Boys", "dues", "[I", true)
  | 3 => ("WireOfLand$Boys", "tried", "[I", true)
  | 4 => ("WireOfLand$Boys", "best", "[I", true)
  | 5 => ("WireOfLand$Boys", "count", "I", false)
  | 6 => ("WireOfLand$Boys", "isPlanned", "Z", false)
  | 7 => ("WireOfLand$Boys", "leastLate", "I", false)
  | _ => ("WireOfLand$Boys", "leastEnd", "I", false)
def tyX1 : Nat → FieldType := fun k => match k with
  | 0 => .array .int
  | 1 => .array .int
  | 2 => .array .int
  | 3 => .array .int
  | 4 => .array .int
  | 5 => .int
  | 6 => .boolean
  | 7 => .int
  | _ => .int
theorem nmX1 : ∀ a, a < 9 → ∀ b, b < 9 → a ≠ b → (TX1 a).2.1 ≠ (TX1 b).2.1 := by decide +kernel
theorem tyX1_ok : ∀ k, k < 9 → parseFieldDescriptor (TX1 k).2.2.1 = some (tyX1 k) := by decide +kernel
abbrev cX1_init : ByteArray := prog_3_method_1_code
def yX1_init : MethodName := ⟨RX1, "<init>", "()V"⟩
abbrev cX1_put : ByteArray := prog_3_method_2_code
def yX1_put : MethodName := ⟨RX1, "put", "(III)I"⟩
abbrev cX1_plan : ByteArray := prog_3_method_3_code
def yX1_plan : MethodName := ⟨RX1, "plan", "()V"⟩
abbrev cX1_goOn : ByteArray := prog_3_method_4_code
def yX1_goOn : MethodName := ⟨RX1, "goOn", "(IIII)V"⟩
def RX2 : String := "WireOfLand$Law"
def TX2 : u_T := fun k => match k with
  | 0 => ("WireOfLand$Law", "none", "LWireOfLand$Orders;", true)
  | 1 => ("WireOfLand$Law", "forced", "[LWireOfLand$Orders;", true)
  | 2 => ("WireOfLand$Law", "draft", "LWireOfLand$Orders;", false)
  | 3 => ("WireOfLand$Law", "count", "I", false)
  | _ => ("WireOfLand$Law", "lag", "I", false)
def tyX2 : Nat → FieldType := fun k => match k with
  | 0 => .object "WireOfLand$Orders"
  | 1 => .array (.object "WireOfLand$Orders")
  | 2 => .object "WireOfLand$Orders"
  | 3 => .int
  | _ => .int
theorem nmX2 : ∀ a, a < 5 → ∀ b, b < 5 → a ≠ b → (TX2 a).2.1 ≠ (TX2 b).2.1 := by decide +kernel
theorem tyX2_ok : ∀ k, k < 5 → parseFieldDescriptor (TX2 k).2.2.1 = some (tyX2 k) := by decide +kernel
abbrev cX2_init : ByteArray := prog_4_method_1_code
def yX2_init : MethodName := ⟨RX2, "<init>", "()V"⟩
abbrev cX2_numbered : ByteArray := prog_4_method_2_code
def yX2_numbered : MethodName := ⟨RX2, "numbered", "(I)LWireOfLand$Orders;"⟩
abbrev cX2_numberGoneBy : ByteArray := prog_4_method_3_code
def yX2_numberGoneBy : MethodName := ⟨RX2, "numberGoneBy", "(II)I"⟩
abbrev cX2_goneBy : ByteArray := prog_4_method_4_code
def yX2_goneBy : MethodName := ⟨RX2, "goneBy", "(II)LWireOfLand$Orders;"⟩
abbrev cX2_enact : ByteArray := prog_4_method_5_code
def yX2_enact : MethodName := ⟨RX2, "enact", "(LWireOfLand$Net;I)I"⟩
def RX3 : String := "WireOfLand$Message"
def TX3 : u_T := fun k => match k with
  | 0 => ("WireOfLand$Message", "to", "I", false)
  | 1 => ("WireOfLand$Message", "words", "I", false)
  | 2 => ("WireOfLand$Message", "kind", "I", false)
  | 3 => ("WireOfLand$Message", "price", "I", false)
  | 4 => ("WireOfLand$Message", "handedIn", "I", false)
  | 5 => ("WireOfLand$Message", "place", "I", false)
  | 6 => ("WireOfLand$Message", "office", "I", false)
  | 7 => ("WireOfLand$Message", "wire", "I", false)
  | 8 => ("WireOfLand$Message", "arrives", "I", false)
  | 9 => ("WireOfLand$Message", "givenIn", "I", false)
  | 10 => ("WireOfLand$Message", "broken", "I", false)
  | 11 => ("WireOfLand$Message", "next", "I", false)
  | 12 => ("WireOfLand$Message", "nextUp", "I", false)
  | 13 => ("WireOfLand$Message", "nextOffice", "I", false)
  | _ => ("WireOfLand$Message", "nextWords", "I", false)
def tyX3 : Nat → FieldType := fun k => match k with
  | 0 => .int
  | 1 => .int
  | 2 => .int
  | 3 => .int
  | 4 => .int
  | 5 => .int
  | 6 => .int
  | 7 => .int
  | 8 => .int
  | 9 => .int
  | 10 => .int
  | 11 => .int
  | 12 => .int
  | 13 => .int
  | _ => .int
theorem nmX3 : ∀ a, a < 15 → ∀ b, b < 15 → a ≠ b → (TX3 a).2.1 ≠ (TX3 b).2.1 := by decide +kernel
theorem tyX3_ok : ∀ k, k < 15 → parseFieldDescriptor (TX3 k).2.2.1 = some (tyX3 k) := by decide +kernel
abbrev cX3_init : ByteArray := prog_5_method_1_code
def yX3_init : MethodName := ⟨RX3, "<init>", "()V"⟩
abbrev cX3_waitsOnTheWay : ByteArray := prog_5_method_2_code
def yX3_waitsOnTheWay : MethodName := ⟨RX3, "waitsOnTheWay", "()Z"⟩
abbrev cX3_setOut : ByteArray := prog_5_method_3_code
def yX3_setOut : MethodName := ⟨RX3, "setOut", "(II)V"⟩
abbrev cX3_waitIn : ByteArray := prog_5_method_4_code
def yX3_waitIn : MethodName := ⟨RX3, "waitIn", "(I)V"⟩
abbrev cX3_give : ByteArray := prog_5_method_5_code
def yX3_give : MethodName := ⟨RX3, "give", "(I)V"⟩
abbrev cX3_takeOver : ByteArray := prog_5_method_6_code
def yX3_takeOver : MethodName := ⟨RX3, "takeOver", "(LWireOfLand$Message;)V"⟩
def RX4 : String := "WireOfLand$Net"
def TX4 : u_T := fun k => match k with
  | 0 => ("WireOfLand$Net", "opens", "[I", true)
  | 1 => ("WireOfLand$Net", "closes", "[I", true)
  | 2 => ("WireOfLand$Net", "firstEnds", "[I", true)
  | 3 => ("WireOfLand$Net", "secondEnds", "[I", true)
  | 4 => ("WireOfLand$Net", "speeds", "[I", true)
  | 5 => ("WireOfLand$Net", "doubles", "[Z", true)
  | 6 => ("WireOfLand$Net", "storms", "LWireOfLand$Stops;", true)
  | 7 => ("WireOfLand$Net", "lets", "LWireOfLand$Stops;", true)
  | 8 => ("WireOfLand$Net", "reached", "[I", true)
  | _ => ("WireOfLand$Net", "wires", "I", false)
def tyX4 : Nat → FieldType := fun k => match k with
  | 0 => .array .int
  | 1 => .array .int
  | 2 => .array .int
  | 3 => .array .int
  | 4 => .array .int
  | 5 => .array .boolean
  | 6 => .object "WireOfLand$Stops"
  | 7 => .object "WireOfLand$Stops"
  | 8 => .array .int
  | _ => .int
theorem nmX4 : ∀ a, a < 10 → ∀ b, b < 10 → a ≠ b → (TX4 a).2.1 ≠ (TX4 b).2.1 := by decide +kernel
theorem tyX4_ok : ∀ k, k < 10 → parseFieldDescriptor (TX4 k).2.2.1 = some (tyX4 k) := by decide +kernel
abbrev cX4_init : ByteArray := prog_6_method_1_code
def yX4_init : MethodName := ⟨RX4, "<init>", "()V"⟩
abbrev cX4_join : ByteArray := prog_6_method_2_code
def yX4_join : MethodName := ⟨RX4, "join", "(IIIZ)I"⟩
abbrev cX4_joins : ByteArray := prog_6_method_3_code
def yX4_joins : MethodName := ⟨RX4, "joins", "(II)Z"⟩
abbrev cX4_otherEnd : ByteArray := prog_6_method_4_code
def yX4_otherEnd : MethodName := ⟨RX4, "otherEnd", "(II)I"⟩
abbrev cX4_isOpen : ByteArray := prog_6_method_5_code
def yX4_isOpen : MethodName := ⟨RX4, "isOpen", "(II)Z"⟩
abbrev cX4_areEndsOpen : ByteArray := prog_6_method_6_code
def yX4_areEndsOpen : MethodName := ⟨RX4, "areEndsOpen", "(II)Z"⟩
abbrev cX4_allWires : ByteArray := prog_6_method_7_code
def yX4_allWires : MethodName := ⟨RX4, "allWires", "()I"⟩
abbrev cX4_upIn : ByteArray := prog_6_method_8_code
def yX4_upIn : MethodName := ⟨RX4, "upIn", "(I)I"⟩
abbrev cX4_taken : ByteArray := prog_6_method_9_code
def yX4_taken : MethodName := ⟨RX4, "taken", "(II)I"⟩
abbrev cX4_measureTo : ByteArray := prog_6_method_10_code
def yX4_measureTo : MethodName := ⟨RX4, "measureTo", "(III)V"⟩
abbrev cX4_shorten : ByteArray := prog_6_method_11_code
def yX4_shorten : MethodName := ⟨RX4, "shorten", "(II)Z"⟩
abbrev cX4_wireTowards : ByteArray := prog_6_method_12_code
def yX4_wireTowards : MethodName := ⟨RX4, "wireTowards", "(IIII)I"⟩
abbrev cX4_aloneThere : ByteArray := prog_6_method_13_code
def yX4_aloneThere : MethodName := ⟨RX4, "aloneThere", "(IIIILWireOfLand$Orders;)I"⟩
abbrev cX4_soonestBut : ByteArray := prog_6_method_14_code
def yX4_soonestBut : MethodName := ⟨RX4, "soonestBut", "(I)I"⟩
abbrev cX4_goOnFrom : ByteArray := prog_6_method_15_code
def yX4_goOnFrom : MethodName := ⟨RX4, "goOnFrom", "(IIILWireOfLand$Orders;)V"⟩
abbrev cX4_startFrom : ByteArray := prog_6_method_16_code
def yX4_startFrom : MethodName := ⟨RX4, "startFrom", "(IIIILWireOfLand$Orders;)I"⟩
abbrev cX4_notAhead : ByteArray := prog_6_method_17_code
def yX4_notAhead : MethodName := ⟨RX4, "notAhead", "(IIILWireOfLand$Orders;)I"⟩
abbrev cX4_opening : ByteArray := prog_6_method_18_code
def yX4_opening : MethodName := ⟨RX4, "opening", "(II)I"⟩
def RX5 : String := "WireOfLand$Orders"
def TX5 : u_T := fun k => match k with
  | 0 => ("WireOfLand$Orders", "ranks", "[I", true)
  | 1 => ("WireOfLand$Orders", "pays", "[I", true)
  | 2 => ("WireOfLand$Orders", "knownFrom", "[I", true)
  | 3 => ("WireOfLand$Orders", "repeats", "I", false)
  | 4 => ("WireOfLand$Orders", "least", "I", false)
  | 5 => ("WireOfLand$Orders", "back", "I", false)
  | 6 => ("WireOfLand$Orders", "nightFrom", "I", false)
  | _ => ("WireOfLand$Orders", "nightTo", "I", false)
def tyX5 : Nat → FieldType := fun k => match k with
  | 0 => .array .int
  | 1 => .array .int
  | 2 => .array .int
  | 3 => .int
  | 4 => .int
  | 5 => .int
  | 6 => .int
  | _ => .int
theorem nmX5 : ∀ a, a < 8 → ∀ b, b < 8 → a ≠ b → (TX5 a).2.1 ≠ (TX5 b).2.1 := by decide +kernel
theorem tyX5_ok : ∀ k, k < 8 → parseFieldDescriptor (TX5 k).2.2.1 = some (tyX5 k) := by decide +kernel
abbrev cX5_init : ByteArray := prog_7_method_1_code
def yX5_init : MethodName := ⟨RX5, "<init>", "()V"⟩
abbrev cX5_forget : ByteArray := prog_7_method_2_code
def yX5_forget : MethodName := ⟨RX5, "forget", "()V"⟩
abbrev cX5_isKnown : ByteArray := prog_7_method_3_code
def yX5_isKnown : MethodName := ⟨RX5, "isKnown", "(II)Z"⟩
abbrev cX5_isNight : ByteArray := prog_7_method_4_code
def yX5_isNight : MethodName := ⟨RX5, "isNight", "(I)Z"⟩
abbrev cX5_isSentTwice : ByteArray := prog_7_method_5_code
def yX5_isSentTwice : MethodName := ⟨RX5, "isSentTwice", "(I)Z"⟩
abbrev cX5_wordsSent : ByteArray := prog_7_method_6_code
def yX5_wordsSent : MethodName := ⟨RX5, "wordsSent", "(II)I"⟩
abbrev cX5_price : ByteArray := prog_7_method_7_code
def yX5_price : MethodName := ⟨RX5, "price", "(II)I"⟩
def RX6 : String := "WireOfLand$Post"
def TX6 : u_T := fun k => match k with
  | 0 => ("WireOfLand$Post", "net", "LWireOfLand$Net;", true)
  | 1 => ("WireOfLand$Post", "law", "LWireOfLand$Law;", true)
  | 2 => ("WireOfLand$Post", "messages", "[LWireOfLand$Message;", true)
  | 3 => ("WireOfLand$Post", "kept", "[LWireOfLand$Message;", true)
  | 4 => ("WireOfLand$Post", "count", "I", false)
  | _ => ("WireOfLand$Post", "minute", "I", false)
def tyX6 : Nat → FieldType := fun k => match k with
  | 0 => .object "WireOfLand$Net"
  | 1 => .object "WireOfLand$Law"
  | 2 => .array (.object "WireOfLand$Message")
  | 3 => .array (.object "WireOfLand$Message")
  | 4 => .int
  | _ => .int
theorem nmX6 : ∀ a, a < 6 → ∀ b, b < 6 → a ≠ b → (TX6 a).2.1 ≠ (TX6 b).2.1 := by decide +kernel
theorem tyX6_ok : ∀ k, k < 6 → parseFieldDescriptor (TX6 k).2.2.1 = some (tyX6 k) := by decide +kernel
abbrev cX6_init : ByteArray := prog_8_method_1_code
def yX6_init : MethodName := ⟨RX6, "<init>", "(LWireOfLand$Net;LWireOfLand$Law;)V"⟩
abbrev cX6_handIn : ByteArray := prog_8_method_2_code
def yX6_handIn : MethodName := ⟨RX6, "handIn", "(IIII)I"⟩
abbrev cX6_pass : ByteArray := prog_8_method_3_code
def yX6_pass : MethodName := ⟨RX6, "pass", "(II)V"⟩
abbrev cX6_keep : ByteArray := prog_8_method_4_code
def yX6_keep : MethodName := ⟨RX6, "keep", "()V"⟩
abbrev cX6_restore : ByteArray := prog_8_method_5_code
def yX6_restore : MethodName := ⟨RX6, "restore", "(I)V"⟩
abbrev cX6_endWires : ByteArray := prog_8_method_6_code
def yX6_endWires : MethodName := ⟨RX6, "endWires", "(I)V"⟩
abbrev cX6_giveWaiting : ByteArray := prog_8_method_7_code
def yX6_giveWaiting : MethodName := ⟨RX6, "giveWaiting", "()V"⟩
abbrev cX6_findNexts : ByteArray := prog_8_method_8_code
def yX6_findNexts : MethodName := ⟨RX6, "findNexts", "(I)I"⟩
abbrev cX6_findNext : ByteArray := prog_8_method_9_code
def yX6_findNext : MethodName := ⟨RX6, "findNext", "(LWireOfLand$Message;I)V"⟩
abbrev cX6_nextNow : ByteArray := prog_8_method_10_code
def yX6_nextNow : MethodName := ⟨RX6, "nextNow", "(LWireOfLand$Message;)I"⟩
abbrev cX6_sendOn : ByteArray := prog_8_method_11_code
def yX6_sendOn : MethodName := ⟨RX6, "sendOn", "(I)V"⟩
abbrev cX6_sendFrom : ByteArray := prog_8_method_12_code
def yX6_sendFrom : MethodName := ⟨RX6, "sendFrom", "(II)V"⟩
abbrev cX6_isTaken : ByteArray := prog_8_method_13_code
def yX6_isTaken : MethodName := ⟨RX6, "isTaken", "(II)Z"⟩
abbrev cX6_chosen : ByteArray := prog_8_method_14_code
def yX6_chosen : MethodName := ⟨RX6, "chosen", "(II)I"⟩
abbrev cX6_goesAhead : ByteArray := prog_8_method_15_code
def yX6_goesAhead : MethodName := ⟨RX6, "goesAhead", "(LWireOfLand$Message;LWireOfLand$Message;LWireOfLand$Orders;)Z"⟩
abbrev cX6_inPlace : ByteArray := prog_8_method_16_code
def yX6_inPlace : MethodName := ⟨RX6, "inPlace", "(I)I"⟩
abbrev cX6_prices : ByteArray := prog_8_method_17_code
def yX6_prices : MethodName := ⟨RX6, "prices", "()I"⟩
def RX7 : String := "WireOfLand$Shifts"
def TX7 : u_T := fun k => match k with
  | 0 => ("WireOfLand$Shifts", "loads", "[I", true)
  | 1 => ("WireOfLand$Shifts", "crew", "[I", true)
  | 2 => ("WireOfLand$Shifts", "isPlanned", "Z", false)
  | 3 => ("WireOfLand$Shifts", "together", "I", false)
  | 4 => ("WireOfLand$Shifts", "rate", "I", false)
  | _ => ("WireOfLand$Shifts", "limit", "I", false)
def tyX7 : Nat → FieldType := fun k => match k with
  | 0 => .array .int
  | 1 => .array .int
  | 2 => .boolean
  | 3 => .int
  | 4 => .int
  | _ => .int
theorem nmX7 : ∀ a, a < 6 → ∀ b, b < 6 → a ≠ b → (TX7 a).2.1 ≠ (TX7 b).2.1 := by decide +kernel
theorem tyX7_ok : ∀ k, k < 6 → parseFieldDescriptor (TX7 k).2.2.1 = some (tyX7 k) := by decide +kernel
abbrev cX7_init : ByteArray := prog_9_method_1_code
def yX7_init : MethodName := ⟨RX7, "<init>", "()V"⟩
abbrev cX7_changeRate : ByteArray := prog_9_method_2_code
def yX7_changeRate : MethodName := ⟨RX7, "changeRate", "(I)I"⟩
abbrev cX7_changeLimit : ByteArray := prog_9_method_3_code
def yX7_changeLimit : MethodName := ⟨RX7, "changeLimit", "(I)I"⟩
abbrev cX7_mostWaiting : ByteArray := prog_9_method_4_code
def yX7_mostWaiting : MethodName := ⟨RX7, "mostWaiting", "(III)I"⟩
abbrev cX7_isEnough : ByteArray := prog_9_method_5_code
def yX7_isEnough : MethodName := ⟨RX7, "isEnough", "(III)Z"⟩
abbrev cX7_plan : ByteArray := prog_9_method_6_code
def yX7_plan : MethodName := ⟨RX7, "plan", "()V"⟩
abbrev cX7_planWith : ByteArray := prog_9_method_7_code
def yX7_planWith : MethodName := ⟨RX7, "planWith", "(III)V"⟩
abbrev cX7_leastOfTwo : ByteArray := prog_9_method_8_code
def yX7_leastOfTwo : MethodName := ⟨RX7, "leastOfTwo", "()I"⟩
abbrev cX7_leastOfThree : ByteArray := prog_9_method_9_code
def yX7_leastOfThree : MethodName := ⟨RX7, "leastOfThree", "()I"⟩
def RX8 : String := "WireOfLand$Stops"
def TX8 : u_T := fun k => match k with
  | 0 => ("WireOfLand$Stops", "wires", "[I", true)
  | 1 => ("WireOfLand$Stops", "froms", "[I", true)
  | 2 => ("WireOfLand$Stops", "tos", "[I", true)
  | _ => ("WireOfLand$Stops", "count", "I", false)
def tyX8 : Nat → FieldType := fun k => match k with
  | 0 => .array .int
  | 1 => .array .int
  | 2 => .array .int
  | _ => .int
theorem nmX8 : ∀ a, a < 4 → ∀ b, b < 4 → a ≠ b → (TX8 a).2.1 ≠ (TX8 b).2.1 := by decide +kernel
theorem tyX8_ok : ∀ k, k < 4 → parseFieldDescriptor (TX8 k).2.2.1 = some (tyX8 k) := by decide +kernel
abbrev cX8_init : ByteArray := prog_10_method_1_code
def yX8_init : MethodName := ⟨RX8, "<init>", "(I)V"⟩
abbrev cX8_put : ByteArray := prog_10_method_2_code
def yX8_put : MethodName := ⟨RX8, "put", "(III)I"⟩
abbrev cX8_stoppedIn : ByteArray := prog_10_method_3_code
def yX8_stoppedIn : MethodName := ⟨RX8, "stoppedIn", "(I)I"⟩
abbrev cX8_endOfThoseIn : ByteArray := prog_10_method_4_code
def yX8_endOfThoseIn : MethodName := ⟨RX8, "endOfThoseIn", "(III)I"⟩
def RX9 : String := "WireOfLand$Tapes"
def TX9 : u_T := fun k => match k with
  | 0 => ("WireOfLand$Tapes", "sizes", "[I", true)
  | 1 => ("WireOfLand$Tapes", "hands", "[[I", true)
  | 2 => ("WireOfLand$Tapes", "clerks", "[[I", true)
  | 3 => ("WireOfLand$Tapes", "suspects", "[I", true)
  | _ => ("WireOfLand$Tapes", "count", "I", false)
def tyX9 : Nat → FieldType := fun k => match k with
  | 0 => .array .int
  | 1 => .array (.array .int)
  | 2 => .array (.array .int)
  | 3 => .array .int
  | _ => .int
theorem nmX9 : ∀ a, a < 5 → ∀ b, b < 5 → a ≠ b → (TX9 a).2.1 ≠ (TX9 b).2.1 := by decide +kernel
theorem tyX9_ok : ∀ k, k < 5 → parseFieldDescriptor (TX9 k).2.2.1 = some (tyX9 k) := by decide +kernel
abbrev cX9_init : ByteArray := prog_11_method_1_code
def yX9_init : MethodName := ⟨RX9, "<init>", "()V"⟩
abbrev cX9_begin : ByteArray := prog_11_method_2_code
def yX9_begin : MethodName := ⟨RX9, "begin", "(I)I"⟩
abbrev cX9_firstWrong : ByteArray := prog_11_method_3_code
def yX9_firstWrong : MethodName := ⟨RX9, "firstWrong", "(I)I"⟩
abbrev cX9_lastRightAhead : ByteArray := prog_11_method_4_code
def yX9_lastRightAhead : MethodName := ⟨RX9, "lastRightAhead", "(II)I"⟩
abbrev cX9_quarrels : ByteArray := prog_11_method_5_code
def yX9_quarrels : MethodName := ⟨RX9, "quarrels", "(I)Z"⟩
abbrev cX9_suspectsOf : ByteArray := prog_11_method_6_code
def yX9_suspectsOf : MethodName := ⟨RX9, "suspectsOf", "(I)I"⟩
abbrev cX9_fewestBlamed : ByteArray := prog_11_method_7_code
def yX9_fewestBlamed : MethodName := ⟨RX9, "fewestBlamed", "()I"⟩
abbrev cX9_explainsAll : ByteArray := prog_11_method_8_code
def yX9_explainsAll : MethodName := ⟨RX9, "explainsAll", "(I)Z"⟩
def RX10 : String := "WireOfLand$Text"
def TX10 : u_T := fun k => match k with
  | 0 => ("WireOfLand$Text", "bytes", "[C", true)
  | 1 => ("WireOfLand$Text", "length", "I", false)
  | 2 => ("WireOfLand$Text", "start", "I", false)
  | 3 => ("WireOfLand$Text", "end", "I", false)
  | 4 => ("WireOfLand$Text", "kind", "I", false)
  | _ => ("WireOfLand$Text", "number", "I", false)
def tyX10 : Nat → FieldType := fun k => match k with
  | 0 => .array .char
  | 1 => .int
  | 2 => .int
  | 3 => .int
  | 4 => .int
  | _ => .int
theorem nmX10 : ∀ a, a < 6 → ∀ b, b < 6 → a ≠ b → (TX10 a).2.1 ≠ (TX10 b).2.1 := by decide +kernel
theorem tyX10_ok : ∀ k, k < 6 → parseFieldDescriptor (TX10 k).2.2.1 = some (tyX10 k) := by decide +kernel
abbrev cX10_init : ByteArray := prog_12_method_1_code
def yX10_init : MethodName := ⟨RX10, "<init>", "()V"⟩
abbrev cX10_append : ByteArray := prog_12_method_2_code
def yX10_append : MethodName := ⟨RX10, "append", "(JI)I"⟩
abbrev cX10_readInto : ByteArray := prog_12_method_3_code
def yX10_readInto : MethodName := ⟨RX10, "readInto", "(LWireOfLand$Orders;)I"⟩
abbrev cX10_readsLine : ByteArray := prog_12_method_4_code
def yX10_readsLine : MethodName := ⟨RX10, "readsLine", "(LWireOfLand$Orders;)Z"⟩
abbrev cX10_readsRank : ByteArray := prog_12_method_5_code
def yX10_readsRank : MethodName := ⟨RX10, "readsRank", "(LWireOfLand$Orders;)Z"⟩
abbrev cX10_readsPay : ByteArray := prog_12_method_6_code
def yX10_readsPay : MethodName := ⟨RX10, "readsPay", "(LWireOfLand$Orders;)Z"⟩
abbrev cX10_readsNight : ByteArray := prog_12_method_7_code
def yX10_readsNight : MethodName := ⟨RX10, "readsNight", "(LWireOfLand$Orders;)Z"⟩
abbrev cX10_readsRepeat : ByteArray := prog_12_method_8_code
def yX10_readsRepeat : MethodName := ⟨RX10, "readsRepeat", "(LWireOfLand$Orders;)Z"⟩
abbrev cX10_readsLeast : ByteArray := prog_12_method_9_code
def yX10_readsLeast : MethodName := ⟨RX10, "readsLeast", "(LWireOfLand$Orders;)Z"⟩
abbrev cX10_readsBack : ByteArray := prog_12_method_10_code
def yX10_readsBack : MethodName := ⟨RX10, "readsBack", "(LWireOfLand$Orders;)Z"⟩
abbrev cX10_passesKind : ByteArray := prog_12_method_11_code
def yX10_passesKind : MethodName := ⟨RX10, "passesKind", "()Z"⟩
abbrev cX10_passesNumber : ByteArray := prog_12_method_12_code
def yX10_passesNumber : MethodName := ⟨RX10, "passesNumber", "(I)Z"⟩
abbrev cX10_passes : ByteArray := prog_12_method_13_code
def yX10_passes : MethodName := ⟨RX10, "passes", "(Ljava/lang/String;)Z"⟩
abbrev cX10_goOn : ByteArray := prog_12_method_14_code
def yX10_goOn : MethodName := ⟨RX10, "goOn", "()V"⟩
abbrev cX10_isLetter : ByteArray := prog_12_method_15_code
def yX10_isLetter : MethodName := ⟨RX10, "isLetter", "(C)Z"⟩
abbrev cX10_isDigit : ByteArray := prog_12_method_16_code
def yX10_isDigit : MethodName := ⟨RX10, "isDigit", "(C)Z"⟩
def RX11 : String := "WireOfLand"
def TX11 : u_T := fun k => match k with
  | 0 => ("WireOfLand", "net", "LWireOfLand$Net;", true)
  | 1 => ("WireOfLand", "law", "LWireOfLand$Law;", true)
  | 2 => ("WireOfLand", "post", "LWireOfLand$Post;", true)
  | 3 => ("WireOfLand", "text", "LWireOfLand$Text;", true)
  | 4 => ("WireOfLand", "book", "LWireOfLand$Book;", true)
  | 5 => ("WireOfLand", "tapes", "LWireOfLand$Tapes;", true)
  | 6 => ("WireOfLand", "shifts", "LWireOfLand$Shifts;", true)
  | _ => ("WireOfLand", "boys", "LWireOfLand$Boys;", true)
def tyX11 : Nat → FieldType := fun k => match k with
  | 0 => .object "WireOfLand$Net"
  | 1 => .object "WireOfLand$Law"
  | 2 => .object "WireOfLand$Post"
  | 3 => .object "WireOfLand$Text"
  | 4 => .object "WireOfLand$Book"
  | 5 => .object "WireOfLand$Tapes"
  | 6 => .object "WireOfLand$Shifts"
  | _ => .object "WireOfLand$Boys"
theorem nmX11 : ∀ a, a < 8 → ∀ b, b < 8 → a ≠ b → (TX11 a).2.1 ≠ (TX11 b).2.1 := by decide +kernel
theorem tyX11_ok : ∀ k, k < 8 → parseFieldDescriptor (TX11 k).2.2.1 = some (tyX11 k) := by decide +kernel
abbrev cX11_init : ByteArray := prog_1_method_1_code
def yX11_init : MethodName := ⟨RX11, "<init>", "()V"⟩
abbrev cX11_open : ByteArray := prog_1_method_2_code
def yX11_open : MethodName := ⟨RX11, "open", "(III)I"⟩
abbrev cX11_wire : ByteArray := prog_1_method_3_code
def yX11_wire : MethodName := ⟨RX11, "wire", "(IIIZ)I"⟩
abbrev cX11_storm : ByteArray := prog_1_method_4_code
def yX11_storm : MethodName := ⟨RX11, "storm", "(III)I"⟩
abbrev cX11_let : ByteArray := prog_1_method_5_code
def yX11_let : MethodName := ⟨RX11, "let", "(III)I"⟩
abbrev cX11_message : ByteArray := prog_1_method_6_code
def yX11_message : MethodName := ⟨RX11, "message", "(IIII)I"⟩
abbrev cX11_minutes : ByteArray := prog_1_method_7_code
def yX11_minutes : MethodName := ⟨RX11, "minutes", "(I)I"⟩
abbrev cX11_at : ByteArray := prog_1_method_8_code
def yX11_at : MethodName := ⟨RX11, "at", "(II)I"⟩
abbrev cX11_next : ByteArray := prog_1_method_9_code
def yX11_next : MethodName := ⟨RX11, "next", "(I)I"⟩
abbrev cX11_first : ByteArray := prog_1_method_10_code
def yX11_first : MethodName := ⟨RX11, "first", "(II)I"⟩
abbrev cX11_soonest : ByteArray := prog_1_method_11_code
def yX11_soonest : MethodName := ⟨RX11, "soonest", "(IIIII)I"⟩
abbrev cX11_beside : ByteArray := prog_1_method_12_code
def yX11_beside : MethodName := ⟨RX11, "beside", "(II)I"⟩
abbrev cX11_write : ByteArray := prog_1_method_13_code
def yX11_write : MethodName := ⟨RX11, "write", "(JI)I"⟩
abbrev cX11_erase : ByteArray := prog_1_method_14_code
def yX11_erase : MethodName := ⟨RX11, "erase", "()I"⟩
abbrev cX11_fault : ByteArray := prog_1_method_15_code
def yX11_fault : MethodName := ⟨RX11, "fault", "()I"⟩
abbrev cX11_force : ByteArray := prog_1_method_16_code
def yX11_force : MethodName := ⟨RX11, "force", "()I"⟩
abbrev cX11_lag : ByteArray := prog_1_method_17_code
def yX11_lag : MethodName := ⟨RX11, "lag", "(I)I"⟩
abbrev cX11_knows : ByteArray := prog_1_method_18_code
def yX11_knows : MethodName := ⟨RX11, "knows", "(II)I"⟩
abbrev cX11_orders : ByteArray := prog_1_method_19_code
def yX11_orders : MethodName := ⟨RX11, "orders", "(II)I"⟩
abbrev cX11_told : ByteArray := prog_1_method_20_code
def yX11_told : MethodName := ⟨RX11, "told", "(III)I"⟩
abbrev cX11_back : ByteArray := prog_1_method_21_code
def yX11_back : MethodName := ⟨RX11, "back", "(I)I"⟩
abbrev cX11_word : ByteArray := prog_1_method_22_code
def yX11_word : MethodName := ⟨RX11, "word", "(IJI)I"⟩
abbrev cX11_far : ByteArray := prog_1_method_23_code
def yX11_far : MethodName := ⟨RX11, "far", "(IJI)I"⟩
abbrev cX11_likely : ByteArray := prog_1_method_24_code
def yX11_likely : MethodName := ⟨RX11, "likely", "(JII)I"⟩
abbrev cX11_row : ByteArray := prog_1_method_25_code
def yX11_row : MethodName := ⟨RX11, "row", "(I)I"⟩
abbrev cX11_tape : ByteArray := prog_1_method_26_code
def yX11_tape : MethodName := ⟨RX11, "tape", "(III)I"⟩
abbrev cX11_clerk : ByteArray := prog_1_method_27_code
def yX11_clerk : MethodName := ⟨RX11, "clerk", "(III)I"⟩
abbrev cX11_lead : ByteArray := prog_1_method_28_code
def yX11_lead : MethodName := ⟨RX11, "lead", "(I)I"⟩
abbrev cX11_blamed : ByteArray := prog_1_method_29_code
def yX11_blamed : MethodName := ⟨RX11, "blamed", "()I"⟩
abbrev cX11_load : ByteArray := prog_1_method_30_code
def yX11_load : MethodName := ⟨RX11, "load", "(III)I"⟩
abbrev cX11_set : ByteArray := prog_1_method_31_code
def yX11_set : MethodName := ⟨RX11, "set", "(II)I"⟩
abbrev cX11_fewest : ByteArray := prog_1_method_32_code
def yX11_fewest : MethodName := ⟨RX11, "fewest", "(I)I"⟩
abbrev cX11_waits : ByteArray := prog_1_method_33_code
def yX11_waits : MethodName := ⟨RX11, "waits", "(III)I"⟩
abbrev cX11_door : ByteArray := prog_1_method_34_code
def yX11_door : MethodName := ⟨RX11, "door", "(III)I"⟩
abbrev cX11_clear : ByteArray := prog_1_method_35_code
def yX11_clear : MethodName := ⟨RX11, "clear", "()I"⟩
abbrev cX11_round : ByteArray := prog_1_method_36_code
def yX11_round : MethodName := ⟨RX11, "round", "(I)I"⟩
abbrev cX11_count : ByteArray := prog_1_method_37_code
def yX11_count : MethodName := ⟨RX11, "count", "(I)I"⟩
abbrev cX11_stopWire : ByteArray := prog_1_method_38_code
def yX11_stopWire : MethodName := ⟨RX11, "stopWire", "(LWireOfLand$Stops;III)I"⟩
abbrev cX11_isWire : ByteArray := prog_1_method_39_code
def yX11_isWire : MethodName := ⟨RX11, "isWire", "(I)Z"⟩
abbrev cX11_isMessage : ByteArray := prog_1_method_40_code
def yX11_isMessage : MethodName := ⟨RX11, "isMessage", "(I)Z"⟩
abbrev cX11_isRow : ByteArray := prog_1_method_41_code
def yX11_isRow : MethodName := ⟨RX11, "isRow", "(I)Z"⟩
abbrev cX11_isOffice : ByteArray := prog_1_method_42_code
def yX11_isOffice : MethodName := ⟨RX11, "isOffice", "(I)Z"⟩
abbrev cX11_isWithin : ByteArray := prog_1_method_43_code
def yX11_isWithin : MethodName := ⟨RX11, "isWithin", "(III)Z"⟩
abbrev cX11_isIn : ByteArray := prog_1_method_44_code
def yX11_isIn : MethodName := ⟨RX11, "isIn", "(II)Z"⟩
abbrev cX11_byteOf : ByteArray := prog_1_method_45_code
def yX11_byteOf : MethodName := ⟨RX11, "byteOf", "(JI)I"⟩
abbrev cX11_isWord : ByteArray := prog_1_method_46_code
def yX11_isWord : MethodName := ⟨RX11, "isWord", "(JI)Z"⟩
abbrev cX11_hourOf : ByteArray := prog_1_method_47_code
def yX11_hourOf : MethodName := ⟨RX11, "hourOf", "(I)I"⟩
abbrev cX11_mostKindTold : ByteArray := prog_1_method_48_code
def yX11_mostKindTold : MethodName := ⟨RX11, "mostKindTold", "(I)I"⟩
def RX12 : String := "WireOfLandModel"
def TX12 : u_T := fun k => match k with
  | 0 => ("WireOfLandModel", "minute", "I", false)
  | 1 => ("WireOfLandModel", "openFrom", "[I", true)
  | 2 => ("WireOfLandModel", "openTo", "[I", true)
  | 3 => ("WireOfLandModel", "wires", "I", false)
  | 4 => ("WireOfLandModel", "endA", "[I", true)
  | 5 => ("WireOfLandModel", "endB", "[I", true)
  | 6 => ("WireOfLandModel", "speed", "[I", true)
  | 7 => ("WireOfLandModel", "isDouble", "[Z", true)
  | 8 => ("WireOfLandModel", "storms", "I", false)
  | 9 => ("WireOfLandModel", "storm", "[I", true)
  | 10 => ("WireOfLandModel", "lets", "I", false)
  | 11 => ("WireOfLandModel", "let", "[I", true)
  | 12 => ("WireOfLandModel", "besideWire", "I", false)
  | 13 => ("WireOfLandModel", "messages", "I", false)
  | 14 => ("WireOfLandModel", "told", "[I", true)
  | 15 => ("WireOfLandModel", "state", "[I", true)
  | 16 => ("WireOfLandModel", "stateWas", "[I", true)
  | 17 => ("WireOfLandModel", "far", "[I", true)
  | 18 => ("WireOfLandModel", "bytes", "I", false)
  | 19 => ("WireOfLandModel", "text", "[I", true)
  | 20 => ("WireOfLandModel", "position", "I", false)
  | 21 => ("WireOfLandModel", "tokenAt", "I", false)
  | 22 => ("WireOfLandModel", "token", "J", false)
  | 23 => ("WireOfLandModel", "digits", "I", false)
  | 24 => ("WireOfLandModel", "number", "I", false)
  | 25 => ("WireOfLandModel", "faultAt", "I", false)
  | 26 => ("WireOfLandModel", "lag", "I", false)
  | 27 => ("WireOfLandModel", "orders", "I", false)
  | 28 => ("WireOfLandModel", "readMany", "I", false)
  | 29 => ("WireOfLandModel", "read", "[I", true)
  | 30 => ("WireOfLandModel", "lineMany", "[I", true)
  | 31 => ("WireOfLandModel", "line", "[I", true)
  | 32 => ("WireOfLandModel", "known", "[I", true)
  | 33 => ("WireOfLandModel", "bookMany", "[I", true)
  | 34 => ("WireOfLandModel", "book", "[I", true)
  | 35 => ("WireOfLandModel", "word", "[I", true)
  | 36 => ("WireOfLandModel", "one", "[I", true)
  | 37 => ("WireOfLandModel", "two", "[I", true)
  | 38 => ("WireOfLandModel", "row0", "[I", true)
  | 39 => ("WireOfLandModel", "row1", "[I", true)
  | 40 => ("WireOfLandModel", "signs", "[I", true)
  | 41 => ("WireOfLandModel", "rows", "I", false)
  | 42 => ("WireOfLandModel", "hands", "[I", true)
  | 43 => ("WireOfLandModel", "tapes", "[I", true)
  | 44 => ("WireOfLandModel", "clerks", "[I", true)
  | 45 => ("WireOfLandModel", "loads", "[I", true)
  | 46 => ("WireOfLandModel", "rate", "I", false)
  | 47 => ("WireOfLandModel", "limit", "I", false)
  | 48 => ("WireOfLandModel", "doors", "I", false)
  | 49 => ("WireOfLandModel", "doorX", "[I", true)
  | 50 => ("WireOfLandModel", "doorY", "[I", true)
  | 51 => ("WireOfLandModel", "due", "[I", true)
  | 52 => ("WireOfLandModel", "order", "[I", true)
  | 53 => ("WireOfLandModel", "bestOrder", "[I", true)
  | 54 => ("WireOfLandModel", "bestLate", "I", false)
  | _ => ("WireOfLandModel", "bestEnd", "I", false)
def tyX12 : Nat → FieldType := fun k => match k with
  | 0 => .int
  | 1 => .array .int
  | 2 => .array .int
  | 3 => .int
  | 4 => .array .int
  | 5 => .array .int
  | 6 => .array .int
  | 7 => .array .boolean
  | 8 => .int
  | 9 => .array .int
  | 10 => .int
  | 11 => .array .int
  | 12 => .int
  | 13 => .int
  | 14 => .array .int
  | 15 => .array .int
  | 16 => .array .int
  | 17 => .array .int
  | 18 => .int
  | 19 => .array .int
  | 20 => .int
  | 21 => .int
  | 22 => .long
  | 23 => .int
  | 24 => .int
  | 25 => .int
  | 26 => .int
  | 27 => .int
  | 28 => .int
  | 29 => .array .int
  | 30 => .array .int
  | 31 => .array .int
  | 32 => .array .int
  | 33 => .array .int
  | 34 => .array .int
  | 35 => .array .int
  | 36 => .array .int
  | 37 => .array .int
  | 38 => .array .int
  | 39 => .array .int
  | 40 => .array .int
  | 41 => .int
  | 42 => .array .int
  | 43 => .array .int
  | 44 => .array .int
  | 45 => .array .int
  | 46 => .int
  | 47 => .int
  | 48 => .int
  | 49 => .array .int
  | 50 => .array .int
  | 51 => .array .int
  | 52 => .array .int
  | 53 => .array .int
  | 54 => .int
  | _ => .int
theorem nmX12 : ∀ a, a < 56 → ∀ b, b < 56 → a ≠ b → (TX12 a).2.1 ≠ (TX12 b).2.1 := by decide +kernel
theorem tyX12_ok : ∀ k, k < 56 → parseFieldDescriptor (TX12 k).2.2.1 = some (tyX12 k) := by decide +kernel
abbrev cX12_init : ByteArray := prog_14_method_1_code
def yX12_init : MethodName := ⟨RX12, "<init>", "()V"⟩
abbrev cX12_in : ByteArray := prog_14_method_2_code
def yX12_in : MethodName := ⟨RX12, "in", "(III)Z"⟩
abbrev cX12_isOffice : ByteArray := prog_14_method_3_code
def yX12_isOffice : MethodName := ⟨RX12, "isOffice", "(I)Z"⟩
abbrev cX12_isWire : ByteArray := prog_14_method_4_code
def yX12_isWire : MethodName := ⟨RX12, "isWire", "(I)Z"⟩
abbrev cX12_isMessage : ByteArray := prog_14_method_5_code
def yX12_isMessage : MethodName := ⟨RX12, "isMessage", "(I)Z"⟩
abbrev cX12_open : ByteArray := prog_14_method_6_code
def yX12_open : MethodName := ⟨RX12, "open", "(III)I"⟩
abbrev cX12_isOpen : ByteArray := prog_14_method_7_code
def yX12_isOpen : MethodName := ⟨RX12, "isOpen", "(II)Z"⟩
abbrev cX12_joins : ByteArray := prog_14_method_8_code
def yX12_joins : MethodName := ⟨RX12, "joins", "(II)I"⟩
abbrev cX12_wire : ByteArray := prog_14_method_9_code
def yX12_wire : MethodName := ⟨RX12, "wire", "(IIIZ)I"⟩
abbrev cX12_storm : ByteArray := prog_14_method_10_code
def yX12_storm : MethodName := ⟨RX12, "storm", "(III)I"⟩
abbrev cX12_let : ByteArray := prog_14_method_11_code
def yX12_let : MethodName := ⟨RX12, "let", "(III)I"⟩
abbrev cX12_isUp : ByteArray := prog_14_method_12_code
def yX12_isUp : MethodName := ⟨RX12, "isUp", "(II)Z"⟩
abbrev cX12_message : ByteArray := prog_14_method_13_code
def yX12_message : MethodName := ⟨RX12, "message", "(IIII)I"⟩
abbrev cX12_otherEnd : ByteArray := prog_14_method_14_code
def yX12_otherEnd : MethodName := ⟨RX12, "otherEnd", "(II)I"⟩
abbrev cX12_isAt : ByteArray := prog_14_method_15_code
def yX12_isAt : MethodName := ⟨RX12, "isAt", "(II)Z"⟩
abbrev cX12_wordsOf : ByteArray := prog_14_method_16_code
def yX12_wordsOf : MethodName := ⟨RX12, "wordsOf", "(III)I"⟩
abbrev cX12_takes : ByteArray := prog_14_method_17_code
def yX12_takes : MethodName := ⟨RX12, "takes", "(II)I"⟩
abbrev cX12_nextOf : ByteArray := prog_14_method_18_code
def yX12_nextOf : MethodName := ⟨RX12, "nextOf", "(IIII)I"⟩
abbrev cX12_nextFor : ByteArray := prog_14_method_19_code
def yX12_nextFor : MethodName := ⟨RX12, "nextFor", "(II)I"⟩
abbrev cX12_isNight : ByteArray := prog_14_method_20_code
def yX12_isNight : MethodName := ⟨RX12, "isNight", "(II)Z"⟩
abbrev cX12_firstOf : ByteArray := prog_14_method_21_code
def yX12_firstOf : MethodName := ⟨RX12, "firstOf", "(III)I"⟩
abbrev cX12_isBusy : ByteArray := prog_14_method_22_code
def yX12_isBusy : MethodName := ⟨RX12, "isBusy", "(II)Z"⟩
abbrev cX12_sendFrom : ByteArray := prog_14_method_23_code
def yX12_sendFrom : MethodName := ⟨RX12, "sendFrom", "(III)V"⟩
abbrev cX12_goMinute : ByteArray := prog_14_method_24_code
def yX12_goMinute : MethodName := ⟨RX12, "goMinute", "(I)V"⟩
abbrev cX12_minutes : ByteArray := prog_14_method_25_code
def yX12_minutes : MethodName := ⟨RX12, "minutes", "(I)I"⟩
abbrev cX12_at : ByteArray := prog_14_method_26_code
def yX12_at : MethodName := ⟨RX12, "at", "(II)I"⟩
abbrev cX12_next : ByteArray := prog_14_method_27_code
def yX12_next : MethodName := ⟨RX12, "next", "(I)I"⟩
abbrev cX12_first : ByteArray := prog_14_method_28_code
def yX12_first : MethodName := ⟨RX12, "first", "(II)I"⟩
abbrev cX12_setsOut : ByteArray := prog_14_method_29_code
def yX12_setsOut : MethodName := ⟨RX12, "setsOut", "(IIIIII)I"⟩
abbrev cX12_soonest : ByteArray := prog_14_method_30_code
def yX12_soonest : MethodName := ⟨RX12, "soonest", "(IIIII)I"⟩
abbrev cX12_given : ByteArray := prog_14_method_31_code
def yX12_given : MethodName := ⟨RX12, "given", "()I"⟩
abbrev cX12_beside : ByteArray := prog_14_method_32_code
def yX12_beside : MethodName := ⟨RX12, "beside", "(II)I"⟩
abbrev cX12_write : ByteArray := prog_14_method_33_code
def yX12_write : MethodName := ⟨RX12, "write", "(JI)I"⟩
abbrev cX12_erase : ByteArray := prog_14_method_34_code
def yX12_erase : MethodName := ⟨RX12, "erase", "()I"⟩
abbrev cX12_nextToken : ByteArray := prog_14_method_35_code
def yX12_nextToken : MethodName := ⟨RX12, "nextToken", "()V"⟩
abbrev cX12_fails : ByteArray := prog_14_method_36_code
def yX12_fails : MethodName := ⟨RX12, "fails", "()Z"⟩
abbrev cX12_isNumber : ByteArray := prog_14_method_37_code
def yX12_isNumber : MethodName := ⟨RX12, "isNumber", "(II)Z"⟩
abbrev cX12_isKind : ByteArray := prog_14_method_38_code
def yX12_isKind : MethodName := ⟨RX12, "isKind", "(I)Z"⟩
abbrev cX12_isWord : ByteArray := prog_14_method_39_code
def yX12_isWord : MethodName := ⟨RX12, "isWord", "(J)Z"⟩
abbrev cX12_isLine : ByteArray := prog_14_method_40_code
def yX12_isLine : MethodName := ⟨RX12, "isLine", "(I)Z"⟩
abbrev cX12_isRead : ByteArray := prog_14_method_41_code
def yX12_isRead : MethodName := ⟨RX12, "isRead", "()Z"⟩
abbrev cX12_fault : ByteArray := prog_14_method_42_code
def yX12_fault : MethodName := ⟨RX12, "fault", "()I"⟩
abbrev cX12_findSteps : ByteArray := prog_14_method_43_code
def yX12_findSteps : MethodName := ⟨RX12, "findSteps", "()V"⟩
abbrev cX12_force : ByteArray := prog_14_method_44_code
def yX12_force : MethodName := ⟨RX12, "force", "()I"⟩
abbrev cX12_lag : ByteArray := prog_14_method_45_code
def yX12_lag : MethodName := ⟨RX12, "lag", "(I)I"⟩
abbrev cX12_knows : ByteArray := prog_14_method_46_code
def yX12_knows : MethodName := ⟨RX12, "knows", "(II)I"⟩
abbrev cX12_ordersOf : ByteArray := prog_14_method_47_code
def yX12_ordersOf : MethodName := ⟨RX12, "ordersOf", "(II)I"⟩
abbrev cX12_orders : ByteArray := prog_14_method_48_code
def yX12_orders : MethodName := ⟨RX12, "orders", "(II)I"⟩
abbrev cX12_lastOf : ByteArray := prog_14_method_49_code
def yX12_lastOf : MethodName := ⟨RX12, "lastOf", "(IIII)I"⟩
abbrev cX12_rankOf : ByteArray := prog_14_method_50_code
def yX12_rankOf : MethodName := ⟨RX12, "rankOf", "(II)I"⟩
abbrev cX12_isTwice : ByteArray := prog_14_method_51_code
def yX12_isTwice : MethodName := ⟨RX12, "isTwice", "(II)Z"⟩
abbrev cX12_isNightHour : ByteArray := prog_14_method_52_code
def yX12_isNightHour : MethodName := ⟨RX12, "isNightHour", "(II)Z"⟩
abbrev cX12_told : ByteArray := prog_14_method_53_code
def yX12_told : MethodName := ⟨RX12, "told", "(III)I"⟩
abbrev cX12_back : ByteArray := prog_14_method_54_code
def yX12_back : MethodName := ⟨RX12, "back", "(I)I"⟩
abbrev cX12_isSpelled : ByteArray := prog_14_method_55_code
def yX12_isSpelled : MethodName := ⟨RX12, "isSpelled", "(JI)Z"⟩
abbrev cX12_word : ByteArray := prog_14_method_56_code
def yX12_word : MethodName := ⟨RX12, "word", "(IJI)I"⟩
abbrev cX12_addSigns : ByteArray := prog_14_method_57_code
def yX12_addSigns : MethodName := ⟨RX12, "addSigns", "([III)I"⟩
abbrev cX12_farFrom : ByteArray := prog_14_method_58_code
def yX12_farFrom : MethodName := ⟨RX12, "farFrom", "(II)I"⟩
abbrev cX12_far : ByteArray := prog_14_method_59_code
def yX12_far : MethodName := ⟨RX12, "far", "(IJI)I"⟩
abbrev cX12_likely : ByteArray := prog_14_method_60_code
def yX12_likely : MethodName := ⟨RX12, "likely", "(JII)I"⟩
abbrev cX12_row : ByteArray := prog_14_method_61_code
def yX12_row : MethodName := ⟨RX12, "row", "(I)I"⟩
abbrev cX12_isRow : ByteArray := prog_14_method_62_code
def yX12_isRow : MethodName := ⟨RX12, "isRow", "(I)Z"⟩
abbrev cX12_tape : ByteArray := prog_14_method_63_code
def yX12_tape : MethodName := ⟨RX12, "tape", "(III)I"⟩
abbrev cX12_clerk : ByteArray := prog_14_method_64_code
def yX12_clerk : MethodName := ⟨RX12, "clerk", "(III)I"⟩
abbrev cX12_firstWrong : ByteArray := prog_14_method_65_code
def yX12_firstWrong : MethodName := ⟨RX12, "firstWrong", "(I)I"⟩
abbrev cX12_lastRight : ByteArray := prog_14_method_66_code
def yX12_lastRight : MethodName := ⟨RX12, "lastRight", "(II)I"⟩
abbrev cX12_doesQuarrel : ByteArray := prog_14_method_67_code
def yX12_doesQuarrel : MethodName := ⟨RX12, "doesQuarrel", "(I)Z"⟩
abbrev cX12_lead : ByteArray := prog_14_method_68_code
def yX12_lead : MethodName := ⟨RX12, "lead", "(I)I"⟩
abbrev cX12_bits : ByteArray := prog_14_method_69_code
def yX12_bits : MethodName := ⟨RX12, "bits", "(I)I"⟩
abbrev cX12_areBlamed : ByteArray := prog_14_method_70_code
def yX12_areBlamed : MethodName := ⟨RX12, "areBlamed", "(I)Z"⟩
abbrev cX12_blamed : ByteArray := prog_14_method_71_code
def yX12_blamed : MethodName := ⟨RX12, "blamed", "()I"⟩
abbrev cX12_load : ByteArray := prog_14_method_72_code
def yX12_load : MethodName := ⟨RX12, "load", "(III)I"⟩
abbrev cX12_set : ByteArray := prog_14_method_73_code
def yX12_set : MethodName := ⟨RX12, "set", "(II)I"⟩
abbrev cX12_mostWaits : ByteArray := prog_14_method_74_code
def yX12_mostWaits : MethodName := ⟨RX12, "mostWaits", "(III)I"⟩
abbrev cX12_fewest : ByteArray := prog_14_method_75_code
def yX12_fewest : MethodName := ⟨RX12, "fewest", "(I)I"⟩
abbrev cX12_waits : ByteArray := prog_14_method_76_code
def yX12_waits : MethodName := ⟨RX12, "waits", "(III)I"⟩
abbrev cX12_door : ByteArray := prog_14_method_77_code
def yX12_door : MethodName := ⟨RX12, "door", "(III)I"⟩
abbrev cX12_clear : ByteArray := prog_14_method_78_code
def yX12_clear : MethodName := ⟨RX12, "clear", "()I"⟩
abbrev cX12_apart : ByteArray := prog_14_method_79_code
def yX12_apart : MethodName := ⟨RX12, "apart", "(II)I"⟩
abbrev cX12_findRound : ByteArray := prog_14_method_80_code
def yX12_findRound : MethodName := ⟨RX12, "findRound", "()V"⟩
abbrev cX12_lookAtRound : ByteArray := prog_14_method_81_code
def yX12_lookAtRound : MethodName := ⟨RX12, "lookAtRound", "()V"⟩
abbrev cX12_round : ByteArray := prog_14_method_82_code
def yX12_round : MethodName := ⟨RX12, "round", "(I)I"⟩
abbrev cX12_count : ByteArray := prog_14_method_83_code
def yX12_count : MethodName := ⟨RX12, "count", "(I)I"⟩
def RJ6 : String := "java/lang/Integer"
def TJ6 : u_T := fun k => match k with
  | _ => ("", "", "", false)
def tyJ6 : Nat → FieldType := fun k => match k with
  | _ => .int
theorem nmJ6 : ∀ a, a < 0 → ∀ b, b < 0 → a ≠ b → (TJ6 a).2.1 ≠ (TJ6 b).2.1 := by decide +kernel
theorem tyJ6_ok : ∀ k, k < 0 → parseFieldDescriptor (TJ6 k).2.2.1 = some (tyJ6 k) := by decide +kernel
abbrev cJ6_bitCount_0f7a4 : ByteArray := prog_15_method_49_code
def yJ6_bitCount_0f7a4 : MethodName := ⟨RJ6, "bitCount", "(I)I"⟩
def RJ9 : String := "java/lang/Math"
def TJ9 : u_T := fun k => match k with
  | _ => ("", "", "", false)
def tyJ9 : Nat → FieldType := fun k => match k with
  | _ => .int
theorem nmJ9 : ∀ a, a < 0 → ∀ b, b < 0 → a ≠ b → (TJ9 a).2.1 ≠ (TJ9 b).2.1 := by decide +kernel
theorem tyJ9_ok : ∀ k, k < 0 → parseFieldDescriptor (TJ9 k).2.2.1 = some (tyJ9 k) := by decide +kernel
abbrev cJ9_abs_0f7a4 : ByteArray := prog_16_method_59_code
def yJ9_abs_0f7a4 : MethodName := ⟨RJ9, "abs", "(I)I"⟩
abbrev cJ9_max_7cf53 : ByteArray := prog_16_method_65_code
def yJ9_max_7cf53 : MethodName := ⟨RJ9, "max", "(II)I"⟩
abbrev cJ9_min_7cf53 : ByteArray := prog_16_method_69_code
def yJ9_min_7cf53 : MethodName := ⟨RJ9, "min", "(II)I"⟩
def RJ0 : String := "java/lang/String"
def TJ0 : u_T := fun k => match k with
  | _ => ("", "", "", false)
def tyJ0 : Nat → FieldType := fun k => match k with
  | _ => .int
theorem nmJ0 : ∀ a, a < 0 → ∀ b, b < 0 → a ≠ b → (TJ0 a).2.1 ≠ (TJ0 b).2.1 := by decide +kernel
theorem tyJ0_ok : ∀ k, k < 0 → parseFieldDescriptor (TJ0 k).2.2.1 = some (tyJ0 k) := by decide +kernel
abbrev cJ0_length_8abf5 : ByteArray := prog_17_method_54_code
def yJ0_length_8abf5 : MethodName := ⟨RJ0, "length", "()I"⟩
abbrev cJ0_charAt_5068e : ByteArray := prog_17_method_56_code
def yJ0_charAt_5068e : MethodName := ⟨RJ0, "charAt", "(I)C"⟩
abbrev cJ0_coder_7d493 : ByteArray := prog_17_method_152_code
def yJ0_coder_7d493 : MethodName := ⟨RJ0, "coder", "()B"⟩
abbrev cJ0_isLatin1_aae02 : ByteArray := prog_17_method_154_code
def yJ0_isLatin1_aae02 : MethodName := ⟨RJ0, "isLatin1", "()Z"⟩
abbrev cJ0_checkIndex_df160 : ByteArray := prog_17_method_155_code
def yJ0_checkIndex_df160 : MethodName := ⟨RJ0, "checkIndex", "(II)V"⟩
def RJ1 : String := "java/lang/StringLatin1"
def TJ1 : u_T := fun k => match k with
  | _ => ("", "", "", false)
def tyJ1 : Nat → FieldType := fun k => match k with
  | _ => .int
theorem nmJ1 : ∀ a, a < 0 → ∀ b, b < 0 → a ≠ b → (TJ1 a).2.1 ≠ (TJ1 b).2.1 := by decide +kernel
theorem tyJ1_ok : ∀ k, k < 0 → parseFieldDescriptor (TJ1 k).2.2.1 = some (tyJ1 k) := by decide +kernel
abbrev cJ1_charAt_3b067 : ByteArray := prog_18_method_2_code
def yJ1_charAt_3b067 : MethodName := ⟨RJ1, "charAt", "([BI)C"⟩
def RJ2 : String := "java/lang/StringUTF16"
def TJ2 : u_T := fun k => match k with
  | _ => ("", "", "", false)
def tyJ2 : Nat → FieldType := fun k => match k with
  | _ => .int
theorem nmJ2 : ∀ a, a < 0 → ∀ b, b < 0 → a ≠ b → (TJ2 a).2.1 ≠ (TJ2 b).2.1 := by decide +kernel
theorem tyJ2_ok : ∀ k, k < 0 → parseFieldDescriptor (TJ2 k).2.2.1 = some (tyJ2 k) := by decide +kernel
abbrev cJ2_getChar_3b067 : ByteArray := prog_19_method_5_code
def yJ2_getChar_3b067 : MethodName := ⟨RJ2, "getChar", "([BI)C"⟩
abbrev cJ2_length_9d52b : ByteArray := prog_19_method_6_code
def yJ2_length_9d52b : MethodName := ⟨RJ2, "length", "([B)I"⟩
abbrev cJ2_charAt_3b067 : ByteArray := prog_19_method_83_code
def yJ2_charAt_3b067 : MethodName := ⟨RJ2, "charAt", "([BI)C"⟩
abbrev cJ2_checkIndex_2214a : ByteArray := prog_19_method_91_code
def yJ2_checkIndex_2214a : MethodName := ⟨RJ2, "checkIndex", "(I[B)V"⟩
def RJ10 : String := "java/lang/System"
def TJ10 : u_T := fun k => match k with
  | _ => ("", "", "", false)
def tyJ10 : Nat → FieldType := fun k => match k with
  | _ => .int
theorem nmJ10 : ∀ a, a < 0 → ∀ b, b < 0 → a ≠ b → (TJ10 a).2.1 ≠ (TJ10 b).2.1 := by decide +kernel
theorem tyJ10_ok : ∀ k, k < 0 → parseFieldDescriptor (TJ10 k).2.2.1 = some (tyJ10 k) := by decide +kernel
def RJ7 : String := "java/util/Arrays"
def TJ7 : u_T := fun k => match k with
  | _ => ("", "", "", false)
def tyJ7 : Nat → FieldType := fun k => match k with
  | _ => .int
theorem nmJ7 : ∀ a, a < 0 → ∀ b, b < 0 → a ≠ b → (TJ7 a).2.1 ≠ (TJ7 b).2.1 := by decide +kernel
theorem tyJ7_ok : ∀ k, k < 0 → parseFieldDescriptor (TJ7 k).2.2.1 = some (tyJ7 k) := by decide +kernel
abbrev cJ7_fill_53178 : ByteArray := prog_21_method_103_code
def yJ7_fill_53178 : MethodName := ⟨RJ7, "fill", "([II)V"⟩
def RJ3 : String := "jdk/internal/util/Preconditions"
def TJ3 : u_T := fun k => match k with
  | _ => ("", "", "", false)
def tyJ3 : Nat → FieldType := fun k => match k with
  | _ => .int
theorem nmJ3 : ∀ a, a < 0 → ∀ b, b < 0 → a ≠ b → (TJ3 a).2.1 ≠ (TJ3 b).2.1 := by decide +kernel
theorem tyJ3_ok : ∀ k, k < 0 → parseFieldDescriptor (TJ3 k).2.2.1 = some (tyJ3 k) := by decide +kernel
abbrev cJ3_checkIndex_8e157 : ByteArray := prog_22_method_11_code
def yJ3_checkIndex_8e157 : MethodName := ⟨RJ3, "checkIndex", "(IILjava/util/function/BiFunction;)I"⟩
def RL : String := "WireOfLandLaw"
abbrev cL_law : ByteArray := code
def yL_law : MethodName := ⟨RL, "law", "([I)Z"⟩
abbrev vwCl : List vw_C := [(RX0, TX0, 7), (RX1, TX1, 9), (RX2, TX2, 5), (RX3, TX3, 15), (RX4, TX4, 10), (RX5, TX5, 8), (RX6, TX6, 6), (RX7, TX7, 6), (RX8, TX8, 4), (RX9, TX9, 5), (RX10, TX10, 6), (RX11, TX11, 8), (RX12, TX12, 56)]
